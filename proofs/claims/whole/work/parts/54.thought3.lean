/-! behind, left, reads -/
def bhA (n : Nat) (W : zVw) (i : Nat) (t : Int32) : Int32 := if t = 0 then pVoice W.2 n (W.1 4) else if t = 1 then W.2 i 1 else if t = 2 then W.1 3 else W.1 7
theorem bhA_c {n : Nat} {V W : zVw} (h : veq n V W) {i : Nat} (hi : i < n) (t : Int32) : bhA n V i t = bhA n W i t := by
  unfold bhA
  rw [pVoice_c h.2, h.1 4 (by decide) (by decide), h.2 i 1 hi (by decide), h.1 3 (by decide) (by decide), h.1 7 (by decide) (by decide)]
noncomputable def Fbh (hv : Int32 → Int32 → Int32 → Int32) (n : Nat) (V : zVw) (x c t : Int32) : Int32 := zif (iin x 0 ((n : Int) - 1) ∧ iin c 0 100 ∧ iin t 0 3) (bhA n (vN hv n c.toNatClampNeg V) x.toNatClampNeg t) (-1000000001)
set_option maxHeartbeats 800000 in
set_option maxRecDepth 100000 in
theorem mX9_behind {l : Launch} {G : zG} {b : Nat} {M : zM} {n T : Nat} {ky ln : Nat → Nat} (hR : RR M n T ky ln) {x c t : Int32} : zMet l G b yX9_behind cX9_behind 6 (some .int) 6 zshL zshL [.ref (b + 0), .int x, .int c, .int t] M (zI (qP (Fbh (hvF M (lastK ky 0 T)) n (cV M 0) x c t) M)) := by
  refine zMet.of (L0 := [some (.ref (b + 0)), some (.int x), some (.int c), some (.int t), none, none]) (by decide +kernel) (Nat.le_refl _) (Nat.le_refl _) (Nat.le_of_ble_eq_true rfl) (List.forall_mem_cons.mpr ⟨rfl, List.forall_mem_cons.mpr ⟨rfl, List.forall_mem_cons.mpr ⟨rfl, List.forall_mem_cons.mpr ⟨rfl, fun _ h => absurd h List.not_mem_nil⟩⟩⟩⟩) rfl (fun X C Al K => ?_)
  have n8 := hR.n8
  have hh := hvF_in M (lastK ky 0 T)
  have loop : ∀ (i m : Nat), i < n → m ≤ 100 → x = nI i → c = nI m → iin t 0 3 → ∀ (d j : Nat) (M1 : zM), j + d = m → zSc M M1 → cI M1 2 n (hvF M (lastK ky 0 T)) → veq n (cV M1 2) (vN (hvF M (lastK ky 0 T)) n j (cV M 0)) → zW X zshL M1 46 [some (.ref (b + 0)), some (.int x), some (.int c), some (.int t), some (.ref (b + adW 2)), some (.int (nI j))] [] := by
    intro i m hi hm hx hc ht d
    subst hx hc
    have hin : i < 8 := by omega
    induction d with
    | zero =>
      intro j M1 hj hs hI hv
      obtain rfl : j = m := by omega
      have hF : Fbh (hvF M (lastK ky 0 T)) n (cV M 0) (nI i) (nI j) t = bhA n (cV M1 2) i t := by
        rw [Fbh, zif_pos ⟨nI_iin (by omega) hi, by unfold iin; rw [nI_toInt (by omega)]; omega, ht⟩, nI_clamp (n := j) (by omega), nI_clamp (n := i) (by omega), bhA_c hv hi]
      refine z_iload (pc := 46) C 5 dX9_behind_46 rfl ?_
      refine z_iload_n (pc := 48) C 2 dX9_behind_48 rfl rfl ?_
      refine z_icmp_ge (pc := 49) C 64 dX9_behind_49 (by decide) (fun c49 => ?_) (fun c49 => absurd (Int32.le_refl _) c49)
      refine z_iload_n (pc := 64) C 3 dX9_behind_64 rfl rfl ?_
      by_cases s65_0 : t = 0
      · refine z_tswIn (pc := 65) C (0) 92 dX9_behind_65 (by rw [s65_0]; rfl) (by decide) (by decide) rfl (by decide) ?_
        refine z_aload (pc := 92) C 4 dX9_behind_92 rfl ?_
        refine z_callVi (pc := 94) C dX9_behind_94 kX9_161 (mX8_voice (n := n) lt2_14 hI.1.1 n8) (by decide) (shW lt2_14) rfl rfl rfl (Nat.le_of_ble_eq_true rfl) (fun r94 M94 h94 => ?_)
        obtain ⟨rfl, e94⟩ := h94
        subst M94
        refine z_ireturn (pc := 97) C K dX9_behind_97 ?_
        refine ⟨_, rfl, ?_, hs⟩
        rw [hF, bhA, if_pos s65_0]
        rfl
      by_cases s65_1 : t = 1
      · refine z_tswIn (pc := 65) C (1) 98 dX9_behind_65 (by rw [s65_1]; rfl) (by decide) (by decide) rfl (by decide) ?_
        refine z_aload (pc := 98) C 4 dX9_behind_98 rfl ?_
        refine z_getR (pc := 100) (r := adW 2 + 1) C dX9_behind_100 fX9_99 (shW lt2_14) rfl ?_
        refine z_iload_n (pc := 103) C 1 dX9_behind_103 rfl rfl ?_
        refine z_aald (pc := 104) (r := adP 2 i) C dX9_behind_104 (shPa lt2_14) rfl rfl (pin hin) (pget hin) ?_
        refine z_getI (pc := 105) C dX9_behind_105 fX9_133 (shP (okP_w lt2_14 hin)) rfl ?_
        refine z_ireturn (pc := 108) C K dX9_behind_108 ?_
        refine ⟨_, rfl, ?_, hs⟩
        rw [hF, bhA, if_neg s65_0, if_pos s65_1]
        rfl
      by_cases s65_2 : t = 2
      · refine z_tswIn (pc := 65) C (2) 109 dX9_behind_65 (by rw [s65_2]; rfl) (by decide) (by decide) rfl (by decide) ?_
        refine z_aload (pc := 109) C 4 dX9_behind_109 rfl ?_
        refine z_getI (pc := 111) C dX9_behind_111 fX9_186 (shW lt2_14) rfl ?_
        refine z_ireturn (pc := 114) C K dX9_behind_114 ?_
        refine ⟨_, rfl, ?_, hs⟩
        rw [hF, bhA, if_neg s65_0, if_neg s65_1, if_pos s65_2]
        rfl
      refine z_tswOut (pc := 65) C 115 dX9_behind_65 (by have g0 := lv_neT (a := 0) s65_0 rfl; have g1 := lv_neT (a := 1) s65_1 rfl; have g2 := lv_neT (a := 2) s65_2 rfl; omega) (by decide) ?_
      refine z_aload (pc := 115) C 4 dX9_behind_115 rfl ?_
      refine z_getI (pc := 117) C dX9_behind_117 fX9_189 (shW lt2_14) rfl ?_
      refine z_if_eq (pc := 120) C 127 dX9_behind_120 (by decide) (fun c120 => ?_) (fun c120 => ?_)
      · refine z_iconst (pc := 127) (v := 0) C dX9_behind_127 rfl ?_
        refine z_ireturn (pc := 128) C K dX9_behind_128 ?_
        refine ⟨_, rfl, ?_, hs⟩
        rw [hF, bhA, if_neg s65_0, if_neg s65_1, if_neg s65_2]
        exact c120.symm
      · refine z_iconst (pc := 123) (v := 1) C dX9_behind_123 rfl ?_
        refine z_goto (pc := 124) C 128 dX9_behind_124 (by decide) ?_
        refine z_ireturn (pc := 128) C K dX9_behind_128 ?_
        refine ⟨_, rfl, ?_, hs⟩
        rw [hF, bhA, if_neg s65_0, if_neg s65_1, if_neg s65_2]
        exact (hI.1.2.2.2.2.2.2.2.resolve_left c120).symm
    | succ d ih =>
      intro j M1 hj hs hI hv
      refine z_iload (pc := 46) C 5 dX9_behind_46 rfl ?_
      refine z_iload_n (pc := 48) C 2 dX9_behind_48 rfl rfl ?_
      refine z_icmp_ge (pc := 49) C 64 dX9_behind_49 (by decide) (fun c49 => absurd c49 (nI_ge (by omega) (by omega))) (fun c49 => ?_)
      refine z_aload (pc := 52) C 4 dX9_behind_52 rfl ?_
      refine z_callVi (pc := 54) C dX9_behind_54 kX9_167 (mX8_attempt2 lt2_14 hI) (by decide) (shW lt2_14) rfl rfl rfl (Nat.le_of_ble_eq_true rfl) (fun r54 M54 h54 => ?_)
      refine z_pop (pc := 57) C dX9_behind_57 rfl ?_
      refine z_iinc (pc := 58) (v := 1) C 5 dX9_behind_58 (by decide) rfl rfl rfl ?_
      refine z_goto (pc := 61) C 46 dX9_behind_61 (by decide) ?_
      obtain ⟨-, g3, g4⟩ := h54
      have hv2 : veq n (cV M54 2) (vN (hvF M (lastK ky 0 T)) n (j + 1) (cV M 0)) := by
        rw [vN_s]
        exact g3.trans (vTry_c hv)
      have e := ih (j + 1) M54 (by omega) (hs.trans (g4.z (by decide) (by decide))) (hI.on g4 (vOK_c hv2.symm (vN_ok hh (j + 1) hR.1.1))) hv2
      rw [nI_succ j] at e
      exact e
  refine z_aload_n (pc := 0) C 0 dX9_behind_0 rfl rfl ?_
  refine z_iload_n (pc := 1) C 1 dX9_behind_1 rfl rfl ?_
  refine z_callVi (pc := 2) C dX9_behind_2 kX9_96 (mX9_isOne hR.hn hR.n8) (by decide) sh_0 rfl rfl rfl (Nat.le_of_ble_eq_true rfl) (fun r2 M2 h2 => ?_)
  obtain ⟨h2, e2⟩ := h2
  subst M2
  refine z_if_eq (pc := 5) C 27 dX9_behind_5 (by decide) (fun c5 => ?_) (fun c5 => ?_)
  · refine z_ldc (pc := 27) C q2_96 dX9_behind_27 ?_
    refine z_ireturn (pc := 29) C K dX9_behind_29 ?_
    exact ⟨_, rfl, by rw [Fbh, zif_neg (fun q => h2.no c5 q.1)], zSc.rfl'⟩
  · refine z_iload_n (pc := 8) C 2 dX9_behind_8 rfl rfl ?_
    refine z_if_lt (pc := 9) C 27 dX9_behind_9 (by decide) (fun c9 => ?_) (fun c9 => ?_)
    · refine z_ldc (pc := 27) C q2_96 dX9_behind_27 ?_
      refine z_ireturn (pc := 29) C K dX9_behind_29 ?_
      exact ⟨_, rfl, by rw [Fbh, zif_neg (by simp only [zi_lt, zi_le, zi_eq, i0, i1, i2, i3, i4, i5, i6, i9, i20, i99, i100, im5, im20, im1] at c9; unfold iin; omega)], zSc.rfl'⟩
    · refine z_iload_n (pc := 12) C 2 dX9_behind_12 rfl rfl ?_
      refine z_bipush (pc := 13) (v := 100) C dX9_behind_13 rfl ?_
      refine z_icmp_gt (pc := 15) C 27 dX9_behind_15 (by decide) (fun c15 => ?_) (fun c15 => ?_)
      · refine z_ldc (pc := 27) C q2_96 dX9_behind_27 ?_
        refine z_ireturn (pc := 29) C K dX9_behind_29 ?_
        exact ⟨_, rfl, by rw [Fbh, zif_neg (by simp only [zi_lt, zi_le, zi_eq, i0, i1, i2, i3, i4, i5, i6, i9, i20, i99, i100, im5, im20, im1] at c9 c15; unfold iin; omega)], zSc.rfl'⟩
      · refine z_iload_n (pc := 18) C 3 dX9_behind_18 rfl rfl ?_
        refine z_if_lt (pc := 19) C 27 dX9_behind_19 (by decide) (fun c19 => ?_) (fun c19 => ?_)
        · refine z_ldc (pc := 27) C q2_96 dX9_behind_27 ?_
          refine z_ireturn (pc := 29) C K dX9_behind_29 ?_
          exact ⟨_, rfl, by rw [Fbh, zif_neg (by simp only [zi_lt, zi_le, zi_eq, i0, i1, i2, i3, i4, i5, i6, i9, i20, i99, i100, im5, im20, im1] at c9 c15 c19; unfold iin; omega)], zSc.rfl'⟩
        · refine z_iload_n (pc := 22) C 3 dX9_behind_22 rfl rfl ?_
          refine z_iconst (pc := 23) (v := 3) C dX9_behind_23 rfl ?_
          refine z_icmp_le (pc := 24) C 30 dX9_behind_24 (by decide) (fun c24 => ?_) (fun c24 => ?_)
          · have hx := h2.yes c5
            have hc : iin c 0 100 := by
              simp only [zi_lt, zi_le, zi_eq, i0, i1, i2, i3, i4, i5, i6, i9, i20, i99, i100, im5, im20, im1] at c9 c15
              unfold iin
              omega
            have ht : iin t 0 3 := by
              simp only [zi_lt, zi_le, zi_eq, i0, i1, i2, i3, i4, i5, i6, i9, i20, i99, i100, im5, im20, im1] at c19 c24
              unfold iin
              omega
            obtain ⟨i, hi, hxi⟩ := iin_nI (by omega) hx
            obtain ⟨m, hm, hcm⟩ := iin_n hc (by decide)
            refine z_aload_n (pc := 30) C 0 dX9_behind_30 rfl rfl ?_
            refine z_getR (pc := 31) (r := 54) C dX9_behind_31 fX9_31 sh_0 rfl ?_
            refine z_aload_n (pc := 34) C 0 dX9_behind_34 rfl rfl ?_
            refine z_getR (pc := 35) (r := adW 0) C dX9_behind_35 fX9_21 sh_0 rfl ?_
            refine z_callVr (pc := 38) C dX9_behind_38 kX9_171 (mX7_begin2 hR zSc.rfl') (by decide) sh_54 rfl rfl rfl (Nat.le_of_ble_eq_true rfl) (fun r38 M38 h38 => ?_)
            obtain ⟨rfl, v38, i38, s38⟩ := h38
            refine z_astore (pc := 41) C 4 dX9_behind_41 (by decide) rfl ?_
            refine z_iconst (pc := 43) (v := 0) C dX9_behind_43 rfl ?_
            refine z_istore (pc := 44) C 5 dX9_behind_44 (by decide) rfl ?_
            exact loop i m hi (by omega) hxi hcm ht m 0 M38 (by omega) s38 i38 v38
          · refine z_ldc (pc := 27) C q2_96 dX9_behind_27 ?_
            refine z_ireturn (pc := 29) C K dX9_behind_29 ?_
            exact ⟨_, rfl, by rw [Fbh, zif_neg (by simp only [zi_lt, zi_le, zi_eq, i0, i1, i2, i3, i4, i5, i6, i9, i20, i99, i100, im5, im20, im1] at c9 c15 c19 c24; unfold iin; omega)], zSc.rfl'⟩

set_option maxHeartbeats 800000 in
set_option maxRecDepth 100000 in
theorem mX10_behind {l : Launch} {G : zG} {b : Nat} {M : zM} {n T : Nat} {ky ln : Nat → Nat} (hR : RR M n T ky ln) {x c t : Int32} : zMet l G b yX10_behind cX10_behind 6 (some .int) 7 zshL zshL [.ref (b + 239), .int x, .int c, .int t] M (zI (qP (Fbh (hvF M (lastK ky 0 T)) n (cV M 0) x c t) M)) := by
  refine zMet.of (L0 := [some (.ref (b + 239)), some (.int x), some (.int c), some (.int t), none, none]) (by decide +kernel) (Nat.le_refl _) (Nat.le_refl _) (Nat.le_of_ble_eq_true rfl) (List.forall_mem_cons.mpr ⟨rfl, List.forall_mem_cons.mpr ⟨rfl, List.forall_mem_cons.mpr ⟨rfl, List.forall_mem_cons.mpr ⟨rfl, fun _ h => absurd h List.not_mem_nil⟩⟩⟩⟩) rfl (fun X C Al K => ?_)
  refine z_aload_n (pc := 0) C 0 dX10_behind_0 rfl rfl ?_
  refine z_iload_n (pc := 1) C 1 dX10_behind_1 rfl rfl ?_
  refine z_callVi (pc := 2) C dX10_behind_2 kX10_107 (mX10_isOne hR.hm hR.n8) (by decide) sh_239 rfl rfl rfl (Nat.le_of_ble_eq_true rfl) (fun r2 M2 h2 => ?_)
  obtain ⟨h2, e2⟩ := h2
  subst M2
  refine z_if_eq (pc := 5) C 27 dX10_behind_5 (by decide) (fun c5 => ?_) (fun c5 => ?_)
  · refine z_ldc (pc := 27) C q5_48 dX10_behind_27 ?_
    refine z_ireturn (pc := 29) C K dX10_behind_29 ?_
    exact ⟨_, rfl, by rw [Fbh, zif_neg (fun q => h2.no c5 q.1)], zSc.rfl'⟩
  · refine z_iload_n (pc := 8) C 2 dX10_behind_8 rfl rfl ?_
    refine z_iconst (pc := 9) (v := 0) C dX10_behind_9 rfl ?_
    refine z_bipush (pc := 10) (v := 100) C dX10_behind_10 rfl ?_
    refine z_callSi (pc := 12) C dX10_behind_12 kX10_78 mX10_in (by decide) rfl rfl (Nat.le_of_ble_eq_true rfl) (fun r12 M12 h12 => ?_)
    obtain ⟨h12, e12⟩ := h12
    subst M12
    replace h12 : zb r12 (iin c (0) (100)) := zin_b (by decide) (by decide) h12
    refine z_if_eq (pc := 15) C 27 dX10_behind_15 (by decide) (fun c15 => ?_) (fun c15 => ?_)
    · refine z_ldc (pc := 27) C q5_48 dX10_behind_27 ?_
      refine z_ireturn (pc := 29) C K dX10_behind_29 ?_
      exact ⟨_, rfl, by rw [Fbh, zif_neg (fun q => h12.no c15 q.2.1)], zSc.rfl'⟩
    · refine z_iload_n (pc := 18) C 3 dX10_behind_18 rfl rfl ?_
      refine z_iconst (pc := 19) (v := 0) C dX10_behind_19 rfl ?_
      refine z_iconst (pc := 20) (v := 3) C dX10_behind_20 rfl ?_
      refine z_callSi (pc := 21) C dX10_behind_21 kX10_78 mX10_in (by decide) rfl rfl (Nat.le_of_ble_eq_true rfl) (fun r21 M21 h21 => ?_)
      obtain ⟨h21, e21⟩ := h21
      subst M21
      replace h21 : zb r21 (iin t (0) (3)) := zin_b (by decide) (by decide) h21
      refine z_if_ne (pc := 24) C 30 dX10_behind_24 (by decide) (fun c24 => ?_) (fun c24 => ?_)
      · have hx := h2.yes c5
        have hc := h12.yes c15
        have ht := h21.yes c24
        have n8 := hR.n8
        obtain ⟨i, hi, rfl⟩ := iin_nI (by omega) hx
        have hin : i < 8 := by omega
        obtain ⟨m, hm, rfl⟩ := iin_n hc (by decide)
        refine z_aload_n (pc := 30) C 0 dX10_behind_30 rfl rfl ?_
        refine z_callVv (pc := 31) C dX10_behind_31 kX10_189 mX10_thinks (by decide) sh_239 rfl rfl rfl (Nat.le_of_ble_eq_true rfl) (fun M31 h31 => ?_)
        subst M31
        have hs0 : mSc M (tk M 31 34 65) := ⟨fun k => by rw [tk_a (by decide)], fun a g1 g2 g3 g4 g5 => tk_a g2⟩
        have rI1 : rI (tk M 31 34 65) n T ky ln := hR.rI.sc hs0.1 (tk_a (by decide)) (tk_a (by decide))
        refine z_aload_n (pc := 34) C 0 dX10_behind_34 rfl rfl ?_
        refine z_iload_n (pc := 35) C 2 dX10_behind_35 rfl rfl ?_
        refine z_callVi (pc := 36) C dX10_behind_36 kX10_172 (mX10_goesOn rI1 (c := m) (by omega)) (by decide) sh_239 rfl rfl rfl (Nat.le_of_ble_eq_true rfl) (fun r36 M36 h36 => ?_)
        obtain ⟨-, v36, f36, i36⟩ := h36
        rw [hvF_c (tk_a (by decide)) (tk_a (by decide)), mV_on (M := M) hs0.1] at v36
        have v36' : veq n (mV M36 31) (vN (hvF M (lastK ky 0 T)) n m (cV M 0)) := v36.trans (vN_c m hR.1.2.1.symm).1
        have hF : Fbh (hvF M (lastK ky 0 T)) n (cV M 0) (nI i) (nI m) t = bhA n (mV M36 31) i t := by
          rw [Fbh, zif_pos ⟨hx, hc, ht⟩, nI_clamp (n := m) (by omega), nI_clamp (n := i) (by omega), bhA_c v36' hi]
        have hsc : mSc M (tk M36 34 31 65) := by
          refine ⟨fun k => ?_, fun a g1 g2 g3 g4 g5 => ?_⟩
          · by_cases hk : k < 65
            · rw [tk_in hk, f36.1 34 (by decide) (by decide) (by decide), tk_in hk]
            · rw [tk_f hk, f36.2 k (by omega), tk_a (by decide)]
          · rw [tk_a g1, f36.1 a g1 g4 g5, tk_a g2]
        refine z_istore (pc := 39) C 4 dX10_behind_39 (by decide) rfl ?_
        refine z_iload_n (pc := 41) C 3 dX10_behind_41 rfl rfl ?_
        refine z_if_ne (pc := 42) C 52 dX10_behind_42 (by decide) (fun c42 => ?_) (fun c42 => ?_)
        · refine z_iload_n (pc := 52) C 3 dX10_behind_52 rfl rfl ?_
          refine z_iconst (pc := 53) (v := 1) C dX10_behind_53 rfl ?_
          refine z_icmp_ne (pc := 54) C 66 dX10_behind_54 (by decide) (fun c54 => ?_) (fun c54 => ?_)
          · refine z_iload_n (pc := 66) C 3 dX10_behind_66 rfl rfl ?_
            refine z_iconst (pc := 67) (v := 2) C dX10_behind_67 rfl ?_
            refine z_icmp_ne (pc := 68) C 80 dX10_behind_68 (by decide) (fun c68 => ?_) (fun c68 => ?_)
            · refine z_aload_n (pc := 80) C 0 dX10_behind_80 rfl rfl ?_
              refine z_getR (pc := 81) (r := 240) C dX10_behind_81 fX10_9 sh_239 rfl ?_
              refine z_bipush (pc := 84) (v := 7) C dX10_behind_84 rfl ?_
              refine z_iald (pc := 86) (n := 7) C dX10_behind_86 sh_240 (zi_in.mpr (by decide)) rfl ?_
              refine z_istore (pc := 87) C 5 dX10_behind_87 (by decide) rfl ?_
              refine z_aload_n (pc := 89) C 0 dX10_behind_89 rfl rfl ?_
              refine z_callVv (pc := 90) C dX10_behind_90 kX10_192 mX10_putsBack (by decide) sh_239 rfl rfl rfl (Nat.le_of_ble_eq_true rfl) (fun M90 h90 => ?_)
              subst M90
              refine z_iload (pc := 93) C 5 dX10_behind_93 rfl ?_
              refine z_ireturn (pc := 95) C K dX10_behind_95 ?_
              refine ⟨_, rfl, ?_, hsc.z⟩
              rw [hF, bhA, if_neg c42, if_neg c54, if_neg c68]
              rfl
            · refine z_aload_n (pc := 71) C 0 dX10_behind_71 rfl rfl ?_
              refine z_getR (pc := 72) (r := 240) C dX10_behind_72 fX10_9 sh_239 rfl ?_
              refine z_iconst (pc := 75) (v := 3) C dX10_behind_75 rfl ?_
              refine z_iald (pc := 76) (n := 3) C dX10_behind_76 sh_240 (zi_in.mpr (by decide)) rfl ?_
              refine z_goto (pc := 77) C 87 dX10_behind_77 (by decide) ?_
              refine z_istore (pc := 87) C 5 dX10_behind_87 (by decide) rfl ?_
              refine z_aload_n (pc := 89) C 0 dX10_behind_89 rfl rfl ?_
              refine z_callVv (pc := 90) C dX10_behind_90 kX10_192 mX10_putsBack (by decide) sh_239 rfl rfl rfl (Nat.le_of_ble_eq_true rfl) (fun M90 h90 => ?_)
              subst M90
              refine z_iload (pc := 93) C 5 dX10_behind_93 rfl ?_
              refine z_ireturn (pc := 95) C K dX10_behind_95 ?_
              refine ⟨_, rfl, ?_, hsc.z⟩
              rw [hF, bhA, if_neg c42, if_neg c54, if_pos c68]
              rfl
          · refine z_aload_n (pc := 57) C 0 dX10_behind_57 rfl rfl ?_
            refine z_iload_n (pc := 58) C 1 dX10_behind_58 rfl rfl ?_
            refine z_iconst (pc := 59) (v := 1) C dX10_behind_59 rfl ?_
            refine z_callVi (pc := 60) C dX10_behind_60 kX10_96 (mX10_of (f := 1) hin (by decide)) (by decide) sh_239 rfl rfl rfl (Nat.le_of_ble_eq_true rfl) (fun r60 M60 h60 => ?_)
            obtain ⟨rfl, e60⟩ := h60
            subst M60
            refine z_goto (pc := 63) C 87 dX10_behind_63 (by decide) ?_
            refine z_istore (pc := 87) C 5 dX10_behind_87 (by decide) rfl ?_
            refine z_aload_n (pc := 89) C 0 dX10_behind_89 rfl rfl ?_
            refine z_callVv (pc := 90) C dX10_behind_90 kX10_192 mX10_putsBack (by decide) sh_239 rfl rfl rfl (Nat.le_of_ble_eq_true rfl) (fun M90 h90 => ?_)
            subst M90
            refine z_iload (pc := 93) C 5 dX10_behind_93 rfl ?_
            refine z_ireturn (pc := 95) C K dX10_behind_95 ?_
            refine ⟨_, rfl, ?_, hsc.z⟩
            rw [hF, bhA, if_neg c42, if_pos c54]
            rfl
        · refine z_aload_n (pc := 45) C 0 dX10_behind_45 rfl rfl ?_
          refine z_callVi (pc := 46) C dX10_behind_46 kX10_155 (mX10_saysNow i36.1.1 i36.1.2.1 i36.1.2.2.1) (by decide) sh_239 rfl rfl rfl (Nat.le_of_ble_eq_true rfl) (fun r46 M46 h46 => ?_)
          obtain ⟨rfl, e46⟩ := h46
          subst M46
          refine z_goto (pc := 49) C 87 dX10_behind_49 (by decide) ?_
          refine z_istore (pc := 87) C 5 dX10_behind_87 (by decide) rfl ?_
          refine z_aload_n (pc := 89) C 0 dX10_behind_89 rfl rfl ?_
          refine z_callVv (pc := 90) C dX10_behind_90 kX10_192 mX10_putsBack (by decide) sh_239 rfl rfl rfl (Nat.le_of_ble_eq_true rfl) (fun M90 h90 => ?_)
          subst M90
          refine z_iload (pc := 93) C 5 dX10_behind_93 rfl ?_
          refine z_ireturn (pc := 95) C K dX10_behind_95 ?_
          refine ⟨_, rfl, ?_, hsc.z⟩
          rw [hF, bhA, if_pos c42]
          rfl
      · refine z_ldc (pc := 27) C q5_48 dX10_behind_27 ?_
        refine z_ireturn (pc := 29) C K dX10_behind_29 ?_
        exact ⟨_, rfl, by rw [Fbh, zif_neg (fun q => h21.no c24 q.2.2)], zSc.rfl'⟩

theorem op_behind {l : Launch} {G : zG} {b : Nat} {M : zM} (hM : Rel M) {x c t : Int32} : opOK l G b yX9_behind cX9_behind 6 6 yX10_behind cX10_behind 6 7 [.int x, .int c, .int t] M := by
  obtain ⟨n, T, ky, ln, hR⟩ := hM
  refine ⟨_, mX9_behind hR, fun r M1 h1 => ?_⟩
  obtain ⟨rfl, h1⟩ := h1
  have hR1 := hR.sc h1
  refine zI.post (mX10_behind hR1) (fun s M2 h2 => ?_)
  obtain ⟨rfl, h2⟩ := h2
  refine ⟨?_, _, _, _, _, hR1.sc h2⟩
  rw [h1.cV, hvF_sc h1 hR.TX]
noncomputable def rd (g f : Nat → Int32) : Nat → Nat → Int32
  | 0, _ => -1000000005
  | d + 1, i => zif (¬ g i = -1000000005 ∧ ¬ g i = f i) (nI i) (rd g f d (i + 1))
theorem rd_c {g g' f : Nat → Int32} : ∀ (d i : Nat), (∀ j, i ≤ j → j < i + d → g j = g' j) → rd g f d i = rd g' f d i
  | 0, _, _ => rfl
  | d + 1, i, h => by
    rw [rd, rd, h i (by omega) (by omega), rd_c d (i + 1) (fun j h1 h2 => h j (by omega) (by omega))]
noncomputable def Frd (so sz : Nat → Int32) (g : Nat → Nat → Int32) (f : Nat → Int32) (x : Int32) : Int32 := zif (iin x 0 3) (if so x.toNatClampNeg < 0 then -1000000011 else rd (g x.toNatClampNeg) f (sz x.toNatClampNeg).toNatClampNeg 0) (-1000000001)
theorem Frd_c {so sz so' sz' : Nat → Int32} {g g' : Nat → Nat → Int32} {f : Nat → Int32} (hr : shR so sz) (h : ∀ s, s < 4 → so' s = so s ∧ sz' s = sz s) (hg : ∀ s k, s < 4 → k < 24 → g' s k = g s k) (x : Int32) : Frd so' sz' g' f x = Frd so sz g f x := by
  unfold Frd
  by_cases q : iin x 0 3
  · rw [zif_pos q, zif_pos q]
    obtain ⟨s, hs, rfl⟩ := iin_nI (n := 4) (by decide) q
    obtain ⟨z, hz24, hz⟩ := iin_n (hr s hs).2 (by decide)
    rw [nI_clamp (by omega), (h s hs).1, (h s hs).2, hz, nI_clamp (by omega), rd_c z 0 (fun j _ h2 => hg s j hs (by omega))]
  · rw [zif_neg q, zif_neg q]
set_option maxHeartbeats 800000 in
set_option maxRecDepth 100000 in
theorem mX9_reads {l : Launch} {G : zG} {b : Nat} {M : zM} {n T : Nat} {ky ln : Nat → Nat} (hR : RR M n T ky ln) {x : Int32} : zMet l G b yX9_reads cX9_reads 4 (some .int) 18 zshL zshL [.ref (b + 0), .int x] M (zI (qP (Frd (fun s => M 3 s 0 0) (fun s => M 3 s 0 1) (fun s => M 4 s 0) (vNd (hvF M (lastK ky 0 T)) n (cV M 0)) x) M)) := by
  refine zMet.of (L0 := [some (.ref (b + 0)), some (.int x), none, none]) (by decide +kernel) (Nat.le_refl _) (Nat.le_refl _) (Nat.le_of_ble_eq_true rfl) (List.forall_mem_cons.mpr ⟨rfl, List.forall_mem_cons.mpr ⟨rfl, fun _ h => absurd h List.not_mem_nil⟩⟩) rfl (fun X C Al K => ?_)
  have loop : ∀ (s z : Nat) (M1 : zM), s < 4 → z ≤ 24 → M 3 s 0 1 = nI z → zSc M M1 → (∀ k, k < z → M1 18 0 0 k = (vNd (hvF M (lastK ky 0 T)) n (cV M 0)) k) → ∀ (d i : Nat), i + d = z → Frd (fun s => M 3 s 0 0) (fun s => M 3 s 0 1) (fun s => M 4 s 0) (vNd (hvF M (lastK ky 0 T)) n (cV M 0)) x = rd (M 4 s 0) (vNd (hvF M (lastK ky 0 T)) n (cV M 0)) d i → zW X zshL M1 57 [some (.ref (b + 0)), some (.int x), some (.ref (b + adS s)), some (.int (nI i))] [] := by
    intro s z M1 hs hz24 hz hsc hn d
    have hs9 : s < 9 := by omega
    have hz1 : M1 3 s 0 1 = nI z := by rw [hsc 3 s 0 1 (by unfold scr; omega)]; exact hz
    have h4 : ∀ k, M1 4 s 0 k = M 4 s 0 k := fun k => hsc 4 s 0 k (by unfold scr; omega)
    induction d with
    | zero =>
      intro i hi hF
      refine z_iload_n (pc := 57) C 3 dX9_reads_57 rfl rfl ?_
      refine z_aload_n (pc := 58) C 2 dX9_reads_58 rfl rfl ?_
      refine z_getI (pc := 59) C dX9_reads_59 fX9_259 (shS hs9) rfl ?_
      rw [hz1]
      refine z_icmp_ge (pc := 62) C 102 dX9_reads_62 (by decide) (fun c62 => ?_) (fun c62 => absurd (nI_le (by omega) (by omega)) c62)
      refine z_ldc (pc := 102) C q3_64 dX9_reads_102 ?_
      refine z_ireturn (pc := 104) C K dX9_reads_104 ?_
      exact ⟨_, rfl, by rw [hF]; rfl, hsc⟩
    | succ d ih =>
      intro i hi hF
      refine z_iload_n (pc := 57) C 3 dX9_reads_57 rfl rfl ?_
      refine z_aload_n (pc := 58) C 2 dX9_reads_58 rfl rfl ?_
      refine z_getI (pc := 59) C dX9_reads_59 fX9_259 (shS hs9) rfl ?_
      rw [hz1]
      refine z_icmp_ge (pc := 62) C 102 dX9_reads_62 (by decide) (fun c62 => absurd c62 (nI_ge (by omega) (by omega))) (fun c62 => ?_)
      refine z_aload_n (pc := 65) C 2 dX9_reads_65 rfl rfl ?_
      refine z_getR (pc := 66) (r := adS s + 1) C dX9_reads_66 fX9_254 (shS hs9) rfl ?_
      refine z_iload_n (pc := 69) C 3 dX9_reads_69 rfl rfl ?_
      refine z_iald (pc := 70) (n := i) C dX9_reads_70 (shSp hs9) (vp_in_nI (by omega) (by decide)) (nI_clamp (by omega)) ?_
      rw [h4]
      refine z_ldc (pc := 71) C q3_64 dX9_reads_71 ?_
      refine z_icmp_eq (pc := 73) C 96 dX9_reads_73 (by decide) (fun c73 => ?_) (fun c73 => ?_)
      · refine z_iinc (pc := 96) (v := 1) C 3 dX9_reads_96 (by decide) rfl rfl rfl ?_
        refine z_goto (pc := 99) C 57 dX9_reads_99 (by decide) ?_
        have e := ih (i + 1) (by omega) (by rw [hF, rd, zif_neg (fun q => q.1 c73)])
        rw [nI_succ i] at e
        exact e
      · refine z_aload_n (pc := 76) C 2 dX9_reads_76 rfl rfl ?_
        refine z_getR (pc := 77) (r := adS s + 1) C dX9_reads_77 fX9_254 (shS hs9) rfl ?_
        refine z_iload_n (pc := 80) C 3 dX9_reads_80 rfl rfl ?_
        refine z_iald (pc := 81) (n := i) C dX9_reads_81 (shSp hs9) (vp_in_nI (by omega) (by decide)) (nI_clamp (by omega)) ?_
        rw [h4]
        refine z_aload_n (pc := 82) C 0 dX9_reads_82 rfl rfl ?_
        refine z_getR (pc := 83) (r := 54) C dX9_reads_83 fX9_31 sh_0 rfl ?_
        refine z_getR (pc := 86) (r := 70) C dX9_reads_86 fX9_179 sh_54 rfl ?_
        refine z_iload_n (pc := 89) C 3 dX9_reads_89 rfl rfl ?_
        refine z_iald (pc := 90) (n := i) C dX9_reads_90 sh_70 (vp_in_nI (by omega) (by decide)) (nI_clamp (by omega)) ?_
        rw [hn i (by omega)]
        refine z_icmp_eq (pc := 91) C 96 dX9_reads_91 (by decide) (fun c91 => ?_) (fun c91 => ?_)
        · refine z_iinc (pc := 96) (v := 1) C 3 dX9_reads_96 (by decide) rfl rfl rfl ?_
          refine z_goto (pc := 99) C 57 dX9_reads_99 (by decide) ?_
          have e := ih (i + 1) (by omega) (by rw [hF, rd, zif_neg (fun q => q.2 c91)])
          rw [nI_succ i] at e
          exact e
        · refine z_iload_n (pc := 94) C 3 dX9_reads_94 rfl rfl ?_
          refine z_ireturn (pc := 95) C K dX9_reads_95 ?_
          exact ⟨_, rfl, by rw [hF, rd, zif_pos ⟨c73, c91⟩], hsc⟩
  refine z_iload_n (pc := 0) C 1 dX9_reads_0 rfl rfl ?_
  refine z_callSi (pc := 1) C dX9_reads_1 kX9_192 mX9_isSheet (by decide) rfl rfl (Nat.le_of_ble_eq_true rfl) (fun r1 M1 h1 => ?_)
  obtain ⟨h1, e1⟩ := h1
  subst M1
  refine z_if_ne (pc := 4) C 10 dX9_reads_4 (by decide) (fun c4 => ?_) (fun c4 => ?_)
  · have hx := h1.yes c4
    obtain ⟨s, hs, rfl⟩ := iin_nI (n := 4) (by decide) hx
    have hs9 : s < 9 := by omega
    refine z_aload_n (pc := 10) C 0 dX9_reads_10 rfl rfl ?_
    refine z_getR (pc := 11) (r := 208) C dX9_reads_11 fX9_53 sh_0 rfl ?_
    refine z_iload_n (pc := 14) C 1 dX9_reads_14 rfl rfl ?_
    refine z_aald (pc := 15) (r := adS s) C dX9_reads_15 sh_208 rfl rfl (vp_in_nI hs (by decide)) (shget hs) ?_
    refine z_astore_n (pc := 16) C 2 dX9_reads_16 rfl (by decide) rfl ?_
    refine z_aload_n (pc := 17) C 2 dX9_reads_17 rfl rfl ?_
    refine z_getI (pc := 18) C dX9_reads_18 fX9_195 (shS hs9) rfl ?_
    refine z_iconst (pc := 21) (v := -1) C dX9_reads_21 rfl ?_
    refine z_icmp_ne (pc := 22) C 28 dX9_reads_22 (by decide) (fun c22 => ?_) (fun c22 => ?_)
    · obtain ⟨w1, w2⟩ := hR.shR s hs
      replace w1 : iin (M 3 s 0 0) (-1) 1 := w1
      replace w2 : iin (M 3 s 0 1) 0 24 := w2
      obtain ⟨z, hz24, hz⟩ := iin_n w2 (by decide)
      have hso : ¬ M 3 s 0 0 < 0 := by
        unfold iin at w1
        rw [zi_eq, im1] at c22
        rw [zi_lt, i0]
        omega
      refine z_aload_n (pc := 28) C 0 dX9_reads_28 rfl rfl ?_
      refine z_getR (pc := 29) (r := 54) C dX9_reads_29 fX9_31 sh_0 rfl ?_
      refine z_aload_n (pc := 32) C 0 dX9_reads_32 rfl rfl ?_
      refine z_getR (pc := 33) (r := adW 0) C dX9_reads_33 fX9_21 sh_0 rfl ?_
      refine z_callVr (pc := 36) C dX9_reads_36 kX9_171 (mX7_begin2 hR zSc.rfl') (by decide) sh_54 rfl rfl rfl (Nat.le_of_ble_eq_true rfl) (fun r36 M36 h36 => ?_)
      obtain ⟨rfl, v36, i36, s36⟩ := h36
      refine z_pop (pc := 39) C dX9_reads_39 rfl ?_
      refine z_aload_n (pc := 40) C 0 dX9_reads_40 rfl rfl ?_
      refine z_getR (pc := 41) (r := 54) C dX9_reads_41 fX9_31 sh_0 rfl ?_
      refine z_iconst (pc := 44) (v := 0) C dX9_reads_44 rfl ?_
      refine z_aload_n (pc := 45) C 2 dX9_reads_45 rfl rfl ?_
      refine z_getI (pc := 46) C dX9_reads_46 fX9_259 (shS hs9) rfl ?_
      refine z_iconst (pc := 49) (v := 1) C dX9_reads_49 rfl ?_
      refine z_isub (pc := 50) C dX9_reads_50 ?_
      rw [s36 3 s 0 1 (by unfold scr; omega), hz]
      refine z_callVi (pc := 51) C dX9_reads_51 kX9_175 (mX7_ponder2 i36 (a := 0) (m := z) (by omega) (by omega) (by rw [zi_sub (by rw [nI_toInt (by omega), i1]; omega) (by rw [nI_toInt (by omega), i1]; omega), nI_toInt (by omega), i1])) (by decide) sh_54 rfl rfl rfl (Nat.le_of_ble_eq_true rfl) (fun r51 M51 h51 => ?_)
      obtain ⟨-, n51, s51⟩ := h51
      refine z_pop (pc := 54) C dX9_reads_54 rfl ?_
      refine z_iconst (pc := 55) (v := 0) C dX9_reads_55 rfl ?_
      refine z_istore_n (pc := 56) C 3 dX9_reads_56 rfl (by decide) rfl ?_
      exact loop s z M51 hs (by omega) hz (s36.trans s51) (fun k hk => (n51 k (by omega) hk).trans (vNd_c v36 k)) z 0 (by omega) (by rw [Frd, zif_pos hx, nI_clamp (n := s) (by omega), if_neg hso, hz, nI_clamp (by omega)])
    · refine z_ldc (pc := 25) C q3_100 dX9_reads_25 ?_
      refine z_ireturn (pc := 27) C K dX9_reads_27 ?_
      exact ⟨_, rfl, by rw [Frd, zif_pos hx, nI_clamp (by omega), if_pos (by rw [c22]; decide)], zSc.rfl'⟩
  · refine z_ldc (pc := 7) C q2_96 dX9_reads_7 ?_
    refine z_ireturn (pc := 9) C K dX9_reads_9 ?_
    exact ⟨_, rfl, by rw [Frd, zif_neg (h1.no c4)], zSc.rfl'⟩

set_option maxHeartbeats 800000 in
set_option maxRecDepth 100000 in
theorem mX10_reads {l : Launch} {G : zG} {b : Nat} {M : zM} {n T : Nat} {ky ln : Nat → Nat} (hR : RR M n T ky ln) {x : Int32} : zMet l G b yX10_reads cX10_reads 4 (some .int) 7 zshL zshL [.ref (b + 239), .int x] M (zI (qP (Frd (fun s => M 44 0 0 s) (fun s => M 45 0 0 s) (fun s k => M 46 0 0 (24 * s + k)) (vNd (hvF M (lastK ky 0 T)) n (cV M 0)) x) M)) := by
  refine zMet.of (L0 := [some (.ref (b + 239)), some (.int x), none, none]) (by decide +kernel) (Nat.le_refl _) (Nat.le_refl _) (Nat.le_of_ble_eq_true rfl) (List.forall_mem_cons.mpr ⟨rfl, List.forall_mem_cons.mpr ⟨rfl, fun _ h => absurd h List.not_mem_nil⟩⟩) rfl (fun X C Al K => ?_)
  have loop : ∀ (s z : Nat), s < 4 → x = nI s → z ≤ 24 → M 45 0 0 s = nI z → ∀ (d i : Nat) (M1 : zM) (q3 : Option Value), i + d = z → Frd (fun s => M 44 0 0 s) (fun s => M 45 0 0 s) (fun s k => M 46 0 0 (24 * s + k)) (vNd (hvF M (lastK ky 0 T)) n (cV M 0)) x = rd (fun k => M 46 0 0 (24 * s + k)) (vNd (hvF M (lastK ky 0 T)) n (cV M 0)) d i → mS5 M M1 → zW X zshL M1 24 [some (.ref (b + 239)), some (.int x), some (.int (nI i)), q3] [] := by
    intro s z hs hx hz24 hz d
    subst hx
    induction d with
    | zero =>
      intro i M1 q3 hi hF hsc
      have hz1 : M1 45 0 0 s = nI z := by rw [hsc.2 45 (by decide) (by decide) (by decide) (by decide)]; exact hz
      refine z_iload_n (pc := 24) C 2 dX10_reads_24 rfl rfl ?_
      refine z_aload_n (pc := 25) C 0 dX10_reads_25 rfl rfl ?_
      refine z_getR (pc := 26) (r := 254) C dX10_reads_26 fX10_54 sh_239 rfl ?_
      refine z_iload_n (pc := 29) C 1 dX10_reads_29 rfl rfl ?_
      refine z_iald (pc := 30) (n := s) C dX10_reads_30 sh_254 (vp_in_nI (by omega) (by decide)) (nI_clamp (by omega)) ?_
      rw [hz1]
      refine z_icmp_ge (pc := 31) C 69 dX10_reads_31 (by decide) (fun c31 => ?_) (fun c31 => absurd (nI_le (by omega) (by omega)) c31)
      refine z_ldc (pc := 69) C q5_211 dX10_reads_69 ?_
      refine z_ireturn (pc := 71) C K dX10_reads_71 ?_
      exact ⟨_, rfl, by rw [hF]; rfl, hsc.z⟩
    | succ d ih =>
      intro i M1 q3 hi hF hsc
      have hz1 : M1 45 0 0 s = nI z := by rw [hsc.2 45 (by decide) (by decide) (by decide) (by decide)]; exact hz
      have h4 : M1 46 0 0 (24 * s + i) = M 46 0 0 (24 * s + i) := by rw [hsc.2 46 (by decide) (by decide) (by decide) (by decide)]
      refine z_iload_n (pc := 24) C 2 dX10_reads_24 rfl rfl ?_
      refine z_aload_n (pc := 25) C 0 dX10_reads_25 rfl rfl ?_
      refine z_getR (pc := 26) (r := 254) C dX10_reads_26 fX10_54 sh_239 rfl ?_
      refine z_iload_n (pc := 29) C 1 dX10_reads_29 rfl rfl ?_
      refine z_iald (pc := 30) (n := s) C dX10_reads_30 sh_254 (vp_in_nI (by omega) (by decide)) (nI_clamp (by omega)) ?_
      rw [hz1]
      refine z_icmp_ge (pc := 31) C 69 dX10_reads_31 (by decide) (fun c31 => absurd c31 (nI_ge (by omega) (by omega))) (fun c31 => ?_)
      refine z_aload_n (pc := 34) C 0 dX10_reads_34 rfl rfl ?_
      refine z_getR (pc := 35) (r := 255) C dX10_reads_35 fX10_57 sh_239 rfl ?_
      refine z_bipush (pc := 38) (v := 24) C dX10_reads_38 rfl ?_
      refine z_iload_n (pc := 40) C 1 dX10_reads_40 rfl rfl ?_
      refine z_imul (pc := 41) C dX10_reads_41 ?_
      refine z_iload_n (pc := 42) C 2 dX10_reads_42 rfl rfl ?_
      refine z_iadd (pc := 43) C dX10_reads_43 ?_
      rw [idx24]
      refine z_iald (pc := 44) (n := 24 * s + i) C dX10_reads_44 sh_255 (vp_in_nI (by omega) (by decide)) (nI_clamp (by omega)) ?_
      rw [h4]
      refine z_istore_n (pc := 45) C 3 dX10_reads_45 rfl (by decide) rfl ?_
      refine z_iload_n (pc := 46) C 3 dX10_reads_46 rfl rfl ?_
      refine z_ldc (pc := 47) C q5_211 dX10_reads_47 ?_
      refine z_icmp_eq (pc := 49) C 63 dX10_reads_49 (by decide) (fun c49 => ?_) (fun c49 => ?_)
      · refine z_iinc (pc := 63) (v := 1) C 2 dX10_reads_63 (by decide) rfl rfl rfl ?_
        refine z_goto (pc := 66) C 24 dX10_reads_66 (by decide) ?_
        have e := ih (i + 1) M1 (some (.int (M 46 0 0 (24 * s + i)))) (by omega) (by rw [hF, rd, zif_neg (fun q => q.1 c49)]) hsc
        rw [nI_succ i] at e
        exact e
      · refine z_iload_n (pc := 52) C 3 dX10_reads_52 rfl rfl ?_
        refine z_aload_n (pc := 53) C 0 dX10_reads_53 rfl rfl ?_
        refine z_iload_n (pc := 54) C 2 dX10_reads_54 rfl rfl ?_
        refine z_callVi (pc := 55) C dX10_reads_55 kX10_182 (mX10_needsByR hR hsc (k := i) (by omega)) (by decide) sh_239 rfl rfl rfl (Nat.le_of_ble_eq_true rfl) (fun r55 M55 h55 => ?_)
        obtain ⟨rfl, s55⟩ := h55
        refine z_icmp_eq (pc := 58) C 63 dX10_reads_58 (by decide) (fun c58 => ?_) (fun c58 => ?_)
        · refine z_iinc (pc := 63) (v := 1) C 2 dX10_reads_63 (by decide) rfl rfl rfl ?_
          refine z_goto (pc := 66) C 24 dX10_reads_66 (by decide) ?_
          have e := ih (i + 1) M55 (some (.int (M 46 0 0 (24 * s + i)))) (by omega) (by rw [hF, rd, zif_neg (fun q => q.2 c58)]) s55
          rw [nI_succ i] at e
          exact e
        · refine z_iload_n (pc := 61) C 2 dX10_reads_61 rfl rfl ?_
          refine z_ireturn (pc := 62) C K dX10_reads_62 ?_
          exact ⟨_, rfl, by rw [hF, rd, zif_pos ⟨c49, c58⟩], s55.z⟩
  refine z_iload_n (pc := 0) C 1 dX10_reads_0 rfl rfl ?_
  refine z_callSi (pc := 1) C dX10_reads_1 kX10_198 mX10_isSheet (by decide) rfl rfl (Nat.le_of_ble_eq_true rfl) (fun r1 M1 h1 => ?_)
  obtain ⟨h1, e1⟩ := h1
  subst M1
  refine z_if_ne (pc := 4) C 10 dX10_reads_4 (by decide) (fun c4 => ?_) (fun c4 => ?_)
  · have hx := h1.yes c4
    obtain ⟨s, hs, rfl⟩ := iin_nI (n := 4) (by decide) hx
    have hs9 : s < 9 := by omega
    refine z_aload_n (pc := 10) C 0 dX10_reads_10 rfl rfl ?_
    refine z_getR (pc := 11) (r := 253) C dX10_reads_11 fX10_51 sh_239 rfl ?_
    refine z_iload_n (pc := 14) C 1 dX10_reads_14 rfl rfl ?_
    refine z_iald (pc := 15) (n := s) C dX10_reads_15 sh_253 (vp_in_nI (by omega) (by decide)) (nI_clamp (by omega)) ?_
    refine z_if_ge (pc := 16) C 22 dX10_reads_16 (by decide) (fun c16 => ?_) (fun c16 => ?_)
    · refine z_iconst (pc := 22) (v := 0) C dX10_reads_22 rfl ?_
      refine z_istore_n (pc := 23) C 2 dX10_reads_23 rfl (by decide) rfl ?_
      obtain ⟨g1, g2, g3, g4, g5⟩ := hR.RE s hs
      obtain ⟨z, hz24, hz⟩ := iin_n g4 (by decide)
      exact loop s z hs rfl (by omega) hz z 0 M none (by omega) (by rw [Frd, zif_pos hx, nI_clamp (n := s) (by omega), if_neg ((znn _).mp c16), hz, nI_clamp (by omega)]) mS5.rfl'
    · refine z_ldc (pc := 19) C q6_15 dX10_reads_19 ?_
      refine z_ireturn (pc := 21) C K dX10_reads_21 ?_
      exact ⟨_, rfl, by rw [Frd, zif_pos hx, nI_clamp (by omega), if_pos (Int32.not_le.mp c16)], zSc.rfl'⟩
  · refine z_ldc (pc := 7) C q5_48 dX10_reads_7 ?_
    refine z_ireturn (pc := 9) C K dX10_reads_9 ?_
    exact ⟨_, rfl, by rw [Frd, zif_neg (h1.no c4)], zSc.rfl'⟩

theorem op_reads {l : Launch} {G : zG} {b : Nat} {M : zM} (hM : Rel M) {x : Int32} : opOK l G b yX9_reads cX9_reads 4 18 yX10_reads cX10_reads 4 7 [.int x] M := by
  obtain ⟨n, T, ky, ln, hR⟩ := hM
  refine ⟨_, mX9_reads hR, fun r M1 h1 => ?_⟩
  obtain ⟨rfl, h1⟩ := h1
  have hR1 := hR.sc h1
  refine zI.post (mX10_reads hR1) (fun s M2 h2 => ?_)
  obtain ⟨rfl, h2⟩ := h2
  refine ⟨?_, _, _, _, _, hR1.sc h2⟩
  have hc : ∀ s, s < 4 → (fun s => M1 44 0 0 s) s = (fun s => M 3 s 0 0) s ∧ (fun s => M1 45 0 0 s) s = (fun s => M 3 s 0 1) s := fun s hs => by
    obtain ⟨g1, g2, g3, g4, g5⟩ := hR.RE s hs
    show M1 44 0 0 s = M 3 s 0 0 ∧ M1 45 0 0 s = M 3 s 0 1
    rw [h1 44 0 0 s (by unfold scr; omega), h1 45 0 0 s (by unfold scr; omega)]
    exact ⟨g1.symm, g3.symm⟩
  have hg : ∀ s k, s < 4 → k < 24 → (fun s k => M1 46 0 0 (24 * s + k)) s k = (fun s => M 4 s 0) s k := fun s k hs hk => by
    show M1 46 0 0 (24 * s + k) = M 4 s 0 k
    rw [h1 46 0 0 _ (by unfold scr; omega)]
    exact ((hR.RE s hs).2.2.2.2 k hk).symm
  rw [h1.cV, hvF_sc h1 hR.TX]
  exact Frd_c hR.shR hc hg _
noncomputable def lfC (P : Nat → Prop) : Nat → Int32 × Int32
  | 0 => (0, -1000000005)
  | d + 1 => zif (P (99 - d)) ((lfC P d).1 + 1, nI (99 - d)) (lfC P d)
theorem lfC_c {P Q : Nat → Prop} (h : ∀ k, k < 100 → (P k ↔ Q k)) : ∀ d, d ≤ 100 → lfC P d = lfC Q d
  | 0, _ => rfl
  | d + 1, hd => by
    rw [lfC, lfC, lfC_c h d (by omega)]
    by_cases q : P (99 - d)
    · rw [zif_pos q, zif_pos ((h _ (by omega)).mp q)]
    · rw [zif_neg q, zif_neg (fun z => q ((h _ (by omega)).mpr z))]
noncomputable def Flf (so sz : Nat → Int32) (g : Nat → Nat → Int32) (hv : Int32 → Int32 → Int32 → Int32) (n : Nat) (V : zVw) (x t : Int32) : Int32 := zif (iin x 0 3 ∧ iin t 0 1) (if so x.toNatClampNeg < 0 then -1000000011 else if t = 0 then (if n = 0 then 0 else (lfC (fun k => vLk hv n (g x.toNatClampNeg) (sz x.toNatClampNeg).toNatClampNeg 0 (vNum V (nI k))) 100).1) else (if n = 0 then -1000000005 else (lfC (fun k => vLk hv n (g x.toNatClampNeg) (sz x.toNatClampNeg).toNatClampNeg 0 (vNum V (nI k))) 100).2)) (-1000000001)
theorem vNum_c {n : Nat} {V W : zVw} (h : veq n V W) (x : Int32) : veq n (vNum V x) (vNum W x) := ⟨fun k h1 h2 => by
  show (if k = 3 then x else V.1 k) = if k = 3 then x else W.1 k
  rw [h.1 k h1 h2], h.2⟩
theorem Flf_c {so sz so' sz' : Nat → Int32} {g g' : Nat → Nat → Int32} {hv : Int32 → Int32 → Int32 → Int32} {n : Nat} {V W : zVw} (hr : shR so sz) (h : ∀ s, s < 4 → so' s = so s ∧ sz' s = sz s) (hg : ∀ s k, s < 4 → k < 24 → g' s k = g s k) (hV : veq n W V) (x t : Int32) : Flf so' sz' g' hv n W x t = Flf so sz g hv n V x t := by
  unfold Flf
  by_cases q : iin x 0 3 ∧ iin t 0 1
  · rw [zif_pos q, zif_pos q]
    obtain ⟨s, hs, rfl⟩ := iin_nI (n := 4) (by decide) q.1
    obtain ⟨z, hz24, hz⟩ := iin_n (hr s hs).2 (by decide)
    rw [nI_clamp (n := s) (by omega), (h s hs).1, (h s hs).2, hz, nI_clamp (by omega), lfC_c (fun k _ => vLk_c z 0 (vNum_c hV (nI k)).v8 (fun j _ h2 => hg s j hs (by omega))) 100 (Nat.le_refl _)]
  · rw [zif_neg q, zif_neg q]
theorem n99 {d : Nat} (h : d ≤ 99) : (99 : Int32) - nI d = nI (99 - d) := by
  rw [zi_eq, zi_sub (by rw [i99, nI_toInt (by omega)]; omega) (by rw [i99, nI_toInt (by omega)]; omega), i99, nI_toInt (by omega), nI_toInt (by omega)]
  omega
theorem n99s {d : Nat} (h : d ≤ 99) : (99 : Int32) - nI d + -1 = 99 - nI (d + 1) := by
  have e : (99 - nI d : Int32).toInt = 99 - d := by rw [zi_sub (by rw [i99, nI_toInt (by omega)]; omega) (by rw [i99, nI_toInt (by omega)]; omega), i99, nI_toInt (by omega)]
  have e2 : (99 - nI (d + 1) : Int32).toInt = 99 - (d + 1 : Nat) := by rw [zi_sub (by rw [i99, nI_toInt (by omega)]; omega) (by rw [i99, nI_toInt (by omega)]; omega), i99, nI_toInt (by omega)]
  rw [zi_eq, zi_add (by rw [e, im1]; omega) (by rw [e, im1]; omega), e, e2, im1]
  omega
theorem n99e : (99 : Int32) - nI 100 < 0 := by decide
set_option maxHeartbeats 800000 in
set_option maxRecDepth 100000 in
theorem mX9_left {l : Launch} {G : zG} {b : Nat} {M : zM} {n T : Nat} {ky ln : Nat → Nat} (hR : RR M n T ky ln) {x t : Int32} : zMet l G b yX9_left cX9_left 7 (some .int) 6 zshL zshL [.ref (b + 0), .int x, .int t] M (zI (qP (Flf (fun s => M 3 s 0 0) (fun s => M 3 s 0 1) (fun s => M 4 s 0) (hvF M (lastK ky 0 T)) n (cV M 0) x t) M)) := by
  refine zMet.of (L0 := [some (.ref (b + 0)), some (.int x), some (.int t), none, none, none, none]) (by decide +kernel) (Nat.le_refl _) (Nat.le_refl _) (Nat.le_of_ble_eq_true rfl) (List.forall_mem_cons.mpr ⟨rfl, List.forall_mem_cons.mpr ⟨rfl, List.forall_mem_cons.mpr ⟨rfl, fun _ h => absurd h List.not_mem_nil⟩⟩⟩) rfl (fun X C Al K => ?_)
  have n8 := hR.n8
  have hh := hvF_in M (lastK ky 0 T)
  have fin : ∀ (s z : Nat) (M1 : zM) (c1 c2 : Int32) (q6 : Option Value), s < 4 → z ≤ 24 → M 3 s 0 1 = nI z → zSc M M1 → Flf (fun s => M 3 s 0 0) (fun s => M 3 s 0 1) (fun s => M 4 s 0) (hvF M (lastK ky 0 T)) n (cV M 0) x t = (if t = 0 then c1 else c2) → zW X zshL M1 96 [some (.ref (b + 0)), some (.int x), some (.int t), some (.ref (b + adS s)), some (.int c1), some (.int c2), q6] [] := by
    intro s z M1 c1 c2 q6 hs hz24 hz hsc hF
    refine z_iload_n (pc := 96) C 2 dX9_left_96 rfl rfl ?_
    refine z_if_ne (pc := 97) C 105 dX9_left_97 (by decide) (fun c97 => ?_) (fun c97 => ?_)
    · refine z_iload (pc := 105) C 5 dX9_left_105 rfl ?_
      refine z_ireturn (pc := 107) C K dX9_left_107 ?_
      exact ⟨_, rfl, by rw [hF, if_neg c97], hsc⟩
    · refine z_iload (pc := 100) C 4 dX9_left_100 rfl ?_
      refine z_goto (pc := 102) C 107 dX9_left_102 (by decide) ?_
      refine z_ireturn (pc := 107) C K dX9_left_107 ?_
      exact ⟨_, rfl, by rw [hF, if_pos c97], hsc⟩
  have loop : ∀ (s z : Nat), s < 4 → z ≤ 24 → M 3 s 0 1 = nI z → 0 < n → Flf (fun s => M 3 s 0 0) (fun s => M 3 s 0 1) (fun s => M 4 s 0) (hvF M (lastK ky 0 T)) n (cV M 0) x t = (if t = 0 then (lfC (fun k => vLk (hvF M (lastK ky 0 T)) n (M 4 s 0) z 0 (vNum (cV M 0) (nI k))) 100).1 else (lfC (fun k => vLk (hvF M (lastK ky 0 T)) n (M 4 s 0) z 0 (vNum (cV M 0) (nI k))) 100).2) → ∀ (k d : Nat) (M1 : zM), d + k = 100 → zSc M M1 → zW X zshL M1 48 [some (.ref (b + 0)), some (.int x), some (.int t), some (.ref (b + adS s)), some (.int (lfC (fun k => vLk (hvF M (lastK ky 0 T)) n (M 4 s 0) z 0 (vNum (cV M 0) (nI k))) d).1), some (.int (lfC (fun k => vLk (hvF M (lastK ky 0 T)) n (M 4 s 0) z 0 (vNum (cV M 0) (nI k))) d).2), some (.int (99 - nI d))] [] := by
    intro s z hs hz24 hz hn hF k
    have hs9 : s < 9 := by omega
    induction k with
    | zero =>
      intro d M1 hd hsc
      obtain rfl : d = 100 := by omega
      refine z_iload (pc := 48) C 6 dX9_left_48 rfl ?_
      refine z_if_lt (pc := 50) C 96 dX9_left_50 (by decide) (fun c50 => ?_) (fun c50 => absurd n99e c50)
      exact fin s z M1 _ _ _ hs hz24 hz hsc hF
    | succ k ih =>
      intro d M1 hd hsc
      have hn1 : M1 5 0 0 2 = nI n := by rw [hsc.w]; exact hR.hn
      refine z_iload (pc := 48) C 6 dX9_left_48 rfl ?_
      rw [n99 (by omega)]
      refine z_if_lt (pc := 50) C 96 dX9_left_50 (by decide) (fun c50 => absurd c50 (nI_pos (by omega))) (fun c50 => ?_)
      refine z_aload_n (pc := 53) C 0 dX9_left_53 rfl rfl ?_
      refine z_getR (pc := 54) (r := adW 0) C dX9_left_54 fX9_21 sh_0 rfl ?_
      refine z_getI (pc := 57) C dX9_left_57 fX9_88 (shW lt0_14) rfl ?_
      rw [hn1]
      refine z_if_le (pc := 60) C 96 dX9_left_60 (by decide) (fun c60 => absurd c60 (nI_nle hn (by omega))) (fun c60 => ?_)
      refine z_aload_n (pc := 63) C 0 dX9_left_63 rfl rfl ?_
      refine z_getR (pc := 64) (r := 54) C dX9_left_64 fX9_31 sh_0 rfl ?_
      refine z_aload_n (pc := 67) C 0 dX9_left_67 rfl rfl ?_
      refine z_getR (pc := 68) (r := adW 0) C dX9_left_68 fX9_21 sh_0 rfl ?_
      refine z_callVr (pc := 71) C dX9_left_71 kX9_171 (mX7_begin2 hR hsc) (by decide) sh_54 rfl rfl rfl (Nat.le_of_ble_eq_true rfl) (fun r71 M71 h71 => ?_)
      obtain ⟨rfl, v71, i71, s71⟩ := h71
      refine z_iload (pc := 74) C 6 dX9_left_74 rfl ?_
      refine z_aload_n (pc := 76) C 3 dX9_left_76 rfl rfl ?_
      refine z_callVi (pc := 77) C dX9_left_77 kX9_199 (mX8_wouldAnswer (w := 2) (k := 99 - d) (s := s) (z := z) lt2_14 hh i71 (by omega) hs9 (by rw [s71 3 s 0 1 (by unfold scr; omega)]; exact hz) hz24) (by decide) (shW lt2_14) rfl rfl rfl (Nat.le_of_ble_eq_true rfl) (fun r77 M77 h77 => ?_)
      obtain ⟨h77, f77⟩ := h77
      have e4 : M71 4 s 0 = M 4 s 0 := funext fun j => s71 4 s 0 j (by unfold scr; omega)
      rw [e4] at h77
      have hPk : vLk (hvF M (lastK ky 0 T)) n (M 4 s 0) z 0 (vNum (cV M71 2) (nI (99 - d))) ↔ (fun k => vLk (hvF M (lastK ky 0 T)) n (M 4 s 0) z 0 (vNum (cV M 0) (nI k))) (99 - d) := vLk_c z 0 (vNum_c v71 _).v8 (fun _ _ _ => rfl)
      rw [hPk] at h77
      have s77 := s71.trans (f77.z (by decide) (by decide))
      refine z_if_eq (pc := 80) C 90 dX9_left_80 (by decide) (fun c80 => ?_) (fun c80 => ?_)
      · refine z_iinc (pc := 90) (v := -1) C 6 dX9_left_90 (by decide) rfl rfl rfl ?_
        refine z_goto (pc := 93) C 48 dX9_left_93 (by decide) ?_
        have e := ih (d + 1) M77 (by omega) s77
        rw [← n99s (by omega), n99 (by omega), lfC, zif_neg (h77.elim (fun z => absurd (z.1.symm.trans c80) (by decide)) (fun z => z.2))] at e
        exact e
      · refine z_iinc (pc := 83) (v := 1) C 4 dX9_left_83 (by decide) rfl rfl rfl ?_
        refine z_iload (pc := 86) C 6 dX9_left_86 rfl ?_
        refine z_istore (pc := 88) C 5 dX9_left_88 (by decide) rfl ?_
        refine z_iinc (pc := 90) (v := -1) C 6 dX9_left_90 (by decide) rfl rfl rfl ?_
        refine z_goto (pc := 93) C 48 dX9_left_93 (by decide) ?_
        have e := ih (d + 1) M77 (by omega) s77
        rw [← n99s (by omega), n99 (by omega), lfC, zif_pos (h77.elim (fun z => z.2) (fun z => absurd z.1 c80))] at e
        exact e
  refine z_iload_n (pc := 0) C 1 dX9_left_0 rfl rfl ?_
  refine z_callSi (pc := 1) C dX9_left_1 kX9_192 mX9_isSheet (by decide) rfl rfl (Nat.le_of_ble_eq_true rfl) (fun r1 M1 h1 => ?_)
  obtain ⟨h1, e1⟩ := h1
  subst M1
  refine z_if_eq (pc := 4) C 16 dX9_left_4 (by decide) (fun c4 => ?_) (fun c4 => ?_)
  · refine z_ldc (pc := 16) C q2_96 dX9_left_16 ?_
    refine z_ireturn (pc := 18) C K dX9_left_18 ?_
    exact ⟨_, rfl, by rw [Flf, zif_neg (fun q => h1.no c4 q.1)], zSc.rfl'⟩
  · refine z_iload_n (pc := 7) C 2 dX9_left_7 rfl rfl ?_
    refine z_if_lt (pc := 8) C 16 dX9_left_8 (by decide) (fun c8 => ?_) (fun c8 => ?_)
    · refine z_ldc (pc := 16) C q2_96 dX9_left_16 ?_
      refine z_ireturn (pc := 18) C K dX9_left_18 ?_
      exact ⟨_, rfl, by rw [Flf, zif_neg (by simp only [zi_lt, zi_le, zi_eq, i0, i1, i2, i3, i4, i5, i6, i9, i20, i99, i100, im5, im20, im1] at c8; unfold iin; omega)], zSc.rfl'⟩
    · refine z_iload_n (pc := 11) C 2 dX9_left_11 rfl rfl ?_
      refine z_iconst (pc := 12) (v := 1) C dX9_left_12 rfl ?_
      refine z_icmp_le (pc := 13) C 19 dX9_left_13 (by decide) (fun c13 => ?_) (fun c13 => ?_)
      · have ht : iin t 0 1 := by
          simp only [zi_lt, zi_le, zi_eq, i0, i1, i2, i3, i4, i5, i6, i9, i20, i99, i100, im5, im20, im1] at c8 c13
          unfold iin
          omega
        have hx := h1.yes c4
        obtain ⟨s, hs, rfl⟩ := iin_nI (n := 4) (by decide) hx
        have hs9 : s < 9 := by omega
        refine z_aload_n (pc := 19) C 0 dX9_left_19 rfl rfl ?_
        refine z_getR (pc := 20) (r := 208) C dX9_left_20 fX9_53 sh_0 rfl ?_
        refine z_iload_n (pc := 23) C 1 dX9_left_23 rfl rfl ?_
        refine z_aald (pc := 24) (r := adS s) C dX9_left_24 sh_208 rfl rfl (vp_in_nI hs (by decide)) (shget hs) ?_
        refine z_astore_n (pc := 25) C 3 dX9_left_25 rfl (by decide) rfl ?_
        refine z_aload_n (pc := 26) C 3 dX9_left_26 rfl rfl ?_
        refine z_getI (pc := 27) C dX9_left_27 fX9_195 (shS hs9) rfl ?_
        refine z_iconst (pc := 30) (v := -1) C dX9_left_30 rfl ?_
        refine z_icmp_ne (pc := 31) C 37 dX9_left_31 (by decide) (fun c31 => ?_) (fun c31 => ?_)
        · obtain ⟨w1, w2⟩ := hR.shR s hs
          replace w1 : iin (M 3 s 0 0) (-1) 1 := w1
          replace w2 : iin (M 3 s 0 1) 0 24 := w2
          obtain ⟨z, hz24, hz⟩ := iin_n w2 (by decide)
          have hso : ¬ M 3 s 0 0 < 0 := by
            unfold iin at w1
            rw [zi_eq, im1] at c31
            rw [zi_lt, i0]
            omega
          refine z_iconst (pc := 37) (v := 0) C dX9_left_37 rfl ?_
          refine z_istore (pc := 38) C 4 dX9_left_38 (by decide) rfl ?_
          refine z_ldc (pc := 40) C q3_64 dX9_left_40 ?_
          refine z_istore (pc := 42) C 5 dX9_left_42 (by decide) rfl ?_
          refine z_bipush (pc := 44) (v := 99) C dX9_left_44 rfl ?_
          refine z_istore (pc := 46) C 6 dX9_left_46 (by decide) rfl ?_
          by_cases hn : n = 0
          · refine z_iload (pc := 48) C 6 dX9_left_48 rfl ?_
            refine z_if_lt (pc := 50) C 96 dX9_left_50 (by decide) (fun c50 => absurd c50 (by decide)) (fun c50 => ?_)
            refine z_aload_n (pc := 53) C 0 dX9_left_53 rfl rfl ?_
            refine z_getR (pc := 54) (r := adW 0) C dX9_left_54 fX9_21 sh_0 rfl ?_
            refine z_getI (pc := 57) C dX9_left_57 fX9_88 (shW lt0_14) rfl ?_
            refine z_if_le (pc := 60) C 96 dX9_left_60 (by decide) (fun c60 => ?_) (fun c60 => absurd (show M 5 0 0 2 ≤ 0 by rw [hR.hn, hn]; decide) c60)
            exact fin s z M _ _ _ hs (by omega) hz zSc.rfl' (by rw [Flf, zif_pos ⟨hx, ht⟩, nI_clamp (n := s) (by omega), if_neg hso, if_pos hn, if_pos hn])
          · exact loop s z hs (by omega) hz (by omega) (by rw [Flf, zif_pos ⟨hx, ht⟩, nI_clamp (n := s) (by omega), if_neg hso, if_neg hn, if_neg hn, hz, nI_clamp (n := z) (by omega)]) 100 0 M (by omega) zSc.rfl'
        · refine z_ldc (pc := 34) C q3_100 dX9_left_34 ?_
          refine z_ireturn (pc := 36) C K dX9_left_36 ?_
          exact ⟨_, rfl, by rw [Flf, zif_pos ⟨hx, ht⟩, nI_clamp (by omega), if_pos (by rw [c31]; decide)], zSc.rfl'⟩
      · refine z_ldc (pc := 16) C q2_96 dX9_left_16 ?_
        refine z_ireturn (pc := 18) C K dX9_left_18 ?_
        exact ⟨_, rfl, by rw [Flf, zif_neg (by simp only [zi_lt, zi_le, zi_eq, i0, i1, i2, i3, i4, i5, i6, i9, i20, i99, i100, im5, im20, im1] at c8 c13; unfold iin; omega)], zSc.rfl'⟩

set_option maxHeartbeats 800000 in
set_option maxRecDepth 100000 in
theorem mX10_left {l : Launch} {G : zG} {b : Nat} {M : zM} {n T : Nat} {ky ln : Nat → Nat} (hR : RR M n T ky ln) {x t : Int32} : zMet l G b yX10_left cX10_left 7 (some .int) 7 zshL zshL [.ref (b + 239), .int x, .int t] M (zI (qP (Flf (fun s => M 44 0 0 s) (fun s => M 45 0 0 s) (fun s k => M 46 0 0 (24 * s + k)) (hvF M (lastK ky 0 T)) n (mV M 31) x t) M)) := by
  refine zMet.of (L0 := [some (.ref (b + 239)), some (.int x), some (.int t), none, none, none, none]) (by decide +kernel) (Nat.le_refl _) (Nat.le_refl _) (Nat.le_of_ble_eq_true rfl) (List.forall_mem_cons.mpr ⟨rfl, List.forall_mem_cons.mpr ⟨rfl, List.forall_mem_cons.mpr ⟨rfl, fun _ h => absurd h List.not_mem_nil⟩⟩⟩) rfl (fun X C Al K => ?_)
  have n8 := hR.n8
  have fin : ∀ (M1 : zM) (c1 c2 : Int32) (q5 q6 : Option Value), zSc M M1 → Flf (fun s => M 44 0 0 s) (fun s => M 45 0 0 s) (fun s k => M 46 0 0 (24 * s + k)) (hvF M (lastK ky 0 T)) n (mV M 31) x t = (if t = 0 then c1 else c2) → zW X zshL M1 97 [some (.ref (b + 239)), some (.int x), some (.int t), some (.int c1), some (.int c2), q5, q6] [] := by
    intro M1 c1 c2 q5 q6 hsc hF
    refine z_iload_n (pc := 97) C 2 dX10_left_97 rfl rfl ?_
    refine z_if_ne (pc := 98) C 105 dX10_left_98 (by decide) (fun c98 => ?_) (fun c98 => ?_)
    · refine z_iload (pc := 105) C 4 dX10_left_105 rfl ?_
      refine z_ireturn (pc := 107) C K dX10_left_107 ?_
      exact ⟨_, rfl, by rw [hF, if_neg c98], hsc⟩
    · refine z_iload_n (pc := 101) C 3 dX10_left_101 rfl rfl ?_
      refine z_goto (pc := 102) C 107 dX10_left_102 (by decide) ?_
      refine z_ireturn (pc := 107) C K dX10_left_107 ?_
      exact ⟨_, rfl, by rw [hF, if_pos c98], hsc⟩
  have loop : ∀ (s z : Nat), s < 4 → x = nI s → z ≤ 24 → M 45 0 0 s = nI z → 0 < n → Flf (fun s => M 44 0 0 s) (fun s => M 45 0 0 s) (fun s k => M 46 0 0 (24 * s + k)) (hvF M (lastK ky 0 T)) n (mV M 31) x t = (if t = 0 then (lfC (fun k => vLk (hvF M (lastK ky 0 T)) n (fun j => M 46 0 0 (24 * s + j)) z 0 (vNum (mV M 31) (nI k))) 100).1 else (lfC (fun k => vLk (hvF M (lastK ky 0 T)) n (fun j => M 46 0 0 (24 * s + j)) z 0 (vNum (mV M 31) (nI k))) 100).2) → ∀ (k d : Nat) (M1 : zM) (q6 : Option Value), d + k = 100 → mSc M M1 → zW X zshL M1 41 [some (.ref (b + 239)), some (.int x), some (.int t), some (.int (lfC (fun k => vLk (hvF M (lastK ky 0 T)) n (fun j => M 46 0 0 (24 * s + j)) z 0 (vNum (mV M 31) (nI k))) d).1), some (.int (lfC (fun k => vLk (hvF M (lastK ky 0 T)) n (fun j => M 46 0 0 (24 * s + j)) z 0 (vNum (mV M 31) (nI k))) d).2), some (.int (99 - nI d)), q6] [] := by
    intro s z hs hx hz24 hz hn hF k
    induction k with
    | zero =>
      intro d M1 q6 hd hsc
      obtain rfl : d = 100 := by omega
      refine z_iload (pc := 41) C 5 dX10_left_41 rfl ?_
      refine z_if_lt (pc := 43) C 97 dX10_left_43 (by decide) (fun c43 => ?_) (fun c43 => absurd n99e c43)
      exact fin M1 _ _ _ _ hsc.z hF
    | succ k ih =>
      intro d M1 q6 hd hsc
      have hn1 : M1 31 0 0 1 = nI n := by rw [hsc.1]; exact hR.hm
      have q8 : M1 8 = M 8 := hsc.2 8 (by decide) (by decide) (by decide) (by decide) (by decide)
      have q9 : M1 9 = M 9 := hsc.2 9 (by decide) (by decide) (by decide) (by decide) (by decide)
      have q46 : M1 46 = M 46 := hsc.2 46 (by decide) (by decide) (by decide) (by decide) (by decide)
      have rI1 : rI M1 n T ky ln := hR.rI.sc hsc.1 q8 q9
      refine z_iload (pc := 41) C 5 dX10_left_41 rfl ?_
      rw [n99 (by omega)]
      refine z_if_lt (pc := 43) C 97 dX10_left_43 (by decide) (fun c43 => absurd c43 (nI_pos (by omega))) (fun c43 => ?_)
      refine z_aload_n (pc := 46) C 0 dX10_left_46 rfl rfl ?_
      refine z_getR (pc := 47) (r := 240) C dX10_left_47 fX10_9 sh_239 rfl ?_
      refine z_iconst (pc := 50) (v := 1) C dX10_left_50 rfl ?_
      refine z_iald (pc := 51) (n := 1) C dX10_left_51 sh_240 (zi_in.mpr (by decide)) rfl ?_
      rw [hn1]
      refine z_if_le (pc := 52) C 97 dX10_left_52 (by decide) (fun c52 => absurd c52 (nI_nle hn (by omega))) (fun c52 => ?_)
      refine z_aload_n (pc := 55) C 0 dX10_left_55 rfl rfl ?_
      refine z_iload_n (pc := 56) C 1 dX10_left_56 rfl rfl ?_
      refine z_iload (pc := 57) C 5 dX10_left_57 rfl ?_
      rw [hx]
      refine z_callVi (pc := 59) C dX10_left_59 kX10_202 (mX10_answersBy rI1 (s := s) (z := z) (k := 99 - d) hs (by rw [hsc.2 45 (by decide) (by decide) (by decide) (by decide) (by decide)]; exact hz) hz24 (by omega)) (by decide) sh_239 rfl rfl rfl (Nat.le_of_ble_eq_true rfl) (fun r59 M59 h59 => ?_)
      obtain ⟨h59, s59⟩ := h59
      rw [hvF_c q8 q9, q46, mV_on (M := M) hsc.1] at h59
      replace h59 : (r59 = 1 ∧ (fun k => vLk (hvF M (lastK ky 0 T)) n (fun j => M 46 0 0 (24 * s + j)) z 0 (vNum (mV M 31) (nI k))) (99 - d)) ∨ (r59 = 0 ∧ ¬ (fun k => vLk (hvF M (lastK ky 0 T)) n (fun j => M 46 0 0 (24 * s + j)) z 0 (vNum (mV M 31) (nI k))) (99 - d)) := h59
      rw [← hx]
      refine z_istore (pc := 62) C 6 dX10_left_62 (by decide) rfl ?_
      refine z_iload_n (pc := 64) C 3 dX10_left_64 rfl rfl ?_
      refine z_iload (pc := 65) C 6 dX10_left_65 rfl ?_
      refine z_if_eq (pc := 67) C 74 dX10_left_67 (by decide) (fun c67 => ?_) (fun c67 => ?_)
      · refine z_iconst (pc := 74) (v := 0) C dX10_left_74 rfl ?_
        refine z_iadd (pc := 75) C dX10_left_75 ?_
        refine z_istore_n (pc := 76) C 3 dX10_left_76 rfl (by decide) rfl ?_
        refine z_iload (pc := 77) C 6 dX10_left_77 rfl ?_
        refine z_if_eq (pc := 79) C 87 dX10_left_79 (by decide) (fun c79 => ?_) (fun c79 => absurd c67 c79)
        refine z_iload (pc := 87) C 4 dX10_left_87 rfl ?_
        refine z_istore (pc := 89) C 4 dX10_left_89 (by decide) rfl ?_
        refine z_iinc (pc := 91) (v := -1) C 5 dX10_left_91 (by decide) rfl rfl rfl ?_
        refine z_goto (pc := 94) C 41 dX10_left_94 (by decide) ?_
        have e := ih (d + 1) M59 (some (.int r59)) (by omega) (hsc.trans s59)
        rw [← n99s (by omega), n99 (by omega), lfC, zif_neg (h59.elim (fun z => absurd (z.1.symm.trans c67) (by decide)) (fun z => z.2))] at e
        rw [Int32.add_zero]
        exact e
      · refine z_iconst (pc := 70) (v := 1) C dX10_left_70 rfl ?_
        refine z_goto (pc := 71) C 75 dX10_left_71 (by decide) ?_
        refine z_iadd (pc := 75) C dX10_left_75 ?_
        refine z_istore_n (pc := 76) C 3 dX10_left_76 rfl (by decide) rfl ?_
        refine z_iload (pc := 77) C 6 dX10_left_77 rfl ?_
        refine z_if_eq (pc := 79) C 87 dX10_left_79 (by decide) (fun c79 => absurd c79 c67) (fun c79 => ?_)
        refine z_iload (pc := 82) C 5 dX10_left_82 rfl ?_
        refine z_goto (pc := 84) C 89 dX10_left_84 (by decide) ?_
        refine z_istore (pc := 89) C 4 dX10_left_89 (by decide) rfl ?_
        refine z_iinc (pc := 91) (v := -1) C 5 dX10_left_91 (by decide) rfl rfl rfl ?_
        refine z_goto (pc := 94) C 41 dX10_left_94 (by decide) ?_
        have e := ih (d + 1) M59 (some (.int r59)) (by omega) (hsc.trans s59)
        rw [← n99s (by omega), n99 (by omega), lfC, zif_pos (h59.elim (fun z => z.2) (fun z => absurd z.1 c67))] at e
        exact e
  refine z_iload_n (pc := 0) C 1 dX10_left_0 rfl rfl ?_
  refine z_callSi (pc := 1) C dX10_left_1 kX10_198 mX10_isSheet (by decide) rfl rfl (Nat.le_of_ble_eq_true rfl) (fun r1 M1 h1 => ?_)
  obtain ⟨h1, e1⟩ := h1
  subst M1
  refine z_if_eq (pc := 4) C 16 dX10_left_4 (by decide) (fun c4 => ?_) (fun c4 => ?_)
  · refine z_ldc (pc := 16) C q5_48 dX10_left_16 ?_
    refine z_ireturn (pc := 18) C K dX10_left_18 ?_
    exact ⟨_, rfl, by rw [Flf, zif_neg (fun q => h1.no c4 q.1)], zSc.rfl'⟩
  · refine z_iload_n (pc := 7) C 2 dX10_left_7 rfl rfl ?_
    refine z_iconst (pc := 8) (v := 0) C dX10_left_8 rfl ?_
    refine z_iconst (pc := 9) (v := 1) C dX10_left_9 rfl ?_
    refine z_callSi (pc := 10) C dX10_left_10 kX10_78 mX10_in (by decide) rfl rfl (Nat.le_of_ble_eq_true rfl) (fun r10 M10 h10 => ?_)
    obtain ⟨h10, e10⟩ := h10
    subst M10
    replace h10 : zb r10 (iin t (0) (1)) := zin_b (by decide) (by decide) h10
    refine z_if_ne (pc := 13) C 19 dX10_left_13 (by decide) (fun c13 => ?_) (fun c13 => ?_)
    · have ht := h10.yes c13
      have hx := h1.yes c4
      obtain ⟨s, hs, rfl⟩ := iin_nI (n := 4) (by decide) hx
      have hs9 : s < 9 := by omega
      refine z_aload_n (pc := 19) C 0 dX10_left_19 rfl rfl ?_
      refine z_getR (pc := 20) (r := 253) C dX10_left_20 fX10_51 sh_239 rfl ?_
      refine z_iload_n (pc := 23) C 1 dX10_left_23 rfl rfl ?_
      refine z_iald (pc := 24) (n := s) C dX10_left_24 sh_253 (vp_in_nI (by omega) (by decide)) (nI_clamp (by omega)) ?_
      refine z_if_ge (pc := 25) C 31 dX10_left_25 (by decide) (fun c25 => ?_) (fun c25 => ?_)
      · obtain ⟨g1, g2, g3, g4, g5⟩ := hR.RE s hs
        obtain ⟨z, hz24, hz⟩ := iin_n g4 (by decide)
        have hso : ¬ M 44 0 0 s < 0 := (znn _).mp c25
        refine z_iconst (pc := 31) (v := 0) C dX10_left_31 rfl ?_
        refine z_istore_n (pc := 32) C 3 dX10_left_32 rfl (by decide) rfl ?_
        refine z_ldc (pc := 33) C q5_211 dX10_left_33 ?_
        refine z_istore (pc := 35) C 4 dX10_left_35 (by decide) rfl ?_
        refine z_bipush (pc := 37) (v := 99) C dX10_left_37 rfl ?_
        refine z_istore (pc := 39) C 5 dX10_left_39 (by decide) rfl ?_
        by_cases hn : n = 0
        · refine z_iload (pc := 41) C 5 dX10_left_41 rfl ?_
          refine z_if_lt (pc := 43) C 97 dX10_left_43 (by decide) (fun c43 => absurd c43 (by decide)) (fun c43 => ?_)
          refine z_aload_n (pc := 46) C 0 dX10_left_46 rfl rfl ?_
          refine z_getR (pc := 47) (r := 240) C dX10_left_47 fX10_9 sh_239 rfl ?_
          refine z_iconst (pc := 50) (v := 1) C dX10_left_50 rfl ?_
          refine z_iald (pc := 51) (n := 1) C dX10_left_51 sh_240 (zi_in.mpr (by decide)) rfl ?_
          refine z_if_le (pc := 52) C 97 dX10_left_52 (by decide) (fun c52 => ?_) (fun c52 => absurd (show M 31 0 0 1 ≤ 0 by rw [hR.hm, hn]; decide) c52)
          exact fin M _ _ _ _ zSc.rfl' (by rw [Flf, zif_pos ⟨hx, ht⟩, nI_clamp (n := s) (by omega), if_neg hso, if_pos hn, if_pos hn])
        · exact loop s z hs rfl (by omega) hz (by omega) (by rw [Flf, zif_pos ⟨hx, ht⟩, nI_clamp (n := s) (by omega), if_neg hso, if_neg hn, if_neg hn, hz, nI_clamp (n := z) (by omega)]) 100 0 M none (by omega) mSc.rfl'
      · refine z_ldc (pc := 28) C q6_15 dX10_left_28 ?_
        refine z_ireturn (pc := 30) C K dX10_left_30 ?_
        exact ⟨_, rfl, by rw [Flf, zif_pos ⟨hx, ht⟩, nI_clamp (by omega), if_pos (Int32.not_le.mp c25)], zSc.rfl'⟩
    · refine z_ldc (pc := 16) C q5_48 dX10_left_16 ?_
      refine z_ireturn (pc := 18) C K dX10_left_18 ?_
      exact ⟨_, rfl, by rw [Flf, zif_neg (fun q => h10.no c13 q.2)], zSc.rfl'⟩

theorem op_left {l : Launch} {G : zG} {b : Nat} {M : zM} (hM : Rel M) {x t : Int32} : opOK l G b yX9_left cX9_left 7 6 yX10_left cX10_left 7 7 [.int x, .int t] M := by
  obtain ⟨n, T, ky, ln, hR⟩ := hM
  refine ⟨_, mX9_left hR, fun r M1 h1 => ?_⟩
  obtain ⟨rfl, h1⟩ := h1
  have hR1 := hR.sc h1
  refine zI.post (mX10_left hR1) (fun s M2 h2 => ?_)
  obtain ⟨rfl, h2⟩ := h2
  refine ⟨?_, _, _, _, _, hR1.sc h2⟩
  have hc : ∀ s, s < 4 → (fun s => M1 44 0 0 s) s = (fun s => M 3 s 0 0) s ∧ (fun s => M1 45 0 0 s) s = (fun s => M 3 s 0 1) s := fun s hs => by
    obtain ⟨g1, g2, g3, g4, g5⟩ := hR.RE s hs
    show M1 44 0 0 s = M 3 s 0 0 ∧ M1 45 0 0 s = M 3 s 0 1
    rw [h1 44 0 0 s (by unfold scr; omega), h1 45 0 0 s (by unfold scr; omega)]
    exact ⟨g1.symm, g3.symm⟩
  have hg : ∀ s k, s < 4 → k < 24 → (fun s k => M1 46 0 0 (24 * s + k)) s k = (fun s => M 4 s 0) s k := fun s k hs hk => by
    show M1 46 0 0 (24 * s + k) = M 4 s 0 k
    rw [h1 46 0 0 _ (by unfold scr; omega)]
    exact ((hR.RE s hs).2.2.2.2 k hk).symm
  rw [hvF_sc h1 hR.TX]
  exact Flf_c hR.shR hc hg (by
    have e : veq n (mV M1 31) (cV M1 0) := hR1.1.2.1.symm
    rw [h1.cV] at e
    exact e) _ _