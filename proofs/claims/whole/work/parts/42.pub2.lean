/-! public methods: the world, further -/
def Ssays : Nat → zVw → Int32 → Nat → zVw → Prop := fun n V r n' V' => rf (pVoice V.2 n (V.1 4)) n V r n' V'
theorem Ssays_ok : Sok Ssays := by
  intro n V W h g t r n' V' s m' W' h1 h2
  unfold Ssays at h1 h2
  rw [← pVoice_c h.2, ← h.1 4 (by decide) (by decide)] at h2
  exact rf.ok h g t h1 h2
def Ssafe (t v : Int32) : Nat → zVw → Int32 → Nat → zVw → Prop := fun n V r n' V' => (¬ wMay t v ∧ rf (-1000000001) n V r n' V') ∨ (wMay t v ∧ ∃ f, f < 5 ∧ t = nI f ∧ r = V.1 (3 + f) ∧ n' = n ∧ V' = vF V (3 + f) v)
theorem wMay_f {t v : Int32} (h : wMay t v) : t = 0 ∨ t = 1 ∨ t = 2 ∨ t = 3 ∨ t = 4 := by
  unfold wMay at h
  simp only [zi_eq, i0, i1, i2, i3, i4]
  omega
theorem vF_ok {n : Nat} {V : zVw} (g : vOK n V) {t v : Int32} (m : wMay t v) {f : Nat} (hf : f < 5) (e : t = nI f) : vOK n (vF V (3 + f) v) := by
  have ef : t.toInt = f := by rw [e]; exact nI_toInt (by omega)
  obtain ⟨g0, g1, g2, g3, g4, g5, g6, g7⟩ := g
  unfold wMay iin at m
  rcases (show f = 0 ∨ f = 1 ∨ f = 2 ∨ f = 3 ∨ f = 4 by omega) with rfl | rfl | rfl | rfl | rfl
  · exact ⟨g0, g1, g2, (by show 0 ≤ v.toInt ∧ v.toInt ≤ 99; omega), g4, g5, g6, g7⟩
  · exact ⟨g0, g1, g2, g3, (by show 0 ≤ v.toInt ∧ v.toInt ≤ 2; omega), g5, g6, g7⟩
  · exact ⟨g0, g1, g2, g3, g4, (by show -5 ≤ v.toInt ∧ v.toInt ≤ 5; omega), g6, g7⟩
  · exact ⟨g0, g1, g2, g3, g4, g5, (by show 0 ≤ v.toInt ∧ v.toInt ≤ 99; omega), g7⟩
  · exact ⟨g0, g1, g2, g3, g4, g5, g6, (by show v = 0 ∨ v = 1; simp only [zi_eq, i0, i1]; omega)⟩
theorem Ssafe_ok (t v : Int32) : Sok (Ssafe t v) := by
  intro n V W h g tt r n' V' s m' W' h1 h2
  have n8 := g.2.1
  rcases h1 with ⟨a, h1⟩ | ⟨a, f, hf, rfl, rfl, rfl, rfl⟩ <;> rcases h2 with ⟨c, h2⟩ | ⟨c, f', hf', d', rfl, rfl, rfl⟩
  · exact rf.ok h g tt h1 h2
  · exact absurd c a
  · exact absurd a c
  · obtain rfl := nI_inj' (by omega) (by omega) d'
    refine ⟨h.1 _ (by omega) (by omega), rfl, vF_c h _ v, vF_ok g a hf rfl, if_neg (by omega), ?_⟩
    show tOK (if 8 = 3 + f then v else V.1 8)
    rw [if_neg (by omega)]
    exact tt
set_option maxHeartbeats 4000000 in
set_option maxRecDepth 100000 in
theorem mX9_says {l : Launch} {G : zG} {b : Nat} {M : zM} {n T : Nat} {ky ln : Nat → Nat} (hR : RR M n T ky ln) : zMet l G b yX9_says cX9_says 1 (some .int) 3 zshL zshL [.ref (b + 0)] M (zI (cSt Ssays n M)) := by
  refine zMet.of (L0 := [some (.ref (b + 0))]) (by decide +kernel) (Nat.le_refl _) (Nat.le_refl _) (Nat.le_of_ble_eq_true rfl) (List.forall_mem_cons.mpr ⟨rfl, fun _ h => absurd h List.not_mem_nil⟩) rfl (fun X C Al K => ?_)
  refine z_aload_n (pc := 0) C 0 dX9_says_0 rfl rfl ?_
  refine z_getR (pc := 1) (r := adW 0) C dX9_says_1 fX9_21 sh_0 rfl ?_
  refine z_callVi (pc := 4) C dX9_says_4 kX9_161 (mX8_voice lt0_14 hR.hn hR.n8) (by decide) (shW lt0_14) rfl rfl rfl (Nat.le_of_ble_eq_true rfl) (fun r4 M4 h4 => ?_)
  obtain ⟨rfl, e4⟩ := h4
  subst M4
  refine z_ireturn (pc := 7) C K dX9_says_7 ?_
  exact ⟨_, rfl, n, cV M 0, ⟨rfl, rfl, rfl⟩, veq.rfl', cFr.rfl'⟩

set_option maxHeartbeats 4000000 in
set_option maxRecDepth 100000 in
theorem mX10_says {l : Launch} {G : zG} {b : Nat} {M : zM} {n T : Nat} {ky ln : Nat → Nat} (hI : rI M n T ky ln) : zMet l G b yX10_says cX10_says 1 (some .int) 4 zshL zshL [.ref (b + 239)] M (zI (mSt Ssays n M)) := by
  refine zMet.of (L0 := [some (.ref (b + 239))]) (by decide +kernel) (Nat.le_refl _) (Nat.le_refl _) (Nat.le_of_ble_eq_true rfl) (List.forall_mem_cons.mpr ⟨rfl, fun _ h => absurd h List.not_mem_nil⟩) rfl (fun X C Al K => ?_)
  refine z_aload_n (pc := 0) C 0 dX10_says_0 rfl rfl ?_
  refine z_callVi (pc := 1) C dX10_says_1 kX10_155 (mX10_saysNow hI.1.1 hI.1.2.1 hI.1.2.2.1) (by decide) sh_239 rfl rfl rfl (Nat.le_of_ble_eq_true rfl) (fun r1 M1 h1 => ?_)
  obtain ⟨rfl, e1⟩ := h1
  subst M1
  refine z_ireturn (pc := 4) C K dX10_says_4 ?_
  exact ⟨_, rfl, n, mV M 31, ⟨rfl, rfl, rfl⟩, veq.rfl', mFr.rfl'⟩

set_option maxHeartbeats 4000000 in
set_option maxRecDepth 100000 in
theorem mX9_safe {l : Launch} {G : zG} {b : Nat} {M : zM} {n T : Nat} {ky ln : Nat → Nat} (hR : RR M n T ky ln) {t v : Int32} : zMet l G b yX9_safe cX9_safe 4 (some .int) 1 zshL zshL [.ref (b + 0), .int t, .int v] M (zI (cSt (Ssafe t v) n M)) := by
  refine zMet.of (L0 := [some (.ref (b + 0)), some (.int t), some (.int v), none]) (by decide +kernel) (Nat.le_refl _) (Nat.le_refl _) (Nat.le_of_ble_eq_true rfl) (List.forall_mem_cons.mpr ⟨rfl, List.forall_mem_cons.mpr ⟨rfl, List.forall_mem_cons.mpr ⟨rfl, fun _ h => absurd h List.not_mem_nil⟩⟩⟩) rfl (fun X C Al K => ?_)
  refine z_iload_n (pc := 0) C 1 dX9_safe_0 rfl rfl ?_
  refine z_iload_n (pc := 1) C 2 dX9_safe_1 rfl rfl ?_
  refine z_callSi (pc := 2) C dX9_safe_2 kX9_156 mX8_mayBe (by decide) rfl rfl (Nat.le_of_ble_eq_true rfl) (fun r2 M2 h2 => ?_)
  obtain ⟨h2, e2⟩ := h2
  subst M2
  refine z_if_ne (pc := 5) C 11 dX9_safe_5 (by decide) (fun c5 => ?_) (fun c5 => ?_)
  · refine z_aload_n (pc := 11) C 0 dX9_safe_11 rfl rfl ?_
    refine z_getR (pc := 12) (r := adW 0) C dX9_safe_12 fX9_21 sh_0 rfl ?_
    refine z_iload_n (pc := 15) C 1 dX9_safe_15 rfl rfl ?_
    refine z_callVi (pc := 16) C dX9_safe_16 kX9_157 (mX8_part lt0_14) (by decide) (shW lt0_14) rfl rfl rfl (Nat.le_of_ble_eq_true rfl) (fun r16 M16 h16 => ?_)
    obtain ⟨rfl, e16⟩ := h16
    subst M16
    refine z_istore_n (pc := 19) C 3 dX9_safe_19 rfl (by decide) rfl ?_
    refine z_aload_n (pc := 20) C 0 dX9_safe_20 rfl rfl ?_
    refine z_getR (pc := 21) (r := adW 0) C dX9_safe_21 fX9_21 sh_0 rfl ?_
    refine z_iload_n (pc := 24) C 1 dX9_safe_24 rfl rfl ?_
    refine z_iload_n (pc := 25) C 2 dX9_safe_25 rfl rfl ?_
    refine z_callVv (pc := 26) C dX9_safe_26 kX9_160 (mX8_change lt0_14) (by decide) (shW lt0_14) rfl rfl rfl (Nat.le_of_ble_eq_true rfl) (fun M26 h26 => ?_)
    subst M26
    refine z_iload_n (pc := 29) C 3 dX9_safe_29 rfl rfl ?_
    refine z_ireturn (pc := 30) C K dX9_safe_30 ?_
    have hm := h2.yes c5
    have h7 : M 5 0 0 7 = 0 ∨ M 5 0 0 7 = 1 := hR.1.1.2.2.2.2.2.2.2
    rcases wMay_f hm with rfl | rfl | rfl | rfl | rfl
    · exact ⟨_, rfl, n, vF (cV M 0) 3 v, Or.inr ⟨hm, 0, by decide, rfl, rfl, rfl, rfl⟩, by show veq n (cV (zu M 5 0 0 3 v) 0) _; rw [cV_zu5]; exact veq.rfl', cFr_5 _ _ _ _⟩
    · exact ⟨_, rfl, n, vF (cV M 0) 4 v, Or.inr ⟨hm, 1, by decide, rfl, rfl, rfl, rfl⟩, by show veq n (cV (zu M 5 0 0 4 v) 0) _; rw [cV_zu5]; exact veq.rfl', cFr_5 _ _ _ _⟩
    · exact ⟨_, rfl, n, vF (cV M 0) 5 v, Or.inr ⟨hm, 2, by decide, rfl, rfl, rfl, rfl⟩, by show veq n (cV (zu M 5 0 0 5 v) 0) _; rw [cV_zu5]; exact veq.rfl', cFr_5 _ _ _ _⟩
    · exact ⟨_, rfl, n, vF (cV M 0) 6 v, Or.inr ⟨hm, 3, by decide, rfl, rfl, rfl, rfl⟩, by show veq n (cV (zu M 5 0 0 6 v) 0) _; rw [cV_zu5]; exact veq.rfl', cFr_5 _ _ _ _⟩
    · have ev : (if v = 1 then 1 else 0 : Int32) = v := by
        unfold wMay iin at hm
        simp only [i4] at hm
        rcases (show v = 0 ∨ v = 1 by simp only [zi_eq, i0, i1]; omega) with rfl | rfl <;> decide
      refine ⟨_, rfl, n, vF (cV M 0) 7 v, Or.inr ⟨hm, 4, by decide, rfl, b01_id h7, rfl, rfl⟩, ?_, ?_⟩
      · show veq n (cV (zu M 5 0 0 7 (if v = 1 then 1 else 0)) 0) _
        rw [ev, cV_zu5]
        exact veq.rfl'
      · show cFr M (zu M 5 0 0 7 (if v = 1 then 1 else 0)) 0
        exact cFr_5 _ _ _ _
  · refine z_ldc (pc := 8) C q2_96 dX9_safe_8 ?_
    refine z_ireturn (pc := 10) C K dX9_safe_10 ?_
    exact ⟨_, rfl, n, cV M 0, Or.inl ⟨h2.no c5, rfl, rfl, rfl⟩, veq.rfl', cFr.rfl'⟩

theorem idx3 {f : Nat} (h : f < 5) : (3 : Int32) + nI f = nI (3 + f) ∧ mm (3 + f) = 3 + f := by
  rcases (show f = 0 ∨ f = 1 ∨ f = 2 ∨ f = 3 ∨ f = 4 by omega) with rfl | rfl | rfl | rfl | rfl <;> decide
set_option maxHeartbeats 4000000 in
set_option maxRecDepth 100000 in
theorem mX10_safe {l : Launch} {G : zG} {b : Nat} {M : zM} {n T : Nat} {ky ln : Nat → Nat} (hI : rI M n T ky ln) {t v : Int32} : zMet l G b yX10_safe cX10_safe 3 (some .int) 1 zshL zshL [.ref (b + 239), .int t, .int v] M (zI (mSt (Ssafe t v) n M)) := by
  refine zMet.of (L0 := [some (.ref (b + 239)), some (.int t), some (.int v)]) (by decide +kernel) (Nat.le_refl _) (Nat.le_refl _) (Nat.le_of_ble_eq_true rfl) (List.forall_mem_cons.mpr ⟨rfl, List.forall_mem_cons.mpr ⟨rfl, List.forall_mem_cons.mpr ⟨rfl, fun _ h => absurd h List.not_mem_nil⟩⟩⟩) rfl (fun X C Al K => ?_)
  refine z_iload_n (pc := 0) C 1 dX10_safe_0 rfl rfl ?_
  refine z_iconst (pc := 1) (v := 0) C dX10_safe_1 rfl ?_
  refine z_iconst (pc := 2) (v := 4) C dX10_safe_2 rfl ?_
  refine z_callSi (pc := 3) C dX10_safe_3 kX10_78 mX10_in (by decide) rfl rfl (Nat.le_of_ble_eq_true rfl) (fun r3 M3 h3 => ?_)
  obtain ⟨h3, e3⟩ := h3
  subst M3
  replace h3 : zb r3 (iin t (0) (4)) := zin_b (by decide) (by decide) h3
  refine z_if_eq (pc := 6) C 60 dX10_safe_6 (by decide) (fun c6 => ?_) (fun c6 => ?_)
  · refine z_ldc (pc := 60) C q5_48 dX10_safe_60 ?_
    refine z_ireturn (pc := 62) C K dX10_safe_62 ?_
    have hno : ¬ wMay t v := by
      have q := h3.no c6
      unfold iin at q
      unfold wMay
      omega
    exact ⟨_, rfl, n, mV M 31, Or.inl ⟨hno, rfl, rfl, rfl⟩, veq.rfl', mFr.rfl'⟩
  · refine z_iload_n (pc := 9) C 2 dX10_safe_9 rfl rfl ?_
    refine z_iload_n (pc := 10) C 1 dX10_safe_10 rfl rfl ?_
    refine z_iconst (pc := 11) (v := 2) C dX10_safe_11 rfl ?_
    refine z_icmp_ne (pc := 12) C 20 dX10_safe_12 (by decide) (fun c12 => ?_) (fun c12 => ?_)
    · refine z_iconst (pc := 20) (v := 0) C dX10_safe_20 rfl ?_
      refine z_iload_n (pc := 21) C 1 dX10_safe_21 rfl rfl ?_
      refine z_if_eq (pc := 22) C 30 dX10_safe_22 (by decide) (fun c22 => ?_) (fun c22 => ?_)
      · refine z_bipush (pc := 30) (v := 99) C dX10_safe_30 rfl ?_
        refine z_goto (pc := 32) C 54 dX10_safe_32 (by decide) ?_
        refine z_callSi (pc := 54) C dX10_safe_54 kX10_78 mX10_in (by decide) rfl rfl (Nat.le_of_ble_eq_true rfl) (fun r54 M54 h54 => ?_)
        obtain ⟨h54, e54⟩ := h54
        subst M54
        replace h54 := zin_b rfl rfl h54
        refine z_if_ne (pc := 57) C 63 dX10_safe_57 (by decide) (fun c57 => ?_) (fun c57 => ?_)
        · have hm : wMay t v := by
            have q := h54.yes c57
            have q3 := h3.yes c6
            simp only [zi_lt, zi_le, zi_eq, i0, i1, i2, i3, i4, i5, i6, i9, i20, i99, i100, im5, im20, im1] at c12 c22
            unfold iin at q q3
            simp only [zi_lt, zi_le, zi_eq, i0, i1, i2, i3, i4, i5, i6, i9, i20, i99, i100, im5, im20, im1] at q
            unfold wMay iin
            omega
          obtain ⟨f, hf, rfl⟩ : ∃ f, f < 5 ∧ t = nI f := by
            rcases wMay_f hm with rfl | rfl | rfl | rfl | rfl
            · exact ⟨0, by decide, rfl⟩
            · exact ⟨1, by decide, rfl⟩
            · exact ⟨2, by decide, rfl⟩
            · exact ⟨3, by decide, rfl⟩
            · exact ⟨4, by decide, rfl⟩
          refine z_aload_n (pc := 63) C 0 dX10_safe_63 rfl rfl ?_
          refine z_iconst (pc := 64) (v := 3) C dX10_safe_64 rfl ?_
          refine z_iload_n (pc := 65) C 1 dX10_safe_65 rfl rfl ?_
          refine z_iadd (pc := 66) C dX10_safe_66 ?_
          rw [(idx3 hf).1]
          refine z_iload_n (pc := 67) C 2 dX10_safe_67 rfl rfl ?_
          refine z_callVi (pc := 68) C dX10_safe_68 kX10_122 (mX10_becomes (k := 3 + f) (by omega)) (by decide) sh_239 rfl rfl rfl (Nat.le_of_ble_eq_true rfl) (fun r68 M68 h68 => ?_)
          obtain ⟨rfl, e68⟩ := h68
          subst M68
          refine z_ireturn (pc := 71) C K dX10_safe_71 ?_
          refine ⟨_, rfl, n, vF (mV M 31) (3 + f) v, Or.inr ⟨hm, f, hf, rfl, ?_, rfl, rfl⟩, ?_, mFr_zu M (by omega) v⟩
          · show M 31 0 0 (3 + f) = M 31 0 0 (mm (3 + f))
            rw [(idx3 hf).2]
          · have e := mV_zu M (n := n) (k := 3 + f) (by omega) (by omega) v
            rw [(idx3 hf).2] at e
            exact e
        · refine z_ldc (pc := 60) C q5_48 dX10_safe_60 ?_
          refine z_ireturn (pc := 62) C K dX10_safe_62 ?_
          have hno : ¬ wMay t v := by
            have q := h54.no c57
            have q3 := h3.yes c6
            simp only [zi_lt, zi_le, zi_eq, i0, i1, i2, i3, i4, i5, i6, i9, i20, i99, i100, im5, im20, im1] at c12 c22
            unfold iin at q q3
            simp only [zi_lt, zi_le, zi_eq, i0, i1, i2, i3, i4, i5, i6, i9, i20, i99, i100, im5, im20, im1] at q
            unfold wMay iin
            omega
          exact ⟨_, rfl, n, mV M 31, Or.inl ⟨hno, rfl, rfl, rfl⟩, veq.rfl', mFr.rfl'⟩
      · refine z_iload_n (pc := 25) C 1 dX10_safe_25 rfl rfl ?_
        refine z_iconst (pc := 26) (v := 3) C dX10_safe_26 rfl ?_
        refine z_icmp_ne (pc := 27) C 35 dX10_safe_27 (by decide) (fun c27 => ?_) (fun c27 => ?_)
        · refine z_iload_n (pc := 35) C 1 dX10_safe_35 rfl rfl ?_
          refine z_iconst (pc := 36) (v := 1) C dX10_safe_36 rfl ?_
          refine z_icmp_ne (pc := 37) C 44 dX10_safe_37 (by decide) (fun c37 => ?_) (fun c37 => ?_)
          · refine z_iload_n (pc := 44) C 1 dX10_safe_44 rfl rfl ?_
            refine z_iconst (pc := 45) (v := 2) C dX10_safe_45 rfl ?_
            refine z_icmp_ne (pc := 46) C 53 dX10_safe_46 (by decide) (fun c46 => ?_) (fun c46 => ?_)
            · refine z_iconst (pc := 53) (v := 1) C dX10_safe_53 rfl ?_
              refine z_callSi (pc := 54) C dX10_safe_54 kX10_78 mX10_in (by decide) rfl rfl (Nat.le_of_ble_eq_true rfl) (fun r54 M54 h54 => ?_)
              obtain ⟨h54, e54⟩ := h54
              subst M54
              replace h54 := zin_b rfl rfl h54
              refine z_if_ne (pc := 57) C 63 dX10_safe_57 (by decide) (fun c57 => ?_) (fun c57 => ?_)
              · have hm : wMay t v := by
                  have q := h54.yes c57
                  have q3 := h3.yes c6
                  simp only [zi_lt, zi_le, zi_eq, i0, i1, i2, i3, i4, i5, i6, i9, i20, i99, i100, im5, im20, im1] at c12 c22 c27 c37 c46
                  unfold iin at q q3
                  simp only [zi_lt, zi_le, zi_eq, i0, i1, i2, i3, i4, i5, i6, i9, i20, i99, i100, im5, im20, im1] at q
                  unfold wMay iin
                  omega
                obtain ⟨f, hf, rfl⟩ : ∃ f, f < 5 ∧ t = nI f := by
                  rcases wMay_f hm with rfl | rfl | rfl | rfl | rfl
                  · exact ⟨0, by decide, rfl⟩
                  · exact ⟨1, by decide, rfl⟩
                  · exact ⟨2, by decide, rfl⟩
                  · exact ⟨3, by decide, rfl⟩
                  · exact ⟨4, by decide, rfl⟩
                refine z_aload_n (pc := 63) C 0 dX10_safe_63 rfl rfl ?_
                refine z_iconst (pc := 64) (v := 3) C dX10_safe_64 rfl ?_
                refine z_iload_n (pc := 65) C 1 dX10_safe_65 rfl rfl ?_
                refine z_iadd (pc := 66) C dX10_safe_66 ?_
                rw [(idx3 hf).1]
                refine z_iload_n (pc := 67) C 2 dX10_safe_67 rfl rfl ?_
                refine z_callVi (pc := 68) C dX10_safe_68 kX10_122 (mX10_becomes (k := 3 + f) (by omega)) (by decide) sh_239 rfl rfl rfl (Nat.le_of_ble_eq_true rfl) (fun r68 M68 h68 => ?_)
                obtain ⟨rfl, e68⟩ := h68
                subst M68
                refine z_ireturn (pc := 71) C K dX10_safe_71 ?_
                refine ⟨_, rfl, n, vF (mV M 31) (3 + f) v, Or.inr ⟨hm, f, hf, rfl, ?_, rfl, rfl⟩, ?_, mFr_zu M (by omega) v⟩
                · show M 31 0 0 (3 + f) = M 31 0 0 (mm (3 + f))
                  rw [(idx3 hf).2]
                · have e := mV_zu M (n := n) (k := 3 + f) (by omega) (by omega) v
                  rw [(idx3 hf).2] at e
                  exact e
              · refine z_ldc (pc := 60) C q5_48 dX10_safe_60 ?_
                refine z_ireturn (pc := 62) C K dX10_safe_62 ?_
                have hno : ¬ wMay t v := by
                  have q := h54.no c57
                  have q3 := h3.yes c6
                  simp only [zi_lt, zi_le, zi_eq, i0, i1, i2, i3, i4, i5, i6, i9, i20, i99, i100, im5, im20, im1] at c12 c22 c27 c37 c46
                  unfold iin at q q3
                  simp only [zi_lt, zi_le, zi_eq, i0, i1, i2, i3, i4, i5, i6, i9, i20, i99, i100, im5, im20, im1] at q
                  unfold wMay iin
                  omega
                exact ⟨_, rfl, n, mV M 31, Or.inl ⟨hno, rfl, rfl, rfl⟩, veq.rfl', mFr.rfl'⟩
            · refine z_iconst (pc := 49) (v := 5) C dX10_safe_49 rfl ?_
              refine z_goto (pc := 50) C 54 dX10_safe_50 (by decide) ?_
              refine z_callSi (pc := 54) C dX10_safe_54 kX10_78 mX10_in (by decide) rfl rfl (Nat.le_of_ble_eq_true rfl) (fun r54 M54 h54 => ?_)
              obtain ⟨h54, e54⟩ := h54
              subst M54
              replace h54 := zin_b rfl rfl h54
              refine z_if_ne (pc := 57) C 63 dX10_safe_57 (by decide) (fun c57 => ?_) (fun c57 => ?_)
              · have hm : wMay t v := by
                  have q := h54.yes c57
                  have q3 := h3.yes c6
                  simp only [zi_lt, zi_le, zi_eq, i0, i1, i2, i3, i4, i5, i6, i9, i20, i99, i100, im5, im20, im1] at c12 c22 c27 c37 c46
                  unfold iin at q q3
                  simp only [zi_lt, zi_le, zi_eq, i0, i1, i2, i3, i4, i5, i6, i9, i20, i99, i100, im5, im20, im1] at q
                  unfold wMay iin
                  omega
                obtain ⟨f, hf, rfl⟩ : ∃ f, f < 5 ∧ t = nI f := by
                  rcases wMay_f hm with rfl | rfl | rfl | rfl | rfl
                  · exact ⟨0, by decide, rfl⟩
                  · exact ⟨1, by decide, rfl⟩
                  · exact ⟨2, by decide, rfl⟩
                  · exact ⟨3, by decide, rfl⟩
                  · exact ⟨4, by decide, rfl⟩
                refine z_aload_n (pc := 63) C 0 dX10_safe_63 rfl rfl ?_
                refine z_iconst (pc := 64) (v := 3) C dX10_safe_64 rfl ?_
                refine z_iload_n (pc := 65) C 1 dX10_safe_65 rfl rfl ?_
                refine z_iadd (pc := 66) C dX10_safe_66 ?_
                rw [(idx3 hf).1]
                refine z_iload_n (pc := 67) C 2 dX10_safe_67 rfl rfl ?_
                refine z_callVi (pc := 68) C dX10_safe_68 kX10_122 (mX10_becomes (k := 3 + f) (by omega)) (by decide) sh_239 rfl rfl rfl (Nat.le_of_ble_eq_true rfl) (fun r68 M68 h68 => ?_)
                obtain ⟨rfl, e68⟩ := h68
                subst M68
                refine z_ireturn (pc := 71) C K dX10_safe_71 ?_
                refine ⟨_, rfl, n, vF (mV M 31) (3 + f) v, Or.inr ⟨hm, f, hf, rfl, ?_, rfl, rfl⟩, ?_, mFr_zu M (by omega) v⟩
                · show M 31 0 0 (3 + f) = M 31 0 0 (mm (3 + f))
                  rw [(idx3 hf).2]
                · have e := mV_zu M (n := n) (k := 3 + f) (by omega) (by omega) v
                  rw [(idx3 hf).2] at e
                  exact e
              · refine z_ldc (pc := 60) C q5_48 dX10_safe_60 ?_
                refine z_ireturn (pc := 62) C K dX10_safe_62 ?_
                have hno : ¬ wMay t v := by
                  have q := h54.no c57
                  have q3 := h3.yes c6
                  simp only [zi_lt, zi_le, zi_eq, i0, i1, i2, i3, i4, i5, i6, i9, i20, i99, i100, im5, im20, im1] at c12 c22 c27 c37 c46
                  unfold iin at q q3
                  simp only [zi_lt, zi_le, zi_eq, i0, i1, i2, i3, i4, i5, i6, i9, i20, i99, i100, im5, im20, im1] at q
                  unfold wMay iin
                  omega
                exact ⟨_, rfl, n, mV M 31, Or.inl ⟨hno, rfl, rfl, rfl⟩, veq.rfl', mFr.rfl'⟩
          · refine z_iconst (pc := 40) (v := 2) C dX10_safe_40 rfl ?_
            refine z_goto (pc := 41) C 54 dX10_safe_41 (by decide) ?_
            refine z_callSi (pc := 54) C dX10_safe_54 kX10_78 mX10_in (by decide) rfl rfl (Nat.le_of_ble_eq_true rfl) (fun r54 M54 h54 => ?_)
            obtain ⟨h54, e54⟩ := h54
            subst M54
            replace h54 := zin_b rfl rfl h54
            refine z_if_ne (pc := 57) C 63 dX10_safe_57 (by decide) (fun c57 => ?_) (fun c57 => ?_)
            · have hm : wMay t v := by
                have q := h54.yes c57
                have q3 := h3.yes c6
                simp only [zi_lt, zi_le, zi_eq, i0, i1, i2, i3, i4, i5, i6, i9, i20, i99, i100, im5, im20, im1] at c12 c22 c27 c37
                unfold iin at q q3
                simp only [zi_lt, zi_le, zi_eq, i0, i1, i2, i3, i4, i5, i6, i9, i20, i99, i100, im5, im20, im1] at q
                unfold wMay iin
                omega
              obtain ⟨f, hf, rfl⟩ : ∃ f, f < 5 ∧ t = nI f := by
                rcases wMay_f hm with rfl | rfl | rfl | rfl | rfl
                · exact ⟨0, by decide, rfl⟩
                · exact ⟨1, by decide, rfl⟩
                · exact ⟨2, by decide, rfl⟩
                · exact ⟨3, by decide, rfl⟩
                · exact ⟨4, by decide, rfl⟩
              refine z_aload_n (pc := 63) C 0 dX10_safe_63 rfl rfl ?_
              refine z_iconst (pc := 64) (v := 3) C dX10_safe_64 rfl ?_
              refine z_iload_n (pc := 65) C 1 dX10_safe_65 rfl rfl ?_
              refine z_iadd (pc := 66) C dX10_safe_66 ?_
              rw [(idx3 hf).1]
              refine z_iload_n (pc := 67) C 2 dX10_safe_67 rfl rfl ?_
              refine z_callVi (pc := 68) C dX10_safe_68 kX10_122 (mX10_becomes (k := 3 + f) (by omega)) (by decide) sh_239 rfl rfl rfl (Nat.le_of_ble_eq_true rfl) (fun r68 M68 h68 => ?_)
              obtain ⟨rfl, e68⟩ := h68
              subst M68
              refine z_ireturn (pc := 71) C K dX10_safe_71 ?_
              refine ⟨_, rfl, n, vF (mV M 31) (3 + f) v, Or.inr ⟨hm, f, hf, rfl, ?_, rfl, rfl⟩, ?_, mFr_zu M (by omega) v⟩
              · show M 31 0 0 (3 + f) = M 31 0 0 (mm (3 + f))
                rw [(idx3 hf).2]
              · have e := mV_zu M (n := n) (k := 3 + f) (by omega) (by omega) v
                rw [(idx3 hf).2] at e
                exact e
            · refine z_ldc (pc := 60) C q5_48 dX10_safe_60 ?_
              refine z_ireturn (pc := 62) C K dX10_safe_62 ?_
              have hno : ¬ wMay t v := by
                have q := h54.no c57
                have q3 := h3.yes c6
                simp only [zi_lt, zi_le, zi_eq, i0, i1, i2, i3, i4, i5, i6, i9, i20, i99, i100, im5, im20, im1] at c12 c22 c27 c37
                unfold iin at q q3
                simp only [zi_lt, zi_le, zi_eq, i0, i1, i2, i3, i4, i5, i6, i9, i20, i99, i100, im5, im20, im1] at q
                unfold wMay iin
                omega
              exact ⟨_, rfl, n, mV M 31, Or.inl ⟨hno, rfl, rfl, rfl⟩, veq.rfl', mFr.rfl'⟩
        · refine z_bipush (pc := 30) (v := 99) C dX10_safe_30 rfl ?_
          refine z_goto (pc := 32) C 54 dX10_safe_32 (by decide) ?_
          refine z_callSi (pc := 54) C dX10_safe_54 kX10_78 mX10_in (by decide) rfl rfl (Nat.le_of_ble_eq_true rfl) (fun r54 M54 h54 => ?_)
          obtain ⟨h54, e54⟩ := h54
          subst M54
          replace h54 := zin_b rfl rfl h54
          refine z_if_ne (pc := 57) C 63 dX10_safe_57 (by decide) (fun c57 => ?_) (fun c57 => ?_)
          · have hm : wMay t v := by
              have q := h54.yes c57
              have q3 := h3.yes c6
              simp only [zi_lt, zi_le, zi_eq, i0, i1, i2, i3, i4, i5, i6, i9, i20, i99, i100, im5, im20, im1] at c12 c22 c27
              unfold iin at q q3
              simp only [zi_lt, zi_le, zi_eq, i0, i1, i2, i3, i4, i5, i6, i9, i20, i99, i100, im5, im20, im1] at q
              unfold wMay iin
              omega
            obtain ⟨f, hf, rfl⟩ : ∃ f, f < 5 ∧ t = nI f := by
              rcases wMay_f hm with rfl | rfl | rfl | rfl | rfl
              · exact ⟨0, by decide, rfl⟩
              · exact ⟨1, by decide, rfl⟩
              · exact ⟨2, by decide, rfl⟩
              · exact ⟨3, by decide, rfl⟩
              · exact ⟨4, by decide, rfl⟩
            refine z_aload_n (pc := 63) C 0 dX10_safe_63 rfl rfl ?_
            refine z_iconst (pc := 64) (v := 3) C dX10_safe_64 rfl ?_
            refine z_iload_n (pc := 65) C 1 dX10_safe_65 rfl rfl ?_
            refine z_iadd (pc := 66) C dX10_safe_66 ?_
            rw [(idx3 hf).1]
            refine z_iload_n (pc := 67) C 2 dX10_safe_67 rfl rfl ?_
            refine z_callVi (pc := 68) C dX10_safe_68 kX10_122 (mX10_becomes (k := 3 + f) (by omega)) (by decide) sh_239 rfl rfl rfl (Nat.le_of_ble_eq_true rfl) (fun r68 M68 h68 => ?_)
            obtain ⟨rfl, e68⟩ := h68
            subst M68
            refine z_ireturn (pc := 71) C K dX10_safe_71 ?_
            refine ⟨_, rfl, n, vF (mV M 31) (3 + f) v, Or.inr ⟨hm, f, hf, rfl, ?_, rfl, rfl⟩, ?_, mFr_zu M (by omega) v⟩
            · show M 31 0 0 (3 + f) = M 31 0 0 (mm (3 + f))
              rw [(idx3 hf).2]
            · have e := mV_zu M (n := n) (k := 3 + f) (by omega) (by omega) v
              rw [(idx3 hf).2] at e
              exact e
          · refine z_ldc (pc := 60) C q5_48 dX10_safe_60 ?_
            refine z_ireturn (pc := 62) C K dX10_safe_62 ?_
            have hno : ¬ wMay t v := by
              have q := h54.no c57
              have q3 := h3.yes c6
              simp only [zi_lt, zi_le, zi_eq, i0, i1, i2, i3, i4, i5, i6, i9, i20, i99, i100, im5, im20, im1] at c12 c22 c27
              unfold iin at q q3
              simp only [zi_lt, zi_le, zi_eq, i0, i1, i2, i3, i4, i5, i6, i9, i20, i99, i100, im5, im20, im1] at q
              unfold wMay iin
              omega
            exact ⟨_, rfl, n, mV M 31, Or.inl ⟨hno, rfl, rfl, rfl⟩, veq.rfl', mFr.rfl'⟩
    · refine z_bipush (pc := 15) (v := -5) C dX10_safe_15 rfl ?_
      refine z_goto (pc := 17) C 21 dX10_safe_17 (by decide) ?_
      refine z_iload_n (pc := 21) C 1 dX10_safe_21 rfl rfl ?_
      refine z_if_eq (pc := 22) C 30 dX10_safe_22 (by decide) (fun c22 => ?_) (fun c22 => ?_)
      · refine z_bipush (pc := 30) (v := 99) C dX10_safe_30 rfl ?_
        refine z_goto (pc := 32) C 54 dX10_safe_32 (by decide) ?_
        refine z_callSi (pc := 54) C dX10_safe_54 kX10_78 mX10_in (by decide) rfl rfl (Nat.le_of_ble_eq_true rfl) (fun r54 M54 h54 => ?_)
        obtain ⟨h54, e54⟩ := h54
        subst M54
        replace h54 := zin_b rfl rfl h54
        refine z_if_ne (pc := 57) C 63 dX10_safe_57 (by decide) (fun c57 => ?_) (fun c57 => ?_)
        · have hm : wMay t v := by
            have q := h54.yes c57
            have q3 := h3.yes c6
            simp only [zi_lt, zi_le, zi_eq, i0, i1, i2, i3, i4, i5, i6, i9, i20, i99, i100, im5, im20, im1] at c12 c22
            unfold iin at q q3
            simp only [zi_lt, zi_le, zi_eq, i0, i1, i2, i3, i4, i5, i6, i9, i20, i99, i100, im5, im20, im1] at q
            unfold wMay iin
            omega
          obtain ⟨f, hf, rfl⟩ : ∃ f, f < 5 ∧ t = nI f := by
            rcases wMay_f hm with rfl | rfl | rfl | rfl | rfl
            · exact ⟨0, by decide, rfl⟩
            · exact ⟨1, by decide, rfl⟩
            · exact ⟨2, by decide, rfl⟩
            · exact ⟨3, by decide, rfl⟩
            · exact ⟨4, by decide, rfl⟩
          refine z_aload_n (pc := 63) C 0 dX10_safe_63 rfl rfl ?_
          refine z_iconst (pc := 64) (v := 3) C dX10_safe_64 rfl ?_
          refine z_iload_n (pc := 65) C 1 dX10_safe_65 rfl rfl ?_
          refine z_iadd (pc := 66) C dX10_safe_66 ?_
          rw [(idx3 hf).1]
          refine z_iload_n (pc := 67) C 2 dX10_safe_67 rfl rfl ?_
          refine z_callVi (pc := 68) C dX10_safe_68 kX10_122 (mX10_becomes (k := 3 + f) (by omega)) (by decide) sh_239 rfl rfl rfl (Nat.le_of_ble_eq_true rfl) (fun r68 M68 h68 => ?_)
          obtain ⟨rfl, e68⟩ := h68
          subst M68
          refine z_ireturn (pc := 71) C K dX10_safe_71 ?_
          refine ⟨_, rfl, n, vF (mV M 31) (3 + f) v, Or.inr ⟨hm, f, hf, rfl, ?_, rfl, rfl⟩, ?_, mFr_zu M (by omega) v⟩
          · show M 31 0 0 (3 + f) = M 31 0 0 (mm (3 + f))
            rw [(idx3 hf).2]
          · have e := mV_zu M (n := n) (k := 3 + f) (by omega) (by omega) v
            rw [(idx3 hf).2] at e
            exact e
        · refine z_ldc (pc := 60) C q5_48 dX10_safe_60 ?_
          refine z_ireturn (pc := 62) C K dX10_safe_62 ?_
          have hno : ¬ wMay t v := by
            have q := h54.no c57
            have q3 := h3.yes c6
            simp only [zi_lt, zi_le, zi_eq, i0, i1, i2, i3, i4, i5, i6, i9, i20, i99, i100, im5, im20, im1] at c12 c22
            unfold iin at q q3
            simp only [zi_lt, zi_le, zi_eq, i0, i1, i2, i3, i4, i5, i6, i9, i20, i99, i100, im5, im20, im1] at q
            unfold wMay iin
            omega
          exact ⟨_, rfl, n, mV M 31, Or.inl ⟨hno, rfl, rfl, rfl⟩, veq.rfl', mFr.rfl'⟩
      · refine z_iload_n (pc := 25) C 1 dX10_safe_25 rfl rfl ?_
        refine z_iconst (pc := 26) (v := 3) C dX10_safe_26 rfl ?_
        refine z_icmp_ne (pc := 27) C 35 dX10_safe_27 (by decide) (fun c27 => ?_) (fun c27 => ?_)
        · refine z_iload_n (pc := 35) C 1 dX10_safe_35 rfl rfl ?_
          refine z_iconst (pc := 36) (v := 1) C dX10_safe_36 rfl ?_
          refine z_icmp_ne (pc := 37) C 44 dX10_safe_37 (by decide) (fun c37 => ?_) (fun c37 => ?_)
          · refine z_iload_n (pc := 44) C 1 dX10_safe_44 rfl rfl ?_
            refine z_iconst (pc := 45) (v := 2) C dX10_safe_45 rfl ?_
            refine z_icmp_ne (pc := 46) C 53 dX10_safe_46 (by decide) (fun c46 => ?_) (fun c46 => ?_)
            · refine z_iconst (pc := 53) (v := 1) C dX10_safe_53 rfl ?_
              refine z_callSi (pc := 54) C dX10_safe_54 kX10_78 mX10_in (by decide) rfl rfl (Nat.le_of_ble_eq_true rfl) (fun r54 M54 h54 => ?_)
              obtain ⟨h54, e54⟩ := h54
              subst M54
              replace h54 := zin_b rfl rfl h54
              refine z_if_ne (pc := 57) C 63 dX10_safe_57 (by decide) (fun c57 => ?_) (fun c57 => ?_)
              · have hm : wMay t v := by
                  have q := h54.yes c57
                  have q3 := h3.yes c6
                  simp only [zi_lt, zi_le, zi_eq, i0, i1, i2, i3, i4, i5, i6, i9, i20, i99, i100, im5, im20, im1] at c12 c22 c27 c37 c46
                  unfold iin at q q3
                  simp only [zi_lt, zi_le, zi_eq, i0, i1, i2, i3, i4, i5, i6, i9, i20, i99, i100, im5, im20, im1] at q
                  unfold wMay iin
                  omega
                obtain ⟨f, hf, rfl⟩ : ∃ f, f < 5 ∧ t = nI f := by
                  rcases wMay_f hm with rfl | rfl | rfl | rfl | rfl
                  · exact ⟨0, by decide, rfl⟩
                  · exact ⟨1, by decide, rfl⟩
                  · exact ⟨2, by decide, rfl⟩
                  · exact ⟨3, by decide, rfl⟩
                  · exact ⟨4, by decide, rfl⟩
                refine z_aload_n (pc := 63) C 0 dX10_safe_63 rfl rfl ?_
                refine z_iconst (pc := 64) (v := 3) C dX10_safe_64 rfl ?_
                refine z_iload_n (pc := 65) C 1 dX10_safe_65 rfl rfl ?_
                refine z_iadd (pc := 66) C dX10_safe_66 ?_
                rw [(idx3 hf).1]
                refine z_iload_n (pc := 67) C 2 dX10_safe_67 rfl rfl ?_
                refine z_callVi (pc := 68) C dX10_safe_68 kX10_122 (mX10_becomes (k := 3 + f) (by omega)) (by decide) sh_239 rfl rfl rfl (Nat.le_of_ble_eq_true rfl) (fun r68 M68 h68 => ?_)
                obtain ⟨rfl, e68⟩ := h68
                subst M68
                refine z_ireturn (pc := 71) C K dX10_safe_71 ?_
                refine ⟨_, rfl, n, vF (mV M 31) (3 + f) v, Or.inr ⟨hm, f, hf, rfl, ?_, rfl, rfl⟩, ?_, mFr_zu M (by omega) v⟩
                · show M 31 0 0 (3 + f) = M 31 0 0 (mm (3 + f))
                  rw [(idx3 hf).2]
                · have e := mV_zu M (n := n) (k := 3 + f) (by omega) (by omega) v
                  rw [(idx3 hf).2] at e
                  exact e
              · refine z_ldc (pc := 60) C q5_48 dX10_safe_60 ?_
                refine z_ireturn (pc := 62) C K dX10_safe_62 ?_
                have hno : ¬ wMay t v := by
                  have q := h54.no c57
                  have q3 := h3.yes c6
                  simp only [zi_lt, zi_le, zi_eq, i0, i1, i2, i3, i4, i5, i6, i9, i20, i99, i100, im5, im20, im1] at c12 c22 c27 c37 c46
                  unfold iin at q q3
                  simp only [zi_lt, zi_le, zi_eq, i0, i1, i2, i3, i4, i5, i6, i9, i20, i99, i100, im5, im20, im1] at q
                  unfold wMay iin
                  omega
                exact ⟨_, rfl, n, mV M 31, Or.inl ⟨hno, rfl, rfl, rfl⟩, veq.rfl', mFr.rfl'⟩
            · refine z_iconst (pc := 49) (v := 5) C dX10_safe_49 rfl ?_
              refine z_goto (pc := 50) C 54 dX10_safe_50 (by decide) ?_
              refine z_callSi (pc := 54) C dX10_safe_54 kX10_78 mX10_in (by decide) rfl rfl (Nat.le_of_ble_eq_true rfl) (fun r54 M54 h54 => ?_)
              obtain ⟨h54, e54⟩ := h54
              subst M54
              replace h54 := zin_b rfl rfl h54
              refine z_if_ne (pc := 57) C 63 dX10_safe_57 (by decide) (fun c57 => ?_) (fun c57 => ?_)
              · have hm : wMay t v := by
                  have q := h54.yes c57
                  have q3 := h3.yes c6
                  simp only [zi_lt, zi_le, zi_eq, i0, i1, i2, i3, i4, i5, i6, i9, i20, i99, i100, im5, im20, im1] at c12 c22 c27 c37 c46
                  unfold iin at q q3
                  simp only [zi_lt, zi_le, zi_eq, i0, i1, i2, i3, i4, i5, i6, i9, i20, i99, i100, im5, im20, im1] at q
                  unfold wMay iin
                  omega
                obtain ⟨f, hf, rfl⟩ : ∃ f, f < 5 ∧ t = nI f := by
                  rcases wMay_f hm with rfl | rfl | rfl | rfl | rfl
                  · exact ⟨0, by decide, rfl⟩
                  · exact ⟨1, by decide, rfl⟩
                  · exact ⟨2, by decide, rfl⟩
                  · exact ⟨3, by decide, rfl⟩
                  · exact ⟨4, by decide, rfl⟩
                refine z_aload_n (pc := 63) C 0 dX10_safe_63 rfl rfl ?_
                refine z_iconst (pc := 64) (v := 3) C dX10_safe_64 rfl ?_
                refine z_iload_n (pc := 65) C 1 dX10_safe_65 rfl rfl ?_
                refine z_iadd (pc := 66) C dX10_safe_66 ?_
                rw [(idx3 hf).1]
                refine z_iload_n (pc := 67) C 2 dX10_safe_67 rfl rfl ?_
                refine z_callVi (pc := 68) C dX10_safe_68 kX10_122 (mX10_becomes (k := 3 + f) (by omega)) (by decide) sh_239 rfl rfl rfl (Nat.le_of_ble_eq_true rfl) (fun r68 M68 h68 => ?_)
                obtain ⟨rfl, e68⟩ := h68
                subst M68
                refine z_ireturn (pc := 71) C K dX10_safe_71 ?_
                refine ⟨_, rfl, n, vF (mV M 31) (3 + f) v, Or.inr ⟨hm, f, hf, rfl, ?_, rfl, rfl⟩, ?_, mFr_zu M (by omega) v⟩
                · show M 31 0 0 (3 + f) = M 31 0 0 (mm (3 + f))
                  rw [(idx3 hf).2]
                · have e := mV_zu M (n := n) (k := 3 + f) (by omega) (by omega) v
                  rw [(idx3 hf).2] at e
                  exact e
              · refine z_ldc (pc := 60) C q5_48 dX10_safe_60 ?_
                refine z_ireturn (pc := 62) C K dX10_safe_62 ?_
                have hno : ¬ wMay t v := by
                  have q := h54.no c57
                  have q3 := h3.yes c6
                  simp only [zi_lt, zi_le, zi_eq, i0, i1, i2, i3, i4, i5, i6, i9, i20, i99, i100, im5, im20, im1] at c12 c22 c27 c37 c46
                  unfold iin at q q3
                  simp only [zi_lt, zi_le, zi_eq, i0, i1, i2, i3, i4, i5, i6, i9, i20, i99, i100, im5, im20, im1] at q
                  unfold wMay iin
                  omega
                exact ⟨_, rfl, n, mV M 31, Or.inl ⟨hno, rfl, rfl, rfl⟩, veq.rfl', mFr.rfl'⟩
          · refine z_iconst (pc := 40) (v := 2) C dX10_safe_40 rfl ?_
            refine z_goto (pc := 41) C 54 dX10_safe_41 (by decide) ?_
            refine z_callSi (pc := 54) C dX10_safe_54 kX10_78 mX10_in (by decide) rfl rfl (Nat.le_of_ble_eq_true rfl) (fun r54 M54 h54 => ?_)
            obtain ⟨h54, e54⟩ := h54
            subst M54
            replace h54 := zin_b rfl rfl h54
            refine z_if_ne (pc := 57) C 63 dX10_safe_57 (by decide) (fun c57 => ?_) (fun c57 => ?_)
            · have hm : wMay t v := by
                have q := h54.yes c57
                have q3 := h3.yes c6
                simp only [zi_lt, zi_le, zi_eq, i0, i1, i2, i3, i4, i5, i6, i9, i20, i99, i100, im5, im20, im1] at c12 c22 c27 c37
                unfold iin at q q3
                simp only [zi_lt, zi_le, zi_eq, i0, i1, i2, i3, i4, i5, i6, i9, i20, i99, i100, im5, im20, im1] at q
                unfold wMay iin
                omega
              obtain ⟨f, hf, rfl⟩ : ∃ f, f < 5 ∧ t = nI f := by
                rcases wMay_f hm with rfl | rfl | rfl | rfl | rfl
                · exact ⟨0, by decide, rfl⟩
                · exact ⟨1, by decide, rfl⟩
                · exact ⟨2, by decide, rfl⟩
                · exact ⟨3, by decide, rfl⟩
                · exact ⟨4, by decide, rfl⟩
              refine z_aload_n (pc := 63) C 0 dX10_safe_63 rfl rfl ?_
              refine z_iconst (pc := 64) (v := 3) C dX10_safe_64 rfl ?_
              refine z_iload_n (pc := 65) C 1 dX10_safe_65 rfl rfl ?_
              refine z_iadd (pc := 66) C dX10_safe_66 ?_
              rw [(idx3 hf).1]
              refine z_iload_n (pc := 67) C 2 dX10_safe_67 rfl rfl ?_
              refine z_callVi (pc := 68) C dX10_safe_68 kX10_122 (mX10_becomes (k := 3 + f) (by omega)) (by decide) sh_239 rfl rfl rfl (Nat.le_of_ble_eq_true rfl) (fun r68 M68 h68 => ?_)
              obtain ⟨rfl, e68⟩ := h68
              subst M68
              refine z_ireturn (pc := 71) C K dX10_safe_71 ?_
              refine ⟨_, rfl, n, vF (mV M 31) (3 + f) v, Or.inr ⟨hm, f, hf, rfl, ?_, rfl, rfl⟩, ?_, mFr_zu M (by omega) v⟩
              · show M 31 0 0 (3 + f) = M 31 0 0 (mm (3 + f))
                rw [(idx3 hf).2]
              · have e := mV_zu M (n := n) (k := 3 + f) (by omega) (by omega) v
                rw [(idx3 hf).2] at e
                exact e
            · refine z_ldc (pc := 60) C q5_48 dX10_safe_60 ?_
              refine z_ireturn (pc := 62) C K dX10_safe_62 ?_
              have hno : ¬ wMay t v := by
                have q := h54.no c57
                have q3 := h3.yes c6
                simp only [zi_lt, zi_le, zi_eq, i0, i1, i2, i3, i4, i5, i6, i9, i20, i99, i100, im5, im20, im1] at c12 c22 c27 c37
                unfold iin at q q3
                simp only [zi_lt, zi_le, zi_eq, i0, i1, i2, i3, i4, i5, i6, i9, i20, i99, i100, im5, im20, im1] at q
                unfold wMay iin
                omega
              exact ⟨_, rfl, n, mV M 31, Or.inl ⟨hno, rfl, rfl, rfl⟩, veq.rfl', mFr.rfl'⟩
        · refine z_bipush (pc := 30) (v := 99) C dX10_safe_30 rfl ?_
          refine z_goto (pc := 32) C 54 dX10_safe_32 (by decide) ?_
          refine z_callSi (pc := 54) C dX10_safe_54 kX10_78 mX10_in (by decide) rfl rfl (Nat.le_of_ble_eq_true rfl) (fun r54 M54 h54 => ?_)
          obtain ⟨h54, e54⟩ := h54
          subst M54
          replace h54 := zin_b rfl rfl h54
          refine z_if_ne (pc := 57) C 63 dX10_safe_57 (by decide) (fun c57 => ?_) (fun c57 => ?_)
          · have hm : wMay t v := by
              have q := h54.yes c57
              have q3 := h3.yes c6
              simp only [zi_lt, zi_le, zi_eq, i0, i1, i2, i3, i4, i5, i6, i9, i20, i99, i100, im5, im20, im1] at c12 c22 c27
              unfold iin at q q3
              simp only [zi_lt, zi_le, zi_eq, i0, i1, i2, i3, i4, i5, i6, i9, i20, i99, i100, im5, im20, im1] at q
              unfold wMay iin
              omega
            obtain ⟨f, hf, rfl⟩ : ∃ f, f < 5 ∧ t = nI f := by
              rcases wMay_f hm with rfl | rfl | rfl | rfl | rfl
              · exact ⟨0, by decide, rfl⟩
              · exact ⟨1, by decide, rfl⟩
              · exact ⟨2, by decide, rfl⟩
              · exact ⟨3, by decide, rfl⟩
              · exact ⟨4, by decide, rfl⟩
            refine z_aload_n (pc := 63) C 0 dX10_safe_63 rfl rfl ?_
            refine z_iconst (pc := 64) (v := 3) C dX10_safe_64 rfl ?_
            refine z_iload_n (pc := 65) C 1 dX10_safe_65 rfl rfl ?_
            refine z_iadd (pc := 66) C dX10_safe_66 ?_
            rw [(idx3 hf).1]
            refine z_iload_n (pc := 67) C 2 dX10_safe_67 rfl rfl ?_
            refine z_callVi (pc := 68) C dX10_safe_68 kX10_122 (mX10_becomes (k := 3 + f) (by omega)) (by decide) sh_239 rfl rfl rfl (Nat.le_of_ble_eq_true rfl) (fun r68 M68 h68 => ?_)
            obtain ⟨rfl, e68⟩ := h68
            subst M68
            refine z_ireturn (pc := 71) C K dX10_safe_71 ?_
            refine ⟨_, rfl, n, vF (mV M 31) (3 + f) v, Or.inr ⟨hm, f, hf, rfl, ?_, rfl, rfl⟩, ?_, mFr_zu M (by omega) v⟩
            · show M 31 0 0 (3 + f) = M 31 0 0 (mm (3 + f))
              rw [(idx3 hf).2]
            · have e := mV_zu M (n := n) (k := 3 + f) (by omega) (by omega) v
              rw [(idx3 hf).2] at e
              exact e
          · refine z_ldc (pc := 60) C q5_48 dX10_safe_60 ?_
            refine z_ireturn (pc := 62) C K dX10_safe_62 ?_
            have hno : ¬ wMay t v := by
              have q := h54.no c57
              have q3 := h3.yes c6
              simp only [zi_lt, zi_le, zi_eq, i0, i1, i2, i3, i4, i5, i6, i9, i20, i99, i100, im5, im20, im1] at c12 c22 c27
              unfold iin at q q3
              simp only [zi_lt, zi_le, zi_eq, i0, i1, i2, i3, i4, i5, i6, i9, i20, i99, i100, im5, im20, im1] at q
              unfold wMay iin
              omega
            exact ⟨_, rfl, n, mV M 31, Or.inl ⟨hno, rfl, rfl, rfl⟩, veq.rfl', mFr.rfl'⟩

def gPer (k d w : Int32) : Prop := iin k 0 5 ∧ iin d 0 99 ∧ iin w 1 9
def Spers (k d w : Int32) : Nat → zVw → Int32 → Nat → zVw → Prop := fun n V r n' V' => (¬ gPer k d w ∧ rf (-1000000001) n V r n' V') ∨ (gPer k d w ∧ n = 8 ∧ rf (-1000000003) n V r n' V') ∨ (gPer k d w ∧ n < 8 ∧ r = nI n ∧ n' = n + 1 ∧ V' = vNew V n k d w 0)
theorem vNew_ok {n : Nat} {V : zVw} (g : vOK n V) (h : n < 8) {k d w e : Int32} (p : gPer k d w) (he : iin e (-20) 20) : vOK (n + 1) (vNew V n k d w e) := by
  refine ⟨rfl, h, fun j hj => ?_, g.2.2.2⟩
  show pOK (fun c => if j = n then pNew k d w e c else V.2 j c)
  by_cases q : j = n
  · simp only [q, if_true]
    exact ⟨p.1, p.2.1, p.2.2, he, (show 0 ≤ (0 : Int32).toInt ∧ (0 : Int32).toInt ≤ 99 from by decide), (show 0 ≤ (99 : Int32).toInt ∧ (99 : Int32).toInt ≤ 99 from by decide), Or.inr rfl⟩
  · simp only [q, if_false]
    exact g.2.2.1 j (by omega)
theorem Spers_ok (k d w : Int32) : Sok (Spers k d w) := by
  intro n V W h g t r n' V' s m' W' h1 h2
  have n8 := g.2.1
  rcases h1 with ⟨a, h1⟩ | ⟨a, rfl, h1⟩ | ⟨a, a2, rfl, rfl, rfl⟩ <;> rcases h2 with ⟨c, h2⟩ | ⟨c, c2, h2⟩ | ⟨c, c2, rfl, rfl, rfl⟩
  · exact rf.ok h g t h1 h2
  · exact absurd c a
  · exact absurd c a
  · exact absurd a c
  · exact rf.ok h g t h1 h2
  · exact absurd c2 (by decide)
  · exact absurd a c
  · omega
  · exact ⟨rfl, rfl, vNew_c h k d w 0, vNew_ok g a2 a ⟨by decide, by decide⟩, rfl, t⟩
theorem pMay_1 {v : Int32} : pMay 1 v ↔ iin v 0 99 := by
  unfold pMay iin
  have e := i1
  omega
theorem pMay_2 {v : Int32} : pMay 2 v ↔ iin v 1 9 := by
  unfold pMay iin
  have e := i2
  omega
theorem cV_wel (M : zM) {n : Nat} (k d g e : Int32) : veq (n + 1) (cV (zu (pPut M 0 n (fun f => if f < 7 then pNew k d g e f else M 1 0 n f)) 5 0 0 2 (nI (n + 1))) 0) (vNew (cV M 0) n k d g e) ∧ cFr M (zu (pPut M 0 n (fun f => if f < 7 then pNew k d g e f else M 1 0 n f)) 5 0 0 2 (nI (n + 1))) 0 := by
  refine ⟨⟨fun j h1 h2 => ?_, fun a c ha hc => ?_⟩, fun a x y f z => ?_⟩
  · show zu (pPut M 0 n (fun f => if f < 7 then pNew k d g e f else M 1 0 n f)) 5 0 0 2 (nI (n + 1)) 5 0 0 j = if j = 2 then nI (n + 1) else M 5 0 0 j
    by_cases q : j = 2
    · rw [q, zu_self, if_pos rfl]
    · rw [zu_f q, pPut_o (by decide), if_neg q]
  · show zu (pPut M 0 n (fun f => if f < 7 then pNew k d g e f else M 1 0 n f)) 5 0 0 2 (nI (n + 1)) 1 0 a c = if a = n then pNew k d g e c else M 1 0 a c
    rw [zu_a (by decide)]
    by_cases q : a = n
    · subst q
      rw [pPut_at, if_pos rfl, if_pos hc]
    · rw [if_neg q]
      exact if_neg (fun z => q z.2.2)
  · rw [zu_ne _ _ (fun q => z (Or.inr ⟨Or.inr q.1, q.2.1⟩))]
    exact if_neg (fun q => z (Or.inr ⟨Or.inl q.1, q.2.1⟩))
theorem mV_new (M : zM) {n : Nat} (h8 : n < 8) (k d g e : Int32) : veq (n + 1) (mV (mNew M n k d g e) 31) (vNew (mV M 31) n k d g e) ∧ mFr M (mNew M n k d g e) := by
  refine ⟨⟨fun j h1 h2 => ?_, fun a c ha hc => ?_⟩, fun a h1 _ _ => ?_, fun j hj => ?_⟩
  · show mNew M n k d g e 31 0 0 (mm j) = if j = 2 then nI (n + 1) else M 31 0 0 (mm j)
    have hm := mm_lt h1 h2
    unfold mNew
    rw [if_neg (by omega)]
    by_cases q : j = 2
    · subst q
      rfl
    · have q' : mm j ≠ 1 := by
        rcases (show j = 3 ∨ j = 4 ∨ j = 5 ∨ j = 6 ∨ j = 7 ∨ j = 8 ∨ j = 9 ∨ j = 10 by omega) with rfl | rfl | rfl | rfl | rfl | rfl | rfl | rfl <;> decide
      rw [if_neg q, if_neg (fun z => q' z.2.2.2)]
  · show mNew M n k d g e 31 0 0 (9 + 7 * a + c) = if a = n then pNew k d g e c else M 31 0 0 (9 + 7 * a + c)
    unfold mNew
    by_cases q : a = n
    · subst q
      rw [if_pos rfl, if_pos ⟨rfl, rfl, rfl, by omega, by omega⟩, Nat.add_sub_cancel_left]
    · rw [if_neg q, if_neg (by omega), if_neg (by omega)]
  · funext x y f
    unfold mNew
    rw [if_neg (fun z => h1 z.1), if_neg (fun z => h1 z.1)]
  · unfold mNew
    rw [if_neg (by omega), if_neg (by omega)]
set_option maxHeartbeats 4000000 in
set_option maxRecDepth 100000 in
theorem mX9_person {l : Launch} {G : zG} {b : Nat} {M : zM} {n T : Nat} {ky ln : Nat → Nat} (hR : RR M n T ky ln) {k d w : Int32} : zMet l G b yX9_person cX9_person 4 (some .int) 2 zshL zshL [.ref (b + 0), .int k, .int d, .int w] M (zI (cSt (Spers k d w) n M)) := by
  refine zMet.of (L0 := [some (.ref (b + 0)), some (.int k), some (.int d), some (.int w)]) (by decide +kernel) (Nat.le_refl _) (Nat.le_refl _) (Nat.le_of_ble_eq_true rfl) (List.forall_mem_cons.mpr ⟨rfl, List.forall_mem_cons.mpr ⟨rfl, List.forall_mem_cons.mpr ⟨rfl, List.forall_mem_cons.mpr ⟨rfl, fun _ h => absurd h List.not_mem_nil⟩⟩⟩⟩) rfl (fun X C Al K => ?_)
  refine z_iload_n (pc := 0) C 1 dX9_person_0 rfl rfl ?_
  refine z_callSi (pc := 1) C dX9_person_1 kX9_77 mX9_isKind (by decide) rfl rfl (Nat.le_of_ble_eq_true rfl) (fun r1 M1 h1 => ?_)
  obtain ⟨h1, e1⟩ := h1
  subst M1
  refine z_if_eq (pc := 4) C 23 dX9_person_4 (by decide) (fun c4 => ?_) (fun c4 => ?_)
  · refine z_ldc (pc := 23) C q2_96 dX9_person_23 ?_
    refine z_ireturn (pc := 25) C K dX9_person_25 ?_
    exact ⟨_, rfl, n, cV M 0, Or.inl ⟨fun q => h1.no c4 q.1, rfl, rfl, rfl⟩, veq.rfl', cFr.rfl'⟩
  · refine z_iconst (pc := 7) (v := 1) C dX9_person_7 rfl ?_
    refine z_iload_n (pc := 8) C 2 dX9_person_8 rfl rfl ?_
    refine z_callSi (pc := 9) C dX9_person_9 kX9_83 mX0_mayBe (by decide) rfl rfl (Nat.le_of_ble_eq_true rfl) (fun r9 M9 h9 => ?_)
    obtain ⟨h9, e9⟩ := h9
    subst M9
    refine z_if_eq (pc := 12) C 23 dX9_person_12 (by decide) (fun c12 => ?_) (fun c12 => ?_)
    · refine z_ldc (pc := 23) C q2_96 dX9_person_23 ?_
      refine z_ireturn (pc := 25) C K dX9_person_25 ?_
      exact ⟨_, rfl, n, cV M 0, Or.inl ⟨fun q => h9.no c12 (pMay_1.mpr q.2.1), rfl, rfl, rfl⟩, veq.rfl', cFr.rfl'⟩
    · refine z_iconst (pc := 15) (v := 2) C dX9_person_15 rfl ?_
      refine z_iload_n (pc := 16) C 3 dX9_person_16 rfl rfl ?_
      refine z_callSi (pc := 17) C dX9_person_17 kX9_83 mX0_mayBe (by decide) rfl rfl (Nat.le_of_ble_eq_true rfl) (fun r17 M17 h17 => ?_)
      obtain ⟨h17, e17⟩ := h17
      subst M17
      refine z_if_ne (pc := 20) C 26 dX9_person_20 (by decide) (fun c20 => ?_) (fun c20 => ?_)
      · have hg : gPer k d w := ⟨h1.yes c4, pMay_1.mp (h9.yes c12), pMay_2.mp (h17.yes c20)⟩
        have n8 := hR.n8
        refine z_aload_n (pc := 26) C 0 dX9_person_26 rfl rfl ?_
        refine z_getR (pc := 27) (r := adW 0) C dX9_person_27 fX9_21 sh_0 rfl ?_
        refine z_getI (pc := 30) C dX9_person_30 fX9_88 (shW lt0_14) rfl ?_
        rw [hR.hn]
        refine z_bipush (pc := 33) (v := 8) C dX9_person_33 rfl ?_
        refine z_icmp_lt (pc := 35) C 41 dX9_person_35 (by decide) (fun c35 => ?_) (fun c35 => ?_)
        · have n8 : n < 8 := by
            rcases Nat.lt_or_ge n 8 with q | q
            · exact q
            · exact absurd c35 (by rw [show n = 8 by omega]; decide)
          refine z_aload_n (pc := 41) C 0 dX9_person_41 rfl rfl ?_
          refine z_getR (pc := 42) (r := adW 0) C dX9_person_42 fX9_21 sh_0 rfl ?_
          refine z_iload_n (pc := 45) C 1 dX9_person_45 rfl rfl ?_
          refine z_iload_n (pc := 46) C 2 dX9_person_46 rfl rfl ?_
          refine z_iload_n (pc := 47) C 3 dX9_person_47 rfl rfl ?_
          refine z_iconst (pc := 48) (v := 0) C dX9_person_48 rfl ?_
          refine z_callVi (pc := 49) C dX9_person_49 kX9_92 (mX8_welcome lt0_14 hR.hn n8) (by decide) (shW lt0_14) rfl rfl rfl (Nat.le_of_ble_eq_true rfl) (fun r49 M49 h49 => ?_)
          obtain ⟨rfl, e49⟩ := h49
          subst M49
          refine z_ireturn (pc := 52) C K dX9_person_52 ?_
          exact ⟨_, rfl, n + 1, _, Or.inr (Or.inr ⟨hg, n8, rfl, rfl, rfl⟩), (cV_wel M k d w 0).1, (cV_wel M k d w 0).2⟩
        · refine z_ldc (pc := 38) C q2_97 dX9_person_38 ?_
          refine z_ireturn (pc := 40) C K dX9_person_40 ?_
          have e8 : n = 8 := by
            rcases Nat.lt_or_ge n 8 with q | q
            · exact absurd (nI_lt q (by decide)) c35
            · omega
          exact ⟨_, rfl, n, cV M 0, Or.inr (Or.inl ⟨hg, e8, rfl, rfl, rfl⟩), veq.rfl', cFr.rfl'⟩
      · refine z_ldc (pc := 23) C q2_96 dX9_person_23 ?_
        refine z_ireturn (pc := 25) C K dX9_person_25 ?_
        exact ⟨_, rfl, n, cV M 0, Or.inl ⟨fun q => h17.no c20 (pMay_2.mpr q.2.2), rfl, rfl, rfl⟩, veq.rfl', cFr.rfl'⟩

set_option maxHeartbeats 4000000 in
set_option maxRecDepth 100000 in
theorem mX10_person {l : Launch} {G : zG} {b : Nat} {M : zM} {n T : Nat} {ky ln : Nat → Nat} (hI : rI M n T ky ln) {k d w : Int32} : zMet l G b yX10_person cX10_person 4 (some .int) 2 zshL zshL [.ref (b + 239), .int k, .int d, .int w] M (zI (mSt (Spers k d w) n M)) := by
  refine zMet.of (L0 := [some (.ref (b + 239)), some (.int k), some (.int d), some (.int w)]) (by decide +kernel) (Nat.le_refl _) (Nat.le_refl _) (Nat.le_of_ble_eq_true rfl) (List.forall_mem_cons.mpr ⟨rfl, List.forall_mem_cons.mpr ⟨rfl, List.forall_mem_cons.mpr ⟨rfl, List.forall_mem_cons.mpr ⟨rfl, fun _ h => absurd h List.not_mem_nil⟩⟩⟩⟩) rfl (fun X C Al K => ?_)
  refine z_iload_n (pc := 0) C 1 dX10_person_0 rfl rfl ?_
  refine z_iconst (pc := 1) (v := 0) C dX10_person_1 rfl ?_
  refine z_iconst (pc := 2) (v := 5) C dX10_person_2 rfl ?_
  refine z_callSi (pc := 3) C dX10_person_3 kX10_78 mX10_in (by decide) rfl rfl (Nat.le_of_ble_eq_true rfl) (fun r3 M3 h3 => ?_)
  obtain ⟨h3, e3⟩ := h3
  subst M3
  replace h3 : zb r3 (iin k (0) (5)) := zin_b (by decide) (by decide) h3
  refine z_if_eq (pc := 6) C 29 dX10_person_6 (by decide) (fun c6 => ?_) (fun c6 => ?_)
  · refine z_ldc (pc := 29) C q5_48 dX10_person_29 ?_
    refine z_ireturn (pc := 31) C K dX10_person_31 ?_
    exact ⟨_, rfl, n, mV M 31, Or.inl ⟨fun q => h3.no c6 q.1, rfl, rfl, rfl⟩, veq.rfl', mFr.rfl'⟩
  · refine z_iload_n (pc := 9) C 2 dX10_person_9 rfl rfl ?_
    refine z_iconst (pc := 10) (v := 0) C dX10_person_10 rfl ?_
    refine z_bipush (pc := 11) (v := 99) C dX10_person_11 rfl ?_
    refine z_callSi (pc := 13) C dX10_person_13 kX10_78 mX10_in (by decide) rfl rfl (Nat.le_of_ble_eq_true rfl) (fun r13 M13 h13 => ?_)
    obtain ⟨h13, e13⟩ := h13
    subst M13
    replace h13 : zb r13 (iin d (0) (99)) := zin_b (by decide) (by decide) h13
    refine z_if_eq (pc := 16) C 29 dX10_person_16 (by decide) (fun c16 => ?_) (fun c16 => ?_)
    · refine z_ldc (pc := 29) C q5_48 dX10_person_29 ?_
      refine z_ireturn (pc := 31) C K dX10_person_31 ?_
      exact ⟨_, rfl, n, mV M 31, Or.inl ⟨fun q => h13.no c16 q.2.1, rfl, rfl, rfl⟩, veq.rfl', mFr.rfl'⟩
    · refine z_iload_n (pc := 19) C 3 dX10_person_19 rfl rfl ?_
      refine z_iconst (pc := 20) (v := 1) C dX10_person_20 rfl ?_
      refine z_bipush (pc := 21) (v := 9) C dX10_person_21 rfl ?_
      refine z_callSi (pc := 23) C dX10_person_23 kX10_78 mX10_in (by decide) rfl rfl (Nat.le_of_ble_eq_true rfl) (fun r23 M23 h23 => ?_)
      obtain ⟨h23, e23⟩ := h23
      subst M23
      replace h23 : zb r23 (iin w (1) (9)) := zin_b (by decide) (by decide) h23
      refine z_if_ne (pc := 26) C 32 dX10_person_26 (by decide) (fun c26 => ?_) (fun c26 => ?_)
      · have hg : gPer k d w := ⟨h3.yes c6, h13.yes c16, h23.yes c26⟩
        have n8 := hI.1.2.1
        refine z_aload_n (pc := 32) C 0 dX10_person_32 rfl rfl ?_
        refine z_getR (pc := 33) (r := 240) C dX10_person_33 fX10_9 sh_239 rfl ?_
        refine z_iconst (pc := 36) (v := 1) C dX10_person_36 rfl ?_
        refine z_iald (pc := 37) (n := 1) C dX10_person_37 sh_240 (zi_in.mpr (by decide)) rfl ?_
        rw [show M 31 0 0 1 = nI n from hI.1.1]
        refine z_bipush (pc := 38) (v := 8) C dX10_person_38 rfl ?_
        refine z_icmp_ne (pc := 40) C 48 dX10_person_40 (by decide) (fun c40 => ?_) (fun c40 => ?_)
        · have n8 : n < 8 := by
            rcases Nat.lt_or_ge n 8 with q | q
            · exact q
            · exact absurd (by rw [show n = 8 by omega]; rfl) c40
          refine z_aload_n (pc := 48) C 0 dX10_person_48 rfl rfl ?_
          refine z_iload_n (pc := 49) C 1 dX10_person_49 rfl rfl ?_
          refine z_iload_n (pc := 50) C 2 dX10_person_50 rfl rfl ?_
          refine z_iload_n (pc := 51) C 3 dX10_person_51 rfl rfl ?_
          refine z_iconst (pc := 52) (v := 0) C dX10_person_52 rfl ?_
          refine z_callVi (pc := 53) C dX10_person_53 kX10_88 (mX10_comes hI.1.1 n8) (by decide) sh_239 rfl rfl rfl (Nat.le_of_ble_eq_true rfl) (fun r53 M53 h53 => ?_)
          obtain ⟨rfl, e53⟩ := h53
          subst M53
          refine z_ireturn (pc := 56) C K dX10_person_56 ?_
          exact ⟨_, rfl, n + 1, _, Or.inr (Or.inr ⟨hg, n8, rfl, rfl, rfl⟩), (mV_new M n8 k d w 0).1, (mV_new M n8 k d w 0).2⟩
        · refine z_ldc (pc := 43) C q5_49 dX10_person_43 ?_
          refine z_goto (pc := 45) C 56 dX10_person_45 (by decide) ?_
          refine z_ireturn (pc := 56) C K dX10_person_56 ?_
          exact ⟨_, rfl, n, mV M 31, Or.inr (Or.inl ⟨hg, nI_inj' (by omega) (by decide) c40, rfl, rfl, rfl⟩), veq.rfl', mFr.rfl'⟩
      · refine z_ldc (pc := 29) C q5_48 dX10_person_29 ?_
        refine z_ireturn (pc := 31) C K dX10_person_31 ?_
        exact ⟨_, rfl, n, mV M 31, Or.inl ⟨fun q => h23.no c26 q.2.2, rfl, rfl, rfl⟩, veq.rfl', mFr.rfl'⟩

def fgC (p : Nat → Nat → Int32) : Nat → Int32
  | 0 => 0
  | n + 1 => if p n 4 = 0 ∧ p n 5 = 99 then fgC p n else fgC p n + 1
def fgP (p : Nat → Nat → Int32) (n : Nat) : Nat → Nat → Int32 := fun a c => if a < n then (if c = 4 then 0 else if c = 5 then 99 else p a c) else p a c
theorem fgC_c {p q : Nat → Nat → Int32} : ∀ (n : Nat), peq n p q → fgC p n = fgC q n
  | 0, _ => rfl
  | n + 1, h => by
    have e := fgC_c n (fun i f hi hf => h i f (by omega) hf)
    unfold fgC
    rw [e, h n 4 (by omega) (by omega), h n 5 (by omega) (by omega)]
def Sforg : Nat → zVw → Int32 → Nat → zVw → Prop := fun n V r n' V' => r = fgC V.2 n ∧ n' = n ∧ V' = (V.1, fgP V.2 n)
theorem Sforg_ok : Sok Sforg := by
  intro n V W h g t r n' V' s m' W' h1 h2
  obtain ⟨rfl, rfl, rfl⟩ := h1
  obtain ⟨rfl, rfl, rfl⟩ := h2
  refine ⟨fgC_c _ h.2, rfl, ⟨h.1, fun i f hi hf => ?_⟩, ⟨g.1, g.2.1, fun i hi => ?_, g.2.2.2⟩, rfl, t⟩
  · show fgP V.2 _ i f = fgP W.2 _ i f
    unfold fgP
    rw [h.2 i f hi hf]
  · have e := g.2.2.1 i hi
    show pOK (fun c => if i < _ then (if c = 4 then 0 else if c = 5 then 99 else V.2 i c) else V.2 i c)
    simp only [hi, if_true]
    exact ⟨e.1, e.2.1, e.2.2.1, e.2.2.2.1, (show 0 ≤ (0 : Int32).toInt ∧ (0 : Int32).toInt ≤ 99 from by decide), (show 0 ≤ (99 : Int32).toInt ∧ (99 : Int32).toInt ≤ 99 from by decide), e.2.2.2.2.2.2⟩
/-- the world of the class with its people replaced -/
def cP (M : zM) (p : Nat → Nat → Int32) : zM := fun a x y f => if a = 1 ∧ x = 0 then p y f else M a x y f
theorem cP_self (M : zM) : cP M (M 1 0) = M := by
  funext a x y f
  unfold cP
  by_cases h : a = 1 ∧ x = 0
  · rw [if_pos h, h.1, h.2]
  · rw [if_neg h]
theorem cP_1 (M : zM) (p : Nat → Nat → Int32) : cP M p 1 0 = p := by
  funext y f
  exact if_pos ⟨rfl, rfl⟩
theorem cP_o (M : zM) (p : Nat → Nat → Int32) {a : Nat} (h : a ≠ 1) : cP M p a = M a := by
  funext x y f
  exact if_neg (fun q => h q.1)
theorem cP_zu (M : zM) (p : Nat → Nat → Int32) (i g : Nat) (v : Int32) : zu (cP M p) 1 0 i g v = cP M (fun a c => if a = i ∧ c = g then v else p a c) := by
  funext a x y f
  unfold zu cP
  by_cases h : a = 1 ∧ x = 0
  · obtain ⟨rfl, rfl⟩ := h
    simp only [true_and]
    by_cases q : y = i ∧ f = g
    · rw [if_pos q, if_pos trivial, if_pos q]
    · rw [if_neg q, if_pos trivial, if_neg q, if_pos trivial]
  · rw [if_neg (fun z => h ⟨z.1, z.2.1⟩), if_neg h, if_neg h]
theorem cP_V (M : zM) (p : Nat → Nat → Int32) : cV (cP M p) 0 = ((cV M 0).1, p) ∧ cFr M (cP M p) 0 := by
  refine ⟨?_, fun a x y f z => if_neg (fun q => z (Or.inr ⟨Or.inl q.1, q.2⟩))⟩
  unfold cV
  rw [cP_1, cP_o _ _ (by decide)]
theorem fgP_0 (p : Nat → Nat → Int32) : fgP p 0 = p := by
  funext a c
  exact if_neg (by omega)
theorem fgP_succ (p : Nat → Nat → Int32) (i : Nat) : (fun a c => if a = i ∧ c = 5 then (99 : Int32) else if a = i ∧ c = 4 then 0 else fgP p i a c) = fgP p (i + 1) := by
  funext a c
  unfold fgP
  by_cases h : a = i
  · subst h
    simp only [true_and, Nat.lt_irrefl, if_false, Nat.lt_succ_self, if_true]
    by_cases q : c = 5
    · rw [if_pos q, if_neg (by omega), if_pos q]
    · rw [if_neg q, if_neg q]
  · simp only [h, false_and, if_false]
    by_cases q : a < i
    · have q' : a < i + 1 := by omega
      rw [if_pos q, if_pos q']
    · have q' : ¬ a < i + 1 := by omega
      rw [if_neg q, if_neg q']
set_option maxHeartbeats 4000000 in
set_option maxRecDepth 100000 in
theorem mX9_forget {l : Launch} {G : zG} {b : Nat} {M : zM} {n T : Nat} {ky ln : Nat → Nat} (hR : RR M n T ky ln) : zMet l G b yX9_forget cX9_forget 4 (some .int) 1 zshL zshL [.ref (b + 0)] M (zI (cSt Sforg n M)) := by
  refine zMet.of (L0 := [some (.ref (b + 0)), none, none, none]) (by decide +kernel) (Nat.le_refl _) (Nat.le_refl _) (Nat.le_of_ble_eq_true rfl) (List.forall_mem_cons.mpr ⟨rfl, fun _ h => absurd h List.not_mem_nil⟩) rfl (fun X C Al K => ?_)
  have n8 := hR.n8
  have loop : ∀ (k i : Nat) (q : Option Value), i + k = n → zW X zshL (cP M (fgP (M 1 0) i)) 4 [some (.ref (b + 0)), some (.int (fgC (M 1 0) i)), some (.int (nI i)), q] [] := by
    intro k
    induction k with
    | zero =>
      intro i q hi
      have hn : cP M (fgP (M 1 0) i) 5 0 0 2 = nI n := by rw [cP_o _ _ (by decide)]; exact hR.hn
      obtain rfl : i = n := by omega
      refine z_iload_n (pc := 4) C 2 dX9_forget_4 rfl rfl ?_
      refine z_aload_n (pc := 5) C 0 dX9_forget_5 rfl rfl ?_
      refine z_getR (pc := 6) (r := adW 0) C dX9_forget_6 fX9_21 sh_0 rfl ?_
      refine z_getI (pc := 9) C dX9_forget_9 fX9_88 (shW lt0_14) rfl ?_
      refine z_icmp_ge (pc := 12) C 54 dX9_forget_12 (by decide) (fun c12 => ?_) (fun c12 => absurd (zlt hn (by omega) (by omega)) c12)
      refine z_iload_n (pc := 54) C 1 dX9_forget_54 rfl rfl ?_
      refine z_ireturn (pc := 55) C K dX9_forget_55 ?_
      exact ⟨_, rfl, _, _, ⟨rfl, rfl, rfl⟩, by rw [(cP_V M _).1]; exact veq.rfl', (cP_V M _).2⟩
    | succ k ih =>
      intro i q hi
      have hin : i < 8 := by omega
      have hn : cP M (fgP (M 1 0) i) 5 0 0 2 = nI n := by rw [cP_o _ _ (by decide)]; exact hR.hn
      have e4 : cP M (fgP (M 1 0) i) 1 0 i 4 = M 1 0 i 4 := by rw [cP_1]; exact if_neg (Nat.lt_irrefl _)
      have e5 : cP M (fgP (M 1 0) i) 1 0 i 5 = M 1 0 i 5 := by rw [cP_1]; exact if_neg (Nat.lt_irrefl _)
      refine z_iload_n (pc := 4) C 2 dX9_forget_4 rfl rfl ?_
      refine z_aload_n (pc := 5) C 0 dX9_forget_5 rfl rfl ?_
      refine z_getR (pc := 6) (r := adW 0) C dX9_forget_6 fX9_21 sh_0 rfl ?_
      refine z_getI (pc := 9) C dX9_forget_9 fX9_88 (shW lt0_14) rfl ?_
      refine z_icmp_ge (pc := 12) C 54 dX9_forget_12 (by decide) (fun c12 => absurd c12 (zlf hn (by omega) (by omega))) (fun c12 => ?_)
      refine z_aload_n (pc := 15) C 0 dX9_forget_15 rfl rfl ?_
      refine z_getR (pc := 16) (r := adW 0) C dX9_forget_16 fX9_21 sh_0 rfl ?_
      refine z_getR (pc := 19) (r := adW 0 + 1) C dX9_forget_19 fX9_99 (shW lt0_14) rfl ?_
      refine z_iload_n (pc := 22) C 2 dX9_forget_22 rfl rfl ?_
      refine z_aald (pc := 23) (r := adP 0 i) C dX9_forget_23 (shPa lt0_14) rfl rfl (pin hin) (pget hin) ?_
      refine z_astore_n (pc := 24) C 3 dX9_forget_24 rfl (by decide) rfl ?_
      refine z_aload_n (pc := 25) C 3 dX9_forget_25 rfl rfl ?_
      refine z_getI (pc := 26) C dX9_forget_26 fX9_106 (shP (okP_w lt0_14 hin)) rfl ?_
      rw [e4]
      refine z_if_ne (pc := 29) C 41 dX9_forget_29 (by decide) (fun c29 => ?_) (fun c29 => ?_)
      · refine z_iinc (pc := 41) (v := 1) C 1 dX9_forget_41 (by decide) rfl rfl rfl ?_
        refine z_aload_n (pc := 44) C 3 dX9_forget_44 rfl rfl ?_
        refine z_callVv (pc := 45) C dX9_forget_45 kX9_141 (mX0_believeAll (okP_w lt0_14 hin)) (by decide) (shP (okP_w lt0_14 hin)) rfl rfl rfl (Nat.le_of_ble_eq_true rfl) (fun M45 h45 => ?_)
        subst M45
        refine z_iinc (pc := 48) (v := 1) C 2 dX9_forget_48 (by decide) rfl rfl rfl ?_
        refine z_goto (pc := 51) C 4 dX9_forget_51 (by decide) ?_
        have e := ih (i + 1) (some (.ref (b + adP 0 i))) (by omega)
        rw [nI_succ] at e
        unfold fgC at e
        rw [if_neg (fun z => c29 z.1)] at e
        rw [cP_zu, cP_zu, fgP_succ]
        exact e
      · refine z_aload_n (pc := 32) C 3 dX9_forget_32 rfl rfl ?_
        refine z_getI (pc := 33) C dX9_forget_33 fX9_109 (shP (okP_w lt0_14 hin)) rfl ?_
        rw [e5]
        refine z_bipush (pc := 36) (v := 99) C dX9_forget_36 rfl ?_
        refine z_icmp_eq (pc := 38) C 44 dX9_forget_38 (by decide) (fun c38 => ?_) (fun c38 => ?_)
        · refine z_aload_n (pc := 44) C 3 dX9_forget_44 rfl rfl ?_
          refine z_callVv (pc := 45) C dX9_forget_45 kX9_141 (mX0_believeAll (okP_w lt0_14 hin)) (by decide) (shP (okP_w lt0_14 hin)) rfl rfl rfl (Nat.le_of_ble_eq_true rfl) (fun M45 h45 => ?_)
          subst M45
          refine z_iinc (pc := 48) (v := 1) C 2 dX9_forget_48 (by decide) rfl rfl rfl ?_
          refine z_goto (pc := 51) C 4 dX9_forget_51 (by decide) ?_
          have e := ih (i + 1) (some (.ref (b + adP 0 i))) (by omega)
          rw [nI_succ] at e
          unfold fgC at e
          rw [if_pos ⟨c29, c38⟩] at e
          rw [cP_zu, cP_zu, fgP_succ]
          exact e
        · refine z_iinc (pc := 41) (v := 1) C 1 dX9_forget_41 (by decide) rfl rfl rfl ?_
          refine z_aload_n (pc := 44) C 3 dX9_forget_44 rfl rfl ?_
          refine z_callVv (pc := 45) C dX9_forget_45 kX9_141 (mX0_believeAll (okP_w lt0_14 hin)) (by decide) (shP (okP_w lt0_14 hin)) rfl rfl rfl (Nat.le_of_ble_eq_true rfl) (fun M45 h45 => ?_)
          subst M45
          refine z_iinc (pc := 48) (v := 1) C 2 dX9_forget_48 (by decide) rfl rfl rfl ?_
          refine z_goto (pc := 51) C 4 dX9_forget_51 (by decide) ?_
          have e := ih (i + 1) (some (.ref (b + adP 0 i))) (by omega)
          rw [nI_succ] at e
          unfold fgC at e
          rw [if_neg (fun z => c38 z.2)] at e
          rw [cP_zu, cP_zu, fgP_succ]
          exact e
  refine z_iconst (pc := 0) (v := 0) C dX9_forget_0 rfl ?_
  refine z_istore_n (pc := 1) C 1 dX9_forget_1 rfl (by decide) rfl ?_
  refine z_iconst (pc := 2) (v := 0) C dX9_forget_2 rfl ?_
  refine z_istore_n (pc := 3) C 2 dX9_forget_3 rfl (by decide) rfl ?_
  have e := loop n 0 none (by omega)
  rw [fgP_0, cP_self] at e
  exact e

def mP (M : zM) (p : Nat → Nat → Int32) : zM := fun a x y f => if a = 31 ∧ x = 0 ∧ y = 0 ∧ 9 ≤ f ∧ f < 65 then p ((f - 9) / 7) ((f - 9) % 7) else M a x y f
theorem mP_at (M : zM) (p : Nat → Nat → Int32) {i f : Nat} (hi : i < 8) (hf : f < 7) : mp (mP M p) i f = p i f := by
  show mP M p 31 0 0 (9 + 7 * i + f) = _
  unfold mP
  rw [if_pos ⟨rfl, rfl, rfl, by omega, by omega⟩, show (9 + 7 * i + f - 9) / 7 = i by omega, show (9 + 7 * i + f - 9) % 7 = f by omega]
theorem mP_self (M : zM) : mP M (mp M) = M := by
  funext a x y f
  unfold mP
  by_cases h : a = 31 ∧ x = 0 ∧ y = 0 ∧ 9 ≤ f ∧ f < 65
  · rw [if_pos h, h.1, h.2.1, h.2.2.1]
    show M 31 0 0 (9 + 7 * ((f - 9) / 7) + (f - 9) % 7) = M 31 0 0 f
    rw [show 9 + 7 * ((f - 9) / 7) + (f - 9) % 7 = f by omega]
  · rw [if_neg h]
theorem mP_lo (M : zM) (p : Nat → Nat → Int32) {k : Nat} (h : k < 9) : mP M p 31 0 0 k = M 31 0 0 k := if_neg (fun q => by omega)
theorem mP_put (M : zM) (p : Nat → Nat → Int32) {i g : Nat} (hi : i < 8) (hg : g < 7) (v : Int32) : mput (mP M p) i g v = mP M (fun a c => if a = i ∧ c = g then v else p a c) := by
  funext a x y f
  unfold mput zu mP
  by_cases h : a = 31 ∧ x = 0 ∧ y = 0 ∧ 9 ≤ f ∧ f < 65
  · rw [if_pos h, if_pos h]
    by_cases q : f = 9 + 7 * i + g
    · rw [if_pos ⟨h.1, h.2.1, h.2.2.1, q⟩]
      exact (if_pos ⟨by omega, by omega⟩).symm
    · rw [if_neg (fun z => q z.2.2.2)]
      exact (if_neg (fun z => q (by omega))).symm
  · rw [if_neg h, if_neg h, if_neg (fun z => h ⟨z.1, z.2.1, z.2.2.1, by omega, by omega⟩)]
theorem mP_V (M : zM) (p : Nat → Nat → Int32) {n : Nat} (n8 : n ≤ 8) : veq n (mV (mP M p) 31) ((mV M 31).1, p) ∧ mFr M (mP M p) := by
  refine ⟨⟨fun k h1 h2 => mP_lo M p (mm_lt h1 h2), fun i f hi hf => mP_at M p (by omega) hf⟩, fun a h1 _ _ => ?_, fun k hk => if_neg (fun q => by omega)⟩
  funext x y f
  exact if_neg (fun q => h1 q.1)
set_option maxHeartbeats 4000000 in
set_option maxRecDepth 100000 in
theorem mX10_forget {l : Launch} {G : zG} {b : Nat} {M : zM} {n T : Nat} {ky ln : Nat → Nat} (hI : rI M n T ky ln) : zMet l G b yX10_forget cX10_forget 3 (some .int) 2 zshL zshL [.ref (b + 239)] M (zI (mSt Sforg n M)) := by
  refine zMet.of (L0 := [some (.ref (b + 239)), none, none]) (by decide +kernel) (Nat.le_refl _) (Nat.le_refl _) (Nat.le_of_ble_eq_true rfl) (List.forall_mem_cons.mpr ⟨rfl, fun _ h => absurd h List.not_mem_nil⟩) rfl (fun X C Al K => ?_)
  have n8 := hI.1.2.1
  have loop : ∀ (k i : Nat), i + k = n → zW X zshL (mP M (fgP (mp M) i)) 4 [some (.ref (b + 239)), some (.int (fgC (mp M) i)), some (.int (nI i))] [] := by
    intro k
    induction k with
    | zero =>
      intro i hi
      have hn : mP M (fgP (mp M) i) 31 0 0 1 = nI n := by rw [mP_lo _ _ (by decide)]; exact hI.1.1
      obtain rfl : i = n := by omega
      refine z_iload_n (pc := 4) C 2 dX10_forget_4 rfl rfl ?_
      refine z_aload_n (pc := 5) C 0 dX10_forget_5 rfl rfl ?_
      refine z_getR (pc := 6) (r := 240) C dX10_forget_6 fX10_9 sh_239 rfl ?_
      refine z_iconst (pc := 9) (v := 1) C dX10_forget_9 rfl ?_
      refine z_iald (pc := 10) (n := 1) C dX10_forget_10 sh_240 (zi_in.mpr (by decide)) rfl ?_
      refine z_icmp_ge (pc := 11) C 53 dX10_forget_11 (by decide) (fun c11 => ?_) (fun c11 => absurd (zlt hn (by omega) (by omega)) c11)
      refine z_iload_n (pc := 53) C 1 dX10_forget_53 rfl rfl ?_
      refine z_ireturn (pc := 54) C K dX10_forget_54 ?_
      exact ⟨_, rfl, _, _, ⟨rfl, rfl, rfl⟩, (mP_V M _ n8).1, (mP_V M _ n8).2⟩
    | succ k ih =>
      intro i hi
      have hin : i < 8 := by omega
      have hn : mP M (fgP (mp M) i) 31 0 0 1 = nI n := by rw [mP_lo _ _ (by decide)]; exact hI.1.1
      have e4 : mp (mP M (fgP (mp M) i)) i 4 = mp M i 4 := by rw [mP_at _ _ hin (by decide)]; exact if_neg (Nat.lt_irrefl _)
      have e5 : mp (mP M (fgP (mp M) i)) i 5 = mp M i 5 := by rw [mP_at _ _ hin (by decide)]; exact if_neg (Nat.lt_irrefl _)
      refine z_iload_n (pc := 4) C 2 dX10_forget_4 rfl rfl ?_
      refine z_aload_n (pc := 5) C 0 dX10_forget_5 rfl rfl ?_
      refine z_getR (pc := 6) (r := 240) C dX10_forget_6 fX10_9 sh_239 rfl ?_
      refine z_iconst (pc := 9) (v := 1) C dX10_forget_9 rfl ?_
      refine z_iald (pc := 10) (n := 1) C dX10_forget_10 sh_240 (zi_in.mpr (by decide)) rfl ?_
      refine z_icmp_ge (pc := 11) C 53 dX10_forget_11 (by decide) (fun c11 => absurd c11 (zlf hn (by omega) (by omega))) (fun c11 => ?_)
      refine z_iload_n (pc := 14) C 1 dX10_forget_14 rfl rfl ?_
      refine z_aload_n (pc := 15) C 0 dX10_forget_15 rfl rfl ?_
      refine z_iload_n (pc := 16) C 2 dX10_forget_16 rfl rfl ?_
      refine z_iconst (pc := 17) (v := 4) C dX10_forget_17 rfl ?_
      refine z_callVi (pc := 18) C dX10_forget_18 kX10_96 (mX10_of (f := 4) hin (by decide)) (by decide) sh_239 rfl rfl rfl (Nat.le_of_ble_eq_true rfl) (fun r18 M18 h18 => ?_)
      obtain ⟨rfl, e18⟩ := h18
      subst M18
      rw [e4]
      refine z_if_ne (pc := 21) C 35 dX10_forget_21 (by decide) (fun c21 => ?_) (fun c21 => ?_)
      · refine z_iconst (pc := 35) (v := 1) C dX10_forget_35 rfl ?_
        refine z_goto (pc := 36) C 40 dX10_forget_36 (by decide) ?_
        refine z_iadd (pc := 40) C dX10_forget_40 ?_
        refine z_istore_n (pc := 41) C 1 dX10_forget_41 rfl (by decide) rfl ?_
        refine z_aload_n (pc := 42) C 0 dX10_forget_42 rfl rfl ?_
        refine z_iload_n (pc := 43) C 2 dX10_forget_43 rfl rfl ?_
        refine z_callVv (pc := 44) C dX10_forget_44 kX10_131 (mX10_believesAll hin) (by decide) sh_239 rfl rfl rfl (Nat.le_of_ble_eq_true rfl) (fun M44 h44 => ?_)
        subst M44
        refine z_iinc (pc := 47) (v := 1) C 2 dX10_forget_47 (by decide) rfl rfl rfl ?_
        refine z_goto (pc := 50) C 4 dX10_forget_50 (by decide) ?_
        have e := ih (i + 1) (by omega)
        rw [nI_succ] at e
        unfold fgC at e
        rw [if_neg (fun z => c21 z.1)] at e
        rw [mP_put _ _ hin (by decide), mP_put _ _ hin (by decide), fgP_succ]
        exact e
      · refine z_aload_n (pc := 24) C 0 dX10_forget_24 rfl rfl ?_
        refine z_iload_n (pc := 25) C 2 dX10_forget_25 rfl rfl ?_
        refine z_iconst (pc := 26) (v := 5) C dX10_forget_26 rfl ?_
        refine z_callVi (pc := 27) C dX10_forget_27 kX10_96 (mX10_of (f := 5) hin (by decide)) (by decide) sh_239 rfl rfl rfl (Nat.le_of_ble_eq_true rfl) (fun r27 M27 h27 => ?_)
        obtain ⟨rfl, e27⟩ := h27
        subst M27
        rw [e5]
        refine z_bipush (pc := 30) (v := 99) C dX10_forget_30 rfl ?_
        refine z_icmp_eq (pc := 32) C 39 dX10_forget_32 (by decide) (fun c32 => ?_) (fun c32 => ?_)
        · refine z_iconst (pc := 39) (v := 0) C dX10_forget_39 rfl ?_
          refine z_iadd (pc := 40) C dX10_forget_40 ?_
          refine z_istore_n (pc := 41) C 1 dX10_forget_41 rfl (by decide) rfl ?_
          refine z_aload_n (pc := 42) C 0 dX10_forget_42 rfl rfl ?_
          refine z_iload_n (pc := 43) C 2 dX10_forget_43 rfl rfl ?_
          refine z_callVv (pc := 44) C dX10_forget_44 kX10_131 (mX10_believesAll hin) (by decide) sh_239 rfl rfl rfl (Nat.le_of_ble_eq_true rfl) (fun M44 h44 => ?_)
          subst M44
          refine z_iinc (pc := 47) (v := 1) C 2 dX10_forget_47 (by decide) rfl rfl rfl ?_
          refine z_goto (pc := 50) C 4 dX10_forget_50 (by decide) ?_
          have e := ih (i + 1) (by omega)
          rw [nI_succ] at e
          unfold fgC at e
          rw [if_pos ⟨c21, c32⟩] at e
          rw [Int32.add_zero]
          rw [mP_put _ _ hin (by decide), mP_put _ _ hin (by decide), fgP_succ]
          exact e
        · refine z_iconst (pc := 35) (v := 1) C dX10_forget_35 rfl ?_
          refine z_goto (pc := 36) C 40 dX10_forget_36 (by decide) ?_
          refine z_iadd (pc := 40) C dX10_forget_40 ?_
          refine z_istore_n (pc := 41) C 1 dX10_forget_41 rfl (by decide) rfl ?_
          refine z_aload_n (pc := 42) C 0 dX10_forget_42 rfl rfl ?_
          refine z_iload_n (pc := 43) C 2 dX10_forget_43 rfl rfl ?_
          refine z_callVv (pc := 44) C dX10_forget_44 kX10_131 (mX10_believesAll hin) (by decide) sh_239 rfl rfl rfl (Nat.le_of_ble_eq_true rfl) (fun M44 h44 => ?_)
          subst M44
          refine z_iinc (pc := 47) (v := 1) C 2 dX10_forget_47 (by decide) rfl rfl rfl ?_
          refine z_goto (pc := 50) C 4 dX10_forget_50 (by decide) ?_
          have e := ih (i + 1) (by omega)
          rw [nI_succ] at e
          unfold fgC at e
          rw [if_neg (fun z => c32 z.2)] at e
          rw [mP_put _ _ hin (by decide), mP_put _ _ hin (by decide), fgP_succ]
          exact e
  refine z_iconst (pc := 0) (v := 0) C dX10_forget_0 rfl ?_
  refine z_istore_n (pc := 1) C 1 dX10_forget_1 rfl (by decide) rfl ?_
  refine z_iconst (pc := 2) (v := 0) C dX10_forget_2 rfl ?_
  refine z_istore_n (pc := 3) C 2 dX10_forget_3 rfl (by decide) rfl ?_
  have e := loop n 0 (by omega)
  rw [fgP_0, mP_self] at e
  exact e
