/-! check -/
theorem i30 : (30 : Int32).toInt = 30 := by decide
noncomputable def ckE (hv : Int32 → Int32 → Int32 → Int32) (n : Nat) (V : zVw) (j : Nat) : Int32 := if j % 2 = 0 then pVoice (vN hv n (j / 2 + 1) V).2 n ((vN hv n (j / 2 + 1) V).1 4) else (vN hv n (j / 2 + 1) V).1 7
def ckG (e g : Nat → Int32) (q j : Nat) : Prop := j < q ∧ g j = e j
def ckR (e g : Nat → Int32) (q m : Nat) (r : Int32) : Prop := (∃ j, j < m ∧ (∀ i, i < j → ckG e g q i) ∧ ¬ ckG e g q j ∧ r = nI (1 + j)) ∨ ((∀ i, i < m → ckG e g q i) ∧ r = if m < q then nI (1 + m) else 0)
theorem ckR_u {e g e' g' : Nat → Int32} {q m : Nat} {r s : Int32} (he : ∀ j, e j = e' j) (hg : ∀ j, j < q → g j = g' j) (h1 : ckR e g q m r) (h2 : ckR e' g' q m s) : s = r := by
  have hc : ∀ j, ckG e g q j ↔ ckG e' g' q j := fun j => by
    unfold ckG
    constructor
    · intro z
      exact ⟨z.1, by rw [← hg j z.1, ← he j]; exact z.2⟩
    · intro z
      exact ⟨z.1, by rw [hg j z.1, he j]; exact z.2⟩
  rcases h1 with ⟨j, a1, a2, a3, rfl⟩ | ⟨a1, rfl⟩ <;> rcases h2 with ⟨k, c1, c2, c3, rfl⟩ | ⟨c1, rfl⟩
  · rcases Nat.lt_trichotomy j k with z | z | z
    · exact absurd ((hc j).mpr (c2 j z)) a3
    · rw [z]
    · exact absurd ((hc k).mp (a2 k z)) c3
  · exact absurd ((hc j).mpr (c1 j a1)) a3
  · exact absurd ((hc k).mp (a1 k c1)) c3
  · rfl
theorem ckE_c {hv : Int32 → Int32 → Int32 → Int32} {n : Nat} {V W : zVw} (h : veq n V W) (j : Nat) : ckE hv n V j = ckE hv n W j := by
  have e := (vN_c (hv := hv) (j / 2 + 1) h).1
  unfold ckE
  rw [pVoice_c e.2, e.1 4 (by decide) (by decide), e.1 7 (by decide) (by decide)]
theorem ckE_0 {hv : Int32 → Int32 → Int32 → Int32} {n : Nat} {V : zVw} (i : Nat) : ckE hv n V (2 * i) = pVoice (vN hv n (i + 1) V).2 n ((vN hv n (i + 1) V).1 4) := by
  unfold ckE
  rw [if_pos (by omega), show 2 * i / 2 = i by omega]
theorem ckE_1 {hv : Int32 → Int32 → Int32 → Int32} {n : Nat} {V : zVw} (i : Nat) : ckE hv n V (2 * i + 1) = (vN hv n (i + 1) V).1 7 := by
  unfold ckE
  rw [if_neg (by omega), show (2 * i + 1) / 2 = i by omega]
theorem vN_s {hv : Int32 → Int32 → Int32 → Int32} {n : Nat} (i : Nat) (V : zVw) : vN hv n (i + 1) V = vTry hv n (vN hv n i V) := (vN_add i 1 V).1
theorem wC.z {M M' : zM} {w w' n : Nat} (h : wC M M' w w' n) (h1 : 2 ≤ w) (h2 : w < 14) : zSc M M' := fun a x y f z => h.2.2.2 a x y f (by unfold wOut; unfold scr at z; omega)
theorem cFr.z {M M' : zM} {w : Nat} (h : cFr M M' w) (h1 : 2 ≤ w) (h2 : w < 14) : zSc M M' := fun a x y f z => h a x y f (by unfold scr at z; omega)
def Ack (kp : Int32) (e g : Nat → Int32) (q : Nat) (x : Int32) (M0 : zM) (r : Int32) (M' : zM) : Prop := ((¬ iin x 1 30 ∧ r = -1000000001) ∨ (iin x 1 30 ∧ kp = 0 ∧ r = -1000000002) ∨ (¬ kp = 0 ∧ ∃ m, 1 ≤ m ∧ m ≤ 30 ∧ x = nI m ∧ ckR e g q (2 * m) r)) ∧ zSc M0 M'
theorem iin_1 {x : Int32} (h : iin x 1 30) : ∃ m, 1 ≤ m ∧ m ≤ 30 ∧ x = nI m := by
  unfold iin at h
  refine ⟨x.toInt.toNat, by omega, by omega, ?_⟩
  rw [zi_eq, nI_toInt (by omega)]
  omega
set_option maxHeartbeats 800000 in
set_option maxRecDepth 100000 in
theorem mX9_check {l : Launch} {G : zG} {b : Nat} {M : zM} {q n1 : Nat} (hq : M 0 0 0 9 = nI q) (hq60 : q ≤ 60) {hv : Int32 → Int32 → Int32 → Int32} (hh : ∀ x y z, 0 ≤ (hv x y z).toInt ∧ (hv x y z).toInt ≤ 99) (hk : ¬ M 0 0 0 10 = 0 → cI M 1 n1 hv) {x : Int32} : zMet l G b yX9_check cX9_check 6 (some .int) 6 zshL zshL [.ref (b + 0), .int x] M (zI (Ack (M 0 0 0 10) (ckE hv n1 (cV M 1)) (M 24 0 0) q x (zu M 0 0 0 9 0))) := by
  refine zMet.of (L0 := [some (.ref (b + 0)), some (.int x), none, none, none, none]) (by decide +kernel) (Nat.le_refl _) (Nat.le_refl _) (Nat.le_of_ble_eq_true rfl) (List.forall_mem_cons.mpr ⟨rfl, List.forall_mem_cons.mpr ⟨rfl, fun _ h => absurd h List.not_mem_nil⟩⟩) rfl (fun X C Al K => ?_)
  have loop : ¬ M 0 0 0 10 = 0 → ∀ (m : Nat), 1 ≤ m → m ≤ 30 → x = nI m → ∀ (Mb : zM), wC (zu M 0 0 0 9 0) Mb 2 1 n1 → ∀ (k i : Nat) (M1 : zM) (q5 : Option Value), i + k = m → (∀ j, j < 2 * i → ckG (ckE hv n1 (cV M 1)) (M 24 0 0) q j) → veq n1 (cV M1 2) (vN hv n1 i (cV M 1)) → cFr Mb M1 2 → zW X zshL M1 50 [some (.ref (b + 0)), some (.int x), some (.int (nI q)), some (.ref (b + adW 2)), some (.int (nI i)), q5] [] := by
    intro kp m hm1 hm30 hx Mb hw k
    subst hx
    have hI := hk kp
    have hz := hw.z (by decide) (by decide)
    have e8 : Mb 8 = M 8 := by
      funext x y f
      rw [hw.2.2.2 8 x y f (by unfold wOut; omega), zu_a (by decide)]
    have e9 : Mb 9 = M 9 := by
      funext x y f
      rw [hw.2.2.2 9 x y f (by unfold wOut; omega), zu_a (by decide)]
    have e24 : ∀ j, Mb 24 0 0 j = M 24 0 0 j := fun j => by
      rw [hw.2.2.2 24 0 0 j (by unfold wOut; omega), zu_a (by decide)]
    have hv0 : veq n1 (cV Mb 2) (cV M 1) := hw.cV.trans ⟨fun k _ _ => by show zu M 0 0 0 9 0 5 1 0 k = M 5 1 0 k; rw [zu_a (by decide)], fun i f _ _ => by show zu M 0 0 0 9 0 1 1 i f = M 1 1 i f; rw [zu_a (by decide)]⟩
    have hIb : cI Mb 2 n1 hv := ⟨vOK_c hv0.symm hI.1, by
      rw [hw.2.2.1 0 (by decide), zu_a (by decide)]
      exact okS.on e8 e9 hI.2⟩
    have n8 := hI.1.2.1
    induction k with
    | zero =>
      intro i M1 q5 hi hg hv1 hf
      obtain rfl : i = m := by omega
      refine z_iload (pc := 50) C 4 dX9_check_50 rfl ?_
      refine z_iload_n (pc := 52) C 1 dX9_check_52 rfl rfl ?_
      refine z_icmp_ge (pc := 53) C 134 dX9_check_53 (by decide) (fun c53 => ?_) (fun c53 => absurd (Int32.le_refl _) c53)
      refine z_iload_n (pc := 134) C 2 dX9_check_134 rfl rfl ?_
      refine z_iconst (pc := 135) (v := 2) C dX9_check_135 rfl ?_
      refine z_iload_n (pc := 136) C 1 dX9_check_136 rfl rfl ?_
      refine z_imul (pc := 137) C dX9_check_137 ?_
      have e2 : ((2 : Int32) * nI i).toInt = (2 * i : Nat) := by rw [show (2 : Int32) * nI i = nI (2 * i) from nI_mul 2 i]; exact nI_toInt (by omega)
      have eq : (nI q).toInt = q := nI_toInt (by omega)
      refine z_icmp_le (pc := 138) C 149 dX9_check_138 (by decide) (fun c138 => ?_) (fun c138 => ?_)
      · refine z_iconst (pc := 149) (v := 0) C dX9_check_149 rfl ?_
        refine z_ireturn (pc := 150) C K dX9_check_150 ?_
        refine ⟨_, rfl, Or.inr (Or.inr ⟨kp, i, hm1, hm30, rfl, Or.inr ⟨hg, ?_⟩⟩), hz.trans (hf.z (by decide) (by decide))⟩
        rw [zi_le, e2, eq] at c138
        rw [if_neg (by omega)]
      · refine z_iconst (pc := 141) (v := 1) C dX9_check_141 rfl ?_
        refine z_iconst (pc := 142) (v := 2) C dX9_check_142 rfl ?_
        refine z_iload_n (pc := 143) C 1 dX9_check_143 rfl rfl ?_
        refine z_imul (pc := 144) C dX9_check_144 ?_
        refine z_iadd (pc := 145) C dX9_check_145 ?_
        refine z_goto (pc := 146) C 150 dX9_check_146 (by decide) ?_
        refine z_ireturn (pc := 150) C K dX9_check_150 ?_
        refine ⟨_, rfl, Or.inr (Or.inr ⟨kp, i, hm1, hm30, rfl, Or.inr ⟨hg, ?_⟩⟩), hz.trans (hf.z (by decide) (by decide))⟩
        rw [zi_le, e2, eq] at c138
        rw [if_pos (by omega), show (2 : Int32) * nI i = nI (2 * i) from nI_mul 2 i]
        exact nI_add 1 (2 * i)
    | succ k ih =>
      intro i M1 q5 hi hg hv1 hf
      have hI1 : cI M1 2 n1 hv := hIb.on hf (vOK_c hv1.symm (vN_ok hh i hI.1))
      have eq : (nI q).toInt = q := nI_toInt (by omega)
      refine z_iload (pc := 50) C 4 dX9_check_50 rfl ?_
      refine z_iload_n (pc := 52) C 1 dX9_check_52 rfl rfl ?_
      refine z_icmp_ge (pc := 53) C 134 dX9_check_53 (by decide) (fun c53 => absurd c53 (nI_ge (by omega) (by omega))) (fun c53 => ?_)
      refine z_aload_n (pc := 56) C 3 dX9_check_56 rfl rfl ?_
      refine z_callVi (pc := 57) C dX9_check_57 kX9_167 (mX8_attempt2 lt2_14 hI1) (by decide) (shW lt2_14) rfl rfl rfl (Nat.le_of_ble_eq_true rfl) (fun r57 M57 h57 => ?_)
      obtain ⟨-, g3, g4⟩ := h57
      have hv2 : veq n1 (cV M57 2) (vN hv n1 (i + 1) (cV M 1)) := by
        rw [vN_s]
        exact g3.trans (vTry_c hv1)
      have hf2 := hf.trans g4
      have hok2 := vOK_c hv2.symm (vN_ok hh (i + 1) hI.1)
      have h24 : ∀ j, M57 24 0 0 j = M 24 0 0 j := fun j => by rw [hf2.k (by decide), e24]
      refine z_pop (pc := 60) C dX9_check_60 rfl ?_
      refine z_iconst (pc := 61) (v := 2) C dX9_check_61 rfl ?_
      refine z_iload (pc := 62) C 4 dX9_check_62 rfl ?_
      refine z_imul (pc := 64) C dX9_check_64 ?_
      rw [show (2 : Int32) * nI i = nI (2 * i) from nI_mul 2 i]
      have e2i : (nI (2 * i)).toInt = (2 * i : Nat) := nI_toInt (by omega)
      have e2j : (nI (2 * i + 1)).toInt = (2 * i + 1 : Nat) := nI_toInt (by omega)
      refine z_istore (pc := 65) C 5 dX9_check_65 (by decide) rfl ?_
      refine z_iload (pc := 67) C 5 dX9_check_67 rfl ?_
      refine z_iload_n (pc := 69) C 2 dX9_check_69 rfl rfl ?_
      refine z_icmp_ge (pc := 70) C 87 dX9_check_70 (by decide) (fun c70 => ?_) (fun c70 => ?_)
      · refine z_iconst (pc := 87) (v := 1) C dX9_check_87 rfl ?_
        refine z_iload (pc := 88) C 5 dX9_check_88 rfl ?_
        refine z_iadd (pc := 90) C dX9_check_90 ?_
        refine z_ireturn (pc := 91) C K dX9_check_91 ?_
        refine ⟨_, rfl, Or.inr (Or.inr ⟨kp, m, hm1, hm30, rfl, Or.inl ⟨2 * i, by omega, ?_, ?_, nI_add 1 (2 * i)⟩⟩), hz.trans (hf2.z (by decide) (by decide))⟩
        · exact hg
        · intro z
          have z1 := z.1
          rw [zi_le, eq, e2i] at c70
          omega
      · refine z_aload_n (pc := 73) C 0 dX9_check_73 rfl rfl ?_
        refine z_getR (pc := 74) (r := 210) C dX9_check_74 fX9_63 sh_0 rfl ?_
        refine z_iload (pc := 77) C 5 dX9_check_77 rfl ?_
        refine z_iald (pc := 79) (n := 2 * i) C dX9_check_79 sh_210 (vp_in_nI (by rw [zi_le, eq, e2i] at c70; omega) (by decide)) (nI_clamp (by omega)) ?_
        rw [h24]
        refine z_aload_n (pc := 80) C 3 dX9_check_80 rfl rfl ?_
        refine z_callVi (pc := 81) C dX9_check_81 kX9_161 (mX8_voice (n := n1) lt2_14 hok2.1 n8) (by decide) (shW lt2_14) rfl rfl rfl (Nat.le_of_ble_eq_true rfl) (fun r81 M81 h81 => ?_)
        obtain ⟨rfl, e81⟩ := h81
        subst M81
        have ev : pVoice (M57 1 2) n1 (M57 5 2 0 4) = (ckE hv n1 (cV M 1)) (2 * i) := by
          rw [ckE_0]
          show pVoice (cV M57 2).2 n1 ((cV M57 2).1 4) = _
          rw [pVoice_c hv2.2, hv2.1 4 (by decide) (by decide)]
        have eo : M57 5 2 0 7 = (ckE hv n1 (cV M 1)) (2 * i + 1) := by
          rw [ckE_1]
          exact hv2.1 7 (by decide) (by decide)
        refine z_icmp_eq (pc := 84) C 92 dX9_check_84 (by decide) (fun c84 => ?_) (fun c84 => ?_)
        · have g0 : ckG (ckE hv n1 (cV M 1)) (M 24 0 0) q (2 * i) := ⟨by rw [zi_le, eq, e2i] at c70; omega, c84.trans ev⟩
          have hg1 : ∀ j, j < 2 * i + 1 → ckG (ckE hv n1 (cV M 1)) (M 24 0 0) q j := fun j hj => by
            by_cases z : j = 2 * i
            · rw [z]; exact g0
            · exact hg j (by omega)
          refine z_iinc (pc := 92) (v := 1) C 5 dX9_check_92 (by decide) rfl rfl rfl ?_
          rw [nI_1]
          refine z_iload (pc := 95) C 5 dX9_check_95 rfl ?_
          refine z_iload_n (pc := 97) C 2 dX9_check_97 rfl rfl ?_
          refine z_icmp_ge (pc := 98) C 123 dX9_check_98 (by decide) (fun c98 => ?_) (fun c98 => ?_)
          · refine z_iconst (pc := 123) (v := 1) C dX9_check_123 rfl ?_
            refine z_iload (pc := 124) C 5 dX9_check_124 rfl ?_
            refine z_iadd (pc := 126) C dX9_check_126 ?_
            refine z_ireturn (pc := 127) C K dX9_check_127 ?_
            refine ⟨_, rfl, Or.inr (Or.inr ⟨kp, m, hm1, hm30, rfl, Or.inl ⟨2 * i + 1, by omega, ?_, ?_, nI_add 1 (2 * i + 1)⟩⟩), hz.trans (hf2.z (by decide) (by decide))⟩
            · exact hg1
            · intro z
              have z1 := z.1
              rw [zi_le, eq, e2j] at c98
              omega
          · refine z_aload_n (pc := 101) C 0 dX9_check_101 rfl rfl ?_
            refine z_getR (pc := 102) (r := 210) C dX9_check_102 fX9_63 sh_0 rfl ?_
            refine z_iload (pc := 105) C 5 dX9_check_105 rfl ?_
            refine z_iald (pc := 107) (n := 2 * i + 1) C dX9_check_107 sh_210 (vp_in_nI (by rw [zi_le, eq, e2j] at c98; omega) (by decide)) (nI_clamp (by omega)) ?_
            rw [h24]
            refine z_aload_n (pc := 108) C 3 dX9_check_108 rfl rfl ?_
            refine z_getI (pc := 109) C dX9_check_109 fX9_189 (shW lt2_14) rfl ?_
            refine z_if_eq (pc := 112) C 119 dX9_check_112 (by decide) (fun c112 => ?_) (fun c112 => ?_)
            · refine z_iconst (pc := 119) (v := 0) C dX9_check_119 rfl ?_
              refine z_icmp_eq (pc := 120) C 128 dX9_check_120 (by decide) (fun c120 => ?_) (fun c120 => ?_)
              · refine z_iinc (pc := 128) (v := 1) C 4 dX9_check_128 (by decide) rfl rfl rfl ?_
                refine z_goto (pc := 131) C 50 dX9_check_131 (by decide) ?_
                have g1 : ckG (ckE hv n1 (cV M 1)) (M 24 0 0) q (2 * i + 1) := ⟨by rw [zi_le, eq, e2j] at c98; omega, c120.trans (c112.symm.trans eo)⟩
                have e := ih (i + 1) M57 (some (.int (nI (2 * i + 1)))) (by omega) (fun j hj => by
                  by_cases z : j = 2 * i + 1
                  · rw [z]; exact g1
                  · exact hg1 j (by omega)) hv2 hf2
                rw [nI_succ i] at e
                exact e
              · refine z_iconst (pc := 123) (v := 1) C dX9_check_123 rfl ?_
                refine z_iload (pc := 124) C 5 dX9_check_124 rfl ?_
                refine z_iadd (pc := 126) C dX9_check_126 ?_
                refine z_ireturn (pc := 127) C K dX9_check_127 ?_
                refine ⟨_, rfl, Or.inr (Or.inr ⟨kp, m, hm1, hm30, rfl, Or.inl ⟨2 * i + 1, by omega, ?_, ?_, nI_add 1 (2 * i + 1)⟩⟩), hz.trans (hf2.z (by decide) (by decide))⟩
                · exact hg1
                · intro z
                  exact c120 (z.2.trans (eo.symm.trans c112))
            · refine z_iconst (pc := 115) (v := 1) C dX9_check_115 rfl ?_
              refine z_goto (pc := 116) C 120 dX9_check_116 (by decide) ?_
              refine z_icmp_eq (pc := 120) C 128 dX9_check_120 (by decide) (fun c120 => ?_) (fun c120 => ?_)
              · refine z_iinc (pc := 128) (v := 1) C 4 dX9_check_128 (by decide) rfl rfl rfl ?_
                refine z_goto (pc := 131) C 50 dX9_check_131 (by decide) ?_
                have g1 : ckG (ckE hv n1 (cV M 1)) (M 24 0 0) q (2 * i + 1) := ⟨by rw [zi_le, eq, e2j] at c98; omega, c120.trans ((hok2.2.2.2.2.2.2.2.resolve_left c112).symm.trans eo)⟩
                have e := ih (i + 1) M57 (some (.int (nI (2 * i + 1)))) (by omega) (fun j hj => by
                  by_cases z : j = 2 * i + 1
                  · rw [z]; exact g1
                  · exact hg1 j (by omega)) hv2 hf2
                rw [nI_succ i] at e
                exact e
              · refine z_iconst (pc := 123) (v := 1) C dX9_check_123 rfl ?_
                refine z_iload (pc := 124) C 5 dX9_check_124 rfl ?_
                refine z_iadd (pc := 126) C dX9_check_126 ?_
                refine z_ireturn (pc := 127) C K dX9_check_127 ?_
                refine ⟨_, rfl, Or.inr (Or.inr ⟨kp, m, hm1, hm30, rfl, Or.inl ⟨2 * i + 1, by omega, ?_, ?_, nI_add 1 (2 * i + 1)⟩⟩), hz.trans (hf2.z (by decide) (by decide))⟩
                · exact hg1
                · intro z
                  exact c120 (z.2.trans (eo.symm.trans (hok2.2.2.2.2.2.2.2.resolve_left c112)))
        · refine z_iconst (pc := 87) (v := 1) C dX9_check_87 rfl ?_
          refine z_iload (pc := 88) C 5 dX9_check_88 rfl ?_
          refine z_iadd (pc := 90) C dX9_check_90 ?_
          refine z_ireturn (pc := 91) C K dX9_check_91 ?_
          refine ⟨_, rfl, Or.inr (Or.inr ⟨kp, m, hm1, hm30, rfl, Or.inl ⟨2 * i, by omega, ?_, ?_, nI_add 1 (2 * i)⟩⟩), hz.trans (hf2.z (by decide) (by decide))⟩
          · exact hg
          · intro z
            exact c84 (z.2.trans ev.symm)
  refine z_aload_n (pc := 0) C 0 dX9_check_0 rfl rfl ?_
  refine z_getI (pc := 1) C dX9_check_1 fX9_67 sh_0 rfl ?_
  rw [hq]
  refine z_istore_n (pc := 4) C 2 dX9_check_4 rfl (by decide) rfl ?_
  refine z_aload_n (pc := 5) C 0 dX9_check_5 rfl rfl ?_
  refine z_iconst (pc := 6) (v := 0) C dX9_check_6 rfl ?_
  refine z_putII (pc := 7) C dX9_check_7 fX9_67 sh_0 rfl ?_
  refine z_iload_n (pc := 10) C 1 dX9_check_10 rfl rfl ?_
  refine z_iconst (pc := 11) (v := 1) C dX9_check_11 rfl ?_
  refine z_icmp_lt (pc := 12) C 21 dX9_check_12 (by decide) (fun c12 => ?_) (fun c12 => ?_)
  · refine z_ldc (pc := 21) C q2_96 dX9_check_21 ?_
    refine z_ireturn (pc := 23) C K dX9_check_23 ?_
    refine ⟨_, rfl, Or.inl ⟨?_, rfl⟩, zSc.rfl'⟩
    simp only [zi_lt, zi_le, i1, i30] at c12
    unfold iin
    omega
  · refine z_iload_n (pc := 15) C 1 dX9_check_15 rfl rfl ?_
    refine z_bipush (pc := 16) (v := 30) C dX9_check_16 rfl ?_
    refine z_icmp_le (pc := 18) C 24 dX9_check_18 (by decide) (fun c18 => ?_) (fun c18 => ?_)
    · have hx : iin x 1 30 := by
        simp only [zi_lt, zi_le, i1, i30] at c12 c18
        unfold iin
        omega
      refine z_aload_n (pc := 24) C 0 dX9_check_24 rfl rfl ?_
      refine z_getI (pc := 25) C dX9_check_25 fX9_71 sh_0 rfl ?_
      rw [zu_f (by decide)]
      refine z_if_ne (pc := 28) C 35 dX9_check_28 (by decide) (fun c28 => ?_) (fun c28 => ?_)
      · have hI := hk c28
        have e51 : ∀ f, zu M 0 0 0 9 0 5 1 0 f = M 5 1 0 f := fun f => by rw [zu_a (by decide)]
        refine z_aload_n (pc := 35) C 0 dX9_check_35 rfl rfl ?_
        refine z_getR (pc := 36) (r := 54) C dX9_check_36 fX9_31 sh_0 rfl ?_
        refine z_aload_n (pc := 39) C 0 dX9_check_39 rfl rfl ?_
        refine z_getR (pc := 40) (r := adW 1) C dX9_check_40 fX9_25 sh_0 rfl ?_
        refine z_callVr (pc := 43) C dX9_check_43 kX9_171 (mX7_begin (w' := 1) (n := n1) lt1_14 (by decide) (by rw [e51]; exact hI.1.1) hI.1.2.1 (by rw [e51]; exact hI.1.2.2.2.2.2.2.2) (fun i hi => by rw [zu_a (by decide)]; exact (hI.1.2.2.1 i hi).2.2.2.2.2.2)) (by decide) sh_54 rfl rfl rfl (Nat.le_of_ble_eq_true rfl) (fun r43 M43 h43 => ?_)
        obtain ⟨rfl, h43⟩ := h43
        refine z_astore_n (pc := 46) C 3 dX9_check_46 rfl (by decide) rfl ?_
        refine z_iconst (pc := 47) (v := 0) C dX9_check_47 rfl ?_
        refine z_istore (pc := 48) C 4 dX9_check_48 (by decide) rfl ?_
        obtain ⟨m, hm1, hm30, hxm⟩ := iin_1 hx
        exact loop c28 m hm1 hm30 hxm M43 h43 m 0 M43 none (Nat.zero_add _) (fun j hj => absurd hj (Nat.not_lt_zero _)) (h43.cV.trans ⟨fun k _ _ => e51 k, fun i f _ _ => by show zu M 0 0 0 9 0 1 1 i f = M 1 1 i f; rw [zu_a (by decide)]⟩) cFr.rfl'
      · refine z_ldcw (pc := 31) C q4_144 dX9_check_31 ?_
        refine z_ireturn (pc := 34) C K dX9_check_34 ?_
        exact ⟨_, rfl, Or.inr (Or.inl ⟨hx, c28, rfl⟩), zSc.rfl'⟩
    · refine z_ldc (pc := 21) C q2_96 dX9_check_21 ?_
      refine z_ireturn (pc := 23) C K dX9_check_23 ?_
      refine ⟨_, rfl, Or.inl ⟨?_, rfl⟩, zSc.rfl'⟩
      simp only [zi_lt, zi_le, i1, i30] at c12 c18
      unfold iin
      omega

set_option maxHeartbeats 800000 in
set_option maxRecDepth 100000 in
theorem mX10_check {l : Launch} {G : zG} {b : Nat} {M : zM} {q n1 T1 : Nat} {ky ln : Nat → Nat} (hq : M 30 0 0 33 = nI q) (hq60 : q ≤ 60) (hk : ¬ M 30 0 0 3 = 0 → vOK n1 (mV M 32) ∧ M 32 0 0 8 = nI T1 ∧ TX M T1 ky ln ∧ mTX M 32 T1 ky ln) {x : Int32} : zMet l G b yX10_check cX10_check 6 (some .int) 7 zshL zshL [.ref (b + 239), .int x] M (zI (Ack (M 30 0 0 3) (ckE (hvF M (lastK ky 0 T1)) n1 (mV M 32)) (M 52 0 0) q x (zu M 30 0 0 33 0))) := by
  refine zMet.of (L0 := [some (.ref (b + 239)), some (.int x), none, none, none, none]) (by decide +kernel) (Nat.le_refl _) (Nat.le_refl _) (Nat.le_of_ble_eq_true rfl) (List.forall_mem_cons.mpr ⟨rfl, List.forall_mem_cons.mpr ⟨rfl, fun _ h => absurd h List.not_mem_nil⟩⟩) rfl (fun X C Al K => ?_)
  have fin : ¬ M 30 0 0 3 = 0 → ∀ (m : Nat), 1 ≤ m → m ≤ 30 → x = nI m → ∀ (M1 : zM) (j : Nat) (q4 q5 : Option Value), j ≤ 60 → mFr (tk (tk (zu M 30 0 0 33 0) 31 33 1437) 32 31 1437) M1 → (j = q ∧ j = 2 * m → ckR (ckE (hvF M (lastK ky 0 T1)) n1 (mV M 32)) (M 52 0 0) q (2 * m) 0) → (¬ (j = q ∧ j = 2 * m) → ckR (ckE (hvF M (lastK ky 0 T1)) n1 (mV M 32)) (M 52 0 0) q (2 * m) (nI (1 + j))) → zW X zshL M1 152 [some (.ref (b + 239)), some (.int x), some (.int (nI q)), some (.int (nI j)), q4, q5] [] := by
    intro kp m hm1 hm30 hx M1 j q4 q5 hj hf r1 r2
    subst hx
    have hsc : zSc (zu M 30 0 0 33 0) (tk M1 33 31 1437) := by
      intro a y w f z
      by_cases e : a = 31
      · subst e
        by_cases e2 : y = 0 ∧ w = 0
        · obtain ⟨rfl, rfl⟩ := e2
          by_cases e3 : f < 1437
          · rw [tk_in e3, hf.1 33 (by decide) (by decide) (by decide), tk_a (by decide), tk_in e3]
          · rw [tk_f e3, hf.2 f (by omega), tk_f e3, tk_a (by decide)]
        · exact absurd (Or.inl ⟨rfl, e2⟩) z
      · unfold scr at z
        rw [tk_a e, hf.1 a e (by omega) (by omega), tk_a e, tk_a (by omega)]
    refine z_aload_n (pc := 152) C 0 dX10_check_152 rfl rfl ?_
    refine z_getR (pc := 153) (r := 242) C dX10_check_153 fX10_16 sh_239 rfl ?_
    refine z_aload_n (pc := 156) C 0 dX10_check_156 rfl rfl ?_
    refine z_getR (pc := 157) (r := 240) C dX10_check_157 fX10_9 sh_239 rfl ?_
    refine z_callSv (pc := 160) C dX10_check_160 kX10_287 (mX10_copyAll sh_242 sh_240 (by decide) (by decide) (by decide) (by decide) (by decide)) (by decide) rfl rfl (Nat.le_of_ble_eq_true rfl) (fun M160 h160 => ?_)
    subst M160
    refine z_iload_n (pc := 163) C 3 dX10_check_163 rfl rfl ?_
    refine z_iload_n (pc := 164) C 2 dX10_check_164 rfl rfl ?_
    refine z_icmp_ne (pc := 165) C 179 dX10_check_165 (by decide) (fun c165 => ?_) (fun c165 => ?_)
    · refine z_iconst (pc := 179) (v := 1) C dX10_check_179 rfl ?_
      refine z_iload_n (pc := 180) C 3 dX10_check_180 rfl rfl ?_
      refine z_iadd (pc := 181) C dX10_check_181 ?_
      refine z_ireturn (pc := 182) C K dX10_check_182 ?_
      exact ⟨_, rfl, Or.inr (Or.inr ⟨kp, m, hm1, hm30, rfl, by rw [show (1 : Int32) + nI j = nI (1 + j) from nI_add 1 j]; exact r2 (fun z => c165 (by rw [z.1]))⟩), hsc⟩
    · refine z_iload_n (pc := 168) C 3 dX10_check_168 rfl rfl ?_
      refine z_iconst (pc := 169) (v := 2) C dX10_check_169 rfl ?_
      refine z_iload_n (pc := 170) C 1 dX10_check_170 rfl rfl ?_
      refine z_imul (pc := 171) C dX10_check_171 ?_
      refine z_icmp_ne (pc := 172) C 179 dX10_check_172 (by decide) (fun c172 => ?_) (fun c172 => ?_)
      · refine z_iconst (pc := 179) (v := 1) C dX10_check_179 rfl ?_
        refine z_iload_n (pc := 180) C 3 dX10_check_180 rfl rfl ?_
        refine z_iadd (pc := 181) C dX10_check_181 ?_
        refine z_ireturn (pc := 182) C K dX10_check_182 ?_
        exact ⟨_, rfl, Or.inr (Or.inr ⟨kp, m, hm1, hm30, rfl, by rw [show (1 : Int32) + nI j = nI (1 + j) from nI_add 1 j]; exact r2 (fun z => c172 (by rw [z.2]; exact (nI_mul 2 m).symm))⟩), hsc⟩
      · refine z_iconst (pc := 175) (v := 0) C dX10_check_175 rfl ?_
        refine z_goto (pc := 176) C 182 dX10_check_176 (by decide) ?_
        refine z_ireturn (pc := 182) C K dX10_check_182 ?_
        exact ⟨_, rfl, Or.inr (Or.inr ⟨kp, m, hm1, hm30, rfl, r1 ⟨nI_inj' (by omega) (by omega) c165, nI_inj' (by omega) (by omega) (c172.trans (nI_mul 2 m))⟩⟩), hsc⟩
  have ex : ¬ M 30 0 0 3 = 0 → ∀ (m : Nat), 1 ≤ m → m ≤ 30 → x = nI m → ∀ (M1 : zM) (j i : Nat) (q5 : Option Value), i ≤ 30 → j < 2 * i → j ≤ 60 → j < 2 * m → mFr (tk (tk (zu M 30 0 0 33 0) 31 33 1437) 32 31 1437) M1 → ckR (ckE (hvF M (lastK ky 0 T1)) n1 (mV M 32)) (M 52 0 0) q (2 * m) (nI (1 + j)) → zW X zshL M1 61 [some (.ref (b + 239)), some (.int x), some (.int (nI q)), some (.int (nI j)), some (.int (nI i)), q5] [] := by
    intro kp m hm1 hm30 hx M1 j i q5 hi hji hj hjm hf r2
    refine z_iload (pc := 61) C 4 dX10_check_61 rfl ?_
    refine z_iload_n (pc := 63) C 1 dX10_check_63 rfl rfl ?_
    refine z_icmp_ge (pc := 64) C 152 dX10_check_64 (by decide) (fun c64 => ?_) (fun c64 => ?_)
    · exact fin kp m hm1 hm30 hx M1 j _ _ hj hf (fun z => by omega) (fun _ => r2)
    · refine z_iload_n (pc := 67) C 3 dX10_check_67 rfl rfl ?_
      refine z_iconst (pc := 68) (v := 2) C dX10_check_68 rfl ?_
      refine z_iload (pc := 69) C 4 dX10_check_69 rfl ?_
      refine z_imul (pc := 71) C dX10_check_71 ?_
      refine z_icmp_ne (pc := 72) C 152 dX10_check_72 (by decide) (fun c72 => ?_) (fun c72 => absurd (nI_inj' (by omega) (by omega) (c72.trans (nI_mul 2 i))) (by omega))
      exact fin kp m hm1 hm30 hx M1 j _ _ hj hf (fun z => by omega) (fun _ => r2)
  have loop : ¬ M 30 0 0 3 = 0 → ∀ (m : Nat), 1 ≤ m → m ≤ 30 → x = nI m → ∀ (k i : Nat) (M1 : zM) (q5 : Option Value), i + k = m → (∀ j, j < 2 * i → ckG (ckE (hvF M (lastK ky 0 T1)) n1 (mV M 32)) (M 52 0 0) q j) → veq n1 (mV M1 31) (vN (hvF M (lastK ky 0 T1)) n1 i (mV M 32)) → mFr (tk (tk (zu M 30 0 0 33 0) 31 33 1437) 32 31 1437) M1 → rI M1 n1 T1 ky ln → zW X zshL M1 61 [some (.ref (b + 239)), some (.int x), some (.int (nI q)), some (.int (nI (2 * i))), some (.int (nI i)), q5] [] := by
    intro kp m hm1 hm30 hx k
    subst hx
    induction k with
    | zero =>
      intro i M1 q5 hi hg hv1 hf hI1
      obtain rfl : i = m := by omega
      have hq2 := (hg (2 * i - 1) (by omega)).1
      refine z_iload (pc := 61) C 4 dX10_check_61 rfl ?_
      refine z_iload_n (pc := 63) C 1 dX10_check_63 rfl rfl ?_
      refine z_icmp_ge (pc := 64) C 152 dX10_check_64 (by decide) (fun c64 => ?_) (fun c64 => absurd (Int32.le_refl _) c64)
      exact fin kp i hm1 hm30 rfl M1 (2 * i) _ _ (by omega) hf (fun z => Or.inr ⟨hg, by rw [if_neg (by omega)]⟩) (fun z => Or.inr ⟨hg, by rw [if_pos (by omega)]⟩)
    | succ k ih =>
      intro i M1 q5 hi hg hv1 hf hI1
      have eq : (nI q).toInt = q := nI_toInt (by omega)
      have e2i : (nI (2 * i)).toInt = (2 * i : Nat) := nI_toInt (by omega)
      have e2j : (nI (2 * i + 1)).toInt = (2 * i + 1 : Nat) := nI_toInt (by omega)
      have hh8 : ∀ N : zM, mFr (tk (tk (zu M 30 0 0 33 0) 31 33 1437) 32 31 1437) N → hvF N (lastK ky 0 T1) = hvF M (lastK ky 0 T1) ∧ ∀ j, N 52 0 0 j = M 52 0 0 j := fun N hN => by
        refine ⟨hvF_c ?_ ?_ _, fun j => ?_⟩
        · rw [hN.1 8 (by decide) (by decide) (by decide), tk_a (by decide), tk_a (by decide), zu_a (by decide)]
        · rw [hN.1 9 (by decide) (by decide) (by decide), tk_a (by decide), tk_a (by decide), zu_a (by decide)]
        · rw [hN.1 52 (by decide) (by decide) (by decide), tk_a (by decide), tk_a (by decide), zu_a (by decide)]
      refine z_iload (pc := 61) C 4 dX10_check_61 rfl ?_
      refine z_iload_n (pc := 63) C 1 dX10_check_63 rfl rfl ?_
      refine z_icmp_ge (pc := 64) C 152 dX10_check_64 (by decide) (fun c64 => absurd c64 (nI_ge (by omega) (by omega))) (fun c64 => ?_)
      refine z_iload_n (pc := 67) C 3 dX10_check_67 rfl rfl ?_
      refine z_iconst (pc := 68) (v := 2) C dX10_check_68 rfl ?_
      refine z_iload (pc := 69) C 4 dX10_check_69 rfl ?_
      refine z_imul (pc := 71) C dX10_check_71 ?_
      refine z_icmp_ne (pc := 72) C 152 dX10_check_72 (by decide) (fun c72 => absurd (nI_mul 2 i).symm c72) (fun c72 => ?_)
      refine z_aload_n (pc := 75) C 0 dX10_check_75 rfl rfl ?_
      refine z_callVi (pc := 76) C dX10_check_76 kX10_169 (mX10_aTry hI1) (by decide) sh_239 rfl rfl rfl (Nat.le_of_ble_eq_true rfl) (fun r76 M76 h76 => ?_)
      obtain ⟨-, g3, g4, hI2⟩ := h76
      rw [(hh8 M1 hf).1] at g3
      have hf2 := hf.trans g4
      have hv2 : veq n1 (mV M76 31) (vN (hvF M (lastK ky 0 T1)) n1 (i + 1) (mV M 32)) := by
        rw [vN_s]
        exact g3.trans (vTry_c hv1)
      have h52 := (hh8 M76 hf2).2
      have ev : pVoice (mp M76) n1 (M76 31 0 0 4) = (ckE (hvF M (lastK ky 0 T1)) n1 (mV M 32)) (2 * i) := by
        rw [ckE_0]
        show pVoice (mV M76 31).2 n1 ((mV M76 31).1 4) = _
        rw [pVoice_c hv2.2, hv2.1 4 (by decide) (by decide)]
      have eo : M76 31 0 0 7 = (ckE (hvF M (lastK ky 0 T1)) n1 (mV M 32)) (2 * i + 1) := by
        rw [ckE_1]
        exact hv2.1 7 (by decide) (by decide)
      refine z_istore (pc := 79) C 5 dX10_check_79 (by decide) rfl ?_
      refine z_iload_n (pc := 81) C 3 dX10_check_81 rfl rfl ?_
      refine z_iload_n (pc := 82) C 3 dX10_check_82 rfl rfl ?_
      refine z_iload_n (pc := 83) C 2 dX10_check_83 rfl rfl ?_
      refine z_icmp_ge (pc := 84) C 104 dX10_check_84 (by decide) (fun c84 => ?_) (fun c84 => ?_)
      · refine z_iconst (pc := 104) (v := 0) C dX10_check_104 rfl ?_
        refine z_iadd (pc := 105) C dX10_check_105 ?_
        refine z_istore_n (pc := 106) C 3 dX10_check_106 rfl (by decide) rfl ?_
        rw [Int32.add_zero]
        have nb : ¬ ckG (ckE (hvF M (lastK ky 0 T1)) n1 (mV M 32)) (M 52 0 0) q (2 * i) := fun z => by
          have z1 := z.1
          rw [zi_le, eq, e2i] at c84
          omega
        refine z_iload_n (pc := 107) C 3 dX10_check_107 rfl rfl ?_
        refine z_iload_n (pc := 108) C 3 dX10_check_108 rfl rfl ?_
        refine z_iconst (pc := 109) (v := 2) C dX10_check_109 rfl ?_
        refine z_iload (pc := 110) C 4 dX10_check_110 rfl ?_
        refine z_imul (pc := 112) C dX10_check_112 ?_
        refine z_iconst (pc := 113) (v := 1) C dX10_check_113 rfl ?_
        refine z_iadd (pc := 114) C dX10_check_114 ?_
        refine z_icmp_ne (pc := 115) C 143 dX10_check_115 (by decide) (fun c115 => ?_) (fun c115 => absurd (nI_inj' (by omega) (by omega) (show nI (2 * i) = nI (2 * i + 1) from by rw [c115, show (2 : Int32) * nI i = nI (2 * i) from nI_mul 2 i]; exact nI_1 _)) (by omega))
        refine z_iconst (pc := 143) (v := 0) C dX10_check_143 rfl ?_
        refine z_iadd (pc := 144) C dX10_check_144 ?_
        refine z_istore_n (pc := 145) C 3 dX10_check_145 rfl (by decide) rfl ?_
        refine z_iinc (pc := 146) (v := 1) C 4 dX10_check_146 (by decide) rfl rfl rfl ?_
        refine z_goto (pc := 149) C 61 dX10_check_149 (by decide) ?_
        have e := ex kp m hm1 hm30 rfl M76 (2 * i) (i + 1) (some (.int r76)) (by omega) (by omega) (by omega) (by omega) hf2 (Or.inl ⟨2 * i, by omega, hg, nb, rfl⟩)
        rw [nI_succ i] at e
        rw [Int32.add_zero]
        exact e
      · refine z_aload_n (pc := 87) C 0 dX10_check_87 rfl rfl ?_
        refine z_getR (pc := 88) (r := 261) C dX10_check_88 fX10_75 sh_239 rfl ?_
        refine z_iload_n (pc := 91) C 3 dX10_check_91 rfl rfl ?_
        refine z_iald (pc := 92) (n := 2 * i) C dX10_check_92 sh_261 (vp_in_nI (by rw [zi_le, eq, e2i] at c84; omega) (by decide)) (nI_clamp (by omega)) ?_
        rw [h52]
        refine z_aload_n (pc := 93) C 0 dX10_check_93 rfl rfl ?_
        refine z_callVi (pc := 94) C dX10_check_94 kX10_155 (mX10_saysNow hI2.1.1 hI2.1.2.1 hI2.1.2.2.1) (by decide) sh_239 rfl rfl rfl (Nat.le_of_ble_eq_true rfl) (fun r94 M94 h94 => ?_)
        obtain ⟨rfl, e94⟩ := h94
        subst M94
        refine z_icmp_ne (pc := 97) C 104 dX10_check_97 (by decide) (fun c97 => ?_) (fun c97 => ?_)
        · refine z_iconst (pc := 104) (v := 0) C dX10_check_104 rfl ?_
          refine z_iadd (pc := 105) C dX10_check_105 ?_
          refine z_istore_n (pc := 106) C 3 dX10_check_106 rfl (by decide) rfl ?_
          rw [Int32.add_zero]
          have nb : ¬ ckG (ckE (hvF M (lastK ky 0 T1)) n1 (mV M 32)) (M 52 0 0) q (2 * i) := fun z => c97 (z.2.trans ev.symm)
          refine z_iload_n (pc := 107) C 3 dX10_check_107 rfl rfl ?_
          refine z_iload_n (pc := 108) C 3 dX10_check_108 rfl rfl ?_
          refine z_iconst (pc := 109) (v := 2) C dX10_check_109 rfl ?_
          refine z_iload (pc := 110) C 4 dX10_check_110 rfl ?_
          refine z_imul (pc := 112) C dX10_check_112 ?_
          refine z_iconst (pc := 113) (v := 1) C dX10_check_113 rfl ?_
          refine z_iadd (pc := 114) C dX10_check_114 ?_
          refine z_icmp_ne (pc := 115) C 143 dX10_check_115 (by decide) (fun c115 => ?_) (fun c115 => absurd (nI_inj' (by omega) (by omega) (show nI (2 * i) = nI (2 * i + 1) from by rw [c115, show (2 : Int32) * nI i = nI (2 * i) from nI_mul 2 i]; exact nI_1 _)) (by omega))
          refine z_iconst (pc := 143) (v := 0) C dX10_check_143 rfl ?_
          refine z_iadd (pc := 144) C dX10_check_144 ?_
          refine z_istore_n (pc := 145) C 3 dX10_check_145 rfl (by decide) rfl ?_
          refine z_iinc (pc := 146) (v := 1) C 4 dX10_check_146 (by decide) rfl rfl rfl ?_
          refine z_goto (pc := 149) C 61 dX10_check_149 (by decide) ?_
          have e := ex kp m hm1 hm30 rfl M76 (2 * i) (i + 1) (some (.int r76)) (by omega) (by omega) (by omega) (by omega) hf2 (Or.inl ⟨2 * i, by omega, hg, nb, rfl⟩)
          rw [nI_succ i] at e
          rw [Int32.add_zero]
          exact e
        · refine z_iconst (pc := 100) (v := 1) C dX10_check_100 rfl ?_
          refine z_goto (pc := 101) C 105 dX10_check_101 (by decide) ?_
          refine z_iadd (pc := 105) C dX10_check_105 ?_
          refine z_istore_n (pc := 106) C 3 dX10_check_106 rfl (by decide) rfl ?_
          rw [nI_1]
          have g0 : ckG (ckE (hvF M (lastK ky 0 T1)) n1 (mV M 32)) (M 52 0 0) q (2 * i) := ⟨by rw [zi_le, eq, e2i] at c84; omega, c97.trans ev⟩
          have hg1 : ∀ j, j < 2 * i + 1 → ckG (ckE (hvF M (lastK ky 0 T1)) n1 (mV M 32)) (M 52 0 0) q j := fun j hj => by
            by_cases z : j = 2 * i
            · rw [z]; exact g0
            · exact hg j (by omega)
          refine z_iload_n (pc := 107) C 3 dX10_check_107 rfl rfl ?_
          refine z_iload_n (pc := 108) C 3 dX10_check_108 rfl rfl ?_
          refine z_iconst (pc := 109) (v := 2) C dX10_check_109 rfl ?_
          refine z_iload (pc := 110) C 4 dX10_check_110 rfl ?_
          refine z_imul (pc := 112) C dX10_check_112 ?_
          refine z_iconst (pc := 113) (v := 1) C dX10_check_113 rfl ?_
          refine z_iadd (pc := 114) C dX10_check_114 ?_
          refine z_icmp_ne (pc := 115) C 143 dX10_check_115 (by decide) (fun c115 => absurd (show nI (2 * i + 1) = 2 * nI i + 1 from by rw [show (2 : Int32) * nI i = nI (2 * i) from nI_mul 2 i]; exact nI_succ _) c115) (fun c115 => ?_)
          refine z_iload_n (pc := 118) C 3 dX10_check_118 rfl rfl ?_
          refine z_iload_n (pc := 119) C 2 dX10_check_119 rfl rfl ?_
          refine z_icmp_ge (pc := 120) C 143 dX10_check_120 (by decide) (fun c120 => ?_) (fun c120 => ?_)
          · refine z_iconst (pc := 143) (v := 0) C dX10_check_143 rfl ?_
            refine z_iadd (pc := 144) C dX10_check_144 ?_
            refine z_istore_n (pc := 145) C 3 dX10_check_145 rfl (by decide) rfl ?_
            refine z_iinc (pc := 146) (v := 1) C 4 dX10_check_146 (by decide) rfl rfl rfl ?_
            refine z_goto (pc := 149) C 61 dX10_check_149 (by decide) ?_
            have nb : ¬ ckG (ckE (hvF M (lastK ky 0 T1)) n1 (mV M 32)) (M 52 0 0) q (2 * i + 1) := fun z => by
              have z1 := z.1
              rw [zi_le, eq, e2j] at c120
              omega
            have e := ex kp m hm1 hm30 rfl M76 (2 * i + 1) (i + 1) (some (.int r76)) (by omega) (by omega) (by omega) (by omega) hf2 (Or.inl ⟨2 * i + 1, by omega, hg1, nb, rfl⟩)
            rw [nI_succ i] at e
            rw [Int32.add_zero]
            exact e
          · refine z_aload_n (pc := 123) C 0 dX10_check_123 rfl rfl ?_
            refine z_getR (pc := 124) (r := 261) C dX10_check_124 fX10_75 sh_239 rfl ?_
            refine z_iload_n (pc := 127) C 3 dX10_check_127 rfl rfl ?_
            refine z_iald (pc := 128) (n := 2 * i + 1) C dX10_check_128 sh_261 (vp_in_nI (by rw [zi_le, eq, e2j] at c120; omega) (by decide)) (nI_clamp (by omega)) ?_
            rw [h52]
            refine z_aload_n (pc := 129) C 0 dX10_check_129 rfl rfl ?_
            refine z_getR (pc := 130) (r := 240) C dX10_check_130 fX10_9 sh_239 rfl ?_
            refine z_bipush (pc := 133) (v := 7) C dX10_check_133 rfl ?_
            refine z_iald (pc := 135) (n := 7) C dX10_check_135 sh_240 (zi_in.mpr (by decide)) rfl ?_
            refine z_icmp_ne (pc := 136) C 143 dX10_check_136 (by decide) (fun c136 => ?_) (fun c136 => ?_)
            · refine z_iconst (pc := 143) (v := 0) C dX10_check_143 rfl ?_
              refine z_iadd (pc := 144) C dX10_check_144 ?_
              refine z_istore_n (pc := 145) C 3 dX10_check_145 rfl (by decide) rfl ?_
              refine z_iinc (pc := 146) (v := 1) C 4 dX10_check_146 (by decide) rfl rfl rfl ?_
              refine z_goto (pc := 149) C 61 dX10_check_149 (by decide) ?_
              have nb : ¬ ckG (ckE (hvF M (lastK ky 0 T1)) n1 (mV M 32)) (M 52 0 0) q (2 * i + 1) := fun z => c136 (z.2.trans eo.symm)
              have e := ex kp m hm1 hm30 rfl M76 (2 * i + 1) (i + 1) (some (.int r76)) (by omega) (by omega) (by omega) (by omega) hf2 (Or.inl ⟨2 * i + 1, by omega, hg1, nb, rfl⟩)
              rw [nI_succ i] at e
              rw [Int32.add_zero]
              exact e
            · refine z_iconst (pc := 139) (v := 1) C dX10_check_139 rfl ?_
              refine z_goto (pc := 140) C 144 dX10_check_140 (by decide) ?_
              refine z_iadd (pc := 144) C dX10_check_144 ?_
              refine z_istore_n (pc := 145) C 3 dX10_check_145 rfl (by decide) rfl ?_
              refine z_iinc (pc := 146) (v := 1) C 4 dX10_check_146 (by decide) rfl rfl rfl ?_
              refine z_goto (pc := 149) C 61 dX10_check_149 (by decide) ?_
              have g1 : ckG (ckE (hvF M (lastK ky 0 T1)) n1 (mV M 32)) (M 52 0 0) q (2 * i + 1) := ⟨by rw [zi_le, eq, e2j] at c120; omega, c136.trans eo⟩
              have e := ih (i + 1) M76 (some (.int r76)) (by omega) (fun j hj => by
                by_cases z : j = 2 * i + 1
                · rw [z]; exact g1
                · exact hg1 j (by omega)) hv2 hf2 hI2
              rw [show 2 * (i + 1) = 2 * i + 1 + 1 by omega, nI_succ i] at e
              rw [nI_1 (2 * i + 1)]
              exact e
  refine z_aload_n (pc := 0) C 0 dX10_check_0 rfl rfl ?_
  refine z_getI (pc := 1) C dX10_check_1 fX10_280 sh_239 rfl ?_
  rw [hq]
  refine z_istore_n (pc := 4) C 2 dX10_check_4 rfl (by decide) rfl ?_
  refine z_aload_n (pc := 5) C 0 dX10_check_5 rfl rfl ?_
  refine z_iconst (pc := 6) (v := 0) C dX10_check_6 rfl ?_
  refine z_putII (pc := 7) C dX10_check_7 fX10_280 sh_239 rfl ?_
  refine z_iload_n (pc := 10) C 1 dX10_check_10 rfl rfl ?_
  refine z_iconst (pc := 11) (v := 1) C dX10_check_11 rfl ?_
  refine z_bipush (pc := 12) (v := 30) C dX10_check_12 rfl ?_
  refine z_callSi (pc := 14) C dX10_check_14 kX10_78 mX10_in (by decide) rfl rfl (Nat.le_of_ble_eq_true rfl) (fun r14 M14 h14 => ?_)
  obtain ⟨h14, e14⟩ := h14
  subst M14
  replace h14 : zb r14 (iin x (1) (30)) := zin_b (by decide) (by decide) h14
  refine z_if_ne (pc := 17) C 23 dX10_check_17 (by decide) (fun c17 => ?_) (fun c17 => ?_)
  · have hx := h14.yes c17
    refine z_aload_n (pc := 23) C 0 dX10_check_23 rfl rfl ?_
    refine z_getI (pc := 24) C dX10_check_24 fX10_283 sh_239 rfl ?_
    rw [zu_f (by decide)]
    refine z_if_ne (pc := 27) C 34 dX10_check_27 (by decide) (fun c27 => ?_) (fun c27 => ?_)
    · refine z_aload_n (pc := 34) C 0 dX10_check_34 rfl rfl ?_
      refine z_getR (pc := 35) (r := 240) C dX10_check_35 fX10_9 sh_239 rfl ?_
      refine z_aload_n (pc := 38) C 0 dX10_check_38 rfl rfl ?_
      refine z_getR (pc := 39) (r := 242) C dX10_check_39 fX10_16 sh_239 rfl ?_
      refine z_callSv (pc := 42) C dX10_check_42 kX10_287 (mX10_copyAll sh_240 sh_242 (by decide) (by decide) (by decide) (by decide) (by decide)) (by decide) rfl rfl (Nat.le_of_ble_eq_true rfl) (fun M42 h42 => ?_)
      subst M42
      refine z_aload_n (pc := 45) C 0 dX10_check_45 rfl rfl ?_
      refine z_getR (pc := 46) (r := 241) C dX10_check_46 fX10_13 sh_239 rfl ?_
      refine z_aload_n (pc := 49) C 0 dX10_check_49 rfl rfl ?_
      refine z_getR (pc := 50) (r := 240) C dX10_check_50 fX10_9 sh_239 rfl ?_
      refine z_callSv (pc := 53) C dX10_check_53 kX10_287 (mX10_copyAll sh_241 sh_240 (by decide) (by decide) (by decide) (by decide) (by decide)) (by decide) rfl rfl (Nat.le_of_ble_eq_true rfl) (fun M53 h53 => ?_)
      subst M53
      refine z_iconst (pc := 56) (v := 0) C dX10_check_56 rfl ?_
      refine z_istore_n (pc := 57) C 3 dX10_check_57 rfl (by decide) rfl ?_
      refine z_iconst (pc := 58) (v := 0) C dX10_check_58 rfl ?_
      refine z_istore (pc := 59) C 4 dX10_check_59 (by decide) rfl ?_
      obtain ⟨m, hm1, hm30, hxm⟩ := iin_1 hx
      obtain ⟨b1, b2, b3, b4⟩ := hk c27
      have n8 := b1.2.1
      have hV : veq n1 (mV (tk (tk (zu M 30 0 0 33 0) 31 33 1437) 32 31 1437) 31) (mV M 32) := by
        have e' : mV (tk (zu M 30 0 0 33 0) 31 33 1437) 32 = mV M 32 := mV_on (fun k => by rw [tk_a (by decide), zu_a (by decide)])
        rw [← e']
        exact mV_tk (by decide) n8
      have h8' : ∀ t f, (tk (tk (zu M 30 0 0 33 0) 31 33 1437) 32 31 1437) 8 t 0 f = M 8 t 0 f := fun t f => by rw [tk_a (by decide), tk_a (by decide), zu_a (by decide)]
      have h9' : ∀ t f, (tk (tk (zu M 30 0 0 33 0) 31 33 1437) 32 31 1437) 9 t 0 f = M 9 t 0 f := fun t f => by rw [tk_a (by decide), tk_a (by decide), zu_a (by decide)]
      have hI0 : rI (tk (tk (zu M 30 0 0 33 0) 31 33 1437) 32 31 1437) n1 T1 ky ln := ⟨vOK_c hV.symm b1, (hV.1 10 (by decide) (by decide)).trans b2, b3.on (fun t f _ => h8' t f) (fun t f _ => h9' t f), by
        have e : mTX (tk (zu M 30 0 0 33 0) 31 33 1437) 32 T1 ky ln := b4.on (fun k => by rw [tk_a (by decide), zu_a (by decide)]) (fun t f _ => by rw [tk_a (by decide), zu_a (by decide)]) (fun t f _ => by rw [tk_a (by decide), zu_a (by decide)])
        exact e.tk b3.1 (fun t ht => (b3.2 t ht).2.1) (by decide) (by decide)⟩
      exact loop c27 m hm1 hm30 hxm m 0 _ none (Nat.zero_add _) (fun j hj => absurd hj (Nat.not_lt_zero _)) hV mFr.rfl' hI0
    · refine z_ldcw (pc := 30) C q6_138 dX10_check_30 ?_
      refine z_ireturn (pc := 33) C K dX10_check_33 ?_
      exact ⟨_, rfl, Or.inr (Or.inl ⟨hx, c27, rfl⟩), zSc.rfl'⟩
  · refine z_ldc (pc := 20) C q5_48 dX10_check_20 ?_
    refine z_ireturn (pc := 22) C K dX10_check_22 ?_
    exact ⟨_, rfl, Or.inl ⟨h14.no c17, rfl⟩, zSc.rfl'⟩

theorem op_check {l : Launch} {G : zG} {b : Nat} {M : zM} (hM : Rel M) {x : Int32} : opOK l G b yX9_check cX9_check 6 6 yX10_check cX10_check 6 7 [.int x] M := by
  obtain ⟨n, T, ky, ln, hR⟩ := hM
  obtain ⟨q, hq, g1, g2, g3⟩ := hR.2.2.2.2.2.1
  have hT14 := hR.TX.1
  obtain ⟨n1, T1, hC⟩ : ∃ n1 T1, (M 0 0 0 10 = 0 ∧ M 30 0 0 3 = 0) ∨ (M 0 0 0 10 = 1 ∧ M 30 0 0 3 = 1 ∧ RI M T ky ln n1 T1) := by
    rcases hR.2.1 with h | ⟨h1, h2, n1, T1, h3⟩
    · exact ⟨0, 0, Or.inl h⟩
    · exact ⟨n1, T1, Or.inr ⟨h1, h2, h3⟩⟩
  have hk : ¬ M 0 0 0 10 = 0 → RI M T ky ln n1 T1 := fun z => by
    rcases hC with h | h
    · exact absurd h.1 z
    · exact h.2.2
  have hkp : M 30 0 0 3 = M 0 0 0 10 := by
    rcases hC with h | h
    · rw [h.1, h.2]
    · rw [h.1, h.2.1]
  have hX1 : ¬ M 0 0 0 10 = 0 → TX M T1 ky ln := fun z => hR.TX.le (hk z).1
  refine ⟨_, mX9_check (n1 := n1) (hv := hvF M (lastK ky 0 T1)) g1 hq (hvF_in M _) (fun z => ⟨(hk z).2.1, by rw [(hk z).2.2.2.2.2.1 0 (by decide)]; exact (hX1 z).okS⟩), fun r M1 h1 => ?_⟩
  obtain ⟨h1, s1⟩ := h1
  have f30 : ∀ f, f = 3 ∨ f = 33 → M1 30 0 0 f = M 30 0 0 f := fun f hf => by rw [s1 30 0 0 f (by unfold scr; omega), zu_a (by decide)]
  have f32 : ∀ f, M1 32 0 0 f = M 32 0 0 f := fun f => by rw [s1 32 0 0 f (by unfold scr; omega), zu_a (by decide)]
  have f8 : ∀ t f, t < T → M1 8 t 0 f = M 8 t 0 f := fun t f ht => by rw [s1 8 t 0 f (by unfold scr; omega), zu_a (by decide)]
  have f9 : ∀ t f, t < T → M1 9 t 0 f = M 9 t 0 f := fun t f ht => by rw [s1 9 t 0 f (by unfold scr; omega), zu_a (by decide)]
  have f52 : ∀ f, M1 52 0 0 f = M 52 0 0 f := fun f => by rw [s1 52 0 0 f (by unfold scr; omega), zu_a (by decide)]
  have e32 : mV M1 32 = mV M 32 := mV_on f32
  refine zI.post (mX10_check (M := M1) (n1 := n1) (T1 := T1) (ky := ky) (ln := ln) (by rw [f30 33 (Or.inr rfl)]; exact g2) hq (fun z => ?_)) (fun s M2 h2 => ?_)
  · rw [f30 3 (Or.inl rfl), hkp] at z
    have hI := hk z
    have hT := hI.1
    rw [e32, f32]
    refine ⟨vOK_c hI.2.2.1 hI.2.1, ?_, (hX1 z).on (fun t f ht => f8 t f (by omega)) (fun t f ht => f9 t f (by omega)), hI.2.2.2.1.on f32 (fun t f ht => f8 t f (by omega)) (fun t f ht => f9 t f (by omega))⟩
    exact (hI.2.2.1.1 10 (by decide) (by decide)).symm.trans hI.2.2.2.2.1
  · obtain ⟨h2, s2⟩ := h2
    rw [f30 3 (Or.inl rfl), hkp] at h2
    refine ⟨?_, _, _, _, _, (hR.ch (D := fun a x y f => scr a x y f ∨ (a = 0 ∧ f = 9) ∨ (a = 30 ∧ f = 33)) ?_ (Or.inl (fun a x y f z q => by have q1 : scr a x y f ∨ (a = 0 ∧ f = 9) ∨ (a = 30 ∧ f = 33) := q; unfold scr at q1; unfold RAd at z; omega)) (Or.inl (fun a x y f z q => by have q1 : scr a x y f ∨ (a = 0 ∧ f = 9) ∨ (a = 30 ∧ f = 33) := q; unfold scr at q1; unfold RCd at z; omega)) (Or.inl (fun a x y f z q => by have q1 : scr a x y f ∨ (a = 0 ∧ f = 9) ∨ (a = 30 ∧ f = 33) := q; unfold scr at q1; unfold RDd at z; omega)) (Or.inl (fun a x y f z q => by have q1 : scr a x y f ∨ (a = 0 ∧ f = 9) ∨ (a = 30 ∧ f = 33) := q; unfold scr at q1; unfold REd at z; omega)) (Or.inl (fun a x y f z q => by have q1 : scr a x y f ∨ (a = 0 ∧ f = 9) ∨ (a = 30 ∧ f = 33) := q; unfold scr at q1; unfold RFd at z; omega)) (Or.inr ⟨0, by decide, ?_, ?_, fun k hk => absurd hk (Nat.not_lt_zero _)⟩) (Or.inl (fun a x y f z q => by have q1 : scr a x y f ∨ (a = 0 ∧ f = 9) ∨ (a = 30 ∧ f = 33) := q; unfold scr at q1; unfold RHd at z; omega)))⟩
    · rcases h1 with ⟨a, rfl⟩ | ⟨a, a2, rfl⟩ | ⟨a, m, a1, a2, a3, a4⟩ <;> rcases h2 with ⟨c, rfl⟩ | ⟨c, c2, rfl⟩ | ⟨c, m2, c1, c2, c3, c4⟩
      · rfl
      · exact absurd c a
      · exact absurd (by rw [c3]; unfold iin; rw [nI_toInt (by omega)]; omega) a
      · exact absurd a c
      · rfl
      · exact absurd a2 c
      · exact absurd (by rw [a3]; unfold iin; rw [nI_toInt (by omega)]; omega) c
      · exact absurd c2 a
      · obtain rfl : m = m2 := nI_inj' (by omega) (by omega) (a3.symm.trans c3)
        have hI := hk a
        have hX := hX1 a
        have hT := hI.1
        have ehv : hvF M1 (lastK ky 0 T1) = hvF M (lastK ky 0 T1) := by
          have sz : zSc (zu M 0 0 0 9 0) M1 := s1
          have e1 : TX (zu M 0 0 0 9 0) T1 ky ln := hX.on (fun t f _ => by rw [zu_a (by decide)]) (fun t f _ => by rw [zu_a (by decide)])
          rw [hvF_sc sz e1]
          exact hvF_c (zu_a (by decide)) (zu_a (by decide)) _
        rw [ehv, e32] at c4
        exact ckR_u (fun j => ckE_c hI.2.2.1 j) (fun j hj => by rw [f52]; exact g3 j hj) a4 c4
    · intro a x y f z
      have z1 : ¬ (scr a x y f ∨ (a = 0 ∧ f = 9) ∨ (a = 30 ∧ f = 33)) := z
      rw [s2 a x y f (fun e => z1 (Or.inl e)), zu_ne _ _ (fun e => z1 (by omega)), s1 a x y f (fun e => z1 (Or.inl e)), zu_ne _ _ (fun e => z1 (by omega))]
    · rw [s2 0 0 0 9 (by unfold scr; omega), zu_a (by decide), s1 0 0 0 9 (by unfold scr; omega), zu_self]
      rfl
    · rw [s2 30 0 0 33 (by unfold scr; omega), zu_self]
      rfl