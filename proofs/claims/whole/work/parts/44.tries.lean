theorem vN_add {hv : Int32 → Int32 → Int32 → Int32} {n : Nat} : ∀ (j k : Nat) (V : zVw), vN hv n (j + k) V = vN hv n k (vN hv n j V) ∧ vC hv n (j + k) V = vC hv n j V + vC hv n k (vN hv n j V)
  | 0, k, V => by
    rw [Nat.zero_add]
    exact ⟨rfl, (Nat.zero_add _).symm⟩
  | j + 1, k, V => by
    have e := vN_add (hv := hv) (n := n) j k (vTry hv n V)
    rw [show j + 1 + k = (j + k) + 1 by omega]
    refine ⟨e.1, ?_⟩
    rw [vC, vC, e.2, Nat.add_assoc]
    rfl
theorem vN_still {hv : Int32 → Int32 → Int32 → Int32} {n : Nat} {V : zVw} (h : vStill n V) : ∀ k, vN hv n k V = V ∧ vC hv n k V = 0
  | 0 => ⟨rfl, rfl⟩
  | k + 1 => by
    have e := vN_still (hv := hv) h k
    rw [vN, vC, vTry_s h]
    exact ⟨e.1, by rw [if_pos h, e.2]⟩
theorem vTry_8 {hv : Int32 → Int32 → Int32 → Int32} {n : Nat} {V : zVw} (h : ¬ vStill n V) : (vTry hv n V).1 8 = V.1 8 + 1 := by
  rw [vTry_n h]
  unfold vTurn
  by_cases q : pVoice (vPay V).2 n ((vPay V).1 4) = (vPay V).1 3
  · rw [if_pos q]
    simp [vPay]
  · rw [if_neg q]
    simp [vPay]
theorem vTry_10 {hv : Int32 → Int32 → Int32 → Int32} {n : Nat} (V : zVw) : (vTry hv n V).1 10 = V.1 10 := by
  by_cases h : vStill n V
  · rw [vTry_s h]
  · rw [vTry_n h]
    unfold vTurn
    by_cases q : pVoice (vPay V).2 n ((vPay V).1 4) = (vPay V).1 3
    · rw [if_pos q]
      simp [vPay]
    · rw [if_neg q]
      simp [vPay]
theorem vN_10 {hv : Int32 → Int32 → Int32 → Int32} {n : Nat} : ∀ (k : Nat) (V : zVw), (vN hv n k V).1 10 = V.1 10
  | 0, _ => rfl
  | k + 1, V => (vN_10 k (vTry hv n V)).trans (vTry_10 V)
theorem vN_8 {hv : Int32 → Int32 → Int32 → Int32} {n : Nat} : ∀ (k : Nat) (V : zVw), 0 ≤ (V.1 8).toInt → (V.1 8).toInt + k ≤ 1000000 → (V.1 8).toInt ≤ ((vN hv n k V).1 8).toInt ∧ ((vN hv n k V).1 8).toInt ≤ (V.1 8).toInt + k
  | 0, V, _, _ => ⟨Int.le_refl _, by show (V.1 8).toInt ≤ (V.1 8).toInt + 0; omega⟩
  | k + 1, V, h0, h => by
    by_cases q : vStill n V
    · rw [(vN_still q _).1]
      omega
    · have e8 : ((vTry hv n V).1 8).toInt = (V.1 8).toInt + 1 := by rw [vTry_8 q, zi_add (by rw [i1]; omega) (by rw [i1]; omega), i1]
      have e := vN_8 (hv := hv) (n := n) k (vTry hv n V) (by omega) (by omega)
      rw [vN]
      omega
def Stry (hv : Int32 → Int32 → Int32 → Int32) (x : Int32) : Nat → zVw → Int32 → Nat → zVw → Prop := fun n V r n' V' => (¬ iin x 1 100 ∧ rf (-1000000001) n V r n' V') ∨ (iin x 1 100 ∧ ∃ m, m = min x.toInt.toNat (9999 - (V.1 8).toInt.toNat) ∧ r = nI (vC hv n m V) ∧ n' = n ∧ V' = vN hv n m V)
theorem Stry_ok {hv : Int32 → Int32 → Int32 → Int32} (hh : ∀ x y z, 0 ≤ (hv x y z).toInt ∧ (hv x y z).toInt ≤ 99) (x : Int32) : Sok (Stry hv x) := by
  intro n V W h g t r n' V' s m' W' h1 h2
  rcases h1 with ⟨a, h1⟩ | ⟨a, m, hm, rfl, rfl, rfl⟩ <;> rcases h2 with ⟨c, h2⟩ | ⟨c, m2, hm2, rfl, rfl, rfl⟩
  · exact rf.ok h g t h1 h2
  · exact absurd c a
  · exact absurd a c
  · obtain rfl : m2 = m := by rw [hm, hm2, h.1 8 (by decide) (by decide)]
    have e := vN_c (hv := hv) m2 h
    have t8 := t
    unfold tOK at t8
    refine ⟨by rw [e.2], rfl, e.1, vN_ok hh m2 g, vN_10 m2 V, ?_⟩
    exact ⟨Int.le_trans t8.1 (vN_8 m2 V t8.1 (by omega)).1, Int.le_trans (vN_8 m2 V t8.1 (by omega)).2 (by omega)⟩
theorem i9999 : (9999 : Int32).toInt = 9999 := by decide
set_option maxHeartbeats 800000 in
set_option maxRecDepth 100000 in
theorem mX9_tries {l : Launch} {G : zG} {b : Nat} {M : zM} {n T : Nat} {ky ln : Nat → Nat} (hR : RR M n T ky ln) {x : Int32} : zMet l G b yX9_tries cX9_tries 3 (some .int) 6 zshL zshL [.ref (b + 0), .int x] M (zI (cSt (Stry (hvF M (lastK ky 0 T)) x) n M)) := by
  refine zMet.of (L0 := [some (.ref (b + 0)), some (.int x), none]) (by decide +kernel) (Nat.le_refl _) (Nat.le_refl _) (Nat.le_of_ble_eq_true rfl) (List.forall_mem_cons.mpr ⟨rfl, List.forall_mem_cons.mpr ⟨rfl, fun _ h => absurd h List.not_mem_nil⟩⟩) rfl (fun X C Al K => ?_)
  have hcI := hR.cI
  have hh := hvF_in M (lastK ky 0 T)
  have t8 := hR.1.2.2.2.2.2.2
  unfold tOK at t8
  have loop : iin x 1 100 → ∀ (k i : Nat) (M1 : zM), i + k = min x.toInt.toNat (9999 - (M 5 0 0 8).toInt.toNat) → veq n (cV M1 0) (vN (hvF M (lastK ky 0 T)) n i (cV M 0)) → cFr M M1 0 → vC (hvF M (lastK ky 0 T)) n i (cV M 0) = i → (M1 5 0 0 8).toInt = (M 5 0 0 8).toInt + i → zW X zshL M1 16 [some (.ref (b + 0)), some (.int x), some (.int (nI i))] [] := by
    intro hx k
    have hx' := hx
    unfold iin at hx'
    induction k with
    | zero =>
      intro i M1 hi hv hf hc h8
      have e1 : (nI i).toInt = i := nI_toInt (by omega)
      refine z_iload_n (pc := 16) C 2 dX9_tries_16 rfl rfl ?_
      refine z_iload_n (pc := 17) C 1 dX9_tries_17 rfl rfl ?_
      refine z_icmp_ge (pc := 18) C 50 dX9_tries_18 (by decide) (fun c18 => ?_) (fun c18 => ?_)
      · refine z_iload_n (pc := 50) C 2 dX9_tries_50 rfl rfl ?_
        refine z_ireturn (pc := 51) C K dX9_tries_51 ?_
        exact ⟨_, rfl, _, _, Or.inr ⟨hx, i, (by show i = min x.toInt.toNat (9999 - (M 5 0 0 8).toInt.toNat); omega), (by rw [hc]), rfl, rfl⟩, hv, hf⟩
      · refine z_aload_n (pc := 21) C 0 dX9_tries_21 rfl rfl ?_
        refine z_getR (pc := 22) (r := adW 0) C dX9_tries_22 fX9_21 sh_0 rfl ?_
        refine z_getI (pc := 25) C dX9_tries_25 fX9_164 (shW lt0_14) rfl ?_
        refine z_sipush (pc := 28) (v := 9999) C dX9_tries_28 rfl ?_
        refine z_icmp_ge (pc := 31) C 50 dX9_tries_31 (by decide) (fun c31 => ?_) (fun c31 => by
        exfalso
        simp only [zi_lt, zi_le, zi_eq, i0, i1, i2, i3, i4, i5, i6, i9, i20, i99, i100, im5, im20, im1] at c18 c31
        rw [h8, i9999] at c31
        rw [e1] at c18
        omega)
        refine z_iload_n (pc := 50) C 2 dX9_tries_50 rfl rfl ?_
        refine z_ireturn (pc := 51) C K dX9_tries_51 ?_
        exact ⟨_, rfl, _, _, Or.inr ⟨hx, i, (by show i = min x.toInt.toNat (9999 - (M 5 0 0 8).toInt.toNat); omega), (by rw [hc]), rfl, rfl⟩, hv, hf⟩
    | succ k ih =>
      intro i M1 hi hv hf hc h8
      have e1 : (nI i).toInt = i := nI_toInt (by omega)
      have hI1 : cI M1 0 n (hvF M (lastK ky 0 T)) := hcI.on hf (vOK_c hv.symm (vN_ok hh i hcI.1))
      refine z_iload_n (pc := 16) C 2 dX9_tries_16 rfl rfl ?_
      refine z_iload_n (pc := 17) C 1 dX9_tries_17 rfl rfl ?_
      refine z_icmp_ge (pc := 18) C 50 dX9_tries_18 (by decide) (fun c18 => by
        exfalso
        simp only [zi_lt, zi_le, zi_eq, i0, i1, i2, i3, i4, i5, i6, i9, i20, i99, i100, im5, im20, im1] at c18
        rw [e1] at c18
        omega) (fun c18 => ?_)
      refine z_aload_n (pc := 21) C 0 dX9_tries_21 rfl rfl ?_
      refine z_getR (pc := 22) (r := adW 0) C dX9_tries_22 fX9_21 sh_0 rfl ?_
      refine z_getI (pc := 25) C dX9_tries_25 fX9_164 (shW lt0_14) rfl ?_
      refine z_sipush (pc := 28) (v := 9999) C dX9_tries_28 rfl ?_
      refine z_icmp_ge (pc := 31) C 50 dX9_tries_31 (by decide) (fun c31 => by
        exfalso
        simp only [zi_lt, zi_le, zi_eq, i0, i1, i2, i3, i4, i5, i6, i9, i20, i99, i100, im5, im20, im1] at c31
        rw [h8, i9999] at c31
        omega) (fun c31 => ?_)
      refine z_aload_n (pc := 34) C 0 dX9_tries_34 rfl rfl ?_
      refine z_getR (pc := 35) (r := adW 0) C dX9_tries_35 fX9_21 sh_0 rfl ?_
      refine z_callVi (pc := 38) C dX9_tries_38 kX9_167 (mX8_attempt2 lt0_14 hI1) (by decide) (shW lt0_14) rfl rfl rfl (Nat.le_of_ble_eq_true rfl) (fun r38 M38 h38 => ?_)
      refine z_if_eq (pc := 41) C 50 dX9_tries_41 (by decide) (fun c41 => ?_) (fun c41 => ?_)
      · refine z_iload_n (pc := 50) C 2 dX9_tries_50 rfl rfl ?_
        refine z_ireturn (pc := 51) C K dX9_tries_51 ?_
        rcases h38 with ⟨⟨g1, g2⟩ | ⟨g1, g2⟩, g3, g4⟩
        · have gs := (vStill_c hv).mp g1
          have ea := vN_add (hv := (hvF M (lastK ky 0 T))) (n := n) i (k + 1) (cV M 0)
          have es := vN_still (hv := (hvF M (lastK ky 0 T))) gs (k + 1)
          refine ⟨_, rfl, n, _, Or.inr ⟨hx, i + (k + 1), hi, ?_, rfl, rfl⟩, ?_, hf.trans g4⟩
          · rw [ea.2, es.2, hc, Nat.add_zero]
          · rw [ea.1, es.1]
            exact (g3.trans (by rw [vTry_s g1]; exact veq.rfl')).trans hv
        · exact absurd c41 (by rw [g2]; decide)
      · refine z_iinc (pc := 44) (v := 1) C 2 dX9_tries_44 (by decide) rfl rfl rfl ?_
        refine z_goto (pc := 47) C 16 dX9_tries_47 (by decide) ?_
        have e8' : ¬ vStill n (cV M1 0) := by
          rcases h38 with ⟨⟨g1, g2⟩ | ⟨g1, g2⟩, -⟩
          · exact absurd g2 c41
          · exact g1
        obtain ⟨-, g3, g4⟩ := h38
        have ns : ¬ vStill n (vN (hvF M (lastK ky 0 T)) n i (cV M 0)) := fun z => e8' ((vStill_c hv).mpr z)
        have ea := vN_add (hv := (hvF M (lastK ky 0 T))) (n := n) i 1 (cV M 0)
        have e := ih (i + 1) M38 (by omega) (by rw [ea.1]; exact g3.trans (vTry_c hv)) (hf.trans g4) (by rw [ea.2, hc, vC, if_neg ns]; rfl) (by
          have q : M38 5 0 0 8 = M1 5 0 0 8 + 1 := (g3.1 8 (by decide) (by decide)).trans (vTry_8 e8')
          rw [q, zi_add (by rw [i1]; omega) (by rw [i1]; omega), i1, h8]
          omega)
        rw [nI_succ i] at e
        exact e
  refine z_iload_n (pc := 0) C 1 dX9_tries_0 rfl rfl ?_
  refine z_iconst (pc := 1) (v := 1) C dX9_tries_1 rfl ?_
  refine z_icmp_lt (pc := 2) C 11 dX9_tries_2 (by decide) (fun c2 => ?_) (fun c2 => ?_)
  · refine z_ldc (pc := 11) C q2_96 dX9_tries_11 ?_
    refine z_ireturn (pc := 13) C K dX9_tries_13 ?_
    have hx : ¬ iin x 1 100 := by
      simp only [zi_lt, zi_le, zi_eq, i0, i1, i2, i3, i4, i5, i6, i9, i20, i99, i100, im5, im20, im1] at c2
      unfold iin
      omega
    exact ⟨_, rfl, n, cV M 0, Or.inl ⟨hx, rfl, rfl, rfl⟩, veq.rfl', cFr.rfl'⟩
  · refine z_iload_n (pc := 5) C 1 dX9_tries_5 rfl rfl ?_
    refine z_bipush (pc := 6) (v := 100) C dX9_tries_6 rfl ?_
    refine z_icmp_le (pc := 8) C 14 dX9_tries_8 (by decide) (fun c8 => ?_) (fun c8 => ?_)
    · refine z_iconst (pc := 14) (v := 0) C dX9_tries_14 rfl ?_
      refine z_istore_n (pc := 15) C 2 dX9_tries_15 rfl (by decide) rfl ?_
      have hx : iin x 1 100 := by
        simp only [zi_lt, zi_le, zi_eq, i0, i1, i2, i3, i4, i5, i6, i9, i20, i99, i100, im5, im20, im1] at c2 c8
        unfold iin
        omega
      exact loop hx _ 0 M (Nat.zero_add _) veq.rfl' cFr.rfl' rfl (by omega)
    · refine z_ldc (pc := 11) C q2_96 dX9_tries_11 ?_
      refine z_ireturn (pc := 13) C K dX9_tries_13 ?_
      have hx : ¬ iin x 1 100 := by
        simp only [zi_lt, zi_le, zi_eq, i0, i1, i2, i3, i4, i5, i6, i9, i20, i99, i100, im5, im20, im1] at c2 c8
        unfold iin
        omega
      exact ⟨_, rfl, n, cV M 0, Or.inl ⟨hx, rfl, rfl, rfl⟩, veq.rfl', cFr.rfl'⟩

set_option maxHeartbeats 800000 in
set_option maxRecDepth 100000 in
theorem mX10_tries {l : Launch} {G : zG} {b : Nat} {M : zM} {n T : Nat} {ky ln : Nat → Nat} (hI : rI M n T ky ln) (t8 : tOK (M 31 0 0 2)) {x : Int32} : zMet l G b yX10_tries cX10_tries 2 (some .int) 7 zshL zshL [.ref (b + 239), .int x] M (zI (mSt (Stry (hvF M (lastK ky 0 T)) x) n M)) := by
  refine zMet.of (L0 := [some (.ref (b + 239)), some (.int x)]) (by decide +kernel) (Nat.le_refl _) (Nat.le_refl _) (Nat.le_of_ble_eq_true rfl) (List.forall_mem_cons.mpr ⟨rfl, List.forall_mem_cons.mpr ⟨rfl, fun _ h => absurd h List.not_mem_nil⟩⟩) rfl (fun X C Al K => ?_)
  refine z_iload_n (pc := 0) C 1 dX10_tries_0 rfl rfl ?_
  refine z_iconst (pc := 1) (v := 1) C dX10_tries_1 rfl ?_
  refine z_bipush (pc := 2) (v := 100) C dX10_tries_2 rfl ?_
  refine z_callSi (pc := 4) C dX10_tries_4 kX10_78 mX10_in (by decide) rfl rfl (Nat.le_of_ble_eq_true rfl) (fun r4 M4 h4 => ?_)
  obtain ⟨h4, e4⟩ := h4
  subst M4
  replace h4 : zb r4 (iin x (1) (100)) := zin_b (by decide) (by decide) h4
  refine z_if_eq (pc := 7) C 32 dX10_tries_7 (by decide) (fun c7 => ?_) (fun c7 => ?_)
  · refine z_ldc (pc := 32) C q5_48 dX10_tries_32 ?_
    refine z_ireturn (pc := 34) C K dX10_tries_34 ?_
    exact ⟨_, rfl, n, mV M 31, Or.inl ⟨h4.no c7, rfl, rfl, rfl⟩, veq.rfl', mFr.rfl'⟩
  · have hx := h4.yes c7
    have hx' := hx
    unfold iin at hx'
    unfold tOK at t8
    have ew : zwi (9999 - M 31 0 0 2) 0 x = nI (min x.toInt.toNat (9999 - (M 31 0 0 2).toInt.toNat)) := by
      have e0 : (9999 - M 31 0 0 2).toInt = 9999 - (M 31 0 0 2).toInt := by rw [zi_sub (by rw [i9999]; omega) (by rw [i9999]; omega), i9999]
      have en : (nI (min x.toInt.toNat (9999 - (M 31 0 0 2).toInt.toNat))).toInt = (min x.toInt.toNat (9999 - (M 31 0 0 2).toInt.toNat) : Nat) := nI_toInt (by omega)
      rw [zi_eq, en]
      unfold zwi
      by_cases q : 9999 - M 31 0 0 2 < 0
      · exfalso
        rw [zi_lt, e0, i0] at q
        omega
      · rw [if_neg q]
        by_cases q2 : x < 9999 - M 31 0 0 2
        · rw [if_pos q2]
          rw [zi_lt, e0] at q2
          omega
        · rw [if_neg q2, e0]
          rw [zi_lt, e0] at q2
          omega
    refine z_aload_n (pc := 10) C 0 dX10_tries_10 rfl rfl ?_
    refine z_sipush (pc := 11) (v := 9999) C dX10_tries_11 rfl ?_
    refine z_aload_n (pc := 14) C 0 dX10_tries_14 rfl rfl ?_
    refine z_getR (pc := 15) (r := 240) C dX10_tries_15 fX10_9 sh_239 rfl ?_
    refine z_iconst (pc := 18) (v := 2) C dX10_tries_18 rfl ?_
    refine z_iald (pc := 19) (n := 2) C dX10_tries_19 sh_240 (zi_in.mpr (by decide)) rfl ?_
    refine z_isub (pc := 20) C dX10_tries_20 ?_
    refine z_iconst (pc := 21) (v := 0) C dX10_tries_21 rfl ?_
    refine z_iload_n (pc := 22) C 1 dX10_tries_22 rfl rfl ?_
    refine z_callSi (pc := 23) C dX10_tries_23 kX10_103 mX10_within (by decide) rfl rfl (Nat.le_of_ble_eq_true rfl) (fun r23 M23 h23 => ?_)
    obtain ⟨rfl, e23⟩ := h23
    subst M23
    rw [ew]
    refine z_callVi (pc := 26) C dX10_tries_26 kX10_172 (mX10_goesOn hI (by omega)) (by decide) sh_239 rfl rfl rfl (Nat.le_of_ble_eq_true rfl) (fun r26 M26 h26 => ?_)
    refine z_goto (pc := 29) C 34 dX10_tries_29 (by decide) ?_
    refine z_ireturn (pc := 34) C K dX10_tries_34 ?_
    obtain ⟨rfl, g1, g2, g3⟩ := h26
    exact ⟨_, rfl, n, _, Or.inr ⟨hx, _, rfl, rfl, rfl, rfl⟩, g1, g2⟩
