/-! THE REFERENCE: tries, needs -/
set_option maxHeartbeats 4000000 in
set_option maxRecDepth 100000 in
theorem mX10_isStill {l : Launch} {G : zG} {b : Nat} {M : zM} {n T : Nat} {ky ln : Nat → Nat} (hI : rI M n T ky ln) : zMet l G b yX10_isStill cX10_isStill 1 (some .boolean) 0 zshL zshL [.ref (b + 239)] M (zI (fun r M' => ((vStill n (mV M 31) ∧ r = 1) ∨ (¬ vStill n (mV M 31) ∧ r = 0)) ∧ M' = M)) := by
  refine zMet.of (L0 := [some (.ref (b + 239))]) (by decide +kernel) (Nat.le_refl _) (Nat.le_refl _) (Nat.le_of_ble_eq_true rfl) (List.forall_mem_cons.mpr ⟨rfl, fun _ h => absurd h List.not_mem_nil⟩) rfl (fun X C Al K => ?_)
  refine z_aload_n (pc := 0) C 0 dX10_isStill_0 rfl rfl ?_
  refine z_getR (pc := 1) (r := 240) C dX10_isStill_1 fX10_9 sh_239 rfl ?_
  refine z_bipush (pc := 4) (v := 7) C dX10_isStill_4 rfl ?_
  refine z_iald (pc := 6) (n := 7) C dX10_isStill_6 sh_240 (zi_in.mpr (by decide)) rfl ?_
  refine z_iconst (pc := 7) (v := 1) C dX10_isStill_7 rfl ?_
  refine z_icmp_eq (pc := 8) C 30 dX10_isStill_8 (by decide) (fun c8 => ?_) (fun c8 => ?_)
  · refine z_iconst (pc := 30) (v := 1) C dX10_isStill_30 rfl ?_
    refine z_goto (pc := 31) C 35 dX10_isStill_31 (by decide) ?_
    refine z_zreturn (pc := 35) C K dX10_isStill_35 (Or.inr rfl) ?_
    exact ⟨_, rfl, Or.inl ⟨Or.inl (fun q => absurd (q.symm.trans c8) (by decide)), rfl⟩, rfl⟩
  · refine z_aload_n (pc := 11) C 0 dX10_isStill_11 rfl rfl ?_
    refine z_getR (pc := 12) (r := 240) C dX10_isStill_12 fX10_9 sh_239 rfl ?_
    refine z_iconst (pc := 15) (v := 1) C dX10_isStill_15 rfl ?_
    refine z_iald (pc := 16) (n := 1) C dX10_isStill_16 sh_240 (zi_in.mpr (by decide)) rfl ?_
    refine z_if_eq (pc := 17) C 30 dX10_isStill_17 (by decide) (fun c17 => ?_) (fun c17 => ?_)
    · refine z_iconst (pc := 30) (v := 1) C dX10_isStill_30 rfl ?_
      refine z_goto (pc := 31) C 35 dX10_isStill_31 (by decide) ?_
      refine z_zreturn (pc := 35) C K dX10_isStill_35 (Or.inr rfl) ?_
      exact ⟨_, rfl, Or.inl ⟨Or.inr (Or.inl ((nz hI.1.1 hI.1.2.1).mp c17)), rfl⟩, rfl⟩
    · refine z_aload_n (pc := 20) C 0 dX10_isStill_20 rfl rfl ?_
      refine z_getR (pc := 21) (r := 240) C dX10_isStill_21 fX10_9 sh_239 rfl ?_
      refine z_bipush (pc := 24) (v := 6) C dX10_isStill_24 rfl ?_
      refine z_iald (pc := 26) (n := 6) C dX10_isStill_26 sh_240 (zi_in.mpr (by decide)) rfl ?_
      refine z_if_ne (pc := 27) C 34 dX10_isStill_27 (by decide) (fun c27 => ?_) (fun c27 => ?_)
      · refine z_iconst (pc := 34) (v := 0) C dX10_isStill_34 rfl ?_
        refine z_zreturn (pc := 35) C K dX10_isStill_35 (Or.inl rfl) ?_
        refine ⟨_, rfl, Or.inr ⟨fun z => ?_, rfl⟩, rfl⟩
        rcases z with z | z | z
        · rcases hI.1.2.2.2.2.2.2.2 with q | q
          · exact z q
          · exact c8 q
        · exact c17 ((nz hI.1.1 hI.1.2.1).mpr z)
        · exact c27 z
      · refine z_iconst (pc := 30) (v := 1) C dX10_isStill_30 rfl ?_
        refine z_goto (pc := 31) C 35 dX10_isStill_31 (by decide) ?_
        refine z_zreturn (pc := 35) C K dX10_isStill_35 (Or.inr rfl) ?_
        exact ⟨_, rfl, Or.inl ⟨Or.inr (Or.inr c27), rfl⟩, rfl⟩

theorem rI_pay {M : zM} {n T : Nat} {ky ln : Nat → Nat} (hI : rI M n T ky ln) (h : ¬ vStill n (mV M 31)) : rI (zu M 31 0 0 6 (M 31 0 0 6 - 1)) n T ky ln ∧ veq n (vT (mV (zu M 31 0 0 6 (M 31 0 0 6 - 1)) 31)) (vPay (mV M 31)) ∧ mFr M (zu M 31 0 0 6 (M 31 0 0 6 - 1)) := by
  have hf : mFr M (zu M 31 0 0 6 (M 31 0 0 6 - 1)) := ⟨fun a h1 _ _ => zu_a h1, fun k hk => zu_f (by omega)⟩
  have hv : veq n (vT (mV (zu M 31 0 0 6 (M 31 0 0 6 - 1)) 31)) (vPay (mV M 31)) := by
    refine ⟨fun k h1 h2 => ?_, fun i f hi hf => zu_f (f := 6) (f' := 9 + 7 * i + f) (by omega)⟩
    show (if k = 8 then zu M 31 0 0 6 (M 31 0 0 6 - 1) 31 0 0 2 + 1 else zu M 31 0 0 6 (M 31 0 0 6 - 1) 31 0 0 (mm k)) = if k = 6 then M 31 0 0 6 - 1 else if k = 8 then M 31 0 0 2 + 1 else M 31 0 0 (mm k)
    rcases (show k = 2 ∨ k = 3 ∨ k = 4 ∨ k = 5 ∨ k = 6 ∨ k = 7 ∨ k = 8 ∨ k = 9 ∨ k = 10 by omega) with rfl | rfl | rfl | rfl | rfl | rfl | rfl | rfl | rfl <;> simp [mm, zu]
  have hv2 : veq n (mV (zu M 31 0 0 6 (M 31 0 0 6 - 1)) 31) (fun k => if k = 6 then M 31 0 0 6 - 1 else (mV M 31).1 k, (mV M 31).2) := by
    refine ⟨fun k h1 h2 => ?_, fun i f hi hf => zu_f (f := 6) (f' := 9 + 7 * i + f) (by omega)⟩
    show zu M 31 0 0 6 (M 31 0 0 6 - 1) 31 0 0 (mm k) = if k = 6 then M 31 0 0 6 - 1 else M 31 0 0 (mm k)
    rcases (show k = 2 ∨ k = 3 ∨ k = 4 ∨ k = 5 ∨ k = 6 ∨ k = 7 ∨ k = 8 ∨ k = 9 ∨ k = 10 by omega) with rfl | rfl | rfl | rfl | rfl | rfl | rfl | rfl | rfl <;> simp [mm, zu]
  have hp := vOK_pay hI.1 h
  exact ⟨hI.on hf (zu_f (by decide)) (vOK_c hv2.symm ⟨hp.1, hp.2.1, hp.2.2.1, hp.2.2.2.1, hp.2.2.2.2.1, hp.2.2.2.2.2.1, hp.2.2.2.2.2.2.1, hp.2.2.2.2.2.2.2⟩), hv, hf⟩
set_option maxHeartbeats 4000000 in
set_option maxRecDepth 100000 in
theorem mX10_aTry {l : Launch} {G : zG} {b : Nat} {M : zM} {n T : Nat} {ky ln : Nat → Nat} (hI : rI M n T ky ln) : zMet l G b yX10_aTry cX10_aTry 2 (some .int) 5 zshL zshL [.ref (b + 239)] M (zI (fun r M' => ((vStill n (mV M 31) ∧ r = 0) ∨ (¬ vStill n (mV M 31) ∧ r = 1)) ∧ veq n (mV M' 31) (vTry (hvF M (lastK ky 0 T)) n (mV M 31)) ∧ mFr M M' ∧ rI M' n T ky ln)) := by
  refine zMet.of (L0 := [some (.ref (b + 239)), none]) (by decide +kernel) (Nat.le_refl _) (Nat.le_refl _) (Nat.le_of_ble_eq_true rfl) (List.forall_mem_cons.mpr ⟨rfl, fun _ h => absurd h List.not_mem_nil⟩) rfl (fun X C Al K => ?_)
  refine z_aload_n (pc := 0) C 0 dX10_aTry_0 rfl rfl ?_
  refine z_callVi (pc := 1) C dX10_aTry_1 kX10_162 (mX10_isStill hI) (by decide) sh_239 rfl rfl rfl (Nat.le_of_ble_eq_true rfl) (fun r1 M1 h1 => ?_)
  obtain ⟨r1e, e1⟩ := h1
  subst M1
  refine z_if_eq (pc := 4) C 9 dX10_aTry_4 (by decide) (fun c4 => ?_) (fun c4 => ?_)
  · have hs : ¬ vStill n (mV M 31) := by
      rcases r1e with ⟨-, q⟩ | ⟨q, -⟩
      · rw [q] at c4
        exact absurd c4 (by decide)
      · exact q
    obtain ⟨p1, p2, p3⟩ := rI_pay hI hs
    refine z_aload_n (pc := 9) C 0 dX10_aTry_9 rfl rfl ?_
    refine z_getR (pc := 10) (r := 240) C dX10_aTry_10 fX10_9 sh_239 rfl ?_
    refine z_bipush (pc := 13) (v := 6) C dX10_aTry_13 rfl ?_
    refine z_dup2 (pc := 15) C dX10_aTry_15 rfl rfl ?_
    refine z_iald (pc := 16) (n := 6) C dX10_aTry_16 sh_240 (zi_in.mpr (by decide)) rfl ?_
    refine z_iconst (pc := 17) (v := 1) C dX10_aTry_17 rfl ?_
    refine z_isub (pc := 18) C dX10_aTry_18 ?_
    refine z_iast (pc := 19) (n := 6) C dX10_aTry_19 sh_240 (zi_in.mpr (by decide)) rfl ?_
    refine z_aload_n (pc := 20) C 0 dX10_aTry_20 rfl rfl ?_
    refine z_callVi (pc := 21) C dX10_aTry_21 kX10_166 (mX10_turn2 p1) (by decide) sh_239 rfl rfl rfl (Nat.le_of_ble_eq_true rfl) (fun r21 M21 h21 => ?_)
    refine z_istore_n (pc := 24) C 1 dX10_aTry_24 rfl (by decide) rfl ?_
    refine z_iconst (pc := 25) (v := 1) C dX10_aTry_25 rfl ?_
    refine z_ireturn (pc := 26) C K dX10_aTry_26 ?_
    obtain ⟨-, t2, t3, t4⟩ := h21
    rw [p3.hv] at t2
    refine ⟨_, rfl, Or.inr ⟨hs, rfl⟩, ?_, p3.trans t3, t4⟩
    rw [vTry_n hs]
    exact t2.trans (vTurn_c p2)
  · refine z_iconst (pc := 7) (v := 0) C dX10_aTry_7 rfl ?_
    refine z_ireturn (pc := 8) C K dX10_aTry_8 ?_
    have hs : vStill n (mV M 31) := by
      rcases r1e with ⟨q, -⟩ | ⟨-, q⟩
      · exact q
      · exact absurd q c4
    exact ⟨_, rfl, Or.inl ⟨hs, rfl⟩, by rw [vTry_s hs]; exact veq.rfl', mFr.rfl', hI⟩

noncomputable def vN (hv : Int32 → Int32 → Int32 → Int32) (n : Nat) : Nat → zVw → zVw
  | 0, V => V
  | k + 1, V => vN hv n k (vTry hv n V)
noncomputable def vC (hv : Int32 → Int32 → Int32 → Int32) (n : Nat) : Nat → zVw → Nat
  | 0, _ => 0
  | k + 1, V => @ite _ (vStill n V) (Classical.propDecidable _) 0 1 + vC hv n k (vTry hv n V)
theorem vN_c {hv : Int32 → Int32 → Int32 → Int32} {n : Nat} : ∀ (k : Nat) {V V' : zVw}, veq n V V' → veq n (vN hv n k V) (vN hv n k V') ∧ vC hv n k V = vC hv n k V'
  | 0, _, _, h => ⟨h, rfl⟩
  | k + 1, V, V', h => by
    obtain ⟨h1, h2⟩ := vN_c k (vTry_c (hv := hv) h)
    refine ⟨h1, ?_⟩
    rw [vC, vC, h2]
    by_cases q : vStill n V
    · rw [if_pos q, if_pos ((vStill_c h).mp q)]
    · rw [if_neg q, if_neg (fun z => q ((vStill_c h).mpr z))]
theorem vN_ok {hv : Int32 → Int32 → Int32 → Int32} (hh : ∀ x y z, 0 ≤ (hv x y z).toInt ∧ (hv x y z).toInt ≤ 99) {n : Nat} : ∀ (k : Nat) {V : zVw}, vOK n V → vOK n (vN hv n k V)
  | 0, _, h => h
  | k + 1, _, h => vN_ok hh k (vOK_try hh h)
set_option maxHeartbeats 4000000 in
set_option maxRecDepth 100000 in
theorem mX10_goesOn {l : Launch} {G : zG} {b : Nat} {M : zM} {n T : Nat} {ky ln : Nat → Nat} (hI : rI M n T ky ln) {c : Nat} (hc : c ≤ 100) : zMet l G b yX10_goesOn cX10_goesOn 4 (some .int) 6 zshL zshL [.ref (b + 239), .int (nI c)] M (zI (fun r M' => r = nI (vC (hvF M (lastK ky 0 T)) n c (mV M 31)) ∧ veq n (mV M' 31) (vN (hvF M (lastK ky 0 T)) n c (mV M 31)) ∧ mFr M M' ∧ rI M' n T ky ln)) := by
  refine zMet.of (L0 := [some (.ref (b + 239)), some (.int (nI c)), none, none]) (by decide +kernel) (Nat.le_refl _) (Nat.le_refl _) (Nat.le_of_ble_eq_true rfl) (List.forall_mem_cons.mpr ⟨rfl, List.forall_mem_cons.mpr ⟨rfl, fun _ h => absurd h List.not_mem_nil⟩⟩) rfl (fun X C Al K => ?_)
  have loop : ∀ (k i s : Nat) (M1 : zM), i + k = c → rI M1 n T ky ln → mFr M M1 → nI (s + vC (hvF M (lastK ky 0 T)) n k (mV M1 31)) = nI (vC (hvF M (lastK ky 0 T)) n c (mV M 31)) → veq n (vN (hvF M (lastK ky 0 T)) n k (mV M1 31)) (vN (hvF M (lastK ky 0 T)) n c (mV M 31)) → zW X zshL M1 4 [some (.ref (b + 239)), some (.int (nI c)), some (.int (nI s)), some (.int (nI i))] [] := by
    intro k
    induction k with
    | zero =>
      intro i s M1 hi hI1 hf h1 h2
      refine z_iload_n (pc := 4) C 3 dX10_goesOn_4 rfl rfl ?_
      refine z_iload_n (pc := 5) C 1 dX10_goesOn_5 rfl rfl ?_
      refine z_icmp_ge (pc := 6) C 22 dX10_goesOn_6 (by decide) (fun c6 => ?_) (fun c6 => absurd (nI_le (by omega) (by omega)) c6)
      refine z_iload_n (pc := 22) C 2 dX10_goesOn_22 rfl rfl ?_
      refine z_ireturn (pc := 23) C K dX10_goesOn_23 ?_
      exact ⟨_, rfl, h1, h2, hf, hI1⟩
    | succ k ih =>
      intro i s M1 hi hI1 hf h1 h2
      refine z_iload_n (pc := 4) C 3 dX10_goesOn_4 rfl rfl ?_
      refine z_iload_n (pc := 5) C 1 dX10_goesOn_5 rfl rfl ?_
      refine z_icmp_ge (pc := 6) C 22 dX10_goesOn_6 (by decide) (fun c6 => absurd c6 (nI_ge (by omega) (by omega))) (fun c6 => ?_)
      refine z_iload_n (pc := 9) C 2 dX10_goesOn_9 rfl rfl ?_
      refine z_aload_n (pc := 10) C 0 dX10_goesOn_10 rfl rfl ?_
      refine z_callVi (pc := 11) C dX10_goesOn_11 kX10_169 (mX10_aTry hI1) (by decide) sh_239 rfl rfl rfl (Nat.le_of_ble_eq_true rfl) (fun r11 M11 h11 => ?_)
      refine z_iadd (pc := 14) C dX10_goesOn_14 ?_
      refine z_istore_n (pc := 15) C 2 dX10_goesOn_15 rfl (by decide) rfl ?_
      refine z_iinc (pc := 16) (v := 1) C 3 dX10_goesOn_16 (by decide) rfl rfl rfl ?_
      refine z_goto (pc := 19) C 4 dX10_goesOn_19 (by decide) ?_
      obtain ⟨t1, t2, t3, t4⟩ := h11
      rw [hf.hv] at t2
      obtain ⟨v1, v2⟩ := vN_c (hv := (hvF M (lastK ky 0 T))) k t2
      rw [vC, ← v2] at h1
      have e := ih (i + 1) (s + @ite _ (vStill n (mV M1 31)) (Classical.propDecidable _) 0 1) M11 (by omega) t4 (hf.trans t3) (by rw [Nat.add_assoc]; exact h1) (v1.trans h2)
      rcases t1 with ⟨q1, q2⟩ | ⟨q1, q2⟩
      · rw [if_pos q1, nI_succ i] at e
        rw [q2, Int32.add_zero]
        exact e
      · rw [if_neg q1, nI_succ i, nI_succ s] at e
        rw [q2]
        exact e
  refine z_iconst (pc := 0) (v := 0) C dX10_goesOn_0 rfl ?_
  refine z_istore_n (pc := 1) C 2 dX10_goesOn_1 rfl (by decide) rfl ?_
  refine z_iconst (pc := 2) (v := 0) C dX10_goesOn_2 rfl ?_
  refine z_istore_n (pc := 3) C 3 dX10_goesOn_3 rfl (by decide) rfl ?_
  exact loop c 0 0 M (by omega) hI mFr.rfl' (by rw [Nat.zero_add]) veq.rfl'

/-- the first so many places of an array are another's -/
def tk (M : zM) (c e i : Nat) : zM := fun a x y f => if a = e ∧ x = 0 ∧ y = 0 ∧ f < i then M c 0 0 f else M a x y f
theorem tk_succ {M : zM} {c e i : Nat} (h : c ≠ e) : zu (tk M c e i) e 0 0 i (tk M c e i c 0 0 i) = tk M c e (i + 1) := by
  have h1 : tk M c e i c 0 0 i = M c 0 0 i := if_neg (fun z => h z.1)
  rw [h1]
  funext a x y f
  by_cases q : a = e ∧ x = 0 ∧ y = 0 ∧ f = i
  · obtain ⟨rfl, rfl, rfl, rfl⟩ := q
    rw [zu_self]
    exact (if_pos ⟨rfl, rfl, rfl, Nat.lt_succ_self _⟩).symm
  · rw [zu_ne _ _ q]
    by_cases q2 : a = e ∧ x = 0 ∧ y = 0 ∧ f < i
    · rw [show tk M c e i a x y f = _ from if_pos q2]
      exact (if_pos ⟨q2.1, q2.2.1, q2.2.2.1, by omega⟩).symm
    · rw [show tk M c e i a x y f = _ from if_neg q2]
      exact (if_neg (fun z => by
        rcases Nat.lt_or_ge f i with g | g
        · exact q2 ⟨z.1, z.2.1, z.2.2.1, g⟩
        · exact q ⟨z.1, z.2.1, z.2.2.1, by omega⟩)).symm
theorem tk_0 (M : zM) (c e : Nat) : tk M c e 0 = M := by
  funext a x y f
  exact if_neg (fun z => absurd z.2.2.2 (Nat.not_lt_zero _))
theorem tk_in {M : zM} {c e i f : Nat} (h : f < i) : tk M c e i e 0 0 f = M c 0 0 f := if_pos ⟨rfl, rfl, rfl, h⟩
theorem tk_f {M : zM} {c e i f : Nat} (h : ¬ f < i) : tk M c e i e 0 0 f = M e 0 0 f := if_neg (fun z => h z.2.2.2)
theorem tk_a {M : zM} {c e i a : Nat} (h : a ≠ e) : tk M c e i a = M a := by
  funext x y f
  exact if_neg (fun z => h z.1)
set_option maxHeartbeats 4000000 in
set_option maxRecDepth 100000 in
theorem mX10_takes {l : Launch} {G : zG} {b : Nat} {M : zM} {k1 k2 c e n1 n2 : Nat} (h1 : zshL[k1]? = some ((c, 0, 0), .inr (.inl (0, n1)))) (h2 : zshL[k2]? = some ((e, 0, 0), .inr (.inl (0, n2)))) (hne : c ≠ e) (hn1 : 65 ≤ n1) (hn2 : 65 ≤ n2) (hn1b : n1 < 2000) (hn2b : n2 < 2000) : zMet l G b yX10_takes cX10_takes 4 none 0 zshL zshL [.ref (b + 239), .ref (b + k1), .ref (b + k2)] M (zV (fun M' => M' = tk M c e 65)) := by
  refine zMet.of (L0 := [some (.ref (b + 239)), some (.ref (b + k1)), some (.ref (b + k2)), none]) (by decide +kernel) (Nat.le_refl _) (Nat.le_refl _) (Nat.le_of_ble_eq_true rfl) (List.forall_mem_cons.mpr ⟨rfl, List.forall_mem_cons.mpr ⟨rfl, List.forall_mem_cons.mpr ⟨rfl, fun _ h => absurd h List.not_mem_nil⟩⟩⟩) rfl (fun X C Al K => ?_)
  have loop : ∀ (k i : Nat), i + k = 65 → zW X zshL (tk M c e i) 2 [some (.ref (b + 239)), some (.ref (b + k1)), some (.ref (b + k2)), some (.int (nI i))] [] := by
    intro k
    induction k with
    | zero =>
      intro i hi
      obtain rfl : i = 65 := by omega
      refine z_iload_n (pc := 2) C 3 dX10_takes_2 rfl rfl ?_
      refine z_bipush (pc := 3) (v := 65) C dX10_takes_3 rfl ?_
      refine z_icmp_ge (pc := 5) C 20 dX10_takes_5 (by decide) (fun c5 => ?_) (fun c5 => absurd (by decide) c5)
      refine z_return (pc := 20) C K dX10_takes_20 ?_
      exact ⟨rfl, rfl⟩
    | succ k ih =>
      intro i hi
      refine z_iload_n (pc := 2) C 3 dX10_takes_2 rfl rfl ?_
      refine z_bipush (pc := 3) (v := 65) C dX10_takes_3 rfl ?_
      refine z_icmp_ge (pc := 5) C 20 dX10_takes_5 (by decide) (fun c5 => absurd c5 (nI_ge (b := 65) (by omega) (by omega))) (fun c5 => ?_)
      refine z_aload_n (pc := 8) C 2 dX10_takes_8 rfl rfl ?_
      refine z_iload_n (pc := 9) C 3 dX10_takes_9 rfl rfl ?_
      refine z_aload_n (pc := 10) C 1 dX10_takes_10 rfl rfl ?_
      refine z_iload_n (pc := 11) C 3 dX10_takes_11 rfl rfl ?_
      refine z_iald (pc := 12) (n := i) C dX10_takes_12 h1 (vp_in_nI (by omega) (by omega)) (nI_clamp (by omega)) ?_
      refine z_iast (pc := 13) (n := i) C dX10_takes_13 h2 (vp_in_nI (by omega) (by omega)) (nI_clamp (by omega)) ?_
      refine z_iinc (pc := 14) (v := 1) C 3 dX10_takes_14 (by decide) rfl rfl rfl ?_
      refine z_goto (pc := 17) C 2 dX10_takes_17 (by decide) ?_
      rw [tk_succ hne]
      have e9 := ih (i + 1) (by omega)
      rw [nI_succ] at e9
      exact e9
  refine z_iconst (pc := 0) (v := 0) C dX10_takes_0 rfl ?_
  refine z_istore_n (pc := 1) C 3 dX10_takes_1 rfl (by decide) rfl ?_
  have e9 := loop 65 0 (by omega)
  rw [tk_0] at e9
  exact e9

set_option maxHeartbeats 4000000 in
set_option maxRecDepth 100000 in
theorem mX10_copyAll {l : Launch} {G : zG} {b : Nat} {M : zM} {k1 k2 c e n1 n2 : Nat} (h1 : zshL[k1]? = some ((c, 0, 0), .inr (.inl (0, n1)))) (h2 : zshL[k2]? = some ((e, 0, 0), .inr (.inl (0, n2)))) (hne : c ≠ e) (hn1 : 1437 ≤ n1) (hn2 : 1437 ≤ n2) (hn1b : n1 < 2000) (hn2b : n2 < 2000) : zMet l G b yX10_copyAll cX10_copyAll 3 none 0 zshL zshL [.ref (b + k1), .ref (b + k2)] M (zV (fun M' => M' = tk M c e 1437)) := by
  refine zMet.of (L0 := [some (.ref (b + k1)), some (.ref (b + k2)), none]) (by decide +kernel) (Nat.le_refl _) (Nat.le_refl _) (Nat.le_of_ble_eq_true rfl) (List.forall_mem_cons.mpr ⟨rfl, List.forall_mem_cons.mpr ⟨rfl, fun _ h => absurd h List.not_mem_nil⟩⟩) rfl (fun X C Al K => ?_)
  have loop : ∀ (k i : Nat), i + k = 1437 → zW X zshL (tk M c e i) 2 [some (.ref (b + k1)), some (.ref (b + k2)), some (.int (nI i))] [] := by
    intro k
    induction k with
    | zero =>
      intro i hi
      obtain rfl : i = 1437 := by omega
      refine z_iload_n (pc := 2) C 2 dX10_copyAll_2 rfl rfl ?_
      refine z_sipush (pc := 3) (v := 1437) C dX10_copyAll_3 rfl ?_
      refine z_icmp_ge (pc := 6) C 21 dX10_copyAll_6 (by decide) (fun c6 => ?_) (fun c6 => absurd (by decide) c6)
      refine z_return (pc := 21) C K dX10_copyAll_21 ?_
      exact ⟨rfl, rfl⟩
    | succ k ih =>
      intro i hi
      refine z_iload_n (pc := 2) C 2 dX10_copyAll_2 rfl rfl ?_
      refine z_sipush (pc := 3) (v := 1437) C dX10_copyAll_3 rfl ?_
      refine z_icmp_ge (pc := 6) C 21 dX10_copyAll_6 (by decide) (fun c6 => absurd c6 (nI_ge (b := 1437) (by omega) (by omega))) (fun c6 => ?_)
      refine z_aload_n (pc := 9) C 1 dX10_copyAll_9 rfl rfl ?_
      refine z_iload_n (pc := 10) C 2 dX10_copyAll_10 rfl rfl ?_
      refine z_aload_n (pc := 11) C 0 dX10_copyAll_11 rfl rfl ?_
      refine z_iload_n (pc := 12) C 2 dX10_copyAll_12 rfl rfl ?_
      refine z_iald (pc := 13) (n := i) C dX10_copyAll_13 h1 (vp_in_nI (by omega) (by omega)) (nI_clamp (by omega)) ?_
      refine z_iast (pc := 14) (n := i) C dX10_copyAll_14 h2 (vp_in_nI (by omega) (by omega)) (nI_clamp (by omega)) ?_
      refine z_iinc (pc := 15) (v := 1) C 2 dX10_copyAll_15 (by decide) rfl rfl rfl ?_
      refine z_goto (pc := 18) C 2 dX10_copyAll_18 (by decide) ?_
      rw [tk_succ hne]
      have e9 := ih (i + 1) (by omega)
      rw [nI_succ] at e9
      exact e9
  refine z_iconst (pc := 0) (v := 0) C dX10_copyAll_0 rfl ?_
  refine z_istore_n (pc := 1) C 2 dX10_copyAll_1 rfl (by decide) rfl ?_
  have e9 := loop 1437 0 (by omega)
  rw [tk_0] at e9
  exact e9

/-- what a number needs in the reference's now (13: never) -/
def mnd (M : zM) (n : Nat) (hv : Int32 → Int32 → Int32 → Int32) (k : Nat) : Int32 := if M 31 0 0 7 = 0 then (if n = 0 then 13 else ndv (nd hv n (M 31 0 0 4) (M 31 0 0 5) 12 (mp M) (nI k)) 0 13) else 0
theorem rI_num {M : zM} {n T : Nat} {ky ln : Nat → Nat} (hI : rI M n T ky ln) {k : Nat} (hk : k < 100) : rI (zu M 31 0 0 3 (nI k)) n T ky ln ∧ mFr M (zu M 31 0 0 3 (nI k)) := by
  have hf : mFr M (zu M 31 0 0 3 (nI k)) := ⟨fun a h1 _ _ => zu_a h1, fun k hk => zu_f (by omega)⟩
  obtain ⟨g1, g2, g3, g4, g5, g6, g7, g8⟩ := hI.1
  refine ⟨hI.on hf (zu_f (by decide)) ⟨(show zu M 31 0 0 3 (nI k) 31 0 0 1 = M 31 0 0 1 from zu_f (by decide)).trans g1, g2, fun i hi => pOK_c (fun f hf => (zu_f (f := 3) (f' := 9 + 7 * i + f) (by omega)).symm) (g3 i hi), ?_, ?_, ?_, ?_, ?_⟩, hf⟩
  · show 0 ≤ (zu M 31 0 0 3 (nI k) 31 0 0 3).toInt ∧ (zu M 31 0 0 3 (nI k) 31 0 0 3).toInt ≤ 99
    rw [zu_self, nI_toInt (by omega)]
    omega
  · show 0 ≤ (zu M 31 0 0 3 (nI k) 31 0 0 4).toInt ∧ (zu M 31 0 0 3 (nI k) 31 0 0 4).toInt ≤ 2
    rw [zu_f (by decide)]
    exact g5
  · show -5 ≤ (zu M 31 0 0 3 (nI k) 31 0 0 5).toInt ∧ (zu M 31 0 0 3 (nI k) 31 0 0 5).toInt ≤ 5
    rw [zu_f (by decide)]
    exact g6
  · show 0 ≤ (zu M 31 0 0 3 (nI k) 31 0 0 6).toInt ∧ (zu M 31 0 0 3 (nI k) 31 0 0 6).toInt ≤ 99
    rw [zu_f (by decide)]
    exact g7
  · show zu M 31 0 0 3 (nI k) 31 0 0 7 = 0 ∨ zu M 31 0 0 3 (nI k) 31 0 0 7 = 1
    rw [zu_f (by decide)]
    exact g8
theorem vTurn7p {hv : Int32 → Int32 → Int32 → Int32} {n : Nat} {M : zM} (h : pVoice (mp M) n (M 31 0 0 4) = M 31 0 0 3) : (vTurn hv n (vT (mV M 31))).1 7 = 1 := by
  unfold vTurn
  rw [if_pos (show pVoice (vT (mV M 31)).2 n ((vT (mV M 31)).1 4) = (vT (mV M 31)).1 3 from h)]
  rfl
theorem vTurn7n {hv : Int32 → Int32 → Int32 → Int32} {n : Nat} {M : zM} (h : ¬ pVoice (mp M) n (M 31 0 0 4) = M 31 0 0 3) : (vTurn hv n (vT (mV M 31))).1 7 = M 31 0 0 7 := by
  unfold vTurn
  rw [if_neg (show ¬ pVoice (vT (mV M 31)).2 n ((vT (mV M 31)).1 4) = (vT (mV M 31)).1 3 from h)]
  rfl
set_option maxHeartbeats 4000000 in
set_option maxRecDepth 100000 in
theorem mX10_needsOf {l : Launch} {G : zG} {b : Nat} {M : zM} {n T : Nat} {ky ln : Nat → Nat} (hI : rI M n T ky ln) {k : Nat} (hk : k < 100) : zMet l G b yX10_needsOf cX10_needsOf 4 (some .int) 5 zshL zshL [.ref (b + 239), .int (nI k)] M (zI (fun r M' => r = mnd M n (hvF M (lastK ky 0 T)) k ∧ mFr M M')) := by
  refine zMet.of (L0 := [some (.ref (b + 239)), some (.int (nI k)), none, none]) (by decide +kernel) (Nat.le_refl _) (Nat.le_refl _) (Nat.le_of_ble_eq_true rfl) (List.forall_mem_cons.mpr ⟨rfl, List.forall_mem_cons.mpr ⟨rfl, fun _ h => absurd h List.not_mem_nil⟩⟩) rfl (fun X C Al K => ?_)
  have hop := hI.1.2.2.2.2.2.2.2
  have hn1 : M 31 0 0 1 = nI n := hI.1.1
  have hn8 := hI.1.2.1
  have loop : ¬ n = 0 → ∀ (c j : Nat) (M1 : zM) (q : Option Value) (r : Int32), j + c = 13 → 1 ≤ j → rI M1 n T ky ln → mFr M M1 → M1 31 0 0 7 = 0 → M1 31 0 0 4 = M 31 0 0 4 → M1 31 0 0 5 = M 31 0 0 5 → ndv (nd (hvF M (lastK ky 0 T)) n (M 31 0 0 4) (M 31 0 0 5) c (mp M1) (M1 31 0 0 3)) (j - 1) 13 = r → (∀ M', mFr M M' → zI (fun r M' => r = mnd M n (hvF M (lastK ky 0 T)) k ∧ mFr M M') (some (.int r)) M') → zW X zshL M1 22 [some (.ref (b + 239)), some (.int (nI k)), some (.int (nI j)), q] [] := by
    intro hne c
    induction c with
    | zero =>
      intro j M1 q r hj hj1 hI1 hf h7 h4 h5 hr fin
      obtain rfl : j = 13 := by omega
      have hr' : (13 : Int32) = r := hr
      subst hr'
      refine z_iload_n (pc := 22) C 2 dX10_needsOf_22 rfl rfl ?_
      refine z_bipush (pc := 23) (v := 13) C dX10_needsOf_23 rfl ?_
      refine z_icmp_ge (pc := 25) C 61 dX10_needsOf_25 (by decide) (fun c25 => ?_) (fun c25 => absurd (by decide) c25)
      refine z_bipush (pc := 61) (v := 13) C dX10_needsOf_61 rfl ?_
      refine z_ireturn (pc := 63) C K dX10_needsOf_63 ?_
      exact fin M1 hf
    | succ c ih =>
      intro j M1 q r hj hj1 hI1 hf h7 h4 h5 hr fin
      have hnn : M1 31 0 0 1 = nI n := hI1.1.1
      rw [nd] at hr
      refine z_iload_n (pc := 22) C 2 dX10_needsOf_22 rfl rfl ?_
      refine z_bipush (pc := 23) (v := 13) C dX10_needsOf_23 rfl ?_
      refine z_icmp_ge (pc := 25) C 61 dX10_needsOf_25 (by decide) (fun c25 => absurd c25 (nI_ge (b := 13) (by omega) (by omega))) (fun c25 => ?_)
      refine z_aload_n (pc := 28) C 0 dX10_needsOf_28 rfl rfl ?_
      refine z_getR (pc := 29) (r := 240) C dX10_needsOf_29 fX10_9 sh_239 rfl ?_
      refine z_iconst (pc := 32) (v := 1) C dX10_needsOf_32 rfl ?_
      refine z_iald (pc := 33) (n := 1) C dX10_needsOf_33 sh_240 (zi_in.mpr (by decide)) rfl ?_
      refine z_if_le (pc := 34) C 61 dX10_needsOf_34 (by decide) (fun c34 => absurd c34 (by rw [hnn]; exact nI_nle (by omega) (by omega))) (fun c34 => ?_)
      refine z_aload_n (pc := 37) C 0 dX10_needsOf_37 rfl rfl ?_
      refine z_callVi (pc := 38) C dX10_needsOf_38 kX10_166 (mX10_turn2 hI1) (by decide) sh_239 rfl rfl rfl (Nat.le_of_ble_eq_true rfl) (fun r38 M38 h38 => ?_)
      obtain ⟨t1, t2, t3, t4⟩ := h38
      rw [hf.hv] at t2
      have t7 : M38 31 0 0 7 = (vTurn (hvF M (lastK ky 0 T)) n (vT (mV M1 31))).1 7 := t2.1 7 (by decide) (by decide)
      refine z_istore_n (pc := 41) C 3 dX10_needsOf_41 rfl (by decide) rfl ?_
      refine z_aload_n (pc := 42) C 0 dX10_needsOf_42 rfl rfl ?_
      refine z_getR (pc := 43) (r := 240) C dX10_needsOf_43 fX10_9 sh_239 rfl ?_
      refine z_bipush (pc := 46) (v := 7) C dX10_needsOf_46 rfl ?_
      refine z_iald (pc := 48) (n := 7) C dX10_needsOf_48 sh_240 (zi_in.mpr (by decide)) rfl ?_
      refine z_iconst (pc := 49) (v := 1) C dX10_needsOf_49 rfl ?_
      refine z_icmp_ne (pc := 50) C 55 dX10_needsOf_50 (by decide) (fun c50 => ?_) (fun c50 => ?_)
      · refine z_iinc (pc := 55) (v := 1) C 2 dX10_needsOf_55 (by decide) rfl rfl rfl ?_
        refine z_goto (pc := 58) C 22 dX10_needsOf_58 (by decide) ?_
        rw [t7] at c50
        have hv : ¬ pVoice (mp M1) n (M1 31 0 0 4) = M1 31 0 0 3 := fun z => c50 (vTurn7p z)
        have t7n : M38 31 0 0 7 = 0 := by rw [t7, vTurn7n hv]; exact h7
        have t4n : M38 31 0 0 4 = M 31 0 0 4 := by
          have e := t2.1 4 (by decide) (by decide)
          rw [show M38 31 0 0 4 = (mV M38 31).1 4 from rfl, e]
          unfold vTurn
          rw [if_neg (show ¬ pVoice (vT (mV M1 31)).2 n ((vT (mV M1 31)).1 4) = (vT (mV M1 31)).1 3 from hv)]
          exact h4
        have t5n : M38 31 0 0 5 = M 31 0 0 5 := by
          have e := t2.1 5 (by decide) (by decide)
          rw [show M38 31 0 0 5 = (mV M38 31).1 5 from rfl, e]
          unfold vTurn
          rw [if_neg (show ¬ pVoice (vT (mV M1 31)).2 n ((vT (mV M1 31)).1 4) = (vT (mV M1 31)).1 3 from hv)]
          exact h5
        have t3n : M38 31 0 0 3 = pFm (M1 31 0 0 3 + M1 31 0 0 5 * 1) := by
          have e := t2.1 3 (by decide) (by decide)
          rw [show M38 31 0 0 3 = (mV M38 31).1 3 from rfl, e]
          unfold vTurn
          rw [if_neg (show ¬ pVoice (vT (mV M1 31)).2 n ((vT (mV M1 31)).1 4) = (vT (mV M1 31)).1 3 from hv)]
          rfl
        have tpn : peq n (mp M38) (pAll (hvF M (lastK ky 0 T)) (pVoice (mp M1) n (M 31 0 0 4)) (if M1 31 0 0 3 < pVoice (mp M1) n (M 31 0 0 4) then 1 else 0) n (mp M1)) := by
          have e := t2.2
          unfold vTurn at e
          rw [if_neg (show ¬ pVoice (vT (mV M1 31)).2 n ((vT (mV M1 31)).1 4) = (vT (mV M1 31)).1 3 from hv)] at e
          rw [← h4]
          exact e
        rw [h4] at hv
        rw [if_neg hv, ndv_map, show j - 1 + 1 = j + 1 - 1 by omega, ← nd_c c tpn, ← h5, ← t3n, h5] at hr
        have e := ih (j + 1) M38 (some (.int r38)) r (by omega) (by omega) t4 (hf.trans t3) t7n t4n t5n hr fin
        rw [nI_succ] at e
        exact e
      · refine z_iload_n (pc := 53) C 2 dX10_needsOf_53 rfl rfl ?_
        refine z_ireturn (pc := 54) C K dX10_needsOf_54 ?_
        rw [t7] at c50
        have hv : pVoice (mp M1) n (M1 31 0 0 4) = M1 31 0 0 3 := by
          refine Classical.not_not.mp (fun z => ?_)
          rw [vTurn7n z, h7] at c50
          exact absurd c50 (by decide)
        rw [h4] at hv
        rw [if_pos hv] at hr
        have hr' : nI (j - 1 + 1) = r := hr
        rw [show j - 1 + 1 = j by omega] at hr'
        rw [hr']
        exact fin M38 (hf.trans t3)
  refine z_aload_n (pc := 0) C 0 dX10_needsOf_0 rfl rfl ?_
  refine z_getR (pc := 1) (r := 240) C dX10_needsOf_1 fX10_9 sh_239 rfl ?_
  refine z_bipush (pc := 4) (v := 7) C dX10_needsOf_4 rfl ?_
  refine z_iald (pc := 6) (n := 7) C dX10_needsOf_6 sh_240 (zi_in.mpr (by decide)) rfl ?_
  refine z_iconst (pc := 7) (v := 1) C dX10_needsOf_7 rfl ?_
  refine z_icmp_ne (pc := 8) C 13 dX10_needsOf_8 (by decide) (fun c8 => ?_) (fun c8 => ?_)
  · refine z_aload_n (pc := 13) C 0 dX10_needsOf_13 rfl rfl ?_
    refine z_getR (pc := 14) (r := 240) C dX10_needsOf_14 fX10_9 sh_239 rfl ?_
    refine z_iconst (pc := 17) (v := 3) C dX10_needsOf_17 rfl ?_
    refine z_iload_n (pc := 18) C 1 dX10_needsOf_18 rfl rfl ?_
    refine z_iast (pc := 19) (n := 3) C dX10_needsOf_19 sh_240 (zi_in.mpr (by decide)) rfl ?_
    refine z_iconst (pc := 20) (v := 1) C dX10_needsOf_20 rfl ?_
    refine z_istore_n (pc := 21) C 2 dX10_needsOf_21 rfl (by decide) rfl ?_
    have h70 : M 31 0 0 7 = 0 := by
      rcases hop with z | z
      · exact z
      · exact absurd z c8
    obtain ⟨p1, p2⟩ := rI_num hI hk
    by_cases hne : n = 0
    · have hnn : zu M 31 0 0 3 (nI k) 31 0 0 1 = 0 := by rw [zu_f (by decide), hn1, hne]; rfl
      refine z_iload_n (pc := 22) C 2 dX10_needsOf_22 rfl rfl ?_
      refine z_bipush (pc := 23) (v := 13) C dX10_needsOf_23 rfl ?_
      refine z_icmp_ge (pc := 25) C 61 dX10_needsOf_25 (by decide) (fun c25 => absurd c25 (by decide)) (fun c25 => ?_)
      refine z_aload_n (pc := 28) C 0 dX10_needsOf_28 rfl rfl ?_
      refine z_getR (pc := 29) (r := 240) C dX10_needsOf_29 fX10_9 sh_239 rfl ?_
      refine z_iconst (pc := 32) (v := 1) C dX10_needsOf_32 rfl ?_
      refine z_iald (pc := 33) (n := 1) C dX10_needsOf_33 sh_240 (zi_in.mpr (by decide)) rfl ?_
      refine z_if_le (pc := 34) C 61 dX10_needsOf_34 (by decide) (fun c34 => ?_) (fun c34 => absurd (by rw [hnn]; decide) c34)
      refine z_bipush (pc := 61) (v := 13) C dX10_needsOf_61 rfl ?_
      refine z_ireturn (pc := 63) C K dX10_needsOf_63 ?_
      refine ⟨_, rfl, ?_, p2⟩
      unfold mnd
      rw [if_pos h70, if_pos hne]
    · refine loop hne 12 1 _ _ (mnd M n (hvF M (lastK ky 0 T)) k) (by omega) (by omega) p1 p2 (by rw [zu_f (by decide)]; exact h70) (zu_f (by decide)) (zu_f (by decide)) ?_ (fun M' hm => ⟨_, rfl, rfl, hm⟩)
      rw [zu_self]
      have ep : mp (zu M 31 0 0 3 (nI k)) = mp M := by
        funext i f
        exact zu_f (f := 3) (f' := 9 + 7 * i + f) (by omega)
      rw [ep]
      unfold mnd
      rw [if_pos h70, if_neg hne]
  · refine z_iconst (pc := 11) (v := 0) C dX10_needsOf_11 rfl ?_
    refine z_ireturn (pc := 12) C K dX10_needsOf_12 ?_
    refine ⟨_, rfl, ?_, mFr.rfl'⟩
    unfold mnd
    rw [if_neg (fun q => absurd (q.symm.trans c8) (by decide))]
