/-! THE REFERENCE: a try -/
theorem mp_put {M : zM} {i f i' f' : Nat} {v : Int32} (hf : f < 7) (hf' : f' < 7) : mp (mput M i f v) i' f' = if i' = i ∧ f' = f then v else mp M i' f' := mput_at hf hf'
/-- only person i of now has changed -/
def mOnly (M M' : zM) (i : Nat) : Prop := (∀ k, ¬ (9 + 7 * i ≤ k ∧ k < 16 + 7 * i) → M' 31 0 0 k = M 31 0 0 k) ∧ ∀ a, a ≠ 31 → M' a = M a
theorem mOnly.refl {M : zM} {i : Nat} : mOnly M M i := ⟨fun _ _ => rfl, fun _ _ => rfl⟩
theorem mOnly.put {M M' : zM} {i f : Nat} {v : Int32} (hf : f < 7) (h : mOnly M M' i) : mOnly M (mput M' i f v) i := by
  refine ⟨fun k hk => ?_, fun a ha => ?_⟩
  · unfold mput
    rw [zu_f (by omega)]
    exact h.1 k hk
  · unfold mput
    rw [zu_a ha]
    exact h.2 a ha
theorem mOnly.mp {M M' : zM} {i j f : Nat} (h : mOnly M M' i) (hj : j ≠ i) (hf : f < 7) : mp M' j f = mp M j f := h.1 _ (by omega)
/-- hears, for one who does -/
def pHr (s tm : Int32) (q : Nat → Int32) : Nat → Int32 := fun f => if f = 4 then (if pLo1 q s tm ≤ pHi1 q s tm then pLo1 q s tm else 0) else if f = 5 then (if pLo1 q s tm ≤ pHi1 q s tm then pHi1 q s tm else 99) else q f
theorem pHear_1 {s tm : Int32} {q : Nat → Int32} (h : ¬ q 6 = 0) : pHear s tm q = pHr s tm q := by
  funext f
  exact if_neg h
theorem pHear_0 {s tm : Int32} {q : Nat → Int32} (h : q 6 = 0) : pHear s tm q = q := by
  funext f
  exact if_pos h
set_option maxHeartbeats 4000000 in
set_option maxRecDepth 100000 in
theorem mX10_believesAll {l : Launch} {G : zG} {b : Nat} {M : zM} {i : Nat} (hi : i < 8) : zMet l G b yX10_believesAll cX10_believesAll 2 none 1 zshL zshL [.ref (b + 239), .int (nI i)] M (zV (fun M' => M' = mput (mput M i 4 0) i 5 99)) := by
  refine zMet.of (L0 := [some (.ref (b + 239)), some (.int (nI i))]) (by decide +kernel) (Nat.le_refl _) (Nat.le_refl _) (Nat.le_of_ble_eq_true rfl) (List.forall_mem_cons.mpr ⟨rfl, List.forall_mem_cons.mpr ⟨rfl, fun _ h => absurd h List.not_mem_nil⟩⟩) rfl (fun X C Al K => ?_)
  refine z_aload_n (pc := 0) C 0 dX10_believesAll_0 rfl rfl ?_
  refine z_iload_n (pc := 1) C 1 dX10_believesAll_1 rfl rfl ?_
  refine z_iconst (pc := 2) (v := 4) C dX10_believesAll_2 rfl ?_
  refine z_iconst (pc := 3) (v := 0) C dX10_believesAll_3 rfl ?_
  refine z_callVv (pc := 4) C dX10_believesAll_4 kX10_82 (mX10_put hi (f := 4) (by decide)) (by decide) sh_239 rfl rfl rfl (Nat.le_of_ble_eq_true rfl) (fun M4 h4 => ?_)
  subst h4
  refine z_aload_n (pc := 7) C 0 dX10_believesAll_7 rfl rfl ?_
  refine z_iload_n (pc := 8) C 1 dX10_believesAll_8 rfl rfl ?_
  refine z_iconst (pc := 9) (v := 5) C dX10_believesAll_9 rfl ?_
  refine z_bipush (pc := 10) (v := 99) C dX10_believesAll_10 rfl ?_
  refine z_callVv (pc := 12) C dX10_believesAll_12 kX10_82 (mX10_put hi (f := 5) (by decide)) (by decide) sh_239 rfl rfl rfl (Nat.le_of_ble_eq_true rfl) (fun M12 h12 => ?_)
  subst h12
  refine z_return (pc := 15) C K dX10_believesAll_15 ?_
  exact ⟨rfl, rfl⟩

set_option maxHeartbeats 4000000 in
set_option maxRecDepth 100000 in
theorem mX10_hears {l : Launch} {G : zG} {b : Nat} {M : zM} {i : Nat} (hi : i < 8) {s : Int32} : zMet l G b yX10_hears cX10_hears 3 none 2 zshL zshL [.ref (b + 239), .int (nI i), .int s] M (zV (fun M' => (∀ f, f < 7 → mp M' i f = pHr s (if M 31 0 0 3 < s then 1 else 0) (mp M i) f) ∧ mOnly M M' i)) := by
  refine zMet.of (L0 := [some (.ref (b + 239)), some (.int (nI i)), some (.int s)]) (by decide +kernel) (Nat.le_refl _) (Nat.le_refl _) (Nat.le_of_ble_eq_true rfl) (List.forall_mem_cons.mpr ⟨rfl, List.forall_mem_cons.mpr ⟨rfl, List.forall_mem_cons.mpr ⟨rfl, fun _ h => absurd h List.not_mem_nil⟩⟩⟩) rfl (fun X C Al K => ?_)
  refine z_iload_n (pc := 0) C 2 dX10_hears_0 rfl rfl ?_
  refine z_aload_n (pc := 1) C 0 dX10_hears_1 rfl rfl ?_
  refine z_getR (pc := 2) (r := 240) C dX10_hears_2 fX10_9 sh_239 rfl ?_
  refine z_iconst (pc := 5) (v := 3) C dX10_hears_5 rfl ?_
  refine z_iald (pc := 6) (n := 3) C dX10_hears_6 sh_240 (zi_in.mpr (by decide)) rfl ?_
  refine z_icmp_le (pc := 7) C 28 dX10_hears_7 (by decide) (fun c7 => ?_) (fun c7 => ?_)
  · refine z_aload_n (pc := 28) C 0 dX10_hears_28 rfl rfl ?_
    refine z_iload_n (pc := 29) C 1 dX10_hears_29 rfl rfl ?_
    refine z_iconst (pc := 30) (v := 4) C dX10_hears_30 rfl ?_
    refine z_iload_n (pc := 31) C 2 dX10_hears_31 rfl rfl ?_
    refine z_iconst (pc := 32) (v := 1) C dX10_hears_32 rfl ?_
    refine z_iadd (pc := 33) C dX10_hears_33 ?_
    refine z_iconst (pc := 34) (v := 0) C dX10_hears_34 rfl ?_
    refine z_bipush (pc := 35) (v := 99) C dX10_hears_35 rfl ?_
    refine z_callSi (pc := 37) C dX10_hears_37 kX10_103 mX10_within (by decide) rfl rfl (Nat.le_of_ble_eq_true rfl) (fun r37 M37 h37 => ?_)
    obtain ⟨rfl, e37⟩ := h37
    subst M37
    rw [zwi_h]
    refine z_callVv (pc := 40) C dX10_hears_40 kX10_82 (mX10_put hi (f := 4) (by decide)) (by decide) sh_239 rfl rfl rfl (Nat.le_of_ble_eq_true rfl) (fun M40 h40 => ?_)
    subst h40
    refine z_aload_n (pc := 43) C 0 dX10_hears_43 rfl rfl ?_
    refine z_iload_n (pc := 44) C 1 dX10_hears_44 rfl rfl ?_
    refine z_iconst (pc := 45) (v := 4) C dX10_hears_45 rfl ?_
    refine z_callVi (pc := 46) C dX10_hears_46 kX10_96 (mX10_of hi (f := 4) (by decide)) (by decide) sh_239 rfl rfl rfl (Nat.le_of_ble_eq_true rfl) (fun r46 M46 h46 => ?_)
    obtain ⟨rfl, e46⟩ := h46
    subst M46
    refine z_aload_n (pc := 49) C 0 dX10_hears_49 rfl rfl ?_
    refine z_iload_n (pc := 50) C 1 dX10_hears_50 rfl rfl ?_
    refine z_iconst (pc := 51) (v := 5) C dX10_hears_51 rfl ?_
    refine z_callVi (pc := 52) C dX10_hears_52 kX10_96 (mX10_of hi (f := 5) (by decide)) (by decide) sh_239 rfl rfl rfl (Nat.le_of_ble_eq_true rfl) (fun r52 M52 h52 => ?_)
    obtain ⟨rfl, e52⟩ := h52
    subst M52
    refine z_icmp_le (pc := 55) C 63 dX10_hears_55 (by decide) (fun c55 => ?_) (fun c55 => ?_)
    · refine z_return (pc := 63) C K dX10_hears_63 ?_
      have et : (if M 31 0 0 3 < s then (1 : Int32) else 0) = 0 := if_neg (Int32.not_lt.mpr c7)
      have g1 : pLo1 (mp M i) s 0 = zheld (s + 1) := rfl
      have g2 : pHi1 (mp M i) s 0 = mp M i 5 := rfl
      simp only [mp_put (show (4 : Nat) < 7 by decide) (show (4 : Nat) < 7 by decide), mp_put (show (4 : Nat) < 7 by decide) (show (5 : Nat) < 7 by decide), mp_put (show (5 : Nat) < 7 by decide) (show (4 : Nat) < 7 by decide), mp_put (show (5 : Nat) < 7 by decide) (show (5 : Nat) < 7 by decide)] at c55
      simp at c55
      refine ⟨rfl, fun f hf => ?_, ?_⟩
      · rw [et]
        unfold pHr
        rw [g1, g2]
        rw [if_pos c55, if_pos c55, mp_put (by decide) hf]
        by_cases h4 : f = 4
        · subst h4
          simp
        · by_cases h5 : f = 5
          · subst h5
            simp
          · simp [h4, h5]
      · exact mOnly.put (by decide) mOnly.refl
    · refine z_aload_n (pc := 58) C 0 dX10_hears_58 rfl rfl ?_
      refine z_iload_n (pc := 59) C 1 dX10_hears_59 rfl rfl ?_
      refine z_callVv (pc := 60) C dX10_hears_60 kX10_131 (mX10_believesAll hi) (by decide) sh_239 rfl rfl rfl (Nat.le_of_ble_eq_true rfl) (fun M60 h60 => ?_)
      subst h60
      refine z_return (pc := 63) C K dX10_hears_63 ?_
      have et : (if M 31 0 0 3 < s then (1 : Int32) else 0) = 0 := if_neg (Int32.not_lt.mpr c7)
      have g1 : pLo1 (mp M i) s 0 = zheld (s + 1) := rfl
      have g2 : pHi1 (mp M i) s 0 = mp M i 5 := rfl
      simp only [mp_put (show (4 : Nat) < 7 by decide) (show (4 : Nat) < 7 by decide), mp_put (show (4 : Nat) < 7 by decide) (show (5 : Nat) < 7 by decide), mp_put (show (5 : Nat) < 7 by decide) (show (4 : Nat) < 7 by decide), mp_put (show (5 : Nat) < 7 by decide) (show (5 : Nat) < 7 by decide)] at c55
      simp at c55
      refine ⟨rfl, fun f hf => ?_, ?_⟩
      · rw [et]
        unfold pHr
        rw [g1, g2]
        rw [if_neg (Int32.not_le.mpr (by first | exact c55 | exact Int32.not_le.mp c55)), if_neg (Int32.not_le.mpr (by first | exact c55 | exact Int32.not_le.mp c55)), mp_put (by decide) hf, mp_put (by decide) hf, mp_put (by decide) hf]
        by_cases h4 : f = 4
        · subst h4
          simp
        · by_cases h5 : f = 5
          · subst h5
            simp
          · simp [h4, h5]
      · exact mOnly.put (by decide) (mOnly.put (by decide) (mOnly.put (by decide) mOnly.refl))
  · refine z_aload_n (pc := 10) C 0 dX10_hears_10 rfl rfl ?_
    refine z_iload_n (pc := 11) C 1 dX10_hears_11 rfl rfl ?_
    refine z_iconst (pc := 12) (v := 5) C dX10_hears_12 rfl ?_
    refine z_iload_n (pc := 13) C 2 dX10_hears_13 rfl rfl ?_
    refine z_iconst (pc := 14) (v := 1) C dX10_hears_14 rfl ?_
    refine z_isub (pc := 15) C dX10_hears_15 ?_
    refine z_iconst (pc := 16) (v := 0) C dX10_hears_16 rfl ?_
    refine z_bipush (pc := 17) (v := 99) C dX10_hears_17 rfl ?_
    refine z_callSi (pc := 19) C dX10_hears_19 kX10_103 mX10_within (by decide) rfl rfl (Nat.le_of_ble_eq_true rfl) (fun r19 M19 h19 => ?_)
    obtain ⟨rfl, e19⟩ := h19
    subst M19
    rw [zwi_h]
    refine z_callVv (pc := 22) C dX10_hears_22 kX10_82 (mX10_put hi (f := 5) (by decide)) (by decide) sh_239 rfl rfl rfl (Nat.le_of_ble_eq_true rfl) (fun M22 h22 => ?_)
    subst h22
    refine z_goto (pc := 25) C 43 dX10_hears_25 (by decide) ?_
    refine z_aload_n (pc := 43) C 0 dX10_hears_43 rfl rfl ?_
    refine z_iload_n (pc := 44) C 1 dX10_hears_44 rfl rfl ?_
    refine z_iconst (pc := 45) (v := 4) C dX10_hears_45 rfl ?_
    refine z_callVi (pc := 46) C dX10_hears_46 kX10_96 (mX10_of hi (f := 4) (by decide)) (by decide) sh_239 rfl rfl rfl (Nat.le_of_ble_eq_true rfl) (fun r46 M46 h46 => ?_)
    obtain ⟨rfl, e46⟩ := h46
    subst M46
    refine z_aload_n (pc := 49) C 0 dX10_hears_49 rfl rfl ?_
    refine z_iload_n (pc := 50) C 1 dX10_hears_50 rfl rfl ?_
    refine z_iconst (pc := 51) (v := 5) C dX10_hears_51 rfl ?_
    refine z_callVi (pc := 52) C dX10_hears_52 kX10_96 (mX10_of hi (f := 5) (by decide)) (by decide) sh_239 rfl rfl rfl (Nat.le_of_ble_eq_true rfl) (fun r52 M52 h52 => ?_)
    obtain ⟨rfl, e52⟩ := h52
    subst M52
    refine z_icmp_le (pc := 55) C 63 dX10_hears_55 (by decide) (fun c55 => ?_) (fun c55 => ?_)
    · refine z_return (pc := 63) C K dX10_hears_63 ?_
      have et : (if M 31 0 0 3 < s then (1 : Int32) else 0) = 1 := if_pos (Int32.not_le.mp c7)
      have g1 : pLo1 (mp M i) s 1 = mp M i 4 := rfl
      have g2 : pHi1 (mp M i) s 1 = zheld (s - 1) := rfl
      simp only [mp_put (show (4 : Nat) < 7 by decide) (show (4 : Nat) < 7 by decide), mp_put (show (4 : Nat) < 7 by decide) (show (5 : Nat) < 7 by decide), mp_put (show (5 : Nat) < 7 by decide) (show (4 : Nat) < 7 by decide), mp_put (show (5 : Nat) < 7 by decide) (show (5 : Nat) < 7 by decide)] at c55
      simp at c55
      refine ⟨rfl, fun f hf => ?_, ?_⟩
      · rw [et]
        unfold pHr
        rw [g1, g2]
        rw [if_pos c55, if_pos c55, mp_put (by decide) hf]
        by_cases h4 : f = 4
        · subst h4
          simp
        · by_cases h5 : f = 5
          · subst h5
            simp
          · simp [h4, h5]
      · exact mOnly.put (by decide) mOnly.refl
    · refine z_aload_n (pc := 58) C 0 dX10_hears_58 rfl rfl ?_
      refine z_iload_n (pc := 59) C 1 dX10_hears_59 rfl rfl ?_
      refine z_callVv (pc := 60) C dX10_hears_60 kX10_131 (mX10_believesAll hi) (by decide) sh_239 rfl rfl rfl (Nat.le_of_ble_eq_true rfl) (fun M60 h60 => ?_)
      subst h60
      refine z_return (pc := 63) C K dX10_hears_63 ?_
      have et : (if M 31 0 0 3 < s then (1 : Int32) else 0) = 1 := if_pos (Int32.not_le.mp c7)
      have g1 : pLo1 (mp M i) s 1 = mp M i 4 := rfl
      have g2 : pHi1 (mp M i) s 1 = zheld (s - 1) := rfl
      simp only [mp_put (show (4 : Nat) < 7 by decide) (show (4 : Nat) < 7 by decide), mp_put (show (4 : Nat) < 7 by decide) (show (5 : Nat) < 7 by decide), mp_put (show (5 : Nat) < 7 by decide) (show (4 : Nat) < 7 by decide), mp_put (show (5 : Nat) < 7 by decide) (show (5 : Nat) < 7 by decide)] at c55
      simp at c55
      refine ⟨rfl, fun f hf => ?_, ?_⟩
      · rw [et]
        unfold pHr
        rw [g1, g2]
        rw [if_neg (Int32.not_le.mpr (by first | exact c55 | exact Int32.not_le.mp c55)), if_neg (Int32.not_le.mpr (by first | exact c55 | exact Int32.not_le.mp c55)), mp_put (by decide) hf, mp_put (by decide) hf, mp_put (by decide) hf]
        by_cases h4 : f = 4
        · subst h4
          simp
        · by_cases h5 : f = 5
          · subst h5
            simp
          · simp [h4, h5]
      · exact mOnly.put (by decide) (mOnly.put (by decide) (mOnly.put (by decide) mOnly.refl))

theorem pHear_ok {s tm : Int32} {q : Nat → Int32} (h : pOK q) : pOK (pHear s tm q) := by
  by_cases h6 : q 6 = 0
  · rw [pHear_0 h6]
    exact h
  · rw [pHear_1 h6]
    obtain ⟨k0, k1, k2, k3, k4, k5, k6⟩ := h
    have c0 : (0 : Int32).toInt = 0 := by decide
    have c9 : (99 : Int32).toInt = 99 := by decide
    have hl : 0 ≤ (pLo1 q s tm).toInt ∧ (pLo1 q s tm).toInt ≤ 99 := by
      unfold pLo1
      split
      · exact zheld_in _
      · exact k4
    have hh : 0 ≤ (pHi1 q s tm).toInt ∧ (pHi1 q s tm).toInt ≤ 99 := by
      unfold pHi1
      split
      · exact k5
      · exact zheld_in _
    refine ⟨k0, k1, k2, k3, ?_, ?_, k6⟩
    · show 0 ≤ (if pLo1 q s tm ≤ pHi1 q s tm then pLo1 q s tm else 0).toInt ∧ (if pLo1 q s tm ≤ pHi1 q s tm then pLo1 q s tm else 0).toInt ≤ 99
      split <;> omega
    · show 0 ≤ (if pLo1 q s tm ≤ pHi1 q s tm then pHi1 q s tm else 99).toInt ∧ (if pLo1 q s tm ≤ pHi1 q s tm then pHi1 q s tm else 99).toInt ≤ 99
      split <;> omega
theorem zadd_div2 {x y : Int32} (h1 : 0 ≤ x.toInt ∧ x.toInt ≤ 99) (h2 : 0 ≤ y.toInt ∧ y.toInt ≤ 99) : 0 ≤ ((x + y) / 2).toInt ∧ ((x + y) / 2).toInt ≤ 99 := half_in h1.1 h1.2 h2.1 h2.2
theorem pSet_ok {hv : Int32 → Int32 → Int32 → Int32} {q : Nat → Int32} (hh : ∀ x y z, 0 ≤ (hv x y z).toInt ∧ (hv x y z).toInt ≤ 99) (h : 0 ≤ (q 1).toInt ∧ (q 1).toInt ≤ 99) : 0 ≤ (pSet hv q).toInt ∧ (pSet hv q).toInt ≤ 99 := by
  have c0 : (0 : Int32).toInt = 0 := by decide
  have c9 : (99 : Int32).toInt = 99 := by decide
  unfold pSet
  split
  · exact h
  · split
    · exact zadd_div2 h (hh _ _ _)
    · split
      · exact zheld_in _
      · split
        · exact zheld_in _
        · split
          · split <;> omega
          · exact hh _ _ _
theorem pPe_ok {hv : Int32 → Int32 → Int32 → Int32} {s tm : Int32} {q : Nat → Int32} (hh : ∀ x y z, 0 ≤ (hv x y z).toInt ∧ (hv x y z).toInt ≤ 99) (h : pOK q) : pOK (pPe hv s tm q) := by
  obtain ⟨k0, k1, k2, k3, k4, k5, k6⟩ := pHear_ok (s := s) (tm := tm) h
  exact ⟨k0, pSet_ok hh k1, k2, k3, k4, k5, k6⟩
theorem hvF_in (M : zM) (lw x y z : Int32) : 0 ≤ (hvF M lw x y z).toInt ∧ (hvF M lw x y z).toInt ≤ 99 := by
  unfold hvF
  split <;> exact zheld_in _
/-- a number a try later, as the reference says it -/
theorem num_next {x d : Int32} (h1 : 0 ≤ x.toInt) (h2 : x.toInt ≤ 99) (h3 : -5 ≤ d.toInt) (h4 : d.toInt ≤ 5) : (x + d < 0 → x + d + 100 = pFm (x + d * 1)) ∧ (¬ x + d < 0 → 99 < x + d → x + d - 100 = pFm (x + d * 1)) ∧ (¬ x + d < 0 → ¬ 99 < x + d → x + d = pFm (x + d * 1)) := by
  have c0 : (0 : Int32).toInt = 0 := by decide
  have c9 : (99 : Int32).toInt = 99 := by decide
  have c100 : (100 : Int32).toInt = 100 := by decide
  have ha : (x + d).toInt = x.toInt + d.toInt := zi_add (by omega) (by omega)
  have hp : (pFm (x + d * 1)).toInt = (x.toInt + d.toInt) % 100 := by
    rw [Int32.mul_one, pFm_toInt, ha] <;> rw [ha] <;> omega
  refine ⟨fun q => ?_, fun q r => ?_, fun q r => ?_⟩
  · rw [zi_lt] at q
    rw [zi_eq, hp, zi_add, ha, c100] <;> (try rw [ha, c100]) <;> omega
  · rw [zi_lt] at q r
    rw [zi_eq, hp, zi_sub, ha, c100] <;> (try rw [ha, c100]) <;> omega
  · rw [zi_lt] at q r
    rw [zi_eq, hp, ha]
    omega
/-- what is behind a try (bolts being there) -/
def mtP (M M' : zM) (n : Nat) (hv : Int32 → Int32 → Int32 → Int32) : Prop := (∀ a, a ≠ 31 → a ≠ 42 → a ≠ 43 → M' a = M a) ∧ (∀ k, 65 ≤ k → M' 31 0 0 k = M 31 0 0 k) ∧ (∀ k, k < 9 → M' 31 0 0 k = if k = 2 then M 31 0 0 2 + 1 else if k = 7 ∧ pVoice (mp M) n (M 31 0 0 4) = M 31 0 0 3 then 1 else if k = 3 ∧ ¬ pVoice (mp M) n (M 31 0 0 4) = M 31 0 0 3 then pFm (M 31 0 0 3 + M 31 0 0 5 * 1) else M 31 0 0 k) ∧ peq n (mp M') (if pVoice (mp M) n (M 31 0 0 4) = M 31 0 0 3 then mp M else pAll hv (pVoice (mp M) n (M 31 0 0 4)) (if M 31 0 0 3 < pVoice (mp M) n (M 31 0 0 4) then 1 else 0) n (mp M))
/-- the reference's now -/
def mI (M : zM) (n T : Nat) (ky ln : Nat → Nat) : Prop := M 31 0 0 1 = nI n ∧ n ≤ 8 ∧ (∀ i, i < n → pOK (mp M i)) ∧ (0 ≤ (M 31 0 0 3).toInt ∧ (M 31 0 0 3).toInt ≤ 99) ∧ (-5 ≤ (M 31 0 0 5).toInt ∧ (M 31 0 0 5).toInt ≤ 5) ∧ M 31 0 0 8 = nI T ∧ TX M T ky ln ∧ mTX M 31 T ky ln
set_option maxHeartbeats 4000000 in
set_option maxRecDepth 100000 in
theorem mX10_turn {l : Launch} {G : zG} {b : Nat} {M : zM} {n T : Nat} {ky ln : Nat → Nat} (hI : mI M n T ky ln) : zMet l G b yX10_turn cX10_turn 3 (some .int) 4 zshL zshL [.ref (b + 239)] M (zI (fun r M' => r = pVoice (mp M) n (M 31 0 0 4) ∧ mtP M M' n (hvF M (lastK ky 0 T)))) := by
  refine zMet.of (L0 := [some (.ref (b + 239)), none, none]) (by decide +kernel) (Nat.le_refl _) (Nat.le_refl _) (Nat.le_of_ble_eq_true rfl) (List.forall_mem_cons.mpr ⟨rfl, fun _ h => absurd h List.not_mem_nil⟩) rfl (fun X C Al K => ?_)
  obtain ⟨hn, hn8, hp, hnum, hdr, hT, hX, hm⟩ := hI
  obtain ⟨tm, htm⟩ : ∃ tm : Int32, tm = (if M 31 0 0 3 < pVoice (mp M) n (M 31 0 0 4) then (1 : Int32) else 0) := ⟨_, rfl⟩
  have loopB : ¬ pVoice (mp M) n (M 31 0 0 4) = M 31 0 0 3 → ∀ (k i : Nat) (M1 : zM), i + k = n → (∀ a, a ≠ 31 → a ≠ 42 → a ≠ 43 → M1 a = M a) → (∀ k, 65 ≤ k → M1 31 0 0 k = M 31 0 0 k) → (∀ k, k < 9 → M1 31 0 0 k = if k = 2 then M 31 0 0 2 + 1 else M 31 0 0 k) → (∀ j f, j < n → f < 7 → mp M1 j f = if j < i then pPe (hvF M (lastK ky 0 T)) (pVoice (mp M) n (M 31 0 0 4)) tm (mp M j) f else pHear (pVoice (mp M) n (M 31 0 0 4)) tm (mp M j) f) → zW X zshL M1 72 [some (.ref (b + 239)), some (.int (pVoice (mp M) n (M 31 0 0 4))), some (.int (nI i))] [] := by
    intro hne k
    induction k with
    | zero =>
      intro i M1 hi h1 h2 h3 h4
      have hn1 : M1 31 0 0 1 = nI n := by rw [h3 1 (by decide)]; exact hn
      have e3 : M1 31 0 0 3 = M 31 0 0 3 := h3 3 (by decide)
      have e5 : M1 31 0 0 5 = M 31 0 0 5 := h3 5 (by decide)
      have nx := num_next hnum.1 hnum.2 hdr.1 hdr.2
      refine z_iload_n (pc := 72) C 2 dX10_turn_72 rfl rfl ?_
      refine z_aload_n (pc := 73) C 0 dX10_turn_73 rfl rfl ?_
      refine z_getR (pc := 74) (r := 240) C dX10_turn_74 fX10_9 sh_239 rfl ?_
      refine z_iconst (pc := 77) (v := 1) C dX10_turn_77 rfl ?_
      refine z_iald (pc := 78) (n := 1) C dX10_turn_78 sh_240 (zi_in.mpr (by decide)) rfl ?_
      refine z_icmp_ge (pc := 79) C 99 dX10_turn_79 (by decide) (fun c79 => ?_) (fun c79 => absurd (zlt hn1 (by omega) (by omega)) c79)
      refine z_aload_n (pc := 99) C 0 dX10_turn_99 rfl rfl ?_
      refine z_getR (pc := 100) (r := 240) C dX10_turn_100 fX10_9 sh_239 rfl ?_
      refine z_iconst (pc := 103) (v := 3) C dX10_turn_103 rfl ?_
      refine z_iald (pc := 104) (n := 3) C dX10_turn_104 sh_240 (zi_in.mpr (by decide)) rfl ?_
      rw [e3]
      refine z_aload_n (pc := 105) C 0 dX10_turn_105 rfl rfl ?_
      refine z_getR (pc := 106) (r := 240) C dX10_turn_106 fX10_9 sh_239 rfl ?_
      refine z_iconst (pc := 109) (v := 5) C dX10_turn_109 rfl ?_
      refine z_iald (pc := 110) (n := 5) C dX10_turn_110 sh_240 (zi_in.mpr (by decide)) rfl ?_
      rw [e5]
      refine z_iadd (pc := 111) C dX10_turn_111 ?_
      refine z_istore_n (pc := 112) C 2 dX10_turn_112 rfl (by decide) rfl ?_
      refine z_aload_n (pc := 113) C 0 dX10_turn_113 rfl rfl ?_
      refine z_getR (pc := 114) (r := 240) C dX10_turn_114 fX10_9 sh_239 rfl ?_
      refine z_iconst (pc := 117) (v := 3) C dX10_turn_117 rfl ?_
      refine z_iload_n (pc := 118) C 2 dX10_turn_118 rfl rfl ?_
      refine z_if_ge (pc := 119) C 129 dX10_turn_119 (by decide) (fun c119 => ?_) (fun c119 => ?_)
      · refine z_iload_n (pc := 129) C 2 dX10_turn_129 rfl rfl ?_
        refine z_bipush (pc := 130) (v := 99) C dX10_turn_130 rfl ?_
        refine z_icmp_le (pc := 132) C 142 dX10_turn_132 (by decide) (fun c132 => ?_) (fun c132 => ?_)
        · refine z_iload_n (pc := 142) C 2 dX10_turn_142 rfl rfl ?_
          refine z_iast (pc := 143) (n := 3) C dX10_turn_143 sh_240 (zi_in.mpr (by decide)) rfl ?_
          refine z_iload_n (pc := 144) C 1 dX10_turn_144 rfl rfl ?_
          refine z_ireturn (pc := 145) C K dX10_turn_145 ?_
          refine ⟨_, rfl, rfl, fun a g1 g2 g3 => ?_, fun k hk => ?_, fun k hk => ?_, fun j f hj hf => ?_⟩
          · rw [zu_a g1]
            exact h1 a g1 g2 g3
          · rw [zu_f (by omega)]
            exact h2 k hk
          · by_cases ek : k = 3
            · subst ek
              rw [zu_self, if_neg (by decide), if_neg (fun z => absurd z.1 (by decide)), if_pos ⟨rfl, hne⟩]
              exact nx.2.2 (Int32.not_lt.mpr c119) (Int32.not_lt.mpr c132)
            · rw [zu_f ek, h3 k hk]
              by_cases e2 : k = 2
              · rw [if_pos e2, if_pos e2]
              · rw [if_neg e2, if_neg e2, if_neg (fun z => hne z.2), if_neg (fun z => ek z.1)]
          · rw [if_neg hne, ← htm, pAll, if_pos hj]
            have em : ∀ v, mp (zu M1 31 0 0 3 v) j f = mp M1 j f := fun v => zu_f (f := 3) (f' := 9 + 7 * j + f) (by omega)
            rw [em, h4 j f hj hf, if_pos (by omega)]
        · refine z_iload_n (pc := 135) C 2 dX10_turn_135 rfl rfl ?_
          refine z_bipush (pc := 136) (v := 100) C dX10_turn_136 rfl ?_
          refine z_isub (pc := 138) C dX10_turn_138 ?_
          refine z_goto (pc := 139) C 143 dX10_turn_139 (by decide) ?_
          refine z_iast (pc := 143) (n := 3) C dX10_turn_143 sh_240 (zi_in.mpr (by decide)) rfl ?_
          refine z_iload_n (pc := 144) C 1 dX10_turn_144 rfl rfl ?_
          refine z_ireturn (pc := 145) C K dX10_turn_145 ?_
          refine ⟨_, rfl, rfl, fun a g1 g2 g3 => ?_, fun k hk => ?_, fun k hk => ?_, fun j f hj hf => ?_⟩
          · rw [zu_a g1]
            exact h1 a g1 g2 g3
          · rw [zu_f (by omega)]
            exact h2 k hk
          · by_cases ek : k = 3
            · subst ek
              rw [zu_self, if_neg (by decide), if_neg (fun z => absurd z.1 (by decide)), if_pos ⟨rfl, hne⟩]
              exact nx.2.1 (Int32.not_lt.mpr c119) (Int32.not_le.mp c132)
            · rw [zu_f ek, h3 k hk]
              by_cases e2 : k = 2
              · rw [if_pos e2, if_pos e2]
              · rw [if_neg e2, if_neg e2, if_neg (fun z => hne z.2), if_neg (fun z => ek z.1)]
          · rw [if_neg hne, ← htm, pAll, if_pos hj]
            have em : ∀ v, mp (zu M1 31 0 0 3 v) j f = mp M1 j f := fun v => zu_f (f := 3) (f' := 9 + 7 * j + f) (by omega)
            rw [em, h4 j f hj hf, if_pos (by omega)]
      · refine z_iload_n (pc := 122) C 2 dX10_turn_122 rfl rfl ?_
        refine z_bipush (pc := 123) (v := 100) C dX10_turn_123 rfl ?_
        refine z_iadd (pc := 125) C dX10_turn_125 ?_
        refine z_goto (pc := 126) C 143 dX10_turn_126 (by decide) ?_
        refine z_iast (pc := 143) (n := 3) C dX10_turn_143 sh_240 (zi_in.mpr (by decide)) rfl ?_
        refine z_iload_n (pc := 144) C 1 dX10_turn_144 rfl rfl ?_
        refine z_ireturn (pc := 145) C K dX10_turn_145 ?_
        refine ⟨_, rfl, rfl, fun a g1 g2 g3 => ?_, fun k hk => ?_, fun k hk => ?_, fun j f hj hf => ?_⟩
        · rw [zu_a g1]
          exact h1 a g1 g2 g3
        · rw [zu_f (by omega)]
          exact h2 k hk
        · by_cases ek : k = 3
          · subst ek
            rw [zu_self, if_neg (by decide), if_neg (fun z => absurd z.1 (by decide)), if_pos ⟨rfl, hne⟩]
            exact nx.1 (Int32.not_le.mp c119)
          · rw [zu_f ek, h3 k hk]
            by_cases e2 : k = 2
            · rw [if_pos e2, if_pos e2]
            · rw [if_neg e2, if_neg e2, if_neg (fun z => hne z.2), if_neg (fun z => ek z.1)]
        · rw [if_neg hne, ← htm, pAll, if_pos hj]
          have em : ∀ v, mp (zu M1 31 0 0 3 v) j f = mp M1 j f := fun v => zu_f (f := 3) (f' := 9 + 7 * j + f) (by omega)
          rw [em, h4 j f hj hf, if_pos (by omega)]
    | succ k ih =>
      intro i M1 hi h1 h2 h3 h4
      have hin : i < 8 := by omega
      have hn1 : M1 31 0 0 1 = nI n := by rw [h3 1 (by decide)]; exact hn
      have hT1 : M1 31 0 0 8 = nI T := by rw [h3 8 (by decide)]; exact hT
      have o8 : M1 8 = M 8 := h1 8 (by decide) (by decide) (by decide)
      have o9 : M1 9 = M 9 := h1 9 (by decide) (by decide) (by decide)
      have hX1 : TX M1 T ky ln := by
        unfold TX
        rw [o8, o9]
        exact hX
      have hm1 : mTX M1 31 T ky ln := fun t ht => by
        obtain ⟨g1, g2, g3⟩ := hm t ht
        refine ⟨by rw [h2 _ (by omega)]; exact g1, by rw [h2 _ (by omega), o8]; exact g2, fun i hi => by rw [h2 _ (by omega), o9]; exact g3 i hi⟩
      have hq : feq (mp M1 i) (pHear (pVoice (mp M) n (M 31 0 0 4)) tm (mp M i)) := fun f hf => by
        rw [h4 i f (by omega) hf, if_neg (Nat.lt_irrefl _)]
      obtain ⟨-, -, -, -, k4, k5, -⟩ := pHear_ok (s := pVoice (mp M) n (M 31 0 0 4)) (tm := tm) (hp i (by omega))
      refine z_iload_n (pc := 72) C 2 dX10_turn_72 rfl rfl ?_
      refine z_aload_n (pc := 73) C 0 dX10_turn_73 rfl rfl ?_
      refine z_getR (pc := 74) (r := 240) C dX10_turn_74 fX10_9 sh_239 rfl ?_
      refine z_iconst (pc := 77) (v := 1) C dX10_turn_77 rfl ?_
      refine z_iald (pc := 78) (n := 1) C dX10_turn_78 sh_240 (zi_in.mpr (by decide)) rfl ?_
      refine z_icmp_ge (pc := 79) C 99 dX10_turn_79 (by decide) (fun c79 => absurd c79 (zlf hn1 (by omega) (by omega))) (fun c79 => ?_)
      refine z_aload_n (pc := 82) C 0 dX10_turn_82 rfl rfl ?_
      refine z_iload_n (pc := 83) C 2 dX10_turn_83 rfl rfl ?_
      refine z_iconst (pc := 84) (v := 1) C dX10_turn_84 rfl ?_
      refine z_aload_n (pc := 85) C 0 dX10_turn_85 rfl rfl ?_
      refine z_iload_n (pc := 86) C 2 dX10_turn_86 rfl rfl ?_
      refine z_callVi (pc := 87) C dX10_turn_87 kX10_111 (mX10_setsTo hT1 hX1 hm1 hin (by rw [hq 4 (by decide)]; exact k4) (by rw [hq 5 (by decide)]; exact k5)) (by decide) sh_239 rfl rfl rfl (Nat.le_of_ble_eq_true rfl) (fun r87 M87 h87 => ?_)
      obtain ⟨r87e, e87⟩ := h87
      rw [hvF_c o8 o9, pSet_c hq] at r87e
      subst r87e
      refine z_callVv (pc := 90) C dX10_turn_90 kX10_82 (mX10_put hin (f := 1) (by decide)) (by decide) sh_239 rfl rfl rfl (Nat.le_of_ble_eq_true rfl) (fun M90 h90 => ?_)
      subst h90
      refine z_iinc (pc := 93) (v := 1) C 2 dX10_turn_93 (by decide) rfl rfl rfl ?_
      refine z_goto (pc := 96) C 72 dX10_turn_96 (by decide) ?_
      have e31 : M87 31 = M1 31 := e87 31 (by decide) (by decide)
      have e := ih (i + 1) (mput M87 i 1 (pSet (hvF M (lastK ky 0 T)) (pHear (pVoice (mp M) n (M 31 0 0 4)) tm (mp M i)))) (by omega) (fun a g1 g2 g3 => ?_) (fun k hk => ?_) (fun k hk => ?_) (fun j f hj hf => ?_)
      · rw [nI_succ] at e
        exact e
      · unfold mput
        rw [zu_a g1, e87 a g2 g3]
        exact h1 a g1 g2 g3
      · unfold mput
        rw [zu_f (by omega), e31]
        exact h2 k hk
      · unfold mput
        rw [zu_f (by omega), e31]
        exact h3 k hk
      · rw [mp_put (by decide) hf, mp_c e31]
        by_cases ej : j = i
        · subst ej
          rw [if_pos (Nat.lt_succ_self _)]
          by_cases ef : f = 1
          · subst ef
            rw [if_pos ⟨rfl, rfl⟩]
            rfl
          · rw [if_neg (fun z => ef z.2), hq f hf]
            exact (if_neg ef).symm
        · rw [if_neg (fun z => ej z.1), h4 j f hj hf]
          by_cases el : j < i
          · rw [if_pos el, if_pos (by omega)]
          · rw [if_neg el, if_neg (by omega)]
  have loopA : ¬ pVoice (mp M) n (M 31 0 0 4) = M 31 0 0 3 → ∀ (k i : Nat) (M1 : zM), i + k = n → (∀ a, a ≠ 31 →  M1 a = M a) → (∀ k, 65 ≤ k → M1 31 0 0 k = M 31 0 0 k) → (∀ k, k < 9 → M1 31 0 0 k = if k = 2 then M 31 0 0 2 + 1 else M 31 0 0 k) → (∀ j f, j < n → f < 7 → mp M1 j f = if j < i then pHear (pVoice (mp M) n (M 31 0 0 4)) tm (mp M j) f else mp M j f) → zW X zshL M1 37 [some (.ref (b + 239)), some (.int (pVoice (mp M) n (M 31 0 0 4))), some (.int (nI i))] [] := by
    intro hne k
    induction k with
    | zero =>
      intro i M1 hi h1 h2 h3 h4
      have hn1 : M1 31 0 0 1 = nI n := by rw [h3 1 (by decide)]; exact hn
      refine z_iload_n (pc := 37) C 2 dX10_turn_37 rfl rfl ?_
      refine z_aload_n (pc := 38) C 0 dX10_turn_38 rfl rfl ?_
      refine z_getR (pc := 39) (r := 240) C dX10_turn_39 fX10_9 sh_239 rfl ?_
      refine z_iconst (pc := 42) (v := 1) C dX10_turn_42 rfl ?_
      refine z_iald (pc := 43) (n := 1) C dX10_turn_43 sh_240 (zi_in.mpr (by decide)) rfl ?_
      refine z_icmp_ge (pc := 44) C 70 dX10_turn_44 (by decide) (fun c44 => ?_) (fun c44 => absurd (zlt hn1 (by omega) (by omega)) c44)
      refine z_iconst (pc := 70) (v := 0) C dX10_turn_70 rfl ?_
      refine z_istore_n (pc := 71) C 2 dX10_turn_71 rfl (by decide) rfl ?_
      exact loopB hne n 0 M1 (by omega) (fun a g1 _ _ => h1 a g1) h2 h3 (fun j f hj hf => by rw [h4 j f hj hf, if_pos (by omega), if_neg (Nat.not_lt_zero _)])
    | succ k ih =>
      intro i M1 hi h1 h2 h3 h4
      have hin : i < 8 := by omega
      have hn1 : M1 31 0 0 1 = nI n := by rw [h3 1 (by decide)]; exact hn
      have hq : feq (mp M1 i) (mp M i) := fun f hf => by rw [h4 i f (by omega) hf, if_neg (Nat.lt_irrefl _)]
      have q6 := (hp i (by omega)).2.2.2.2.2.2
      have e3 : M1 31 0 0 3 = M 31 0 0 3 := h3 3 (by decide)
      refine z_iload_n (pc := 37) C 2 dX10_turn_37 rfl rfl ?_
      refine z_aload_n (pc := 38) C 0 dX10_turn_38 rfl rfl ?_
      refine z_getR (pc := 39) (r := 240) C dX10_turn_39 fX10_9 sh_239 rfl ?_
      refine z_iconst (pc := 42) (v := 1) C dX10_turn_42 rfl ?_
      refine z_iald (pc := 43) (n := 1) C dX10_turn_43 sh_240 (zi_in.mpr (by decide)) rfl ?_
      refine z_icmp_ge (pc := 44) C 70 dX10_turn_44 (by decide) (fun c44 => absurd c44 (zlf hn1 (by omega) (by omega))) (fun c44 => ?_)
      refine z_aload_n (pc := 47) C 0 dX10_turn_47 rfl rfl ?_
      refine z_iload_n (pc := 48) C 2 dX10_turn_48 rfl rfl ?_
      refine z_bipush (pc := 49) (v := 6) C dX10_turn_49 rfl ?_
      refine z_callVi (pc := 51) C dX10_turn_51 kX10_96 (mX10_of hin (f := 6) (by decide)) (by decide) sh_239 rfl rfl rfl (Nat.le_of_ble_eq_true rfl) (fun r51 M51 h51 => ?_)
      obtain ⟨rfl, e51⟩ := h51
      subst M51
      rw [hq 6 (by decide)]
      refine z_iconst (pc := 54) (v := 1) C dX10_turn_54 rfl ?_
      refine z_icmp_ne (pc := 55) C 64 dX10_turn_55 (by decide) (fun c55 => ?_) (fun c55 => ?_)
      · refine z_iinc (pc := 64) (v := 1) C 2 dX10_turn_64 (by decide) rfl rfl rfl ?_
        refine z_goto (pc := 67) C 37 dX10_turn_67 (by decide) ?_
        have z6 : mp M i 6 = 0 := by
          rcases q6 with z | z
          · exact z
          · exact absurd z c55
        have e := ih (i + 1) M1 (by omega) h1 h2 h3 (fun j f hj hf => ?_)
        · rw [nI_succ] at e
          exact e
        · rw [h4 j f hj hf]
          by_cases ej : j = i
          · rw [ej, if_neg (Nat.lt_irrefl _), if_pos (Nat.lt_succ_self _), pHear_0 z6]
          · by_cases el : j < i
            · rw [if_pos el, if_pos (by omega)]
            · rw [if_neg el, if_neg (by omega)]
      · refine z_aload_n (pc := 58) C 0 dX10_turn_58 rfl rfl ?_
        refine z_iload_n (pc := 59) C 2 dX10_turn_59 rfl rfl ?_
        refine z_iload_n (pc := 60) C 1 dX10_turn_60 rfl rfl ?_
        refine z_callVv (pc := 61) C dX10_turn_61 kX10_158 (mX10_hears hin) (by decide) sh_239 rfl rfl rfl (Nat.le_of_ble_eq_true rfl) (fun M61 h61 => ?_)
        refine z_iinc (pc := 64) (v := 1) C 2 dX10_turn_64 (by decide) rfl rfl rfl ?_
        refine z_goto (pc := 67) C 37 dX10_turn_67 (by decide) ?_
        obtain ⟨g1, g2⟩ := h61
        have e := ih (i + 1) M61 (by omega) (fun a ha => (g2.2 a ha).trans (h1 a ha)) (fun k hk => by rw [g2.1 k (by omega)]; exact h2 k hk) (fun k hk => by rw [g2.1 k (by omega)]; exact h3 k hk) (fun j f hj hf => ?_)
        · rw [nI_succ] at e
          exact e
        · by_cases ej : j = i
          · subst ej
            have n6 : ¬ mp M j 6 = 0 := fun q => by rw [q] at c55; exact absurd c55 (by decide)
            rw [if_pos (Nat.lt_succ_self _), g1 f hf, e3, ← htm, pHear_1 n6]
            have ec := pHear_c (s := pVoice (mp M) n (M 31 0 0 4)) (tm := tm) hq f hf
            rw [pHear_1 n6, pHear_1 (by rw [hq 6 (by decide)]; exact n6)] at ec
            exact ec
          · rw [g2.mp ej hf, h4 j f hj hf]
            by_cases el : j < i
            · rw [if_pos el, if_pos (by omega)]
            · rw [if_neg el, if_neg (by omega)]
  refine z_aload_n (pc := 0) C 0 dX10_turn_0 rfl rfl ?_
  refine z_callVi (pc := 1) C dX10_turn_1 kX10_155 (mX10_saysNow hn hn8 hp) (by decide) sh_239 rfl rfl rfl (Nat.le_of_ble_eq_true rfl) (fun r1 M1 h1 => ?_)
  obtain ⟨rfl, e1⟩ := h1
  subst M1
  refine z_istore_n (pc := 4) C 1 dX10_turn_4 rfl (by decide) rfl ?_
  refine z_aload_n (pc := 5) C 0 dX10_turn_5 rfl rfl ?_
  refine z_getR (pc := 6) (r := 240) C dX10_turn_6 fX10_9 sh_239 rfl ?_
  refine z_iconst (pc := 9) (v := 2) C dX10_turn_9 rfl ?_
  refine z_dup2 (pc := 10) C dX10_turn_10 rfl rfl ?_
  refine z_iald (pc := 11) (n := 2) C dX10_turn_11 sh_240 (zi_in.mpr (by decide)) rfl ?_
  refine z_iconst (pc := 12) (v := 1) C dX10_turn_12 rfl ?_
  refine z_iadd (pc := 13) C dX10_turn_13 ?_
  refine z_iast (pc := 14) (n := 2) C dX10_turn_14 sh_240 (zi_in.mpr (by decide)) rfl ?_
  refine z_iload_n (pc := 15) C 1 dX10_turn_15 rfl rfl ?_
  refine z_aload_n (pc := 16) C 0 dX10_turn_16 rfl rfl ?_
  refine z_getR (pc := 17) (r := 240) C dX10_turn_17 fX10_9 sh_239 rfl ?_
  refine z_iconst (pc := 20) (v := 3) C dX10_turn_20 rfl ?_
  refine z_iald (pc := 21) (n := 3) C dX10_turn_21 sh_240 (zi_in.mpr (by decide)) rfl ?_
  refine z_icmp_ne (pc := 22) C 35 dX10_turn_22 (by decide) (fun c22 => ?_) (fun c22 => ?_)
  · refine z_iconst (pc := 35) (v := 0) C dX10_turn_35 rfl ?_
    refine z_istore_n (pc := 36) C 2 dX10_turn_36 rfl (by decide) rfl ?_
    rw [zu_f (by decide)] at c22
    refine loopA c22 n 0 _ (by omega) (fun a ha => zu_a ha) (fun k hk => zu_f (by omega)) (fun k hk => ?_) (fun j f hj hf => ?_)
    · by_cases ek : k = 2
      · rw [ek, zu_self, if_pos rfl]
      · rw [zu_f ek, if_neg ek]
    · rw [if_neg (Nat.not_lt_zero _)]
      exact zu_f (f := 2) (f' := 9 + 7 * j + f) (by omega)
  · refine z_aload_n (pc := 25) C 0 dX10_turn_25 rfl rfl ?_
    refine z_getR (pc := 26) (r := 240) C dX10_turn_26 fX10_9 sh_239 rfl ?_
    refine z_bipush (pc := 29) (v := 7) C dX10_turn_29 rfl ?_
    refine z_iconst (pc := 31) (v := 1) C dX10_turn_31 rfl ?_
    refine z_iast (pc := 32) (n := 7) C dX10_turn_32 sh_240 (zi_in.mpr (by decide)) rfl ?_
    refine z_iload_n (pc := 33) C 1 dX10_turn_33 rfl rfl ?_
    refine z_ireturn (pc := 34) C K dX10_turn_34 ?_
    rw [zu_f (by decide)] at c22
    refine ⟨_, rfl, rfl, fun a g1 _ _ => ?_, fun k hk => ?_, fun k hk => ?_, fun j f hj hf => ?_⟩
    · rw [zu_a g1, zu_a g1]
    · rw [zu_f (by omega), zu_f (by omega)]
    · by_cases e7 : k = 7
      · subst e7
        rw [zu_self, if_neg (by decide), if_pos ⟨rfl, c22⟩]
      · rw [zu_f e7]
        by_cases e2 : k = 2
        · rw [e2, zu_self, if_pos rfl]
        · rw [zu_f e2, if_neg e2, if_neg (fun z => e7 z.1), if_neg (fun z => z.2 c22)]
    · rw [if_pos c22]
      exact (zu_f (f := 7) (f' := 9 + 7 * j + f) (by omega)).trans (zu_f (f := 2) (f' := 9 + 7 * j + f) (by omega))
