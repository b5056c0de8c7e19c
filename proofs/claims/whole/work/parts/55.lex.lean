/-! TEXTS READ: what is meant. A word or sign: its first byte, the place behind it, its sort (0 end, 1 letters, 2 digits, 3 other), whether glued -/
abbrev Lx : Type := Nat × Nat × Nat × Nat
def tsrt (B : Nat → Int32) (t p : Nat) : Nat := if t ≤ p then 0 else if 97 ≤ B p ∧ B p ≤ 122 then 1 else if 48 ≤ B p ∧ B p ≤ 57 then 2 else 3
def lskip (B : Nat → Int32) : Nat → Nat → Nat
  | 0, p => p
  | d + 1, p => if B p = 32 then lskip B d (p + 1) else p
def lrun (B : Nat → Int32) (t k : Nat) : Nat → Nat → Nat
  | 0, p => p
  | d + 1, p => if tsrt B t p = k then lrun B t k d (p + 1) else p
def lend (B : Nat → Int32) (t s : Nat) : Nat := if tsrt B t s = 3 then s + 1 else if tsrt B t s = 0 then s else lrun B t (tsrt B t s) (t - s) s
def ladv (B : Nat → Int32) (t : Nat) (x : Lx) : Lx := (lskip B (t - x.2.1) x.2.1, lend B t (lskip B (t - x.2.1) x.2.1), tsrt B t (lskip B (t - x.2.1) x.2.1), if (x.2.2.1 = 1 ∨ x.2.2.1 = 2) ∧ lskip B (t - x.2.1) x.2.1 = x.2.1 ∧ (tsrt B t (lskip B (t - x.2.1) x.2.1) = 1 ∨ tsrt B t (lskip B (t - x.2.1) x.2.1) = 2) then 1 else 0)
def nv (B : Nat → Int32) (s : Nat) : Nat → Int32
  | 0 => 0
  | j + 1 => nv B s j * 10 + B (s + j) - 48
def nmo (ky : Nat) (c : Int32) : Int32 := if ky = 0 then (if c = 108 then 0 else if c = 104 then 1 else if c = 100 then 2 else -1) else if ky = 1 then (if c = 116 then 0 else if c = 98 then 1 else -1) else (if c = 119 then 0 else if c = 100 then 1 else -1)
/-- the word or sign as a code: an operand's, 20000 and more a sign's, -1 the end, -2 what is no word -/
def ltc (B : Nat → Int32) (ky : Nat) (x : Lx) : Int32 := if x.2.2.1 = 0 then -1 else if x.2.2.1 = 3 then 20000 + B x.1 else if x.2.2.2 = 1 then -2 else if x.2.2.1 = 2 then (if x.2.1 - x.1 ≤ 4 then nv B x.1 (x.2.1 - x.1) else -2) else (if x.2.1 - x.1 = 1 ∧ 0 ≤ nmo ky (B x.1) then 10000 + nmo ky (B x.1) else -2)
theorem tsrt_3 (B : Nat → Int32) (t p : Nat) : tsrt B t p ≤ 3 := by
  unfold tsrt
  split
  · omega
  · split
    · omega
    · split <;> omega
theorem tsrt_0 {B : Nat → Int32} {t p : Nat} : tsrt B t p = 0 ↔ t ≤ p := by
  unfold tsrt
  by_cases h : t ≤ p
  · rw [if_pos h]
    exact ⟨fun _ => h, fun _ => rfl⟩
  · rw [if_neg h]
    refine ⟨fun q => ?_, fun q => absurd q h⟩
    split at q
    · omega
    · split at q <;> omega
theorem lskip_b {B : Nat → Int32} : ∀ (d p : Nat), p ≤ lskip B d p ∧ lskip B d p ≤ p + d
  | 0, p => ⟨Nat.le_refl _, Nat.le_refl _⟩
  | d + 1, p => by
    have e := lskip_b (B := B) d (p + 1)
    unfold lskip
    split
    · omega
    · omega
theorem lrun_b {B : Nat → Int32} {t k : Nat} : ∀ (d p : Nat), p ≤ lrun B t k d p ∧ lrun B t k d p ≤ p + d
  | 0, p => ⟨Nat.le_refl _, Nat.le_refl _⟩
  | d + 1, p => by
    have e := lrun_b (B := B) (t := t) (k := k) d (p + 1)
    unfold lrun
    split
    · omega
    · omega
theorem lrun_in {B : Nat → Int32} {t k : Nat} : ∀ (d p i : Nat), p ≤ i → i < lrun B t k d p → tsrt B t i = k
  | 0, p, i, h1, h2 => by
    unfold lrun at h2
    omega
  | d + 1, p, i, h1, h2 => by
    unfold lrun at h2
    split at h2
    · rename_i q
      by_cases e : i = p
      · rw [e]
        exact q
      · exact lrun_in d (p + 1) i (by omega) h2
    · omega
theorem lend_b {B : Nat → Int32} {t s : Nat} (h : s ≤ t) : s ≤ lend B t s ∧ lend B t s ≤ t ∧ (s < t → s < lend B t s) := by
  have h3 := tsrt_3 B t s
  unfold lend
  by_cases q : tsrt B t s = 3
  · rw [if_pos q]
    have : ¬ t ≤ s := fun z => by rw [tsrt_0.mpr z] at q; omega
    omega
  · rw [if_neg q]
    by_cases q0 : tsrt B t s = 0
    · rw [if_pos q0]
      have := tsrt_0.mp q0
      omega
    · rw [if_neg q0]
      have hst : ¬ t ≤ s := fun z => q0 (tsrt_0.mpr z)
      have e := lrun_b (B := B) (t := t) (k := tsrt B t s) (t - s) s
      have e2 : s < lrun B t (tsrt B t s) (t - s) s := by
        obtain ⟨d, hd⟩ : ∃ d, t - s = d + 1 := ⟨t - s - 1, by omega⟩
        rw [hd]
        unfold lrun
        rw [if_pos rfl]
        have := lrun_b (B := B) (t := t) (k := tsrt B t s) d (s + 1)
        omega
      omega
/-- a state of the reader that is in order -/
def lOK (B : Nat → Int32) (t : Nat) (x : Lx) : Prop := x.1 ≤ x.2.1 ∧ x.2.1 ≤ t ∧ x.2.2.1 = tsrt B t x.1 ∧ x.2.1 = lend B t x.1 ∧ (x.2.2.2 = 0 ∨ x.2.2.2 = 1)
theorem ladv_ok {B : Nat → Int32} {t : Nat} {x : Lx} (h : x.2.1 ≤ t) : lOK B t (ladv B t x) ∧ x.2.1 ≤ (ladv B t x).1 := by
  have e := lskip_b (B := B) (t - x.2.1) x.2.1
  have hs : lskip B (t - x.2.1) x.2.1 ≤ t := by omega
  have e2 := lend_b (B := B) hs
  refine ⟨⟨e2.1, e2.2.1, rfl, rfl, ?_⟩, e.1⟩
  show (if _ then 1 else 0) = 0 ∨ (if _ then 1 else 0) = 1
  split
  · exact Or.inr rfl
  · exact Or.inl rfl
theorem dig_of {B : Nat → Int32} {t p : Nat} (h : tsrt B t p = 2) : 48 ≤ (B p).toInt ∧ (B p).toInt ≤ 57 := by
  unfold tsrt at h
  split at h
  · omega
  · split at h
    · omega
    · split at h
      · rename_i q
        rw [zi_le, zi_le, show (48 : Int32).toInt = 48 by decide, show (57 : Int32).toInt = 57 by decide] at q
        exact q
      · omega
theorem nv_in {B : Nat → Int32} {s : Nat} : ∀ (j : Nat), j ≤ 4 → (∀ i, i < j → 48 ≤ (B (s + i)).toInt ∧ (B (s + i)).toInt ≤ 57) → 0 ≤ (nv B s j).toInt ∧ (nv B s j).toInt < 10 ^ j
  | 0, _, _ => by
    show 0 ≤ (0 : Int32).toInt ∧ (0 : Int32).toInt < 10 ^ 0
    decide
  | j + 1, hj, h => by
    have e := nv_in j (by omega) (fun i hi => h i (by omega))
    have g := h j (by omega)
    have c10 : (10 : Int32).toInt = 10 := by decide
    have c48 : (48 : Int32).toInt = 48 := by decide
    have hp : (10 : Int) ^ j ≤ 1000 := by
      rcases (show j = 0 ∨ j = 1 ∨ j = 2 ∨ j = 3 by omega) with rfl | rfl | rfl | rfl <;> decide
    have hs : (10 : Int) ^ (j + 1) = 10 ^ j * 10 := Int.pow_succ _ _
    have m : (nv B s j * 10).toInt = (nv B s j).toInt * 10 := by rw [zi_mul (by rw [c10]; omega) (by rw [c10]; omega), c10]
    have a : (nv B s j * 10 + B (s + j)).toInt = (nv B s j).toInt * 10 + (B (s + j)).toInt := by rw [zi_add (by rw [m]; omega) (by rw [m]; omega), m]
    rw [nv, zi_sub (by rw [a, c48]; omega) (by rw [a, c48]; omega), a, c48, hs]
    omega
theorem nmo_in (ky : Nat) (c : Int32) : -1 ≤ (nmo ky c).toInt ∧ (nmo ky c).toInt ≤ 2 ∧ (ky ≠ 0 → (nmo ky c).toInt ≤ 1) := by
  unfold nmo
  by_cases k0 : ky = 0
  · rw [if_pos k0]
    split
    · exact ⟨by decide, by decide, fun z => absurd k0 z⟩
    · split
      · exact ⟨by decide, by decide, fun z => absurd k0 z⟩
      · split
        · exact ⟨by decide, by decide, fun z => absurd k0 z⟩
        · exact ⟨by decide, by decide, fun z => absurd k0 z⟩
  · rw [if_neg k0]
    split
    · split
      · exact ⟨by decide, by decide, fun _ => by decide⟩
      · split
        · exact ⟨by decide, by decide, fun _ => by decide⟩
        · exact ⟨by decide, by decide, fun _ => by decide⟩
    · split
      · exact ⟨by decide, by decide, fun _ => by decide⟩
      · split
        · exact ⟨by decide, by decide, fun _ => by decide⟩
        · exact ⟨by decide, by decide, fun _ => by decide⟩
theorem ltc_end {B : Nat → Int32} {ky t : Nat} {x : Lx} (h : lOK B t x) (hB : ∀ i, i < t → iin (B i) 0 255) : x.2.2.1 = 0 ↔ ltc B ky x = -1 := by
  unfold ltc
  constructor
  · intro q
    rw [if_pos q]
  · intro q
    by_cases q0 : x.2.2.1 = 0
    · exact q0
    · exfalso
      rw [if_neg q0] at q
      have hlt : x.1 < t := by
        rcases Nat.lt_or_ge x.1 t with z | z
        · exact z
        · exact absurd (h.2.2.1.trans (tsrt_0.mpr z)) q0
      by_cases q3 : x.2.2.1 = 3
      · rw [if_pos q3] at q
        have hb := hB _ hlt
        unfold iin at hb
        rw [zi_eq, zi_add (by rw [show (20000 : Int32).toInt = 20000 by decide]; omega) (by rw [show (20000 : Int32).toInt = 20000 by decide]; omega), im1, show (20000 : Int32).toInt = 20000 by decide] at q
        omega
      · rw [if_neg q3] at q
        by_cases qg : x.2.2.2 = 1
        · rw [if_pos qg] at q
          exact absurd q (by decide)
        · rw [if_neg qg] at q
          by_cases q2 : x.2.2.1 = 2
          · rw [if_pos q2] at q
            by_cases q4 : x.2.1 - x.1 ≤ 4
            · rw [if_pos q4] at q
              have hn := nv_in (B := B) (s := x.1) (x.2.1 - x.1) q4 (fun j hj => by
                have hr := h.2.2.2.1
                unfold lend at hr
                rw [← h.2.2.1, if_neg q3, if_neg q0] at hr
                have e := lrun_in (B := B) (t := t) (k := x.2.2.1) (t - x.1) x.1 (x.1 + j) (by omega) (by omega)
                exact dig_of (e.trans q2))
              rw [q, im1] at hn
              omega
            · rw [if_neg q4] at q
              exact absurd q (by decide)
          · rw [if_neg q2] at q
            by_cases q4 : x.2.1 - x.1 = 1 ∧ 0 ≤ nmo ky (B x.1)
            · rw [if_pos q4] at q
              have hn := nmo_in ky (B x.1)
              rw [zi_eq, zi_add (by rw [show (10000 : Int32).toInt = 10000 by decide]; omega) (by rw [show (10000 : Int32).toInt = 10000 by decide]; omega), im1, show (10000 : Int32).toInt = 10000 by decide] at q
              omega
            · rw [if_neg q4] at q
              exact absurd q (by decide)
/-- the level of a sign; -1: none -/
def lvl (c : Int32) : Int := if c = 20124 then 0 else if c = 20038 then 1 else if c = 20060 ∨ c = 20061 ∨ c = 20062 then 2 else if c = 20043 ∨ c = 20045 then 3 else if c = 20042 ∨ c = 20047 then 4 else -1
/-- reading by levels: modes 0 .. 4 a level, 5 a piece, 10 .. 14 what follows a level's first; a failure stands at its word -/
def pP (tc : Lx → Int32) (nx : Lx → Lx) : Nat → Nat → Nat → Nat → Lx → Option (Lx ⊕ (Lx × List Int32))
  | 0, _, _, _, _ => none
  | f + 1, m, b, k, x =>
    if m = 5 then
      (if 0 ≤ tc x ∧ tc x < 20000 then some (.inr (nx x, [tc x]))
      else if tc x = 20033 then (if 8 ≤ k then some (.inl x) else
        match pP tc nx f 5 b (k + 1) (nx x) with
        | none => none
        | some (.inl y) => some (.inl y)
        | some (.inr (y, l)) => some (.inr (y, l ++ [20033])))
      else if tc x = 20040 then (if 8 ≤ b then some (.inl x) else
        match pP tc nx f 0 (b + 1) k (nx x) with
        | none => none
        | some (.inl y) => some (.inl y)
        | some (.inr (y, l)) => if tc y = 20041 then some (.inr (nx y, l)) else some (.inl y))
      else some (.inl x))
    else if m < 5 then
      match pP tc nx f (m + 1) b k x with
      | none => none
      | some (.inl y) => some (.inl y)
      | some (.inr (y, l)) =>
        match pP tc nx f (10 + m) b k y with
        | none => none
        | some (.inl z) => some (.inl z)
        | some (.inr (z, l2)) => some (.inr (z, l ++ l2))
    else
      if lvl (tc x) = (m : Int) - 10 then
        match pP tc nx f (m - 9) b k (nx x) with
        | none => none
        | some (.inl y) => some (.inl y)
        | some (.inr (y, l)) => if m = 12 then some (.inr (y, l ++ [tc x])) else
          match pP tc nx f m b k y with
          | none => none
          | some (.inl z) => some (.inl z)
          | some (.inr (z, l2)) => some (.inr (z, l ++ tc x :: l2))
      else some (.inr (x, []))
section PP
variable {tc : Lx → Int32} {nx : Lx → Lx} {f m b k : Nat} {x : Lx} {r : Lx ⊕ (Lx × List Int32)}
theorem pP_5 (h : pP tc nx (f + 1) 5 b k x = some r) : ((0 ≤ tc x ∧ tc x < 20000) ∧ r = .inr (nx x, [tc x])) ∨ (tc x = 20033 ∧ ((8 ≤ k ∧ r = .inl x) ∨ (k < 8 ∧ ((∃ y, pP tc nx f 5 b (k + 1) (nx x) = some (.inl y) ∧ r = .inl y) ∨ ∃ y l, pP tc nx f 5 b (k + 1) (nx x) = some (.inr (y, l)) ∧ r = .inr (y, l ++ [20033]))))) ∨ (tc x = 20040 ∧ ((8 ≤ b ∧ r = .inl x) ∨ (b < 8 ∧ ((∃ y, pP tc nx f 0 (b + 1) k (nx x) = some (.inl y) ∧ r = .inl y) ∨ ∃ y l, pP tc nx f 0 (b + 1) k (nx x) = some (.inr (y, l)) ∧ ((tc y = 20041 ∧ r = .inr (nx y, l)) ∨ (¬ tc y = 20041 ∧ r = .inl y)))))) ∨ (¬ (0 ≤ tc x ∧ tc x < 20000) ∧ ¬ tc x = 20033 ∧ ¬ tc x = 20040 ∧ r = .inl x) := by
  unfold pP at h
  rw [if_pos rfl] at h
  by_cases c1 : 0 ≤ tc x ∧ tc x < 20000
  · rw [if_pos c1] at h
    cases h
    exact Or.inl ⟨c1, rfl⟩
  · rw [if_neg c1] at h
    by_cases c2 : tc x = 20033
    · rw [if_pos c2] at h
      refine Or.inr (Or.inl ⟨c2, ?_⟩)
      by_cases c3 : 8 ≤ k
      · rw [if_pos c3] at h
        cases h
        exact Or.inl ⟨c3, rfl⟩
      · rw [if_neg c3] at h
        refine Or.inr ⟨by omega, ?_⟩
        cases e : pP tc nx f 5 b (k + 1) (nx x) with
        | none => rw [e] at h; cases h
        | some q =>
          rw [e] at h
          cases q with
          | inl y => cases h; exact Or.inl ⟨y, rfl, rfl⟩
          | inr q => cases h; exact Or.inr ⟨q.1, q.2, rfl, rfl⟩
    · rw [if_neg c2] at h
      by_cases c3 : tc x = 20040
      · rw [if_pos c3] at h
        refine Or.inr (Or.inr (Or.inl ⟨c3, ?_⟩))
        by_cases c4 : 8 ≤ b
        · rw [if_pos c4] at h
          cases h
          exact Or.inl ⟨c4, rfl⟩
        · rw [if_neg c4] at h
          refine Or.inr ⟨by omega, ?_⟩
          cases e : pP tc nx f 0 (b + 1) k (nx x) with
          | none => rw [e] at h; cases h
          | some q =>
            rw [e] at h
            cases q with
            | inl y => cases h; exact Or.inl ⟨y, rfl, rfl⟩
            | inr q =>
              obtain ⟨y, l⟩ := q
              refine Or.inr ⟨y, l, rfl, ?_⟩
              by_cases c5 : tc y = 20041
              · simp only [if_pos c5] at h
                cases h
                exact Or.inl ⟨c5, rfl⟩
              · simp only [if_neg c5] at h
                cases h
                exact Or.inr ⟨c5, rfl⟩
      · rw [if_neg c3] at h
        cases h
        exact Or.inr (Or.inr (Or.inr ⟨c1, c2, c3, rfl⟩))
theorem pP_l (hm : m < 5) (h : pP tc nx (f + 1) m b k x = some r) : (∃ y, pP tc nx f (m + 1) b k x = some (.inl y) ∧ r = .inl y) ∨ ∃ y l, pP tc nx f (m + 1) b k x = some (.inr (y, l)) ∧ ((∃ z, pP tc nx f (10 + m) b k y = some (.inl z) ∧ r = .inl z) ∨ ∃ z l2, pP tc nx f (10 + m) b k y = some (.inr (z, l2)) ∧ r = .inr (z, l ++ l2)) := by
  unfold pP at h
  rw [if_neg (by omega), if_pos hm] at h
  cases e : pP tc nx f (m + 1) b k x with
  | none => rw [e] at h; cases h
  | some q =>
    rw [e] at h
    cases q with
    | inl y => cases h; exact Or.inl ⟨y, rfl, rfl⟩
    | inr q =>
      obtain ⟨y, l⟩ := q
      refine Or.inr ⟨y, l, rfl, ?_⟩
      simp only at h
      cases e2 : pP tc nx f (10 + m) b k y with
      | none => rw [e2] at h; cases h
      | some q2 =>
        rw [e2] at h
        cases q2 with
        | inl z => cases h; exact Or.inl ⟨z, rfl, rfl⟩
        | inr q2 => cases h; exact Or.inr ⟨q2.1, q2.2, rfl, rfl⟩
theorem pP_t (hm : m < 5) (h : pP tc nx (f + 1) (10 + m) b k x = some r) : (¬ lvl (tc x) = (m : Int) ∧ r = .inr (x, [])) ∨ (lvl (tc x) = (m : Int) ∧ ((∃ y, pP tc nx f (m + 1) b k (nx x) = some (.inl y) ∧ r = .inl y) ∨ ∃ y l, pP tc nx f (m + 1) b k (nx x) = some (.inr (y, l)) ∧ ((m = 2 ∧ r = .inr (y, l ++ [tc x])) ∨ (m ≠ 2 ∧ ((∃ z, pP tc nx f (10 + m) b k y = some (.inl z) ∧ r = .inl z) ∨ ∃ z l2, pP tc nx f (10 + m) b k y = some (.inr (z, l2)) ∧ r = .inr (z, l ++ tc x :: l2)))))) := by
  unfold pP at h
  rw [if_neg (by omega), if_neg (by omega), show ((10 + m : Nat) : Int) - 10 = (m : Int) by omega, show 10 + m - 9 = m + 1 by omega] at h
  by_cases c1 : lvl (tc x) = (m : Int)
  · rw [if_pos c1] at h
    refine Or.inr ⟨c1, ?_⟩
    cases e : pP tc nx f (m + 1) b k (nx x) with
    | none => rw [e] at h; cases h
    | some q =>
      rw [e] at h
      cases q with
      | inl y => cases h; exact Or.inl ⟨y, rfl, rfl⟩
      | inr q =>
        obtain ⟨y, l⟩ := q
        refine Or.inr ⟨y, l, rfl, ?_⟩
        simp only at h
        by_cases c2 : 10 + m = 12
        · rw [if_pos c2] at h
          cases h
          exact Or.inl ⟨by omega, rfl⟩
        · rw [if_neg c2] at h
          refine Or.inr ⟨by omega, ?_⟩
          cases e2 : pP tc nx f (10 + m) b k y with
          | none => rw [e2] at h; cases h
          | some q2 =>
            rw [e2] at h
            cases q2 with
            | inl z => cases h; exact Or.inl ⟨z, rfl, rfl⟩
            | inr q2 => cases h; exact Or.inr ⟨q2.1, q2.2, rfl, rfl⟩
  · rw [if_neg c1] at h
    cases h
    exact Or.inl ⟨c1, rfl⟩
end PP