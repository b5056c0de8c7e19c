/-! NEEDS, as a function; what depends on what -/
theorem zi_add {x y : Int32} (h1 : -2147483648 ≤ x.toInt + y.toInt) (h2 : x.toInt + y.toInt < 2147483648) : (x + y).toInt = x.toInt + y.toInt := by
  rw [Int32.toInt_add]
  exact Int.bmod_eq_of_le (by omega) (by omega)
theorem zi_sub {x y : Int32} (h1 : -2147483648 ≤ x.toInt - y.toInt) (h2 : x.toInt - y.toInt < 2147483648) : (x - y).toInt = x.toInt - y.toInt := by
  rw [Int32.toInt_sub]
  exact Int.bmod_eq_of_le (by omega) (by omega)
theorem zi_mul {x y : Int32} (h1 : -2147483648 ≤ x.toInt * y.toInt) (h2 : x.toInt * y.toInt < 2147483648) : (x * y).toInt = x.toInt * y.toInt := by
  rw [Int32.toInt_mul]
  exact Int.bmod_eq_of_le (by omega) (by omega)
theorem zi_div {x y : Int32} (h : y.toInt ≠ -1) : (x / y).toInt = x.toInt.tdiv y.toInt := Int32.toInt_div_of_ne_right x y (fun q => h (by rw [q]; rfl))
theorem td100 (z : Int) : z - z.tdiv 100 * 100 = if z < 0 then -((-z) % 100) else z % 100 := by
  by_cases h : z < 0
  · rw [if_pos h]
    have e : z.tdiv 100 = -((-z).tdiv 100) := by rw [Int.neg_tdiv, Int.neg_neg]
    rw [e, Int.tdiv_eq_ediv_of_nonneg (by omega)]
    omega
  · rw [if_neg h, Int.tdiv_eq_ediv_of_nonneg (by omega)]
    omega
theorem pFm_toInt {x : Int32} (h1 : -100000 ≤ x.toInt) (h2 : x.toInt ≤ 100000) : (pFm x).toInt = x.toInt % 100 := by
  have c100 : (100 : Int32).toInt = 100 := by decide
  have hd : (x / 100).toInt = x.toInt.tdiv 100 := by
    rw [zi_div (by rw [c100]; decide), c100]
  have t := td100 x.toInt
  have hq : x.toInt.tdiv 100 * 100 = x.toInt - (if x.toInt < 0 then -((-x.toInt) % 100) else x.toInt % 100) := by omega
  have hm : (x / 100 * 100).toInt = x.toInt.tdiv 100 * 100 := by
    rw [zi_mul, hd, c100]
    · rw [hd, c100, hq]; split <;> omega
    · rw [hd, c100, hq]; split <;> omega
  have hr : (x - x / 100 * 100).toInt = (if x.toInt < 0 then -((-x.toInt) % 100) else x.toInt % 100) := by
    rw [zi_sub, hm]
    · omega
    · rw [hm, hq]; split <;> omega
    · rw [hm, hq]; split <;> omega
  have c0 : (0 : Int32).toInt = 0 := by decide
  unfold pFm
  split
  · rename_i g
    obtain ⟨g1, g2⟩ := g
    rw [zi_lt, c0] at g1
    rw [zi_eq, hr, c0, if_pos g1] at g2
    rw [zi_add, hr, c100, if_pos g1]
    · omega
    · rw [hr, c100, if_pos g1]; omega
    · rw [hr, c100, if_pos g1]; omega
  · rename_i g
    rw [hr]
    split
    · rename_i g1
      have g2 : (x - x / 100 * 100) = 0 := by
        refine Classical.not_not.mp (fun q => g ⟨?_, q⟩)
        rw [zi_lt, c0]
        exact g1
      rw [zi_eq, hr, c0, if_pos g1] at g2
      omega
    · rfl
/-- a number a try later -/
theorem pFm_next {k d : Nat} {dr : Int32} (hk : k < 100) (hd : d ≤ 12) (h1 : -5 ≤ dr.toInt) (h2 : dr.toInt ≤ 5) : pFm (pFm (nI k + dr * nI d) + dr * 1) = pFm (nI k + dr * nI (d + 1)) := by
  have c1 : (1 : Int32).toInt = 1 := by decide
  have ek : (nI k).toInt = k := nI_toInt (by omega)
  have ed : (nI d).toInt = d := nI_toInt (by omega)
  have ed1 : (nI (d + 1)).toInt = ((d + 1 : Nat) : Int) := nI_toInt (by omega)
  have m0 : (dr * nI d).toInt = dr.toInt * d := by
    rw [zi_mul, ed]
    · rw [ed]; rcases (show dr.toInt = -5 ∨ dr.toInt = -4 ∨ dr.toInt = -3 ∨ dr.toInt = -2 ∨ dr.toInt = -1 ∨ dr.toInt = 0 ∨ dr.toInt = 1 ∨ dr.toInt = 2 ∨ dr.toInt = 3 ∨ dr.toInt = 4 ∨ dr.toInt = 5 by omega) with h | h | h | h | h | h | h | h | h | h | h <;> rw [h] <;> omega
    · rw [ed]; rcases (show dr.toInt = -5 ∨ dr.toInt = -4 ∨ dr.toInt = -3 ∨ dr.toInt = -2 ∨ dr.toInt = -1 ∨ dr.toInt = 0 ∨ dr.toInt = 1 ∨ dr.toInt = 2 ∨ dr.toInt = 3 ∨ dr.toInt = 4 ∨ dr.toInt = 5 by omega) with h | h | h | h | h | h | h | h | h | h | h <;> rw [h] <;> omega
  have m1 : (dr * nI (d + 1)).toInt = dr.toInt * d + dr.toInt := by
    rw [zi_mul, ed1]
    · rw [Int.natCast_add, Int.mul_add]; omega
    · rw [ed1]; rcases (show dr.toInt = -5 ∨ dr.toInt = -4 ∨ dr.toInt = -3 ∨ dr.toInt = -2 ∨ dr.toInt = -1 ∨ dr.toInt = 0 ∨ dr.toInt = 1 ∨ dr.toInt = 2 ∨ dr.toInt = 3 ∨ dr.toInt = 4 ∨ dr.toInt = 5 by omega) with h | h | h | h | h | h | h | h | h | h | h <;> rw [h] <;> omega
    · rw [ed1]; rcases (show dr.toInt = -5 ∨ dr.toInt = -4 ∨ dr.toInt = -3 ∨ dr.toInt = -2 ∨ dr.toInt = -1 ∨ dr.toInt = 0 ∨ dr.toInt = 1 ∨ dr.toInt = 2 ∨ dr.toInt = 3 ∨ dr.toInt = 4 ∨ dr.toInt = 5 by omega) with h | h | h | h | h | h | h | h | h | h | h <;> rw [h] <;> omega
  have mb : -60 ≤ dr.toInt * d ∧ dr.toInt * d ≤ 60 := by
    rcases (show dr.toInt = -5 ∨ dr.toInt = -4 ∨ dr.toInt = -3 ∨ dr.toInt = -2 ∨ dr.toInt = -1 ∨ dr.toInt = 0 ∨ dr.toInt = 1 ∨ dr.toInt = 2 ∨ dr.toInt = 3 ∨ dr.toInt = 4 ∨ dr.toInt = 5 by omega) with h | h | h | h | h | h | h | h | h | h | h <;> rw [h] <;> omega
  have mo : (dr * 1).toInt = dr.toInt := by rw [zi_mul, c1] <;> (try rw [c1]) <;> omega
  have a0 : (nI k + dr * nI d).toInt = k + dr.toInt * d := by rw [zi_add, ek, m0] <;> (try rw [ek, m0]) <;> omega
  have a1 : (nI k + dr * nI (d + 1)).toInt = k + (dr.toInt * d + dr.toInt) := by rw [zi_add, ek, m1] <;> (try rw [ek, m1]) <;> omega
  have p0 : (pFm (nI k + dr * nI d)).toInt = (k + dr.toInt * d) % 100 := by rw [pFm_toInt, a0] <;> rw [a0] <;> omega
  have b0 : (pFm (nI k + dr * nI d) + dr * 1).toInt = (k + dr.toInt * d) % 100 + dr.toInt := by rw [zi_add, p0, mo] <;> (try rw [p0, mo]) <;> omega
  rw [zi_eq, pFm_toInt, b0, pFm_toInt, a1]
  · omega
  · rw [a1]; omega
  · rw [a1]; omega
  · rw [b0]; omega
  · rw [b0]; omega
theorem pFm_0 {k : Nat} {dr : Int32} (hk : k < 100) : pFm (nI k + dr * nI 0) = nI k := by
  have ek : (nI k).toInt = k := nI_toInt (by omega)
  have e0 : nI k + dr * nI 0 = nI k := by
    rw [show nI 0 = 0 from rfl, Int32.mul_zero, Int32.add_zero]
  rw [e0, zi_eq, pFm_toInt, ek]
  · omega
  · rw [ek]; omega
  · rw [ek]; omega
/-- the same people, as far as there are -/
def peq (n : Nat) (p q : Nat → Nat → Int32) : Prop := ∀ i f, i < n → f < 7 → p i f = q i f
theorem peq.symm {n : Nat} {p q : Nat → Nat → Int32} (h : peq n p q) : peq n q p := fun i f h1 h2 => (h i f h1 h2).symm
theorem peq.trans {n : Nat} {p q r : Nat → Nat → Int32} (h : peq n p q) (h' : peq n q r) : peq n p r := fun i f h1 h2 => (h i f h1 h2).trans (h' i f h1 h2)
theorem pUp_c {n : Nat} {p q : Nat → Nat → Int32} (h : peq n p q) (d : Int32) : ∀ m, m ≤ n → pUp p d m = pUp q d m
  | 0, _ => rfl
  | m + 1, hm => by rw [pUp, pUp, pUp_c h d m (by omega), h m 1 (by omega) (by decide), h m 2 (by omega) (by decide)]
theorem pSm_c {n : Nat} {p q : Nat → Nat → Int32} (h : peq n p q) : ∀ m, m ≤ n → pSm p m = pSm q m
  | 0, _ => rfl
  | m + 1, hm => by rw [pSm, pSm, pSm_c h m (by omega), h m 1 (by omega) (by decide), h m 2 (by omega) (by decide)]
theorem pMd_c {n : Nat} {p q : Nat → Nat → Int32} (h : peq n p q) (z : Int32) : ∀ m, m ≤ n → pMd p n z m = pMd q n z m
  | 0, _ => rfl
  | m + 1, hm => by rw [pMd, pMd, pMd_c h z m (by omega), h m 1 (by omega) (by decide), pUp_c h _ n (Nat.le_refl _)]
theorem pGr_c {n : Nat} {p q : Nat → Nat → Int32} (h : peq n p q) : ∀ m, m ≤ n → pGr p m = pGr q m
  | 0, _ => rfl
  | m + 1, hm => by rw [pGr, pGr, pGr_c h m (by omega), h m 1 (by omega) (by decide)]
theorem pVoice_c {n : Nat} {p q : Nat → Nat → Int32} (h : peq n p q) (law : Int32) : pVoice p n law = pVoice q n law := by
  unfold pVoice pMean
  rw [pUp_c h _ n (Nat.le_refl _), pSm_c h n (Nat.le_refl _), pMd_c h _ n (Nat.le_refl _), pGr_c h n (Nat.le_refl _)]
def feq (p q : Nat → Int32) : Prop := ∀ f, f < 7 → p f = q f
theorem pHear_c {p q : Nat → Int32} (h : feq p q) (s tm : Int32) : feq (pHear s tm p) (pHear s tm q) := by
  intro f hf
  have e1 : pLo1 p s tm = pLo1 q s tm := by unfold pLo1; rw [h 4 (by decide)]
  have e2 : pHi1 p s tm = pHi1 q s tm := by unfold pHi1; rw [h 5 (by decide)]
  unfold pHear
  rw [e1, e2, h f hf, h 6 (by decide)]
theorem pSet_c {p q : Nat → Int32} (h : feq p q) (hv : Int32 → Int32 → Int32 → Int32) : pSet hv p = pSet hv q := by
  unfold pSet
  rw [h 0 (by decide), h 1 (by decide), h 3 (by decide), h 4 (by decide), h 5 (by decide)]
theorem pPe_c {p q : Nat → Int32} (h : feq p q) (hv : Int32 → Int32 → Int32 → Int32) (s tm : Int32) : feq (pPe hv s tm p) (pPe hv s tm q) := by
  intro f hf
  unfold pPe
  rw [pSet_c (pHear_c h s tm) hv, pHear_c h s tm f hf]
theorem pAll_c {n : Nat} {p q : Nat → Nat → Int32} (h : peq n p q) (hv : Int32 → Int32 → Int32 → Int32) (s tm : Int32) : peq n (pAll hv s tm n p) (pAll hv s tm n q) := by
  intro i f hi hf
  unfold pAll
  rw [if_pos hi, if_pos hi]
  exact pPe_c (fun g hg => h i g hi hg) hv s tm f hf
/-- how many tries, 1 .. fuel, till it is open -/
def nd (hv : Int32 → Int32 → Int32 → Int32) (n : Nat) (law dr : Int32) : Nat → (Nat → Nat → Int32) → Int32 → Option Nat
  | 0, _, _ => none
  | f + 1, p, num => if pVoice p n law = num then some 1 else (nd hv n law dr f (pAll hv (pVoice p n law) (if num < pVoice p n law then 1 else 0) n p) (pFm (num + dr * 1))).map (· + 1)
theorem nd_c {hv : Int32 → Int32 → Int32 → Int32} {n : Nat} {law dr : Int32} : ∀ (f : Nat) {p q : Nat → Nat → Int32} (_ : peq n p q) (num : Int32), nd hv n law dr f p num = nd hv n law dr f q num
  | 0, _, _, _, _ => rfl
  | f + 1, p, q, h, num => by
    rw [nd, nd, pVoice_c h, nd_c f (pAll_c h hv _ _)]
theorem pPe_6 (hv : Int32 → Int32 → Int32 → Int32) (s tm : Int32) (q : Nat → Int32) : pPe hv s tm q 6 = q 6 := by
  unfold pPe pHear
  simp
theorem wget {d : Nat} (h : d < 12) : ([some 71, some 82, some 93, some 104, some 115, some 126, some 137, some 148, some 159, some 170, some 181, some 192] : List (Option Nat))[(nI d).toNatClampNeg]? = some (some (adW (2 + d))) := by
  rw [nI_clamp (by omega)]
  rcases (show d = 0 ∨ d = 1 ∨ d = 2 ∨ d = 3 ∨ d = 4 ∨ d = 5 ∨ d = 6 ∨ d = 7 ∨ d = 8 ∨ d = 9 ∨ d = 10 ∨ d = 11 by omega) with rfl | rfl | rfl | rfl | rfl | rfl | rfl | rfl | rfl | rfl | rfl | rfl <;> rfl
theorem gget {d : Nat} (h : d < 12) : ([some 57, some 58, some 59, some 60, some 61, some 62, some 63, some 64, some 65, some 66, some 67, some 68] : List (Option Nat))[(nI d).toNatClampNeg]? = some (some (57 + d)) := by
  rw [nI_clamp (by omega)]
  rcases (show d = 0 ∨ d = 1 ∨ d = 2 ∨ d = 3 ∨ d = 4 ∨ d = 5 ∨ d = 6 ∨ d = 7 ∨ d = 8 ∨ d = 9 ∨ d = 10 ∨ d = 11 by omega) with rfl | rfl | rfl | rfl | rfl | rfl | rfl | rfl | rfl | rfl | rfl | rfl <;> rfl
/-- a group of numbers, at a depth -/
def grp (M : zM) (d : Nat) (gl : List Nat) : Prop := gl.length ≤ 100 ∧ ∀ i k, gl[i]? = some k → k < 100 ∧ M 16 d 0 i = nI k
theorem grp.snoc {M : zM} {d : Nat} {F : List Nat} (h : grp M d F) (hl : F.length < 100) {k : Nat} (hk : k < 100) : grp (zu M 16 d 0 F.length (nI k)) d (F ++ [k]) := by
  refine ⟨by simp only [List.length_append, List.length_cons, List.length_nil]; omega, fun i j hj => ?_⟩
  by_cases e : i < F.length
  · rw [List.getElem?_append_left e] at hj
    rw [zu_f (by omega)]
    exact h.2 i j hj
  · rw [List.getElem?_append_right (by omega)] at hj
    have hz : i - F.length < 1 := (List.getElem?_eq_some_iff.mp hj).1
    have ei : i = F.length := by omega
    subst ei
    rw [Nat.sub_self] at hj
    cases hj
    rw [zu_self]
    exact ⟨hk, rfl⟩
