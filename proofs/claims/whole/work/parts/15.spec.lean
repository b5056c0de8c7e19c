/-! WHAT IS MEANT: people, the safe, texts, as functions of numbers -/
/-- sums over people: p i f is field f of person i (0 kind, 1 dial, 2 weight, 3 bias, 4 low, 5 high, 6 hears) -/
def pWs (p : Nat → Nat → Int32) : Nat → Int32
  | 0 => 0
  | n + 1 => pWs p n + p n 2
def pSm (p : Nat → Nat → Int32) : Nat → Int32
  | 0 => 0
  | n + 1 => pSm p n + p n 1 * p n 2
def pUp (p : Nat → Nat → Int32) (d : Int32) : Nat → Int32
  | 0 => 0
  | n + 1 => if d < p n 1 then pUp p d n else pUp p d n + p n 2
/-- the middle one, as the class finds it -/
def pMd (p : Nat → Nat → Int32) (n : Nat) (place : Int32) : Nat → Int32
  | 0 => 99
  | k + 1 => if p k 1 < pMd p n place k ∧ place < pUp p (p k 1) n then p k 1 else pMd p n place k
def pGr (p : Nat → Nat → Int32) : Nat → Int32
  | 0 => 0
  | n + 1 => if pGr p n < p n 1 then p n 1 else pGr p n
def pMean (p : Nat → Nat → Int32) (n : Nat) : Int32 := if pUp p 99 n = 0 then -1 else pSm p n / pUp p 99 n
def pVoice (p : Nat → Nat → Int32) (n : Nat) (law : Int32) : Int32 := if n = 0 then -1 else if law = 0 then pMean p n else if law = 1 then pMd p n (pUp p 99 n / 2) n else pGr p n
/-- one sets its dial: half is what set gives, held -/
def pSet (hv : Int32 → Int32 → Int32 → Int32) (q : Nat → Int32) : Int32 := if q 0 = 3 then q 1 else if q 0 = 1 then (q 1 + hv (q 4) (q 5) (q 1)) / 2 else if q 0 = 2 then zheld (hv (q 4) (q 5) (q 1) + q 3) else if q 0 = 4 then zheld (zheld (hv (q 4) (q 5) (q 1) + q 3) + q 3) else if q 0 = 5 then (if hv (q 4) (q 5) (q 1) < 50 then 99 else 0) else hv (q 4) (q 5) (q 1)
def pLo1 (q : Nat → Int32) (s tm : Int32) : Int32 := if tm = 0 then zheld (s + 1) else q 4
def pHi1 (q : Nat → Int32) (s tm : Int32) : Int32 := if tm = 0 then q 5 else zheld (s - 1)
/-- one hears -/
def pHear (s tm : Int32) (q : Nat → Int32) : Nat → Int32 := fun f => if q 6 = 0 then q f else if f = 4 then (if pLo1 q s tm ≤ pHi1 q s tm then pLo1 q s tm else 0) else if f = 5 then (if pLo1 q s tm ≤ pHi1 q s tm then pHi1 q s tm else 99) else q f
/-- one hears, and sets its dial -/
def pPe (hv : Int32 → Int32 → Int32 → Int32) (s tm : Int32) (q : Nat → Int32) : Nat → Int32 := fun f => if f = 1 then pSet hv (pHear s tm q) else pHear s tm q f
def pAll (hv : Int32 → Int32 → Int32 → Int32) (s tm : Int32) (n : Nat) (p : Nat → Nat → Int32) : Nat → Nat → Int32 := fun i => if i < n then pPe hv s tm (p i) else p i
def pFm (x : Int32) : Int32 := if x < 0 ∧ ¬ x - x / 100 * 100 = 0 then x - x / 100 * 100 + 100 else x - x / 100 * 100
/-- texts, in the class's code -/
def eLeaf (k a b c : Int32) : Int32 := if k = 10000 then a else if k = 10001 then b else if k = 10002 then c else k
def eJoin (g x y : Int32) : Int32 := if g = 124 then (if x = 0 ∧ y = 0 then 0 else 1) else if g = 38 then (if x = 0 ∨ y = 0 then 0 else 1) else if g = 60 then (if x < y then 1 else 0) else if g = 61 then (if x = y then 1 else 0) else if g = 62 then (if y < x then 1 else 0) else if g = 43 then x + y else if g = 45 then x - y else if g = 42 then x * y else (if y = 0 then 0 else x / y)
def eStep (a b c k : Int32) (st : List Int32) : Option (List Int32) := if k < 20000 then some (eLeaf k a b c :: st) else if k = 20033 then (match st with
    | x :: r => some ((if x = 0 then 1 else 0) :: r)
    | [] => none) else (match st with
    | y :: x :: r => some (eJoin (k - 20000) x y :: r)
    | _ => none)
def eRun (a b c : Int32) (f : Nat → Int32) : Nat → Option (List Int32)
  | 0 => some []
  | n + 1 => (eRun a b c f n).bind (eStep a b c (f n))
/-- text t gives r -/
def tGives (M : zM) (t : Nat) (a b c r : Int32) : Prop := ∃ n, n ≤ 96 ∧ M 8 t 0 2 = nI n ∧ eRun a b c (M 9 t 0) n = some [r]
/-- what set gives under a law (-1: none), held -/
def okS (M : zM) (lw : Int32) (hv : Int32 → Int32 → Int32 → Int32) : Prop := (lw < 0 ∧ ∀ x y z, hv x y z = zheld ((x + y) / 2)) ∨ ∃ t, t < 14 ∧ lw = nI t ∧ ∀ x y z, ∃ r, tGives M t x y z r ∧ hv x y z = zheld r
/-- the same but for the stack -/
def e12 (M M' : zM) : Prop := ∀ a, a ≠ 12 → M' a = M a
theorem e12.rfl' {M : zM} : e12 M M := fun _ _ => rfl
theorem e12.trans {M M' M2 : zM} (h : e12 M M') (h2 : e12 M' M2) : e12 M M2 := fun a ha => (h2 a ha).trans (h a ha)
theorem tGives.same {M M' : zM} (h : e12 M M') {t : Nat} {a b c r : Int32} (g : tGives M t a b c r) : tGives M' t a b c r := by
  obtain ⟨n, h1, h2, h3⟩ := g
  exact ⟨n, h1, by rw [h 8 (by decide)]; exact h2, by rw [h 9 (by decide)]; exact h3⟩
theorem okS.same {M M' : zM} (h : e12 M M') {lw : Int32} {hv : Int32 → Int32 → Int32 → Int32} (g : okS M lw hv) : okS M' lw hv := by
  rcases g with g | ⟨t, h1, h2, h3⟩
  · exact Or.inl g
  · refine Or.inr ⟨t, h1, h2, fun x y z => ?_⟩
    obtain ⟨r, g1, g2⟩ := h3 x y z
    exact ⟨r, g1.same h, g2⟩
/-- a place in the list of people -/
theorem pget {w i : Nat} (h : i < 8) : ([some (adP w 0), some (adP w 1), some (adP w 2), some (adP w 3), some (adP w 4), some (adP w 5), some (adP w 6), some (adP w 7)] : List (Option Nat))[(nI i).toNatClampNeg]? = some (some (adP w i)) := by
  rw [nI_clamp (by omega)]
  rcases (show i = 0 ∨ i = 1 ∨ i = 2 ∨ i = 3 ∨ i = 4 ∨ i = 5 ∨ i = 6 ∨ i = 7 by omega) with rfl | rfl | rfl | rfl | rfl | rfl | rfl | rfl <;> rfl
theorem pin {i : Nat} (h : i < 8) : vp_in (nI i) 8 := vp_in_nI h (by omega)
