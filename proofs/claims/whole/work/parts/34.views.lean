/-! VIEWS: a world as numbers (2 size, 3 number, 4 law, 5 drift, 6 bolts, 7 open, 8 tried, 9 z, 10 texts) and people -/
abbrev zVw : Type := (Nat → Int32) × (Nat → Nat → Int32)
def cV (M : zM) (w : Nat) : zVw := (M 5 w 0, M 1 w)
def mm (k : Nat) : Nat := match k with
  | 2 => 1
  | 8 => 2
  | 9 => 0
  | 10 => 8
  | k => k
/-- the array a of the reference as a view -/
def mV (M : zM) (a : Nat) : zVw := (fun k => M a 0 0 (mm k), fun i f => M a 0 0 (9 + 7 * i + f))
def veq (n : Nat) (V V' : zVw) : Prop := (∀ k, 2 ≤ k → k ≤ 10 → V.1 k = V'.1 k) ∧ peq n V.2 V'.2
theorem veq.rfl' {n : Nat} {V : zVw} : veq n V V := ⟨fun _ _ _ => rfl, fun _ _ _ _ => rfl⟩
theorem veq.symm {n : Nat} {V V' : zVw} (h : veq n V V') : veq n V' V := ⟨fun k h1 h2 => (h.1 k h1 h2).symm, h.2.symm⟩
theorem veq.trans {n : Nat} {V V' V2 : zVw} (h : veq n V V') (h' : veq n V' V2) : veq n V V2 := ⟨fun k h1 h2 => (h.1 k h1 h2).trans (h'.1 k h1 h2), h.2.trans h'.2⟩
def vTurn (hv : Int32 → Int32 → Int32 → Int32) (n : Nat) (V : zVw) : zVw := if pVoice V.2 n (V.1 4) = V.1 3 then (fun k => if k = 7 then 1 else V.1 k, V.2) else (fun k => if k = 3 then pFm (V.1 3 + V.1 5 * 1) else V.1 k, pAll hv (pVoice V.2 n (V.1 4)) (if V.1 3 < pVoice V.2 n (V.1 4) then 1 else 0) n V.2)
def vStill (n : Nat) (V : zVw) : Prop := ¬ V.1 7 = 0 ∨ n = 0 ∨ V.1 6 = 0
def vPay (V : zVw) : zVw := (fun k => if k = 6 then V.1 6 - 1 else if k = 8 then V.1 8 + 1 else V.1 k, V.2)
noncomputable def vTry (hv : Int32 → Int32 → Int32 → Int32) (n : Nat) (V : zVw) : zVw := @ite _ (vStill n V) (Classical.propDecidable _) V (vTurn hv n (vPay V))
theorem vTry_s {hv : Int32 → Int32 → Int32 → Int32} {n : Nat} {V : zVw} (h : vStill n V) : vTry hv n V = V := if_pos h
theorem vTry_n {hv : Int32 → Int32 → Int32 → Int32} {n : Nat} {V : zVw} (h : ¬ vStill n V) : vTry hv n V = vTurn hv n (vPay V) := if_neg h
theorem vTurn_c {hv : Int32 → Int32 → Int32 → Int32} {n : Nat} {V V' : zVw} (h : veq n V V') : veq n (vTurn hv n V) (vTurn hv n V') := by
  have e3 := h.1 3 (by decide) (by decide)
  have e4 := h.1 4 (by decide) (by decide)
  have e5 := h.1 5 (by decide) (by decide)
  unfold vTurn
  rw [pVoice_c h.2, e3, e4, e5]
  by_cases q : pVoice V'.2 n (V'.1 4) = V'.1 3
  · rw [if_pos q, if_pos q]
    exact ⟨fun k h1 h2 => by
      show (if k = 7 then (1 : Int32) else V.1 k) = if k = 7 then 1 else V'.1 k
      rw [h.1 k h1 h2], h.2⟩
  · rw [if_neg q, if_neg q]
    exact ⟨fun k h1 h2 => by
      show (if k = 3 then pFm (V'.1 3 + V'.1 5 * 1) else V.1 k) = if k = 3 then pFm (V'.1 3 + V'.1 5 * 1) else V'.1 k
      rw [h.1 k h1 h2], pAll_c h.2 hv _ _⟩
theorem vPay_c {n : Nat} {V V' : zVw} (h : veq n V V') : veq n (vPay V) (vPay V') := ⟨fun k h1 h2 => by
  show (if k = 6 then V.1 6 - 1 else if k = 8 then V.1 8 + 1 else V.1 k) = if k = 6 then V'.1 6 - 1 else if k = 8 then V'.1 8 + 1 else V'.1 k
  rw [h.1 k h1 h2, h.1 6 (by decide) (by decide), h.1 8 (by decide) (by decide)], h.2⟩
theorem vStill_c {n : Nat} {V V' : zVw} (h : veq n V V') : vStill n V ↔ vStill n V' := by
  unfold vStill
  rw [h.1 7 (by decide) (by decide), h.1 6 (by decide) (by decide)]
theorem vTry_c {hv : Int32 → Int32 → Int32 → Int32} {n : Nat} {V V' : zVw} (h : veq n V V') : veq n (vTry hv n V) (vTry hv n V') := by
  by_cases q : vStill n V
  · rw [vTry_s q, vTry_s ((vStill_c h).mp q)]
    exact h
  · rw [vTry_n q, vTry_n (fun z => q ((vStill_c h).mpr z))]
    exact vTurn_c (vPay_c h)
/-- a view that is in order -/
def vOK (n : Nat) (V : zVw) : Prop := V.1 2 = nI n ∧ n ≤ 8 ∧ (∀ i, i < n → pOK (V.2 i)) ∧ (0 ≤ (V.1 3).toInt ∧ (V.1 3).toInt ≤ 99) ∧ (0 ≤ (V.1 4).toInt ∧ (V.1 4).toInt ≤ 2) ∧ (-5 ≤ (V.1 5).toInt ∧ (V.1 5).toInt ≤ 5) ∧ (0 ≤ (V.1 6).toInt ∧ (V.1 6).toInt ≤ 99) ∧ (V.1 7 = 0 ∨ V.1 7 = 1)
theorem pOK_c {p q : Nat → Int32} (h : feq p q) (g : pOK p) : pOK q := by
  unfold pOK at g ⊢
  rw [← h 0 (by decide), ← h 1 (by decide), ← h 2 (by decide), ← h 3 (by decide), ← h 4 (by decide), ← h 5 (by decide), ← h 6 (by decide)]
  exact g
theorem vOK_c {n : Nat} {V V' : zVw} (h : veq n V V') (g : vOK n V) : vOK n V' := by
  obtain ⟨g1, g2, g3, g4, g5, g6, g7, g8⟩ := g
  refine ⟨by rw [← h.1 2 (by decide) (by decide)]; exact g1, g2, fun i hi => pOK_c (fun f hf => h.2 i f hi hf) (g3 i hi), ?_, ?_, ?_, ?_, ?_⟩
  · rw [← h.1 3 (by decide) (by decide)]; exact g4
  · rw [← h.1 4 (by decide) (by decide)]; exact g5
  · rw [← h.1 5 (by decide) (by decide)]; exact g6
  · rw [← h.1 6 (by decide) (by decide)]; exact g7
  · rw [← h.1 7 (by decide) (by decide)]; exact g8
theorem vOK_turn {hv : Int32 → Int32 → Int32 → Int32} (hh : ∀ x y z, 0 ≤ (hv x y z).toInt ∧ (hv x y z).toInt ≤ 99) {n : Nat} {V : zVw} (g : vOK n V) : vOK n (vTurn hv n V) := by
  obtain ⟨g1, g2, g3, g4, g5, g6, g7, g8⟩ := g
  unfold vTurn
  split
  · exact ⟨g1, g2, g3, g4, g5, g6, g7, Or.inr rfl⟩
  · refine ⟨g1, g2, fun i hi => ?_, ?_, g5, g6, g7, g8⟩
    · show pOK (pAll hv _ _ n V.2 i)
      unfold pAll
      rw [if_pos hi]
      exact pPe_ok hh (g3 i hi)
    · show 0 ≤ (pFm (V.1 3 + V.1 5 * 1)).toInt ∧ (pFm (V.1 3 + V.1 5 * 1)).toInt ≤ 99
      have ha : (V.1 3 + V.1 5).toInt = (V.1 3).toInt + (V.1 5).toInt := zi_add (by omega) (by omega)
      rw [Int32.mul_one, pFm_toInt (by rw [ha]; omega) (by rw [ha]; omega), ha]
      omega
theorem vOK_pay {n : Nat} {V : zVw} (g : vOK n V) (h : ¬ vStill n V) : vOK n (vPay V) := by
  obtain ⟨g1, g2, g3, g4, g5, g6, g7, g8⟩ := g
  refine ⟨g1, g2, g3, g4, g5, g6, ?_, g8⟩
  show 0 ≤ (V.1 6 - 1).toInt ∧ (V.1 6 - 1).toInt ≤ 99
  have c1 : (1 : Int32).toInt = 1 := by decide
  have c0 : (0 : Int32).toInt = 0 := by decide
  have h6 : ¬ V.1 6 = 0 := fun q => h (Or.inr (Or.inr q))
  rw [zi_eq, c0] at h6
  rw [zi_sub, c1] <;> (try rw [c1]) <;> omega
theorem vOK_try {hv : Int32 → Int32 → Int32 → Int32} (hh : ∀ x y z, 0 ≤ (hv x y z).toInt ∧ (hv x y z).toInt ≤ 99) {n : Nat} {V : zVw} (g : vOK n V) : vOK n (vTry hv n V) := by
  by_cases q : vStill n V
  · rw [vTry_s q]; exact g
  · rw [vTry_n q]; exact vOK_turn hh (vOK_pay g q)
/-- the class's turn and try, in views -/
theorem cV_turn {M M' : zM} {w n : Nat} {hv : Int32 → Int32 → Int32 → Int32} (h : e12 (tuM M w n hv) M') : veq n (cV M' w) (vTurn hv n (cV M w)) ∧ ∀ a x y f, ¬ (a = 12 ∨ ((a = 1 ∨ a = 5) ∧ x = w)) → M' a x y f = M a x y f := by
  unfold tuM at h
  unfold vTurn cV
  by_cases q : pVoice (M 1 w) n (M 5 w 0 4) = M 5 w 0 3
  · rw [if_pos q] at h
    have q' : pVoice (M 1 w, M 1 w).2 n (M 5 w 0 4) = M 5 w 0 3 := q
    refine ⟨?_, fun a x y f z => ?_⟩
    · show veq n (M' 5 w 0, M' 1 w) (if pVoice (M 1 w) n (M 5 w 0 4) = M 5 w 0 3 then _ else _)
      rw [if_pos q]
      refine ⟨fun k h1 h2 => ?_, fun i f hi hf => ?_⟩
      · show M' 5 w 0 k = if k = 7 then 1 else M 5 w 0 k
        rw [h 5 (by decide)]
        by_cases e : k = 7
        · rw [e, zu_self, if_pos rfl]
        · rw [zu_f e, if_neg e]
      · show M' 1 w i f = M 1 w i f
        rw [h 1 (by decide), zu_a (by decide)]
    · rw [h a (fun e => z (Or.inl e)), zu_ne _ _ (fun e => z (Or.inr ⟨Or.inr e.1, e.2.1⟩))]
  · rw [if_neg q] at h
    refine ⟨?_, fun a x y f z => ?_⟩
    · show veq n (M' 5 w 0, M' 1 w) (if pVoice (M 1 w) n (M 5 w 0 4) = M 5 w 0 3 then _ else _)
      rw [if_neg q]
      refine ⟨fun k h1 h2 => ?_, fun i f hi hf => ?_⟩
      · show M' 5 w 0 k = if k = 3 then pFm (M 5 w 0 3 + M 5 w 0 5 * 1) else M 5 w 0 k
        rw [h 5 (by decide)]
        by_cases e : k = 3
        · rw [e, zu_self, if_pos rfl]
        · rw [zu_f e, if_neg e, sM_o (by decide)]
      · show M' 1 w i f = pAll hv _ _ n (M 1 w) i f
        rw [h 1 (by decide), zu_a (by decide), sM_in hi, pAll, if_pos hi]
    · rw [h a (fun e => z (Or.inl e)), zu_ne _ _ (fun e => z (Or.inr ⟨Or.inr e.1, e.2.1⟩))]
      exact if_neg (fun e => z (Or.inr ⟨Or.inl e.1, e.2.1⟩))
theorem cV_bt (M : zM) (w n : Nat) : veq n (cV (bt M w) w) (vPay (cV M w)) := by
  refine ⟨fun k h1 h2 => ?_, fun i f hi hf => ?_⟩
  · show bt M w 5 w 0 k = if k = 6 then M 5 w 0 6 - 1 else if k = 8 then M 5 w 0 8 + 1 else M 5 w 0 k
    unfold bt
    by_cases e8 : k = 8
    · rw [e8, zu_self]
      rfl
    · rw [zu_f e8]
      by_cases e6 : k = 6
      · rw [e6, zu_self]
        rfl
      · rw [zu_f e6, if_neg e6, if_neg e8]
  · show bt M w 1 w i f = M 1 w i f
    unfold bt
    rw [zu_a (by decide), zu_a (by decide)]
/-- what is known of world w of the class -/
def cI (M : zM) (w n : Nat) (hv : Int32 → Int32 → Int32 → Int32) : Prop := vOK n (cV M w) ∧ okS M (M 6 w 0 0) hv
def cFr (M M' : zM) (w : Nat) : Prop := ∀ a x y f, ¬ (a = 12 ∨ ((a = 1 ∨ a = 5) ∧ x = w)) → M' a x y f = M a x y f
theorem cFr.rfl' {M : zM} {w : Nat} : cFr M M w := fun _ _ _ _ _ => rfl
theorem cFr.trans {M M' M2 : zM} {w : Nat} (h : cFr M M' w) (h' : cFr M' M2 w) : cFr M M2 w := fun a x y f z => (h' a x y f z).trans (h a x y f z)
theorem cFr.k {M M' : zM} {w : Nat} (h : cFr M M' w) {a : Nat} (ha : a ≠ 1 ∧ a ≠ 5 ∧ a ≠ 12) : M' a = M a := by
  funext x y f
  exact h a x y f (by omega)
theorem e12.fr {M M' : zM} (h : e12 M M') (w : Nat) : cFr M M' w := fun a x y f z => by rw [h a (fun e => z (Or.inl e))]
theorem cI.on {M M' : zM} {w n : Nat} {hv : Int32 → Int32 → Int32 → Int32} (h : cI M w n hv) (hf : cFr M M' w) (hV : vOK n (cV M' w)) : cI M' w n hv := ⟨hV, by
  rw [hf.k (a := 6) (by decide)]
  exact okS.on (hf.k (by decide)) (hf.k (by decide)) h.2⟩
theorem mX8_turn2 {l : Launch} {G : zG} {b : Nat} {M : zM} {w n : Nat} (hw : w < 14) {hv : Int32 → Int32 → Int32 → Int32} (hI : cI M w n hv) : zMet l G b yX8_turn cX8_turn 3 (some .int) 4 zshL zshL [.ref (b + adW w)] M (zI (fun r M' => r = zcmp (pVoice (M 1 w) n (M 5 w 0 4)) (M 5 w 0 3) ∧ veq n (cV M' w) (vTurn hv n (cV M w)) ∧ cFr M M' w)) :=
  (mX8_turn hw hI.1.1 hI.1.2.1 hI.2).post (fun r M' h => by
    obtain ⟨v, rfl, h1, h2⟩ := h
    exact ⟨v, rfl, h1, cV_turn h2⟩)
theorem still_iff {M : zM} {w n : Nat} : still M w n ↔ vStill n (cV M w) := Iff.rfl
theorem mX8_attempt2 {l : Launch} {G : zG} {b : Nat} {M : zM} {w n : Nat} (hw : w < 14) {hv : Int32 → Int32 → Int32 → Int32} (hI : cI M w n hv) : zMet l G b yX8_attempt cX8_attempt 1 (some .boolean) 5 zshL zshL [.ref (b + adW w)] M (zI (fun r M' => ((vStill n (cV M w) ∧ r = 0) ∨ (¬ vStill n (cV M w) ∧ r = 1)) ∧ veq n (cV M' w) (vTry hv n (cV M w)) ∧ cFr M M' w)) :=
  (mX8_attempt hw hI.1.1 hI.1.2.1 hI.2).post (fun r M' h => by
    obtain ⟨v, rfl, h1, h2⟩ := h
    refine ⟨v, rfl, ?_⟩
    by_cases q : still M w n
    · obtain ⟨g1, g2⟩ := h1 q
      refine ⟨Or.inl ⟨q, g1⟩, ?_, g2.fr w⟩
      rw [vTry_s (show vStill n (cV M w) from q)]
      exact ⟨fun k _ _ => by show M' 5 w 0 k = M 5 w 0 k; rw [g2 5 (by decide)], fun i f _ _ => by show M' 1 w i f = M 1 w i f; rw [g2 1 (by decide)]⟩
    · obtain ⟨g1, g2⟩ := h2 q
      obtain ⟨g3, g4⟩ := cV_turn g2
      refine ⟨Or.inr ⟨q, g1⟩, ?_, fun a x y f z => ?_⟩
      · rw [vTry_n (show ¬ vStill n (cV M w) from q)]
        exact g3.trans (vTurn_c (cV_bt M w n))
      · rw [g4 a x y f z]
        unfold bt
        rw [zu_ne _ _ (fun e => z (Or.inr ⟨Or.inr e.1, e.2.1⟩)), zu_ne _ _ (fun e => z (Or.inr ⟨Or.inr e.1, e.2.1⟩))])
/-! the reference's try, in views -/
theorem mm_lt {k : Nat} (h1 : 2 ≤ k) (h2 : k ≤ 10) : mm k < 9 := by
  rcases (show k = 2 ∨ k = 3 ∨ k = 4 ∨ k = 5 ∨ k = 6 ∨ k = 7 ∨ k = 8 ∨ k = 9 ∨ k = 10 by omega) with rfl | rfl | rfl | rfl | rfl | rfl | rfl | rfl | rfl <;> decide
/-- what the reference's inner doings may change: only now (not its texts), stack, facts -/
def mFr (M M' : zM) : Prop := (∀ a, a ≠ 31 → a ≠ 42 → a ≠ 43 → M' a = M a) ∧ ∀ k, 65 ≤ k → M' 31 0 0 k = M 31 0 0 k
theorem mFr.rfl' {M : zM} : mFr M M := ⟨fun _ _ _ _ => rfl, fun _ _ => rfl⟩
theorem mFr.trans {M M' M2 : zM} (h : mFr M M') (h' : mFr M' M2) : mFr M M2 := ⟨fun a h1 h2 h3 => (h'.1 a h1 h2 h3).trans (h.1 a h1 h2 h3), fun k hk => (h'.2 k hk).trans (h.2 k hk)⟩
def vT (V : zVw) : zVw := (fun k => if k = 8 then V.1 8 + 1 else V.1 k, V.2)
theorem mV_turn {M M' : zM} {n : Nat} {hv : Int32 → Int32 → Int32 → Int32} (h : mtP M M' n hv) : veq n (mV M' 31) (vTurn hv n (vT (mV M 31))) ∧ mFr M M' := by
  obtain ⟨h1, h2, h3, h4⟩ := h
  refine ⟨?_, h1, h2⟩
  have h4' : peq n (mV M' 31).2 (if pVoice (mp M) n (M 31 0 0 4) = M 31 0 0 3 then mp M else pAll hv (pVoice (mp M) n (M 31 0 0 4)) (if M 31 0 0 3 < pVoice (mp M) n (M 31 0 0 4) then 1 else 0) n (mp M)) := h4
  show veq n (mV M' 31) (if pVoice (mp M) n (M 31 0 0 4) = M 31 0 0 3 then _ else _)
  by_cases q : pVoice (mp M) n (M 31 0 0 4) = M 31 0 0 3
  · rw [if_pos q] at h4' ⊢
    refine ⟨fun k g1 g2 => ?_, h4'⟩
    show M' 31 0 0 (mm k) = if k = 7 then 1 else if k = 8 then M 31 0 0 2 + 1 else M 31 0 0 (mm k)
    rw [h3 (mm k) (mm_lt g1 g2)]
    rcases (show k = 2 ∨ k = 3 ∨ k = 4 ∨ k = 5 ∨ k = 6 ∨ k = 7 ∨ k = 8 ∨ k = 9 ∨ k = 10 by omega) with rfl | rfl | rfl | rfl | rfl | rfl | rfl | rfl | rfl <;> simp [mm, q]
  · rw [if_neg q] at h4' ⊢
    refine ⟨fun k g1 g2 => ?_, h4'⟩
    show M' 31 0 0 (mm k) = if k = 3 then pFm (M 31 0 0 3 + M 31 0 0 5 * 1) else if k = 8 then M 31 0 0 2 + 1 else M 31 0 0 (mm k)
    rw [h3 (mm k) (mm_lt g1 g2)]
    rcases (show k = 2 ∨ k = 3 ∨ k = 4 ∨ k = 5 ∨ k = 6 ∨ k = 7 ∨ k = 8 ∨ k = 9 ∨ k = 10 by omega) with rfl | rfl | rfl | rfl | rfl | rfl | rfl | rfl | rfl <;> simp [mm, q]
/-- what is known of the reference's now -/
def rI (M : zM) (n T : Nat) (ky ln : Nat → Nat) : Prop := vOK n (mV M 31) ∧ M 31 0 0 8 = nI T ∧ TX M T ky ln ∧ mTX M 31 T ky ln
theorem rI.m {M : zM} {n T : Nat} {ky ln : Nat → Nat} (h : rI M n T ky ln) : mI M n T ky ln := ⟨h.1.1, h.1.2.1, h.1.2.2.1, h.1.2.2.2.1, h.1.2.2.2.2.2.1, h.2⟩
theorem rI.on {M M' : zM} {n T : Nat} {ky ln : Nat → Nat} (h : rI M n T ky ln) (hf : mFr M M') (h8 : M' 31 0 0 8 = M 31 0 0 8) (hV : vOK n (mV M' 31)) : rI M' n T ky ln := by
  have o8 : M' 8 = M 8 := hf.1 8 (by decide) (by decide) (by decide)
  have o9 : M' 9 = M 9 := hf.1 9 (by decide) (by decide) (by decide)
  obtain ⟨-, hT, hX, hm⟩ := h
  refine ⟨hV, h8.trans hT, ?_, fun t ht => ?_⟩
  · unfold TX
    rw [o8, o9]
    exact hX
  · obtain ⟨g1, g2, g3⟩ := hm t ht
    exact ⟨by rw [hf.2 _ (by omega)]; exact g1, by rw [hf.2 _ (by omega), o8]; exact g2, fun i hi => by rw [hf.2 _ (by omega), o9]; exact g3 i hi⟩
theorem mFr.hv {M M' : zM} (hf : mFr M M') (lw : Int32) : hvF M' lw = hvF M lw := hvF_c (hf.1 8 (by decide) (by decide) (by decide)) (hf.1 9 (by decide) (by decide) (by decide)) lw
theorem vOK_T {n : Nat} {V : zVw} (h : vOK n V) : vOK n (vT V) := h
/-- the reference's turn -/
theorem mX10_turn2 {l : Launch} {G : zG} {b : Nat} {M : zM} {n T : Nat} {ky ln : Nat → Nat} (hI : rI M n T ky ln) : zMet l G b yX10_turn cX10_turn 3 (some .int) 4 zshL zshL [.ref (b + 239)] M (zI (fun r M' => r = pVoice (mp M) n (M 31 0 0 4) ∧ veq n (mV M' 31) (vTurn (hvF M (lastK ky 0 T)) n (vT (mV M 31))) ∧ mFr M M' ∧ rI M' n T ky ln)) :=
  (mX10_turn hI.m).post (fun r M' h => by
    obtain ⟨v, rfl, h1, h2⟩ := h
    obtain ⟨g1, g2⟩ := mV_turn h2
    refine ⟨v, rfl, h1, g1, g2, hI.on g2 ?_ (vOK_c g1.symm (vOK_turn (hvF_in M _) (vOK_T hI.1)))⟩
    have e := h2.2.2.1 8 (by decide)
    rw [if_neg (by decide), if_neg (fun z => absurd z.1 (by decide)), if_neg (fun z => absurd z.1 (by decide))] at e
    exact e)