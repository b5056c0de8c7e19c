/-! THE RELATION between the class and the reference, both in one picture -/
def tOK (x : Int32) : Prop := 0 ≤ x.toInt ∧ x.toInt ≤ 9999
def RA (M : zM) (n T : Nat) (ky ln : Nat → Nat) : Prop := vOK n (cV M 0) ∧ veq n (cV M 0) (mV M 31) ∧ TX M T ky ln ∧ mTX M 31 T ky ln ∧ M 5 0 0 10 = nI T ∧ (∀ k, k < 3 → M 6 0 0 k = lastK ky k T) ∧ tOK (M 5 0 0 8)
def RI (M : zM) (T : Nat) (ky ln : Nat → Nat) (n1 T1 : Nat) : Prop := T1 ≤ T ∧ vOK n1 (cV M 1) ∧ veq n1 (cV M 1) (mV M 32) ∧ mTX M 32 T1 ky ln ∧ M 5 1 0 10 = nI T1 ∧ (∀ k, k < 3 → M 6 1 0 k = lastK ky k T1) ∧ tOK (M 5 1 0 8)
def RC (M : zM) (T : Nat) (ky ln : Nat → Nat) : Prop := (M 0 0 0 10 = 0 ∧ M 30 0 0 3 = 0) ∨ (M 0 0 0 10 = 1 ∧ M 30 0 0 3 = 1 ∧ ∃ n1 T1, RI M T ky ln n1 T1)
def RD (M : zM) : Prop := ∃ t, t ≤ 96 ∧ M 19 0 0 1 = nI t ∧ M 30 0 0 7 = nI t ∧ ∀ k, k < t → M 20 0 0 k = M 36 0 0 k ∧ iin (M 36 0 0 k) 0 255
def RE (M : zM) : Prop := ∀ s, s < 4 → M 3 s 0 0 = M 44 0 0 s ∧ iin (M 44 0 0 s) (-1) 1 ∧ M 3 s 0 1 = M 45 0 0 s ∧ iin (M 45 0 0 s) 0 24 ∧ ∀ k, k < 24 → M 4 s 0 k = M 46 0 0 (24 * s + k)
def RF (M : zM) : Prop := ∀ s, s < 5 → M 25 s 0 0 = M 47 0 0 s ∧ iin (M 47 0 0 s) 0 3 ∧ (M 47 0 0 s = 1 → M 48 0 0 s = M 1 (14 + s) 0 0 ∧ iin (M 48 0 0 s) 0 5 ∧ M 49 0 0 s = s_worth (M 1 (14 + s) 0 0) (M 1 (14 + s) 0 2) (M 1 (14 + s) 0 3)) ∧ (M 47 0 0 s = 2 → M 48 0 0 s = M 3 (4 + s) 0 1 ∧ iin (M 48 0 0 s) 0 24 ∧ ∀ k, k < 24 → M 4 (4 + s) 0 k = M 50 0 0 (24 * s + k)) ∧ (M 47 0 0 s = 3 → M 48 0 0 s = M 25 s 0 3)
def RG (M : zM) : Prop := ∃ q, q ≤ 60 ∧ M 0 0 0 9 = nI q ∧ M 30 0 0 33 = nI q ∧ ∀ k, k < q → M 24 0 0 k = M 52 0 0 k
def kyA (k : Nat) : Int32 := [115, 101, 116, 102, 101, 101, 102, 105, 110, 101].getD k 0
def kyB (k : Nat) : Int32 := [0, 3, 6, 10].getD k 0
def RH (M : zM) : Prop := (∀ k, k < 10 → M 37 0 0 k = kyA k) ∧ ∀ k, k < 4 → M 38 0 0 k = kyB k
def RAd (a x y : Nat) : Prop := ((a = 1 ∨ a = 5 ∨ a = 6) ∧ x = 0) ∨ ((a = 8 ∨ a = 9) ∧ x < 14) ∨ (a = 31 ∧ x = 0 ∧ y = 0)
def RCd (a x f : Nat) : Prop := (a = 0 ∧ f = 10) ∨ (a = 30 ∧ f = 3) ∨ ((a = 1 ∨ a = 5 ∨ a = 6) ∧ x = 1) ∨ ((a = 8 ∨ a = 9) ∧ x < 14) ∨ a = 32
def RDd (a f : Nat) : Prop := a = 19 ∨ a = 20 ∨ a = 36 ∨ (a = 30 ∧ f = 7)
def REd (a x : Nat) : Prop := ((a = 3 ∨ a = 4) ∧ x < 4) ∨ a = 44 ∨ a = 45 ∨ a = 46
def RFd (a x : Nat) : Prop := (a = 1 ∧ 14 ≤ x) ∨ ((a = 3 ∨ a = 4) ∧ 4 ≤ x) ∨ a = 25 ∨ (47 ≤ a ∧ a ≤ 50)
def RGd (a f : Nat) : Prop := (a = 0 ∧ f = 9) ∨ (a = 30 ∧ f = 33) ∨ a = 24 ∨ a = 52
def RHd (a : Nat) : Prop := a = 37 ∨ a = 38
theorem eRun_c {x y z : Int32} {f g : Nat → Int32} : ∀ (n : Nat), (∀ i, i < n → f i = g i) → eRun x y z f n = eRun x y z g n
  | 0, _ => rfl
  | n + 1, h => by
    unfold eRun
    rw [eRun_c n (fun i hi => h i (by omega)), h n (by omega)]
theorem TX.on {M M' : zM} {T : Nat} {ky ln : Nat → Nat} (h : TX M T ky ln) (h8 : ∀ t f, t < T → M' 8 t 0 f = M 8 t 0 f) (h9 : ∀ t f, t < T → M' 9 t 0 f = M 9 t 0 f) : TX M' T ky ln := by
  refine ⟨h.1, fun t ht => ?_⟩
  obtain ⟨a1, a2, a3, a4, a5, a6⟩ := h.2 t ht
  refine ⟨a1, a2, by rw [h8 t 0 ht]; exact a3, by rw [h8 t 2 ht]; exact a4, fun i hi => by rw [h9 t i ht]; exact a5 i hi, fun x y z => ?_⟩
  rw [show M' 9 t 0 = M 9 t 0 from funext fun i => h9 t i ht]
  exact a6 x y z
theorem mTX.on {M M' : zM} {a a' T : Nat} {ky ln : Nat → Nat} (h : mTX M a T ky ln) (ha : ∀ k, M' a' 0 0 k = M a 0 0 k) (h8 : ∀ t f, t < T → M' 8 t 0 f = M 8 t 0 f) (h9 : ∀ t f, t < T → M' 9 t 0 f = M 9 t 0 f) : mTX M' a' T ky ln := by
  intro t ht
  obtain ⟨a1, a2, a3⟩ := h t ht
  exact ⟨by rw [ha]; exact a1, by rw [ha, h8 t 1 ht]; exact a2, fun i hi => by rw [ha, h9 t i ht]; exact a3 i hi⟩
theorem TX.le {M : zM} {T : Nat} {ky ln : Nat → Nat} (h : TX M T ky ln) {T1 : Nat} (hl : T1 ≤ T) : TX M T1 ky ln := ⟨Nat.le_trans hl h.1, fun t ht => h.2 t (Nat.lt_of_lt_of_le ht hl)⟩
theorem mTX.le {M : zM} {a T : Nat} {ky ln : Nat → Nat} (h : mTX M a T ky ln) {T1 : Nat} (hl : T1 ≤ T) : mTX M a T1 ky ln := fun t ht => h t (Nat.lt_of_lt_of_le ht hl)
theorem cV_on {M M' : zM} {w : Nat} (h1 : ∀ y f, M' 1 w y f = M 1 w y f) (h5 : ∀ f, M' 5 w 0 f = M 5 w 0 f) : cV M' w = cV M w := by
  unfold cV
  rw [show M' 5 w 0 = M 5 w 0 from funext h5, show M' 1 w = M 1 w from funext fun y => funext fun f => h1 y f]
theorem mV_on {M M' : zM} {a a' : Nat} (h : ∀ k, M' a' 0 0 k = M a 0 0 k) : mV M' a' = mV M a := by
  unfold mV
  simp only [h]
theorem RA.on {M M' : zM} {n T : Nat} {ky ln : Nat → Nat} (h : RA M n T ky ln) (hd : ∀ a x y f, RAd a x y → M' a x y f = M a x y f) : RA M' n T ky ln := by
  obtain ⟨a1, a2, a3, a4, a5, a6, a7⟩ := h
  have h5 : ∀ f, M' 5 0 0 f = M 5 0 0 f := fun f => hd 5 0 0 f (Or.inl ⟨Or.inr (Or.inl rfl), rfl⟩)
  have h1 : ∀ y f, M' 1 0 y f = M 1 0 y f := fun y f => hd 1 0 y f (Or.inl ⟨Or.inl rfl, rfl⟩)
  have h31 : ∀ k, M' 31 0 0 k = M 31 0 0 k := fun k => hd 31 0 0 k (Or.inr (Or.inr ⟨rfl, rfl, rfl⟩))
  have hT := a3.1
  have h8 : ∀ t f, t < T → M' 8 t 0 f = M 8 t 0 f := fun t f ht => hd 8 t 0 f (Or.inr (Or.inl ⟨Or.inl rfl, by omega⟩))
  have h9 : ∀ t f, t < T → M' 9 t 0 f = M 9 t 0 f := fun t f ht => hd 9 t 0 f (Or.inr (Or.inl ⟨Or.inr rfl, by omega⟩))
  refine ⟨by rw [cV_on h1 h5]; exact a1, by rw [cV_on h1 h5, mV_on h31]; exact a2, a3.on h8 h9, a4.on h31 h8 h9, by rw [h5]; exact a5, fun k hk => ?_, by rw [h5]; exact a7⟩
  rw [hd 6 0 0 k (Or.inl ⟨Or.inr (Or.inr rfl), rfl⟩)]
  exact a6 k hk
theorem RI.on {M M' : zM} {n1 T1 T : Nat} {ky ln : Nat → Nat} (hT : T ≤ 14) (h : RI M T ky ln n1 T1) (hd : ∀ a x y f, (((a = 1 ∨ a = 5 ∨ a = 6) ∧ x = 1) ∨ ((a = 8 ∨ a = 9) ∧ x < 14) ∨ a = 32) → M' a x y f = M a x y f) : RI M' T ky ln n1 T1 := by
  obtain ⟨a0, a1, a2, a4, a5, a6, a7⟩ := h
  have h5 : ∀ f, M' 5 1 0 f = M 5 1 0 f := fun f => hd 5 1 0 f (Or.inl ⟨Or.inr (Or.inl rfl), rfl⟩)
  have h1 : ∀ y f, M' 1 1 y f = M 1 1 y f := fun y f => hd 1 1 y f (Or.inl ⟨Or.inl rfl, rfl⟩)
  have h31 : ∀ k, M' 32 0 0 k = M 32 0 0 k := fun k => hd 32 0 0 k (Or.inr (Or.inr rfl))
  have h8 : ∀ t f, t < T1 → M' 8 t 0 f = M 8 t 0 f := fun t f ht => hd 8 t 0 f (Or.inr (Or.inl ⟨Or.inl rfl, by omega⟩))
  have h9 : ∀ t f, t < T1 → M' 9 t 0 f = M 9 t 0 f := fun t f ht => hd 9 t 0 f (Or.inr (Or.inl ⟨Or.inr rfl, by omega⟩))
  refine ⟨a0, by rw [cV_on h1 h5]; exact a1, by rw [cV_on h1 h5, mV_on h31]; exact a2, a4.on h31 h8 h9, by rw [h5]; exact a5, fun k hk => ?_, by rw [h5]; exact a7⟩
  rw [hd 6 1 0 k (Or.inl ⟨Or.inr (Or.inr rfl), rfl⟩)]
  exact a6 k hk
theorem RC.on {M M' : zM} {T : Nat} {ky ln : Nat → Nat} (hT : T ≤ 14) (h : RC M T ky ln) (hd : ∀ a x y f, RCd a x f → M' a x y f = M a x y f) : RC M' T ky ln := by
  have e0 : M' 0 0 0 10 = M 0 0 0 10 := hd 0 0 0 10 (Or.inl ⟨rfl, rfl⟩)
  have e3 : M' 30 0 0 3 = M 30 0 0 3 := hd 30 0 0 3 (Or.inr (Or.inl ⟨rfl, rfl⟩))
  rcases h with ⟨a, b⟩ | ⟨a, b, n1, T1, c⟩
  · exact Or.inl ⟨e0.trans a, e3.trans b⟩
  · exact Or.inr ⟨e0.trans a, e3.trans b, n1, T1, c.on hT (fun a x y f z => hd a x y f (Or.inr (Or.inr z)))⟩
theorem RD.on {M M' : zM} (h : RD M) (hd : ∀ a x y f, RDd a f → M' a x y f = M a x y f) : RD M' := by
  obtain ⟨t, a1, a2, a3, a4⟩ := h
  refine ⟨t, a1, by rw [hd 19 0 0 1 (Or.inl rfl)]; exact a2, by rw [hd 30 0 0 7 (Or.inr (Or.inr (Or.inr ⟨rfl, rfl⟩)))]; exact a3, fun k hk => ?_⟩
  rw [hd 20 0 0 k (Or.inr (Or.inl rfl)), hd 36 0 0 k (Or.inr (Or.inr (Or.inl rfl)))]
  exact a4 k hk
theorem RE.on {M M' : zM} (h : RE M) (hd : ∀ a x y f, REd a x → M' a x y f = M a x y f) : RE M' := by
  intro s hs
  have e1 : ∀ f, M' 3 s 0 f = M 3 s 0 f := fun f => hd 3 s 0 f (Or.inl ⟨Or.inl rfl, hs⟩)
  have e2 : ∀ f, M' 4 s 0 f = M 4 s 0 f := fun f => hd 4 s 0 f (Or.inl ⟨Or.inr rfl, hs⟩)
  have e3 : ∀ f, M' 44 0 0 f = M 44 0 0 f := fun f => hd 44 0 0 f (Or.inr (Or.inl rfl))
  have e4 : ∀ f, M' 45 0 0 f = M 45 0 0 f := fun f => hd 45 0 0 f (Or.inr (Or.inr (Or.inl rfl)))
  have e5 : ∀ f, M' 46 0 0 f = M 46 0 0 f := fun f => hd 46 0 0 f (Or.inr (Or.inr (Or.inr rfl)))
  simp only [e1, e2, e3, e4, e5]
  exact h s hs
theorem RF.on {M M' : zM} (h : RF M) (hd : ∀ a x y f, RFd a x → M' a x y f = M a x y f) : RF M' := by
  intro s hs
  have e1 : ∀ f, M' 1 (14 + s) 0 f = M 1 (14 + s) 0 f := fun f => hd _ _ _ _ (Or.inl ⟨rfl, by omega⟩)
  have e2 : ∀ f, M' 3 (4 + s) 0 f = M 3 (4 + s) 0 f := fun f => hd _ _ _ _ (Or.inr (Or.inl ⟨Or.inl rfl, by omega⟩))
  have e3 : ∀ f, M' 4 (4 + s) 0 f = M 4 (4 + s) 0 f := fun f => hd _ _ _ _ (Or.inr (Or.inl ⟨Or.inr rfl, by omega⟩))
  have e4 : ∀ f, M' 25 s 0 f = M 25 s 0 f := fun f => hd _ _ _ _ (Or.inr (Or.inr (Or.inl rfl)))
  have e5 : ∀ a f, 47 ≤ a → a ≤ 50 → M' a 0 0 f = M a 0 0 f := fun a f h1 h2 => hd _ _ _ _ (Or.inr (Or.inr (Or.inr ⟨h1, h2⟩)))
  simp only [e1, e2, e3, e4, e5 47 _ (by decide) (by decide), e5 48 _ (by decide) (by decide), e5 49 _ (by decide) (by decide), e5 50 _ (by decide) (by decide)]
  exact h s hs
theorem RG.on {M M' : zM} (h : RG M) (hd : ∀ a x y f, RGd a f → M' a x y f = M a x y f) : RG M' := by
  obtain ⟨t, a1, a2, a3, a4⟩ := h
  refine ⟨t, a1, by rw [hd 0 0 0 9 (Or.inl ⟨rfl, rfl⟩)]; exact a2, by rw [hd 30 0 0 33 (Or.inr (Or.inl ⟨rfl, rfl⟩))]; exact a3, fun k hk => ?_⟩
  rw [hd 24 0 0 k (Or.inr (Or.inr (Or.inl rfl))), hd 52 0 0 k (Or.inr (Or.inr (Or.inr rfl)))]
  exact a4 k hk
theorem RH.on {M M' : zM} (h : RH M) (hd : ∀ a x y f, RHd a → M' a x y f = M a x y f) : RH M' := by
  refine ⟨fun k hk => ?_, fun k hk => ?_⟩
  · rw [hd 37 0 0 k (Or.inl rfl)]
    exact h.1 k hk
  · rw [hd 38 0 0 k (Or.inr rfl)]
    exact h.2 k hk
/-- the whole relation -/
def RR (M : zM) (n T : Nat) (ky ln : Nat → Nat) : Prop := RA M n T ky ln ∧ RC M T ky ln ∧ RD M ∧ RE M ∧ RF M ∧ RG M ∧ RH M
def Rel (M : zM) : Prop := ∃ n T ky ln, RR M n T ky ln
/-- what is only scratch -/
def scr (a x y f : Nat) : Prop := (a = 31 ∧ ¬ (x = 0 ∧ y = 0)) ∨  ((a = 1 ∨ a = 5 ∨ a = 6) ∧ 2 ≤ x ∧ x < 14) ∨ a = 12 ∨ a = 16 ∨ a = 17 ∨ a = 18 ∨ a = 21 ∨ ((a = 8 ∨ a = 9) ∧ x = 14) ∨ a = 33 ∨ a = 34 ∨ a = 35 ∨ (39 ≤ a ∧ a ≤ 43) ∨ a = 51 ∨ (a = 30 ∧ f ≠ 3 ∧ f ≠ 7 ∧ f ≠ 33)
def zSc (M M' : zM) : Prop := ∀ a x y f, ¬ scr a x y f → M' a x y f = M a x y f
theorem zSc.rfl' {M : zM} : zSc M M := fun _ _ _ _ _ => rfl
theorem zSc.trans {M M' M2 : zM} (h : zSc M M') (h2 : zSc M' M2) : zSc M M2 := fun a x y f z => (h2 a x y f z).trans (h a x y f z)
theorem zSc.symm {M M' : zM} (h : zSc M M') : zSc M' M := fun a x y f z => (h a x y f z).symm
theorem RR.rest {M M' : zM} {n T : Nat} {ky ln : Nat → Nat} (h : RR M n T ky ln) {n' : Nat} (hA : RA M' n' T ky ln) (hd : ∀ a x y f, ¬ (scr a x y f ∨ (a = 1 ∧ x = 0) ∨ (a = 5 ∧ x = 0) ∨ a = 31) → M' a x y f = M a x y f) : RR M' n' T ky ln := by
  obtain ⟨h1, h2, h3, h4, h5, h6, h7⟩ := h
  refine ⟨hA, h2.on h1.2.2.1.1 (fun a x y f z => hd a x y f ?_), h3.on (fun a x y f z => hd a x y f ?_), h4.on (fun a x y f z => hd a x y f ?_), h5.on (fun a x y f z => hd a x y f ?_), h6.on (fun a x y f z => hd a x y f ?_), h7.on (fun a x y f z => hd a x y f ?_)⟩
  · unfold RCd at z
    unfold scr
    omega
  · unfold RDd at z
    unfold scr
    omega
  · unfold REd at z
    unfold scr
    omega
  · unfold RFd at z
    unfold scr
    omega
  · unfold RGd at z
    unfold scr
    omega
  · unfold RHd at z
    unfold scr
    omega
theorem RR.sc {M M' : zM} {n T : Nat} {ky ln : Nat → Nat} (h : RR M n T ky ln) (hd : zSc M M') : RR M' n T ky ln := by
  refine h.rest (h.1.on (fun a x y f z => hd a x y f ?_)) (fun a x y f z => hd a x y f (fun q => z (Or.inl q)))
  unfold RAd at z
  unfold scr
  omega
theorem RR.cI {M : zM} {n T : Nat} {ky ln : Nat → Nat} (h : RR M n T ky ln) : cI M 0 n (hvF M (lastK ky 0 T)) := ⟨h.1.1, by rw [h.1.2.2.2.2.2.1 0 (by decide)]; exact h.1.2.2.1.okS⟩
theorem RR.rI {M : zM} {n T : Nat} {ky ln : Nat → Nat} (h : RR M n T ky ln) : rI M n T ky ln := ⟨vOK_c h.1.2.1 h.1.1, by
  have e := h.1.2.1.1 10 (by decide) (by decide)
  exact e.symm.trans h.1.2.2.2.2.1, h.1.2.2.1, h.1.2.2.2.1⟩
theorem RR.hn {M : zM} {n T : Nat} {ky ln : Nat → Nat} (h : RR M n T ky ln) : M 5 0 0 2 = nI n := h.1.1.1
theorem RR.hm {M : zM} {n T : Nat} {ky ln : Nat → Nat} (h : RR M n T ky ln) : M 31 0 0 1 = nI n := h.rI.1.1
theorem RR.n8 {M : zM} {n T : Nat} {ky ln : Nat → Nat} (h : RR M n T ky ln) : n ≤ 8 := h.1.1.2.1
theorem RR.ok {M : zM} {n T : Nat} {ky ln : Nat → Nat} (h : RR M n T ky ln) {i : Nat} (hi : i < n) : pOK (M 1 0 i) := h.1.1.2.2.1 i hi
theorem RR.mp {M : zM} {n T : Nat} {ky ln : Nat → Nat} (h : RR M n T ky ln) {i f : Nat} (hi : i < n) (hf : f < 7) : mp M i f = M 1 0 i f := (h.1.2.1.2 i f hi hf).symm
theorem RR.f {M : zM} {n T : Nat} {ky ln : Nat → Nat} (h : RR M n T ky ln) {k : Nat} (h1 : 2 ≤ k) (h2 : k ≤ 10) : M 31 0 0 (mm k) = M 5 0 0 k := (h.1.2.1.1 k h1 h2).symm
theorem mSc.z {M M' : zM} (h : mSc M M') : zSc M M' := by
  intro a x y f z
  by_cases e : a = 31
  · subst e
    by_cases q : x = 0 ∧ y = 0
    · rw [q.1, q.2]
      exact h.1 f
    · exact absurd (Or.inl ⟨rfl, q⟩) z
  · rw [h.2 a e (fun q => z (by unfold scr; omega)) (fun q => z (by unfold scr; omega)) (fun q => z (by unfold scr; omega)) (fun q => z (by unfold scr; omega))]
