/-! READING BY LEVELS AND BY A STACK COME TO THE SAME -/
def rk (g : Int32) : Nat := if g = -1 then 1 else if g = -2 then 2 else if -5 ≤ g then 3 else if -7 ≤ g then 4 else if -9 ≤ g then 5 else 6
def stl (r : Nat) : List Int32 → List Int32 → List Int32 × List Int32
  | [], o => ([], o)
  | g :: W, o => if ¬ g = -11 ∧ r ≤ rk g then stl r W (o ++ [g]) else (g :: W, o)
def sg (c : Int32) : Int32 := if c = 20124 then -1 else if c = 20038 then -2 else if c = 20060 then -3 else if c = 20061 then -4 else if c = 20062 then -5 else if c = 20043 then -6 else if c = 20045 then -7 else if c = 20042 then -8 else if c = 20047 then -9 else 0
def cntN : List Int32 → Nat
  | [] => 0
  | g :: W => (if g = -10 then 1 else 0) + cntN W
theorem lvl_cases (c : Int32) : (lvl c = -1 ∧ sg c = 0) ∨ (c = 20124 ∧ lvl c = 0) ∨ (c = 20038 ∧ lvl c = 1) ∨ (c = 20060 ∧ lvl c = 2) ∨ (c = 20061 ∧ lvl c = 2) ∨ (c = 20062 ∧ lvl c = 2) ∨ (c = 20043 ∧ lvl c = 3) ∨ (c = 20045 ∧ lvl c = 3) ∨ (c = 20042 ∧ lvl c = 4) ∨ (c = 20047 ∧ lvl c = 4) := by
  by_cases h1 : c = 20124
  · subst h1; exact Or.inr (Or.inl ⟨rfl, by decide⟩)
  by_cases h2 : c = 20038
  · subst h2; exact Or.inr (Or.inr (Or.inl ⟨rfl, by decide⟩))
  by_cases h3 : c = 20060
  · subst h3; exact Or.inr (Or.inr (Or.inr (Or.inl ⟨rfl, by decide⟩)))
  by_cases h4 : c = 20061
  · subst h4; exact Or.inr (Or.inr (Or.inr (Or.inr (Or.inl ⟨rfl, by decide⟩))))
  by_cases h5 : c = 20062
  · subst h5; exact Or.inr (Or.inr (Or.inr (Or.inr (Or.inr (Or.inl ⟨rfl, by decide⟩)))))
  by_cases h6 : c = 20043
  · subst h6; exact Or.inr (Or.inr (Or.inr (Or.inr (Or.inr (Or.inr (Or.inl ⟨rfl, by decide⟩))))))
  by_cases h7 : c = 20045
  · subst h7; exact Or.inr (Or.inr (Or.inr (Or.inr (Or.inr (Or.inr (Or.inr (Or.inl ⟨rfl, by decide⟩)))))))
  by_cases h8 : c = 20042
  · subst h8; exact Or.inr (Or.inr (Or.inr (Or.inr (Or.inr (Or.inr (Or.inr (Or.inr (Or.inl ⟨rfl, by decide⟩))))))))
  by_cases h9 : c = 20047
  · subst h9; exact Or.inr (Or.inr (Or.inr (Or.inr (Or.inr (Or.inr (Or.inr (Or.inr (Or.inr ⟨rfl, by decide⟩))))))))
  exact Or.inl ⟨by simp [lvl, h1, h2, h3, h4, h5, h6, h7, h8, h9], by simp [sg, h1, h2, h3, h4, h5, h6, h7, h8, h9]⟩
theorem sg_of {c : Int32} {m : Nat} (h : lvl c = (m : Int)) : ¬ sg c = 0 ∧ rk (sg c) = m + 1 ∧ ¬ sg c = -11 ∧ ¬ sg c = -10 ∧ tr c = sg c ∧ cOK c ∧ ¬ c < 20000 ∧ ¬ c = 20033 := by
  rcases lvl_cases c with ⟨e, -⟩ | ⟨rfl, e⟩ | ⟨rfl, e⟩ | ⟨rfl, e⟩ | ⟨rfl, e⟩ | ⟨rfl, e⟩ | ⟨rfl, e⟩ | ⟨rfl, e⟩ | ⟨rfl, e⟩ | ⟨rfl, e⟩
  · omega
  all_goals (
    obtain rfl : m = _ := by
      have := e.symm.trans h
      first | exact (show m = 0 by omega) | exact (show m = 1 by omega) | exact (show m = 2 by omega) | exact (show m = 3 by omega) | exact (show m = 4 by omega)
    refine ⟨by decide, by decide, by decide, by decide, by decide, ?_, by decide, by decide⟩
    unfold cOK
    simp)
theorem lvl_4 (c : Int32) : lvl c ≤ 4 := by
  rcases lvl_cases c with ⟨e, -⟩ | ⟨-, e⟩ | ⟨-, e⟩ | ⟨-, e⟩ | ⟨-, e⟩ | ⟨-, e⟩ | ⟨-, e⟩ | ⟨-, e⟩ | ⟨-, e⟩ | ⟨-, e⟩ <;> omega
theorem sg_0 {c : Int32} (h : lvl c < 0) : sg c = 0 := by
  rcases lvl_cases c with ⟨-, e⟩ | ⟨-, e⟩ | ⟨-, e⟩ | ⟨-, e⟩ | ⟨-, e⟩ | ⟨-, e⟩ | ⟨-, e⟩ | ⟨-, e⟩ | ⟨-, e⟩ | ⟨-, e⟩
  · exact e
  all_goals omega
theorem stl_stl {q r : Nat} (h : q ≤ r) : ∀ (W o : List Int32), stl q (stl r W o).1 (stl r W o).2 = stl q W o
  | [], _ => rfl
  | g :: W, o => by
    by_cases c : ¬ g = -11 ∧ r ≤ rk g
    · rw [stl, if_pos c, stl_stl h W (o ++ [g]), stl, if_pos ⟨c.1, by omega⟩]
    · rw [stl, if_neg c]
/-- nothing at the top that waits for rank above m -/
def tp (m : Nat) (W : List Int32) : Prop := W = [] ∨ ∃ g V, W = g :: V ∧ (g = -11 ∨ rk g ≤ m)
theorem tp.mono {m : Nat} {W : List Int32} (h : tp m W) : tp (m + 1) W := by
  rcases h with h | ⟨g, V, h1, h2⟩
  · exact Or.inl h
  · exact Or.inr ⟨g, V, h1, h2.imp id (fun z => Nat.le_succ_of_le z)⟩
theorem stl_tp {m r : Nat} {W : List Int32} (h : tp m W) (hr : m < r) (o : List Int32) : stl r W o = (W, o) := by
  rcases h with rfl | ⟨g, V, rfl, h2⟩
  · rfl
  · rw [stl, if_neg (fun z => by
      rcases h2 with h2 | h2
      · exact z.1 h2
      · omega)]
def tup (te : Nat → Int32) (p : Nat) (v : Int32) : Nat → Int32 := fun q => if q = p then v else te q
theorem tup_s (te : Nat → Int32) (p : Nat) (v : Int32) : tup te p v p = v := if_pos rfl
theorem tup_n {te : Nat → Int32} {p q : Nat} {v : Int32} (h : q ≠ p) : tup te p v q = te q := if_neg h
def simH (tc : Lx → Int32) (nx : Lx → Lx) (F : Lx → Prop) (H : Lx → Nat → List Int32 → List Int32 → Nat → (Nat → Int32) → Prop) : Prop :=
  (∀ x W o p te, (0 ≤ tc x ∧ tc x < 20000) → H (nx x) 0 (stl 6 W (o ++ [tc x])).1 (stl 6 W (o ++ [tc x])).2 p te → H x 1 W o p te) ∧
  (∀ x W o p te, tc x = 20033 → cntN W < 8 → H (nx x) 1 (-10 :: W) o p te → H x 1 W o p te) ∧
  (∀ x W o p te, tc x = 20040 → p < 8 → H (nx x) 1 (-11 :: W) o (p + 1) (tup te (p + 1) 0) → H x 1 W o p te) ∧
  (∀ x W o p te, ¬ (0 ≤ tc x ∧ tc x < 20000) → ¬ (tc x = 20033 ∧ cntN W < 8) → ¬ (tc x = 20040 ∧ p < 8) → F x → H x 1 W o p te) ∧
  (∀ x W o p te W' o', tc x = 20041 → stl 0 W o = (-11 :: W', o') → H (nx x) 0 (stl 6 W' o').1 (stl 6 W' o').2 p te → H x 0 W o (p + 1) te) ∧
  (∀ x W o p te, ¬ sg (tc x) = 0 → ¬ (rk (sg (tc x)) = 3 ∧ ¬ te p = 0) → H (nx x) 1 (sg (tc x) :: (stl (rk (sg (tc x))) W o).1) (stl (rk (sg (tc x))) W o).2 p (tup te p (if rk (sg (tc x)) = 3 then 1 else if 3 < rk (sg (tc x)) then te p else 0)) → H x 0 W o p te) ∧
  (∀ x W o p te, ¬ tc x = -1 → ¬ (tc x = 20041 ∧ 0 < p) → (sg (tc x) = 0 ∨ (rk (sg (tc x)) = 3 ∧ ¬ te p = 0)) → F x → H x 0 W o p te) ∧
  (∀ x W o p te, tc x = -1 → 0 < p → F x → H x 0 W o p te)
def simL (tc : Lx → Int32) (nx : Lx → Lx) (F : Lx → Prop) (H : Lx → Nat → List Int32 → List Int32 → Nat → (Nat → Int32) → Prop) (f : Nat) : Prop :=
  ∀ m b k x r, m ≤ 5 → pP tc nx f m b k x = some r → ∀ W o te, (m < 5 → tp m W) → k = cntN W → (m ≤ 2 → te b = 0) →
    (∀ y, r = .inl y → F y → H x 1 W o b te) ∧
    (∀ y l, r = .inr (y, l) → (∀ W1 o1 te1, (∀ q, q ≤ m + 1 → stl q W1 o1 = stl q W (o ++ l.map tr)) → (∀ q, q < b → te1 q = te q) → (3 ≤ m → te1 b = te b) → (lvl (tc y) < (m : Int) ∨ (m ≤ 2 ∧ lvl (tc y) = 2 ∧ ¬ te1 b = 0)) → H y 0 W1 o1 b te1) → H x 1 W o b te)
def simT (tc : Lx → Int32) (nx : Lx → Lx) (F : Lx → Prop) (H : Lx → Nat → List Int32 → List Int32 → Nat → (Nat → Int32) → Prop) (f : Nat) : Prop :=
  ∀ m b k x r, m < 5 → pP tc nx f (10 + m) b k x = some r → ∀ W o W1 o1 te1, tp m W → k = cntN W → (∀ q, q ≤ m + 1 → stl q W1 o1 = stl q W o) → (lvl (tc x) < (m : Int) + 1 ∨ (m + 1 ≤ 2 ∧ lvl (tc x) = 2 ∧ ¬ te1 b = 0)) → (m = 2 → te1 b = 0) →
    (∀ y, r = .inl y → F y → H x 0 W1 o1 b te1) ∧
    (∀ y l, r = .inr (y, l) → (∀ W2 o2 te2, (∀ q, q ≤ m + 1 → stl q W2 o2 = stl q W (o ++ l.map tr)) → (∀ q, q < b → te2 q = te1 q) → (3 ≤ m → te2 b = te1 b) → (lvl (tc y) < (m : Int) ∨ (m ≤ 2 ∧ lvl (tc y) = 2 ∧ ¬ te2 b = 0)) → H y 0 W2 o2 b te2) → H x 0 W1 o1 b te1)
theorem stl_c {q : Nat} {g : Int32} {W o : List Int32} (h1 : ¬ g = -11) (h2 : q ≤ rk g) : stl q (g :: W) o = stl q W (o ++ [g]) := by rw [stl, if_pos ⟨h1, h2⟩]
theorem sim_l {tc : Lx → Int32} {nx : Lx → Lx} {F : Lx → Prop} {H : Lx → Nat → List Int32 → List Int32 → Nat → (Nat → Int32) → Prop} {f : Nat} (IL : simL tc nx F H f) (IT : simT tc nx F H f) {m b k : Nat} {x : Lx} {r : Lx ⊕ (Lx × List Int32)} (hm : m < 5) (hp : pP tc nx (f + 1) m b k x = some r) (W o : List Int32) (te : Nat → Int32) (ht : tp m W) (hk : k = cntN W) (hte : m ≤ 2 → te b = 0) :
    (∀ y, r = .inl y → F y → H x 1 W o b te) ∧
    (∀ y l, r = .inr (y, l) → (∀ W1 o1 te1, (∀ q, q ≤ m + 1 → stl q W1 o1 = stl q W (o ++ l.map tr)) → (∀ q, q < b → te1 q = te q) → (3 ≤ m → te1 b = te b) → (lvl (tc y) < (m : Int) ∨ (m ≤ 2 ∧ lvl (tc y) = 2 ∧ ¬ te1 b = 0)) → H y 0 W1 o1 b te1) → H x 1 W o b te) := by
  rcases pP_l hm hp with ⟨y, h1, rfl⟩ | ⟨y, l, h1, ⟨z, h2, rfl⟩ | ⟨z, l2, h2, rfl⟩⟩
  · have e := IL (m + 1) b k x _ (by omega) h1 W o te (fun _ => ht.mono) hk (fun z => hte (by omega))
    refine ⟨fun w hw => ?_, fun w l hw => by cases hw⟩
    cases hw
    exact e.1 y rfl
  · have e := IL (m + 1) b k x _ (by omega) h1 W o te (fun _ => ht.mono) hk (fun z => hte (by omega))
    refine ⟨fun w hw hF => ?_, fun w l hw => by cases hw⟩
    cases hw
    refine e.2 y l rfl (fun W1 o1 te1 g1 g2 g3 g4 => ?_)
    exact (IT m b k y _ hm h2 W (o ++ l.map tr) W1 o1 te1 ht hk (fun q hq => g1 q (by omega)) (by rcases g4 with g | g; exact Or.inl (by omega); exact Or.inr ⟨g.1, g.2⟩) (fun z => by rw [g3 (by omega)]; exact hte (by omega))).1 z rfl hF
  · have e := IL (m + 1) b k x _ (by omega) h1 W o te (fun _ => ht.mono) hk (fun z => hte (by omega))
    refine ⟨fun w hw => (by cases hw), fun w l' hw hC => ?_⟩
    cases hw
    refine e.2 y l rfl (fun W1 o1 te1 g1 g2 g3 g4 => ?_)
    refine (IT m b k y _ hm h2 W (o ++ l.map tr) W1 o1 te1 ht hk (fun q hq => g1 q (by omega)) (by rcases g4 with g | g; exact Or.inl (by omega); exact Or.inr ⟨g.1, g.2⟩) (fun z => by rw [g3 (by omega)]; exact hte (by omega))).2 z l2 rfl (fun W2 o2 te2 k1 k2 k3 k4 => ?_)
    exact hC W2 o2 te2 (fun q hq => by rw [k1 q hq, List.map_append, List.append_assoc]) (fun q hq => (k2 q hq).trans (g2 q hq)) (fun z => (k3 z).trans (g3 (by omega))) k4
theorem sim_t {tc : Lx → Int32} {nx : Lx → Lx} {F : Lx → Prop} {H : Lx → Nat → List Int32 → List Int32 → Nat → (Nat → Int32) → Prop} (S : simH tc nx F H) {f : Nat} (IL : simL tc nx F H f) (IT : simT tc nx F H f) : simT tc nx F H (f + 1) := by
  intro m b k x r hm hp W o W1 o1 te1 ht hk hF1 hlv ht2
  rcases pP_t hm hp with ⟨h1, rfl⟩ | ⟨h1, h2⟩
  · refine ⟨fun w hw => (by cases hw), fun w l hw hC => ?_⟩
    cases hw
    refine hC W1 o1 te1 (fun q hq => by rw [hF1 q hq, List.map_nil, List.append_nil]) (fun _ _ => rfl) (fun _ => rfl) ?_
    rcases hlv with g | g
    · exact Or.inl (by omega)
    · exact Or.inr ⟨by omega, g.2⟩
  · obtain ⟨s1, s2, s3, s4, s5, -⟩ := sg_of h1
    have eW : stl (m + 1) W1 o1 = (W, o) := by rw [hF1 (m + 1) (Nat.le_refl _), stl_tp ht (by omega)]
    have go := S.2.2.2.2.2.1 x W1 o1 b te1 s1 (fun z => z.2 (ht2 (by omega)))
    rw [s2, eW] at go
    generalize hv : (if m + 1 = 3 then (1 : Int32) else if 3 < m + 1 then te1 b else 0) = v at go
    have IH := fun r' (h : pP tc nx f (m + 1) b k (nx x) = some r') => IL (m + 1) b k (nx x) r' (by omega) h (sg (tc x) :: W) o (tup te1 b v) (fun _ => Or.inr ⟨_, _, rfl, Or.inr (by omega)⟩) (by rw [cntN, if_neg s4, Nat.zero_add]; exact hk) (fun z => by
      rw [tup_s, ← hv, if_neg (by omega), if_neg (by omega)])
    have fl : ∀ (W2 o2 l : List Int32), (∀ q, q ≤ m + 1 + 1 → stl q W2 o2 = stl q (sg (tc x) :: W) (o ++ l.map tr)) → ∀ q, q ≤ m + 1 → stl q W2 o2 = stl q W (o ++ (l ++ [tc x]).map tr) := by
      intro W2 o2 l g q hq
      rw [g q (by omega), stl_c s3 (by omega), List.map_append, List.map_cons, List.map_nil, s5, List.append_assoc]
    rcases h2 with ⟨y, e1, rfl⟩ | ⟨y, l, e1, ⟨e2, rfl⟩ | ⟨e2, ⟨z, e3, rfl⟩ | ⟨z, l2, e3, rfl⟩⟩⟩
    · refine ⟨fun w hw hF => ?_, fun w l hw => by cases hw⟩
      cases hw
      exact go ((IH _ e1).1 y rfl hF)
    · refine ⟨fun w hw => (by cases hw), fun w l' hw hC => ?_⟩
      cases hw
      refine go ((IH _ e1).2 y l rfl (fun W2 o2 te2 g1 g2 g3 g4 => ?_))
      refine hC W2 o2 te2 (fl W2 o2 l g1) (fun q hq => by rw [g2 q hq, tup_n (by omega)]) (fun z => by omega) ?_
      rcases g4 with g | g
      · by_cases c : lvl (tc y) = 2
        · refine Or.inr ⟨by omega, c, ?_⟩
          rw [g3 (by omega), tup_s, ← hv, if_pos (by omega)]
          decide
        · exact Or.inl (by omega)
      · omega
    · refine ⟨fun w hw hF => ?_, fun w l hw => by cases hw⟩
      cases hw
      refine go ((IH _ e1).2 y l rfl (fun W2 o2 te2 g1 g2 g3 g4 => ?_))
      exact (IT m b k y _ hm e3 W (o ++ (l ++ [tc x]).map tr) W2 o2 te2 ht hk (fl W2 o2 l g1) (by rcases g4 with g | g; exact Or.inl (by omega); exact Or.inr ⟨g.1, g.2⟩) (fun z => absurd z e2)).1 z rfl hF
    · refine ⟨fun w hw => (by cases hw), fun w l' hw hC => ?_⟩
      cases hw
      refine go ((IH _ e1).2 y l rfl (fun W2 o2 te2 g1 g2 g3 g4 => ?_))
      refine (IT m b k y _ hm e3 W (o ++ (l ++ [tc x]).map tr) W2 o2 te2 ht hk (fl W2 o2 l g1) (by rcases g4 with g | g; exact Or.inl (by omega); exact Or.inr ⟨g.1, g.2⟩) (fun z => absurd z e2)).2 z l2 rfl (fun W3 o3 te3 k1 k2 k3 k4 => ?_)
      refine hC W3 o3 te3 (fun q hq => by rw [k1 q hq, List.append_assoc, ← List.map_append, List.append_assoc]; rfl) (fun q hq => by rw [k2 q hq, g2 q hq, tup_n (by omega)]) (fun z => ?_) k4
      rw [k3 z, g3 (by omega), tup_s, ← hv, if_neg (by omega), if_pos (by omega)]
theorem sim_5 {tc : Lx → Int32} {nx : Lx → Lx} {F : Lx → Prop} {H : Lx → Nat → List Int32 → List Int32 → Nat → (Nat → Int32) → Prop} (S : simH tc nx F H) {f : Nat} (IL : simL tc nx F H f) {b k : Nat} {x : Lx} {r : Lx ⊕ (Lx × List Int32)} (hp : pP tc nx (f + 1) 5 b k x = some r) (W o : List Int32) (te : Nat → Int32) (hk : k = cntN W) :
    (∀ y, r = .inl y → F y → H x 1 W o b te) ∧
    (∀ y l, r = .inr (y, l) → (∀ W1 o1 te1, (∀ q, q ≤ 5 + 1 → stl q W1 o1 = stl q W (o ++ l.map tr)) → (∀ q, q < b → te1 q = te q) → (3 ≤ 5 → te1 b = te b) → (lvl (tc y) < (5 : Nat) ∨ (5 ≤ 2 ∧ lvl (tc y) = 2 ∧ ¬ te1 b = 0)) → H y 0 W1 o1 b te1) → H x 1 W o b te) := by
  have l4 : ∀ c, lvl c < ((5 : Nat) : Int) := fun c => by
    have := lvl_4 c
    omega
  rcases pP_5 hp with ⟨h1, rfl⟩ | ⟨h1, ⟨h2, rfl⟩ | ⟨h2, ⟨y, h3, rfl⟩ | ⟨y, l, h3, rfl⟩⟩⟩ | ⟨h1, ⟨h2, rfl⟩ | ⟨h2, ⟨y, h3, rfl⟩ | ⟨y, l, h3, ⟨h4, rfl⟩ | ⟨h4, rfl⟩⟩⟩⟩ | ⟨h1, h2, h3, rfl⟩
  · refine ⟨fun w hw => (by cases hw), fun w l hw hC => ?_⟩
    cases hw
    refine S.1 x W o b te h1 (hC _ _ te (fun q hq => ?_) (fun _ _ => rfl) (fun _ => rfl) (Or.inl (l4 _)))
    rw [stl_stl hq, List.map_cons, List.map_nil, show tr (tc x) = tc x from if_pos h1.2]
  · refine ⟨fun w hw hF => ?_, fun w l hw => by cases hw⟩
    cases hw
    exact S.2.2.2.1 x W o b te (by rw [h1]; decide) (fun z => by omega) (fun z => by rw [h1] at z; exact absurd z.1 (by decide)) hF
  · refine ⟨fun w hw hF => ?_, fun w l hw => by cases hw⟩
    cases hw
    exact S.2.1 x W o b te h1 (by omega) ((IL 5 b (k + 1) (nx x) _ (by omega) h3 (-10 :: W) o te (fun z => absurd z (by omega)) (by rw [cntN, if_pos rfl, ← hk, Nat.add_comm]) (fun z => by omega)).1 y rfl hF)
  · refine ⟨fun w hw => (by cases hw), fun w l' hw hC => ?_⟩
    cases hw
    refine S.2.1 x W o b te h1 (by omega) ((IL 5 b (k + 1) (nx x) _ (by omega) h3 (-10 :: W) o te (fun z => absurd z (by omega)) (by rw [cntN, if_pos rfl, ← hk, Nat.add_comm]) (fun z => by omega)).2 y l rfl (fun W1 o1 te1 g1 g2 g3 g4 => ?_))
    refine hC W1 o1 te1 (fun q hq => ?_) g2 g3 (Or.inl (l4 _))
    rw [g1 q hq, stl_c (by decide) (by rw [show rk (-10) = 6 by decide]; omega), List.map_append, List.map_cons, List.map_nil, show tr 20033 = -10 by decide, List.append_assoc]
  · refine ⟨fun w hw hF => ?_, fun w l hw => by cases hw⟩
    cases hw
    exact S.2.2.2.1 x W o b te (by rw [h1]; decide) (fun z => by rw [h1] at z; exact absurd z.1 (by decide)) (fun z => by omega) hF
  · refine ⟨fun w hw hF => ?_, fun w l hw => by cases hw⟩
    cases hw
    exact S.2.2.1 x W o b te h1 h2 ((IL 0 (b + 1) k (nx x) _ (by omega) h3 (-11 :: W) o (tup te (b + 1) 0) (fun _ => Or.inr ⟨_, _, rfl, Or.inl rfl⟩) (by rw [cntN, if_neg (by decide), Nat.zero_add]; exact hk) (fun _ => tup_s _ _ _)).1 y rfl hF)
  · refine ⟨fun w hw => (by cases hw), fun w l' hw hC => ?_⟩
    cases hw
    refine S.2.2.1 x W o b te h1 h2 ((IL 0 (b + 1) k (nx x) _ (by omega) h3 (-11 :: W) o (tup te (b + 1) 0) (fun _ => Or.inr ⟨_, _, rfl, Or.inl rfl⟩) (by rw [cntN, if_neg (by decide), Nat.zero_add]; exact hk) (fun _ => tup_s _ _ _)).2 y l rfl (fun W1 o1 te1 g1 g2 g3 g4 => ?_))
    refine S.2.2.2.2.1 y W1 o1 b te1 W (o ++ l.map tr) h4 (by rw [g1 0 (by omega), stl, if_neg (fun z => z.1 rfl)]) (hC _ _ te1 (fun q hq => stl_stl hq _ _) (fun q hq => by rw [g2 q (by omega), tup_n (by omega)]) (fun _ => by rw [g2 b (by omega), tup_n (by omega)]) (Or.inl (l4 _)))
  · refine ⟨fun w hw hF => ?_, fun w l hw => by cases hw⟩
    cases hw
    refine S.2.2.1 x W o b te h1 h2 ((IL 0 (b + 1) k (nx x) _ (by omega) h3 (-11 :: W) o (tup te (b + 1) 0) (fun _ => Or.inr ⟨_, _, rfl, Or.inl rfl⟩) (by rw [cntN, if_neg (by decide), Nat.zero_add]; exact hk) (fun _ => tup_s _ _ _)).2 y l rfl (fun W1 o1 te1 g1 g2 g3 g4 => ?_))
    by_cases c : tc y = -1
    · exact S.2.2.2.2.2.2.2 y W1 o1 (b + 1) te1 c (by omega) hF
    · refine S.2.2.2.2.2.2.1 y W1 o1 (b + 1) te1 c (fun z => h4 z.1) ?_ hF
      rcases g4 with g | g
      · exact Or.inl (sg_0 (by omega))
      · exact Or.inr ⟨(sg_of (m := 2) g.2.1).2.1, g.2.2⟩
  · refine ⟨fun w hw hF => ?_, fun w l hw => by cases hw⟩
    cases hw
    exact S.2.2.2.1 x W o b te h1 (fun z => h2 z.1) (fun z => h3 z.1) hF
theorem sim {tc : Lx → Int32} {nx : Lx → Lx} {F : Lx → Prop} {H : Lx → Nat → List Int32 → List Int32 → Nat → (Nat → Int32) → Prop} (S : simH tc nx F H) : ∀ f, simL tc nx F H f ∧ simT tc nx F H f
  | 0 => ⟨fun m b k x r _ hp => (by cases hp), fun m b k x r _ hp => by cases hp⟩
  | f + 1 => by
    have IH := sim S f
    refine ⟨fun m b k x r hm hp W o te ht hk hte => ?_, sim_t S IH.1 IH.2⟩
    by_cases h5 : m = 5
    · subst h5
      exact sim_5 S IH.1 hp W o te hk
    · exact sim_l IH.1 IH.2 (by omega) hp W o te (ht (by omega)) hk hte
/-! what is read: places, codes, what they give, that it ends -/
def eL (a b c : Int32) : List Int32 → List Int32 → Option (List Int32)
  | [], s => some s
  | k :: l, s => (eStep a b c k s).bind (eL a b c l)
theorem eL_app {a b c : Int32} : ∀ (l l2 s : List Int32), eL a b c (l ++ l2) s = (eL a b c l s).bind (eL a b c l2)
  | [], _, _ => rfl
  | k :: l, l2, s => by
    rw [List.cons_append, eL, eL]
    cases eStep a b c k s with
    | none => rfl
    | some u => exact eL_app l l2 u
theorem eL_run {a b c : Int32} (g : Nat → Int32) : ∀ (n : Nat) (l : List Int32), l.length = n → (∀ i, i < n → l[i]? = some (g i)) → eRun a b c g n = eL a b c l []
  | 0, l, h, _ => by
    rw [List.length_eq_zero_iff.mp h]
    rfl
  | n + 1, l, h, hg => by
    have hl : l = l.take n ++ [g n] := by
      have e := List.take_append_drop n l
      have d : l.drop n = [g n] := by
        rw [List.drop_eq_getElem_cons (by omega), List.drop_eq_nil_of_le (by omega)]
        have := hg n (by omega)
        rw [List.getElem?_eq_getElem (by omega)] at this
        rw [Option.some.inj this]
      rw [← d, e]
    rw [eRun, hl, eL_app, eL_run g n (l.take n) (by rw [List.length_take]; omega) (fun i hi => by rw [List.getElem?_take_of_lt hi]; exact hg i (by omega))]
    cases eL a b c (l.take n) [] with
    | none => rfl
    | some u =>
      show eStep a b c (g n) u = (eStep a b c (g n) u).bind (eL a b c [])
      cases eStep a b c (g n) u <;> rfl
/-- what is asked of words and of going on -/
def tcOK (ok : Lx → Prop) (ky : Nat) (tc : Lx → Int32) (nx : Lx → Lx) : Prop := (∀ x, ok x → ok (nx x)) ∧ (∀ x, ok x → ¬ tc x = -1 → x.1 < (nx x).1) ∧ (∀ x, ok x → x.1 ≤ 96) ∧ ∀ x, ok x → (0 ≤ tc x ∧ tc x < 20000) → (tc x).toInt ≤ 10002 ∧ (ky ≠ 0 → ¬ tc x = 10002)
def gd (ky : Nat) (c : Int32) : Prop := cOK c ∧ (ky ≠ 0 → ¬ c = 10002)
theorem eStep_j {a b c k : Int32} (h1 : ¬ k < 20000) (h2 : ¬ k = 20033) (x y : Int32) (s : List Int32) : eStep a b c k (y :: x :: s) = some (eJoin (k - 20000) x y :: s) := by
  unfold eStep
  rw [if_neg h1, if_neg h2]
theorem pP_props {ok : Lx → Prop} {ky : Nat} {tc : Lx → Int32} {nx : Lx → Lx} (T : tcOK ok ky tc nx) : ∀ f,
    (∀ m b k x y l, m ≤ 5 → pP tc nx f m b k x = some (.inr (y, l)) → ok x → ok y ∧ l.length + x.1 ≤ y.1 ∧ x.1 < y.1 ∧ (∀ c ∈ l, gd ky c) ∧ ∀ a1 a2 a3 s, ∃ v, eL a1 a2 a3 l s = some (v :: s)) ∧
    (∀ m b k x y l, m < 5 → pP tc nx f (10 + m) b k x = some (.inr (y, l)) → ok x → ok y ∧ l.length + x.1 ≤ y.1 ∧ (∀ c ∈ l, gd ky c) ∧ ∀ a1 a2 a3 v s, ∃ v', eL a1 a2 a3 l (v :: s) = some (v' :: s))
  | 0 => ⟨fun m b k x y l _ hp => (by cases hp), fun m b k x y l _ hp => by cases hp⟩
  | f + 1 => by
    obtain ⟨IL, IT⟩ := pP_props T f
    constructor
    · intro m b k x y l hm hp hx
      by_cases h5 : m = 5
      · subst h5
        rcases pP_5 hp with ⟨h1, e⟩ | ⟨h1, ⟨h2, e⟩ | ⟨h2, ⟨z, h3, e⟩ | ⟨z, l2, h3, e⟩⟩⟩ | ⟨h1, ⟨h2, e⟩ | ⟨h2, ⟨z, h3, e⟩ | ⟨z, l2, h3, ⟨h4, e⟩ | ⟨h4, e⟩⟩⟩⟩ | ⟨h1, h2, h3, e⟩
        · cases e
          have hn := T.2.1 x hx (fun q => by rw [q] at h1; exact absurd h1.1 (by decide))
          have ht := T.2.2.2 x hx h1
          refine ⟨T.1 x hx, by simp; omega, hn, fun c hc => ?_, fun a1 a2 a3 s => ⟨eLeaf (tc x) a1 a2 a3, ?_⟩⟩
          · rw [List.mem_singleton.mp hc]
            exact ⟨Or.inl ⟨by have := h1.1; rw [zi_le, i0] at this; exact this, ht.1⟩, ht.2⟩
          · show (eStep a1 a2 a3 (tc x) s).bind (eL a1 a2 a3 []) = _
            unfold eStep
            rw [if_pos h1.2]
            rfl
        · cases e
        · cases e
        · cases e
          have hn := T.2.1 x hx (by rw [h1]; decide)
          obtain ⟨k1, k2, k3, k4, k5⟩ := IL 5 b (k + 1) (nx x) y l2 (by omega) h3 (T.1 x hx)
          refine ⟨k1, by rw [List.length_append, List.length_singleton]; omega, by omega, fun c hc => ?_, fun a1 a2 a3 s => ?_⟩
          · rcases List.mem_append.mp hc with h | h
            · exact k4 c h
            · rw [List.mem_singleton.mp h]
              exact ⟨Or.inr (Or.inl rfl), fun _ => by decide⟩
          · obtain ⟨v, hv⟩ := k5 a1 a2 a3 s
            rw [eL_app, hv]
            exact ⟨if v = 0 then 1 else 0, rfl⟩
        · cases e
        · cases e
        · cases e
          have hn := T.2.1 x hx (by rw [h1]; decide)
          obtain ⟨k1, k2, k3, k4, k5⟩ := IL 0 (b + 1) k (nx x) z l (by omega) h3 (T.1 x hx)
          have hn2 := T.2.1 z k1 (by rw [h4]; decide)
          exact ⟨T.1 z k1, by omega, by omega, k4, k5⟩
        · cases e
        · cases e
      · rcases pP_l (by omega) hp with ⟨z, h1, e⟩ | ⟨z, l1, h1, ⟨w, h2, e⟩ | ⟨w, l2, h2, e⟩⟩
        · cases e
        · cases e
        · cases e
          obtain ⟨k1, k2, k3, k4, k5⟩ := IL (m + 1) b k x z l1 (by omega) h1 hx
          obtain ⟨j1, j2, j4, j5⟩ := IT m b k z y l2 (by omega) h2 k1
          refine ⟨j1, by rw [List.length_append]; omega, by omega, fun c hc => ?_, fun a1 a2 a3 s => ?_⟩
          · rcases List.mem_append.mp hc with h | h
            · exact k4 c h
            · exact j4 c h
          · obtain ⟨v, hv⟩ := k5 a1 a2 a3 s
            obtain ⟨v', hv'⟩ := j5 a1 a2 a3 v s
            exact ⟨v', by rw [eL_app, hv]; exact hv'⟩
    · intro m b k x y l hm hp hx
      rcases pP_t hm hp with ⟨h1, e⟩ | ⟨h1, ⟨z, e1, e⟩ | ⟨z, l1, e1, ⟨e2, e⟩ | ⟨e2, ⟨w, e3, e⟩ | ⟨w, l2, e3, e⟩⟩⟩⟩
      · cases e
        exact ⟨hx, by simp, fun c hc => absurd hc List.not_mem_nil, fun a1 a2 a3 v s => ⟨v, rfl⟩⟩
      · cases e
      · cases e
        obtain ⟨-, -, -, -, -, s6, s7, s8⟩ := sg_of h1
        have hn := T.2.1 x hx (fun q => by rw [q] at s7; exact absurd (by decide) s7)
        obtain ⟨k1, k2, k3, k4, k5⟩ := IL (m + 1) b k (nx x) y l1 (by omega) e1 (T.1 x hx)
        refine ⟨k1, by rw [List.length_append, List.length_singleton]; omega, fun c hc => ?_, fun a1 a2 a3 v s => ?_⟩
        · rcases List.mem_append.mp hc with h | h
          · exact k4 c h
          · rw [List.mem_singleton.mp h]
            exact ⟨s6, fun _ q => by rw [q] at s7; exact absurd (by decide) s7⟩
        · obtain ⟨v2, hv⟩ := k5 a1 a2 a3 (v :: s)
          refine ⟨eJoin (tc x - 20000) v v2, ?_⟩
          rw [eL_app, hv]
          show (eStep a1 a2 a3 (tc x) (v2 :: v :: s)).bind (eL a1 a2 a3 []) = _
          rw [eStep_j s7 s8]
          rfl
      · cases e
      · cases e
        obtain ⟨-, -, -, -, -, s6, s7, s8⟩ := sg_of h1
        have hn := T.2.1 x hx (fun q => by rw [q] at s7; exact absurd (by decide) s7)
        obtain ⟨k1, k2, k3, k4, k5⟩ := IL (m + 1) b k (nx x) z l1 (by omega) e1 (T.1 x hx)
        obtain ⟨j1, j2, j4, j5⟩ := IT m b k z y l2 hm e3 k1
        refine ⟨j1, by rw [List.length_append, List.length_cons]; omega, fun c hc => ?_, fun a1 a2 a3 v s => ?_⟩
        · rcases List.mem_append.mp hc with h | h
          · exact k4 c h
          · rcases List.mem_cons.mp h with h | h
            · rw [h]
              exact ⟨s6, fun _ q => by rw [q] at s7; exact absurd (by decide) s7⟩
            · exact j4 c h
        · obtain ⟨v2, hv⟩ := k5 a1 a2 a3 (v :: s)
          obtain ⟨v3, hv3⟩ := j5 a1 a2 a3 (eJoin (tc x - 20000) v v2) s
          refine ⟨v3, ?_⟩
          rw [eL_app, hv]
          show (eStep a1 a2 a3 (tc x) (v2 :: v :: s)).bind (eL a1 a2 a3 l2) = _
          rw [eStep_j s7 s8]
          exact hv3
theorem pP_ends {ok : Lx → Prop} {ky : Nat} {tc : Lx → Int32} {nx : Lx → Lx} (T : tcOK ok ky tc nx) : ∀ (f m b k : Nat) (x : Lx), (m ≤ 5 ∨ (10 ≤ m ∧ m < 15)) → ok x → 12 * (97 - x.1) + (if m ≤ 5 then 7 - m else 9) ≤ f → ∃ r, pP tc nx f m b k x = some r
  | 0, m, b, k, x, hm, _, hf => by
    exfalso
    split at hf <;> omega
  | f + 1, m, b, k, x, hm, hx, hf => by
    have h96 := T.2.2.1 x hx
    have IH := pP_ends T f
    have stp : ∀ m', m' ≤ 5 → ∀ b' k', ¬ tc x = -1 → ∃ r, pP tc nx f m' b' k' (nx x) = some r := fun m' hm' b' k' hne => by
      have hn := T.2.1 x hx hne
      refine IH m' b' k' (nx x) (Or.inl hm') (T.1 x hx) ?_
      rw [if_pos hm']
      split at hf <;> omega
    unfold pP
    by_cases h5 : m = 5
    · rw [if_pos h5]
      by_cases c1 : 0 ≤ tc x ∧ tc x < 20000
      · rw [if_pos c1]
        exact ⟨_, rfl⟩
      · rw [if_neg c1]
        by_cases c2 : tc x = 20033
        · rw [if_pos c2]
          by_cases c3 : 8 ≤ k
          · rw [if_pos c3]
            exact ⟨_, rfl⟩
          · rw [if_neg c3]
            obtain ⟨r, hr⟩ := stp 5 (by omega) b (k + 1) (by rw [c2]; decide)
            rw [hr]
            cases r with
            | inl y => exact ⟨_, rfl⟩
            | inr q => exact ⟨_, rfl⟩
        · rw [if_neg c2]
          by_cases c3 : tc x = 20040
          · rw [if_pos c3]
            by_cases c4 : 8 ≤ b
            · rw [if_pos c4]
              exact ⟨_, rfl⟩
            · rw [if_neg c4]
              obtain ⟨r, hr⟩ := stp 0 (by omega) (b + 1) k (by rw [c3]; decide)
              rw [hr]
              cases r with
              | inl y => exact ⟨_, rfl⟩
              | inr q =>
                obtain ⟨y, l⟩ := q
                simp only
                split
                · exact ⟨_, rfl⟩
                · exact ⟨_, rfl⟩
          · rw [if_neg c3]
            exact ⟨_, rfl⟩
    · rw [if_neg h5]
      by_cases h4 : m < 5
      · rw [if_pos h4]
        rw [if_pos (by omega)] at hf
        obtain ⟨r, hr⟩ := IH (m + 1) b k x (Or.inl (by omega)) hx (by rw [if_pos (by omega)]; omega)
        rw [hr]
        cases r with
        | inl y => exact ⟨_, rfl⟩
        | inr q =>
          obtain ⟨y, l⟩ := q
          simp only
          obtain ⟨k1, k2, k3, -⟩ := (pP_props T f).1 (m + 1) b k x y l (by omega) hr hx
          obtain ⟨r2, hr2⟩ := IH (10 + m) b k y (Or.inr (by omega)) k1 (by rw [if_neg (by omega)]; omega)
          rw [hr2]
          cases r2 with
          | inl z => exact ⟨_, rfl⟩
          | inr q2 => exact ⟨_, rfl⟩
      · rw [if_neg h4]
        rw [if_neg (by omega)] at hf
        by_cases c1 : lvl (tc x) = (m : Int) - 10
        · rw [if_pos c1]
          have hne : ¬ tc x = -1 := fun q => by
            rw [q] at c1
            have : lvl (-1) = -1 := by decide
            omega
          obtain ⟨r, hr⟩ := stp (m - 9) (by omega) b k hne
          have hn := T.2.1 x hx hne
          rw [hr]
          cases r with
          | inl y => exact ⟨_, rfl⟩
          | inr q =>
            obtain ⟨y, l⟩ := q
            simp only
            by_cases c2 : m = 12
            · rw [if_pos c2]
              exact ⟨_, rfl⟩
            · rw [if_neg c2]
              obtain ⟨k1, k2, k3, -⟩ := (pP_props T f).1 (m - 9) b k (nx x) y l (by omega) hr (T.1 x hx)
              obtain ⟨r2, hr2⟩ := IH m b k y hm k1 (by rw [if_neg (by omega)]; omega)
              rw [hr2]
              cases r2 with
              | inl z => exact ⟨_, rfl⟩
              | inr q2 => exact ⟨_, rfl⟩
        · rw [if_neg c1]
          exact ⟨_, rfl⟩