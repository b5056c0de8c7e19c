/-! TEXT: both -/
theorem least_w {P : Nat → Prop} {w v : Nat} (h1 : P w) (h2 : ∀ u, u < w → ¬ P u) (h3 : P v) (h4 : ∀ u, u < v → ¬ P u) : w = v := by
  rcases Nat.lt_trichotomy w v with h | h | h
  · exact absurd h1 (h4 w h)
  · exact h
  · exact absurd h3 (h2 v h)
theorem ebad_fun {tc : Lx → Int32} {r : Lx ⊕ (Lx × List Int32)} {y z : Lx} (h1 : ebad tc r y) (h2 : ebad tc r z) : y = z := by
  rcases h1 with h1 | ⟨l, h1, -⟩
  · rcases h2 with h2 | ⟨l, h2, -⟩
    · rw [h1] at h2; cases h2; rfl
    · rw [h1] at h2; cases h2
  · rcases h2 with h2 | ⟨l, h2, -⟩
    · rw [h1] at h2; cases h2
    · rw [h1] at h2; cases h2; rfl
theorem tF_fun {B : Nat → Int32} {t : Nat} {x : Lx} {R : Nat → Lx ⊕ (Lx × List Int32)} {q s : Nat} (h1 : tF B t x R q) (h2 : tF B t x R s) : q = s := by
  rcases h1 with ⟨a1, rfl⟩ | ⟨w, a1, a2, a3, y, a4, rfl⟩
  · rcases h2 with ⟨b1, rfl⟩ | ⟨v, b1, b2, b3, z, b4, rfl⟩
    · rfl
    · exact absurd b2 (a1 v b1)
  · rcases h2 with ⟨b1, rfl⟩ | ⟨v, b1, b2, b3, z, b4, rfl⟩
    · exact absurd a2 (b1 w a1)
    · obtain rfl := least_w a2 a3 b2 b3
      rw [ebad_fun a4 b4]
theorem tF_tG {B : Nat → Int32} {t : Nat} {x : Lx} {R : Nat → Lx ⊕ (Lx × List Int32)} {q w : Nat} {l : List Int32} (h1 : tF B t x R q) (h2 : tG B x R w l) : False := by
  obtain ⟨b1, b2, b3, z, b4, b5⟩ := h2
  rcases h1 with ⟨a1, rfl⟩ | ⟨v, a1, a2, a3, y, a4, rfl⟩
  · exact a1 w b1 b2
  · obtain rfl := least_w a2 a3 b2 b3
    rcases a4 with a4 | ⟨l', a4, a5⟩
    · rw [a4] at b4; cases b4
    · rw [a4] at b4; cases b4; exact a5 b5
theorem tG_fun {B : Nat → Int32} {x : Lx} {R : Nat → Lx ⊕ (Lx × List Int32)} {v w : Nat} {l m : List Int32} (h1 : tG B x R v m) (h2 : tG B x R w l) : v = w ∧ m = l := by
  obtain ⟨a1, a2, a3, y, a4, a5⟩ := h1
  obtain ⟨b1, b2, b3, z, b4, b5⟩ := h2
  obtain rfl := least_w a2 a3 b2 b3
  rw [a4] at b4
  cases b4
  exact ⟨rfl, rfl⟩
theorem lvC_cnt : ∀ (l : List Int32), (∀ c ∈ l, cOK c) → lvC l = cntA (l.map tr)
  | [], _ => rfl
  | c :: l, h => by
    have ih := lvC_cnt l (fun d hd => h d (List.mem_cons_of_mem _ hd))
    have hc := h c List.mem_cons_self
    unfold lvC at ih ⊢
    rw [List.map_cons, cntA, ← ih]
    by_cases q : c < 20000
    · rw [List.filter_cons_of_pos (by simpa using q), List.length_cons]
      have e : tr c = c := if_pos q
      have h0 : ¬ c < 0 := by
        rcases hc with z | z | z | z | z | z | z | z | z | z | z
        · rw [zi_lt, i0]; omega
        all_goals (rw [z]; decide)
      rw [e, if_neg h0, Nat.add_comm]
    · rw [List.filter_cons_of_neg (by simpa using q)]
      have e : tr c < 0 := by
        rcases hc with z | z | z | z | z | z | z | z | z | z | z
        · exfalso
          apply q
          rw [zi_lt, show (20000 : Int32).toInt = 20000 by decide]; omega
        all_goals (rw [z]; decide)
      rw [if_pos e, Nat.zero_add]
theorem lastK_c {ky ky' : Nat → Nat} {k : Nat} : ∀ (T : Nat), (∀ t, t < T → ky' t = ky t) → lastK ky' k T = lastK ky k T
  | 0, _ => rfl
  | T + 1, h => by
    rw [lastK, lastK, h T (Nat.lt_succ_self _), lastK_c T (fun t ht => h t (by omega))]
theorem mTX.c {M : zM} {a T : Nat} {ky ln ky' ln' : Nat → Nat} (h : mTX M a T ky ln) (hk : ∀ t, t < T → ky' t = ky t) (hl : ∀ t, t < T → ln' t = ln t) : mTX M a T ky' ln' := by
  intro t ht
  rw [hk t ht, hl t ht]
  exact h t ht
theorem RR.tape0 {M M' : zM} {n T : Nat} {ky ln : Nat → Nat} (h : RR M n T ky ln) (hd : ∀ a x y f, ¬ (scr a x y f ∨ a = 19 ∨ (a = 30 ∧ f = 7)) → M' a x y f = M a x y f) (e19 : M' 19 0 0 1 = 0) (e7 : M' 30 0 0 7 = 0) : RR M' n T ky ln := by
  obtain ⟨h1, h2, h3, h4, h5, h6, h7⟩ := h
  refine ⟨h1.on (fun a x y f z => hd a x y f ?_), h2.on h1.2.2.1.1 (fun a x y f z => hd a x y f ?_), ⟨0, by decide, e19, e7, fun k hk => absurd hk (Nat.not_lt_zero _)⟩, h4.on (fun a x y f z => hd a x y f ?_), h5.on (fun a x y f z => hd a x y f ?_), h6.on (fun a x y f z => hd a x y f ?_), h7.on (fun a x y f z => hd a x y f ?_)⟩
  · unfold RAd at z
    unfold scr
    omega
  · unfold RCd at z
    unfold scr
    omega
  · unfold REd at z
    unfold scr
    omega
  · unfold RFd at z
    unfold scr
    omega
  · unfold RGd at z
    unfold scr
    omega
  · unfold RHd at z
    unfold scr
    omega
def txd (T w n : Nat) (a x y f : Nat) : Prop := scr a x y f ∨ a = 19 ∨ (a = 30 ∧ f = 7) ∨ ((a = 8 ∨ a = 9) ∧ x = T) ∨ (a = 6 ∧ x = 0 ∧ f = w) ∨ (a = 5 ∧ x = 0 ∧ f = 10) ∨ (a = 31 ∧ (f = 8 ∨ f = 65 + 2 * T ∨ f = 66 + 2 * T ∨ (93 + 96 * T ≤ f ∧ f < 93 + 96 * T + n)))
set_option maxHeartbeats 1600000 in
theorem rr_addT {M M2 : zM} {n T w : Nat} {ky ln : Nat → Nat} {l : List Int32} (hR : RR M n T ky ln) (t14 : T < 14) (hw : w < 3) (hl : l.length ≤ 96) (hg : ∀ c ∈ l, gd w c) (hv : ∀ a1 a2 a3, ∃ v, eL a1 a2 a3 l [] = some [v])
    (c0 : M2 8 T 0 0 = nI w) (c1 : M2 8 T 0 1 = nI (lvC l)) (c2 : M2 8 T 0 2 = nI l.length) (c3 : ∀ i, i < l.length → l[i]? = some (M2 9 T 0 i)) (c4 : M2 6 0 0 w = nI T) (c5 : M2 5 0 0 10 = nI (T + 1))
    (d0 : M2 31 0 0 (65 + 2 * T) = nI (1000 * w + l.length)) (d1 : M2 31 0 0 (66 + 2 * T) = nI (cntA (l.map tr))) (d2 : ∀ i, i < l.length → M2 31 0 0 (93 + 96 * T + i) = (l.map tr).getD i 0) (d3 : M2 31 0 0 8 = nI (T + 1)) (e19 : M2 19 0 0 1 = 0) (e7 : M2 30 0 0 7 = 0)
    (hd : ∀ a x y f, ¬ txd T w l.length a x y f → M2 a x y f = M a x y f) : RR M2 n (T + 1) (fun t => if t = T then w else ky t) (fun t => if t = T then l.length else ln t) := by
  obtain ⟨⟨a1, a2, a3, a4, a5, a6, a7⟩, h2, h3, h4, h5, h6, h7⟩ := hR
  have kyc : ∀ t, t < T → (fun t => if t = T then w else ky t) t = ky t := fun t ht => if_neg (by omega)
  have lnc : ∀ t, t < T → (fun t => if t = T then l.length else ln t) t = ln t := fun t ht => if_neg (by omega)
  have g5 : ∀ f, f ≠ 10 → M2 5 0 0 f = M 5 0 0 f := fun f hf => hd 5 0 0 f (by unfold txd scr; omega)
  have g1 : ∀ i, M2 1 0 i = M 1 0 i := fun i => funext fun f => hd 1 0 i f (by unfold txd scr; omega)
  have g31 : ∀ f, f < 65 → f ≠ 8 → M2 31 0 0 f = M 31 0 0 f := fun f h1 h2 => hd 31 0 0 f (by unfold txd scr; omega)
  have g8 : ∀ t f, t < T → M2 8 t 0 f = M 8 t 0 f := fun t f ht => hd 8 t 0 f (by unfold txd scr; omega)
  have g9 : ∀ t f, t < T → M2 9 t 0 f = M 9 t 0 f := fun t f ht => hd 9 t 0 f (by unfold txd scr; omega)
  have n8 := a1.2.1
  have A1 : vOK n (cV M2 0) := by
    obtain ⟨b1, b2, b3, b4, b5, b6, b7, b8⟩ := a1
    refine ⟨(g5 2 (by decide)).trans b1, b2, fun i hi => ?_, ?_, ?_, ?_, ?_, ?_⟩
    · show pOK (M2 1 0 i)
      rw [g1]
      exact b3 i hi
    · show 0 ≤ (M2 5 0 0 3).toInt ∧ (M2 5 0 0 3).toInt ≤ 99
      rw [g5 3 (by decide)]
      exact b4
    · show 0 ≤ (M2 5 0 0 4).toInt ∧ (M2 5 0 0 4).toInt ≤ 2
      rw [g5 4 (by decide)]
      exact b5
    · show -5 ≤ (M2 5 0 0 5).toInt ∧ (M2 5 0 0 5).toInt ≤ 5
      rw [g5 5 (by decide)]
      exact b6
    · show 0 ≤ (M2 5 0 0 6).toInt ∧ (M2 5 0 0 6).toInt ≤ 99
      rw [g5 6 (by decide)]
      exact b7
    · show M2 5 0 0 7 = 0 ∨ M2 5 0 0 7 = 1
      rw [g5 7 (by decide)]
      exact b8
  have A2 : veq n (cV M2 0) (mV M2 31) := by
    refine ⟨fun k h1 h2 => ?_, fun i f hi hf => ?_⟩
    · by_cases k10 : k = 10
      · subst k10
        show M2 5 0 0 10 = M2 31 0 0 8
        rw [c5, d3]
      · have hmm : mm k < 65 ∧ mm k ≠ 8 := by
          rcases (show k = 2 ∨ k = 3 ∨ k = 4 ∨ k = 5 ∨ k = 6 ∨ k = 7 ∨ k = 8 ∨ k = 9 by omega) with rfl | rfl | rfl | rfl | rfl | rfl | rfl | rfl <;> decide
        show M2 5 0 0 k = M2 31 0 0 (mm k)
        rw [g5 k k10, g31 _ hmm.1 hmm.2]
        exact a2.1 k h1 h2
    · show M2 1 0 i f = M2 31 0 0 (9 + 7 * i + f)
      rw [g1, g31 _ (by omega) (by omega)]
      exact a2.2 i f hi hf
  have A3 : TX M2 (T + 1) (fun t => if t = T then w else ky t) (fun t => if t = T then l.length else ln t) := by
    refine ⟨by omega, fun t ht => ?_⟩
    by_cases q : t = T
    · subst q
      simp only [if_true]
      refine ⟨hw, hl, c0, c2, fun i hi => ?_, fun x y z => ?_⟩
      · have hm := List.mem_of_getElem? (c3 i hi)
        exact hg _ hm
      · rw [eL_run (M2 9 t 0) l.length l rfl c3]
        exact hv x y z
    · have ht' : t < T := by omega
      simp only [if_neg q]
      exact ((TX.on a3 g8 g9).2 t ht')
  have A4 : mTX M2 31 (T + 1) (fun t => if t = T then w else ky t) (fun t => if t = T then l.length else ln t) := by
    intro t ht
    by_cases q : t = T
    · subst q
      simp only [if_true]
      refine ⟨d0, ?_, fun i hi => ?_⟩
      · rw [d1, c1, lvC_cnt l (fun c hc => (hg c hc).1)]
      · rw [d2 i hi, List.getD_eq_getElem?_getD, List.getElem?_map, c3 i hi]
        rfl
    · have ht' : t < T := by omega
      simp only [if_neg q]
      obtain ⟨b1, b2, b3⟩ := a4 t ht'
      have hln := (a3.2 t ht').2.1
      refine ⟨?_, ?_, fun i hi => ?_⟩
      · rw [hd 31 0 0 (65 + 2 * t) (by unfold txd scr; omega)]
        exact b1
      · rw [hd 31 0 0 (66 + 2 * t) (by unfold txd scr; omega), g8 t 1 ht']
        exact b2
      · rw [hd 31 0 0 (93 + 96 * t + i) (by unfold txd scr; omega), g9 t i ht']
        exact b3 i hi
  refine ⟨⟨A1, A2, A3, A4, c5, fun k hk => ?_, ?_⟩, ?_, ⟨0, by decide, e19, e7, fun k hk => absurd hk (Nat.not_lt_zero _)⟩, h4.on (fun a x y f z => hd a x y f ?_), h5.on (fun a x y f z => hd a x y f ?_), h6.on (fun a x y f z => hd a x y f ?_), h7.on (fun a x y f z => hd a x y f ?_)⟩
  · show M2 6 0 0 k = if (if T = T then w else ky T) = k then nI T else lastK _ k T
    rw [if_pos rfl]
    by_cases q : w = k
    · subst q
      rw [if_pos rfl]
      exact c4
    · rw [if_neg q, lastK_c T kyc, hd 6 0 0 k (by unfold txd scr; omega)]
      exact a6 k hk
  · rw [g5 8 (by decide)]
    exact a7
  · have e10 : M2 0 0 0 10 = M 0 0 0 10 := hd 0 0 0 10 (by unfold txd scr; omega)
    have e3 : M2 30 0 0 3 = M 30 0 0 3 := hd 30 0 0 3 (by unfold txd scr; omega)
    rcases h2 with ⟨p, q⟩ | ⟨p, q, n1, T1, r0, r1, r2, r3, r4, r5, r6⟩
    · exact Or.inl ⟨e10.trans p, e3.trans q⟩
    · have k5 : ∀ f, M2 5 1 0 f = M 5 1 0 f := fun f => hd 5 1 0 f (by unfold txd scr; omega)
      have k1 : ∀ y f, M2 1 1 y f = M 1 1 y f := fun y f => hd 1 1 y f (by unfold txd scr; omega)
      have k32 : ∀ k, M2 32 0 0 k = M 32 0 0 k := fun k => hd 32 0 0 k (by unfold txd scr; omega)
      refine Or.inr ⟨e10.trans p, e3.trans q, n1, T1, by omega, ?_, ?_, ?_, ?_, fun k hk => ?_, ?_⟩
      · rw [cV_on k1 k5]
        exact r1
      · rw [cV_on k1 k5, mV_on k32]
        exact r2
      · exact (mTX.on r3 k32 (fun t f ht => g8 t f (by omega)) (fun t f ht => g9 t f (by omega))).c (fun t ht => kyc t (by omega)) (fun t ht => lnc t (by omega))
      · rw [k5]
        exact r4
      · rw [hd 6 1 0 k (by unfold txd scr; omega), lastK_c T1 (fun t ht => kyc t (by omega))]
        exact r5 k hk
      · rw [k5]
        exact r6
  · unfold REd at z
    unfold txd scr
    omega
  · unfold RFd at z
    unfold txd scr
    omega
  · unfold RGd at z
    unfold txd scr
    omega
  · unfold RHd at z
    unfold txd scr
    omega
theorem gAdd_o {M : zM} {T w : Nat} {l : List Int32} {a x y f : Nat} (h : ¬ (a = 31 ∧ x = 0 ∧ y = 0 ∧ (f = 8 ∨ f = 65 + 2 * T ∨ f = 66 + 2 * T ∨ (93 + 96 * T ≤ f ∧ f < 93 + 96 * T + l.length)))) : gAdd M T w l a x y f = M a x y f := by
  unfold gAdd
  rw [zu_ne _ _ (by omega), zpt_o (by omega), zu_ne _ _ (by omega), zu_ne _ _ (by omega)]
theorem gAdd_v {M : zM} {T w : Nat} {l : List Int32} (hl : l.length ≤ 96) (t14 : T < 14) : gAdd M T w l 31 0 0 8 = nI (T + 1) ∧ gAdd M T w l 31 0 0 (65 + 2 * T) = nI (1000 * w + l.length) ∧ gAdd M T w l 31 0 0 (66 + 2 * T) = nI (cntA (l.map tr)) ∧ ∀ i, i < l.length → gAdd M T w l 31 0 0 (93 + 96 * T + i) = (l.map tr).getD i 0 := by
  unfold gAdd
  refine ⟨zu_self _ _ _ _ _ _, ?_, ?_, fun i hi => ?_⟩
  · rw [zu_ne _ _ (by omega), zpt_o (by omega), zu_ne _ _ (by omega), zu_self]
  · rw [zu_ne _ _ (by omega), zpt_o (by omega), zu_self]
  · rw [zu_ne _ _ (by omega), zpt_in hi]
set_option maxHeartbeats 1600000 in
theorem op_text {l : Launch} {G : zG} {b : Nat} {M : zM} (hM : Rel M) : opOK l G b yX9_text cX9_text 2 94 yX10_text cX10_text 4 4 [] M := by
  obtain ⟨n, T, ky, ln, hR⟩ := hM
  obtain ⟨t, h96, e19, e7, hB⟩ := hR.2.2.1
  have hBi : ∀ i, i < t → iin (M 36 0 0 i) 0 255 := fun i hi => (hB i hi).2
  have hT : tpe M (M 36 0 0) t := ⟨e19, h96, hB⟩
  have hok1 : lOK (M 36 0 0) t (ladv (M 36 0 0) t (l0 (M 36 0 0) t)) := (ladv_ok (l0_ok (B := M 36 0 0) (t := t)).2.1).1
  obtain ⟨R, hRR⟩ := pP_R h96 hBi hok1
  have hT14 := hR.TX.1
  refine ⟨_, mX9_text hT hRR hR.T hT14, fun r M1 hC => ?_⟩
  obtain ⟨z19, hC⟩ := hC
  have fr : ∀ a x y f, ¬ (scr a x y f ∨ a = 19 ∨ ((a = 8 ∨ a = 9) ∧ x = T) ∨ (a = 6 ∧ x = 0) ∨ (a = 5 ∧ x = 0 ∧ f = 10)) → M1 a x y f = M a x y f := by
    intro a x y f z
    have z1 : ¬ scr a x y f := fun q => z (Or.inl q)
    have z2 : ¬ a = 19 := fun q => z (Or.inr (Or.inl q))
    rcases hC with ⟨q, -, -, hz⟩ | ⟨w, l2, -, -, ⟨-, -, hz⟩ | ⟨-, -, hz⟩⟩
    · rw [hz a x y f z1, zu_a z2]
    · rw [hz a x y f z1, zu_a z2]
    · refine hz.2.2.2.2.2.2 a x y f (fun q => ?_)
      rcases q with q | q | q | q | q
      · exact z1 q
      · exact z2 q.1
      · exact z (Or.inr (Or.inr (Or.inl q)))
      · exact z (Or.inr (Or.inr (Or.inr (Or.inl ⟨q.1, q.2.1⟩))))
      · exact z (Or.inr (Or.inr (Or.inr (Or.inr q))))
  have f37 : ∀ k, M1 37 0 0 k = M 37 0 0 k := fun k => fr 37 0 0 k (by unfold scr; omega)
  have f38 : ∀ k, M1 38 0 0 k = M 38 0 0 k := fun k => fr 38 0 0 k (by unfold scr; omega)
  have f36 : ∀ k, M1 36 0 0 k = M 36 0 0 k := fun k => fr 36 0 0 k (by unfold scr; omega)
  have gT : gtp M1 (M 36 0 0) t := ⟨by rw [fr 30 0 0 7 (by unfold scr; omega)]; exact e7, h96, fun i hi => ⟨f36 i, hBi i hi⟩⟩
  have m8 : M1 31 0 0 8 = nI T := by rw [fr 31 0 0 8 (by unfold scr; omega)]; exact hR.mT
  have hH := hR.2.2.2.2.2.2
  refine zI.post (mX10_text gT (fun k hk => by rw [f37]; exact hH.1 k hk) (fun k hk => by rw [f38]; exact hH.2 k hk) hRR m8 hT14) (fun s M2 hG => ?_)
  have sc2 : ∀ {M' : zM}, zSc (zu M1 30 0 0 7 0) M' → ∀ a x y f, ¬ (scr a x y f ∨ (a = 30 ∧ f = 7)) → M' a x y f = M1 a x y f := fun hz a x y f z => by
    rw [hz a x y f (fun q => z (Or.inl q)), zu_ne _ _ (fun q => z (Or.inr ⟨q.1, q.2.2.2⟩))]
  have sc7 : ∀ {M' : zM}, zSc (zu M1 30 0 0 7 0) M' → M' 30 0 0 7 = 0 := fun hz => by rw [hz 30 0 0 7 (by unfold scr; omega), zu_self]
  have sc19 : ∀ {M' : zM}, zSc (zu M1 30 0 0 7 0) M' → M' 19 0 0 1 = 0 := fun hz => by rw [sc2 hz 19 0 0 1 (by unfold scr; omega)]; exact z19
  have still : ∀ {M' : zM}, zSc (zu M1 30 0 0 7 0) M' → zSc (zu M 19 0 0 1 0) M1 → Rel M' := fun hz hz1 => ⟨n, T, ky, ln, hR.tape0 (fun a x y f z => by
    have z1 : ¬ scr a x y f := fun q => z (Or.inl q)
    have z2 : ¬ a = 19 := fun q => z (Or.inr (Or.inl q))
    have z3 : ¬ (a = 30 ∧ f = 7) := fun q => z (Or.inr (Or.inr q))
    rw [sc2 hz a x y f (fun q => q.elim z1 z3), hz1 a x y f z1, zu_a z2]) (sc19 hz) (sc7 hz)⟩
  rcases hC with ⟨q, hF, e1, hz1⟩ | ⟨w, l2, hg, hl, hC⟩
  · rcases hG with ⟨q2, hF2, e2, hz⟩ | ⟨w2, l3, hg2, -⟩
    · rw [e1, e2, tF_fun hF hF2]
      exact ⟨rfl, still hz hz1⟩
    · exact (tF_tG hF hg2).elim
  · rcases hG with ⟨q2, hF2, e2, hz⟩ | ⟨w2, l3, hg2, hG⟩
    · exact (tF_tG hF2 hg).elim
    · obtain ⟨rfl, rfl⟩ := tG_fun hg hg2
      rcases hC with ⟨t14, e1, hz1⟩ | ⟨t14, e1, hca⟩
      · rcases hG with ⟨-, e2, hz⟩ | ⟨t13, -⟩
        · rw [e1, e2]
          exact ⟨rfl, still hz hz1⟩
        · omega
      · rcases hG with ⟨t15, -⟩ | ⟨-, e2, M3, hz, rfl⟩
        · omega
        · refine ⟨by rw [e1, e2], n, T + 1, (fun t => if t = T then w else ky t), (fun t => if t = T then l2.length else ln t), ?_⟩
          obtain ⟨hw, hkw, -, y, ey, -⟩ := hg
          have T5 := tcOK_l h96 hBi w
          have pr := (pP_props T5 2000).1 0 0 0 (ladv (M 36 0 0) t (l0 (M 36 0 0) t)) y l2 (by omega) (by rw [hRR w, ey]) hok1
          obtain ⟨c0, c1, c2, c3, c4, c5, c6⟩ := hca
          obtain ⟨d3, d0, d1, d2⟩ := gAdd_v (M := M3) (w := w) hl t14
          have n31 : ∀ a x y f, a ≠ 31 → gAdd M3 T w l2 a x y f = M3 a x y f := fun a x y f h => gAdd_o (fun q => h q.1)
          refine rr_addT hR t14 hw hl pr.2.2.2.1 (fun a1 a2 a3 => pr.2.2.2.2 a1 a2 a3 []) ?_ ?_ ?_ (fun i hi => ?_) ?_ ?_ d0 d1 d2 d3 ?_ ?_ (fun a x y f z => ?_)
          · rw [n31 _ _ _ _ (by decide), sc2 hz 8 T 0 0 (by unfold scr; omega)]; exact c0
          · rw [n31 _ _ _ _ (by decide), sc2 hz 8 T 0 1 (by unfold scr; omega)]; exact c1
          · rw [n31 _ _ _ _ (by decide), sc2 hz 8 T 0 2 (by unfold scr; omega)]; exact c2
          · rw [n31 _ _ _ _ (by decide), sc2 hz 9 T 0 i (by unfold scr; omega)]; exact c3 i hi
          · rw [n31 _ _ _ _ (by decide), sc2 hz 6 0 0 w (by unfold scr; omega)]; exact c4
          · rw [n31 _ _ _ _ (by decide), sc2 hz 5 0 0 10 (by unfold scr; omega)]; exact c5
          · rw [n31 _ _ _ _ (by decide)]; exact sc19 hz
          · rw [n31 _ _ _ _ (by decide)]; exact sc7 hz
          · unfold txd at z
            have z1 : ¬ scr a x y f := fun q => z (Or.inl q)
            have z2 : ¬ a = 19 := fun q => z (Or.inr (Or.inl q))
            have z3 : ¬ (a = 30 ∧ f = 7) := fun q => z (Or.inr (Or.inr (Or.inl q)))
            have z4 : ¬ ((a = 8 ∨ a = 9) ∧ x = T) := fun q => z (Or.inr (Or.inr (Or.inr (Or.inl q))))
            have z5 : ¬ (a = 6 ∧ x = 0 ∧ f = w) := fun q => z (Or.inr (Or.inr (Or.inr (Or.inr (Or.inl q)))))
            have z6 : ¬ (a = 5 ∧ x = 0 ∧ f = 10) := fun q => z (Or.inr (Or.inr (Or.inr (Or.inr (Or.inr (Or.inl q))))))
            have z7 := fun q => z (Or.inr (Or.inr (Or.inr (Or.inr (Or.inr (Or.inr q))))))
            rw [gAdd_o (fun q => z7 ⟨q.1, q.2.2.2⟩), sc2 hz a x y f (fun q => q.elim z1 z3)]
            refine c6 a x y f (fun q => ?_)
            rcases q with q | q | q | q | q
            · exact z1 q
            · exact z2 q.1
            · exact z4 q
            · exact z5 q
            · exact z6 q
