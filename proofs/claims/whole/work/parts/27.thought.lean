/-! thought: groups of numbers that have had the same answers -/
def gP (s dr ans : Int32) (d k : Nat) : Bool := decide (zcmp s (pFm (nI k + dr * nI d)) = ans)
theorem take_snoc {l : List Nat} {i k : Nat} (h : l[i]? = some k) : l.take (i + 1) = l.take i ++ [k] := by
  rw [List.take_succ, h]
  rfl
set_option maxHeartbeats 4000000 in
set_option maxRecDepth 100000 in
theorem mX7_gather {l : Launch} {G : zG} {b : Nat} {M : zM} {d : Nat} (hd : d + 1 < 12) {gl : List Nat} (hg : grp M d gl) (hs : M 17 0 0 d = nI gl.length) {s ans : Int32} : zMet l G b yX7_gather cX7_gather 7 (some .int) 2 zshL zshL [.ref (b + 54), .int (nI d), .int s, .int ans] M (zI (fun r M' => r = nI (gl.filter (gP s (M 5 (2 + d) 0 5) ans d)).length ∧ grp M' (d + 1) (gl.filter (gP s (M 5 (2 + d) 0 5) ans d)) ∧ ∀ a x y f, ¬ (a = 16 ∧ x = d + 1) → M' a x y f = M a x y f)) := by
  refine zMet.of (L0 := [some (.ref (b + 54)), some (.int (nI d)), some (.int s), some (.int ans), none, none, none]) (by decide +kernel) (Nat.le_refl _) (Nat.le_refl _) (Nat.le_of_ble_eq_true rfl) (List.forall_mem_cons.mpr ⟨rfl, List.forall_mem_cons.mpr ⟨rfl, List.forall_mem_cons.mpr ⟨rfl, List.forall_mem_cons.mpr ⟨rfl, fun _ h => absurd h List.not_mem_nil⟩⟩⟩⟩) rfl (fun X C Al K => ?_)
  have hw : 2 + d < 14 := by omega
  have hd0 : d < 12 := by omega
  have loop : ∀ (j i : Nat) (M1 : zM) (q : Option Value), i + j = gl.length → (∀ a x y f, ¬ (a = 16 ∧ x = d + 1) → M1 a x y f = M a x y f) → grp M1 (d + 1) ((gl.take i).filter (gP s (M 5 (2 + d) 0 5) ans d)) → zW X zshL M1 6 [some (.ref (b + 54)), some (.int (nI d)), some (.int s), some (.int ans), some (.int (nI ((gl.take i).filter (gP s (M 5 (2 + d) 0 5) ans d)).length)), some (.int (nI i)), q] [] := by
    intro j
    induction j with
    | zero =>
      intro i M1 q hi hf hgr
      have hs1 : M1 17 0 0 d = nI gl.length := by rw [hf 17 0 0 d (fun z => absurd z.1 (by decide))]; exact hs
      have hgl := hg.1
      refine z_iload (pc := 6) C 5 dX7_gather_6 rfl ?_
      refine z_aload_n (pc := 8) C 0 dX7_gather_8 rfl rfl ?_
      refine z_getR (pc := 9) (r := 69) C dX7_gather_9 fX7_22 sh_54 rfl ?_
      refine z_iload_n (pc := 12) C 1 dX7_gather_12 rfl rfl ?_
      refine z_iald (pc := 13) (n := d) C dX7_gather_13 sh_69 (vp_in_nI (by omega) (by omega)) (nI_clamp (by omega)) ?_
      refine z_icmp_ge (pc := 14) C 70 dX7_gather_14 (by decide) (fun c14 => ?_) (fun c14 => absurd (zlt hs1 (by omega) (by omega)) c14)
      refine z_iload (pc := 70) C 4 dX7_gather_70 rfl ?_
      refine z_ireturn (pc := 72) C K dX7_gather_72 ?_
      have et : gl.take i = gl := List.take_of_length_le (by omega)
      rw [et] at hgr ⊢
      exact ⟨_, rfl, rfl, hgr, hf⟩
    | succ j ih =>
      intro i M1 q hi hf hgr
      have hs1 : M1 17 0 0 d = nI gl.length := by rw [hf 17 0 0 d (fun z => absurd z.1 (by decide))]; exact hs
      have hgl := hg.1
      obtain ⟨k, hk⟩ : ∃ k, gl[i]? = some k := ⟨_, List.getElem?_eq_getElem (by omega)⟩
      obtain ⟨hk1, hk2⟩ := hg.2 i k hk
      have hk3 : M1 16 d 0 i = nI k := by rw [hf 16 d 0 i (fun z => absurd z.2 (by omega))]; exact hk2
      have hdr : M1 5 (2 + d) 0 5 = M 5 (2 + d) 0 5 := hf 5 (2 + d) 0 5 (fun z => absurd z.1 (by decide))
      have hfl : ((gl.take i).filter (gP s (M 5 (2 + d) 0 5) ans d)).length ≤ i := Nat.le_trans (List.length_filter_le _ _) (by rw [List.length_take]; omega)
      refine z_iload (pc := 6) C 5 dX7_gather_6 rfl ?_
      refine z_aload_n (pc := 8) C 0 dX7_gather_8 rfl rfl ?_
      refine z_getR (pc := 9) (r := 69) C dX7_gather_9 fX7_22 sh_54 rfl ?_
      refine z_iload_n (pc := 12) C 1 dX7_gather_12 rfl rfl ?_
      refine z_iald (pc := 13) (n := d) C dX7_gather_13 sh_69 (vp_in_nI (by omega) (by omega)) (nI_clamp (by omega)) ?_
      refine z_icmp_ge (pc := 14) C 70 dX7_gather_14 (by decide) (fun c14 => absurd c14 (zlf hs1 (by omega) (by omega))) (fun c14 => ?_)
      refine z_aload_n (pc := 17) C 0 dX7_gather_17 rfl rfl ?_
      refine z_getR (pc := 18) (r := 56) C dX7_gather_18 fX7_19 sh_54 rfl ?_
      refine z_iload_n (pc := 21) C 1 dX7_gather_21 rfl rfl ?_
      refine z_aald (pc := 22) (r := 57 + d) C dX7_gather_22 sh_56 rfl rfl (vp_in_nI (by omega) (by decide)) (gget hd0) ?_
      refine z_iload (pc := 23) C 5 dX7_gather_23 rfl ?_
      refine z_iald (pc := 25) (n := i) C dX7_gather_25 (shG hd0) (vp_in_nI (by omega) (by omega)) (nI_clamp (by omega)) ?_
      rw [hk3]
      refine z_istore (pc := 26) C 6 dX7_gather_26 (by decide) rfl ?_
      refine z_iload_n (pc := 28) C 2 dX7_gather_28 rfl rfl ?_
      refine z_aload_n (pc := 29) C 0 dX7_gather_29 rfl rfl ?_
      refine z_getR (pc := 30) (r := 55) C dX7_gather_30 fX7_11 sh_54 rfl ?_
      refine z_iload_n (pc := 33) C 1 dX7_gather_33 rfl rfl ?_
      refine z_aald (pc := 34) (r := adW (2 + d)) C dX7_gather_34 sh_55 rfl rfl (vp_in_nI (by omega) (by decide)) (wget hd0) ?_
      refine z_iload (pc := 35) C 6 dX7_gather_35 rfl ?_
      refine z_iload_n (pc := 37) C 1 dX7_gather_37 rfl rfl ?_
      refine z_callVi (pc := 38) C dX7_gather_38 kX7_58 (mX8_drifted hw) (by decide) (shW hw) rfl rfl rfl (Nat.le_of_ble_eq_true rfl) (fun r38 M38 h38 => ?_)
      obtain ⟨rfl, e38⟩ := h38
      subst M38
      rw [hdr]
      refine z_callSi (pc := 41) C dX7_gather_41 kX7_69 mJ6_compare_7cf53 (by decide) rfl rfl (Nat.le_of_ble_eq_true rfl) (fun r41 M41 h41 => ?_)
      obtain ⟨rfl, e41⟩ := h41
      subst M41
      refine z_iload_n (pc := 44) C 3 dX7_gather_44 rfl rfl ?_
      refine z_icmp_ne (pc := 45) C 64 dX7_gather_45 (by decide) (fun c45 => ?_) (fun c45 => ?_)
      · refine z_iinc (pc := 64) (v := 1) C 5 dX7_gather_64 (by decide) rfl rfl rfl ?_
        refine z_goto (pc := 67) C 6 dX7_gather_67 (by decide) ?_
        have ef : (gl.take (i + 1)).filter (gP s (M 5 (2 + d) 0 5) ans d) = (gl.take i).filter (gP s (M 5 (2 + d) 0 5) ans d) := by
          rw [take_snoc hk, List.filter_append]
          simp [gP, c45]
        have e := ih (i + 1) M1 (some (.int (nI k))) (by omega) hf (by rw [ef]; exact hgr)
        rw [ef, nI_succ i] at e
        exact e
      · refine z_aload_n (pc := 48) C 0 dX7_gather_48 rfl rfl ?_
        refine z_getR (pc := 49) (r := 56) C dX7_gather_49 fX7_19 sh_54 rfl ?_
        refine z_iload_n (pc := 52) C 1 dX7_gather_52 rfl rfl ?_
        refine z_iconst (pc := 53) (v := 1) C dX7_gather_53 rfl ?_
        refine z_iadd (pc := 54) C dX7_gather_54 ?_
        refine z_aald (pc := 55) (r := 57 + (d + 1)) C dX7_gather_55 sh_56 rfl rfl (by rw [nI_1]; exact vp_in_nI (by omega) (by decide)) (by rw [nI_1]; exact gget hd) ?_
        refine z_iload (pc := 56) C 4 dX7_gather_56 rfl ?_
        refine z_iload (pc := 58) C 6 dX7_gather_58 rfl ?_
        refine z_iast (pc := 60) (n := ((gl.take i).filter (gP s (M 5 (2 + d) 0 5) ans d)).length) C dX7_gather_60 (shG hd) (vp_in_nI (by omega) (by omega)) (nI_clamp (by omega)) ?_
        refine z_iinc (pc := 61) (v := 1) C 4 dX7_gather_61 (by decide) rfl rfl rfl ?_
        refine z_iinc (pc := 64) (v := 1) C 5 dX7_gather_64 (by decide) rfl rfl rfl ?_
        refine z_goto (pc := 67) C 6 dX7_gather_67 (by decide) ?_
        have ef : (gl.take (i + 1)).filter (gP s (M 5 (2 + d) 0 5) ans d) = (gl.take i).filter (gP s (M 5 (2 + d) 0 5) ans d) ++ [k] := by
          rw [take_snoc hk, List.filter_append]
          simp [gP, c45]
        have e := ih (i + 1) (zu M1 16 (d + 1) 0 ((gl.take i).filter (gP s (M 5 (2 + d) 0 5) ans d)).length (nI k)) (some (.int (nI k))) (by omega) (fun a x y f z => by rw [zu_ne _ _ (fun g => z ⟨g.1, g.2.1⟩)]; exact hf a x y f z) (by rw [ef]; exact hgr.snoc (by omega) hk1)
        rw [ef, List.length_append, nI_succ i] at e
        have e9 : nI (((gl.take i).filter (gP s (M 5 (2 + d) 0 5) ans d)).length + [k].length) = nI ((gl.take i).filter (gP s (M 5 (2 + d) 0 5) ans d)).length + 1 := nI_succ _
        rw [e9] at e
        exact e
  refine z_iconst (pc := 0) (v := 0) C dX7_gather_0 rfl ?_
  refine z_istore (pc := 1) C 4 dX7_gather_1 (by decide) rfl ?_
  refine z_iconst (pc := 3) (v := 0) C dX7_gather_3 rfl ?_
  refine z_istore (pc := 4) C 5 dX7_gather_4 (by decide) rfl ?_
  exact loop gl.length 0 M _ (by omega) (fun _ _ _ _ _ => rfl) ⟨Nat.zero_le _, fun i k h => by simp at h⟩

def brPre (M : zM) (d n : Nat) (gl : List Nat) (hv : Int32 → Int32 → Int32 → Int32) : Prop := grp M d gl ∧ M 17 0 0 d = nI gl.length ∧ M 5 (2 + d) 0 2 = nI n ∧ n ≤ 8 ∧ okS M (M 6 (2 + d) 0 0) hv ∧ (M 5 (2 + d) 0 7 = 0 ∨ M 5 (2 + d) 0 7 = 1) ∧ (∀ i, i < n → M 1 (2 + d) i 6 = 0 ∨ M 1 (2 + d) i 6 = 1) ∧ -5 ≤ (M 5 (2 + d) 0 5).toInt ∧ (M 5 (2 + d) 0 5).toInt ≤ 5
/-- what branch at depth d may change -/
def bCh (d a x f : Nat) : Prop := ((a = 1 ∨ a = 5 ∨ a = 6) ∧ 2 + d < x ∧ x < 14) ∨ a = 12 ∨ (a = 16 ∧ d < x) ∨ (a = 17 ∧ d < f) ∨ a = 18
def ndv (o : Option Nat) (d : Nat) (m : Int32) : Int32 := match o with
  | some t => nI (d + t)
  | none => m
def brP (M M' : zM) (d n : Nat) (gl : List Nat) (hv : Int32 → Int32 → Int32 → Int32) : Prop := (∀ k, k < 100 → M' 18 0 0 k = if k ∈ gl then ndv (nd hv n (M 5 (2 + d) 0 4) (M 5 (2 + d) 0 5) (12 - d) (M 1 (2 + d)) (pFm (nI k + M 5 (2 + d) 0 5 * nI d))) d (M 18 0 0 k) else M 18 0 0 k) ∧ ∀ a x y f, ¬ bCh d a x f → M' a x y f = M a x y f
theorem ndv_map (o : Option Nat) (d : Nat) (m : Int32) : ndv (o.map (· + 1)) d m = ndv o (d + 1) m := by
  cases o with
  | none => rfl
  | some t => show nI (d + (t + 1)) = nI (d + 1 + t); rw [show d + (t + 1) = d + 1 + t by omega]
theorem zcmp_m1 {x y : Int32} : zcmp x y = -1 ↔ x < y := by
  unfold zcmp
  split
  · rename_i h
    exact ⟨fun _ => h, fun _ => rfl⟩
  · rename_i h
    split
    · exact ⟨fun q => absurd q (by decide), fun q => absurd q h⟩
    · exact ⟨fun q => absurd q (by decide), fun q => absurd q h⟩
theorem zcmp_p1 {x y : Int32} : zcmp x y = 1 ↔ y < x := by
  have h := @zcmp_le x y
  unfold zcmp at h ⊢
  split
  · rename_i h1
    exact ⟨fun q => absurd q (by decide), fun q => (Int32.lt_asymm h1 q).elim⟩
  · rename_i h1
    rw [if_neg h1] at h
    split
    · rename_i h2
      rw [if_pos h2] at h
      exact ⟨fun q => absurd q (by decide), fun q => absurd q (h.mp (by decide))⟩
    · rename_i h2
      rw [if_neg h2] at h
      exact ⟨fun _ => Classical.not_not.mp (fun q => absurd (h.mpr q) (by decide)), fun _ => rfl⟩
/-- a number's needs out of the three ways that a try goes -/
theorem br_join {hv : Int32 → Int32 → Int32 → Int32} {n : Nat} {law dr : Int32} {j d : Nat} {p : Nat → Nat → Int32} {dk m0 m1 m3 m6 : Int32} {c : Prop} [Decidable c]
    (h1 : m1 = if c ∧ dk = pVoice p n law then nI (d + 1) else m0)
    (h3 : m3 = if c ∧ zcmp (pVoice p n law) dk = -1 then ndv (nd hv n law dr j (pAll hv (pVoice p n law) 0 n p) (pFm (dk + dr * 1))) (d + 1) m1 else m1)
    (h6 : m6 = if c ∧ zcmp (pVoice p n law) dk = 1 then ndv (nd hv n law dr j (pAll hv (pVoice p n law) 1 n p) (pFm (dk + dr * 1))) (d + 1) m3 else m3) :
    m6 = if c then ndv (nd hv n law dr (j + 1) p dk) d m0 else m0 := by
  by_cases hc : c
  · rw [if_pos hc]
    by_cases e : pVoice p n law = dk
    · have g1 : ¬ zcmp (pVoice p n law) dk = -1 := by rw [zcmp_0.mpr e]; decide
      have g2 : ¬ zcmp (pVoice p n law) dk = 1 := by rw [zcmp_0.mpr e]; decide
      rw [if_neg (fun z => g2 z.2)] at h6
      rw [if_neg (fun z => g1 z.2)] at h3
      rw [if_pos ⟨hc, e.symm⟩] at h1
      rw [h6, h3, h1, nd, if_pos e]
      rfl
    · rw [if_neg (fun z => e z.2.symm)] at h1
      rw [nd, if_neg e, ndv_map]
      by_cases e2 : dk < pVoice p n law
      · have g1 : ¬ zcmp (pVoice p n law) dk = -1 := fun z => Int32.lt_asymm e2 (zcmp_m1.mp z)
        rw [if_neg (fun z => g1 z.2)] at h3
        rw [if_pos ⟨hc, zcmp_p1.mpr e2⟩] at h6
        rw [h6, h3, h1, if_pos e2]
      · have e3 : pVoice p n law < dk := by
          rcases Int32.lt_or_eq_of_le (Int32.not_lt.mp e2) with q | q
          · exact q
          · exact absurd q e
        have g2 : ¬ zcmp (pVoice p n law) dk = 1 := fun z => e2 (zcmp_p1.mp z)
        rw [if_neg (fun z => g2 z.2)] at h6
        rw [if_pos ⟨hc, zcmp_m1.mpr e3⟩] at h3
        rw [h6, h3, h1, if_neg e2]
  · rw [if_neg hc]
    rw [if_neg (fun z => hc z.1)] at h6 h3 h1
    rw [h6, h3, h1]
set_option maxHeartbeats 4000000 in
set_option maxRecDepth 100000 in
theorem mX7_branch {l : Launch} {G : zG} {b : Nat} {hv : Int32 → Int32 → Int32 → Int32} {n : Nat} : ∀ (j d : Nat) (_ : d + j = 11) (M : zM) (gl : List Nat) (_ : brPre M d n gl hv), zMet l G b yX7_branch cX7_branch 7 none (5 + j) zshL zshL [.ref (b + 54), .int (nI d)] M (zV (fun M' => brP M M' d n gl hv)) := by
  intro j
  induction j with
  | zero =>
    intro d hdj M gl hpre
    refine zMet.of (L0 := [some (.ref (b + 54)), some (.int (nI d)), none, none, none, none, none]) (by decide +kernel) (Nat.le_refl _) (Nat.le_refl _) (Nat.le_of_ble_eq_true rfl) (List.forall_mem_cons.mpr ⟨rfl, List.forall_mem_cons.mpr ⟨rfl, fun _ h => absurd h List.not_mem_nil⟩⟩) rfl (fun X C Al K => ?_)
    obtain ⟨hg, hs, hn, hn8, hS, hop, hhe, hr1, hr2⟩ := hpre
    have hd0 : d < 12 := by omega
    have hw : 2 + d < 14 := by omega
    have hgl := hg.1
    have first : (∀ (M1 : zM) (q5 q6 : Option Value), (∀ k, k < 100 → M1 18 0 0 k = if k ∈ gl ∧ pFm (nI k + M 5 (2 + d) 0 5 * nI d) = pVoice (M 1 (2 + d)) n (M 5 (2 + d) 0 4) then nI (d + 1) else M 18 0 0 k) → (∀ a, a ≠ 18 → M1 a = M a) → zW X zshL M1 68 [some (.ref (b + 54)), some (.int (nI d)), some (.ref (b + adW (2 + d))), some (.int (pVoice (M 1 (2 + d)) n (M 5 (2 + d) 0 4))), some (.int (nI d + 1)), q5, q6] []) → zW X zshL M 20 [some (.ref (b + 54)), some (.int (nI d)), some (.ref (b + adW (2 + d))), some (.int (pVoice (M 1 (2 + d)) n (M 5 (2 + d) 0 4))), some (.int (nI d + 1)), some (.int (nI 0)), none] [] := by
      intro fin
      have loop : ∀ (j i : Nat) (M1 : zM) (q6 : Option Value), i + j = gl.length → (∀ k, k < 100 → M1 18 0 0 k = if k ∈ gl.take i ∧ pFm (nI k + M 5 (2 + d) 0 5 * nI d) = pVoice (M 1 (2 + d)) n (M 5 (2 + d) 0 4) then nI (d + 1) else M 18 0 0 k) → (∀ a, a ≠ 18 → M1 a = M a) → zW X zshL M1 20 [some (.ref (b + 54)), some (.int (nI d)), some (.ref (b + adW (2 + d))), some (.int (pVoice (M 1 (2 + d)) n (M 5 (2 + d) 0 4))), some (.int (nI d + 1)), some (.int (nI i)), q6] [] := by
        intro j
        induction j with
        | zero =>
          intro i M1 q6 hi hk hf
          have hs1 : M1 17 0 0 d = nI gl.length := by rw [hf 17 (by decide)]; exact hs
          refine z_iload (pc := 20) C 5 dX7_branch_20 rfl ?_
          refine z_aload_n (pc := 22) C 0 dX7_branch_22 rfl rfl ?_
          refine z_getR (pc := 23) (r := 69) C dX7_branch_23 fX7_22 sh_54 rfl ?_
          refine z_iload_n (pc := 26) C 1 dX7_branch_26 rfl rfl ?_
          refine z_iald (pc := 27) (n := d) C dX7_branch_27 sh_69 (vp_in_nI (by omega) (by omega)) (nI_clamp (by omega)) ?_
          refine z_icmp_ge (pc := 28) C 68 dX7_branch_28 (by decide) (fun c28 => ?_) (fun c28 => absurd (zlt hs1 (by omega) (by omega)) c28)
          have et : gl.take i = gl := List.take_of_length_le (by omega)
          rw [et] at hk
          exact fin M1 _ _ hk hf
        | succ j ih =>
          intro i M1 q6 hi hk hf
          have hs1 : M1 17 0 0 d = nI gl.length := by rw [hf 17 (by decide)]; exact hs
          obtain ⟨k0, hk0⟩ : ∃ k, gl[i]? = some k := ⟨_, List.getElem?_eq_getElem (by omega)⟩
          obtain ⟨hk1, hk2⟩ := hg.2 i k0 hk0
          have hk3 : M1 16 d 0 i = nI k0 := by rw [hf 16 (by decide)]; exact hk2
          have hdr : M1 5 = M 5 := hf 5 (by decide)
          refine z_iload (pc := 20) C 5 dX7_branch_20 rfl ?_
          refine z_aload_n (pc := 22) C 0 dX7_branch_22 rfl rfl ?_
          refine z_getR (pc := 23) (r := 69) C dX7_branch_23 fX7_22 sh_54 rfl ?_
          refine z_iload_n (pc := 26) C 1 dX7_branch_26 rfl rfl ?_
          refine z_iald (pc := 27) (n := d) C dX7_branch_27 sh_69 (vp_in_nI (by omega) (by omega)) (nI_clamp (by omega)) ?_
          refine z_icmp_ge (pc := 28) C 68 dX7_branch_28 (by decide) (fun c28 => absurd c28 (zlf hs1 (by omega) (by omega))) (fun c28 => ?_)
          refine z_aload_n (pc := 31) C 0 dX7_branch_31 rfl rfl ?_
          refine z_getR (pc := 32) (r := 56) C dX7_branch_32 fX7_19 sh_54 rfl ?_
          refine z_iload_n (pc := 35) C 1 dX7_branch_35 rfl rfl ?_
          refine z_aald (pc := 36) (r := 57 + d) C dX7_branch_36 sh_56 rfl rfl (vp_in_nI (by omega) (by decide)) (gget hd0) ?_
          refine z_iload (pc := 37) C 5 dX7_branch_37 rfl ?_
          refine z_iald (pc := 39) (n := i) C dX7_branch_39 (shG hd0) (vp_in_nI (by omega) (by omega)) (nI_clamp (by omega)) ?_
          rw [hk3]
          refine z_istore (pc := 40) C 6 dX7_branch_40 (by decide) rfl ?_
          refine z_aload_n (pc := 42) C 2 dX7_branch_42 rfl rfl ?_
          refine z_iload (pc := 43) C 6 dX7_branch_43 rfl ?_
          refine z_iload_n (pc := 45) C 1 dX7_branch_45 rfl rfl ?_
          refine z_callVi (pc := 46) C dX7_branch_46 kX7_58 (mX8_drifted hw) (by omega) (shW hw) rfl rfl rfl (Nat.le_of_ble_eq_true rfl) (fun r46 M46 h46 => ?_)
          obtain ⟨rfl, e46⟩ := h46
          subst M46
          rw [hdr]
          refine z_iload_n (pc := 49) C 3 dX7_branch_49 rfl rfl ?_
          refine z_icmp_ne (pc := 50) C 62 dX7_branch_50 (by decide) (fun c50 => ?_) (fun c50 => ?_)
          · refine z_iinc (pc := 62) (v := 1) C 5 dX7_branch_62 (by decide) rfl rfl rfl ?_
            refine z_goto (pc := 65) C 20 dX7_branch_65 (by decide) ?_
            have e := ih (i + 1) M1 (some (.int (nI k0))) (by omega) (fun k hk9 => ?_) hf
            · rw [nI_succ i] at e
              exact e
            · rw [hk k hk9, take_snoc hk0]
              by_cases ek : k = k0
              · subst ek
                rw [if_neg (fun z => c50 z.2), if_neg (fun z => c50 z.2)]
              · have em : k ∈ gl.take i ++ [k0] ↔ k ∈ gl.take i := by simp [ek]
                simp only [em]
          · refine z_aload_n (pc := 53) C 0 dX7_branch_53 rfl rfl ?_
            refine z_getR (pc := 54) (r := 70) C dX7_branch_54 fX7_26 sh_54 rfl ?_
            refine z_iload (pc := 57) C 6 dX7_branch_57 rfl ?_
            refine z_iload (pc := 59) C 4 dX7_branch_59 rfl ?_
            refine z_iast (pc := 61) (n := k0) C dX7_branch_61 sh_70 (vp_in_nI (by omega) (by omega)) (nI_clamp (by omega)) ?_
            refine z_iinc (pc := 62) (v := 1) C 5 dX7_branch_62 (by decide) rfl rfl rfl ?_
            refine z_goto (pc := 65) C 20 dX7_branch_65 (by decide) ?_
            have e := ih (i + 1) (zu M1 18 0 0 k0 (nI d + 1)) (some (.int (nI k0))) (by omega) (fun k hk9 => ?_) (fun a ha => (zu_a ha).trans (hf a ha))
            · rw [nI_succ i] at e
              exact e
            · rw [take_snoc hk0]
              by_cases ek : k = k0
              · subst ek
                rw [zu_self, if_pos ⟨by simp, c50⟩, nI_1]
              · have em : k ∈ gl.take i ++ [k0] ↔ k ∈ gl.take i := by simp [ek]
                rw [zu_f ek, hk k hk9]
                simp only [em]
      exact loop gl.length 0 M _ (by omega) (fun k _ => by simp) (fun _ _ => rfl)
    refine z_aload_n (pc := 0) C 0 dX7_branch_0 rfl rfl ?_
    refine z_getR (pc := 1) (r := 55) C dX7_branch_1 fX7_11 sh_54 rfl ?_
    refine z_iload_n (pc := 4) C 1 dX7_branch_4 rfl rfl ?_
    refine z_aald (pc := 5) (r := adW (2 + d)) C dX7_branch_5 sh_55 rfl rfl (vp_in_nI (by omega) (by decide)) (wget hd0) ?_
    refine z_astore_n (pc := 6) C 2 dX7_branch_6 rfl (by decide) rfl ?_
    refine z_aload_n (pc := 7) C 2 dX7_branch_7 rfl rfl ?_
    refine z_callVi (pc := 8) C dX7_branch_8 kX7_54 (mX8_voice hw hn hn8) (by omega) (shW hw) rfl rfl rfl (Nat.le_of_ble_eq_true rfl) (fun r8 M8 h8 => ?_)
    obtain ⟨rfl, e8⟩ := h8
    subst M8
    refine z_istore_n (pc := 11) C 3 dX7_branch_11 rfl (by decide) rfl ?_
    refine z_iload_n (pc := 12) C 1 dX7_branch_12 rfl rfl ?_
    refine z_iconst (pc := 13) (v := 1) C dX7_branch_13 rfl ?_
    refine z_iadd (pc := 14) C dX7_branch_14 ?_
    refine z_istore (pc := 15) C 4 dX7_branch_15 (by decide) rfl ?_
    refine z_iconst (pc := 17) (v := 0) C dX7_branch_17 rfl ?_
    refine z_istore (pc := 18) C 5 dX7_branch_18 (by decide) rfl ?_
    refine first (fun M1 q5 q6 hk1 hf1 => ?_)
    obtain rfl : d = 11 := by omega
    refine z_iload (pc := 68) C 4 dX7_branch_68 rfl ?_
    refine z_bipush (pc := 70) (v := 12) C dX7_branch_70 rfl ?_
    refine z_icmp_lt (pc := 72) C 76 dX7_branch_72 (by decide) (fun c72 => absurd c72 (by decide)) (fun c72 => ?_)
    refine z_return (pc := 75) C K dX7_branch_75 ?_
    refine ⟨rfl, fun k hk => ?_, fun a x y f z => ?_⟩
    · rw [hk1 k hk]
      by_cases hm : k ∈ gl
      · rw [if_pos hm]
        show _ = ndv (nd hv n (M 5 (2 + 11) 0 4) (M 5 (2 + 11) 0 5) 1 (M 1 (2 + 11)) (pFm (nI k + M 5 (2 + 11) 0 5 * nI 11))) 11 (M 18 0 0 k)
        rw [nd, nd]
        by_cases e : pFm (nI k + M 5 (2 + 11) 0 5 * nI 11) = pVoice (M 1 (2 + 11)) n (M 5 (2 + 11) 0 4)
        · rw [if_pos ⟨hm, e⟩, if_pos e.symm]
          rfl
        · rw [if_neg (fun z => e z.2), if_neg (fun z => e z.symm)]
          rfl
      · rw [if_neg hm, if_neg (fun z => hm z.1)]
    · rw [hf1 a (fun q => z (Or.inr (Or.inr (Or.inr (Or.inr q)))))]
  | succ j ih =>
    intro d hdj M gl hpre
    refine zMet.of (L0 := [some (.ref (b + 54)), some (.int (nI d)), none, none, none, none, none]) (by decide +kernel) (Nat.le_refl _) (Nat.le_refl _) (Nat.le_of_ble_eq_true rfl) (List.forall_mem_cons.mpr ⟨rfl, List.forall_mem_cons.mpr ⟨rfl, fun _ h => absurd h List.not_mem_nil⟩⟩) rfl (fun X C Al K => ?_)
    obtain ⟨hg, hs, hn, hn8, hS, hop, hhe, hr1, hr2⟩ := hpre
    have hd0 : d < 12 := by omega
    have hw : 2 + d < 14 := by omega
    have hgl := hg.1
    have halfN : ∀ (M2 : zM) (q6 : Option Value), (∀ a x y f, ¬ bCh d a x f → M2 a x y f = M a x y f) → (∀ (M3 : zM) (r6 : Option Value), (∀ k, k < 100 → M3 18 0 0 k = if k ∈ gl ∧ zcmp (pVoice (M 1 (2 + d)) n (M 5 (2 + d) 0 4)) (pFm (nI k + M 5 (2 + d) 0 5 * nI d)) = (-1) then ndv (nd hv n (M 5 (2 + d) 0 4) (M 5 (2 + d) 0 5) (11 - d) (pAll hv (pVoice (M 1 (2 + d)) n (M 5 (2 + d) 0 4)) 0 n (M 1 (2 + d))) (pFm (pFm (nI k + M 5 (2 + d) 0 5 * nI d) + M 5 (2 + d) 0 5 * 1))) (d + 1) (M2 18 0 0 k) else M2 18 0 0 k) → (∀ a x y f, ¬ bCh d a x f → M3 a x y f = M a x y f) → zW X zshL M3 148 [some (.ref (b + 54)), some (.int (nI d)), some (.ref (b + adW (2 + d))), some (.int (pVoice (M 1 (2 + d)) n (M 5 (2 + d) 0 4))), some (.int (nI d + 1)), some (.int (-1)), r6] []) → zW X zshL M2 85 [some (.ref (b + 54)), some (.int (nI d)), some (.ref (b + adW (2 + d))), some (.int (pVoice (M 1 (2 + d)) n (M 5 (2 + d) 0 4))), some (.int (nI d + 1)), some (.int (-1)), q6] [] := by
      intro M2 q6 hf fin
      have o16 : ∀ y f, M2 16 d y f = M 16 d y f := fun y f => hf 16 d y f (by unfold bCh; omega)
      have o5 : ∀ y f, M2 5 (2 + d) y f = M 5 (2 + d) y f := fun y f => hf 5 (2 + d) y f (by unfold bCh; omega)
      have o1 : ∀ y f, M2 1 (2 + d) y f = M 1 (2 + d) y f := fun y f => hf 1 (2 + d) y f (by unfold bCh; omega)
      have o6 : ∀ y f, M2 6 (2 + d) y f = M 6 (2 + d) y f := fun y f => hf 6 (2 + d) y f (by unfold bCh; omega)
      have o8 : M2 8 = M 8 := by funext x y f; exact hf 8 x y f (by unfold bCh; omega)
      have o9 : M2 9 = M 9 := by funext x y f; exact hf 9 x y f (by unfold bCh; omega)
      have hg2 : grp M2 d gl := ⟨hg.1, fun i k h => ⟨(hg.2 i k h).1, by rw [o16]; exact (hg.2 i k h).2⟩⟩
      have hs2 : M2 17 0 0 d = nI gl.length := by rw [hf 17 0 0 d (by unfold bCh; omega)]; exact hs
      have hd1 : d + 1 < 12 := by omega
      have hw1 : 2 + (d + 1) < 14 := by omega
      have hfl : (gl.filter (gP (pVoice (M 1 (2 + d)) n (M 5 (2 + d) 0 4)) (M 5 (2 + d) 0 5) (-1) d)).length ≤ 100 := Nat.le_trans (List.length_filter_le _ _) hg.1
      refine z_aload_n (pc := 85) C 0 dX7_branch_85 rfl rfl ?_
      refine z_getR (pc := 86) (r := 69) C dX7_branch_86 fX7_22 sh_54 rfl ?_
      refine z_iload (pc := 89) C 4 dX7_branch_89 rfl ?_
      refine z_aload_n (pc := 91) C 0 dX7_branch_91 rfl rfl ?_
      refine z_iload_n (pc := 92) C 1 dX7_branch_92 rfl rfl ?_
      refine z_iload_n (pc := 93) C 3 dX7_branch_93 rfl rfl ?_
      refine z_iload (pc := 94) C 5 dX7_branch_94 rfl ?_
      refine z_callVi (pc := 96) C dX7_branch_96 kX7_61 (mX7_gather hd1 hg2 hs2) (by omega) sh_54 rfl rfl rfl (Nat.le_of_ble_eq_true rfl) (fun r96v M96 h96 => ?_)
      obtain ⟨r96, g96, f96⟩ := h96
      rw [o5] at r96 g96
      refine z_iast (pc := 99) (n := d + 1) C dX7_branch_99 sh_69 (by rw [nI_1]; exact vp_in_nI (by omega) (by omega)) (by rw [nI_1]; exact nI_clamp (by omega)) ?_
      refine z_aload_n (pc := 100) C 0 dX7_branch_100 rfl rfl ?_
      refine z_getR (pc := 101) (r := 69) C dX7_branch_101 fX7_22 sh_54 rfl ?_
      refine z_iload (pc := 104) C 4 dX7_branch_104 rfl ?_
      refine z_iald (pc := 106) (n := d + 1) C dX7_branch_106 sh_69 (by rw [nI_1]; exact vp_in_nI (by omega) (by omega)) (by rw [nI_1]; exact nI_clamp (by omega)) ?_
      refine z_if_le (pc := 107) C 148 dX7_branch_107 (by decide) (fun c107 => ?_) (fun c107 => ?_)
      · have hF0 : (gl.filter (gP (pVoice (M 1 (2 + d)) n (M 5 (2 + d) 0 4)) (M 5 (2 + d) 0 5) (-1) d)) = [] := by
          rcases Nat.eq_zero_or_pos (gl.filter (gP (pVoice (M 1 (2 + d)) n (M 5 (2 + d) 0 4)) (M 5 (2 + d) 0 5) (-1) d)).length with z | z
          · exact List.length_eq_zero_iff.mp z
          · rw [zu_self, r96] at c107
            exact absurd c107 (nI_nle z (by omega))
        refine fin _ _ (fun k hk => ?_) (fun a x y f z => ?_)
        · rw [zu_a (by decide), f96 18 0 0 k (fun z => absurd z.1 (by decide)), if_neg]
          intro z
          have hm : k ∈ (gl.filter (gP (pVoice (M 1 (2 + d)) n (M 5 (2 + d) 0 4)) (M 5 (2 + d) 0 5) (-1) d)) := List.mem_filter.mpr ⟨z.1, decide_eq_true z.2⟩
          rw [hF0] at hm
          exact List.not_mem_nil hm
        · rw [zu_ne _ _ (fun q => z (by unfold bCh; omega)), f96 a x y f (fun q => z (by unfold bCh; omega))]
          exact hf a x y f z
      · refine z_aload_n (pc := 110) C 0 dX7_branch_110 rfl rfl ?_
        refine z_getR (pc := 111) (r := 55) C dX7_branch_111 fX7_11 sh_54 rfl ?_
        refine z_iload (pc := 114) C 4 dX7_branch_114 rfl ?_
        refine z_aald (pc := 116) (r := adW (2 + (d + 1))) C dX7_branch_116 sh_55 rfl rfl (by rw [nI_1]; exact vp_in_nI (by omega) (by decide)) (by rw [nI_1]; exact wget hd1) ?_
        refine z_aload_n (pc := 117) C 2 dX7_branch_117 rfl rfl ?_
        have p5 : ∀ y f, zu M96 17 0 0 (d + 1) r96v 5 (2 + d) y f = M 5 (2 + d) y f := fun y f => by rw [zu_a (by decide), f96 5 (2 + d) y f (fun z => absurd z.1 (by decide)), o5]
        have p1 : ∀ y f, zu M96 17 0 0 (d + 1) r96v 1 (2 + d) y f = M 1 (2 + d) y f := fun y f => by rw [zu_a (by decide), f96 1 (2 + d) y f (fun z => absurd z.1 (by decide)), o1]
        refine z_callVv (pc := 118) C dX7_branch_118 kX7_32 (mX8_become hw1 hw (by omega) (by rw [p5]; exact hn) hn8 (by rw [p5]; exact hop) (fun i hi => by rw [p1]; exact hhe i hi)) (by omega) (shW hw1) rfl rfl rfl (Nat.le_of_ble_eq_true rfl) (fun M118 h118 => ?_)
        obtain ⟨w1, w2, w3, w4⟩ := h118
        have s2 : M118 5 (2 + (d + 1)) 0 2 = nI n := by rw [w2 2 (by decide) (by decide), p5]; exact hn
        have hS4 : okS M118 (M118 6 (2 + (d + 1)) 0 0) hv := by
          rw [w3 0 (by decide), zu_a (by decide), f96 6 (2 + d) 0 0 (fun z => absurd z.1 (by decide)), o6]
          refine okS.on ?_ ?_ hS
          · funext x y f
            rw [w4 8 x y f (by unfold wOut; omega), zu_a (by decide), f96 8 x y f (fun z => absurd z.1 (by decide)), o8]
          · funext x y f
            rw [w4 9 x y f (by unfold wOut; omega), zu_a (by decide), f96 9 x y f (fun z => absurd z.1 (by decide)), o9]
        refine z_aload_n (pc := 121) C 0 dX7_branch_121 rfl rfl ?_
        refine z_getR (pc := 122) (r := 55) C dX7_branch_122 fX7_11 sh_54 rfl ?_
        refine z_iload (pc := 125) C 4 dX7_branch_125 rfl ?_
        refine z_aald (pc := 127) (r := adW (2 + (d + 1))) C dX7_branch_127 sh_55 rfl rfl (by rw [nI_1]; exact vp_in_nI (by omega) (by decide)) (by rw [nI_1]; exact wget hd1) ?_
        refine z_iload_n (pc := 128) C 3 dX7_branch_128 rfl rfl ?_
        refine z_iload (pc := 129) C 5 dX7_branch_129 rfl ?_
        refine z_if_le (pc := 131) C 138 dX7_branch_131 (by decide) (fun c131 => ?_) (fun c131 => absurd (by decide) c131)
        refine z_iconst (pc := 138) (v := 0) C dX7_branch_138 rfl ?_
        refine z_callVv (pc := 139) C dX7_branch_139 kX7_65 (mX8_spread hw1 s2 hn8 hS4) (by omega) (shW hw1) rfl rfl rfl (Nat.le_of_ble_eq_true rfl) (fun M139 h139 => ?_)
        have s2b : M139 5 (2 + (d + 1)) 0 2 = nI n := by rw [h139 5 (by decide), sM_o (by decide)]; exact s2
        have s4 : M139 5 (2 + (d + 1)) 0 4 = M 5 (2 + d) 0 4 := by rw [h139 5 (by decide), sM_o (by decide), w2 4 (by decide) (by decide), p5]
        have s5 : M139 5 (2 + (d + 1)) 0 5 = M 5 (2 + d) 0 5 := by rw [h139 5 (by decide), sM_o (by decide), w2 5 (by decide) (by decide), p5]
        have hpre5 : brPre M139 (d + 1) n (gl.filter (gP (pVoice (M 1 (2 + d)) n (M 5 (2 + d) 0 4)) (M 5 (2 + d) 0 5) (-1) d)) hv := by
          refine ⟨⟨g96.1, fun i k hik => ⟨(g96.2 i k hik).1, ?_⟩⟩, ?_, s2b, hn8, ?_, ?_, fun i hi => ?_, by rw [s5]; exact hr1, by rw [s5]; exact hr2⟩
          · rw [h139 16 (by decide), sM_o (by decide), w4 16 (d + 1) 0 i (by unfold wOut; omega), zu_a (by decide)]
            exact (g96.2 i k hik).2
          · rw [h139 17 (by decide), sM_o (by decide), w4 17 0 0 (d + 1) (by unfold wOut; omega), zu_self, r96]
          · rw [h139 6 (by decide), sM_o (by decide)]
            exact okS.on (by rw [h139 8 (by decide), sM_o (by decide)]) (by rw [h139 9 (by decide), sM_o (by decide)]) hS4
          · rw [h139 5 (by decide), sM_o (by decide), w2 7 (by decide) (by decide), p5]
            exact hop
          · rw [h139 1 (by decide), sM_in hi, pPe_6, w1 i 6 hi (by decide), p1]
            exact hhe i hi
        have hbr := ih (d + 1) (by omega) M139 (gl.filter (gP (pVoice (M 1 (2 + d)) n (M 5 (2 + d) 0 4)) (M 5 (2 + d) 0 5) (-1) d)) hpre5
        rw [nI_succ] at hbr
        refine z_aload_n (pc := 142) C 0 dX7_branch_142 rfl rfl ?_
        refine z_iload (pc := 143) C 4 dX7_branch_143 rfl ?_
        refine z_callVv (pc := 145) C dX7_branch_145 kX7_50 hbr (by omega) sh_54 rfl rfl rfl (Nat.le_of_ble_eq_true rfl) (fun M145 h145 => ?_)
        obtain ⟨b1, b2⟩ := h145
        refine fin _ _ (fun k hk => ?_) (fun a x y f z => ?_)
        · have q18 : M139 18 0 0 k = M2 18 0 0 k := by rw [h139 18 (by decide), sM_o (by decide), w4 18 0 0 k (by unfold wOut; omega), zu_a (by decide), f96 18 0 0 k (fun z => absurd z.1 (by decide))]
          have m5 : ∀ y f, y < n → f < 7 → M139 1 (2 + (d + 1)) y f = pAll hv (pVoice (M 1 (2 + d)) n (M 5 (2 + d) 0 4)) 0 n (M 1 (2 + d)) y f := by
            intro y f hy hf7
            rw [h139 1 (by decide), sM_in hy, pAll, if_pos hy]
            exact pPe_c (fun g hg7 => by rw [w1 y g hy hg7, zu_a (by decide), f96 1 (2 + d) y g (fun z => absurd z.1 (by decide)), o1]) hv _ _ f hf7
          rw [b1 k hk, q18, s4, s5, show 12 - (d + 1) = 11 - d by omega, nd_c _ m5, ← pFm_next (by omega) (by omega) hr1 hr2]
          have em : k ∈ (gl.filter (gP (pVoice (M 1 (2 + d)) n (M 5 (2 + d) 0 4)) (M 5 (2 + d) 0 5) (-1) d)) ↔ k ∈ gl ∧ zcmp (pVoice (M 1 (2 + d)) n (M 5 (2 + d) 0 4)) (pFm (nI k + M 5 (2 + d) 0 5 * nI d)) = (-1) := by
            rw [List.mem_filter]
            exact ⟨fun z => ⟨z.1, of_decide_eq_true z.2⟩, fun z => ⟨z.1, decide_eq_true z.2⟩⟩
          by_cases hm : k ∈ (gl.filter (gP (pVoice (M 1 (2 + d)) n (M 5 (2 + d) 0 4)) (M 5 (2 + d) 0 5) (-1) d))
          · rw [if_pos hm, if_pos (em.mp hm)]
          · rw [if_neg hm, if_neg (fun z => hm (em.mpr z))]
        · rw [b2 a x y f (fun q => z (by unfold bCh at q ⊢; omega)), h139 a (fun q => z (by unfold bCh; omega))]
          by_cases ex : a = 1 ∧ x = 2 + (d + 1)
          · exact absurd (Or.inl ⟨Or.inl ex.1, by omega, by omega⟩) z
          · have es : sM M118 (2 + (d + 1)) (pVoice (M 1 (2 + d)) n (M 5 (2 + d) 0 4)) 0 hv n a x y f = M118 a x y f := if_neg (fun q => ex ⟨q.1, q.2.1⟩)
            rw [es, w4 a x y f (by unfold wOut; unfold bCh at z; omega), zu_ne _ _ (fun q => z (by unfold bCh; omega)), f96 a x y f (fun q => z (by unfold bCh; omega))]
            exact hf a x y f z
    have halfP : ∀ (M2 : zM) (q6 : Option Value), (∀ a x y f, ¬ bCh d a x f → M2 a x y f = M a x y f) → (∀ (M3 : zM) (r6 : Option Value), (∀ k, k < 100 → M3 18 0 0 k = if k ∈ gl ∧ zcmp (pVoice (M 1 (2 + d)) n (M 5 (2 + d) 0 4)) (pFm (nI k + M 5 (2 + d) 0 5 * nI d)) = 1 then ndv (nd hv n (M 5 (2 + d) 0 4) (M 5 (2 + d) 0 5) (11 - d) (pAll hv (pVoice (M 1 (2 + d)) n (M 5 (2 + d) 0 4)) 1 n (M 1 (2 + d))) (pFm (pFm (nI k + M 5 (2 + d) 0 5 * nI d) + M 5 (2 + d) 0 5 * 1))) (d + 1) (M2 18 0 0 k) else M2 18 0 0 k) → (∀ a x y f, ¬ bCh d a x f → M3 a x y f = M a x y f) → zW X zshL M3 148 [some (.ref (b + 54)), some (.int (nI d)), some (.ref (b + adW (2 + d))), some (.int (pVoice (M 1 (2 + d)) n (M 5 (2 + d) 0 4))), some (.int (nI d + 1)), some (.int 1), r6] []) → zW X zshL M2 85 [some (.ref (b + 54)), some (.int (nI d)), some (.ref (b + adW (2 + d))), some (.int (pVoice (M 1 (2 + d)) n (M 5 (2 + d) 0 4))), some (.int (nI d + 1)), some (.int 1), q6] [] := by
      intro M2 q6 hf fin
      have o16 : ∀ y f, M2 16 d y f = M 16 d y f := fun y f => hf 16 d y f (by unfold bCh; omega)
      have o5 : ∀ y f, M2 5 (2 + d) y f = M 5 (2 + d) y f := fun y f => hf 5 (2 + d) y f (by unfold bCh; omega)
      have o1 : ∀ y f, M2 1 (2 + d) y f = M 1 (2 + d) y f := fun y f => hf 1 (2 + d) y f (by unfold bCh; omega)
      have o6 : ∀ y f, M2 6 (2 + d) y f = M 6 (2 + d) y f := fun y f => hf 6 (2 + d) y f (by unfold bCh; omega)
      have o8 : M2 8 = M 8 := by funext x y f; exact hf 8 x y f (by unfold bCh; omega)
      have o9 : M2 9 = M 9 := by funext x y f; exact hf 9 x y f (by unfold bCh; omega)
      have hg2 : grp M2 d gl := ⟨hg.1, fun i k h => ⟨(hg.2 i k h).1, by rw [o16]; exact (hg.2 i k h).2⟩⟩
      have hs2 : M2 17 0 0 d = nI gl.length := by rw [hf 17 0 0 d (by unfold bCh; omega)]; exact hs
      have hd1 : d + 1 < 12 := by omega
      have hw1 : 2 + (d + 1) < 14 := by omega
      have hfl : (gl.filter (gP (pVoice (M 1 (2 + d)) n (M 5 (2 + d) 0 4)) (M 5 (2 + d) 0 5) 1 d)).length ≤ 100 := Nat.le_trans (List.length_filter_le _ _) hg.1
      refine z_aload_n (pc := 85) C 0 dX7_branch_85 rfl rfl ?_
      refine z_getR (pc := 86) (r := 69) C dX7_branch_86 fX7_22 sh_54 rfl ?_
      refine z_iload (pc := 89) C 4 dX7_branch_89 rfl ?_
      refine z_aload_n (pc := 91) C 0 dX7_branch_91 rfl rfl ?_
      refine z_iload_n (pc := 92) C 1 dX7_branch_92 rfl rfl ?_
      refine z_iload_n (pc := 93) C 3 dX7_branch_93 rfl rfl ?_
      refine z_iload (pc := 94) C 5 dX7_branch_94 rfl ?_
      refine z_callVi (pc := 96) C dX7_branch_96 kX7_61 (mX7_gather hd1 hg2 hs2) (by omega) sh_54 rfl rfl rfl (Nat.le_of_ble_eq_true rfl) (fun r96v M96 h96 => ?_)
      obtain ⟨r96, g96, f96⟩ := h96
      rw [o5] at r96 g96
      refine z_iast (pc := 99) (n := d + 1) C dX7_branch_99 sh_69 (by rw [nI_1]; exact vp_in_nI (by omega) (by omega)) (by rw [nI_1]; exact nI_clamp (by omega)) ?_
      refine z_aload_n (pc := 100) C 0 dX7_branch_100 rfl rfl ?_
      refine z_getR (pc := 101) (r := 69) C dX7_branch_101 fX7_22 sh_54 rfl ?_
      refine z_iload (pc := 104) C 4 dX7_branch_104 rfl ?_
      refine z_iald (pc := 106) (n := d + 1) C dX7_branch_106 sh_69 (by rw [nI_1]; exact vp_in_nI (by omega) (by omega)) (by rw [nI_1]; exact nI_clamp (by omega)) ?_
      refine z_if_le (pc := 107) C 148 dX7_branch_107 (by decide) (fun c107 => ?_) (fun c107 => ?_)
      · have hF0 : (gl.filter (gP (pVoice (M 1 (2 + d)) n (M 5 (2 + d) 0 4)) (M 5 (2 + d) 0 5) 1 d)) = [] := by
          rcases Nat.eq_zero_or_pos (gl.filter (gP (pVoice (M 1 (2 + d)) n (M 5 (2 + d) 0 4)) (M 5 (2 + d) 0 5) 1 d)).length with z | z
          · exact List.length_eq_zero_iff.mp z
          · rw [zu_self, r96] at c107
            exact absurd c107 (nI_nle z (by omega))
        refine fin _ _ (fun k hk => ?_) (fun a x y f z => ?_)
        · rw [zu_a (by decide), f96 18 0 0 k (fun z => absurd z.1 (by decide)), if_neg]
          intro z
          have hm : k ∈ (gl.filter (gP (pVoice (M 1 (2 + d)) n (M 5 (2 + d) 0 4)) (M 5 (2 + d) 0 5) 1 d)) := List.mem_filter.mpr ⟨z.1, decide_eq_true z.2⟩
          rw [hF0] at hm
          exact List.not_mem_nil hm
        · rw [zu_ne _ _ (fun q => z (by unfold bCh; omega)), f96 a x y f (fun q => z (by unfold bCh; omega))]
          exact hf a x y f z
      · refine z_aload_n (pc := 110) C 0 dX7_branch_110 rfl rfl ?_
        refine z_getR (pc := 111) (r := 55) C dX7_branch_111 fX7_11 sh_54 rfl ?_
        refine z_iload (pc := 114) C 4 dX7_branch_114 rfl ?_
        refine z_aald (pc := 116) (r := adW (2 + (d + 1))) C dX7_branch_116 sh_55 rfl rfl (by rw [nI_1]; exact vp_in_nI (by omega) (by decide)) (by rw [nI_1]; exact wget hd1) ?_
        refine z_aload_n (pc := 117) C 2 dX7_branch_117 rfl rfl ?_
        have p5 : ∀ y f, zu M96 17 0 0 (d + 1) r96v 5 (2 + d) y f = M 5 (2 + d) y f := fun y f => by rw [zu_a (by decide), f96 5 (2 + d) y f (fun z => absurd z.1 (by decide)), o5]
        have p1 : ∀ y f, zu M96 17 0 0 (d + 1) r96v 1 (2 + d) y f = M 1 (2 + d) y f := fun y f => by rw [zu_a (by decide), f96 1 (2 + d) y f (fun z => absurd z.1 (by decide)), o1]
        refine z_callVv (pc := 118) C dX7_branch_118 kX7_32 (mX8_become hw1 hw (by omega) (by rw [p5]; exact hn) hn8 (by rw [p5]; exact hop) (fun i hi => by rw [p1]; exact hhe i hi)) (by omega) (shW hw1) rfl rfl rfl (Nat.le_of_ble_eq_true rfl) (fun M118 h118 => ?_)
        obtain ⟨w1, w2, w3, w4⟩ := h118
        have s2 : M118 5 (2 + (d + 1)) 0 2 = nI n := by rw [w2 2 (by decide) (by decide), p5]; exact hn
        have hS4 : okS M118 (M118 6 (2 + (d + 1)) 0 0) hv := by
          rw [w3 0 (by decide), zu_a (by decide), f96 6 (2 + d) 0 0 (fun z => absurd z.1 (by decide)), o6]
          refine okS.on ?_ ?_ hS
          · funext x y f
            rw [w4 8 x y f (by unfold wOut; omega), zu_a (by decide), f96 8 x y f (fun z => absurd z.1 (by decide)), o8]
          · funext x y f
            rw [w4 9 x y f (by unfold wOut; omega), zu_a (by decide), f96 9 x y f (fun z => absurd z.1 (by decide)), o9]
        refine z_aload_n (pc := 121) C 0 dX7_branch_121 rfl rfl ?_
        refine z_getR (pc := 122) (r := 55) C dX7_branch_122 fX7_11 sh_54 rfl ?_
        refine z_iload (pc := 125) C 4 dX7_branch_125 rfl ?_
        refine z_aald (pc := 127) (r := adW (2 + (d + 1))) C dX7_branch_127 sh_55 rfl rfl (by rw [nI_1]; exact vp_in_nI (by omega) (by decide)) (by rw [nI_1]; exact wget hd1) ?_
        refine z_iload_n (pc := 128) C 3 dX7_branch_128 rfl rfl ?_
        refine z_iload (pc := 129) C 5 dX7_branch_129 rfl ?_
        refine z_if_le (pc := 131) C 138 dX7_branch_131 (by decide) (fun c131 => absurd c131 (by decide)) (fun c131 => ?_)
        refine z_iconst (pc := 134) (v := 1) C dX7_branch_134 rfl ?_
        refine z_goto (pc := 135) C 139 dX7_branch_135 (by decide) ?_
        refine z_callVv (pc := 139) C dX7_branch_139 kX7_65 (mX8_spread hw1 s2 hn8 hS4) (by omega) (shW hw1) rfl rfl rfl (Nat.le_of_ble_eq_true rfl) (fun M139 h139 => ?_)
        have s2b : M139 5 (2 + (d + 1)) 0 2 = nI n := by rw [h139 5 (by decide), sM_o (by decide)]; exact s2
        have s4 : M139 5 (2 + (d + 1)) 0 4 = M 5 (2 + d) 0 4 := by rw [h139 5 (by decide), sM_o (by decide), w2 4 (by decide) (by decide), p5]
        have s5 : M139 5 (2 + (d + 1)) 0 5 = M 5 (2 + d) 0 5 := by rw [h139 5 (by decide), sM_o (by decide), w2 5 (by decide) (by decide), p5]
        have hpre5 : brPre M139 (d + 1) n (gl.filter (gP (pVoice (M 1 (2 + d)) n (M 5 (2 + d) 0 4)) (M 5 (2 + d) 0 5) 1 d)) hv := by
          refine ⟨⟨g96.1, fun i k hik => ⟨(g96.2 i k hik).1, ?_⟩⟩, ?_, s2b, hn8, ?_, ?_, fun i hi => ?_, by rw [s5]; exact hr1, by rw [s5]; exact hr2⟩
          · rw [h139 16 (by decide), sM_o (by decide), w4 16 (d + 1) 0 i (by unfold wOut; omega), zu_a (by decide)]
            exact (g96.2 i k hik).2
          · rw [h139 17 (by decide), sM_o (by decide), w4 17 0 0 (d + 1) (by unfold wOut; omega), zu_self, r96]
          · rw [h139 6 (by decide), sM_o (by decide)]
            exact okS.on (by rw [h139 8 (by decide), sM_o (by decide)]) (by rw [h139 9 (by decide), sM_o (by decide)]) hS4
          · rw [h139 5 (by decide), sM_o (by decide), w2 7 (by decide) (by decide), p5]
            exact hop
          · rw [h139 1 (by decide), sM_in hi, pPe_6, w1 i 6 hi (by decide), p1]
            exact hhe i hi
        have hbr := ih (d + 1) (by omega) M139 (gl.filter (gP (pVoice (M 1 (2 + d)) n (M 5 (2 + d) 0 4)) (M 5 (2 + d) 0 5) 1 d)) hpre5
        rw [nI_succ] at hbr
        refine z_aload_n (pc := 142) C 0 dX7_branch_142 rfl rfl ?_
        refine z_iload (pc := 143) C 4 dX7_branch_143 rfl ?_
        refine z_callVv (pc := 145) C dX7_branch_145 kX7_50 hbr (by omega) sh_54 rfl rfl rfl (Nat.le_of_ble_eq_true rfl) (fun M145 h145 => ?_)
        obtain ⟨b1, b2⟩ := h145
        refine fin _ _ (fun k hk => ?_) (fun a x y f z => ?_)
        · have q18 : M139 18 0 0 k = M2 18 0 0 k := by rw [h139 18 (by decide), sM_o (by decide), w4 18 0 0 k (by unfold wOut; omega), zu_a (by decide), f96 18 0 0 k (fun z => absurd z.1 (by decide))]
          have m5 : ∀ y f, y < n → f < 7 → M139 1 (2 + (d + 1)) y f = pAll hv (pVoice (M 1 (2 + d)) n (M 5 (2 + d) 0 4)) 1 n (M 1 (2 + d)) y f := by
            intro y f hy hf7
            rw [h139 1 (by decide), sM_in hy, pAll, if_pos hy]
            exact pPe_c (fun g hg7 => by rw [w1 y g hy hg7, zu_a (by decide), f96 1 (2 + d) y g (fun z => absurd z.1 (by decide)), o1]) hv _ _ f hf7
          rw [b1 k hk, q18, s4, s5, show 12 - (d + 1) = 11 - d by omega, nd_c _ m5, ← pFm_next (by omega) (by omega) hr1 hr2]
          have em : k ∈ (gl.filter (gP (pVoice (M 1 (2 + d)) n (M 5 (2 + d) 0 4)) (M 5 (2 + d) 0 5) 1 d)) ↔ k ∈ gl ∧ zcmp (pVoice (M 1 (2 + d)) n (M 5 (2 + d) 0 4)) (pFm (nI k + M 5 (2 + d) 0 5 * nI d)) = 1 := by
            rw [List.mem_filter]
            exact ⟨fun z => ⟨z.1, of_decide_eq_true z.2⟩, fun z => ⟨z.1, decide_eq_true z.2⟩⟩
          by_cases hm : k ∈ (gl.filter (gP (pVoice (M 1 (2 + d)) n (M 5 (2 + d) 0 4)) (M 5 (2 + d) 0 5) 1 d))
          · rw [if_pos hm, if_pos (em.mp hm)]
          · rw [if_neg hm, if_neg (fun z => hm (em.mpr z))]
        · rw [b2 a x y f (fun q => z (by unfold bCh at q ⊢; omega)), h139 a (fun q => z (by unfold bCh; omega))]
          by_cases ex : a = 1 ∧ x = 2 + (d + 1)
          · exact absurd (Or.inl ⟨Or.inl ex.1, by omega, by omega⟩) z
          · have es : sM M118 (2 + (d + 1)) (pVoice (M 1 (2 + d)) n (M 5 (2 + d) 0 4)) 1 hv n a x y f = M118 a x y f := if_neg (fun q => ex ⟨q.1, q.2.1⟩)
            rw [es, w4 a x y f (by unfold wOut; unfold bCh at z; omega), zu_ne _ _ (fun q => z (by unfold bCh; omega)), f96 a x y f (fun q => z (by unfold bCh; omega))]
            exact hf a x y f z
    have first : (∀ (M1 : zM) (q5 q6 : Option Value), (∀ k, k < 100 → M1 18 0 0 k = if k ∈ gl ∧ pFm (nI k + M 5 (2 + d) 0 5 * nI d) = pVoice (M 1 (2 + d)) n (M 5 (2 + d) 0 4) then nI (d + 1) else M 18 0 0 k) → (∀ a, a ≠ 18 → M1 a = M a) → zW X zshL M1 68 [some (.ref (b + 54)), some (.int (nI d)), some (.ref (b + adW (2 + d))), some (.int (pVoice (M 1 (2 + d)) n (M 5 (2 + d) 0 4))), some (.int (nI d + 1)), q5, q6] []) → zW X zshL M 20 [some (.ref (b + 54)), some (.int (nI d)), some (.ref (b + adW (2 + d))), some (.int (pVoice (M 1 (2 + d)) n (M 5 (2 + d) 0 4))), some (.int (nI d + 1)), some (.int (nI 0)), none] [] := by
      intro fin
      have loop : ∀ (j i : Nat) (M1 : zM) (q6 : Option Value), i + j = gl.length → (∀ k, k < 100 → M1 18 0 0 k = if k ∈ gl.take i ∧ pFm (nI k + M 5 (2 + d) 0 5 * nI d) = pVoice (M 1 (2 + d)) n (M 5 (2 + d) 0 4) then nI (d + 1) else M 18 0 0 k) → (∀ a, a ≠ 18 → M1 a = M a) → zW X zshL M1 20 [some (.ref (b + 54)), some (.int (nI d)), some (.ref (b + adW (2 + d))), some (.int (pVoice (M 1 (2 + d)) n (M 5 (2 + d) 0 4))), some (.int (nI d + 1)), some (.int (nI i)), q6] [] := by
        intro j
        induction j with
        | zero =>
          intro i M1 q6 hi hk hf
          have hs1 : M1 17 0 0 d = nI gl.length := by rw [hf 17 (by decide)]; exact hs
          refine z_iload (pc := 20) C 5 dX7_branch_20 rfl ?_
          refine z_aload_n (pc := 22) C 0 dX7_branch_22 rfl rfl ?_
          refine z_getR (pc := 23) (r := 69) C dX7_branch_23 fX7_22 sh_54 rfl ?_
          refine z_iload_n (pc := 26) C 1 dX7_branch_26 rfl rfl ?_
          refine z_iald (pc := 27) (n := d) C dX7_branch_27 sh_69 (vp_in_nI (by omega) (by omega)) (nI_clamp (by omega)) ?_
          refine z_icmp_ge (pc := 28) C 68 dX7_branch_28 (by decide) (fun c28 => ?_) (fun c28 => absurd (zlt hs1 (by omega) (by omega)) c28)
          have et : gl.take i = gl := List.take_of_length_le (by omega)
          rw [et] at hk
          exact fin M1 _ _ hk hf
        | succ j ih =>
          intro i M1 q6 hi hk hf
          have hs1 : M1 17 0 0 d = nI gl.length := by rw [hf 17 (by decide)]; exact hs
          obtain ⟨k0, hk0⟩ : ∃ k, gl[i]? = some k := ⟨_, List.getElem?_eq_getElem (by omega)⟩
          obtain ⟨hk1, hk2⟩ := hg.2 i k0 hk0
          have hk3 : M1 16 d 0 i = nI k0 := by rw [hf 16 (by decide)]; exact hk2
          have hdr : M1 5 = M 5 := hf 5 (by decide)
          refine z_iload (pc := 20) C 5 dX7_branch_20 rfl ?_
          refine z_aload_n (pc := 22) C 0 dX7_branch_22 rfl rfl ?_
          refine z_getR (pc := 23) (r := 69) C dX7_branch_23 fX7_22 sh_54 rfl ?_
          refine z_iload_n (pc := 26) C 1 dX7_branch_26 rfl rfl ?_
          refine z_iald (pc := 27) (n := d) C dX7_branch_27 sh_69 (vp_in_nI (by omega) (by omega)) (nI_clamp (by omega)) ?_
          refine z_icmp_ge (pc := 28) C 68 dX7_branch_28 (by decide) (fun c28 => absurd c28 (zlf hs1 (by omega) (by omega))) (fun c28 => ?_)
          refine z_aload_n (pc := 31) C 0 dX7_branch_31 rfl rfl ?_
          refine z_getR (pc := 32) (r := 56) C dX7_branch_32 fX7_19 sh_54 rfl ?_
          refine z_iload_n (pc := 35) C 1 dX7_branch_35 rfl rfl ?_
          refine z_aald (pc := 36) (r := 57 + d) C dX7_branch_36 sh_56 rfl rfl (vp_in_nI (by omega) (by decide)) (gget hd0) ?_
          refine z_iload (pc := 37) C 5 dX7_branch_37 rfl ?_
          refine z_iald (pc := 39) (n := i) C dX7_branch_39 (shG hd0) (vp_in_nI (by omega) (by omega)) (nI_clamp (by omega)) ?_
          rw [hk3]
          refine z_istore (pc := 40) C 6 dX7_branch_40 (by decide) rfl ?_
          refine z_aload_n (pc := 42) C 2 dX7_branch_42 rfl rfl ?_
          refine z_iload (pc := 43) C 6 dX7_branch_43 rfl ?_
          refine z_iload_n (pc := 45) C 1 dX7_branch_45 rfl rfl ?_
          refine z_callVi (pc := 46) C dX7_branch_46 kX7_58 (mX8_drifted hw) (by omega) (shW hw) rfl rfl rfl (Nat.le_of_ble_eq_true rfl) (fun r46 M46 h46 => ?_)
          obtain ⟨rfl, e46⟩ := h46
          subst M46
          rw [hdr]
          refine z_iload_n (pc := 49) C 3 dX7_branch_49 rfl rfl ?_
          refine z_icmp_ne (pc := 50) C 62 dX7_branch_50 (by decide) (fun c50 => ?_) (fun c50 => ?_)
          · refine z_iinc (pc := 62) (v := 1) C 5 dX7_branch_62 (by decide) rfl rfl rfl ?_
            refine z_goto (pc := 65) C 20 dX7_branch_65 (by decide) ?_
            have e := ih (i + 1) M1 (some (.int (nI k0))) (by omega) (fun k hk9 => ?_) hf
            · rw [nI_succ i] at e
              exact e
            · rw [hk k hk9, take_snoc hk0]
              by_cases ek : k = k0
              · subst ek
                rw [if_neg (fun z => c50 z.2), if_neg (fun z => c50 z.2)]
              · have em : k ∈ gl.take i ++ [k0] ↔ k ∈ gl.take i := by simp [ek]
                simp only [em]
          · refine z_aload_n (pc := 53) C 0 dX7_branch_53 rfl rfl ?_
            refine z_getR (pc := 54) (r := 70) C dX7_branch_54 fX7_26 sh_54 rfl ?_
            refine z_iload (pc := 57) C 6 dX7_branch_57 rfl ?_
            refine z_iload (pc := 59) C 4 dX7_branch_59 rfl ?_
            refine z_iast (pc := 61) (n := k0) C dX7_branch_61 sh_70 (vp_in_nI (by omega) (by omega)) (nI_clamp (by omega)) ?_
            refine z_iinc (pc := 62) (v := 1) C 5 dX7_branch_62 (by decide) rfl rfl rfl ?_
            refine z_goto (pc := 65) C 20 dX7_branch_65 (by decide) ?_
            have e := ih (i + 1) (zu M1 18 0 0 k0 (nI d + 1)) (some (.int (nI k0))) (by omega) (fun k hk9 => ?_) (fun a ha => (zu_a ha).trans (hf a ha))
            · rw [nI_succ i] at e
              exact e
            · rw [take_snoc hk0]
              by_cases ek : k = k0
              · subst ek
                rw [zu_self, if_pos ⟨by simp, c50⟩, nI_1]
              · have em : k ∈ gl.take i ++ [k0] ↔ k ∈ gl.take i := by simp [ek]
                rw [zu_f ek, hk k hk9]
                simp only [em]
      exact loop gl.length 0 M _ (by omega) (fun k _ => by simp) (fun _ _ => rfl)
    refine z_aload_n (pc := 0) C 0 dX7_branch_0 rfl rfl ?_
    refine z_getR (pc := 1) (r := 55) C dX7_branch_1 fX7_11 sh_54 rfl ?_
    refine z_iload_n (pc := 4) C 1 dX7_branch_4 rfl rfl ?_
    refine z_aald (pc := 5) (r := adW (2 + d)) C dX7_branch_5 sh_55 rfl rfl (vp_in_nI (by omega) (by decide)) (wget hd0) ?_
    refine z_astore_n (pc := 6) C 2 dX7_branch_6 rfl (by decide) rfl ?_
    refine z_aload_n (pc := 7) C 2 dX7_branch_7 rfl rfl ?_
    refine z_callVi (pc := 8) C dX7_branch_8 kX7_54 (mX8_voice hw hn hn8) (by omega) (shW hw) rfl rfl rfl (Nat.le_of_ble_eq_true rfl) (fun r8 M8 h8 => ?_)
    obtain ⟨rfl, e8⟩ := h8
    subst M8
    refine z_istore_n (pc := 11) C 3 dX7_branch_11 rfl (by decide) rfl ?_
    refine z_iload_n (pc := 12) C 1 dX7_branch_12 rfl rfl ?_
    refine z_iconst (pc := 13) (v := 1) C dX7_branch_13 rfl ?_
    refine z_iadd (pc := 14) C dX7_branch_14 ?_
    refine z_istore (pc := 15) C 4 dX7_branch_15 (by decide) rfl ?_
    refine z_iconst (pc := 17) (v := 0) C dX7_branch_17 rfl ?_
    refine z_istore (pc := 18) C 5 dX7_branch_18 (by decide) rfl ?_
    refine first (fun M1 q5 q6 hk1 hf1 => ?_)
    refine z_iload (pc := 68) C 4 dX7_branch_68 rfl ?_
    refine z_bipush (pc := 70) (v := 12) C dX7_branch_70 rfl ?_
    refine z_icmp_lt (pc := 72) C 76 dX7_branch_72 (by decide) (fun c72 => ?_) (fun c72 => absurd (by rw [nI_1]; exact nI_lt (b := 12) (by omega) (by omega)) c72)
    refine z_iconst (pc := 76) (v := -1) C dX7_branch_76 rfl ?_
    refine z_istore (pc := 77) C 5 dX7_branch_77 (by decide) rfl ?_
    refine z_iload (pc := 79) C 5 dX7_branch_79 rfl ?_
    refine z_iconst (pc := 81) (v := 1) C dX7_branch_81 rfl ?_
    refine z_icmp_gt (pc := 82) C 154 dX7_branch_82 (by decide) (fun c82 => absurd c82 (by decide)) (fun c82 => ?_)
    refine halfN M1 _ (fun a x y f z => by rw [hf1 a (fun q => z (by unfold bCh; omega))]) (fun M3 r6 hk3 hf3 => ?_)
    refine z_iinc (pc := 148) (v := 2) C 5 dX7_branch_148 (by decide) rfl rfl rfl ?_
    refine z_goto (pc := 151) C 79 dX7_branch_151 (by decide) ?_
    have e5 : ((-1 : Int32) + 2) = 1 := by decide
    rw [e5]
    refine z_iload (pc := 79) C 5 dX7_branch_79 rfl ?_
    refine z_iconst (pc := 81) (v := 1) C dX7_branch_81 rfl ?_
    refine z_icmp_gt (pc := 82) C 154 dX7_branch_82 (by decide) (fun c82 => absurd c82 (by decide)) (fun c82 => ?_)
    refine halfP M3 _ hf3 (fun M6 r7 hk6 hf6 => ?_)
    refine z_iinc (pc := 148) (v := 2) C 5 dX7_branch_148 (by decide) rfl rfl rfl ?_
    refine z_goto (pc := 151) C 79 dX7_branch_151 (by decide) ?_
    have e6 : ((1 : Int32) + 2) = 3 := by decide
    rw [e6]
    refine z_iload (pc := 79) C 5 dX7_branch_79 rfl ?_
    refine z_iconst (pc := 81) (v := 1) C dX7_branch_81 rfl ?_
    refine z_icmp_gt (pc := 82) C 154 dX7_branch_82 (by decide) (fun c82 => ?_) (fun c82 => absurd (by decide) c82)
    refine z_return (pc := 154) C K dX7_branch_154 ?_
    refine ⟨rfl, fun k hk => ?_, hf6⟩
    have e := br_join (hv := hv) (n := n) (law := M 5 (2 + d) 0 4) (dr := M 5 (2 + d) 0 5) (j := 11 - d) (d := d) (p := M 1 (2 + d)) (dk := pFm (nI k + M 5 (2 + d) 0 5 * nI d)) (m0 := M 18 0 0 k) (c := k ∈ gl) (hk1 k hk) (hk3 k hk) (hk6 k hk)
    rw [show 11 - d + 1 = 12 - d by omega] at e
    exact e
