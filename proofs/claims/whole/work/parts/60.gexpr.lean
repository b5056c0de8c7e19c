/-! THE REFERENCE's READER: an expression by a stack -/
def cntA : List Int32 → Nat
  | [] => 0
  | c :: l => (if c < 0 then 0 else 1) + cntA l
theorem cntA_app : ∀ (l l2 : List Int32), cntA (l ++ l2) = cntA l + cntA l2
  | [], l2 => (Nat.zero_add _).symm
  | c :: l, l2 => by
    rw [List.cons_append, cntA, cntA, cntA_app l l2, Nat.add_assoc]
/-- nots stand only where a piece is wanted -/
def nq : Nat → List Int32 → Prop
  | _, [] => True
  | f, g :: W => if g = -11 then nq 1 W else if g = -10 then (f = 1 ∧ nq 1 W) else nq 0 W
theorem nq_01 : ∀ {W : List Int32}, nq 0 W → nq 1 W
  | [], _ => trivial
  | g :: W, h => by
    unfold nq at h ⊢
    by_cases h1 : g = -11
    · rw [if_pos h1] at h ⊢
      exact h
    · rw [if_neg h1] at h ⊢
      by_cases h2 : g = -10
      · rw [if_pos h2] at h
        exact absurd h.1 (by decide)
      · rw [if_neg h2] at h ⊢
        exact h
theorem nq_stl {r : Nat} : ∀ (W o : List Int32), nq 0 W → nq 0 (stl r W o).1 ∧ cntN (stl r W o).1 = cntN W
  | [], _, _ => ⟨trivial, rfl⟩
  | g :: W, o, h => by
    rw [stl]
    by_cases c : ¬ g = -11 ∧ r ≤ rk g
    · rw [if_pos c]
      unfold nq at h
      rw [if_neg c.1] at h
      by_cases h2 : g = -10
      · rw [if_pos h2] at h
        exact absurd h.1 (by decide)
      · rw [if_neg h2] at h
        have e := nq_stl (r := r) W (o ++ [g]) h
        refine ⟨e.1, ?_⟩
        rw [e.2, cntN, if_neg h2, Nat.zero_add]
    · rw [if_neg c]
      exact ⟨h, rfl⟩
theorem nq_6 : ∀ (W o : List Int32), nq 1 W → nq 0 (stl 6 W o).1
  | [], _, _ => trivial
  | g :: W, o, h => by
    rw [stl]
    by_cases c : ¬ g = -11 ∧ 6 ≤ rk g
    · rw [if_pos c]
      unfold nq at h
      rw [if_neg c.1] at h
      by_cases h2 : g = -10
      · rw [if_pos h2] at h
        exact nq_6 W (o ++ [g]) h.2
      · rw [if_neg h2] at h
        exact nq_6 W (o ++ [g]) (nq_01 h)
    · rw [if_neg c]
      unfold nq at h ⊢
      by_cases h1 : g = -11
      · rw [if_pos h1] at h ⊢
        exact h
      · rw [if_neg h1] at h ⊢
        have h2 : ¬ g = -10 := fun z => c ⟨h1, by rw [z]; decide⟩
        rw [if_neg h2] at h ⊢
        exact h
def allN (W : List Int32) : Prop := ∀ g ∈ W, g < 0
theorem stl_neg {r : Nat} : ∀ (W o : List Int32), allN W → allN (stl r W o).1 ∧ cntA (stl r W o).2 = cntA o
  | [], _, h => ⟨h, rfl⟩
  | g :: W, o, h => by
    rw [stl]
    have hg := h g List.mem_cons_self
    have hW : allN W := fun d hd => h d (List.mem_cons_of_mem _ hd)
    by_cases c : ¬ g = -11 ∧ r ≤ rk g
    · rw [if_pos c]
      have e := stl_neg (r := r) W (o ++ [g]) hW
      refine ⟨e.1, ?_⟩
      rw [e.2, cntA_app, cntA, if_pos hg]
      rfl
    · rw [if_neg c]
      exact ⟨h, rfl⟩
theorem cntN_le : ∀ (W : List Int32), cntN W ≤ W.length
  | [] => Nat.le_refl _
  | g :: W => by
    have := cntN_le W
    rw [cntN, List.length_cons]
    split <;> omega
def fE (M M' : zM) : Prop := ∀ a i j f, ¬ ((a = 30 ∧ ((8 ≤ f ∧ f ≤ 12) ∨ f = 17 ∨ f = 18 ∨ f = 20)) ∨ a = 39 ∨ a = 40 ∨ a = 41) → M' a i j f = M a i j f
theorem fE.rfl' {M : zM} : fE M M := fun _ _ _ _ _ => rfl
theorem fP.e {M M' : zM} (h : fP M M') : fE M M' := fun a i j f z => h a i j f (fun q => z (by omega))
theorem fE.trans {M M' M2 : zM} (h : fE M M') (h' : fE M' M2) : fE M M2 := fun a i j f z => (h' a i j f z).trans (h a i j f z)
theorem fE.z {M M' : zM} (h : fE M M') : zSc M M' := fun a x y f z => h a x y f (fun q => z (by unfold scr; omega))
theorem gtp.e {M M' : zM} {B : Nat → Int32} {t : Nat} (h : gtp M B t) (hf : fE M M') : gtp M' B t := ⟨by rw [hf 30 0 0 7 (by omega)]; exact h.1, h.2.1, fun i hi => by rw [hf 36 0 0 i (by omega)]; exact h.2.2 i hi⟩
def eSt (M : zM) (B : Nat → Int32) (t : Nat) (x : Lx) (w : Nat) (W o : List Int32) (p : Nat) (te : Nat → Int32) (M1 : zM) : Prop := lOK B t x ∧ gst M1 B x ∧ gW M1 W ∧ gO M1 o ∧ M1 30 0 0 18 = nI (cntA o) ∧ (∀ q, q ≤ p → M1 41 0 0 q = te q ∧ (te q = 0 ∨ te q = 1)) ∧ p ≤ 8 ∧ o.length + W.length + 3 ≤ x.1 ∧ allN W ∧ nq w W ∧ fE M M1
theorem ladv_lt {B : Nat → Int32} {t : Nat} {x : Lx} (hk : lOK B t x) (h0 : ¬ x.2.2.1 = 0) : lOK B t (ladv B t x) ∧ x.1 < (ladv B t x).1 := by
  have e := ladv_ok (B := B) (x := x) hk.2.1
  have hlt := lOK_lt hk h0
  have := (lend_b (B := B) (s := x.1) (t := t) (by omega)).2.2 hlt
  have e2 := hk.2.2.2.1
  exact ⟨e.1, by omega⟩
theorem gst.on {M M' : zM} {B : Nat → Int32} {x : Lx} (h : gst M B x) (hf : ∀ f, 8 ≤ f → f ≤ 12 → M' 30 0 0 f = M 30 0 0 f) : gst M' B x := by
  obtain ⟨g1, g2, g3, g4, g5, g6⟩ := h
  refine ⟨by rw [hf 9 (by decide) (by decide)]; exact g1, by rw [hf 8 (by decide) (by decide)]; exact g2, by rw [hf 10 (by decide) (by decide)]; exact g3, fun z => by rw [hf 11 (by decide) (by decide)]; exact g4 z, fun z w => by rw [hf 11 (by decide) (by decide)]; exact g5 z w, fun z => ?_⟩
  have e := g6 z
  unfold eInv at e ⊢
  rw [hf 12 (by decide) (by decide)]
  exact e
theorem tc_b {B : Nat → Int32} {ky t : Nat} {x : Lx} (hk : lOK B t x) (hB : ∀ i, i < t → iin (B i) 0 255) {c : Int32} (hc : 0 ≤ c.toInt ∧ c.toInt ≤ 255) : ltc B ky x = 20000 + c ↔ (x.2.2.1 = 3 ∧ B x.1 = c) := by
  rw [← sgn_eq hk hB hc]
  unfold sgn
  by_cases h3 : x.2.2.1 = 3
  · rw [if_pos h3]
    exact ⟨fun z => ⟨h3, z⟩, fun z => z.2⟩
  · rw [if_neg h3]
    refine ⟨fun z => ?_, fun z => absurd z.1 h3⟩
    rw [← z, im1] at hc
    omega
/-- what takesE comes to, by what reading by levels comes to -/
def ebad (tc : Lx → Int32) (r : Lx ⊕ (Lx × List Int32)) (y : Lx) : Prop := r = .inl y ∨ ∃ l, r = .inr (y, l) ∧ ¬ tc y = -1
def egood (tc : Lx → Int32) (r : Lx ⊕ (Lx × List Int32)) (l : List Int32) : Prop := ∃ y, r = .inr (y, l) ∧ tc y = -1
def PT (M : zM) (tc : Lx → Int32) (r0 : Lx ⊕ (Lx × List Int32)) (v : Int32) (M' : zM) : Prop := ((∃ y, ebad tc r0 y ∧ v = 0 ∧ M' 30 0 0 9 = nI y.1) ∨ ∃ l, egood tc r0 l ∧ v = 1 ∧ gO M' (l.map tr) ∧ M' 30 0 0 18 = nI (cntA (l.map tr))) ∧ fE M M'
set_option maxHeartbeats 800000 in
set_option maxRecDepth 100000 in
theorem mX10_takesE {l : Launch} {G : zG} {b : Nat} {M : zM} {B : Nat → Int32} {ky t : Nat} (hT : gtp M B t) (hky : M 30 0 0 13 = nI ky) (hk3 : ky < 3) {x0 : Lx} (hx0 : lOK B t x0) (h3x : 3 ≤ x0.1) (hg0 : gst M B x0) {f0 : Nat} {r0 : Lx ⊕ (Lx × List Int32)} (hp0 : pP (ltc B ky) (ladv B t) f0 0 0 0 x0 = some r0) : zMet l G b yX10_takesE cX10_takesE 5 (some .boolean) 3 zshL zshL [.ref (b + 239)] M (zI (PT M (ltc B ky) r0)) := by
  refine zMet.of (L0 := [some (.ref (b + 239)), none, none, none, none]) (by decide +kernel) (Nat.le_refl _) (Nat.le_refl _) (Nat.le_of_ble_eq_true rfl) (List.forall_mem_cons.mpr ⟨rfl, fun _ h => absurd h List.not_mem_nil⟩) rfl (fun X C Al K => ?_)
  have hB : ∀ i, i < t → iin (B i) 0 255 := fun i hi => (hT.2.2 i hi).2
  have h96 := hT.2.1
  generalize hH : (fun (x : Lx) (w : Nat) (W o : List Int32) (p : Nat) (te : Nat → Int32) => ∀ (M1 : zM) (q4 : Option Value), eSt M B t x w W o p te M1 → zW X zshL M1 28 [some (.ref (b + 239)), some (.int (nI p)), some (.int (nI (cntN W))), some (.int (nI w)), q4] []) = H
  have unH : ∀ x w W o p te, H x w W o p te = ∀ (M1 : zM) (q4 : Option Value), eSt M B t x w W o p te M1 → zW X zshL M1 28 [some (.ref (b + 239)), some (.int (nI p)), some (.int (nI (cntN W))), some (.int (nI w)), q4] [] := by
    intro x w W o p te
    rw [← hH]
  have wantS : ∀ x W o p te, ((0 ≤ ltc B ky x ∧ ltc B ky x < 20000) → H (ladv B t x) 0 (stl 6 W (o ++ [ltc B ky x])).1 (stl 6 W (o ++ [ltc B ky x])).2 p te) → (ltc B ky x = 20033 → cntN W < 8 → H (ladv B t x) 1 (-10 :: W) o p te) → (ltc B ky x = 20040 → p < 8 → H (ladv B t x) 1 (-11 :: W) o (p + 1) (tup te (p + 1) 0)) → (¬ (0 ≤ ltc B ky x ∧ ltc B ky x < 20000) → ¬ (ltc B ky x = 20033 ∧ cntN W < 8) → ¬ (ltc B ky x = 20040 ∧ p < 8) → ebad (ltc B ky) r0 x) → H x 1 W o p te := by
    intro x W o p te a1 a2 a3 a4
    rw [unH] at a1 a2 a3 ⊢
    intro M1 q4 hS
    obtain ⟨hk, hg, hW, hO, hA, hte, hp8, hlen, hneg, hnq, hf⟩ := hS
    have hT1 := hT.e hf
    have hky1 : M1 30 0 0 13 = nI ky := by rw [hf 30 0 0 13 (by omega)]; exact hky
    have hx96 := hk.1
    have hx96' := hk.2.1
    have hcN := cntN_le W
    have b33 := tc_b (ky := ky) hk hB (c := 33) (by decide)
    have b40 := tc_b (ky := ky) hk hB (c := 40) (by decide)
    rw [show (20000 : Int32) + 33 = 20033 by decide] at b33
    rw [show (20000 : Int32) + 40 = 20040 by decide] at b40
    have eN : (nI (cntN W)).toInt = cntN W := nI_toInt (by omega)
    have ep : (nI p).toInt = p := nI_toInt (by omega)
    refine z_iload_n (pc := 28) C 3 dX10_takesE_28 rfl rfl ?_
    refine z_if_ne (pc := 29) C 39 dX10_takesE_29 (by decide) (fun c29 => ?_) (fun c29 => absurd c29 (by decide))
    refine z_iload_n (pc := 39) C 3 dX10_takesE_39 rfl rfl ?_
    refine z_if_eq (pc := 40) C 180 dX10_takesE_40 (by decide) (fun c40 => absurd c40 (by decide)) (fun c40 => ?_)
    refine z_aload_n (pc := 43) C 0 dX10_takesE_43 rfl rfl ?_
    refine z_getI (pc := 44) C dX10_takesE_44 fX10_218 sh_239 rfl ?_
    refine z_iconst (pc := 47) (v := 3) C dX10_takesE_47 rfl ?_
    rw [hg.2.2.1]
    refine z_icmp_ne (pc := 48) C 97 dX10_takesE_48 (by decide) (fun c48 => ?_) (fun c48 => ?_)
    · refine z_aload_n (pc := 97) C 0 dX10_takesE_97 rfl rfl ?_
      refine z_getI (pc := 98) C dX10_takesE_98 fX10_218 sh_239 rfl ?_
      refine z_iconst (pc := 101) (v := 3) C dX10_takesE_101 rfl ?_
      rw [hg.2.2.1]
      refine z_icmp_ne (pc := 102) C 158 dX10_takesE_102 (by decide) (fun c102 => ?_) (fun c102 => absurd c102 c48)
      refine z_aload_n (pc := 158) C 0 dX10_takesE_158 rfl rfl ?_
      refine z_callVi (pc := 159) C dX10_takesE_159 kX10_254 (mX10_takesPart hT1 hg hk hky1 hk3 hW hO (by omega) hA) (by decide) sh_239 rfl rfl rfl (Nat.le_of_ble_eq_true rfl) (fun r159 M159 h159 => ?_)
      refine z_if_eq (pc := 162) C 170 dX10_takesE_162 (by decide) (fun c162 => ?_) (fun c162 => ?_)
      · refine z_iconst (pc := 170) (v := 0) C dX10_takesE_170 rfl ?_
        refine z_zreturn (pc := 171) C K dX10_takesE_171 (Or.inl rfl) ?_
        rcases h159 with ⟨w1, w2, w3⟩ | ⟨w1, w2, -⟩
        · subst M159
          exact ⟨_, rfl, Or.inl ⟨x, a4 w1 (fun z => c48 (tok_3.mpr (b33.mp z.1).1)) (fun z => c48 (tok_3.mpr (b40.mp z.1).1)), rfl, hg.1⟩, hf⟩
        · exact absurd (w2.symm.trans c162) (by decide)
      · rcases h159 with ⟨w1, w2, w3⟩ | ⟨w1, w2, w3, w4, w5, w6, w7⟩
        · exact absurd w2 c162
        have hlen2 := stl_len 6 W (o ++ [ltc B ky x])
        rw [List.length_append, List.length_singleton] at hlen2
        have h0 : ¬ x.2.2.1 = 0 := fun z => by
          have q := (ltc_end (ky := ky) hk hB).mp z
          rw [q] at w1
          exact absurd w1.1 (by decide)
        have hlt := lOK_lt hk h0
        refine z_iconst (pc := 165) (v := 0) C dX10_takesE_165 rfl ?_
        refine z_istore_n (pc := 166) C 3 dX10_takesE_166 rfl (by decide) rfl ?_
        refine z_goto (pc := 167) C 172 dX10_takesE_167 (by decide) ?_
        refine z_aload_n (pc := 172) C 0 dX10_takesE_172 rfl rfl ?_
        refine z_callVi (pc := 173) C dX10_takesE_173 kX10_257 (mX10_notsOpen w4 (by omega)) (by decide) sh_239 rfl rfl rfl (Nat.le_of_ble_eq_true rfl) (fun r173 M173 h173 => ?_)
        obtain ⟨rfl, e173⟩ := h173
        subst M173
        refine z_istore_n (pc := 176) C 2 dX10_takesE_176 rfl (by decide) rfl ?_
        refine z_goto (pc := 177) C 28 dX10_takesE_177 (by decide) ?_
        have e := a1 w1 M159 q4 ⟨(ladv_lt hk h0).1, w3, w4, w5, ?_, fun q hq => ?_, hp8, ?_, (stl_neg W _ hneg).1, nq_6 W _ hnq, hf.trans w7.e⟩
        · exact e
        · rw [w6, (stl_neg W _ hneg).2, cntA_app, cntA, if_neg (Int32.not_lt.mpr w1.1)]
          rfl
        · rw [w7 41 0 0 q (by omega)]
          exact hte q hq
        · have := (ladv_lt hk h0).2
          omega
    · refine z_aload_n (pc := 51) C 0 dX10_takesE_51 rfl rfl ?_
      refine z_getI (pc := 52) C dX10_takesE_52 fX10_224 sh_239 rfl ?_
      refine z_bipush (pc := 55) (v := 33) C dX10_takesE_55 rfl ?_
      rw [hg.2.2.2.1 (Or.inr (tok_3.mp c48))]
      refine z_icmp_ne (pc := 57) C 97 dX10_takesE_57 (by decide) (fun c57 => ?_) (fun c57 => ?_)
      · refine z_aload_n (pc := 97) C 0 dX10_takesE_97 rfl rfl ?_
        refine z_getI (pc := 98) C dX10_takesE_98 fX10_218 sh_239 rfl ?_
        refine z_iconst (pc := 101) (v := 3) C dX10_takesE_101 rfl ?_
        rw [hg.2.2.1]
        refine z_icmp_ne (pc := 102) C 158 dX10_takesE_102 (by decide) (fun c102 => absurd c48 c102) (fun c102 => ?_)
        refine z_aload_n (pc := 105) C 0 dX10_takesE_105 rfl rfl ?_
        refine z_getI (pc := 106) C dX10_takesE_106 fX10_224 sh_239 rfl ?_
        refine z_bipush (pc := 109) (v := 40) C dX10_takesE_109 rfl ?_
        rw [hg.2.2.2.1 (Or.inr (tok_3.mp c48))]
        refine z_icmp_ne (pc := 111) C 158 dX10_takesE_111 (by decide) (fun c111 => ?_) (fun c111 => ?_)
        · refine z_aload_n (pc := 158) C 0 dX10_takesE_158 rfl rfl ?_
          refine z_callVi (pc := 159) C dX10_takesE_159 kX10_254 (mX10_takesPart hT1 hg hk hky1 hk3 hW hO (by omega) hA) (by decide) sh_239 rfl rfl rfl (Nat.le_of_ble_eq_true rfl) (fun r159 M159 h159 => ?_)
          refine z_if_eq (pc := 162) C 170 dX10_takesE_162 (by decide) (fun c162 => ?_) (fun c162 => ?_)
          · refine z_iconst (pc := 170) (v := 0) C dX10_takesE_170 rfl ?_
            refine z_zreturn (pc := 171) C K dX10_takesE_171 (Or.inl rfl) ?_
            rcases h159 with ⟨w1, w2, w3⟩ | ⟨w1, w2, -⟩
            · subst M159
              exact ⟨_, rfl, Or.inl ⟨x, a4 w1 (fun z => c57 (b33.mp z.1).2) (fun z => c111 (b40.mp z.1).2), rfl, hg.1⟩, hf⟩
            · exact absurd (w2.symm.trans c162) (by decide)
          · rcases h159 with ⟨w1, w2, w3⟩ | ⟨w1, w2, w3, w4, w5, w6, w7⟩
            · exact absurd w2 c162
            have hlen2 := stl_len 6 W (o ++ [ltc B ky x])
            rw [List.length_append, List.length_singleton] at hlen2
            have h0 : ¬ x.2.2.1 = 0 := fun z => by
              have q := (ltc_end (ky := ky) hk hB).mp z
              rw [q] at w1
              exact absurd w1.1 (by decide)
            have hlt := lOK_lt hk h0
            refine z_iconst (pc := 165) (v := 0) C dX10_takesE_165 rfl ?_
            refine z_istore_n (pc := 166) C 3 dX10_takesE_166 rfl (by decide) rfl ?_
            refine z_goto (pc := 167) C 172 dX10_takesE_167 (by decide) ?_
            refine z_aload_n (pc := 172) C 0 dX10_takesE_172 rfl rfl ?_
            refine z_callVi (pc := 173) C dX10_takesE_173 kX10_257 (mX10_notsOpen w4 (by omega)) (by decide) sh_239 rfl rfl rfl (Nat.le_of_ble_eq_true rfl) (fun r173 M173 h173 => ?_)
            obtain ⟨rfl, e173⟩ := h173
            subst M173
            refine z_istore_n (pc := 176) C 2 dX10_takesE_176 rfl (by decide) rfl ?_
            refine z_goto (pc := 177) C 28 dX10_takesE_177 (by decide) ?_
            have e := a1 w1 M159 q4 ⟨(ladv_lt hk h0).1, w3, w4, w5, ?_, fun q hq => ?_, hp8, ?_, (stl_neg W _ hneg).1, nq_6 W _ hnq, hf.trans w7.e⟩
            · exact e
            · rw [w6, (stl_neg W _ hneg).2, cntA_app, cntA, if_neg (Int32.not_lt.mpr w1.1)]
              rfl
            · rw [w7 41 0 0 q (by omega)]
              exact hte q hq
            · have := (ladv_lt hk h0).2
              omega
        · refine z_iload_n (pc := 114) C 1 dX10_takesE_114 rfl rfl ?_
          refine z_bipush (pc := 115) (v := 8) C dX10_takesE_115 rfl ?_
          refine z_icmp_ge (pc := 117) C 158 dX10_takesE_117 (by decide) (fun c117 => ?_) (fun c117 => ?_)
          · refine z_aload_n (pc := 158) C 0 dX10_takesE_158 rfl rfl ?_
            refine z_callVi (pc := 159) C dX10_takesE_159 kX10_254 (mX10_takesPart hT1 hg hk hky1 hk3 hW hO (by omega) hA) (by decide) sh_239 rfl rfl rfl (Nat.le_of_ble_eq_true rfl) (fun r159 M159 h159 => ?_)
            refine z_if_eq (pc := 162) C 170 dX10_takesE_162 (by decide) (fun c162 => ?_) (fun c162 => ?_)
            · refine z_iconst (pc := 170) (v := 0) C dX10_takesE_170 rfl ?_
              refine z_zreturn (pc := 171) C K dX10_takesE_171 (Or.inl rfl) ?_
              rcases h159 with ⟨w1, w2, w3⟩ | ⟨w1, w2, -⟩
              · subst M159
                exact ⟨_, rfl, Or.inl ⟨x, a4 w1 (fun z => c57 (b33.mp z.1).2) (fun z => by rw [zi_le, ep, i8] at c117; omega), rfl, hg.1⟩, hf⟩
              · exact absurd (w2.symm.trans c162) (by decide)
            · rcases h159 with ⟨w1, w2, w3⟩ | ⟨w1, w2, w3, w4, w5, w6, w7⟩
              · exact absurd w2 c162
              have hlen2 := stl_len 6 W (o ++ [ltc B ky x])
              rw [List.length_append, List.length_singleton] at hlen2
              have h0 : ¬ x.2.2.1 = 0 := fun z => by
                have q := (ltc_end (ky := ky) hk hB).mp z
                rw [q] at w1
                exact absurd w1.1 (by decide)
              have hlt := lOK_lt hk h0
              refine z_iconst (pc := 165) (v := 0) C dX10_takesE_165 rfl ?_
              refine z_istore_n (pc := 166) C 3 dX10_takesE_166 rfl (by decide) rfl ?_
              refine z_goto (pc := 167) C 172 dX10_takesE_167 (by decide) ?_
              refine z_aload_n (pc := 172) C 0 dX10_takesE_172 rfl rfl ?_
              refine z_callVi (pc := 173) C dX10_takesE_173 kX10_257 (mX10_notsOpen w4 (by omega)) (by decide) sh_239 rfl rfl rfl (Nat.le_of_ble_eq_true rfl) (fun r173 M173 h173 => ?_)
              obtain ⟨rfl, e173⟩ := h173
              subst M173
              refine z_istore_n (pc := 176) C 2 dX10_takesE_176 rfl (by decide) rfl ?_
              refine z_goto (pc := 177) C 28 dX10_takesE_177 (by decide) ?_
              have e := a1 w1 M159 q4 ⟨(ladv_lt hk h0).1, w3, w4, w5, ?_, fun q hq => ?_, hp8, ?_, (stl_neg W _ hneg).1, nq_6 W _ hnq, hf.trans w7.e⟩
              · exact e
              · rw [w6, (stl_neg W _ hneg).2, cntA_app, cntA, if_neg (Int32.not_lt.mpr w1.1)]
                rfl
              · rw [w7 41 0 0 q (by omega)]
                exact hte q hq
              · have := (ladv_lt hk h0).2
                omega
          · have h40 := b40.mpr ⟨tok_3.mp c48, c111⟩
            have h0 : ¬ x.2.2.1 = 0 := by have := tok_3.mp c48; omega
            have hp8' : p < 8 := by
              rw [zi_le, ep, i8] at c117
              omega
            have hlt := lOK_lt hk h0
            refine z_aload_n (pc := 120) C 0 dX10_takesE_120 rfl rfl ?_
            refine z_getR (pc := 121) (r := 249) C dX10_takesE_121 fX10_38 sh_239 rfl ?_
            refine z_aload_n (pc := 124) C 0 dX10_takesE_124 rfl rfl ?_
            refine z_getI (pc := 125) C dX10_takesE_125 fX10_236 sh_239 rfl ?_
            refine z_bipush (pc := 128) (v := -11) C dX10_takesE_128 rfl ?_
            rw [hW.1]
            refine z_iast (pc := 130) (n := W.length) C dX10_takesE_130 sh_249 (vp_in_nI (by omega) (by decide)) (nI_clamp (by omega)) ?_
            refine z_aload_n (pc := 131) C 0 dX10_takesE_131 rfl rfl ?_
            refine z_dup (pc := 132) C dX10_takesE_132 rfl ?_
            refine z_getI (pc := 133) C dX10_takesE_133 fX10_236 sh_239 rfl ?_
            refine z_iconst (pc := 136) (v := 1) C dX10_takesE_136 rfl ?_
            refine z_iadd (pc := 137) C dX10_takesE_137 ?_
            rw [zu_a (by decide), hW.1, nI_1]
            refine z_putII (pc := 138) C dX10_takesE_138 fX10_236 sh_239 rfl ?_
            refine z_iinc (pc := 141) (v := 1) C 1 dX10_takesE_141 (by decide) rfl rfl rfl ?_
            rw [nI_1]
            refine z_aload_n (pc := 144) C 0 dX10_takesE_144 rfl rfl ?_
            refine z_getR (pc := 145) (r := 250) C dX10_takesE_145 fX10_41 sh_239 rfl ?_
            refine z_iload_n (pc := 148) C 1 dX10_takesE_148 rfl rfl ?_
            refine z_iconst (pc := 149) (v := 0) C dX10_takesE_149 rfl ?_
            refine z_zast (pc := 150) (n := p + 1) C dX10_takesE_150 sh_250 (vp_in_nI (by omega) (by decide)) (Or.inl rfl) (nI_clamp (by omega)) ?_
            refine z_aload_n (pc := 151) C 0 dX10_takesE_151 rfl rfl ?_
            refine z_callVv (pc := 152) C dX10_takesE_152 kX10_233 (mX10_go (x := x) (hT1.e (fun a i j f z => by rw [zu_ne _ _ (fun q => z (by omega)), zu_ne _ _ (fun q => z (by omega)), zu_ne _ _ (fun q => z (by omega))])) (by rw [zu_a (by decide), zu_f (by decide), zu_a (by decide)]; exact hg.2.1) hk.2.1 (by have e := hg.2.2.2.2.2 h0; unfold eInv at e ⊢; rw [zu_a (by decide), zu_f (by decide), zu_a (by decide)]; exact e)) (by decide) sh_239 rfl rfl rfl (Nat.le_of_ble_eq_true rfl) (fun M152 h152 => ?_)
            have hfn : fE M M152 := hf.trans (fE.trans (fun a i j f z => by rw [zu_ne _ _ (fun q => z (by omega)), zu_ne _ _ (fun q => z (by omega)), zu_ne _ _ (fun q => z (by omega))]) h152.2.p.e)
            have hW3 : gW M152 (-11 :: W) := by
              refine ⟨by rw [h152.2 30 0 0 20 (by omega)]; rw [zu_a (by decide), zu_self]; rfl, by rw [h152.2 40 0 0 _ (by omega)]; rw [zu_a (by decide), zu_a (by decide), zu_self], ?_⟩
              exact wts.on (M := zu M1 40 0 0 W.length (-11)) (by funext i j f; rw [h152.2 40 i j f (by omega)]; rw [zu_a (by decide), zu_a (by decide)]) (hW.2.push (Nat.le_refl _) _)
            have hO3 : gO M152 o := hO.on (by funext i j f; rw [h152.2 39 i j f (by omega)]; rw [zu_a (by decide), zu_a (by decide), zu_a (by decide)]) (by rw [h152.2 30 0 0 17 (by omega)]; rw [zu_a (by decide), zu_f (by decide), zu_a (by decide)])
            have hA3 : M152 30 0 0 18 = nI (cntA o) := by rw [h152.2 30 0 0 18 (by omega)]; rw [zu_a (by decide), zu_f (by decide), zu_a (by decide)]; exact hA
            have hneg3 : allN (-11 :: W) := fun d hd => by
              rcases List.mem_cons.mp hd with z | z
              · rw [z]; decide
              · exact hneg d z
            have hnq3 : nq 1 (-11 :: W) := by
              unfold nq
              rw [if_pos rfl]
              exact hnq
            refine z_goto (pc := 155) C 172 dX10_takesE_155 (by decide) ?_
            refine z_aload_n (pc := 172) C 0 dX10_takesE_172 rfl rfl ?_
            refine z_callVi (pc := 173) C dX10_takesE_173 kX10_257 (mX10_notsOpen hW3 (by rw [List.length_cons]; omega)) (by decide) sh_239 rfl rfl rfl (Nat.le_of_ble_eq_true rfl) (fun r173 M173 h173 => ?_)
            obtain ⟨rfl, e173⟩ := h173
            subst M173
            refine z_istore_n (pc := 176) C 2 dX10_takesE_176 rfl (by decide) rfl ?_
            refine z_goto (pc := 177) C 28 dX10_takesE_177 (by decide) ?_
            obtain ⟨y1, y2⟩ := h152
            have e := a3 h40 hp8' M152 q4 ⟨(ladv_lt hk h0).1, y1, hW3, hO3, hA3, fun q hq => ?_, by omega, ?_, hneg3, hnq3, hfn⟩
            · exact e
            · rw [y2 41 0 0 q (by omega)]
              by_cases z : q = p + 1
              · rw [z, zu_self, tup_s]
                exact ⟨rfl, Or.inl rfl⟩
              · rw [zu_f z, zu_a (by decide), zu_a (by decide), tup_n z]
                exact hte q (by omega)
            · have := (ladv_lt hk h0).2
              rw [List.length_cons]
              omega
      · refine z_iload_n (pc := 60) C 2 dX10_takesE_60 rfl rfl ?_
        refine z_bipush (pc := 61) (v := 8) C dX10_takesE_61 rfl ?_
        refine z_icmp_ge (pc := 63) C 97 dX10_takesE_63 (by decide) (fun c63 => ?_) (fun c63 => ?_)
        · refine z_aload_n (pc := 97) C 0 dX10_takesE_97 rfl rfl ?_
          refine z_getI (pc := 98) C dX10_takesE_98 fX10_218 sh_239 rfl ?_
          refine z_iconst (pc := 101) (v := 3) C dX10_takesE_101 rfl ?_
          rw [hg.2.2.1]
          refine z_icmp_ne (pc := 102) C 158 dX10_takesE_102 (by decide) (fun c102 => absurd c48 c102) (fun c102 => ?_)
          refine z_aload_n (pc := 105) C 0 dX10_takesE_105 rfl rfl ?_
          refine z_getI (pc := 106) C dX10_takesE_106 fX10_224 sh_239 rfl ?_
          refine z_bipush (pc := 109) (v := 40) C dX10_takesE_109 rfl ?_
          rw [hg.2.2.2.1 (Or.inr (tok_3.mp c48))]
          refine z_icmp_ne (pc := 111) C 158 dX10_takesE_111 (by decide) (fun c111 => ?_) (fun c111 => ?_)
          · refine z_aload_n (pc := 158) C 0 dX10_takesE_158 rfl rfl ?_
            refine z_callVi (pc := 159) C dX10_takesE_159 kX10_254 (mX10_takesPart hT1 hg hk hky1 hk3 hW hO (by omega) hA) (by decide) sh_239 rfl rfl rfl (Nat.le_of_ble_eq_true rfl) (fun r159 M159 h159 => ?_)
            refine z_if_eq (pc := 162) C 170 dX10_takesE_162 (by decide) (fun c162 => ?_) (fun c162 => ?_)
            · refine z_iconst (pc := 170) (v := 0) C dX10_takesE_170 rfl ?_
              refine z_zreturn (pc := 171) C K dX10_takesE_171 (Or.inl rfl) ?_
              rcases h159 with ⟨w1, w2, w3⟩ | ⟨w1, w2, -⟩
              · subst M159
                exact ⟨_, rfl, Or.inl ⟨x, a4 w1 (fun z => by rw [zi_le, eN, i8] at c63; omega) (fun z => c111 (b40.mp z.1).2), rfl, hg.1⟩, hf⟩
              · exact absurd (w2.symm.trans c162) (by decide)
            · rcases h159 with ⟨w1, w2, w3⟩ | ⟨w1, w2, w3, w4, w5, w6, w7⟩
              · exact absurd w2 c162
              have hlen2 := stl_len 6 W (o ++ [ltc B ky x])
              rw [List.length_append, List.length_singleton] at hlen2
              have h0 : ¬ x.2.2.1 = 0 := fun z => by
                have q := (ltc_end (ky := ky) hk hB).mp z
                rw [q] at w1
                exact absurd w1.1 (by decide)
              have hlt := lOK_lt hk h0
              refine z_iconst (pc := 165) (v := 0) C dX10_takesE_165 rfl ?_
              refine z_istore_n (pc := 166) C 3 dX10_takesE_166 rfl (by decide) rfl ?_
              refine z_goto (pc := 167) C 172 dX10_takesE_167 (by decide) ?_
              refine z_aload_n (pc := 172) C 0 dX10_takesE_172 rfl rfl ?_
              refine z_callVi (pc := 173) C dX10_takesE_173 kX10_257 (mX10_notsOpen w4 (by omega)) (by decide) sh_239 rfl rfl rfl (Nat.le_of_ble_eq_true rfl) (fun r173 M173 h173 => ?_)
              obtain ⟨rfl, e173⟩ := h173
              subst M173
              refine z_istore_n (pc := 176) C 2 dX10_takesE_176 rfl (by decide) rfl ?_
              refine z_goto (pc := 177) C 28 dX10_takesE_177 (by decide) ?_
              have e := a1 w1 M159 q4 ⟨(ladv_lt hk h0).1, w3, w4, w5, ?_, fun q hq => ?_, hp8, ?_, (stl_neg W _ hneg).1, nq_6 W _ hnq, hf.trans w7.e⟩
              · exact e
              · rw [w6, (stl_neg W _ hneg).2, cntA_app, cntA, if_neg (Int32.not_lt.mpr w1.1)]
                rfl
              · rw [w7 41 0 0 q (by omega)]
                exact hte q hq
              · have := (ladv_lt hk h0).2
                omega
          · refine z_iload_n (pc := 114) C 1 dX10_takesE_114 rfl rfl ?_
            refine z_bipush (pc := 115) (v := 8) C dX10_takesE_115 rfl ?_
            refine z_icmp_ge (pc := 117) C 158 dX10_takesE_117 (by decide) (fun c117 => ?_) (fun c117 => ?_)
            · refine z_aload_n (pc := 158) C 0 dX10_takesE_158 rfl rfl ?_
              refine z_callVi (pc := 159) C dX10_takesE_159 kX10_254 (mX10_takesPart hT1 hg hk hky1 hk3 hW hO (by omega) hA) (by decide) sh_239 rfl rfl rfl (Nat.le_of_ble_eq_true rfl) (fun r159 M159 h159 => ?_)
              refine z_if_eq (pc := 162) C 170 dX10_takesE_162 (by decide) (fun c162 => ?_) (fun c162 => ?_)
              · refine z_iconst (pc := 170) (v := 0) C dX10_takesE_170 rfl ?_
                refine z_zreturn (pc := 171) C K dX10_takesE_171 (Or.inl rfl) ?_
                rcases h159 with ⟨w1, w2, w3⟩ | ⟨w1, w2, -⟩
                · subst M159
                  exact ⟨_, rfl, Or.inl ⟨x, a4 w1 (fun z => by rw [zi_le, eN, i8] at c63; omega) (fun z => by rw [zi_le, ep, i8] at c117; omega), rfl, hg.1⟩, hf⟩
                · exact absurd (w2.symm.trans c162) (by decide)
              · rcases h159 with ⟨w1, w2, w3⟩ | ⟨w1, w2, w3, w4, w5, w6, w7⟩
                · exact absurd w2 c162
                have hlen2 := stl_len 6 W (o ++ [ltc B ky x])
                rw [List.length_append, List.length_singleton] at hlen2
                have h0 : ¬ x.2.2.1 = 0 := fun z => by
                  have q := (ltc_end (ky := ky) hk hB).mp z
                  rw [q] at w1
                  exact absurd w1.1 (by decide)
                have hlt := lOK_lt hk h0
                refine z_iconst (pc := 165) (v := 0) C dX10_takesE_165 rfl ?_
                refine z_istore_n (pc := 166) C 3 dX10_takesE_166 rfl (by decide) rfl ?_
                refine z_goto (pc := 167) C 172 dX10_takesE_167 (by decide) ?_
                refine z_aload_n (pc := 172) C 0 dX10_takesE_172 rfl rfl ?_
                refine z_callVi (pc := 173) C dX10_takesE_173 kX10_257 (mX10_notsOpen w4 (by omega)) (by decide) sh_239 rfl rfl rfl (Nat.le_of_ble_eq_true rfl) (fun r173 M173 h173 => ?_)
                obtain ⟨rfl, e173⟩ := h173
                subst M173
                refine z_istore_n (pc := 176) C 2 dX10_takesE_176 rfl (by decide) rfl ?_
                refine z_goto (pc := 177) C 28 dX10_takesE_177 (by decide) ?_
                have e := a1 w1 M159 q4 ⟨(ladv_lt hk h0).1, w3, w4, w5, ?_, fun q hq => ?_, hp8, ?_, (stl_neg W _ hneg).1, nq_6 W _ hnq, hf.trans w7.e⟩
                · exact e
                · rw [w6, (stl_neg W _ hneg).2, cntA_app, cntA, if_neg (Int32.not_lt.mpr w1.1)]
                  rfl
                · rw [w7 41 0 0 q (by omega)]
                  exact hte q hq
                · have := (ladv_lt hk h0).2
                  omega
            · have h40 := b40.mpr ⟨tok_3.mp c48, c111⟩
              have h0 : ¬ x.2.2.1 = 0 := by have := tok_3.mp c48; omega
              have hp8' : p < 8 := by
                rw [zi_le, ep, i8] at c117
                omega
              have hlt := lOK_lt hk h0
              refine z_aload_n (pc := 120) C 0 dX10_takesE_120 rfl rfl ?_
              refine z_getR (pc := 121) (r := 249) C dX10_takesE_121 fX10_38 sh_239 rfl ?_
              refine z_aload_n (pc := 124) C 0 dX10_takesE_124 rfl rfl ?_
              refine z_getI (pc := 125) C dX10_takesE_125 fX10_236 sh_239 rfl ?_
              refine z_bipush (pc := 128) (v := -11) C dX10_takesE_128 rfl ?_
              rw [hW.1]
              refine z_iast (pc := 130) (n := W.length) C dX10_takesE_130 sh_249 (vp_in_nI (by omega) (by decide)) (nI_clamp (by omega)) ?_
              refine z_aload_n (pc := 131) C 0 dX10_takesE_131 rfl rfl ?_
              refine z_dup (pc := 132) C dX10_takesE_132 rfl ?_
              refine z_getI (pc := 133) C dX10_takesE_133 fX10_236 sh_239 rfl ?_
              refine z_iconst (pc := 136) (v := 1) C dX10_takesE_136 rfl ?_
              refine z_iadd (pc := 137) C dX10_takesE_137 ?_
              rw [zu_a (by decide), hW.1, nI_1]
              refine z_putII (pc := 138) C dX10_takesE_138 fX10_236 sh_239 rfl ?_
              refine z_iinc (pc := 141) (v := 1) C 1 dX10_takesE_141 (by decide) rfl rfl rfl ?_
              rw [nI_1]
              refine z_aload_n (pc := 144) C 0 dX10_takesE_144 rfl rfl ?_
              refine z_getR (pc := 145) (r := 250) C dX10_takesE_145 fX10_41 sh_239 rfl ?_
              refine z_iload_n (pc := 148) C 1 dX10_takesE_148 rfl rfl ?_
              refine z_iconst (pc := 149) (v := 0) C dX10_takesE_149 rfl ?_
              refine z_zast (pc := 150) (n := p + 1) C dX10_takesE_150 sh_250 (vp_in_nI (by omega) (by decide)) (Or.inl rfl) (nI_clamp (by omega)) ?_
              refine z_aload_n (pc := 151) C 0 dX10_takesE_151 rfl rfl ?_
              refine z_callVv (pc := 152) C dX10_takesE_152 kX10_233 (mX10_go (x := x) (hT1.e (fun a i j f z => by rw [zu_ne _ _ (fun q => z (by omega)), zu_ne _ _ (fun q => z (by omega)), zu_ne _ _ (fun q => z (by omega))])) (by rw [zu_a (by decide), zu_f (by decide), zu_a (by decide)]; exact hg.2.1) hk.2.1 (by have e := hg.2.2.2.2.2 h0; unfold eInv at e ⊢; rw [zu_a (by decide), zu_f (by decide), zu_a (by decide)]; exact e)) (by decide) sh_239 rfl rfl rfl (Nat.le_of_ble_eq_true rfl) (fun M152 h152 => ?_)
              have hfn : fE M M152 := hf.trans (fE.trans (fun a i j f z => by rw [zu_ne _ _ (fun q => z (by omega)), zu_ne _ _ (fun q => z (by omega)), zu_ne _ _ (fun q => z (by omega))]) h152.2.p.e)
              have hW3 : gW M152 (-11 :: W) := by
                refine ⟨by rw [h152.2 30 0 0 20 (by omega)]; rw [zu_a (by decide), zu_self]; rfl, by rw [h152.2 40 0 0 _ (by omega)]; rw [zu_a (by decide), zu_a (by decide), zu_self], ?_⟩
                exact wts.on (M := zu M1 40 0 0 W.length (-11)) (by funext i j f; rw [h152.2 40 i j f (by omega)]; rw [zu_a (by decide), zu_a (by decide)]) (hW.2.push (Nat.le_refl _) _)
              have hO3 : gO M152 o := hO.on (by funext i j f; rw [h152.2 39 i j f (by omega)]; rw [zu_a (by decide), zu_a (by decide), zu_a (by decide)]) (by rw [h152.2 30 0 0 17 (by omega)]; rw [zu_a (by decide), zu_f (by decide), zu_a (by decide)])
              have hA3 : M152 30 0 0 18 = nI (cntA o) := by rw [h152.2 30 0 0 18 (by omega)]; rw [zu_a (by decide), zu_f (by decide), zu_a (by decide)]; exact hA
              have hneg3 : allN (-11 :: W) := fun d hd => by
                rcases List.mem_cons.mp hd with z | z
                · rw [z]; decide
                · exact hneg d z
              have hnq3 : nq 1 (-11 :: W) := by
                unfold nq
                rw [if_pos rfl]
                exact hnq
              refine z_goto (pc := 155) C 172 dX10_takesE_155 (by decide) ?_
              refine z_aload_n (pc := 172) C 0 dX10_takesE_172 rfl rfl ?_
              refine z_callVi (pc := 173) C dX10_takesE_173 kX10_257 (mX10_notsOpen hW3 (by rw [List.length_cons]; omega)) (by decide) sh_239 rfl rfl rfl (Nat.le_of_ble_eq_true rfl) (fun r173 M173 h173 => ?_)
              obtain ⟨rfl, e173⟩ := h173
              subst M173
              refine z_istore_n (pc := 176) C 2 dX10_takesE_176 rfl (by decide) rfl ?_
              refine z_goto (pc := 177) C 28 dX10_takesE_177 (by decide) ?_
              obtain ⟨y1, y2⟩ := h152
              have e := a3 h40 hp8' M152 q4 ⟨(ladv_lt hk h0).1, y1, hW3, hO3, hA3, fun q hq => ?_, by omega, ?_, hneg3, hnq3, hfn⟩
              · exact e
              · rw [y2 41 0 0 q (by omega)]
                by_cases z : q = p + 1
                · rw [z, zu_self, tup_s]
                  exact ⟨rfl, Or.inl rfl⟩
                · rw [zu_f z, zu_a (by decide), zu_a (by decide), tup_n z]
                  exact hte q (by omega)
              · have := (ladv_lt hk h0).2
                rw [List.length_cons]
                omega
        · have h33 := b33.mpr ⟨tok_3.mp c48, c57⟩
          have h0 : ¬ x.2.2.1 = 0 := by have := tok_3.mp c48; omega
          refine z_aload_n (pc := 66) C 0 dX10_takesE_66 rfl rfl ?_
          refine z_getR (pc := 67) (r := 249) C dX10_takesE_67 fX10_38 sh_239 rfl ?_
          refine z_aload_n (pc := 70) C 0 dX10_takesE_70 rfl rfl ?_
          refine z_getI (pc := 71) C dX10_takesE_71 fX10_236 sh_239 rfl ?_
          refine z_bipush (pc := 74) (v := -10) C dX10_takesE_74 rfl ?_
          rw [hW.1]
          have hlt := lOK_lt hk h0
          refine z_iast (pc := 76) (n := W.length) C dX10_takesE_76 sh_249 (vp_in_nI (by omega) (by decide)) (nI_clamp (by omega)) ?_
          refine z_aload_n (pc := 77) C 0 dX10_takesE_77 rfl rfl ?_
          refine z_dup (pc := 78) C dX10_takesE_78 rfl ?_
          refine z_getI (pc := 79) C dX10_takesE_79 fX10_236 sh_239 rfl ?_
          refine z_iconst (pc := 82) (v := 1) C dX10_takesE_82 rfl ?_
          refine z_iadd (pc := 83) C dX10_takesE_83 ?_
          rw [zu_a (by decide), hW.1, nI_1]
          refine z_putII (pc := 84) C dX10_takesE_84 fX10_236 sh_239 rfl ?_
          refine z_iinc (pc := 87) (v := 1) C 2 dX10_takesE_87 (by decide) rfl rfl rfl ?_
          refine z_aload_n (pc := 90) C 0 dX10_takesE_90 rfl rfl ?_
          refine z_callVv (pc := 91) C dX10_takesE_91 kX10_233 (mX10_go (x := x) (hT1.e (fun a i j f z => by rw [zu_ne _ _ (fun q => z (by omega)), zu_ne _ _ (fun q => z (by omega))])) (by rw [zu_f (by decide), zu_a (by decide)]; exact hg.2.1) hk.2.1 (by have e := hg.2.2.2.2.2 h0; unfold eInv at e ⊢; rw [zu_f (by decide), zu_a (by decide)]; exact e)) (by decide) sh_239 rfl rfl rfl (Nat.le_of_ble_eq_true rfl) (fun M91 h91 => ?_)
          have hfn : fE M M91 := hf.trans (fE.trans (fun a i j f z => by rw [zu_ne _ _ (fun q => z (by omega)), zu_ne _ _ (fun q => z (by omega))]) h91.2.p.e)
          have hW3 : gW M91 (-10 :: W) := by
            refine ⟨by rw [h91.2 30 0 0 20 (by omega)]; exact zu_self _ _ _ _ _ _, by rw [h91.2 40 0 0 _ (by omega)]; rw [zu_a (by decide), zu_self], ?_⟩
            exact wts.on (M := zu M1 40 0 0 W.length (-10)) (by funext i j f; rw [h91.2 40 i j f (by omega)]; rw [zu_a (by decide)]) (hW.2.push (Nat.le_refl _) _)
          have hO3 : gO M91 o := hO.on (by funext i j f; rw [h91.2 39 i j f (by omega)]; rw [zu_a (by decide), zu_a (by decide)]) (by rw [h91.2 30 0 0 17 (by omega)]; rw [zu_f (by decide), zu_a (by decide)])
          have hA3 : M91 30 0 0 18 = nI (cntA o) := by rw [h91.2 30 0 0 18 (by omega)]; rw [zu_f (by decide), zu_a (by decide)]; exact hA
          have hneg3 : allN (-10 :: W) := fun d hd => by
            rcases List.mem_cons.mp hd with z | z
            · rw [z]; decide
            · exact hneg d z
          have hnq3 : nq 1 (-10 :: W) := by
            unfold nq
            rw [if_neg (by decide), if_pos rfl]
            exact ⟨rfl, hnq⟩
          refine z_goto (pc := 94) C 172 dX10_takesE_94 (by decide) ?_
          refine z_aload_n (pc := 172) C 0 dX10_takesE_172 rfl rfl ?_
          refine z_callVi (pc := 173) C dX10_takesE_173 kX10_257 (mX10_notsOpen hW3 (by rw [List.length_cons]; omega)) (by decide) sh_239 rfl rfl rfl (Nat.le_of_ble_eq_true rfl) (fun r173 M173 h173 => ?_)
          obtain ⟨rfl, e173⟩ := h173
          subst M173
          refine z_istore_n (pc := 176) C 2 dX10_takesE_176 rfl (by decide) rfl ?_
          refine z_goto (pc := 177) C 28 dX10_takesE_177 (by decide) ?_
          obtain ⟨y1, y2⟩ := h91
          have e := a2 h33 (by rw [zi_le, eN, i8] at c63; omega) M91 q4 ⟨(ladv_lt hk h0).1, y1, hW3, hO3, hA3, fun q hq => ?_, hp8, ?_, hneg3, hnq3, hfn⟩
          · exact e
          · rw [y2 41 0 0 q (by omega), zu_a (by decide), zu_a (by decide)]
            exact hte q hq
          · have := (ladv_lt hk h0).2
            rw [List.length_cons]
            omega
  have opS : ∀ x W o p te, ¬ ltc B ky x = -1 → (∀ p', p = p' + 1 → ltc B ky x = 20041 → ∃ W' o', stl 0 W o = (-11 :: W', o') ∧ H (ladv B t x) 0 (stl 6 W' o').1 (stl 6 W' o').2 p' te) → (¬ (ltc B ky x = 20041 ∧ 0 < p) → ¬ sg (ltc B ky x) = 0 → ¬ (rk (sg (ltc B ky x)) = 3 ∧ ¬ te p = 0) → H (ladv B t x) 1 (sg (ltc B ky x) :: (stl (rk (sg (ltc B ky x))) W o).1) (stl (rk (sg (ltc B ky x))) W o).2 p (tup te p (if rk (sg (ltc B ky x)) = 3 then 1 else if 3 < rk (sg (ltc B ky x)) then te p else 0))) → (¬ (ltc B ky x = 20041 ∧ 0 < p) → (sg (ltc B ky x) = 0 ∨ (rk (sg (ltc B ky x)) = 3 ∧ ¬ te p = 0)) → ebad (ltc B ky) r0 x) → H x 0 W o p te := by
    intro x W o p te hend a5 a6 a7
    rw [unH] at a6 ⊢
    intro M1 q4 hS
    obtain ⟨hk, hg, hW, hO, hA, hte, hp8, hlen, hneg, hnq, hf⟩ := hS
    have hT1 := hT.e hf
    have hx96 := hk.1
    have hx96' := hk.2.1
    have h0 : ¬ x.2.2.1 = 0 := fun z => hend ((ltc_end hk hB).mp z)
    have hlt := lOK_lt hk h0
    have hadv := ladv_lt hk h0
    have b41 := tc_b (ky := ky) hk hB (c := 41) (by decide)
    rw [show (20000 : Int32) + 41 = 20041 by decide] at b41
    have ep : (nI p).toInt = p := nI_toInt (by omega)
    have htp := hte p (Nat.le_refl _)
    have r306 : ¬ (ltc B ky x = 20041 ∧ 0 < p) → ¬ (sg (ltc B ky x)) = 0 → ¬ (rk (sg (ltc B ky x)) = 3 ∧ ¬ te p = 0) → ∀ v : Int32, v = (if rk (sg (ltc B ky x)) = 3 then 1 else if 3 < rk (sg (ltc B ky x)) then te p else 0) → zW X zshL (zu M1 41 0 0 p v) 306 [some (.ref (b + 239)), some (.int (nI p)), some (.int (nI (cntN W))), some (.int (nI 0)), some (.int (sg (ltc B ky x)))] [] := by
      intro n41 n0 n3 v hv
      have r6 := rk_6 (sg (ltc B ky x))
      have hW1 : gW (zu M1 41 0 0 p v) W := hW.on (zu_a (by decide)) (by rw [zu_a (by decide)])
      have hO1 : gO (zu M1 41 0 0 p v) o := hO.on (zu_a (by decide)) (by rw [zu_a (by decide)])
      have hl := stl_len (rk (sg (ltc B ky x))) W o
      have hng := stl_neg (r := rk (sg (ltc B ky x))) W o hneg
      have hq := nq_stl (r := rk (sg (ltc B ky x))) W o hnq
      refine z_aload_n (pc := 306) C 0 dX10_takesE_306 rfl rfl ?_
      refine z_iload (pc := 307) C 4 dX10_takesE_307 rfl ?_
      refine z_callSi (pc := 309) C dX10_takesE_309 kX10_239 mX10_rank (by decide) rfl rfl (Nat.le_of_ble_eq_true rfl) (fun r309 M309 h309 => ?_)
      obtain ⟨rfl, e309⟩ := h309
      subst M309
      refine z_callVv (pc := 312) C dX10_takesE_312 kX10_251 (mX10_settle hW1 hO1 (by omega) r6.2) (by decide) sh_239 rfl rfl rfl (Nat.le_of_ble_eq_true rfl) (fun M312 h312 => ?_)
      obtain ⟨u1, u2, u3⟩ := h312
      generalize hWf : (stl (rk (sg (ltc B ky x))) W o).1 = Wf at u1 hl hng hq a6
      generalize hof : (stl (rk (sg (ltc B ky x))) W o).2 = of at u2 hl hng hq a6
      refine z_aload_n (pc := 315) C 0 dX10_takesE_315 rfl rfl ?_
      refine z_getR (pc := 316) (r := 249) C dX10_takesE_316 fX10_38 sh_239 rfl ?_
      refine z_aload_n (pc := 319) C 0 dX10_takesE_319 rfl rfl ?_
      refine z_getI (pc := 320) C dX10_takesE_320 fX10_236 sh_239 rfl ?_
      refine z_iload (pc := 323) C 4 dX10_takesE_323 rfl ?_
      rw [u1.1]
      refine z_iast (pc := 325) (n := Wf.length) C dX10_takesE_325 sh_249 (vp_in_nI (by omega) (by decide)) (nI_clamp (by omega)) ?_
      refine z_aload_n (pc := 326) C 0 dX10_takesE_326 rfl rfl ?_
      refine z_dup (pc := 327) C dX10_takesE_327 rfl ?_
      refine z_getI (pc := 328) C dX10_takesE_328 fX10_236 sh_239 rfl ?_
      refine z_iconst (pc := 331) (v := 1) C dX10_takesE_331 rfl ?_
      refine z_iadd (pc := 332) C dX10_takesE_332 ?_
      rw [zu_a (by decide), u1.1, nI_1]
      refine z_putII (pc := 333) C dX10_takesE_333 fX10_236 sh_239 rfl ?_
      refine z_iconst (pc := 336) (v := 1) C dX10_takesE_336 rfl ?_
      refine z_istore_n (pc := 337) C 3 dX10_takesE_337 rfl (by decide) rfl ?_
      refine z_aload_n (pc := 338) C 0 dX10_takesE_338 rfl rfl ?_
      refine z_callVv (pc := 339) C dX10_takesE_339 kX10_233 (mX10_go (x := x) (hT.e (fE.trans hf (fE.trans (M' := zu M1 41 0 0 p v) (fun a i j f z => zu_ne _ _ (fun q => z (by omega))) (fE.trans u3.p.e (fun a i j f z => by rw [zu_ne _ _ (fun q => z (by omega)), zu_ne _ _ (fun q => z (by omega))]))))) (by rw [zu_f (by decide), zu_a (by decide), u3 30 0 0 8 (by omega), zu_a (by decide)]; exact hg.2.1) hk.2.1 (by have e := hg.2.2.2.2.2 h0; unfold eInv at e ⊢; rw [zu_f (by decide), zu_a (by decide), u3 30 0 0 12 (by omega), zu_a (by decide)]; exact e)) (by decide) sh_239 rfl rfl rfl (Nat.le_of_ble_eq_true rfl) (fun M339 h339 => ?_)
      obtain ⟨y1, y2⟩ := h339
      have lvc := lvl_cases (ltc B ky x)
      have gneg : (sg (ltc B ky x)) < 0 ∧ ¬ (sg (ltc B ky x)) = -11 ∧ ¬ (sg (ltc B ky x)) = -10 := by
        rcases lvc with ⟨-, e⟩ | ⟨e, -⟩ | ⟨e, -⟩ | ⟨e, -⟩ | ⟨e, -⟩ | ⟨e, -⟩ | ⟨e, -⟩ | ⟨e, -⟩ | ⟨e, -⟩ | ⟨e, -⟩
        · exact absurd e n0
        all_goals (rw [e]; decide)
      refine z_goto (pc := 342) C 28 dX10_takesE_342 (by decide) ?_
      have e := a6 n41 n0 n3 M339 (some (.int (sg (ltc B ky x)))) ⟨hadv.1, y1, ?_, ?_, ?_, fun q hq' => ?_, hp8, ?_, ?_, ?_, ?_⟩
      · rw [cntN, if_neg gneg.2.2, Nat.zero_add, hq.2] at e
        exact e
      · refine ⟨by rw [y2 30 0 0 20 (by omega), zu_self, List.length_cons], by rw [y2 40 0 0 _ (by omega), zu_a (by decide), zu_self], ?_⟩
        exact wts.on (M := zu M312 40 0 0 Wf.length (sg (ltc B ky x))) (by funext i j f; rw [y2 40 i j f (by omega)]; rw [zu_a (by decide)]) (u1.2.push (Nat.le_refl _) _)
      · exact u2.on (by funext i j f; rw [y2 39 i j f (by omega)]; rw [zu_a (by decide), zu_a (by decide)]) (by rw [y2 30 0 0 17 (by omega), zu_f (by decide), zu_a (by decide)])
      · rw [y2 30 0 0 18 (by omega), zu_f (by decide), zu_a (by decide), u3 30 0 0 18 (by omega), zu_a (by decide), hng.2]
        exact hA
      · rw [y2 41 0 0 q (by omega), zu_a (by decide), zu_a (by decide), u3 41 0 0 q (by omega)]
        by_cases z : q = p
        · rw [z, zu_self, tup_s, hv]
          refine ⟨rfl, ?_⟩
          split
          · exact Or.inr rfl
          · split
            · exact htp.2
            · exact Or.inl rfl
        · rw [zu_f z, tup_n z]
          exact hte q hq'
      · rw [List.length_cons]
        have := hadv.2
        omega
      · intro d hd
        rcases List.mem_cons.mp hd with z | z
        · rw [z]; exact gneg.1
        · exact hng.1 d z
      · unfold nq
        rw [if_neg gneg.2.1, if_neg gneg.2.2]
        exact hq.1
      · refine hf.trans (fE.trans (M' := zu M1 41 0 0 p v) (fun a i j f z => zu_ne _ _ (fun q => z (by omega))) (fE.trans u3.p.e (fE.trans (M' := zu (zu M312 40 0 0 Wf.length (sg (ltc B ky x))) 30 0 0 20 (nI (Wf.length + 1))) (fun a i j f z => by rw [zu_ne _ _ (fun q => z (by omega)), zu_ne _ _ (fun q => z (by omega))]) y2.p.e)))
    refine z_iload_n (pc := 28) C 3 dX10_takesE_28 rfl rfl ?_
    refine z_if_ne (pc := 29) C 39 dX10_takesE_29 (by decide) (fun c29 => absurd (by decide) c29) (fun c29 => ?_)
    refine z_aload_n (pc := 32) C 0 dX10_takesE_32 rfl rfl ?_
    refine z_getI (pc := 33) C dX10_takesE_33 fX10_218 sh_239 rfl ?_
    rw [hg.2.2.1]
    refine z_if_eq (pc := 36) C 345 dX10_takesE_36 (by decide) (fun c36 => absurd (tok_0.mp c36) h0) (fun c36 => ?_)
    refine z_iload_n (pc := 39) C 3 dX10_takesE_39 rfl rfl ?_
    refine z_if_eq (pc := 40) C 180 dX10_takesE_40 (by decide) (fun c40 => ?_) (fun c40 => absurd (by decide) c40)
    refine z_aload_n (pc := 180) C 0 dX10_takesE_180 rfl rfl ?_
    refine z_getI (pc := 181) C dX10_takesE_181 fX10_218 sh_239 rfl ?_
    refine z_iconst (pc := 184) (v := 3) C dX10_takesE_184 rfl ?_
    rw [hg.2.2.1]
    refine z_icmp_ne (pc := 185) C 237 dX10_takesE_185 (by decide) (fun c185 => ?_) (fun c185 => ?_)
    · refine z_aload_n (pc := 237) C 0 dX10_takesE_237 rfl rfl ?_
      refine z_callVi (pc := 238) C dX10_takesE_238 kX10_260 (mX10_signHere (ky := ky) hg hk hB) (by decide) sh_239 rfl rfl rfl (Nat.le_of_ble_eq_true rfl) (fun r238 M238 h238 => ?_)
      obtain ⟨rfl, e238⟩ := h238
      subst M238
      refine z_istore (pc := 241) C 4 dX10_takesE_241 (by decide) rfl ?_
      refine z_iload (pc := 243) C 4 dX10_takesE_243 rfl ?_
      refine z_if_eq (pc := 245) C 266 dX10_takesE_245 (by decide) (fun c245 => ?_) (fun c245 => ?_)
      · refine z_iconst (pc := 266) (v := 0) C dX10_takesE_266 rfl ?_
        refine z_zreturn (pc := 267) C K dX10_takesE_267 (Or.inl rfl) ?_
        exact ⟨_, rfl, Or.inl ⟨x, a7 (fun z => c185 (tok_3.mpr (b41.mp z.1).1)) (Or.inl c245), rfl, hg.1⟩, hf⟩
      · refine z_iload (pc := 248) C 4 dX10_takesE_248 rfl ?_
        refine z_callSi (pc := 250) C dX10_takesE_250 kX10_239 mX10_rank (by decide) rfl rfl (Nat.le_of_ble_eq_true rfl) (fun r250 M250 h250 => ?_)
        obtain ⟨rfl, e250⟩ := h250
        subst M250
        refine z_iconst (pc := 253) (v := 3) C dX10_takesE_253 rfl ?_
        refine z_icmp_ne (pc := 254) C 268 dX10_takesE_254 (by decide) (fun c254 => ?_) (fun c254 => ?_)
        · refine z_aload_n (pc := 268) C 0 dX10_takesE_268 rfl rfl ?_
          refine z_getR (pc := 269) (r := 250) C dX10_takesE_269 fX10_41 sh_239 rfl ?_
          refine z_iload_n (pc := 272) C 1 dX10_takesE_272 rfl rfl ?_
          refine z_iload (pc := 273) C 4 dX10_takesE_273 rfl ?_
          refine z_callSi (pc := 275) C dX10_takesE_275 kX10_239 mX10_rank (by decide) rfl rfl (Nat.le_of_ble_eq_true rfl) (fun r275 M275 h275 => ?_)
          obtain ⟨rfl, e275⟩ := h275
          subst M275
          refine z_iconst (pc := 278) (v := 3) C dX10_takesE_278 rfl ?_
          refine z_icmp_eq (pc := 279) C 300 dX10_takesE_279 (by decide) (fun c279 => absurd c279 c254) (fun c279 => ?_)
          refine z_iload (pc := 282) C 4 dX10_takesE_282 rfl ?_
          refine z_callSi (pc := 284) C dX10_takesE_284 kX10_239 mX10_rank (by decide) rfl rfl (Nat.le_of_ble_eq_true rfl) (fun r284 M284 h284 => ?_)
          obtain ⟨rfl, e284⟩ := h284
          subst M284
          refine z_iconst (pc := 287) (v := 3) C dX10_takesE_287 rfl ?_
          refine z_icmp_le (pc := 288) C 304 dX10_takesE_288 (by decide) (fun c288 => ?_) (fun c288 => ?_)
          · refine z_iconst (pc := 304) (v := 0) C dX10_takesE_304 rfl ?_
            refine z_zast (pc := 305) (n := p) C dX10_takesE_305 sh_250 (vp_in_nI (by omega) (by decide)) (Or.inl rfl) (nI_clamp (by omega)) ?_
            have r6 := rk_6 (sg (ltc B ky x))
            have r3 : ¬ rk (sg (ltc B ky x)) = 3 := fun z => c254 (by rw [z]; rfl)
            rw [zi_le, nI_toInt (by omega), i3] at c288
            exact r306 (fun z => c185 (tok_3.mpr (b41.mp z.1).1)) c245 (fun z => c254 (by rw [z.1]; rfl)) 0 (by rw [if_neg r3, if_neg (by omega)])
          · refine z_aload_n (pc := 291) C 0 dX10_takesE_291 rfl rfl ?_
            refine z_getR (pc := 292) (r := 250) C dX10_takesE_292 fX10_41 sh_239 rfl ?_
            refine z_iload_n (pc := 295) C 1 dX10_takesE_295 rfl rfl ?_
            refine z_zald (pc := 296) (n := p) C dX10_takesE_296 sh_250 (vp_in_nI (by omega) (by decide)) (nI_clamp (by omega)) ?_
            rw [htp.1]
            refine z_if_eq (pc := 297) C 304 dX10_takesE_297 (by decide) (fun c297 => ?_) (fun c297 => ?_)
            · refine z_iconst (pc := 304) (v := 0) C dX10_takesE_304 rfl ?_
              refine z_zast (pc := 305) (n := p) C dX10_takesE_305 sh_250 (vp_in_nI (by omega) (by decide)) (Or.inl rfl) (nI_clamp (by omega)) ?_
              have r6 := rk_6 (sg (ltc B ky x))
              have r3 : ¬ rk (sg (ltc B ky x)) = 3 := fun z => c254 (by rw [z]; rfl)
              rw [zi_le, nI_toInt (by omega), i3] at c288
              exact r306 (fun z => c185 (tok_3.mpr (b41.mp z.1).1)) c245 (fun z => c254 (by rw [z.1]; rfl)) 0 (by rw [if_neg r3, if_pos (by omega), c297])
            · refine z_iconst (pc := 300) (v := 1) C dX10_takesE_300 rfl ?_
              refine z_goto (pc := 301) C 305 dX10_takesE_301 (by decide) ?_
              refine z_zast (pc := 305) (n := p) C dX10_takesE_305 sh_250 (vp_in_nI (by omega) (by decide)) (Or.inr rfl) (nI_clamp (by omega)) ?_
              have r6 := rk_6 (sg (ltc B ky x))
              have r3 : ¬ rk (sg (ltc B ky x)) = 3 := fun z => c254 (by rw [z]; rfl)
              rw [zi_le, nI_toInt (by omega), i3] at c288
              exact r306 (fun z => c185 (tok_3.mpr (b41.mp z.1).1)) c245 (fun z => c254 (by rw [z.1]; rfl)) 1 (by rw [if_neg r3, if_pos (by omega)]; exact (htp.2.resolve_left c297).symm)
        · refine z_aload_n (pc := 257) C 0 dX10_takesE_257 rfl rfl ?_
          refine z_getR (pc := 258) (r := 250) C dX10_takesE_258 fX10_41 sh_239 rfl ?_
          refine z_iload_n (pc := 261) C 1 dX10_takesE_261 rfl rfl ?_
          refine z_zald (pc := 262) (n := p) C dX10_takesE_262 sh_250 (vp_in_nI (by omega) (by decide)) (nI_clamp (by omega)) ?_
          rw [htp.1]
          refine z_if_eq (pc := 263) C 268 dX10_takesE_263 (by decide) (fun c263 => ?_) (fun c263 => ?_)
          · refine z_aload_n (pc := 268) C 0 dX10_takesE_268 rfl rfl ?_
            refine z_getR (pc := 269) (r := 250) C dX10_takesE_269 fX10_41 sh_239 rfl ?_
            refine z_iload_n (pc := 272) C 1 dX10_takesE_272 rfl rfl ?_
            refine z_iload (pc := 273) C 4 dX10_takesE_273 rfl ?_
            refine z_callSi (pc := 275) C dX10_takesE_275 kX10_239 mX10_rank (by decide) rfl rfl (Nat.le_of_ble_eq_true rfl) (fun r275 M275 h275 => ?_)
            obtain ⟨rfl, e275⟩ := h275
            subst M275
            refine z_iconst (pc := 278) (v := 3) C dX10_takesE_278 rfl ?_
            refine z_icmp_eq (pc := 279) C 300 dX10_takesE_279 (by decide) (fun c279 => ?_) (fun c279 => absurd c254 c279)
            refine z_iconst (pc := 300) (v := 1) C dX10_takesE_300 rfl ?_
            refine z_goto (pc := 301) C 305 dX10_takesE_301 (by decide) ?_
            refine z_zast (pc := 305) (n := p) C dX10_takesE_305 sh_250 (vp_in_nI (by omega) (by decide)) (Or.inr rfl) (nI_clamp (by omega)) ?_
            have r3 : rk (sg (ltc B ky x)) = 3 := nI_inj' (by have := rk_6 (sg (ltc B ky x)); omega) (by omega) c254
            exact r306 (fun z => c185 (tok_3.mpr (b41.mp z.1).1)) c245 (fun z => z.2 c263) 1 (by rw [if_pos r3])
          · refine z_iconst (pc := 266) (v := 0) C dX10_takesE_266 rfl ?_
            refine z_zreturn (pc := 267) C K dX10_takesE_267 (Or.inl rfl) ?_
            exact ⟨_, rfl, Or.inl ⟨x, a7 (fun z => c185 (tok_3.mpr (b41.mp z.1).1)) (Or.inr ⟨nI_inj' (by have := rk_6 (sg (ltc B ky x)); omega) (by omega) c254, c263⟩), rfl, hg.1⟩, hf⟩
    · refine z_aload_n (pc := 188) C 0 dX10_takesE_188 rfl rfl ?_
      refine z_getI (pc := 189) C dX10_takesE_189 fX10_224 sh_239 rfl ?_
      refine z_bipush (pc := 192) (v := 41) C dX10_takesE_192 rfl ?_
      rw [hg.2.2.2.1 (Or.inr (tok_3.mp c185))]
      refine z_icmp_ne (pc := 194) C 237 dX10_takesE_194 (by decide) (fun c194 => ?_) (fun c194 => ?_)
      · refine z_aload_n (pc := 237) C 0 dX10_takesE_237 rfl rfl ?_
        refine z_callVi (pc := 238) C dX10_takesE_238 kX10_260 (mX10_signHere (ky := ky) hg hk hB) (by decide) sh_239 rfl rfl rfl (Nat.le_of_ble_eq_true rfl) (fun r238 M238 h238 => ?_)
        obtain ⟨rfl, e238⟩ := h238
        subst M238
        refine z_istore (pc := 241) C 4 dX10_takesE_241 (by decide) rfl ?_
        refine z_iload (pc := 243) C 4 dX10_takesE_243 rfl ?_
        refine z_if_eq (pc := 245) C 266 dX10_takesE_245 (by decide) (fun c245 => ?_) (fun c245 => ?_)
        · refine z_iconst (pc := 266) (v := 0) C dX10_takesE_266 rfl ?_
          refine z_zreturn (pc := 267) C K dX10_takesE_267 (Or.inl rfl) ?_
          exact ⟨_, rfl, Or.inl ⟨x, a7 (fun z => c194 (b41.mp z.1).2) (Or.inl c245), rfl, hg.1⟩, hf⟩
        · refine z_iload (pc := 248) C 4 dX10_takesE_248 rfl ?_
          refine z_callSi (pc := 250) C dX10_takesE_250 kX10_239 mX10_rank (by decide) rfl rfl (Nat.le_of_ble_eq_true rfl) (fun r250 M250 h250 => ?_)
          obtain ⟨rfl, e250⟩ := h250
          subst M250
          refine z_iconst (pc := 253) (v := 3) C dX10_takesE_253 rfl ?_
          refine z_icmp_ne (pc := 254) C 268 dX10_takesE_254 (by decide) (fun c254 => ?_) (fun c254 => ?_)
          · refine z_aload_n (pc := 268) C 0 dX10_takesE_268 rfl rfl ?_
            refine z_getR (pc := 269) (r := 250) C dX10_takesE_269 fX10_41 sh_239 rfl ?_
            refine z_iload_n (pc := 272) C 1 dX10_takesE_272 rfl rfl ?_
            refine z_iload (pc := 273) C 4 dX10_takesE_273 rfl ?_
            refine z_callSi (pc := 275) C dX10_takesE_275 kX10_239 mX10_rank (by decide) rfl rfl (Nat.le_of_ble_eq_true rfl) (fun r275 M275 h275 => ?_)
            obtain ⟨rfl, e275⟩ := h275
            subst M275
            refine z_iconst (pc := 278) (v := 3) C dX10_takesE_278 rfl ?_
            refine z_icmp_eq (pc := 279) C 300 dX10_takesE_279 (by decide) (fun c279 => absurd c279 c254) (fun c279 => ?_)
            refine z_iload (pc := 282) C 4 dX10_takesE_282 rfl ?_
            refine z_callSi (pc := 284) C dX10_takesE_284 kX10_239 mX10_rank (by decide) rfl rfl (Nat.le_of_ble_eq_true rfl) (fun r284 M284 h284 => ?_)
            obtain ⟨rfl, e284⟩ := h284
            subst M284
            refine z_iconst (pc := 287) (v := 3) C dX10_takesE_287 rfl ?_
            refine z_icmp_le (pc := 288) C 304 dX10_takesE_288 (by decide) (fun c288 => ?_) (fun c288 => ?_)
            · refine z_iconst (pc := 304) (v := 0) C dX10_takesE_304 rfl ?_
              refine z_zast (pc := 305) (n := p) C dX10_takesE_305 sh_250 (vp_in_nI (by omega) (by decide)) (Or.inl rfl) (nI_clamp (by omega)) ?_
              have r6 := rk_6 (sg (ltc B ky x))
              have r3 : ¬ rk (sg (ltc B ky x)) = 3 := fun z => c254 (by rw [z]; rfl)
              rw [zi_le, nI_toInt (by omega), i3] at c288
              exact r306 (fun z => c194 (b41.mp z.1).2) c245 (fun z => c254 (by rw [z.1]; rfl)) 0 (by rw [if_neg r3, if_neg (by omega)])
            · refine z_aload_n (pc := 291) C 0 dX10_takesE_291 rfl rfl ?_
              refine z_getR (pc := 292) (r := 250) C dX10_takesE_292 fX10_41 sh_239 rfl ?_
              refine z_iload_n (pc := 295) C 1 dX10_takesE_295 rfl rfl ?_
              refine z_zald (pc := 296) (n := p) C dX10_takesE_296 sh_250 (vp_in_nI (by omega) (by decide)) (nI_clamp (by omega)) ?_
              rw [htp.1]
              refine z_if_eq (pc := 297) C 304 dX10_takesE_297 (by decide) (fun c297 => ?_) (fun c297 => ?_)
              · refine z_iconst (pc := 304) (v := 0) C dX10_takesE_304 rfl ?_
                refine z_zast (pc := 305) (n := p) C dX10_takesE_305 sh_250 (vp_in_nI (by omega) (by decide)) (Or.inl rfl) (nI_clamp (by omega)) ?_
                have r6 := rk_6 (sg (ltc B ky x))
                have r3 : ¬ rk (sg (ltc B ky x)) = 3 := fun z => c254 (by rw [z]; rfl)
                rw [zi_le, nI_toInt (by omega), i3] at c288
                exact r306 (fun z => c194 (b41.mp z.1).2) c245 (fun z => c254 (by rw [z.1]; rfl)) 0 (by rw [if_neg r3, if_pos (by omega), c297])
              · refine z_iconst (pc := 300) (v := 1) C dX10_takesE_300 rfl ?_
                refine z_goto (pc := 301) C 305 dX10_takesE_301 (by decide) ?_
                refine z_zast (pc := 305) (n := p) C dX10_takesE_305 sh_250 (vp_in_nI (by omega) (by decide)) (Or.inr rfl) (nI_clamp (by omega)) ?_
                have r6 := rk_6 (sg (ltc B ky x))
                have r3 : ¬ rk (sg (ltc B ky x)) = 3 := fun z => c254 (by rw [z]; rfl)
                rw [zi_le, nI_toInt (by omega), i3] at c288
                exact r306 (fun z => c194 (b41.mp z.1).2) c245 (fun z => c254 (by rw [z.1]; rfl)) 1 (by rw [if_neg r3, if_pos (by omega)]; exact (htp.2.resolve_left c297).symm)
          · refine z_aload_n (pc := 257) C 0 dX10_takesE_257 rfl rfl ?_
            refine z_getR (pc := 258) (r := 250) C dX10_takesE_258 fX10_41 sh_239 rfl ?_
            refine z_iload_n (pc := 261) C 1 dX10_takesE_261 rfl rfl ?_
            refine z_zald (pc := 262) (n := p) C dX10_takesE_262 sh_250 (vp_in_nI (by omega) (by decide)) (nI_clamp (by omega)) ?_
            rw [htp.1]
            refine z_if_eq (pc := 263) C 268 dX10_takesE_263 (by decide) (fun c263 => ?_) (fun c263 => ?_)
            · refine z_aload_n (pc := 268) C 0 dX10_takesE_268 rfl rfl ?_
              refine z_getR (pc := 269) (r := 250) C dX10_takesE_269 fX10_41 sh_239 rfl ?_
              refine z_iload_n (pc := 272) C 1 dX10_takesE_272 rfl rfl ?_
              refine z_iload (pc := 273) C 4 dX10_takesE_273 rfl ?_
              refine z_callSi (pc := 275) C dX10_takesE_275 kX10_239 mX10_rank (by decide) rfl rfl (Nat.le_of_ble_eq_true rfl) (fun r275 M275 h275 => ?_)
              obtain ⟨rfl, e275⟩ := h275
              subst M275
              refine z_iconst (pc := 278) (v := 3) C dX10_takesE_278 rfl ?_
              refine z_icmp_eq (pc := 279) C 300 dX10_takesE_279 (by decide) (fun c279 => ?_) (fun c279 => absurd c254 c279)
              refine z_iconst (pc := 300) (v := 1) C dX10_takesE_300 rfl ?_
              refine z_goto (pc := 301) C 305 dX10_takesE_301 (by decide) ?_
              refine z_zast (pc := 305) (n := p) C dX10_takesE_305 sh_250 (vp_in_nI (by omega) (by decide)) (Or.inr rfl) (nI_clamp (by omega)) ?_
              have r3 : rk (sg (ltc B ky x)) = 3 := nI_inj' (by have := rk_6 (sg (ltc B ky x)); omega) (by omega) c254
              exact r306 (fun z => c194 (b41.mp z.1).2) c245 (fun z => z.2 c263) 1 (by rw [if_pos r3])
            · refine z_iconst (pc := 266) (v := 0) C dX10_takesE_266 rfl ?_
              refine z_zreturn (pc := 267) C K dX10_takesE_267 (Or.inl rfl) ?_
              exact ⟨_, rfl, Or.inl ⟨x, a7 (fun z => c194 (b41.mp z.1).2) (Or.inr ⟨nI_inj' (by have := rk_6 (sg (ltc B ky x)); omega) (by omega) c254, c263⟩), rfl, hg.1⟩, hf⟩
      · refine z_iload_n (pc := 197) C 1 dX10_takesE_197 rfl rfl ?_
        refine z_if_le (pc := 198) C 237 dX10_takesE_198 (by decide) (fun c198 => ?_) (fun c198 => ?_)
        · refine z_aload_n (pc := 237) C 0 dX10_takesE_237 rfl rfl ?_
          refine z_callVi (pc := 238) C dX10_takesE_238 kX10_260 (mX10_signHere (ky := ky) hg hk hB) (by decide) sh_239 rfl rfl rfl (Nat.le_of_ble_eq_true rfl) (fun r238 M238 h238 => ?_)
          obtain ⟨rfl, e238⟩ := h238
          subst M238
          refine z_istore (pc := 241) C 4 dX10_takesE_241 (by decide) rfl ?_
          refine z_iload (pc := 243) C 4 dX10_takesE_243 rfl ?_
          refine z_if_eq (pc := 245) C 266 dX10_takesE_245 (by decide) (fun c245 => ?_) (fun c245 => ?_)
          · refine z_iconst (pc := 266) (v := 0) C dX10_takesE_266 rfl ?_
            refine z_zreturn (pc := 267) C K dX10_takesE_267 (Or.inl rfl) ?_
            exact ⟨_, rfl, Or.inl ⟨x, a7 (fun z => by rw [zi_le, ep, i0] at c198; omega) (Or.inl c245), rfl, hg.1⟩, hf⟩
          · refine z_iload (pc := 248) C 4 dX10_takesE_248 rfl ?_
            refine z_callSi (pc := 250) C dX10_takesE_250 kX10_239 mX10_rank (by decide) rfl rfl (Nat.le_of_ble_eq_true rfl) (fun r250 M250 h250 => ?_)
            obtain ⟨rfl, e250⟩ := h250
            subst M250
            refine z_iconst (pc := 253) (v := 3) C dX10_takesE_253 rfl ?_
            refine z_icmp_ne (pc := 254) C 268 dX10_takesE_254 (by decide) (fun c254 => ?_) (fun c254 => ?_)
            · refine z_aload_n (pc := 268) C 0 dX10_takesE_268 rfl rfl ?_
              refine z_getR (pc := 269) (r := 250) C dX10_takesE_269 fX10_41 sh_239 rfl ?_
              refine z_iload_n (pc := 272) C 1 dX10_takesE_272 rfl rfl ?_
              refine z_iload (pc := 273) C 4 dX10_takesE_273 rfl ?_
              refine z_callSi (pc := 275) C dX10_takesE_275 kX10_239 mX10_rank (by decide) rfl rfl (Nat.le_of_ble_eq_true rfl) (fun r275 M275 h275 => ?_)
              obtain ⟨rfl, e275⟩ := h275
              subst M275
              refine z_iconst (pc := 278) (v := 3) C dX10_takesE_278 rfl ?_
              refine z_icmp_eq (pc := 279) C 300 dX10_takesE_279 (by decide) (fun c279 => absurd c279 c254) (fun c279 => ?_)
              refine z_iload (pc := 282) C 4 dX10_takesE_282 rfl ?_
              refine z_callSi (pc := 284) C dX10_takesE_284 kX10_239 mX10_rank (by decide) rfl rfl (Nat.le_of_ble_eq_true rfl) (fun r284 M284 h284 => ?_)
              obtain ⟨rfl, e284⟩ := h284
              subst M284
              refine z_iconst (pc := 287) (v := 3) C dX10_takesE_287 rfl ?_
              refine z_icmp_le (pc := 288) C 304 dX10_takesE_288 (by decide) (fun c288 => ?_) (fun c288 => ?_)
              · refine z_iconst (pc := 304) (v := 0) C dX10_takesE_304 rfl ?_
                refine z_zast (pc := 305) (n := p) C dX10_takesE_305 sh_250 (vp_in_nI (by omega) (by decide)) (Or.inl rfl) (nI_clamp (by omega)) ?_
                have r6 := rk_6 (sg (ltc B ky x))
                have r3 : ¬ rk (sg (ltc B ky x)) = 3 := fun z => c254 (by rw [z]; rfl)
                rw [zi_le, nI_toInt (by omega), i3] at c288
                exact r306 (fun z => by rw [zi_le, ep, i0] at c198; omega) c245 (fun z => c254 (by rw [z.1]; rfl)) 0 (by rw [if_neg r3, if_neg (by omega)])
              · refine z_aload_n (pc := 291) C 0 dX10_takesE_291 rfl rfl ?_
                refine z_getR (pc := 292) (r := 250) C dX10_takesE_292 fX10_41 sh_239 rfl ?_
                refine z_iload_n (pc := 295) C 1 dX10_takesE_295 rfl rfl ?_
                refine z_zald (pc := 296) (n := p) C dX10_takesE_296 sh_250 (vp_in_nI (by omega) (by decide)) (nI_clamp (by omega)) ?_
                rw [htp.1]
                refine z_if_eq (pc := 297) C 304 dX10_takesE_297 (by decide) (fun c297 => ?_) (fun c297 => ?_)
                · refine z_iconst (pc := 304) (v := 0) C dX10_takesE_304 rfl ?_
                  refine z_zast (pc := 305) (n := p) C dX10_takesE_305 sh_250 (vp_in_nI (by omega) (by decide)) (Or.inl rfl) (nI_clamp (by omega)) ?_
                  have r6 := rk_6 (sg (ltc B ky x))
                  have r3 : ¬ rk (sg (ltc B ky x)) = 3 := fun z => c254 (by rw [z]; rfl)
                  rw [zi_le, nI_toInt (by omega), i3] at c288
                  exact r306 (fun z => by rw [zi_le, ep, i0] at c198; omega) c245 (fun z => c254 (by rw [z.1]; rfl)) 0 (by rw [if_neg r3, if_pos (by omega), c297])
                · refine z_iconst (pc := 300) (v := 1) C dX10_takesE_300 rfl ?_
                  refine z_goto (pc := 301) C 305 dX10_takesE_301 (by decide) ?_
                  refine z_zast (pc := 305) (n := p) C dX10_takesE_305 sh_250 (vp_in_nI (by omega) (by decide)) (Or.inr rfl) (nI_clamp (by omega)) ?_
                  have r6 := rk_6 (sg (ltc B ky x))
                  have r3 : ¬ rk (sg (ltc B ky x)) = 3 := fun z => c254 (by rw [z]; rfl)
                  rw [zi_le, nI_toInt (by omega), i3] at c288
                  exact r306 (fun z => by rw [zi_le, ep, i0] at c198; omega) c245 (fun z => c254 (by rw [z.1]; rfl)) 1 (by rw [if_neg r3, if_pos (by omega)]; exact (htp.2.resolve_left c297).symm)
            · refine z_aload_n (pc := 257) C 0 dX10_takesE_257 rfl rfl ?_
              refine z_getR (pc := 258) (r := 250) C dX10_takesE_258 fX10_41 sh_239 rfl ?_
              refine z_iload_n (pc := 261) C 1 dX10_takesE_261 rfl rfl ?_
              refine z_zald (pc := 262) (n := p) C dX10_takesE_262 sh_250 (vp_in_nI (by omega) (by decide)) (nI_clamp (by omega)) ?_
              rw [htp.1]
              refine z_if_eq (pc := 263) C 268 dX10_takesE_263 (by decide) (fun c263 => ?_) (fun c263 => ?_)
              · refine z_aload_n (pc := 268) C 0 dX10_takesE_268 rfl rfl ?_
                refine z_getR (pc := 269) (r := 250) C dX10_takesE_269 fX10_41 sh_239 rfl ?_
                refine z_iload_n (pc := 272) C 1 dX10_takesE_272 rfl rfl ?_
                refine z_iload (pc := 273) C 4 dX10_takesE_273 rfl ?_
                refine z_callSi (pc := 275) C dX10_takesE_275 kX10_239 mX10_rank (by decide) rfl rfl (Nat.le_of_ble_eq_true rfl) (fun r275 M275 h275 => ?_)
                obtain ⟨rfl, e275⟩ := h275
                subst M275
                refine z_iconst (pc := 278) (v := 3) C dX10_takesE_278 rfl ?_
                refine z_icmp_eq (pc := 279) C 300 dX10_takesE_279 (by decide) (fun c279 => ?_) (fun c279 => absurd c254 c279)
                refine z_iconst (pc := 300) (v := 1) C dX10_takesE_300 rfl ?_
                refine z_goto (pc := 301) C 305 dX10_takesE_301 (by decide) ?_
                refine z_zast (pc := 305) (n := p) C dX10_takesE_305 sh_250 (vp_in_nI (by omega) (by decide)) (Or.inr rfl) (nI_clamp (by omega)) ?_
                have r3 : rk (sg (ltc B ky x)) = 3 := nI_inj' (by have := rk_6 (sg (ltc B ky x)); omega) (by omega) c254
                exact r306 (fun z => by rw [zi_le, ep, i0] at c198; omega) c245 (fun z => z.2 c263) 1 (by rw [if_pos r3])
              · refine z_iconst (pc := 266) (v := 0) C dX10_takesE_266 rfl ?_
                refine z_zreturn (pc := 267) C K dX10_takesE_267 (Or.inl rfl) ?_
                exact ⟨_, rfl, Or.inl ⟨x, a7 (fun z => by rw [zi_le, ep, i0] at c198; omega) (Or.inr ⟨nI_inj' (by have := rk_6 (sg (ltc B ky x)); omega) (by omega) c254, c263⟩), rfl, hg.1⟩, hf⟩
        · have h41 := b41.mpr ⟨tok_3.mp c185, c194⟩
          obtain ⟨p', rfl⟩ : ∃ p', p = p' + 1 := ⟨p - 1, by rw [zi_le, ep, i0] at c198; omega⟩
          obtain ⟨W', o', hst, hH5⟩ := a5 p' rfl h41
          rw [unH] at hH5
          have hl0 := stl_len 0 W o
          have hn0 := stl_neg (r := 0) W o hneg
          have hq0 := nq_stl (r := 0) W o hnq
          rw [hst] at hl0 hn0 hq0
          replace hl0 : W'.length + 1 + o'.length = W.length + o.length := hl0
          have hq1 : nq 1 W' := by
            have := hq0.1
            unfold nq at this
            rw [if_pos rfl] at this
            exact this
          have hng' : allN W' := fun d hd => hn0.1 d (List.mem_cons_of_mem _ hd)
          have hl6 := stl_len 6 W' o'
          refine z_aload_n (pc := 201) C 0 dX10_takesE_201 rfl rfl ?_
          refine z_iconst (pc := 202) (v := 0) C dX10_takesE_202 rfl ?_
          refine z_callVv (pc := 203) C dX10_takesE_203 kX10_251 (mX10_settle (r := 0) hW hO (by omega) (by decide)) (by decide) sh_239 rfl rfl rfl (Nat.le_of_ble_eq_true rfl) (fun M203 h203 => ?_)
          obtain ⟨u1, u2, u3⟩ := h203
          rw [hst] at u1 u2
          replace u1 : gW M203 (-11 :: W') := u1
          replace u2 : gO M203 o' := u2
          have u20 : M203 30 0 0 20 = nI (W'.length + 1) := u1.1
          have hW6 : gW (zu M203 30 0 0 20 (nI W'.length)) W' := ⟨by rw [zu_self], u1.2.2.on (zu_a (by decide))⟩
          have hO6 : gO (zu M203 30 0 0 20 (nI W'.length)) o' := u2.on (zu_a (by decide)) (zu_f (by decide))
          refine z_aload_n (pc := 206) C 0 dX10_takesE_206 rfl rfl ?_
          refine z_dup (pc := 207) C dX10_takesE_207 rfl ?_
          refine z_getI (pc := 208) C dX10_takesE_208 fX10_236 sh_239 rfl ?_
          refine z_iconst (pc := 211) (v := 1) C dX10_takesE_211 rfl ?_
          refine z_isub (pc := 212) C dX10_takesE_212 ?_
          rw [u20, show nI (W'.length + 1) - 1 = nI W'.length from nI_pred _]
          refine z_putII (pc := 213) C dX10_takesE_213 fX10_236 sh_239 rfl ?_
          refine z_iinc (pc := 216) (v := -1) C 1 dX10_takesE_216 (by decide) rfl rfl rfl ?_
          rw [show nI (p' + 1) + -1 = nI p' from by rw [← nI_pred p', Int32.sub_eq_add_neg]]
          refine z_aload_n (pc := 219) C 0 dX10_takesE_219 rfl rfl ?_
          refine z_bipush (pc := 220) (v := 6) C dX10_takesE_220 rfl ?_
          refine z_callVv (pc := 222) C dX10_takesE_222 kX10_251 (mX10_settle (r := 6) hW6 hO6 (by omega) (by decide)) (by decide) sh_239 rfl rfl rfl (Nat.le_of_ble_eq_true rfl) (fun M222 h222 => ?_)
          obtain ⟨v1, v2, v3⟩ := h222
          have fall : fE M M222 := hf.trans (fE.trans u3.p.e (fE.trans (M' := zu M203 30 0 0 20 (nI W'.length)) (fun a i j f z => zu_ne _ _ (fun q => z (by omega))) v3.p.e))
          refine z_aload_n (pc := 225) C 0 dX10_takesE_225 rfl rfl ?_
          refine z_callVi (pc := 226) C dX10_takesE_226 kX10_257 (mX10_notsOpen v1 (by omega)) (by decide) sh_239 rfl rfl rfl (Nat.le_of_ble_eq_true rfl) (fun r226 M226 h226 => ?_)
          obtain ⟨rfl, e226⟩ := h226
          subst M226
          refine z_istore_n (pc := 229) C 2 dX10_takesE_229 rfl (by decide) rfl ?_
          refine z_aload_n (pc := 230) C 0 dX10_takesE_230 rfl rfl ?_
          refine z_callVv (pc := 231) C dX10_takesE_231 kX10_233 (mX10_go (x := x) (hT.e fall) (by rw [v3 30 0 0 8 (by omega), zu_f (by decide), u3 30 0 0 8 (by omega)]; exact hg.2.1) hk.2.1 (by have e := hg.2.2.2.2.2 h0; unfold eInv at e ⊢; rw [v3 30 0 0 12 (by omega), zu_f (by decide), u3 30 0 0 12 (by omega)]; exact e)) (by decide) sh_239 rfl rfl rfl (Nat.le_of_ble_eq_true rfl) (fun M231 h231 => ?_)
          obtain ⟨y1, y2⟩ := h231
          refine z_goto (pc := 234) C 28 dX10_takesE_234 (by decide) ?_
          have e := hH5 M231 q4 ⟨hadv.1, y1, v1.on (by funext i j f; exact y2 40 i j f (by omega)) (y2 30 0 0 20 (by omega)), v2.on (by funext i j f; exact y2 39 i j f (by omega)) (y2 30 0 0 17 (by omega)), ?_, fun q hq' => ?_, by omega, ?_, (stl_neg W' o' hng').1, nq_6 W' o' hq1, fall.trans y2.p.e⟩
          · exact e
          · rw [y2 30 0 0 18 (by omega), v3 30 0 0 18 (by omega), zu_f (by decide), u3 30 0 0 18 (by omega), (stl_neg W' o' hng').2, hn0.2]
            exact hA
          · rw [y2 41 0 0 q (by omega), v3 41 0 0 q (by omega), zu_a (by decide), u3 41 0 0 q (by omega)]
            exact hte q (by omega)
          · have := hadv.2
            omega
  have endS : ∀ x W o p te, ltc B ky x = -1 → (0 < p → ebad (ltc B ky) r0 x) → (p = 0 → ∃ l, egood (ltc B ky) r0 l ∧ stl 0 W o = ([], l.map tr)) → H x 0 W o p te := by
    intro x W o p te hend a8 a9
    rw [unH]
    intro M1 q4 hS
    obtain ⟨hk, hg, hW, hO, hA, hte, hp8, hlen, hneg, hnq, hf⟩ := hS
    have hx96 := hk.1
    have hx96' := hk.2.1
    have ep : (nI p).toInt = p := nI_toInt (by omega)
    have h0 : x.2.2.1 = 0 := (ltc_end hk hB).mpr hend
    refine z_iload_n (pc := 28) C 3 dX10_takesE_28 rfl rfl ?_
    refine z_if_ne (pc := 29) C 39 dX10_takesE_29 (by decide) (fun c29 => absurd (by decide) c29) (fun c29 => ?_)
    refine z_aload_n (pc := 32) C 0 dX10_takesE_32 rfl rfl ?_
    refine z_getI (pc := 33) C dX10_takesE_33 fX10_218 sh_239 rfl ?_
    rw [hg.2.2.1]
    refine z_if_eq (pc := 36) C 345 dX10_takesE_36 (by decide) (fun c36 => ?_) (fun c36 => absurd (tok_0.mpr h0) c36)
    refine z_aload_n (pc := 345) C 0 dX10_takesE_345 rfl rfl ?_
    refine z_iconst (pc := 346) (v := 0) C dX10_takesE_346 rfl ?_
    refine z_callVv (pc := 347) C dX10_takesE_347 kX10_251 (mX10_settle (r := 0) hW hO (by omega) (by decide)) (by decide) sh_239 rfl rfl rfl (Nat.le_of_ble_eq_true rfl) (fun M347 h347 => ?_)
    refine z_iload_n (pc := 350) C 1 dX10_takesE_350 rfl rfl ?_
    refine z_if_ne (pc := 351) C 358 dX10_takesE_351 (by decide) (fun c351 => ?_) (fun c351 => ?_)
    · refine z_iconst (pc := 358) (v := 0) C dX10_takesE_358 rfl ?_
      refine z_zreturn (pc := 359) C K dX10_takesE_359 (Or.inl rfl) ?_
      obtain ⟨u1, u2, u3⟩ := h347
      rw [zi_eq, ep, i0] at c351
      refine ⟨_, rfl, Or.inl ⟨x, a8 (by omega), rfl, ?_⟩, hf.trans u3.p.e⟩
      rw [u3 30 0 0 9 (by omega)]
      exact hg.1
    · refine z_iconst (pc := 354) (v := 1) C dX10_takesE_354 rfl ?_
      refine z_goto (pc := 355) C 359 dX10_takesE_355 (by decide) ?_
      refine z_zreturn (pc := 359) C K dX10_takesE_359 (Or.inr rfl) ?_
      obtain ⟨u1, u2, u3⟩ := h347
      rw [zi_eq, ep, i0] at c351
      obtain ⟨l, l1, l2⟩ := a9 (by omega)
      have hcn := (stl_neg (r := 0) W o hneg).2
      rw [l2] at u2 hcn
      refine ⟨_, rfl, Or.inr ⟨l, l1, rfl, u2, ?_⟩, hf.trans u3.p.e⟩
      rw [u3 30 0 0 18 (by omega), hA, ← hcn]
  have S : simH (ltc B ky) (ladv B t) (ebad (ltc B ky) r0) H := by
    refine ⟨fun x W o p te h1 h2 => wantS x W o p te (fun _ => h2) (fun z => ?_) (fun z => ?_) (fun z => absurd h1 z), fun x W o p te h1 h2 h3 => wantS x W o p te (fun z => ?_) (fun _ _ => h3) (fun z => ?_) (fun _ z => absurd ⟨h1, h2⟩ z), fun x W o p te h1 h2 h3 => wantS x W o p te (fun z => ?_) (fun z => ?_) (fun _ _ => h3) (fun _ _ z => absurd ⟨h1, h2⟩ z), fun x W o p te h1 h2 h3 h4 => wantS x W o p te (fun z => absurd z h1) (fun z w => absurd ⟨z, w⟩ h2) (fun z w => absurd ⟨z, w⟩ h3) (fun _ _ _ => h4), fun x W o p te W' o' h1 h2 h3 => opS x W o (p + 1) te ?_ (fun p' e _ => ?_) (fun z => absurd ⟨h1, Nat.succ_pos _⟩ z) (fun z => absurd ⟨h1, Nat.succ_pos _⟩ z), fun x W o p te h1 h2 h3 => opS x W o p te ?_ (fun p' e z => ?_) (fun _ _ _ => h3) (fun _ z => ?_), fun x W o p te h1 h2 h3 h4 => opS x W o p te h1 (fun p' e z => absurd ⟨z, by omega⟩ h2) (fun _ z w => ?_) (fun _ _ => h4), fun x W o p te h1 h2 h3 => endS x W o p te h1 (fun _ => h3) (fun z => by omega)⟩
    · rw [z] at h1; exact absurd h1.2 (by decide)
    · rw [z] at h1; exact absurd h1.2 (by decide)
    · rw [h1] at z; exact absurd z.2 (by decide)
    · rw [h1] at z; exact absurd z (by decide)
    · rw [h1] at z; exact absurd z.2 (by decide)
    · rw [h1] at z; exact absurd z (by decide)
    · rw [h1]; decide
    · obtain rfl : p = p' := by omega
      exact ⟨W', o', h2, h3⟩
    · intro z; rw [z] at h1; exact absurd (by decide) h1
    · rw [z] at h1; exact absurd (by decide) h1
    · rcases z with z | z
      · exact absurd z h1
      · exact absurd z h2
    · rcases h3 with h3 | h3
      · exact absurd h3 z
      · exact absurd h3 w
  have start : H x0 1 [] [] 0 (fun _ => 0) := by
    have e := (sim S f0).1 0 0 0 x0 r0 (by decide) hp0 [] [] (fun _ => 0) (fun _ => Or.inl rfl) rfl (fun _ => rfl)
    cases hr : r0 with
    | inl y => exact e.1 y hr (Or.inl hr)
    | inr q =>
      obtain ⟨y, l⟩ := q
      refine e.2 y l hr (fun W1 o1 te1 g1 g2 g3 g4 => ?_)
      by_cases hc : ltc B ky y = -1
      · refine endS y W1 o1 0 te1 hc (fun z => absurd z (Nat.lt_irrefl _)) (fun _ => ⟨l, ⟨y, hr, hc⟩, ?_⟩)
        rw [g1 0 (by decide)]
        rfl
      · refine opS y W1 o1 0 te1 hc (fun p' z => by omega) (fun _ z w => ?_) (fun _ _ => Or.inr ⟨l, hr, hc⟩)
        exfalso
        rcases g4 with g4 | g4
        · exact z (sg_0 g4)
        · exact w ⟨(sg_of (m := 2) g4.2.1).2.1, g4.2.2⟩
  rw [unH] at start
  refine z_iconst (pc := 0) (v := 0) C dX10_takesE_0 rfl ?_
  refine z_istore_n (pc := 1) C 1 dX10_takesE_1 rfl (by decide) rfl ?_
  refine z_iconst (pc := 2) (v := 0) C dX10_takesE_2 rfl ?_
  refine z_istore_n (pc := 3) C 2 dX10_takesE_3 rfl (by decide) rfl ?_
  refine z_iconst (pc := 4) (v := 1) C dX10_takesE_4 rfl ?_
  refine z_istore_n (pc := 5) C 3 dX10_takesE_5 rfl (by decide) rfl ?_
  refine z_aload_n (pc := 6) C 0 dX10_takesE_6 rfl rfl ?_
  refine z_iconst (pc := 7) (v := 0) C dX10_takesE_7 rfl ?_
  refine z_putII (pc := 8) C dX10_takesE_8 fX10_242 sh_239 rfl ?_
  refine z_aload_n (pc := 11) C 0 dX10_takesE_11 rfl rfl ?_
  refine z_iconst (pc := 12) (v := 0) C dX10_takesE_12 rfl ?_
  refine z_putII (pc := 13) C dX10_takesE_13 fX10_248 sh_239 rfl ?_
  refine z_aload_n (pc := 16) C 0 dX10_takesE_16 rfl rfl ?_
  refine z_iconst (pc := 17) (v := 0) C dX10_takesE_17 rfl ?_
  refine z_putII (pc := 18) C dX10_takesE_18 fX10_236 sh_239 rfl ?_
  refine z_aload_n (pc := 21) C 0 dX10_takesE_21 rfl rfl ?_
  refine z_getR (pc := 22) (r := 250) C dX10_takesE_22 fX10_41 sh_239 rfl ?_
  refine z_iconst (pc := 25) (v := 0) C dX10_takesE_25 rfl ?_
  refine z_iconst (pc := 26) (v := 0) C dX10_takesE_26 rfl ?_
  refine z_zast (pc := 27) (n := 0) C dX10_takesE_27 sh_250 (zi_in.mpr (by decide)) (Or.inl rfl) rfl ?_
  refine start _ none ⟨hx0, hg0.on (fun f h1 h2 => ?_), ⟨?_, trivial⟩, ⟨?_, fun i c h => by simp at h⟩, ?_, fun q hq => ?_, by decide, by show 0 + 0 + 3 ≤ x0.1; omega, fun g h => absurd h List.not_mem_nil, trivial, fun a i j f z => ?_⟩
  · rw [zu_a (by decide), zu_f (by omega), zu_f (by omega), zu_f (by omega)]
  · rw [zu_a (by decide), zu_self]
    rfl
  · rw [zu_a (by decide), zu_f (by decide), zu_f (by decide), zu_self]
    rfl
  · rw [zu_a (by decide), zu_f (by decide), zu_self]
    rfl
  · obtain rfl : q = 0 := by omega
    rw [zu_self]
    exact ⟨rfl, Or.inl rfl⟩
  · rw [zu_ne _ _ (fun q => z (by omega)), zu_ne _ _ (fun q => z (by omega)), zu_ne _ _ (fun q => z (by omega)), zu_ne _ _ (fun q => z (by omega))]
