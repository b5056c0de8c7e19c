/-! THE REFERENCE's READER: signs, the stack -/
def wts (M : zM) : List Int32 → Prop
  | [] => True
  | g :: W => M 40 0 0 W.length = g ∧ wts M W
def gW (M : zM) (W : List Int32) : Prop := M 30 0 0 20 = nI W.length ∧ wts M W
def gO (M : zM) (o : List Int32) : Prop := M 30 0 0 17 = nI o.length ∧ ∀ i c, o[i]? = some c → M 39 0 0 i = c
theorem wts.on {M M' : zM} (h : M' 40 = M 40) : ∀ {W : List Int32}, wts M W → wts M' W
  | [], _ => trivial
  | g :: W, hw => ⟨by rw [h]; exact hw.1, wts.on h hw.2⟩
theorem gW.on {M M' : zM} {W : List Int32} (h : M' 40 = M 40) (h20 : M' 30 0 0 20 = M 30 0 0 20) (hw : gW M W) : gW M' W := ⟨h20.trans hw.1, hw.2.on h⟩
theorem gO.on {M M' : zM} {o : List Int32} (h : M' 39 = M 39) (h17 : M' 30 0 0 17 = M 30 0 0 17) (ho : gO M o) : gO M' o := ⟨h17.trans ho.1, fun i c hi => by rw [h]; exact ho.2 i c hi⟩
theorem wts.push {M : zM} {W : List Int32} (h : wts M W) {k : Nat} (hk : W.length ≤ k) (g : Int32) : wts (zu M 40 0 0 k g) W := by
  induction W with
  | nil => trivial
  | cons d V ih =>
    have hl : (d :: V).length = V.length + 1 := rfl
    exact ⟨by rw [zu_f (by omega)]; exact h.1, ih h.2 (by omega)⟩
theorem gO.push {M : zM} {o : List Int32} (h : gO M o) (c v : Int32) (hv : v = nI (o.length + 1)) : gO (zu (zu M 39 0 0 o.length c) 30 0 0 17 v) (o ++ [c]) := by
  refine ⟨by rw [zu_self, hv, List.length_append]; rfl, fun i d hi => ?_⟩
  rw [zu_a (by decide)]
  by_cases q : i < o.length
  · rw [zu_f (by omega)]
    rw [List.getElem?_append_left q] at hi
    exact h.2 i d hi
  · rw [List.getElem?_append_right (by omega)] at hi
    have h1 : i - o.length < 1 := (List.getElem?_eq_some_iff.mp hi).1
    have e : i = o.length := by omega
    subst e
    rw [Nat.sub_self] at hi
    cases hi
    rw [zu_self]
theorem im2 : (-2 : Int32).toInt = -2 := by decide
theorem im7 : (-7 : Int32).toInt = -7 := by decide
theorem im9 : (-9 : Int32).toInt = -9 := by decide
theorem rk_6 (g : Int32) : 1 ≤ rk g ∧ rk g ≤ 6 := by
  unfold rk
  split
  · decide
  · split
    · decide
    · split
      · decide
      · split
        · decide
        · split <;> decide
set_option maxHeartbeats 800000 in
set_option maxRecDepth 100000 in
theorem mX10_rank {l : Launch} {G : zG} {b : Nat} {M : zM} {g : Int32} : zMet l G b yX10_rank cX10_rank 1 (some .int) 0 zshL zshL [.int g] M (zI (fun r M' => r = nI (rk g) ∧ M' = M)) := by
  refine zMet.of (L0 := [some (.int g)]) (by decide +kernel) (Nat.le_refl _) (Nat.le_refl _) (Nat.le_of_ble_eq_true rfl) (List.forall_mem_cons.mpr ⟨rfl, fun _ h => absurd h List.not_mem_nil⟩) rfl (fun X C Al K => ?_)
  refine z_iload_n (pc := 0) C 0 dX10_rank_0 rfl rfl ?_
  refine z_iconst (pc := 1) (v := -1) C dX10_rank_1 rfl ?_
  refine z_icmp_ne (pc := 2) C 9 dX10_rank_2 (by decide) (fun c2 => ?_) (fun c2 => ?_)
  · refine z_iload_n (pc := 9) C 0 dX10_rank_9 rfl rfl ?_
    refine z_bipush (pc := 10) (v := -2) C dX10_rank_10 rfl ?_
    refine z_icmp_ne (pc := 12) C 19 dX10_rank_12 (by decide) (fun c12 => ?_) (fun c12 => ?_)
    · refine z_iload_n (pc := 19) C 0 dX10_rank_19 rfl rfl ?_
      refine z_bipush (pc := 20) (v := -5) C dX10_rank_20 rfl ?_
      refine z_icmp_lt (pc := 22) C 29 dX10_rank_22 (by decide) (fun c22 => ?_) (fun c22 => ?_)
      · refine z_iload_n (pc := 29) C 0 dX10_rank_29 rfl rfl ?_
        refine z_bipush (pc := 30) (v := -7) C dX10_rank_30 rfl ?_
        refine z_icmp_lt (pc := 32) C 39 dX10_rank_32 (by decide) (fun c32 => ?_) (fun c32 => ?_)
        · refine z_iload_n (pc := 39) C 0 dX10_rank_39 rfl rfl ?_
          refine z_bipush (pc := 40) (v := -9) C dX10_rank_40 rfl ?_
          refine z_icmp_lt (pc := 42) C 49 dX10_rank_42 (by decide) (fun c42 => ?_) (fun c42 => ?_)
          · refine z_bipush (pc := 49) (v := 6) C dX10_rank_49 rfl ?_
            refine z_ireturn (pc := 51) C K dX10_rank_51 ?_
            exact ⟨_, rfl, by rw [rk, if_neg c2, if_neg c12, if_neg (Int32.not_le.mpr c22), if_neg (Int32.not_le.mpr c32), if_neg (Int32.not_le.mpr c42)]; rfl, rfl⟩
          · refine z_iconst (pc := 45) (v := 5) C dX10_rank_45 rfl ?_
            refine z_goto (pc := 46) C 51 dX10_rank_46 (by decide) ?_
            refine z_ireturn (pc := 51) C K dX10_rank_51 ?_
            exact ⟨_, rfl, by rw [rk, if_neg c2, if_neg c12, if_neg (Int32.not_le.mpr c22), if_neg (Int32.not_le.mpr c32), if_pos (Int32.not_lt.mp c42)]; rfl, rfl⟩
        · refine z_iconst (pc := 35) (v := 4) C dX10_rank_35 rfl ?_
          refine z_goto (pc := 36) C 51 dX10_rank_36 (by decide) ?_
          refine z_ireturn (pc := 51) C K dX10_rank_51 ?_
          exact ⟨_, rfl, by rw [rk, if_neg c2, if_neg c12, if_neg (Int32.not_le.mpr c22), if_pos (Int32.not_lt.mp c32)]; rfl, rfl⟩
      · refine z_iconst (pc := 25) (v := 3) C dX10_rank_25 rfl ?_
        refine z_goto (pc := 26) C 51 dX10_rank_26 (by decide) ?_
        refine z_ireturn (pc := 51) C K dX10_rank_51 ?_
        exact ⟨_, rfl, by rw [rk, if_neg c2, if_neg c12, if_pos (Int32.not_lt.mp c22)]; rfl, rfl⟩
    · refine z_iconst (pc := 15) (v := 2) C dX10_rank_15 rfl ?_
      refine z_goto (pc := 16) C 51 dX10_rank_16 (by decide) ?_
      refine z_ireturn (pc := 51) C K dX10_rank_51 ?_
      exact ⟨_, rfl, by rw [rk, if_neg c2, if_pos c12]; rfl, rfl⟩
  · refine z_iconst (pc := 5) (v := 1) C dX10_rank_5 rfl ?_
    refine z_goto (pc := 6) C 51 dX10_rank_6 (by decide) ?_
    refine z_ireturn (pc := 51) C K dX10_rank_51 ?_
    exact ⟨_, rfl, by rw [rk, if_pos c2]; rfl, rfl⟩

def fS (M M' : zM) : Prop := ∀ a i j f, ¬ ((a = 30 ∧ (f = 17 ∨ f = 20)) ∨ a = 39) → M' a i j f = M a i j f
theorem fS.rfl' {M : zM} : fS M M := fun _ _ _ _ _ => rfl
theorem stl_len (r : Nat) : ∀ (W o : List Int32), (stl r W o).1.length + (stl r W o).2.length = W.length + o.length
  | [], o => rfl
  | g :: W, o => by
    rw [stl]
    split
    · rw [stl_len r W (o ++ [g])]
      simp only [List.length_append, List.length_cons, List.length_nil]
      omega
    · rfl
set_option maxHeartbeats 800000 in
set_option maxRecDepth 100000 in
theorem mX10_settle {l : Launch} {G : zG} {b : Nat} {M : zM} {W o : List Int32} (hW : gW M W) (hO : gO M o) (hl : o.length + W.length ≤ 96) {r : Nat} (hr : r ≤ 6) : zMet l G b yX10_settle cX10_settle 2 none 1 zshL zshL [.ref (b + 239), .int (nI r)] M (zV (fun M' => gW M' (stl r W o).1 ∧ gO M' (stl r W o).2 ∧ fS M M')) := by
  refine zMet.of (L0 := [some (.ref (b + 239)), some (.int (nI r))]) (by decide +kernel) (Nat.le_refl _) (Nat.le_refl _) (Nat.le_of_ble_eq_true rfl) (List.forall_mem_cons.mpr ⟨rfl, List.forall_mem_cons.mpr ⟨rfl, fun _ h => absurd h List.not_mem_nil⟩⟩) rfl (fun X C Al K => ?_)
  generalize e1 : (stl r W o).1 = Wf
  generalize e2 : (stl r W o).2 = of_
  rw [e1, e2] at K
  have loop : ∀ (W o : List Int32) (M1 : zM), gW M1 W → gO M1 o → o.length + W.length ≤ 96 → fS M M1 → (stl r W o).1 = Wf → (stl r W o).2 = of_ → zW X zshL M1 0 [some (.ref (b + 239)), some (.int (nI r))] [] := by
    intro W
    induction W with
    | nil =>
      intro o M1 hW hO hl hf e1 e2
      have h20 := hW.1
      refine z_aload_n (pc := 0) C 0 dX10_settle_0 rfl rfl ?_
      refine z_getI (pc := 1) C dX10_settle_1 fX10_236 sh_239 rfl ?_
      rw [h20]
      refine z_if_le (pc := 4) C 82 dX10_settle_4 (by decide) (fun c4 => ?_) (fun c4 => absurd (show nI ([] : List Int32).length ≤ 0 by decide) c4)
      refine z_return (pc := 82) C K dX10_settle_82 ?_
      refine ⟨rfl, ?_, ?_, hf⟩
      · rw [← e1]; exact hW
      · rw [← e2]; exact hO
    | cons g V ih =>
      intro o M1 hW hO hl hf e1 e2
      obtain ⟨h20, hg, hV⟩ := hW
      have hlen : (g :: V).length = V.length + 1 := rfl
      rw [hlen] at h20 hl
      have h17 := hO.1
      have hg6 := rk_6 g
      refine z_aload_n (pc := 0) C 0 dX10_settle_0 rfl rfl ?_
      refine z_getI (pc := 1) C dX10_settle_1 fX10_236 sh_239 rfl ?_
      rw [h20]
      refine z_if_le (pc := 4) C 82 dX10_settle_4 (by decide) (fun c4 => absurd c4 (nI_nle (by omega) (by omega))) (fun c4 => ?_)
      refine z_aload_n (pc := 7) C 0 dX10_settle_7 rfl rfl ?_
      refine z_getR (pc := 8) (r := 249) C dX10_settle_8 fX10_38 sh_239 rfl ?_
      refine z_aload_n (pc := 11) C 0 dX10_settle_11 rfl rfl ?_
      refine z_getI (pc := 12) C dX10_settle_12 fX10_236 sh_239 rfl ?_
      refine z_iconst (pc := 15) (v := 1) C dX10_settle_15 rfl ?_
      refine z_isub (pc := 16) C dX10_settle_16 ?_
      rw [h20, show nI (V.length + 1) - 1 = nI V.length from nI_pred _]
      refine z_iald (pc := 17) (n := V.length) C dX10_settle_17 sh_249 (vp_in_nI (by omega) (by decide)) (nI_clamp (by omega)) ?_
      rw [hg]
      refine z_bipush (pc := 18) (v := -11) C dX10_settle_18 rfl ?_
      refine z_icmp_eq (pc := 20) C 82 dX10_settle_20 (by decide) (fun c20 => ?_) (fun c20 => ?_)
      · refine z_return (pc := 82) C K dX10_settle_82 ?_
        rw [stl, if_neg (fun z => z.1 c20)] at e1 e2
        refine ⟨rfl, ?_, ?_, hf⟩
        · rw [← e1]; exact ⟨h20, hg, hV⟩
        · rw [← e2]; exact hO
      · refine z_aload_n (pc := 23) C 0 dX10_settle_23 rfl rfl ?_
        refine z_getR (pc := 24) (r := 249) C dX10_settle_24 fX10_38 sh_239 rfl ?_
        refine z_aload_n (pc := 27) C 0 dX10_settle_27 rfl rfl ?_
        refine z_getI (pc := 28) C dX10_settle_28 fX10_236 sh_239 rfl ?_
        refine z_iconst (pc := 31) (v := 1) C dX10_settle_31 rfl ?_
        refine z_isub (pc := 32) C dX10_settle_32 ?_
        rw [h20, show nI (V.length + 1) - 1 = nI V.length from nI_pred _]
        refine z_iald (pc := 33) (n := V.length) C dX10_settle_33 sh_249 (vp_in_nI (by omega) (by decide)) (nI_clamp (by omega)) ?_
        rw [hg]
        refine z_callSi (pc := 34) C dX10_settle_34 kX10_239 mX10_rank (by decide) rfl rfl (Nat.le_of_ble_eq_true rfl) (fun r34 M34 h34 => ?_)
        obtain ⟨rfl, e34⟩ := h34
        subst M34
        refine z_iload_n (pc := 37) C 1 dX10_settle_37 rfl rfl ?_
        refine z_icmp_lt (pc := 38) C 82 dX10_settle_38 (by decide) (fun c38 => ?_) (fun c38 => ?_)
        · refine z_return (pc := 82) C K dX10_settle_82 ?_
          rw [stl, if_neg (fun z => by rw [zi_lt, nI_toInt (by omega), nI_toInt (by omega)] at c38; omega)] at e1 e2
          refine ⟨rfl, ?_, ?_, hf⟩
          · rw [← e1]; exact ⟨h20, hg, hV⟩
          · rw [← e2]; exact hO
        · refine z_aload_n (pc := 41) C 0 dX10_settle_41 rfl rfl ?_
          refine z_dup (pc := 42) C dX10_settle_42 rfl ?_
          refine z_getI (pc := 43) C dX10_settle_43 fX10_236 sh_239 rfl ?_
          refine z_iconst (pc := 46) (v := 1) C dX10_settle_46 rfl ?_
          refine z_isub (pc := 47) C dX10_settle_47 ?_
          rw [h20, show nI (V.length + 1) - 1 = nI V.length from nI_pred _]
          refine z_putII (pc := 48) C dX10_settle_48 fX10_236 sh_239 rfl ?_
          refine z_aload_n (pc := 51) C 0 dX10_settle_51 rfl rfl ?_
          refine z_getR (pc := 52) (r := 248) C dX10_settle_52 fX10_35 sh_239 rfl ?_
          refine z_aload_n (pc := 55) C 0 dX10_settle_55 rfl rfl ?_
          refine z_getI (pc := 56) C dX10_settle_56 fX10_242 sh_239 rfl ?_
          refine z_aload_n (pc := 59) C 0 dX10_settle_59 rfl rfl ?_
          refine z_getR (pc := 60) (r := 249) C dX10_settle_60 fX10_38 sh_239 rfl ?_
          refine z_aload_n (pc := 63) C 0 dX10_settle_63 rfl rfl ?_
          refine z_getI (pc := 64) C dX10_settle_64 fX10_236 sh_239 rfl ?_
          rw [zu_self]
          refine z_iald (pc := 67) (n := V.length) C dX10_settle_67 sh_249 (vp_in_nI (by omega) (by decide)) (nI_clamp (by omega)) ?_
          rw [zu_a (by decide), hg, zu_f (by decide), h17]
          refine z_iast (pc := 68) (n := o.length) C dX10_settle_68 sh_248 (vp_in_nI (by omega) (by decide)) (nI_clamp (by omega)) ?_
          refine z_aload_n (pc := 69) C 0 dX10_settle_69 rfl rfl ?_
          refine z_dup (pc := 70) C dX10_settle_70 rfl ?_
          refine z_getI (pc := 71) C dX10_settle_71 fX10_242 sh_239 rfl ?_
          refine z_iconst (pc := 74) (v := 1) C dX10_settle_74 rfl ?_
          refine z_iadd (pc := 75) C dX10_settle_75 ?_
          rw [zu_a (by decide), zu_f (by decide), h17, nI_1]
          refine z_putII (pc := 76) C dX10_settle_76 fX10_242 sh_239 rfl ?_
          refine z_goto (pc := 79) C 0 dX10_settle_79 (by decide) ?_
          rw [stl, if_pos ⟨c20, by rw [zi_lt, nI_toInt (by omega), nI_toInt (by omega)] at c38; omega⟩] at e1 e2
          have hO2 : gO (zu (zu (zu M1 30 0 0 20 (nI V.length)) 39 0 0 o.length g) 30 0 0 17 (nI (o.length + 1))) (o ++ [g]) := (hO.on (M' := zu M1 30 0 0 20 (nI V.length)) (zu_a (by decide)) (zu_f (by decide))).push g _ rfl
          refine ih (o ++ [g]) _ ⟨?_, ?_⟩ hO2 (by rw [List.length_append, List.length_singleton]; omega) ?_ e1 e2
          · rw [zu_f (by decide), zu_a (by decide), zu_self]
          · exact hV.on (by rw [zu_a (by decide), zu_a (by decide), zu_a (by decide)])
          · intro a i j f z
            rw [zu_ne _ _ (fun q => z (by omega)), zu_ne _ _ (fun q => z (by omega)), zu_ne _ _ (fun q => z (by omega))]
            exact hf a i j f z
  exact loop W o M hW hO hl fS.rfl' e1 e2

def cntK (g : Nat → Int32) : Nat → Nat
  | 0 => 0
  | k + 1 => cntK g k + (if g k = -10 then 1 else 0)
theorem cntK_N {M : zM} : ∀ (W : List Int32), wts M W → cntK (M 40 0 0) W.length = cntN W
  | [], _ => rfl
  | g :: W, h => by
    show cntK (M 40 0 0) (W.length + 1) = _
    rw [cntK, cntK_N W h.2, h.1, cntN, Nat.add_comm]
theorem cntK_le (g : Nat → Int32) : ∀ k, cntK g k ≤ k
  | 0 => Nat.le_refl _
  | k + 1 => by
    have := cntK_le g k
    rw [cntK]
    split <;> omega
set_option maxHeartbeats 800000 in
set_option maxRecDepth 100000 in
theorem mX10_notsOpen {l : Launch} {G : zG} {b : Nat} {M : zM} {W : List Int32} (hW : gW M W) (hl : W.length ≤ 96) : zMet l G b yX10_notsOpen cX10_notsOpen 3 (some .int) 0 zshL zshL [.ref (b + 239)] M (zI (fun r M' => r = nI (cntN W) ∧ M' = M)) := by
  refine zMet.of (L0 := [some (.ref (b + 239)), none, none]) (by decide +kernel) (Nat.le_refl _) (Nat.le_refl _) (Nat.le_of_ble_eq_true rfl) (List.forall_mem_cons.mpr ⟨rfl, fun _ h => absurd h List.not_mem_nil⟩) rfl (fun X C Al K => ?_)
  have h20 := hW.1
  have loop : ∀ (d i : Nat), i + d = W.length → zW X zshL M 4 [some (.ref (b + 239)), some (.int (nI (cntK (M 40 0 0) i))), some (.int (nI i))] [] := by
    intro d
    induction d with
    | zero =>
      intro i hi
      obtain rfl : i = W.length := by omega
      refine z_iload_n (pc := 4) C 2 dX10_notsOpen_4 rfl rfl ?_
      refine z_aload_n (pc := 5) C 0 dX10_notsOpen_5 rfl rfl ?_
      refine z_getI (pc := 6) C dX10_notsOpen_6 fX10_236 sh_239 rfl ?_
      rw [h20]
      refine z_icmp_ge (pc := 9) C 37 dX10_notsOpen_9 (by decide) (fun c9 => ?_) (fun c9 => absurd (Int32.le_refl _) c9)
      refine z_iload_n (pc := 37) C 1 dX10_notsOpen_37 rfl rfl ?_
      refine z_ireturn (pc := 38) C K dX10_notsOpen_38 ?_
      exact ⟨_, rfl, by rw [cntK_N W hW.2], rfl⟩
    | succ d ih =>
      intro i hi
      refine z_iload_n (pc := 4) C 2 dX10_notsOpen_4 rfl rfl ?_
      refine z_aload_n (pc := 5) C 0 dX10_notsOpen_5 rfl rfl ?_
      refine z_getI (pc := 6) C dX10_notsOpen_6 fX10_236 sh_239 rfl ?_
      rw [h20]
      refine z_icmp_ge (pc := 9) C 37 dX10_notsOpen_9 (by decide) (fun c9 => absurd c9 (nI_ge (by omega) (by omega))) (fun c9 => ?_)
      refine z_iload_n (pc := 12) C 1 dX10_notsOpen_12 rfl rfl ?_
      refine z_aload_n (pc := 13) C 0 dX10_notsOpen_13 rfl rfl ?_
      refine z_getR (pc := 14) (r := 249) C dX10_notsOpen_14 fX10_38 sh_239 rfl ?_
      refine z_iload_n (pc := 17) C 2 dX10_notsOpen_17 rfl rfl ?_
      refine z_iald (pc := 18) (n := i) C dX10_notsOpen_18 sh_249 (vp_in_nI (by omega) (by decide)) (nI_clamp (by omega)) ?_
      refine z_bipush (pc := 19) (v := -10) C dX10_notsOpen_19 rfl ?_
      refine z_icmp_ne (pc := 21) C 28 dX10_notsOpen_21 (by decide) (fun c21 => ?_) (fun c21 => ?_)
      · refine z_iconst (pc := 28) (v := 0) C dX10_notsOpen_28 rfl ?_
        refine z_iadd (pc := 29) C dX10_notsOpen_29 ?_
        refine z_istore_n (pc := 30) C 1 dX10_notsOpen_30 rfl (by decide) rfl ?_
        refine z_iinc (pc := 31) (v := 1) C 2 dX10_notsOpen_31 (by decide) rfl rfl rfl ?_
        refine z_goto (pc := 34) C 4 dX10_notsOpen_34 (by decide) ?_
        have e := ih (i + 1) (by omega)
        rw [cntK, if_neg c21, Nat.add_zero, nI_succ i] at e
        rw [Int32.add_zero]
        exact e
      · refine z_iconst (pc := 24) (v := 1) C dX10_notsOpen_24 rfl ?_
        refine z_goto (pc := 25) C 29 dX10_notsOpen_25 (by decide) ?_
        refine z_iadd (pc := 29) C dX10_notsOpen_29 ?_
        refine z_istore_n (pc := 30) C 1 dX10_notsOpen_30 rfl (by decide) rfl ?_
        refine z_iinc (pc := 31) (v := 1) C 2 dX10_notsOpen_31 (by decide) rfl rfl rfl ?_
        refine z_goto (pc := 34) C 4 dX10_notsOpen_34 (by decide) ?_
        have e := ih (i + 1) (by omega)
        rw [cntK, if_pos c21, nI_succ (cntK (M 40 0 0) i), nI_succ i] at e
        exact e
  refine z_iconst (pc := 0) (v := 0) C dX10_notsOpen_0 rfl ?_
  refine z_istore_n (pc := 1) C 1 dX10_notsOpen_1 rfl (by decide) rfl ?_
  refine z_iconst (pc := 2) (v := 0) C dX10_notsOpen_2 rfl ?_
  refine z_istore_n (pc := 3) C 2 dX10_notsOpen_3 rfl (by decide) rfl ?_
  exact loop W.length 0 (Nat.zero_add _)

def sgb (c : Int32) : Int32 := if c = 124 then -1 else if c = 38 then -2 else if c = 60 then -3 else if c = 61 then -4 else if c = 62 then -5 else if c = 43 then -6 else if c = 45 then -7 else if c = 42 then -8 else if c = 47 then -9 else 0
theorem sg_b {c : Int32} (h : -1 ≤ c.toInt ∧ c.toInt ≤ 255) : sg (20000 + c) = sgb c := by
  have cz : (20000 : Int32).toInt = 20000 := by decide
  have e : (20000 + c).toInt = 20000 + c.toInt := by rw [zi_add (by rw [cz]; omega) (by rw [cz]; omega), cz]
  have q : ∀ (d d2 : Int32), d.toInt = 20000 + d2.toInt → ((20000 + c = d) ↔ c = d2) := fun d d2 hd => by
    rw [zi_eq, zi_eq, e, hd]
    omega
  unfold sg sgb
  simp only [q 20124 124 (by decide), q 20038 38 (by decide), q 20060 60 (by decide), q 20061 61 (by decide), q 20062 62 (by decide), q 20043 43 (by decide), q 20045 45 (by decide), q 20042 42 (by decide), q 20047 47 (by decide)]
theorem sg_s {B : Nat → Int32} {ky t : Nat} {x : Lx} (hk : lOK B t x) (hB : ∀ i, i < t → iin (B i) 0 255) : sg (ltc B ky x) = if x.2.2.1 = 3 then sgb (B x.1) else 0 := by
  by_cases h3 : x.2.2.1 = 3
  · rw [if_pos h3]
    have hb := hB _ (lOK_lt hk (by omega))
    unfold iin at hb
    rw [← sg_b (by omega)]
    unfold ltc
    rw [if_neg (by omega), if_pos h3]
  · rw [if_neg h3]
    exact sg_0 (by rw [lvl_lo (ltc_lo hk hB h3).2.1]; decide)
theorem tok_3 {x : Lx} : tok x = 3 ↔ x.2.2.1 = 3 := by
  unfold tok
  by_cases h0 : x.2.2.1 = 0
  · rw [if_pos h0]
    exact ⟨fun q => absurd q (by decide), fun q => by omega⟩
  · rw [if_neg h0]
    by_cases h3 : x.2.2.1 = 3
    · rw [if_pos h3]
      exact ⟨fun _ => h3, fun _ => rfl⟩
    · rw [if_neg h3]
      refine ⟨fun q => ?_, fun q => absurd q h3⟩
      split at q
      · exact absurd q (by decide)
      · split at q
        · exact absurd q (by decide)
        · split at q <;> exact absurd q (by decide)
theorem tok_0 {x : Lx} : tok x = 0 ↔ x.2.2.1 = 0 := by
  unfold tok
  by_cases h0 : x.2.2.1 = 0
  · rw [if_pos h0]
    exact ⟨fun _ => h0, fun _ => rfl⟩
  · rw [if_neg h0]
    refine ⟨fun q => ?_, fun q => absurd q h0⟩
    split at q
    · exact absurd q (by decide)
    · split at q
      · exact absurd q (by decide)
      · split at q
        · exact absurd q (by decide)
        · split at q <;> exact absurd q (by decide)
set_option maxHeartbeats 800000 in
set_option maxRecDepth 100000 in
theorem mX10_signHere {l : Launch} {G : zG} {b : Nat} {M : zM} {B : Nat → Int32} {ky t : Nat} {x : Lx} (hg : gst M B x) (hk : lOK B t x) (hB : ∀ i, i < t → iin (B i) 0 255) : zMet l G b yX10_signHere cX10_signHere 1 (some .int) 0 zshL zshL [.ref (b + 239)] M (zI (fun r M' => r = sg (ltc B ky x) ∧ M' = M)) := by
  refine zMet.of (L0 := [some (.ref (b + 239))]) (by decide +kernel) (Nat.le_refl _) (Nat.le_refl _) (Nat.le_of_ble_eq_true rfl) (List.forall_mem_cons.mpr ⟨rfl, fun _ h => absurd h List.not_mem_nil⟩) rfl (fun X C Al K => ?_)
  refine z_aload_n (pc := 0) C 0 dX10_signHere_0 rfl rfl ?_
  refine z_getI (pc := 1) C dX10_signHere_1 fX10_218 sh_239 rfl ?_
  refine z_iconst (pc := 4) (v := 3) C dX10_signHere_4 rfl ?_
  rw [hg.2.2.1]
  refine z_icmp_eq (pc := 5) C 10 dX10_signHere_5 (by decide) (fun c5 => ?_) (fun c5 => ?_)
  · refine z_aload_n (pc := 10) C 0 dX10_signHere_10 rfl rfl ?_
    refine z_getI (pc := 11) C dX10_signHere_11 fX10_224 sh_239 rfl ?_
    have h3 := tok_3.mp c5
    rw [hg.2.2.2.1 (Or.inr h3)]
    by_cases s14_0 : B x.1 = 38
    · refine z_lookup (pc := 14) C 98 dX10_signHere_14 (by decide) (by rw [s14_0]) (by decide) ?_
      refine z_bipush (pc := 98) (v := -2) C dX10_signHere_98 rfl ?_
      refine z_ireturn (pc := 100) C K dX10_signHere_100 ?_
      exact ⟨_, rfl, by rw [sg_s hk hB, if_pos h3, s14_0]; decide, rfl⟩
    by_cases s14_1 : B x.1 = 42
    · refine z_lookup (pc := 14) C 116 dX10_signHere_14 (by decide) (by rw [s14_1]) (by decide) ?_
      refine z_bipush (pc := 116) (v := -8) C dX10_signHere_116 rfl ?_
      refine z_ireturn (pc := 118) C K dX10_signHere_118 ?_
      exact ⟨_, rfl, by rw [sg_s hk hB, if_pos h3, s14_1]; decide, rfl⟩
    by_cases s14_2 : B x.1 = 43
    · refine z_lookup (pc := 14) C 110 dX10_signHere_14 (by decide) (by rw [s14_2]) (by decide) ?_
      refine z_bipush (pc := 110) (v := -6) C dX10_signHere_110 rfl ?_
      refine z_ireturn (pc := 112) C K dX10_signHere_112 ?_
      exact ⟨_, rfl, by rw [sg_s hk hB, if_pos h3, s14_2]; decide, rfl⟩
    by_cases s14_3 : B x.1 = 45
    · refine z_lookup (pc := 14) C 113 dX10_signHere_14 (by decide) (by rw [s14_3]) (by decide) ?_
      refine z_bipush (pc := 113) (v := -7) C dX10_signHere_113 rfl ?_
      refine z_ireturn (pc := 115) C K dX10_signHere_115 ?_
      exact ⟨_, rfl, by rw [sg_s hk hB, if_pos h3, s14_3]; decide, rfl⟩
    by_cases s14_4 : B x.1 = 47
    · refine z_lookup (pc := 14) C 119 dX10_signHere_14 (by decide) (by rw [s14_4]) (by decide) ?_
      refine z_bipush (pc := 119) (v := -9) C dX10_signHere_119 rfl ?_
      refine z_ireturn (pc := 121) C K dX10_signHere_121 ?_
      exact ⟨_, rfl, by rw [sg_s hk hB, if_pos h3, s14_4]; decide, rfl⟩
    by_cases s14_5 : B x.1 = 60
    · refine z_lookup (pc := 14) C 101 dX10_signHere_14 (by decide) (by rw [s14_5]) (by decide) ?_
      refine z_bipush (pc := 101) (v := -3) C dX10_signHere_101 rfl ?_
      refine z_ireturn (pc := 103) C K dX10_signHere_103 ?_
      exact ⟨_, rfl, by rw [sg_s hk hB, if_pos h3, s14_5]; decide, rfl⟩
    by_cases s14_6 : B x.1 = 61
    · refine z_lookup (pc := 14) C 104 dX10_signHere_14 (by decide) (by rw [s14_6]) (by decide) ?_
      refine z_bipush (pc := 104) (v := -4) C dX10_signHere_104 rfl ?_
      refine z_ireturn (pc := 106) C K dX10_signHere_106 ?_
      exact ⟨_, rfl, by rw [sg_s hk hB, if_pos h3, s14_6]; decide, rfl⟩
    by_cases s14_7 : B x.1 = 62
    · refine z_lookup (pc := 14) C 107 dX10_signHere_14 (by decide) (by rw [s14_7]) (by decide) ?_
      refine z_bipush (pc := 107) (v := -5) C dX10_signHere_107 rfl ?_
      refine z_ireturn (pc := 109) C K dX10_signHere_109 ?_
      exact ⟨_, rfl, by rw [sg_s hk hB, if_pos h3, s14_7]; decide, rfl⟩
    by_cases s14_8 : B x.1 = 124
    · refine z_lookup (pc := 14) C 96 dX10_signHere_14 (by decide) (by rw [s14_8]) (by decide) ?_
      refine z_iconst (pc := 96) (v := -1) C dX10_signHere_96 rfl ?_
      refine z_ireturn (pc := 97) C K dX10_signHere_97 ?_
      exact ⟨_, rfl, by rw [sg_s hk hB, if_pos h3, s14_8]; decide, rfl⟩
    refine z_lookup (pc := 14) (off := 108) C 122 dX10_signHere_14 (by decide) (by show Op.lookupswitch.offset [(38, 84), (42, 102), (43, 96), (45, 99), (47, 105), (60, 87), (61, 90), (62, 93), (124, 82)] _ _ = _; rw [lv_osw (k := 38) (a := 38) s14_0 rfl, lv_osw (k := 42) (a := 42) s14_1 rfl, lv_osw (k := 43) (a := 43) s14_2 rfl, lv_osw (k := 45) (a := 45) s14_3 rfl, lv_osw (k := 47) (a := 47) s14_4 rfl, lv_osw (k := 60) (a := 60) s14_5 rfl, lv_osw (k := 61) (a := 61) s14_6 rfl, lv_osw (k := 62) (a := 62) s14_7 rfl, lv_osw (k := 124) (a := 124) s14_8 rfl]; rfl) (by decide) ?_
    refine z_iconst (pc := 122) (v := 0) C dX10_signHere_122 rfl ?_
    refine z_ireturn (pc := 123) C K dX10_signHere_123 ?_
    exact ⟨_, rfl, by rw [sg_s hk hB, if_pos h3, sgb, if_neg s14_8, if_neg s14_0, if_neg s14_5, if_neg s14_6, if_neg s14_7, if_neg s14_2, if_neg s14_3, if_neg s14_1, if_neg s14_4], rfl⟩
  · refine z_iconst (pc := 8) (v := 0) C dX10_signHere_8 rfl ?_
    refine z_ireturn (pc := 9) C K dX10_signHere_9 ?_
    exact ⟨_, rfl, by rw [sg_s hk hB, if_neg (fun z => c5 (tok_3.mpr z))], rfl⟩

set_option maxHeartbeats 800000 in
set_option maxRecDepth 100000 in
theorem mX10_nameOf {l : Launch} {G : zG} {b : Nat} {M : zM} {ky : Nat} (hky : M 30 0 0 13 = nI ky) (hk3 : ky < 3) {c : Int32} : zMet l G b yX10_nameOf cX10_nameOf 2 (some .int) 0 zshL zshL [.ref (b + 239), .int c] M (zI (fun r M' => r = nmo ky c ∧ M' = M)) := by
  refine zMet.of (L0 := [some (.ref (b + 239)), some (.int c)]) (by decide +kernel) (Nat.le_refl _) (Nat.le_refl _) (Nat.le_of_ble_eq_true rfl) (List.forall_mem_cons.mpr ⟨rfl, List.forall_mem_cons.mpr ⟨rfl, fun _ h => absurd h List.not_mem_nil⟩⟩) rfl (fun X C Al K => ?_)
  refine z_aload_n (pc := 0) C 0 dX10_nameOf_0 rfl rfl ?_
  refine z_getI (pc := 1) C dX10_nameOf_1 fX10_230 sh_239 rfl ?_
  rw [hky]
  have eky : (nI ky).toInt = ky := nI_toInt (by omega)
  by_cases s4_0 : nI ky = 0
  · refine z_lookup (pc := 4) C 32 dX10_nameOf_4 (by decide) (by rw [s4_0]) (by decide) ?_
    refine z_iload_n (pc := 32) C 1 dX10_nameOf_32 rfl rfl ?_
    refine z_bipush (pc := 33) (v := 108) C dX10_nameOf_33 rfl ?_
    refine z_icmp_ne (pc := 35) C 42 dX10_nameOf_35 (by decide) (fun c35 => ?_) (fun c35 => ?_)
    · refine z_iload_n (pc := 42) C 1 dX10_nameOf_42 rfl rfl ?_
      refine z_bipush (pc := 43) (v := 104) C dX10_nameOf_43 rfl ?_
      refine z_icmp_ne (pc := 45) C 52 dX10_nameOf_45 (by decide) (fun c45 => ?_) (fun c45 => ?_)
      · refine z_iload_n (pc := 52) C 1 dX10_nameOf_52 rfl rfl ?_
        refine z_bipush (pc := 53) (v := 100) C dX10_nameOf_53 rfl ?_
        refine z_icmp_ne (pc := 55) C 62 dX10_nameOf_55 (by decide) (fun c55 => ?_) (fun c55 => ?_)
        · refine z_iconst (pc := 62) (v := -1) C dX10_nameOf_62 rfl ?_
          refine z_ireturn (pc := 63) C K dX10_nameOf_63 ?_
          refine ⟨_, rfl, ?_, rfl⟩
          unfold nmo
          first | (rw [if_pos (by rw [zi_eq, eky, i0] at s4_0; omega)]) | (rw [if_neg (by rw [zi_eq, eky, i0] at s4_0; omega), if_pos (by rw [zi_eq, eky, i1] at s4_1; omega)]) | (rw [if_neg (by rw [zi_eq, eky, i0] at s4_0; omega), if_neg (by rw [zi_eq, eky, i1] at s4_1; omega)])
          simp_all
        · refine z_iconst (pc := 58) (v := 2) C dX10_nameOf_58 rfl ?_
          refine z_goto (pc := 59) C 63 dX10_nameOf_59 (by decide) ?_
          refine z_ireturn (pc := 63) C K dX10_nameOf_63 ?_
          refine ⟨_, rfl, ?_, rfl⟩
          unfold nmo
          first | (rw [if_pos (by rw [zi_eq, eky, i0] at s4_0; omega)]) | (rw [if_neg (by rw [zi_eq, eky, i0] at s4_0; omega), if_pos (by rw [zi_eq, eky, i1] at s4_1; omega)]) | (rw [if_neg (by rw [zi_eq, eky, i0] at s4_0; omega), if_neg (by rw [zi_eq, eky, i1] at s4_1; omega)])
          simp_all
      · refine z_iconst (pc := 48) (v := 1) C dX10_nameOf_48 rfl ?_
        refine z_goto (pc := 49) C 63 dX10_nameOf_49 (by decide) ?_
        refine z_ireturn (pc := 63) C K dX10_nameOf_63 ?_
        refine ⟨_, rfl, ?_, rfl⟩
        unfold nmo
        first | (rw [if_pos (by rw [zi_eq, eky, i0] at s4_0; omega)]) | (rw [if_neg (by rw [zi_eq, eky, i0] at s4_0; omega), if_pos (by rw [zi_eq, eky, i1] at s4_1; omega)]) | (rw [if_neg (by rw [zi_eq, eky, i0] at s4_0; omega), if_neg (by rw [zi_eq, eky, i1] at s4_1; omega)])
        simp_all
    · refine z_iconst (pc := 38) (v := 0) C dX10_nameOf_38 rfl ?_
      refine z_goto (pc := 39) C 63 dX10_nameOf_39 (by decide) ?_
      refine z_ireturn (pc := 63) C K dX10_nameOf_63 ?_
      refine ⟨_, rfl, ?_, rfl⟩
      unfold nmo
      first | (rw [if_pos (by rw [zi_eq, eky, i0] at s4_0; omega)]) | (rw [if_neg (by rw [zi_eq, eky, i0] at s4_0; omega), if_pos (by rw [zi_eq, eky, i1] at s4_1; omega)]) | (rw [if_neg (by rw [zi_eq, eky, i0] at s4_0; omega), if_neg (by rw [zi_eq, eky, i1] at s4_1; omega)])
      simp_all
  by_cases s4_1 : nI ky = 1
  · refine z_lookup (pc := 4) C 64 dX10_nameOf_4 (by decide) (by rw [s4_1]) (by decide) ?_
    refine z_iload_n (pc := 64) C 1 dX10_nameOf_64 rfl rfl ?_
    refine z_bipush (pc := 65) (v := 116) C dX10_nameOf_65 rfl ?_
    refine z_icmp_ne (pc := 67) C 74 dX10_nameOf_67 (by decide) (fun c67 => ?_) (fun c67 => ?_)
    · refine z_iload_n (pc := 74) C 1 dX10_nameOf_74 rfl rfl ?_
      refine z_bipush (pc := 75) (v := 98) C dX10_nameOf_75 rfl ?_
      refine z_icmp_ne (pc := 77) C 84 dX10_nameOf_77 (by decide) (fun c77 => ?_) (fun c77 => ?_)
      · refine z_iconst (pc := 84) (v := -1) C dX10_nameOf_84 rfl ?_
        refine z_ireturn (pc := 85) C K dX10_nameOf_85 ?_
        refine ⟨_, rfl, ?_, rfl⟩
        unfold nmo
        first | (rw [if_pos (by rw [zi_eq, eky, i0] at s4_0; omega)]) | (rw [if_neg (by rw [zi_eq, eky, i0] at s4_0; omega), if_pos (by rw [zi_eq, eky, i1] at s4_1; omega)]) | (rw [if_neg (by rw [zi_eq, eky, i0] at s4_0; omega), if_neg (by rw [zi_eq, eky, i1] at s4_1; omega)])
        simp_all
      · refine z_iconst (pc := 80) (v := 1) C dX10_nameOf_80 rfl ?_
        refine z_goto (pc := 81) C 85 dX10_nameOf_81 (by decide) ?_
        refine z_ireturn (pc := 85) C K dX10_nameOf_85 ?_
        refine ⟨_, rfl, ?_, rfl⟩
        unfold nmo
        first | (rw [if_pos (by rw [zi_eq, eky, i0] at s4_0; omega)]) | (rw [if_neg (by rw [zi_eq, eky, i0] at s4_0; omega), if_pos (by rw [zi_eq, eky, i1] at s4_1; omega)]) | (rw [if_neg (by rw [zi_eq, eky, i0] at s4_0; omega), if_neg (by rw [zi_eq, eky, i1] at s4_1; omega)])
        simp_all
    · refine z_iconst (pc := 70) (v := 0) C dX10_nameOf_70 rfl ?_
      refine z_goto (pc := 71) C 85 dX10_nameOf_71 (by decide) ?_
      refine z_ireturn (pc := 85) C K dX10_nameOf_85 ?_
      refine ⟨_, rfl, ?_, rfl⟩
      unfold nmo
      first | (rw [if_pos (by rw [zi_eq, eky, i0] at s4_0; omega)]) | (rw [if_neg (by rw [zi_eq, eky, i0] at s4_0; omega), if_pos (by rw [zi_eq, eky, i1] at s4_1; omega)]) | (rw [if_neg (by rw [zi_eq, eky, i0] at s4_0; omega), if_neg (by rw [zi_eq, eky, i1] at s4_1; omega)])
      simp_all
  refine z_lookup (pc := 4) (off := 82) C 86 dX10_nameOf_4 (by decide) (by show Op.lookupswitch.offset [(0, 28), (1, 60)] _ _ = _; rw [lv_osw (k := 0) (a := 0) s4_0 rfl, lv_osw (k := 1) (a := 1) s4_1 rfl]; rfl) (by decide) ?_
  refine z_iload_n (pc := 86) C 1 dX10_nameOf_86 rfl rfl ?_
  refine z_bipush (pc := 87) (v := 119) C dX10_nameOf_87 rfl ?_
  refine z_icmp_ne (pc := 89) C 96 dX10_nameOf_89 (by decide) (fun c89 => ?_) (fun c89 => ?_)
  · refine z_iload_n (pc := 96) C 1 dX10_nameOf_96 rfl rfl ?_
    refine z_bipush (pc := 97) (v := 100) C dX10_nameOf_97 rfl ?_
    refine z_icmp_ne (pc := 99) C 106 dX10_nameOf_99 (by decide) (fun c99 => ?_) (fun c99 => ?_)
    · refine z_iconst (pc := 106) (v := -1) C dX10_nameOf_106 rfl ?_
      refine z_ireturn (pc := 107) C K dX10_nameOf_107 ?_
      refine ⟨_, rfl, ?_, rfl⟩
      unfold nmo
      first | (rw [if_pos (by rw [zi_eq, eky, i0] at s4_0; omega)]) | (rw [if_neg (by rw [zi_eq, eky, i0] at s4_0; omega), if_pos (by rw [zi_eq, eky, i1] at s4_1; omega)]) | (rw [if_neg (by rw [zi_eq, eky, i0] at s4_0; omega), if_neg (by rw [zi_eq, eky, i1] at s4_1; omega)])
      simp_all
    · refine z_iconst (pc := 102) (v := 1) C dX10_nameOf_102 rfl ?_
      refine z_goto (pc := 103) C 107 dX10_nameOf_103 (by decide) ?_
      refine z_ireturn (pc := 107) C K dX10_nameOf_107 ?_
      refine ⟨_, rfl, ?_, rfl⟩
      unfold nmo
      first | (rw [if_pos (by rw [zi_eq, eky, i0] at s4_0; omega)]) | (rw [if_neg (by rw [zi_eq, eky, i0] at s4_0; omega), if_pos (by rw [zi_eq, eky, i1] at s4_1; omega)]) | (rw [if_neg (by rw [zi_eq, eky, i0] at s4_0; omega), if_neg (by rw [zi_eq, eky, i1] at s4_1; omega)])
      simp_all
  · refine z_iconst (pc := 92) (v := 0) C dX10_nameOf_92 rfl ?_
    refine z_goto (pc := 93) C 107 dX10_nameOf_93 (by decide) ?_
    refine z_ireturn (pc := 107) C K dX10_nameOf_107 ?_
    refine ⟨_, rfl, ?_, rfl⟩
    unfold nmo
    first | (rw [if_pos (by rw [zi_eq, eky, i0] at s4_0; omega)]) | (rw [if_neg (by rw [zi_eq, eky, i0] at s4_0; omega), if_pos (by rw [zi_eq, eky, i1] at s4_1; omega)]) | (rw [if_neg (by rw [zi_eq, eky, i0] at s4_0; omega), if_neg (by rw [zi_eq, eky, i1] at s4_1; omega)])
    simp_all

theorem part_iff {B : Nat → Int32} {ky t : Nat} {x : Lx} (hk : lOK B t x) (hB : ∀ i, i < t → iin (B i) 0 255) : (0 ≤ ltc B ky x ∧ ltc B ky x < 20000) ↔ (tok x = 2 ∨ (tok x = 1 ∧ x.2.1 - x.1 = 1 ∧ 0 ≤ nmo ky (B x.1))) := by
  have cz : (20000 : Int32).toInt = 20000 := by decide
  have c4 : (10000 : Int32).toInt = 10000 := by decide
  by_cases h3 : x.2.2.1 = 3
  · have e : ltc B ky x = 20000 + B x.1 := by
      unfold ltc
      rw [if_neg (by omega), if_pos h3]
    have hb := hB _ (lOK_lt hk (by omega))
    unfold iin at hb
    rw [e, tok_3.mpr h3]
    refine ⟨fun z => ?_, fun z => ?_⟩
    · have := z.2
      rw [zi_lt, zi_add (by rw [cz]; omega) (by rw [cz]; omega), cz] at this
      omega
    · rcases z with z | z
      · exact absurd z (by decide)
      · exact absurd z.1 (by decide)
  · have hlo := ltc_lo (ky := ky) hk hB h3
    have h2 : ltc B ky x < 20000 := by rw [zi_lt, cz]; omega
    have key : 0 ≤ ltc B ky x ↔ (tok x = 2 ∨ (tok x = 1 ∧ x.2.1 - x.1 = 1 ∧ 0 ≤ nmo ky (B x.1))) := by
      have h33 : x.2.2.1 ≤ 3 := by rw [hk.2.2.1]; exact tsrt_3 _ _ _
      unfold ltc tok
      by_cases h0 : x.2.2.1 = 0
      · rw [if_pos h0, if_pos h0]
        refine ⟨fun z => absurd z (by decide), fun z => ?_⟩
        rcases z with z | z
        · exact absurd z (by decide)
        · exact absurd z.1 (by decide)
      · rw [if_neg h0, if_neg h3, if_neg h0, if_neg h3]
        by_cases hg : x.2.2.2 = 1
        · rw [if_pos hg, if_pos hg]
          refine ⟨fun z => absurd z (by decide), fun z => ?_⟩
          rcases z with z | z
          · exact absurd z (by decide)
          · exact absurd z.1 (by decide)
        · rw [if_neg hg, if_neg hg]
          by_cases h22 : x.2.2.1 = 2
          · rw [if_pos h22, if_neg (show ¬ x.2.2.1 = 1 by omega)]
            by_cases h4 : x.2.1 - x.1 ≤ 4
            · rw [if_pos h4, if_pos h4]
              refine ⟨fun _ => Or.inl rfl, fun _ => ?_⟩
              have hn := nv_in (B := B) (s := x.1) (x.2.1 - x.1) h4 (fun j hj => by
                have hr := hk.2.2.2.1
                unfold lend at hr
                rw [← hk.2.2.1, if_neg h3, if_neg h0] at hr
                have e := lrun_in (B := B) (t := t) (k := x.2.2.1) (t - x.1) x.1 (x.1 + j) (by omega) (by omega)
                exact dig_of (e.trans h22))
              rw [zi_le, i0]
              exact hn.1
            · rw [if_neg h4, if_neg h4]
              refine ⟨fun z => absurd z (by decide), fun z => ?_⟩
              rcases z with z | z
              · exact absurd z (by decide)
              · exact absurd z.1 (by decide)
          · rw [if_neg h22, if_pos (show x.2.2.1 = 1 by omega)]
            by_cases h5 : x.2.1 - x.1 = 1 ∧ 0 ≤ nmo ky (B x.1)
            · rw [if_pos h5]
              refine ⟨fun _ => Or.inr ⟨rfl, h5⟩, fun _ => ?_⟩
              obtain ⟨n1, n2, -⟩ := nmo_in ky (B x.1)
              have h6 := h5.2
              rw [zi_le, i0] at h6
              rw [zi_le, zi_add (by rw [c4]; omega) (by rw [c4]; omega), c4, i0]
              omega
            · rw [if_neg h5]
              refine ⟨fun z => absurd z (by decide), fun z => ?_⟩
              rcases z with z | z
              · exact absurd z (by decide)
              · exact absurd z.2 h5
    exact ⟨fun z => key.mp z.1, fun z => ⟨key.mpr z, h2⟩⟩
theorem tok_1 {x : Lx} (h : tok x = 1) : x.2.2.1 = 1 ∧ ¬ x.2.2.2 = 1 := by
  unfold tok at h
  by_cases h0 : x.2.2.1 = 0
  · rw [if_pos h0] at h
    exact absurd h (by decide)
  · rw [if_neg h0] at h
    by_cases h3 : x.2.2.1 = 3
    · rw [if_pos h3] at h
      exact absurd h (by decide)
    · rw [if_neg h3] at h
      by_cases hg : x.2.2.2 = 1
      · rw [if_pos hg] at h
        exact absurd h (by decide)
      · rw [if_neg hg] at h
        by_cases h1 : x.2.2.1 = 1
        · exact ⟨h1, hg⟩
        · rw [if_neg h1] at h
          split at h <;> exact absurd h (by decide)
theorem tok_2 {x : Lx} (h : tok x = 2) (h33 : x.2.2.1 ≤ 3) : x.2.2.1 = 2 ∧ ¬ x.2.2.2 = 1 ∧ x.2.1 - x.1 ≤ 4 := by
  unfold tok at h
  by_cases h0 : x.2.2.1 = 0
  · rw [if_pos h0] at h
    exact absurd h (by decide)
  · rw [if_neg h0] at h
    by_cases h3 : x.2.2.1 = 3
    · rw [if_pos h3] at h
      exact absurd h (by decide)
    · rw [if_neg h3] at h
      by_cases hg : x.2.2.2 = 1
      · rw [if_pos hg] at h
        exact absurd h (by decide)
      · rw [if_neg hg] at h
        by_cases h1 : x.2.2.1 = 1
        · rw [if_pos h1] at h
          exact absurd h (by decide)
        · rw [if_neg h1] at h
          by_cases h4 : x.2.1 - x.1 ≤ 4
          · exact ⟨by omega, hg, h4⟩
          · rw [if_neg h4] at h
            exact absurd h (by decide)
def fP (M M' : zM) : Prop := ∀ a i j f, ¬ ((a = 30 ∧ ((8 ≤ f ∧ f ≤ 12) ∨ f = 17 ∨ f = 18 ∨ f = 20)) ∨ a = 39) → M' a i j f = M a i j f
theorem fg.p {M M' : zM} (h : fg M M') : fP M M' := fun a i j f z => h a i j f (fun q => z (by omega))
theorem fS.p {M M' : zM} (h : fS M M') : fP M M' := fun a i j f z => h a i j f (fun q => z (by omega))
theorem fP.trans {M M' M2 : zM} (h : fP M M') (h' : fP M' M2) : fP M M2 := fun a i j f z => (h' a i j f z).trans (h a i j f z)
set_option maxHeartbeats 800000 in
set_option maxRecDepth 100000 in
theorem mX10_takesPart {l : Launch} {G : zG} {b : Nat} {M : zM} {B : Nat → Int32} {ky t : Nat} (hT : gtp M B t) {x : Lx} (hg : gst M B x) (hk : lOK B t x) (hky : M 30 0 0 13 = nI ky) (hk3 : ky < 3) {W o : List Int32} (hW : gW M W) (hO : gO M o) (hl : o.length + W.length + 1 ≤ 96) {a : Nat} (ha : M 30 0 0 18 = nI a) : zMet l G b yX10_takesPart cX10_takesPart 2 (some .boolean) 2 zshL zshL [.ref (b + 239)] M (zI (fun r M' => (¬ (0 ≤ ltc B ky x ∧ ltc B ky x < 20000) ∧ r = 0 ∧ M' = M) ∨ ((0 ≤ ltc B ky x ∧ ltc B ky x < 20000) ∧ r = 1 ∧ gst M' B (ladv B t x) ∧ gW M' (stl 6 W (o ++ [ltc B ky x])).1 ∧ gO M' (stl 6 W (o ++ [ltc B ky x])).2 ∧ M' 30 0 0 18 = nI (a + 1) ∧ fP M M'))) := by
  refine zMet.of (L0 := [some (.ref (b + 239)), none]) (by decide +kernel) (Nat.le_refl _) (Nat.le_refl _) (Nat.le_of_ble_eq_true rfl) (List.forall_mem_cons.mpr ⟨rfl, fun _ h => absurd h List.not_mem_nil⟩) rfl (fun X C Al K => ?_)
  have hB : ∀ i, i < t → iin (B i) 0 255 := fun i hi => (hT.2.2 i hi).2
  have h96 := hT.2.1
  have h33 : x.2.2.1 ≤ 3 := by rw [hk.2.2.1]; exact tsrt_3 _ _ _
  obtain ⟨g9, g8, g10, gv1, gv2, ge⟩ := hg
  have hx1 := hk.1
  have hx2 := hk.2.1
  have esub : (nI x.2.1 - nI x.1).toInt = (x.2.1 - x.1 : Nat) := by
    rw [zi_sub (by rw [nI_toInt (by omega), nI_toInt (by omega)]; omega) (by rw [nI_toInt (by omega), nI_toInt (by omega)]; omega), nI_toInt (by omega), nI_toInt (by omega)]
    omega
  have rest : ∀ (q1 : Option Value) (c : Int32), (0 ≤ ltc B ky x ∧ ltc B ky x < 20000) → c = ltc B ky x → zW X zshL (zu M 39 0 0 o.length c) 88 [some (.ref (b + 239)), q1] [] := by
    intro q1 c hp hc
    subst hc
    have hne : ¬ x.2.2.1 = 0 := fun z => by
      have := (ltc_end (ky := ky) hk hB).mp z
      rw [this] at hp
      exact absurd hp.1 (by decide)
    have hO1 : gO (zu (zu M 39 0 0 o.length (ltc B ky x)) 30 0 0 17 (nI (o.length + 1))) (o ++ [ltc B ky x]) := hO.push _ _ rfl
    have hO2 : gO (zu (zu (zu M 39 0 0 o.length (ltc B ky x)) 30 0 0 17 (nI (o.length + 1))) 30 0 0 18 (nI (a + 1))) (o ++ [ltc B ky x]) := hO1.on (zu_a (by decide)) (zu_f (by decide))
    have hW2 : gW (zu (zu (zu M 39 0 0 o.length (ltc B ky x)) 30 0 0 17 (nI (o.length + 1))) 30 0 0 18 (nI (a + 1))) W := hW.on (by rw [zu_a (by decide), zu_a (by decide), zu_a (by decide)]) (by rw [zu_f (by decide), zu_f (by decide), zu_a (by decide)])
    have f1 : fP M (zu (zu (zu M 39 0 0 o.length (ltc B ky x)) 30 0 0 17 (nI (o.length + 1))) 30 0 0 18 (nI (a + 1))) := fun c i j f z => by
      rw [zu_ne _ _ (fun q => z (by omega)), zu_ne _ _ (fun q => z (by omega)), zu_ne _ _ (fun q => z (by omega))]
    refine z_aload_n (pc := 88) C 0 dX10_takesPart_88 rfl rfl ?_
    refine z_dup (pc := 89) C dX10_takesPart_89 rfl ?_
    refine z_getI (pc := 90) C dX10_takesPart_90 fX10_242 sh_239 rfl ?_
    refine z_iconst (pc := 93) (v := 1) C dX10_takesPart_93 rfl ?_
    refine z_iadd (pc := 94) C dX10_takesPart_94 ?_
    rw [zu_a (by decide), hO.1, nI_1]
    refine z_putII (pc := 95) C dX10_takesPart_95 fX10_242 sh_239 rfl ?_
    refine z_aload_n (pc := 98) C 0 dX10_takesPart_98 rfl rfl ?_
    refine z_dup (pc := 99) C dX10_takesPart_99 rfl ?_
    refine z_getI (pc := 100) C dX10_takesPart_100 fX10_248 sh_239 rfl ?_
    refine z_iconst (pc := 103) (v := 1) C dX10_takesPart_103 rfl ?_
    refine z_iadd (pc := 104) C dX10_takesPart_104 ?_
    rw [zu_f (by decide), zu_a (by decide), ha, nI_1]
    refine z_putII (pc := 105) C dX10_takesPart_105 fX10_248 sh_239 rfl ?_
    refine z_aload_n (pc := 108) C 0 dX10_takesPart_108 rfl rfl ?_
    refine z_bipush (pc := 109) (v := 6) C dX10_takesPart_109 rfl ?_
    refine z_callVv (pc := 111) C dX10_takesPart_111 kX10_251 (mX10_settle (r := 6) hW2 hO2 (by rw [List.length_append, List.length_singleton]; omega) (by decide)) (by decide) sh_239 rfl rfl rfl (Nat.le_of_ble_eq_true rfl) (fun M111 h111 => ?_)
    obtain ⟨w1, w2, w3⟩ := h111
    have f2 := f1.trans w3.p
    have hT2 : gtp M111 B t := ⟨by rw [f2 30 0 0 7 (by omega)]; exact hT.1, h96, fun i hi => by rw [f2 36 0 0 i (by omega)]; exact hT.2.2 i hi⟩
    have k8 : M111 30 0 0 8 = nI x.2.1 := by rw [w3 30 0 0 8 (by omega), zu_f (by decide), zu_f (by decide), zu_a (by decide)]; exact g8
    have k12 : M111 30 0 0 12 = M 30 0 0 12 := by rw [w3 30 0 0 12 (by omega), zu_f (by decide), zu_f (by decide), zu_a (by decide)]
    have k18 : M111 30 0 0 18 = nI (a + 1) := by rw [w3 30 0 0 18 (by omega), zu_self]
    have kI : eInv M111 x := by
      have e := ge hne
      unfold eInv at e ⊢
      rw [k12]
      exact e
    refine z_aload_n (pc := 114) C 0 dX10_takesPart_114 rfl rfl ?_
    refine z_callVv (pc := 115) C dX10_takesPart_115 kX10_233 (mX10_go hT2 k8 hx2 kI) (by decide) sh_239 rfl rfl rfl (Nat.le_of_ble_eq_true rfl) (fun M115 h115 => ?_)
    refine z_iconst (pc := 118) (v := 1) C dX10_takesPart_118 rfl ?_
    refine z_zreturn (pc := 119) C K dX10_takesPart_119 (Or.inr rfl) ?_
    obtain ⟨y1, y2⟩ := h115
    refine ⟨_, rfl, Or.inr ⟨hp, rfl, y1, w1.on ?_ ?_, w2.on ?_ ?_, ?_, f2.trans y2.p⟩⟩
    · funext i j f
      exact y2 40 i j f (by omega)
    · exact y2 30 0 0 20 (by omega)
    · funext i j f
      exact y2 39 i j f (by omega)
    · exact y2 30 0 0 17 (by omega)
    · rw [y2 30 0 0 18 (by omega)]
      exact k18
  refine z_aload_n (pc := 0) C 0 dX10_takesPart_0 rfl rfl ?_
  refine z_getI (pc := 1) C dX10_takesPart_1 fX10_218 sh_239 rfl ?_
  refine z_iconst (pc := 4) (v := 1) C dX10_takesPart_4 rfl ?_
  rw [g10]
  refine z_icmp_ne (pc := 5) C 36 dX10_takesPart_5 (by decide) (fun c5 => ?_) (fun c5 => ?_)
  · refine z_iconst (pc := 36) (v := 0) C dX10_takesPart_36 rfl ?_
    refine z_istore_n (pc := 37) C 1 dX10_takesPart_37 rfl (by decide) rfl ?_
    refine z_aload_n (pc := 38) C 0 dX10_takesPart_38 rfl rfl ?_
    refine z_getI (pc := 39) C dX10_takesPart_39 fX10_218 sh_239 rfl ?_
    refine z_iconst (pc := 42) (v := 2) C dX10_takesPart_42 rfl ?_
    rw [g10]
    refine z_icmp_eq (pc := 43) C 52 dX10_takesPart_43 (by decide) (fun c43 => ?_) (fun c43 => ?_)
    · have hp := (part_iff (ky := ky) hk hB).mpr (Or.inl c43)
      obtain ⟨u1, u2, u3⟩ := tok_2 c43 h33
      refine z_aload_n (pc := 52) C 0 dX10_takesPart_52 rfl rfl ?_
      refine z_getR (pc := 53) (r := 248) C dX10_takesPart_53 fX10_35 sh_239 rfl ?_
      refine z_aload_n (pc := 56) C 0 dX10_takesPart_56 rfl rfl ?_
      refine z_getI (pc := 57) C dX10_takesPart_57 fX10_242 sh_239 rfl ?_
      refine z_aload_n (pc := 60) C 0 dX10_takesPart_60 rfl rfl ?_
      refine z_getI (pc := 61) C dX10_takesPart_61 fX10_218 sh_239 rfl ?_
      refine z_iconst (pc := 64) (v := 2) C dX10_takesPart_64 rfl ?_
      rw [g10]
      refine z_icmp_ne (pc := 65) C 75 dX10_takesPart_65 (by decide) (fun c65 => absurd c43 c65) (fun c65 => ?_)
      refine z_aload_n (pc := 68) C 0 dX10_takesPart_68 rfl rfl ?_
      refine z_getI (pc := 69) C dX10_takesPart_69 fX10_224 sh_239 rfl ?_
      refine z_goto (pc := 72) C 87 dX10_takesPart_72 (by decide) ?_
      rw [hO.1]
      refine z_iast (pc := 87) (n := o.length) C dX10_takesPart_87 sh_248 (vp_in_nI (by omega) (by decide)) (nI_clamp (by omega)) ?_
      exact rest _ _ hp (by rw [gv2 u1 u3]; unfold ltc; rw [if_neg (by omega), if_neg (by omega), if_neg u2, if_pos u1, if_pos u3])
    · refine z_iload_n (pc := 46) C 1 dX10_takesPart_46 rfl rfl ?_
      refine z_if_ne (pc := 47) C 52 dX10_takesPart_47 (by decide) (fun c47 => absurd c47 (by decide)) (fun c47 => ?_)
      refine z_iconst (pc := 50) (v := 0) C dX10_takesPart_50 rfl ?_
      refine z_zreturn (pc := 51) C K dX10_takesPart_51 (Or.inl rfl) ?_
      exact ⟨_, rfl, Or.inl ⟨fun q => (fun z => z.elim c43 (fun z => c5 z.1)) ((part_iff hk hB).mp q), rfl, rfl⟩⟩
  · refine z_aload_n (pc := 8) C 0 dX10_takesPart_8 rfl rfl ?_
    refine z_getI (pc := 9) C dX10_takesPart_9 fX10_209 sh_239 rfl ?_
    refine z_aload_n (pc := 12) C 0 dX10_takesPart_12 rfl rfl ?_
    refine z_getI (pc := 13) C dX10_takesPart_13 fX10_212 sh_239 rfl ?_
    refine z_isub (pc := 16) C dX10_takesPart_16 ?_
    refine z_iconst (pc := 17) (v := 1) C dX10_takesPart_17 rfl ?_
    rw [g8, g9]
    refine z_icmp_ne (pc := 18) C 36 dX10_takesPart_18 (by decide) (fun c18 => ?_) (fun c18 => ?_)
    · refine z_iconst (pc := 36) (v := 0) C dX10_takesPart_36 rfl ?_
      refine z_istore_n (pc := 37) C 1 dX10_takesPart_37 rfl (by decide) rfl ?_
      refine z_aload_n (pc := 38) C 0 dX10_takesPart_38 rfl rfl ?_
      refine z_getI (pc := 39) C dX10_takesPart_39 fX10_218 sh_239 rfl ?_
      refine z_iconst (pc := 42) (v := 2) C dX10_takesPart_42 rfl ?_
      rw [g10]
      refine z_icmp_eq (pc := 43) C 52 dX10_takesPart_43 (by decide) (fun c43 => ?_) (fun c43 => ?_)
      · have hp := (part_iff (ky := ky) hk hB).mpr (Or.inl c43)
        obtain ⟨u1, u2, u3⟩ := tok_2 c43 h33
        refine z_aload_n (pc := 52) C 0 dX10_takesPart_52 rfl rfl ?_
        refine z_getR (pc := 53) (r := 248) C dX10_takesPart_53 fX10_35 sh_239 rfl ?_
        refine z_aload_n (pc := 56) C 0 dX10_takesPart_56 rfl rfl ?_
        refine z_getI (pc := 57) C dX10_takesPart_57 fX10_242 sh_239 rfl ?_
        refine z_aload_n (pc := 60) C 0 dX10_takesPart_60 rfl rfl ?_
        refine z_getI (pc := 61) C dX10_takesPart_61 fX10_218 sh_239 rfl ?_
        refine z_iconst (pc := 64) (v := 2) C dX10_takesPart_64 rfl ?_
        rw [g10]
        refine z_icmp_ne (pc := 65) C 75 dX10_takesPart_65 (by decide) (fun c65 => absurd c43 c65) (fun c65 => ?_)
        refine z_aload_n (pc := 68) C 0 dX10_takesPart_68 rfl rfl ?_
        refine z_getI (pc := 69) C dX10_takesPart_69 fX10_224 sh_239 rfl ?_
        refine z_goto (pc := 72) C 87 dX10_takesPart_72 (by decide) ?_
        rw [hO.1]
        refine z_iast (pc := 87) (n := o.length) C dX10_takesPart_87 sh_248 (vp_in_nI (by omega) (by decide)) (nI_clamp (by omega)) ?_
        exact rest _ _ hp (by rw [gv2 u1 u3]; unfold ltc; rw [if_neg (by omega), if_neg (by omega), if_neg u2, if_pos u1, if_pos u3])
      · refine z_iload_n (pc := 46) C 1 dX10_takesPart_46 rfl rfl ?_
        refine z_if_ne (pc := 47) C 52 dX10_takesPart_47 (by decide) (fun c47 => absurd c47 (by decide)) (fun c47 => ?_)
        refine z_iconst (pc := 50) (v := 0) C dX10_takesPart_50 rfl ?_
        refine z_zreturn (pc := 51) C K dX10_takesPart_51 (Or.inl rfl) ?_
        exact ⟨_, rfl, Or.inl ⟨fun q => (fun z => z.elim c43 (fun z => by rw [zi_eq, esub, i1] at c18; omega)) ((part_iff hk hB).mp q), rfl, rfl⟩⟩
    · refine z_aload_n (pc := 21) C 0 dX10_takesPart_21 rfl rfl ?_
      refine z_aload_n (pc := 22) C 0 dX10_takesPart_22 rfl rfl ?_
      refine z_getI (pc := 23) C dX10_takesPart_23 fX10_224 sh_239 rfl ?_
      rw [gv1 (Or.inl (tok_1 c5).1)]
      refine z_callVi (pc := 26) C dX10_takesPart_26 kX10_245 (mX10_nameOf hky hk3) (by decide) sh_239 rfl rfl rfl (Nat.le_of_ble_eq_true rfl) (fun r26 M26 h26 => ?_)
      obtain ⟨rfl, e26⟩ := h26
      subst M26
      refine z_if_lt (pc := 29) C 36 dX10_takesPart_29 (by decide) (fun c29 => ?_) (fun c29 => ?_)
      · refine z_iconst (pc := 36) (v := 0) C dX10_takesPart_36 rfl ?_
        refine z_istore_n (pc := 37) C 1 dX10_takesPart_37 rfl (by decide) rfl ?_
        refine z_aload_n (pc := 38) C 0 dX10_takesPart_38 rfl rfl ?_
        refine z_getI (pc := 39) C dX10_takesPart_39 fX10_218 sh_239 rfl ?_
        refine z_iconst (pc := 42) (v := 2) C dX10_takesPart_42 rfl ?_
        rw [g10]
        refine z_icmp_eq (pc := 43) C 52 dX10_takesPart_43 (by decide) (fun c43 => ?_) (fun c43 => ?_)
        · have hp := (part_iff (ky := ky) hk hB).mpr (Or.inl c43)
          obtain ⟨u1, u2, u3⟩ := tok_2 c43 h33
          refine z_aload_n (pc := 52) C 0 dX10_takesPart_52 rfl rfl ?_
          refine z_getR (pc := 53) (r := 248) C dX10_takesPart_53 fX10_35 sh_239 rfl ?_
          refine z_aload_n (pc := 56) C 0 dX10_takesPart_56 rfl rfl ?_
          refine z_getI (pc := 57) C dX10_takesPart_57 fX10_242 sh_239 rfl ?_
          refine z_aload_n (pc := 60) C 0 dX10_takesPart_60 rfl rfl ?_
          refine z_getI (pc := 61) C dX10_takesPart_61 fX10_218 sh_239 rfl ?_
          refine z_iconst (pc := 64) (v := 2) C dX10_takesPart_64 rfl ?_
          rw [g10]
          refine z_icmp_ne (pc := 65) C 75 dX10_takesPart_65 (by decide) (fun c65 => absurd c43 c65) (fun c65 => ?_)
          refine z_aload_n (pc := 68) C 0 dX10_takesPart_68 rfl rfl ?_
          refine z_getI (pc := 69) C dX10_takesPart_69 fX10_224 sh_239 rfl ?_
          refine z_goto (pc := 72) C 87 dX10_takesPart_72 (by decide) ?_
          rw [hO.1]
          refine z_iast (pc := 87) (n := o.length) C dX10_takesPart_87 sh_248 (vp_in_nI (by omega) (by decide)) (nI_clamp (by omega)) ?_
          exact rest _ _ hp (by rw [gv2 u1 u3]; unfold ltc; rw [if_neg (by omega), if_neg (by omega), if_neg u2, if_pos u1, if_pos u3])
        · refine z_iload_n (pc := 46) C 1 dX10_takesPart_46 rfl rfl ?_
          refine z_if_ne (pc := 47) C 52 dX10_takesPart_47 (by decide) (fun c47 => absurd c47 (by decide)) (fun c47 => ?_)
          refine z_iconst (pc := 50) (v := 0) C dX10_takesPart_50 rfl ?_
          refine z_zreturn (pc := 51) C K dX10_takesPart_51 (Or.inl rfl) ?_
          exact ⟨_, rfl, Or.inl ⟨fun q => (fun z => z.elim c43 (fun z => Int32.not_le.mpr c29 z.2.2)) ((part_iff hk hB).mp q), rfl, rfl⟩⟩
      · refine z_iconst (pc := 32) (v := 1) C dX10_takesPart_32 rfl ?_
        refine z_goto (pc := 33) C 37 dX10_takesPart_33 (by decide) ?_
        refine z_istore_n (pc := 37) C 1 dX10_takesPart_37 rfl (by decide) rfl ?_
        refine z_aload_n (pc := 38) C 0 dX10_takesPart_38 rfl rfl ?_
        refine z_getI (pc := 39) C dX10_takesPart_39 fX10_218 sh_239 rfl ?_
        refine z_iconst (pc := 42) (v := 2) C dX10_takesPart_42 rfl ?_
        rw [g10]
        refine z_icmp_eq (pc := 43) C 52 dX10_takesPart_43 (by decide) (fun c43 => ?_) (fun c43 => ?_)
        · have hp := (part_iff (ky := ky) hk hB).mpr (Or.inl c43)
          obtain ⟨u1, u2, u3⟩ := tok_2 c43 h33
          refine z_aload_n (pc := 52) C 0 dX10_takesPart_52 rfl rfl ?_
          refine z_getR (pc := 53) (r := 248) C dX10_takesPart_53 fX10_35 sh_239 rfl ?_
          refine z_aload_n (pc := 56) C 0 dX10_takesPart_56 rfl rfl ?_
          refine z_getI (pc := 57) C dX10_takesPart_57 fX10_242 sh_239 rfl ?_
          refine z_aload_n (pc := 60) C 0 dX10_takesPart_60 rfl rfl ?_
          refine z_getI (pc := 61) C dX10_takesPart_61 fX10_218 sh_239 rfl ?_
          refine z_iconst (pc := 64) (v := 2) C dX10_takesPart_64 rfl ?_
          rw [g10]
          refine z_icmp_ne (pc := 65) C 75 dX10_takesPart_65 (by decide) (fun c65 => absurd c43 c65) (fun c65 => ?_)
          refine z_aload_n (pc := 68) C 0 dX10_takesPart_68 rfl rfl ?_
          refine z_getI (pc := 69) C dX10_takesPart_69 fX10_224 sh_239 rfl ?_
          refine z_goto (pc := 72) C 87 dX10_takesPart_72 (by decide) ?_
          rw [hO.1]
          refine z_iast (pc := 87) (n := o.length) C dX10_takesPart_87 sh_248 (vp_in_nI (by omega) (by decide)) (nI_clamp (by omega)) ?_
          exact rest _ _ hp (by rw [gv2 u1 u3]; unfold ltc; rw [if_neg (by omega), if_neg (by omega), if_neg u2, if_pos u1, if_pos u3])
        · refine z_iload_n (pc := 46) C 1 dX10_takesPart_46 rfl rfl ?_
          refine z_if_ne (pc := 47) C 52 dX10_takesPart_47 (by decide) (fun c47 => ?_) (fun c47 => absurd c47 (by decide))
          have h11 := tok_1 c5
          have hp := (part_iff (ky := ky) hk hB).mpr (Or.inr ⟨c5, by rw [zi_eq, esub, i1] at c18; omega, Int32.not_lt.mp c29⟩)
          refine z_aload_n (pc := 52) C 0 dX10_takesPart_52 rfl rfl ?_
          refine z_getR (pc := 53) (r := 248) C dX10_takesPart_53 fX10_35 sh_239 rfl ?_
          refine z_aload_n (pc := 56) C 0 dX10_takesPart_56 rfl rfl ?_
          refine z_getI (pc := 57) C dX10_takesPart_57 fX10_242 sh_239 rfl ?_
          refine z_aload_n (pc := 60) C 0 dX10_takesPart_60 rfl rfl ?_
          refine z_getI (pc := 61) C dX10_takesPart_61 fX10_218 sh_239 rfl ?_
          refine z_iconst (pc := 64) (v := 2) C dX10_takesPart_64 rfl ?_
          rw [g10]
          refine z_icmp_ne (pc := 65) C 75 dX10_takesPart_65 (by decide) (fun c65 => ?_) (fun c65 => absurd c65 c43)
          refine z_sipush (pc := 75) (v := 10000) C dX10_takesPart_75 rfl ?_
          refine z_aload_n (pc := 78) C 0 dX10_takesPart_78 rfl rfl ?_
          refine z_aload_n (pc := 79) C 0 dX10_takesPart_79 rfl rfl ?_
          refine z_getI (pc := 80) C dX10_takesPart_80 fX10_224 sh_239 rfl ?_
          rw [gv1 (Or.inl (tok_1 c5).1)]
          refine z_callVi (pc := 83) C dX10_takesPart_83 kX10_245 (mX10_nameOf hky hk3) (by decide) sh_239 rfl rfl rfl (Nat.le_of_ble_eq_true rfl) (fun r83 M83 h83 => ?_)
          obtain ⟨rfl, e83⟩ := h83
          subst M83
          refine z_iadd (pc := 86) C dX10_takesPart_86 ?_
          rw [hO.1]
          refine z_iast (pc := 87) (n := o.length) C dX10_takesPart_87 sh_248 (vp_in_nI (by omega) (by decide)) (nI_clamp (by omega)) ?_
          exact rest _ _ hp (by unfold ltc; rw [if_neg (by omega), if_neg (by omega), if_neg h11.2, if_neg (by omega), if_pos ⟨by rw [zi_eq, esub, i1] at c18; omega, Int32.not_lt.mp c29⟩])
