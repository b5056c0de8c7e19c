/-! a try: spread, turn, attempt; a world becomes another -/
def sM (M : zM) (w : Nat) (s tm : Int32) (hv : Int32 → Int32 → Int32 → Int32) (i : Nat) : zM := fun a x y f => if a = 1 ∧ x = w ∧ y < i then pPe hv s tm (M 1 w y) f else M a x y f
theorem sM_0 (M : zM) (w : Nat) (s tm : Int32) (hv : Int32 → Int32 → Int32 → Int32) : sM M w s tm hv 0 = M := by
  funext a x y f
  exact if_neg (fun z => absurd z.2.2 (Nat.not_lt_zero _))
theorem sM_o {M : zM} {w : Nat} {s tm : Int32} {hv : Int32 → Int32 → Int32 → Int32} {i a : Nat} (h : a ≠ 1) : sM M w s tm hv i a = M a := by
  funext x y f
  exact if_neg (fun z => h z.1)
theorem sM_at {M : zM} {w : Nat} {s tm : Int32} {hv : Int32 → Int32 → Int32 → Int32} {i y : Nat} (h : i ≤ y) : sM M w s tm hv i 1 w y = M 1 w y := by
  funext f
  exact if_neg (fun z => absurd z.2.2 (by omega))
theorem sM_in {M : zM} {w : Nat} {s tm : Int32} {hv : Int32 → Int32 → Int32 → Int32} {i y : Nat} (h : y < i) : sM M w s tm hv i 1 w y = pPe hv s tm (M 1 w y) := by
  funext f
  exact if_pos ⟨rfl, rfl, h⟩
theorem sM_x {M : zM} {w x : Nat} {s tm : Int32} {hv : Int32 → Int32 → Int32 → Int32} {i : Nat} (h : x ≠ w) : sM M w s tm hv i 1 x = M 1 x := by
  funext y f
  exact if_neg (fun z => h z.2.1)
theorem sM_succ (M : zM) (w : Nat) (s tm : Int32) (hv : Int32 → Int32 → Int32 → Int32) (i : Nat) : pPut (sM M w s tm hv i) w i (pPe hv s tm (M 1 w i)) = sM M w s tm hv (i + 1) := by
  funext a x y f
  by_cases e : a = 1 ∧ x = w ∧ y = i
  · obtain ⟨rfl, rfl, rfl⟩ := e
    rw [pPut_at, sM_in (Nat.lt_succ_self _)]
  · rw [show pPut (sM M w s tm hv i) w i (pPe hv s tm (M 1 w i)) a x y f = sM M w s tm hv i a x y f from if_neg e]
    by_cases e2 : a = 1 ∧ x = w ∧ y < i
    · rw [show sM M w s tm hv i a x y f = _ from if_pos e2]
      exact (if_pos ⟨e2.1, e2.2.1, by omega⟩).symm
    · rw [show sM M w s tm hv i a x y f = _ from if_neg e2]
      exact (if_neg (fun z => e2 ⟨z.1, z.2.1, by rcases Nat.lt_or_ge y i with q | q; exact q; exact absurd ⟨z.1, z.2.1, by omega⟩ e⟩)).symm
theorem e12.put {M M' : zM} (h : e12 M M') (w i : Nat) (q : Nat → Int32) : e12 (pPut M w i q) (pPut M' w i q) := by
  intro a ha
  funext x y f
  unfold pPut
  rw [h a ha]
theorem e12.zu {M M' : zM} (h : e12 M M') (a i j f : Nat) (v : Int32) : e12 (zu M a i j f v) (zu M' a i j f v) := by
  intro c hc
  funext x y g
  show (if c = a ∧ x = i ∧ y = j ∧ g = f then v else M' c x y g) = (if c = a ∧ x = i ∧ y = j ∧ g = f then v else M c x y g)
  rw [h c hc]
theorem okS.on {M M' : zM} (h8 : M' 8 = M 8) (h9 : M' 9 = M 9) {lw : Int32} {hv : Int32 → Int32 → Int32 → Int32} (g : okS M lw hv) : okS M' lw hv := by
  rcases g with g | ⟨t, h1, h2, h3⟩
  · exact Or.inl g
  · refine Or.inr ⟨t, h1, h2, fun x y z => ?_⟩
    obtain ⟨r, ⟨n, g1, g2, g3⟩, g4⟩ := h3 x y z
    exact ⟨r, ⟨n, g1, by rw [h8]; exact g2, by rw [h9]; exact g3⟩, g4⟩
set_option maxHeartbeats 4000000 in
set_option maxRecDepth 100000 in
theorem mX8_spread {l : Launch} {G : zG} {b : Nat} {M : zM} {w n : Nat} (hw : w < 14) (hn : M 5 w 0 2 = nI n) (hn8 : n ≤ 8) {s tm : Int32} {hv : Int32 → Int32 → Int32 → Int32} (hS : okS M (M 6 w 0 0) hv) : zMet l G b yX8_spread cX8_spread 6 none 3 zshL zshL [.ref (b + adW w), .int s, .int tm] M (zV (fun M' => e12 (sM M w s tm hv n) M')) := by
  refine zMet.of (L0 := [some (.ref (b + adW w)), some (.int s), some (.int tm), none, none, none]) (by decide +kernel) (Nat.le_refl _) (Nat.le_refl _) (Nat.le_of_ble_eq_true rfl) (List.forall_mem_cons.mpr ⟨rfl, List.forall_mem_cons.mpr ⟨rfl, List.forall_mem_cons.mpr ⟨rfl, fun _ h => absurd h List.not_mem_nil⟩⟩⟩) rfl (fun X C Al K => ?_)
  have loop : ∀ (k i : Nat) (M1 : zM) (q : Option Value), i + k = n → e12 (sM M w s tm hv i) M1 → zW X zshL M1 10 [some (.ref (b + adW w)), some (.int s), some (.int tm), some (.int (M 6 w 0 0)), some (.int (nI i)), q] [] := by
    intro k
    induction k with
    | zero =>
      intro i M1 q hi he
      have hn1 : M1 5 w 0 2 = nI n := by rw [he 5 (by decide), sM_o (by decide)]; exact hn
      refine z_iload (pc := 10) C 4 dX8_spread_10 rfl ?_
      refine z_aload_n (pc := 12) C 0 dX8_spread_12 rfl rfl ?_
      refine z_getI (pc := 13) C dX8_spread_13 fX8_17 (shW hw) rfl ?_
      refine z_icmp_ge (pc := 16) C 56 dX8_spread_16 (by decide) (fun c16 => ?_) (fun c16 => absurd (zlt hn1 (by omega) (by omega)) c16)
      refine z_return (pc := 56) C K dX8_spread_56 ?_
      obtain rfl : i = n := by omega
      exact ⟨rfl, he⟩
    | succ k ih =>
      intro i M1 q hi he
      have hin : i < 8 := by omega
      have hn1 : M1 5 w 0 2 = nI n := by rw [he 5 (by decide), sM_o (by decide)]; exact hn
      have hp1 : M1 1 w i = M 1 w i := by rw [he 1 (by decide), sM_at (Nat.le_refl _)]
      refine z_iload (pc := 10) C 4 dX8_spread_10 rfl ?_
      refine z_aload_n (pc := 12) C 0 dX8_spread_12 rfl rfl ?_
      refine z_getI (pc := 13) C dX8_spread_13 fX8_17 (shW hw) rfl ?_
      refine z_icmp_ge (pc := 16) C 56 dX8_spread_16 (by decide) (fun c16 => absurd c16 (zlf hn1 (by omega) (by omega))) (fun c16 => ?_)
      refine z_aload_n (pc := 19) C 0 dX8_spread_19 rfl rfl ?_
      refine z_getR (pc := 20) (r := adW w + 1) C dX8_spread_20 fX8_11 (shW hw) rfl ?_
      refine z_iload (pc := 23) C 4 dX8_spread_23 rfl ?_
      refine z_aald (pc := 25) (r := adP w i) C dX8_spread_25 (shPa hw) rfl rfl (pin hin) (pget hin) ?_
      refine z_astore (pc := 26) C 5 dX8_spread_26 (by decide) rfl ?_
      refine z_aload (pc := 28) C 5 dX8_spread_28 rfl ?_
      refine z_iload_n (pc := 30) C 1 dX8_spread_30 rfl rfl ?_
      refine z_iload_n (pc := 31) C 2 dX8_spread_31 rfl rfl ?_
      refine z_callVv (pc := 32) C dX8_spread_32 kX8_134 (mX0_hear (okP_w hw hin)) (by decide) (shP (okP_w hw hin)) rfl rfl rfl (Nat.le_of_ble_eq_true rfl) (fun M32 h32 => ?_)
      rw [hp1] at h32
      have hS2 : okS M32 (M 6 w 0 0) hv := by
        refine okS.on ?_ ?_ hS
        · rw [h32, pPut_o (by decide), he 8 (by decide), sM_o (by decide)]
        · rw [h32, pPut_o (by decide), he 9 (by decide), sM_o (by decide)]
      refine z_aload (pc := 35) C 5 dX8_spread_35 rfl ?_
      refine z_aload (pc := 37) C 5 dX8_spread_37 rfl ?_
      refine z_aload_n (pc := 39) C 0 dX8_spread_39 rfl rfl ?_
      refine z_getR (pc := 40) (r := 1) C dX8_spread_40 fX8_50 (shW hw) rfl ?_
      refine z_iload_n (pc := 43) C 3 dX8_spread_43 rfl rfl ?_
      refine z_callVi (pc := 44) C dX8_spread_44 kX8_137 (mX0_setting (okP_w hw hin) hS2) (by decide) (shP (okP_w hw hin)) rfl rfl rfl (Nat.le_of_ble_eq_true rfl) (fun r44 M44 h44 => ?_)
      obtain ⟨e44, g44⟩ := h44
      have hq : M32 1 w i = pHear s tm (M 1 w i) := by rw [h32, pPut_at]
      rw [hq] at e44
      refine z_putII (pc := 47) C dX8_spread_47 fX8_73 (shP (okP_w hw hin)) rfl ?_
      refine z_iinc (pc := 50) (v := 1) C 4 dX8_spread_50 (by decide) rfl rfl rfl ?_
      refine z_goto (pc := 53) C 10 dX8_spread_53 (by decide) ?_
      have hq2 : M44 1 w i = pHear s tm (M 1 w i) := by rw [g44 1 (by decide), hq]
      have e := ih (i + 1) (zu M44 1 w i 1 r44) (some (.ref (b + adP w i))) (by omega) ?_
      · rw [nI_succ] at e
        exact e
      · rw [pPut_zu, hq2, e44, ← sM_succ]
        have g1 := he.put w i (pPe hv s tm (M 1 w i))
        have g2 := g44.put w i (pPe hv s tm (M 1 w i))
        rw [h32, pPut_pPut] at g2
        exact g1.trans g2
  refine z_aload_n (pc := 0) C 0 dX8_spread_0 rfl rfl ?_
  refine z_getR (pc := 1) (r := adW w + 2) C dX8_spread_1 fX8_46 (shW hw) rfl ?_
  refine z_iconst (pc := 4) (v := 0) C dX8_spread_4 rfl ?_
  refine z_iald (pc := 5) (n := 0) C dX8_spread_5 (shLw hw) (zi_in.mpr (by decide)) rfl ?_
  refine z_istore_n (pc := 6) C 3 dX8_spread_6 rfl (by decide) rfl ?_
  refine z_iconst (pc := 7) (v := 0) C dX8_spread_7 rfl ?_
  refine z_istore (pc := 8) C 4 dX8_spread_8 (by decide) rfl ?_
  exact loop n 0 M _ (by omega) (by rw [sM_0]; exact e12.rfl')

theorem zcmp_0 {x y : Int32} : zcmp x y = 0 ↔ x = y := by
  unfold zcmp
  split
  · rename_i h
    exact ⟨fun q => absurd q (by decide), fun q => by rw [q] at h; exact (Int32.lt_irrefl h).elim⟩
  · split
    · rename_i h
      exact ⟨fun _ => h, fun _ => rfl⟩
    · rename_i h
      exact ⟨fun q => absurd q (by decide), fun q => absurd q h⟩
theorem zcmp_le {x y : Int32} : zcmp x y ≤ 0 ↔ ¬ y < x := by
  unfold zcmp
  split
  · rename_i h
    exact ⟨fun _ q => Int32.lt_asymm h q, fun _ => by decide⟩
  · rename_i h0
    split
    · rename_i h
      exact ⟨fun _ q => by rw [h] at q; exact Int32.lt_irrefl q, fun _ => by decide⟩
    · rename_i h
      refine ⟨fun q => absurd q (by decide), fun q => absurd (Int32.le_antisymm (Int32.not_lt.mp q) (Int32.not_lt.mp h0)) h⟩
def tuM (M : zM) (w n : Nat) (hv : Int32 → Int32 → Int32 → Int32) : zM := if pVoice (M 1 w) n (M 5 w 0 4) = M 5 w 0 3 then zu M 5 w 0 7 1 else zu (sM M w (pVoice (M 1 w) n (M 5 w 0 4)) (if M 5 w 0 3 < pVoice (M 1 w) n (M 5 w 0 4) then 1 else 0) hv n) 5 w 0 3 (pFm (M 5 w 0 3 + M 5 w 0 5 * 1))
set_option maxHeartbeats 4000000 in
set_option maxRecDepth 100000 in
theorem mX8_turn {l : Launch} {G : zG} {b : Nat} {M : zM} {w n : Nat} (hw : w < 14) (hn : M 5 w 0 2 = nI n) (hn8 : n ≤ 8) {hv : Int32 → Int32 → Int32 → Int32} (hS : okS M (M 6 w 0 0) hv) : zMet l G b yX8_turn cX8_turn 3 (some .int) 4 zshL zshL [.ref (b + adW w)] M (zI (fun r M' => r = zcmp (pVoice (M 1 w) n (M 5 w 0 4)) (M 5 w 0 3) ∧ e12 (tuM M w n hv) M')) := by
  refine zMet.of (L0 := [some (.ref (b + adW w)), none, none]) (by decide +kernel) (Nat.le_refl _) (Nat.le_refl _) (Nat.le_of_ble_eq_true rfl) (List.forall_mem_cons.mpr ⟨rfl, fun _ h => absurd h List.not_mem_nil⟩) rfl (fun X C Al K => ?_)
  refine z_aload_n (pc := 0) C 0 dX8_turn_0 rfl rfl ?_
  refine z_callVi (pc := 1) C dX8_turn_1 kX8_119 (mX8_voice hw hn hn8) (by decide) (shW hw) rfl rfl rfl (Nat.le_of_ble_eq_true rfl) (fun r1 M1 h1 => ?_)
  obtain ⟨rfl, e1⟩ := h1
  subst M1
  refine z_istore_n (pc := 4) C 1 dX8_turn_4 rfl (by decide) rfl ?_
  refine z_iload_n (pc := 5) C 1 dX8_turn_5 rfl rfl ?_
  refine z_aload_n (pc := 6) C 0 dX8_turn_6 rfl rfl ?_
  refine z_getI (pc := 7) C dX8_turn_7 fX8_21 (shW hw) rfl ?_
  refine z_callSi (pc := 10) C dX8_turn_10 kX8_122 mJ6_compare_7cf53 (by decide) rfl rfl (Nat.le_of_ble_eq_true rfl) (fun r10 M10 h10 => ?_)
  obtain ⟨rfl, e10⟩ := h10
  subst M10
  refine z_istore_n (pc := 13) C 2 dX8_turn_13 rfl (by decide) rfl ?_
  refine z_iload_n (pc := 14) C 2 dX8_turn_14 rfl rfl ?_
  refine z_if_ne (pc := 15) C 25 dX8_turn_15 (by decide) (fun c15 => ?_) (fun c15 => ?_)
  · refine z_aload_n (pc := 25) C 0 dX8_turn_25 rfl rfl ?_
    refine z_iload_n (pc := 26) C 1 dX8_turn_26 rfl rfl ?_
    refine z_iload_n (pc := 27) C 2 dX8_turn_27 rfl rfl ?_
    refine z_if_le (pc := 28) C 35 dX8_turn_28 (by decide) (fun c28 => ?_) (fun c28 => ?_)
    · refine z_iconst (pc := 35) (v := 0) C dX8_turn_35 rfl ?_
      refine z_callVv (pc := 36) C dX8_turn_36 kX8_127 (mX8_spread hw hn hn8 hS) (by decide) (shW hw) rfl rfl rfl (Nat.le_of_ble_eq_true rfl) (fun M36 h36 => ?_)
      have h3 : M36 5 w 0 3 = M 5 w 0 3 := by rw [h36 5 (by decide), sM_o (by decide)]
      have h5 : M36 5 w 0 5 = M 5 w 0 5 := by rw [h36 5 (by decide), sM_o (by decide)]
      refine z_aload_n (pc := 39) C 0 dX8_turn_39 rfl rfl ?_
      refine z_aload_n (pc := 40) C 0 dX8_turn_40 rfl rfl ?_
      refine z_aload_n (pc := 41) C 0 dX8_turn_41 rfl rfl ?_
      refine z_getI (pc := 42) C dX8_turn_42 fX8_21 (shW hw) rfl ?_
      refine z_iconst (pc := 45) (v := 1) C dX8_turn_45 rfl ?_
      refine z_callVi (pc := 46) C dX8_turn_46 kX8_131 (mX8_drifted hw) (by decide) (shW hw) rfl rfl rfl (Nat.le_of_ble_eq_true rfl) (fun r46 M46 h46 => ?_)
      obtain ⟨rfl, e46⟩ := h46
      subst M46
      refine z_putII (pc := 49) C dX8_turn_49 fX8_21 (shW hw) rfl ?_
      refine z_iload_n (pc := 52) C 2 dX8_turn_52 rfl rfl ?_
      refine z_ireturn (pc := 53) C K dX8_turn_53 ?_
      refine ⟨_, rfl, rfl, ?_⟩
      have hne : ¬ pVoice (M 1 w) n (M 5 w 0 4) = M 5 w 0 3 := fun z => c15 (zcmp_0.mpr z)
      unfold tuM
      rw [if_neg hne, if_neg (zcmp_le.mp c28), h3, h5]
      exact h36.zu 5 w 0 3 _
    · refine z_iconst (pc := 31) (v := 1) C dX8_turn_31 rfl ?_
      refine z_goto (pc := 32) C 36 dX8_turn_32 (by decide) ?_
      refine z_callVv (pc := 36) C dX8_turn_36 kX8_127 (mX8_spread hw hn hn8 hS) (by decide) (shW hw) rfl rfl rfl (Nat.le_of_ble_eq_true rfl) (fun M36 h36 => ?_)
      have h3 : M36 5 w 0 3 = M 5 w 0 3 := by rw [h36 5 (by decide), sM_o (by decide)]
      have h5 : M36 5 w 0 5 = M 5 w 0 5 := by rw [h36 5 (by decide), sM_o (by decide)]
      refine z_aload_n (pc := 39) C 0 dX8_turn_39 rfl rfl ?_
      refine z_aload_n (pc := 40) C 0 dX8_turn_40 rfl rfl ?_
      refine z_aload_n (pc := 41) C 0 dX8_turn_41 rfl rfl ?_
      refine z_getI (pc := 42) C dX8_turn_42 fX8_21 (shW hw) rfl ?_
      refine z_iconst (pc := 45) (v := 1) C dX8_turn_45 rfl ?_
      refine z_callVi (pc := 46) C dX8_turn_46 kX8_131 (mX8_drifted hw) (by decide) (shW hw) rfl rfl rfl (Nat.le_of_ble_eq_true rfl) (fun r46 M46 h46 => ?_)
      obtain ⟨rfl, e46⟩ := h46
      subst M46
      refine z_putII (pc := 49) C dX8_turn_49 fX8_21 (shW hw) rfl ?_
      refine z_iload_n (pc := 52) C 2 dX8_turn_52 rfl rfl ?_
      refine z_ireturn (pc := 53) C K dX8_turn_53 ?_
      refine ⟨_, rfl, rfl, ?_⟩
      have hne : ¬ pVoice (M 1 w) n (M 5 w 0 4) = M 5 w 0 3 := fun z => c15 (zcmp_0.mpr z)
      unfold tuM
      rw [if_neg hne, if_pos (Classical.not_not.mp (fun z => c28 (zcmp_le.mpr z))), h3, h5]
      exact h36.zu 5 w 0 3 _
  · refine z_aload_n (pc := 18) C 0 dX8_turn_18 rfl rfl ?_
    refine z_iconst (pc := 19) (v := 1) C dX8_turn_19 rfl ?_
    refine z_putZ (pc := 20) C dX8_turn_20 fX8_33 (shW hw) rfl (Or.inr rfl) ?_
    refine z_iconst (pc := 23) (v := 0) C dX8_turn_23 rfl ?_
    refine z_ireturn (pc := 24) C K dX8_turn_24 ?_
    refine ⟨_, rfl, c15.symm, ?_⟩
    unfold tuM
    rw [if_pos (zcmp_0.mp c15)]
    exact e12.rfl'

def still (M : zM) (w n : Nat) : Prop := ¬ M 5 w 0 7 = 0 ∨ n = 0 ∨ M 5 w 0 6 = 0
def bt (M : zM) (w : Nat) : zM := zu (zu M 5 w 0 6 (M 5 w 0 6 - 1)) 5 w 0 8 (M 5 w 0 8 + 1)
theorem nz {x : Int32} {n : Nat} (hn : x = nI n) (h : n ≤ 8) : x = 0 ↔ n = 0 := by
  rw [hn]
  refine ⟨fun q => ?_, fun q => by rw [q]; rfl⟩
  rcases Nat.eq_zero_or_pos n with z | z
  · exact z
  · exact absurd q (nI_ne0 z (by omega))
set_option maxHeartbeats 4000000 in
set_option maxRecDepth 100000 in
theorem mX8_attempt {l : Launch} {G : zG} {b : Nat} {M : zM} {w n : Nat} (hw : w < 14) (hn : M 5 w 0 2 = nI n) (hn8 : n ≤ 8) {hv : Int32 → Int32 → Int32 → Int32} (hS : okS M (M 6 w 0 0) hv) : zMet l G b yX8_attempt cX8_attempt 1 (some .boolean) 5 zshL zshL [.ref (b + adW w)] M (zI (fun r M' => (still M w n → r = 0 ∧ e12 M M') ∧ (¬ still M w n → r = 1 ∧ e12 (tuM (bt M w) w n hv) M'))) := by
  refine zMet.of (L0 := [some (.ref (b + adW w))]) (by decide +kernel) (Nat.le_refl _) (Nat.le_refl _) (Nat.le_of_ble_eq_true rfl) (List.forall_mem_cons.mpr ⟨rfl, fun _ h => absurd h List.not_mem_nil⟩) rfl (fun X C Al K => ?_)
  refine z_aload_n (pc := 0) C 0 dX8_attempt_0 rfl rfl ?_
  refine z_getI (pc := 1) C dX8_attempt_1 fX8_33 (shW hw) rfl ?_
  refine z_if_ne (pc := 4) C 21 dX8_attempt_4 (by decide) (fun c4 => ?_) (fun c4 => ?_)
  · refine z_iconst (pc := 21) (v := 0) C dX8_attempt_21 rfl ?_
    refine z_zreturn (pc := 22) C K dX8_attempt_22 (Or.inl rfl) ?_
    exact ⟨_, rfl, fun _ => ⟨rfl, e12.rfl'⟩, fun z => absurd (Or.inl c4) z⟩
  · refine z_aload_n (pc := 7) C 0 dX8_attempt_7 rfl rfl ?_
    refine z_getI (pc := 8) C dX8_attempt_8 fX8_17 (shW hw) rfl ?_
    refine z_if_eq (pc := 11) C 21 dX8_attempt_11 (by decide) (fun c11 => ?_) (fun c11 => ?_)
    · refine z_iconst (pc := 21) (v := 0) C dX8_attempt_21 rfl ?_
      refine z_zreturn (pc := 22) C K dX8_attempt_22 (Or.inl rfl) ?_
      exact ⟨_, rfl, fun _ => ⟨rfl, e12.rfl'⟩, fun z => absurd (Or.inr (Or.inl ((nz hn hn8).mp c11))) z⟩
    · refine z_aload_n (pc := 14) C 0 dX8_attempt_14 rfl rfl ?_
      refine z_getI (pc := 15) C dX8_attempt_15 fX8_30 (shW hw) rfl ?_
      refine z_if_ne (pc := 18) C 23 dX8_attempt_18 (by decide) (fun c18 => ?_) (fun c18 => ?_)
      · refine z_aload_n (pc := 23) C 0 dX8_attempt_23 rfl rfl ?_
        refine z_dup (pc := 24) C dX8_attempt_24 rfl ?_
        refine z_getI (pc := 25) C dX8_attempt_25 fX8_30 (shW hw) rfl ?_
        refine z_iconst (pc := 28) (v := 1) C dX8_attempt_28 rfl ?_
        refine z_isub (pc := 29) C dX8_attempt_29 ?_
        refine z_putII (pc := 30) C dX8_attempt_30 fX8_30 (shW hw) rfl ?_
        refine z_aload_n (pc := 33) C 0 dX8_attempt_33 rfl rfl ?_
        refine z_dup (pc := 34) C dX8_attempt_34 rfl ?_
        refine z_getI (pc := 35) C dX8_attempt_35 fX8_37 (shW hw) rfl ?_
        refine z_iconst (pc := 38) (v := 1) C dX8_attempt_38 rfl ?_
        refine z_iadd (pc := 39) C dX8_attempt_39 ?_
        refine z_putII (pc := 40) C dX8_attempt_40 fX8_37 (shW hw) rfl ?_
        refine z_aload_n (pc := 43) C 0 dX8_attempt_43 rfl rfl ?_
        have hn2 : zu (zu M 5 w 0 6 (M 5 w 0 6 - 1)) 5 w 0 8 (zu M 5 w 0 6 (M 5 w 0 6 - 1) 5 w 0 8 + 1) 5 w 0 2 = nI n := by rw [zu_f (by decide), zu_f (by decide)]; exact hn
        have hS2 : okS (zu (zu M 5 w 0 6 (M 5 w 0 6 - 1)) 5 w 0 8 (zu M 5 w 0 6 (M 5 w 0 6 - 1) 5 w 0 8 + 1)) (zu (zu M 5 w 0 6 (M 5 w 0 6 - 1)) 5 w 0 8 (zu M 5 w 0 6 (M 5 w 0 6 - 1) 5 w 0 8 + 1) 6 w 0 0) hv := by
          have h6 : ∀ (N : zM) (v1 v2 : Int32), zu (zu N 5 w 0 6 v1) 5 w 0 8 v2 6 w 0 0 = N 6 w 0 0 := fun N v1 v2 => (zu_o (fun z => absurd z.1 (by decide))).trans (zu_o (fun z => absurd z.1 (by decide)))
          rw [h6]
          exact okS.on (by rw [zu_a (by decide), zu_a (by decide)]) (by rw [zu_a (by decide), zu_a (by decide)]) hS
        refine z_callVi (pc := 44) C dX8_attempt_44 kX8_116 (mX8_turn hw hn2 hn8 hS2) (by decide) (shW hw) rfl rfl rfl (Nat.le_of_ble_eq_true rfl) (fun r44 M44 h44 => ?_)
        refine z_pop (pc := 47) C dX8_attempt_47 rfl ?_
        refine z_iconst (pc := 48) (v := 1) C dX8_attempt_48 rfl ?_
        refine z_zreturn (pc := 49) C K dX8_attempt_49 (Or.inr rfl) ?_
        refine ⟨_, rfl, fun z => ?_, fun _ => ⟨rfl, ?_⟩⟩
        · rcases z with z | z | z
          · exact absurd c4 z
          · exact absurd ((nz hn hn8).mpr z) c11
          · exact absurd z c18
        · have e8 : zu M 5 w 0 6 (M 5 w 0 6 - 1) 5 w 0 8 = M 5 w 0 8 := zu_f (by decide)
          have g := h44.2
          rw [e8] at g
          exact g
      · refine z_iconst (pc := 21) (v := 0) C dX8_attempt_21 rfl ?_
        refine z_zreturn (pc := 22) C K dX8_attempt_22 (Or.inl rfl) ?_
        exact ⟨_, rfl, fun _ => ⟨rfl, e12.rfl'⟩, fun z => absurd (Or.inr (Or.inr c18)) z⟩

def wOut (w a x : Nat) : Prop := ¬ (a = 1 ∧ x = w) ∧ ¬ (a = 5 ∧ x = w) ∧ ¬ (a = 6 ∧ x = w)
/-- world w is as w' was; nothing else has changed -/
def wC (M M' : zM) (w w' n : Nat) : Prop := (∀ y f, y < n → f < 7 → M' 1 w y f = M 1 w' y f) ∧ (∀ f, 2 ≤ f → f ≤ 10 → M' 5 w 0 f = M 5 w' 0 f) ∧ (∀ f, f < 3 → M' 6 w 0 f = M 6 w' 0 f) ∧ ∀ a x y f, wOut w a x → M' a x y f = M a x y f
set_option maxHeartbeats 4000000 in
set_option maxRecDepth 100000 in
theorem mX8_become {l : Launch} {G : zG} {b : Nat} {M : zM} {w w' n : Nat} (hw : w < 14) (hw' : w' < 14) (hne : w' ≠ w) (hn : M 5 w' 0 2 = nI n) (hn8 : n ≤ 8) (ho : M 5 w' 0 7 = 0 ∨ M 5 w' 0 7 = 1) (hh : ∀ i, i < n → M 1 w' i 6 = 0 ∨ M 1 w' i 6 = 1) : zMet l G b yX8_become cX8_become 3 none 1 zshL zshL [.ref (b + adW w), .ref (b + adW w')] M (zV (fun M' => wC M M' w w' n)) := by
  refine zMet.of (L0 := [some (.ref (b + adW w)), some (.ref (b + adW w')), none]) (by decide +kernel) (Nat.le_refl _) (Nat.le_refl _) (Nat.le_of_ble_eq_true rfl) (List.forall_mem_cons.mpr ⟨rfl, List.forall_mem_cons.mpr ⟨rfl, fun _ h => absurd h List.not_mem_nil⟩⟩) rfl (fun X C Al K => ?_)
  have loop2 : ∀ (k i : Nat) (M2 : zM), i + k = 3 → (∀ y f, y < n → f < 7 → M2 1 w y f = M 1 w' y f) → (∀ f, 2 ≤ f → f ≤ 10 → M2 5 w 0 f = M 5 w' 0 f) → (∀ f, f < i → M2 6 w 0 f = M 6 w' 0 f) → (∀ a x y f, wOut w a x → M2 a x y f = M a x y f) → zW X zshL M2 105 [some (.ref (b + adW w)), some (.ref (b + adW w')), some (.int (nI i))] [] := by
    intro k
    induction k with
    | zero =>
      intro i M2 hi h1 h2 h3 h4
      obtain rfl : i = 3 := by omega
      refine z_iload_n (pc := 105) C 2 dX8_become_105 rfl rfl ?_
      refine z_iconst (pc := 106) (v := 3) C dX8_become_106 rfl ?_
      refine z_icmp_ge (pc := 107) C 128 dX8_become_107 (by decide) (fun c107 => ?_) (fun c107 => absurd (by decide) c107)
      refine z_return (pc := 128) C K dX8_become_128 ?_
      exact ⟨rfl, h1, h2, h3, h4⟩
    | succ k ih =>
      intro i M2 hi h1 h2 h3 h4
      refine z_iload_n (pc := 105) C 2 dX8_become_105 rfl rfl ?_
      refine z_iconst (pc := 106) (v := 3) C dX8_become_106 rfl ?_
      refine z_icmp_ge (pc := 107) C 128 dX8_become_107 (by decide) (fun c107 => absurd c107 (nI_ge (b := 3) (by omega) (by omega))) (fun c107 => ?_)
      refine z_aload_n (pc := 110) C 0 dX8_become_110 rfl rfl ?_
      refine z_getR (pc := 111) (r := adW w + 2) C dX8_become_111 fX8_46 (shW hw) rfl ?_
      refine z_iload_n (pc := 114) C 2 dX8_become_114 rfl rfl ?_
      refine z_aload_n (pc := 115) C 1 dX8_become_115 rfl rfl ?_
      refine z_getR (pc := 116) (r := adW w' + 2) C dX8_become_116 fX8_46 (shW hw') rfl ?_
      refine z_iload_n (pc := 119) C 2 dX8_become_119 rfl rfl ?_
      refine z_iald (pc := 120) (n := i) C dX8_become_120 (shLw hw') (vp_in_nI (by omega) (by omega)) (nI_clamp (by omega)) ?_
      refine z_iast (pc := 121) (n := i) C dX8_become_121 (shLw hw) (vp_in_nI (by omega) (by omega)) (nI_clamp (by omega)) ?_
      refine z_iinc (pc := 122) (v := 1) C 2 dX8_become_122 (by decide) rfl rfl rfl ?_
      refine z_goto (pc := 125) C 105 dX8_become_125 (by decide) ?_
      have e := ih (i + 1) (zu M2 6 w 0 i (M2 6 w' 0 i)) (by omega) ?_ ?_ ?_ ?_
      · rw [nI_succ] at e
        exact e
      · intro y f g1 g2
        rw [zu_a (by decide)]
        exact h1 y f g1 g2
      · intro f g1 g2
        rw [zu_a (by decide)]
        exact h2 f g1 g2
      · intro f g1
        by_cases e9 : f = i
        · rw [e9, zu_self]
          exact h4 6 w' 0 i ⟨fun z => absurd z.1 (by decide), fun z => absurd z.1 (by decide), fun z => hne z.2⟩
        · rw [zu_f e9]
          exact h3 f (by omega)
      · intro a x y f g
        rw [zu_ne _ _ (fun z => g.2.2 ⟨z.1, z.2.1⟩)]
        exact h4 a x y f g
  have loop : ∀ (k i : Nat) (M1 : zM), i + k = n → (∀ y f, y < i → f < 7 → M1 1 w y f = M 1 w' y f) → M1 5 w 0 2 = nI n → (∀ a x y f, wOut w a x → M1 a x y f = M a x y f) → zW X zshL M1 10 [some (.ref (b + adW w)), some (.ref (b + adW w')), some (.int (nI i))] [] := by
    intro k
    induction k with
    | zero =>
      intro i M1 hi h1 h2 h4
      obtain rfl : i = n := by omega
      have o5 : ∀ f, M1 5 w' 0 f = M 5 w' 0 f := fun f => h4 5 w' 0 f ⟨fun z => absurd z.1 (by decide), fun z => hne z.2, fun z => absurd z.1 (by decide)⟩
      have ne5 : ¬ (5 = 5 ∧ w' = w ∧ 0 = 0) := fun z => hne z.2.1
      refine z_iload_n (pc := 10) C 2 dX8_become_10 rfl rfl ?_
      refine z_aload_n (pc := 11) C 0 dX8_become_11 rfl rfl ?_
      refine z_getI (pc := 12) C dX8_become_12 fX8_17 (shW hw) rfl ?_
      refine z_icmp_ge (pc := 15) C 39 dX8_become_15 (by decide) (fun c15 => ?_) (fun c15 => absurd (zlt h2 (by omega) (by omega)) c15)
      refine z_aload_n (pc := 39) C 0 dX8_become_39 rfl rfl ?_
      refine z_aload_n (pc := 40) C 1 dX8_become_40 rfl rfl ?_
      refine z_getI (pc := 41) C dX8_become_41 fX8_21 (shW hw') rfl ?_
      refine z_putII (pc := 44) C dX8_become_44 fX8_21 (shW hw) rfl ?_
      refine z_aload_n (pc := 47) C 0 dX8_become_47 rfl rfl ?_
      refine z_aload_n (pc := 48) C 1 dX8_become_48 rfl rfl ?_
      refine z_getI (pc := 49) C dX8_become_49 fX8_24 (shW hw') rfl ?_
      refine z_putII (pc := 52) C dX8_become_52 fX8_24 (shW hw) rfl ?_
      refine z_aload_n (pc := 55) C 0 dX8_become_55 rfl rfl ?_
      refine z_aload_n (pc := 56) C 1 dX8_become_56 rfl rfl ?_
      refine z_getI (pc := 57) C dX8_become_57 fX8_27 (shW hw') rfl ?_
      refine z_putII (pc := 60) C dX8_become_60 fX8_27 (shW hw) rfl ?_
      refine z_aload_n (pc := 63) C 0 dX8_become_63 rfl rfl ?_
      refine z_aload_n (pc := 64) C 1 dX8_become_64 rfl rfl ?_
      refine z_getI (pc := 65) C dX8_become_65 fX8_30 (shW hw') rfl ?_
      refine z_putII (pc := 68) C dX8_become_68 fX8_30 (shW hw) rfl ?_
      refine z_aload_n (pc := 71) C 0 dX8_become_71 rfl rfl ?_
      refine z_aload_n (pc := 72) C 1 dX8_become_72 rfl rfl ?_
      refine z_getI (pc := 73) C dX8_become_73 fX8_33 (shW hw') rfl ?_
      refine z_putZ (pc := 76) C dX8_become_76 fX8_33 (shW hw) rfl (by simp only [zu_o ne5, o5]; exact ho) ?_
      refine z_aload_n (pc := 79) C 0 dX8_become_79 rfl rfl ?_
      refine z_aload_n (pc := 80) C 1 dX8_become_80 rfl rfl ?_
      refine z_getI (pc := 81) C dX8_become_81 fX8_37 (shW hw') rfl ?_
      refine z_putII (pc := 84) C dX8_become_84 fX8_37 (shW hw) rfl ?_
      refine z_aload_n (pc := 87) C 0 dX8_become_87 rfl rfl ?_
      refine z_aload_n (pc := 88) C 1 dX8_become_88 rfl rfl ?_
      refine z_getI (pc := 89) C dX8_become_89 fX8_40 (shW hw') rfl ?_
      refine z_putII (pc := 92) C dX8_become_92 fX8_40 (shW hw) rfl ?_
      refine z_aload_n (pc := 95) C 0 dX8_become_95 rfl rfl ?_
      refine z_aload_n (pc := 96) C 1 dX8_become_96 rfl rfl ?_
      refine z_getI (pc := 97) C dX8_become_97 fX8_43 (shW hw') rfl ?_
      refine z_putII (pc := 100) C dX8_become_100 fX8_43 (shW hw) rfl ?_
      refine z_iconst (pc := 103) (v := 0) C dX8_become_103 rfl ?_
      refine z_istore_n (pc := 104) C 2 dX8_become_104 rfl (by decide) rfl ?_
      refine loop2 3 0 _ (by omega) ?_ ?_ (fun f h => absurd h (Nat.not_lt_zero _)) ?_
      · intro y f g1 g2
        simp only [zu_a (show (1 : Nat) ≠ 5 by decide)]
        exact h1 y f g1 g2
      · intro f g1 g2
        rcases (show f = 2 ∨ f = 3 ∨ f = 4 ∨ f = 5 ∨ f = 6 ∨ f = 7 ∨ f = 8 ∨ f = 9 ∨ f = 10 by omega) with rfl | rfl | rfl | rfl | rfl | rfl | rfl | rfl | rfl
        · simp [zu, h2, hn]
        all_goals simp [zu, o5]
      · intro a x y f g
        have g5 : ¬ (a = 5 ∧ x = w ∧ y = 0) := fun z => g.2.1 ⟨z.1, z.2.1⟩
        simp only [zu_o g5]
        exact h4 a x y f g
    | succ k ih =>
      intro i M1 hi h1 h2 h4
      have hin : i < 8 := by omega
      have hb1 : M1 1 w' i = M 1 w' i := by
        funext f
        exact h4 1 w' i f ⟨fun z => hne z.2, fun z => absurd z.1 (by decide), fun z => absurd z.1 (by decide)⟩
      have hb6 : M1 1 w' i 6 = 0 ∨ M1 1 w' i 6 = 1 := by rw [hb1]; exact hh i (by omega)
      refine z_iload_n (pc := 10) C 2 dX8_become_10 rfl rfl ?_
      refine z_aload_n (pc := 11) C 0 dX8_become_11 rfl rfl ?_
      refine z_getI (pc := 12) C dX8_become_12 fX8_17 (shW hw) rfl ?_
      refine z_icmp_ge (pc := 15) C 39 dX8_become_15 (by decide) (fun c15 => absurd c15 (zlf h2 (by omega) (by omega))) (fun c15 => ?_)
      refine z_aload_n (pc := 18) C 0 dX8_become_18 rfl rfl ?_
      refine z_getR (pc := 19) (r := adW w + 1) C dX8_become_19 fX8_11 (shW hw) rfl ?_
      refine z_iload_n (pc := 22) C 2 dX8_become_22 rfl rfl ?_
      refine z_aald (pc := 23) (r := adP w i) C dX8_become_23 (shPa hw) rfl rfl (pin hin) (pget hin) ?_
      refine z_aload_n (pc := 24) C 1 dX8_become_24 rfl rfl ?_
      refine z_getR (pc := 25) (r := adW w' + 1) C dX8_become_25 fX8_11 (shW hw') rfl ?_
      refine z_iload_n (pc := 28) C 2 dX8_become_28 rfl rfl ?_
      refine z_aald (pc := 29) (r := adP w' i) C dX8_become_29 (shPa hw') rfl rfl (pin hin) (pget hin) ?_
      refine z_callVv (pc := 30) C dX8_become_30 kX8_55 (mX0_become (okP_w hw hin) (okP_w hw' hin) hb6) (by decide) (shP (okP_w hw hin)) rfl rfl rfl (Nat.le_of_ble_eq_true rfl) (fun M30 h30 => ?_)
      subst h30
      refine z_iinc (pc := 33) (v := 1) C 2 dX8_become_33 (by decide) rfl rfl rfl ?_
      refine z_goto (pc := 36) C 10 dX8_become_36 (by decide) ?_
      have e := ih (i + 1) (pCopy M1 w i w' i) (by omega) ?_ ?_ ?_
      · rw [nI_succ] at e
        exact e
      · intro y f g1 g2
        by_cases e9 : y = i
        · rw [e9, show pCopy M1 w i w' i 1 w i f = M1 1 w' i f from if_pos ⟨rfl, rfl, rfl, g2⟩, hb1]
        · rw [show pCopy M1 w i w' i 1 w y f = M1 1 w y f from if_neg (fun z => e9 z.2.2.1)]
          exact h1 y f (by omega) g2
      · exact h2
      · intro a x y f g
        rw [show pCopy M1 w i w' i a x y f = M1 a x y f from if_neg (fun z => g.1 ⟨z.1, z.2.1⟩)]
        exact h4 a x y f g
  refine z_aload_n (pc := 0) C 0 dX8_become_0 rfl rfl ?_
  refine z_aload_n (pc := 1) C 1 dX8_become_1 rfl rfl ?_
  refine z_getI (pc := 2) C dX8_become_2 fX8_17 (shW hw') rfl ?_
  refine z_putII (pc := 5) C dX8_become_5 fX8_17 (shW hw) rfl ?_
  refine z_iconst (pc := 8) (v := 0) C dX8_become_8 rfl ?_
  refine z_istore_n (pc := 9) C 2 dX8_become_9 rfl (by decide) rfl ?_
  refine loop n 0 _ (by omega) (fun y f h => absurd h (Nat.not_lt_zero _)) ?_ ?_
  · rw [zu_self]
    exact hn
  · intro a x y f g
    exact zu_ne _ _ (fun z => g.2.1 ⟨z.1, z.2.1⟩)
