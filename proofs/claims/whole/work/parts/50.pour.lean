/-! pour, keep, back -/
def pD (g : Nat → Int32) (V : zVw) (i : Nat) : Int32 := if g i = -1000000005 then V.2 i 1 else zheld (g i)
def vPour (V : zVw) (g : Nat → Int32) (m : Nat) : zVw := (V.1, fun i f => if i < m ∧ f = 1 then pD g V i else V.2 i f)
def pCn (V : zVw) (g : Nat → Int32) : Nat → Int32
  | 0 => 0
  | i + 1 => if pD g V i = V.2 i 1 then pCn V g i else pCn V g i + 1
theorem vPour_0 (V : zVw) (g : Nat → Int32) (n : Nat) : veq n (vPour V g 0) V := ⟨fun _ _ _ => rfl, fun i f _ _ => by
  show (if i < 0 ∧ f = 1 then pD g V i else V.2 i f) = V.2 i f
  exact if_neg (fun q => absurd q.1 (Nat.not_lt_zero _))⟩
theorem vPour_s (V : zVw) (g : Nat → Int32) (n i : Nat) : veq n (vP (vPour V g i) i 1 (pD g V i)) (vPour V g (i + 1)) := ⟨fun _ _ _ => rfl, fun a c _ _ => by
  show (if a = i ∧ c = 1 then pD g V i else if a < i ∧ c = 1 then pD g V a else V.2 a c) = if a < i + 1 ∧ c = 1 then pD g V a else V.2 a c
  by_cases q : a = i ∧ c = 1
  · rw [if_pos q, if_pos ⟨by omega, q.2⟩, q.1]
  · rw [if_neg q]
    by_cases q2 : a < i ∧ c = 1
    · rw [if_pos q2, if_pos ⟨by omega, q2.2⟩]
    · rw [if_neg q2, if_neg (fun z => by omega)]⟩
theorem vPour_at (V : zVw) (g : Nat → Int32) (i : Nat) : (vPour V g i).2 i 1 = V.2 i 1 := if_neg (fun q => absurd q.1 (Nat.lt_irrefl _))
theorem pD_c {g : Nat → Int32} {n : Nat} {V W : zVw} (h : veq n V W) {i : Nat} (hi : i < n) : pD g V i = pD g W i := by
  unfold pD
  rw [h.2 i 1 hi (by decide)]
theorem vPour_c {g : Nat → Int32} {n m : Nat} {V W : zVw} (h : veq n V W) : veq n (vPour V g m) (vPour W g m) := ⟨h.1, fun i f hi hf => by
  show (if i < m ∧ f = 1 then pD g V i else V.2 i f) = if i < m ∧ f = 1 then pD g W i else W.2 i f
  rw [pD_c h hi, h.2 i f hi hf]⟩
theorem pCn_c {g : Nat → Int32} {n : Nat} {V W : zVw} (h : veq n V W) : ∀ (m : Nat), m ≤ n → pCn V g m = pCn W g m
  | 0, _ => rfl
  | m + 1, hm => by
    unfold pCn
    rw [pCn_c h m (by omega), pD_c h (show m < n by omega), h.2 m 1 (by omega) (by decide)]
theorem vPour_ok {g : Nat → Int32} {n m : Nat} {V : zVw} (h : vOK n V) : vOK n (vPour V g m) := by
  refine ⟨h.1, h.2.1, fun i hi => ?_, h.2.2.2⟩
  have e := h.2.2.1 i hi
  by_cases q : i < m
  · have e1 : (vPour V g m).2 i 1 = pD g V i := if_pos ⟨q, rfl⟩
    have e2 : ∀ f, f ≠ 1 → (vPour V g m).2 i f = V.2 i f := fun f hf => if_neg (fun z => hf z.2)
    unfold pOK
    rw [e1, e2 0 (by decide), e2 2 (by decide), e2 3 (by decide), e2 4 (by decide), e2 5 (by decide), e2 6 (by decide)]
    refine ⟨e.1, ?_, e.2.2⟩
    unfold pD
    split
    · exact e.2.1
    · exact zheld_in _
  · have e2 : ∀ f, (vPour V g m).2 i f = V.2 i f := fun f => if_neg (fun z => q z.1)
    rw [show (vPour V g m).2 i = V.2 i from funext e2]
    exact e
def Spour (so sz : Nat → Int32) (g : Nat → Nat → Int32) (x : Int32) : Nat → zVw → Int32 → Nat → zVw → Prop := fun n V r n' V' => (¬ iin x 0 3 ∧ rf (-1000000001) n V r n' V') ∨ (∃ s, s < 4 ∧ x = nI s ∧ so s < 0 ∧ rf (-1000000011) n V r n' V') ∨ ∃ s z, s < 4 ∧ x = nI s ∧ ¬ so s < 0 ∧ z ≤ 24 ∧ sz s = nI z ∧ r = pCn V (g s) (min n z) ∧ n' = n ∧ V' = vPour V (g s) (min n z)
theorem Spour_ok (so sz : Nat → Int32) (g : Nat → Nat → Int32) (x : Int32) : Sok (Spour so sz g x) := by
  intro n V W h gg tt r n' V' s m' W' h1 h2
  rcases h1 with ⟨a, h1⟩ | ⟨s1, a1, rfl, a2, h1⟩ | ⟨s1, z1, a1, rfl, a2, a3, a4, rfl, rfl, rfl⟩ <;> rcases h2 with ⟨c, h2⟩ | ⟨s2, c1, d, c2, h2⟩ | ⟨s2, z2, c1, d, c2, c3, c4, rfl, rfl, rfl⟩
  · exact rf.ok h gg tt h1 h2
  · exact absurd (by rw [d]; exact nI_iin (n := 4) (by decide) c1) a
  · exact absurd (by rw [d]; exact nI_iin (n := 4) (by decide) c1) a
  · exact absurd (nI_iin (n := 4) (by decide) a1) c
  · exact rf.ok h gg tt h1 h2
  · obtain rfl := nI_inj' (by omega) (by omega) d
    exact absurd a2 c2
  · exact absurd (nI_iin (n := 4) (by decide) a1) c
  · obtain rfl := nI_inj' (by omega) (by omega) d
    exact absurd c2 a2
  · obtain rfl := nI_inj' (by omega) (by omega) d
    obtain rfl := nI_inj' (by omega) (by omega) (a4.symm.trans c4)
    exact ⟨pCn_c h _ (Nat.min_le_left _ _), rfl, vPour_c h, vPour_ok gg, rfl, tt⟩
set_option maxHeartbeats 800000 in
set_option maxRecDepth 100000 in
theorem mX9_pour {l : Launch} {G : zG} {b : Nat} {M : zM} {n T : Nat} {ky ln : Nat → Nat} (hR : RR M n T ky ln) {x : Int32} : zMet l G b yX9_pour cX9_pour 7 (some .int) 2 zshL zshL [.ref (b + 0), .int x] M (zI (cSt (Spour (fun s => M 3 s 0 0) (fun s => M 3 s 0 1) (fun s => M 4 s 0) x) n M)) := by
  refine zMet.of (L0 := [some (.ref (b + 0)), some (.int x), none, none, none, none, none]) (by decide +kernel) (Nat.le_refl _) (Nat.le_refl _) (Nat.le_of_ble_eq_true rfl) (List.forall_mem_cons.mpr ⟨rfl, List.forall_mem_cons.mpr ⟨rfl, fun _ h => absurd h List.not_mem_nil⟩⟩) rfl (fun X C Al K => ?_)
  have n8 := hR.n8
  have loop : ∀ (s z : Nat), s < 4 → x = nI s → ¬ M 3 s 0 0 < 0 → z ≤ 24 → M 3 s 0 1 = nI z → ∀ (k i : Nat) (M1 : zM) (q5 q6 : Option Value), i + k = min n z → veq n (cV M1 0) (vPour (cV M 0) (M 4 s 0) i) → cFr M M1 0 → zW X zshL M1 33 [some (.ref (b + 0)), some (.int x), some (.ref (b + adS s)), some (.int (pCn (cV M 0) (M 4 s 0) i)), some (.int (nI i)), q5, q6] [] := by
    intro s z hs hx hso hz24 hz k
    have hs9 : s < 9 := by omega
    induction k with
    | zero =>
      intro i M1 q5 q6 hi hv hf
      have hn1 : M1 5 0 0 2 = nI n := (hv.1 2 (by decide) (by decide)).trans hR.hn
      have hz1 : M1 3 s 0 1 = nI z := by rw [hf.k (by decide)]; exact hz
      have ei : (nI i).toInt = i := nI_toInt (by omega)
      have en : (nI n).toInt = n := nI_toInt (by omega)
      have ez : (nI z).toInt = z := nI_toInt (by omega)
      refine z_iload (pc := 33) C 4 dX9_pour_33 rfl ?_
      refine z_aload_n (pc := 35) C 0 dX9_pour_35 rfl rfl ?_
      refine z_getR (pc := 36) (r := adW 0) C dX9_pour_36 fX9_21 sh_0 rfl ?_
      refine z_getI (pc := 39) C dX9_pour_39 fX9_88 (shW lt0_14) rfl ?_
      rw [hn1]
      refine z_icmp_ge (pc := 42) C 124 dX9_pour_42 (by decide) (fun c42 => ?_) (fun c42 => ?_)
      · have hi2 : i = min n z := by omega
        refine z_iload_n (pc := 124) C 3 dX9_pour_124 rfl rfl ?_
        refine z_ireturn (pc := 125) C K dX9_pour_125 ?_
        exact ⟨_, rfl, n, _, Or.inr (Or.inr ⟨s, z, hs, hx, hso, hz24, hz, by rw [hi2], rfl, rfl⟩), by rw [← hi2]; exact hv, hf⟩
      · refine z_iload (pc := 45) C 4 dX9_pour_45 rfl ?_
        refine z_aload_n (pc := 47) C 2 dX9_pour_47 rfl rfl ?_
        refine z_getI (pc := 48) C dX9_pour_48 fX9_259 (shS hs9) rfl ?_
        rw [hz1]
        refine z_icmp_ge (pc := 51) C 124 dX9_pour_51 (by decide) (fun c51 => ?_) (fun c51 => absurd (show nI z ≤ nI i by rw [zi_le, ei, en] at c42; rw [zi_le, ei, ez]; omega) c51)
        have hi2 : i = min n z := by omega
        refine z_iload_n (pc := 124) C 3 dX9_pour_124 rfl rfl ?_
        refine z_ireturn (pc := 125) C K dX9_pour_125 ?_
        exact ⟨_, rfl, n, _, Or.inr (Or.inr ⟨s, z, hs, hx, hso, hz24, hz, by rw [hi2], rfl, rfl⟩), by rw [← hi2]; exact hv, hf⟩
    | succ k ih =>
      intro i M1 q5 q6 hi hv hf
      have hn1 : M1 5 0 0 2 = nI n := (hv.1 2 (by decide) (by decide)).trans hR.hn
      have hz1 : M1 3 s 0 1 = nI z := by rw [hf.k (by decide)]; exact hz
      have ei : (nI i).toInt = i := nI_toInt (by omega)
      have en : (nI n).toInt = n := nI_toInt (by omega)
      have ez : (nI z).toInt = z := nI_toInt (by omega)
      have hin : i < 8 := by omega
      have h4 : M1 4 s 0 i = M 4 s 0 i := by rw [hf.k (by decide)]
      have hd : M1 1 0 i 1 = (cV M 0).2 i 1 := (hv.2 i 1 (by omega) (by decide)).trans (vPour_at _ _ _)
      refine z_iload (pc := 33) C 4 dX9_pour_33 rfl ?_
      refine z_aload_n (pc := 35) C 0 dX9_pour_35 rfl rfl ?_
      refine z_getR (pc := 36) (r := adW 0) C dX9_pour_36 fX9_21 sh_0 rfl ?_
      refine z_getI (pc := 39) C dX9_pour_39 fX9_88 (shW lt0_14) rfl ?_
      rw [hn1]
      refine z_icmp_ge (pc := 42) C 124 dX9_pour_42 (by decide) (fun c42 => absurd c42 (by rw [zi_le, ei, en]; omega)) (fun c42 => ?_)
      refine z_iload (pc := 45) C 4 dX9_pour_45 rfl ?_
      refine z_aload_n (pc := 47) C 2 dX9_pour_47 rfl rfl ?_
      refine z_getI (pc := 48) C dX9_pour_48 fX9_259 (shS hs9) rfl ?_
      rw [hz1]
      refine z_icmp_ge (pc := 51) C 124 dX9_pour_51 (by decide) (fun c51 => absurd c51 (by rw [zi_le, ei, ez]; omega)) (fun c51 => ?_)
      refine z_aload_n (pc := 54) C 0 dX9_pour_54 rfl rfl ?_
      refine z_getR (pc := 55) (r := adW 0) C dX9_pour_55 fX9_21 sh_0 rfl ?_
      refine z_getR (pc := 58) (r := adW 0 + 1) C dX9_pour_58 fX9_99 (shW lt0_14) rfl ?_
      refine z_iload (pc := 61) C 4 dX9_pour_61 rfl ?_
      refine z_aald (pc := 63) (r := adP 0 i) C dX9_pour_63 (shPa lt0_14) rfl rfl (pin hin) (pget hin) ?_
      refine z_astore (pc := 64) C 5 dX9_pour_64 (by decide) rfl ?_
      refine z_aload_n (pc := 66) C 2 dX9_pour_66 rfl rfl ?_
      refine z_getR (pc := 67) (r := adS s + 1) C dX9_pour_67 fX9_254 (shS hs9) rfl ?_
      refine z_iload (pc := 70) C 4 dX9_pour_70 rfl ?_
      refine z_iald (pc := 72) (n := i) C dX9_pour_72 (shSp hs9) (vp_in_nI (by omega) (by decide)) (nI_clamp (by omega)) ?_
      rw [h4]
      refine z_ldc (pc := 73) C q3_64 dX9_pour_73 ?_
      refine z_icmp_ne (pc := 75) C 86 dX9_pour_75 (by decide) (fun c75 => ?_) (fun c75 => ?_)
      · refine z_aload_n (pc := 86) C 2 dX9_pour_86 rfl rfl ?_
        refine z_getR (pc := 87) (r := adS s + 1) C dX9_pour_87 fX9_254 (shS hs9) rfl ?_
        refine z_iload (pc := 90) C 4 dX9_pour_90 rfl ?_
        refine z_iald (pc := 92) (n := i) C dX9_pour_92 (shSp hs9) (vp_in_nI (by omega) (by decide)) (nI_clamp (by omega)) ?_
        rw [h4]
        refine z_callSi (pc := 93) C dX9_pour_93 kX9_260 mX9_held (by decide) rfl rfl (Nat.le_of_ble_eq_true rfl) (fun r93 M93 h93 => ?_)
        obtain ⟨rfl, e93⟩ := h93
        subst M93
        refine z_istore (pc := 96) C 6 dX9_pour_96 (by decide) rfl ?_
        refine z_iload (pc := 98) C 6 dX9_pour_98 rfl ?_
        refine z_aload (pc := 100) C 5 dX9_pour_100 rfl ?_
        refine z_getI (pc := 102) C dX9_pour_102 fX9_133 (shP (okP_w lt0_14 hin)) rfl ?_
        rw [hd]
        refine z_icmp_eq (pc := 105) C 111 dX9_pour_105 (by decide) (fun c105 => ?_) (fun c105 => ?_)
        · refine z_aload (pc := 111) C 5 dX9_pour_111 rfl ?_
          refine z_iload (pc := 113) C 6 dX9_pour_113 rfl ?_
          refine z_putII (pc := 115) C dX9_pour_115 fX9_133 (shP (okP_w lt0_14 hin)) rfl ?_
          refine z_iinc (pc := 118) (v := 1) C 4 dX9_pour_118 (by decide) rfl rfl rfl ?_
          refine z_goto (pc := 121) C 33 dX9_pour_121 (by decide) ?_
          have epd : pD (M 4 s 0) (cV M 0) i = zheld (M 4 s 0 i) := by
            unfold pD
            rw [if_neg c75]
          have ecn : pCn (cV M 0) (M 4 s 0) (i + 1) = pCn (cV M 0) (M 4 s 0) i := by
            rw [pCn, epd, if_pos c105]
          have e := ih (i + 1) (zu M1 1 0 i 1 (zheld (M 4 s 0 i))) (some (.ref (b + adP 0 i))) (some (.int (zheld (M 4 s 0 i)))) (by omega) (by rw [cV_zu1, ← epd]; exact (vP_c hv i 1 _).trans (vPour_s _ _ _ _)) (hf.trans (cFr_1 _ _ _ _ _))
          rw [ecn, nI_succ i] at e
          exact e
        · refine z_iinc (pc := 108) (v := 1) C 3 dX9_pour_108 (by decide) rfl rfl rfl ?_
          refine z_aload (pc := 111) C 5 dX9_pour_111 rfl ?_
          refine z_iload (pc := 113) C 6 dX9_pour_113 rfl ?_
          refine z_putII (pc := 115) C dX9_pour_115 fX9_133 (shP (okP_w lt0_14 hin)) rfl ?_
          refine z_iinc (pc := 118) (v := 1) C 4 dX9_pour_118 (by decide) rfl rfl rfl ?_
          refine z_goto (pc := 121) C 33 dX9_pour_121 (by decide) ?_
          have epd : pD (M 4 s 0) (cV M 0) i = zheld (M 4 s 0 i) := by
            unfold pD
            rw [if_neg c75]
          have ecn : pCn (cV M 0) (M 4 s 0) (i + 1) = pCn (cV M 0) (M 4 s 0) i + 1 := by
            rw [pCn, epd, if_neg c105]
          have e := ih (i + 1) (zu M1 1 0 i 1 (zheld (M 4 s 0 i))) (some (.ref (b + adP 0 i))) (some (.int (zheld (M 4 s 0 i)))) (by omega) (by rw [cV_zu1, ← epd]; exact (vP_c hv i 1 _).trans (vPour_s _ _ _ _)) (hf.trans (cFr_1 _ _ _ _ _))
          rw [ecn, nI_succ i] at e
          exact e
      · refine z_aload (pc := 78) C 5 dX9_pour_78 rfl ?_
        refine z_getI (pc := 80) C dX9_pour_80 fX9_133 (shP (okP_w lt0_14 hin)) rfl ?_
        rw [hd]
        refine z_goto (pc := 83) C 96 dX9_pour_83 (by decide) ?_
        refine z_istore (pc := 96) C 6 dX9_pour_96 (by decide) rfl ?_
        refine z_iload (pc := 98) C 6 dX9_pour_98 rfl ?_
        refine z_aload (pc := 100) C 5 dX9_pour_100 rfl ?_
        refine z_getI (pc := 102) C dX9_pour_102 fX9_133 (shP (okP_w lt0_14 hin)) rfl ?_
        rw [hd]
        refine z_icmp_eq (pc := 105) C 111 dX9_pour_105 (by decide) (fun c105 => ?_) (fun c105 => ?_)
        · refine z_aload (pc := 111) C 5 dX9_pour_111 rfl ?_
          refine z_iload (pc := 113) C 6 dX9_pour_113 rfl ?_
          refine z_putII (pc := 115) C dX9_pour_115 fX9_133 (shP (okP_w lt0_14 hin)) rfl ?_
          refine z_iinc (pc := 118) (v := 1) C 4 dX9_pour_118 (by decide) rfl rfl rfl ?_
          refine z_goto (pc := 121) C 33 dX9_pour_121 (by decide) ?_
          have epd : pD (M 4 s 0) (cV M 0) i = (cV M 0).2 i 1 := by
            unfold pD
            rw [if_pos c75]
          have ecn : pCn (cV M 0) (M 4 s 0) (i + 1) = pCn (cV M 0) (M 4 s 0) i := by
            rw [pCn, epd, if_pos c105]
          have e := ih (i + 1) (zu M1 1 0 i 1 ((cV M 0).2 i 1)) (some (.ref (b + adP 0 i))) (some (.int ((cV M 0).2 i 1))) (by omega) (by rw [cV_zu1, ← epd]; exact (vP_c hv i 1 _).trans (vPour_s _ _ _ _)) (hf.trans (cFr_1 _ _ _ _ _))
          rw [ecn, nI_succ i] at e
          exact e
        · refine z_iinc (pc := 108) (v := 1) C 3 dX9_pour_108 (by decide) rfl rfl rfl ?_
          refine z_aload (pc := 111) C 5 dX9_pour_111 rfl ?_
          refine z_iload (pc := 113) C 6 dX9_pour_113 rfl ?_
          refine z_putII (pc := 115) C dX9_pour_115 fX9_133 (shP (okP_w lt0_14 hin)) rfl ?_
          refine z_iinc (pc := 118) (v := 1) C 4 dX9_pour_118 (by decide) rfl rfl rfl ?_
          refine z_goto (pc := 121) C 33 dX9_pour_121 (by decide) ?_
          have epd : pD (M 4 s 0) (cV M 0) i = (cV M 0).2 i 1 := by
            unfold pD
            rw [if_pos c75]
          have ecn : pCn (cV M 0) (M 4 s 0) (i + 1) = pCn (cV M 0) (M 4 s 0) i + 1 := by
            rw [pCn, epd, if_neg c105]
          have e := ih (i + 1) (zu M1 1 0 i 1 ((cV M 0).2 i 1)) (some (.ref (b + adP 0 i))) (some (.int ((cV M 0).2 i 1))) (by omega) (by rw [cV_zu1, ← epd]; exact (vP_c hv i 1 _).trans (vPour_s _ _ _ _)) (hf.trans (cFr_1 _ _ _ _ _))
          rw [ecn, nI_succ i] at e
          exact e
  refine z_iload_n (pc := 0) C 1 dX9_pour_0 rfl rfl ?_
  refine z_callSi (pc := 1) C dX9_pour_1 kX9_192 mX9_isSheet (by decide) rfl rfl (Nat.le_of_ble_eq_true rfl) (fun r1 M1 h1 => ?_)
  obtain ⟨h1, e1⟩ := h1
  subst M1
  refine z_if_ne (pc := 4) C 10 dX9_pour_4 (by decide) (fun c4 => ?_) (fun c4 => ?_)
  · have hx := h1.yes c4
    obtain ⟨s, hs, rfl⟩ := iin_nI (n := 4) (by decide) hx
    have hs9 : s < 9 := by omega
    refine z_aload_n (pc := 10) C 0 dX9_pour_10 rfl rfl ?_
    refine z_getR (pc := 11) (r := 208) C dX9_pour_11 fX9_53 sh_0 rfl ?_
    refine z_iload_n (pc := 14) C 1 dX9_pour_14 rfl rfl ?_
    refine z_aald (pc := 15) (r := adS s) C dX9_pour_15 sh_208 rfl rfl (vp_in_nI hs (by decide)) (shget hs) ?_
    refine z_astore_n (pc := 16) C 2 dX9_pour_16 rfl (by decide) rfl ?_
    refine z_aload_n (pc := 17) C 2 dX9_pour_17 rfl rfl ?_
    refine z_getI (pc := 18) C dX9_pour_18 fX9_195 (shS hs9) rfl ?_
    refine z_iconst (pc := 21) (v := -1) C dX9_pour_21 rfl ?_
    refine z_icmp_ne (pc := 22) C 28 dX9_pour_22 (by decide) (fun c22 => ?_) (fun c22 => ?_)
    · refine z_iconst (pc := 28) (v := 0) C dX9_pour_28 rfl ?_
      refine z_istore_n (pc := 29) C 3 dX9_pour_29 rfl (by decide) rfl ?_
      refine z_iconst (pc := 30) (v := 0) C dX9_pour_30 rfl ?_
      refine z_istore (pc := 31) C 4 dX9_pour_31 (by decide) rfl ?_
      obtain ⟨w1, w2⟩ := hR.shR s hs
      replace w1 : iin (M 3 s 0 0) (-1) 1 := w1
      replace w2 : iin (M 3 s 0 1) 0 24 := w2
      obtain ⟨z, hz24, hz⟩ := iin_n w2 (by decide)
      have hso : ¬ M 3 s 0 0 < 0 := by
        unfold iin at w1
        rw [zi_eq, im1] at c22
        rw [zi_lt, i0]
        omega
      exact loop s z hs rfl hso (by omega) hz _ 0 M none none (Nat.zero_add _) (vPour_0 _ _ _).symm cFr.rfl'
    · refine z_ldc (pc := 25) C q3_100 dX9_pour_25 ?_
      refine z_ireturn (pc := 27) C K dX9_pour_27 ?_
      exact ⟨_, rfl, n, cV M 0, Or.inr (Or.inl ⟨s, hs, rfl, by show M 3 s 0 0 < 0; rw [c22]; decide, rfl, rfl, rfl⟩), veq.rfl', cFr.rfl'⟩
  · refine z_ldc (pc := 7) C q2_96 dX9_pour_7 ?_
    refine z_ireturn (pc := 9) C K dX9_pour_9 ?_
    exact ⟨_, rfl, n, cV M 0, Or.inl ⟨h1.no c4, rfl, rfl, rfl⟩, veq.rfl', cFr.rfl'⟩

set_option maxHeartbeats 800000 in
set_option maxRecDepth 100000 in
theorem mX10_pour {l : Launch} {G : zG} {b : Nat} {M : zM} {n T : Nat} {ky ln : Nat → Nat} (hI : rI M n T ky ln) {so sz : Nat → Int32} {g : Nat → Nat → Int32} (hr : shR so sz) (hso : ∀ s, s < 4 → M 44 0 0 s = so s ∧ M 45 0 0 s = sz s) (hg : ∀ s k, s < 4 → k < 24 → M 46 0 0 (24 * s + k) = g s k) {x : Int32} : zMet l G b yX10_pour cX10_pour 6 (some .int) 2 zshL zshL [.ref (b + 239), .int x] M (zI (mSt (Spour so sz g x) n M)) := by
  refine zMet.of (L0 := [some (.ref (b + 239)), some (.int x), none, none, none, none]) (by decide +kernel) (Nat.le_refl _) (Nat.le_refl _) (Nat.le_of_ble_eq_true rfl) (List.forall_mem_cons.mpr ⟨rfl, List.forall_mem_cons.mpr ⟨rfl, fun _ h => absurd h List.not_mem_nil⟩⟩) rfl (fun X C Al K => ?_)
  have n8 := hI.1.2.1
  have loop : ∀ (s z : Nat), s < 4 → x = nI s → ¬ so s < 0 → z ≤ 24 → sz s = nI z → ∀ (k i : Nat) (M1 : zM) (q5 q6 : Option Value), i + k = min n z → veq n (mV M1 31) (vPour (mV M 31) (g s) i) → mFr M M1 → zW X zshL M1 26 [some (.ref (b + 239)), some (.int x), some (.int (pCn (mV M 31) (g s) i)), some (.int (nI i)), q5, q6] [] := by
    intro s z hs hx hso0 hz24 hz k
    subst hx
    induction k with
    | zero =>
      intro i M1 q5 q6 hi hv hf
      have hn1 : M1 31 0 0 1 = nI n := (hv.1 2 (by decide) (by decide)).trans hI.1.1
      have hz1 : M1 45 0 0 s = nI z := by rw [hf.1 45 (by decide) (by decide) (by decide), (hso s hs).2]; exact hz
      have ei : (nI i).toInt = i := nI_toInt (by omega)
      have en : (nI n).toInt = n := nI_toInt (by omega)
      have ez : (nI z).toInt = z := nI_toInt (by omega)
      refine z_iload_n (pc := 26) C 3 dX10_pour_26 rfl rfl ?_
      refine z_aload_n (pc := 27) C 0 dX10_pour_27 rfl rfl ?_
      refine z_getR (pc := 28) (r := 254) C dX10_pour_28 fX10_54 sh_239 rfl ?_
      refine z_iload_n (pc := 31) C 1 dX10_pour_31 rfl rfl ?_
      refine z_iald (pc := 32) (n := s) C dX10_pour_32 sh_254 (vp_in_nI (by omega) (by decide)) (nI_clamp (by omega)) ?_
      rw [hz1]
      refine z_icmp_ge (pc := 33) C 119 dX10_pour_33 (by decide) (fun c33 => ?_) (fun c33 => ?_)
      · have hi2 : i = min n z := by omega
        refine z_iload_n (pc := 119) C 2 dX10_pour_119 rfl rfl ?_
        refine z_ireturn (pc := 120) C K dX10_pour_120 ?_
        exact ⟨_, rfl, n, _, Or.inr (Or.inr ⟨s, z, hs, rfl, hso0, hz24, hz, by rw [hi2], rfl, rfl⟩), by rw [← hi2]; exact hv, hf⟩
      · refine z_iload_n (pc := 36) C 3 dX10_pour_36 rfl rfl ?_
        refine z_aload_n (pc := 37) C 0 dX10_pour_37 rfl rfl ?_
        refine z_getR (pc := 38) (r := 240) C dX10_pour_38 fX10_9 sh_239 rfl ?_
        refine z_iconst (pc := 41) (v := 1) C dX10_pour_41 rfl ?_
        refine z_iald (pc := 42) (n := 1) C dX10_pour_42 sh_240 (zi_in.mpr (by decide)) rfl ?_
        rw [hn1]
        refine z_icmp_ge (pc := 43) C 119 dX10_pour_43 (by decide) (fun c43 => ?_) (fun c43 => absurd (show nI n ≤ nI i by rw [zi_le, ei, ez] at c33; rw [zi_le, ei, en]; omega) c43)
        have hi2 : i = min n z := by omega
        refine z_iload_n (pc := 119) C 2 dX10_pour_119 rfl rfl ?_
        refine z_ireturn (pc := 120) C K dX10_pour_120 ?_
        exact ⟨_, rfl, n, _, Or.inr (Or.inr ⟨s, z, hs, rfl, hso0, hz24, hz, by rw [hi2], rfl, rfl⟩), by rw [← hi2]; exact hv, hf⟩
    | succ k ih =>
      intro i M1 q5 q6 hi hv hf
      have hn1 : M1 31 0 0 1 = nI n := (hv.1 2 (by decide) (by decide)).trans hI.1.1
      have hz1 : M1 45 0 0 s = nI z := by rw [hf.1 45 (by decide) (by decide) (by decide), (hso s hs).2]; exact hz
      have ei : (nI i).toInt = i := nI_toInt (by omega)
      have en : (nI n).toInt = n := nI_toInt (by omega)
      have ez : (nI z).toInt = z := nI_toInt (by omega)
      have hin : i < 8 := by omega
      have h4 : M1 46 0 0 (24 * s + i) = g s i := by rw [hf.1 46 (by decide) (by decide) (by decide)]; exact hg s i hs (by omega)
      have hd : mp M1 i 1 = (mV M 31).2 i 1 := (hv.2 i 1 (by omega) (by decide)).trans (vPour_at _ _ _)
      have hd2 : M1 31 0 0 (9 + 7 * i + 1) = (mV M 31).2 i 1 := hd
      refine z_iload_n (pc := 26) C 3 dX10_pour_26 rfl rfl ?_
      refine z_aload_n (pc := 27) C 0 dX10_pour_27 rfl rfl ?_
      refine z_getR (pc := 28) (r := 254) C dX10_pour_28 fX10_54 sh_239 rfl ?_
      refine z_iload_n (pc := 31) C 1 dX10_pour_31 rfl rfl ?_
      refine z_iald (pc := 32) (n := s) C dX10_pour_32 sh_254 (vp_in_nI (by omega) (by decide)) (nI_clamp (by omega)) ?_
      rw [hz1]
      refine z_icmp_ge (pc := 33) C 119 dX10_pour_33 (by decide) (fun c33 => absurd c33 (by rw [zi_le, ei, ez]; omega)) (fun c33 => ?_)
      refine z_iload_n (pc := 36) C 3 dX10_pour_36 rfl rfl ?_
      refine z_aload_n (pc := 37) C 0 dX10_pour_37 rfl rfl ?_
      refine z_getR (pc := 38) (r := 240) C dX10_pour_38 fX10_9 sh_239 rfl ?_
      refine z_iconst (pc := 41) (v := 1) C dX10_pour_41 rfl ?_
      refine z_iald (pc := 42) (n := 1) C dX10_pour_42 sh_240 (zi_in.mpr (by decide)) rfl ?_
      rw [hn1]
      refine z_icmp_ge (pc := 43) C 119 dX10_pour_43 (by decide) (fun c43 => absurd c43 (by rw [zi_le, ei, en]; omega)) (fun c43 => ?_)
      refine z_aload_n (pc := 46) C 0 dX10_pour_46 rfl rfl ?_
      refine z_getR (pc := 47) (r := 255) C dX10_pour_47 fX10_57 sh_239 rfl ?_
      refine z_bipush (pc := 50) (v := 24) C dX10_pour_50 rfl ?_
      refine z_iload_n (pc := 52) C 1 dX10_pour_52 rfl rfl ?_
      refine z_imul (pc := 53) C dX10_pour_53 ?_
      refine z_iload_n (pc := 54) C 3 dX10_pour_54 rfl rfl ?_
      refine z_iadd (pc := 55) C dX10_pour_55 ?_
      rw [idx24]
      refine z_iald (pc := 56) (n := 24 * s + i) C dX10_pour_56 sh_255 (vp_in_nI (by omega) (by decide)) (nI_clamp (by omega)) ?_
      rw [h4]
      refine z_istore (pc := 57) C 4 dX10_pour_57 (by decide) rfl ?_
      refine z_iload (pc := 59) C 4 dX10_pour_59 rfl ?_
      refine z_ldc (pc := 61) C q5_211 dX10_pour_61 ?_
      refine z_icmp_ne (pc := 63) C 75 dX10_pour_63 (by decide) (fun c63 => ?_) (fun c63 => ?_)
      · refine z_iload (pc := 75) C 4 dX10_pour_75 rfl ?_
        refine z_iconst (pc := 77) (v := 0) C dX10_pour_77 rfl ?_
        refine z_bipush (pc := 78) (v := 99) C dX10_pour_78 rfl ?_
        refine z_callSi (pc := 80) C dX10_pour_80 kX10_103 mX10_within (by decide) rfl rfl (Nat.le_of_ble_eq_true rfl) (fun r80 M80 h80 => ?_)
        obtain ⟨rfl, e80⟩ := h80
        subst M80
        rw [show zwi (g s i) 0 99 = zheld (g s i) from rfl]
        refine z_istore (pc := 83) C 5 dX10_pour_83 (by decide) rfl ?_
        refine z_iload_n (pc := 85) C 2 dX10_pour_85 rfl rfl ?_
        refine z_aload_n (pc := 86) C 0 dX10_pour_86 rfl rfl ?_
        refine z_bipush (pc := 87) (v := 9) C dX10_pour_87 rfl ?_
        refine z_bipush (pc := 89) (v := 7) C dX10_pour_89 rfl ?_
        refine z_iload_n (pc := 91) C 3 dX10_pour_91 rfl rfl ?_
        refine z_imul (pc := 92) C dX10_pour_92 ?_
        refine z_iadd (pc := 93) C dX10_pour_93 ?_
        refine z_iconst (pc := 94) (v := 1) C dX10_pour_94 rfl ?_
        refine z_iadd (pc := 95) C dX10_pour_95 ?_
        rw [idx97 hin, nI_1]
        refine z_iload (pc := 96) C 5 dX10_pour_96 rfl ?_
        refine z_callVi (pc := 98) C dX10_pour_98 kX10_122 (mX10_becomes (k := 9 + 7 * i + 1) (by omega)) (by decide) sh_239 rfl rfl rfl (Nat.le_of_ble_eq_true rfl) (fun r98 M98 h98 => ?_)
        obtain ⟨rfl, e98⟩ := h98
        subst M98
        rw [hd2]
        refine z_iload (pc := 101) C 5 dX10_pour_101 rfl ?_
        refine z_icmp_ne (pc := 103) C 110 dX10_pour_103 (by decide) (fun c103 => ?_) (fun c103 => ?_)
        · refine z_iconst (pc := 110) (v := 1) C dX10_pour_110 rfl ?_
          refine z_iadd (pc := 111) C dX10_pour_111 ?_
          refine z_istore_n (pc := 112) C 2 dX10_pour_112 rfl (by decide) rfl ?_
          refine z_iinc (pc := 113) (v := 1) C 3 dX10_pour_113 (by decide) rfl rfl rfl ?_
          refine z_goto (pc := 116) C 26 dX10_pour_116 (by decide) ?_
          have epd : pD (g s) (mV M 31) i = zheld (g s i) := by
            unfold pD
            rw [if_neg c63]
          have ecn : pCn (mV M 31) (g s) (i + 1) = pCn (mV M 31) (g s) i + 1 := by
            rw [pCn, epd, if_neg (fun z => c103 z.symm)]
          have e := ih (i + 1) (zu M1 31 0 0 (9 + 7 * i + 1) (zheld (g s i))) (some (.int (g s i))) (some (.int (zheld (g s i)))) (by omega) (by rw [← epd]; exact ((mV_put M1 (i := i) (f := 1) (by decide) _).trans (vP_c hv i 1 _)).trans (vPour_s _ _ _ _)) (hf.trans (mFr_zu M1 (by omega) _))
          rw [ecn, nI_succ i] at e
          exact e
        · refine z_iconst (pc := 106) (v := 0) C dX10_pour_106 rfl ?_
          refine z_goto (pc := 107) C 111 dX10_pour_107 (by decide) ?_
          refine z_iadd (pc := 111) C dX10_pour_111 ?_
          refine z_istore_n (pc := 112) C 2 dX10_pour_112 rfl (by decide) rfl ?_
          refine z_iinc (pc := 113) (v := 1) C 3 dX10_pour_113 (by decide) rfl rfl rfl ?_
          refine z_goto (pc := 116) C 26 dX10_pour_116 (by decide) ?_
          have epd : pD (g s) (mV M 31) i = zheld (g s i) := by
            unfold pD
            rw [if_neg c63]
          have ecn : pCn (mV M 31) (g s) (i + 1) = pCn (mV M 31) (g s) i + 0 := by
            rw [pCn, epd, if_pos c103.symm, Int32.add_zero]
          have e := ih (i + 1) (zu M1 31 0 0 (9 + 7 * i + 1) (zheld (g s i))) (some (.int (g s i))) (some (.int (zheld (g s i)))) (by omega) (by rw [← epd]; exact ((mV_put M1 (i := i) (f := 1) (by decide) _).trans (vP_c hv i 1 _)).trans (vPour_s _ _ _ _)) (hf.trans (mFr_zu M1 (by omega) _))
          rw [ecn, nI_succ i] at e
          exact e
      · refine z_aload_n (pc := 66) C 0 dX10_pour_66 rfl rfl ?_
        refine z_iload_n (pc := 67) C 3 dX10_pour_67 rfl rfl ?_
        refine z_iconst (pc := 68) (v := 1) C dX10_pour_68 rfl ?_
        refine z_callVi (pc := 69) C dX10_pour_69 kX10_96 (mX10_of (f := 1) hin (by decide)) (by decide) sh_239 rfl rfl rfl (Nat.le_of_ble_eq_true rfl) (fun r69 M69 h69 => ?_)
        obtain ⟨rfl, e69⟩ := h69
        subst M69
        rw [hd]
        refine z_goto (pc := 72) C 83 dX10_pour_72 (by decide) ?_
        refine z_istore (pc := 83) C 5 dX10_pour_83 (by decide) rfl ?_
        refine z_iload_n (pc := 85) C 2 dX10_pour_85 rfl rfl ?_
        refine z_aload_n (pc := 86) C 0 dX10_pour_86 rfl rfl ?_
        refine z_bipush (pc := 87) (v := 9) C dX10_pour_87 rfl ?_
        refine z_bipush (pc := 89) (v := 7) C dX10_pour_89 rfl ?_
        refine z_iload_n (pc := 91) C 3 dX10_pour_91 rfl rfl ?_
        refine z_imul (pc := 92) C dX10_pour_92 ?_
        refine z_iadd (pc := 93) C dX10_pour_93 ?_
        refine z_iconst (pc := 94) (v := 1) C dX10_pour_94 rfl ?_
        refine z_iadd (pc := 95) C dX10_pour_95 ?_
        rw [idx97 hin, nI_1]
        refine z_iload (pc := 96) C 5 dX10_pour_96 rfl ?_
        refine z_callVi (pc := 98) C dX10_pour_98 kX10_122 (mX10_becomes (k := 9 + 7 * i + 1) (by omega)) (by decide) sh_239 rfl rfl rfl (Nat.le_of_ble_eq_true rfl) (fun r98 M98 h98 => ?_)
        obtain ⟨rfl, e98⟩ := h98
        subst M98
        rw [hd2]
        refine z_iload (pc := 101) C 5 dX10_pour_101 rfl ?_
        refine z_icmp_ne (pc := 103) C 110 dX10_pour_103 (by decide) (fun c103 => ?_) (fun c103 => ?_)
        · refine z_iconst (pc := 110) (v := 1) C dX10_pour_110 rfl ?_
          refine z_iadd (pc := 111) C dX10_pour_111 ?_
          refine z_istore_n (pc := 112) C 2 dX10_pour_112 rfl (by decide) rfl ?_
          refine z_iinc (pc := 113) (v := 1) C 3 dX10_pour_113 (by decide) rfl rfl rfl ?_
          refine z_goto (pc := 116) C 26 dX10_pour_116 (by decide) ?_
          have epd : pD (g s) (mV M 31) i = (mV M 31).2 i 1 := by
            unfold pD
            rw [if_pos c63]
          have ecn : pCn (mV M 31) (g s) (i + 1) = pCn (mV M 31) (g s) i + 1 := by
            rw [pCn, epd, if_neg (fun z => c103 z.symm)]
          have e := ih (i + 1) (zu M1 31 0 0 (9 + 7 * i + 1) ((mV M 31).2 i 1)) (some (.int (g s i))) (some (.int ((mV M 31).2 i 1))) (by omega) (by rw [← epd]; exact ((mV_put M1 (i := i) (f := 1) (by decide) _).trans (vP_c hv i 1 _)).trans (vPour_s _ _ _ _)) (hf.trans (mFr_zu M1 (by omega) _))
          rw [ecn, nI_succ i] at e
          exact e
        · refine z_iconst (pc := 106) (v := 0) C dX10_pour_106 rfl ?_
          refine z_goto (pc := 107) C 111 dX10_pour_107 (by decide) ?_
          refine z_iadd (pc := 111) C dX10_pour_111 ?_
          refine z_istore_n (pc := 112) C 2 dX10_pour_112 rfl (by decide) rfl ?_
          refine z_iinc (pc := 113) (v := 1) C 3 dX10_pour_113 (by decide) rfl rfl rfl ?_
          refine z_goto (pc := 116) C 26 dX10_pour_116 (by decide) ?_
          have epd : pD (g s) (mV M 31) i = (mV M 31).2 i 1 := by
            unfold pD
            rw [if_pos c63]
          have ecn : pCn (mV M 31) (g s) (i + 1) = pCn (mV M 31) (g s) i + 0 := by
            rw [pCn, epd, if_pos c103.symm, Int32.add_zero]
          have e := ih (i + 1) (zu M1 31 0 0 (9 + 7 * i + 1) ((mV M 31).2 i 1)) (some (.int (g s i))) (some (.int ((mV M 31).2 i 1))) (by omega) (by rw [← epd]; exact ((mV_put M1 (i := i) (f := 1) (by decide) _).trans (vP_c hv i 1 _)).trans (vPour_s _ _ _ _)) (hf.trans (mFr_zu M1 (by omega) _))
          rw [ecn, nI_succ i] at e
          exact e
  refine z_iload_n (pc := 0) C 1 dX10_pour_0 rfl rfl ?_
  refine z_callSi (pc := 1) C dX10_pour_1 kX10_198 mX10_isSheet (by decide) rfl rfl (Nat.le_of_ble_eq_true rfl) (fun r1 M1 h1 => ?_)
  obtain ⟨h1, e1⟩ := h1
  subst M1
  refine z_if_ne (pc := 4) C 10 dX10_pour_4 (by decide) (fun c4 => ?_) (fun c4 => ?_)
  · have hx := h1.yes c4
    obtain ⟨s, hs, rfl⟩ := iin_nI (n := 4) (by decide) hx
    have hs9 : s < 9 := by omega
    refine z_aload_n (pc := 10) C 0 dX10_pour_10 rfl rfl ?_
    refine z_getR (pc := 11) (r := 253) C dX10_pour_11 fX10_51 sh_239 rfl ?_
    refine z_iload_n (pc := 14) C 1 dX10_pour_14 rfl rfl ?_
    refine z_iald (pc := 15) (n := s) C dX10_pour_15 sh_253 (vp_in_nI (by omega) (by decide)) (nI_clamp (by omega)) ?_
    refine z_if_ge (pc := 16) C 22 dX10_pour_16 (by decide) (fun c16 => ?_) (fun c16 => ?_)
    · refine z_iconst (pc := 22) (v := 0) C dX10_pour_22 rfl ?_
      refine z_istore_n (pc := 23) C 2 dX10_pour_23 rfl (by decide) rfl ?_
      refine z_iconst (pc := 24) (v := 0) C dX10_pour_24 rfl ?_
      refine z_istore_n (pc := 25) C 3 dX10_pour_25 rfl (by decide) rfl ?_
      obtain ⟨w1, w2⟩ := hr s hs
      obtain ⟨z, hz24, hz⟩ := iin_n w2 (by decide)
      exact loop s z hs rfl (by rw [← (hso s hs).1]; exact (znn _).mp c16) (by omega) hz _ 0 M none none (Nat.zero_add _) (vPour_0 _ _ _).symm mFr.rfl'
    · refine z_ldc (pc := 19) C q6_15 dX10_pour_19 ?_
      refine z_ireturn (pc := 21) C K dX10_pour_21 ?_
      exact ⟨_, rfl, n, mV M 31, Or.inr (Or.inl ⟨s, hs, rfl, by rw [← (hso s hs).1]; exact Int32.not_le.mp c16, rfl, rfl, rfl⟩), veq.rfl', mFr.rfl'⟩
  · refine z_ldc (pc := 7) C q5_48 dX10_pour_7 ?_
    refine z_ireturn (pc := 9) C K dX10_pour_9 ?_
    exact ⟨_, rfl, n, mV M 31, Or.inl ⟨h1.no c4, rfl, rfl, rfl⟩, veq.rfl', mFr.rfl'⟩

theorem op_pour {l : Launch} {G : zG} {b : Nat} {M : zM} (hM : Rel M) {x : Int32} : opOK l G b yX9_pour cX9_pour 7 2 yX10_pour cX10_pour 6 2 [.int x] M := by
  obtain ⟨n, T, ky, ln, hR⟩ := hM
  refine ⟨_, mX9_pour hR, fun r M1 h1 => ?_⟩
  have hf : cFr M M1 0 := by
    obtain ⟨_, _, _, _, h⟩ := h1
    exact h
  refine zI.post (mX10_pour (hf.rI hR.rI) (so := fun s => M 3 s 0 0) (sz := fun s => M 3 s 0 1) (g := fun s => M 4 s 0) hR.shR (fun s hs => ?_) (fun s k hs hk => ?_)) (fun s M2 h2 => St.ok (Spour_ok _ _ _ x) hR h1 h2)
  · obtain ⟨g1, g2, g3, g4, g5⟩ := hR.RE s hs
    rw [hf.k (a := 44) (by decide), hf.k (a := 45) (by decide)]
    exact ⟨g1.symm, g3.symm⟩
  · rw [hf.k (a := 46) (by decide)]
    exact ((hR.RE s hs).2.2.2.2 k hk).symm
theorem op_seed {l : Launch} {G : zG} {b : Nat} {M : zM} (hM : Rel M) {v : Int32} : opOK l G b yX9_seed cX9_seed 3 0 yX10_seed cX10_seed 2 1 [.int v] M := by
  obtain ⟨n, T, ky, ln, hR⟩ := hM
  refine ⟨_, mX9_seed hR, fun r M1 h1 => ?_⟩
  have hf : cFr M M1 0 := by
    obtain ⟨_, _, _, _, h⟩ := h1
    exact h
  exact zI.post (mX10_seed (hf.rI hR.rI)) (fun s M2 h2 => St.ok (Sseed_ok v) hR h1 h2)
theorem op_turns {l : Launch} {G : zG} {b : Nat} {M : zM} (hM : Rel M) {x k : Int32} : opOK l G b yX9_turns cX9_turns 5 1 yX10_turns cX10_turns 3 2 [.int x, .int k] M := by
  obtain ⟨n, T, ky, ln, hR⟩ := hM
  refine ⟨_, mX9_turns hR, fun r M1 h1 => ?_⟩
  have hf : cFr M M1 0 := by
    obtain ⟨_, _, _, _, h⟩ := h1
    exact h
  exact zI.post (mX10_turns (hf.rI hR.rI)) (fun s M2 h2 => St.ok (Sturns_ok x k) hR h1 h2)
theorem op_set {l : Launch} {G : zG} {b : Nat} {M : zM} (hM : Rel M) {x t v : Int32} : opOK l G b yX9_set cX9_set 6 1 yX10_set cX10_set 4 2 [.int x, .int t, .int v] M := by
  obtain ⟨n, T, ky, ln, hR⟩ := hM
  refine ⟨_, mX9_set hR, fun r M1 h1 => ?_⟩
  have hf : cFr M M1 0 := by
    obtain ⟨_, _, _, _, h⟩ := h1
    exact h
  exact zI.post (mX10_set (hf.rI hR.rI)) (fun s M2 h2 => St.ok (Sset_ok x t v) hR h1 h2)
theorem op_says {l : Launch} {G : zG} {b : Nat} {M : zM} (hM : Rel M)  : opOK l G b yX9_says cX9_says 1 3 yX10_says cX10_says 1 4 [] M := by
  obtain ⟨n, T, ky, ln, hR⟩ := hM
  refine ⟨_, mX9_says hR, fun r M1 h1 => ?_⟩
  have hf : cFr M M1 0 := by
    obtain ⟨_, _, _, _, h⟩ := h1
    exact h
  exact zI.post (mX10_says (hf.rI hR.rI)) (fun s M2 h2 => St.ok (Ssays_ok) hR h1 h2)
theorem op_safe {l : Launch} {G : zG} {b : Nat} {M : zM} (hM : Rel M) {t v : Int32} : opOK l G b yX9_safe cX9_safe 4 1 yX10_safe cX10_safe 3 1 [.int t, .int v] M := by
  obtain ⟨n, T, ky, ln, hR⟩ := hM
  refine ⟨_, mX9_safe hR, fun r M1 h1 => ?_⟩
  have hf : cFr M M1 0 := by
    obtain ⟨_, _, _, _, h⟩ := h1
    exact h
  exact zI.post (mX10_safe (hf.rI hR.rI)) (fun s M2 h2 => St.ok (Ssafe_ok t v) hR h1 h2)
theorem op_person {l : Launch} {G : zG} {b : Nat} {M : zM} (hM : Rel M) {k d w : Int32} : opOK l G b yX9_person cX9_person 4 2 yX10_person cX10_person 4 2 [.int k, .int d, .int w] M := by
  obtain ⟨n, T, ky, ln, hR⟩ := hM
  refine ⟨_, mX9_person hR, fun r M1 h1 => ?_⟩
  have hf : cFr M M1 0 := by
    obtain ⟨_, _, _, _, h⟩ := h1
    exact h
  exact zI.post (mX10_person (hf.rI hR.rI)) (fun s M2 h2 => St.ok (Spers_ok k d w) hR h1 h2)
theorem op_forget {l : Launch} {G : zG} {b : Nat} {M : zM} (hM : Rel M)  : opOK l G b yX9_forget cX9_forget 4 1 yX10_forget cX10_forget 3 2 [] M := by
  obtain ⟨n, T, ky, ln, hR⟩ := hM
  refine ⟨_, mX9_forget hR, fun r M1 h1 => ?_⟩
  have hf : cFr M M1 0 := by
    obtain ⟨_, _, _, _, h⟩ := h1
    exact h
  exact zI.post (mX10_forget (hf.rI hR.rI)) (fun s M2 h2 => St.ok (Sforg_ok) hR h1 h2)
theorem op_deal {l : Launch} {G : zG} {b : Nat} {M : zM} (hM : Rel M) {x : Int32} : opOK l G b yX9_deal cX9_deal 5 3 yX10_deal cX10_deal 7 2 [.int x] M := by
  obtain ⟨n, T, ky, ln, hR⟩ := hM
  refine ⟨_, mX9_deal hR, fun r M1 h1 => ?_⟩
  have hf : cFr M M1 0 := by
    obtain ⟨_, _, _, _, h⟩ := h1
    exact h
  exact zI.post (mX10_deal (hf.rI hR.rI)) (fun s M2 h2 => St.ok (Sdeal_ok x) hR h1 h2)
theorem op_tries {l : Launch} {G : zG} {b : Nat} {M : zM} (hM : Rel M) {x : Int32} : opOK l G b yX9_tries cX9_tries 3 6 yX10_tries cX10_tries 2 7 [.int x] M := by
  obtain ⟨n, T, ky, ln, hR⟩ := hM
  refine ⟨_, mX9_tries hR, fun r M1 h1 => ?_⟩
  have hf : cFr M M1 0 := by
    obtain ⟨_, _, _, _, h⟩ := h1
    exact h
  have t8 : tOK (M1 31 0 0 2) := by
    rw [hf 31 0 0 2 (by omega), show M 31 0 0 2 = M 5 0 0 8 from hR.f (k := 8) (by decide) (by decide)]
    exact hR.1.2.2.2.2.2.2
  have hh : hvF M1 (lastK ky 0 T) = hvF M (lastK ky 0 T) := hvF_c (hf.k (by decide)) (hf.k (by decide)) _
  refine zI.post (mX10_tries (hf.rI hR.rI) t8) (fun s M2 h2 => ?_)
  rw [hh] at h2
  exact St.ok (Stry_ok (hvF_in M _) x) hR h1 h2
theorem wC.cV {M M' : zM} {w w' n : Nat} (h : wC M M' w w' n) : veq n (cV M' w) (cV M w') := ⟨h.2.1, fun i f hi hf => h.1 i f hi hf⟩
theorem mV_tk {M : zM} {c e k n : Nat} (hk : 65 ≤ k) (hn : n ≤ 8) : veq n (mV (tk M c e k) e) (mV M c) := ⟨fun j h1 h2 => if_pos ⟨rfl, rfl, rfl, by have := mm_lt h1 h2; omega⟩, fun i f hi hf => if_pos ⟨rfl, rfl, rfl, by omega⟩⟩
theorem tkk_in {M : zM} {c e k f : Nat} (hf : f < k) : tk M c e k e 0 0 f = M c 0 0 f := if_pos ⟨rfl, rfl, rfl, hf⟩
theorem tkk_o {M : zM} {c e k a x y f : Nat} (h : a ≠ e) : tk M c e k a x y f = M a x y f := if_neg (fun q => h q.1)
theorem mTX.tk {M : zM} {c e T : Nat} {ky ln : Nat → Nat} (h : mTX M c T ky ln) (hT : T ≤ 14) (hl : ∀ t, t < T → ln t ≤ 96) (h8 : 8 ≠ e) (h9 : 9 ≠ e) : mTX (tk M c e 1437) e T ky ln := by
  intro t ht
  obtain ⟨a1, a2, a3⟩ := h t ht
  have hlt := hl t ht
  rw [tkk_in (by omega), tkk_in (by omega), tkk_o h8]
  exact ⟨a1, a2, fun i hi => by rw [tkk_in (by omega), tkk_o h9]; exact a3 i hi⟩
def Akeep (n : Nat) (M : zM) (r : Int32) (M' : zM) : Prop := r = nI n ∧ ∃ Ma, wC M Ma 1 0 n ∧ M' = zu Ma 0 0 0 10 1
set_option maxHeartbeats 800000 in
set_option maxRecDepth 100000 in
theorem mX9_keep {l : Launch} {G : zG} {b : Nat} {M : zM} {n T : Nat} {ky ln : Nat → Nat} (hR : RR M n T ky ln) : zMet l G b yX9_keep cX9_keep 1 (some .int) 2 zshL zshL [.ref (b + 0)] M (zI (Akeep n M)) := by
  refine zMet.of (L0 := [some (.ref (b + 0))]) (by decide +kernel) (Nat.le_refl _) (Nat.le_refl _) (Nat.le_of_ble_eq_true rfl) (List.forall_mem_cons.mpr ⟨rfl, fun _ h => absurd h List.not_mem_nil⟩) rfl (fun X C Al K => ?_)
  refine z_aload_n (pc := 0) C 0 dX9_keep_0 rfl rfl ?_
  refine z_getR (pc := 1) (r := adW 1) C dX9_keep_1 fX9_25 sh_0 rfl ?_
  refine z_aload_n (pc := 4) C 0 dX9_keep_4 rfl rfl ?_
  refine z_getR (pc := 5) (r := adW 0) C dX9_keep_5 fX9_21 sh_0 rfl ?_
  refine z_callVv (pc := 8) C dX9_keep_8 kX9_294 (mX8_become (w := 1) (w' := 0) lt1_14 lt0_14 (by decide) hR.hn hR.n8 hR.1.1.2.2.2.2.2.2.2 (fun i hi => (hR.ok hi).2.2.2.2.2.2)) (by decide) (shW lt1_14) rfl rfl rfl (Nat.le_of_ble_eq_true rfl) (fun M8 h8 => ?_)
  refine z_aload_n (pc := 11) C 0 dX9_keep_11 rfl rfl ?_
  refine z_iconst (pc := 12) (v := 1) C dX9_keep_12 rfl ?_
  refine z_putZ (pc := 13) C dX9_keep_13 fX9_71 sh_0 rfl (Or.inr rfl) ?_
  refine z_aload_n (pc := 16) C 0 dX9_keep_16 rfl rfl ?_
  refine z_getR (pc := 17) (r := adW 1) C dX9_keep_17 fX9_25 sh_0 rfl ?_
  refine z_getI (pc := 20) C dX9_keep_20 fX9_88 (shW lt1_14) rfl ?_
  refine z_ireturn (pc := 23) C K dX9_keep_23 ?_
  exact ⟨_, rfl, by rw [zu_a (by decide), h8.2.1 2 (by decide) (by decide)]; exact hR.hn, M8, h8, rfl⟩

set_option maxHeartbeats 800000 in
set_option maxRecDepth 100000 in
theorem mX10_keep {l : Launch} {G : zG} {b : Nat} {M : zM} {n : Nat} (hm : M 31 0 0 1 = nI n) : zMet l G b yX10_keep cX10_keep 1 (some .int) 1 zshL zshL [.ref (b + 239)] M (zI (fun r M' => r = nI n ∧ M' = zu (tk M 31 32 1437) 30 0 0 3 1)) := by
  refine zMet.of (L0 := [some (.ref (b + 239))]) (by decide +kernel) (Nat.le_refl _) (Nat.le_refl _) (Nat.le_of_ble_eq_true rfl) (List.forall_mem_cons.mpr ⟨rfl, fun _ h => absurd h List.not_mem_nil⟩) rfl (fun X C Al K => ?_)
  refine z_aload_n (pc := 0) C 0 dX10_keep_0 rfl rfl ?_
  refine z_getR (pc := 1) (r := 240) C dX10_keep_1 fX10_9 sh_239 rfl ?_
  refine z_aload_n (pc := 4) C 0 dX10_keep_4 rfl rfl ?_
  refine z_getR (pc := 5) (r := 241) C dX10_keep_5 fX10_13 sh_239 rfl ?_
  refine z_callSv (pc := 8) C dX10_keep_8 kX10_287 (mX10_copyAll sh_240 sh_241 (by decide) (by decide) (by decide) (by decide) (by decide)) (by decide) rfl rfl (Nat.le_of_ble_eq_true rfl) (fun M8 h8 => ?_)
  subst M8
  refine z_aload_n (pc := 11) C 0 dX10_keep_11 rfl rfl ?_
  refine z_iconst (pc := 12) (v := 1) C dX10_keep_12 rfl ?_
  refine z_putZ (pc := 13) C dX10_keep_13 fX10_283 sh_239 rfl (Or.inr rfl) ?_
  refine z_aload_n (pc := 16) C 0 dX10_keep_16 rfl rfl ?_
  refine z_getR (pc := 17) (r := 240) C dX10_keep_17 fX10_9 sh_239 rfl ?_
  refine z_iconst (pc := 20) (v := 1) C dX10_keep_20 rfl ?_
  refine z_iald (pc := 21) (n := 1) C dX10_keep_21 sh_240 (zi_in.mpr (by decide)) rfl ?_
  refine z_ireturn (pc := 22) C K dX10_keep_22 ?_
  exact ⟨_, rfl, by rw [zu_a (by decide), tkk_o (by decide)]; exact hm, rfl⟩

theorem op_keep {l : Launch} {G : zG} {b : Nat} {M : zM} (hM : Rel M) : opOK l G b yX9_keep cX9_keep 1 2 yX10_keep cX10_keep 1 1 [] M := by
  obtain ⟨n, T, ky, ln, hR⟩ := hM
  refine ⟨_, mX9_keep hR, fun r M1 h1 => ?_⟩
  obtain ⟨rfl, Ma, hw, e1⟩ := h1
  have ko : ∀ a x y f, ¬ (((a = 1 ∨ a = 5 ∨ a = 6) ∧ x = 1) ∨ (a = 0 ∧ f = 10)) → M1 a x y f = M a x y f := fun a x y f z => by
    rw [e1, zu_ne _ _ (fun e => z (by omega)), hw.2.2.2 a x y f (by unfold wOut; omega)]
  refine zI.post (mX10_keep (n := n) (by rw [ko 31 0 0 1 (by omega)]; exact hR.hm)) (fun s M2 h2 => ?_)
  obtain ⟨rfl, e2⟩ := h2
  have k2 : ∀ a x y f, ¬ (a = 32 ∨ (a = 30 ∧ f = 3)) → M2 a x y f = M1 a x y f := fun a x y f z => by
    rw [e2, zu_ne _ _ (fun e => z (by omega)), tkk_o (fun e => z (by omega))]
  have k3 : ∀ f, M2 32 0 0 f = tk M1 31 32 1437 32 0 0 f := fun f => by
    rw [e2, zu_a (by decide)]
  obtain ⟨a1, a2, a3, a4, a5, a6, a7⟩ := hR.1
  have ev : veq n (cV M2 1) (cV M 0) := by
    have e : veq n (cV M2 1) (cV Ma 1) := ⟨fun k _ _ => by
      show M2 5 1 0 k = Ma 5 1 0 k
      rw [k2 _ _ _ _ (by omega), e1, zu_a (by decide)], fun i f _ _ => by
      show M2 1 1 i f = Ma 1 1 i f
      rw [k2 _ _ _ _ (by omega), e1, zu_a (by decide)]⟩
    exact e.trans hw.cV
  have em : veq n (mV M2 32) (mV M 31) := by
    have e : veq n (mV M2 32) (mV (tk M1 31 32 1437) 32) := ⟨fun k _ _ => k3 _, fun i f _ _ => k3 _⟩
    have e' : mV M1 31 = mV M 31 := mV_on (fun k => ko 31 0 0 k (by omega))
    rw [← e']
    exact e.trans (mV_tk (by decide) hR.n8)
  have eT : mTX M1 31 T ky ln := a4.on (fun k => ko 31 0 0 k (by omega)) (fun t f _ => ko 8 t 0 f (by omega)) (fun t f _ => ko 9 t 0 f (by omega))
  refine ⟨rfl, _, _, _, _, (hR.ch (D := fun a x y f => ((a = 1 ∨ a = 5 ∨ a = 6) ∧ x = 1) ∨ a = 32 ∨ (a = 0 ∧ f = 10) ∨ (a = 30 ∧ f = 3)) ?_ (Or.inl (fun a x y f z q => by have q1 : ((a = 1 ∨ a = 5 ∨ a = 6) ∧ x = 1) ∨ a = 32 ∨ (a = 0 ∧ f = 10) ∨ (a = 30 ∧ f = 3) := q; unfold RAd at z; omega)) (Or.inr (Or.inr ⟨?_, ?_, n, T, Nat.le_refl _, ?_, ?_, ?_, ?_, fun k hk => ?_, ?_⟩)) (Or.inl (fun a x y f z q => by have q1 : ((a = 1 ∨ a = 5 ∨ a = 6) ∧ x = 1) ∨ a = 32 ∨ (a = 0 ∧ f = 10) ∨ (a = 30 ∧ f = 3) := q; unfold RDd at z; omega)) (Or.inl (fun a x y f z q => by have q1 : ((a = 1 ∨ a = 5 ∨ a = 6) ∧ x = 1) ∨ a = 32 ∨ (a = 0 ∧ f = 10) ∨ (a = 30 ∧ f = 3) := q; unfold REd at z; omega)) (Or.inl (fun a x y f z q => by have q1 : ((a = 1 ∨ a = 5 ∨ a = 6) ∧ x = 1) ∨ a = 32 ∨ (a = 0 ∧ f = 10) ∨ (a = 30 ∧ f = 3) := q; unfold RFd at z; omega)) (Or.inl (fun a x y f z q => by have q1 : ((a = 1 ∨ a = 5 ∨ a = 6) ∧ x = 1) ∨ a = 32 ∨ (a = 0 ∧ f = 10) ∨ (a = 30 ∧ f = 3) := q; unfold RGd at z; omega)) (Or.inl (fun a x y f z q => by have q1 : ((a = 1 ∨ a = 5 ∨ a = 6) ∧ x = 1) ∨ a = 32 ∨ (a = 0 ∧ f = 10) ∨ (a = 30 ∧ f = 3) := q; unfold RHd at z; omega)))⟩
  · intro a x y f z
    have z1 : ¬ (((a = 1 ∨ a = 5 ∨ a = 6) ∧ x = 1) ∨ a = 32 ∨ (a = 0 ∧ f = 10) ∨ (a = 30 ∧ f = 3)) := z
    rw [k2 a x y f (fun e => z1 (by omega)), ko a x y f (fun e => z1 (by omega))]
  · rw [k2 0 0 0 10 (by decide), e1, zu_self]
  · rw [e2, zu_self]
  · exact vOK_c ev.symm a1
  · exact (ev.trans a2).trans em.symm
  · exact (eT.tk a3.1 (fun t ht => (a3.2 t ht).2.1) (by decide) (by decide)).on k3 (fun t f _ => by rw [k2 8 t 0 f (by omega), tkk_o (by decide)]) (fun t f _ => by rw [k2 9 t 0 f (by omega), tkk_o (by decide)])
  · exact (ev.1 10 (by decide) (by decide)).trans a5
  · rw [k2 6 1 0 k (by omega), e1, zu_a (by decide), hw.2.2.1 k hk]
    exact a6 k hk
  · rw [show M2 5 1 0 8 = M 5 0 0 8 from ev.1 8 (by decide) (by decide)]
    exact a7
def Aback (n1 : Nat) (M : zM) (r : Int32) (M' : zM) : Prop := (M 0 0 0 10 = 0 ∧ r = -1000000002 ∧ M' = M) ∨ (¬ M 0 0 0 10 = 0 ∧ r = nI n1 ∧ wC M M' 0 1 n1)
set_option maxHeartbeats 800000 in
set_option maxRecDepth 100000 in
theorem mX9_back {l : Launch} {G : zG} {b : Nat} {M : zM} {n1 : Nat} (hk : ¬ M 0 0 0 10 = 0 → vOK n1 (cV M 1)) : zMet l G b yX9_back cX9_back 1 (some .int) 2 zshL zshL [.ref (b + 0)] M (zI (Aback n1 M)) := by
  refine zMet.of (L0 := [some (.ref (b + 0))]) (by decide +kernel) (Nat.le_refl _) (Nat.le_refl _) (Nat.le_of_ble_eq_true rfl) (List.forall_mem_cons.mpr ⟨rfl, fun _ h => absurd h List.not_mem_nil⟩) rfl (fun X C Al K => ?_)
  refine z_aload_n (pc := 0) C 0 dX9_back_0 rfl rfl ?_
  refine z_getI (pc := 1) C dX9_back_1 fX9_71 sh_0 rfl ?_
  refine z_if_ne (pc := 4) C 11 dX9_back_4 (by decide) (fun c4 => ?_) (fun c4 => ?_)
  · have hv := hk c4
    refine z_aload_n (pc := 11) C 0 dX9_back_11 rfl rfl ?_
    refine z_getR (pc := 12) (r := adW 0) C dX9_back_12 fX9_21 sh_0 rfl ?_
    refine z_aload_n (pc := 15) C 0 dX9_back_15 rfl rfl ?_
    refine z_getR (pc := 16) (r := adW 1) C dX9_back_16 fX9_25 sh_0 rfl ?_
    refine z_callVv (pc := 19) C dX9_back_19 kX9_294 (mX8_become (w := 0) (w' := 1) lt0_14 lt1_14 (by decide) hv.1 hv.2.1 hv.2.2.2.2.2.2.2 (fun i hi => (hv.2.2.1 i hi).2.2.2.2.2.2)) (by decide) (shW lt0_14) rfl rfl rfl (Nat.le_of_ble_eq_true rfl) (fun M19 h19 => ?_)
    refine z_aload_n (pc := 22) C 0 dX9_back_22 rfl rfl ?_
    refine z_getR (pc := 23) (r := adW 0) C dX9_back_23 fX9_21 sh_0 rfl ?_
    refine z_getI (pc := 26) C dX9_back_26 fX9_88 (shW lt0_14) rfl ?_
    refine z_ireturn (pc := 29) C K dX9_back_29 ?_
    exact ⟨_, rfl, Or.inr ⟨c4, by rw [h19.2.1 2 (by decide) (by decide)]; exact hv.1, h19⟩⟩
  · refine z_ldcw (pc := 7) C q4_144 dX9_back_7 ?_
    refine z_ireturn (pc := 10) C K dX9_back_10 ?_
    exact ⟨_, rfl, Or.inl ⟨c4, rfl, rfl⟩⟩

set_option maxHeartbeats 800000 in
set_option maxRecDepth 100000 in
theorem mX10_back {l : Launch} {G : zG} {b : Nat} {M : zM} : zMet l G b yX10_back cX10_back 1 (some .int) 1 zshL zshL [.ref (b + 239)] M (zI (fun r M' => (M 30 0 0 3 = 0 ∧ r = -1000000002 ∧ M' = M) ∨ (¬ M 30 0 0 3 = 0 ∧ r = M 32 0 0 1 ∧ M' = tk M 32 31 1437))) := by
  refine zMet.of (L0 := [some (.ref (b + 239))]) (by decide +kernel) (Nat.le_refl _) (Nat.le_refl _) (Nat.le_of_ble_eq_true rfl) (List.forall_mem_cons.mpr ⟨rfl, fun _ h => absurd h List.not_mem_nil⟩) rfl (fun X C Al K => ?_)
  refine z_aload_n (pc := 0) C 0 dX10_back_0 rfl rfl ?_
  refine z_getI (pc := 1) C dX10_back_1 fX10_283 sh_239 rfl ?_
  refine z_if_ne (pc := 4) C 11 dX10_back_4 (by decide) (fun c4 => ?_) (fun c4 => ?_)
  · refine z_aload_n (pc := 11) C 0 dX10_back_11 rfl rfl ?_
    refine z_getR (pc := 12) (r := 241) C dX10_back_12 fX10_13 sh_239 rfl ?_
    refine z_aload_n (pc := 15) C 0 dX10_back_15 rfl rfl ?_
    refine z_getR (pc := 16) (r := 240) C dX10_back_16 fX10_9 sh_239 rfl ?_
    refine z_callSv (pc := 19) C dX10_back_19 kX10_287 (mX10_copyAll sh_241 sh_240 (by decide) (by decide) (by decide) (by decide) (by decide)) (by decide) rfl rfl (Nat.le_of_ble_eq_true rfl) (fun M19 h19 => ?_)
    subst M19
    refine z_aload_n (pc := 22) C 0 dX10_back_22 rfl rfl ?_
    refine z_getR (pc := 23) (r := 240) C dX10_back_23 fX10_9 sh_239 rfl ?_
    refine z_iconst (pc := 26) (v := 1) C dX10_back_26 rfl ?_
    refine z_iald (pc := 27) (n := 1) C dX10_back_27 sh_240 (zi_in.mpr (by decide)) rfl ?_
    refine z_ireturn (pc := 28) C K dX10_back_28 ?_
    exact ⟨_, rfl, Or.inr ⟨c4, tkk_in (by decide), rfl⟩⟩
  · refine z_ldcw (pc := 7) C q6_138 dX10_back_7 ?_
    refine z_ireturn (pc := 10) C K dX10_back_10 ?_
    exact ⟨_, rfl, Or.inl ⟨c4, rfl, rfl⟩⟩

theorem op_back {l : Launch} {G : zG} {b : Nat} {M : zM} (hM : Rel M) : opOK l G b yX9_back cX9_back 1 2 yX10_back cX10_back 1 1 [] M := by
  obtain ⟨n, T, ky, ln, hR⟩ := hM
  rcases hR.2.1 with ⟨q1, q2⟩ | ⟨q1, q2, n1, T1, hI⟩
  · refine ⟨_, mX9_back (n1 := 0) (fun h => absurd q1 h), fun r M1 h1 => ?_⟩
    rcases h1 with ⟨-, rfl, e1⟩ | ⟨h, -⟩
    · subst M1
      refine zI.post mX10_back (fun s M2 h2 => ?_)
      rcases h2 with ⟨-, rfl, e2⟩ | ⟨h, -⟩
      · subst M2
        exact ⟨rfl, _, _, _, _, hR⟩
      · exact absurd q2 h
    · exact absurd q1 h
  · obtain ⟨a0, a1, a2, a4, a5, a6, a7⟩ := hI
    refine ⟨_, mX9_back (n1 := n1) (fun _ => a1), fun r M1 h1 => ?_⟩
    rcases h1 with ⟨h, -⟩ | ⟨-, rfl, hw⟩
    · exact absurd (q1.symm.trans h) (by decide)
    · have ko : ∀ a x y f, ¬ ((a = 1 ∨ a = 5 ∨ a = 6) ∧ x = 0) → M1 a x y f = M a x y f := fun a x y f z => hw.2.2.2 a x y f (by unfold wOut; omega)
      refine zI.post mX10_back (fun s M2 h2 => ?_)
      rcases h2 with ⟨h, -⟩ | ⟨-, rfl, e2⟩
      · exact absurd ((ko 30 0 0 3 (by omega)).trans q2 |>.symm.trans h) (by decide)
      · have k2 : ∀ a x y f, a ≠ 31 → M2 a x y f = M1 a x y f := fun a x y f z => by rw [e2, tkk_o z]
        have e1 : veq n1 (cV M2 0) (cV M 1) := by
          rw [cV_on (fun y f => k2 1 0 y f (by decide)) (fun f => k2 5 0 0 f (by decide))]
          exact hw.cV
        have n8 := a1.2.1
        have e3 : veq n1 (mV M2 31) (mV M 32) := by
          have e' : mV M1 32 = mV M 32 := mV_on (fun k => ko 32 0 0 k (by omega))
          rw [← e', e2]
          exact mV_tk (by decide) n8
        have hT14 := hR.TX.1
        refine ⟨?_, n1, T1, ky, ln, ?_, ?_, ?_, ?_, ?_, ?_, ?_⟩
        · have e := a2.1 2 (by decide) (by decide)
          rw [ko 32 0 0 1 (by omega)]
          exact e.symm.trans a1.1
        · refine ⟨vOK_c e1.symm a1, (e1.trans a2).trans e3.symm, (hR.TX.le a0).on (fun t f _ => by rw [k2 8 t 0 f (by decide), ko 8 t 0 f (by omega)]) (fun t f _ => by rw [k2 9 t 0 f (by decide), ko 9 t 0 f (by omega)]), ?_, ?_, fun k hk => ?_, ?_⟩
          · have eT : mTX M1 32 T1 ky ln := a4.on (fun k => ko 32 0 0 k (by omega)) (fun t f _ => ko 8 t 0 f (by omega)) (fun t f _ => ko 9 t 0 f (by omega))
            rw [e2]
            exact eT.tk (by omega) (fun t ht => (hR.TX.2 t (by omega)).2.1) (by decide) (by decide)
          · exact (e1.1 10 (by decide) (by decide)).trans a5
          · rw [k2 6 0 0 k (by decide), hw.2.2.1 k hk]
            exact a6 k hk
          · rw [show M2 5 0 0 8 = M 5 1 0 8 from e1.1 8 (by decide) (by decide)]
            exact a7
        · refine Or.inr ⟨?_, ?_, n1, T1, (RI.on (T := T1) (by omega) ⟨Nat.le_refl _, a1, a2, a4, a5, a6, a7⟩ (fun a x y f z => by rw [k2 a x y f (by omega), ko a x y f (by omega)]))⟩
          · rw [k2 0 0 0 10 (by decide), ko 0 0 0 10 (by omega)]
            exact q1
          · rw [k2 30 0 0 3 (by decide), ko 30 0 0 3 (by omega)]
            exact q2
        · exact hR.2.2.1.on (fun a x y f z => by unfold RDd at z; rw [k2 a x y f (by omega), ko a x y f (by omega)])
        · exact hR.2.2.2.1.on (fun a x y f z => by unfold REd at z; rw [k2 a x y f (by omega), ko a x y f (by omega)])
        · exact hR.2.2.2.2.1.on (fun a x y f z => by unfold RFd at z; rw [k2 a x y f (by omega), ko a x y f (by omega)])
        · exact hR.2.2.2.2.2.1.on (fun a x y f z => by unfold RGd at z; rw [k2 a x y f (by omega), ko a x y f (by omega)])
        · exact hR.2.2.2.2.2.2.on (fun a x y f z => by unfold RHd at z; rw [k2 a x y f (by omega), ko a x y f (by omega)])