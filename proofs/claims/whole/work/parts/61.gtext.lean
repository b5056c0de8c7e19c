/-! THE REFERENCE's READER: keys, texts -/
def kLen (w : Nat) : Nat := if w = 2 then 4 else 3
def kwm (B : Nat → Int32) (x : Lx) (w : Nat) : Prop := x.2.1 - x.1 = kLen w ∧ ∀ k, k < kLen w → B (x.1 + k) = kyA (3 * w + k)
theorem kLen_b (w : Nat) : 3 ≤ kLen w ∧ kLen w ≤ 4 := by
  unfold kLen
  split <;> omega
theorem kwm_tok {B : Nat → Int32} {t : Nat} {x : Lx} (hk : lOK B t x) (hgl : x.2.2.2 = 0) {w : Nat} (hw : w < 3) (h : kwm B x w) : tok x = 1 := by
  have hb := kLen_b w
  have h1 := h.1
  have h2 := h.2 0 (by omega)
  have hs : x.1 < t := by
    have := hk.2.1
    omega
  have h3 : tsrt B t x.1 = 1 := tsrt_1.mpr ⟨hs, by
    rw [Nat.add_zero] at h2
    rw [h2]
    rcases (show w = 0 ∨ w = 1 ∨ w = 2 by omega) with rfl | rfl | rfl <;> decide⟩
  rw [← hk.2.2.1] at h3
  unfold tok
  rw [if_neg (by omega), if_neg (by omega), if_neg (by omega), if_pos h3]
theorem kyB_len {w : Nat} (hw : w < 3) : kyB (w + 1) - kyB w = nI (kLen w) := by
  rcases (show w = 0 ∨ w = 1 ∨ w = 2 by omega) with rfl | rfl | rfl <;> decide
theorem kyB_of {w : Nat} (hw : w < 3) (k : Nat) : kyB w + nI k = nI (3 * w + k) := by
  rw [← nI_add]
  rcases (show w = 0 ∨ w = 1 ∨ w = 2 by omega) with rfl | rfl | rfl <;> rfl
def fK (M M' : zM) : Prop := ∀ a i j f, ¬ (a = 30 ∧ 8 ≤ f ∧ f ≤ 13) → M' a i j f = M a i j f
set_option maxHeartbeats 800000 in
set_option maxRecDepth 100000 in
theorem mX10_takesKey {l : Launch} {G : zG} {b : Nat} {M : zM} {B : Nat → Int32} {t : Nat} (hT : gtp M B t) {x : Lx} (hg : gst M B x) (hk : lOK B t x) (hgl : x.2.2.2 = 0) (h37 : ∀ k, k < 10 → M 37 0 0 k = kyA k) (h38 : ∀ k, k < 4 → M 38 0 0 k = kyB k) : zMet l G b yX10_takesKey cX10_takesKey 5 (some .boolean) 2 zshL zshL [.ref (b + 239)] M (zI (fun r M' => (∃ w, w < 3 ∧ kwm B x w ∧ (∀ v, v < w → ¬ kwm B x v) ∧ r = 1 ∧ gst M' B (ladv B t x) ∧ M' 30 0 0 13 = nI w ∧ fK M M') ∨ ((∀ w, w < 3 → ¬ kwm B x w) ∧ r = 0 ∧ M' = M))) := by
  refine zMet.of (L0 := [some (.ref (b + 239)), none, none, none, none]) (by decide +kernel) (Nat.le_refl _) (Nat.le_refl _) (Nat.le_of_ble_eq_true rfl) (List.forall_mem_cons.mpr ⟨rfl, fun _ h => absurd h List.not_mem_nil⟩) rfl (fun X C Al K => ?_)
  have h96 := hT.2.1
  have hx1 := hk.1
  have hx2 := hk.2.1
  obtain ⟨g9, g8, g10, g11, g11', ge⟩ := hg
  have esub : (nI x.2.1 - nI x.1).toInt = (x.2.1 - x.1 : Nat) := by
    rw [zi_sub (by rw [nI_toInt (by omega), nI_toInt (by omega)]; omega) (by rw [nI_toInt (by omega), nI_toInt (by omega)]; omega), nI_toInt (by omega), nI_toInt (by omega)]
    omega
  have loop : tok x = 1 → ∀ (d w : Nat), w + d = 3 → (∀ v, v < w → ¬ kwm B x v) → ∀ (q2 q3 q4 : Option Value), zW X zshL M 12 [some (.ref (b + 239)), some (.int (nI w)), q2, q3, q4] [] := by
    intro ht1 d
    have h1 := (tok_1 ht1).1
    induction d with
    | zero =>
      intro w hw hno q2 q3 q4
      obtain rfl : w = 3 := by omega
      refine z_iload_n (pc := 12) C 1 dX10_takesKey_12 rfl rfl ?_
      refine z_iconst (pc := 13) (v := 3) C dX10_takesKey_13 rfl ?_
      refine z_icmp_ge (pc := 14) C 127 dX10_takesKey_14 (by decide) (fun c14 => ?_) (fun c14 => absurd (by decide) c14)
      refine z_iconst (pc := 127) (v := 0) C dX10_takesKey_127 rfl ?_
      refine z_zreturn (pc := 128) C K dX10_takesKey_128 (Or.inl rfl) ?_
      exact ⟨_, rfl, Or.inr ⟨hno, rfl, rfl⟩⟩
    | succ d ih =>
      intro w hw hno q2 q3 q4
      have hw3 : w < 3 := by omega
      have hb := kLen_b w
      have eL : (nI (kLen w)).toInt = kLen w := nI_toInt (by omega)
      have next : ¬ kwm B x w → ∀ (q2 q3 q4 : Option Value), zW X zshL M 12 [some (.ref (b + 239)), some (.int (nI w + 1)), q2, q3, q4] [] := by
        intro hn q2 q3 q4
        have e := ih (w + 1) (by omega) (fun v hv => by
          by_cases z : v = w
          · rw [z]; exact hn
          · exact hno v (by omega)) q2 q3 q4
        rw [nI_succ w] at e
        exact e
      have nom : ¬ kwm B x w → ∀ (k : Nat), zW X zshL M 55 [some (.ref (b + 239)), some (.int (nI w)), some (.int (nI (kLen w))), some (.int 0), some (.int (nI k))] [] := by
        intro hn k
        refine z_iload (pc := 55) C 4 dX10_takesKey_55 rfl ?_
        refine z_iload_n (pc := 57) C 2 dX10_takesKey_57 rfl rfl ?_
        refine z_icmp_ge (pc := 58) C 106 dX10_takesKey_58 (by decide) (fun c58 => ?_) (fun c58 => ?_)
        · refine z_iload_n (pc := 106) C 3 dX10_takesKey_106 rfl rfl ?_
          refine z_if_eq (pc := 107) C 121 dX10_takesKey_107 (by decide) (fun c107 => ?_) (fun c107 => absurd c107 (by decide))
          refine z_iinc (pc := 121) (v := 1) C 1 dX10_takesKey_121 (by decide) rfl rfl rfl ?_
          refine z_goto (pc := 124) C 12 dX10_takesKey_124 (by decide) ?_
          exact next hn _ _ _
        · refine z_iload_n (pc := 61) C 3 dX10_takesKey_61 rfl rfl ?_
          refine z_if_eq (pc := 62) C 106 dX10_takesKey_62 (by decide) (fun c62 => ?_) (fun c62 => absurd c62 (by decide))
          refine z_iload_n (pc := 106) C 3 dX10_takesKey_106 rfl rfl ?_
          refine z_if_eq (pc := 107) C 121 dX10_takesKey_107 (by decide) (fun c107 => ?_) (fun c107 => absurd c107 (by decide))
          refine z_iinc (pc := 121) (v := 1) C 1 dX10_takesKey_121 (by decide) rfl rfl rfl ?_
          refine z_goto (pc := 124) C 12 dX10_takesKey_124 (by decide) ?_
          exact next hn _ _ _
      have inn : x.2.1 - x.1 = kLen w → ∀ (d k : Nat), k + d = kLen w → (∀ j, j < k → B (x.1 + j) = kyA (3 * w + j)) → zW X zshL M 55 [some (.ref (b + 239)), some (.int (nI w)), some (.int (nI (kLen w))), some (.int 1), some (.int (nI k))] [] := by
        intro hlen d
        induction d with
        | zero =>
          intro k hk' hm
          obtain rfl : k = kLen w := by omega
          refine z_iload (pc := 55) C 4 dX10_takesKey_55 rfl ?_
          refine z_iload_n (pc := 57) C 2 dX10_takesKey_57 rfl rfl ?_
          refine z_icmp_ge (pc := 58) C 106 dX10_takesKey_58 (by decide) (fun c58 => ?_) (fun c58 => absurd (Int32.le_refl _) c58)
          refine z_iload_n (pc := 106) C 3 dX10_takesKey_106 rfl rfl ?_
          refine z_if_eq (pc := 107) C 121 dX10_takesKey_107 (by decide) (fun c107 => absurd c107 (by decide)) (fun c107 => ?_)
          refine z_aload_n (pc := 110) C 0 dX10_takesKey_110 rfl rfl ?_
          refine z_iload_n (pc := 111) C 1 dX10_takesKey_111 rfl rfl ?_
          refine z_putII (pc := 112) C dX10_takesKey_112 fX10_230 sh_239 rfl ?_
          refine z_aload_n (pc := 115) C 0 dX10_takesKey_115 rfl rfl ?_
          refine z_callVv (pc := 116) C dX10_takesKey_116 kX10_233 (mX10_go (x := x) ⟨by rw [zu_f (by decide)]; exact hT.1, h96, fun i hi => by rw [zu_a (by decide)]; exact hT.2.2 i hi⟩ (by rw [zu_f (by decide)]; exact g8) hx2 (by have e := ge (by omega); unfold eInv at e ⊢; rw [zu_f (by decide)]; exact e)) (by decide) sh_239 rfl rfl rfl (Nat.le_of_ble_eq_true rfl) (fun M116 h116 => ?_)
          refine z_iconst (pc := 119) (v := 1) C dX10_takesKey_119 rfl ?_
          refine z_zreturn (pc := 120) C K dX10_takesKey_120 (Or.inr rfl) ?_
          obtain ⟨y1, y2⟩ := h116
          refine ⟨_, rfl, Or.inl ⟨w, hw3, ⟨hlen, hm⟩, hno, rfl, y1, ?_, fun a i j f z => ?_⟩⟩
          · rw [y2 30 0 0 13 (by omega), zu_self]
          · rw [y2 a i j f (fun q => z (by omega)), zu_ne _ _ (fun q => z (by omega))]
        | succ d ih2 =>
          intro k hk' hm
          have hlt : x.1 + k < t := by omega
          refine z_iload (pc := 55) C 4 dX10_takesKey_55 rfl ?_
          refine z_iload_n (pc := 57) C 2 dX10_takesKey_57 rfl rfl ?_
          refine z_icmp_ge (pc := 58) C 106 dX10_takesKey_58 (by decide) (fun c58 => absurd c58 (nI_ge (by omega) (by omega))) (fun c58 => ?_)
          refine z_iload_n (pc := 61) C 3 dX10_takesKey_61 rfl rfl ?_
          refine z_if_eq (pc := 62) C 106 dX10_takesKey_62 (by decide) (fun c62 => absurd c62 (by decide)) (fun c62 => ?_)
          refine z_aload_n (pc := 65) C 0 dX10_takesKey_65 rfl rfl ?_
          refine z_getR (pc := 66) (r := 245) C dX10_takesKey_66 fX10_25 sh_239 rfl ?_
          refine z_aload_n (pc := 69) C 0 dX10_takesKey_69 rfl rfl ?_
          refine z_getI (pc := 70) C dX10_takesKey_70 fX10_212 sh_239 rfl ?_
          refine z_iload (pc := 73) C 4 dX10_takesKey_73 rfl ?_
          refine z_iadd (pc := 75) C dX10_takesKey_75 ?_
          rw [g9, nI_add]
          refine z_iald (pc := 76) (n := x.1 + k) C dX10_takesKey_76 sh_245 (vp_in_nI (by omega) (by decide)) (nI_clamp (by omega)) ?_
          rw [(hT.2.2 (x.1 + k) hlt).1]
          refine z_aload_n (pc := 77) C 0 dX10_takesKey_77 rfl rfl ?_
          refine z_getR (pc := 78) (r := 246) C dX10_takesKey_78 fX10_28 sh_239 rfl ?_
          refine z_aload_n (pc := 81) C 0 dX10_takesKey_81 rfl rfl ?_
          refine z_getR (pc := 82) (r := 247) C dX10_takesKey_82 fX10_32 sh_239 rfl ?_
          refine z_iload_n (pc := 85) C 1 dX10_takesKey_85 rfl rfl ?_
          refine z_iald (pc := 86) (n := w) C dX10_takesKey_86 sh_247 (vp_in_nI (by omega) (by decide)) (nI_clamp (by omega)) ?_
          refine z_iload (pc := 87) C 4 dX10_takesKey_87 rfl ?_
          refine z_iadd (pc := 89) C dX10_takesKey_89 ?_
          rw [h38 w (by omega), kyB_of hw3]
          refine z_cald (pc := 90) (n := 3 * w + k) C dX10_takesKey_90 sh_246 (vp_in_nI (by omega) (by decide)) (nI_clamp (by omega)) ?_
          rw [h37 (3 * w + k) (by omega)]
          refine z_icmp_ne (pc := 91) C 98 dX10_takesKey_91 (by decide) (fun c91 => ?_) (fun c91 => ?_)
          · refine z_iconst (pc := 98) (v := 0) C dX10_takesKey_98 rfl ?_
            refine z_istore_n (pc := 99) C 3 dX10_takesKey_99 rfl (by decide) rfl ?_
            refine z_iinc (pc := 100) (v := 1) C 4 dX10_takesKey_100 (by decide) rfl rfl rfl ?_
            refine z_goto (pc := 103) C 55 dX10_takesKey_103 (by decide) ?_
            have e := nom (fun z => c91 (z.2 k (by omega))) (k + 1)
            rw [nI_succ k] at e
            exact e
          · refine z_iconst (pc := 94) (v := 1) C dX10_takesKey_94 rfl ?_
            refine z_goto (pc := 95) C 99 dX10_takesKey_95 (by decide) ?_
            refine z_istore_n (pc := 99) C 3 dX10_takesKey_99 rfl (by decide) rfl ?_
            refine z_iinc (pc := 100) (v := 1) C 4 dX10_takesKey_100 (by decide) rfl rfl rfl ?_
            refine z_goto (pc := 103) C 55 dX10_takesKey_103 (by decide) ?_
            have e := ih2 (k + 1) (by omega) (fun j hj => by
              by_cases z : j = k
              · rw [z]; exact c91
              · exact hm j (by omega))
            rw [nI_succ k] at e
            exact e
      refine z_iload_n (pc := 12) C 1 dX10_takesKey_12 rfl rfl ?_
      refine z_iconst (pc := 13) (v := 3) C dX10_takesKey_13 rfl ?_
      refine z_icmp_ge (pc := 14) C 127 dX10_takesKey_14 (by decide) (fun c14 => absurd c14 (nI_ge (b := 3) (by omega) (by omega))) (fun c14 => ?_)
      refine z_aload_n (pc := 17) C 0 dX10_takesKey_17 rfl rfl ?_
      refine z_getR (pc := 18) (r := 247) C dX10_takesKey_18 fX10_32 sh_239 rfl ?_
      refine z_iload_n (pc := 21) C 1 dX10_takesKey_21 rfl rfl ?_
      refine z_iconst (pc := 22) (v := 1) C dX10_takesKey_22 rfl ?_
      refine z_iadd (pc := 23) C dX10_takesKey_23 ?_
      rw [nI_1]
      refine z_iald (pc := 24) (n := w + 1) C dX10_takesKey_24 sh_247 (vp_in_nI (by omega) (by decide)) (nI_clamp (by omega)) ?_
      refine z_aload_n (pc := 25) C 0 dX10_takesKey_25 rfl rfl ?_
      refine z_getR (pc := 26) (r := 247) C dX10_takesKey_26 fX10_32 sh_239 rfl ?_
      refine z_iload_n (pc := 29) C 1 dX10_takesKey_29 rfl rfl ?_
      refine z_iald (pc := 30) (n := w) C dX10_takesKey_30 sh_247 (vp_in_nI (by omega) (by decide)) (nI_clamp (by omega)) ?_
      refine z_isub (pc := 31) C dX10_takesKey_31 ?_
      rw [h38 (w + 1) (by omega), h38 w (by omega), kyB_len hw3]
      refine z_istore_n (pc := 32) C 2 dX10_takesKey_32 rfl (by decide) rfl ?_
      refine z_iload_n (pc := 33) C 2 dX10_takesKey_33 rfl rfl ?_
      refine z_aload_n (pc := 34) C 0 dX10_takesKey_34 rfl rfl ?_
      refine z_getI (pc := 35) C dX10_takesKey_35 fX10_209 sh_239 rfl ?_
      refine z_aload_n (pc := 38) C 0 dX10_takesKey_38 rfl rfl ?_
      refine z_getI (pc := 39) C dX10_takesKey_39 fX10_212 sh_239 rfl ?_
      refine z_isub (pc := 42) C dX10_takesKey_42 ?_
      rw [g8, g9]
      refine z_icmp_ne (pc := 43) C 50 dX10_takesKey_43 (by decide) (fun c43 => ?_) (fun c43 => ?_)
      · refine z_iconst (pc := 50) (v := 0) C dX10_takesKey_50 rfl ?_
        refine z_istore_n (pc := 51) C 3 dX10_takesKey_51 rfl (by decide) rfl ?_
        refine z_iconst (pc := 52) (v := 0) C dX10_takesKey_52 rfl ?_
        refine z_istore (pc := 53) C 4 dX10_takesKey_53 (by decide) rfl ?_
        refine nom (fun z => c43 ?_) 0
        rw [zi_eq, eL, esub]
        have := z.1
        omega
      · refine z_iconst (pc := 46) (v := 1) C dX10_takesKey_46 rfl ?_
        refine z_goto (pc := 47) C 51 dX10_takesKey_47 (by decide) ?_
        refine z_istore_n (pc := 51) C 3 dX10_takesKey_51 rfl (by decide) rfl ?_
        refine z_iconst (pc := 52) (v := 0) C dX10_takesKey_52 rfl ?_
        refine z_istore (pc := 53) C 4 dX10_takesKey_53 (by decide) rfl ?_
        rw [zi_eq, eL, esub] at c43
        exact inn (by omega) (kLen w) 0 (by omega) (fun j hj => absurd hj (Nat.not_lt_zero _))
  refine z_aload_n (pc := 0) C 0 dX10_takesKey_0 rfl rfl ?_
  refine z_getI (pc := 1) C dX10_takesKey_1 fX10_218 sh_239 rfl ?_
  refine z_iconst (pc := 4) (v := 1) C dX10_takesKey_4 rfl ?_
  rw [g10]
  refine z_icmp_eq (pc := 5) C 10 dX10_takesKey_5 (by decide) (fun c5 => ?_) (fun c5 => ?_)
  · refine z_iconst (pc := 10) (v := 0) C dX10_takesKey_10 rfl ?_
    refine z_istore_n (pc := 11) C 1 dX10_takesKey_11 rfl (by decide) rfl ?_
    exact loop c5 3 0 (by omega) (fun v hv => absurd hv (Nat.not_lt_zero _)) none none none
  · refine z_iconst (pc := 8) (v := 0) C dX10_takesKey_8 rfl ?_
    refine z_zreturn (pc := 9) C K dX10_takesKey_9 (Or.inl rfl) ?_
    exact ⟨_, rfl, Or.inr ⟨fun w hw z => c5 (kwm_tok hk hgl hw z), rfl, rfl⟩⟩

/-- what reading the tape comes to: a fault at a place, or a key and codes -/
def tF (B : Nat → Int32) (t : Nat) (x : Lx) (R : Nat → Lx ⊕ (Lx × List Int32)) (q : Nat) : Prop := ((∀ w, w < 3 → ¬ kwm B x w) ∧ q = x.1) ∨ ∃ w, w < 3 ∧ kwm B x w ∧ (∀ v, v < w → ¬ kwm B x v) ∧ ∃ y, ebad (ltc B w) (R w) y ∧ q = y.1
def tG (B : Nat → Int32) (x : Lx) (R : Nat → Lx ⊕ (Lx × List Int32)) (w : Nat) (l : List Int32) : Prop := w < 3 ∧ kwm B x w ∧ (∀ v, v < w → ¬ kwm B x v) ∧ egood (ltc B w) (R w) l
theorem tcOK_l {B : Nat → Int32} {t : Nat} (h96 : t ≤ 96) (hB : ∀ i, i < t → iin (B i) 0 255) (ky : Nat) : tcOK (lOK B t) ky (ltc B ky) (ladv B t) := by
  refine ⟨fun x hx => (ladv_ok hx.2.1).1, fun x hx hne => (ladv_lt hx (fun z => hne ((ltc_end hx hB).mp z))).2, fun x hx => ?_, fun x hx hp => ?_⟩
  · have := hx.1
    have := hx.2.1
    omega
  · have h3 : ¬ x.2.2.1 = 3 := fun z => by
      have cz : (20000 : Int32).toInt = 20000 := by decide
      have hb := hB _ (lOK_lt hx (by omega))
      unfold iin at hb
      have h2 := hp.2
      unfold ltc at h2
      rw [if_neg (by omega), if_pos z, zi_lt, zi_add (by rw [cz]; omega) (by rw [cz]; omega), cz] at h2
      omega
    exact (ltc_lo hx hB h3).2
theorem pP_R {B : Nat → Int32} {t : Nat} (h96 : t ≤ 96) (hB : ∀ i, i < t → iin (B i) 0 255) {x : Lx} (hx : lOK B t x) : ∃ R : Nat → Lx ⊕ (Lx × List Int32), ∀ w, pP (ltc B w) (ladv B t) 2000 0 0 0 x = some (R w) := by
  have e : ∀ w, ∃ r, pP (ltc B w) (ladv B t) 2000 0 0 0 x = some r := fun w => pP_ends (tcOK_l h96 hB w) 2000 0 0 0 x (Or.inl (by decide)) hx (by rw [if_pos (by decide)]; omega)
  obtain ⟨R, hR⟩ := Classical.axiomOfChoice e
  exact ⟨R, hR⟩
def l0 (B : Nat → Int32) (t : Nat) : Lx := ladv B t (0, 0, 0, 0)
theorem l0_ok {B : Nat → Int32} {t : Nat} : lOK B t (l0 B t) := (ladv_ok (Nat.zero_le _)).1
theorem l0_gl {B : Nat → Int32} {t : Nat} : (l0 B t).2.2.2 = 0 := by
  show (if ((0 : Nat) = 1 ∨ (0 : Nat) = 2) ∧ lskip B (t - 0) 0 = 0 ∧ (tsrt B t (lskip B (t - 0) 0) = 1 ∨ tsrt B t (lskip B (t - 0) 0) = 2) then 1 else 0) = 0
  exact if_neg (fun z => by rcases z.1 with h | h <;> exact absurd h (by decide))
theorem l1_ok {B : Nat → Int32} {t w : Nat} (h : kwm B (l0 B t) w) : lOK B t (ladv B t (l0 B t)) ∧ 3 ≤ (ladv B t (l0 B t)).1 := by
  have e := ladv_ok (B := B) (x := l0 B t) (l0_ok (t := t)).2.1
  have h1 := h.1
  have h2 := kLen_b w
  exact ⟨e.1, by omega⟩
def gAdd (M : zM) (T w : Nat) (l : List Int32) : zM := zu (zpt (zu (zu M 31 0 0 (65 + 2 * T) (nI (1000 * w + l.length))) 31 0 0 (66 + 2 * T) (nI (cntA (l.map tr)))) 31 (93 + 96 * T) l.length (fun i => (l.map tr).getD i 0)) 31 0 0 8 (nI (T + 1))
def Gtext (B : Nat → Int32) (t : Nat) (R : Nat → Lx ⊕ (Lx × List Int32)) (T : Nat) (M : zM) (r : Int32) (M' : zM) : Prop := (∃ q, tF B t (l0 B t) R q ∧ r = -100 - nI q ∧ zSc (zu M 30 0 0 7 0) M') ∨ ∃ w l, tG B (l0 B t) R w l ∧ ((T = 14 ∧ r = -1000000003 ∧ zSc (zu M 30 0 0 7 0) M') ∨ (T < 14 ∧ r = nI T ∧ ∃ M1, zSc (zu M 30 0 0 7 0) M1 ∧ M' = gAdd M1 T w l))
theorem fK.z {M M' : zM} (h : fK M M') : zSc M M' := fun a x y f z => h a x y f (fun q => z (by unfold scr; omega))
theorem zSc.zu7 {M M' : zM} (h : zSc M M') : zSc (zu M 30 0 0 7 0) (zu M' 30 0 0 7 0) := fun a x y f z => by
  by_cases q : a = 30 ∧ x = 0 ∧ y = 0 ∧ f = 7
  · obtain ⟨rfl, rfl, rfl, rfl⟩ := q
    rw [zu_self, zu_self]
  · rw [zu_ne _ _ q, zu_ne _ _ q]
    exact h a x y f z
set_option maxHeartbeats 800000 in
set_option maxRecDepth 100000 in
theorem mX10_text {l : Launch} {G : zG} {b : Nat} {M : zM} {B : Nat → Int32} {t : Nat} (hT : gtp M B t) (h37 : ∀ k, k < 10 → M 37 0 0 k = kyA k) (h38 : ∀ k, k < 4 → M 38 0 0 k = kyB k) {R : Nat → Lx ⊕ (Lx × List Int32)} (hR : ∀ w, pP (ltc B w) (ladv B t) 2000 0 0 0 (ladv B t (l0 B t)) = some (R w)) {T : Nat} (h8 : M 31 0 0 8 = nI T) (hT14 : T ≤ 14) : zMet l G b yX10_text cX10_text 4 (some .int) 4 zshL zshL [.ref (b + 239)] M (zI (Gtext B t R T M)) := by
  refine zMet.of (L0 := [some (.ref (b + 239)), none, none, none]) (by decide +kernel) (Nat.le_refl _) (Nat.le_refl _) (Nat.le_of_ble_eq_true rfl) (List.forall_mem_cons.mpr ⟨rfl, fun _ h => absurd h List.not_mem_nil⟩) rfl (fun X C Al K => ?_)
  have h96 := hT.2.1
  have hB : ∀ i, i < t → iin (B i) 0 255 := fun i hi => (hT.2.2 i hi).2
  have fail : ∀ (M1 : zM) (q : Nat), tF B t (l0 B t) R q → M1 30 0 0 9 = nI q → zSc M M1 → zW X zshL M1 34 [some (.ref (b + 239)), some (.int 0), none, none] [] := by
    intro M1 q hq g9 hs
    refine z_aload_n (pc := 34) C 0 dX10_text_34 rfl rfl ?_
    refine z_iconst (pc := 35) (v := 0) C dX10_text_35 rfl ?_
    refine z_putII (pc := 36) C dX10_text_36 fX10_205 sh_239 rfl ?_
    refine z_iload_n (pc := 39) C 1 dX10_text_39 rfl rfl ?_
    refine z_if_ne (pc := 40) C 51 dX10_text_40 (by decide) (fun c40 => absurd c40 (by decide)) (fun c40 => ?_)
    refine z_bipush (pc := 43) (v := -100) C dX10_text_43 rfl ?_
    refine z_aload_n (pc := 45) C 0 dX10_text_45 rfl rfl ?_
    refine z_getI (pc := 46) C dX10_text_46 fX10_212 sh_239 rfl ?_
    rw [zu_f (by decide), g9]
    refine z_isub (pc := 49) C dX10_text_49 ?_
    refine z_ireturn (pc := 50) C K dX10_text_50 ?_
    exact ⟨_, rfl, Or.inl ⟨q, hq, rfl, hs.zu7⟩⟩
  have good : ∀ (M1 : zM) (w : Nat) (l : List Int32), tG B (l0 B t) R w l → gO M1 (l.map tr) → M1 30 0 0 18 = nI (cntA (l.map tr)) → M1 30 0 0 13 = nI w → zSc M M1 → zW X zshL M1 34 [some (.ref (b + 239)), some (.int 1), none, none] [] := by
    intro M1 w l hG hO hA hw hs
    have hG' := hG
    obtain ⟨hw3, hkw, -, y, hy, -⟩ := hG'
    have hl1 := l1_ok hkw
    have hr := hR w
    rw [hy] at hr
    have hprops := (pP_props (tcOK_l h96 hB w) 2000).1 0 0 0 _ y l (by decide) hr hl1.1
    have hy96 : y.1 ≤ t := by
      have := hprops.1.1
      have := hprops.1.2.1
      omega
    have hll : l.length + 3 ≤ 96 := by
      have := hprops.2.1
      omega
    have hlm : (l.map tr).length = l.length := List.length_map _
    have h17 : M1 30 0 0 17 = nI l.length := by rw [hO.1, hlm]
    have k8 : M1 31 0 0 8 = nI T := by rw [hs 31 0 0 8 (by unfold scr; omega)]; exact h8
    have loop : T < 14 → ∀ (d k : Nat), k + d = l.length → zW X zshL (zpt (zu (zu (zu M1 30 0 0 7 0) 31 0 0 (65 + 2 * T) (nI (1000 * w + l.length))) 31 0 0 (66 + 2 * T) (nI (cntA (l.map tr)))) 31 (93 + 96 * T) k (fun i => (l.map tr).getD i 0)) 117 [some (.ref (b + 239)), some (.int 1), some (.int (nI T)), some (.int (nI k))] [] := by
      intro hT' d
      have c17 : ∀ k, zpt (zu (zu (zu M1 30 0 0 7 0) 31 0 0 (65 + 2 * T) (nI (1000 * w + l.length))) 31 0 0 (66 + 2 * T) (nI (cntA (l.map tr)))) 31 (93 + 96 * T) k (fun i => (l.map tr).getD i 0) 30 0 0 17 = nI l.length := fun k => by
        rw [zpt_a (by decide), zu_a (by decide), zu_a (by decide), zu_f (by decide)]
        exact h17
      induction d with
      | zero =>
        intro k hk
        obtain rfl : k = l.length := by omega
        refine z_iload_n (pc := 117) C 3 dX10_text_117 rfl rfl ?_
        refine z_aload_n (pc := 118) C 0 dX10_text_118 rfl rfl ?_
        refine z_getI (pc := 119) C dX10_text_119 fX10_242 sh_239 rfl ?_
        rw [c17]
        refine z_icmp_ge (pc := 122) C 151 dX10_text_122 (by decide) (fun c122 => ?_) (fun c122 => absurd (Int32.le_refl _) c122)
        refine z_aload_n (pc := 151) C 0 dX10_text_151 rfl rfl ?_
        refine z_getR (pc := 152) (r := 240) C dX10_text_152 fX10_9 sh_239 rfl ?_
        refine z_bipush (pc := 155) (v := 8) C dX10_text_155 rfl ?_
        refine z_dup2 (pc := 157) C dX10_text_157 rfl rfl ?_
        refine z_iald (pc := 158) (n := 8) C dX10_text_158 sh_240 (zi_in.mpr (by decide)) rfl ?_
        refine z_iconst (pc := 159) (v := 1) C dX10_text_159 rfl ?_
        refine z_iadd (pc := 160) C dX10_text_160 ?_
        rw [zpt_o (by omega), zu_f (by omega), zu_f (by omega), zu_a (by decide), k8, nI_1]
        refine z_iast (pc := 161) (n := 8) C dX10_text_161 sh_240 (zi_in.mpr (by decide)) rfl ?_
        refine z_iload_n (pc := 162) C 2 dX10_text_162 rfl rfl ?_
        refine z_ireturn (pc := 163) C K dX10_text_163 ?_
        exact ⟨_, rfl, Or.inr ⟨w, l, hG, Or.inr ⟨hT', rfl, zu M1 30 0 0 7 0, hs.zu7, rfl⟩⟩⟩
      | succ d ih =>
        intro k hk
        have c39 : zpt (zu (zu (zu M1 30 0 0 7 0) 31 0 0 (65 + 2 * T) (nI (1000 * w + l.length))) 31 0 0 (66 + 2 * T) (nI (cntA (l.map tr)))) 31 (93 + 96 * T) k (fun i => (l.map tr).getD i 0) 39 0 0 k = (l.map tr).getD k 0 := by
          rw [zpt_a (by decide), zu_a (by decide), zu_a (by decide), zu_a (by decide)]
          rw [hO.2 k ((l.map tr).getD k 0)]
          rw [List.getD_eq_getElem?_getD, List.getElem?_eq_getElem (by omega)]
          rfl
        refine z_iload_n (pc := 117) C 3 dX10_text_117 rfl rfl ?_
        refine z_aload_n (pc := 118) C 0 dX10_text_118 rfl rfl ?_
        refine z_getI (pc := 119) C dX10_text_119 fX10_242 sh_239 rfl ?_
        rw [c17]
        refine z_icmp_ge (pc := 122) C 151 dX10_text_122 (by decide) (fun c122 => absurd c122 (nI_ge (by omega) (by omega))) (fun c122 => ?_)
        refine z_aload_n (pc := 125) C 0 dX10_text_125 rfl rfl ?_
        refine z_getR (pc := 126) (r := 240) C dX10_text_126 fX10_9 sh_239 rfl ?_
        refine z_bipush (pc := 129) (v := 93) C dX10_text_129 rfl ?_
        refine z_bipush (pc := 131) (v := 96) C dX10_text_131 rfl ?_
        refine z_iload_n (pc := 133) C 2 dX10_text_133 rfl rfl ?_
        refine z_imul (pc := 134) C dX10_text_134 ?_
        refine z_iadd (pc := 135) C dX10_text_135 ?_
        refine z_iload_n (pc := 136) C 3 dX10_text_136 rfl rfl ?_
        refine z_iadd (pc := 137) C dX10_text_137 ?_
        rw [show (93 : Int32) + 96 * nI T + nI k = nI (93 + 96 * T + k) from by show nI 93 + nI 96 * nI T + nI k = _; rw [nI_mul, nI_add, nI_add]]
        refine z_aload_n (pc := 138) C 0 dX10_text_138 rfl rfl ?_
        refine z_getR (pc := 139) (r := 248) C dX10_text_139 fX10_35 sh_239 rfl ?_
        refine z_iload_n (pc := 142) C 3 dX10_text_142 rfl rfl ?_
        refine z_iald (pc := 143) (n := k) C dX10_text_143 sh_248 (vp_in_nI (by omega) (by decide)) (nI_clamp (by omega)) ?_
        rw [c39]
        refine z_iast (pc := 144) (n := 93 + 96 * T + k) C dX10_text_144 sh_240 (vp_in_nI (by omega) (by decide)) (nI_clamp (by omega)) ?_
        refine z_iinc (pc := 145) (v := 1) C 3 dX10_text_145 (by decide) rfl rfl rfl ?_
        refine z_goto (pc := 148) C 117 dX10_text_148 (by decide) ?_
        have e := ih (k + 1) (by omega)
        rw [nI_succ k, ← zpt_s (lo := 93 + 96 * T) (i := k) (k := 93 + 96 * T + k) (g := fun i => (l.map tr).getD i 0) rfl rfl] at e
        exact e
    have e8 : zu M1 30 0 0 7 0 31 0 0 8 = nI T := by rw [zu_a (by decide)]; exact k8
    have eT : (nI T).toInt = T := nI_toInt (by omega)
    have c14' : (14 : Int32).toInt = 14 := by decide
    refine z_aload_n (pc := 34) C 0 dX10_text_34 rfl rfl ?_
    refine z_iconst (pc := 35) (v := 0) C dX10_text_35 rfl ?_
    refine z_putII (pc := 36) C dX10_text_36 fX10_205 sh_239 rfl ?_
    refine z_iload_n (pc := 39) C 1 dX10_text_39 rfl rfl ?_
    refine z_if_ne (pc := 40) C 51 dX10_text_40 (by decide) (fun c40 => ?_) (fun c40 => absurd c40 (by decide))
    refine z_aload_n (pc := 51) C 0 dX10_text_51 rfl rfl ?_
    refine z_getR (pc := 52) (r := 240) C dX10_text_52 fX10_9 sh_239 rfl ?_
    refine z_bipush (pc := 55) (v := 8) C dX10_text_55 rfl ?_
    refine z_iald (pc := 57) (n := 8) C dX10_text_57 sh_240 (zi_in.mpr (by decide)) rfl ?_
    refine z_bipush (pc := 58) (v := 14) C dX10_text_58 rfl ?_
    rw [e8]
    refine z_icmp_ne (pc := 60) C 66 dX10_text_60 (by decide) (fun c60 => ?_) (fun c60 => ?_)
    · have hT' : T < 14 := by
        rw [zi_eq, eT, c14'] at c60
        omega
      refine z_aload_n (pc := 66) C 0 dX10_text_66 rfl rfl ?_
      refine z_getR (pc := 67) (r := 240) C dX10_text_67 fX10_9 sh_239 rfl ?_
      refine z_bipush (pc := 70) (v := 8) C dX10_text_70 rfl ?_
      refine z_iald (pc := 72) (n := 8) C dX10_text_72 sh_240 (zi_in.mpr (by decide)) rfl ?_
      rw [e8]
      refine z_istore_n (pc := 73) C 2 dX10_text_73 rfl (by decide) rfl ?_
      refine z_aload_n (pc := 74) C 0 dX10_text_74 rfl rfl ?_
      refine z_getR (pc := 75) (r := 240) C dX10_text_75 fX10_9 sh_239 rfl ?_
      refine z_bipush (pc := 78) (v := 65) C dX10_text_78 rfl ?_
      refine z_iconst (pc := 80) (v := 2) C dX10_text_80 rfl ?_
      refine z_iload_n (pc := 81) C 2 dX10_text_81 rfl rfl ?_
      refine z_imul (pc := 82) C dX10_text_82 ?_
      refine z_iadd (pc := 83) C dX10_text_83 ?_
      rw [show (65 : Int32) + 2 * nI T = nI (65 + 2 * T) from by show nI 65 + nI 2 * nI T = _; rw [nI_mul, nI_add]]
      refine z_sipush (pc := 84) (v := 1000) C dX10_text_84 rfl ?_
      refine z_aload_n (pc := 87) C 0 dX10_text_87 rfl rfl ?_
      refine z_getI (pc := 88) C dX10_text_88 fX10_230 sh_239 rfl ?_
      refine z_imul (pc := 91) C dX10_text_91 ?_
      refine z_aload_n (pc := 92) C 0 dX10_text_92 rfl rfl ?_
      refine z_getI (pc := 93) C dX10_text_93 fX10_242 sh_239 rfl ?_
      refine z_iadd (pc := 96) C dX10_text_96 ?_
      rw [zu_f (by decide), hw, zu_f (by decide), h17, show (1000 : Int32) * nI w + nI l.length = nI (1000 * w + l.length) from by show nI 1000 * nI w + nI l.length = _; rw [nI_mul, nI_add]]
      refine z_iast (pc := 97) (n := 65 + 2 * T) C dX10_text_97 sh_240 (vp_in_nI (by omega) (by decide)) (nI_clamp (by omega)) ?_
      refine z_aload_n (pc := 98) C 0 dX10_text_98 rfl rfl ?_
      refine z_getR (pc := 99) (r := 240) C dX10_text_99 fX10_9 sh_239 rfl ?_
      refine z_bipush (pc := 102) (v := 65) C dX10_text_102 rfl ?_
      refine z_iconst (pc := 104) (v := 2) C dX10_text_104 rfl ?_
      refine z_iload_n (pc := 105) C 2 dX10_text_105 rfl rfl ?_
      refine z_imul (pc := 106) C dX10_text_106 ?_
      refine z_iadd (pc := 107) C dX10_text_107 ?_
      refine z_iconst (pc := 108) (v := 1) C dX10_text_108 rfl ?_
      refine z_iadd (pc := 109) C dX10_text_109 ?_
      rw [show (65 : Int32) + 2 * nI T = nI (65 + 2 * T) from by show nI 65 + nI 2 * nI T = _; rw [nI_mul, nI_add], nI_1, show 65 + 2 * T + 1 = 66 + 2 * T by omega]
      refine z_aload_n (pc := 110) C 0 dX10_text_110 rfl rfl ?_
      refine z_getI (pc := 111) C dX10_text_111 fX10_248 sh_239 rfl ?_
      rw [zu_a (by decide), zu_f (by decide), hA]
      refine z_iast (pc := 114) (n := 66 + 2 * T) C dX10_text_114 sh_240 (vp_in_nI (by omega) (by decide)) (nI_clamp (by omega)) ?_
      refine z_iconst (pc := 115) (v := 0) C dX10_text_115 rfl ?_
      refine z_istore_n (pc := 116) C 3 dX10_text_116 rfl (by decide) rfl ?_
      have e := loop hT' l.length 0 (Nat.zero_add _)
      rw [zpt_0] at e
      exact e
    · refine z_ldc (pc := 63) C q5_49 dX10_text_63 ?_
      refine z_ireturn (pc := 65) C K dX10_text_65 ?_
      rw [zi_eq, eT, c14'] at c60
      exact ⟨_, rfl, Or.inr ⟨w, l, hG, Or.inl ⟨by omega, rfl, hs.zu7⟩⟩⟩
  refine z_aload_n (pc := 0) C 0 dX10_text_0 rfl rfl ?_
  refine z_iconst (pc := 1) (v := 0) C dX10_text_1 rfl ?_
  refine z_putII (pc := 2) C dX10_text_2 fX10_209 sh_239 rfl ?_
  refine z_aload_n (pc := 5) C 0 dX10_text_5 rfl rfl ?_
  refine z_iconst (pc := 6) (v := -1) C dX10_text_6 rfl ?_
  refine z_putII (pc := 7) C dX10_text_7 fX10_215 sh_239 rfl ?_
  refine z_aload_n (pc := 10) C 0 dX10_text_10 rfl rfl ?_
  refine z_callVv (pc := 11) C dX10_text_11 kX10_233 (mX10_go (x := (0, 0, 0, 0)) ⟨by rw [zu_f (by decide), zu_f (by decide)]; exact hT.1, h96, fun i hi => by rw [zu_a (by decide), zu_a (by decide)]; exact hT.2.2 i hi⟩ (by rw [zu_f (by decide), zu_self]; rfl) (Nat.zero_le _) (Or.inr ⟨fun z => by rcases z with z | z <;> exact absurd z (by decide), Or.inl (by rw [zu_self])⟩)) (by decide) sh_239 rfl rfl rfl (Nat.le_of_ble_eq_true rfl) (fun M11 h11 => ?_)
  obtain ⟨y1, y2⟩ := h11
  replace y1 : gst M11 B (l0 B t) := y1
  have f1 : fg M M11 := fun a i j f z => by rw [y2 a i j f z, zu_ne _ _ (fun q => z (by omega)), zu_ne _ _ (fun q => z (by omega))]
  have hT1 := hT.on f1
  refine z_aload_n (pc := 14) C 0 dX10_text_14 rfl rfl ?_
  refine z_callVi (pc := 15) C dX10_text_15 kX10_263 (mX10_takesKey hT1 y1 l0_ok l0_gl (fun k hk => by rw [f1 37 0 0 k (by omega)]; exact h37 k hk) (fun k hk => by rw [f1 38 0 0 k (by omega)]; exact h38 k hk)) (by decide) sh_239 rfl rfl rfl (Nat.le_of_ble_eq_true rfl) (fun r15 M15 h15 => ?_)
  refine z_if_eq (pc := 18) C 32 dX10_text_18 (by decide) (fun c18 => ?_) (fun c18 => ?_)
  · refine z_iconst (pc := 32) (v := 0) C dX10_text_32 rfl ?_
    refine z_istore_n (pc := 33) C 1 dX10_text_33 rfl (by decide) rfl ?_
    rcases h15 with ⟨w, -, -, -, h, -⟩ | ⟨w1, -, e15⟩
    · exact absurd (h.symm.trans c18) (by decide)
    · subst M15
      exact fail M11 (l0 B t).1 (Or.inl ⟨w1, rfl⟩) y1.1 f1.p.e.z
  · obtain ⟨w, w1, w2, w3, w4, w5, w6, w7⟩ : ∃ w, w < 3 ∧ kwm B (l0 B t) w ∧ (∀ v, v < w → ¬ kwm B (l0 B t) v) ∧ r15 = 1 ∧ gst M15 B (ladv B t (l0 B t)) ∧ M15 30 0 0 13 = nI w ∧ fK M11 M15 := by
      rcases h15 with h | ⟨-, h, -⟩
      · exact h
      · exact absurd h c18
    have hl1 := l1_ok w2
    have hT2 : gtp M15 B t := ⟨by rw [w7 30 0 0 7 (by omega)]; exact hT1.1, h96, fun i hi => by rw [w7 36 0 0 i (by omega)]; exact hT1.2.2 i hi⟩
    have hsc : zSc M M15 := f1.p.e.z.trans w7.z
    refine z_aload_n (pc := 21) C 0 dX10_text_21 rfl rfl ?_
    refine z_callVi (pc := 22) C dX10_text_22 kX10_266 (mX10_takesE hT2 w6 w1 hl1.1 hl1.2 w5 (hR w)) (by decide) sh_239 rfl rfl rfl (Nat.le_of_ble_eq_true rfl) (fun r22 M22 h22 => ?_)
    refine z_if_eq (pc := 25) C 32 dX10_text_25 (by decide) (fun c25 => ?_) (fun c25 => ?_)
    · refine z_iconst (pc := 32) (v := 0) C dX10_text_32 rfl ?_
      refine z_istore_n (pc := 33) C 1 dX10_text_33 rfl (by decide) rfl ?_
      obtain ⟨h22, f22⟩ := h22
      rcases h22 with ⟨y, z1, -, z3⟩ | ⟨l, -, z2, -⟩
      · exact fail M22 y.1 (Or.inr ⟨w, w1, w2, w3, y, z1, rfl⟩) z3 (hsc.trans f22.z)
      · exact absurd (z2.symm.trans c25) (by decide)
    · refine z_iconst (pc := 28) (v := 1) C dX10_text_28 rfl ?_
      refine z_goto (pc := 29) C 33 dX10_text_29 (by decide) ?_
      refine z_istore_n (pc := 33) C 1 dX10_text_33 rfl (by decide) rfl ?_
      obtain ⟨h22, f22⟩ := h22
      rcases h22 with ⟨y, z1, z2, z3⟩ | ⟨l, z1, z2, z3, z4⟩
      · exact absurd z2 c25
      · exact good M22 w l ⟨w1, w2, w3, z1⟩ z3 z4 (by rw [f22 30 0 0 13 (by omega)]; exact w6) (hsc.trans f22.z)
