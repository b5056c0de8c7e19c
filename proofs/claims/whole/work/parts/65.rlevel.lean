/-! THE CLASS's READER: levels, the whole -/
set_option maxHeartbeats 800000 in
set_option maxRecDepth 100000 in
theorem mX1_level5 {l : Launch} {G : zG} {b : Nat} {M : zM} {B : Nat → Int32} {t w c k : Nat} {o : List Int32} {r : Lx ⊕ (Lx × List Int32)} (HP : zMet l G b yX1_piece cX1_piece 1 none (6 + 8 * (8 - c) + 2 * (8 - k)) zshL zshL [.ref (b + 205)] M (zV (rP B t w c k o M r))) : zMet l G b yX1_level cX1_level 5 none (12 + 8 * (8 - c) + 2 * (8 - k) - 5) zshL zshL [.ref (b + 205), .int (nI 5)] M (zV (rP B t w c k o M r)) := by
  refine zMet.of (L0 := [some (.ref (b + 205)), some (.int (nI 5)), none, none, none]) (by decide +kernel) (Nat.le_refl _) (Nat.le_refl _) (Nat.le_of_ble_eq_true rfl) (List.forall_mem_cons.mpr ⟨rfl, List.forall_mem_cons.mpr ⟨rfl, fun _ h => absurd h List.not_mem_nil⟩⟩) rfl (fun X C Al K => ?_)
  refine z_iload_n (pc := 0) C 1 dX1_level_0 rfl rfl ?_
  refine z_iconst (pc := 1) (v := 5) C dX1_level_1 rfl ?_
  refine z_icmp_lt (pc := 2) C 10 dX1_level_2 (by decide) (fun c2 => absurd c2 (by decide)) (fun c2 => ?_)
  refine z_aload_n (pc := 5) C 0 dX1_level_5 rfl rfl ?_
  refine z_callVv (pc := 6) C dX1_level_6 kX1_93 HP (by omega) sh_205 rfl rfl rfl (Nat.le_of_ble_eq_true rfl) (fun M6 h6 => ?_)
  refine z_return (pc := 9) C K dX1_level_9 ?_
  exact ⟨rfl, h6⟩

set_option maxHeartbeats 800000 in
set_option maxRecDepth 100000 in
theorem mX1_levelm {l : Launch} {G : zG} {b : Nat} {M : zM} {B : Nat → Int32} {t w f m c k : Nat} (IL : ∀ g, g ≤ f → LvH l G b B t w g) (hm : m < 5) {x : Lx} {o : List Int32} {r : Lx ⊕ (Lx × List Int32)} (hc8 : c ≤ 8) (hk8 : k ≤ 8) (hS : rS B t w M x c k o) (ho : o.length ≤ x.1) (hp : pP (ltc B w) (ladv B t) (f + 1) m c k x = some r) : zMet l G b yX1_level cX1_level 5 none (12 + 8 * (8 - c) + 2 * (8 - k) - m) zshL zshL [.ref (b + 205), .int (nI m)] M (zV (rP B t w c k o M r)) := by
  refine zMet.of (L0 := [some (.ref (b + 205)), some (.int (nI m)), none, none, none]) (by decide +kernel) (Nat.le_refl _) (Nat.le_refl _) (Nat.le_of_ble_eq_true rfl) (List.forall_mem_cons.mpr ⟨rfl, List.forall_mem_cons.mpr ⟨rfl, fun _ h => absurd h List.not_mem_nil⟩⟩) rfl (fun X C Al K => ?_)
  have hB : ∀ i, i < t → iin (B i) 0 255 := fun i hi => (hS.1.2.2 i hi).2
  have h96 := hS.1.2.1
  have T := tcOK_l h96 hB w
  have leaveF : ∀ (mo i : Int32) (v4 : Option Value) (M1 : zM), M1 21 0 0 6 = 1 → rP B t w c k o M r M1 → zW X zshL M1 31 [some (.ref (b + 205)), some (.int (nI m)), some (.int mo), some (.int i), v4] [] := by
    intro mo i v4 M1 h6 hq
    refine z_iload_n (pc := 31) C 3 dX1_level_31 rfl rfl ?_
    refine z_iload_n (pc := 32) C 2 dX1_level_32 rfl rfl ?_
    refine z_icmp_ge (pc := 33) C 90 dX1_level_33 (by decide) (fun c33 => ?_) (fun c33 => ?_)
    · refine z_return (pc := 90) C K dX1_level_90 ?_
      exact ⟨rfl, hq⟩
    · refine z_aload_n (pc := 36) C 0 dX1_level_36 rfl rfl ?_
      refine z_getI (pc := 37) C dX1_level_37 fX1_32 sh_205 rfl ?_
      rw [h6]
      refine z_if_ne (pc := 40) C 90 dX1_level_40 (by decide) (fun c40 => ?_) (fun c40 => absurd c40 (by decide))
      refine z_return (pc := 90) C K dX1_level_90 ?_
      exact ⟨rfl, hq⟩
  have leaveX : ∀ (mo i : Int32) (v4 : Option Value) (M1 : zM), mo ≤ i → rP B t w c k o M r M1 → zW X zshL M1 31 [some (.ref (b + 205)), some (.int (nI m)), some (.int mo), some (.int i), v4] [] := by
    intro mo i v4 M1 h6 hq
    refine z_iload_n (pc := 31) C 3 dX1_level_31 rfl rfl ?_
    refine z_iload_n (pc := 32) C 2 dX1_level_32 rfl rfl ?_
    refine z_icmp_ge (pc := 33) C 90 dX1_level_33 (by decide) (fun c33 => ?_) (fun c33 => absurd h6 c33)
    refine z_return (pc := 90) C K dX1_level_90 ?_
    exact ⟨rfl, hq⟩
  have loop : ∀ (g : Nat), g ≤ f → ∀ (i : Nat) (x1 : Lx) (o1 : List Int32) (r1 : Lx ⊕ (Lx × List Int32)) (v4 : Option Value) (M1 : zM), rS B t w M1 x1 c k o1 → o1.length ≤ x1.1 → i ≤ x1.1 → (m = 2 → i = 0) → pP (ltc B w) (ladv B t) g (10 + m) c k x1 = some r1 → frO M M1 → (∀ M2, frO M M2 → ((∃ z, r1 = .inl z ∧ rF B t M2 z c k) ∨ ∃ z l2, r1 = .inr (z, l2) ∧ rS B t w M2 z c k (o1 ++ l2)) → rP B t w c k o M r M2) → zW X zshL M1 31 [some (.ref (b + 205)), some (.int (nI m)), some (.int (if m = 2 then 1 else 96)), some (.int (nI i)), v4] [] := by
    intro g
    induction g with
    | zero =>
      intro hg i x1 o1 r1 v4 M1 hS1 ho1 hi hi2 hp1 hf1 fin
      cases hp1
    | succ g ih =>
      intro hg i x1 o1 r1 v4 M1 hS1 ho1 hi hi2 hp1 hf1 fin
      have hok := hS1.2.2.1.1
      have s3 : x1.2.2.1 ≤ 3 := by rw [hok.2.2.1]; exact tsrt_3 B t _
      have hlv := lvl_s (ky := w) hok hB
      have exit0 : ¬ lvl (ltc B w x1) = (m : Int) → rP B t w c k o M r M1 := by
        intro q
        rcases pP_t hm hp1 with ⟨-, e⟩ | ⟨q1, -⟩
        · exact fin M1 hf1 (Or.inr ⟨x1, [], e, by rw [List.append_nil]; exact hS1⟩)
        · exact absurd q1 q
      have isS : lvl (ltc B w x1) = (m : Int) → x1.2.2.1 = 3 := by
        intro q
        rcases Nat.lt_or_ge x1.2.2.1 3 with z | z
        · exfalso
          rw [hlv] at q
          have e : sgn B x1 = -1 := if_neg (by omega)
          rw [e, show lvb (-1) = -1 by decide] at q
          omega
        · omega
      by_cases hq : lvl (ltc B w x1) = (m : Int)
      · have h3 := isS hq
        have hlt := lOK_lt hok (by omega)
        have etc : 20000 + sgn B x1 = ltc B w x1 := by
          unfold sgn ltc
          rw [if_pos h3, if_neg (by omega), if_pos h3]
        have hne : ¬ ltc B w x1 = -1 := fun z => by
          have := (ltc_end (ky := w) hok hB).mpr z
          omega
        have hadv := T.2.1 x1 hok hne
        have hok2 := T.1 x1 hok
        have him : ¬ (if m = 2 then (1 : Int32) else 96) ≤ nI i := by
          by_cases z : m = 2
          · rw [if_pos z, hi2 z]; decide
          · rw [if_neg z]
            exact nI_ge (b := 96) (by omega) (by omega)
        obtain ⟨r', hp', hr'⟩ : ∃ r', pP (ltc B w) (ladv B t) g (m + 1) c k (ladv B t x1) = some r' ∧ ((∃ y, r' = .inl y ∧ r1 = .inl y) ∨ ∃ y l, r' = .inr (y, l) ∧ ((m = 2 ∧ r1 = .inr (y, l ++ [ltc B w x1])) ∨ (m ≠ 2 ∧ ((∃ z, pP (ltc B w) (ladv B t) g (10 + m) c k y = some (.inl z) ∧ r1 = .inl z) ∨ ∃ z l2, pP (ltc B w) (ladv B t) g (10 + m) c k y = some (.inr (z, l2)) ∧ r1 = .inr (z, l ++ ltc B w x1 :: l2))))) := by
          rcases pP_t hm hp1 with ⟨q1, -⟩ | ⟨-, ⟨y, h1, e⟩ | ⟨y, l2, h1, e⟩⟩
          · exact absurd hq q1
          · exact ⟨_, h1, Or.inl ⟨y, rfl, e⟩⟩
          · exact ⟨_, h1, Or.inr ⟨y, l2, rfl, e⟩⟩
        refine z_iload_n (pc := 31) C 3 dX1_level_31 rfl rfl ?_
        refine z_iload_n (pc := 32) C 2 dX1_level_32 rfl rfl ?_
        refine z_icmp_ge (pc := 33) C 90 dX1_level_33 (by decide) (fun c33 => absurd c33 him) (fun c33 => ?_)
        refine z_aload_n (pc := 36) C 0 dX1_level_36 rfl rfl ?_
        refine z_getI (pc := 37) C dX1_level_37 fX1_32 sh_205 rfl ?_
        rw [hS1.2.2.2.1]
        refine z_if_ne (pc := 40) C 90 dX1_level_40 (by decide) (fun c40 => absurd rfl c40) (fun c40 => ?_)
        refine z_aload_n (pc := 43) C 0 dX1_level_43 rfl rfl ?_
        refine z_callVi (pc := 44) C dX1_level_44 kX1_96 (mX1_sign hS1.1 hS1.2.1 hok) (by omega) sh_205 rfl rfl rfl (Nat.le_of_ble_eq_true rfl) (fun r44 M44 h44 => ?_)
        obtain ⟨rfl, e44⟩ := h44
        subst M44
        refine z_callSi (pc := 47) C dX1_level_47 kX1_99 mX1_levelOf (by omega) rfl rfl (Nat.le_of_ble_eq_true rfl) (fun r47 M47 h47 => ?_)
        obtain ⟨e47, e47b⟩ := h47
        subst M47
        refine z_iload_n (pc := 50) C 1 dX1_level_50 rfl rfl ?_
        refine z_icmp_ne (pc := 51) C 90 dX1_level_51 (by decide) (fun c51 => absurd (by rw [zi_eq, e47, ← hlv, hq, nI_toInt (by omega)]) c51) (fun c51 => ?_)
        refine z_aload_n (pc := 54) C 0 dX1_level_54 rfl rfl ?_
        refine z_callVi (pc := 55) C dX1_level_55 kX1_96 (mX1_sign hS1.1 hS1.2.1 hok) (by omega) sh_205 rfl rfl rfl (Nat.le_of_ble_eq_true rfl) (fun r55 M55 h55 => ?_)
        obtain ⟨rfl, e55⟩ := h55
        subst M55
        refine z_istore (pc := 58) C 4 dX1_level_58 (by decide) rfl ?_
        refine z_aload_n (pc := 60) C 0 dX1_level_60 rfl rfl ?_
        refine z_callVv (pc := 61) C dX1_level_61 kX1_51 (mX1_advance (B := B) (t := t) (x := x1) hS1.1 hS1.2.1 hS1.2.2.1.1.2.1 (by rw [hS1.2.2.1.1.2.2.1]; exact tsrt_3 B t _)) (by omega) sh_205 rfl rfl rfl (Nat.le_of_ble_eq_true rfl) (fun M61 h61 => ?_)
        have hS2 := hS1.adv h61.1 h61.2
        refine z_aload_n (pc := 64) C 0 dX1_level_64 rfl rfl ?_
        refine z_iload_n (pc := 65) C 1 dX1_level_65 rfl rfl ?_
        refine z_iconst (pc := 66) (v := 1) C dX1_level_66 rfl ?_
        refine z_iadd (pc := 67) C dX1_level_67 ?_
        rw [nI_1]
        refine z_callVv (pc := 68) C dX1_level_68 kX1_57 (IL g (by omega) (m + 1) c k _ o1 _ r' (by omega) hc8 hk8 hS2 (by omega) hp') (by omega) sh_205 rfl rfl rfl (Nat.le_of_ble_eq_true rfl) (fun M68 h68 => ?_)
        obtain ⟨g8, g7, n, hn96, hn⟩ := h68.nots
        refine z_aload_n (pc := 71) C 0 dX1_level_71 rfl rfl ?_
        refine z_getR (pc := 72) (r := adT 14) C dX1_level_72 fX1_12 sh_205 rfl ?_
        refine z_sipush (pc := 75) (v := 20000) C dX1_level_75 rfl ?_
        refine z_iload (pc := 78) C 4 dX1_level_78 rfl ?_
        refine z_iadd (pc := 80) C dX1_level_80 ?_
        rw [etc]
        refine z_callVv (pc := 81) C dX1_level_81 kX1_102 (mX5_add hn hn96) (by omega) (shT lt14_15) rfl rfl rfl (Nat.le_of_ble_eq_true rfl) (fun M81 h81 => ?_)
        refine z_iinc (pc := 84) (v := 1) C 3 dX1_level_84 (by decide) rfl rfl rfl ?_
        rw [nI_1]
        refine z_goto (pc := 87) C 31 dX1_level_87 (by decide) ?_
        have hfr := ((hf1.trans h61.2.o).trans h68.1).trans h81.1.o
        rcases h68.2 with ⟨y, e1, q⟩ | ⟨y, l2, e1, q⟩
        · have er : r1 = .inl y := by
            rcases hr' with ⟨y', e2, e3⟩ | ⟨y', l', e2, e3⟩
            · rw [e1] at e2; cases e2; exact e3
            · rw [e1] at e2; cases e2
          have q2 := q.add h81
          exact leaveF _ _ _ _ q2.2.2.1 (fin _ hfr (Or.inl ⟨y, er, q2⟩))
        · rw [e1] at hp'
          have pr := (pP_props T g).1 (m + 1) c k (ladv B t x1) y l2 (by omega) hp' hok2
          have y96 := T.2.2.1 y pr.1
          have q2 := q.add h81 (by rw [List.length_append]; omega)
          rcases hr' with ⟨y', e2, e3⟩ | ⟨y', l', e2, e3⟩
          · rw [e1] at e2; cases e2
          · rw [e1] at e2
            cases e2
            have hol : (o1 ++ l2 ++ [ltc B w x1]).length ≤ y.1 := by
              rw [List.length_append, List.length_append, List.length_singleton]
              omega
            rcases e3 with ⟨m2, e4⟩ | ⟨m2, ⟨z, h1, e4⟩ | ⟨z, l3, h1, e4⟩⟩
            · refine leaveX _ _ _ _ ?_ (fin _ hfr (Or.inr ⟨y, _, e4, by rw [← List.append_assoc]; exact q2⟩))
              rw [if_pos m2, hi2 m2]
              decide
            · exact ih (by omega) (i + 1) y _ _ _ _ q2 hol (by omega) (fun z => absurd z m2) h1 hfr (fun M2 hM2 hr2 => fin M2 hM2 (by
                rcases hr2 with ⟨z2, e5, q5⟩ | ⟨z2, l5, e5, q5⟩
                · cases e5
                  exact Or.inl ⟨z, e4, q5⟩
                · cases e5))
            · exact ih (by omega) (i + 1) y _ _ _ _ q2 hol (by omega) (fun z => absurd z m2) h1 hfr (fun M2 hM2 hr2 => fin M2 hM2 (by
                rcases hr2 with ⟨z2, e5, q5⟩ | ⟨z2, l5, e5, q5⟩
                · cases e5
                · cases e5
                  refine Or.inr ⟨z, _, e4, ?_⟩
                  have ea : o1 ++ (l2 ++ ltc B w x1 :: l3) = o1 ++ l2 ++ [ltc B w x1] ++ l3 := by simp
                  rw [ea]
                  exact q5))
      · refine z_iload_n (pc := 31) C 3 dX1_level_31 rfl rfl ?_
        refine z_iload_n (pc := 32) C 2 dX1_level_32 rfl rfl ?_
        refine z_icmp_ge (pc := 33) C 90 dX1_level_33 (by decide) (fun c33 => ?_) (fun c33 => ?_)
        · refine z_return (pc := 90) C K dX1_level_90 ?_
          exact ⟨rfl, exit0 hq⟩
        · refine z_aload_n (pc := 36) C 0 dX1_level_36 rfl rfl ?_
          refine z_getI (pc := 37) C dX1_level_37 fX1_32 sh_205 rfl ?_
          rw [hS1.2.2.2.1]
          refine z_if_ne (pc := 40) C 90 dX1_level_40 (by decide) (fun c40 => absurd rfl c40) (fun c40 => ?_)
          refine z_aload_n (pc := 43) C 0 dX1_level_43 rfl rfl ?_
          refine z_callVi (pc := 44) C dX1_level_44 kX1_96 (mX1_sign hS1.1 hS1.2.1 hok) (by omega) sh_205 rfl rfl rfl (Nat.le_of_ble_eq_true rfl) (fun r44 M44 h44 => ?_)
          obtain ⟨rfl, e44⟩ := h44
          subst M44
          refine z_callSi (pc := 47) C dX1_level_47 kX1_99 mX1_levelOf (by omega) rfl rfl (Nat.le_of_ble_eq_true rfl) (fun r47 M47 h47 => ?_)
          obtain ⟨e47, e47b⟩ := h47
          subst M47
          refine z_iload_n (pc := 50) C 1 dX1_level_50 rfl rfl ?_
          refine z_icmp_ne (pc := 51) C 90 dX1_level_51 (by decide) (fun c51 => ?_) (fun c51 => absurd (by rw [zi_eq, e47, ← hlv, nI_toInt (by omega)] at c51; exact c51) hq)
          refine z_return (pc := 90) C K dX1_level_90 ?_
          exact ⟨rfl, exit0 hq⟩
  obtain ⟨r0, hp0, hr0⟩ : ∃ r0, pP (ltc B w) (ladv B t) f (m + 1) c k x = some r0 ∧ ((∃ y, r0 = .inl y ∧ r = .inl y) ∨ ∃ y l, r0 = .inr (y, l) ∧ ((∃ z, pP (ltc B w) (ladv B t) f (10 + m) c k y = some (.inl z) ∧ r = .inl z) ∨ ∃ z l2, pP (ltc B w) (ladv B t) f (10 + m) c k y = some (.inr (z, l2)) ∧ r = .inr (z, l ++ l2))) := by
    rcases pP_l hm hp with ⟨y, h1, e⟩ | ⟨y, l2, h1, e⟩
    · exact ⟨_, h1, Or.inl ⟨y, rfl, e⟩⟩
    · exact ⟨_, h1, Or.inr ⟨y, l2, rfl, e⟩⟩
  refine z_iload_n (pc := 0) C 1 dX1_level_0 rfl rfl ?_
  refine z_iconst (pc := 1) (v := 5) C dX1_level_1 rfl ?_
  refine z_icmp_lt (pc := 2) C 10 dX1_level_2 (by decide) (fun c2 => ?_) (fun c2 => absurd (nI_lt (b := 5) hm (by omega)) c2)
  refine z_aload_n (pc := 10) C 0 dX1_level_10 rfl rfl ?_
  refine z_iload_n (pc := 11) C 1 dX1_level_11 rfl rfl ?_
  refine z_iconst (pc := 12) (v := 1) C dX1_level_12 rfl ?_
  refine z_iadd (pc := 13) C dX1_level_13 ?_
  rw [nI_1]
  refine z_callVv (pc := 14) C dX1_level_14 kX1_57 (IL f (Nat.le_refl _) (m + 1) c k x o _ r0 (by omega) hc8 hk8 hS ho hp0) (by omega) sh_205 rfl rfl rfl (Nat.le_of_ble_eq_true rfl) (fun M14 h14 => ?_)
  refine z_iload_n (pc := 17) C 1 dX1_level_17 rfl rfl ?_
  refine z_iconst (pc := 18) (v := 2) C dX1_level_18 rfl ?_
  refine z_icmp_ne (pc := 19) C 26 dX1_level_19 (by decide) (fun c19 => ?_) (fun c19 => ?_)
  · refine z_bipush (pc := 26) (v := 96) C dX1_level_26 rfl ?_
    refine z_istore_n (pc := 28) C 2 dX1_level_28 rfl (by decide) rfl ?_
    refine z_iconst (pc := 29) (v := 0) C dX1_level_29 rfl ?_
    refine z_istore_n (pc := 30) C 3 dX1_level_30 rfl (by decide) rfl ?_
    have hmo : (if m = 2 then (1 : Int32) else 96) = 96 := if_neg (fun z => c19 (by rw [z]; rfl))
    rcases h14.2 with ⟨y, e1, q⟩ | ⟨y, l2, e1, q⟩
    · have er : r = .inl y := by
        rcases hr0 with ⟨y', e2, e3⟩ | ⟨y', l', e2, e3⟩
        · rw [e1] at e2; cases e2; exact e3
        · rw [e1] at e2; cases e2
      exact leaveF _ _ _ _ q.2.2.1 ⟨h14.1, Or.inl ⟨y, er, q⟩⟩
    · rw [e1] at hp0
      have pr := (pP_props T f).1 (m + 1) c k x y l2 (by omega) hp0 hS.2.2.1.1
      have hol : (o ++ l2).length ≤ y.1 := by
        rw [List.length_append]
        omega
      rw [← hmo]
      rcases hr0 with ⟨y', e2, e3⟩ | ⟨y', l', e2, e3⟩
      · rw [e1] at e2; cases e2
      · rw [e1] at e2
        cases e2
        rcases e3 with ⟨z, h1, e4⟩ | ⟨z, l3, h1, e4⟩
        · exact loop f (Nat.le_refl _) 0 y (o ++ l2) _ _ _ q hol (Nat.zero_le _) (fun _ => rfl) h1 h14.1 (fun M2 hM2 hr2 => ⟨hM2, by
            rcases hr2 with ⟨z2, e5, q5⟩ | ⟨z2, l5, e5, q5⟩
            · cases e5
              exact Or.inl ⟨z, e4, q5⟩
            · cases e5⟩)
        · exact loop f (Nat.le_refl _) 0 y (o ++ l2) _ _ _ q hol (Nat.zero_le _) (fun _ => rfl) h1 h14.1 (fun M2 hM2 hr2 => ⟨hM2, by
            rcases hr2 with ⟨z2, e5, q5⟩ | ⟨z2, l5, e5, q5⟩
            · cases e5
            · cases e5
              refine Or.inr ⟨z, _, e4, ?_⟩
              rw [← List.append_assoc]
              exact q5⟩)
  · refine z_iconst (pc := 22) (v := 1) C dX1_level_22 rfl ?_
    refine z_goto (pc := 23) C 28 dX1_level_23 (by decide) ?_
    refine z_istore_n (pc := 28) C 2 dX1_level_28 rfl (by decide) rfl ?_
    refine z_iconst (pc := 29) (v := 0) C dX1_level_29 rfl ?_
    refine z_istore_n (pc := 30) C 3 dX1_level_30 rfl (by decide) rfl ?_
    have hmo : (if m = 2 then (1 : Int32) else 96) = 1 := if_pos ((nI_eq (b := 2) (by omega) (by omega)).mp c19)
    rcases h14.2 with ⟨y, e1, q⟩ | ⟨y, l2, e1, q⟩
    · have er : r = .inl y := by
        rcases hr0 with ⟨y', e2, e3⟩ | ⟨y', l', e2, e3⟩
        · rw [e1] at e2; cases e2; exact e3
        · rw [e1] at e2; cases e2
      exact leaveF _ _ _ _ q.2.2.1 ⟨h14.1, Or.inl ⟨y, er, q⟩⟩
    · rw [e1] at hp0
      have pr := (pP_props T f).1 (m + 1) c k x y l2 (by omega) hp0 hS.2.2.1.1
      have hol : (o ++ l2).length ≤ y.1 := by
        rw [List.length_append]
        omega
      rw [← hmo]
      rcases hr0 with ⟨y', e2, e3⟩ | ⟨y', l', e2, e3⟩
      · rw [e1] at e2; cases e2
      · rw [e1] at e2
        cases e2
        rcases e3 with ⟨z, h1, e4⟩ | ⟨z, l3, h1, e4⟩
        · exact loop f (Nat.le_refl _) 0 y (o ++ l2) _ _ _ q hol (Nat.zero_le _) (fun _ => rfl) h1 h14.1 (fun M2 hM2 hr2 => ⟨hM2, by
            rcases hr2 with ⟨z2, e5, q5⟩ | ⟨z2, l5, e5, q5⟩
            · cases e5
              exact Or.inl ⟨z, e4, q5⟩
            · cases e5⟩)
        · exact loop f (Nat.le_refl _) 0 y (o ++ l2) _ _ _ q hol (Nat.zero_le _) (fun _ => rfl) h1 h14.1 (fun M2 hM2 hr2 => ⟨hM2, by
            rcases hr2 with ⟨z2, e5, q5⟩ | ⟨z2, l5, e5, q5⟩
            · cases e5
            · cases e5
              refine Or.inr ⟨z, _, e4, ?_⟩
              rw [← List.append_assoc]
              exact q5⟩)

theorem reads_all {l : Launch} {G : zG} {b : Nat} {B : Nat → Int32} {t w : Nat} (hw : w < 3) : ∀ f : Nat, PcH l G b B t w f ∧ LvH l G b B t w f := by
  intro f
  induction f using Nat.strongRecOn with
  | _ f ih =>
    cases f with
    | zero => exact ⟨fun c k x o M r _ _ _ _ hp => (by cases hp), fun m c k x o M r _ _ _ _ _ hp => (by cases hp)⟩
    | succ f =>
      have P : PcH l G b B t w (f + 1) := fun c k x o M r hc hk hS ho hp => mX1_piece hw (ih f (Nat.lt_succ_self _)).1 (ih f (Nat.lt_succ_self _)).2 hc hk hS ho hp
      refine ⟨P, fun m c k x o M r hm hc hk hS ho hp => ?_⟩
      by_cases h5 : m = 5
      · subst h5
        exact mX1_level5 (P c k x o M r hc hk hS ho hp)
      · exact mX1_levelm (fun g hg => (ih g (by omega)).2) (by omega) hc hk hS ho hp
