/-! THE CLASS's READER: levels and pieces -/
def lG (x : Lx) : Prop := x.2.2.2 = 1 → x.2.2.1 = 1 ∨ x.2.2.1 = 2
theorem lG_adv (B : Nat → Int32) (t : Nat) (x : Lx) : lG (ladv B t x) := by
  unfold lG ladv
  intro h
  split at h
  · rename_i q
    exact q.2.2
  · cases h
def frO (M M' : zM) : Prop := ∀ a i j f, ¬ ((a = 21 ∧ 2 ≤ f) ∨ (a = 8 ∧ i = 14 ∧ f ≠ 0) ∨ (a = 9 ∧ i = 14)) → M' a i j f = M a i j f
theorem frO.rfl' {M : zM} : frO M M := fun _ _ _ _ _ => rfl
theorem frO.trans {M M' M2 : zM} (h : frO M M') (h' : frO M' M2) : frO M M2 := fun a i j f z => (h' a i j f z).trans (h a i j f z)
theorem fr25.o {M M' : zM} (h : fr25 M M') : frO M M' := fun a i j f z => h a i j f (fun q => z (by omega))
theorem frA.o {M M' : zM} (h : frA M M') : frO M M' := fun a i j f z => h a i j f (fun q => z (by omega))
theorem frO.zu {M : zM} {f : Nat} {v : Int32} (h : 2 ≤ f) : frO M (zu M 21 0 0 f v) := fun a i j g z => zu_ne _ _ (fun q => z (by omega))
theorem rOut.on {M M' : zM} {o : List Int32} (h : rOut M o) (h8 : ∀ f, M' 8 14 0 f = M 8 14 0 f) (h9 : ∀ i, M' 9 14 0 i = M 9 14 0 i) : rOut M' o := ⟨by rw [h8]; exact h.1, h.2.1, by rw [h8]; exact h.2.2.1, fun i hi => by rw [h9]; exact h.2.2.2 i hi⟩
def rS (B : Nat → Int32) (t w : Nat) (M : zM) (x : Lx) (c k : Nat) (o : List Int32) : Prop := tpe M B t ∧ rdr M x ∧ (lOK B t x ∧ lG x) ∧ M 21 0 0 6 = 0 ∧ M 21 0 0 7 = nI c ∧ M 21 0 0 8 = nI k ∧ M 8 14 0 0 = nI w ∧ rOut M o
def rF (B : Nat → Int32) (t : Nat) (M : zM) (y : Lx) (c k : Nat) : Prop := tpe M B t ∧ M 21 0 0 2 = nI y.1 ∧ M 21 0 0 6 = 1 ∧ M 21 0 0 7 = nI c ∧ M 21 0 0 8 = nI k ∧ ∃ n, n ≤ 96 ∧ M 8 14 0 2 = nI n
def rP (B : Nat → Int32) (t w c k : Nat) (o : List Int32) (M : zM) (r : Lx ⊕ (Lx × List Int32)) (M' : zM) : Prop := frO M M' ∧ ((∃ y, r = .inl y ∧ rF B t M' y c k) ∨ ∃ y l, r = .inr (y, l) ∧ rS B t w M' y c k (o ++ l))
theorem tpe.onO {M M' : zM} {B : Nat → Int32} {t : Nat} (h : tpe M B t) (hf : frO M M') : tpe M' B t := ⟨by rw [hf 19 0 0 1 (by omega)]; exact h.1, h.2.1, fun i hi => by rw [hf 20 0 0 i (by omega)]; exact h.2.2 i hi⟩
section RS
variable {B : Nat → Int32} {t w : Nat} {M M' : zM} {x : Lx} {c k : Nat} {o : List Int32}
theorem rS.adv (h : rS B t w M x c k o) (hr : rdr M' (ladv B t x)) (hf : fr25 M M') : rS B t w M' (ladv B t x) c k o := by
  obtain ⟨h1, h2, h3, h4, h5, h6, h7, h8⟩ := h
  refine ⟨h1.on hf, hr, ⟨(ladv_ok h3.1.2.1).1, lG_adv B t x⟩, ?_, ?_, ?_, ?_, h8.on (fun f => hf _ _ _ _ (by omega)) (fun f => hf _ _ _ _ (by omega))⟩
  · rw [hf _ _ _ _ (by omega)]; exact h4
  · rw [hf _ _ _ _ (by omega)]; exact h5
  · rw [hf _ _ _ _ (by omega)]; exact h6
  · rw [hf _ _ _ _ (by omega)]; exact h7
theorem rdr.zu (h : rdr M x) {f : Nat} {v : Int32} (hf : 6 ≤ f) : rdr (zu M 21 0 0 f v) x := by
  obtain ⟨h1, h2, h3, h4⟩ := h
  exact ⟨(zu_ne _ _ (by omega)).trans h1, (zu_ne _ _ (by omega)).trans h2, (zu_ne _ _ (by omega)).trans h3, (zu_ne _ _ (by omega)).trans h4⟩
theorem rS.nt (h : rS B t w M x c k o) (k' : Nat) : rS B t w (zu M 21 0 0 8 (nI k')) x c k' o := by
  obtain ⟨h1, h2, h3, h4, h5, h6, h7, h8⟩ := h
  exact ⟨h1.onO (frO.zu (by omega)), h2.zu (by omega), h3, (zu_ne _ _ (by omega)).trans h4, (zu_ne _ _ (by omega)).trans h5, zu_self _ _ _ _ _ _, (zu_ne _ _ (by omega)).trans h7, h8.on (fun f => zu_ne _ _ (by omega)) (fun f => zu_ne _ _ (by omega))⟩
theorem rS.br (h : rS B t w M x c k o) (c' : Nat) : rS B t w (zu M 21 0 0 7 (nI c')) x c' k o := by
  obtain ⟨h1, h2, h3, h4, h5, h6, h7, h8⟩ := h
  exact ⟨h1.onO (frO.zu (by omega)), h2.zu (by omega), h3, (zu_ne _ _ (by omega)).trans h4, zu_self _ _ _ _ _ _, (zu_ne _ _ (by omega)).trans h6, (zu_ne _ _ (by omega)).trans h7, h8.on (fun f => zu_ne _ _ (by omega)) (fun f => zu_ne _ _ (by omega))⟩
theorem rS.fail (h : rS B t w M x c k o) : rF B t (zu M 21 0 0 6 1) x c k := by
  obtain ⟨h1, h2, h3, h4, h5, h6, h7, h8⟩ := h
  exact ⟨h1.onO (frO.zu (by omega)), (zu_ne _ _ (by omega)).trans h2.1, zu_self _ _ _ _ _ _, (zu_ne _ _ (by omega)).trans h5, (zu_ne _ _ (by omega)).trans h6, o.length, h8.2.1, (zu_ne _ _ (by omega)).trans h8.1⟩
theorem rS.add (h : rS B t w M x c k o) {d : Int32} (ha : addP M d M') (hl : o.length < 96) : rS B t w M' x c k (o ++ [d]) := by
  obtain ⟨h1, h2, h3, h4, h5, h6, h7, h8⟩ := h
  have hf := ha.1
  exact ⟨h1.onA hf, ⟨(hf _ _ _ _ (by omega)).trans h2.1, (hf _ _ _ _ (by omega)).trans h2.2.1, (hf _ _ _ _ (by omega)).trans h2.2.2.1, (hf _ _ _ _ (by omega)).trans h2.2.2.2⟩, h3, (hf _ _ _ _ (by omega)).trans h4, (hf _ _ _ _ (by omega)).trans h5, (hf _ _ _ _ (by omega)).trans h6, (hf _ _ _ _ (by omega)).trans h7, ha.2.2 o h8 hl⟩
theorem rF.nt (h : rF B t M x c k) (k' : Nat) : rF B t (zu M 21 0 0 8 (nI k')) x c k' := by
  obtain ⟨h1, h2, h3, h4, h5, n, h6, h7⟩ := h
  exact ⟨h1.onO (frO.zu (by omega)), (zu_ne _ _ (by omega)).trans h2, (zu_ne _ _ (by omega)).trans h3, (zu_ne _ _ (by omega)).trans h4, zu_self _ _ _ _ _ _, n, h6, (zu_ne _ _ (by omega)).trans h7⟩
theorem rF.br (h : rF B t M x c k) (c' : Nat) : rF B t (zu M 21 0 0 7 (nI c')) x c' k := by
  obtain ⟨h1, h2, h3, h4, h5, n, h6, h7⟩ := h
  exact ⟨h1.onO (frO.zu (by omega)), (zu_ne _ _ (by omega)).trans h2, (zu_ne _ _ (by omega)).trans h3, zu_self _ _ _ _ _ _, (zu_ne _ _ (by omega)).trans h5, n, h6, (zu_ne _ _ (by omega)).trans h7⟩
theorem rF.fail (h : rF B t M x c k) : rF B t (zu M 21 0 0 6 1) x c k := by
  obtain ⟨h1, h2, h3, h4, h5, n, h6, h7⟩ := h
  exact ⟨h1.onO (frO.zu (by omega)), (zu_ne _ _ (by omega)).trans h2, zu_self _ _ _ _ _ _, (zu_ne _ _ (by omega)).trans h4, (zu_ne _ _ (by omega)).trans h5, n, h6, (zu_ne _ _ (by omega)).trans h7⟩
theorem rF.add (h : rF B t M x c k) {d : Int32} (ha : addP M d M') : rF B t M' x c k := by
  obtain ⟨h1, h2, h3, h4, h5, n, h6, h7⟩ := h
  have hf := ha.1
  exact ⟨h1.onA hf, (hf _ _ _ _ (by omega)).trans h2, (hf _ _ _ _ (by omega)).trans h3, (hf _ _ _ _ (by omega)).trans h4, (hf _ _ _ _ (by omega)).trans h5, ha.2.1⟩
theorem rP.nots {r : Lx ⊕ (Lx × List Int32)} (h : rP B t w c k o M r M') : M' 21 0 0 8 = nI k ∧ M' 21 0 0 7 = nI c ∧ ∃ n, n ≤ 96 ∧ M' 8 14 0 2 = nI n := by
  rcases h.2 with ⟨y, -, q⟩ | ⟨y, l, -, q⟩
  · exact ⟨q.2.2.2.2.1, q.2.2.2.1, q.2.2.2.2.2⟩
  · exact ⟨q.2.2.2.2.2.1, q.2.2.2.2.1, _, q.2.2.2.2.2.2.2.2.1, q.2.2.2.2.2.2.2.1⟩
end RS
def PcH (l : Launch) (G : zG) (b : Nat) (B : Nat → Int32) (t w f : Nat) : Prop := ∀ (c k : Nat) (x : Lx) (o : List Int32) (M : zM) (r : Lx ⊕ (Lx × List Int32)), c ≤ 8 → k ≤ 8 → rS B t w M x c k o → o.length ≤ x.1 → pP (ltc B w) (ladv B t) f 5 c k x = some r → zMet l G b yX1_piece cX1_piece 1 none (6 + 8 * (8 - c) + 2 * (8 - k)) zshL zshL [.ref (b + 205)] M (zV (rP B t w c k o M r))
def LvH (l : Launch) (G : zG) (b : Nat) (B : Nat → Int32) (t w f : Nat) : Prop := ∀ (m c k : Nat) (x : Lx) (o : List Int32) (M : zM) (r : Lx ⊕ (Lx × List Int32)), m ≤ 5 → c ≤ 8 → k ≤ 8 → rS B t w M x c k o → o.length ≤ x.1 → pP (ltc B w) (ladv B t) f m c k x = some r → zMet l G b yX1_level cX1_level 5 none (12 + 8 * (8 - c) + 2 * (8 - k) - m) zshL zshL [.ref (b + 205), .int (nI m)] M (zV (rP B t w c k o M r))
set_option maxHeartbeats 800000 in
set_option maxRecDepth 100000 in
theorem mX1_readNot {l : Launch} {G : zG} {b : Nat} {M : zM} {B : Nat → Int32} {t w f c k : Nat} (IH : PcH l G b B t w f) {x : Lx} {o : List Int32} {r : Lx ⊕ (Lx × List Int32)} (hc8 : c ≤ 8) (hk8 : k ≤ 8) (hS : rS B t w M x c k o) (ho : o.length ≤ x.1) (hp : pP (ltc B w) (ladv B t) (f + 1) 5 c k x = some r) (h33 : ltc B w x = 20033) : zMet l G b yX1_readNot cX1_readNot 1 none (5 + 8 * (8 - c) + 2 * (8 - k)) zshL zshL [.ref (b + 205)] M (zV (rP B t w c k o M r)) := by
  refine zMet.of (L0 := [some (.ref (b + 205))]) (by decide +kernel) (Nat.le_refl _) (Nat.le_refl _) (Nat.le_of_ble_eq_true rfl) (List.forall_mem_cons.mpr ⟨rfl, fun _ h => absurd h List.not_mem_nil⟩) rfl (fun X C Al K => ?_)
  have hA : 8 ≤ k → r = .inl x := by
    intro q
    rcases pP_5 hp with ⟨h1, e⟩ | ⟨h1, ⟨h2, e⟩ | ⟨h2, -⟩⟩ | ⟨h1, -⟩ | ⟨h1, h2, h3, e⟩
    · rw [h33] at h1; exact absurd h1.2 (by decide)
    · exact e
    · omega
    · rw [h33] at h1; exact absurd h1 (by decide)
    · exact e
  have hBb : k < 8 → ∃ r', pP (ltc B w) (ladv B t) f 5 c (k + 1) (ladv B t x) = some r' ∧ ((∃ y, r' = .inl y ∧ r = .inl y) ∨ ∃ y l, r' = .inr (y, l) ∧ r = .inr (y, l ++ [20033])) := by
    intro q
    rcases pP_5 hp with ⟨h1, e⟩ | ⟨h1, ⟨h2, e⟩ | ⟨h2, ⟨y, h3, e⟩ | ⟨y, l2, h3, e⟩⟩⟩ | ⟨h1, -⟩ | ⟨h1, h2, h3, e⟩
    · rw [h33] at h1; exact absurd h1.2 (by decide)
    · omega
    · exact ⟨_, h3, Or.inl ⟨y, rfl, e⟩⟩
    · exact ⟨_, h3, Or.inr ⟨y, l2, rfl, e⟩⟩
    · rw [h33] at h1; exact absurd h1 (by decide)
    · exact absurd h33 h2
  have hok := hS.2.2.1.1
  have hB : ∀ i, i < t → iin (B i) 0 255 := fun i hi => (hS.1.2.2 i hi).2
  have T := tcOK_l hS.1.2.1 hB w
  have hlt := T.2.1 x hok (by rw [h33]; decide)
  have hok2 := T.1 x hok
  have hnot := hS.2.2.2.2.2.1
  refine z_aload_n (pc := 0) C 0 dX1_readNot_0 rfl rfl ?_
  refine z_getI (pc := 1) C dX1_readNot_1 fX1_38 sh_205 rfl ?_
  refine z_bipush (pc := 4) (v := 8) C dX1_readNot_4 rfl ?_
  rw [hnot]
  refine z_icmp_lt (pc := 6) C 15 dX1_readNot_6 (by decide) (fun c6 => ?_) (fun c6 => ?_)
  · have hk7 : k < 8 := (nI_ltI (b := 8) (by omega) (by omega)).mp c6
    obtain ⟨r', hp', hr'⟩ := hBb hk7
    refine z_aload_n (pc := 15) C 0 dX1_readNot_15 rfl rfl ?_
    refine z_dup (pc := 16) C dX1_readNot_16 rfl ?_
    refine z_getI (pc := 17) C dX1_readNot_17 fX1_38 sh_205 rfl ?_
    rw [hnot]
    refine z_iconst (pc := 20) (v := 1) C dX1_readNot_20 rfl ?_
    refine z_iadd (pc := 21) C dX1_readNot_21 ?_
    rw [nI_1]
    refine z_putII (pc := 22) C dX1_readNot_22 fX1_38 sh_205 rfl ?_
    refine z_aload_n (pc := 25) C 0 dX1_readNot_25 rfl rfl ?_
    have hS1 := hS.nt (k + 1)
    refine z_callVv (pc := 26) C dX1_readNot_26 kX1_51 (mX1_advance (B := B) (t := t) (x := x) hS1.1 hS1.2.1 hS1.2.2.1.1.2.1 (by rw [hS1.2.2.1.1.2.2.1]; exact tsrt_3 B t _)) (by omega) sh_205 rfl rfl rfl (Nat.le_of_ble_eq_true rfl) (fun M26 h26 => ?_)
    have hS2 := hS1.adv h26.1 h26.2
    refine z_aload_n (pc := 29) C 0 dX1_readNot_29 rfl rfl ?_
    refine z_callVv (pc := 30) C dX1_readNot_30 kX1_93 (IH c (k + 1) _ o _ r' hc8 hk7 hS2 (by omega) hp') (by omega) sh_205 rfl rfl rfl (Nat.le_of_ble_eq_true rfl) (fun M30 h30 => ?_)
    obtain ⟨g8, g7, n, hn96, hn⟩ := h30.nots
    refine z_aload_n (pc := 33) C 0 dX1_readNot_33 rfl rfl ?_
    refine z_dup (pc := 34) C dX1_readNot_34 rfl ?_
    refine z_getI (pc := 35) C dX1_readNot_35 fX1_38 sh_205 rfl ?_
    rw [g8]
    refine z_iconst (pc := 38) (v := 1) C dX1_readNot_38 rfl ?_
    refine z_isub (pc := 39) C dX1_readNot_39 ?_
    rw [nI_pred]
    refine z_putII (pc := 40) C dX1_readNot_40 fX1_38 sh_205 rfl ?_
    refine z_aload_n (pc := 43) C 0 dX1_readNot_43 rfl rfl ?_
    refine z_getR (pc := 44) (r := adT 14) C dX1_readNot_44 fX1_12 sh_205 rfl ?_
    refine z_sipush (pc := 47) (v := 20033) C dX1_readNot_47 rfl ?_
    refine z_callVv (pc := 50) C dX1_readNot_50 kX1_102 (mX5_add ((zu_ne _ _ (by omega)).trans hn) hn96) (by omega) (shT lt14_15) rfl rfl rfl (Nat.le_of_ble_eq_true rfl) (fun M50 h50 => ?_)
    refine z_return (pc := 53) C K dX1_readNot_53 ?_
    have hfr := ((frO.zu (M := M) (f := 8) (v := nI (k + 1)) (by omega)).trans h26.2.o).trans (h30.1.trans ((frO.zu (f := 8) (v := nI k) (by omega)).trans h50.1.o))
    refine ⟨rfl, hfr, ?_⟩
    rcases h30.2 with ⟨y, e1, q⟩ | ⟨y, l2, e1, q⟩
    · rcases hr' with ⟨y', e2, e3⟩ | ⟨y', l', e2, e3⟩
      · obtain rfl : y = y' := by
          rw [e1] at e2
          cases e2
          rfl
        exact Or.inl ⟨y, e3, (q.nt k).add h50⟩
      · rw [e1] at e2
        cases e2
    · rcases hr' with ⟨y', e2, e3⟩ | ⟨y', l', e2, e3⟩
      · rw [e1] at e2
        cases e2
      · rw [e1] at e2
        cases e2
        rw [e1] at hp'
        have pr := (pP_props T f).1 5 c (k + 1) (ladv B t x) y l2 (by omega) hp' hok2
        have y96 := T.2.2.1 y pr.1
        refine Or.inr ⟨y, l2 ++ [20033], e3, ?_⟩
        rw [← List.append_assoc]
        exact (q.nt k).add h50 (by rw [List.length_append]; omega)
  · refine z_aload_n (pc := 9) C 0 dX1_readNot_9 rfl rfl ?_
    refine z_iconst (pc := 10) (v := 1) C dX1_readNot_10 rfl ?_
    refine z_putZ (pc := 11) C dX1_readNot_11 fX1_32 sh_205 rfl (Or.inr rfl) ?_
    refine z_return (pc := 14) C K dX1_readNot_14 ?_
    have hk9 : 8 ≤ k := by
      rcases Nat.lt_or_ge k 8 with z | z
      · exact absurd (nI_lt (b := 8) z (by omega)) c6
      · exact z
    exact ⟨rfl, frO.zu (by omega), Or.inl ⟨x, hA hk9, hS.fail⟩⟩

set_option maxHeartbeats 800000 in
set_option maxRecDepth 100000 in
theorem mX1_readBracket {l : Launch} {G : zG} {b : Nat} {M : zM} {B : Nat → Int32} {t w f c k : Nat} (IH : LvH l G b B t w f) {x : Lx} {o : List Int32} {r : Lx ⊕ (Lx × List Int32)} (hc8 : c ≤ 8) (hk8 : k ≤ 8) (hS : rS B t w M x c k o) (ho : o.length ≤ x.1) (hp : pP (ltc B w) (ladv B t) (f + 1) 5 c k x = some r) (h40 : ltc B w x = 20040) : zMet l G b yX1_readBracket cX1_readBracket 1 none (5 + 8 * (8 - c) + 2 * (8 - k)) zshL zshL [.ref (b + 205)] M (zV (rP B t w c k o M r)) := by
  refine zMet.of (L0 := [some (.ref (b + 205))]) (by decide +kernel) (Nat.le_refl _) (Nat.le_refl _) (Nat.le_of_ble_eq_true rfl) (List.forall_mem_cons.mpr ⟨rfl, fun _ h => absurd h List.not_mem_nil⟩) rfl (fun X C Al K => ?_)
  have hA : 8 ≤ c → r = .inl x := by
    intro q
    rcases pP_5 hp with ⟨h1, e⟩ | ⟨h1, -⟩ | ⟨h1, ⟨h2, e⟩ | ⟨h2, -⟩⟩ | ⟨h1, h2, h3, e⟩
    · rw [h40] at h1; exact absurd h1.2 (by decide)
    · rw [h40] at h1; exact absurd h1 (by decide)
    · exact e
    · omega
    · exact e
  have hBb : c < 8 → ∃ r', pP (ltc B w) (ladv B t) f 0 (c + 1) k (ladv B t x) = some r' ∧ ((∃ y, r' = .inl y ∧ r = .inl y) ∨ ∃ y l, r' = .inr (y, l) ∧ ((ltc B w y = 20041 ∧ r = .inr (ladv B t y, l)) ∨ (¬ ltc B w y = 20041 ∧ r = .inl y))) := by
    intro q
    rcases pP_5 hp with ⟨h1, e⟩ | ⟨h1, -⟩ | ⟨h1, ⟨h2, e⟩ | ⟨h2, ⟨y, h3, e⟩ | ⟨y, l2, h3, h4⟩⟩⟩ | ⟨h1, h2, h3, e⟩
    · rw [h40] at h1; exact absurd h1.2 (by decide)
    · rw [h40] at h1; exact absurd h1 (by decide)
    · omega
    · exact ⟨_, h3, Or.inl ⟨y, rfl, e⟩⟩
    · exact ⟨_, h3, Or.inr ⟨y, l2, rfl, h4⟩⟩
    · exact absurd h40 h3
  have hok := hS.2.2.1.1
  have hB : ∀ i, i < t → iin (B i) 0 255 := fun i hi => (hS.1.2.2 i hi).2
  have T := tcOK_l hS.1.2.1 hB w
  have hlt := T.2.1 x hok (by rw [h40]; decide)
  have hok2 := T.1 x hok
  have hbra := hS.2.2.2.2.1
  refine z_aload_n (pc := 0) C 0 dX1_readBracket_0 rfl rfl ?_
  refine z_getI (pc := 1) C dX1_readBracket_1 fX1_35 sh_205 rfl ?_
  refine z_bipush (pc := 4) (v := 8) C dX1_readBracket_4 rfl ?_
  rw [hbra]
  refine z_icmp_lt (pc := 6) C 15 dX1_readBracket_6 (by decide) (fun c6 => ?_) (fun c6 => ?_)
  · have hc7 : c < 8 := (nI_ltI (b := 8) (by omega) (by omega)).mp c6
    obtain ⟨r', hp', hr'⟩ := hBb hc7
    refine z_aload_n (pc := 15) C 0 dX1_readBracket_15 rfl rfl ?_
    refine z_dup (pc := 16) C dX1_readBracket_16 rfl ?_
    refine z_getI (pc := 17) C dX1_readBracket_17 fX1_35 sh_205 rfl ?_
    rw [hbra]
    refine z_iconst (pc := 20) (v := 1) C dX1_readBracket_20 rfl ?_
    refine z_iadd (pc := 21) C dX1_readBracket_21 ?_
    rw [nI_1]
    refine z_putII (pc := 22) C dX1_readBracket_22 fX1_35 sh_205 rfl ?_
    refine z_aload_n (pc := 25) C 0 dX1_readBracket_25 rfl rfl ?_
    have hS1 := hS.br (c + 1)
    refine z_callVv (pc := 26) C dX1_readBracket_26 kX1_51 (mX1_advance (B := B) (t := t) (x := x) hS1.1 hS1.2.1 hS1.2.2.1.1.2.1 (by rw [hS1.2.2.1.1.2.2.1]; exact tsrt_3 B t _)) (by omega) sh_205 rfl rfl rfl (Nat.le_of_ble_eq_true rfl) (fun M26 h26 => ?_)
    have hS2 := hS1.adv h26.1 h26.2
    refine z_aload_n (pc := 29) C 0 dX1_readBracket_29 rfl rfl ?_
    refine z_iconst (pc := 30) (v := 0) C dX1_readBracket_30 rfl ?_
    refine z_callVv (pc := 31) C dX1_readBracket_31 kX1_57 (IH 0 (c + 1) k _ o _ r' (by omega) hc7 hk8 hS2 (by omega) hp') (by omega) sh_205 rfl rfl rfl (Nat.le_of_ble_eq_true rfl) (fun M31 h31 => ?_)
    obtain ⟨g8, g7, n, hn96, hn⟩ := h31.nots
    refine z_aload_n (pc := 34) C 0 dX1_readBracket_34 rfl rfl ?_
    refine z_dup (pc := 35) C dX1_readBracket_35 rfl ?_
    refine z_getI (pc := 36) C dX1_readBracket_36 fX1_35 sh_205 rfl ?_
    rw [g7]
    refine z_iconst (pc := 39) (v := 1) C dX1_readBracket_39 rfl ?_
    refine z_isub (pc := 40) C dX1_readBracket_40 ?_
    rw [nI_pred]
    refine z_putII (pc := 41) C dX1_readBracket_41 fX1_35 sh_205 rfl ?_
    have hfr := (((frO.zu (M := M) (f := 7) (v := nI (c + 1)) (by omega)).trans h26.2.o).trans (h31.1.trans (frO.zu (f := 7) (v := nI c) (by omega))))
    rcases h31.2 with ⟨y, e1, q⟩ | ⟨y, l2, e1, q⟩
    · have qb := q.br c
      have er : r = .inl y := by
        rcases hr' with ⟨y', e2, e3⟩ | ⟨y', l', e2, e3⟩
        · rw [e1] at e2; cases e2; exact e3
        · rw [e1] at e2; cases e2
      refine z_aload_n (pc := 44) C 0 dX1_readBracket_44 rfl rfl ?_
      refine z_getI (pc := 45) C dX1_readBracket_45 fX1_32 sh_205 rfl ?_
      rw [qb.2.2.1]
      refine z_if_ne (pc := 48) C 60 dX1_readBracket_48 (by decide) (fun c48 => ?_) (fun c48 => absurd c48 (by decide))
      refine z_aload_n (pc := 60) C 0 dX1_readBracket_60 rfl rfl ?_
      refine z_iconst (pc := 61) (v := 1) C dX1_readBracket_61 rfl ?_
      refine z_putZ (pc := 62) C dX1_readBracket_62 fX1_32 sh_205 rfl (Or.inr rfl) ?_
      refine z_return (pc := 65) C K dX1_readBracket_65 ?_
      exact ⟨rfl, hfr.trans (frO.zu (by omega)), Or.inl ⟨y, er, qb.fail⟩⟩
    · have qb := q.br c
      have er : (ltc B w y = 20041 ∧ r = .inr (ladv B t y, l2)) ∨ (¬ ltc B w y = 20041 ∧ r = .inl y) := by
        rcases hr' with ⟨y', e2, e3⟩ | ⟨y', l', e2, e3⟩
        · rw [e1] at e2; cases e2
        · rw [e1] at e2; cases e2; exact e3
      refine z_aload_n (pc := 44) C 0 dX1_readBracket_44 rfl rfl ?_
      refine z_getI (pc := 45) C dX1_readBracket_45 fX1_32 sh_205 rfl ?_
      rw [qb.2.2.2.1]
      refine z_if_ne (pc := 48) C 60 dX1_readBracket_48 (by decide) (fun c48 => absurd rfl c48) (fun c48 => ?_)
      refine z_aload_n (pc := 51) C 0 dX1_readBracket_51 rfl rfl ?_
      refine z_callVi (pc := 52) C dX1_readBracket_52 kX1_96 (mX1_sign qb.1 qb.2.1 qb.2.2.1.1) (by omega) sh_205 rfl rfl rfl (Nat.le_of_ble_eq_true rfl) (fun r52 M52 h52 => ?_)
      obtain ⟨rfl, e52⟩ := h52
      subst M52
      refine z_bipush (pc := 55) (v := 41) C dX1_readBracket_55 rfl ?_
      refine z_icmp_eq (pc := 57) C 66 dX1_readBracket_57 (by decide) (fun c57 => ?_) (fun c57 => ?_)
      · refine z_aload_n (pc := 66) C 0 dX1_readBracket_66 rfl rfl ?_
        refine z_callVv (pc := 67) C dX1_readBracket_67 kX1_51 (mX1_advance (B := B) (t := t) (x := y) qb.1 qb.2.1 qb.2.2.1.1.2.1 (by rw [qb.2.2.1.1.2.2.1]; exact tsrt_3 B t _)) (by omega) sh_205 rfl rfl rfl (Nat.le_of_ble_eq_true rfl) (fun M67 h67 => ?_)
        refine z_return (pc := 70) C K dX1_readBracket_70 ?_
        rcases er with ⟨-, er⟩ | ⟨z, -⟩
        · exact ⟨rfl, hfr.trans h67.2.o, Or.inr ⟨_, l2, er, qb.adv h67.1 h67.2⟩⟩
        · exact absurd (((sgn_eq (ky := w) qb.2.2.1.1 hB (c := 41) (by decide)).mp c57).trans (by rfl)) z
      · refine z_aload_n (pc := 60) C 0 dX1_readBracket_60 rfl rfl ?_
        refine z_iconst (pc := 61) (v := 1) C dX1_readBracket_61 rfl ?_
        refine z_putZ (pc := 62) C dX1_readBracket_62 fX1_32 sh_205 rfl (Or.inr rfl) ?_
        refine z_return (pc := 65) C K dX1_readBracket_65 ?_
        rcases er with ⟨z, -⟩ | ⟨-, er⟩
        · exact absurd ((sgn_eq (ky := w) qb.2.2.1.1 hB (c := 41) (by decide)).mpr (by rw [z]; rfl)) c57
        · exact ⟨rfl, hfr.trans (frO.zu (by omega)), Or.inl ⟨y, er, qb.fail⟩⟩
  · refine z_aload_n (pc := 9) C 0 dX1_readBracket_9 rfl rfl ?_
    refine z_iconst (pc := 10) (v := 1) C dX1_readBracket_10 rfl ?_
    refine z_putZ (pc := 11) C dX1_readBracket_11 fX1_32 sh_205 rfl (Or.inr rfl) ?_
    refine z_return (pc := 14) C K dX1_readBracket_14 ?_
    have hc9 : 8 ≤ c := by
      rcases Nat.lt_or_ge c 8 with z | z
      · exact absurd (nI_lt (b := 8) z (by omega)) c6
      · exact z
    exact ⟨rfl, frO.zu (by omega), Or.inl ⟨x, hA hc9, hS.fail⟩⟩

theorem ltc_num {B : Nat → Int32} {w t : Nat} {x : Lx} (hk : lOK B t x) (hg : ¬ x.2.2.2 = 1) (h2 : x.2.2.1 = 2) (h4 : x.2.1 - x.1 ≤ 4) : ltc B w x = nv B x.1 (x.2.1 - x.1) ∧ 0 ≤ ltc B w x ∧ ltc B w x < 20000 := by
  have e : ltc B w x = nv B x.1 (x.2.1 - x.1) := by
    unfold ltc
    rw [if_neg (by omega), if_neg (by omega), if_neg hg, if_pos h2, if_pos h4]
  have hn := nv_in (B := B) (s := x.1) (x.2.1 - x.1) h4 (fun j hj => by
    have hr := hk.2.2.2.1
    unfold lend at hr
    rw [← hk.2.2.1, if_neg (by omega), if_neg (by omega)] at hr
    have e := lrun_in (B := B) (t := t) (k := x.2.2.1) (t - x.1) x.1 (x.1 + j) (by omega) (by omega)
    exact dig_of (e.trans h2))
  have hpw : (10 : Int) ^ (x.2.1 - x.1) ≤ 10000 := by
    generalize x.2.1 - x.1 = j at h4
    rcases (show j = 0 ∨ j = 1 ∨ j = 2 ∨ j = 3 ∨ j = 4 by omega) with rfl | rfl | rfl | rfl | rfl <;> decide
  refine ⟨e, ?_, ?_⟩
  · rw [e, zi_le, i0]; exact hn.1
  · rw [e, zi_lt, show (20000 : Int32).toInt = 20000 by decide]; omega
theorem ltc_nam {B : Nat → Int32} {w : Nat} {x : Lx} (hg : ¬ x.2.2.2 = 1) (h1 : x.2.2.1 = 1) (h4 : x.2.1 - x.1 = 1 ∧ 0 ≤ nmo w (B x.1)) : ltc B w x = 10000 + nmo w (B x.1) ∧ 0 ≤ ltc B w x ∧ ltc B w x < 20000 := by
  have e : ltc B w x = 10000 + nmo w (B x.1) := by
    unfold ltc
    rw [if_neg (by omega), if_neg (by omega), if_neg hg, if_neg (by omega), if_pos h4]
  have hn := nmo_in w (B x.1)
  have c1 : (10000 : Int32).toInt = 10000 := by decide
  have ea : (10000 + nmo w (B x.1)).toInt = 10000 + (nmo w (B x.1)).toInt := by rw [zi_add (by rw [c1]; omega) (by rw [c1]; omega), c1]
  refine ⟨e, ?_, ?_⟩
  · rw [e, zi_le, ea, i0]; omega
  · rw [e, zi_lt, ea, show (20000 : Int32).toInt = 20000 by decide]; omega
set_option maxHeartbeats 800000 in
set_option maxRecDepth 100000 in
theorem mX1_piece {l : Launch} {G : zG} {b : Nat} {M : zM} {B : Nat → Int32} {t w f c k : Nat} (hw : w < 3) (IP : PcH l G b B t w f) (IL : LvH l G b B t w f) {x : Lx} {o : List Int32} {r : Lx ⊕ (Lx × List Int32)} (hc8 : c ≤ 8) (hk8 : k ≤ 8) (hS : rS B t w M x c k o) (ho : o.length ≤ x.1) (hp : pP (ltc B w) (ladv B t) (f + 1) 5 c k x = some r) : zMet l G b yX1_piece cX1_piece 1 none (6 + 8 * (8 - c) + 2 * (8 - k)) zshL zshL [.ref (b + 205)] M (zV (rP B t w c k o M r)) := by
  refine zMet.of (L0 := [some (.ref (b + 205))]) (by decide +kernel) (Nat.le_refl _) (Nat.le_refl _) (Nat.le_of_ble_eq_true rfl) (List.forall_mem_cons.mpr ⟨rfl, fun _ h => absurd h List.not_mem_nil⟩) rfl (fun X C Al K => ?_)
  have F1 : 0 ≤ ltc B w x ∧ ltc B w x < 20000 → r = .inr (ladv B t x, [ltc B w x]) := by
    intro q
    rcases pP_5 hp with ⟨h1, e⟩ | ⟨h1, -⟩ | ⟨h1, -⟩ | ⟨h1, h2, h3, e⟩
    · exact e
    · rw [h1] at q; exact absurd q.2 (by decide)
    · rw [h1] at q; exact absurd q.2 (by decide)
    · exact absurd q h1
  have F4 : ¬ (0 ≤ ltc B w x ∧ ltc B w x < 20000) → ¬ ltc B w x = 20033 → ¬ ltc B w x = 20040 → r = .inl x := by
    intro q1 q2 q3
    rcases pP_5 hp with ⟨h1, e⟩ | ⟨h1, -⟩ | ⟨h1, -⟩ | ⟨h1, h2, h3, e⟩
    · exact absurd h1 q1
    · exact absurd h1 q2
    · exact absurd h1 q3
    · exact e
  have F5 : ltc B w x = -2 → r = .inl x := by
    intro e
    refine F4 ?_ ?_ ?_
    · rw [e]; decide
    · rw [e]; decide
    · rw [e]; decide
  obtain ⟨hT, hx, ⟨hok, hgl⟩, h6, h7, h8, hky, hout⟩ := id hS
  have hB : ∀ i, i < t → iin (B i) 0 255 := fun i hi => (hT.2.2 i hi).2
  have T := tcOK_l hT.2.1 hB w
  obtain ⟨x1, x2, x3, x4⟩ := id hx
  have s3 : x.2.2.1 ≤ 3 := by rw [hok.2.2.1]; exact tsrt_3 B t _
  have e4 : (nI x.2.2.1).toInt = x.2.2.1 := nI_toInt (by omega)
  have hlen : ¬ ltc B w x = -1 → o.length < 96 := fun q => by
    have a1 := T.2.1 x hok q
    have a2 := T.2.2.1 _ (T.1 x hok)
    omega
  have good : ∀ (d : Int32) (M1 M2 : zM), d = ltc B w x → 0 ≤ ltc B w x → ltc B w x < 20000 → addP M d M1 → rdr M2 (ladv B t x) → fr25 M1 M2 → rP B t w c k o M r M2 := by
    intro d M1 M2 hd q1 q2 ha hr hf
    refine ⟨ha.1.o.trans hf.o, Or.inr ⟨_, _, F1 ⟨q1, q2⟩, ?_⟩⟩
    rw [← hd]
    exact (hS.add ha (hlen (fun z => by rw [z] at q1; exact absurd q1 (by decide)))).adv hr hf
  refine z_aload_n (pc := 0) C 0 dX1_piece_0 rfl rfl ?_
  refine z_getI (pc := 1) C dX1_piece_1 fX1_28 sh_205 rfl ?_
  rw [x4]
  refine z_if_eq (pc := 4) C 15 dX1_piece_4 (by decide) (fun c4 => ?_) (fun c4 => ?_)
  · refine z_aload_n (pc := 15) C 0 dX1_piece_15 rfl rfl ?_
    refine z_getI (pc := 16) C dX1_piece_16 fX1_25 sh_205 rfl ?_
    refine z_iconst (pc := 19) (v := 2) C dX1_piece_19 rfl ?_
    have ng : ¬ x.2.2.2 = 1 := fun z => by
      rw [z] at c4
      exact absurd c4 (by decide)
    rw [x3]
    refine z_icmp_ne (pc := 20) C 30 dX1_piece_20 (by decide) (fun c20 => ?_) (fun c20 => ?_)
    · refine z_aload_n (pc := 30) C 0 dX1_piece_30 rfl rfl ?_
      refine z_getI (pc := 31) C dX1_piece_31 fX1_25 sh_205 rfl ?_
      refine z_iconst (pc := 34) (v := 1) C dX1_piece_34 rfl ?_
      have n2 : ¬ x.2.2.1 = 2 := fun z => c20 (by rw [z]; rfl)
      rw [x3]
      refine z_icmp_ne (pc := 35) C 45 dX1_piece_35 (by decide) (fun c35 => ?_) (fun c35 => ?_)
      · refine z_aload_n (pc := 45) C 0 dX1_piece_45 rfl rfl ?_
        have n1 : ¬ x.2.2.1 = 1 := fun z => c35 (by rw [z]; rfl)
        refine z_callVi (pc := 46) C dX1_piece_46 kX1_96 (mX1_sign hT hx hok) (by omega) sh_205 rfl rfl rfl (Nat.le_of_ble_eq_true rfl) (fun r46 M46 h46 => ?_)
        obtain ⟨rfl, e46⟩ := h46
        subst M46
        refine z_bipush (pc := 49) (v := 33) C dX1_piece_49 rfl ?_
        refine z_icmp_ne (pc := 51) C 61 dX1_piece_51 (by decide) (fun c51 => ?_) (fun c51 => ?_)
        · refine z_aload_n (pc := 61) C 0 dX1_piece_61 rfl rfl ?_
          refine z_callVi (pc := 62) C dX1_piece_62 kX1_96 (mX1_sign hT hx hok) (by omega) sh_205 rfl rfl rfl (Nat.le_of_ble_eq_true rfl) (fun r62 M62 h62 => ?_)
          obtain ⟨rfl, e62⟩ := h62
          subst M62
          refine z_bipush (pc := 65) (v := 40) C dX1_piece_65 rfl ?_
          refine z_icmp_ne (pc := 67) C 77 dX1_piece_67 (by decide) (fun c67 => ?_) (fun c67 => ?_)
          · refine z_aload_n (pc := 77) C 0 dX1_piece_77 rfl rfl ?_
            refine z_iconst (pc := 78) (v := 1) C dX1_piece_78 rfl ?_
            refine z_putZ (pc := 79) C dX1_piece_79 fX1_32 sh_205 rfl (Or.inr rfl) ?_
            refine z_return (pc := 82) C K dX1_piece_82 ?_
            have n33 : ¬ ltc B w x = 20033 := fun z => c51 ((sgn_eq (ky := w) hok hB (c := 33) (by decide)).mpr (by rw [z]; rfl))
            have n40 : ¬ ltc B w x = 20040 := fun z => c67 ((sgn_eq (ky := w) hok hB (c := 40) (by decide)).mpr (by rw [z]; rfl))
            refine ⟨rfl, frO.zu (by omega), Or.inl ⟨x, F4 (fun z => ?_) n33 n40, hS.fail⟩⟩
            rcases (show x.2.2.1 = 0 ∨ x.2.2.1 = 3 by omega) with q | q
            · unfold ltc at z
              rw [if_pos q] at z
              exact absurd z.1 (by decide)
            · unfold ltc at z
              rw [if_neg (by omega), if_pos q] at z
              have hb := hB _ (lOK_lt hok (by omega))
              unfold iin at hb
              have c2 : (20000 : Int32).toInt = 20000 := by decide
              have z2 := z.2
              rw [zi_lt, zi_add (by rw [c2]; omega) (by rw [c2]; omega), c2] at z2
              omega
          · refine z_aload_n (pc := 70) C 0 dX1_piece_70 rfl rfl ?_
            refine z_callVv (pc := 71) C dX1_piece_71 kX1_114 (mX1_readBracket IL hc8 hk8 hS ho hp (((sgn_eq (ky := w) hok hB (c := 40) (by decide)).mp c67).trans (by rfl))) (by omega) sh_205 rfl rfl rfl (Nat.le_of_ble_eq_true rfl) (fun M71 h71 => ?_)
            refine z_goto (pc := 74) C 82 dX1_piece_74 (by decide) ?_
            refine z_return (pc := 82) C K dX1_piece_82 ?_
            exact ⟨rfl, h71⟩
        · refine z_aload_n (pc := 54) C 0 dX1_piece_54 rfl rfl ?_
          refine z_callVv (pc := 55) C dX1_piece_55 kX1_111 (mX1_readNot IP hc8 hk8 hS ho hp (((sgn_eq (ky := w) hok hB (c := 33) (by decide)).mp c51).trans (by rfl))) (by omega) sh_205 rfl rfl rfl (Nat.le_of_ble_eq_true rfl) (fun M55 h55 => ?_)
          refine z_goto (pc := 58) C 82 dX1_piece_58 (by decide) ?_
          refine z_return (pc := 82) C K dX1_piece_82 ?_
          exact ⟨rfl, h55⟩
      · refine z_aload_n (pc := 38) C 0 dX1_piece_38 rfl rfl ?_
        have h1 : x.2.2.1 = 1 := (nI_eq (b := 1) (by omega) (by omega)).mp c35
        refine z_callVv (pc := 39) C dX1_piece_39 kX1_108 (mX1_readName hT hx hok hout.1 hout.2.1 h1 hw hky) (by omega) sh_205 rfl rfl rfl (Nat.le_of_ble_eq_true rfl) (fun M39 h39 => ?_)
        refine z_goto (pc := 42) C 82 dX1_piece_42 (by decide) ?_
        refine z_return (pc := 82) C K dX1_piece_82 ?_
        rcases h39 with ⟨q, rfl⟩ | ⟨q, M1, ha, hr, hf⟩
        · exact ⟨rfl, frO.zu (by omega), Or.inl ⟨x, F5 (by unfold ltc; rw [if_neg (by omega), if_neg (by omega), if_neg ng, if_neg (by omega), if_neg q]), hS.fail⟩⟩
        · obtain ⟨q1, q2, q3⟩ := ltc_nam (w := w) ng h1 q
          exact ⟨rfl, good _ _ _ q1.symm q2 q3 ha hr hf⟩
    · refine z_aload_n (pc := 23) C 0 dX1_piece_23 rfl rfl ?_
      have h2 : x.2.2.1 = 2 := (nI_eq (b := 2) (by omega) (by omega)).mp c20
      refine z_callVv (pc := 24) C dX1_piece_24 kX1_105 (mX1_readNumber hT hx hok hout.1 hout.2.1) (by omega) sh_205 rfl rfl rfl (Nat.le_of_ble_eq_true rfl) (fun M24 h24 => ?_)
      refine z_goto (pc := 27) C 82 dX1_piece_27 (by decide) ?_
      refine z_return (pc := 82) C K dX1_piece_82 ?_
      rcases h24 with ⟨q, rfl⟩ | ⟨q, M1, ha, hr, hf⟩
      · exact ⟨rfl, frO.zu (by omega), Or.inl ⟨x, F5 (by unfold ltc; rw [if_neg (by omega), if_neg (by omega), if_neg ng, if_pos h2, if_neg q]), hS.fail⟩⟩
      · obtain ⟨q1, q2, q3⟩ := ltc_num (w := w) hok ng h2 q
        exact ⟨rfl, good _ _ _ q1.symm q2 q3 ha hr hf⟩
  · refine z_aload_n (pc := 7) C 0 dX1_piece_7 rfl rfl ?_
    refine z_iconst (pc := 8) (v := 1) C dX1_piece_8 rfl ?_
    refine z_putZ (pc := 9) C dX1_piece_9 fX1_32 sh_205 rfl (Or.inr rfl) ?_
    refine z_goto (pc := 12) C 82 dX1_piece_12 (by decide) ?_
    refine z_return (pc := 82) C K dX1_piece_82 ?_
    have g1 : x.2.2.2 = 1 := by
      rcases hok.2.2.2.2 with z | z
      · rw [z] at c4
        exact absurd (by decide) c4
      · exact z
    have g2 := hgl g1
    exact ⟨rfl, frO.zu (by omega), Or.inl ⟨x, F5 (by unfold ltc; rw [if_neg (by omega), if_neg (by omega), if_pos g1]), hS.fail⟩⟩

