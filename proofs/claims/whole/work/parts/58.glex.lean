/-! THE REFERENCE's READER: words -/
def gtp (M : zM) (B : Nat → Int32) (t : Nat) : Prop := M 30 0 0 7 = nI t ∧ t ≤ 96 ∧ ∀ i, i < t → M 36 0 0 i = B i ∧ iin (B i) 0 255
def wdL (x : Lx) : Prop := x.2.2.1 = 1 ∨ x.2.2.1 = 2
def tok (x : Lx) : Int32 := if x.2.2.1 = 0 then 0 else if x.2.2.1 = 3 then 3 else if x.2.2.2 = 1 then 4 else if x.2.2.1 = 1 then 1 else if x.2.1 - x.1 ≤ 4 then 2 else 4
def eInv (M : zM) (x : Lx) : Prop := (wdL x ∧ M 30 0 0 12 = nI x.2.1) ∨ (¬ wdL x ∧ (M 30 0 0 12 = -1 ∨ ∃ w, w < x.2.1 ∧ M 30 0 0 12 = nI w))
def gst (M : zM) (B : Nat → Int32) (x : Lx) : Prop := M 30 0 0 9 = nI x.1 ∧ M 30 0 0 8 = nI x.2.1 ∧ M 30 0 0 10 = tok x ∧ ((x.2.2.1 = 1 ∨ x.2.2.1 = 3) → M 30 0 0 11 = B x.1) ∧ (x.2.2.1 = 2 → x.2.1 - x.1 ≤ 4 → M 30 0 0 11 = nv B x.1 (x.2.1 - x.1)) ∧ (¬ x.2.2.1 = 0 → eInv M x)
def fg (M M' : zM) : Prop := ∀ a i j f, ¬ (a = 30 ∧ 8 ≤ f ∧ f ≤ 12) → M' a i j f = M a i j f
theorem fg.rfl' {M : zM} : fg M M := fun _ _ _ _ _ => rfl
theorem fg.trans {M M' M2 : zM} (h : fg M M') (h' : fg M' M2) : fg M M2 := fun a i j f z => (h' a i j f z).trans (h a i j f z)
theorem fg.zu {M : zM} {f : Nat} {v : Int32} (h1 : 8 ≤ f) (h2 : f ≤ 12) : fg M (zu M 30 0 0 f v) := fun a i j g z => zu_ne _ _ (fun q => z (by omega))
theorem gtp.on {M M' : zM} {B : Nat → Int32} {t : Nat} (h : gtp M B t) (hf : fg M M') : gtp M' B t := ⟨by rw [hf 30 0 0 7 (by omega)]; exact h.1, h.2.1, fun i hi => by rw [hf 36 0 0 i (by omega)]; exact h.2.2 i hi⟩
theorem c97 : (97 : Int32).toInt = 97 := by decide
theorem c122 : (122 : Int32).toInt = 122 := by decide
theorem c48 : (48 : Int32).toInt = 48 := by decide
theorem c57 : (57 : Int32).toInt = 57 := by decide
theorem tsrt_1 {B : Nat → Int32} {t p : Nat} : tsrt B t p = 1 ↔ p < t ∧ 97 ≤ B p ∧ B p ≤ 122 := by
  unfold tsrt
  by_cases h : t ≤ p
  · rw [if_pos h]
    omega
  · rw [if_neg h]
    by_cases h1 : 97 ≤ B p ∧ B p ≤ 122
    · rw [if_pos h1]
      exact ⟨fun _ => ⟨by omega, h1⟩, fun _ => rfl⟩
    · rw [if_neg h1]
      refine ⟨fun q => ?_, fun q => absurd q.2 h1⟩
      split at q <;> omega
theorem tsrt_2 {B : Nat → Int32} {t p : Nat} : tsrt B t p = 2 ↔ p < t ∧ 48 ≤ B p ∧ B p ≤ 57 := by
  unfold tsrt
  by_cases h : t ≤ p
  · rw [if_pos h]
    omega
  · rw [if_neg h]
    by_cases h1 : 97 ≤ B p ∧ B p ≤ 122
    · rw [if_pos h1]
      refine ⟨fun q => by omega, fun q => ?_⟩
      rw [zi_le, zi_le, c97] at h1
      rw [zi_le, zi_le, c48, c57] at q
      omega
    · rw [if_neg h1]
      by_cases h2 : 48 ≤ B p ∧ B p ≤ 57
      · rw [if_pos h2]
        exact ⟨fun _ => ⟨by omega, h2⟩, fun _ => rfl⟩
      · rw [if_neg h2]
        exact ⟨fun q => by omega, fun q => absurd q.2 h2⟩
set_option maxHeartbeats 800000 in
set_option maxRecDepth 100000 in
theorem mX10_isLetter {l : Launch} {G : zG} {b : Nat} {M : zM} {B : Nat → Int32} {t p : Nat} (hT : gtp M B t) (hp : p ≤ 96) : zMet l G b yX10_isLetter cX10_isLetter 2 (some .boolean) 0 zshL zshL [.ref (b + 239), .int (nI p)] M (zI (fun r M' => zb r (tsrt B t p = 1) ∧ M' = M)) := by
  refine zMet.of (L0 := [some (.ref (b + 239)), some (.int (nI p))]) (by decide +kernel) (Nat.le_refl _) (Nat.le_refl _) (Nat.le_of_ble_eq_true rfl) (List.forall_mem_cons.mpr ⟨rfl, List.forall_mem_cons.mpr ⟨rfl, fun _ h => absurd h List.not_mem_nil⟩⟩) rfl (fun X C Al K => ?_)
  obtain ⟨hT1, h96, hTB⟩ := hT
  have ep : (nI p).toInt = p := nI_toInt (by omega)
  have et : (nI t).toInt = t := nI_toInt (by omega)
  refine z_iload_n (pc := 0) C 1 dX10_isLetter_0 rfl rfl ?_
  refine z_aload_n (pc := 1) C 0 dX10_isLetter_1 rfl rfl ?_
  refine z_getI (pc := 2) C dX10_isLetter_2 fX10_205 sh_239 rfl ?_
  rw [hT1]
  refine z_icmp_ge (pc := 5) C 34 dX10_isLetter_5 (by decide) (fun c5 => ?_) (fun c5 => ?_)
  · refine z_iconst (pc := 34) (v := 0) C dX10_isLetter_34 rfl ?_
    refine z_zreturn (pc := 35) C K dX10_isLetter_35 (Or.inl rfl) ?_
    refine ⟨_, rfl, Or.inr ⟨rfl, fun z => ?_⟩, rfl⟩
    have z1 := (tsrt_1.mp z).1
    rw [zi_le, ep, et] at c5
    omega
  · refine z_aload_n (pc := 8) C 0 dX10_isLetter_8 rfl rfl ?_
    refine z_getR (pc := 9) (r := 245) C dX10_isLetter_9 fX10_25 sh_239 rfl ?_
    refine z_iload_n (pc := 12) C 1 dX10_isLetter_12 rfl rfl ?_
    refine z_iald (pc := 13) (n := p) C dX10_isLetter_13 sh_245 (vp_in_nI (by rw [zi_le, ep, et] at c5; omega) (by decide)) (nI_clamp (by omega)) ?_
    rw [(hTB p (by rw [zi_le, ep, et] at c5; omega)).1]
    refine z_bipush (pc := 14) (v := 97) C dX10_isLetter_14 rfl ?_
    refine z_icmp_lt (pc := 16) C 34 dX10_isLetter_16 (by decide) (fun c16 => ?_) (fun c16 => ?_)
    · refine z_iconst (pc := 34) (v := 0) C dX10_isLetter_34 rfl ?_
      refine z_zreturn (pc := 35) C K dX10_isLetter_35 (Or.inl rfl) ?_
      exact ⟨_, rfl, Or.inr ⟨rfl, fun z => Int32.not_lt.mpr (tsrt_1.mp z).2.1 c16⟩, rfl⟩
    · refine z_aload_n (pc := 19) C 0 dX10_isLetter_19 rfl rfl ?_
      refine z_getR (pc := 20) (r := 245) C dX10_isLetter_20 fX10_25 sh_239 rfl ?_
      refine z_iload_n (pc := 23) C 1 dX10_isLetter_23 rfl rfl ?_
      refine z_iald (pc := 24) (n := p) C dX10_isLetter_24 sh_245 (vp_in_nI (by rw [zi_le, ep, et] at c5; omega) (by decide)) (nI_clamp (by omega)) ?_
      rw [(hTB p (by rw [zi_le, ep, et] at c5; omega)).1]
      refine z_bipush (pc := 25) (v := 122) C dX10_isLetter_25 rfl ?_
      refine z_icmp_gt (pc := 27) C 34 dX10_isLetter_27 (by decide) (fun c27 => ?_) (fun c27 => ?_)
      · refine z_iconst (pc := 34) (v := 0) C dX10_isLetter_34 rfl ?_
        refine z_zreturn (pc := 35) C K dX10_isLetter_35 (Or.inl rfl) ?_
        exact ⟨_, rfl, Or.inr ⟨rfl, fun z => Int32.not_lt.mpr (tsrt_1.mp z).2.2 c27⟩, rfl⟩
      · refine z_iconst (pc := 30) (v := 1) C dX10_isLetter_30 rfl ?_
        refine z_goto (pc := 31) C 35 dX10_isLetter_31 (by decide) ?_
        refine z_zreturn (pc := 35) C K dX10_isLetter_35 (Or.inr rfl) ?_
        refine ⟨_, rfl, Or.inl ⟨rfl, tsrt_1.mpr ⟨?_, Int32.not_lt.mp c16, Int32.not_lt.mp c27⟩⟩, rfl⟩
        rw [zi_le, ep, et] at c5
        omega

set_option maxHeartbeats 800000 in
set_option maxRecDepth 100000 in
theorem mX10_isFigure {l : Launch} {G : zG} {b : Nat} {M : zM} {B : Nat → Int32} {t p : Nat} (hT : gtp M B t) (hp : p ≤ 96) : zMet l G b yX10_isFigure cX10_isFigure 2 (some .boolean) 0 zshL zshL [.ref (b + 239), .int (nI p)] M (zI (fun r M' => zb r (tsrt B t p = 2) ∧ M' = M)) := by
  refine zMet.of (L0 := [some (.ref (b + 239)), some (.int (nI p))]) (by decide +kernel) (Nat.le_refl _) (Nat.le_refl _) (Nat.le_of_ble_eq_true rfl) (List.forall_mem_cons.mpr ⟨rfl, List.forall_mem_cons.mpr ⟨rfl, fun _ h => absurd h List.not_mem_nil⟩⟩) rfl (fun X C Al K => ?_)
  obtain ⟨hT1, h96, hTB⟩ := hT
  have ep : (nI p).toInt = p := nI_toInt (by omega)
  have et : (nI t).toInt = t := nI_toInt (by omega)
  refine z_iload_n (pc := 0) C 1 dX10_isFigure_0 rfl rfl ?_
  refine z_aload_n (pc := 1) C 0 dX10_isFigure_1 rfl rfl ?_
  refine z_getI (pc := 2) C dX10_isFigure_2 fX10_205 sh_239 rfl ?_
  rw [hT1]
  refine z_icmp_ge (pc := 5) C 34 dX10_isFigure_5 (by decide) (fun c5 => ?_) (fun c5 => ?_)
  · refine z_iconst (pc := 34) (v := 0) C dX10_isFigure_34 rfl ?_
    refine z_zreturn (pc := 35) C K dX10_isFigure_35 (Or.inl rfl) ?_
    refine ⟨_, rfl, Or.inr ⟨rfl, fun z => ?_⟩, rfl⟩
    have z1 := (tsrt_2.mp z).1
    rw [zi_le, ep, et] at c5
    omega
  · refine z_aload_n (pc := 8) C 0 dX10_isFigure_8 rfl rfl ?_
    refine z_getR (pc := 9) (r := 245) C dX10_isFigure_9 fX10_25 sh_239 rfl ?_
    refine z_iload_n (pc := 12) C 1 dX10_isFigure_12 rfl rfl ?_
    refine z_iald (pc := 13) (n := p) C dX10_isFigure_13 sh_245 (vp_in_nI (by rw [zi_le, ep, et] at c5; omega) (by decide)) (nI_clamp (by omega)) ?_
    rw [(hTB p (by rw [zi_le, ep, et] at c5; omega)).1]
    refine z_bipush (pc := 14) (v := 48) C dX10_isFigure_14 rfl ?_
    refine z_icmp_lt (pc := 16) C 34 dX10_isFigure_16 (by decide) (fun c16 => ?_) (fun c16 => ?_)
    · refine z_iconst (pc := 34) (v := 0) C dX10_isFigure_34 rfl ?_
      refine z_zreturn (pc := 35) C K dX10_isFigure_35 (Or.inl rfl) ?_
      exact ⟨_, rfl, Or.inr ⟨rfl, fun z => Int32.not_lt.mpr (tsrt_2.mp z).2.1 c16⟩, rfl⟩
    · refine z_aload_n (pc := 19) C 0 dX10_isFigure_19 rfl rfl ?_
      refine z_getR (pc := 20) (r := 245) C dX10_isFigure_20 fX10_25 sh_239 rfl ?_
      refine z_iload_n (pc := 23) C 1 dX10_isFigure_23 rfl rfl ?_
      refine z_iald (pc := 24) (n := p) C dX10_isFigure_24 sh_245 (vp_in_nI (by rw [zi_le, ep, et] at c5; omega) (by decide)) (nI_clamp (by omega)) ?_
      rw [(hTB p (by rw [zi_le, ep, et] at c5; omega)).1]
      refine z_bipush (pc := 25) (v := 57) C dX10_isFigure_25 rfl ?_
      refine z_icmp_gt (pc := 27) C 34 dX10_isFigure_27 (by decide) (fun c27 => ?_) (fun c27 => ?_)
      · refine z_iconst (pc := 34) (v := 0) C dX10_isFigure_34 rfl ?_
        refine z_zreturn (pc := 35) C K dX10_isFigure_35 (Or.inl rfl) ?_
        exact ⟨_, rfl, Or.inr ⟨rfl, fun z => Int32.not_lt.mpr (tsrt_2.mp z).2.2 c27⟩, rfl⟩
      · refine z_iconst (pc := 30) (v := 1) C dX10_isFigure_30 rfl ?_
        refine z_goto (pc := 31) C 35 dX10_isFigure_31 (by decide) ?_
        refine z_zreturn (pc := 35) C K dX10_isFigure_35 (Or.inr rfl) ?_
        refine ⟨_, rfl, Or.inl ⟨rfl, tsrt_2.mpr ⟨?_, Int32.not_lt.mp c16, Int32.not_lt.mp c27⟩⟩, rfl⟩
        rw [zi_le, ep, et] at c5
        omega

set_option maxHeartbeats 800000 in
set_option maxRecDepth 100000 in
theorem mX10_go {l : Launch} {G : zG} {b : Nat} {M : zM} {B : Nat → Int32} {t : Nat} (hT : gtp M B t) {x : Lx} (h8 : M 30 0 0 8 = nI x.2.1) (he : x.2.1 ≤ t) (hi : eInv M x) : zMet l G b yX10_go cX10_go 2 none 1 zshL zshL [.ref (b + 239)] M (zV (fun M' => gst M' B (ladv B t x) ∧ fg M M')) := by
  refine zMet.of (L0 := [some (.ref (b + 239)), none]) (by decide +kernel) (Nat.le_refl _) (Nat.le_refl _) (Nat.le_of_ble_eq_true rfl) (List.forall_mem_cons.mpr ⟨rfl, fun _ h => absurd h List.not_mem_nil⟩) rfl (fun X C Al K => ?_)
  have h96 := hT.2.1
  generalize hS : lskip B (t - x.2.1) x.2.1 = S
  have hSb : x.2.1 ≤ S ∧ S ≤ t := by
    have := lskip_b (B := B) (t - x.2.1) x.2.1
    omega
  generalize hKd : tsrt B t S = Kd
  have hK3 : Kd ≤ 3 := by rw [← hKd]; exact tsrt_3 B t S
  generalize hE : lend B t S = E
  have hEb : S ≤ E ∧ E ≤ t ∧ (S < t → S < E) := by rw [← hE]; exact lend_b hSb.2
  have eS : (nI S).toInt = S := nI_toInt (by omega)
  have et : (nI t).toInt = t := nI_toInt (by omega)
  have hE2 := hE
  unfold lend at hE2
  rw [hKd] at hE2
  have res : ladv B t x = (S, E, Kd, if (x.2.2.1 = 1 ∨ x.2.2.1 = 2) ∧ S = x.2.1 ∧ (Kd = 1 ∨ Kd = 2) then 1 else 0) := by
    unfold ladv
    rw [hS, hKd, hE]
  have gl : ∀ (v : Int32), ((v = 1 ∧ wdL x ∧ S = x.2.1) ∨ (v = 0 ∧ ¬ (wdL x ∧ S = x.2.1))) → (Kd = 1 ∨ Kd = 2) → (if (x.2.2.1 = 1 ∨ x.2.2.1 = 2) ∧ S = x.2.1 ∧ (Kd = 1 ∨ Kd = 2) then 1 else 0) = (if v = 0 then 0 else 1) := by
    intro v hv hk
    rcases hv with ⟨rfl, h1, h2⟩ | ⟨rfl, h1⟩
    · rw [if_pos ⟨h1, h2, hk⟩, if_neg (by decide)]
    · rw [if_neg (fun z => h1 ⟨z.1, z.2.1⟩), if_pos rfl]
  have figs : ∀ (v : Int32), ((v = 1 ∧ wdL x ∧ S = x.2.1) ∨ (v = 0 ∧ ¬ (wdL x ∧ S = x.2.1))) → Kd = 2 → ∀ (d p : Nat) (M1 : zM), p + d = t → S ≤ p → lrun B t Kd (t - p) p = E → fg M M1 → M1 30 0 0 9 = nI S → M1 30 0 0 8 = nI p → M1 30 0 0 11 = nv B S (min (p - S) 4) → zW X zshL M1 170 [some (.ref (b + 239)), some (.int v)] [] := by
    intro v hv hk2 d
    have stop : ∀ (p : Nat) (M1 : zM), S ≤ p → p ≤ t → p = E → fg M M1 → M1 30 0 0 9 = nI S → M1 30 0 0 8 = nI p → M1 30 0 0 11 = nv B S (min (p - S) 4) → zW X zshL M1 238 [some (.ref (b + 239)), some (.int v)] [] := by
      intro p M1 hp1 hp2 hpE hf g9 g8 g11
      have esub : (nI p - nI S).toInt = (p - S : Nat) := by
        rw [zi_sub (by rw [nI_toInt (by omega), eS]; omega) (by rw [nI_toInt (by omega), eS]; omega), nI_toInt (by omega), eS]
        omega
      have c4 : (4 : Int32).toInt = 4 := by decide
      have done : ∀ w : Int32, w = tok (ladv B t x) → gst (zu (zu M1 30 0 0 10 w) 30 0 0 12 (nI p)) B (ladv B t x) ∧ fg M (zu (zu M1 30 0 0 10 w) 30 0 0 12 (nI p)) := by
        intro w hw
        rw [hw, res]
        refine ⟨⟨?_, ?_, ?_, fun z => ?_, fun _ z => ?_, fun _ => Or.inl ⟨Or.inr hk2, ?_⟩⟩, (hf.trans (fg.zu (by decide) (by decide))).trans (fg.zu (by decide) (by decide))⟩
        · rw [zu_f (by decide), zu_f (by decide)]; exact g9
        · rw [zu_f (by decide), zu_f (by decide), g8, hpE]
        · rw [zu_f (by decide), zu_self]
        · exact absurd z (by show ¬ (Kd = 1 ∨ Kd = 3); omega)
        · rw [zu_f (by decide), zu_f (by decide), g11]
          show nv B S (min (p - S) 4) = nv B S (E - S)
          replace z : E - S ≤ 4 := z
          rw [show min (p - S) 4 = E - S by omega]
        · rw [zu_self, hpE]
      have tk : tok (ladv B t x) = if v = 0 then (if p - S ≤ 4 then 2 else 4) else 4 := by
        rw [res, gl v hv (Or.inr hk2)]
        unfold tok
        show (if Kd = 0 then (0 : Int32) else if Kd = 3 then 3 else if (if v = 0 then 0 else 1) = 1 then 4 else if Kd = 1 then 1 else if E - S ≤ 4 then 2 else 4) = _
        rw [if_neg (by omega), if_neg (by omega)]
        by_cases q : v = 0
        · rw [if_pos q, if_neg (by decide), if_neg (by omega), if_pos q, hpE]
        · rw [if_neg q, if_pos rfl, if_neg q]
      refine z_aload_n (pc := 238) C 0 dX10_go_238 rfl rfl ?_
      refine z_iload_n (pc := 239) C 1 dX10_go_239 rfl rfl ?_
      refine z_if_ne (pc := 240) C 256 dX10_go_240 (by decide) (fun c240 => ?_) (fun c240 => ?_)
      · refine z_iconst (pc := 256) (v := 4) C dX10_go_256 rfl ?_
        refine z_goto (pc := 257) C 261 dX10_go_257 (by decide) ?_
        refine z_putII (pc := 261) C dX10_go_261 fX10_218 sh_239 rfl ?_
        refine z_aload_n (pc := 264) C 0 dX10_go_264 rfl rfl ?_
        refine z_aload_n (pc := 265) C 0 dX10_go_265 rfl rfl ?_
        refine z_getI (pc := 266) C dX10_go_266 fX10_209 sh_239 rfl ?_
        rw [zu_f (by decide), g8]
        refine z_putII (pc := 269) C dX10_go_269 fX10_215 sh_239 rfl ?_
        refine z_goto (pc := 272) C 303 dX10_go_272 (by decide) ?_
        refine z_return (pc := 303) C K dX10_go_303 ?_
        exact ⟨rfl, done 4 (by rw [tk, if_neg c240])⟩
      · refine z_aload_n (pc := 243) C 0 dX10_go_243 rfl rfl ?_
        refine z_getI (pc := 244) C dX10_go_244 fX10_209 sh_239 rfl ?_
        refine z_aload_n (pc := 247) C 0 dX10_go_247 rfl rfl ?_
        refine z_getI (pc := 248) C dX10_go_248 fX10_212 sh_239 rfl ?_
        refine z_isub (pc := 251) C dX10_go_251 ?_
        refine z_iconst (pc := 252) (v := 4) C dX10_go_252 rfl ?_
        rw [g8, g9]
        refine z_icmp_le (pc := 253) C 260 dX10_go_253 (by decide) (fun c253 => ?_) (fun c253 => ?_)
        · refine z_iconst (pc := 260) (v := 2) C dX10_go_260 rfl ?_
          refine z_putII (pc := 261) C dX10_go_261 fX10_218 sh_239 rfl ?_
          refine z_aload_n (pc := 264) C 0 dX10_go_264 rfl rfl ?_
          refine z_aload_n (pc := 265) C 0 dX10_go_265 rfl rfl ?_
          refine z_getI (pc := 266) C dX10_go_266 fX10_209 sh_239 rfl ?_
          rw [zu_f (by decide), g8]
          refine z_putII (pc := 269) C dX10_go_269 fX10_215 sh_239 rfl ?_
          refine z_goto (pc := 272) C 303 dX10_go_272 (by decide) ?_
          refine z_return (pc := 303) C K dX10_go_303 ?_
          exact ⟨rfl, done 2 (by rw [zi_le, esub, c4] at c253; rw [tk, if_pos c240, if_pos (by omega)])⟩
        · refine z_iconst (pc := 256) (v := 4) C dX10_go_256 rfl ?_
          refine z_goto (pc := 257) C 261 dX10_go_257 (by decide) ?_
          refine z_putII (pc := 261) C dX10_go_261 fX10_218 sh_239 rfl ?_
          refine z_aload_n (pc := 264) C 0 dX10_go_264 rfl rfl ?_
          refine z_aload_n (pc := 265) C 0 dX10_go_265 rfl rfl ?_
          refine z_getI (pc := 266) C dX10_go_266 fX10_209 sh_239 rfl ?_
          rw [zu_f (by decide), g8]
          refine z_putII (pc := 269) C dX10_go_269 fX10_215 sh_239 rfl ?_
          refine z_goto (pc := 272) C 303 dX10_go_272 (by decide) ?_
          refine z_return (pc := 303) C K dX10_go_303 ?_
          exact ⟨rfl, done 4 (by rw [zi_le, esub, c4] at c253; rw [tk, if_pos c240, if_neg (by omega)])⟩
    induction d with
    | zero =>
      intro p M1 hp hp1 hr hf g9 g8 g11
      obtain rfl : p = t := by omega
      have hpE : p = E := by
        rw [Nat.sub_self, lrun] at hr
        exact hr
      refine z_aload_n (pc := 170) C 0 dX10_go_170 rfl rfl ?_
      refine z_aload_n (pc := 171) C 0 dX10_go_171 rfl rfl ?_
      refine z_getI (pc := 172) C dX10_go_172 fX10_209 sh_239 rfl ?_
      rw [g8]
      refine z_callVi (pc := 175) C dX10_go_175 kX10_227 (mX10_isFigure (hT.on hf) (p := p) (by omega)) (by decide) sh_239 rfl rfl rfl (Nat.le_of_ble_eq_true rfl) (fun r175 M175 h175 => ?_)
      obtain ⟨h175, e175⟩ := h175
      subst M175
      refine z_if_eq (pc := 178) C 238 dX10_go_178 (by decide) (fun c178 => ?_) (fun c178 => absurd (h175.yes c178) (fun z => absurd (tsrt_2.mp z).1 (by omega)))
      exact stop p M1 hp1 (Nat.le_refl _) hpE hf g9 g8 g11
    | succ d ih =>
      intro p M1 hp hp1 hr hf g9 g8 g11
      rw [show t - p = (t - (p + 1)) + 1 by omega, lrun] at hr
      have hT' := hT.on hf
      have esub : (nI p - nI S).toInt = (p - S : Nat) := by
        rw [zi_sub (by rw [nI_toInt (by omega), eS]; omega) (by rw [nI_toInt (by omega), eS]; omega), nI_toInt (by omega), eS]
        omega
      have c4 : (4 : Int32).toInt = 4 := by decide
      refine z_aload_n (pc := 170) C 0 dX10_go_170 rfl rfl ?_
      refine z_aload_n (pc := 171) C 0 dX10_go_171 rfl rfl ?_
      refine z_getI (pc := 172) C dX10_go_172 fX10_209 sh_239 rfl ?_
      rw [g8]
      refine z_callVi (pc := 175) C dX10_go_175 kX10_227 (mX10_isFigure hT' (p := p) (by omega)) (by decide) sh_239 rfl rfl rfl (Nat.le_of_ble_eq_true rfl) (fun r175 M175 h175 => ?_)
      obtain ⟨h175, e175⟩ := h175
      subst M175
      refine z_if_eq (pc := 178) C 238 dX10_go_178 (by decide) (fun c178 => ?_) (fun c178 => ?_)
      · rw [if_neg (fun z => h175.no c178 (z.trans hk2))] at hr
        exact stop p M1 hp1 (by omega) hr hf g9 g8 g11
      · refine z_aload_n (pc := 181) C 0 dX10_go_181 rfl rfl ?_
        refine z_aload_n (pc := 182) C 0 dX10_go_182 rfl rfl ?_
        refine z_getI (pc := 183) C dX10_go_183 fX10_209 sh_239 rfl ?_
        refine z_aload_n (pc := 186) C 0 dX10_go_186 rfl rfl ?_
        refine z_getI (pc := 187) C dX10_go_187 fX10_212 sh_239 rfl ?_
        refine z_isub (pc := 190) C dX10_go_190 ?_
        refine z_iconst (pc := 191) (v := 4) C dX10_go_191 rfl ?_
        rw [g8, g9]
        refine z_icmp_ge (pc := 192) C 218 dX10_go_192 (by decide) (fun c192 => ?_) (fun c192 => ?_)
        · refine z_aload_n (pc := 218) C 0 dX10_go_218 rfl rfl ?_
          refine z_getI (pc := 219) C dX10_go_219 fX10_224 sh_239 rfl ?_
          rw [g11]
          refine z_putII (pc := 222) C dX10_go_222 fX10_224 sh_239 rfl ?_
          refine z_aload_n (pc := 225) C 0 dX10_go_225 rfl rfl ?_
          refine z_dup (pc := 226) C dX10_go_226 rfl ?_
          refine z_getI (pc := 227) C dX10_go_227 fX10_209 sh_239 rfl ?_
          refine z_iconst (pc := 230) (v := 1) C dX10_go_230 rfl ?_
          refine z_iadd (pc := 231) C dX10_go_231 ?_
          rw [zu_f (by decide), g8, nI_1]
          refine z_putII (pc := 232) C dX10_go_232 fX10_209 sh_239 rfl ?_
          refine z_goto (pc := 235) C 170 dX10_go_235 (by decide) ?_
          have ev : nv B S (min (p + 1 - S) 4) = nv B S (min (p - S) 4) := by
            rw [zi_le, c4, esub] at c192
            rw [show min (p + 1 - S) 4 = 4 by omega, show min (p - S) 4 = 4 by omega]
          rw [if_pos ((h175.yes c178).trans hk2.symm)] at hr
          exact ih (p + 1) _ (by omega) (by omega) hr ((hf.trans (fg.zu (by decide) (by decide))).trans (fg.zu (by decide) (by decide))) (by rw [zu_f (by decide), zu_f (by decide)]; exact g9) (by rw [zu_self]) (by rw [zu_f (by decide), zu_self, ev])
        · refine z_bipush (pc := 195) (v := 10) C dX10_go_195 rfl ?_
          refine z_aload_n (pc := 197) C 0 dX10_go_197 rfl rfl ?_
          refine z_getI (pc := 198) C dX10_go_198 fX10_224 sh_239 rfl ?_
          rw [g11]
          refine z_imul (pc := 201) C dX10_go_201 ?_
          refine z_aload_n (pc := 202) C 0 dX10_go_202 rfl rfl ?_
          refine z_getR (pc := 203) (r := 245) C dX10_go_203 fX10_25 sh_239 rfl ?_
          refine z_aload_n (pc := 206) C 0 dX10_go_206 rfl rfl ?_
          refine z_getI (pc := 207) C dX10_go_207 fX10_209 sh_239 rfl ?_
          rw [g8]
          refine z_iald (pc := 210) (n := p) C dX10_go_210 sh_245 (vp_in_nI (by omega) (by decide)) (nI_clamp (by omega)) ?_
          rw [(hT'.2.2 p (by omega)).1]
          refine z_iadd (pc := 211) C dX10_go_211 ?_
          refine z_bipush (pc := 212) (v := 48) C dX10_go_212 rfl ?_
          refine z_isub (pc := 214) C dX10_go_214 ?_
          refine z_goto (pc := 215) C 222 dX10_go_215 (by decide) ?_
          refine z_putII (pc := 222) C dX10_go_222 fX10_224 sh_239 rfl ?_
          refine z_aload_n (pc := 225) C 0 dX10_go_225 rfl rfl ?_
          refine z_dup (pc := 226) C dX10_go_226 rfl ?_
          refine z_getI (pc := 227) C dX10_go_227 fX10_209 sh_239 rfl ?_
          refine z_iconst (pc := 230) (v := 1) C dX10_go_230 rfl ?_
          refine z_iadd (pc := 231) C dX10_go_231 ?_
          rw [zu_f (by decide), g8, nI_1]
          refine z_putII (pc := 232) C dX10_go_232 fX10_209 sh_239 rfl ?_
          refine z_goto (pc := 235) C 170 dX10_go_235 (by decide) ?_
          have ev : nv B S (min (p + 1 - S) 4) = 10 * nv B S (min (p - S) 4) + B p - 48 := by
            rw [zi_le, c4, esub] at c192
            rw [show min (p + 1 - S) 4 = (p - S) + 1 by omega, show min (p - S) 4 = p - S by omega, nv, show S + (p - S) = p by omega, Int32.mul_comm]
          rw [if_pos ((h175.yes c178).trans hk2.symm)] at hr
          exact ih (p + 1) _ (by omega) (by omega) hr ((hf.trans (fg.zu (by decide) (by decide))).trans (fg.zu (by decide) (by decide))) (by rw [zu_f (by decide), zu_f (by decide)]; exact g9) (by rw [zu_self]) (by rw [zu_f (by decide), zu_self, ev])
  have lets : ∀ (v : Int32), ((v = 1 ∧ wdL x ∧ S = x.2.1) ∨ (v = 0 ∧ ¬ (wdL x ∧ S = x.2.1))) → Kd = 1 → ∀ (d p : Nat) (M1 : zM), p + d = t → S ≤ p → lrun B t Kd (t - p) p = E → fg M M1 → M1 30 0 0 9 = nI S → M1 30 0 0 8 = nI p → zW X zshL M1 93 [some (.ref (b + 239)), some (.int v)] [] := by
    intro v hv hk1 d
    have hSt : S < t := by
      rcases Nat.lt_or_ge S t with z | z
      · exact z
      · rw [tsrt_0.mpr z] at hKd
        omega
    have stop : ∀ (p : Nat) (M1 : zM), p = E → fg M M1 → M1 30 0 0 9 = nI S → M1 30 0 0 8 = nI p → zW X zshL M1 117 [some (.ref (b + 239)), some (.int v)] [] := by
      intro p M1 hpE hf g9 g8
      have hT' := hT.on hf
      have done : ∀ w : Int32, w = tok (ladv B t x) → gst (zu (zu (zu M1 30 0 0 10 w) 30 0 0 11 (B S)) 30 0 0 12 (nI p)) B (ladv B t x) ∧ fg M (zu (zu (zu M1 30 0 0 10 w) 30 0 0 11 (B S)) 30 0 0 12 (nI p)) := by
        intro w hw
        rw [hw, res]
        refine ⟨⟨?_, ?_, ?_, fun z => ?_, fun z => ?_, fun _ => Or.inl ⟨Or.inl hk1, ?_⟩⟩, ((hf.trans (fg.zu (by decide) (by decide))).trans (fg.zu (by decide) (by decide))).trans (fg.zu (by decide) (by decide))⟩
        · rw [zu_f (by decide), zu_f (by decide), zu_f (by decide)]; exact g9
        · rw [zu_f (by decide), zu_f (by decide), zu_f (by decide), g8, hpE]
        · rw [zu_f (by decide), zu_f (by decide), zu_self]
        · rw [zu_f (by decide), zu_self]
        · exact absurd z (by show ¬ Kd = 2; omega)
        · rw [zu_self, hpE]
      have tk : tok (ladv B t x) = if v = 0 then 1 else 4 := by
        rw [res, gl v hv (Or.inl hk1)]
        unfold tok
        show (if Kd = 0 then (0 : Int32) else if Kd = 3 then 3 else if (if v = 0 then 0 else 1) = 1 then 4 else if Kd = 1 then 1 else if E - S ≤ 4 then 2 else 4) = _
        rw [if_neg (by omega), if_neg (by omega)]
        by_cases q : v = 0
        · rw [if_pos q, if_neg (by decide), if_pos hk1, if_pos q]
        · rw [if_neg q, if_pos rfl, if_neg q]
      refine z_aload_n (pc := 117) C 0 dX10_go_117 rfl rfl ?_
      refine z_iload_n (pc := 118) C 1 dX10_go_118 rfl rfl ?_
      refine z_if_eq (pc := 119) C 126 dX10_go_119 (by decide) (fun c119 => ?_) (fun c119 => ?_)
      · refine z_iconst (pc := 126) (v := 1) C dX10_go_126 rfl ?_
        refine z_putII (pc := 127) C dX10_go_127 fX10_218 sh_239 rfl ?_
        refine z_aload_n (pc := 130) C 0 dX10_go_130 rfl rfl ?_
        refine z_aload_n (pc := 131) C 0 dX10_go_131 rfl rfl ?_
        refine z_getR (pc := 132) (r := 245) C dX10_go_132 fX10_25 sh_239 rfl ?_
        refine z_aload_n (pc := 135) C 0 dX10_go_135 rfl rfl ?_
        refine z_getI (pc := 136) C dX10_go_136 fX10_212 sh_239 rfl ?_
        rw [zu_f (by decide), g9]
        refine z_iald (pc := 139) (n := S) C dX10_go_139 sh_245 (vp_in_nI (by omega) (by decide)) (nI_clamp (by omega)) ?_
        rw [zu_a (by decide), (hT'.2.2 S hSt).1]
        refine z_putII (pc := 140) C dX10_go_140 fX10_224 sh_239 rfl ?_
        refine z_aload_n (pc := 143) C 0 dX10_go_143 rfl rfl ?_
        refine z_aload_n (pc := 144) C 0 dX10_go_144 rfl rfl ?_
        refine z_getI (pc := 145) C dX10_go_145 fX10_209 sh_239 rfl ?_
        rw [zu_f (by decide), zu_f (by decide), g8]
        refine z_putII (pc := 148) C dX10_go_148 fX10_215 sh_239 rfl ?_
        refine z_goto (pc := 151) C 303 dX10_go_151 (by decide) ?_
        refine z_return (pc := 303) C K dX10_go_303 ?_
        exact ⟨rfl, done 1 (by rw [tk, if_pos c119])⟩
      · refine z_iconst (pc := 122) (v := 4) C dX10_go_122 rfl ?_
        refine z_goto (pc := 123) C 127 dX10_go_123 (by decide) ?_
        refine z_putII (pc := 127) C dX10_go_127 fX10_218 sh_239 rfl ?_
        refine z_aload_n (pc := 130) C 0 dX10_go_130 rfl rfl ?_
        refine z_aload_n (pc := 131) C 0 dX10_go_131 rfl rfl ?_
        refine z_getR (pc := 132) (r := 245) C dX10_go_132 fX10_25 sh_239 rfl ?_
        refine z_aload_n (pc := 135) C 0 dX10_go_135 rfl rfl ?_
        refine z_getI (pc := 136) C dX10_go_136 fX10_212 sh_239 rfl ?_
        rw [zu_f (by decide), g9]
        refine z_iald (pc := 139) (n := S) C dX10_go_139 sh_245 (vp_in_nI (by omega) (by decide)) (nI_clamp (by omega)) ?_
        rw [zu_a (by decide), (hT'.2.2 S hSt).1]
        refine z_putII (pc := 140) C dX10_go_140 fX10_224 sh_239 rfl ?_
        refine z_aload_n (pc := 143) C 0 dX10_go_143 rfl rfl ?_
        refine z_aload_n (pc := 144) C 0 dX10_go_144 rfl rfl ?_
        refine z_getI (pc := 145) C dX10_go_145 fX10_209 sh_239 rfl ?_
        rw [zu_f (by decide), zu_f (by decide), g8]
        refine z_putII (pc := 148) C dX10_go_148 fX10_215 sh_239 rfl ?_
        refine z_goto (pc := 151) C 303 dX10_go_151 (by decide) ?_
        refine z_return (pc := 303) C K dX10_go_303 ?_
        exact ⟨rfl, done 4 (by rw [tk, if_neg c119])⟩
    induction d with
    | zero =>
      intro p M1 hp hp1 hr hf g9 g8
      obtain rfl : p = t := by omega
      have hpE : p = E := by
        rw [Nat.sub_self, lrun] at hr
        exact hr
      refine z_aload_n (pc := 93) C 0 dX10_go_93 rfl rfl ?_
      refine z_aload_n (pc := 94) C 0 dX10_go_94 rfl rfl ?_
      refine z_getI (pc := 95) C dX10_go_95 fX10_209 sh_239 rfl ?_
      rw [g8]
      refine z_callVi (pc := 98) C dX10_go_98 kX10_221 (mX10_isLetter (hT.on hf) (p := p) (by omega)) (by decide) sh_239 rfl rfl rfl (Nat.le_of_ble_eq_true rfl) (fun r98 M98 h98 => ?_)
      obtain ⟨h98, e98⟩ := h98
      subst M98
      refine z_if_eq (pc := 101) C 117 dX10_go_101 (by decide) (fun c101 => ?_) (fun c101 => absurd (h98.yes c101) (fun z => absurd (tsrt_1.mp z).1 (by omega)))
      exact stop p M1 hpE hf g9 g8
    | succ d ih =>
      intro p M1 hp hp1 hr hf g9 g8
      rw [show t - p = (t - (p + 1)) + 1 by omega, lrun] at hr
      refine z_aload_n (pc := 93) C 0 dX10_go_93 rfl rfl ?_
      refine z_aload_n (pc := 94) C 0 dX10_go_94 rfl rfl ?_
      refine z_getI (pc := 95) C dX10_go_95 fX10_209 sh_239 rfl ?_
      rw [g8]
      refine z_callVi (pc := 98) C dX10_go_98 kX10_221 (mX10_isLetter (hT.on hf) (p := p) (by omega)) (by decide) sh_239 rfl rfl rfl (Nat.le_of_ble_eq_true rfl) (fun r98 M98 h98 => ?_)
      obtain ⟨h98, e98⟩ := h98
      subst M98
      refine z_if_eq (pc := 101) C 117 dX10_go_101 (by decide) (fun c101 => ?_) (fun c101 => ?_)
      · rw [if_neg (fun z => h98.no c101 (z.trans hk1))] at hr
        exact stop p M1 hr hf g9 g8
      · refine z_aload_n (pc := 104) C 0 dX10_go_104 rfl rfl ?_
        refine z_dup (pc := 105) C dX10_go_105 rfl ?_
        refine z_getI (pc := 106) C dX10_go_106 fX10_209 sh_239 rfl ?_
        refine z_iconst (pc := 109) (v := 1) C dX10_go_109 rfl ?_
        refine z_iadd (pc := 110) C dX10_go_110 ?_
        rw [g8, nI_1]
        refine z_putII (pc := 111) C dX10_go_111 fX10_209 sh_239 rfl ?_
        refine z_goto (pc := 114) C 93 dX10_go_114 (by decide) ?_
        rw [if_pos ((h98.yes c101).trans hk1.symm)] at hr
        exact ih (p + 1) _ (by omega) (by omega) hr (hf.trans (fg.zu (by decide) (by decide))) (by rw [zu_f (by decide)]; exact g9) (by rw [zu_self])
  have e38 : ∀ (M1 : zM), fg M M1 → M1 30 0 0 12 = M 30 0 0 12 → M1 30 0 0 8 = nI S → zW X zshL M1 38 [some (.ref (b + 239)), none] [] := by
    intro M1 hf g12 g8
    have hT' := hT.on hf
    have hf2 : fg M (zu M1 30 0 0 9 (nI S)) := hf.trans (fg.zu (by decide) (by decide))
    have hT2 := hT.on hf2
    have g9 : zu M1 30 0 0 9 (nI S) 30 0 0 9 = nI S := zu_self _ _ _ _ _ _
    have g8' : zu M1 30 0 0 9 (nI S) 30 0 0 8 = nI S := by rw [zu_f (by decide)]; exact g8
    have cl : ∀ v : Int32, ((v = 1 ∧ nI S = M 30 0 0 12) ∨ (v = 0 ∧ ¬ nI S = M 30 0 0 12)) → ((v = 1 ∧ wdL x ∧ S = x.2.1) ∨ (v = 0 ∧ ¬ (wdL x ∧ S = x.2.1))) := by
      intro v hv
      rcases hi with ⟨w1, w2⟩ | ⟨w1, w2⟩
      · rcases hv with ⟨h1, h2⟩ | ⟨h1, h2⟩
        · exact Or.inl ⟨h1, w1, nI_inj' (by omega) (by omega) (h2.trans w2)⟩
        · exact Or.inr ⟨h1, fun z => h2 (by rw [w2, z.2])⟩
      · have hne : ¬ nI S = M 30 0 0 12 := by
          rcases w2 with w2 | ⟨w, w3, w2⟩
          · rw [w2, zi_eq, eS, im1]
            omega
          · rw [w2]
            intro z
            have := nI_inj' (by omega) (by omega) z
            omega
        rcases hv with ⟨h1, h2⟩ | ⟨h1, h2⟩
        · exact absurd h2 hne
        · exact Or.inr ⟨h1, fun z => w1 z.1⟩
    have e63 : ∀ v : Int32, ((v = 1 ∧ wdL x ∧ S = x.2.1) ∨ (v = 0 ∧ ¬ (wdL x ∧ S = x.2.1))) → zW X zshL (zu M1 30 0 0 9 (nI S)) 63 [some (.ref (b + 239)), some (.int v)] [] := by
      intro v hv
      refine z_aload_n (pc := 63) C 0 dX10_go_63 rfl rfl ?_
      refine z_getI (pc := 64) C dX10_go_64 fX10_212 sh_239 rfl ?_
      refine z_aload_n (pc := 67) C 0 dX10_go_67 rfl rfl ?_
      refine z_getI (pc := 68) C dX10_go_68 fX10_205 sh_239 rfl ?_
      rw [g9, hT2.1]
      refine z_icmp_ne (pc := 71) C 82 dX10_go_71 (by decide) (fun c71 => ?_) (fun c71 => ?_)
      · refine z_aload_n (pc := 82) C 0 dX10_go_82 rfl rfl ?_
        refine z_aload_n (pc := 83) C 0 dX10_go_83 rfl rfl ?_
        refine z_getI (pc := 84) C dX10_go_84 fX10_212 sh_239 rfl ?_
        rw [g9]
        refine z_callVi (pc := 87) C dX10_go_87 kX10_221 (mX10_isLetter hT2 (p := S) (by omega)) (by decide) sh_239 rfl rfl rfl (Nat.le_of_ble_eq_true rfl) (fun r87 M87 h87 => ?_)
        obtain ⟨h87, e87⟩ := h87
        subst M87
        refine z_if_eq (pc := 90) C 154 dX10_go_90 (by decide) (fun c90 => ?_) (fun c90 => ?_)
        · refine z_aload_n (pc := 154) C 0 dX10_go_154 rfl rfl ?_
          refine z_aload_n (pc := 155) C 0 dX10_go_155 rfl rfl ?_
          refine z_getI (pc := 156) C dX10_go_156 fX10_212 sh_239 rfl ?_
          rw [g9]
          refine z_callVi (pc := 159) C dX10_go_159 kX10_227 (mX10_isFigure hT2 (p := S) (by omega)) (by decide) sh_239 rfl rfl rfl (Nat.le_of_ble_eq_true rfl) (fun r159 M159 h159 => ?_)
          obtain ⟨h159, e159⟩ := h159
          subst M159
          refine z_if_eq (pc := 162) C 275 dX10_go_162 (by decide) (fun c162 => ?_) (fun c162 => ?_)
          · refine z_aload_n (pc := 275) C 0 dX10_go_275 rfl rfl ?_
            refine z_iconst (pc := 276) (v := 3) C dX10_go_276 rfl ?_
            refine z_putII (pc := 277) C dX10_go_277 fX10_218 sh_239 rfl ?_
            refine z_aload_n (pc := 280) C 0 dX10_go_280 rfl rfl ?_
            refine z_aload_n (pc := 281) C 0 dX10_go_281 rfl rfl ?_
            refine z_getR (pc := 282) (r := 245) C dX10_go_282 fX10_25 sh_239 rfl ?_
            refine z_aload_n (pc := 285) C 0 dX10_go_285 rfl rfl ?_
            refine z_getI (pc := 286) C dX10_go_286 fX10_212 sh_239 rfl ?_
            rw [zu_f (by decide), g9]
            have hSt2 : S < t := by
              have : ¬ S = t := fun z => c71 (by rw [z])
              omega
            refine z_iald (pc := 289) (n := S) C dX10_go_289 sh_245 (vp_in_nI (by omega) (by decide)) (nI_clamp (by omega)) ?_
            rw [zu_a (by decide), (hT2.2.2 S hSt2).1]
            refine z_putII (pc := 290) C dX10_go_290 fX10_224 sh_239 rfl ?_
            refine z_aload_n (pc := 293) C 0 dX10_go_293 rfl rfl ?_
            refine z_dup (pc := 294) C dX10_go_294 rfl ?_
            refine z_getI (pc := 295) C dX10_go_295 fX10_209 sh_239 rfl ?_
            refine z_iconst (pc := 298) (v := 1) C dX10_go_298 rfl ?_
            refine z_iadd (pc := 299) C dX10_go_299 ?_
            rw [zu_f (by decide), zu_f (by decide), g8', nI_1]
            refine z_putII (pc := 300) C dX10_go_300 fX10_209 sh_239 rfl ?_
            refine z_return (pc := 303) C K dX10_go_303 ?_
            have hSt : ¬ S = t := fun z => c71 (by rw [z])
            have hk0 : ¬ Kd = 0 := fun z => by rw [z] at hKd; have := tsrt_0.mp hKd; omega
            have hk3 : Kd = 3 := by
              have a1 : ¬ Kd = 1 := fun z => h87.no c90 (hKd.trans z)
              have a2 : ¬ Kd = 2 := fun z => h159.no c162 (hKd.trans z)
              omega
            have hES : E = S + 1 := by rw [if_pos hk3] at hE2; exact hE2.symm
            rw [res]
            refine ⟨rfl, ⟨?_, ?_, ?_, fun z => ?_, fun z => ?_, fun _ => Or.inr ⟨?_, ?_⟩⟩, ((hf2.trans (fg.zu (by decide) (by decide))).trans (fg.zu (by decide) (by decide))).trans (fg.zu (by decide) (by decide))⟩
            · rw [zu_f (by decide), zu_f (by decide), zu_f (by decide)]; exact g9
            · rw [zu_self, hES]
            · rw [zu_f (by decide), zu_f (by decide), zu_self]
              show (3 : Int32) = if Kd = 0 then (0 : Int32) else if Kd = 3 then 3 else _
              rw [if_neg hk0, if_pos hk3]
            · rw [zu_f (by decide), zu_self]
            · exact absurd z (by show ¬ Kd = 2; omega)
            · show ¬ (Kd = 1 ∨ Kd = 2)
              omega
            · rw [zu_f (by decide), zu_f (by decide), zu_f (by decide), zu_f (by decide), g12]
              show M 30 0 0 12 = -1 ∨ ∃ w, w < E ∧ M 30 0 0 12 = nI w
              rcases hi with ⟨w1, w2⟩ | ⟨w1, w2 | ⟨w, w3, w2⟩⟩
              · exact Or.inr ⟨x.2.1, by omega, w2⟩
              · exact Or.inl w2
              · exact Or.inr ⟨w, by omega, w2⟩
          · refine z_aload_n (pc := 165) C 0 dX10_go_165 rfl rfl ?_
            refine z_iconst (pc := 166) (v := 0) C dX10_go_166 rfl ?_
            refine z_putII (pc := 167) C dX10_go_167 fX10_224 sh_239 rfl ?_
            have hk2 : Kd = 2 := hKd.symm.trans (h159.yes c162)
            rw [if_neg (by omega), if_neg (by omega)] at hE2
            exact figs v hv hk2 (t - S) S _ (by omega) (Nat.le_refl _) hE2 (hf2.trans (fg.zu (by decide) (by decide))) (by rw [zu_f (by decide)]; exact g9) (by rw [zu_f (by decide)]; exact g8') (by rw [zu_self, Nat.sub_self]; rfl)
        · have hk1 : Kd = 1 := hKd.symm.trans (h87.yes c90)
          rw [if_neg (by omega), if_neg (by omega)] at hE2
          exact lets v hv hk1 (t - S) S _ (by omega) (Nat.le_refl _) hE2 hf2 g9 g8'
      · refine z_aload_n (pc := 74) C 0 dX10_go_74 rfl rfl ?_
        refine z_iconst (pc := 75) (v := 0) C dX10_go_75 rfl ?_
        refine z_putII (pc := 76) C dX10_go_76 fX10_218 sh_239 rfl ?_
        refine z_goto (pc := 79) C 303 dX10_go_79 (by decide) ?_
        refine z_return (pc := 303) C K dX10_go_303 ?_
        have hSt : S = t := nI_inj' (by omega) (by omega) c71
        have hk0 : Kd = 0 := by rw [← hKd]; exact tsrt_0.mpr (by omega)
        have hES : E = S := by rw [if_neg (by omega), if_pos hk0] at hE2; exact hE2.symm
        rw [res]
        refine ⟨rfl, ⟨?_, ?_, ?_, fun z => ?_, fun z => ?_, fun z => absurd hk0 z⟩, hf2.trans (fg.zu (by decide) (by decide))⟩
        · rw [zu_f (by decide)]; exact g9
        · rw [zu_f (by decide), g8', hES]
        · rw [zu_self]
          exact (if_pos hk0).symm
        · exact absurd z (by show ¬ (Kd = 1 ∨ Kd = 3); omega)
        · exact absurd z (by show ¬ Kd = 2; omega)
    refine z_aload_n (pc := 38) C 0 dX10_go_38 rfl rfl ?_
    refine z_aload_n (pc := 39) C 0 dX10_go_39 rfl rfl ?_
    refine z_getI (pc := 40) C dX10_go_40 fX10_209 sh_239 rfl ?_
    rw [g8]
    refine z_putII (pc := 43) C dX10_go_43 fX10_212 sh_239 rfl ?_
    refine z_aload_n (pc := 46) C 0 dX10_go_46 rfl rfl ?_
    refine z_getI (pc := 47) C dX10_go_47 fX10_212 sh_239 rfl ?_
    refine z_aload_n (pc := 50) C 0 dX10_go_50 rfl rfl ?_
    refine z_getI (pc := 51) C dX10_go_51 fX10_215 sh_239 rfl ?_
    rw [g9, zu_f (by decide), g12]
    refine z_icmp_ne (pc := 54) C 61 dX10_go_54 (by decide) (fun c54 => ?_) (fun c54 => ?_)
    · refine z_iconst (pc := 61) (v := 0) C dX10_go_61 rfl ?_
      refine z_istore_n (pc := 62) C 1 dX10_go_62 rfl (by decide) rfl ?_
      exact e63 0 (cl 0 (Or.inr ⟨rfl, c54⟩))
    · refine z_iconst (pc := 57) (v := 1) C dX10_go_57 rfl ?_
      refine z_goto (pc := 58) C 62 dX10_go_58 (by decide) ?_
      refine z_istore_n (pc := 62) C 1 dX10_go_62 rfl (by decide) rfl ?_
      exact e63 1 (cl 1 (Or.inl ⟨rfl, c54⟩))
  have skip : ∀ (d p : Nat) (M1 : zM), p + d = t → lskip B (t - p) p = S → fg M M1 → M1 30 0 0 12 = M 30 0 0 12 → M1 30 0 0 8 = nI p → zW X zshL M1 0 [some (.ref (b + 239)), none] [] := by
    intro d
    induction d with
    | zero =>
      intro p M1 hp hr hf g12 g8
      obtain rfl : p = t := by omega
      rw [Nat.sub_self, lskip] at hr
      refine z_aload_n (pc := 0) C 0 dX10_go_0 rfl rfl ?_
      refine z_getI (pc := 1) C dX10_go_1 fX10_209 sh_239 rfl ?_
      refine z_aload_n (pc := 4) C 0 dX10_go_4 rfl rfl ?_
      refine z_getI (pc := 5) C dX10_go_5 fX10_205 sh_239 rfl ?_
      rw [g8, (hT.on hf).1]
      refine z_icmp_ge (pc := 8) C 38 dX10_go_8 (by decide) (fun c8 => ?_) (fun c8 => absurd (Int32.le_refl _) c8)
      exact e38 M1 hf g12 (by rw [g8, hr])
    | succ d ih =>
      intro p M1 hp hr hf g12 g8
      have hT' := hT.on hf
      rw [show t - p = (t - (p + 1)) + 1 by omega, lskip] at hr
      refine z_aload_n (pc := 0) C 0 dX10_go_0 rfl rfl ?_
      refine z_getI (pc := 1) C dX10_go_1 fX10_209 sh_239 rfl ?_
      refine z_aload_n (pc := 4) C 0 dX10_go_4 rfl rfl ?_
      refine z_getI (pc := 5) C dX10_go_5 fX10_205 sh_239 rfl ?_
      rw [g8, hT'.1]
      refine z_icmp_ge (pc := 8) C 38 dX10_go_8 (by decide) (fun c8 => absurd c8 (nI_ge (by omega) (by omega))) (fun c8 => ?_)
      refine z_aload_n (pc := 11) C 0 dX10_go_11 rfl rfl ?_
      refine z_getR (pc := 12) (r := 245) C dX10_go_12 fX10_25 sh_239 rfl ?_
      refine z_aload_n (pc := 15) C 0 dX10_go_15 rfl rfl ?_
      refine z_getI (pc := 16) C dX10_go_16 fX10_209 sh_239 rfl ?_
      rw [g8]
      refine z_iald (pc := 19) (n := p) C dX10_go_19 sh_245 (vp_in_nI (by omega) (by decide)) (nI_clamp (by omega)) ?_
      rw [(hT'.2.2 p (by omega)).1]
      refine z_bipush (pc := 20) (v := 32) C dX10_go_20 rfl ?_
      refine z_icmp_ne (pc := 22) C 38 dX10_go_22 (by decide) (fun c22 => ?_) (fun c22 => ?_)
      · rw [if_neg c22] at hr
        exact e38 M1 hf g12 (by rw [g8, hr])
      · refine z_aload_n (pc := 25) C 0 dX10_go_25 rfl rfl ?_
        refine z_dup (pc := 26) C dX10_go_26 rfl ?_
        refine z_getI (pc := 27) C dX10_go_27 fX10_209 sh_239 rfl ?_
        refine z_iconst (pc := 30) (v := 1) C dX10_go_30 rfl ?_
        refine z_iadd (pc := 31) C dX10_go_31 ?_
        rw [g8, nI_1]
        refine z_putII (pc := 32) C dX10_go_32 fX10_209 sh_239 rfl ?_
        refine z_goto (pc := 35) C 0 dX10_go_35 (by decide) ?_
        rw [if_pos c22] at hr
        exact ih (p + 1) _ (by omega) hr (hf.trans (fg.zu (by decide) (by decide))) (by rw [zu_f (by decide)]; exact g12) (by rw [zu_self])
  exact skip (t - x.2.1) x.2.1 M (by omega) hS fg.rfl' rfl h8
