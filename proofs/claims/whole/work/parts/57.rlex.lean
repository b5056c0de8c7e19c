/-! THE CLASS's READER: words -/
def tpe (M : zM) (B : Nat → Int32) (t : Nat) : Prop := M 19 0 0 1 = nI t ∧ t ≤ 96 ∧ ∀ i, i < t → M 20 0 0 i = B i ∧ iin (B i) 0 255
def rdr (M : zM) (x : Lx) : Prop := M 21 0 0 2 = nI x.1 ∧ M 21 0 0 3 = nI x.2.1 ∧ M 21 0 0 4 = nI x.2.2.1 ∧ M 21 0 0 5 = nI x.2.2.2
def fr25 (M M' : zM) : Prop := ∀ a i j f, ¬ (a = 21 ∧ i = 0 ∧ j = 0 ∧ 2 ≤ f ∧ f ≤ 5) → M' a i j f = M a i j f
theorem fr25.rfl' {M : zM} : fr25 M M := fun _ _ _ _ _ => rfl
theorem fr25.trans {M M' M2 : zM} (h : fr25 M M') (h' : fr25 M' M2) : fr25 M M2 := fun a i j f z => (h' a i j f z).trans (h a i j f z)
theorem fr25.zu {M : zM} {f : Nat} {v : Int32} (h1 : 2 ≤ f) (h2 : f ≤ 5) : fr25 M (zu M 21 0 0 f v) := fun a i j g z => zu_ne _ _ (fun q => z (by omega))
theorem tpe.on {M M' : zM} {B : Nat → Int32} {t : Nat} (h : tpe M B t) (hf : fr25 M M') : tpe M' B t := ⟨by rw [hf 19 0 0 1 (by omega)]; exact h.1, h.2.1, fun i hi => by rw [hf 20 0 0 i (by omega)]; exact h.2.2 i hi⟩
def srtb (c : Int32) : Nat := if c < 0 then 0 else if 97 ≤ c ∧ c ≤ 122 then 1 else if 48 ≤ c ∧ c ≤ 57 then 2 else 3
theorem tAt_in {M : zM} {B : Nat → Int32} {t p : Nat} (h : tpe M B t) (hp : p < t) : tAt M t (nI p) = B p := by
  have h96 := h.2.1
  unfold tAt
  rw [if_neg (by rw [nI_toInt (by omega)]; omega), nI_clamp (by omega), (h.2.2 p hp).1]
theorem tAt_out {M : zM} {t p : Nat} (hp : t ≤ p) (hp2 : p ≤ 1000) : tAt M t (nI p) = -1 := by
  unfold tAt
  rw [if_pos (by rw [nI_toInt (by omega)]; omega)]
theorem srtb_at {M : zM} {B : Nat → Int32} {t p : Nat} (h : tpe M B t) (hp : p ≤ 1000) : srtb (tAt M t (nI p)) = tsrt B t p := by
  unfold tsrt
  by_cases q : t ≤ p
  · rw [if_pos q, tAt_out q hp]
    decide
  · rw [if_neg q, tAt_in h (by omega)]
    have hb := (h.2.2 p (by omega)).2
    unfold iin at hb
    unfold srtb
    rw [if_neg (by rw [zi_lt, i0]; omega)]
set_option maxHeartbeats 800000 in
set_option maxRecDepth 100000 in
theorem mX1_sortOf {l : Launch} {G : zG} {b : Nat} {M : zM} {c : Int32} : zMet l G b yX1_sortOf cX1_sortOf 1 (some .int) 0 zshL zshL [.int c] M (zI (fun r M' => r = nI (srtb c) ∧ M' = M)) := by
  refine zMet.of (L0 := [some (.int c)]) (by decide +kernel) (Nat.le_refl _) (Nat.le_refl _) (Nat.le_of_ble_eq_true rfl) (List.forall_mem_cons.mpr ⟨rfl, fun _ h => absurd h List.not_mem_nil⟩) rfl (fun X C Al K => ?_)
  refine z_iload_n (pc := 0) C 0 dX1_sortOf_0 rfl rfl ?_
  refine z_if_ge (pc := 1) C 6 dX1_sortOf_1 (by decide) (fun c1 => ?_) (fun c1 => ?_)
  · refine z_iload_n (pc := 6) C 0 dX1_sortOf_6 rfl rfl ?_
    refine z_bipush (pc := 7) (v := 97) C dX1_sortOf_7 rfl ?_
    refine z_icmp_lt (pc := 9) C 20 dX1_sortOf_9 (by decide) (fun c9 => ?_) (fun c9 => ?_)
    · refine z_iload_n (pc := 20) C 0 dX1_sortOf_20 rfl rfl ?_
      refine z_bipush (pc := 21) (v := 48) C dX1_sortOf_21 rfl ?_
      refine z_icmp_lt (pc := 23) C 36 dX1_sortOf_23 (by decide) (fun c23 => ?_) (fun c23 => ?_)
      · refine z_iconst (pc := 36) (v := 3) C dX1_sortOf_36 rfl ?_
        refine z_ireturn (pc := 37) C K dX1_sortOf_37 ?_
        refine ⟨_, rfl, ?_, rfl⟩
        have e : srtb c = 3 := by
          simp only [zi_lt, zi_le, zi_eq, i0, show (97 : Int32).toInt = 97 by decide, show (122 : Int32).toInt = 122 by decide, show (48 : Int32).toInt = 48 by decide, show (57 : Int32).toInt = 57 by decide] at c1 c9 c23
          unfold srtb
          simp only [zi_lt, zi_le, zi_eq, i0, show (97 : Int32).toInt = 97 by decide, show (122 : Int32).toInt = 122 by decide, show (48 : Int32).toInt = 48 by decide, show (57 : Int32).toInt = 57 by decide]
          rw [if_neg (by omega), if_neg (by omega), if_neg (by omega)]
        rw [e]
        rfl
      · refine z_iload_n (pc := 26) C 0 dX1_sortOf_26 rfl rfl ?_
        refine z_bipush (pc := 27) (v := 57) C dX1_sortOf_27 rfl ?_
        refine z_icmp_gt (pc := 29) C 36 dX1_sortOf_29 (by decide) (fun c29 => ?_) (fun c29 => ?_)
        · refine z_iconst (pc := 36) (v := 3) C dX1_sortOf_36 rfl ?_
          refine z_ireturn (pc := 37) C K dX1_sortOf_37 ?_
          refine ⟨_, rfl, ?_, rfl⟩
          have e : srtb c = 3 := by
            simp only [zi_lt, zi_le, zi_eq, i0, show (97 : Int32).toInt = 97 by decide, show (122 : Int32).toInt = 122 by decide, show (48 : Int32).toInt = 48 by decide, show (57 : Int32).toInt = 57 by decide] at c1 c9 c23 c29
            unfold srtb
            simp only [zi_lt, zi_le, zi_eq, i0, show (97 : Int32).toInt = 97 by decide, show (122 : Int32).toInt = 122 by decide, show (48 : Int32).toInt = 48 by decide, show (57 : Int32).toInt = 57 by decide]
            rw [if_neg (by omega), if_neg (by omega), if_neg (by omega)]
          rw [e]
          rfl
        · refine z_iconst (pc := 32) (v := 2) C dX1_sortOf_32 rfl ?_
          refine z_goto (pc := 33) C 37 dX1_sortOf_33 (by decide) ?_
          refine z_ireturn (pc := 37) C K dX1_sortOf_37 ?_
          refine ⟨_, rfl, ?_, rfl⟩
          have e : srtb c = 2 := by
            simp only [zi_lt, zi_le, zi_eq, i0, show (97 : Int32).toInt = 97 by decide, show (122 : Int32).toInt = 122 by decide, show (48 : Int32).toInt = 48 by decide, show (57 : Int32).toInt = 57 by decide] at c1 c9 c23 c29
            unfold srtb
            simp only [zi_lt, zi_le, zi_eq, i0, show (97 : Int32).toInt = 97 by decide, show (122 : Int32).toInt = 122 by decide, show (48 : Int32).toInt = 48 by decide, show (57 : Int32).toInt = 57 by decide]
            rw [if_neg (by omega), if_neg (by omega), if_pos (by omega)]
          rw [e]
          rfl
    · refine z_iload_n (pc := 12) C 0 dX1_sortOf_12 rfl rfl ?_
      refine z_bipush (pc := 13) (v := 122) C dX1_sortOf_13 rfl ?_
      refine z_icmp_gt (pc := 15) C 20 dX1_sortOf_15 (by decide) (fun c15 => ?_) (fun c15 => ?_)
      · refine z_iload_n (pc := 20) C 0 dX1_sortOf_20 rfl rfl ?_
        refine z_bipush (pc := 21) (v := 48) C dX1_sortOf_21 rfl ?_
        refine z_icmp_lt (pc := 23) C 36 dX1_sortOf_23 (by decide) (fun c23 => ?_) (fun c23 => ?_)
        · refine z_iconst (pc := 36) (v := 3) C dX1_sortOf_36 rfl ?_
          refine z_ireturn (pc := 37) C K dX1_sortOf_37 ?_
          refine ⟨_, rfl, ?_, rfl⟩
          have e : srtb c = 3 := by
            simp only [zi_lt, zi_le, zi_eq, i0, show (97 : Int32).toInt = 97 by decide, show (122 : Int32).toInt = 122 by decide, show (48 : Int32).toInt = 48 by decide, show (57 : Int32).toInt = 57 by decide] at c1 c9 c15 c23
            unfold srtb
            simp only [zi_lt, zi_le, zi_eq, i0, show (97 : Int32).toInt = 97 by decide, show (122 : Int32).toInt = 122 by decide, show (48 : Int32).toInt = 48 by decide, show (57 : Int32).toInt = 57 by decide]
            rw [if_neg (by omega), if_neg (by omega), if_neg (by omega)]
          rw [e]
          rfl
        · refine z_iload_n (pc := 26) C 0 dX1_sortOf_26 rfl rfl ?_
          refine z_bipush (pc := 27) (v := 57) C dX1_sortOf_27 rfl ?_
          refine z_icmp_gt (pc := 29) C 36 dX1_sortOf_29 (by decide) (fun c29 => ?_) (fun c29 => ?_)
          · refine z_iconst (pc := 36) (v := 3) C dX1_sortOf_36 rfl ?_
            refine z_ireturn (pc := 37) C K dX1_sortOf_37 ?_
            refine ⟨_, rfl, ?_, rfl⟩
            have e : srtb c = 3 := by
              simp only [zi_lt, zi_le, zi_eq, i0, show (97 : Int32).toInt = 97 by decide, show (122 : Int32).toInt = 122 by decide, show (48 : Int32).toInt = 48 by decide, show (57 : Int32).toInt = 57 by decide] at c1 c9 c15 c23 c29
              unfold srtb
              simp only [zi_lt, zi_le, zi_eq, i0, show (97 : Int32).toInt = 97 by decide, show (122 : Int32).toInt = 122 by decide, show (48 : Int32).toInt = 48 by decide, show (57 : Int32).toInt = 57 by decide]
              rw [if_neg (by omega), if_neg (by omega), if_neg (by omega)]
            rw [e]
            rfl
          · refine z_iconst (pc := 32) (v := 2) C dX1_sortOf_32 rfl ?_
            refine z_goto (pc := 33) C 37 dX1_sortOf_33 (by decide) ?_
            refine z_ireturn (pc := 37) C K dX1_sortOf_37 ?_
            refine ⟨_, rfl, ?_, rfl⟩
            have e : srtb c = 2 := by
              simp only [zi_lt, zi_le, zi_eq, i0, show (97 : Int32).toInt = 97 by decide, show (122 : Int32).toInt = 122 by decide, show (48 : Int32).toInt = 48 by decide, show (57 : Int32).toInt = 57 by decide] at c1 c9 c15 c23 c29
              unfold srtb
              simp only [zi_lt, zi_le, zi_eq, i0, show (97 : Int32).toInt = 97 by decide, show (122 : Int32).toInt = 122 by decide, show (48 : Int32).toInt = 48 by decide, show (57 : Int32).toInt = 57 by decide]
              rw [if_neg (by omega), if_neg (by omega), if_pos (by omega)]
            rw [e]
            rfl
      · refine z_iconst (pc := 18) (v := 1) C dX1_sortOf_18 rfl ?_
        refine z_ireturn (pc := 19) C K dX1_sortOf_19 ?_
        refine ⟨_, rfl, ?_, rfl⟩
        have e : srtb c = 1 := by
          simp only [zi_lt, zi_le, zi_eq, i0, show (97 : Int32).toInt = 97 by decide, show (122 : Int32).toInt = 122 by decide, show (48 : Int32).toInt = 48 by decide, show (57 : Int32).toInt = 57 by decide] at c1 c9 c15
          unfold srtb
          simp only [zi_lt, zi_le, zi_eq, i0, show (97 : Int32).toInt = 97 by decide, show (122 : Int32).toInt = 122 by decide, show (48 : Int32).toInt = 48 by decide, show (57 : Int32).toInt = 57 by decide]
          rw [if_neg (by omega), if_pos (by omega)]
        rw [e]
        rfl
  · refine z_iconst (pc := 4) (v := 0) C dX1_sortOf_4 rfl ?_
    refine z_ireturn (pc := 5) C K dX1_sortOf_5 ?_
    refine ⟨_, rfl, ?_, rfl⟩
    have e : srtb c = 0 := by
      simp only [zi_lt, zi_le, zi_eq, i0, show (97 : Int32).toInt = 97 by decide, show (122 : Int32).toInt = 122 by decide, show (48 : Int32).toInt = 48 by decide, show (57 : Int32).toInt = 57 by decide] at c1
      unfold srtb
      simp only [zi_lt, zi_le, zi_eq, i0, show (97 : Int32).toInt = 97 by decide, show (122 : Int32).toInt = 122 by decide, show (48 : Int32).toInt = 48 by decide, show (57 : Int32).toInt = 57 by decide]
      rw [if_pos (by omega)]
    rw [e]
    rfl

set_option maxHeartbeats 800000 in
set_option maxRecDepth 100000 in
theorem mX1_advance {l : Launch} {G : zG} {b : Nat} {M : zM} {B : Nat → Int32} {t : Nat} (hT : tpe M B t) {x : Lx} (hx : rdr M x) (he : x.2.1 ≤ t) (hs3 : x.2.2.1 ≤ 3) : zMet l G b yX1_advance cX1_advance 3 none 1 zshL zshL [.ref (b + 205)] M (zV (fun M' => rdr M' (ladv B t x) ∧ fr25 M M')) := by
  refine zMet.of (L0 := [some (.ref (b + 205)), none, none]) (by decide +kernel) (Nat.le_refl _) (Nat.le_refl _) (Nat.le_of_ble_eq_true rfl) (List.forall_mem_cons.mpr ⟨rfl, fun _ h => absurd h List.not_mem_nil⟩) rfl (fun X C Al K => ?_)
  obtain ⟨hT1, h96, hTB⟩ := hT
  obtain ⟨x1, x2, x3, x4⟩ := hx
  have hT : tpe M B t := ⟨hT1, h96, hTB⟩
  generalize hS : lskip B (t - x.2.1) x.2.1 = S
  have hSb : x.2.1 ≤ S ∧ S ≤ t := by
    have := lskip_b (B := B) (t - x.2.1) x.2.1
    omega
  generalize hK : tsrt B t S = Kd
  have hK3 : Kd ≤ 3 := by rw [← hK]; exact tsrt_3 B t S
  generalize hE : lend B t S = E
  have eK : (nI Kd).toInt = Kd := nI_toInt (by omega)
  have eS : (nI S).toInt = S := nI_toInt (by omega)
  have ee : (nI x.2.1).toInt = x.2.1 := nI_toInt (by omega)
  have res : ladv B t x = (S, E, Kd, if (x.2.2.1 = 1 ∨ x.2.2.1 = 2) ∧ S = x.2.1 ∧ (Kd = 1 ∨ Kd = 2) then 1 else 0) := by
    unfold ladv
    rw [hS, hK, hE]
  have fin : ∀ (v : Int32) (M1 : zM), ((v = 1 ∧ (x.2.2.1 = 1 ∨ x.2.2.1 = 2)) ∨ (v = 0 ∧ ¬ (x.2.2.1 = 1 ∨ x.2.2.1 = 2))) → fr25 M M1 → M1 21 0 0 2 = nI S → M1 21 0 0 3 = nI E → M1 21 0 0 4 = nI Kd → zW X zshL M1 180 [some (.ref (b + 205)), some (.int v), some (.int (nI x.2.1))] [] := by
    intro v M1 hv hf g2 g3 g4
    have done : ∀ w : Int32, w = nI (if (x.2.2.1 = 1 ∨ x.2.2.1 = 2) ∧ S = x.2.1 ∧ (Kd = 1 ∨ Kd = 2) then 1 else 0) → rdr (zu M1 21 0 0 5 w) (ladv B t x) ∧ fr25 M (zu M1 21 0 0 5 w) := by
      intro w hw
      rw [res]
      refine ⟨⟨?_, ?_, ?_, ?_⟩, hf.trans (fr25.zu (by decide) (by decide))⟩
      · rw [zu_f (by decide)]; exact g2
      · rw [zu_f (by decide)]; exact g3
      · rw [zu_f (by decide)]; exact g4
      · rw [zu_self]; exact hw
    refine z_aload_n (pc := 180) C 0 dX1_advance_180 rfl rfl ?_
    refine z_iload_n (pc := 181) C 1 dX1_advance_181 rfl rfl ?_
    refine z_if_eq (pc := 182) C 213 dX1_advance_182 (by decide) (fun c182 => ?_) (fun c182 => ?_)
    · refine z_iconst (pc := 213) (v := 0) C dX1_advance_213 rfl ?_
      refine z_putZ (pc := 214) C dX1_advance_214 fX1_28 sh_205 rfl (Or.inl rfl) ?_
      refine z_return (pc := 217) C K dX1_advance_217 ?_
      refine ⟨rfl, done 0 ?_⟩
      have nv : ¬ (x.2.2.1 = 1 ∨ x.2.2.1 = 2) := by
        rcases hv with h | h
        · exact absurd (h.1.symm.trans c182) (by decide)
        · exact h.2
      rw [if_neg (fun z => nv z.1)]
      rfl
    · refine z_aload_n (pc := 185) C 0 dX1_advance_185 rfl rfl ?_
      refine z_getI (pc := 186) C dX1_advance_186 fX1_18 sh_205 rfl ?_
      refine z_iload_n (pc := 189) C 2 dX1_advance_189 rfl rfl ?_
      rw [g2]
      refine z_icmp_ne (pc := 190) C 213 dX1_advance_190 (by decide) (fun c190 => ?_) (fun c190 => ?_)
      · refine z_iconst (pc := 213) (v := 0) C dX1_advance_213 rfl ?_
        refine z_putZ (pc := 214) C dX1_advance_214 fX1_28 sh_205 rfl (Or.inl rfl) ?_
        refine z_return (pc := 217) C K dX1_advance_217 ?_
        refine ⟨rfl, done 0 ?_⟩
        simp only [zi_eq, eS, ee, eK, i1, i2] at c190
        rw [if_neg (fun z => by omega)]
        rfl
      · refine z_aload_n (pc := 193) C 0 dX1_advance_193 rfl rfl ?_
        refine z_getI (pc := 194) C dX1_advance_194 fX1_25 sh_205 rfl ?_
        refine z_iconst (pc := 197) (v := 1) C dX1_advance_197 rfl ?_
        rw [g4]
        refine z_icmp_eq (pc := 198) C 209 dX1_advance_198 (by decide) (fun c198 => ?_) (fun c198 => ?_)
        · refine z_iconst (pc := 209) (v := 1) C dX1_advance_209 rfl ?_
          refine z_goto (pc := 210) C 214 dX1_advance_210 (by decide) ?_
          refine z_putZ (pc := 214) C dX1_advance_214 fX1_28 sh_205 rfl (Or.inr rfl) ?_
          refine z_return (pc := 217) C K dX1_advance_217 ?_
          refine ⟨rfl, done 1 ?_⟩
          have wv : x.2.2.1 = 1 ∨ x.2.2.1 = 2 := by
            rcases hv with h | h
            · exact h.2
            · exact absurd h.1 c182
          simp only [zi_eq, eS, ee, eK, i1, i2] at c190 c198
          rw [if_pos ⟨wv, by omega, by omega⟩]
          rfl
        · refine z_aload_n (pc := 201) C 0 dX1_advance_201 rfl rfl ?_
          refine z_getI (pc := 202) C dX1_advance_202 fX1_25 sh_205 rfl ?_
          refine z_iconst (pc := 205) (v := 2) C dX1_advance_205 rfl ?_
          rw [g4]
          refine z_icmp_ne (pc := 206) C 213 dX1_advance_206 (by decide) (fun c206 => ?_) (fun c206 => ?_)
          · refine z_iconst (pc := 213) (v := 0) C dX1_advance_213 rfl ?_
            refine z_putZ (pc := 214) C dX1_advance_214 fX1_28 sh_205 rfl (Or.inl rfl) ?_
            refine z_return (pc := 217) C K dX1_advance_217 ?_
            refine ⟨rfl, done 0 ?_⟩
            simp only [zi_eq, eS, ee, eK, i1, i2] at c190 c198 c206
            rw [if_neg (fun z => by omega)]
            rfl
          · refine z_iconst (pc := 209) (v := 1) C dX1_advance_209 rfl ?_
            refine z_goto (pc := 210) C 214 dX1_advance_210 (by decide) ?_
            refine z_putZ (pc := 214) C dX1_advance_214 fX1_28 sh_205 rfl (Or.inr rfl) ?_
            refine z_return (pc := 217) C K dX1_advance_217 ?_
            refine ⟨rfl, done 1 ?_⟩
            have wv : x.2.2.1 = 1 ∨ x.2.2.1 = 2 := by
              rcases hv with h | h
              · exact h.2
              · exact absurd h.1 c182
            simp only [zi_eq, eS, ee, eK, i1, i2] at c190 c198 c206
            rw [if_pos ⟨wv, by omega, by omega⟩]
            rfl
  have loopE : ∀ (v : Int32), ((v = 1 ∧ (x.2.2.1 = 1 ∨ x.2.2.1 = 2)) ∨ (v = 0 ∧ ¬ (x.2.2.1 = 1 ∨ x.2.2.1 = 2))) → ¬ Kd = 3 → ¬ Kd = 0 → ∀ (d p : Nat) (M1 : zM), p + d = t → lrun B t Kd (t - p) p = E → fr25 M M1 → M1 21 0 0 2 = nI S → M1 21 0 0 3 = nI p → M1 21 0 0 4 = nI Kd → zW X zshL M1 132 [some (.ref (b + 205)), some (.int v), some (.int (nI x.2.1))] [] := by
    intro v hv hK3' hK0 d
    induction d with
    | zero =>
      intro p M1 hp hr hf g2 g3 g4
      have hT1' := (hT.on hf).1
      obtain rfl : p = t := by omega
      rw [Nat.sub_self, lrun] at hr
      refine z_aload_n (pc := 132) C 0 dX1_advance_132 rfl rfl ?_
      refine z_getI (pc := 133) C dX1_advance_133 fX1_22 sh_205 rfl ?_
      refine z_aload_n (pc := 136) C 0 dX1_advance_136 rfl rfl ?_
      refine z_getR (pc := 137) (r := 203) C dX1_advance_137 fX1_41 sh_205 rfl ?_
      refine z_getI (pc := 140) C dX1_advance_140 fX1_61 sh_203 rfl ?_
      rw [g3, hT1']
      refine z_icmp_ge (pc := 143) C 180 dX1_advance_143 (by decide) (fun c143 => ?_) (fun c143 => absurd (Int32.le_refl _) c143)
      exact fin v M1 hv hf g2 (by rw [g3, hr]) g4
    | succ d ih =>
      intro p M1 hp hr hf g2 g3 g4
      have hT' := hT.on hf
      have hT1' := hT'.1
      rw [show t - p = (t - (p + 1)) + 1 by omega, lrun] at hr
      refine z_aload_n (pc := 132) C 0 dX1_advance_132 rfl rfl ?_
      refine z_getI (pc := 133) C dX1_advance_133 fX1_22 sh_205 rfl ?_
      refine z_aload_n (pc := 136) C 0 dX1_advance_136 rfl rfl ?_
      refine z_getR (pc := 137) (r := 203) C dX1_advance_137 fX1_41 sh_205 rfl ?_
      refine z_getI (pc := 140) C dX1_advance_140 fX1_61 sh_203 rfl ?_
      rw [g3, hT1']
      refine z_icmp_ge (pc := 143) C 180 dX1_advance_143 (by decide) (fun c143 => absurd c143 (nI_ge (by omega) (by omega))) (fun c143 => ?_)
      refine z_aload_n (pc := 146) C 0 dX1_advance_146 rfl rfl ?_
      refine z_getR (pc := 147) (r := 203) C dX1_advance_147 fX1_41 sh_205 rfl ?_
      refine z_aload_n (pc := 150) C 0 dX1_advance_150 rfl rfl ?_
      refine z_getI (pc := 151) C dX1_advance_151 fX1_22 sh_205 rfl ?_
      rw [g3]
      refine z_callVi (pc := 154) C dX1_advance_154 kX1_64 (mX4_at hT1' h96) (by decide) sh_203 rfl rfl rfl (Nat.le_of_ble_eq_true rfl) (fun r154 M154 h154 => ?_)
      obtain ⟨rfl, e154⟩ := h154
      subst M154
      refine z_callSi (pc := 157) C dX1_advance_157 kX1_68 mX1_sortOf (by decide) rfl rfl (Nat.le_of_ble_eq_true rfl) (fun r157 M157 h157 => ?_)
      obtain ⟨rfl, e157⟩ := h157
      subst M157
      refine z_aload_n (pc := 160) C 0 dX1_advance_160 rfl rfl ?_
      refine z_getI (pc := 161) C dX1_advance_161 fX1_25 sh_205 rfl ?_
      rw [g4]
      refine z_icmp_ne (pc := 164) C 180 dX1_advance_164 (by decide) (fun c164 => ?_) (fun c164 => ?_)
      · rw [if_neg (show ¬ tsrt B t p = Kd from fun z => c164 (by rw [srtb_at hT' (by omega), z]))] at hr
        exact fin v M1 hv hf g2 (by rw [g3, hr]) g4
      · refine z_aload_n (pc := 167) C 0 dX1_advance_167 rfl rfl ?_
        refine z_dup (pc := 168) C dX1_advance_168 rfl ?_
        refine z_getI (pc := 169) C dX1_advance_169 fX1_22 sh_205 rfl ?_
        refine z_iconst (pc := 172) (v := 1) C dX1_advance_172 rfl ?_
        refine z_iadd (pc := 173) C dX1_advance_173 ?_
        rw [g3, nI_1]
        refine z_putII (pc := 174) C dX1_advance_174 fX1_22 sh_205 rfl ?_
        refine z_goto (pc := 177) C 132 dX1_advance_177 (by decide) ?_
        rw [if_pos (show tsrt B t p = Kd by rw [← srtb_at hT' (by omega)]; exact nI_inj' (by have := tsrt_3 B t p; rw [srtb_at hT' (by omega)]; omega) (by omega) c164)] at hr
        exact ih (p + 1) _ (by omega) hr (hf.trans (fr25.zu (by decide) (by decide))) (by rw [zu_f (by decide)]; exact g2) (by rw [zu_self]) (by rw [zu_f (by decide)]; exact g4)
  have e78 : ∀ (v : Int32), ((v = 1 ∧ (x.2.2.1 = 1 ∨ x.2.2.1 = 2)) ∨ (v = 0 ∧ ¬ (x.2.2.1 = 1 ∨ x.2.2.1 = 2))) → ∀ (M1 : zM), fr25 M M1 → M1 21 0 0 2 = nI S → zW X zshL M1 78 [some (.ref (b + 205)), some (.int v), some (.int (nI x.2.1))] [] := by
    intro v hv M1 hf g2
    have hT' := hT.on hf
    have hT1' := hT'.1
    have hE2 := hE
    unfold lend at hE2
    rw [hK] at hE2
    refine z_aload_n (pc := 78) C 0 dX1_advance_78 rfl rfl ?_
    refine z_aload_n (pc := 79) C 0 dX1_advance_79 rfl rfl ?_
    refine z_getR (pc := 80) (r := 203) C dX1_advance_80 fX1_41 sh_205 rfl ?_
    refine z_aload_n (pc := 83) C 0 dX1_advance_83 rfl rfl ?_
    refine z_getI (pc := 84) C dX1_advance_84 fX1_18 sh_205 rfl ?_
    rw [g2]
    refine z_callVi (pc := 87) C dX1_advance_87 kX1_64 (mX4_at hT1' h96) (by decide) sh_203 rfl rfl rfl (Nat.le_of_ble_eq_true rfl) (fun r87 M87 h87 => ?_)
    obtain ⟨rfl, e87⟩ := h87
    subst M87
    refine z_callSi (pc := 90) C dX1_advance_90 kX1_68 mX1_sortOf (by decide) rfl rfl (Nat.le_of_ble_eq_true rfl) (fun r90 M90 h90 => ?_)
    obtain ⟨rfl, e90⟩ := h90
    subst M90
    rw [srtb_at hT' (by omega), hK]
    refine z_putII (pc := 93) C dX1_advance_93 fX1_25 sh_205 rfl ?_
    refine z_aload_n (pc := 96) C 0 dX1_advance_96 rfl rfl ?_
    refine z_aload_n (pc := 97) C 0 dX1_advance_97 rfl rfl ?_
    refine z_getI (pc := 98) C dX1_advance_98 fX1_18 sh_205 rfl ?_
    rw [zu_f (by decide), g2]
    refine z_putII (pc := 101) C dX1_advance_101 fX1_22 sh_205 rfl ?_
    refine z_aload_n (pc := 104) C 0 dX1_advance_104 rfl rfl ?_
    refine z_getI (pc := 105) C dX1_advance_105 fX1_25 sh_205 rfl ?_
    refine z_iconst (pc := 108) (v := 3) C dX1_advance_108 rfl ?_
    rw [zu_f (by decide), zu_self]
    refine z_icmp_ne (pc := 109) C 125 dX1_advance_109 (by decide) (fun c109 => ?_) (fun c109 => ?_)
    · refine z_aload_n (pc := 125) C 0 dX1_advance_125 rfl rfl ?_
      refine z_getI (pc := 126) C dX1_advance_126 fX1_25 sh_205 rfl ?_
      rw [zu_f (by decide), zu_self]
      refine z_if_eq (pc := 129) C 180 dX1_advance_129 (by decide) (fun c129 => ?_) (fun c129 => ?_)
      · rw [zi_eq, eK, i3] at c109
        rw [zi_eq, eK, i0] at c129
        rw [if_neg (by omega), if_pos (by omega)] at hE2
        exact fin v _ hv ((hf.trans (fr25.zu (by decide) (by decide))).trans (fr25.zu (by decide) (by decide))) (by rw [zu_f (by decide), zu_f (by decide)]; exact g2) (by rw [zu_self, hE2]) (by rw [zu_f (by decide), zu_self])
      · rw [zi_eq, eK, i3] at c109
        rw [zi_eq, eK, i0] at c129
        rw [if_neg (by omega), if_neg (by omega)] at hE2
        exact loopE v hv (by omega) (by omega) (t - S) S _ (by omega) hE2 ((hf.trans (fr25.zu (by decide) (by decide))).trans (fr25.zu (by decide) (by decide))) (by rw [zu_f (by decide), zu_f (by decide)]; exact g2) (by rw [zu_self]) (by rw [zu_f (by decide), zu_self])
    · refine z_aload_n (pc := 112) C 0 dX1_advance_112 rfl rfl ?_
      refine z_dup (pc := 113) C dX1_advance_113 rfl ?_
      refine z_getI (pc := 114) C dX1_advance_114 fX1_22 sh_205 rfl ?_
      refine z_iconst (pc := 117) (v := 1) C dX1_advance_117 rfl ?_
      refine z_iadd (pc := 118) C dX1_advance_118 ?_
      rw [zu_self, nI_1]
      refine z_putII (pc := 119) C dX1_advance_119 fX1_22 sh_205 rfl ?_
      refine z_goto (pc := 122) C 180 dX1_advance_122 (by decide) ?_
      rw [zi_eq, eK, i3] at c109
      rw [if_pos (by omega)] at hE2
      exact fin v _ hv (((hf.trans (fr25.zu (by decide) (by decide))).trans (fr25.zu (by decide) (by decide))).trans (fr25.zu (by decide) (by decide))) (by rw [zu_f (by decide), zu_f (by decide), zu_f (by decide)]; exact g2) (by rw [zu_self, hE2]) (by rw [zu_f (by decide), zu_f (by decide), zu_self])
  have loopS : ∀ (v : Int32), ((v = 1 ∧ (x.2.2.1 = 1 ∨ x.2.2.1 = 2)) ∨ (v = 0 ∧ ¬ (x.2.2.1 = 1 ∨ x.2.2.1 = 2))) → ∀ (d p : Nat) (M1 : zM), p + d = t → lskip B (t - p) p = S → fr25 M M1 → M1 21 0 0 2 = nI p → zW X zshL M1 35 [some (.ref (b + 205)), some (.int v), some (.int (nI x.2.1))] [] := by
    intro v hv d
    induction d with
    | zero =>
      intro p M1 hp hr hf g2
      have hT1' := (hT.on hf).1
      obtain rfl : p = t := by omega
      rw [Nat.sub_self, lskip] at hr
      refine z_aload_n (pc := 35) C 0 dX1_advance_35 rfl rfl ?_
      refine z_getI (pc := 36) C dX1_advance_36 fX1_18 sh_205 rfl ?_
      refine z_aload_n (pc := 39) C 0 dX1_advance_39 rfl rfl ?_
      refine z_getR (pc := 40) (r := 203) C dX1_advance_40 fX1_41 sh_205 rfl ?_
      refine z_getI (pc := 43) C dX1_advance_43 fX1_61 sh_203 rfl ?_
      rw [g2, hT1']
      refine z_icmp_ge (pc := 46) C 78 dX1_advance_46 (by decide) (fun c46 => ?_) (fun c46 => absurd (Int32.le_refl _) c46)
      exact e78 v hv M1 hf (by rw [g2, hr])
    | succ d ih =>
      intro p M1 hp hr hf g2
      have hT' := hT.on hf
      have hT1' := hT'.1
      rw [show t - p = (t - (p + 1)) + 1 by omega, lskip] at hr
      refine z_aload_n (pc := 35) C 0 dX1_advance_35 rfl rfl ?_
      refine z_getI (pc := 36) C dX1_advance_36 fX1_18 sh_205 rfl ?_
      refine z_aload_n (pc := 39) C 0 dX1_advance_39 rfl rfl ?_
      refine z_getR (pc := 40) (r := 203) C dX1_advance_40 fX1_41 sh_205 rfl ?_
      refine z_getI (pc := 43) C dX1_advance_43 fX1_61 sh_203 rfl ?_
      rw [g2, hT1']
      refine z_icmp_ge (pc := 46) C 78 dX1_advance_46 (by decide) (fun c46 => absurd c46 (nI_ge (by omega) (by omega))) (fun c46 => ?_)
      refine z_aload_n (pc := 49) C 0 dX1_advance_49 rfl rfl ?_
      refine z_getR (pc := 50) (r := 203) C dX1_advance_50 fX1_41 sh_205 rfl ?_
      refine z_aload_n (pc := 53) C 0 dX1_advance_53 rfl rfl ?_
      refine z_getI (pc := 54) C dX1_advance_54 fX1_18 sh_205 rfl ?_
      rw [g2]
      refine z_callVi (pc := 57) C dX1_advance_57 kX1_64 (mX4_at hT1' h96) (by decide) sh_203 rfl rfl rfl (Nat.le_of_ble_eq_true rfl) (fun r57 M57 h57 => ?_)
      obtain ⟨rfl, e57⟩ := h57
      subst M57
      rw [tAt_in hT' (by omega)]
      refine z_bipush (pc := 60) (v := 32) C dX1_advance_60 rfl ?_
      refine z_icmp_ne (pc := 62) C 78 dX1_advance_62 (by decide) (fun c62 => ?_) (fun c62 => ?_)
      · rw [if_neg c62] at hr
        exact e78 v hv M1 hf (by rw [g2, hr])
      · refine z_aload_n (pc := 65) C 0 dX1_advance_65 rfl rfl ?_
        refine z_dup (pc := 66) C dX1_advance_66 rfl ?_
        refine z_getI (pc := 67) C dX1_advance_67 fX1_18 sh_205 rfl ?_
        refine z_iconst (pc := 70) (v := 1) C dX1_advance_70 rfl ?_
        refine z_iadd (pc := 71) C dX1_advance_71 ?_
        rw [g2, nI_1]
        refine z_putII (pc := 72) C dX1_advance_72 fX1_18 sh_205 rfl ?_
        refine z_goto (pc := 75) C 35 dX1_advance_75 (by decide) ?_
        rw [if_pos c62] at hr
        exact ih (p + 1) _ (by omega) hr (hf.trans (fr25.zu (by decide) (by decide))) (by rw [zu_self])
  have go : ∀ (v : Int32), ((v = 1 ∧ (x.2.2.1 = 1 ∨ x.2.2.1 = 2)) ∨ (v = 0 ∧ ¬ (x.2.2.1 = 1 ∨ x.2.2.1 = 2))) → zW X zshL M 22 [some (.ref (b + 205)), some (.int v), none] [] := by
    intro v hv
    refine z_aload_n (pc := 22) C 0 dX1_advance_22 rfl rfl ?_
    refine z_getI (pc := 23) C dX1_advance_23 fX1_22 sh_205 rfl ?_
    rw [x2]
    refine z_istore_n (pc := 26) C 2 dX1_advance_26 rfl (by decide) rfl ?_
    refine z_aload_n (pc := 27) C 0 dX1_advance_27 rfl rfl ?_
    refine z_aload_n (pc := 28) C 0 dX1_advance_28 rfl rfl ?_
    refine z_getI (pc := 29) C dX1_advance_29 fX1_22 sh_205 rfl ?_
    rw [x2]
    refine z_putII (pc := 32) C dX1_advance_32 fX1_18 sh_205 rfl ?_
    exact loopS v hv (t - x.2.1) x.2.1 _ (by omega) hS (fr25.zu (by decide) (by decide)) (by rw [zu_self])
  have e3 : (nI x.2.2.1).toInt = x.2.2.1 := nI_toInt (by omega)
  refine z_aload_n (pc := 0) C 0 dX1_advance_0 rfl rfl ?_
  refine z_getI (pc := 1) C dX1_advance_1 fX1_25 sh_205 rfl ?_
  refine z_iconst (pc := 4) (v := 1) C dX1_advance_4 rfl ?_
  rw [x3]
  refine z_icmp_eq (pc := 5) C 16 dX1_advance_5 (by decide) (fun c5 => ?_) (fun c5 => ?_)
  · refine z_iconst (pc := 16) (v := 1) C dX1_advance_16 rfl ?_
    refine z_goto (pc := 17) C 21 dX1_advance_17 (by decide) ?_
    refine z_istore_n (pc := 21) C 1 dX1_advance_21 rfl (by decide) rfl ?_
    simp only [zi_eq, e3, i1, i2] at c5
    exact go 1 (Or.inl ⟨rfl, by omega⟩)
  · refine z_aload_n (pc := 8) C 0 dX1_advance_8 rfl rfl ?_
    refine z_getI (pc := 9) C dX1_advance_9 fX1_25 sh_205 rfl ?_
    refine z_iconst (pc := 12) (v := 2) C dX1_advance_12 rfl ?_
    rw [x3]
    refine z_icmp_ne (pc := 13) C 20 dX1_advance_13 (by decide) (fun c13 => ?_) (fun c13 => ?_)
    · refine z_iconst (pc := 20) (v := 0) C dX1_advance_20 rfl ?_
      refine z_istore_n (pc := 21) C 1 dX1_advance_21 rfl (by decide) rfl ?_
      simp only [zi_eq, e3, i1, i2] at c5 c13
      exact go 0 (Or.inr ⟨rfl, by omega⟩)
    · refine z_iconst (pc := 16) (v := 1) C dX1_advance_16 rfl ?_
      refine z_goto (pc := 17) C 21 dX1_advance_17 (by decide) ?_
      refine z_istore_n (pc := 21) C 1 dX1_advance_21 rfl (by decide) rfl ?_
      simp only [zi_eq, e3, i1, i2] at c5 c13
      exact go 1 (Or.inl ⟨rfl, by omega⟩)

def sgn (B : Nat → Int32) (x : Lx) : Int32 := if x.2.2.1 = 3 then B x.1 else -1
def lvb (c : Int32) : Int := if c = 124 then 0 else if c = 38 then 1 else if c = 60 ∨ c = 61 ∨ c = 62 then 2 else if c = 43 ∨ c = 45 then 3 else if c = 42 ∨ c = 47 then 4 else -1
theorem lOK_lt {B : Nat → Int32} {t : Nat} {x : Lx} (h : lOK B t x) (h0 : ¬ x.2.2.1 = 0) : x.1 < t := by
  rcases Nat.lt_or_ge x.1 t with z | z
  · exact z
  · exact absurd (h.2.2.1.trans (tsrt_0.mpr z)) h0
set_option maxHeartbeats 800000 in
set_option maxRecDepth 100000 in
theorem mX1_sign {l : Launch} {G : zG} {b : Nat} {M : zM} {B : Nat → Int32} {t : Nat} (hT : tpe M B t) {x : Lx} (hx : rdr M x) (hk : lOK B t x) : zMet l G b yX1_sign cX1_sign 1 (some .int) 1 zshL zshL [.ref (b + 205)] M (zI (fun r M' => r = sgn B x ∧ M' = M)) := by
  refine zMet.of (L0 := [some (.ref (b + 205))]) (by decide +kernel) (Nat.le_refl _) (Nat.le_refl _) (Nat.le_of_ble_eq_true rfl) (List.forall_mem_cons.mpr ⟨rfl, fun _ h => absurd h List.not_mem_nil⟩) rfl (fun X C Al K => ?_)
  have h3 : x.2.2.1 ≤ 3 := by rw [hk.2.2.1]; exact tsrt_3 _ _ _
  have e3 : (nI x.2.2.1).toInt = x.2.2.1 := nI_toInt (by omega)
  refine z_aload_n (pc := 0) C 0 dX1_sign_0 rfl rfl ?_
  refine z_getI (pc := 1) C dX1_sign_1 fX1_25 sh_205 rfl ?_
  refine z_iconst (pc := 4) (v := 3) C dX1_sign_4 rfl ?_
  rw [hx.2.2.1]
  refine z_icmp_ne (pc := 5) C 22 dX1_sign_5 (by decide) (fun c5 => ?_) (fun c5 => ?_)
  · refine z_iconst (pc := 22) (v := -1) C dX1_sign_22 rfl ?_
    refine z_ireturn (pc := 23) C K dX1_sign_23 ?_
    rw [zi_eq, e3, i3] at c5
    exact ⟨_, rfl, by rw [sgn, if_neg (by omega)], rfl⟩
  · rw [zi_eq, e3, i3] at c5
    have hlt := lOK_lt hk (by omega)
    refine z_aload_n (pc := 8) C 0 dX1_sign_8 rfl rfl ?_
    refine z_getR (pc := 9) (r := 203) C dX1_sign_9 fX1_41 sh_205 rfl ?_
    refine z_aload_n (pc := 12) C 0 dX1_sign_12 rfl rfl ?_
    refine z_getI (pc := 13) C dX1_sign_13 fX1_18 sh_205 rfl ?_
    rw [hx.1]
    refine z_callVi (pc := 16) C dX1_sign_16 kX1_64 (mX4_at hT.1 hT.2.1) (by decide) sh_203 rfl rfl rfl (Nat.le_of_ble_eq_true rfl) (fun r16 M16 h16 => ?_)
    obtain ⟨rfl, e16⟩ := h16
    subst M16
    rw [tAt_in hT hlt]
    refine z_goto (pc := 19) C 23 dX1_sign_19 (by decide) ?_
    refine z_ireturn (pc := 23) C K dX1_sign_23 ?_
    exact ⟨_, rfl, by rw [sgn, if_pos (by omega)], rfl⟩

set_option maxHeartbeats 800000 in
set_option maxRecDepth 100000 in
theorem mX1_levelOf {l : Launch} {G : zG} {b : Nat} {M : zM} {c : Int32} : zMet l G b yX1_levelOf cX1_levelOf 1 (some .int) 0 zshL zshL [.int c] M (zI (fun r M' => r.toInt = lvb c ∧ M' = M)) := by
  refine zMet.of (L0 := [some (.int c)]) (by decide +kernel) (Nat.le_refl _) (Nat.le_refl _) (Nat.le_of_ble_eq_true rfl) (List.forall_mem_cons.mpr ⟨rfl, fun _ h => absurd h List.not_mem_nil⟩) rfl (fun X C Al K => ?_)
  refine z_iload_n (pc := 0) C 0 dX1_levelOf_0 rfl rfl ?_
  by_cases s1_0 : c = 38
  · refine z_lookup (pc := 1) C 86 dX1_levelOf_1 (by decide) (by rw [s1_0]) (by decide) ?_
    refine z_iconst (pc := 86) (v := 1) C dX1_levelOf_86 rfl ?_
    refine z_ireturn (pc := 87) C K dX1_levelOf_87 ?_
    exact ⟨_, rfl, by rw [s1_0]; decide, rfl⟩
  by_cases s1_1 : c = 42
  · refine z_lookup (pc := 1) C 92 dX1_levelOf_1 (by decide) (by rw [s1_1]) (by decide) ?_
    refine z_iconst (pc := 92) (v := 4) C dX1_levelOf_92 rfl ?_
    refine z_ireturn (pc := 93) C K dX1_levelOf_93 ?_
    exact ⟨_, rfl, by rw [s1_1]; decide, rfl⟩
  by_cases s1_2 : c = 43
  · refine z_lookup (pc := 1) C 90 dX1_levelOf_1 (by decide) (by rw [s1_2]) (by decide) ?_
    refine z_iconst (pc := 90) (v := 3) C dX1_levelOf_90 rfl ?_
    refine z_ireturn (pc := 91) C K dX1_levelOf_91 ?_
    exact ⟨_, rfl, by rw [s1_2]; decide, rfl⟩
  by_cases s1_3 : c = 45
  · refine z_lookup (pc := 1) C 90 dX1_levelOf_1 (by decide) (by rw [s1_3]) (by decide) ?_
    refine z_iconst (pc := 90) (v := 3) C dX1_levelOf_90 rfl ?_
    refine z_ireturn (pc := 91) C K dX1_levelOf_91 ?_
    exact ⟨_, rfl, by rw [s1_3]; decide, rfl⟩
  by_cases s1_4 : c = 47
  · refine z_lookup (pc := 1) C 92 dX1_levelOf_1 (by decide) (by rw [s1_4]) (by decide) ?_
    refine z_iconst (pc := 92) (v := 4) C dX1_levelOf_92 rfl ?_
    refine z_ireturn (pc := 93) C K dX1_levelOf_93 ?_
    exact ⟨_, rfl, by rw [s1_4]; decide, rfl⟩
  by_cases s1_5 : c = 60
  · refine z_lookup (pc := 1) C 88 dX1_levelOf_1 (by decide) (by rw [s1_5]) (by decide) ?_
    refine z_iconst (pc := 88) (v := 2) C dX1_levelOf_88 rfl ?_
    refine z_ireturn (pc := 89) C K dX1_levelOf_89 ?_
    exact ⟨_, rfl, by rw [s1_5]; decide, rfl⟩
  by_cases s1_6 : c = 61
  · refine z_lookup (pc := 1) C 88 dX1_levelOf_1 (by decide) (by rw [s1_6]) (by decide) ?_
    refine z_iconst (pc := 88) (v := 2) C dX1_levelOf_88 rfl ?_
    refine z_ireturn (pc := 89) C K dX1_levelOf_89 ?_
    exact ⟨_, rfl, by rw [s1_6]; decide, rfl⟩
  by_cases s1_7 : c = 62
  · refine z_lookup (pc := 1) C 88 dX1_levelOf_1 (by decide) (by rw [s1_7]) (by decide) ?_
    refine z_iconst (pc := 88) (v := 2) C dX1_levelOf_88 rfl ?_
    refine z_ireturn (pc := 89) C K dX1_levelOf_89 ?_
    exact ⟨_, rfl, by rw [s1_7]; decide, rfl⟩
  by_cases s1_8 : c = 124
  · refine z_lookup (pc := 1) C 84 dX1_levelOf_1 (by decide) (by rw [s1_8]) (by decide) ?_
    refine z_iconst (pc := 84) (v := 0) C dX1_levelOf_84 rfl ?_
    refine z_ireturn (pc := 85) C K dX1_levelOf_85 ?_
    exact ⟨_, rfl, by rw [s1_8]; decide, rfl⟩
  refine z_lookup (pc := 1) (off := 93) C 94 dX1_levelOf_1 (by decide) (by show Op.lookupswitch.offset [(38, 85), (42, 91), (43, 89), (45, 89), (47, 91), (60, 87), (61, 87), (62, 87), (124, 83)] _ _ = _; rw [lv_osw (k := 38) (a := 38) s1_0 rfl, lv_osw (k := 42) (a := 42) s1_1 rfl, lv_osw (k := 43) (a := 43) s1_2 rfl, lv_osw (k := 45) (a := 45) s1_3 rfl, lv_osw (k := 47) (a := 47) s1_4 rfl, lv_osw (k := 60) (a := 60) s1_5 rfl, lv_osw (k := 61) (a := 61) s1_6 rfl, lv_osw (k := 62) (a := 62) s1_7 rfl, lv_osw (k := 124) (a := 124) s1_8 rfl]; rfl) (by decide) ?_
  refine z_iconst (pc := 94) (v := -1) C dX1_levelOf_94 rfl ?_
  refine z_ireturn (pc := 95) C K dX1_levelOf_95 ?_
  exact ⟨_, rfl, by rw [lvb, if_neg s1_8, if_neg s1_0, if_neg (fun z => z.elim s1_5 (fun z => z.elim s1_6 s1_7)), if_neg (fun z => z.elim s1_2 s1_3), if_neg (fun z => z.elim s1_1 s1_4)]; decide, rfl⟩

theorem lvl_b {c : Int32} (h : -1 ≤ c.toInt ∧ c.toInt ≤ 255) : lvl (20000 + c) = lvb c := by
  have e : (20000 + c).toInt = 20000 + c.toInt := by rw [zi_add (by rw [show (20000 : Int32).toInt = 20000 by decide]; omega) (by rw [show (20000 : Int32).toInt = 20000 by decide]; omega), show (20000 : Int32).toInt = 20000 by decide]
  have q : ∀ (d d2 : Int32), d.toInt = 20000 + d2.toInt → ((20000 + c = d) ↔ c = d2) := fun d d2 hd => by
    rw [zi_eq, zi_eq, e, hd]
    omega
  unfold lvl lvb
  simp only [q 20124 124 (by decide), q 20038 38 (by decide), q 20060 60 (by decide), q 20061 61 (by decide), q 20062 62 (by decide), q 20043 43 (by decide), q 20045 45 (by decide), q 20042 42 (by decide), q 20047 47 (by decide)]
theorem ltc_lo {B : Nat → Int32} {ky t : Nat} {x : Lx} (hk : lOK B t x) (hB : ∀ i, i < t → iin (B i) 0 255) (h3 : ¬ x.2.2.1 = 3) : -2 ≤ (ltc B ky x).toInt ∧ (ltc B ky x).toInt ≤ 10002 ∧ (ky ≠ 0 → ¬ ltc B ky x = 10002) := by
  have c4 : (10000 : Int32).toInt = 10000 := by decide
  have z2 : (-2 : Int32).toInt = -2 := by decide
  unfold ltc
  by_cases q0 : x.2.2.1 = 0
  · rw [if_pos q0]
    exact ⟨by decide, by decide, fun _ => by decide⟩
  · rw [if_neg q0, if_neg h3]
    by_cases qg : x.2.2.2 = 1
    · rw [if_pos qg]
      exact ⟨by decide, by decide, fun _ => by decide⟩
    · rw [if_neg qg]
      by_cases q2 : x.2.2.1 = 2
      · rw [if_pos q2]
        by_cases q4 : x.2.1 - x.1 ≤ 4
        · rw [if_pos q4]
          have hn := nv_in (B := B) (s := x.1) (x.2.1 - x.1) q4 (fun j hj => by
            have hr := hk.2.2.2.1
            unfold lend at hr
            rw [← hk.2.2.1, if_neg h3, if_neg q0] at hr
            have e := lrun_in (B := B) (t := t) (k := x.2.2.1) (t - x.1) x.1 (x.1 + j) (by omega) (by omega)
            exact dig_of (e.trans q2))
          have hp : (10 : Int) ^ (x.2.1 - x.1) ≤ 10000 := by
            rcases (show x.2.1 - x.1 = 0 ∨ x.2.1 - x.1 = 1 ∨ x.2.1 - x.1 = 2 ∨ x.2.1 - x.1 = 3 ∨ x.2.1 - x.1 = 4 by omega) with e | e | e | e | e <;> rw [e] <;> decide
          refine ⟨by omega, by omega, fun _ z => ?_⟩
          rw [z, show (10002 : Int32).toInt = 10002 by decide] at hn
          omega
        · rw [if_neg q4]
          exact ⟨by decide, by decide, fun _ => by decide⟩
      · rw [if_neg q2]
        by_cases q4 : x.2.1 - x.1 = 1 ∧ 0 ≤ nmo ky (B x.1)
        · rw [if_pos q4]
          obtain ⟨n1, n2, n3⟩ := nmo_in ky (B x.1)
          have e : (10000 + nmo ky (B x.1)).toInt = 10000 + (nmo ky (B x.1)).toInt := by rw [zi_add (by rw [c4]; omega) (by rw [c4]; omega), c4]
          refine ⟨by omega, by omega, fun z w => ?_⟩
          have := n3 z
          rw [zi_eq, e, show (10002 : Int32).toInt = 10002 by decide] at w
          omega
        · rw [if_neg q4]
          exact ⟨by decide, by decide, fun _ => by decide⟩
theorem lvl_lo {c : Int32} (h : c.toInt ≤ 10002) : lvl c = -1 := by
  rcases lvl_cases c with ⟨e, -⟩ | ⟨rfl, e⟩ | ⟨rfl, e⟩ | ⟨rfl, e⟩ | ⟨rfl, e⟩ | ⟨rfl, e⟩ | ⟨rfl, e⟩ | ⟨rfl, e⟩ | ⟨rfl, e⟩ | ⟨rfl, e⟩
  · exact e
  all_goals exact absurd h (by decide)
theorem lvl_s {B : Nat → Int32} {ky t : Nat} {x : Lx} (hk : lOK B t x) (hB : ∀ i, i < t → iin (B i) 0 255) : lvl (ltc B ky x) = lvb (sgn B x) := by
  unfold sgn
  by_cases h3 : x.2.2.1 = 3
  · rw [if_pos h3]
    have hb := hB _ (lOK_lt hk (by omega))
    unfold iin at hb
    rw [← lvl_b (by omega)]
    unfold ltc
    rw [if_neg (by omega), if_pos h3]
  · rw [if_neg h3, lvl_lo (ltc_lo hk hB h3).2.1]
    decide
theorem sgn_eq {B : Nat → Int32} {ky t : Nat} {x : Lx} (hk : lOK B t x) (hB : ∀ i, i < t → iin (B i) 0 255) {c : Int32} (hc : 0 ≤ c.toInt ∧ c.toInt ≤ 255) : sgn B x = c ↔ ltc B ky x = 20000 + c := by
  have cz : (20000 : Int32).toInt = 20000 := by decide
  have e : (20000 + c).toInt = 20000 + c.toInt := by rw [zi_add (by rw [cz]; omega) (by rw [cz]; omega), cz]
  unfold sgn
  by_cases h3 : x.2.2.1 = 3
  · have hb := hB _ (lOK_lt hk (by omega))
    unfold iin at hb
    have e2 : (20000 + B x.1).toInt = 20000 + (B x.1).toInt := by rw [zi_add (by rw [cz]; omega) (by rw [cz]; omega), cz]
    have el : ltc B ky x = 20000 + B x.1 := by
      unfold ltc
      rw [if_neg (by omega), if_pos h3]
    rw [if_pos h3, el, zi_eq, zi_eq, e, e2]
    omega
  · have := ltc_lo (ky := ky) hk hB h3
    rw [if_neg h3, zi_eq, zi_eq, e, im1]
    omega