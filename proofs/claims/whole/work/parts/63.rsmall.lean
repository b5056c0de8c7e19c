/-! THE CLASS's READER: what is written, words, names, numbers -/
def lvC (o : List Int32) : Nat := (o.filter (fun c => decide (c < 20000))).length
theorem lvC_app (o : List Int32) (c : Int32) : lvC (o ++ [c]) = if c < 20000 then lvC o + 1 else lvC o := by
  unfold lvC
  rw [List.filter_append, List.length_append]
  by_cases h : c < 20000
  · rw [if_pos h, List.filter_cons_of_pos (by simpa using h)]
    rfl
  · rw [if_neg h, List.filter_cons_of_neg (by simpa using h)]
    rfl
def frA (M M' : zM) : Prop := ∀ a i j f, ¬ ((a = 8 ∧ i = 14 ∧ f ≠ 0) ∨ (a = 9 ∧ i = 14)) → M' a i j f = M a i j f
def rOut (M : zM) (o : List Int32) : Prop := M 8 14 0 2 = nI o.length ∧ o.length ≤ 96 ∧ M 8 14 0 1 = nI (lvC o) ∧ ∀ i, i < o.length → o[i]? = some (M 9 14 0 i)
def addP (M : zM) (c : Int32) (M' : zM) : Prop := frA M M' ∧ (∃ n', n' ≤ 96 ∧ M' 8 14 0 2 = nI n') ∧ ∀ o, rOut M o → o.length < 96 → rOut M' (o ++ [c])
def tAdd (M : zM) (n : Nat) (c : Int32) : zM := if n < 96 then (if c < 20000 then zu (zu (zu M 9 14 0 n c) 8 14 0 2 (nI (n + 1))) 8 14 0 1 (M 8 14 0 1 + 1) else zu (zu M 9 14 0 n c) 8 14 0 2 (nI (n + 1))) else (if c < 20000 then zu M 8 14 0 1 (M 8 14 0 1 + 1) else M)
theorem add_ok {M M' : zM} {n : Nat} {c : Int32} (hn : M 8 14 0 2 = nI n) (h96 : n ≤ 96) (hM : M' = tAdd M n c) : addP M c M' := by
  subst hM
  unfold tAdd
  refine ⟨?_, ?_, ?_⟩
  · intro a i j f z
    split
    · split
      · rw [zu_ne _ _ (by omega), zu_ne _ _ (by omega), zu_ne _ _ (by omega)]
      · rw [zu_ne _ _ (by omega), zu_ne _ _ (by omega)]
    · split
      · rw [zu_ne _ _ (by omega)]
      · rfl
  · by_cases q : n < 96
    · rw [if_pos q]
      refine ⟨n + 1, by omega, ?_⟩
      split
      · rw [zu_ne _ _ (by omega), zu_self]
      · rw [zu_self]
    · rw [if_neg q]
      refine ⟨n, h96, ?_⟩
      split
      · rw [zu_ne _ _ (by omega), hn]
      · exact hn
  · intro o ho hl
    obtain rfl : n = o.length := (nI_eq (by omega) (by omega)).mp (hn.symm.trans ho.1)
    rw [if_pos hl]
    have hlen : (o ++ [c]).length = o.length + 1 := by rw [List.length_append]; rfl
    have hidx : ∀ i, i < (o ++ [c]).length → (o ++ [c])[i]? = some (zu M 9 14 0 o.length c 9 14 0 i) := by
      intro i hi
      rw [hlen] at hi
      by_cases q : i = o.length
      · subst q
        rw [zu_self, List.getElem?_append_right (Nat.le_refl _), Nat.sub_self]
        rfl
      · rw [zu_ne _ _ (by omega), List.getElem?_append_left (by omega)]
        exact ho.2.2.2 i (by omega)
    by_cases q : c < 20000
    · rw [if_pos q]
      refine ⟨?_, by omega, ?_, fun i hi => ?_⟩
      · rw [zu_ne _ _ (by omega), zu_self, hlen]
      · rw [zu_self, lvC_app, if_pos q, ho.2.2.1, nI_1]
      · rw [hidx i hi, zu_ne (a := 8) (a' := 9) _ _ (by omega), zu_ne (a := 8) (a' := 9) _ _ (by omega)]
    · rw [if_neg q]
      refine ⟨?_, by omega, ?_, fun i hi => ?_⟩
      · rw [zu_self, hlen]
      · rw [zu_ne _ _ (by omega), zu_ne _ _ (by omega), lvC_app, if_neg q, ho.2.2.1]
      · rw [hidx i hi, zu_ne (a := 8) (a' := 9) _ _ (by omega)]
set_option maxHeartbeats 800000 in
set_option maxRecDepth 100000 in
theorem mX5_add {l : Launch} {G : zG} {b : Nat} {M : zM} {n : Nat} (hn : M 8 14 0 2 = nI n) (h96 : n ≤ 96) {c : Int32} : zMet l G b yX5_add cX5_add 2 none 0 zshL zshL [.ref (b + adT 14), .int c] M (zV (addP M c)) := by
  refine zMet.of (L0 := [some (.ref (b + adT 14)), some (.int c)]) (by decide +kernel) (Nat.le_refl _) (Nat.le_refl _) (Nat.le_of_ble_eq_true rfl) (List.forall_mem_cons.mpr ⟨rfl, List.forall_mem_cons.mpr ⟨rfl, fun _ h => absurd h List.not_mem_nil⟩⟩) rfl (fun X C Al K => ?_)
  refine z_aload_n (pc := 0) C 0 dX5_add_0 rfl rfl ?_
  refine z_getI (pc := 1) C dX5_add_1 fX5_18 (shT lt14_15) rfl ?_
  rw [hn]
  refine z_bipush (pc := 4) (v := 96) C dX5_add_4 rfl ?_
  refine z_icmp_ge (pc := 6) C 29 dX5_add_6 (by decide) (fun c6 => ?_) (fun c6 => ?_)
  · refine z_iload_n (pc := 29) C 1 dX5_add_29 rfl rfl ?_
    refine z_sipush (pc := 30) (v := 20000) C dX5_add_30 rfl ?_
    refine z_icmp_ge (pc := 33) C 46 dX5_add_33 (by decide) (fun c33 => ?_) (fun c33 => ?_)
    · refine z_return (pc := 46) C K dX5_add_46 ?_
      have q6 := (nI_leI (a := 96) (b := n) (by omega) (by omega)).mp c6
      have q33 : ¬ c < 20000 := by
        rw [zi_lt]
        rw [zi_le] at c33
        omega
      refine ⟨rfl, add_ok hn h96 ?_⟩
      unfold tAdd
      rw [if_neg (show ¬ n < 96 by omega), if_neg q33]
    · refine z_aload_n (pc := 36) C 0 dX5_add_36 rfl rfl ?_
      refine z_dup (pc := 37) C dX5_add_37 rfl ?_
      refine z_getI (pc := 38) C dX5_add_38 fX5_15 (shT lt14_15) rfl ?_
      refine z_iconst (pc := 41) (v := 1) C dX5_add_41 rfl ?_
      refine z_iadd (pc := 42) C dX5_add_42 ?_
      refine z_putII (pc := 43) C dX5_add_43 fX5_15 (shT lt14_15) rfl ?_
      refine z_return (pc := 46) C K dX5_add_46 ?_
      have q6 := (nI_leI (a := 96) (b := n) (by omega) (by omega)).mp c6
      have q33 : c < 20000 := by
        rw [zi_lt]
        rw [zi_le] at c33
        omega
      refine ⟨rfl, add_ok hn h96 ?_⟩
      unfold tAdd
      rw [if_neg (show ¬ n < 96 by omega), if_pos q33]
  · refine z_aload_n (pc := 9) C 0 dX5_add_9 rfl rfl ?_
    refine z_getR (pc := 10) (r := adT 14 + 1) C dX5_add_10 fX5_21 (shT lt14_15) rfl ?_
    refine z_aload_n (pc := 13) C 0 dX5_add_13 rfl rfl ?_
    refine z_getI (pc := 14) C dX5_add_14 fX5_18 (shT lt14_15) rfl ?_
    rw [hn]
    refine z_iload_n (pc := 17) C 1 dX5_add_17 rfl rfl ?_
    refine z_iast (pc := 18) (n := n) C dX5_add_18 (shC lt14_15) (zi_in.mpr (by have q6 : ¬ 96 ≤ n := fun z => c6 (nI_le (a := 96) z (by omega)); rw [nI_toInt (by omega)]; omega)) (nI_clamp (by omega)) ?_
    refine z_aload_n (pc := 19) C 0 dX5_add_19 rfl rfl ?_
    refine z_dup (pc := 20) C dX5_add_20 rfl ?_
    refine z_getI (pc := 21) C dX5_add_21 fX5_18 (shT lt14_15) rfl ?_
    rw [zu_ne _ _ (by omega), hn]
    refine z_iconst (pc := 24) (v := 1) C dX5_add_24 rfl ?_
    refine z_iadd (pc := 25) C dX5_add_25 ?_
    rw [nI_1]
    refine z_putII (pc := 26) C dX5_add_26 fX5_18 (shT lt14_15) rfl ?_
    refine z_iload_n (pc := 29) C 1 dX5_add_29 rfl rfl ?_
    refine z_sipush (pc := 30) (v := 20000) C dX5_add_30 rfl ?_
    refine z_icmp_ge (pc := 33) C 46 dX5_add_33 (by decide) (fun c33 => ?_) (fun c33 => ?_)
    · refine z_return (pc := 46) C K dX5_add_46 ?_
      have q6 : ¬ 96 ≤ n := fun z => c6 (nI_le (a := 96) z (by omega))
      have q33 : ¬ c < 20000 := by
        rw [zi_lt]
        rw [zi_le] at c33
        omega
      refine ⟨rfl, add_ok hn h96 ?_⟩
      unfold tAdd
      rw [if_pos (show n < 96 by omega), if_neg q33]
    · refine z_aload_n (pc := 36) C 0 dX5_add_36 rfl rfl ?_
      refine z_dup (pc := 37) C dX5_add_37 rfl ?_
      refine z_getI (pc := 38) C dX5_add_38 fX5_15 (shT lt14_15) rfl ?_
      rw [zu_f (by decide), zu_ne _ _ (by omega)]
      refine z_iconst (pc := 41) (v := 1) C dX5_add_41 rfl ?_
      refine z_iadd (pc := 42) C dX5_add_42 ?_
      refine z_putII (pc := 43) C dX5_add_43 fX5_15 (shT lt14_15) rfl ?_
      refine z_return (pc := 46) C K dX5_add_46 ?_
      have q6 : ¬ 96 ≤ n := fun z => c6 (nI_le (a := 96) z (by omega))
      have q33 : c < 20000 := by
        rw [zi_lt]
        rw [zi_le] at c33
        omega
      refine ⟨rfl, add_ok hn h96 ?_⟩
      unfold tAdd
      rw [if_pos (show n < 96 by omega), if_pos q33]

def wmt (B : Nat → Int32) (x : Lx) (i : Nat) : Prop := x.2.1 - x.1 = zsl6 i ∧ ∀ k, k < zsl6 i → B (x.1 + k) = zsb i k
theorem nI_sub {a c : Nat} (h : c ≤ a) (ha : a < 2 ^ 31) : nI a - nI c = nI (a - c) := by
  rw [zi_eq, zi_sub (by rw [nI_toInt ha, nI_toInt (by omega)]; omega) (by rw [nI_toInt ha, nI_toInt (by omega)]; omega), nI_toInt ha, nI_toInt (by omega), nI_toInt (by omega)]
  omega
theorem kwm_w {B : Nat → Int32} {x : Lx} {w : Nat} (hw : w < 3) : kwm B x w ↔ wmt B x w := by
  have h1 : ∀ w : Fin 3, kLen w.1 = zsl6 w.1 := by decide
  have h2 : ∀ w : Fin 3, ∀ k : Fin (zsl6 w.1), kyA (3 * w.1 + k.1) = zsb w.1 k.1 := by decide
  unfold kwm wmt
  rw [h1 ⟨w, hw⟩]
  refine ⟨fun h => ⟨h.1, fun k hk => ?_⟩, fun h => ⟨h.1, fun k hk => ?_⟩⟩
  · rw [h.2 k hk, h2 ⟨w, hw⟩ ⟨k, hk⟩]
  · rw [h.2 k hk, h2 ⟨w, hw⟩ ⟨k, hk⟩]
set_option maxHeartbeats 800000 in
set_option maxRecDepth 100000 in
theorem mX1_isWord {l : Launch} {G : zG} {b : Nat} {M : zM} {B : Nat → Int32} {t : Nat} (hT : tpe M B t) {x : Lx} (hx : rdr M x) (hk : lOK B t x) {i : Nat} (hi : i < 6) : zMet l G b yX1_isWord cX1_isWord 3 (some .boolean) 4 zshL zshL [.ref (b + 205), .ref (G.2.2 (1 + i))] M (zI (fun r M' => ((r = 1 ∧ wmt B x i) ∨ (r = 0 ∧ ¬ wmt B x i)) ∧ M' = M)) := by
  refine zMet.of (L0 := [some (.ref (b + 205)), some (.ref (G.2.2 (1 + i))), none]) (by decide +kernel) (Nat.le_refl _) (Nat.le_refl _) (Nat.le_of_ble_eq_true rfl) (List.forall_mem_cons.mpr ⟨rfl, List.forall_mem_cons.mpr ⟨rfl, fun _ h => absurd h List.not_mem_nil⟩⟩) rfl (fun X C Al K => ?_)
  have h96 := hT.2.1
  obtain ⟨x1, x2, x3, x4⟩ := hx
  obtain ⟨k1, k2, k3, k4, k5⟩ := hk
  have h4 := zs_4 i hi
  have loop : x.2.1 - x.1 = zsl6 i → ∀ (e k : Nat), k + e = zsl6 i → (∀ q, q < k → B (x.1 + q) = zsb i q) → zW X zshL M 20 [some (.ref (b + 205)), some (.ref (G.2.2 (1 + i))), some (.int (nI k))] [] := by
    intro hl e
    induction e with
    | zero =>
      intro k hke hq
      obtain rfl : k = zsl6 i := by omega
      refine z_iload_n (pc := 20) C 2 dX1_isWord_20 rfl rfl ?_
      refine z_aload_n (pc := 21) C 1 dX1_isWord_21 rfl rfl ?_
      refine z_callTi (pc := 22) C hi dX1_isWord_22 kX1_84 (mJ0_length_8abf5 hi) (by decide) rfl rfl rfl (Nat.le_of_ble_eq_true rfl) (fun r22 M22 h22 => ?_)
      obtain ⟨rfl, e22⟩ := h22
      subst M22
      refine z_icmp_ge (pc := 25) C 57 dX1_isWord_25 (by decide) (fun c25 => ?_) (fun c25 => absurd (Int32.le_refl _) c25)
      refine z_iconst (pc := 57) (v := 1) C dX1_isWord_57 rfl ?_
      refine z_zreturn (pc := 58) C K dX1_isWord_58 (Or.inr rfl) ?_
      exact ⟨_, rfl, Or.inl ⟨rfl, hl, hq⟩, rfl⟩
    | succ e ih =>
      intro k hke hq
      refine z_iload_n (pc := 20) C 2 dX1_isWord_20 rfl rfl ?_
      refine z_aload_n (pc := 21) C 1 dX1_isWord_21 rfl rfl ?_
      refine z_callTi (pc := 22) C hi dX1_isWord_22 kX1_84 (mJ0_length_8abf5 hi) (by decide) rfl rfl rfl (Nat.le_of_ble_eq_true rfl) (fun r22 M22 h22 => ?_)
      obtain ⟨rfl, e22⟩ := h22
      subst M22
      refine z_icmp_ge (pc := 25) C 57 dX1_isWord_25 (by decide) (fun c25 => absurd c25 (nI_ge (by omega) (by omega))) (fun c25 => ?_)
      refine z_aload_n (pc := 28) C 0 dX1_isWord_28 rfl rfl ?_
      refine z_getR (pc := 29) (r := 203) C dX1_isWord_29 fX1_41 sh_205 rfl ?_
      refine z_aload_n (pc := 32) C 0 dX1_isWord_32 rfl rfl ?_
      refine z_getI (pc := 33) C dX1_isWord_33 fX1_18 sh_205 rfl ?_
      refine z_iload_n (pc := 36) C 2 dX1_isWord_36 rfl rfl ?_
      refine z_iadd (pc := 37) C dX1_isWord_37 ?_
      rw [x1, nI_add]
      refine z_callVi (pc := 38) C dX1_isWord_38 kX1_64 (mX4_at hT.1 h96) (by decide) sh_203 rfl rfl rfl (Nat.le_of_ble_eq_true rfl) (fun r38 M38 h38 => ?_)
      obtain ⟨rfl, e38⟩ := h38
      subst M38
      rw [tAt_in hT (by omega)]
      refine z_aload_n (pc := 41) C 1 dX1_isWord_41 rfl rfl ?_
      refine z_iload_n (pc := 42) C 2 dX1_isWord_42 rfl rfl ?_
      refine z_callTi (pc := 43) C hi dX1_isWord_43 kX1_89 (mJ0_charAt_5068e hi rfl (j := k) (by omega)) (by decide) rfl rfl rfl (Nat.le_of_ble_eq_true rfl) (fun r43 M43 h43 => ?_)
      obtain ⟨rfl, e43⟩ := h43
      subst M43
      refine z_icmp_eq (pc := 46) C 51 dX1_isWord_46 (by decide) (fun c46 => ?_) (fun c46 => ?_)
      · refine z_iinc (pc := 51) (v := 1) C 2 dX1_isWord_51 (by decide) rfl rfl rfl ?_
        rw [nI_1]
        refine z_goto (pc := 54) C 20 dX1_isWord_54 (by decide) ?_
        exact ih (k + 1) (by omega) (fun q h => by
          by_cases z : q = k
          · rw [z]; exact c46
          · exact hq q (by omega))
      · refine z_iconst (pc := 49) (v := 0) C dX1_isWord_49 rfl ?_
        refine z_zreturn (pc := 50) C K dX1_isWord_50 (Or.inl rfl) ?_
        exact ⟨_, rfl, Or.inr ⟨rfl, fun z => c46 (z.2 k (by omega))⟩, rfl⟩
  refine z_aload_n (pc := 0) C 0 dX1_isWord_0 rfl rfl ?_
  refine z_getI (pc := 1) C dX1_isWord_1 fX1_22 sh_205 rfl ?_
  refine z_aload_n (pc := 4) C 0 dX1_isWord_4 rfl rfl ?_
  refine z_getI (pc := 5) C dX1_isWord_5 fX1_18 sh_205 rfl ?_
  refine z_isub (pc := 8) C dX1_isWord_8 ?_
  refine z_aload_n (pc := 9) C 1 dX1_isWord_9 rfl rfl ?_
  rw [x2, x1, nI_sub k1 (by omega)]
  refine z_callTi (pc := 10) C hi dX1_isWord_10 kX1_84 (mJ0_length_8abf5 hi) (by decide) rfl rfl rfl (Nat.le_of_ble_eq_true rfl) (fun r10 M10 h10 => ?_)
  obtain ⟨rfl, e10⟩ := h10
  subst M10
  refine z_icmp_eq (pc := 13) C 18 dX1_isWord_13 (by decide) (fun c13 => ?_) (fun c13 => ?_)
  · refine z_iconst (pc := 18) (v := 0) C dX1_isWord_18 rfl ?_
    refine z_istore_n (pc := 19) C 2 dX1_isWord_19 rfl (by decide) rfl ?_
    exact loop ((nI_eq (by omega) (by omega)).mp c13) (zsl6 i) 0 (by omega) (fun q h => by omega)
  · refine z_iconst (pc := 16) (v := 0) C dX1_isWord_16 rfl ?_
    refine z_zreturn (pc := 17) C K dX1_isWord_17 (Or.inl rfl) ?_
    exact ⟨_, rfl, Or.inr ⟨rfl, fun z => c13 (by rw [z.1])⟩, rfl⟩

def frK (M M' : zM) : Prop := ∀ a i j f, ¬ ((a = 21 ∧ 2 ≤ f ∧ f ≤ 5) ∨ (a = 8 ∧ i = 14 ∧ f = 0)) → M' a i j f = M a i j f
set_option maxHeartbeats 800000 in
set_option maxRecDepth 100000 in
theorem mX1_readKey {l : Launch} {G : zG} {b : Nat} {M : zM} {B : Nat → Int32} {t : Nat} (hT : tpe M B t) {x : Lx} (hx : rdr M x) (hk : lOK B t x) : zMet l G b yX1_readKey cX1_readKey 1 none 5 zshL zshL [.ref (b + 205)] M (zV (fun M' => (∃ w, w < 3 ∧ kwm B x w ∧ (∀ v, v < w → ¬ kwm B x v) ∧ rdr M' (ladv B t x) ∧ M' 8 14 0 0 = nI w ∧ frK M M') ∨ ((∀ w, w < 3 → ¬ kwm B x w) ∧ M' = zu M 21 0 0 6 1))) := by
  refine zMet.of (L0 := [some (.ref (b + 205))]) (by decide +kernel) (Nat.le_refl _) (Nat.le_refl _) (Nat.le_of_ble_eq_true rfl) (List.forall_mem_cons.mpr ⟨rfl, fun _ h => absurd h List.not_mem_nil⟩) rfl (fun X C Al K => ?_)
  refine z_aload_n (pc := 0) C 0 dX1_readKey_0 rfl rfl ?_
  refine z_ldcS (pc := 1) C 0 (by decide) rfl dX1_readKey_1 ?_
  refine z_callVi (pc := 3) C dX1_readKey_3 kX1_73 (mX1_isWord hT hx hk (i := 0) (by decide)) (by decide) sh_205 rfl rfl rfl (Nat.le_of_ble_eq_true rfl) (fun r3 M3 h3 => ?_)
  obtain ⟨g3, e3⟩ := h3
  subst M3
  refine z_if_eq (pc := 6) C 20 dX1_readKey_6 (by decide) (fun c6 => ?_) (fun c6 => ?_)
  · refine z_aload_n (pc := 20) C 0 dX1_readKey_20 rfl rfl ?_
    refine z_ldcS (pc := 21) C 1 (by decide) rfl dX1_readKey_21 ?_
    refine z_callVi (pc := 23) C dX1_readKey_23 kX1_73 (mX1_isWord hT hx hk (i := 1) (by decide)) (by decide) sh_205 rfl rfl rfl (Nat.le_of_ble_eq_true rfl) (fun r23 M23 h23 => ?_)
    obtain ⟨g23, e23⟩ := h23
    subst M23
    refine z_if_eq (pc := 26) C 40 dX1_readKey_26 (by decide) (fun c26 => ?_) (fun c26 => ?_)
    · refine z_aload_n (pc := 40) C 0 dX1_readKey_40 rfl rfl ?_
      refine z_ldcS (pc := 41) C 2 (by decide) rfl dX1_readKey_41 ?_
      refine z_callVi (pc := 43) C dX1_readKey_43 kX1_73 (mX1_isWord hT hx hk (i := 2) (by decide)) (by decide) sh_205 rfl rfl rfl (Nat.le_of_ble_eq_true rfl) (fun r43 M43 h43 => ?_)
      obtain ⟨g43, e43⟩ := h43
      subst M43
      refine z_if_eq (pc := 46) C 60 dX1_readKey_46 (by decide) (fun c46 => ?_) (fun c46 => ?_)
      · refine z_aload_n (pc := 60) C 0 dX1_readKey_60 rfl rfl ?_
        refine z_iconst (pc := 61) (v := 1) C dX1_readKey_61 rfl ?_
        refine z_putZ (pc := 62) C dX1_readKey_62 fX1_32 sh_205 rfl (Or.inr rfl) ?_
        refine z_return (pc := 65) C K dX1_readKey_65 ?_
        have n0 : ¬ kwm B x 0 := fun q => (by
          rcases g3 with z | z
          · rw [z.1] at c6; exact absurd c6 (by decide)
          · exact z.2 ((kwm_w (by decide)).mp q))
        have n1 : ¬ kwm B x 1 := fun q => (by
          rcases g23 with z | z
          · rw [z.1] at c26; exact absurd c26 (by decide)
          · exact z.2 ((kwm_w (by decide)).mp q))
        have n2 : ¬ kwm B x 2 := fun q => (by
          rcases g43 with z | z
          · rw [z.1] at c46; exact absurd c46 (by decide)
          · exact z.2 ((kwm_w (by decide)).mp q))
        refine ⟨rfl, Or.inr ⟨fun w hw => ?_, rfl⟩⟩
        rcases (show w = 0 ∨ w = 1 ∨ w = 2 by omega) with rfl | rfl | rfl
        · exact n0
        · exact n1
        · exact n2
      · refine z_aload_n (pc := 49) C 0 dX1_readKey_49 rfl rfl ?_
        refine z_getR (pc := 50) (r := adT 14) C dX1_readKey_50 fX1_12 sh_205 rfl ?_
        refine z_iconst (pc := 53) (v := 2) C dX1_readKey_53 rfl ?_
        refine z_putII (pc := 54) C dX1_readKey_54 fX1_77 (shT lt14_15) rfl ?_
        refine z_goto (pc := 57) C 66 dX1_readKey_57 (by decide) ?_
        refine z_aload_n (pc := 66) C 0 dX1_readKey_66 rfl rfl ?_
        refine z_callVv (pc := 67) C dX1_readKey_67 kX1_51 (mX1_advance (B := B) (t := t) (x := x) ⟨(zu_ne _ _ (by omega)).trans hT.1, hT.2.1, fun i hi => ⟨(zu_ne _ _ (by omega)).trans (hT.2.2 i hi).1, (hT.2.2 i hi).2⟩⟩ ⟨(zu_ne _ _ (by omega)).trans hx.1, (zu_ne _ _ (by omega)).trans hx.2.1, (zu_ne _ _ (by omega)).trans hx.2.2.1, (zu_ne _ _ (by omega)).trans hx.2.2.2⟩ hk.2.1 (by rw [hk.2.2.1]; exact tsrt_3 B t _)) (by decide) sh_205 rfl rfl rfl (Nat.le_of_ble_eq_true rfl) (fun M67 h67 => ?_)
        refine z_return (pc := 70) C K dX1_readKey_70 ?_
        obtain ⟨e67, f67⟩ := h67
        have y2 : kwm B x 2 := (kwm_w (by decide)).mpr (by
          rcases g43 with z | z
          · exact z.2
          · exact absurd z.1 c46)
        have n0 : ¬ kwm B x 0 := fun q => (by
          rcases g3 with z | z
          · rw [z.1] at c6; exact absurd c6 (by decide)
          · exact z.2 ((kwm_w (by decide)).mp q))
        have n1 : ¬ kwm B x 1 := fun q => (by
          rcases g23 with z | z
          · rw [z.1] at c26; exact absurd c26 (by decide)
          · exact z.2 ((kwm_w (by decide)).mp q))
        refine ⟨rfl, Or.inl ⟨2, by decide, y2, ?_, e67, ?_, ?_⟩⟩
        · intro v hv
          rcases (show v = 0 ∨ v = 1 by omega) with rfl | rfl
          · exact n0
          · exact n1
        · rw [f67 8 14 0 0 (by omega), zu_self]
          rfl
        · intro a i j f z
          rw [f67 a i j f (by omega), zu_ne _ _ (by omega)]
    · refine z_aload_n (pc := 29) C 0 dX1_readKey_29 rfl rfl ?_
      refine z_getR (pc := 30) (r := adT 14) C dX1_readKey_30 fX1_12 sh_205 rfl ?_
      refine z_iconst (pc := 33) (v := 1) C dX1_readKey_33 rfl ?_
      refine z_putII (pc := 34) C dX1_readKey_34 fX1_77 (shT lt14_15) rfl ?_
      refine z_goto (pc := 37) C 66 dX1_readKey_37 (by decide) ?_
      refine z_aload_n (pc := 66) C 0 dX1_readKey_66 rfl rfl ?_
      refine z_callVv (pc := 67) C dX1_readKey_67 kX1_51 (mX1_advance (B := B) (t := t) (x := x) ⟨(zu_ne _ _ (by omega)).trans hT.1, hT.2.1, fun i hi => ⟨(zu_ne _ _ (by omega)).trans (hT.2.2 i hi).1, (hT.2.2 i hi).2⟩⟩ ⟨(zu_ne _ _ (by omega)).trans hx.1, (zu_ne _ _ (by omega)).trans hx.2.1, (zu_ne _ _ (by omega)).trans hx.2.2.1, (zu_ne _ _ (by omega)).trans hx.2.2.2⟩ hk.2.1 (by rw [hk.2.2.1]; exact tsrt_3 B t _)) (by decide) sh_205 rfl rfl rfl (Nat.le_of_ble_eq_true rfl) (fun M67 h67 => ?_)
      refine z_return (pc := 70) C K dX1_readKey_70 ?_
      obtain ⟨e67, f67⟩ := h67
      have y1 : kwm B x 1 := (kwm_w (by decide)).mpr (by
        rcases g23 with z | z
        · exact z.2
        · exact absurd z.1 c26)
      have n0 : ¬ kwm B x 0 := fun q => (by
        rcases g3 with z | z
        · rw [z.1] at c6; exact absurd c6 (by decide)
        · exact z.2 ((kwm_w (by decide)).mp q))
      refine ⟨rfl, Or.inl ⟨1, by decide, y1, ?_, e67, ?_, ?_⟩⟩
      · intro v hv
        obtain rfl : v = 0 := by omega
        exact n0
      · rw [f67 8 14 0 0 (by omega), zu_self]
        rfl
      · intro a i j f z
        rw [f67 a i j f (by omega), zu_ne _ _ (by omega)]
  · refine z_aload_n (pc := 9) C 0 dX1_readKey_9 rfl rfl ?_
    refine z_getR (pc := 10) (r := adT 14) C dX1_readKey_10 fX1_12 sh_205 rfl ?_
    refine z_iconst (pc := 13) (v := 0) C dX1_readKey_13 rfl ?_
    refine z_putII (pc := 14) C dX1_readKey_14 fX1_77 (shT lt14_15) rfl ?_
    refine z_goto (pc := 17) C 66 dX1_readKey_17 (by decide) ?_
    refine z_aload_n (pc := 66) C 0 dX1_readKey_66 rfl rfl ?_
    refine z_callVv (pc := 67) C dX1_readKey_67 kX1_51 (mX1_advance (B := B) (t := t) (x := x) ⟨(zu_ne _ _ (by omega)).trans hT.1, hT.2.1, fun i hi => ⟨(zu_ne _ _ (by omega)).trans (hT.2.2 i hi).1, (hT.2.2 i hi).2⟩⟩ ⟨(zu_ne _ _ (by omega)).trans hx.1, (zu_ne _ _ (by omega)).trans hx.2.1, (zu_ne _ _ (by omega)).trans hx.2.2.1, (zu_ne _ _ (by omega)).trans hx.2.2.2⟩ hk.2.1 (by rw [hk.2.2.1]; exact tsrt_3 B t _)) (by decide) sh_205 rfl rfl rfl (Nat.le_of_ble_eq_true rfl) (fun M67 h67 => ?_)
    refine z_return (pc := 70) C K dX1_readKey_70 ?_
    obtain ⟨e67, f67⟩ := h67
    have y0 : kwm B x 0 := (kwm_w (by decide)).mpr (by
      rcases g3 with z | z
      · exact z.2
      · exact absurd z.1 c6)
    refine ⟨rfl, Or.inl ⟨0, by decide, y0, ?_, e67, ?_, ?_⟩⟩
    · intro v hv; omega
    · rw [f67 8 14 0 0 (by omega), zu_self]
      rfl
    · intro a i j f z
      rw [f67 a i j f (by omega), zu_ne _ _ (by omega)]

theorem tpe.onA {M M' : zM} {B : Nat → Int32} {t : Nat} (h : tpe M B t) (hf : frA M M') : tpe M' B t := ⟨by rw [hf 19 0 0 1 (by omega)]; exact h.1, h.2.1, fun i hi => by rw [hf 20 0 0 i (by omega)]; exact h.2.2 i hi⟩
set_option maxHeartbeats 800000 in
set_option maxRecDepth 100000 in
theorem mX1_readNumber {l : Launch} {G : zG} {b : Nat} {M : zM} {B : Nat → Int32} {t : Nat} (hT : tpe M B t) {x : Lx} (hx : rdr M x) (hk : lOK B t x) {n : Nat} (hn : M 8 14 0 2 = nI n) (hn96 : n ≤ 96) : zMet l G b yX1_readNumber cX1_readNumber 3 none 2 zshL zshL [.ref (b + 205)] M (zV (fun M' => (¬ x.2.1 - x.1 ≤ 4 ∧ M' = zu M 21 0 0 6 1) ∨ (x.2.1 - x.1 ≤ 4 ∧ ∃ M1, addP M (nv B x.1 (x.2.1 - x.1)) M1 ∧ rdr M' (ladv B t x) ∧ fr25 M1 M'))) := by
  refine zMet.of (L0 := [some (.ref (b + 205)), none, none]) (by decide +kernel) (Nat.le_refl _) (Nat.le_refl _) (Nat.le_of_ble_eq_true rfl) (List.forall_mem_cons.mpr ⟨rfl, fun _ h => absurd h List.not_mem_nil⟩) rfl (fun X C Al K => ?_)
  have h96 := hT.2.1
  have hx0 := hx
  obtain ⟨x1, x2, x3, x4⟩ := hx
  obtain ⟨k1, k2, k3, k4, k5⟩ := hk
  have loop : x.2.1 - x.1 ≤ 4 → ∀ (e j : Nat), j + e = x.2.1 - x.1 → zW X zshL M 26 [some (.ref (b + 205)), some (.int (nv B x.1 j)), some (.int (nI (x.1 + j)))] [] := by
    intro hl e
    induction e with
    | zero =>
      intro j hje
      obtain rfl : j = x.2.1 - x.1 := by omega
      refine z_iload_n (pc := 26) C 2 dX1_readNumber_26 rfl rfl ?_
      refine z_aload_n (pc := 27) C 0 dX1_readNumber_27 rfl rfl ?_
      refine z_getI (pc := 28) C dX1_readNumber_28 fX1_22 sh_205 rfl ?_
      rw [x2, show x.1 + (x.2.1 - x.1) = x.2.1 by omega]
      refine z_icmp_ge (pc := 31) C 57 dX1_readNumber_31 (by decide) (fun c31 => ?_) (fun c31 => absurd (Int32.le_refl _) c31)
      refine z_aload_n (pc := 57) C 0 dX1_readNumber_57 rfl rfl ?_
      refine z_getR (pc := 58) (r := adT 14) C dX1_readNumber_58 fX1_12 sh_205 rfl ?_
      refine z_iload_n (pc := 61) C 1 dX1_readNumber_61 rfl rfl ?_
      refine z_callVv (pc := 62) C dX1_readNumber_62 kX1_102 (mX5_add hn hn96) (by decide) (shT lt14_15) rfl rfl rfl (Nat.le_of_ble_eq_true rfl) (fun M62 h62 => ?_)
      refine z_aload_n (pc := 65) C 0 dX1_readNumber_65 rfl rfl ?_
      refine z_callVv (pc := 66) C dX1_readNumber_66 kX1_51 (mX1_advance (B := B) (t := t) (x := x) (hT.onA h62.1) ⟨(h62.1 _ _ _ _ (by omega)).trans x1, (h62.1 _ _ _ _ (by omega)).trans x2, (h62.1 _ _ _ _ (by omega)).trans x3, (h62.1 _ _ _ _ (by omega)).trans x4⟩ k2 (by rw [k3]; exact tsrt_3 B t _)) (by decide) sh_205 rfl rfl rfl (Nat.le_of_ble_eq_true rfl) (fun M66 h66 => ?_)
      refine z_return (pc := 69) C K dX1_readNumber_69 ?_
      exact ⟨rfl, Or.inr ⟨hl, _, h62, h66⟩⟩
    | succ e ih =>
      intro j hje
      refine z_iload_n (pc := 26) C 2 dX1_readNumber_26 rfl rfl ?_
      refine z_aload_n (pc := 27) C 0 dX1_readNumber_27 rfl rfl ?_
      refine z_getI (pc := 28) C dX1_readNumber_28 fX1_22 sh_205 rfl ?_
      rw [x2]
      refine z_icmp_ge (pc := 31) C 57 dX1_readNumber_31 (by decide) (fun c31 => absurd c31 (nI_ge (by omega) (by omega))) (fun c31 => ?_)
      refine z_iload_n (pc := 34) C 1 dX1_readNumber_34 rfl rfl ?_
      refine z_bipush (pc := 35) (v := 10) C dX1_readNumber_35 rfl ?_
      refine z_imul (pc := 37) C dX1_readNumber_37 ?_
      refine z_aload_n (pc := 38) C 0 dX1_readNumber_38 rfl rfl ?_
      refine z_getR (pc := 39) (r := 203) C dX1_readNumber_39 fX1_41 sh_205 rfl ?_
      refine z_iload_n (pc := 42) C 2 dX1_readNumber_42 rfl rfl ?_
      refine z_callVi (pc := 43) C dX1_readNumber_43 kX1_64 (mX4_at hT.1 h96) (by decide) sh_203 rfl rfl rfl (Nat.le_of_ble_eq_true rfl) (fun r43 M43 h43 => ?_)
      obtain ⟨rfl, e43⟩ := h43
      subst M43
      rw [tAt_in hT (by omega)]
      refine z_iadd (pc := 46) C dX1_readNumber_46 ?_
      refine z_bipush (pc := 47) (v := 48) C dX1_readNumber_47 rfl ?_
      refine z_isub (pc := 49) C dX1_readNumber_49 ?_
      refine z_istore_n (pc := 50) C 1 dX1_readNumber_50 rfl (by decide) rfl ?_
      refine z_iinc (pc := 51) (v := 1) C 2 dX1_readNumber_51 (by decide) rfl rfl rfl ?_
      rw [nI_1]
      refine z_goto (pc := 54) C 26 dX1_readNumber_54 (by decide) ?_
      exact ih (j + 1) (by omega)
  refine z_aload_n (pc := 0) C 0 dX1_readNumber_0 rfl rfl ?_
  refine z_getI (pc := 1) C dX1_readNumber_1 fX1_22 sh_205 rfl ?_
  refine z_aload_n (pc := 4) C 0 dX1_readNumber_4 rfl rfl ?_
  refine z_getI (pc := 5) C dX1_readNumber_5 fX1_18 sh_205 rfl ?_
  refine z_isub (pc := 8) C dX1_readNumber_8 ?_
  rw [x2, x1, nI_sub k1 (by omega)]
  refine z_iconst (pc := 9) (v := 4) C dX1_readNumber_9 rfl ?_
  refine z_icmp_le (pc := 10) C 19 dX1_readNumber_10 (by decide) (fun c10 => ?_) (fun c10 => ?_)
  · refine z_iconst (pc := 19) (v := 0) C dX1_readNumber_19 rfl ?_
    refine z_istore_n (pc := 20) C 1 dX1_readNumber_20 rfl (by decide) rfl ?_
    refine z_aload_n (pc := 21) C 0 dX1_readNumber_21 rfl rfl ?_
    refine z_getI (pc := 22) C dX1_readNumber_22 fX1_18 sh_205 rfl ?_
    rw [x1]
    refine z_istore_n (pc := 25) C 2 dX1_readNumber_25 rfl (by decide) rfl ?_
    exact loop ((nI_leI (b := 4) (by omega) (by omega)).mp c10) (x.2.1 - x.1) 0 (by omega)
  · refine z_aload_n (pc := 13) C 0 dX1_readNumber_13 rfl rfl ?_
    refine z_iconst (pc := 14) (v := 1) C dX1_readNumber_14 rfl ?_
    refine z_putZ (pc := 15) C dX1_readNumber_15 fX1_32 sh_205 rfl (Or.inr rfl) ?_
    refine z_return (pc := 18) C K dX1_readNumber_18 ?_
    exact ⟨rfl, Or.inl ⟨fun z => c10 (nI_le (b := 4) z (by omega)), rfl⟩⟩

set_option maxHeartbeats 800000 in
set_option maxRecDepth 100000 in
theorem mX1_lettersOf {l : Launch} {G : zG} {b : Nat} {M : zM} {w : Nat} (hw : w < 3) : zMet l G b yX1_lettersOf cX1_lettersOf 1 (some (.object "java/lang/String")) 0 zshL zshL [.int (nI w)] M (fun r M' => r = some (.ref (G.2.2 (1 + (3 + w)))) ∧ M' = M) := by
  refine zMet.of (L0 := [some (.int (nI w))]) (by decide +kernel) (Nat.le_refl _) (Nat.le_refl _) (Nat.le_of_ble_eq_true rfl) (List.forall_mem_cons.mpr ⟨rfl, fun _ h => absurd h List.not_mem_nil⟩) rfl (fun X C Al K => ?_)
  refine z_iload_n (pc := 0) C 0 dX1_lettersOf_0 rfl rfl ?_
  by_cases s1_0 : nI w = 0
  · refine z_lookup (pc := 1) C 28 dX1_lettersOf_1 (by decide) (by rw [s1_0]) (by decide) ?_
    obtain rfl : w = 0 := (nI_eq (b := 0) (by omega) (by omega)).mp s1_0
    refine z_ldcS (pc := 28) C 3 (by decide) rfl dX1_lettersOf_28 ?_
    refine z_areturn (pc := 30) C K (Or.inl ⟨_, rfl⟩) dX1_lettersOf_30 ?_
    exact ⟨rfl, rfl⟩
  by_cases s1_1 : nI w = 1
  · refine z_lookup (pc := 1) C 31 dX1_lettersOf_1 (by decide) (by rw [s1_1]) (by decide) ?_
    obtain rfl : w = 1 := (nI_eq (b := 1) (by omega) (by omega)).mp s1_1
    refine z_ldcS (pc := 31) C 4 (by decide) rfl dX1_lettersOf_31 ?_
    refine z_areturn (pc := 33) C K (Or.inl ⟨_, rfl⟩) dX1_lettersOf_33 ?_
    exact ⟨rfl, rfl⟩
  refine z_lookup (pc := 1) (off := 33) C 34 dX1_lettersOf_1 (by decide) (by show Op.lookupswitch.offset [(0, 27), (1, 30)] _ _ = _; rw [lv_osw (k := 0) (a := 0) s1_0 rfl, lv_osw (k := 1) (a := 1) s1_1 rfl]; rfl) (by decide) ?_
  obtain rfl : w = 2 := by
    rcases (show w = 0 ∨ w = 1 ∨ w = 2 by omega) with h | h | h
    · exact absurd (by rw [h]; rfl) s1_0
    · exact absurd (by rw [h]; rfl) s1_1
    · exact h
  refine z_ldcS (pc := 34) C 5 (by decide) rfl dX1_lettersOf_34 ?_
  refine z_areturn (pc := 36) C K (Or.inl ⟨_, rfl⟩) dX1_lettersOf_36 ?_
  exact ⟨rfl, rfl⟩

theorem chr_id {c : Int32} (h : 0 ≤ c.toInt ∧ c.toInt ≤ 255) : (c.toUInt32 % 65536).toInt32 = c := by
  have h2 : ∀ n : Fin 256, ((nI n.1).toUInt32 % 65536).toInt32 = nI n.1 := by decide +kernel
  obtain ⟨n, hn, e⟩ : ∃ n : Nat, n < 256 ∧ c = nI n := ⟨c.toInt.toNat, by omega, by rw [zi_eq, nI_toInt (by omega)]; omega⟩
  rw [e]
  exact h2 ⟨n, hn⟩
theorem zfx_n {w : Nat} (hw : w < 3) {c : Int32} (h : 97 ≤ c.toInt ∧ c.toInt ≤ 122) : zfx (3 + w) c.toInt8.toInt32 (zsl6 (3 + w)) 0 = nmo w c := by
  have h2 : ∀ w : Fin 3, ∀ n : Fin 26, zfx (3 + w.1) (nI (97 + n.1)).toInt8.toInt32 (zsl6 (3 + w.1)) 0 = nmo w.1 (nI (97 + n.1)) := by decide +kernel
  obtain ⟨n, hn, e⟩ : ∃ n : Nat, n < 26 ∧ c = nI (97 + n) := ⟨c.toInt.toNat - 97, by omega, by rw [zi_eq, nI_toInt (by omega)]; omega⟩
  rw [e]
  exact h2 ⟨w, hw⟩ ⟨n, hn⟩
theorem let_of {B : Nat → Int32} {t p : Nat} (h : tsrt B t p = 1) : 97 ≤ (B p).toInt ∧ (B p).toInt ≤ 122 := by
  unfold tsrt at h
  split at h
  · omega
  · split at h
    · rename_i q
      rw [zi_le, zi_le, show (97 : Int32).toInt = 97 by decide, show (122 : Int32).toInt = 122 by decide] at q
      exact q
    · split at h <;> omega
set_option maxHeartbeats 800000 in
set_option maxRecDepth 100000 in
theorem mX1_readName {l : Launch} {G : zG} {b : Nat} {M : zM} {B : Nat → Int32} {t : Nat} (hT : tpe M B t) {x : Lx} (hx : rdr M x) (hk : lOK B t x) {n : Nat} (hn : M 8 14 0 2 = nI n) (hn96 : n ≤ 96) (hs : x.2.2.1 = 1) {w : Nat} (hw : w < 3) (hky : M 8 14 0 0 = nI w) : zMet l G b yX1_readName cX1_readName 2 none 4 zshL zshL [.ref (b + 205)] M (zV (fun M' => (¬ (x.2.1 - x.1 = 1 ∧ 0 ≤ nmo w (B x.1)) ∧ M' = zu M 21 0 0 6 1) ∨ ((x.2.1 - x.1 = 1 ∧ 0 ≤ nmo w (B x.1)) ∧ ∃ M1, addP M (10000 + nmo w (B x.1)) M1 ∧ rdr M' (ladv B t x) ∧ fr25 M1 M'))) := by
  refine zMet.of (L0 := [some (.ref (b + 205)), none]) (by decide +kernel) (Nat.le_refl _) (Nat.le_refl _) (Nat.le_of_ble_eq_true rfl) (List.forall_mem_cons.mpr ⟨rfl, fun _ h => absurd h List.not_mem_nil⟩) rfl (fun X C Al K => ?_)
  have h96 := hT.2.1
  have hlt := lOK_lt hk (by omega)
  obtain ⟨x1, x2, x3, x4⟩ := hx
  obtain ⟨k1, k2, k3, k4, k5⟩ := hk
  have hlet := let_of (k3.symm.trans hs)
  have h6 : 3 + w < 6 := by omega
  have fin : ∀ r : Int32, ((x.2.1 - x.1 = 1 ∧ r = nmo w (B x.1)) ∨ (¬ x.2.1 - x.1 = 1 ∧ r = -1)) → zW X zshL M 42 [some (.ref (b + 205)), none] [.int r] := by
    intro r hr
    refine z_istore_n (pc := 42) C 1 dX1_readName_42 rfl (by decide) rfl ?_
    refine z_iload_n (pc := 43) C 1 dX1_readName_43 rfl rfl ?_
    refine z_if_ge (pc := 44) C 53 dX1_readName_44 (by decide) (fun c44 => ?_) (fun c44 => ?_)
    · refine z_aload_n (pc := 53) C 0 dX1_readName_53 rfl rfl ?_
      refine z_getR (pc := 54) (r := adT 14) C dX1_readName_54 fX1_12 sh_205 rfl ?_
      refine z_sipush (pc := 57) (v := 10000) C dX1_readName_57 rfl ?_
      refine z_iload_n (pc := 60) C 1 dX1_readName_60 rfl rfl ?_
      refine z_iadd (pc := 61) C dX1_readName_61 ?_
      refine z_callVv (pc := 62) C dX1_readName_62 kX1_102 (mX5_add hn hn96) (by decide) (shT lt14_15) rfl rfl rfl (Nat.le_of_ble_eq_true rfl) (fun M62 h62 => ?_)
      refine z_aload_n (pc := 65) C 0 dX1_readName_65 rfl rfl ?_
      refine z_callVv (pc := 66) C dX1_readName_66 kX1_51 (mX1_advance (B := B) (t := t) (x := x) (hT.onA h62.1) ⟨(h62.1 _ _ _ _ (by omega)).trans x1, (h62.1 _ _ _ _ (by omega)).trans x2, (h62.1 _ _ _ _ (by omega)).trans x3, (h62.1 _ _ _ _ (by omega)).trans x4⟩ k2 (by rw [k3]; exact tsrt_3 B t _)) (by decide) sh_205 rfl rfl rfl (Nat.le_of_ble_eq_true rfl) (fun M66 h66 => ?_)
      refine z_return (pc := 69) C K dX1_readName_69 ?_
      rcases hr with ⟨q, rfl⟩ | ⟨q, rfl⟩
      · exact ⟨rfl, Or.inr ⟨⟨q, c44⟩, _, h62, h66⟩⟩
      · exact absurd c44 (by decide)
    · refine z_aload_n (pc := 47) C 0 dX1_readName_47 rfl rfl ?_
      refine z_iconst (pc := 48) (v := 1) C dX1_readName_48 rfl ?_
      refine z_putZ (pc := 49) C dX1_readName_49 fX1_32 sh_205 rfl (Or.inr rfl) ?_
      refine z_return (pc := 52) C K dX1_readName_52 ?_
      refine ⟨rfl, Or.inl ⟨fun z => ?_, rfl⟩⟩
      rcases hr with q | q
      · exact c44 (by rw [q.2]; exact z.2)
      · exact q.1 z.1
  refine z_aload_n (pc := 0) C 0 dX1_readName_0 rfl rfl ?_
  refine z_getI (pc := 1) C dX1_readName_1 fX1_22 sh_205 rfl ?_
  refine z_aload_n (pc := 4) C 0 dX1_readName_4 rfl rfl ?_
  refine z_getI (pc := 5) C dX1_readName_5 fX1_18 sh_205 rfl ?_
  refine z_isub (pc := 8) C dX1_readName_8 ?_
  rw [x2, x1, nI_sub k1 (by omega)]
  refine z_iconst (pc := 9) (v := 1) C dX1_readName_9 rfl ?_
  refine z_icmp_ne (pc := 10) C 41 dX1_readName_10 (by decide) (fun c10 => ?_) (fun c10 => ?_)
  · refine z_iconst (pc := 41) (v := -1) C dX1_readName_41 rfl ?_
    exact fin _ (Or.inr ⟨fun z => c10 (by rw [z]; rfl), rfl⟩)
  · refine z_aload_n (pc := 13) C 0 dX1_readName_13 rfl rfl ?_
    refine z_getR (pc := 14) (r := adT 14) C dX1_readName_14 fX1_12 sh_205 rfl ?_
    refine z_getI (pc := 17) C dX1_readName_17 fX1_77 (shT lt14_15) rfl ?_
    rw [hky]
    refine z_callS (pc := 20) C dX1_readName_20 kX1_117 (mX1_lettersOf hw) (by decide) rfl rfl (Nat.le_of_ble_eq_true rfl) (fun r20 M20 h20 => ?_)
    obtain ⟨rfl, e20⟩ := h20
    subst M20
    show zW X zshL M 23 [some (.ref (b + 205)), none] [.ref (G.2.2 (1 + (3 + w)))]
    refine z_aload_n (pc := 23) C 0 dX1_readName_23 rfl rfl ?_
    refine z_getR (pc := 24) (r := 203) C dX1_readName_24 fX1_41 sh_205 rfl ?_
    refine z_aload_n (pc := 27) C 0 dX1_readName_27 rfl rfl ?_
    refine z_getI (pc := 28) C dX1_readName_28 fX1_18 sh_205 rfl ?_
    rw [x1]
    refine z_callVi (pc := 31) C dX1_readName_31 kX1_64 (mX4_at hT.1 h96) (by decide) sh_203 rfl rfl rfl (Nat.le_of_ble_eq_true rfl) (fun r31 M31 h31 => ?_)
    obtain ⟨rfl, e31⟩ := h31
    subst M31
    rw [tAt_in hT hlt]
    refine z_i2c (pc := 34) C dX1_readName_34 ?_
    rw [chr_id (by omega)]
    refine z_callTi (pc := 35) C h6 dX1_readName_35 kX1_121 (mJ0_indexOf_0f7a4 h6 (by omega)) (by decide) rfl rfl rfl (Nat.le_of_ble_eq_true rfl) (fun r35 M35 h35 => ?_)
    obtain ⟨rfl, e35⟩ := h35
    subst M35
    rw [zfx_n hw hlet]
    refine z_goto (pc := 38) C 42 dX1_readName_38 (by decide) ?_
    exact fin _ (Or.inl ⟨(nI_eq (b := 1) (by omega) (by omega)).mp c10, rfl⟩)

