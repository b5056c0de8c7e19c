/-! THE CLASS's READER: a whole text; text() -/
def frW (M M' : zM) : Prop := ∀ a i j f, ¬ ((a = 21 ∧ 2 ≤ f) ∨ (a = 8 ∧ i = 14) ∨ (a = 9 ∧ i = 14)) → M' a i j f = M a i j f
theorem frW.trans {M M' M2 : zM} (h : frW M M') (h' : frW M' M2) : frW M M2 := fun a i j f z => (h' a i j f z).trans (h a i j f z)
theorem frO.w {M M' : zM} (h : frO M M') : frW M M' := fun a i j f z => h a i j f (fun q => z (by omega))
theorem frK.w {M M' : zM} (h : frK M M') : frW M M' := fun a i j f z => h a i j f (fun q => z (by omega))
theorem nI_sur (v : Int32) : ∃ n : Nat, v = nI n := ⟨v.toBitVec.toNat, by
  apply Int32.toBitVec_inj.mp
  simp [nI]⟩
def r0M (M : zM) : zM := zu (zu (zu (zu (zu (zu (zu (zu M 8 14 0 1 0) 8 14 0 2 0) 21 0 0 2 0) 21 0 0 3 0) 21 0 0 4 0) 21 0 0 6 0) 21 0 0 7 0) 21 0 0 8 0
theorem r0M_fr (M : zM) : frW M (r0M M) := by
  intro a i j f z
  unfold r0M
  rw [zu_ne _ _ (by omega), zu_ne _ _ (by omega), zu_ne _ _ (by omega), zu_ne _ _ (by omega), zu_ne _ _ (by omega), zu_ne _ _ (by omega), zu_ne _ _ (by omega), zu_ne _ _ (by omega)]
theorem tpe.onW {M M' : zM} {B : Nat → Int32} {t : Nat} (h : tpe M B t) (hf : frW M M') : tpe M' B t := ⟨by rw [hf 19 0 0 1 (by omega)]; exact h.1, h.2.1, fun i hi => by rw [hf 20 0 0 i (by omega)]; exact h.2.2 i hi⟩
theorem r0M_v (M : zM) : r0M M 21 0 0 2 = 0 ∧ r0M M 21 0 0 3 = 0 ∧ r0M M 21 0 0 4 = 0 ∧ r0M M 21 0 0 6 = 0 ∧ r0M M 21 0 0 7 = 0 ∧ r0M M 21 0 0 8 = 0 ∧ r0M M 8 14 0 1 = 0 ∧ r0M M 8 14 0 2 = 0 := ⟨rfl, rfl, rfl, rfl, rfl, rfl, rfl, rfl⟩
def Rd (B : Nat → Int32) (t : Nat) (R : Nat → Lx ⊕ (Lx × List Int32)) (M : zM) (r : Int32) (M' : zM) : Prop := frW M M' ∧ ((r = 0 ∧ ∃ q, tF B t (l0 B t) R q ∧ M' 21 0 0 2 = nI q) ∨ (r = 1 ∧ ∃ w l, tG B (l0 B t) R w l ∧ M' 8 14 0 0 = nI w ∧ rOut M' l))
set_option maxHeartbeats 800000 in
set_option maxRecDepth 100000 in
theorem mX1_readsWhole {l : Launch} {G : zG} {b : Nat} {M : zM} {B : Nat → Int32} {t : Nat} (hT : tpe M B t) {R : Nat → Lx ⊕ (Lx × List Int32)} (hR : ∀ w, pP (ltc B w) (ladv B t) 2000 0 0 0 (ladv B t (l0 B t)) = some (R w)) : zMet l G b yX1_readsWhole cX1_readsWhole 1 (some .boolean) 93 zshL zshL [.ref (b + 205)] M (zI (Rd B t R M)) := by
  refine zMet.of (L0 := [some (.ref (b + 205))]) (by decide +kernel) (Nat.le_refl _) (Nat.le_refl _) (Nat.le_of_ble_eq_true rfl) (List.forall_mem_cons.mpr ⟨rfl, fun _ h => absurd h List.not_mem_nil⟩) rfl (fun X C Al K => ?_)
  have hB : ∀ i, i < t → iin (B i) 0 255 := fun i hi => (hT.2.2 i hi).2
  have hT0 := hT.onW (r0M_fr M)
  obtain ⟨v2, v3, v4, v6, v7, v8, u1, u2⟩ := r0M_v M
  obtain ⟨gl, hgl⟩ := nI_sur (r0M M 21 0 0 5)
  have hx0 : rdr (r0M M) (0, 0, 0, gl) := ⟨v2, v3, v4, hgl⟩
  have hl0 : ladv B t (0, 0, 0, gl) = l0 B t := rfl
  refine z_aload_n (pc := 0) C 0 dX1_readsWhole_0 rfl rfl ?_
  refine z_getR (pc := 1) (r := adT 14) C dX1_readsWhole_1 fX1_12 sh_205 rfl ?_
  refine z_iconst (pc := 4) (v := 0) C dX1_readsWhole_4 rfl ?_
  refine z_putII (pc := 5) C dX1_readsWhole_5 fX1_45 (shT lt14_15) rfl ?_
  refine z_aload_n (pc := 8) C 0 dX1_readsWhole_8 rfl rfl ?_
  refine z_getR (pc := 9) (r := adT 14) C dX1_readsWhole_9 fX1_12 sh_205 rfl ?_
  refine z_iconst (pc := 12) (v := 0) C dX1_readsWhole_12 rfl ?_
  refine z_putII (pc := 13) C dX1_readsWhole_13 fX1_48 (shT lt14_15) rfl ?_
  refine z_aload_n (pc := 16) C 0 dX1_readsWhole_16 rfl rfl ?_
  refine z_iconst (pc := 17) (v := 0) C dX1_readsWhole_17 rfl ?_
  refine z_putII (pc := 18) C dX1_readsWhole_18 fX1_18 sh_205 rfl ?_
  refine z_aload_n (pc := 21) C 0 dX1_readsWhole_21 rfl rfl ?_
  refine z_iconst (pc := 22) (v := 0) C dX1_readsWhole_22 rfl ?_
  refine z_putII (pc := 23) C dX1_readsWhole_23 fX1_22 sh_205 rfl ?_
  refine z_aload_n (pc := 26) C 0 dX1_readsWhole_26 rfl rfl ?_
  refine z_iconst (pc := 27) (v := 0) C dX1_readsWhole_27 rfl ?_
  refine z_putII (pc := 28) C dX1_readsWhole_28 fX1_25 sh_205 rfl ?_
  refine z_aload_n (pc := 31) C 0 dX1_readsWhole_31 rfl rfl ?_
  refine z_iconst (pc := 32) (v := 0) C dX1_readsWhole_32 rfl ?_
  refine z_putZ (pc := 33) C dX1_readsWhole_33 fX1_32 sh_205 rfl (Or.inl rfl) ?_
  refine z_aload_n (pc := 36) C 0 dX1_readsWhole_36 rfl rfl ?_
  refine z_iconst (pc := 37) (v := 0) C dX1_readsWhole_37 rfl ?_
  refine z_putII (pc := 38) C dX1_readsWhole_38 fX1_35 sh_205 rfl ?_
  refine z_aload_n (pc := 41) C 0 dX1_readsWhole_41 rfl rfl ?_
  refine z_iconst (pc := 42) (v := 0) C dX1_readsWhole_42 rfl ?_
  refine z_putII (pc := 43) C dX1_readsWhole_43 fX1_38 sh_205 rfl ?_
  refine z_aload_n (pc := 46) C 0 dX1_readsWhole_46 rfl rfl ?_
  show zW X zshL (r0M M) _ _ _
  refine z_callVv (pc := 47) C dX1_readsWhole_47 kX1_51 (mX1_advance (x := (0, 0, 0, gl)) hT0 hx0 (Nat.zero_le _) (Nat.zero_le _)) (by decide) sh_205 rfl rfl rfl (Nat.le_of_ble_eq_true rfl) (fun M47 h47 => ?_)
  rw [hl0] at h47
  have hTa := hT0.on h47.2
  refine z_aload_n (pc := 50) C 0 dX1_readsWhole_50 rfl rfl ?_
  refine z_callVv (pc := 51) C dX1_readsWhole_51 kX1_54 (mX1_readKey hTa h47.1 l0_ok) (by decide) sh_205 rfl rfl rfl (Nat.le_of_ble_eq_true rfl) (fun M51 h51 => ?_)
  rcases h51 with ⟨w, hw, hkw, hno, hr1, hky, hf1⟩ | ⟨hno, rfl⟩
  · have hT1 := hT0.onW (h47.2.o.w.trans hf1.w)
    have h6a : M51 21 0 0 6 = 0 := by rw [hf1 _ _ _ _ (by omega), h47.2 _ _ _ _ (by omega)]; exact v6
    have hok1 := (l1_ok hkw).1
    have hS : rS B t w M51 (ladv B t (l0 B t)) 0 0 [] := by
      refine ⟨hT1, hr1, ⟨hok1, lG_adv B t _⟩, h6a, ?_, ?_, hky, ?_, Nat.zero_le _, ?_, fun i hi => absurd hi (Nat.not_lt_zero _)⟩
      · rw [hf1 _ _ _ _ (by omega), h47.2 _ _ _ _ (by omega)]; exact v7
      · rw [hf1 _ _ _ _ (by omega), h47.2 _ _ _ _ (by omega)]; exact v8
      · rw [hf1 _ _ _ _ (by omega), h47.2 _ _ _ _ (by omega)]; exact u2
      · rw [hf1 _ _ _ _ (by omega), h47.2 _ _ _ _ (by omega)]; exact u1
    refine z_aload_n (pc := 54) C 0 dX1_readsWhole_54 rfl rfl ?_
    refine z_getI (pc := 55) C dX1_readsWhole_55 fX1_32 sh_205 rfl ?_
    rw [h6a]
    refine z_if_ne (pc := 58) C 66 dX1_readsWhole_58 (by decide) (fun c58 => absurd rfl c58) (fun c58 => ?_)
    refine z_aload_n (pc := 61) C 0 dX1_readsWhole_61 rfl rfl ?_
    refine z_iconst (pc := 62) (v := 0) C dX1_readsWhole_62 rfl ?_
    refine z_callVv (pc := 63) C dX1_readsWhole_63 kX1_57 ((reads_all hw 2000).2 0 0 0 _ [] _ (R w) (by omega) (by omega) (by omega) hS (Nat.zero_le _) (hR w)) (by decide) sh_205 rfl rfl rfl (Nat.le_of_ble_eq_true rfl) (fun M63 h63 => ?_)
    have hfr := ((r0M_fr M).trans (h47.2.o.w.trans hf1.w)).trans h63.1.w
    rcases h63.2 with ⟨y, e1, q⟩ | ⟨y, l2, e1, q⟩
    · refine z_aload_n (pc := 66) C 0 dX1_readsWhole_66 rfl rfl ?_
      refine z_getI (pc := 67) C dX1_readsWhole_67 fX1_32 sh_205 rfl ?_
      rw [q.2.2.1]
      refine z_if_ne (pc := 70) C 84 dX1_readsWhole_70 (by decide) (fun c70 => ?_) (fun c70 => absurd c70 (by decide))
      refine z_iconst (pc := 84) (v := 0) C dX1_readsWhole_84 rfl ?_
      refine z_zreturn (pc := 85) C K dX1_readsWhole_85 (Or.inl rfl) ?_
      exact ⟨_, rfl, hfr, Or.inl ⟨rfl, y.1, Or.inr ⟨w, hw, hkw, hno, y, Or.inl e1, rfl⟩, q.2.1⟩⟩
    · refine z_aload_n (pc := 66) C 0 dX1_readsWhole_66 rfl rfl ?_
      refine z_getI (pc := 67) C dX1_readsWhole_67 fX1_32 sh_205 rfl ?_
      rw [q.2.2.2.1]
      refine z_if_ne (pc := 70) C 84 dX1_readsWhole_70 (by decide) (fun c70 => absurd rfl c70) (fun c70 => ?_)
      refine z_aload_n (pc := 73) C 0 dX1_readsWhole_73 rfl rfl ?_
      refine z_getI (pc := 74) C dX1_readsWhole_74 fX1_25 sh_205 rfl ?_
      rw [q.2.1.2.2.1]
      refine z_if_ne (pc := 77) C 84 dX1_readsWhole_77 (by decide) (fun c77 => ?_) (fun c77 => ?_)
      · refine z_iconst (pc := 84) (v := 0) C dX1_readsWhole_84 rfl ?_
        refine z_zreturn (pc := 85) C K dX1_readsWhole_85 (Or.inl rfl) ?_
        have ny : ¬ ltc B w y = -1 := fun z => c77 (by rw [(ltc_end (ky := w) q.2.2.1.1 hB).mpr z]; rfl)
        exact ⟨_, rfl, hfr, Or.inl ⟨rfl, y.1, Or.inr ⟨w, hw, hkw, hno, y, Or.inr ⟨l2, e1, ny⟩, rfl⟩, q.2.1.1⟩⟩
      · refine z_iconst (pc := 80) (v := 1) C dX1_readsWhole_80 rfl ?_
        refine z_goto (pc := 81) C 85 dX1_readsWhole_81 (by decide) ?_
        refine z_zreturn (pc := 85) C K dX1_readsWhole_85 (Or.inr rfl) ?_
        have y0 : y.2.2.1 = 0 := (nI_eq (b := 0) (by have := tsrt_3 B t y.1; rw [q.2.2.1.1.2.2.1]; omega) (by omega)).mp c77
        exact ⟨_, rfl, hfr, Or.inr ⟨rfl, w, l2, ⟨hw, hkw, hno, y, e1, (ltc_end (ky := w) q.2.2.1.1 hB).mp y0⟩, q.2.2.2.2.2.2.1, q.2.2.2.2.2.2.2⟩⟩
  · refine z_aload_n (pc := 54) C 0 dX1_readsWhole_54 rfl rfl ?_
    refine z_getI (pc := 55) C dX1_readsWhole_55 fX1_32 sh_205 rfl ?_
    rw [zu_self]
    refine z_if_ne (pc := 58) C 66 dX1_readsWhole_58 (by decide) (fun c58 => ?_) (fun c58 => absurd c58 (by decide))
    refine z_aload_n (pc := 66) C 0 dX1_readsWhole_66 rfl rfl ?_
    refine z_getI (pc := 67) C dX1_readsWhole_67 fX1_32 sh_205 rfl ?_
    rw [zu_self]
    refine z_if_ne (pc := 70) C 84 dX1_readsWhole_70 (by decide) (fun c70 => ?_) (fun c70 => absurd c70 (by decide))
    refine z_iconst (pc := 84) (v := 0) C dX1_readsWhole_84 rfl ?_
    refine z_zreturn (pc := 85) C K dX1_readsWhole_85 (Or.inl rfl) ?_
    exact ⟨_, rfl, (((r0M_fr M).trans h47.2.o.w).trans (frO.zu (by omega)).w), Or.inl ⟨rfl, _, Or.inl ⟨hno, rfl⟩, (zu_ne _ _ (by omega)).trans h47.1.1⟩⟩

def wrP (M : zM) (T n : Nat) (M' : zM) : Prop := M' 8 T 0 0 = M 8 14 0 0 ∧ M' 8 T 0 1 = M 8 14 0 1 ∧ M' 8 T 0 2 = M 8 14 0 2 ∧ (∀ i, i < n → M' 9 T 0 i = M 9 14 0 i) ∧ ∀ a i j f, ¬ ((a = 8 ∨ a = 9) ∧ i = T) → M' a i j f = M a i j f
set_option maxHeartbeats 800000 in
set_option maxRecDepth 100000 in
theorem mX5_write {l : Launch} {G : zG} {b : Nat} {M : zM} {T n : Nat} (hT14 : T < 14) (hn : M 8 14 0 2 = nI n) (h96 : n ≤ 96) : zMet l G b yX5_write cX5_write 3 none 1 zshL zshL [.ref (b + adT T), .ref (b + 205)] M (zV (wrP M T n)) := by
  refine zMet.of (L0 := [some (.ref (b + adT T)), some (.ref (b + 205)), none]) (by decide +kernel) (Nat.le_refl _) (Nat.le_refl _) (Nat.le_of_ble_eq_true rfl) (List.forall_mem_cons.mpr ⟨rfl, List.forall_mem_cons.mpr ⟨rfl, fun _ h => absurd h List.not_mem_nil⟩⟩) rfl (fun X C Al K => ?_)
  refine z_aload_n (pc := 0) C 1 dX5_write_0 rfl rfl ?_
  refine z_getR (pc := 1) (r := adT 14) C dX5_write_1 fX5_25 sh_205 rfl ?_
  refine z_astore_n (pc := 4) C 2 dX5_write_4 rfl (by decide) rfl ?_
  refine z_aload_n (pc := 5) C 0 dX5_write_5 rfl rfl ?_
  refine z_aload_n (pc := 6) C 2 dX5_write_6 rfl rfl ?_
  refine z_getI (pc := 7) C dX5_write_7 fX5_9 (shT lt14_15) rfl ?_
  refine z_putII (pc := 10) C dX5_write_10 fX5_9 (shT (show T < 15 by omega)) rfl ?_
  refine z_aload_n (pc := 13) C 0 dX5_write_13 rfl rfl ?_
  refine z_aload_n (pc := 14) C 2 dX5_write_14 rfl rfl ?_
  refine z_getI (pc := 15) C dX5_write_15 fX5_15 (shT lt14_15) rfl ?_
  rw [zu_ne (i' := 14) _ _ (by omega)]
  refine z_putII (pc := 18) C dX5_write_18 fX5_15 (shT (show T < 15 by omega)) rfl ?_
  refine z_aload_n (pc := 21) C 0 dX5_write_21 rfl rfl ?_
  refine z_aload_n (pc := 22) C 2 dX5_write_22 rfl rfl ?_
  refine z_getI (pc := 23) C dX5_write_23 fX5_18 (shT lt14_15) rfl ?_
  rw [zu_ne (i' := 14) _ _ (by omega), zu_ne (i' := 14) _ _ (by omega), hn]
  refine z_putII (pc := 26) C dX5_write_26 fX5_18 (shT (show T < 15 by omega)) rfl ?_
  refine z_aload_n (pc := 29) C 2 dX5_write_29 rfl rfl ?_
  refine z_getR (pc := 30) (r := adT 14 + 1) C dX5_write_30 fX5_21 (shT lt14_15) rfl ?_
  refine z_iconst (pc := 33) (v := 0) C dX5_write_33 rfl ?_
  refine z_aload_n (pc := 34) C 0 dX5_write_34 rfl rfl ?_
  refine z_getR (pc := 35) (r := adT T + 1) C dX5_write_35 fX5_21 (shT (show T < 15 by omega)) rfl ?_
  refine z_iconst (pc := 38) (v := 0) C dX5_write_38 rfl ?_
  refine z_aload_n (pc := 39) C 0 dX5_write_39 rfl rfl ?_
  refine z_getI (pc := 40) C dX5_write_40 fX5_18 (shT (show T < 15 by omega)) rfl ?_
  rw [zu_self]
  refine z_copy (pc := 43) C (by decide) (Nat.le_of_eq zshL_len.symm) q4_65 q4_67 q4_66 q1_19 dX5_write_43 (shC lt14_15) (shC (show T < 15 by omega)) (by decide) (by decide) (nI_pos (by omega)) (by rw [nI_clamp (by omega)]; show 0 + n ≤ 96; omega) (by rw [nI_clamp (by omega)]; show 0 + n ≤ 96; omega) (Nat.le_of_ble_eq_true rfl) ?_
  refine z_return (pc := 46) C K dX5_write_46 ?_
  refine ⟨rfl, ?_⟩
  rw [nI_clamp (by omega)]
  refine ⟨?_, ?_, ?_, ?_, ?_⟩
  · rw [zcp, if_neg (by omega), zu_ne _ _ (by omega), zu_ne _ _ (by omega), zu_self]
  · rw [zcp, if_neg (by omega), zu_ne _ _ (by omega), zu_self]
  · rw [zcp, if_neg (by omega), zu_self, hn]
  · intro i hi
    rw [zcp, if_pos ⟨rfl, rfl, rfl, by show 0 ≤ i; omega, by show i < 0 + n; omega⟩, show (0 : Int32).toNatClampNeg + (i - (0 : Int32).toNatClampNeg) = i by show 0 + (i - 0) = i; omega, zu_ne _ _ (by omega), zu_ne _ _ (by omega), zu_ne _ _ (by omega)]
  · intro a i j f z
    rw [zcp, if_neg (by omega), zu_ne _ _ (by omega), zu_ne _ _ (by omega), zu_ne _ _ (by omega)]

def Cadd (M : zM) (T w : Nat) (l : List Int32) (M' : zM) : Prop := M' 8 T 0 0 = nI w ∧ M' 8 T 0 1 = nI (lvC l) ∧ M' 8 T 0 2 = nI l.length ∧ (∀ i, i < l.length → l[i]? = some (M' 9 T 0 i)) ∧ M' 6 0 0 w = nI T ∧ M' 5 0 0 10 = nI (T + 1) ∧ ∀ a x y f, ¬ (scr a x y f ∨ (a = 19 ∧ f = 1) ∨ ((a = 8 ∨ a = 9) ∧ x = T) ∨ (a = 6 ∧ x = 0 ∧ f = w) ∨ (a = 5 ∧ x = 0 ∧ f = 10)) → M' a x y f = M a x y f
def Ctext (B : Nat → Int32) (t : Nat) (R : Nat → Lx ⊕ (Lx × List Int32)) (T : Nat) (M : zM) (r : Int32) (M' : zM) : Prop := M' 19 0 0 1 = 0 ∧ ((∃ q, tF B t (l0 B t) R q ∧ r = -100 - nI q ∧ zSc (zu M 19 0 0 1 0) M') ∨ ∃ w l, tG B (l0 B t) R w l ∧ l.length ≤ 96 ∧ ((T = 14 ∧ r = -1000000003 ∧ zSc (zu M 19 0 0 1 0) M') ∨ (T < 14 ∧ r = nI T ∧ Cadd M T w l M')))
theorem frW.sc {M M' : zM} (h : frW M M') : zSc (zu M 19 0 0 1 0) (zu M' 19 0 0 1 0) := by
  intro a x y f z
  by_cases q : a = 19 ∧ x = 0 ∧ y = 0 ∧ f = 1
  · obtain ⟨rfl, rfl, rfl, rfl⟩ := q
    rw [zu_self, zu_self]
  · rw [zu_ne _ _ q, zu_ne _ _ q]
    exact h a x y f (fun z2 => z (by unfold scr; omega))
theorem Cadd_of {M M4 M65 : zM} {T w : Nat} {l2 : List Int32} (t14 : T < 14) (hf : frW M M4) (hky : M4 8 14 0 0 = nI w) (ho : rOut M4 l2) (h65 : wrP (zu M4 19 0 0 1 0) T l2.length M65) : zu (zu M65 6 0 0 w (nI T)) 5 0 0 10 (nI (T + 1)) 19 0 0 1 = 0 ∧ Cadd M T w l2 (zu (zu M65 6 0 0 w (nI T)) 5 0 0 10 (nI (T + 1))) := by
  obtain ⟨w1, w2, w3, w4, w5⟩ := h65
  refine ⟨?_, ?_, ?_, ?_, ?_, ?_, ?_, ?_⟩
  · rw [zu_a (by decide), zu_a (by decide), w5 19 0 0 1 (by omega), zu_self]
  · rw [zu_a (by decide), zu_a (by decide), w1, zu_a (by decide), hky]
  · rw [zu_a (by decide), zu_a (by decide), w2, zu_a (by decide), ho.2.2.1]
  · rw [zu_a (by decide), zu_a (by decide), w3, zu_a (by decide), ho.1]
  · intro i hi
    rw [zu_a (by decide), zu_a (by decide), w4 i hi, zu_a (by decide)]
    exact ho.2.2.2 i hi
  · rw [zu_a (by decide), zu_self]
  · rw [zu_self]
  · intro a x y f z
    have z1 : ¬ scr a x y f := fun q => z (Or.inl q)
    have z2 : ¬ (a = 19 ∧ f = 1) := fun q => z (Or.inr (Or.inl q))
    have z3 : ¬ ((a = 8 ∨ a = 9) ∧ x = T) := fun q => z (Or.inr (Or.inr (Or.inl q)))
    have z4 : ¬ (a = 6 ∧ x = 0 ∧ f = w) := fun q => z (Or.inr (Or.inr (Or.inr (Or.inl q))))
    have z5 : ¬ (a = 5 ∧ x = 0 ∧ f = 10) := fun q => z (Or.inr (Or.inr (Or.inr (Or.inr q))))
    clear z
    have z6 : ¬ ((a = 21 ∧ 2 ≤ f) ∨ (a = 8 ∧ x = 14) ∨ (a = 9 ∧ x = 14)) := fun q => z1 (by
      unfold scr
      clear z1 z2 z3 z4 z5 w1 w2 w3 w4 w5
      omega)
    rw [zu_ne _ _ (fun q => z5 ⟨q.1, q.2.1, q.2.2.2⟩), zu_ne _ _ (fun q => z4 ⟨q.1, q.2.1, q.2.2.2⟩), w5 a x y f z3, zu_ne _ _ (fun q => z2 ⟨q.1, q.2.2.2⟩)]
    exact hf a x y f z6
set_option maxHeartbeats 800000 in
set_option maxRecDepth 100000 in
theorem mX9_text {l : Launch} {G : zG} {b : Nat} {M : zM} {B : Nat → Int32} {t T : Nat} (hT : tpe M B t) {R : Nat → Lx ⊕ (Lx × List Int32)} (hR : ∀ w, pP (ltc B w) (ladv B t) 2000 0 0 0 (ladv B t (l0 B t)) = some (R w)) (h10 : M 5 0 0 10 = nI T) (hT14 : T ≤ 14) : zMet l G b yX9_text cX9_text 2 (some .int) 94 zshL zshL [.ref (b + 0)] M (zI (Ctext B t R T M)) := by
  refine zMet.of (L0 := [some (.ref (b + 0)), none]) (by decide +kernel) (Nat.le_refl _) (Nat.le_refl _) (Nat.le_of_ble_eq_true rfl) (List.forall_mem_cons.mpr ⟨rfl, fun _ h => absurd h List.not_mem_nil⟩) rfl (fun X C Al K => ?_)
  refine z_aload_n (pc := 0) C 0 dX9_text_0 rfl rfl ?_
  refine z_getR (pc := 1) (r := 205) C dX9_text_1 fX9_47 sh_0 rfl ?_
  refine z_callVi (pc := 4) C dX9_text_4 kX9_218 (mX1_readsWhole hT hR) (by decide) sh_205 rfl rfl rfl (Nat.le_of_ble_eq_true rfl) (fun r4 M4 h4 => ?_)
  have e10 : zu M4 19 0 0 1 0 5 0 0 10 = nI T := (zu_ne _ _ (by omega)).trans ((h4.1 _ _ _ _ (by omega)).trans h10)
  refine z_istore_n (pc := 7) C 1 dX9_text_7 rfl (by decide) rfl ?_
  refine z_aload_n (pc := 8) C 0 dX9_text_8 rfl rfl ?_
  refine z_getR (pc := 9) (r := 203) C dX9_text_9 fX9_38 sh_0 rfl ?_
  refine z_iconst (pc := 12) (v := 0) C dX9_text_12 rfl ?_
  refine z_putII (pc := 13) C dX9_text_13 fX9_212 sh_203 rfl ?_
  refine z_iload_n (pc := 16) C 1 dX9_text_16 rfl rfl ?_
  refine z_if_ne (pc := 17) C 31 dX9_text_17 (by decide) (fun c17 => ?_) (fun c17 => ?_)
  · refine z_aload_n (pc := 31) C 0 dX9_text_31 rfl rfl ?_
    refine z_getR (pc := 32) (r := adW 0) C dX9_text_32 fX9_21 sh_0 rfl ?_
    refine z_getI (pc := 35) C dX9_text_35 fX9_224 (shW lt0_14) rfl ?_
    rw [e10]
    refine z_bipush (pc := 38) (v := 14) C dX9_text_38 rfl ?_
    refine z_icmp_lt (pc := 40) C 46 dX9_text_40 (by decide) (fun c40 => ?_) (fun c40 => ?_)
    · have t14 : T < 14 := (nI_ltI (b := 14) (by omega) (by omega)).mp c40
      obtain ⟨w, l2, hq, hky, ho⟩ : ∃ w l2, tG B (l0 B t) R w l2 ∧ M4 8 14 0 0 = nI w ∧ rOut M4 l2 := by
        rcases h4.2 with ⟨e, -⟩ | ⟨-, q⟩
        · exact absurd e c17
        · exact q
      refine z_aload_n (pc := 46) C 0 dX9_text_46 rfl rfl ?_
      refine z_getR (pc := 47) (r := 1) C dX9_text_47 fX9_12 sh_0 rfl ?_
      refine z_getR (pc := 50) (r := 2) C dX9_text_50 fX9_227 sh_1 rfl ?_
      refine z_aload_n (pc := 53) C 0 dX9_text_53 rfl rfl ?_
      refine z_getR (pc := 54) (r := adW 0) C dX9_text_54 fX9_21 sh_0 rfl ?_
      refine z_getI (pc := 57) C dX9_text_57 fX9_224 (shW lt0_14) rfl ?_
      rw [e10]
      refine z_aald (pc := 60) (r := adT T) C dX9_text_60 sh_2 rfl rfl (vp_in_nI t14 (by decide)) (tget t14) ?_
      refine z_aload_n (pc := 61) C 0 dX9_text_61 rfl rfl ?_
      refine z_getR (pc := 62) (r := 205) C dX9_text_62 fX9_47 sh_0 rfl ?_
      refine z_callVv (pc := 65) C dX9_text_65 kX9_231 (mX5_write t14 ((zu_ne _ _ (by omega)).trans ho.1) ho.2.1) (by decide) (shT (show T < 15 by omega)) rfl rfl rfl (Nat.le_of_ble_eq_true rfl) (fun M65 h65 => ?_)
      refine z_aload_n (pc := 68) C 0 dX9_text_68 rfl rfl ?_
      refine z_getR (pc := 69) (r := adW 0) C dX9_text_69 fX9_21 sh_0 rfl ?_
      refine z_callVi (pc := 72) C dX9_text_72 kX9_237 (mX8_addText (w := 0) (kt := w) lt0_14 ((h65.2.2.2.2 _ _ _ _ (by omega)).trans e10) t14 (h65.1.trans ((zu_ne _ _ (by omega)).trans hky)) hq.1) (by decide) (shW lt0_14) rfl rfl rfl (Nat.le_of_ble_eq_true rfl) (fun r72 M72 h72 => ?_)
      refine z_ireturn (pc := 75) C K dX9_text_75 ?_
      obtain ⟨rfl, e72⟩ := h72
      subst M72
      have hca := Cadd_of t14 h4.1 hky ho h65
      exact ⟨_, rfl, hca.1, Or.inr ⟨w, l2, hq, ho.2.1, Or.inr ⟨t14, rfl, hca.2⟩⟩⟩
    · refine z_ldc (pc := 43) C q2_97 dX9_text_43 ?_
      refine z_ireturn (pc := 45) C K dX9_text_45 ?_
      have t14 : T = 14 := by
        rcases Nat.lt_or_ge T 14 with z | z
        · exact absurd (nI_lt (b := 14) z (by omega)) c40
        · omega
      rcases h4.2 with ⟨e, -⟩ | ⟨-, w, l2, hq, -, ho⟩
      · exact absurd e c17
      · exact ⟨_, rfl, zu_self _ _ _ _ _ _, Or.inr ⟨w, l2, hq, ho.2.1, Or.inl ⟨t14, rfl, h4.1.sc⟩⟩⟩
  · refine z_bipush (pc := 20) (v := -100) C dX9_text_20 rfl ?_
    refine z_aload_n (pc := 22) C 0 dX9_text_22 rfl rfl ?_
    refine z_getR (pc := 23) (r := 205) C dX9_text_23 fX9_47 sh_0 rfl ?_
    refine z_getI (pc := 26) C dX9_text_26 fX9_221 sh_205 rfl ?_
    refine z_isub (pc := 29) C dX9_text_29 ?_
    refine z_ireturn (pc := 30) C K dX9_text_30 ?_
    have e4 : r4 = 0 := c17
    rcases h4.2 with ⟨-, q, hq, e2⟩ | ⟨e, -⟩
    · exact ⟨_, rfl, zu_self _ _ _ _ _ _, Or.inl ⟨q, hq, by rw [zu_ne _ _ (by omega), e2], h4.1.sc⟩⟩
    · rw [e] at e4
      exact absurd e4 (by decide)

