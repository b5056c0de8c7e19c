/-! PUBLIC METHODS over slots, sheets, tape, what waits -/
theorem RR.ch {M M' : zM} {n T : Nat} {ky ln : Nat → Nat} (h : RR M n T ky ln) {D : Nat → Nat → Nat → Nat → Prop} (hd : ∀ a x y f, ¬ D a x y f → M' a x y f = M a x y f) (hA : (∀ a x y f, RAd a x y → ¬ D a x y f) ∨ RA M' n T ky ln) (hC : (∀ a x y f, RCd a x f → ¬ D a x y f) ∨ RC M' T ky ln) (hD : (∀ a x y f, RDd a f → ¬ D a x y f) ∨ RD M') (hE : (∀ a x y f, REd a x → ¬ D a x y f) ∨ RE M') (hF : (∀ a x y f, RFd a x → ¬ D a x y f) ∨ RF M') (hG : (∀ a x y f, RGd a f → ¬ D a x y f) ∨ RG M') (hH : (∀ a x y f, RHd a → ¬ D a x y f) ∨ RH M') : RR M' n T ky ln :=
  ⟨hA.elim (fun g => h.1.on (fun a x y f z => hd a x y f (g a x y f z))) id, hC.elim (fun g => h.2.1.on h.TX.1 (fun a x y f z => hd a x y f (g a x y f z))) id, hD.elim (fun g => h.2.2.1.on (fun a x y f z => hd a x y f (g a x y f z))) id, hE.elim (fun g => h.2.2.2.1.on (fun a x y f z => hd a x y f (g a x y f z))) id, hF.elim (fun g => h.2.2.2.2.1.on (fun a x y f z => hd a x y f (g a x y f z))) id, hG.elim (fun g => h.2.2.2.2.2.1.on (fun a x y f z => hd a x y f (g a x y f z))) id, hH.elim (fun g => h.2.2.2.2.2.2.on (fun a x y f z => hd a x y f (g a x y f z))) id⟩
theorem RR.RE {M : zM} {n T : Nat} {ky ln : Nat → Nat} (h : RR M n T ky ln) : RE M := h.2.2.2.1
theorem RR.RF {M : zM} {n T : Nat} {ky ln : Nat → Nat} (h : RR M n T ky ln) : RF M := h.2.2.2.2.1
def qE (F : Int32) (M : zM) (r : Int32) (M' : zM) : Prop := r = F ∧ M' = M
/-- a stretch of a row is written -/
def zpt (M : zM) (c lo i : Nat) (g : Nat → Int32) : zM := fun a x y f => if a = c ∧ x = 0 ∧ y = 0 ∧ lo ≤ f ∧ f < lo + i then g (f - lo) else M a x y f
theorem zpt_0 {M : zM} {c lo : Nat} {g : Nat → Int32} : zpt M c lo 0 g = M := by
  funext a x y f
  exact if_neg (fun q => by omega)
theorem zpt_o {M : zM} {c lo i : Nat} {g : Nat → Int32} {a x y f : Nat} (h : ¬ (a = c ∧ x = 0 ∧ y = 0 ∧ lo ≤ f ∧ f < lo + i)) : zpt M c lo i g a x y f = M a x y f := if_neg h
theorem zpt_a {M : zM} {c lo i : Nat} {g : Nat → Int32} {a : Nat} (h : a ≠ c) : zpt M c lo i g a = M a := by
  funext x y f
  exact if_neg (fun q => h q.1)
theorem zpt_in {M : zM} {c lo i : Nat} {g : Nat → Int32} {k : Nat} (h : k < i) : zpt M c lo i g c 0 0 (lo + k) = g k := by
  unfold zpt
  rw [if_pos ⟨rfl, rfl, rfl, by omega, by omega⟩, Nat.add_sub_cancel_left]
theorem zpt_s {M : zM} {c lo i k : Nat} {g : Nat → Int32} {v : Int32} (hv : v = g i) (hk : k = lo + i) : zu (zpt M c lo i g) c 0 0 k v = zpt M c lo (i + 1) g := by
  subst hk
  funext a x y f
  unfold zu zpt
  by_cases q : a = c ∧ x = 0 ∧ y = 0 ∧ f = lo + i
  · obtain ⟨rfl, rfl, rfl, rfl⟩ := q
    rw [if_pos ⟨rfl, rfl, rfl, rfl⟩, if_pos ⟨rfl, rfl, rfl, by omega, by omega⟩, hv, Nat.add_sub_cancel_left]
  · rw [if_neg q]
    by_cases q2 : a = c ∧ x = 0 ∧ y = 0 ∧ lo ≤ f ∧ f < lo + i
    · rw [if_pos q2, if_pos ⟨q2.1, q2.2.1, q2.2.2.1, q2.2.2.2.1, by omega⟩]
    · rw [if_neg q2, if_neg (fun z => ?_)]
      rcases Nat.lt_or_ge f (lo + i) with g1 | g1
      · exact q2 ⟨z.1, z.2.1, z.2.2.1, z.2.2.2.1, g1⟩
      · exact q ⟨z.1, z.2.1, z.2.2.1, by omega⟩
theorem nI_mul (a c : Nat) : nI a * nI c = nI (a * c) := (Int32.ofNat_mul a c).symm
theorem idx24 (s k : Nat) : (24 : Int32) * nI s + nI k = nI (24 * s + k) := by
  show nI 24 * nI s + nI k = _
  rw [nI_mul, nI_add]
theorem iin_n {x : Int32} {a : Int} (h : iin x 0 a) (ha : a < 2000) : ∃ k : Nat, (k : Int) ≤ a ∧ x = nI k := by
  unfold iin at h
  refine ⟨x.toInt.toNat, by omega, ?_⟩
  rw [zi_eq, nI_toInt (by omega)]
  omega
noncomputable def Fask (M : zM) (x t : Int32) : Int32 := zif (iin x 0 4 ∧ iin t 0 5) (if M 25 x.toNatClampNeg 0 0 = 0 then -1000000011 else zif (M 25 x.toNatClampNeg 0 0 = 1 ∧ sUn (M 1 (14 + x.toNatClampNeg) 0 0) t) (s_worth (M 1 (14 + x.toNatClampNeg) 0 0) (M 1 (14 + x.toNatClampNeg) 0 2) (M 1 (14 + x.toNatClampNeg) 0 3)) (-1000000012)) (-1000000001)
set_option maxHeartbeats 800000 in
set_option maxRecDepth 100000 in
theorem mX9_ask {l : Launch} {G : zG} {b : Nat} {M : zM} {n T : Nat} {ky ln : Nat → Nat} (hR : RR M n T ky ln) {x t : Int32} : zMet l G b yX9_ask cX9_ask 4 (some .int) 1 zshL zshL [.ref (b + 0), .int x, .int t] M (zI (qE (Fask M x t) M)) := by
  refine zMet.of (L0 := [some (.ref (b + 0)), some (.int x), some (.int t), none]) (by decide +kernel) (Nat.le_refl _) (Nat.le_refl _) (Nat.le_of_ble_eq_true rfl) (List.forall_mem_cons.mpr ⟨rfl, List.forall_mem_cons.mpr ⟨rfl, List.forall_mem_cons.mpr ⟨rfl, fun _ h => absurd h List.not_mem_nil⟩⟩⟩) rfl (fun X C Al K => ?_)
  refine z_iload_n (pc := 0) C 1 dX9_ask_0 rfl rfl ?_
  refine z_callSi (pc := 1) C dX9_ask_1 kX9_272 mX9_isSlot (by decide) rfl rfl (Nat.le_of_ble_eq_true rfl) (fun r1 M1 h1 => ?_)
  obtain ⟨h1, e1⟩ := h1
  subst M1
  refine z_if_eq (pc := 4) C 14 dX9_ask_4 (by decide) (fun c4 => ?_) (fun c4 => ?_)
  · refine z_ldc (pc := 14) C q2_96 dX9_ask_14 ?_
    refine z_ireturn (pc := 16) C K dX9_ask_16 ?_
    exact ⟨_, rfl, by rw [Fask, zif_neg (fun q => h1.no c4 q.1)], rfl⟩
  · refine z_iload_n (pc := 7) C 2 dX9_ask_7 rfl rfl ?_
    refine z_callSi (pc := 8) C dX9_ask_8 kX9_77 mX9_isKind (by decide) rfl rfl (Nat.le_of_ble_eq_true rfl) (fun r8 M8 h8 => ?_)
    obtain ⟨h8, e8⟩ := h8
    subst M8
    refine z_if_ne (pc := 11) C 17 dX9_ask_11 (by decide) (fun c11 => ?_) (fun c11 => ?_)
    · have hk := h8.yes c11
      have hx := h1.yes c4
      obtain ⟨s, hs, rfl⟩ := iin_nI (n := 5) (by decide) hx
      obtain ⟨f1, f2, f3, f4, f5⟩ := hR.RF s hs
      refine z_aload_n (pc := 17) C 0 dX9_ask_17 rfl rfl ?_
      refine z_getR (pc := 18) (r := 209) C dX9_ask_18 fX9_59 sh_0 rfl ?_
      refine z_iload_n (pc := 21) C 1 dX9_ask_21 rfl rfl ?_
      refine z_aald (pc := 22) (r := 219 + 4 * s) C dX9_ask_22 sh_209 rfl rfl (vp_in_nI hs (by decide)) (slget hs) ?_
      refine z_astore_n (pc := 23) C 3 dX9_ask_23 rfl (by decide) rfl ?_
      refine z_aload_n (pc := 24) C 3 dX9_ask_24 rfl rfl ?_
      refine z_getI (pc := 25) C dX9_ask_25 fX9_275 (shL hs) rfl ?_
      refine z_if_ne (pc := 28) C 34 dX9_ask_28 (by decide) (fun c28 => ?_) (fun c28 => ?_)
      · refine z_aload_n (pc := 34) C 3 dX9_ask_34 rfl rfl ?_
        refine z_getI (pc := 35) C dX9_ask_35 fX9_275 (shL hs) rfl ?_
        refine z_iconst (pc := 38) (v := 1) C dX9_ask_38 rfl ?_
        refine z_icmp_ne (pc := 39) C 53 dX9_ask_39 (by decide) (fun c39 => ?_) (fun c39 => ?_)
        · refine z_ldc (pc := 53) C q2_162 dX9_ask_53 ?_
          refine z_ireturn (pc := 55) C K dX9_ask_55 ?_
          refine ⟨_, rfl, ?_, rfl⟩
          rw [Fask, zif_pos ⟨hx, hk⟩, nI_clamp (by omega), if_neg c28, zif_neg (fun q => c39 q.1)]
        · refine z_aload_n (pc := 42) C 3 dX9_ask_42 rfl rfl ?_
          refine z_getR (pc := 43) (r := adP (14 + s) 0) C dX9_ask_43 fX9_278 (shL hs) rfl ?_
          refine z_iload_n (pc := 46) C 2 dX9_ask_46 rfl rfl ?_
          refine z_callVi (pc := 47) C dX9_ask_47 kX9_130 (mX0_isOf (okP_slot hs) (by have q := f3 (by rw [← f1]; exact c39); rw [← q.1]; exact q.2.1)) (by decide) (shP (okP_slot hs)) rfl rfl rfl (Nat.le_of_ble_eq_true rfl) (fun r47 M47 h47 => ?_)
          obtain ⟨h47, e47⟩ := h47
          subst M47
          refine z_if_ne (pc := 50) C 56 dX9_ask_50 (by decide) (fun c50 => ?_) (fun c50 => ?_)
          · refine z_aload_n (pc := 56) C 3 dX9_ask_56 rfl rfl ?_
            refine z_getR (pc := 57) (r := adP (14 + s) 0) C dX9_ask_57 fX9_278 (shL hs) rfl ?_
            refine z_callVi (pc := 60) C dX9_ask_60 kX9_120 (mX0_worth (okP_slot hs)) (by decide) (shP (okP_slot hs)) rfl rfl rfl (Nat.le_of_ble_eq_true rfl) (fun r60 M60 h60 => ?_)
            obtain ⟨rfl, e60⟩ := h60
            subst M60
            refine z_ireturn (pc := 63) C K dX9_ask_63 ?_
            refine ⟨_, rfl, ?_, rfl⟩
            rw [Fask, zif_pos ⟨hx, hk⟩, nI_clamp (by omega), if_neg c28, zif_pos ⟨c39, h47.yes c50⟩]
          · refine z_ldc (pc := 53) C q2_162 dX9_ask_53 ?_
            refine z_ireturn (pc := 55) C K dX9_ask_55 ?_
            refine ⟨_, rfl, ?_, rfl⟩
            rw [Fask, zif_pos ⟨hx, hk⟩, nI_clamp (by omega), if_neg c28, zif_neg (fun q => h47.no c50 q.2)]
      · refine z_ldc (pc := 31) C q3_100 dX9_ask_31 ?_
        refine z_ireturn (pc := 33) C K dX9_ask_33 ?_
        refine ⟨_, rfl, ?_, rfl⟩
        rw [Fask, zif_pos ⟨hx, hk⟩, nI_clamp (by omega), if_pos c28]
    · refine z_ldc (pc := 14) C q2_96 dX9_ask_14 ?_
      refine z_ireturn (pc := 16) C K dX9_ask_16 ?_
      exact ⟨_, rfl, by rw [Fask, zif_neg (fun q => h8.no c11 q.2)], rfl⟩

set_option maxHeartbeats 800000 in
set_option maxRecDepth 100000 in
theorem mX10_ask {l : Launch} {G : zG} {b : Nat} {M : zM} {n T : Nat} {ky ln : Nat → Nat} (hR : RR M n T ky ln) {x t : Int32} : zMet l G b yX10_ask cX10_ask 3 (some .int) 2 zshL zshL [.ref (b + 239), .int x, .int t] M (zI (qE (Fask M x t) M)) := by
  refine zMet.of (L0 := [some (.ref (b + 239)), some (.int x), some (.int t)]) (by decide +kernel) (Nat.le_refl _) (Nat.le_refl _) (Nat.le_of_ble_eq_true rfl) (List.forall_mem_cons.mpr ⟨rfl, List.forall_mem_cons.mpr ⟨rfl, List.forall_mem_cons.mpr ⟨rfl, fun _ h => absurd h List.not_mem_nil⟩⟩⟩) rfl (fun X C Al K => ?_)
  refine z_iload_n (pc := 0) C 1 dX10_ask_0 rfl rfl ?_
  refine z_callSi (pc := 1) C dX10_ask_1 kX10_276 mX10_isSlot (by decide) rfl rfl (Nat.le_of_ble_eq_true rfl) (fun r1 M1 h1 => ?_)
  obtain ⟨h1, e1⟩ := h1
  subst M1
  refine z_if_eq (pc := 4) C 16 dX10_ask_4 (by decide) (fun c4 => ?_) (fun c4 => ?_)
  · refine z_ldc (pc := 16) C q5_48 dX10_ask_16 ?_
    refine z_ireturn (pc := 18) C K dX10_ask_18 ?_
    exact ⟨_, rfl, by rw [Fask, zif_neg (fun q => h1.no c4 q.1)], rfl⟩
  · refine z_iload_n (pc := 7) C 2 dX10_ask_7 rfl rfl ?_
    refine z_iconst (pc := 8) (v := 0) C dX10_ask_8 rfl ?_
    refine z_iconst (pc := 9) (v := 5) C dX10_ask_9 rfl ?_
    refine z_callSi (pc := 10) C dX10_ask_10 kX10_78 mX10_in (by decide) rfl rfl (Nat.le_of_ble_eq_true rfl) (fun r10 M10 h10 => ?_)
    obtain ⟨h10, e10⟩ := h10
    subst M10
    replace h10 : zb r10 (iin t (0) (5)) := zin_b (by decide) (by decide) h10
    refine z_if_ne (pc := 13) C 19 dX10_ask_13 (by decide) (fun c13 => ?_) (fun c13 => ?_)
    · have hk := h10.yes c13
      have hx := h1.yes c4
      obtain ⟨s, hs, rfl⟩ := iin_nI (n := 5) (by decide) hx
      obtain ⟨f1, f2, f3, f4, f5⟩ := hR.RF s hs
      refine z_aload_n (pc := 19) C 0 dX10_ask_19 rfl rfl ?_
      refine z_getR (pc := 20) (r := 256) C dX10_ask_20 fX10_60 sh_239 rfl ?_
      refine z_iload_n (pc := 23) C 1 dX10_ask_23 rfl rfl ?_
      refine z_iald (pc := 24) (n := s) C dX10_ask_24 sh_256 (vp_in_nI (by omega) (by decide)) (nI_clamp (by omega)) ?_
      refine z_if_ne (pc := 25) C 31 dX10_ask_25 (by decide) (fun c25 => ?_) (fun c25 => ?_)
      · refine z_aload_n (pc := 31) C 0 dX10_ask_31 rfl rfl ?_
        refine z_getR (pc := 32) (r := 256) C dX10_ask_32 fX10_60 sh_239 rfl ?_
        refine z_iload_n (pc := 35) C 1 dX10_ask_35 rfl rfl ?_
        refine z_iald (pc := 36) (n := s) C dX10_ask_36 sh_256 (vp_in_nI (by omega) (by decide)) (nI_clamp (by omega)) ?_
        refine z_iconst (pc := 37) (v := 1) C dX10_ask_37 rfl ?_
        refine z_icmp_ne (pc := 38) C 63 dX10_ask_38 (by decide) (fun c38 => ?_) (fun c38 => ?_)
        · refine z_ldc (pc := 63) C q5_99 dX10_ask_63 ?_
          refine z_ireturn (pc := 65) C K dX10_ask_65 ?_
          refine ⟨_, rfl, ?_, rfl⟩
          rw [Fask, zif_pos ⟨hx, hk⟩, nI_clamp (by omega), if_neg (by rw [f1]; exact c25), zif_neg (fun q => c38 (by rw [← f1]; exact q.1))]
        · refine z_aload_n (pc := 41) C 0 dX10_ask_41 rfl rfl ?_
          refine z_getR (pc := 42) (r := 257) C dX10_ask_42 fX10_63 sh_239 rfl ?_
          refine z_iload_n (pc := 45) C 1 dX10_ask_45 rfl rfl ?_
          refine z_iald (pc := 46) (n := s) C dX10_ask_46 sh_257 (vp_in_nI (by omega) (by decide)) (nI_clamp (by omega)) ?_
          refine z_iload_n (pc := 47) C 2 dX10_ask_47 rfl rfl ?_
          refine z_callSi (pc := 48) C dX10_ask_48 kX10_117 mX10_isUnder (by decide) rfl rfl (Nat.le_of_ble_eq_true rfl) (fun r48 M48 h48 => ?_)
          obtain ⟨h48, e48⟩ := h48
          subst M48
          refine z_if_eq (pc := 51) C 63 dX10_ask_51 (by decide) (fun c51 => ?_) (fun c51 => ?_)
          · refine z_ldc (pc := 63) C q5_99 dX10_ask_63 ?_
            refine z_ireturn (pc := 65) C K dX10_ask_65 ?_
            refine ⟨_, rfl, ?_, rfl⟩
            rw [Fask, zif_pos ⟨hx, hk⟩, nI_clamp (by omega), if_neg (by rw [f1]; exact c25), zif_neg (fun q => h48.no c51 (by rw [(f3 c38).1]; exact q.2))]
          · refine z_aload_n (pc := 54) C 0 dX10_ask_54 rfl rfl ?_
            refine z_getR (pc := 55) (r := 258) C dX10_ask_55 fX10_66 sh_239 rfl ?_
            refine z_iload_n (pc := 58) C 1 dX10_ask_58 rfl rfl ?_
            refine z_iald (pc := 59) (n := s) C dX10_ask_59 sh_258 (vp_in_nI (by omega) (by decide)) (nI_clamp (by omega)) ?_
            refine z_goto (pc := 60) C 65 dX10_ask_60 (by decide) ?_
            refine z_ireturn (pc := 65) C K dX10_ask_65 ?_
            refine ⟨_, rfl, ?_, rfl⟩
            rw [Fask, zif_pos ⟨hx, hk⟩, nI_clamp (by omega), if_neg (by rw [f1]; exact c25), zif_pos ⟨by rw [f1]; exact c38, by rw [← (f3 c38).1]; exact h48.yes c51⟩]
            exact (f3 c38).2.2
      · refine z_ldc (pc := 28) C q6_15 dX10_ask_28 ?_
        refine z_ireturn (pc := 30) C K dX10_ask_30 ?_
        refine ⟨_, rfl, ?_, rfl⟩
        rw [Fask, zif_pos ⟨hx, hk⟩, nI_clamp (by omega), if_pos (by rw [f1]; exact c25)]
    · refine z_ldc (pc := 16) C q5_48 dX10_ask_16 ?_
      refine z_ireturn (pc := 18) C K dX10_ask_18 ?_
      exact ⟨_, rfl, by rw [Fask, zif_neg (fun q => h10.no c13 q.2)], rfl⟩

theorem op_ask {l : Launch} {G : zG} {b : Nat} {M : zM} (hM : Rel M) {x t : Int32} : opOK l G b yX9_ask cX9_ask 4 1 yX10_ask cX10_ask 3 2 [.int x, .int t] M := by
  obtain ⟨n, T, ky, ln, hR⟩ := hM
  refine ⟨_, mX9_ask hR, fun r M1 h1 => ?_⟩
  obtain ⟨rfl, e1⟩ := h1
  subst M1
  refine zI.post (mX10_ask hR) (fun s M2 h2 => ?_)
  obtain ⟨rfl, e2⟩ := h2
  subst M2
  exact ⟨rfl, _, _, _, _, hR⟩
noncomputable def Fitem (M : zM) (x t : Int32) : Int32 := zif (iin x 0 4) (if M 25 x.toNatClampNeg 0 0 = 0 then -1000000011 else if M 25 x.toNatClampNeg 0 0 = 2 then zif (iin t 0 ((M 3 (4 + x.toNatClampNeg) 0 1).toInt - 1)) (if M 4 (4 + x.toNatClampNeg) 0 t.toNatClampNeg = -1000000005 then -1000000012 else M 4 (4 + x.toNatClampNeg) 0 t.toNatClampNeg) (-1000000013) else -1000000012) (-1000000001)
set_option maxHeartbeats 800000 in
set_option maxRecDepth 100000 in
theorem mX9_item {l : Launch} {G : zG} {b : Nat} {M : zM} {n T : Nat} {ky ln : Nat → Nat} (hR : RR M n T ky ln) {x t : Int32} : zMet l G b yX9_item cX9_item 4 (some .int) 1 zshL zshL [.ref (b + 0), .int x, .int t] M (zI (qE (Fitem M x t) M)) := by
  refine zMet.of (L0 := [some (.ref (b + 0)), some (.int x), some (.int t), none]) (by decide +kernel) (Nat.le_refl _) (Nat.le_refl _) (Nat.le_of_ble_eq_true rfl) (List.forall_mem_cons.mpr ⟨rfl, List.forall_mem_cons.mpr ⟨rfl, List.forall_mem_cons.mpr ⟨rfl, fun _ h => absurd h List.not_mem_nil⟩⟩⟩) rfl (fun X C Al K => ?_)
  refine z_iload_n (pc := 0) C 1 dX9_item_0 rfl rfl ?_
  refine z_callSi (pc := 1) C dX9_item_1 kX9_272 mX9_isSlot (by decide) rfl rfl (Nat.le_of_ble_eq_true rfl) (fun r1 M1 h1 => ?_)
  obtain ⟨h1, e1⟩ := h1
  subst M1
  refine z_if_ne (pc := 4) C 10 dX9_item_4 (by decide) (fun c4 => ?_) (fun c4 => ?_)
  · have hx := h1.yes c4
    obtain ⟨s, hs, rfl⟩ := iin_nI (n := 5) (by decide) hx
    obtain ⟨f1, f2, f3, f4, f5⟩ := hR.RF s hs
    refine z_aload_n (pc := 10) C 0 dX9_item_10 rfl rfl ?_
    refine z_getR (pc := 11) (r := 209) C dX9_item_11 fX9_59 sh_0 rfl ?_
    refine z_iload_n (pc := 14) C 1 dX9_item_14 rfl rfl ?_
    refine z_aald (pc := 15) (r := 219 + 4 * s) C dX9_item_15 sh_209 rfl rfl (vp_in_nI hs (by decide)) (slget hs) ?_
    refine z_astore_n (pc := 16) C 3 dX9_item_16 rfl (by decide) rfl ?_
    refine z_aload_n (pc := 17) C 3 dX9_item_17 rfl rfl ?_
    refine z_getI (pc := 18) C dX9_item_18 fX9_275 (shL hs) rfl ?_
    refine z_if_ne (pc := 21) C 27 dX9_item_21 (by decide) (fun c21 => ?_) (fun c21 => ?_)
    · refine z_aload_n (pc := 27) C 3 dX9_item_27 rfl rfl ?_
      refine z_getI (pc := 28) C dX9_item_28 fX9_275 (shL hs) rfl ?_
      refine z_iconst (pc := 31) (v := 2) C dX9_item_31 rfl ?_
      refine z_icmp_eq (pc := 32) C 38 dX9_item_32 (by decide) (fun c32 => ?_) (fun c32 => ?_)
      · refine z_aload_n (pc := 38) C 3 dX9_item_38 rfl rfl ?_
        refine z_getR (pc := 39) (r := adS (4 + s)) C dX9_item_39 fX9_285 (shL hs) rfl ?_
        refine z_iload_n (pc := 42) C 2 dX9_item_42 rfl rfl ?_
        refine z_callVi (pc := 43) C dX9_item_43 kX9_250 (mX2_hasPlace (lt9_slot hs)) (by decide) (shS (lt9_slot hs)) rfl rfl rfl (Nat.le_of_ble_eq_true rfl) (fun r43 M43 h43 => ?_)
        obtain ⟨h43, e43⟩ := h43
        subst M43
        refine z_if_ne (pc := 46) C 52 dX9_item_46 (by decide) (fun c46 => ?_) (fun c46 => ?_)
        · have hp := h43.yes c46
          have hz := (f4 (by rw [← f1]; exact c32)).1
          have hz2 := (f4 (by rw [← f1]; exact c32)).2.1
          unfold iin at hz2
          rw [hz] at hz2
          obtain ⟨p, hp1, rfl⟩ := iin_n hp (by omega)
          refine z_aload_n (pc := 52) C 3 dX9_item_52 rfl rfl ?_
          refine z_getR (pc := 53) (r := adS (4 + s)) C dX9_item_53 fX9_285 (shL hs) rfl ?_
          refine z_getR (pc := 56) (r := adS (4 + s) + 1) C dX9_item_56 fX9_254 (shS (lt9_slot hs)) rfl ?_
          refine z_iload_n (pc := 59) C 2 dX9_item_59 rfl rfl ?_
          refine z_iald (pc := 60) (n := p) C dX9_item_60 (shSp (lt9_slot hs)) (vp_in_nI (by omega) (by decide)) (nI_clamp (by omega)) ?_
          refine z_ldc (pc := 61) C q3_64 dX9_item_61 ?_
          refine z_icmp_ne (pc := 63) C 71 dX9_item_63 (by decide) (fun c63 => ?_) (fun c63 => ?_)
          · refine z_aload_n (pc := 71) C 3 dX9_item_71 rfl rfl ?_
            refine z_getR (pc := 72) (r := adS (4 + s)) C dX9_item_72 fX9_285 (shL hs) rfl ?_
            refine z_getR (pc := 75) (r := adS (4 + s) + 1) C dX9_item_75 fX9_254 (shS (lt9_slot hs)) rfl ?_
            refine z_iload_n (pc := 78) C 2 dX9_item_78 rfl rfl ?_
            refine z_iald (pc := 79) (n := p) C dX9_item_79 (shSp (lt9_slot hs)) (vp_in_nI (by omega) (by decide)) (nI_clamp (by omega)) ?_
            refine z_ireturn (pc := 80) C K dX9_item_80 ?_
            refine ⟨_, rfl, ?_, rfl⟩
            rw [Fitem, zif_pos hx, nI_clamp (by omega), if_neg c21, if_pos c32, zif_pos hp, nI_clamp (by omega), if_neg c63]
          · refine z_ldc (pc := 66) C q2_162 dX9_item_66 ?_
            refine z_goto (pc := 68) C 80 dX9_item_68 (by decide) ?_
            refine z_ireturn (pc := 80) C K dX9_item_80 ?_
            refine ⟨_, rfl, ?_, rfl⟩
            rw [Fitem, zif_pos hx, nI_clamp (by omega), if_neg c21, if_pos c32, zif_pos hp, nI_clamp (by omega), if_pos c63]
        · refine z_ldc (pc := 49) C q4_98 dX9_item_49 ?_
          refine z_ireturn (pc := 51) C K dX9_item_51 ?_
          refine ⟨_, rfl, ?_, rfl⟩
          rw [Fitem, zif_pos hx, nI_clamp (by omega), if_neg c21, if_pos c32, zif_neg (h43.no c46)]
      · refine z_ldc (pc := 35) C q2_162 dX9_item_35 ?_
        refine z_ireturn (pc := 37) C K dX9_item_37 ?_
        refine ⟨_, rfl, ?_, rfl⟩
        rw [Fitem, zif_pos hx, nI_clamp (by omega), if_neg c21, if_neg c32]
    · refine z_ldc (pc := 24) C q3_100 dX9_item_24 ?_
      refine z_ireturn (pc := 26) C K dX9_item_26 ?_
      refine ⟨_, rfl, ?_, rfl⟩
      rw [Fitem, zif_pos hx, nI_clamp (by omega), if_pos c21]
  · refine z_ldc (pc := 7) C q2_96 dX9_item_7 ?_
    refine z_ireturn (pc := 9) C K dX9_item_9 ?_
    exact ⟨_, rfl, by rw [Fitem, zif_neg (h1.no c4)], rfl⟩

set_option maxHeartbeats 800000 in
set_option maxRecDepth 100000 in
theorem mX10_item {l : Launch} {G : zG} {b : Nat} {M : zM} {n T : Nat} {ky ln : Nat → Nat} (hR : RR M n T ky ln) {x t : Int32} : zMet l G b yX10_item cX10_item 4 (some .int) 2 zshL zshL [.ref (b + 239), .int x, .int t] M (zI (qE (Fitem M x t) M)) := by
  refine zMet.of (L0 := [some (.ref (b + 239)), some (.int x), some (.int t), none]) (by decide +kernel) (Nat.le_refl _) (Nat.le_refl _) (Nat.le_of_ble_eq_true rfl) (List.forall_mem_cons.mpr ⟨rfl, List.forall_mem_cons.mpr ⟨rfl, List.forall_mem_cons.mpr ⟨rfl, fun _ h => absurd h List.not_mem_nil⟩⟩⟩) rfl (fun X C Al K => ?_)
  refine z_iload_n (pc := 0) C 1 dX10_item_0 rfl rfl ?_
  refine z_callSi (pc := 1) C dX10_item_1 kX10_276 mX10_isSlot (by decide) rfl rfl (Nat.le_of_ble_eq_true rfl) (fun r1 M1 h1 => ?_)
  obtain ⟨h1, e1⟩ := h1
  subst M1
  refine z_if_ne (pc := 4) C 10 dX10_item_4 (by decide) (fun c4 => ?_) (fun c4 => ?_)
  · have hx := h1.yes c4
    obtain ⟨s, hs, rfl⟩ := iin_nI (n := 5) (by decide) hx
    obtain ⟨f1, f2, f3, f4, f5⟩ := hR.RF s hs
    refine z_aload_n (pc := 10) C 0 dX10_item_10 rfl rfl ?_
    refine z_getR (pc := 11) (r := 256) C dX10_item_11 fX10_60 sh_239 rfl ?_
    refine z_iload_n (pc := 14) C 1 dX10_item_14 rfl rfl ?_
    refine z_iald (pc := 15) (n := s) C dX10_item_15 sh_256 (vp_in_nI (by omega) (by decide)) (nI_clamp (by omega)) ?_
    refine z_if_ne (pc := 16) C 22 dX10_item_16 (by decide) (fun c16 => ?_) (fun c16 => ?_)
    · refine z_aload_n (pc := 22) C 0 dX10_item_22 rfl rfl ?_
      refine z_getR (pc := 23) (r := 256) C dX10_item_23 fX10_60 sh_239 rfl ?_
      refine z_iload_n (pc := 26) C 1 dX10_item_26 rfl rfl ?_
      refine z_iald (pc := 27) (n := s) C dX10_item_27 sh_256 (vp_in_nI (by omega) (by decide)) (nI_clamp (by omega)) ?_
      refine z_iconst (pc := 28) (v := 2) C dX10_item_28 rfl ?_
      refine z_icmp_eq (pc := 29) C 35 dX10_item_29 (by decide) (fun c29 => ?_) (fun c29 => ?_)
      · have c29' : M 25 s 0 0 = 2 := by rw [f1]; exact c29
        have hz := (f4 c29).1
        have hz2 := (f4 c29).2.1
        have hz3 := (f4 c29).2.2
        have eZ : (M 48 0 0 s - 1).toInt = (M 3 (4 + s) 0 1).toInt - 1 := by
          unfold iin at hz2
          rw [zi_sub (by rw [i1]; omega) (by rw [i1]; omega), i1, hz]
        refine z_iload_n (pc := 35) C 2 dX10_item_35 rfl rfl ?_
        refine z_iconst (pc := 36) (v := 0) C dX10_item_36 rfl ?_
        refine z_aload_n (pc := 37) C 0 dX10_item_37 rfl rfl ?_
        refine z_getR (pc := 38) (r := 257) C dX10_item_38 fX10_63 sh_239 rfl ?_
        refine z_iload_n (pc := 41) C 1 dX10_item_41 rfl rfl ?_
        refine z_iald (pc := 42) (n := s) C dX10_item_42 sh_257 (vp_in_nI (by omega) (by decide)) (nI_clamp (by omega)) ?_
        refine z_iconst (pc := 43) (v := 1) C dX10_item_43 rfl ?_
        refine z_isub (pc := 44) C dX10_item_44 ?_
        refine z_callSi (pc := 45) C dX10_item_45 kX10_78 mX10_in (by decide) rfl rfl (Nat.le_of_ble_eq_true rfl) (fun r45 M45 h45 => ?_)
        obtain ⟨h45, e45⟩ := h45
        subst M45
        replace h45 := zin_b i0 eZ h45
        refine z_if_ne (pc := 48) C 55 dX10_item_48 (by decide) (fun c48 => ?_) (fun c48 => ?_)
        · have hp := h45.yes c48
          unfold iin at hz2
          rw [hz] at hz2
          obtain ⟨p, hp1, rfl⟩ := iin_n hp (by omega)
          refine z_aload_n (pc := 55) C 0 dX10_item_55 rfl rfl ?_
          refine z_getR (pc := 56) (r := 259) C dX10_item_56 fX10_69 sh_239 rfl ?_
          refine z_bipush (pc := 59) (v := 24) C dX10_item_59 rfl ?_
          refine z_iload_n (pc := 61) C 1 dX10_item_61 rfl rfl ?_
          refine z_imul (pc := 62) C dX10_item_62 ?_
          refine z_iload_n (pc := 63) C 2 dX10_item_63 rfl rfl ?_
          refine z_iadd (pc := 64) C dX10_item_64 ?_
          rw [idx24]
          refine z_iald (pc := 65) (n := 24 * s + p) C dX10_item_65 sh_259 (vp_in_nI (by omega) (by decide)) (nI_clamp (by omega)) ?_
          refine z_istore_n (pc := 66) C 3 dX10_item_66 rfl (by decide) rfl ?_
          refine z_iload_n (pc := 67) C 3 dX10_item_67 rfl rfl ?_
          refine z_ldc (pc := 68) C q5_211 dX10_item_68 ?_
          refine z_icmp_ne (pc := 70) C 78 dX10_item_70 (by decide) (fun c70 => ?_) (fun c70 => ?_)
          · refine z_iload_n (pc := 78) C 3 dX10_item_78 rfl rfl ?_
            refine z_ireturn (pc := 79) C K dX10_item_79 ?_
            refine ⟨_, rfl, ?_, rfl⟩
            rw [Fitem, zif_pos hx, nI_clamp (by omega), if_neg (by rw [f1]; exact c16), if_pos c29', zif_pos hp, nI_clamp (by omega), hz3 p (by omega), if_neg c70]
          · refine z_ldc (pc := 73) C q5_99 dX10_item_73 ?_
            refine z_goto (pc := 75) C 79 dX10_item_75 (by decide) ?_
            refine z_ireturn (pc := 79) C K dX10_item_79 ?_
            refine ⟨_, rfl, ?_, rfl⟩
            rw [Fitem, zif_pos hx, nI_clamp (by omega), if_neg (by rw [f1]; exact c16), if_pos c29', zif_pos hp, nI_clamp (by omega), hz3 p (by omega), if_pos c70]
        · refine z_ldcw (pc := 51) C q6_104 dX10_item_51 ?_
          refine z_ireturn (pc := 54) C K dX10_item_54 ?_
          refine ⟨_, rfl, ?_, rfl⟩
          rw [Fitem, zif_pos hx, nI_clamp (by omega), if_neg (by rw [f1]; exact c16), if_pos c29', zif_neg (h45.no c48)]
      · refine z_ldc (pc := 32) C q5_99 dX10_item_32 ?_
        refine z_ireturn (pc := 34) C K dX10_item_34 ?_
        refine ⟨_, rfl, ?_, rfl⟩
        rw [Fitem, zif_pos hx, nI_clamp (by omega), if_neg (by rw [f1]; exact c16), if_neg (by rw [f1]; exact c29)]
    · refine z_ldc (pc := 19) C q6_15 dX10_item_19 ?_
      refine z_ireturn (pc := 21) C K dX10_item_21 ?_
      refine ⟨_, rfl, ?_, rfl⟩
      rw [Fitem, zif_pos hx, nI_clamp (by omega), if_pos (by rw [f1]; exact c16)]
  · refine z_ldc (pc := 7) C q5_48 dX10_item_7 ?_
    refine z_ireturn (pc := 9) C K dX10_item_9 ?_
    exact ⟨_, rfl, by rw [Fitem, zif_neg (h1.no c4)], rfl⟩

theorem op_item {l : Launch} {G : zG} {b : Nat} {M : zM} (hM : Rel M) {x t : Int32} : opOK l G b yX9_item cX9_item 4 1 yX10_item cX10_item 4 2 [.int x, .int t] M := by
  obtain ⟨n, T, ky, ln, hR⟩ := hM
  refine ⟨_, mX9_item hR, fun r M1 h1 => ?_⟩
  obtain ⟨rfl, e1⟩ := h1
  subst M1
  refine zI.post (mX10_item hR) (fun s M2 h2 => ?_)
  obtain ⟨rfl, e2⟩ := h2
  subst M2
  exact ⟨rfl, _, _, _, _, hR⟩
noncomputable def Frest (M : zM) (x t : Int32) : Int32 := zif (iin x 0 4) (if M 25 x.toNatClampNeg 0 0 = 0 then -1000000011 else if M 25 x.toNatClampNeg 0 0 = 3 then (if t = 0 then -1000000002 else M 25 x.toNatClampNeg 0 3 - M 25 x.toNatClampNeg 0 3 / t * t) else -1000000012) (-1000000001)
theorem rem_m1 (x : Int32) : x - x / (-1) * (-1) = 0 := by
  have e : x / (-1) = -x := by
    apply Int32.toInt_inj.mp
    rw [Int32.toInt_div, im1, Int32.toInt_neg, Int.tdiv_neg, Int.tdiv_one]
  rw [e, Int32.mul_neg, Int32.mul_one, Int32.neg_neg, Int32.sub_self]
set_option maxHeartbeats 800000 in
set_option maxRecDepth 100000 in
theorem mX9_rest {l : Launch} {G : zG} {b : Nat} {M : zM} {n T : Nat} {ky ln : Nat → Nat} (hR : RR M n T ky ln) {x t : Int32} : zMet l G b yX9_rest cX9_rest 4 (some .int) 1 zshL zshL [.ref (b + 0), .int x, .int t] M (zI (qE (Frest M x t) M)) := by
  refine zMet.of (L0 := [some (.ref (b + 0)), some (.int x), some (.int t), none]) (by decide +kernel) (Nat.le_refl _) (Nat.le_refl _) (Nat.le_of_ble_eq_true rfl) (List.forall_mem_cons.mpr ⟨rfl, List.forall_mem_cons.mpr ⟨rfl, List.forall_mem_cons.mpr ⟨rfl, fun _ h => absurd h List.not_mem_nil⟩⟩⟩) rfl (fun X C Al K => ?_)
  refine z_iload_n (pc := 0) C 1 dX9_rest_0 rfl rfl ?_
  refine z_callSi (pc := 1) C dX9_rest_1 kX9_272 mX9_isSlot (by decide) rfl rfl (Nat.le_of_ble_eq_true rfl) (fun r1 M1 h1 => ?_)
  obtain ⟨h1, e1⟩ := h1
  subst M1
  refine z_if_ne (pc := 4) C 10 dX9_rest_4 (by decide) (fun c4 => ?_) (fun c4 => ?_)
  · have hx := h1.yes c4
    obtain ⟨s, hs, rfl⟩ := iin_nI (n := 5) (by decide) hx
    obtain ⟨f1, f2, f3, f4, f5⟩ := hR.RF s hs
    refine z_aload_n (pc := 10) C 0 dX9_rest_10 rfl rfl ?_
    refine z_getR (pc := 11) (r := 209) C dX9_rest_11 fX9_59 sh_0 rfl ?_
    refine z_iload_n (pc := 14) C 1 dX9_rest_14 rfl rfl ?_
    refine z_aald (pc := 15) (r := 219 + 4 * s) C dX9_rest_15 sh_209 rfl rfl (vp_in_nI hs (by decide)) (slget hs) ?_
    refine z_astore_n (pc := 16) C 3 dX9_rest_16 rfl (by decide) rfl ?_
    refine z_aload_n (pc := 17) C 3 dX9_rest_17 rfl rfl ?_
    refine z_getI (pc := 18) C dX9_rest_18 fX9_275 (shL hs) rfl ?_
    refine z_if_ne (pc := 21) C 27 dX9_rest_21 (by decide) (fun c21 => ?_) (fun c21 => ?_)
    · refine z_aload_n (pc := 27) C 3 dX9_rest_27 rfl rfl ?_
      refine z_getI (pc := 28) C dX9_rest_28 fX9_275 (shL hs) rfl ?_
      refine z_iconst (pc := 31) (v := 3) C dX9_rest_31 rfl ?_
      refine z_icmp_eq (pc := 32) C 38 dX9_rest_32 (by decide) (fun c32 => ?_) (fun c32 => ?_)
      · refine z_iload_n (pc := 38) C 2 dX9_rest_38 rfl rfl ?_
        refine z_if_ne (pc := 39) C 48 dX9_rest_39 (by decide) (fun c39 => ?_) (fun c39 => ?_)
        · refine z_aload_n (pc := 48) C 3 dX9_rest_48 rfl rfl ?_
          refine z_getI (pc := 49) C dX9_rest_49 fX9_292 (shL hs) rfl ?_
          refine z_iload_n (pc := 52) C 2 dX9_rest_52 rfl rfl ?_
          refine z_irem (pc := 53) C dX9_rest_53 c39 ?_
          refine z_ireturn (pc := 54) C K dX9_rest_54 ?_
          refine ⟨_, rfl, ?_, rfl⟩
          rw [Frest, zif_pos hx, nI_clamp (by omega), if_neg c21, if_pos c32, if_neg c39]
        · refine z_ldcw (pc := 42) C q4_144 dX9_rest_42 ?_
          refine z_goto (pc := 45) C 54 dX9_rest_45 (by decide) ?_
          refine z_ireturn (pc := 54) C K dX9_rest_54 ?_
          refine ⟨_, rfl, ?_, rfl⟩
          rw [Frest, zif_pos hx, nI_clamp (by omega), if_neg c21, if_pos c32, if_pos c39]
      · refine z_ldc (pc := 35) C q2_162 dX9_rest_35 ?_
        refine z_ireturn (pc := 37) C K dX9_rest_37 ?_
        refine ⟨_, rfl, ?_, rfl⟩
        rw [Frest, zif_pos hx, nI_clamp (by omega), if_neg c21, if_neg c32]
    · refine z_ldc (pc := 24) C q3_100 dX9_rest_24 ?_
      refine z_ireturn (pc := 26) C K dX9_rest_26 ?_
      refine ⟨_, rfl, ?_, rfl⟩
      rw [Frest, zif_pos hx, nI_clamp (by omega), if_pos c21]
  · refine z_ldc (pc := 7) C q2_96 dX9_rest_7 ?_
    refine z_ireturn (pc := 9) C K dX9_rest_9 ?_
    exact ⟨_, rfl, by rw [Frest, zif_neg (h1.no c4)], rfl⟩

set_option maxHeartbeats 800000 in
set_option maxRecDepth 100000 in
theorem mX10_rest {l : Launch} {G : zG} {b : Nat} {M : zM} {n T : Nat} {ky ln : Nat → Nat} (hR : RR M n T ky ln) {x t : Int32} : zMet l G b yX10_rest cX10_rest 3 (some .int) 2 zshL zshL [.ref (b + 239), .int x, .int t] M (zI (qE (Frest M x t) M)) := by
  refine zMet.of (L0 := [some (.ref (b + 239)), some (.int x), some (.int t)]) (by decide +kernel) (Nat.le_refl _) (Nat.le_refl _) (Nat.le_of_ble_eq_true rfl) (List.forall_mem_cons.mpr ⟨rfl, List.forall_mem_cons.mpr ⟨rfl, List.forall_mem_cons.mpr ⟨rfl, fun _ h => absurd h List.not_mem_nil⟩⟩⟩) rfl (fun X C Al K => ?_)
  refine z_iload_n (pc := 0) C 1 dX10_rest_0 rfl rfl ?_
  refine z_callSi (pc := 1) C dX10_rest_1 kX10_276 mX10_isSlot (by decide) rfl rfl (Nat.le_of_ble_eq_true rfl) (fun r1 M1 h1 => ?_)
  obtain ⟨h1, e1⟩ := h1
  subst M1
  refine z_if_ne (pc := 4) C 10 dX10_rest_4 (by decide) (fun c4 => ?_) (fun c4 => ?_)
  · have hx := h1.yes c4
    obtain ⟨s, hs, rfl⟩ := iin_nI (n := 5) (by decide) hx
    obtain ⟨f1, f2, f3, f4, f5⟩ := hR.RF s hs
    refine z_aload_n (pc := 10) C 0 dX10_rest_10 rfl rfl ?_
    refine z_getR (pc := 11) (r := 256) C dX10_rest_11 fX10_60 sh_239 rfl ?_
    refine z_iload_n (pc := 14) C 1 dX10_rest_14 rfl rfl ?_
    refine z_iald (pc := 15) (n := s) C dX10_rest_15 sh_256 (vp_in_nI (by omega) (by decide)) (nI_clamp (by omega)) ?_
    refine z_if_ne (pc := 16) C 22 dX10_rest_16 (by decide) (fun c16 => ?_) (fun c16 => ?_)
    · refine z_aload_n (pc := 22) C 0 dX10_rest_22 rfl rfl ?_
      refine z_getR (pc := 23) (r := 256) C dX10_rest_23 fX10_60 sh_239 rfl ?_
      refine z_iload_n (pc := 26) C 1 dX10_rest_26 rfl rfl ?_
      refine z_iald (pc := 27) (n := s) C dX10_rest_27 sh_256 (vp_in_nI (by omega) (by decide)) (nI_clamp (by omega)) ?_
      refine z_iconst (pc := 28) (v := 3) C dX10_rest_28 rfl ?_
      refine z_icmp_eq (pc := 29) C 35 dX10_rest_29 (by decide) (fun c29 => ?_) (fun c29 => ?_)
      · refine z_iload_n (pc := 35) C 2 dX10_rest_35 rfl rfl ?_
        refine z_if_ne (pc := 36) C 45 dX10_rest_36 (by decide) (fun c36 => ?_) (fun c36 => ?_)
        · refine z_iload_n (pc := 45) C 2 dX10_rest_45 rfl rfl ?_
          refine z_iconst (pc := 46) (v := -1) C dX10_rest_46 rfl ?_
          refine z_icmp_ne (pc := 47) C 54 dX10_rest_47 (by decide) (fun c47 => ?_) (fun c47 => ?_)
          · refine z_aload_n (pc := 54) C 0 dX10_rest_54 rfl rfl ?_
            refine z_getR (pc := 55) (r := 257) C dX10_rest_55 fX10_63 sh_239 rfl ?_
            refine z_iload_n (pc := 58) C 1 dX10_rest_58 rfl rfl ?_
            refine z_iald (pc := 59) (n := s) C dX10_rest_59 sh_257 (vp_in_nI (by omega) (by decide)) (nI_clamp (by omega)) ?_
            refine z_iload_n (pc := 60) C 2 dX10_rest_60 rfl rfl ?_
            refine z_irem (pc := 61) C dX10_rest_61 c36 ?_
            refine z_ireturn (pc := 62) C K dX10_rest_62 ?_
            refine ⟨_, rfl, ?_, rfl⟩
            rw [Frest, zif_pos hx, nI_clamp (by omega), if_neg (by rw [f1]; exact c16), if_pos (by rw [f1]; exact c29), if_neg c36, f5 c29]
          · refine z_iconst (pc := 50) (v := 0) C dX10_rest_50 rfl ?_
            refine z_goto (pc := 51) C 62 dX10_rest_51 (by decide) ?_
            refine z_ireturn (pc := 62) C K dX10_rest_62 ?_
            refine ⟨_, rfl, ?_, rfl⟩
            rw [Frest, zif_pos hx, nI_clamp (by omega), if_neg (by rw [f1]; exact c16), if_pos (by rw [f1]; exact c29), if_neg c36, c47, rem_m1]
        · refine z_ldcw (pc := 39) C q6_138 dX10_rest_39 ?_
          refine z_goto (pc := 42) C 62 dX10_rest_42 (by decide) ?_
          refine z_ireturn (pc := 62) C K dX10_rest_62 ?_
          refine ⟨_, rfl, ?_, rfl⟩
          rw [Frest, zif_pos hx, nI_clamp (by omega), if_neg (by rw [f1]; exact c16), if_pos (by rw [f1]; exact c29), if_pos c36]
      · refine z_ldc (pc := 32) C q5_99 dX10_rest_32 ?_
        refine z_ireturn (pc := 34) C K dX10_rest_34 ?_
        refine ⟨_, rfl, ?_, rfl⟩
        rw [Frest, zif_pos hx, nI_clamp (by omega), if_neg (by rw [f1]; exact c16), if_neg (by rw [f1]; exact c29)]
    · refine z_ldc (pc := 19) C q6_15 dX10_rest_19 ?_
      refine z_ireturn (pc := 21) C K dX10_rest_21 ?_
      refine ⟨_, rfl, ?_, rfl⟩
      rw [Frest, zif_pos hx, nI_clamp (by omega), if_pos (by rw [f1]; exact c16)]
  · refine z_ldc (pc := 7) C q5_48 dX10_rest_7 ?_
    refine z_ireturn (pc := 9) C K dX10_rest_9 ?_
    exact ⟨_, rfl, by rw [Frest, zif_neg (h1.no c4)], rfl⟩

theorem op_rest {l : Launch} {G : zG} {b : Nat} {M : zM} (hM : Rel M) {x t : Int32} : opOK l G b yX9_rest cX9_rest 4 1 yX10_rest cX10_rest 3 2 [.int x, .int t] M := by
  obtain ⟨n, T, ky, ln, hR⟩ := hM
  refine ⟨_, mX9_rest hR, fun r M1 h1 => ?_⟩
  obtain ⟨rfl, e1⟩ := h1
  subst M1
  refine zI.post (mX10_rest hR) (fun s M2 h2 => ?_)
  obtain ⟨rfl, e2⟩ := h2
  subst M2
  exact ⟨rfl, _, _, _, _, hR⟩
theorem i60 : (60 : Int32).toInt = 60 := by decide
def Atell (c1 c2 c3 c4 : Nat) (q : Nat) (v : Int32) (M : zM) (r : Int32) (M' : zM) : Prop := (q = 60 ∧ r = -1000000003 ∧ M' = M) ∨ (q < 60 ∧ r = nI (q + 1) ∧ M' = zu (zu M c1 0 0 q v) c2 c3 0 c4 (nI (q + 1)))
set_option maxHeartbeats 800000 in
set_option maxRecDepth 100000 in
theorem mX9_tell {l : Launch} {G : zG} {b : Nat} {M : zM} {q : Nat} (hq : M 0 0 0 9 = nI q) (hq60 : q ≤ 60) {v : Int32} : zMet l G b yX9_tell cX9_tell 2 (some .int) 0 zshL zshL [.ref (b + 0), .int v] M (zI (Atell 24 0 0 9 q v M)) := by
  refine zMet.of (L0 := [some (.ref (b + 0)), some (.int v)]) (by decide +kernel) (Nat.le_refl _) (Nat.le_refl _) (Nat.le_of_ble_eq_true rfl) (List.forall_mem_cons.mpr ⟨rfl, List.forall_mem_cons.mpr ⟨rfl, fun _ h => absurd h List.not_mem_nil⟩⟩) rfl (fun X C Al K => ?_)
  refine z_aload_n (pc := 0) C 0 dX9_tell_0 rfl rfl ?_
  refine z_getI (pc := 1) C dX9_tell_1 fX9_67 sh_0 rfl ?_
  refine z_bipush (pc := 4) (v := 60) C dX9_tell_4 rfl ?_
  rw [hq]
  have eq : (nI q).toInt = q := nI_toInt (by omega)
  refine z_icmp_lt (pc := 6) C 12 dX9_tell_6 (by decide) (fun c6 => ?_) (fun c6 => ?_)
  · have hlt : q < 60 := by
      simp only [zi_lt, zi_eq, eq, i60] at c6
      omega
    refine z_aload_n (pc := 12) C 0 dX9_tell_12 rfl rfl ?_
    refine z_getR (pc := 13) (r := 210) C dX9_tell_13 fX9_63 sh_0 rfl ?_
    refine z_aload_n (pc := 16) C 0 dX9_tell_16 rfl rfl ?_
    refine z_getI (pc := 17) C dX9_tell_17 fX9_67 sh_0 rfl ?_
    refine z_iload_n (pc := 20) C 1 dX9_tell_20 rfl rfl ?_
    rw [hq]
    refine z_iast (pc := 21) (n := q) C dX9_tell_21 sh_210 (vp_in_nI (by omega) (by decide)) (nI_clamp (by omega)) ?_
    refine z_aload_n (pc := 22) C 0 dX9_tell_22 rfl rfl ?_
    refine z_dup (pc := 23) C dX9_tell_23 rfl ?_
    refine z_getI (pc := 24) C dX9_tell_24 fX9_67 sh_0 rfl ?_
    refine z_iconst (pc := 27) (v := 1) C dX9_tell_27 rfl ?_
    refine z_iadd (pc := 28) C dX9_tell_28 ?_
    rw [show zu M 24 0 0 q v 0 0 0 9 + 1 = nI (q + 1) from by rw [zu_a (by decide), hq, nI_1]]
    refine z_putII (pc := 29) C dX9_tell_29 fX9_67 sh_0 rfl ?_
    refine z_aload_n (pc := 32) C 0 dX9_tell_32 rfl rfl ?_
    refine z_getI (pc := 33) C dX9_tell_33 fX9_67 sh_0 rfl ?_
    refine z_ireturn (pc := 36) C K dX9_tell_36 ?_
    exact ⟨_, rfl, Or.inr ⟨hlt, zu_self _ _ _ _ _ _, rfl⟩⟩
  · refine z_ldc (pc := 9) C q2_97 dX9_tell_9 ?_
    refine z_ireturn (pc := 11) C K dX9_tell_11 ?_
    exact ⟨_, rfl, Or.inl ⟨by simp only [zi_lt, eq, i60] at c6; omega, rfl, rfl⟩⟩

set_option maxHeartbeats 800000 in
set_option maxRecDepth 100000 in
theorem mX10_tell {l : Launch} {G : zG} {b : Nat} {M : zM} {q : Nat} (hq : M 30 0 0 33 = nI q) (hq60 : q ≤ 60) {v : Int32} : zMet l G b yX10_tell cX10_tell 2 (some .int) 0 zshL zshL [.ref (b + 239), .int v] M (zI (Atell 52 30 0 33 q v M)) := by
  refine zMet.of (L0 := [some (.ref (b + 239)), some (.int v)]) (by decide +kernel) (Nat.le_refl _) (Nat.le_refl _) (Nat.le_of_ble_eq_true rfl) (List.forall_mem_cons.mpr ⟨rfl, List.forall_mem_cons.mpr ⟨rfl, fun _ h => absurd h List.not_mem_nil⟩⟩) rfl (fun X C Al K => ?_)
  refine z_aload_n (pc := 0) C 0 dX10_tell_0 rfl rfl ?_
  refine z_getI (pc := 1) C dX10_tell_1 fX10_280 sh_239 rfl ?_
  refine z_bipush (pc := 4) (v := 60) C dX10_tell_4 rfl ?_
  rw [hq]
  have eq : (nI q).toInt = q := nI_toInt (by omega)
  refine z_icmp_ne (pc := 6) C 12 dX10_tell_6 (by decide) (fun c6 => ?_) (fun c6 => ?_)
  · have hlt : q < 60 := by
      simp only [zi_lt, zi_eq, eq, i60] at c6
      omega
    refine z_aload_n (pc := 12) C 0 dX10_tell_12 rfl rfl ?_
    refine z_getR (pc := 13) (r := 261) C dX10_tell_13 fX10_75 sh_239 rfl ?_
    refine z_aload_n (pc := 16) C 0 dX10_tell_16 rfl rfl ?_
    refine z_getI (pc := 17) C dX10_tell_17 fX10_280 sh_239 rfl ?_
    refine z_iload_n (pc := 20) C 1 dX10_tell_20 rfl rfl ?_
    rw [hq]
    refine z_iast (pc := 21) (n := q) C dX10_tell_21 sh_261 (vp_in_nI (by omega) (by decide)) (nI_clamp (by omega)) ?_
    refine z_aload_n (pc := 22) C 0 dX10_tell_22 rfl rfl ?_
    refine z_dup (pc := 23) C dX10_tell_23 rfl ?_
    refine z_getI (pc := 24) C dX10_tell_24 fX10_280 sh_239 rfl ?_
    refine z_iconst (pc := 27) (v := 1) C dX10_tell_27 rfl ?_
    refine z_iadd (pc := 28) C dX10_tell_28 ?_
    rw [show zu M 52 0 0 q v 30 0 0 33 + 1 = nI (q + 1) from by rw [zu_a (by decide), hq, nI_1]]
    refine z_putII (pc := 29) C dX10_tell_29 fX10_280 sh_239 rfl ?_
    refine z_aload_n (pc := 32) C 0 dX10_tell_32 rfl rfl ?_
    refine z_getI (pc := 33) C dX10_tell_33 fX10_280 sh_239 rfl ?_
    refine z_ireturn (pc := 36) C K dX10_tell_36 ?_
    exact ⟨_, rfl, Or.inr ⟨hlt, zu_self _ _ _ _ _ _, rfl⟩⟩
  · refine z_ldc (pc := 9) C q5_49 dX10_tell_9 ?_
    refine z_ireturn (pc := 11) C K dX10_tell_11 ?_
    exact ⟨_, rfl, Or.inl ⟨by simp only [zi_eq, eq, i60] at c6; omega, rfl, rfl⟩⟩

theorem op_tell {l : Launch} {G : zG} {b : Nat} {M : zM} (hM : Rel M) {v : Int32} : opOK l G b yX9_tell cX9_tell 2 0 yX10_tell cX10_tell 2 0 [.int v] M := by
  obtain ⟨n, T, ky, ln, hR⟩ := hM
  obtain ⟨q, hq, g1, g2, g3⟩ := hR.2.2.2.2.2.1
  refine ⟨_, mX9_tell g1 hq, fun r M1 h1 => ?_⟩
  have g2' : M1 30 0 0 33 = nI q := by
    rcases h1 with ⟨-, -, e⟩ | ⟨-, -, e⟩ <;> rw [e]
    · exact g2
    · rw [zu_a (by decide), zu_a (by decide)]
      exact g2
  refine zI.post (mX10_tell g2' hq) (fun s M2 h2 => ?_)
  rcases h1 with ⟨a, rfl, e1⟩ | ⟨a, rfl, e1⟩ <;> rcases h2 with ⟨c, rfl, e2⟩ | ⟨c, rfl, e2⟩
  · subst M1 M2
    exact ⟨rfl, _, _, _, _, hR⟩
  · omega
  · omega
  · subst M1 M2
    refine ⟨rfl, _, _, _, _, (hR.ch (D := fun a x y f => a = 24 ∨ a = 52 ∨ (a = 0 ∧ f = 9) ∨ (a = 30 ∧ f = 33)) ?_ (Or.inl (fun a x y f z q => by have q1 : a = 24 ∨ a = 52 ∨ (a = 0 ∧ f = 9) ∨ (a = 30 ∧ f = 33) := q; unfold RAd at z; omega)) (Or.inl (fun a x y f z q => by have q1 : a = 24 ∨ a = 52 ∨ (a = 0 ∧ f = 9) ∨ (a = 30 ∧ f = 33) := q; unfold RCd at z; omega)) (Or.inl (fun a x y f z q => by have q1 : a = 24 ∨ a = 52 ∨ (a = 0 ∧ f = 9) ∨ (a = 30 ∧ f = 33) := q; unfold RDd at z; omega)) (Or.inl (fun a x y f z q => by have q1 : a = 24 ∨ a = 52 ∨ (a = 0 ∧ f = 9) ∨ (a = 30 ∧ f = 33) := q; unfold REd at z; omega)) (Or.inl (fun a x y f z q => by have q1 : a = 24 ∨ a = 52 ∨ (a = 0 ∧ f = 9) ∨ (a = 30 ∧ f = 33) := q; unfold RFd at z; omega)) (Or.inr ⟨q + 1, by omega, ?_, ?_, fun k hk => ?_⟩) (Or.inl (fun a x y f z q => by have q1 : a = 24 ∨ a = 52 ∨ (a = 0 ∧ f = 9) ∨ (a = 30 ∧ f = 33) := q; unfold RHd at z; omega)))⟩
    · intro a x y f z
      have z1 : ¬ (a = 24 ∨ a = 52 ∨ (a = 0 ∧ f = 9) ∨ (a = 30 ∧ f = 33)) := z
      rw [zu_ne _ _ (fun e => z1 (by omega)), zu_ne _ _ (fun e => z1 (by omega)), zu_ne _ _ (fun e => z1 (by omega)), zu_ne _ _ (fun e => z1 (by omega))]
    · simp [zu]
    · simp [zu]
    · by_cases e : k = q
      · simp [zu, e]
      · simp [zu, e, g3 k (by omega)]
def Atrim (c1 c4 : Nat) (t : Nat) (x : Int32) (M : zM) (r : Int32) (M' : zM) : Prop := (¬ iin x 0 t ∧ r = -1000000001 ∧ M' = M) ∨ (iin x 0 t ∧ r = x ∧ M' = zu M c1 0 0 c4 x)
set_option maxHeartbeats 800000 in
set_option maxRecDepth 100000 in
theorem mX9_trim {l : Launch} {G : zG} {b : Nat} {M : zM} {t : Nat} (ht : M 19 0 0 1 = nI t) (ht96 : t ≤ 96) {x : Int32} : zMet l G b yX9_trim cX9_trim 2 (some .int) 0 zshL zshL [.ref (b + 0), .int x] M (zI (Atrim 19 1 t x M)) := by
  refine zMet.of (L0 := [some (.ref (b + 0)), some (.int x)]) (by decide +kernel) (Nat.le_refl _) (Nat.le_refl _) (Nat.le_of_ble_eq_true rfl) (List.forall_mem_cons.mpr ⟨rfl, List.forall_mem_cons.mpr ⟨rfl, fun _ h => absurd h List.not_mem_nil⟩⟩) rfl (fun X C Al K => ?_)
  refine z_iload_n (pc := 0) C 1 dX9_trim_0 rfl rfl ?_
  refine z_if_lt (pc := 1) C 15 dX9_trim_1 (by decide) (fun c1 => ?_) (fun c1 => ?_)
  · refine z_ldc (pc := 15) C q2_96 dX9_trim_15 ?_
    refine z_ireturn (pc := 17) C K dX9_trim_17 ?_
    refine ⟨_, rfl, Or.inl ⟨?_, rfl, rfl⟩⟩
    have eq : (nI t).toInt = t := nI_toInt (by omega)
    simp only [zi_lt, zi_le, zi_eq, i0, i1, i2, i3, i4, i5, i6, i9, i20, i99, i100, im5, im20, im1] at c1
    unfold iin
    omega
  · refine z_iload_n (pc := 4) C 1 dX9_trim_4 rfl rfl ?_
    refine z_aload_n (pc := 5) C 0 dX9_trim_5 rfl rfl ?_
    refine z_getR (pc := 6) (r := 203) C dX9_trim_6 fX9_38 sh_0 rfl ?_
    refine z_getI (pc := 9) C dX9_trim_9 fX9_212 sh_203 rfl ?_
    refine z_icmp_le (pc := 12) C 18 dX9_trim_12 (by decide) (fun c12 => ?_) (fun c12 => ?_)
    · refine z_aload_n (pc := 18) C 0 dX9_trim_18 rfl rfl ?_
      refine z_getR (pc := 19) (r := 203) C dX9_trim_19 fX9_38 sh_0 rfl ?_
      refine z_iload_n (pc := 22) C 1 dX9_trim_22 rfl rfl ?_
      refine z_putII (pc := 23) C dX9_trim_23 fX9_212 sh_203 rfl ?_
      refine z_iload_n (pc := 26) C 1 dX9_trim_26 rfl rfl ?_
      refine z_ireturn (pc := 27) C K dX9_trim_27 ?_
      rw [ht] at c12
      have eq : (nI t).toInt = t := nI_toInt (by omega)
      simp only [zi_lt, zi_le, zi_eq, i0, i1, i2, i3, i4, i5, i6, i9, i20, i99, i100, im5, im20, im1, eq] at c1 c12
      exact ⟨_, rfl, Or.inr ⟨⟨by omega, by omega⟩, rfl, rfl⟩⟩
    · refine z_ldc (pc := 15) C q2_96 dX9_trim_15 ?_
      refine z_ireturn (pc := 17) C K dX9_trim_17 ?_
      refine ⟨_, rfl, Or.inl ⟨?_, rfl, rfl⟩⟩
      rw [ht] at c12
      have eq : (nI t).toInt = t := nI_toInt (by omega)
      simp only [zi_lt, zi_le, zi_eq, i0, i1, i2, i3, i4, i5, i6, i9, i20, i99, i100, im5, im20, im1, eq] at c1 c12
      unfold iin
      omega

set_option maxHeartbeats 800000 in
set_option maxRecDepth 100000 in
theorem mX10_trim {l : Launch} {G : zG} {b : Nat} {M : zM} {t : Nat} (ht : M 30 0 0 7 = nI t) (ht96 : t ≤ 96) {x : Int32} : zMet l G b yX10_trim cX10_trim 2 (some .int) 1 zshL zshL [.ref (b + 239), .int x] M (zI (Atrim 30 7 t x M)) := by
  refine zMet.of (L0 := [some (.ref (b + 239)), some (.int x)]) (by decide +kernel) (Nat.le_refl _) (Nat.le_refl _) (Nat.le_of_ble_eq_true rfl) (List.forall_mem_cons.mpr ⟨rfl, List.forall_mem_cons.mpr ⟨rfl, fun _ h => absurd h List.not_mem_nil⟩⟩) rfl (fun X C Al K => ?_)
  refine z_iload_n (pc := 0) C 1 dX10_trim_0 rfl rfl ?_
  refine z_iconst (pc := 1) (v := 0) C dX10_trim_1 rfl ?_
  refine z_aload_n (pc := 2) C 0 dX10_trim_2 rfl rfl ?_
  refine z_getI (pc := 3) C dX10_trim_3 fX10_205 sh_239 rfl ?_
  rw [ht]
  refine z_callSi (pc := 6) C dX10_trim_6 kX10_78 mX10_in (by decide) rfl rfl (Nat.le_of_ble_eq_true rfl) (fun r6 M6 h6 => ?_)
  obtain ⟨h6, e6⟩ := h6
  subst M6
  replace h6 := zin_b i0 (nI_toInt (by omega)) h6
  refine z_if_ne (pc := 9) C 15 dX10_trim_9 (by decide) (fun c9 => ?_) (fun c9 => ?_)
  · refine z_aload_n (pc := 15) C 0 dX10_trim_15 rfl rfl ?_
    refine z_iload_n (pc := 16) C 1 dX10_trim_16 rfl rfl ?_
    refine z_putII (pc := 17) C dX10_trim_17 fX10_205 sh_239 rfl ?_
    refine z_iload_n (pc := 20) C 1 dX10_trim_20 rfl rfl ?_
    refine z_ireturn (pc := 21) C K dX10_trim_21 ?_
    exact ⟨_, rfl, Or.inr ⟨h6.yes c9, rfl, rfl⟩⟩
  · refine z_ldc (pc := 12) C q5_48 dX10_trim_12 ?_
    refine z_ireturn (pc := 14) C K dX10_trim_14 ?_
    exact ⟨_, rfl, Or.inl ⟨h6.no c9, rfl, rfl⟩⟩

theorem op_trim {l : Launch} {G : zG} {b : Nat} {M : zM} (hM : Rel M) {x : Int32} : opOK l G b yX9_trim cX9_trim 2 0 yX10_trim cX10_trim 2 1 [.int x] M := by
  obtain ⟨n, T, ky, ln, hR⟩ := hM
  obtain ⟨t, ht, g1, g2, g3⟩ := hR.2.2.1
  refine ⟨_, mX9_trim g1 ht, fun r M1 h1 => ?_⟩
  have g2' : M1 30 0 0 7 = nI t := by
    rcases h1 with ⟨-, -, e⟩ | ⟨-, -, e⟩ <;> rw [e]
    · exact g2
    · rw [zu_a (by decide)]
      exact g2
  refine zI.post (mX10_trim g2' ht) (fun s M2 h2 => ?_)
  rcases h1 with ⟨a, rfl, e1⟩ | ⟨a, rfl, e1⟩ <;> rcases h2 with ⟨c, rfl, e2⟩ | ⟨c, rfl, e2⟩
  · subst M1 M2
    exact ⟨rfl, _, _, _, _, hR⟩
  · exact absurd c a
  · exact absurd a c
  · subst M1 M2
    obtain ⟨m, hm, rfl⟩ := iin_n a (by omega)
    refine ⟨rfl, _, _, _, _, (hR.ch (D := fun a x y f => (a = 19 ∧ f = 1) ∨ (a = 30 ∧ f = 7)) ?_ (Or.inl (fun a x y f z q => by have q1 : (a = 19 ∧ f = 1) ∨ (a = 30 ∧ f = 7) := q; unfold RAd at z; omega)) (Or.inl (fun a x y f z q => by have q1 : (a = 19 ∧ f = 1) ∨ (a = 30 ∧ f = 7) := q; unfold RCd at z; omega)) (Or.inr ⟨m, by omega, ?_, ?_, fun k hk => ?_⟩) (Or.inl (fun a x y f z q => by have q1 : (a = 19 ∧ f = 1) ∨ (a = 30 ∧ f = 7) := q; unfold REd at z; omega)) (Or.inl (fun a x y f z q => by have q1 : (a = 19 ∧ f = 1) ∨ (a = 30 ∧ f = 7) := q; unfold RFd at z; omega)) (Or.inl (fun a x y f z q => by have q1 : (a = 19 ∧ f = 1) ∨ (a = 30 ∧ f = 7) := q; unfold RGd at z; omega)) (Or.inl (fun a x y f z q => by have q1 : (a = 19 ∧ f = 1) ∨ (a = 30 ∧ f = 7) := q; unfold RHd at z; omega)))⟩
    · intro a x y f z
      have z1 : ¬ ((a = 19 ∧ f = 1) ∨ (a = 30 ∧ f = 7)) := z
      rw [zu_ne _ _ (fun e => z1 (by omega)), zu_ne _ _ (fun e => z1 (by omega))]
    · simp [zu]
    · simp [zu]
    · simp [zu]
      exact g3 k (by omega)