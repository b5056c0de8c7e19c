/-! thought: begin, ponder -/
theorem lt2_14 : 2 < 14 := by decide
set_option maxHeartbeats 4000000 in
set_option maxRecDepth 100000 in
theorem mX7_begin {l : Launch} {G : zG} {b : Nat} {M : zM} {w' n : Nat} (hw' : w' < 14) (hne : w' ≠ 2) (hn : M 5 w' 0 2 = nI n) (hn8 : n ≤ 8) (ho : M 5 w' 0 7 = 0 ∨ M 5 w' 0 7 = 1) (hh : ∀ i, i < n → M 1 w' i 6 = 0 ∨ M 1 w' i 6 = 1) : zMet l G b yX7_begin cX7_begin 2 (some (.object "MeanSafe$World")) 2 zshL zshL [.ref (b + 54), .ref (b + adW w')] M (zR b (fun k M' => k = adW 2 ∧ wC M M' 2 w' n)) := by
  refine zMet.of (L0 := [some (.ref (b + 54)), some (.ref (b + adW w'))]) (by decide +kernel) (Nat.le_refl _) (Nat.le_refl _) (Nat.le_of_ble_eq_true rfl) (List.forall_mem_cons.mpr ⟨rfl, List.forall_mem_cons.mpr ⟨rfl, fun _ h => absurd h List.not_mem_nil⟩⟩) rfl (fun X C Al K => ?_)
  refine z_aload_n (pc := 0) C 0 dX7_begin_0 rfl rfl ?_
  refine z_getR (pc := 1) (r := 55) C dX7_begin_1 fX7_11 sh_54 rfl ?_
  refine z_iconst (pc := 4) (v := 0) C dX7_begin_4 rfl ?_
  refine z_aald (pc := 5) (r := adW 2) C dX7_begin_5 sh_55 rfl rfl (zi_in.mpr (by decide)) rfl ?_
  refine z_aload_n (pc := 6) C 1 dX7_begin_6 rfl rfl ?_
  refine z_callVv (pc := 7) C dX7_begin_7 kX7_32 (mX8_become lt2_14 hw' hne hn hn8 ho hh) (by decide) (shW lt2_14) rfl rfl rfl (Nat.le_of_ble_eq_true rfl) (fun M7 h7 => ?_)
  refine z_aload_n (pc := 10) C 0 dX7_begin_10 rfl rfl ?_
  refine z_getR (pc := 11) (r := 55) C dX7_begin_11 fX7_11 sh_54 rfl ?_
  refine z_iconst (pc := 14) (v := 0) C dX7_begin_14 rfl ?_
  refine z_aald (pc := 15) (r := adW 2) C dX7_begin_15 sh_55 rfl rfl (zi_in.mpr (by decide)) rfl ?_
  refine z_areturn (pc := 16) C K (Or.inl ⟨_, rfl⟩) dX7_begin_16 ?_
  exact ⟨_, rfl, rfl, h7⟩

def psum (f : Nat → Int32) (a : Nat) : Nat → Int32
  | 0 => 0
  | i + 1 => psum f a i + f (a + i)
/-- what a number needs in world w (13: never) -/
def pnd (M : zM) (w n : Nat) (hv : Int32 → Int32 → Int32 → Int32) (k : Nat) : Int32 := if M 5 w 0 7 = 0 then (if n = 0 then 13 else ndv (nd hv n (M 5 w 0 4) (M 5 w 0 5) 12 (M 1 w) (nI k)) 0 13) else 0
/-- what ponder may change -/
def pCh (a x : Nat) : Prop := ((a = 1 ∨ a = 5 ∨ a = 6) ∧ 2 < x ∧ x < 14) ∨ a = 12 ∨ a = 16 ∨ a = 17 ∨ a = 18
set_option maxHeartbeats 4000000 in
set_option maxRecDepth 100000 in
theorem mX7_ponder {l : Launch} {G : zG} {b : Nat} {M : zM} {n a m : Nat} (ham : a ≤ m) (hm : m ≤ 100) {z : Int32} (hz : z.toInt = (m : Int) - 1) (hn : M 5 2 0 2 = nI n) (hn8 : n ≤ 8) {hv : Int32 → Int32 → Int32 → Int32} (hS : okS M (M 6 2 0 0) hv) (hop : M 5 2 0 7 = 0 ∨ M 5 2 0 7 = 1) (hhe : ∀ i, i < n → M 1 2 i 6 = 0 ∨ M 1 2 i 6 = 1) (hr1 : -5 ≤ (M 5 2 0 5).toInt) (hr2 : (M 5 2 0 5).toInt ≤ 5) : zMet l G b yX7_ponder cX7_ponder 7 (some .int) 17 zshL zshL [.ref (b + 54), .int (nI a), .int z] M (zI (fun r M' => r = psum (pnd M 2 n hv) a (m - a) ∧ (∀ k, a ≤ k → k < m → M' 18 0 0 k = pnd M 2 n hv k) ∧ ∀ c x y f, ¬ pCh c x → M' c x y f = M c x y f)) := by
  refine zMet.of (L0 := [some (.ref (b + 54)), some (.int (nI a)), some (.int z), none, none, none, none]) (by decide +kernel) (Nat.le_refl _) (Nat.le_refl _) (Nat.le_of_ble_eq_true rfl) (List.forall_mem_cons.mpr ⟨rfl, List.forall_mem_cons.mpr ⟨rfl, List.forall_mem_cons.mpr ⟨rfl, fun _ h => absurd h List.not_mem_nil⟩⟩⟩) rfl (fun X C Al K => ?_)
  have sumloop : ∀ (M5 : zM), (∀ k, a ≤ k → k < m → M5 18 0 0 k = pnd M 2 n hv k) → (∀ j, j < m - a → M5 16 0 0 j = nI (a + j)) → (∀ c x y f, ¬ pCh c x → M5 c x y f = M c x y f) → ∀ (j i : Nat), i + j = m - a → zW X zshL M5 103 [some (.ref (b + 54)), some (.int (nI a)), some (.int z), some (.ref (b + adW 2)), some (.int (nI (m - a))), some (.int (psum (pnd M 2 n hv) a i)), some (.int (nI i))] [] := by
    intro M5 h18 h16 hf j
    induction j with
    | zero =>
      intro i hi
      refine z_iload (pc := 103) C 6 dX7_ponder_103 rfl ?_
      refine z_iload (pc := 105) C 4 dX7_ponder_105 rfl ?_
      refine z_icmp_ge (pc := 107) C 135 dX7_ponder_107 (by decide) (fun c107 => ?_) (fun c107 => absurd (nI_le (by omega) (by omega)) c107)
      refine z_iload (pc := 135) C 5 dX7_ponder_135 rfl ?_
      refine z_ireturn (pc := 137) C K dX7_ponder_137 ?_
      obtain rfl : i = m - a := by omega
      exact ⟨_, rfl, rfl, h18, hf⟩
    | succ j ih =>
      intro i hi
      have h16i := h16 i (by omega)
      have h18i := h18 (a + i) (by omega) (by omega)
      refine z_iload (pc := 103) C 6 dX7_ponder_103 rfl ?_
      refine z_iload (pc := 105) C 4 dX7_ponder_105 rfl ?_
      refine z_icmp_ge (pc := 107) C 135 dX7_ponder_107 (by decide) (fun c107 => absurd c107 (nI_ge (by omega) (by omega))) (fun c107 => ?_)
      refine z_iload (pc := 110) C 5 dX7_ponder_110 rfl ?_
      refine z_aload_n (pc := 112) C 0 dX7_ponder_112 rfl rfl ?_
      refine z_getR (pc := 113) (r := 70) C dX7_ponder_113 fX7_26 sh_54 rfl ?_
      refine z_aload_n (pc := 116) C 0 dX7_ponder_116 rfl rfl ?_
      refine z_getR (pc := 117) (r := 56) C dX7_ponder_117 fX7_19 sh_54 rfl ?_
      refine z_iconst (pc := 120) (v := 0) C dX7_ponder_120 rfl ?_
      refine z_aald (pc := 121) (r := 57 + 0) C dX7_ponder_121 sh_56 rfl rfl (zi_in.mpr (by decide)) rfl ?_
      refine z_iload (pc := 122) C 6 dX7_ponder_122 rfl ?_
      refine z_iald (pc := 124) (n := i) C dX7_ponder_124 (shG (by decide)) (vp_in_nI (by omega) (by omega)) (nI_clamp (by omega)) ?_
      rw [h16i]
      refine z_iald (pc := 125) (n := a + i) C dX7_ponder_125 sh_70 (vp_in_nI (by omega) (by omega)) (nI_clamp (by omega)) ?_
      rw [h18i]
      refine z_iadd (pc := 126) C dX7_ponder_126 ?_
      refine z_istore (pc := 127) C 5 dX7_ponder_127 (by decide) rfl ?_
      refine z_iinc (pc := 129) (v := 1) C 6 dX7_ponder_129 (by decide) rfl rfl rfl ?_
      refine z_goto (pc := 132) C 103 dX7_ponder_132 (by decide) ?_
      have e := ih (i + 1) (by omega)
      rw [nI_succ i] at e
      exact e
  have mid : ∀ (M1 : zM) (q6 : Option Value), (∀ j, j < m - a → M1 18 0 0 (a + j) = (if M 5 2 0 7 = 0 then 13 else 0) ∧ M1 16 0 0 j = nI (a + j)) → (∀ c x y f, ¬ (c = 18 ∨ (c = 16 ∧ x = 0)) → M1 c x y f = M c x y f) → zW X zshL M1 70 [some (.ref (b + 54)), some (.int (nI a)), some (.int z), some (.ref (b + adW 2)), some (.int (nI (m - a))), some (.int (nI (a + (m - a)))), q6] [] := by
    intro M1 q6 hk hf
    have o5 : ∀ x y f, zu M1 17 0 0 0 (nI (m - a)) 5 x y f = M 5 x y f := fun x y f => by rw [zu_a (by decide), hf 5 x y f (by omega)]
    refine z_aload_n (pc := 70) C 0 dX7_ponder_70 rfl rfl ?_
    refine z_getR (pc := 71) (r := 69) C dX7_ponder_71 fX7_22 sh_54 rfl ?_
    refine z_iconst (pc := 74) (v := 0) C dX7_ponder_74 rfl ?_
    refine z_iload (pc := 75) C 4 dX7_ponder_75 rfl ?_
    refine z_iast (pc := 77) (n := 0) C dX7_ponder_77 sh_69 (zi_in.mpr (by decide)) rfl ?_
    refine z_aload_n (pc := 78) C 3 dX7_ponder_78 rfl rfl ?_
    refine z_getI (pc := 79) C dX7_ponder_79 fX7_42 (shW lt2_14) rfl ?_
    refine z_if_ne (pc := 82) C 97 dX7_ponder_82 (by decide) (fun c82 => ?_) (fun c82 => ?_)
    · refine z_iconst (pc := 97) (v := 0) C dX7_ponder_97 rfl ?_
      refine z_istore (pc := 98) C 5 dX7_ponder_98 (by decide) rfl ?_
      refine z_iconst (pc := 100) (v := 0) C dX7_ponder_100 rfl ?_
      refine z_istore (pc := 101) C 6 dX7_ponder_101 (by decide) rfl ?_
      have e := sumloop (zu M1 17 0 0 0 (nI (m - a))) (fun k h1 h2 => ?_) (fun j hj => ?_) (fun c x y f z => ?_) (m - a) 0 (by omega)
      · exact e
      · have hj := (hk (k - a) (by omega)).1
        rw [show a + (k - a) = k by omega] at hj
        rw [zu_a (by decide), hj]
        unfold pnd
        rw [o5] at c82
        rw [if_neg c82, if_neg c82]
      · rw [zu_a (by decide)]
        exact (hk j hj).2
      · rw [zu_ne _ _ (fun q => z (by unfold pCh; omega))]
        exact hf c x y f (fun q => z (by unfold pCh; omega))
    · refine z_aload_n (pc := 85) C 3 dX7_ponder_85 rfl rfl ?_
      refine z_getI (pc := 86) C dX7_ponder_86 fX7_46 (shW lt2_14) rfl ?_
      refine z_if_le (pc := 89) C 97 dX7_ponder_89 (by decide) (fun c89 => ?_) (fun c89 => ?_)
      · refine z_iconst (pc := 97) (v := 0) C dX7_ponder_97 rfl ?_
        refine z_istore (pc := 98) C 5 dX7_ponder_98 (by decide) rfl ?_
        refine z_iconst (pc := 100) (v := 0) C dX7_ponder_100 rfl ?_
        refine z_istore (pc := 101) C 6 dX7_ponder_101 (by decide) rfl ?_
        have e := sumloop (zu M1 17 0 0 0 (nI (m - a))) (fun k h1 h2 => ?_) (fun j hj => ?_) (fun c x y f z => ?_) (m - a) 0 (by omega)
        · exact e
        · have hj := (hk (k - a) (by omega)).1
          rw [show a + (k - a) = k by omega] at hj
          rw [zu_a (by decide), hj]
          unfold pnd
          rw [o5] at c82 c89
          rw [hn] at c89
          have h0 : n = 0 := by
            rcases Nat.eq_zero_or_pos n with q | q
            · exact q
            · exact absurd c89 (nI_nle q (by omega))
          rw [if_pos c82, if_pos c82, if_pos h0]
        · rw [zu_a (by decide)]
          exact (hk j hj).2
        · rw [zu_ne _ _ (fun q => z (by unfold pCh; omega))]
          exact hf c x y f (fun q => z (by unfold pCh; omega))
      · refine z_aload_n (pc := 92) C 0 dX7_ponder_92 rfl rfl ?_
        refine z_iconst (pc := 93) (v := 0) C dX7_ponder_93 rfl ?_
        have hpre0 : brPre (zu M1 17 0 0 0 (nI (m - a))) 0 n (List.range' a (m - a)) hv := by
          have o6 : ∀ y f, zu M1 17 0 0 0 (nI (m - a)) 6 (2 + 0) y f = M 6 2 y f := fun y f => by rw [zu_a (by decide)]; exact hf 6 2 y f (by omega)
          have o1 : ∀ y f, zu M1 17 0 0 0 (nI (m - a)) 1 (2 + 0) y f = M 1 2 y f := fun y f => by rw [zu_a (by decide)]; exact hf 1 2 y f (by omega)
          refine ⟨⟨by rw [List.length_range']; omega, fun i k hik => ?_⟩, by rw [zu_self, List.length_range'], (o5 2 0 2).trans hn, hn8, ?_, ?_, fun i hi => ?_, ?_, ?_⟩
          · have hi : i < m - a := by have := (List.getElem?_eq_some_iff.mp hik).1; rw [List.length_range'] at this; exact this
            rw [List.getElem?_range' hi, Nat.one_mul] at hik
            have ek := Option.some.inj hik
            rw [← ek, zu_a (by decide)]
            exact ⟨by omega, (hk i hi).2⟩
          · rw [o6]
            refine okS.on ?_ ?_ hS
            · funext x y f
              rw [zu_a (by decide)]
              exact hf 8 x y f (by omega)
            · funext x y f
              rw [zu_a (by decide)]
              exact hf 9 x y f (by omega)
          · rw [show zu M1 17 0 0 0 (nI (m - a)) 5 (2 + 0) 0 7 = M 5 2 0 7 from o5 2 0 7]
            exact hop
          · rw [o1]
            exact hhe i hi
          · rw [show zu M1 17 0 0 0 (nI (m - a)) 5 (2 + 0) 0 5 = M 5 2 0 5 from o5 2 0 5]
            exact hr1
          · rw [show zu M1 17 0 0 0 (nI (m - a)) 5 (2 + 0) 0 5 = M 5 2 0 5 from o5 2 0 5]
            exact hr2
        have hbr := mX7_branch (l := l) (G := G) (b := b) 11 0 (by decide) _ _ hpre0
        refine z_callVv (pc := 94) C dX7_ponder_94 kX7_50 hbr (by decide) sh_54 rfl rfl rfl (Nat.le_of_ble_eq_true rfl) (fun M94 h94 => ?_)
        refine z_iconst (pc := 97) (v := 0) C dX7_ponder_97 rfl ?_
        refine z_istore (pc := 98) C 5 dX7_ponder_98 (by decide) rfl ?_
        refine z_iconst (pc := 100) (v := 0) C dX7_ponder_100 rfl ?_
        refine z_istore (pc := 101) C 6 dX7_ponder_101 (by decide) rfl ?_
        obtain ⟨b1, b2⟩ := h94
        have e := sumloop M94 (fun k h1 h2 => ?_) (fun j hj => ?_) (fun c x y f z => ?_) (m - a) 0 (by omega)
        · exact e
        · have hj := (hk (k - a) (by omega)).1
          rw [show a + (k - a) = k by omega] at hj
          have hmem : k ∈ List.range' a (m - a) := by rw [List.mem_range'_1]; omega
          have e4 : zu M1 17 0 0 0 (nI (m - a)) 5 (2 + 0) 0 4 = M 5 2 0 4 := o5 2 0 4
          have e5 : zu M1 17 0 0 0 (nI (m - a)) 5 (2 + 0) 0 5 = M 5 2 0 5 := o5 2 0 5
          have e1 : zu M1 17 0 0 0 (nI (m - a)) 1 (2 + 0) = M 1 2 := by
            funext y f
            rw [zu_a (by decide)]
            exact hf 1 2 y f (by omega)
          have e18 : zu M1 17 0 0 0 (nI (m - a)) 18 0 0 k = M1 18 0 0 k := by rw [zu_a (by decide)]
          rw [b1 k (by omega), if_pos hmem, e4, e5, e1, e18, pFm_0 (by omega), hj]
          rw [o5] at c82
          unfold pnd
          have h0 : ¬ n = 0 := by
            intro q
            rw [o5, hn, q] at c89
            exact c89 (by decide)
          rw [if_pos c82, if_pos c82, if_neg h0]
        · rw [b2 16 0 0 j (by unfold bCh; omega), zu_a (by decide)]
          exact (hk j hj).2
        · rw [b2 c x y f (fun q => z (by unfold bCh at q; unfold pCh; omega)), zu_ne _ _ (fun q => z (by unfold pCh; omega))]
          exact hf c x y f (fun q => z (by unfold pCh; omega))
  have loop1 : ∀ (j i : Nat) (M1 : zM) (q6 : Option Value), i + j = m - a → (∀ j, j < i → M1 18 0 0 (a + j) = (if M 5 2 0 7 = 0 then 13 else 0) ∧ M1 16 0 0 j = nI (a + j)) → (∀ c x y f, ¬ (c = 18 ∨ (c = 16 ∧ x = 0)) → M1 c x y f = M c x y f) → zW X zshL M1 17 [some (.ref (b + 54)), some (.int (nI a)), some (.int z), some (.ref (b + adW 2)), some (.int (nI i)), some (.int (nI (a + i))), q6] [] := by
    intro j
    induction j with
    | zero =>
      intro i M1 q6 hi hk hf
      obtain rfl : i = m - a := by omega
      have hzi : z < nI (a + (m - a)) := by
        rw [zi_lt, nI_toInt (by omega), hz]
        omega
      refine z_iload (pc := 17) C 5 dX7_ponder_17 rfl ?_
      refine z_iload_n (pc := 19) C 2 dX7_ponder_19 rfl rfl ?_
      refine z_icmp_gt (pc := 20) C 70 dX7_ponder_20 (by decide) (fun c20 => ?_) (fun c20 => absurd hzi c20)
      exact mid M1 q6 hk hf
    | succ j ih =>
      intro i M1 q6 hi hk hf
      have hzi : ¬ z < nI (a + i) := by
        rw [zi_lt, nI_toInt (by omega), hz]
        omega
      have o7 : M1 5 2 0 7 = M 5 2 0 7 := hf 5 2 0 7 (by omega)
      refine z_iload (pc := 17) C 5 dX7_ponder_17 rfl ?_
      refine z_iload_n (pc := 19) C 2 dX7_ponder_19 rfl rfl ?_
      refine z_icmp_gt (pc := 20) C 70 dX7_ponder_20 (by decide) (fun c20 => absurd c20 hzi) (fun c20 => ?_)
      refine z_iload (pc := 23) C 5 dX7_ponder_23 rfl ?_
      refine z_bipush (pc := 25) (v := 100) C dX7_ponder_25 rfl ?_
      refine z_icmp_ge (pc := 27) C 70 dX7_ponder_27 (by decide) (fun c27 => absurd c27 (nI_ge (b := 100) (by omega) (by omega))) (fun c27 => ?_)
      refine z_aload_n (pc := 30) C 0 dX7_ponder_30 rfl rfl ?_
      refine z_getR (pc := 31) (r := 70) C dX7_ponder_31 fX7_26 sh_54 rfl ?_
      refine z_iload (pc := 34) C 5 dX7_ponder_34 rfl ?_
      refine z_aload_n (pc := 36) C 3 dX7_ponder_36 rfl rfl ?_
      refine z_getI (pc := 37) C dX7_ponder_37 fX7_42 (shW lt2_14) rfl ?_
      refine z_if_eq (pc := 40) C 47 dX7_ponder_40 (by decide) (fun c40 => ?_) (fun c40 => ?_)
      · refine z_bipush (pc := 47) (v := 13) C dX7_ponder_47 rfl ?_
        refine z_iast (pc := 49) (n := a + i) C dX7_ponder_49 sh_70 (vp_in_nI (by omega) (by omega)) (nI_clamp (by omega)) ?_
        refine z_aload_n (pc := 50) C 0 dX7_ponder_50 rfl rfl ?_
        refine z_getR (pc := 51) (r := 56) C dX7_ponder_51 fX7_19 sh_54 rfl ?_
        refine z_iconst (pc := 54) (v := 0) C dX7_ponder_54 rfl ?_
        refine z_aald (pc := 55) (r := 57 + 0) C dX7_ponder_55 sh_56 rfl rfl (zi_in.mpr (by decide)) rfl ?_
        refine z_iload (pc := 56) C 4 dX7_ponder_56 rfl ?_
        refine z_iload (pc := 58) C 5 dX7_ponder_58 rfl ?_
        refine z_iast (pc := 60) (n := i) C dX7_ponder_60 (shG (by decide)) (vp_in_nI (by omega) (by omega)) (nI_clamp (by omega)) ?_
        refine z_iinc (pc := 61) (v := 1) C 4 dX7_ponder_61 (by decide) rfl rfl rfl ?_
        refine z_iinc (pc := 64) (v := 1) C 5 dX7_ponder_64 (by decide) rfl rfl rfl ?_
        refine z_goto (pc := 67) C 17 dX7_ponder_67 (by decide) ?_
        have e := ih (i + 1) (zu (zu M1 18 0 0 (a + i) 13) 16 0 0 i (nI (a + i))) q6 (by omega) (fun j hj => ?_) (fun c x y f z => ?_)
        · rw [show a + (i + 1) = a + i + 1 by omega, nI_succ i, nI_succ (a + i)] at e
          exact e
        · by_cases ej : j = i
          · rw [ej, zu_self, zu_a (by decide), zu_self]
            rw [o7] at c40
            exact ⟨(if_pos c40).symm, rfl⟩
          · rw [zu_a (by decide), zu_f (by omega), zu_f ej, zu_a (by decide)]
            exact hk j (by omega)
        · rw [zu_ne _ _ (fun q => z (by omega)), zu_ne _ _ (fun q => z (by omega))]
          exact hf c x y f z
      · refine z_iconst (pc := 43) (v := 0) C dX7_ponder_43 rfl ?_
        refine z_goto (pc := 44) C 49 dX7_ponder_44 (by decide) ?_
        refine z_iast (pc := 49) (n := a + i) C dX7_ponder_49 sh_70 (vp_in_nI (by omega) (by omega)) (nI_clamp (by omega)) ?_
        refine z_aload_n (pc := 50) C 0 dX7_ponder_50 rfl rfl ?_
        refine z_getR (pc := 51) (r := 56) C dX7_ponder_51 fX7_19 sh_54 rfl ?_
        refine z_iconst (pc := 54) (v := 0) C dX7_ponder_54 rfl ?_
        refine z_aald (pc := 55) (r := 57 + 0) C dX7_ponder_55 sh_56 rfl rfl (zi_in.mpr (by decide)) rfl ?_
        refine z_iload (pc := 56) C 4 dX7_ponder_56 rfl ?_
        refine z_iload (pc := 58) C 5 dX7_ponder_58 rfl ?_
        refine z_iast (pc := 60) (n := i) C dX7_ponder_60 (shG (by decide)) (vp_in_nI (by omega) (by omega)) (nI_clamp (by omega)) ?_
        refine z_iinc (pc := 61) (v := 1) C 4 dX7_ponder_61 (by decide) rfl rfl rfl ?_
        refine z_iinc (pc := 64) (v := 1) C 5 dX7_ponder_64 (by decide) rfl rfl rfl ?_
        refine z_goto (pc := 67) C 17 dX7_ponder_67 (by decide) ?_
        have e := ih (i + 1) (zu (zu M1 18 0 0 (a + i) 0) 16 0 0 i (nI (a + i))) q6 (by omega) (fun j hj => ?_) (fun c x y f z => ?_)
        · rw [show a + (i + 1) = a + i + 1 by omega, nI_succ i, nI_succ (a + i)] at e
          exact e
        · by_cases ej : j = i
          · rw [ej, zu_self, zu_a (by decide), zu_self]
            rw [o7] at c40
            exact ⟨(if_neg c40).symm, rfl⟩
          · rw [zu_a (by decide), zu_f (by omega), zu_f ej, zu_a (by decide)]
            exact hk j (by omega)
        · rw [zu_ne _ _ (fun q => z (by omega)), zu_ne _ _ (fun q => z (by omega))]
          exact hf c x y f z
  refine z_aload_n (pc := 0) C 0 dX7_ponder_0 rfl rfl ?_
  refine z_getR (pc := 1) (r := 55) C dX7_ponder_1 fX7_11 sh_54 rfl ?_
  refine z_iconst (pc := 4) (v := 0) C dX7_ponder_4 rfl ?_
  refine z_aald (pc := 5) (r := adW 2) C dX7_ponder_5 sh_55 rfl rfl (zi_in.mpr (by decide)) rfl ?_
  refine z_astore_n (pc := 6) C 3 dX7_ponder_6 rfl (by decide) rfl ?_
  refine z_iconst (pc := 7) (v := 0) C dX7_ponder_7 rfl ?_
  refine z_istore (pc := 8) C 4 dX7_ponder_8 (by decide) rfl ?_
  refine z_iconst (pc := 10) (v := 0) C dX7_ponder_10 rfl ?_
  refine z_iload_n (pc := 11) C 1 dX7_ponder_11 rfl rfl ?_
  refine z_max (pc := 12) C (by decide) q3_51 q2_139 q1_12 q2_140 dX7_ponder_12 (Nat.le_of_ble_eq_true rfl) ?_
  rw [show (if (0 : Int32) < nI a then nI a else 0) = nI a from by
    split
    · rfl
    · rename_i h
      rcases Nat.eq_zero_or_pos a with q | q
      · rw [q]; rfl
      · exact absurd (nI_lt (a := 0) q (by omega)) h]
  refine z_istore (pc := 15) C 5 dX7_ponder_15 (by decide) rfl ?_
  exact loop1 (m - a) 0 M _ (by omega) (fun j h => absurd h (Nat.not_lt_zero _)) (fun _ _ _ _ _ => rfl)
