/-! PUBLIC METHODS that change the world alone -/
def vF (V : zVw) (k : Nat) (v : Int32) : zVw := (fun j => if j = k then v else V.1 j, V.2)
def vP (V : zVw) (i f : Nat) (v : Int32) : zVw := (V.1, fun a c => if a = i ∧ c = f then v else V.2 a c)
def vNew (V : zVw) (n : Nat) (k d g e : Int32) : zVw := (fun j => if j = 2 then nI (n + 1) else V.1 j, fun a c => if a = n then pNew k d g e c else V.2 a c)
theorem vF_c {n : Nat} {V W : zVw} (h : veq n V W) (k : Nat) (v : Int32) : veq n (vF V k v) (vF W k v) := ⟨fun j h1 h2 => by
  show (if j = k then v else V.1 j) = if j = k then v else W.1 j
  rw [h.1 j h1 h2], h.2⟩
theorem vP_c {n : Nat} {V W : zVw} (h : veq n V W) (i f : Nat) (v : Int32) : veq n (vP V i f v) (vP W i f v) := ⟨h.1, fun a c h1 h2 => by
  show (if a = i ∧ c = f then v else V.2 a c) = if a = i ∧ c = f then v else W.2 a c
  rw [h.2 a c h1 h2]⟩
theorem vNew_c {n : Nat} {V W : zVw} (h : veq n V W) (k d g e : Int32) : veq (n + 1) (vNew V n k d g e) (vNew W n k d g e) := ⟨fun j h1 h2 => by
  show (if j = 2 then nI (n + 1) else V.1 j) = if j = 2 then nI (n + 1) else W.1 j
  rw [h.1 j h1 h2], fun a c h1 h2 => by
  show (if a = n then pNew k d g e c else V.2 a c) = if a = n then pNew k d g e c else W.2 a c
  by_cases q : a = n
  · rw [if_pos q, if_pos q]
  · rw [if_neg q, if_neg q, h.2 a c (by omega) h2]⟩
theorem cV_zu5 (M : zM) (w k : Nat) (v : Int32) : cV (zu M 5 w 0 k v) w = vF (cV M w) k v := by
  unfold cV vF
  rw [zu_a (a := 5) (a' := 1) (by decide)]
  congr 1
  funext j
  by_cases q : j = k
  · subst q
    rw [zu_self, if_pos rfl]
  · rw [zu_f q, if_neg q]
theorem cV_zu1 (M : zM) (w i f : Nat) (v : Int32) : cV (zu M 1 w i f v) w = vP (cV M w) i f v := by
  unfold cV vP
  rw [zu_a (a := 1) (a' := 5) (by decide)]
  congr 1
  funext a c
  by_cases q : a = i ∧ c = f
  · obtain ⟨rfl, rfl⟩ := q
    rw [zu_self, if_pos ⟨rfl, rfl⟩]
  · rw [zu_ne _ _ (fun z => q ⟨z.2.2.1, z.2.2.2⟩), if_neg q]
theorem cFr_5 (M : zM) (w k : Nat) (v : Int32) : cFr M (zu M 5 w 0 k v) w := fun a x y f z => zu_ne _ _ (fun q => z (Or.inr ⟨Or.inr q.1, q.2.1⟩))
theorem cFr_1 (M : zM) (w i k : Nat) (v : Int32) : cFr M (zu M 1 w i k v) w := fun a x y f z => zu_ne _ _ (fun q => z (Or.inr ⟨Or.inl q.1, q.2.1⟩))
theorem mFr_zu (M : zM) {k : Nat} (hk : k < 65) (v : Int32) : mFr M (zu M 31 0 0 k v) := ⟨fun a h1 _ _ => zu_a h1, fun j hj => zu_f (by omega)⟩
theorem mV_zu (M : zM) {n k : Nat} (h1 : 2 ≤ k) (h2 : k ≤ 10) (v : Int32) : veq n (mV (zu M 31 0 0 (mm k) v) 31) (vF (mV M 31) k v) := by
  have hm := mm_lt h1 h2
  refine ⟨fun j g1 g2 => ?_, fun i f hi hf => zu_f (by omega)⟩
  show zu M 31 0 0 (mm k) v 31 0 0 (mm j) = if j = k then v else M 31 0 0 (mm j)
  by_cases q : j = k
  · rw [q, zu_self, if_pos rfl]
  · rw [if_neg q, zu_f]
    intro e
    apply q
    revert e
    rcases (show k = 2 ∨ k = 3 ∨ k = 4 ∨ k = 5 ∨ k = 6 ∨ k = 7 ∨ k = 8 ∨ k = 9 ∨ k = 10 by omega) with rfl | rfl | rfl | rfl | rfl | rfl | rfl | rfl | rfl <;> rcases (show j = 2 ∨ j = 3 ∨ j = 4 ∨ j = 5 ∨ j = 6 ∨ j = 7 ∨ j = 8 ∨ j = 9 ∨ j = 10 by omega) with rfl | rfl | rfl | rfl | rfl | rfl | rfl | rfl | rfl <;> decide
theorem mV_put (M : zM) {n i f : Nat} (hf : f < 7) (v : Int32) : veq n (mV (mput M i f v) 31) (vP (mV M 31) i f v) := by
  refine ⟨fun j g1 g2 => ?_, fun a c ha hc => ?_⟩
  · have hm := mm_lt g1 g2
    exact zu_f (by omega)
  · exact mput_at hf hc
theorem RR.step {M M1 M2 : zM} {n n' T : Nat} {ky ln : Nat → Nat} (hR : RR M n T ky ln) {V1 V2 : zVw} (hc : veq n' (cV M1 0) V1) (hcf : cFr M M1 0) (hm : veq n' (mV M2 31) V2) (hmf : mFr M1 M2) (hV : veq n' V1 V2) (hok : vOK n' V1) (h10 : V1.1 10 = M 5 0 0 10) (ht : tOK (V1.1 8)) : RR M2 n' T ky ln := by
  have hk : ∀ a x y f, ¬ (a = 12 ∨ a = 31 ∨ a = 42 ∨ a = 43 ∨ ((a = 1 ∨ a = 5) ∧ x = 0)) → M2 a x y f = M a x y f := fun a x y f z => by
    rw [hmf.1 a (fun q => z (by omega)) (fun q => z (by omega)) (fun q => z (by omega)), hcf a x y f (fun q => z (by omega))]
  have e1 : ∀ y f, M2 1 0 y f = M1 1 0 y f := fun y f => by rw [hmf.1 1 (by decide) (by decide) (by decide)]
  have e5 : ∀ f, M2 5 0 0 f = M1 5 0 0 f := fun f => by rw [hmf.1 5 (by decide) (by decide) (by decide)]
  have e31 : ∀ k, 65 ≤ k → M2 31 0 0 k = M 31 0 0 k := fun k hk' => by rw [hmf.2 k hk', hcf 31 0 0 k (by omega)]
  obtain ⟨a1, a2, a3, a4, a5, a6, a7⟩ := hR.1
  refine hR.rest ⟨?_, ?_, ?_, ?_, ?_, ?_, ?_⟩ (fun a x y f z => hk a x y f (fun q => z (by unfold scr; omega)))
  · rw [cV_on e1 e5]
    exact vOK_c hc.symm hok
  · rw [cV_on e1 e5]
    exact (hc.trans hV).trans hm.symm
  · exact a3.on (fun t f _ => hk 8 t 0 f (by omega)) (fun t f _ => hk 9 t 0 f (by omega))
  · intro t htT
    obtain ⟨b1, b2, b3⟩ := a4 t htT
    rw [e31 _ (by omega), e31 _ (by omega), hk 8 t 0 1 (by omega)]
    exact ⟨b1, b2, fun i hi => by rw [e31 _ (by omega), hk 9 t 0 i (by omega)]; exact b3 i hi⟩
  · rw [e5]
    exact (hc.1 10 (by decide) (by decide)).trans (h10.trans a5)
  · intro k hk'
    rw [hk 6 0 0 k (by omega)]
    exact a6 k hk'
  · rw [e5]
    rw [show M1 5 0 0 8 = V1.1 8 from hc.1 8 (by decide) (by decide)]
    exact ht
/-- the form of what the class and the reference do with a world -/
def cSt (S : Nat → zVw → Int32 → Nat → zVw → Prop) (n : Nat) (M : zM) (r : Int32) (M' : zM) : Prop := ∃ n' V', S n (cV M 0) r n' V' ∧ veq n' (cV M' 0) V' ∧ cFr M M' 0
def mSt (S : Nat → zVw → Int32 → Nat → zVw → Prop) (n : Nat) (M : zM) (r : Int32) (M' : zM) : Prop := ∃ n' V', S n (mV M 31) r n' V' ∧ veq n' (mV M' 31) V' ∧ mFr M M'
/-- what a step must be -/
def Sok (S : Nat → zVw → Int32 → Nat → zVw → Prop) : Prop := ∀ n V W, veq n V W → vOK n V → tOK (V.1 8) → ∀ r n' V' s m' W', S n V r n' V' → S n W s m' W' → r = s ∧ n' = m' ∧ veq n' V' W' ∧ vOK n' V' ∧ V'.1 10 = V.1 10 ∧ tOK (V'.1 8)
theorem cFr.rI {M M1 : zM} {n T : Nat} {ky ln : Nat → Nat} (h : rI M n T ky ln) (hf : cFr M M1 0) : rI M1 n T ky ln := h.sc (fun k => hf 31 0 0 k (by omega)) (hf.k (by decide)) (hf.k (by decide))
theorem St.ok {S : Nat → zVw → Int32 → Nat → zVw → Prop} (hS : Sok S) {M M1 M2 : zM} {n T : Nat} {ky ln : Nat → Nat} (hR : RR M n T ky ln) {r s : Int32} (h1 : cSt S n M r M1) (h2 : mSt S n M1 s M2) : s = r ∧ Rel M2 := by
  obtain ⟨n', V', a1, a2, a3⟩ := h1
  obtain ⟨m', W', b1, b2, b3⟩ := h2
  have e : mV M1 31 = mV M 31 := mV_on (fun k => a3 31 0 0 k (by omega))
  rw [e] at b1
  obtain ⟨rfl, rfl, c1, c2, c3, c4⟩ := hS n _ _ hR.1.2.1 hR.1.1 hR.1.2.2.2.2.2.2 _ _ _ _ _ _ a1 b1
  exact ⟨rfl, _, _, _, _, hR.step a2 a3 b2 b3 c1 c2 c3 c4⟩
theorem iin_nI {x : Int32} {n : Nat} (hn : n ≤ 100) (h : iin x 0 ((n : Int) - 1)) : ∃ i, i < n ∧ x = nI i := by
  unfold iin at h
  refine ⟨x.toInt.toNat, by omega, ?_⟩
  rw [zi_eq, nI_toInt (by omega)]
  omega
theorem nI_iin {i n : Nat} (hn : n ≤ 100) (h : i < n) : iin (nI i) 0 ((n : Int) - 1) := by
  unfold iin
  rw [nI_toInt (by omega)]
  omega
theorem nI_inj' {i j : Nat} (h1 : i < 2000) (h2 : j < 2000) (h : nI i = nI j) : i = j := by
  have e : (nI i).toInt = (nI j).toInt := by rw [h]
  rw [nI_toInt (by omega), nI_toInt (by omega)] at e
  omega
def rf (c : Int32) (n : Nat) (V : zVw) (r : Int32) (n' : Nat) (V' : zVw) : Prop := r = c ∧ n' = n ∧ V' = V
theorem rf.ok {c : Int32} {n : Nat} {V W : zVw} (h : veq n V W) (g : vOK n V) (t : tOK (V.1 8)) {r s : Int32} {n' m' : Nat} {V' W' : zVw} (h1 : rf c n V r n' V') (h2 : rf c n W s m' W') : r = s ∧ n' = m' ∧ veq n' V' W' ∧ vOK n' V' ∧ V'.1 10 = V.1 10 ∧ tOK (V'.1 8) := by
  obtain ⟨rfl, rfl, rfl⟩ := h1
  obtain ⟨rfl, rfl, rfl⟩ := h2
  exact ⟨rfl, rfl, h, g, rfl, t⟩
theorem zin_b {r x a c : Int32} {la lc : Int} (ha : a.toInt = la) (hc : c.toInt = lc) (h : (r = 1 ∧ zin x a c) ∨ (r = 0 ∧ ¬ zin x a c)) : zb r (iin x la lc) := by
  rw [zin_i, ha, hc] at h
  exact h
def Sseed (v : Int32) : Nat → zVw → Int32 → Nat → zVw → Prop := fun n V r n' V' => r = V.1 9 ∧ n' = n ∧ V' = vF V 9 v
theorem Sseed_ok (v : Int32) : Sok (Sseed v) := by
  intro n V W h g t r n' V' s m' W' h1 h2
  obtain ⟨rfl, rfl, rfl⟩ := h1
  obtain ⟨rfl, rfl, rfl⟩ := h2
  exact ⟨h.1 9 (by decide) (by decide), rfl, vF_c h 9 v, g, rfl, t⟩
set_option maxHeartbeats 4000000 in
set_option maxRecDepth 100000 in
theorem mX9_seed {l : Launch} {G : zG} {b : Nat} {M : zM} {n T : Nat} {ky ln : Nat → Nat} (hR : RR M n T ky ln) {v : Int32} : zMet l G b yX9_seed cX9_seed 3 (some .int) 0 zshL zshL [.ref (b + 0), .int v] M (zI (cSt (Sseed v) n M)) := by
  refine zMet.of (L0 := [some (.ref (b + 0)), some (.int v), none]) (by decide +kernel) (Nat.le_refl _) (Nat.le_refl _) (Nat.le_of_ble_eq_true rfl) (List.forall_mem_cons.mpr ⟨rfl, List.forall_mem_cons.mpr ⟨rfl, fun _ h => absurd h List.not_mem_nil⟩⟩) rfl (fun X C Al K => ?_)
  refine z_aload_n (pc := 0) C 0 dX9_seed_0 rfl rfl ?_
  refine z_getR (pc := 1) (r := adW 0) C dX9_seed_1 fX9_21 sh_0 rfl ?_
  refine z_getI (pc := 4) C dX9_seed_4 fX9_153 (shW lt0_14) rfl ?_
  refine z_istore_n (pc := 7) C 2 dX9_seed_7 rfl (by decide) rfl ?_
  refine z_aload_n (pc := 8) C 0 dX9_seed_8 rfl rfl ?_
  refine z_getR (pc := 9) (r := adW 0) C dX9_seed_9 fX9_21 sh_0 rfl ?_
  refine z_iload_n (pc := 12) C 1 dX9_seed_12 rfl rfl ?_
  refine z_putII (pc := 13) C dX9_seed_13 fX9_153 (shW lt0_14) rfl ?_
  refine z_iload_n (pc := 16) C 2 dX9_seed_16 rfl rfl ?_
  refine z_ireturn (pc := 17) C K dX9_seed_17 ?_
  exact ⟨_, rfl, n, vF (cV M 0) 9 v, ⟨rfl, rfl, rfl⟩, by rw [cV_zu5]; exact veq.rfl', cFr_5 _ _ _ _⟩

set_option maxHeartbeats 4000000 in
set_option maxRecDepth 100000 in
theorem mX10_seed {l : Launch} {G : zG} {b : Nat} {M : zM} {n T : Nat} {ky ln : Nat → Nat} (hI : rI M n T ky ln) {v : Int32} : zMet l G b yX10_seed cX10_seed 2 (some .int) 1 zshL zshL [.ref (b + 239), .int v] M (zI (mSt (Sseed v) n M)) := by
  refine zMet.of (L0 := [some (.ref (b + 239)), some (.int v)]) (by decide +kernel) (Nat.le_refl _) (Nat.le_refl _) (Nat.le_of_ble_eq_true rfl) (List.forall_mem_cons.mpr ⟨rfl, List.forall_mem_cons.mpr ⟨rfl, fun _ h => absurd h List.not_mem_nil⟩⟩) rfl (fun X C Al K => ?_)
  refine z_aload_n (pc := 0) C 0 dX10_seed_0 rfl rfl ?_
  refine z_iconst (pc := 1) (v := 0) C dX10_seed_1 rfl ?_
  refine z_iload_n (pc := 2) C 1 dX10_seed_2 rfl rfl ?_
  refine z_callVi (pc := 3) C dX10_seed_3 kX10_122 (mX10_becomes (k := 0) (by decide)) (by decide) sh_239 rfl rfl rfl (Nat.le_of_ble_eq_true rfl) (fun r3 M3 h3 => ?_)
  obtain ⟨rfl, e3⟩ := h3
  subst M3
  refine z_ireturn (pc := 6) C K dX10_seed_6 ?_
  exact ⟨_, rfl, n, vF (mV M 31) 9 v, ⟨rfl, rfl, rfl⟩, mV_zu M (k := 9) (by decide) (by decide) v, mFr_zu M (by decide) v⟩

def Sturns (x k : Int32) : Nat → zVw → Int32 → Nat → zVw → Prop := fun n V r n' V' => (¬ (iin x 0 ((n : Int) - 1) ∧ iin k 0 5) ∧ rf (-1000000001) n V r n' V') ∨ (iin k 0 5 ∧ ∃ i, i < n ∧ x = nI i ∧ r = V.2 i 0 ∧ n' = n ∧ V' = vP V i 0 k)
theorem vP_ok {n : Nat} {V : zVw} (g : vOK n V) {i f : Nat} {v : Int32} (h : i < n → pOK (fun c => if c = f then v else V.2 i c)) : vOK n (vP V i f v) := by
  refine ⟨g.1, g.2.1, fun j hj => ?_, g.2.2.2⟩
  by_cases q : j = i
  · subst q
    have e := h hj
    show pOK (fun c => if j = j ∧ c = f then v else V.2 j c)
    simpa using e
  · show pOK (fun c => if j = i ∧ c = f then v else V.2 j c)
    simp only [q, false_and, if_false]
    exact g.2.2.1 j hj
theorem Sturns_ok (x k : Int32) : Sok (Sturns x k) := by
  intro n V W h g t r n' V' s m' W' h1 h2
  have n8 := g.2.1
  rcases h1 with ⟨a, h1⟩ | ⟨a, i, hi, rfl, rfl, rfl, rfl⟩ <;> rcases h2 with ⟨c, h2⟩ | ⟨c, j, hj, d, rfl, rfl, rfl⟩
  · exact rf.ok h g t h1 h2
  · exact absurd ⟨by rw [d]; exact nI_iin (by omega) hj, c⟩ a
  · exact absurd ⟨nI_iin (by omega) hi, a⟩ c
  · obtain rfl := nI_inj' (by omega) (by omega) d
    refine ⟨h.2 i 0 hi (by decide), rfl, vP_c h i 0 k, vP_ok g (fun hi => ?_), rfl, t⟩
    have e := g.2.2.1 i hi
    refine ⟨a, ?_⟩
    simpa using e.2
set_option maxHeartbeats 4000000 in
set_option maxRecDepth 100000 in
theorem mX9_turns {l : Launch} {G : zG} {b : Nat} {M : zM} {n T : Nat} {ky ln : Nat → Nat} (hR : RR M n T ky ln) {x k : Int32} : zMet l G b yX9_turns cX9_turns 5 (some .int) 1 zshL zshL [.ref (b + 0), .int x, .int k] M (zI (cSt (Sturns x k) n M)) := by
  refine zMet.of (L0 := [some (.ref (b + 0)), some (.int x), some (.int k), none, none]) (by decide +kernel) (Nat.le_refl _) (Nat.le_refl _) (Nat.le_of_ble_eq_true rfl) (List.forall_mem_cons.mpr ⟨rfl, List.forall_mem_cons.mpr ⟨rfl, List.forall_mem_cons.mpr ⟨rfl, fun _ h => absurd h List.not_mem_nil⟩⟩⟩) rfl (fun X C Al K => ?_)
  refine z_aload_n (pc := 0) C 0 dX9_turns_0 rfl rfl ?_
  refine z_iload_n (pc := 1) C 1 dX9_turns_1 rfl rfl ?_
  refine z_callVi (pc := 2) C dX9_turns_2 kX9_96 (mX9_isOne hR.hn hR.n8) (by decide) sh_0 rfl rfl rfl (Nat.le_of_ble_eq_true rfl) (fun r2 M2 h2 => ?_)
  obtain ⟨h2, e2⟩ := h2
  subst M2
  refine z_if_eq (pc := 5) C 15 dX9_turns_5 (by decide) (fun c5 => ?_) (fun c5 => ?_)
  · refine z_ldc (pc := 15) C q2_96 dX9_turns_15 ?_
    refine z_ireturn (pc := 17) C K dX9_turns_17 ?_
    exact ⟨_, rfl, n, cV M 0, Or.inl ⟨fun q => h2.no c5 q.1, rfl, rfl, rfl⟩, veq.rfl', cFr.rfl'⟩
  · refine z_iload_n (pc := 8) C 2 dX9_turns_8 rfl rfl ?_
    refine z_callSi (pc := 9) C dX9_turns_9 kX9_77 mX9_isKind (by decide) rfl rfl (Nat.le_of_ble_eq_true rfl) (fun r9 M9 h9 => ?_)
    obtain ⟨h9, e9⟩ := h9
    subst M9
    refine z_if_ne (pc := 12) C 18 dX9_turns_12 (by decide) (fun c12 => ?_) (fun c12 => ?_)
    · obtain ⟨i, hi, rfl⟩ := iin_nI (by have := hR.n8; omega) (h2.yes c5)
      have hin : i < 8 := by have := hR.n8; omega
      refine z_aload_n (pc := 18) C 0 dX9_turns_18 rfl rfl ?_
      refine z_getR (pc := 19) (r := adW 0) C dX9_turns_19 fX9_21 sh_0 rfl ?_
      refine z_getR (pc := 22) (r := adW 0 + 1) C dX9_turns_22 fX9_99 (shW lt0_14) rfl ?_
      refine z_iload_n (pc := 25) C 1 dX9_turns_25 rfl rfl ?_
      refine z_aald (pc := 26) (r := adP 0 i) C dX9_turns_26 (shPa lt0_14) rfl rfl (pin hin) (pget hin) ?_
      refine z_astore_n (pc := 27) C 3 dX9_turns_27 rfl (by decide) rfl ?_
      refine z_aload_n (pc := 28) C 3 dX9_turns_28 rfl rfl ?_
      refine z_getI (pc := 29) C dX9_turns_29 fX9_103 (shP (okP_w lt0_14 hin)) rfl ?_
      refine z_istore (pc := 32) C 4 dX9_turns_32 (by decide) rfl ?_
      refine z_aload_n (pc := 34) C 3 dX9_turns_34 rfl rfl ?_
      refine z_iload_n (pc := 35) C 2 dX9_turns_35 rfl rfl ?_
      refine z_putII (pc := 36) C dX9_turns_36 fX9_103 (shP (okP_w lt0_14 hin)) rfl ?_
      refine z_iload (pc := 39) C 4 dX9_turns_39 rfl ?_
      refine z_ireturn (pc := 41) C K dX9_turns_41 ?_
      exact ⟨_, rfl, n, vP (cV M 0) i 0 k, Or.inr ⟨h9.yes c12, i, hi, rfl, rfl, rfl, rfl⟩, by rw [cV_zu1]; exact veq.rfl', cFr_1 _ _ _ _ _⟩
    · refine z_ldc (pc := 15) C q2_96 dX9_turns_15 ?_
      refine z_ireturn (pc := 17) C K dX9_turns_17 ?_
      exact ⟨_, rfl, n, cV M 0, Or.inl ⟨fun q => h9.no c12 q.2, rfl, rfl, rfl⟩, veq.rfl', cFr.rfl'⟩

theorem idx97 {i : Nat} (h : i < 8) : (9 : Int32) + 7 * nI i = nI (9 + 7 * i) := by
  rcases (show i = 0 ∨ i = 1 ∨ i = 2 ∨ i = 3 ∨ i = 4 ∨ i = 5 ∨ i = 6 ∨ i = 7 by omega) with rfl | rfl | rfl | rfl | rfl | rfl | rfl | rfl <;> decide
theorem idx97f {i f : Nat} (h : i < 8) (hf : f < 7) : (9 : Int32) + 7 * nI i + nI f = nI (9 + 7 * i + f) := by
  rw [idx97 h]
  rcases (show f = 0 ∨ f = 1 ∨ f = 2 ∨ f = 3 ∨ f = 4 ∨ f = 5 ∨ f = 6 by omega) with rfl | rfl | rfl | rfl | rfl | rfl | rfl <;> rcases (show i = 0 ∨ i = 1 ∨ i = 2 ∨ i = 3 ∨ i = 4 ∨ i = 5 ∨ i = 6 ∨ i = 7 by omega) with rfl | rfl | rfl | rfl | rfl | rfl | rfl | rfl <;> decide
set_option maxHeartbeats 4000000 in
set_option maxRecDepth 100000 in
theorem mX10_turns {l : Launch} {G : zG} {b : Nat} {M : zM} {n T : Nat} {ky ln : Nat → Nat} (hI : rI M n T ky ln) {x k : Int32} : zMet l G b yX10_turns cX10_turns 3 (some .int) 2 zshL zshL [.ref (b + 239), .int x, .int k] M (zI (mSt (Sturns x k) n M)) := by
  refine zMet.of (L0 := [some (.ref (b + 239)), some (.int x), some (.int k)]) (by decide +kernel) (Nat.le_refl _) (Nat.le_refl _) (Nat.le_of_ble_eq_true rfl) (List.forall_mem_cons.mpr ⟨rfl, List.forall_mem_cons.mpr ⟨rfl, List.forall_mem_cons.mpr ⟨rfl, fun _ h => absurd h List.not_mem_nil⟩⟩⟩) rfl (fun X C Al K => ?_)
  refine z_aload_n (pc := 0) C 0 dX10_turns_0 rfl rfl ?_
  refine z_iload_n (pc := 1) C 1 dX10_turns_1 rfl rfl ?_
  refine z_callVi (pc := 2) C dX10_turns_2 kX10_107 (mX10_isOne hI.1.1 hI.1.2.1) (by decide) sh_239 rfl rfl rfl (Nat.le_of_ble_eq_true rfl) (fun r2 M2 h2 => ?_)
  obtain ⟨h2, e2⟩ := h2
  subst M2
  refine z_if_eq (pc := 5) C 32 dX10_turns_5 (by decide) (fun c5 => ?_) (fun c5 => ?_)
  · refine z_ldc (pc := 32) C q5_48 dX10_turns_32 ?_
    refine z_ireturn (pc := 34) C K dX10_turns_34 ?_
    exact ⟨_, rfl, n, mV M 31, Or.inl ⟨fun q => h2.no c5 q.1, rfl, rfl, rfl⟩, veq.rfl', mFr.rfl'⟩
  · refine z_iload_n (pc := 8) C 2 dX10_turns_8 rfl rfl ?_
    refine z_iconst (pc := 9) (v := 0) C dX10_turns_9 rfl ?_
    refine z_iconst (pc := 10) (v := 5) C dX10_turns_10 rfl ?_
    refine z_callSi (pc := 11) C dX10_turns_11 kX10_78 mX10_in (by decide) rfl rfl (Nat.le_of_ble_eq_true rfl) (fun r11 M11 h11 => ?_)
    obtain ⟨h11, e11⟩ := h11
    subst M11
    replace h11 : zb r11 (iin k (0) (5)) := zin_b (by decide) (by decide) h11
    refine z_if_eq (pc := 14) C 32 dX10_turns_14 (by decide) (fun c14 => ?_) (fun c14 => ?_)
    · refine z_ldc (pc := 32) C q5_48 dX10_turns_32 ?_
      refine z_ireturn (pc := 34) C K dX10_turns_34 ?_
      exact ⟨_, rfl, n, mV M 31, Or.inl ⟨fun q => h11.no c14 q.2, rfl, rfl, rfl⟩, veq.rfl', mFr.rfl'⟩
    · obtain ⟨i, hi, rfl⟩ := iin_nI (by have := hI.1.2.1; omega) (h2.yes c5)
      have hin : i < 8 := by have := hI.1.2.1; omega
      refine z_aload_n (pc := 17) C 0 dX10_turns_17 rfl rfl ?_
      refine z_bipush (pc := 18) (v := 9) C dX10_turns_18 rfl ?_
      refine z_bipush (pc := 20) (v := 7) C dX10_turns_20 rfl ?_
      refine z_iload_n (pc := 22) C 1 dX10_turns_22 rfl rfl ?_
      refine z_imul (pc := 23) C dX10_turns_23 ?_
      refine z_iadd (pc := 24) C dX10_turns_24 ?_
      rw [idx97 hin]
      refine z_iload_n (pc := 25) C 2 dX10_turns_25 rfl rfl ?_
      refine z_callVi (pc := 26) C dX10_turns_26 kX10_122 (mX10_becomes (k := 9 + 7 * i) (by omega)) (by decide) sh_239 rfl rfl rfl (Nat.le_of_ble_eq_true rfl) (fun r26 M26 h26 => ?_)
      obtain ⟨rfl, e26⟩ := h26
      subst M26
      refine z_goto (pc := 29) C 34 dX10_turns_29 (by decide) ?_
      refine z_ireturn (pc := 34) C K dX10_turns_34 ?_
      exact ⟨_, rfl, n, vP (mV M 31) i 0 k, Or.inr ⟨h11.yes c14, i, hi, rfl, rfl, rfl, rfl⟩, mV_put M (i := i) (f := 0) (by decide) k, mFr_zu M (by omega) k⟩

def Sset (x t v : Int32) : Nat → zVw → Int32 → Nat → zVw → Prop := fun n V r n' V' => (¬ (iin x 0 ((n : Int) - 1) ∧ pMay t v) ∧ rf (-1000000001) n V r n' V') ∨ (pMay t v ∧ ∃ i f, i < n ∧ f < 7 ∧ x = nI i ∧ t = nI f ∧ r = V.2 i f ∧ n' = n ∧ V' = vP V i f v)
theorem pMay_f {t v : Int32} (h : pMay t v) : t = 1 ∨ t = 2 ∨ t = 3 ∨ t = 6 := by
  unfold pMay at h
  simp only [zi_eq, i1, i2, i3, i6]
  omega
theorem pOK_put {q : Nat → Int32} (h : pOK q) {t v : Int32} (m : pMay t v) {f : Nat} (hf : f < 7) (e : t = nI f) : pOK (fun c => if c = f then v else q c) := by
  have ef : t.toInt = f := by rw [e]; exact nI_toInt (by omega)
  obtain ⟨q0, q1, q2, q3, q4, q5, q6⟩ := h
  unfold pMay iin at m
  rcases (show f = 1 ∨ f = 2 ∨ f = 3 ∨ f = 6 by omega) with rfl | rfl | rfl | rfl
  · exact ⟨q0, by simp; omega, q2, q3, q4, q5, q6⟩
  · exact ⟨q0, q1, by simp; omega, q3, q4, q5, q6⟩
  · exact ⟨q0, q1, q2, by simp; omega, q4, q5, q6⟩
  · refine ⟨q0, q1, q2, q3, q4, q5, ?_⟩
    simp only [zi_eq, i0, i1, if_true]
    omega
theorem Sset_ok (x t v : Int32) : Sok (Sset x t v) := by
  intro n V W h g tt r n' V' s m' W' h1 h2
  have n8 := g.2.1
  rcases h1 with ⟨a, h1⟩ | ⟨a, i, f, hi, hf, rfl, rfl, rfl, rfl, rfl⟩ <;> rcases h2 with ⟨c, h2⟩ | ⟨c, j, f', hj, hf', d, d', rfl, rfl, rfl⟩
  · exact rf.ok h g tt h1 h2
  · exact absurd ⟨by rw [d]; exact nI_iin (by omega) hj, c⟩ a
  · exact absurd ⟨nI_iin (by omega) hi, a⟩ c
  · obtain rfl := nI_inj' (by omega) (by omega) d
    obtain rfl := nI_inj' (by omega) (by omega) d'
    exact ⟨h.2 i f hi hf, rfl, vP_c h i f v, vP_ok g (fun hi => pOK_put (g.2.2.1 i hi) a hf rfl), rfl, tt⟩
theorem b01_id {x : Int32} (h : x = 0 ∨ x = 1) : b01 x = x := by
  rcases h with rfl | rfl <;> decide
set_option maxHeartbeats 4000000 in
set_option maxRecDepth 100000 in
theorem mX9_set {l : Launch} {G : zG} {b : Nat} {M : zM} {n T : Nat} {ky ln : Nat → Nat} (hR : RR M n T ky ln) {x t v : Int32} : zMet l G b yX9_set cX9_set 6 (some .int) 1 zshL zshL [.ref (b + 0), .int x, .int t, .int v] M (zI (cSt (Sset x t v) n M)) := by
  refine zMet.of (L0 := [some (.ref (b + 0)), some (.int x), some (.int t), some (.int v), none, none]) (by decide +kernel) (Nat.le_refl _) (Nat.le_refl _) (Nat.le_of_ble_eq_true rfl) (List.forall_mem_cons.mpr ⟨rfl, List.forall_mem_cons.mpr ⟨rfl, List.forall_mem_cons.mpr ⟨rfl, List.forall_mem_cons.mpr ⟨rfl, fun _ h => absurd h List.not_mem_nil⟩⟩⟩⟩) rfl (fun X C Al K => ?_)
  refine z_aload_n (pc := 0) C 0 dX9_set_0 rfl rfl ?_
  refine z_iload_n (pc := 1) C 1 dX9_set_1 rfl rfl ?_
  refine z_callVi (pc := 2) C dX9_set_2 kX9_96 (mX9_isOne hR.hn hR.n8) (by decide) sh_0 rfl rfl rfl (Nat.le_of_ble_eq_true rfl) (fun r2 M2 h2 => ?_)
  obtain ⟨h2, e2⟩ := h2
  subst M2
  refine z_if_eq (pc := 5) C 16 dX9_set_5 (by decide) (fun c5 => ?_) (fun c5 => ?_)
  · refine z_ldc (pc := 16) C q2_96 dX9_set_16 ?_
    refine z_ireturn (pc := 18) C K dX9_set_18 ?_
    exact ⟨_, rfl, n, cV M 0, Or.inl ⟨fun q => h2.no c5 q.1, rfl, rfl, rfl⟩, veq.rfl', cFr.rfl'⟩
  · refine z_iload_n (pc := 8) C 2 dX9_set_8 rfl rfl ?_
    refine z_iload_n (pc := 9) C 3 dX9_set_9 rfl rfl ?_
    refine z_callSi (pc := 10) C dX9_set_10 kX9_83 mX0_mayBe (by decide) rfl rfl (Nat.le_of_ble_eq_true rfl) (fun r10 M10 h10 => ?_)
    obtain ⟨h10, e10⟩ := h10
    subst M10
    refine z_if_ne (pc := 13) C 19 dX9_set_13 (by decide) (fun c13 => ?_) (fun c13 => ?_)
    · obtain ⟨i, hi, rfl⟩ := iin_nI (by have := hR.n8; omega) (h2.yes c5)
      have hin : i < 8 := by have := hR.n8; omega
      refine z_aload_n (pc := 19) C 0 dX9_set_19 rfl rfl ?_
      refine z_getR (pc := 20) (r := adW 0) C dX9_set_20 fX9_21 sh_0 rfl ?_
      refine z_getR (pc := 23) (r := adW 0 + 1) C dX9_set_23 fX9_99 (shW lt0_14) rfl ?_
      refine z_iload_n (pc := 26) C 1 dX9_set_26 rfl rfl ?_
      refine z_aald (pc := 27) (r := adP 0 i) C dX9_set_27 (shPa lt0_14) rfl rfl (pin hin) (pget hin) ?_
      refine z_astore (pc := 28) C 4 dX9_set_28 (by decide) rfl ?_
      refine z_aload (pc := 30) C 4 dX9_set_30 rfl ?_
      refine z_iload_n (pc := 32) C 2 dX9_set_32 rfl rfl ?_
      refine z_callVi (pc := 33) C dX9_set_33 kX9_127 (mX0_trait (okP_w lt0_14 hin)) (by decide) (shP (okP_w lt0_14 hin)) rfl rfl rfl (Nat.le_of_ble_eq_true rfl) (fun r33 M33 h33 => ?_)
      obtain ⟨rfl, e33⟩ := h33
      subst M33
      refine z_istore (pc := 36) C 5 dX9_set_36 (by decide) rfl ?_
      refine z_aload (pc := 38) C 4 dX9_set_38 rfl ?_
      refine z_iload_n (pc := 40) C 2 dX9_set_40 rfl rfl ?_
      refine z_iload_n (pc := 41) C 3 dX9_set_41 rfl rfl ?_
      refine z_callVv (pc := 42) C dX9_set_42 kX9_137 (mX0_change (okP_w lt0_14 hin)) (by decide) (shP (okP_w lt0_14 hin)) rfl rfl rfl (Nat.le_of_ble_eq_true rfl) (fun M42 h42 => ?_)
      subst M42
      refine z_iload (pc := 45) C 5 dX9_set_45 rfl ?_
      refine z_ireturn (pc := 47) C K dX9_set_47 ?_
      have hm := h10.yes c13
      have h6 := (hR.ok hi).2.2.2.2.2.2
      rcases pMay_f hm with rfl | rfl | rfl | rfl
      · exact ⟨_, rfl, n, vP (cV M 0) i 1 v, Or.inr ⟨hm, i, 1, hi, by decide, rfl, rfl, rfl, rfl, rfl⟩, by show veq n (cV (zu M 1 0 i 1 v) 0) _; rw [cV_zu1]; exact veq.rfl', cFr_1 _ _ _ _ _⟩
      · exact ⟨_, rfl, n, vP (cV M 0) i 2 v, Or.inr ⟨hm, i, 2, hi, by decide, rfl, rfl, rfl, rfl, rfl⟩, by show veq n (cV (zu M 1 0 i 2 v) 0) _; rw [cV_zu1]; exact veq.rfl', cFr_1 _ _ _ _ _⟩
      · exact ⟨_, rfl, n, vP (cV M 0) i 3 v, Or.inr ⟨hm, i, 3, hi, by decide, rfl, rfl, rfl, rfl, rfl⟩, by show veq n (cV (zu M 1 0 i 3 v) 0) _; rw [cV_zu1]; exact veq.rfl', cFr_1 _ _ _ _ _⟩
      · have ev : (if v = 1 then 1 else 0 : Int32) = v := by
          unfold pMay iin at hm
          simp only [i6] at hm
          rcases (show v = 0 ∨ v = 1 by simp only [zi_eq, i0, i1]; omega) with rfl | rfl <;> decide
        refine ⟨_, rfl, n, vP (cV M 0) i 6 v, Or.inr ⟨hm, i, 6, hi, by decide, rfl, rfl, b01_id h6, rfl, rfl⟩, ?_, ?_⟩
        · show veq n (cV (zu M 1 0 i 6 (if v = 1 then 1 else 0)) 0) _
          rw [ev, cV_zu1]
          exact veq.rfl'
        · show cFr M (zu M 1 0 i 6 (if v = 1 then 1 else 0)) 0
          exact cFr_1 _ _ _ _ _
    · refine z_ldc (pc := 16) C q2_96 dX9_set_16 ?_
      refine z_ireturn (pc := 18) C K dX9_set_18 ?_
      exact ⟨_, rfl, n, cV M 0, Or.inl ⟨fun q => h10.no c13 q.2, rfl, rfl, rfl⟩, veq.rfl', cFr.rfl'⟩

set_option maxHeartbeats 4000000 in
set_option maxRecDepth 100000 in
theorem mX10_set {l : Launch} {G : zG} {b : Nat} {M : zM} {n T : Nat} {ky ln : Nat → Nat} (hI : rI M n T ky ln) {x t v : Int32} : zMet l G b yX10_set cX10_set 4 (some .int) 2 zshL zshL [.ref (b + 239), .int x, .int t, .int v] M (zI (mSt (Sset x t v) n M)) := by
  refine zMet.of (L0 := [some (.ref (b + 239)), some (.int x), some (.int t), some (.int v)]) (by decide +kernel) (Nat.le_refl _) (Nat.le_refl _) (Nat.le_of_ble_eq_true rfl) (List.forall_mem_cons.mpr ⟨rfl, List.forall_mem_cons.mpr ⟨rfl, List.forall_mem_cons.mpr ⟨rfl, List.forall_mem_cons.mpr ⟨rfl, fun _ h => absurd h List.not_mem_nil⟩⟩⟩⟩) rfl (fun X C Al K => ?_)
  refine z_aload_n (pc := 0) C 0 dX10_set_0 rfl rfl ?_
  refine z_iload_n (pc := 1) C 1 dX10_set_1 rfl rfl ?_
  refine z_callVi (pc := 2) C dX10_set_2 kX10_107 (mX10_isOne hI.1.1 hI.1.2.1) (by decide) sh_239 rfl rfl rfl (Nat.le_of_ble_eq_true rfl) (fun r2 M2 h2 => ?_)
  obtain ⟨h2, e2⟩ := h2
  subst M2
  refine z_if_eq (pc := 5) C 38 dX10_set_5 (by decide) (fun c5 => ?_) (fun c5 => ?_)
  · refine z_ldc (pc := 38) C q5_48 dX10_set_38 ?_
    refine z_ireturn (pc := 40) C K dX10_set_40 ?_
    exact ⟨_, rfl, n, mV M 31, Or.inl ⟨fun q => h2.no c5 q.1, rfl, rfl, rfl⟩, veq.rfl', mFr.rfl'⟩
  · refine z_iload_n (pc := 8) C 2 dX10_set_8 rfl rfl ?_
    refine z_iconst (pc := 9) (v := 1) C dX10_set_9 rfl ?_
    refine z_iconst (pc := 10) (v := 3) C dX10_set_10 rfl ?_
    refine z_callSi (pc := 11) C dX10_set_11 kX10_78 mX10_in (by decide) rfl rfl (Nat.le_of_ble_eq_true rfl) (fun r11 M11 h11 => ?_)
    obtain ⟨h11, e11⟩ := h11
    subst M11
    replace h11 : zb r11 (iin t (1) (3)) := zin_b (by decide) (by decide) h11
    refine z_if_ne (pc := 14) C 23 dX10_set_14 (by decide) (fun c14 => ?_) (fun c14 => ?_)
    · refine z_iload_n (pc := 23) C 3 dX10_set_23 rfl rfl ?_
      refine z_iload_n (pc := 24) C 2 dX10_set_24 rfl rfl ?_
      refine z_callSi (pc := 25) C dX10_set_25 kX10_125 mX10_leastOf (by decide) rfl rfl (Nat.le_of_ble_eq_true rfl) (fun r25 M25 h25 => ?_)
      obtain ⟨rfl, e25⟩ := h25
      subst M25
      refine z_iload_n (pc := 28) C 2 dX10_set_28 rfl rfl ?_
      refine z_callSi (pc := 29) C dX10_set_29 kX10_128 mX10_mostOf (by decide) rfl rfl (Nat.le_of_ble_eq_true rfl) (fun r29 M29 h29 => ?_)
      obtain ⟨rfl, e29⟩ := h29
      subst M29
      refine z_callSi (pc := 32) C dX10_set_32 kX10_78 mX10_in (by decide) rfl rfl (Nat.le_of_ble_eq_true rfl) (fun r32 M32 h32 => ?_)
      obtain ⟨h32, e32⟩ := h32
      subst M32
      replace h32 := zin_b rfl rfl h32
      refine z_if_ne (pc := 35) C 41 dX10_set_35 (by decide) (fun c35 => ?_) (fun c35 => ?_)
      · obtain ⟨i, hi, rfl⟩ := iin_nI (by have := hI.1.2.1; omega) (h2.yes c5)
        have hin : i < 8 := by have := hI.1.2.1; omega
        have hm : pMay t v := by
          have a := h32.yes c35
          have w1 : ((t.toInt = 1 ∨ t.toInt = 2 ∨ t.toInt = 3) ∨ t.toInt = 6) := by
            have q := h11.yes c14
            unfold iin at q
            omega
          unfold pMay
          simp only [zi_eq, i1, i2, i3] at a
          rcases w1 with (w | w | w) | w <;> simp only [w] at a <;> simp at a <;> unfold iin at a <;> unfold iin <;> omega
        obtain ⟨f, hf, rfl⟩ : ∃ f, f < 7 ∧ t = nI f := by
          rcases pMay_f hm with rfl | rfl | rfl | rfl
          · exact ⟨1, by decide, rfl⟩
          · exact ⟨2, by decide, rfl⟩
          · exact ⟨3, by decide, rfl⟩
          · exact ⟨6, by decide, rfl⟩
        refine z_aload_n (pc := 41) C 0 dX10_set_41 rfl rfl ?_
        refine z_bipush (pc := 42) (v := 9) C dX10_set_42 rfl ?_
        refine z_bipush (pc := 44) (v := 7) C dX10_set_44 rfl ?_
        refine z_iload_n (pc := 46) C 1 dX10_set_46 rfl rfl ?_
        refine z_imul (pc := 47) C dX10_set_47 ?_
        refine z_iadd (pc := 48) C dX10_set_48 ?_
        refine z_iload_n (pc := 49) C 2 dX10_set_49 rfl rfl ?_
        refine z_iadd (pc := 50) C dX10_set_50 ?_
        rw [idx97f hin hf]
        refine z_iload_n (pc := 51) C 3 dX10_set_51 rfl rfl ?_
        refine z_callVi (pc := 52) C dX10_set_52 kX10_122 (mX10_becomes (k := 9 + 7 * i + f) (by omega)) (by decide) sh_239 rfl rfl rfl (Nat.le_of_ble_eq_true rfl) (fun r52 M52 h52 => ?_)
        obtain ⟨rfl, e52⟩ := h52
        subst M52
        refine z_ireturn (pc := 55) C K dX10_set_55 ?_
        exact ⟨_, rfl, n, vP (mV M 31) i f v, Or.inr ⟨hm, i, f, hi, hf, rfl, rfl, rfl, rfl, rfl⟩, mV_put M (i := i) hf v, mFr_zu M (by omega) v⟩
      · refine z_ldc (pc := 38) C q5_48 dX10_set_38 ?_
        refine z_ireturn (pc := 40) C K dX10_set_40 ?_
        have hno : ¬ pMay t v := by
          intro m
          apply h32.no c35
          unfold pMay at m
          rcases m with ⟨w, m⟩ | ⟨w, m⟩ | ⟨w, m⟩ | ⟨w, m⟩ <;> unfold iin at m <;> unfold iin <;> simp only [zi_eq, i1, i2, i3, w] <;> simp [i0, i1, i9, i20, i99, im20] <;> omega
        exact ⟨_, rfl, n, mV M 31, Or.inl ⟨fun q => hno q.2, rfl, rfl, rfl⟩, veq.rfl', mFr.rfl'⟩
    · refine z_iload_n (pc := 17) C 2 dX10_set_17 rfl rfl ?_
      refine z_bipush (pc := 18) (v := 6) C dX10_set_18 rfl ?_
      refine z_icmp_ne (pc := 20) C 38 dX10_set_20 (by decide) (fun c20 => ?_) (fun c20 => ?_)
      · refine z_ldc (pc := 38) C q5_48 dX10_set_38 ?_
        refine z_ireturn (pc := 40) C K dX10_set_40 ?_
        have hno : ¬ pMay t v := by
          have q := h11.no c14
          simp only [zi_eq, i6] at c20
          unfold iin at q
          unfold pMay
          omega
        exact ⟨_, rfl, n, mV M 31, Or.inl ⟨fun q => hno q.2, rfl, rfl, rfl⟩, veq.rfl', mFr.rfl'⟩
      · refine z_iload_n (pc := 23) C 3 dX10_set_23 rfl rfl ?_
        refine z_iload_n (pc := 24) C 2 dX10_set_24 rfl rfl ?_
        refine z_callSi (pc := 25) C dX10_set_25 kX10_125 mX10_leastOf (by decide) rfl rfl (Nat.le_of_ble_eq_true rfl) (fun r25 M25 h25 => ?_)
        obtain ⟨rfl, e25⟩ := h25
        subst M25
        refine z_iload_n (pc := 28) C 2 dX10_set_28 rfl rfl ?_
        refine z_callSi (pc := 29) C dX10_set_29 kX10_128 mX10_mostOf (by decide) rfl rfl (Nat.le_of_ble_eq_true rfl) (fun r29 M29 h29 => ?_)
        obtain ⟨rfl, e29⟩ := h29
        subst M29
        refine z_callSi (pc := 32) C dX10_set_32 kX10_78 mX10_in (by decide) rfl rfl (Nat.le_of_ble_eq_true rfl) (fun r32 M32 h32 => ?_)
        obtain ⟨h32, e32⟩ := h32
        subst M32
        replace h32 := zin_b rfl rfl h32
        refine z_if_ne (pc := 35) C 41 dX10_set_35 (by decide) (fun c35 => ?_) (fun c35 => ?_)
        · obtain ⟨i, hi, rfl⟩ := iin_nI (by have := hI.1.2.1; omega) (h2.yes c5)
          have hin : i < 8 := by have := hI.1.2.1; omega
          have hm : pMay t v := by
            have a := h32.yes c35
            have w1 : ((t.toInt = 1 ∨ t.toInt = 2 ∨ t.toInt = 3) ∨ t.toInt = 6) := by
              exact Or.inr (by simp only [zi_eq, i6] at c20; exact c20)
            unfold pMay
            simp only [zi_eq, i1, i2, i3] at a
            rcases w1 with (w | w | w) | w <;> simp only [w] at a <;> simp at a <;> unfold iin at a <;> unfold iin <;> omega
          obtain ⟨f, hf, rfl⟩ : ∃ f, f < 7 ∧ t = nI f := by
            rcases pMay_f hm with rfl | rfl | rfl | rfl
            · exact ⟨1, by decide, rfl⟩
            · exact ⟨2, by decide, rfl⟩
            · exact ⟨3, by decide, rfl⟩
            · exact ⟨6, by decide, rfl⟩
          refine z_aload_n (pc := 41) C 0 dX10_set_41 rfl rfl ?_
          refine z_bipush (pc := 42) (v := 9) C dX10_set_42 rfl ?_
          refine z_bipush (pc := 44) (v := 7) C dX10_set_44 rfl ?_
          refine z_iload_n (pc := 46) C 1 dX10_set_46 rfl rfl ?_
          refine z_imul (pc := 47) C dX10_set_47 ?_
          refine z_iadd (pc := 48) C dX10_set_48 ?_
          refine z_iload_n (pc := 49) C 2 dX10_set_49 rfl rfl ?_
          refine z_iadd (pc := 50) C dX10_set_50 ?_
          rw [idx97f hin hf]
          refine z_iload_n (pc := 51) C 3 dX10_set_51 rfl rfl ?_
          refine z_callVi (pc := 52) C dX10_set_52 kX10_122 (mX10_becomes (k := 9 + 7 * i + f) (by omega)) (by decide) sh_239 rfl rfl rfl (Nat.le_of_ble_eq_true rfl) (fun r52 M52 h52 => ?_)
          obtain ⟨rfl, e52⟩ := h52
          subst M52
          refine z_ireturn (pc := 55) C K dX10_set_55 ?_
          exact ⟨_, rfl, n, vP (mV M 31) i f v, Or.inr ⟨hm, i, f, hi, hf, rfl, rfl, rfl, rfl, rfl⟩, mV_put M (i := i) hf v, mFr_zu M (by omega) v⟩
        · refine z_ldc (pc := 38) C q5_48 dX10_set_38 ?_
          refine z_ireturn (pc := 40) C K dX10_set_40 ?_
          have hno : ¬ pMay t v := by
            intro m
            apply h32.no c35
            unfold pMay at m
            rcases m with ⟨w, m⟩ | ⟨w, m⟩ | ⟨w, m⟩ | ⟨w, m⟩ <;> unfold iin at m <;> unfold iin <;> simp only [zi_eq, i1, i2, i3, w] <;> simp [i0, i1, i9, i20, i99, im20] <;> omega
          exact ⟨_, rfl, n, mV M 31, Or.inl ⟨fun q => hno q.2, rfl, rfl, rfl⟩, veq.rfl', mFr.rfl'⟩
