/-! CONSTRUCTORS: the small ones -/
theorem kne1 {a a' i i' j j' : Nat} (h : a ≠ a') : ((a, i, j) : Nat × Nat × Nat) ≠ (a', i', j') := fun q => h (congrArg (fun z => z.1) q)
theorem kne2 {a a' i i' j j' : Nat} (h : i ≠ i') : ((a, i, j) : Nat × Nat × Nat) ≠ (a', i', j') := fun q => h (congrArg (fun z => z.2.1) q)
theorem kne3 {a a' i i' j j' : Nat} (h : j ≠ j') : ((a, i, j) : Nat × Nat × Nat) ≠ (a', i', j') := fun q => h (congrArg (fun z => z.2.2) q)
theorem zrn (n k : Nat) : (List.replicate n (none : Option Nat)).getD k none = none := by
  rw [List.getD_eq_getElem?_getD, List.getElem?_replicate]
  split <;> rfl
theorem zrn_all {rs : List (Option Nat)} (h : ∀ x ∈ rs, x = none) (k : Nat) : rs.getD k none = none := by
  rw [List.getD_eq_getElem?_getD]
  cases e : rs[k]? with
  | none => rfl
  | some x => rw [h x (List.mem_of_getElem? e)]; rfl
theorem zcl_ne {M : zM} {q : Nat × Nat × Nat} {a i j f : Nat} (h : ¬ (a = q.1 ∧ i = q.2.1 ∧ j = q.2.2)) : zclr M q a i j f = M a i j f := if_neg h
theorem zcl_s {M : zM} {a i j f : Nat} : zclr M (a, i, j) a i j f = 0 := if_pos ⟨rfl, rfl, rfl⟩
set_option maxHeartbeats 1600000 in
set_option maxRecDepth 100000 in
theorem mX0_init {l : Launch} {G : zG} {b : Nat} {M : zM} {sh : List zS} {a : Nat} : zMk l G b yX0_init cX0_init 1 1 (sh) (sh) [.ref a] M (fun M' => M' = M) := by
  refine zMk.of (L0 := [some (.ref a)]) (by decide +kernel) rfl (Nat.le_refl _) (Nat.le_refl _) (Nat.le_of_ble_eq_true rfl) (List.forall_mem_cons.mpr ⟨rfl, fun _ h => absurd h List.not_mem_nil⟩) rfl (fun X C I Al K => ?_)
  refine z_aload_n (pc := 0) C 0 dX0_init_0 rfl rfl ?_
  refine z_obj (pc := 1) C (by decide) dX0_init_1 q1_84 (Nat.le_of_ble_eq_true rfl) ?_
  refine z_return (pc := 4) C K dX0_init_4 ?_
  exact ⟨rfl, rfl⟩

def txB (n t : Nat) : List zS := [((8, t, 0), .inl (5, [none, none, none, some (some (n + 1))])), ((9, t, 0), .inr (.inl (0, 96)))]
def stB (n s : Nat) : List zS := [((3, s, 0), .inl (2, [none, none, some (some (n + 1))])), ((4, s, 0), .inr (.inl (0, 24)))]
def tpB (n : Nat) : List zS := [((19, 0, 0), .inl (4, [some (some (n + 1)), none])), ((20, 0, 0), .inr (.inl (0, 96)))]
set_option maxHeartbeats 1600000 in
set_option maxRecDepth 100000 in
theorem mX5_init {l : Launch} {G : zG} {b : Nat} {M : zM} {sh0 : List zS} {n : Nat} (hn : n = sh0.length) {t : Nat} (hlen : sh0.length + 2 ≤ 262) (hfr : ∀ x ∈ sh0, x.1 ≠ (9, t, 0)) : zMk l G b yX5_init cX5_init 1 1 (sh0 ++ [((8, t, 0), .inl (5, [none, none, none, some none]))]) (sh0 ++ txB n t) [.ref (b + n)] M (fun M' => ∀ a i j f, ¬ ((a = 8 ∨ a = 9) ∧ i = t) → M' a i j f = M a i j f) := by
  subst hn
  refine zMk.of (L0 := [some (.ref (b + (sh0.length + 0)))]) (by decide +kernel) rfl (by rw [List.length_append, List.length_append]; exact Nat.add_le_add_left (Nat.le_of_ble_eq_true rfl) _) (by rw [zsl_app, zsl_app]; exact Nat.add_le_add_left (by simp [zsl, zsz, txB]) _) (Nat.le_of_ble_eq_true rfl) (List.forall_mem_cons.mpr ⟨rfl, fun _ h => absurd h List.not_mem_nil⟩) rfl (fun X C I Al K => ?_)
  have A2 : zAl2 X sh0 2 100 := by
    have h := zAl2.of Al (Nat.le_of_ble_eq_true rfl) (by simp [zsl, zsz, txB])
    rw [show zsl (txB sh0.length t) = 100 by simp [zsl, zsz, txB]] at h
    exact h
  refine z_aload_n (pc := 0) C 0 dX5_init_0 rfl rfl ?_
  refine z_obj (pc := 1) C (by decide) dX5_init_1 q1_40 (Nat.le_of_ble_eq_true rfl) ?_
  refine z_aload_n (pc := 4) C 0 dX5_init_4 rfl rfl ?_
  refine z_iconst (pc := 5) (v := 0) C dX5_init_5 rfl ?_
  refine z_putII (pc := 6) C dX5_init_6 fX5_9 (zg (j := 0) rfl) rfl ?_
  refine z_aload_n (pc := 9) C 0 dX5_init_9 rfl rfl ?_
  refine z_iconst (pc := 10) (v := 0) C dX5_init_10 rfl ?_
  refine z_putII (pc := 11) C dX5_init_11 fX5_15 (zg (j := 0) rfl) rfl ?_
  refine z_aload_n (pc := 14) C 0 dX5_init_14 rfl rfl ?_
  refine z_iconst (pc := 15) (v := 0) C dX5_init_15 rfl ?_
  refine z_putII (pc := 16) C dX5_init_16 fX5_18 (zg (j := 0) rfl) rfl ?_
  refine z_aload_n (pc := 19) C 0 dX5_init_19 rfl rfl ?_
  refine z_bipush (pc := 20) (v := 96) C dX5_init_20 rfl ?_
  refine z_newa (pc := 22) (t := 0) (N := 96) (r' := [((8, t, 0), .inl (5, [none, none, none, some none])), ((9, t, 0), .inr (.inl (0, 96)))]) C A2 (9, t, 0) dX5_init_22 q1_62 rfl rfl (fun _ _ h => h) rfl (by decide) rfl (by decide) (by rw [List.length_append]; show sh0.length + 1 < 262; omega) (List.forall_mem_append.mpr ⟨(fun x hx => hfr x hx), List.forall_mem_cons.mpr ⟨(kne1 (by decide)), fun _ h => absurd h List.not_mem_nil⟩⟩) (Nat.le_of_ble_eq_true rfl) (by simp [zsl, zsz]) rfl ?_
  refine z_putR (pc := 24) (k := 0) (r' := [((8, t, 0), .inl (5, [none, none, none, some (some (sh0.length + 1))])), ((9, t, 0), .inr (.inl (0, 96)))]) C I dX5_init_24 gX5_21 rfl (Nat.le_of_ble_eq_true rfl) rfl rfl rfl ?_
  refine z_return (pc := 27) C K dX5_init_27 ?_
  refine ⟨rfl, fun a i j f z => ?_⟩
  rw [zcl_ne (by show ¬ (a = 9 ∧ i = t ∧ j = 0); omega), zu_ne _ _ (by omega), zu_ne _ _ (by omega), zu_ne _ _ (by omega)]

set_option maxHeartbeats 1600000 in
set_option maxRecDepth 100000 in
theorem mX2_init {l : Launch} {G : zG} {b : Nat} {M : zM} {sh0 : List zS} {n : Nat} (hn : n = sh0.length) {s : Nat} (hlen : sh0.length + 2 ≤ 262) (hfr : ∀ x ∈ sh0, x.1 ≠ (4, s, 0)) : zMk l G b yX2_init cX2_init 1 1 (sh0 ++ [((3, s, 0), .inl (2, [none, none, some none]))]) (sh0 ++ stB n s) [.ref (b + n)] M (fun M' => (M' 3 s 0 0 = -1 ∧ M' 3 s 0 1 = 0 ∧ ∀ k, M' 4 s 0 k = 0) ∧ ∀ a i j f, ¬ ((a = 3 ∨ a = 4) ∧ i = s) → M' a i j f = M a i j f) := by
  subst hn
  refine zMk.of (L0 := [some (.ref (b + (sh0.length + 0)))]) (by decide +kernel) rfl (by rw [List.length_append, List.length_append]; exact Nat.add_le_add_left (Nat.le_of_ble_eq_true rfl) _) (by rw [zsl_app, zsl_app]; exact Nat.add_le_add_left (by simp [zsl, zsz, stB]) _) (Nat.le_of_ble_eq_true rfl) (List.forall_mem_cons.mpr ⟨rfl, fun _ h => absurd h List.not_mem_nil⟩) rfl (fun X C I Al K => ?_)
  have A2 : zAl2 X sh0 2 27 := by
    have h := zAl2.of Al (Nat.le_of_ble_eq_true rfl) (by simp [zsl, zsz, stB])
    rw [show zsl (stB sh0.length s) = 27 by simp [zsl, zsz, stB]] at h
    exact h
  refine z_aload_n (pc := 0) C 0 dX2_init_0 rfl rfl ?_
  refine z_obj (pc := 1) C (by decide) dX2_init_1 q2_10 (Nat.le_of_ble_eq_true rfl) ?_
  refine z_aload_n (pc := 4) C 0 dX2_init_4 rfl rfl ?_
  refine z_iconst (pc := 5) (v := -1) C dX2_init_5 rfl ?_
  refine z_putII (pc := 6) C dX2_init_6 fX2_9 (zg (j := 0) rfl) rfl ?_
  refine z_aload_n (pc := 9) C 0 dX2_init_9 rfl rfl ?_
  refine z_iconst (pc := 10) (v := 0) C dX2_init_10 rfl ?_
  refine z_putII (pc := 11) C dX2_init_11 fX2_15 (zg (j := 0) rfl) rfl ?_
  refine z_aload_n (pc := 14) C 0 dX2_init_14 rfl rfl ?_
  refine z_bipush (pc := 15) (v := 24) C dX2_init_15 rfl ?_
  refine z_newa (pc := 17) (t := 0) (N := 24) (r' := [((3, s, 0), .inl (2, [none, none, some none])), ((4, s, 0), .inr (.inl (0, 24)))]) C A2 (4, s, 0) dX2_init_17 q1_62 rfl rfl (fun _ _ h => h) rfl (by decide) rfl (by decide) (by rw [List.length_append]; show sh0.length + 1 < 262; omega) (List.forall_mem_append.mpr ⟨(fun x hx => hfr x hx), List.forall_mem_cons.mpr ⟨(kne1 (by decide)), fun _ h => absurd h List.not_mem_nil⟩⟩) (Nat.le_of_ble_eq_true rfl) (by simp [zsl, zsz]) rfl ?_
  refine z_putR (pc := 19) (k := 0) (r' := [((3, s, 0), .inl (2, [none, none, some (some (sh0.length + 1))])), ((4, s, 0), .inr (.inl (0, 24)))]) C I dX2_init_19 gX2_18 rfl (Nat.le_of_ble_eq_true rfl) rfl rfl rfl ?_
  refine z_return (pc := 22) C K dX2_init_22 ?_
  refine ⟨rfl, ⟨?_, ?_, fun k => zcl_s⟩, fun a i j f z => ?_⟩
  · rw [zcl_ne (by show ¬ (3 = 4 ∧ _); omega), zu_ne _ _ (by omega), zu_self]
  · rw [zcl_ne (by show ¬ (3 = 4 ∧ _); omega), zu_self]
  · rw [zcl_ne (by show ¬ (a = 4 ∧ i = s ∧ j = 0); omega), zu_ne _ _ (by omega), zu_ne _ _ (by omega)]

set_option maxHeartbeats 1600000 in
set_option maxRecDepth 100000 in
theorem mX4_init {l : Launch} {G : zG} {b : Nat} {M : zM} {sh0 : List zS} {n : Nat} (hn : n = sh0.length) (hlen : sh0.length + 2 ≤ 262) (hfr : ∀ x ∈ sh0, x.1 ≠ (20, 0, 0)) : zMk l G b yX4_init cX4_init 1 1 (sh0 ++ [((19, 0, 0), .inl (4, [some none, none]))]) (sh0 ++ tpB n ) [.ref (b + n)] M (fun M' => M' 19 0 0 1 = 0 ∧ ∀ a i j f, ¬ (a = 19 ∨ a = 20) → M' a i j f = M a i j f) := by
  subst hn
  refine zMk.of (L0 := [some (.ref (b + (sh0.length + 0)))]) (by decide +kernel) rfl (by rw [List.length_append, List.length_append]; exact Nat.add_le_add_left (Nat.le_of_ble_eq_true rfl) _) (by rw [zsl_app, zsl_app]; exact Nat.add_le_add_left (by simp [zsl, zsz, tpB]) _) (Nat.le_of_ble_eq_true rfl) (List.forall_mem_cons.mpr ⟨rfl, fun _ h => absurd h List.not_mem_nil⟩) rfl (fun X C I Al K => ?_)
  have A2 : zAl2 X sh0 2 98 := by
    have h := zAl2.of Al (Nat.le_of_ble_eq_true rfl) (by simp [zsl, zsz, tpB])
    rw [show zsl (tpB sh0.length ) = 98 by simp [zsl, zsz, tpB]] at h
    exact h
  refine z_aload_n (pc := 0) C 0 dX4_init_0 rfl rfl ?_
  refine z_obj (pc := 1) C (by decide) dX4_init_1 q1_194 (Nat.le_of_ble_eq_true rfl) ?_
  refine z_aload_n (pc := 4) C 0 dX4_init_4 rfl rfl ?_
  refine z_bipush (pc := 5) (v := 96) C dX4_init_5 rfl ?_
  refine z_newa (pc := 7) (t := 0) (N := 96) (r' := [((19, 0, 0), .inl (4, [some none, none])), ((20, 0, 0), .inr (.inl (0, 96)))]) C A2 (20, 0, 0) dX4_init_7 q1_62 rfl rfl (fun _ _ h => h) rfl (by decide) rfl (by decide) (by rw [List.length_append]; show sh0.length + 1 < 262; omega) (List.forall_mem_append.mpr ⟨(fun x hx => hfr x hx), List.forall_mem_cons.mpr ⟨(kne1 (by decide)), fun _ h => absurd h List.not_mem_nil⟩⟩) (Nat.le_of_ble_eq_true rfl) (by simp [zsl, zsz]) rfl ?_
  refine z_putR (pc := 9) (k := 0) (r' := [((19, 0, 0), .inl (4, [some (some (sh0.length + 1)), none])), ((20, 0, 0), .inr (.inl (0, 96)))]) C I dX4_init_9 gX4_9 rfl (Nat.le_of_ble_eq_true rfl) rfl rfl rfl ?_
  refine z_aload_n (pc := 12) C 0 dX4_init_12 rfl rfl ?_
  refine z_iconst (pc := 13) (v := 0) C dX4_init_13 rfl ?_
  refine z_putII (pc := 14) C dX4_init_14 fX4_15 (zg (j := 0) rfl) rfl ?_
  refine z_return (pc := 17) C K dX4_init_17 ?_
  refine ⟨rfl, zu_self _ _ _ _ _ _, fun a i j f z => ?_⟩
  rw [zu_ne _ _ (by omega), zcl_ne (by show ¬ (a = 20 ∧ i = 0 ∧ j = 0); omega)]

