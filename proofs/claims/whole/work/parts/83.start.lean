/-! THE START: what is known of the state at the law's entry -/
theorem zT_of {s : State} {args : Array Value} (hts : ∀ w ∈ lw_tbl, w.before args s = true) : ∀ w ∈ zT, w.before args s = true := fun w hw => hts w (List.mem_filter.mp hw).1
theorem arr_prim {s : State} {args : Array Value} {ty : FieldType} (h : (Cond.arrayClass ty).before args s = true) (hra : ∀ c, s.vm.findClass ("[" ++ ty.toString) = some c → va_RA s c ty) : ∃ c, ArrOfT s c ty ∧ va_RA s c ty := by
  obtain ⟨c, k, comp, h1, h2, h3⟩ := Cond.arrayClass_spec h
  exact ⟨c, fun N z => ⟨(fun k h => by cases h), k, h2, comp, h3⟩, hra c h1⟩
theorem arr_obj {s : State} {args : Array Value} {n : String} (h : (Cond.arrayOver (.object n)).before args s = true) : ∃ c, ArrOfT s c (.object n) ∧ va_RA s c (.object n) := by
  obtain ⟨comp, c, k, h1, -, h2, h3, h4⟩ := Cond.arrayOver_spec h
  exact ⟨c, fun N z => ⟨(fun k h => by cases h), k, h2, comp, h3⟩, k, comp, h2, h3, h1, h4⟩
theorem arr_arr {s : State} {args : Array Value} (h : (Cond.arrayOver (.array .int)).before args s = true) : ∃ c cI k, ArrOfT s c (.array .int) ∧ s.vm.findClass "[[I" = some c ∧ s.vm.classes[c]? = some k ∧ k.kind = .array cI (.array .int) ∧ s.vm.findClass "[I" = some cI := by
  obtain ⟨comp, c, k, h1, -, h2, h3, h4⟩ := arrayOverA_spec h
  exact ⟨c, comp, k, fun N z => ⟨(fun k h => by cases h), k, h2, comp, h3⟩, h4, h2, h3, h1⟩
theorem above_X {args : Array Value} {s : State} {tm : Term} (harr : (Cond.arrayOf tm .int).before args s = true) (hlen : (Term.length tm).eval args s none [] s = some (.int (Int32.ofNat 6))) (hel : ∀ j : Nat, j < 6 → (Term.elem tm (.int (Int32.ofNat j))).eval args s none [] s = some (.int (zabv j))) : ∃ t, tm.eval args s none [] s = some (.ref t) ∧ va_X t 6 zabv s s.heap ∧ t < s.heap.size := by
  obtain ⟨t, ht, cell, h1, h2, h3, h4, h5, h6, -⟩ := va_Tof (ty := .int) (N := 6) (f := fun j => .int (zabv j)) (A := fun q => s.heap.size ≤ q) (by decide) harr hlen hel (fun a h => Nat.not_le.mpr h)
  obtain ⟨t', cell', ht', hat, -⟩ := Term.length_spec hlen
  cases ht.symm.trans ht'
  obtain ⟨hc', -, -, -⟩ := State.arrayAt?_spec hat
  cases h1.symm.trans hc'
  have hsz : cell.slots.size < 2 ^ 31 := by
    simp only [Term.eval, ht, hat, Option.bind_eq_bind, Option.bind_some] at hlen
    by_cases hlt : cell.slots.size < 2147483648
    · exact hlt
    · simp [hlt] at hlen
  have he : cell.slots.size = 6 := by
    have h7 := congrArg Int32.toInt h5
    have h8 : (nI cell.slots.size).toInt = (cell.slots.size : Int) := nI_toInt hsz
    have h9 : (nI cell.slots.size).toInt = (Int32.ofNat 6).toInt := h7
    rw [h8] at h9
    have h10 : (Int32.ofNat 6).toInt = 6 := by decide
    rw [h10] at h9
    omega
  exact ⟨t, ht, ⟨cell, h1, h2, h3, he, h6⟩, (Array.getElem?_eq_some_iff.mp h1).1⟩
theorem zNl_in : ∀ w ∈ zNl, w ∈ lw_tbl := List.forall_mem_cons.mpr ⟨(in_1 (List.mem_of_getElem? (i := 211) (by decide +kernel))), List.forall_mem_cons.mpr ⟨(in_2 (List.mem_of_getElem? (i := 32) (by decide +kernel))), List.forall_mem_cons.mpr ⟨(in_2 (List.mem_of_getElem? (i := 34) (by decide +kernel))), List.forall_mem_cons.mpr ⟨(in_1 (List.mem_of_getElem? (i := 37) (by decide +kernel))), List.forall_mem_cons.mpr ⟨(in_1 (List.mem_of_getElem? (i := 81) (by decide +kernel))), List.forall_mem_cons.mpr ⟨(in_1 (List.mem_of_getElem? (i := 191) (by decide +kernel))), List.forall_mem_cons.mpr ⟨(in_2 (List.mem_of_getElem? (i := 7) (by decide +kernel))), List.forall_mem_cons.mpr ⟨(in_2 (List.mem_of_getElem? (i := 27) (by decide +kernel))), fun _ h => absurd h List.not_mem_nil⟩⟩⟩⟩⟩⟩⟩⟩
theorem zAO_in : ∀ C ∈ zAO, Cond.arrayOver (.object C) ∈ lw_tbl := List.forall_mem_cons.mpr ⟨(in_1 (List.mem_of_getElem? (i := 35) (by decide +kernel))), List.forall_mem_cons.mpr ⟨(in_1 (List.mem_of_getElem? (i := 79) (by decide +kernel))), List.forall_mem_cons.mpr ⟨(in_1 (List.mem_of_getElem? (i := 171) (by decide +kernel))), List.forall_mem_cons.mpr ⟨(in_2 (List.mem_of_getElem? (i := 3) (by decide +kernel))), List.forall_mem_cons.mpr ⟨(in_2 (List.mem_of_getElem? (i := 5) (by decide +kernel))), fun _ h => absurd h List.not_mem_nil⟩⟩⟩⟩⟩
theorem zNst0 {s : State} {args : Array Value} (hts : ∀ w ∈ lw_tbl, w.before args s = true) : zNst s := by
  obtain ⟨cA, cI, kA, -, h1, h2, h3, h4⟩ := arr_arr (hts _ (in_1 (List.mem_of_getElem? (i := 173) (by decide +kernel))))
  exact ⟨⟨cA, cI, kA, h1, h2, h3, h4⟩, fun own index y hw => va_Nw.of rfl (hts _ (zNl_in _ hw)), fun C hC => va_AO.of (hts _ (zAO_in C hC))⟩
theorem zKc0 {s : State} {args : Array Value} (htz : ∀ w ∈ zT, w.before args s = true) : ∃ D : va_G, ∀ (k : Nat) (q : vw_C), vwCl[k]? = some q → u_Kn s q.1 q.2.1 q.2.2 (D.1 k) (D.2 k) := by
  obtain ⟨c0, i0, h0⟩ := u_known (C := RX0) (T := TX0) (N := 7) (n := 7) htz inZ0 (htz _ q1_80)
  obtain ⟨c1, i1, h1⟩ := u_known (C := RX1) (T := TX1) (N := 9) (n := 9) htz inZ1 (htz _ q1_205)
  obtain ⟨c2, i2, h2⟩ := u_known (C := RX2) (T := TX2) (N := 3) (n := 3) htz inZ2 (htz _ q2_6)
  obtain ⟨c3, i3, h3⟩ := u_known (C := RX3) (T := TX3) (N := 4) (n := 4) htz inZ3 (htz _ q2_26)
  obtain ⟨c4, i4, h4⟩ := u_known (C := RX4) (T := TX4) (N := 2) (n := 2) htz inZ4 (htz _ q1_190)
  obtain ⟨c5, i5, h5⟩ := u_known (C := RX5) (T := TX5) (N := 4) (n := 4) htz inZ5 (htz _ q1_36)
  obtain ⟨c6, i6, h6⟩ := u_known (C := RX6) (T := TX6) (N := 2) (n := 2) htz inZ6 (htz _ q1_29)
  obtain ⟨c7, i7, h7⟩ := u_known (C := RX7) (T := TX7) (N := 4) (n := 4) htz inZ7 (htz _ q1_165)
  obtain ⟨c8, i8, h8⟩ := u_known (C := RX8) (T := TX8) (N := 12) (n := 12) htz inZ8 (htz _ q1_73)
  obtain ⟨c9, i9, h9⟩ := u_known (C := RX9) (T := TX9) (N := 11) (n := 11) htz inZ9 (htz _ q1_21)
  obtain ⟨c10, i10, h10⟩ := u_known (C := RX10) (T := TX10) (N := 34) (n := 34) htz inZ10 (htz _ q4_171)
  refine ⟨(fun k => match k with
    | 0 => c0
    | 1 => c1
    | 2 => c2
    | 3 => c3
    | 4 => c4
    | 5 => c5
    | 6 => c6
    | 7 => c7
    | 8 => c8
    | 9 => c9
    | _ => c10, fun k => match k with
    | 0 => i0
    | 1 => i1
    | 2 => i2
    | 3 => i3
    | 4 => i4
    | 5 => i5
    | 6 => i6
    | 7 => i7
    | 8 => i8
    | 9 => i9
    | _ => i10), ?_⟩
  intro k q hq
  match k, hq with
  | 0, hq => cases hq; exact h0
  | 1, hq => cases hq; exact h1
  | 2, hq => cases hq; exact h2
  | 3, hq => cases hq; exact h3
  | 4, hq => cases hq; exact h4
  | 5, hq => cases hq; exact h5
  | 6, hq => cases hq; exact h6
  | 7, hq => cases hq; exact h7
  | 8, hq => cases hq; exact h8
  | 9, hq => cases hq; exact h9
  | 10, hq => cases hq; exact h10
  | k + 11, hq => simp [vwCl] at hq
theorem zTy0 {s : State} {args : Array Value} (hts : ∀ w ∈ lw_tbl, w.before args s = true) : ∃ tc : Nat → ClassId, ∀ (k : Nat) (q : ClassId × FieldType), (zty tc)[k]? = some q → ArrOfT s q.1 q.2 ∧ va_RA s q.1 q.2 := by
  have htz := zT_of hts
  obtain ⟨c0, h0⟩ := arr_prim (ty := .int) (htz _ q1_62) (fun c h => h)
  obtain ⟨c1, h1⟩ := arr_prim (ty := .boolean) (htz _ q5_40) (fun c h => h)
  obtain ⟨c2, h2⟩ := arr_prim (ty := .char) (htz _ q5_39) (fun c h => h)
  obtain ⟨c3, h3⟩ := arr_obj (n := RX5) (hts _ (in_1 (List.mem_of_getElem? (i := 35) (by decide +kernel))))
  obtain ⟨c4, h4⟩ := arr_obj (n := RX0) (hts _ (in_1 (List.mem_of_getElem? (i := 79) (by decide +kernel))))
  obtain ⟨c5, h5⟩ := arr_obj (n := RX8) (hts _ (in_1 (List.mem_of_getElem? (i := 171) (by decide +kernel))))
  obtain ⟨c6, cI, k6, h6, h6a, -⟩ := arr_arr (hts _ (in_1 (List.mem_of_getElem? (i := 173) (by decide +kernel))))
  obtain ⟨c7, h7⟩ := arr_obj (n := RX2) (hts _ (in_2 (List.mem_of_getElem? (i := 3) (by decide +kernel))))
  obtain ⟨c8, h8⟩ := arr_obj (n := RX3) (hts _ (in_2 (List.mem_of_getElem? (i := 5) (by decide +kernel))))
  refine ⟨(fun k => match k with
    | 0 => c0
    | 1 => c1
    | 2 => c2
    | 3 => c3
    | 4 => c4
    | 5 => c5
    | 6 => c6
    | 7 => c7
    | _ => c8), ?_⟩
  intro k q hq
  match k, hq with
  | 0, hq => cases hq; exact h0
  | 1, hq => cases hq; exact h1
  | 2, hq => cases hq; exact h2
  | 3, hq => cases hq; exact h3
  | 4, hq => cases hq; exact h4
  | 5, hq => cases hq; exact h5
  | 6, hq => cases hq; exact ⟨h6, h6a⟩
  | 7, hq => cases hq; exact h7
  | 8, hq => cases hq; exact h8
  | k + 9, hq => simp [zty] at hq
set_option maxHeartbeats 4000000 in
set_option maxRecDepth 100000 in
theorem zStr0 {s : State} {args : Array Value} (hs : ∀ w ∈ flatC (Jvm.Cond.and given_1 narrow_1), w.before args s = true) : ∃ adK adV : Nat → Nat, vk_S 6 zlen zbyt adK adV (fun q => s.heap.size ≤ q) s s.heap ∧ ∀ i : Nat, i < 6 → (Term.string RX1 (zsix i)).eval args s none [] s = some (.ref (adK i)) := by
  refine vk_Sof (N := 6) (tm := fun i => Term.string RX1 (zsix i)) (len := zlen) (byt := zbyt) (fun i hi => ?_) (fun i hi => ?_) (fun i hi => ?_) (fun i hi => ?_) (fun i hi => ?_) (fun i hi => ?_) ?_ (fun a h => Nat.not_le.mpr h)
  · exact match i, hi with
    | 0, _ => by decide
    | 1, _ => by decide
    | 2, _ => by decide
    | 3, _ => by decide
    | 4, _ => by decide
    | 5, _ => by decide
    | n + 6, h => absurd h (by omega)
  · exact match i, hi with
    | 0, _ => hs _ (by decide +kernel)
    | 1, _ => hs _ (by decide +kernel)
    | 2, _ => hs _ (by decide +kernel)
    | 3, _ => hs _ (by decide +kernel)
    | 4, _ => hs _ (by decide +kernel)
    | 5, _ => hs _ (by decide +kernel)
    | n + 6, h => absurd h (by omega)
  · exact match i, hi with
    | 0, _ => hs _ (by decide +kernel)
    | 1, _ => hs _ (by decide +kernel)
    | 2, _ => hs _ (by decide +kernel)
    | 3, _ => hs _ (by decide +kernel)
    | 4, _ => hs _ (by decide +kernel)
    | 5, _ => hs _ (by decide +kernel)
    | n + 6, h => absurd h (by omega)
  · exact match i, hi with
    | 0, _ => hs _ (by decide +kernel)
    | 1, _ => hs _ (by decide +kernel)
    | 2, _ => hs _ (by decide +kernel)
    | 3, _ => hs _ (by decide +kernel)
    | 4, _ => hs _ (by decide +kernel)
    | 5, _ => hs _ (by decide +kernel)
    | n + 6, h => absurd h (by omega)
  · exact match i, hi with
    | 0, _ => hs _ (by decide +kernel)
    | 1, _ => hs _ (by decide +kernel)
    | 2, _ => hs _ (by decide +kernel)
    | 3, _ => hs _ (by decide +kernel)
    | 4, _ => hs _ (by decide +kernel)
    | 5, _ => hs _ (by decide +kernel)
    | n + 6, h => absurd h (by omega)
  · exact match i, hi with
    | 0, _ => (fun j hj => match j, hj with
      | 0, _ => hs _ (by decide +kernel)
      | 1, _ => hs _ (by decide +kernel)
      | 2, _ => hs _ (by decide +kernel)
      | n + 3, h => absurd (show n + 3 < 3 from h) (by omega))
    | 1, _ => (fun j hj => match j, hj with
      | 0, _ => hs _ (by decide +kernel)
      | 1, _ => hs _ (by decide +kernel)
      | 2, _ => hs _ (by decide +kernel)
      | n + 3, h => absurd (show n + 3 < 3 from h) (by omega))
    | 2, _ => (fun j hj => match j, hj with
      | 0, _ => hs _ (by decide +kernel)
      | 1, _ => hs _ (by decide +kernel)
      | 2, _ => hs _ (by decide +kernel)
      | 3, _ => hs _ (by decide +kernel)
      | n + 4, h => absurd (show n + 4 < 4 from h) (by omega))
    | 3, _ => (fun j hj => match j, hj with
      | 0, _ => hs _ (by decide +kernel)
      | 1, _ => hs _ (by decide +kernel)
      | 2, _ => hs _ (by decide +kernel)
      | n + 3, h => absurd (show n + 3 < 3 from h) (by omega))
    | 4, _ => (fun j hj => match j, hj with
      | 0, _ => hs _ (by decide +kernel)
      | 1, _ => hs _ (by decide +kernel)
      | n + 2, h => absurd (show n + 2 < 2 from h) (by omega))
    | 5, _ => (fun j hj => match j, hj with
      | 0, _ => hs _ (by decide +kernel)
      | 1, _ => hs _ (by decide +kernel)
      | n + 2, h => absurd (show n + 2 < 2 from h) (by omega))
    | n + 6, h => absurd h (by omega)
  · exact fun i j hi hj hij => match i, j, hi, hj, hij with
    | 0, 0, _, _, h => absurd rfl h
    | 0, 1, _, _, h => Or.inl (hs _ (by decide +kernel))
    | 0, 2, _, _, h => Or.inl (hs _ (by decide +kernel))
    | 0, 3, _, _, h => Or.inl (hs _ (by decide +kernel))
    | 0, 4, _, _, h => Or.inl (hs _ (by decide +kernel))
    | 0, 5, _, _, h => Or.inl (hs _ (by decide +kernel))
    | 1, 0, _, _, h => Or.inr (hs _ (by decide +kernel))
    | 1, 1, _, _, h => absurd rfl h
    | 1, 2, _, _, h => Or.inl (hs _ (by decide +kernel))
    | 1, 3, _, _, h => Or.inl (hs _ (by decide +kernel))
    | 1, 4, _, _, h => Or.inl (hs _ (by decide +kernel))
    | 1, 5, _, _, h => Or.inl (hs _ (by decide +kernel))
    | 2, 0, _, _, h => Or.inr (hs _ (by decide +kernel))
    | 2, 1, _, _, h => Or.inr (hs _ (by decide +kernel))
    | 2, 2, _, _, h => absurd rfl h
    | 2, 3, _, _, h => Or.inl (hs _ (by decide +kernel))
    | 2, 4, _, _, h => Or.inl (hs _ (by decide +kernel))
    | 2, 5, _, _, h => Or.inl (hs _ (by decide +kernel))
    | 3, 0, _, _, h => Or.inr (hs _ (by decide +kernel))
    | 3, 1, _, _, h => Or.inr (hs _ (by decide +kernel))
    | 3, 2, _, _, h => Or.inr (hs _ (by decide +kernel))
    | 3, 3, _, _, h => absurd rfl h
    | 3, 4, _, _, h => Or.inl (hs _ (by decide +kernel))
    | 3, 5, _, _, h => Or.inl (hs _ (by decide +kernel))
    | 4, 0, _, _, h => Or.inr (hs _ (by decide +kernel))
    | 4, 1, _, _, h => Or.inr (hs _ (by decide +kernel))
    | 4, 2, _, _, h => Or.inr (hs _ (by decide +kernel))
    | 4, 3, _, _, h => Or.inr (hs _ (by decide +kernel))
    | 4, 4, _, _, h => absurd rfl h
    | 4, 5, _, _, h => Or.inl (hs _ (by decide +kernel))
    | 5, 0, _, _, h => Or.inr (hs _ (by decide +kernel))
    | 5, 1, _, _, h => Or.inr (hs _ (by decide +kernel))
    | 5, 2, _, _, h => Or.inr (hs _ (by decide +kernel))
    | 5, 3, _, _, h => Or.inr (hs _ (by decide +kernel))
    | 5, 4, _, _, h => Or.inr (hs _ (by decide +kernel))
    | 5, 5, _, _, h => absurd rfl h
    | n + 6, _, h, _, _ => absurd h (by omega)
    | _, n + 6, _, h, _ => absurd h (by omega)
set_option maxHeartbeats 4000000 in
set_option maxRecDepth 100000 in
theorem zAmb0 {s : State} {args : Array Value} (hts : ∀ w ∈ lw_tbl, w.before args s = true) (hgv : (Jvm.Cond.and given_1 narrow_1).before args s = true) : ∃ G : zG, zAmb G s.heap.size s := by
  have hs := flat_of_before _ hgv
  have htz := zT_of hts
  obtain ⟨D, hD⟩ := zKc0 htz
  obtain ⟨tc, hT⟩ := zTy0 hts
  obtain ⟨adK, adV, hS, hev⟩ := zStr0 hs
  have hA : ∀ a : Nat, a < s.heap.size → ¬ (fun q => s.heap.size ≤ q) a := fun a h => Nat.not_le.mpr h
  obtain ⟨t, ht, hX, htl⟩ := above_X (tm := .static "MeanSafe" "ABOVE" "[I") (args := args) (s := s) (hs _ (by decide +kernel)) (va_eqt (hs _ (by decide +kernel))) (fun j hj => match j, hj with
    | 0, _ => va_eqt (hs _ (by decide +kernel))
    | 1, _ => va_eqt (hs _ (by decide +kernel))
    | 2, _ => va_eqt (hs _ (by decide +kernel))
    | 3, _ => va_eqt (hs _ (by decide +kernel))
    | 4, _ => va_eqt (hs _ (by decide +kernel))
    | 5, _ => va_eqt (hs _ (by decide +kernel))
    | n + 6, h => absurd h (by omega))
  refine ⟨(D, tc, fun k => if k = 0 then t else if k < 10 then adK (k - 1) else adV (k - 10)), ⟨hD, hT⟩, va_Nw.of rfl (hts _ (in_2 (List.mem_of_getElem? (i := 132) (by decide +kernel)))), va_Nw.of rfl (hts _ (in_2 (List.mem_of_getElem? (i := 160) (by decide +kernel)))), ?_, ⟨hX, htl⟩, ?_, ?_, ?_, ?_⟩
  · exact va_Zof (hts _ (in_2 (List.mem_of_getElem? (i := 161) (by decide +kernel)))) (htz _ q1_1) ht hA
  · have eK : ∀ i, i < 6 → (if 1 + i = 0 then t else if 1 + i < 10 then adK (1 + i - 1) else adV (1 + i - 10)) = adK i := fun i hi => by
      rw [if_neg (by omega), if_pos (by omega), Nat.add_sub_cancel_left]
    have eV : ∀ i, (if 10 + i = 0 then t else if 10 + i < 10 then adK (10 + i - 1) else adV (10 + i - 10)) = adV i := fun i => by
      rw [if_neg (by omega), if_neg (by omega), Nat.add_sub_cancel_left]
    refine ⟨fun i hi => ?_, fun i j hi hj e => ?_⟩
    · show va_O "java/lang/String" (if 1 + i = 0 then t else if 1 + i < 10 then adK (1 + i - 1) else adV (1 + i - 10)) _ _ _ ∧ va_OF "java/lang/String" "coder" "B" (.int 0) (if 1 + i = 0 then t else if 1 + i < 10 then adK (1 + i - 1) else adV (1 + i - 10)) _ _ _ ∧ va_OF "java/lang/String" "value" "[B" (.ref (if 10 + i = 0 then t else if 10 + i < 10 then adK (10 + i - 1) else adV (10 + i - 10))) (if 1 + i = 0 then t else if 1 + i < 10 then adK (1 + i - 1) else adV (1 + i - 10)) _ _ _ ∧ va_T .byte (if 10 + i = 0 then t else if 10 + i < 10 then adK (10 + i - 1) else adV (10 + i - 10)) _ _ _ _ _
      rw [eK i hi, eV i]
      exact hS.1 i hi
    · have e2 : (if 1 + i = 0 then t else if 1 + i < 10 then adK (1 + i - 1) else adV (1 + i - 10)) = (if 1 + j = 0 then t else if 1 + j < 10 then adK (1 + j - 1) else adV (1 + j - 10)) := e
      rw [eK i hi, eK j hj] at e2
      exact hS.2 i j hi hj e2
  · intro i hi
    show vk_R RX1 (zsix i) (zstx i) (if 1 + i = 0 then t else if 1 + i < 10 then adK (1 + i - 1) else adV (1 + i - 10)) s
    rw [if_neg (by omega), if_pos (by omega), Nat.add_sub_cancel_left]
    refine vk_R.of (A := args) ?_ (hev i hi)
    exact match i, hi with
    | 0, _ => hts _ (in_3 (List.mem_of_getElem? (i := 150) (by decide +kernel)))
    | 1, _ => hts _ (in_3 (List.mem_of_getElem? (i := 203) (by decide +kernel)))
    | 2, _ => hts _ (in_3 (List.mem_of_getElem? (i := 204) (by decide +kernel)))
    | 3, _ => hts _ (in_3 (List.mem_of_getElem? (i := 228) (by decide +kernel)))
    | 4, _ => hts _ (in_3 (List.mem_of_getElem? (i := 229) (by decide +kernel)))
    | 5, _ => hts _ (in_3 (List.mem_of_getElem? (i := 230) (by decide +kernel)))
    | n + 6, h => absurd h (by omega)
  · exact va_Zof (hts _ (in_3 (List.mem_of_getElem? (i := 164) (by decide +kernel)))) (htz _ q1_14) (va_eqt (hs _ (by decide +kernel))) hA
  · exact va_Zqof (hts _ (in_3 (List.mem_of_getElem? (i := 180) (by decide +kernel)))) (htz _ q1_16) (hs _ (by decide +kernel)) hA
