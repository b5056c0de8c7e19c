/-! MAKING an array of arrays of ints: what the instruction does, cell by cell -/
def mtC (cA : ClassId) (N h i : Nat) : Cell := arrV cA N (fun j => if j < i then .ref (h + 1 + j) else .null)
def mtS (s : State) (cA cI : ClassId) (N K : Nat) : Nat → State
  | 0 => s.pushCell (mtC cA N s.heap.size 0)
  | i + 1 => ((mtS s cA cI N K i).pushCell (arrV cI K (fun _ => .int 0))).setCell s.heap.size (mtC cA N s.heap.size (i + 1))
theorem mtC_next (cA : ClassId) (N h i : Nat) : (mtC cA N h i).setSlot i (.ref (h + 1 + i)) = mtC cA N h (i + 1) := by
  unfold mtC
  rw [arrV_store]
  congr 1
  funext j
  by_cases e : j = i
  · subst e
    simp [updV]
  · simp only [updV, e, if_false]
    by_cases q : j < i
    · rw [if_pos q, if_pos (by omega)]
    · rw [if_neg q, if_neg (by omega)]
theorem mtS_facts (s : State) (cA cI : ClassId) (N K : Nat) : ∀ i, (mtS s cA cI N K i).heap.size = s.heap.size + 1 + i ∧ (mtS s cA cI N K i).heap[s.heap.size]? = some (mtC cA N s.heap.size i) ∧ (mtS s cA cI N K i).vm = s.vm ∧ (mtS s cA cI N K i).slotsUsed = s.slotsUsed + N + i * K ∧ (∀ a, a < s.heap.size → (mtS s cA cI N K i).heap[a]? = s.heap[a]?) ∧ ∀ j, j < i → (mtS s cA cI N K i).heap[s.heap.size + 1 + j]? = some (arrV cI K (fun _ => .int 0))
  | 0 => ⟨by simp [mtS], by simp [mtS], rfl, by simp [mtS, mtC, arrV_size], fun a ha => State.heap_pushCell_of_lt _ _ ha, fun j hj => absurd hj (Nat.not_lt_zero _)⟩
  | i + 1 => by
    obtain ⟨a1, a2, a3, a4, a5, a6⟩ := mtS_facts s cA cI N K i
    have h0 : s.heap.size < (mtS s cA cI N K i).heap.size := by omega
    have h1 : ((mtS s cA cI N K i).pushCell (arrV cI K (fun _ => .int 0))).heap[s.heap.size]? = some (mtC cA N s.heap.size i) := by rw [State.heap_pushCell_of_lt (h := h0)]; exact a2
    refine ⟨by simp [mtS, State.setCell, a1]; omega, State.heap_setCell_self h1, by simp [mtS, a3], by simp [mtS, a4, arrV_size, Nat.succ_mul]; omega, fun a ha => ?_, fun j hj => ?_⟩
    · show (((mtS s cA cI N K i).pushCell _).setCell s.heap.size _).heap[a]? = _
      rw [State.heap_setCell_other (Nat.ne_of_gt ha), State.heap_pushCell_of_lt (h := (show a < (mtS s cA cI N K i).heap.size by omega))]
      exact a5 a ha
    · show (((mtS s cA cI N K i).pushCell _).setCell s.heap.size _).heap[s.heap.size + 1 + j]? = _
      rw [State.heap_setCell_other (show s.heap.size ≠ s.heap.size + 1 + j by omega)]
      by_cases e : j = i
      · subst e
        rw [← a1]
        exact State.heap_pushCell_size _ _
      · rw [State.heap_pushCell_of_lt (h := (show s.heap.size + 1 + j < (mtS s cA cI N K i).heap.size by omega))]
        exact a6 j (by omega)
theorem mtS_top (s : State) (f : JFrame) (cA cI : ClassId) (N K : Nat) : ∀ i, mtS (s.setTop f) cA cI N K i = (mtS s cA cI N K i).setTop f
  | 0 => rfl
  | i + 1 => by simp only [mtS, mtS_top s f cA cI N K i, State.heap_setTop, State.pushCell_setTop, State.setCell_setTop]
section MTW
variable {E : CtlPost} {e : Env} {d : Bool} {acts : List Action} {s : State}
theorem mt_arr {c comp : ClassId} {k : Class} {ty : FieldType} {len : Nat} {init : Value} (hk : s.vm.classes[c]? = some k) (hkind : k.kind = .array comp ty) (hl : ¬ len > e.platform.arrayLengthLimit) (hh : ¬ len * componentBytes ty > e.platform.maxHeapBytes) (hfit : fits ty init = true) (hdef : init.isDefault = true) {Q : Addr → Pre} (h1 : s.heap.size < e.platform.maxCells) (h2 : s.slotsUsed + len ≤ e.platform.maxSlots) (hq : Q s.heap.size d acts (s.pushCell (arrV c len (fun _ => init)))) : wp (Jvm.newArray c len init) Q E e d acts s := by
  rw [← arrV_new] at hq
  have hf : ∀ i v, (Array.replicate len init)[i]? = some v → s.fitsSlot c .none i v = true := by
    intro i v hv
    rw [Array.getElem?_replicate] at hv
    by_cases q : i < len
    · rw [if_pos q] at hv
      cases hv
      simp [State.fitsSlot, State.slotType?, hk, hkind, hfit]
    · rw [if_neg q] at hv
      cases hv
  have ha : allocActs (Array.replicate len init) s.heap.size acts = acts := by
    unfold allocActs
    rw [if_pos]
    rw [Array.all_replicate]
    split <;> simp [hdef]
  simp only [Jvm.newArray, Jvm.arrayFits, wp_bind', W.ask, W.ite, hl, if_false, wp_pure', W.theClass, hk, hkind, hh, W.alloc, W.stop, Option.some.injEq, exists_eq_left', Array.size_replicate, ha]
  rw [if_neg (by omega)]
  exact ⟨h1, h2, hf, hq⟩
theorem mt_in {cI cc : ClassId} {kI : Class} {m : Int32} (hk : s.vm.classes[cI]? = some kI) (hkind : kI.kind = .array cc .int) (hm : ¬ m < 0) (hl : ¬ m.toNatClampNeg > e.platform.arrayLengthLimit) (hh : ¬ m.toNatClampNeg * componentBytes .int > e.platform.maxHeapBytes) (h1 : s.heap.size < e.platform.maxCells) (h2 : s.slotsUsed + m.toNatClampNeg ≤ e.platform.maxSlots) {Q : Addr → Pre} (hq : Q s.heap.size d acts (s.pushCell (arrV cI m.toNatClampNeg (fun _ => .int 0)))) : wp (multianewarray.make cI [m]) Q E e d acts s := by
  rw [multianewarray.make]
  simp only [wp_bind', W.ite, hm, if_false, wp_pure', W.theClass, hk, hkind, Option.some.injEq, exists_eq_left']
  exact mt_arr hk hkind hl hh rfl rfl h1 h2 hq
theorem mt_all {cA cI cc : ClassId} {kA kI : Class} {n m : Int32} (hA : s.vm.classes[cA]? = some kA) (hAk : kA.kind = .array cI (.array .int)) (hI : s.vm.classes[cI]? = some kI) (hIk : kI.kind = .array cc .int) (hn : ¬ n < 0) (hm : ¬ m < 0) (hl1 : ¬ n.toNatClampNeg > e.platform.arrayLengthLimit) (hh1 : ¬ n.toNatClampNeg * componentBytes (.array .int) > e.platform.maxHeapBytes) (hl2 : ¬ m.toNatClampNeg > e.platform.arrayLengthLimit) (hh2 : ¬ m.toNatClampNeg * componentBytes .int > e.platform.maxHeapBytes)
    (hc : s.heap.size + 1 + n.toNatClampNeg ≤ e.platform.maxCells) (hs : s.slotsUsed + n.toNatClampNeg + n.toNatClampNeg * m.toNatClampNeg ≤ e.platform.maxSlots) {Q : Addr → Pre} (hq : ∀ d' acts', Q s.heap.size d' acts' (mtS s cA cI n.toNatClampNeg m.toNatClampNeg n.toNatClampNeg)) : wp (multianewarray.make cA [n, m]) Q E e d acts s := by
  generalize hN : n.toNatClampNeg = N at hl1 hh1 hc hs hq
  generalize hK : m.toNatClampNeg = K at hl2 hh2 hs hq
  rw [multianewarray.make]
  simp only [wp_bind', W.ite, hn, if_false, wp_pure', W.theClass, hA, hAk, Option.some.injEq, exists_eq_left', hN]
  refine mt_arr hA hAk hl1 hh1 rfl rfl (by omega) (by have := Nat.zero_le (N * K); omega) ?_
  have hnone : ([m].find? (· < 0)) = none := by simp [hm]
  simp only [hnone]
  rw [ite_self, wp_bind', Std.Legacy.Range.forIn_eq_forIn_range']
  rw [show ([:N] : Std.Legacy.Range).size = N by simp [Std.Legacy.Range.size]]
  show wp (forIn (List.range' 0 N 1) PUnit.unit _) _ E e d acts _
  have e0 : s.pushCell (arrV cA N (fun _ => .null)) = mtS s cA cI N K 0 := by
    show _ = s.pushCell (mtC cA N s.heap.size 0)
    unfold mtC
    simp
  rw [e0]
  refine wp_forIn_inv (fun left u => ∃ i, i ≤ N ∧ left = List.range' i (N - i) ∧ u = mtS s cA cI N K i) _ _ ⟨0, Nat.zero_le _, rfl, rfl⟩ ?_ ?_
  · rintro x left u d' acts' Q' ⟨i, hi, hx, rfl⟩ next
    have hlt : i < N := by
      rcases Nat.lt_or_ge i N with q | q
      · exact q
      · rw [show N - i = 0 by omega] at hx
        cases hx
    rw [show N - i = (N - (i + 1)) + 1 by omega, List.range'_succ] at hx
    obtain ⟨rfl, hleft⟩ := List.cons.inj hx
    obtain ⟨f1, f2, f3, f4, f5, f6⟩ := mtS_facts s cA cI N K x
    have hmul : x * K + K ≤ N * K := by
      rw [← Nat.succ_mul]
      exact Nat.mul_le_mul_right K hlt
    simp only [wp_bind']
    refine mt_in (by rw [f3]; exact hI) hIk hm (by rw [hK]; exact hl2) (by rw [hK]; exact hh2) (by rw [f1]; omega) (by rw [f4, hK]; omega) ?_
    rw [hK]
    have h0 : s.heap.size < (mtS s cA cI N K x).heap.size := by rw [f1]; omega
    simp only [wp_bind', W.writeLoc, wp_pure']
    refine ⟨mtC cA N s.heap.size x, by rw [State.heap_pushCell_of_lt (h := h0)]; exact f2, by unfold mtC arrV; simp, by unfold mtC; rw [arrV_size]; exact hlt, ?_, next _ _ _ ⟨x + 1, hlt, hleft, ?_⟩⟩
    · unfold mtC arrV
      simp [State.fitsSlot, State.slotType?, f3, hA, hAk]
      rfl
    · rw [f1, mtC_next]
      rfl
  · rintro u d' acts' ⟨i, hi, hx, rfl⟩
    obtain rfl : i = N := by
      rcases Nat.lt_or_ge i N with q | q
      · rw [show N - i = (N - (i + 1)) + 1 by omega, List.range'_succ] at hx
        cases hx
      · omega
    simp only [wp_pure']
    exact hq _ _
end MTW
section MTS
variable {p : Program} {l : Launch} {e : Env} {R : Room} {s : State} {m : MethodId} {args : Array Value} {below : List Frame} {meth : Method} {c : Code} {T : State} {locs : List Loc} {cells slots : Nat} {H : Heap} {Q : State → Prop}
theorem mt_stand (X : Stand p l e R s m args below meth c T locs cells slots) (cA cI : ClassId) (N K : Nat) : ∀ i, Stand p l e R s m args below meth c (mtS T cA cI N K i) (locs ++ (List.range i).map fun j => ⟨T.heap.size, j⟩) (cells + 1 + i) (slots + N + i * K)
  | 0 => by
    have h := X.pushed (mtC cA N T.heap.size 0)
    rw [show (mtC cA N T.heap.size 0).slots.size = N from arrV_size _ _ _] at h
    simpa [mtS] using h
  | i + 1 => by
    have Xi := mt_stand X cA cI N K i
    obtain ⟨a1, a2, a3, a4, a5, a6⟩ := mtS_facts T cA cI N K i
    have h0 : T.heap.size < (mtS T cA cI N K i).heap.size := by rw [a1]; omega
    have h1 : ((mtS T cA cI N K i).pushCell (arrV cI K (fun _ => .int 0))).heap[T.heap.size]? = some (mtC cA N T.heap.size i) := by rw [State.heap_pushCell_of_lt (h := h0)]; exact a2
    have h := (Xi.pushed (arrV cI K (fun _ => .int 0))).stored h1 i (.ref (T.heap.size + 1 + i))
    rw [mtC_next, arrV_size] at h
    rw [List.range_succ, List.map_append, ← List.append_assoc, Nat.succ_mul, ← Nat.add_assoc, ← Nat.add_assoc]
    exact h
theorem W.mt {cc : ByteArray} (hexec : p.tables.exec = Jvm.exec) (hb : c.code = cc) {own : String} {index : Nat} (hown : s.vm.findClass own = some m.cls) (hlink : (Cond.classLink own index "[[I").before args s = true) (harr : (Cond.arrayClass .int).before args s = true) {cA cI : ClassId} {kA : Class} (hcA : s.vm.findClass "[[I" = some cA) (hkA : s.vm.classes[cA]? = some kA) (hkk : kA.kind = .array cI (.array .int)) (hcI : s.vm.findClass "[I" = some cI)
    {g : JFrame} (hg : g.method = m) (hdg : decode cc g.pc = .ok (.multianewarray index 2, 4)) {n k : Int32} {rest : List Value} (hstack : g.stack = .int k :: .int n :: rest) (hn : ¬ n < 0) (hk : ¬ k < 0) (hb1 : n.toNatClampNeg * 4 ≤ 536870912) (hb2 : k.toNatClampNeg * 4 ≤ 536870912) (hcells : cells + (1 + n.toNatClampNeg) ≤ R.cells) (hslots : slots + (n.toNatClampNeg + n.toNatClampNeg * k.toNatClampNeg) ≤ R.slots)
    (kk : ∀ H1 : Heap, H1[H.size]? = some (mtC cA n.toNatClampNeg H.size n.toNatClampNeg) → (∀ j, j < n.toNatClampNeg → H1[H.size + 1 + j]? = some (arrV cI k.toNatClampNeg (fun _ => .int 0))) → H1.size = H.size + 1 + n.toNatClampNeg → (∀ q, q < H.size → H1[q]? = H[q]?) → W p l e R s m args below meth c H1 locs (cells + 1 + n.toNatClampNeg) (slots + n.toNatClampNeg + n.toNatClampNeg * k.toNatClampNeg) Q { g with pc := g.pc + 4, stack := .ref H.size :: rest }) : W p l e R s m args below meth c H locs cells slots Q g := by
  intro T hT X
  subst hT
  subst hb
  subst hg
  have hpl : e.platform.magicAccessors = ({} : Platform).magicAccessors := by rw [X.admits.platform]
  obtain ⟨cI', kI, cc, hcI', hkI, hIk⟩ := Cond.arrayClass_spec harr
  obtain rfl : cI' = cI := Option.some.inj (hcI'.symm.trans hcI)
  obtain ⟨c0, hc0, hcl⟩ := Cond.classLink_spec hown hlink e.platform hpl
  obtain rfl : cA = c0 := Option.some.inj (hcA.symm.trans hc0)
  obtain ⟨hg1, hw1, hr1⟩ := State.classEntry (e := e) X.warmed hcl
  generalize T.vm.noted g.method.cls index (.cls cA) = vm1 at hg1 hw1 hr1
  obtain ⟨kA1, hkA1, eA⟩ := hw1.alike.2.2 _ _ hkA
  obtain ⟨kI1, hkI1, eI⟩ := hw1.alike.2.2 _ _ hkI
  have hA1 : kA1.kind = .array cI' (.array .int) := by rw [eA]; exact hkk
  have hI1 : kI1.kind = .array cc .int := by rw [eI]; exact hIk
  have X1 := X.noted hw1
  have XF := mt_stand X1 cA cI' n.toNatClampNeg k.toNatClampNeg n.toNatClampNeg
  have XG := XF.dropFresh (fun x hx => by
    obtain ⟨j, -, rfl⟩ := List.mem_map.mp hx
    exact X.heapGrown)
  obtain ⟨f1, f2, f3, f4, f5, f6⟩ := mtS_facts (T.setVm vm1) cA cI' n.toNatClampNeg k.toNatClampNeg n.toNatClampNeg
  obtain ⟨t, a1, b1⟩ := kk _ f2 f6 f1 f5 _ rfl XG
  refine ⟨t, ?_, b1⟩
  obtain ⟨q1, q2⟩ := X.roomAbove hcells hslots
  have hl1 : ¬ n.toNatClampNeg > e.platform.arrayLengthLimit := by rw [Launch.admits_arrayLengthLimit X.admits]; omega
  have hh1 : ¬ n.toNatClampNeg * componentBytes (.array .int) > e.platform.maxHeapBytes := by
    rw [Launch.admits_maxHeapBytes X.admits]
    show ¬ n.toNatClampNeg * 4 > 536870912
    omega
  have hl2 : ¬ k.toNatClampNeg > e.platform.arrayLengthLimit := by rw [Launch.admits_arrayLengthLimit X.admits]; omega
  have hh2 : ¬ k.toNatClampNeg * componentBytes .int > e.platform.maxHeapBytes := by
    rw [Launch.admits_maxHeapBytes X.admits]
    show ¬ k.toNatClampNeg * 4 > 536870912
    omega
  jvm_step X.here [hexec, hdg]
  simp only [multianewarray.sem, wp_bind', W.resolveClassAt_links (State.method?_setTop g X.here.top) hg1]
  rw [W.popN, if_neg (by decide)]
  refine ⟨g, State.topJava?_setTop' (s := T.setVm vm1) g X.here.top, [.int n, .int k], rest, rfl, hstack, ?_⟩
  simp only [List.mapM_cons, List.mapM_nil, wp_bind', wp_pure']
  refine mt_all (kA := kA1) (kI := kI1) (cc := cc) hkA1 hA1 hkI1 hI1 hn hk hl1 hh1 hl2 hh2 (by show T.heap.size + 1 + _ ≤ _; omega) (by show T.slotsUsed + _ + _ ≤ _; omega) (fun d' acts' => ?_)
  have eS : ((T.setTop g).setVm vm1).setTop { g with stack := rest } = (T.setVm vm1).setTop { g with stack := rest } := by
    show ((T.setVm vm1).setTop g).setTop _ = _
    rw [State.setTop_setTop]
  rw [eS, mtS_top]
  simp only [wp_bind', W.mark, W.pushRef, State.topJava?_setTop' _ XF.here.top, Option.some.injEq, exists_eq_left', State.setTop_setTop, State.heap_setTop]
  intro acts
  simp [jvm, XF.here.top]
  exact a1
end MTS
