/-! MAKING an array of arrays of ints: what the instruction does, cell by cell -/
def mtC (cA : ClassId) (N h i : Nat) : Cell := arrV cA N (fun j => if j < i then .ref (h + 1 + j) else .null)
def mtS (s : State) (cA cI : ClassId) (N K : Nat) : Nat → State
  | 0 => s.pushCell (mtC cA N s.heap.size 0)
  | i + 1 => ((mtS s cA cI N K i).pushCell (arrV cI K (fun _ => .int 0))).setCell s.heap.size (mtC cA N s.heap.size (i + 1))
theorem mtC_next (cA : ClassId) (N h i : Nat) : (mtC cA N h i).setSlot i (.ref (h + 1 + i)) = mtC cA N h (i + 1) := by
  unfold mtC
  rw [arrV_store]
  congr 1
  funext j
  by_cases e : j = i
  · subst e
    simp [updV]
  · simp only [updV, e, if_false]
    by_cases q : j < i
    · rw [if_pos q, if_pos (by omega)]
    · rw [if_neg q, if_neg (by omega)]
theorem mtS_facts (s : State) (cA cI : ClassId) (N K : Nat) : ∀ i, (mtS s cA cI N K i).heap.size = s.heap.size + 1 + i ∧ (mtS s cA cI N K i).heap[s.heap.size]? = some (mtC cA N s.heap.size i) ∧ (mtS s cA cI N K i).vm = s.vm ∧ (mtS s cA cI N K i).slotsUsed = s.slotsUsed + N + i * K ∧ (∀ a, a < s.heap.size → (mtS s cA cI N K i).heap[a]? = s.heap[a]?) ∧ ∀ j, j < i → (mtS s cA cI N K i).heap[s.heap.size + 1 + j]? = some (arrV cI K (fun _ => .int 0))
  | 0 => ⟨by simp [mtS], by simp [mtS], rfl, by simp [mtS, mtC, arrV_size], fun a ha => State.heap_pushCell_of_lt _ _ ha, fun j hj => absurd hj (Nat.not_lt_zero _)⟩
  | i + 1 => by
    obtain ⟨a1, a2, a3, a4, a5, a6⟩ := mtS_facts s cA cI N K i
    have h0 : s.heap.size < (mtS s cA cI N K i).heap.size := by omega
    have h1 : ((mtS s cA cI N K i).pushCell (arrV cI K (fun _ => .int 0))).heap[s.heap.size]? = some (mtC cA N s.heap.size i) := by rw [State.heap_pushCell_of_lt (h := h0)]; exact a2
    refine ⟨by simp [mtS, State.setCell, a1]; omega, State.heap_setCell_self h1, by simp [mtS, a3], by simp [mtS, a4, arrV_size, Nat.succ_mul]; omega, fun a ha => ?_, fun j hj => ?_⟩
    · show (((mtS s cA cI N K i).pushCell _).setCell s.heap.size _).heap[a]? = _
      rw [State.heap_setCell_other (Nat.ne_of_gt ha), State.heap_pushCell_of_lt (h := (show a < (mtS s cA cI N K i).heap.size by omega))]
      exact a5 a ha
    · show (((mtS s cA cI N K i).pushCell _).setCell s.heap.size _).heap[s.heap.size + 1 + j]? = _
      rw [State.heap_setCell_other (show s.heap.size ≠ s.heap.size + 1 + j by omega)]
      by_cases e : j = i
      · subst e
        rw [← a1]
        exact State.heap_pushCell_size _ _
      · rw [State.heap_pushCell_of_lt (h := (show s.heap.size + 1 + j < (mtS s cA cI N K i).heap.size by omega))]
        exact a6 j (by omega)
theorem mtS_top (s : State) (f : JFrame) (cA cI : ClassId) (N K : Nat) : ∀ i, mtS (s.setTop f) cA cI N K i = (mtS s cA cI N K i).setTop f
  | 0 => rfl
  | i + 1 => by simp only [mtS, mtS_top s f cA cI N K i, State.heap_setTop, State.pushCell_setTop, State.setCell_setTop]
section MTW
variable {E : CtlPost} {e : Env} {d : Bool} {acts : List Action} {s : State}
theorem mt_arr {c comp : ClassId} {k : Class} {ty : FieldType} {len : Nat} {init : Value} (hk : s.vm.classes[c]? = some k) (hkind : k.kind = .array comp ty) (hl : ¬ len > e.platform.arrayLengthLimit) (hh : ¬ len * componentBytes ty > e.platform.maxHeapBytes) (hfit : fits ty init = true) (hdef : init.isDefault = true) {Q : Addr → Pre} (h1 : s.heap.size < e.platform.maxCells) (h2 : s.slotsUsed + len ≤ e.platform.maxSlots) (hq : Q s.heap.size d acts (s.pushCell (arrV c len (fun _ => init)))) : wp (Jvm.newArray c len init) Q E e d acts s := by
  rw [← arrV_new] at hq
  have hf : ∀ i v, (Array.replicate len init)[i]? = some v → s.fitsSlot c .none i v = true := by
    intro i v hv
    rw [Array.getElem?_replicate] at hv
    by_cases q : i < len
    · rw [if_pos q] at hv
      cases hv
      simp [State.fitsSlot, State.slotType?, hk, hkind, hfit]
    · rw [if_neg q] at hv
      cases hv
  have ha : allocActs (Array.replicate len init) s.heap.size acts = acts := by
    unfold allocActs
    rw [if_pos]
    rw [Array.all_replicate]
    split <;> simp [hdef]
  simp only [Jvm.newArray, Jvm.arrayFits, wp_bind', W.ask, W.ite, hl, if_false, wp_pure', W.theClass, hk, hkind, hh, W.alloc, W.stop, Option.some.injEq, exists_eq_left', Array.size_replicate, ha]
  rw [if_neg (by omega)]
  exact ⟨h1, h2, hf, hq⟩
theorem mt_in {cI cc : ClassId} {kI : Class} {m : Int32} (hk : s.vm.classes[cI]? = some kI) (hkind : kI.kind = .array cc .int) (hm : ¬ m < 0) (hl : ¬ m.toNatClampNeg > e.platform.arrayLengthLimit) (hh : ¬ m.toNatClampNeg * componentBytes .int > e.platform.maxHeapBytes) (h1 : s.heap.size < e.platform.maxCells) (h2 : s.slotsUsed + m.toNatClampNeg ≤ e.platform.maxSlots) {Q : Addr → Pre} (hq : Q s.heap.size d acts (s.pushCell (arrV cI m.toNatClampNeg (fun _ => .int 0)))) : wp (multianewarray.make cI [m]) Q E e d acts s := by
  rw [multianewarray.make]
  simp only [wp_bind', W.ite, hm, if_false, wp_pure', W.theClass, hk, hkind, Option.some.injEq, exists_eq_left']
  exact mt_arr hk hkind hl hh rfl rfl h1 h2 hq
theorem mt_all {cA cI cc : ClassId} {kA kI : Class} {n m : Int32} (hA : s.vm.classes[cA]? = some kA) (hAk : kA.kind = .array cI (.array .int)) (hI : s.vm.classes[cI]? = some kI) (hIk : kI.kind = .array cc .int) (hn : ¬ n < 0) (hm : ¬ m < 0) (hl1 : ¬ n.toNatClampNeg > e.platform.arrayLengthLimit) (hh1 : ¬ n.toNatClampNeg * componentBytes (.array .int) > e.platform.maxHeapBytes) (hl2 : ¬ m.toNatClampNeg > e.platform.arrayLengthLimit) (hh2 : ¬ m.toNatClampNeg * componentBytes .int > e.platform.maxHeapBytes)
    (hc : s.heap.size + 1 + n.toNatClampNeg ≤ e.platform.maxCells) (hs : s.slotsUsed + n.toNatClampNeg + n.toNatClampNeg * m.toNatClampNeg ≤ e.platform.maxSlots) {Q : Addr → Pre} (hq : ∀ d' acts', Q s.heap.size d' acts' (mtS s cA cI n.toNatClampNeg m.toNatClampNeg n.toNatClampNeg)) : wp (multianewarray.make cA [n, m]) Q E e d acts s := by
  generalize hN : n.toNatClampNeg = N at hl1 hh1 hc hs hq
  generalize hK : m.toNatClampNeg = K at hl2 hh2 hs hq
  rw [multianewarray.make]
  simp only [wp_bind', W.ite, hn, if_false, wp_pure', W.theClass, hA, hAk, Option.some.injEq, exists_eq_left', hN]
  refine mt_arr hA hAk hl1 hh1 rfl rfl (by omega) (by have := Nat.zero_le (N * K); omega) ?_
  have hnone : ([m].find? (· < 0)) = none := by simp [hm]
  simp only [hnone]
  rw [ite_self, wp_bind', Std.Legacy.Range.forIn_eq_forIn_range']
  rw [show ([:N] : Std.Legacy.Range).size = N by simp [Std.Legacy.Range.size]]
  show wp (forIn (List.range' 0 N 1) PUnit.unit _) _ E e d acts _
  have e0 : s.pushCell (arrV cA N (fun _ => .null)) = mtS s cA cI N K 0 := by
    show _ = s.pushCell (mtC cA N s.heap.size 0)
    unfold mtC
    simp
  rw [e0]
  refine wp_forIn_inv (fun left u => ∃ i, i ≤ N ∧ left = List.range' i (N - i) ∧ u = mtS s cA cI N K i) _ _ ⟨0, Nat.zero_le _, rfl, rfl⟩ ?_ ?_
  · rintro x left u d' acts' Q' ⟨i, hi, hx, rfl⟩ next
    have hlt : i < N := by
      rcases Nat.lt_or_ge i N with q | q
      · exact q
      · rw [show N - i = 0 by omega] at hx
        cases hx
    rw [show N - i = (N - (i + 1)) + 1 by omega, List.range'_succ] at hx
    obtain ⟨rfl, hleft⟩ := List.cons.inj hx
    obtain ⟨f1, f2, f3, f4, f5, f6⟩ := mtS_facts s cA cI N K x
    have hmul : x * K + K ≤ N * K := by
      rw [← Nat.succ_mul]
      exact Nat.mul_le_mul_right K hlt
    simp only [wp_bind']
    refine mt_in (by rw [f3]; exact hI) hIk hm (by rw [hK]; exact hl2) (by rw [hK]; exact hh2) (by rw [f1]; omega) (by rw [f4, hK]; omega) ?_
    rw [hK]
    have h0 : s.heap.size < (mtS s cA cI N K x).heap.size := by rw [f1]; omega
    simp only [wp_bind', W.writeLoc, wp_pure']
    refine ⟨mtC cA N s.heap.size x, by rw [State.heap_pushCell_of_lt (h := h0)]; exact f2, by unfold mtC arrV; simp, by unfold mtC; rw [arrV_size]; exact hlt, ?_, next _ _ _ ⟨x + 1, hlt, hleft, ?_⟩⟩
    · unfold mtC arrV
      simp [State.fitsSlot, State.slotType?, f3, hA, hAk]
      rfl
    · rw [f1, mtC_next]
      rfl
  · rintro u d' acts' ⟨i, hi, hx, rfl⟩
    obtain rfl : i = N := by
      rcases Nat.lt_or_ge i N with q | q
      · rw [show N - i = (N - (i + 1)) + 1 by omega, List.range'_succ] at hx
        cases hx
      · omega
    simp only [wp_pure']
    exact hq _ _
end MTW
