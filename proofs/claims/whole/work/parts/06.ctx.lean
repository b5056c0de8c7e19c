/-! CONTEXT AND JUDGEMENT -/
abbrev zG : Type := va_G × (Nat → ClassId) × (Nat → Nat)
def zty (tc : Nat → ClassId) : List (ClassId × FieldType) := [(tc 0, .int), (tc 1, .boolean), (tc 2, .char), (tc 3, .object RX5), (tc 4, .object RX0), (tc 5, .object RX8), (tc 6, .array .int), (tc 7, .object RX2), (tc 8, .object RX3)]
def zabv (k : Nat) : Int32 := match k with
  | 0 => -1
  | 1 => 0
  | 2 => 0
  | 3 => 1
  | 4 => 2
  | _ => 0
def zlen : List Nat := [3, 3, 4, 3, 2, 2]
def zbyt : List (List Int32) := [[115, 101, 116], [102, 101, 101], [102, 105, 110, 101], [108, 104, 100], [116, 98], [119, 100]]
def zsix (i : Nat) : Nat := match i with
  | 0 => 71
  | 1 => 80
  | 2 => 82
  | 3 => 124
  | 4 => 126
  | _ => 128
def zstx (i : Nat) : String := match i with
  | 0 => "set"
  | 1 => "fee"
  | 2 => "fine"
  | 3 => "lhd"
  | 4 => "tb"
  | _ => "wd"
/-- what stays as it was at the law's start, seen from a state -/
def zAmb (G : zG) (b : Nat) (U : State) : Prop :=
  va_K G.1 vwCl (zty G.2.1) U ∧ va_Nw (.methodLinkNest RX0 44 yX9_held "MeanSafe") U ∧ va_Nw (.fieldLinkNest RX0 34 "MeanSafe" "ABOVE" "[I" "MeanSafe") U ∧
  va_Z "MeanSafe" "ABOVE" "[I" (.ref (G.2.2 0)) (fun q => b ≤ q) U U.heap ∧ (va_X (G.2.2 0) 6 zabv U U.heap ∧ G.2.2 0 < b) ∧
  vk_S 6 zlen zbyt (fun i => G.2.2 (1 + i)) (fun i => G.2.2 (10 + i)) (fun q => b ≤ q) U U.heap ∧ (∀ i, i < 6 → vk_R RX1 (zsix i) (zstx i) (G.2.2 (1 + i)) U) ∧
  va_Z "java/lang/String" "COMPACT_STRINGS" "Z" (.int 1) (fun q => b ≤ q) U U.heap ∧ va_Zq "jdk/internal/util/Preconditions" "SIOOBE_FORMATTER" "Ljava/util/function/BiFunction;" (fun q => b ≤ q) U U.heap
theorem zAmb.same {G : zG} {b : Nat} {u U : State} (hv : u.vm = U.vm) (hh : u.heap = U.heap) (h : zAmb G b u) : zAmb G b U := by
  obtain ⟨h1, h2, h3, h4, h5, h6, h7, h8, h9⟩ := h
  have hA : u.vm.Alike U.vm := by rw [hv]; exact Vm.Alike.refl _
  rw [hh] at h4 h5 h6 h8 h9
  exact ⟨h1.moved hA, va_Nw.same rfl hv h2, va_Nw.same rfl hv h3, h4.moved hA, ⟨h5.1.moved hA, h5.2⟩, h6.moved hA, fun i hi => vk_R.same hv.symm (h7 i hi), h8.moved hA, h9.moved hA⟩
theorem zAmb.go {G : zG} {b : Nat} {u U : State} (hW : u.WarmedH U.vm) (hh : ∀ q : Nat, q < u.heap.size → ¬ b ≤ q → U.heap[q]? = u.heap[q]?) (h : zAmb G b u) : zAmb G b U := by
  obtain ⟨h1, h2, h3, h4, h5, h6, h7, h8, h9⟩ := h
  have hA : u.vm.Alike U.vm := hW.alike
  have hq : U.heap[G.2.2 0]? = u.heap[G.2.2 0]? := by
    obtain ⟨scr, e, -⟩ := h5.1
    exact hh _ (Array.getElem?_eq_some_iff.mp e).1 (by have := h5.2; omega)
  exact ⟨h1.moved hA, va_Nw.warmM hW h2, va_Nw.warmF hW h3, (h4.kept hh).moved hA, ⟨(h5.1.kept hq).moved hA, h5.2⟩, (h6.kept hh).moved hA, fun i hi => vk_R.warm hW (h7 i hi), (h8.kept hh).moved hA, (h9.kept hh).moved hA⟩
def zsz (x : zS) : Nat := match x.2 with
  | .inl o => o.2.length
  | .inr (.inl a) => a.2
  | .inr (.inr a) => a.2.length
def zsl (sh : List zS) : Nat := (sh.map zsz).sum
abbrev zX : Type := Program × Launch × Env × Room × State × MethodId × Array Value × List Frame × Method × Code × (State → Prop) × Nat × Nat × zG × Nat
/-- the machine, in this frame, with this picture, comes to where it should -/
def zW (X : zX) (sh : List zS) (M : zM) (pc : Nat) (L : List (Option Value)) (st : List Value) : Prop := match X with
  | (p, l, e, R, s, m, args, below, meth, c, Q, n0, s0, G, b) => ∀ (H : Heap) (locs : List Loc) (ls : Array Slot), va_P G.1 vwCl (zws sh b G.2.1 M) H → (sh.length < 262 → H.size = b + sh.length) → va_S (fun q => b ≤ q) s.heap H locs → zND sh → (n0 ≤ sh.length ∧ sh.length - n0 ≤ R.cells) → (s0 ≤ zsl sh ∧ zsl sh - s0 ≤ R.slots) → zLs ls c.maxLocals L → W p l e R s m args below meth c H locs (sh.length - n0) (zsl sh - s0) Q (F0 m pc ls st)
/-- what is known while a body runs -/
def zOK (X : zX) (l : Launch) (G : zG) (b : Nat) (cc : ByteArray) (nL : Nat) (own : String) (d : Nat) : Prop := match X with
  | (p, l', _, R, s, m, args, _, _, c, _, _, _, G', b') => l' = l ∧ G' = G ∧ b' = b ∧ p.tables.exec = Jvm.exec ∧ c.code = cc ∧ c.maxLocals = nL ∧ s.vm.findClass own = some m.cls ∧ (∀ w ∈ zT, w.before args s = true) ∧ zAmb G b s ∧ b ≤ s.heap.size ∧ d ≤ R.frames ∧ 40 * d ≤ R.locals
/-- room for what is made -/
def zAl (X : zX) (n0 s0 mc ms : Nat) : Prop := match X with
  | (_, _, _, R, _, _, _, _, _, _, _, n0', s0', _, _) => n0' = n0 ∧ s0' = s0 ∧ mc ≤ R.cells ∧ ms ≤ R.slots
def zQ (G : zG) (b : Nat) (sh' : List zS) (post : Option Value → zM → Prop) : Array Value → State → Outcome → State → Prop := fun _ st o t => ∃ (r : Option Value) (M' : zM), o = .returned r ∧ post r M' ∧ va_P G.1 vwCl (zws sh' b G.2.1 M') t.heap ∧ (sh'.length < 262 → t.heap.size = b + sh'.length) ∧ zND sh' ∧ va_F (fun q => b ≤ q) st t
def zP (G : zG) (b : Nat) (sh : List zS) (M : zM) (av : List Value) : Array Value → State → Prop := va_Pc av (fun U => zAmb G b U ∧ va_P G.1 vwCl (zws sh b G.2.1 M) U.heap ∧ (sh.length < 262 → U.heap.size = b + sh.length) ∧ b ≤ U.heap.size ∧ zND sh)
/-- how it returns -/
def zRt (X : zX) (ret : Option FieldType) (sh' : List zS) (post : Option Value → zM → Prop) : Prop := match X with
  | (_, _, _, _, s, _, args, below, meth, _, Q, n0, s0, G, b) => meth.sig.returnType = ret ∧ meth.locks = false ∧ Q = MQ below (zQ G b sh' post) args s (sh'.length - n0) (zsl sh' - s0) (fun q => b ≤ q)
/-- a method's contract -/
def zMet (l : Launch) (G : zG) (b : Nat) (y : MethodName) (cc : ByteArray) (nL : Nat) (ret : Option FieldType) (h : Nat) (sh sh' : List zS) (av : List Value) (M : zM) (post : Option Value → zM → Prop) : Prop :=
  sh.length ≤ sh'.length ∧ zsl sh ≤ zsl sh' ∧ Met l y (Cond.code y cc nL ret :: zT) { frames := h, cells := sh'.length - sh.length, slots := zsl sh' - zsl sh, locals := 40 * h } (zP G b sh M av) (zQ G b sh' post) (sh'.length - sh.length) (zsl sh' - zsl sh) (fun q => b ≤ q)
theorem zP.blind {G : zG} {b : Nat} {sh : List zS} {M : zM} {av : List Value} : FrameBlind (zP G b sh M av) := by
  intro a U g mk h
  obtain ⟨h1, h2, h3, h4, h5, h6⟩ := h
  exact ⟨h1, h2.same (u := U) (U := U.calling g mk a) rfl rfl, h3, h4, h5, h6⟩
theorem zMet.of {l : Launch} {G : zG} {b : Nat} {y : MethodName} {cc : ByteArray} {nL : Nat} {ret : Option FieldType} {h : Nat} {sh sh' : List zS} {av : List Value} {M : zM} {post : Option Value → zM → Prop} {L0 : List (Option Value)}
    (hy : plainName y.cls = true) (hle : sh.length ≤ sh'.length) (hsl : zsl sh ≤ zsl sh') (hav : av.length ≤ nL) (hcat : ∀ v ∈ av, v.category = 1) (hL0 : av.map some ++ List.replicate (nL - av.length) none = L0)
    (body : ∀ X : zX, zOK X l G b cc nL y.cls h → zAl X sh.length (zsl sh) (sh'.length - sh.length) (zsl sh' - zsl sh) → zRt X ret sh' post → zW X sh M 0 L0 []) : zMet l G b y cc nL ret h sh sh' av M post := by
  refine ⟨hle, hsl, Met.ofW (cc := cc) (maxL := nL) (ret := ret) hy rfl ?_⟩
  intro p e s m args below meth c s₁ B hml hv
  obtain ⟨rfl, hAm, hP, hz, hbz, hN⟩ := hv
  have hts := atoms_spec (ws := Cond.code y cc nL ret :: zT) B.pre
  have K := body (p, l, e, (headSpec (Cond.code y cc nL ret :: zT) { frames := h, cells := sh'.length - sh.length, slots := zsl sh' - zsl sh, locals := 40 * h }).room, s, m, av.toArray, below, meth, c, MQ below (zQ G b sh' post) av.toArray s (sh'.length - sh.length) (zsl sh' - zsl sh) (fun q => b ≤ q), sh.length, zsl sh, G, b)
    ⟨rfl, rfl, rfl, B.exec, B.bytes, hml, findClass_of_methodNamed B.named, fun w hw => hts w (List.mem_cons_of_mem _ hw), hAm, hbz, Nat.le_refl _, Nat.le_refl _⟩ ⟨rfl, rfl, Nat.le_refl _, Nat.le_refl _⟩ ⟨B.returns, B.notSynchronized, rfl⟩
  have hE := zLs.entry av hav hcat
  rw [hL0] at hE
  have KW := K s.heap [] _ hP hz va_S.rf hN ⟨Nat.le_refl _, by rw [Nat.sub_self]; exact Nat.zero_le _⟩ ⟨Nat.le_refl _, by rw [Nat.sub_self]; exact Nat.zero_le _⟩ (by rw [hml]; exact hE)
  rw [Nat.sub_self, Nat.sub_self] at KW
  rw [lg_entry_eq]
  exact KW
theorem zMet.post {l : Launch} {G : zG} {b : Nat} {y : MethodName} {cc : ByteArray} {nL : Nat} {ret : Option FieldType} {h : Nat} {sh sh' : List zS} {av : List Value} {M : zM} {post post' : Option Value → zM → Prop} (hM : zMet l G b y cc nL ret h sh sh' av M post) (hp : ∀ r M', post r M' → post' r M') : zMet l G b y cc nL ret h sh sh' av M post' := by
  refine ⟨hM.1, hM.2.1, ?_⟩
  have h3 := hM.2.2
  intro p e ha hc hk s m args below hf happ hP hK
  obtain ⟨k, o, h1, h2, h3', hq, hfr⟩ := h3 p e ha hc hk s m args below hf happ hP hK
  obtain ⟨r, M', e1, e2, e3⟩ := hq
  exact ⟨k, o, h1, h2, h3', ⟨r, M', e1, hp r M' e2, e3⟩, hfr⟩
def zI (p : Int32 → zM → Prop) : Option Value → zM → Prop := fun r M' => ∃ v : Int32, r = some (.int v) ∧ p v M'
def zV (p : zM → Prop) : Option Value → zM → Prop := fun r M' => r = none ∧ p M'
def zR (b : Nat) (p : Nat → zM → Prop) : Option Value → zM → Prop := fun r M' => ∃ k : Nat, r = some (.ref (b + k)) ∧ p k M'
section ZROWS
variable {X : zX} {l : Launch} {G : zG} {b : Nat} {cc : ByteArray} {nL : Nat} {own : String} {d : Nat} {sh : List zS} {M : zM} {pc : Nat} {L : List (Option Value)} {st : List Value}
theorem z_iconst (C : zOK X l G b cc nL own d) {n : Int} {v : Int32} (hdg : decode cc pc = .ok (.iconst n, 1)) (hv : Int32.ofInt n = v) (kk : zW X sh M (pc + 1) L (.int v :: st)) : zW X sh M pc L st := by
  obtain ⟨p, l', e, R, s, m, args, below, meth, c, Q, n0, s0, G', b'⟩ := X
  obtain ⟨rfl, rfl, rfl, hx, hb, -⟩ := C
  intro H locs ls hP hz hS hN hn hs hL
  exact lv_iconst hx hb hdg hv (kk H locs ls hP hz hS hN hn hs hL)
theorem z_bipush (C : zOK X l G b cc nL own d) {n : Int} {v : Int32} (hdg : decode cc pc = .ok (.bipush n, 2)) (hv : (Int8.ofInt n).toInt32 = v) (kk : zW X sh M (pc + 2) L (.int v :: st)) : zW X sh M pc L st := by
  obtain ⟨p, l', e, R, s, m, args, below, meth, c, Q, n0, s0, G', b'⟩ := X
  obtain ⟨rfl, rfl, rfl, hx, hb, -⟩ := C
  intro H locs ls hP hz hS hN hn hs hL
  exact lv_bipush hx hb hdg hv (kk H locs ls hP hz hS hN hn hs hL)
theorem z_sipush (C : zOK X l G b cc nL own d) {n : Int} {v : Int32} (hdg : decode cc pc = .ok (.sipush n, 3)) (hv : (Int16.ofInt n).toInt32 = v) (kk : zW X sh M (pc + 3) L (.int v :: st)) : zW X sh M pc L st := by
  obtain ⟨p, l', e, R, s, m, args, below, meth, c, Q, n0, s0, G', b'⟩ := X
  obtain ⟨rfl, rfl, rfl, hx, hb, -⟩ := C
  intro H locs ls hP hz hS hN hn hs hL
  exact lv_sipush hx hb hdg hv (kk H locs ls hP hz hS hN hn hs hL)
theorem z_ldc (C : zOK X l G b cc nL own d) {index : Nat} {v : Int32} (hw : Cond.constant own index v ∈ zT) (hdg : decode cc pc = .ok (.ldc index, 2)) (kk : zW X sh M (pc + 2) L (.int v :: st)) : zW X sh M pc L st := by
  obtain ⟨p, l', e, R, s, m, args, below, meth, c, Q, n0, s0, G', b'⟩ := X
  obtain ⟨rfl, rfl, rfl, hx, hb, -, hown, hts, -⟩ := C
  intro H locs ls hP hz hS hN hn hs hL
  exact lv_ldc hx hb hown (hts _ hw) hdg (kk H locs ls hP hz hS hN hn hs hL)
theorem z_ldcw (C : zOK X l G b cc nL own d) {index : Nat} {v : Int32} (hw : Cond.constant own index v ∈ zT) (hdg : decode cc pc = .ok (.ldc_w index, 3)) (kk : zW X sh M (pc + 3) L (.int v :: st)) : zW X sh M pc L st := by
  obtain ⟨p, l', e, R, s, m, args, below, meth, c, Q, n0, s0, G', b'⟩ := X
  obtain ⟨rfl, rfl, rfl, hx, hb, -, hown, hts, -⟩ := C
  intro H locs ls hP hz hS hN hn hs hL
  exact lv_ldcw hx hb hown (hts _ hw) hdg (kk H locs ls hP hz hS hN hn hs hL)
theorem z_iload_n (C : zOK X l G b cc nL own d) {k : Fin 4} (i : Nat) {x : Int32} (hdg : decode cc pc = .ok (.iload_n k, 1)) (hi : (k : Nat) = i) (hl : L[i]? = some (some (.int x))) (kk : zW X sh M (pc + 1) L (.int x :: st)) : zW X sh M pc L st := by
  obtain ⟨p, l', e, R, s, m, args, below, meth, c, Q, n0, s0, G', b'⟩ := X
  obtain ⟨rfl, rfl, rfl, hx, hb, -⟩ := C
  intro H locs ls hP hz hS hN hn hs hL
  exact lv_iload_n hx hb hdg hi (hL.get hl) (kk H locs ls hP hz hS hN hn hs hL)
theorem z_iload (C : zOK X l G b cc nL own d) (i : Nat) {x : Int32} (hdg : decode cc pc = .ok (.iload i, 2)) (hl : L[i]? = some (some (.int x))) (kk : zW X sh M (pc + 2) L (.int x :: st)) : zW X sh M pc L st := by
  obtain ⟨p, l', e, R, s, m, args, below, meth, c, Q, n0, s0, G', b'⟩ := X
  obtain ⟨rfl, rfl, rfl, hx, hb, -⟩ := C
  intro H locs ls hP hz hS hN hn hs hL
  exact lv_iload hx hb hdg (hL.get hl) (kk H locs ls hP hz hS hN hn hs hL)
theorem z_aload_n (C : zOK X l G b cc nL own d) {k : Fin 4} (i : Nat) {x : Nat} (hdg : decode cc pc = .ok (.aload_n k, 1)) (hi : (k : Nat) = i) (hl : L[i]? = some (some (.ref x))) (kk : zW X sh M (pc + 1) L (.ref x :: st)) : zW X sh M pc L st := by
  obtain ⟨p, l', e, R, s, m, args, below, meth, c, Q, n0, s0, G', b'⟩ := X
  obtain ⟨rfl, rfl, rfl, hx, hb, -⟩ := C
  intro H locs ls hP hz hS hN hn hs hL
  exact lv_aload_n hx hb hdg hi (hL.get hl) (kk H locs ls hP hz hS hN hn hs hL)
theorem z_aload (C : zOK X l G b cc nL own d) (i : Nat) {x : Nat} (hdg : decode cc pc = .ok (.aload i, 2)) (hl : L[i]? = some (some (.ref x))) (kk : zW X sh M (pc + 2) L (.ref x :: st)) : zW X sh M pc L st := by
  obtain ⟨p, l', e, R, s, m, args, below, meth, c, Q, n0, s0, G', b'⟩ := X
  obtain ⟨rfl, rfl, rfl, hx, hb, -⟩ := C
  intro H locs ls hP hz hS hN hn hs hL
  exact lv_aload hx hb hdg (hL.get hl) (kk H locs ls hP hz hS hN hn hs hL)
theorem z_istore_n (C : zOK X l G b cc nL own d) {k : Fin 4} (i : Nat) {x : Int32} {L' : List (Option Value)} (hdg : decode cc pc = .ok (.istore_n k, 1)) (hi : (k : Nat) = i) (hn : i < nL) (hl : L.set i (some (.int x)) = L') (kk : zW X sh M (pc + 1) L' st) : zW X sh M pc L (.int x :: st) := by
  obtain ⟨p, l', e, R, s, m, args, below, meth, c, Q, n0, s0, G', b'⟩ := X
  obtain ⟨rfl, rfl, rfl, hx, hb, hml, -⟩ := C
  subst hl
  intro H locs ls hP hz hS hN hn' hs hL
  exact lv_istore_n hx hb hdg hi hL.1 (by rw [hml]; exact hn) rfl (fun ls' h' => kk H locs ls' hP hz hS hN hn' hs (zLs.store hL.2 rfl h'))
theorem z_istore (C : zOK X l G b cc nL own d) (i : Nat) {x : Int32} {L' : List (Option Value)} (hdg : decode cc pc = .ok (.istore i, 2)) (hn : i < nL) (hl : L.set i (some (.int x)) = L') (kk : zW X sh M (pc + 2) L' st) : zW X sh M pc L (.int x :: st) := by
  obtain ⟨p, l', e, R, s, m, args, below, meth, c, Q, n0, s0, G', b'⟩ := X
  obtain ⟨rfl, rfl, rfl, hx, hb, hml, -⟩ := C
  subst hl
  intro H locs ls hP hz hS hN hn' hs hL
  exact lv_istore hx hb hdg hL.1 (by rw [hml]; exact hn) rfl (fun ls' h' => kk H locs ls' hP hz hS hN hn' hs (zLs.store hL.2 rfl h'))
theorem z_astore_n (C : zOK X l G b cc nL own d) {k : Fin 4} (i : Nat) {x : Nat} {L' : List (Option Value)} (hdg : decode cc pc = .ok (.astore_n k, 1)) (hi : (k : Nat) = i) (hn : i < nL) (hl : L.set i (some (.ref x)) = L') (kk : zW X sh M (pc + 1) L' st) : zW X sh M pc L (.ref x :: st) := by
  obtain ⟨p, l', e, R, s, m, args, below, meth, c, Q, n0, s0, G', b'⟩ := X
  obtain ⟨rfl, rfl, rfl, hx, hb, hml, -⟩ := C
  subst hl
  intro H locs ls hP hz hS hN hn' hs hL
  exact lv_astore_n hx hb hdg hi hL.1 (by rw [hml]; exact hn) rfl (fun ls' h' => kk H locs ls' hP hz hS hN hn' hs (zLs.store hL.2 rfl h'))
theorem z_astore (C : zOK X l G b cc nL own d) (i : Nat) {x : Nat} {L' : List (Option Value)} (hdg : decode cc pc = .ok (.astore i, 2)) (hn : i < nL) (hl : L.set i (some (.ref x)) = L') (kk : zW X sh M (pc + 2) L' st) : zW X sh M pc L (.ref x :: st) := by
  obtain ⟨p, l', e, R, s, m, args, below, meth, c, Q, n0, s0, G', b'⟩ := X
  obtain ⟨rfl, rfl, rfl, hx, hb, hml, -⟩ := C
  subst hl
  intro H locs ls hP hz hS hN hn' hs hL
  exact lv_astore hx hb hdg hL.1 (by rw [hml]; exact hn) rfl (fun ls' h' => kk H locs ls' hP hz hS hN hn' hs (zLs.store hL.2 rfl h'))
theorem z_iinc (C : zOK X l G b cc nL own d) (i : Nat) {n : Int} {x v : Int32} {L' : List (Option Value)} (hdg : decode cc pc = .ok (.iinc i n, 3)) (hn : i < nL) (hg : L[i]? = some (some (.int x))) (hv : Int32.ofInt n = v) (hl : L.set i (some (.int (x + v))) = L') (kk : zW X sh M (pc + 3) L' st) : zW X sh M pc L st := by
  obtain ⟨p, l', e, R, s, m, args, below, meth, c, Q, n0, s0, G', b'⟩ := X
  obtain ⟨rfl, rfl, rfl, hx, hb, hml, -⟩ := C
  subst hl
  intro H locs ls hP hz hS hN hn' hs hL
  obtain ⟨k, hk⟩ := List.getElem?_of_mem ((zpl_mem (i, .int x) L 0).mpr ⟨Nat.zero_le _, hg⟩)
  exact lv_iinc hx hb hdg hL.1 hk (by rw [hv]) (by rw [hml]; exact hn) rfl (fun ls' h' => kk H locs ls' hP hz hS hN hn' hs (zLs.store hL.2 rfl h'))
end ZROWS
