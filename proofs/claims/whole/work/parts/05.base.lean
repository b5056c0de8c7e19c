/-! THE PICTURE: cells by numbers from the base b on; their ints in one table M (kind, i, j, place) -/
def zT : List Cond := lw_tbl.filter goodWord
theorem zT_good : GoodIn zT zT := fun w h => ⟨h, good_of_word (List.mem_filter.mp h).2⟩
theorem zT_in {w : Cond} (h : w ∈ lw_tbl) (g : goodWord w = true) : w ∈ zT := List.mem_filter.mpr ⟨h, g⟩
theorem zT_code {y : MethodName} {cc : ByteArray} {n : Nat} {ret : Option FieldType} (h : Cond.code y cc n ret ∈ zT) : GoodIn zT (Cond.code y cc n ret :: zT) := fun w hw => (List.mem_cons.mp hw).elim (fun e => e ▸ zT_good _ h) (fun h => zT_good _ h)
abbrev zM : Type := Nat → Nat → Nat → Nat → Int32
def zu (M : zM) (a i j f : Nat) (v : Int32) : zM := fun a' i' j' f' => if a' = a ∧ i' = i ∧ j' = j ∧ f' = f then v else M a' i' j' f'
theorem zu_self (M : zM) (a i j f : Nat) (v : Int32) : zu M a i j f v a i j f = v := if_pos ⟨rfl, rfl, rfl, rfl⟩
theorem zu_ne (M : zM) {a i j f a' i' j' f' : Nat} (v : Int32) (h : ¬ (a' = a ∧ i' = i ∧ j' = j ∧ f' = f)) : zu M a i j f v a' i' j' f' = M a' i' j' f' := if_neg h
abbrev zB : Type := (Nat × List (Option (Option Nat))) ⊕ (Nat × Nat) ⊕ (Nat × List (Option Nat))
abbrev zS : Type := (Nat × Nat × Nat) × zB
def zrv (b : Nat) (o : Option Nat) : Value := match o with
  | none => .null
  | some r => .ref (b + r)
def zfv (b : Nat) (f : Nat → Int32) (k : Nat) (o : Option (Option Nat)) : Value := match o with
  | none => .int (f k)
  | some x => zrv b x
def zat (M : zM) (q : Nat × Nat × Nat) : Nat → Int32 := M q.1 q.2.1 q.2.2
def zE (b : Nat) (tc : Nat → ClassId) (M : zM) (x : zS) : va_E := match x.2 with
  | .inl o => .inr (o.1, o.2.mapIdx (zfv b (zat M x.1)))
  | .inr (.inl a) => .inl (tc a.1, a.2, .inl (zat M x.1))
  | .inr (.inr a) => .inl (tc a.1, a.2.length, .inr (.inr (.inr (.inr (fun k => ((a.2.getD k none).map (fun r => b + r)))))))
def zws (sh : List zS) (b : Nat) (tc : Nat → ClassId) (M : zM) : va_W := sh.mapIdx (fun k x => (b + k, zE b tc M x))
def zND (sh : List zS) : Prop := ∀ (i j : Nat) (x y : zS), sh[i]? = some x → sh[j]? = some y → x.1 = y.1 → i = j
theorem zws_get {sh : List zS} {b : Nat} {tc : Nat → ClassId} {M : zM} {k : Nat} {x : zS} (h : sh[k]? = some x) : (zws sh b tc M)[k]? = some (b + k, zE b tc M x) := by
  simp [zws, List.getElem?_mapIdx, h]
theorem zE_congr {b : Nat} {tc : Nat → ClassId} {M M' : zM} {x : zS} (h : zat M x.1 = zat M' x.1) : zE b tc M x = zE b tc M' x := by
  unfold zE
  rw [h]
theorem zws_set {sh : List zS} {b : Nat} {tc : Nat → ClassId} {M M' : zM} {k : Nat} {x : zS} (hN : zND sh) (h : sh[k]? = some x) (ho : ∀ q, q ≠ x.1 → zat M q = zat M' q) : (zws sh b tc M).set k (b + k, zE b tc M' x) = zws sh b tc M' := by
  apply List.ext_getElem?
  intro j
  by_cases e : j = k
  · subst e
    rw [zws_get h, List.getElem?_set_self]
    have hl := (List.getElem?_eq_some_iff.mp h).1
    simpa [zws] using hl
  · rw [List.getElem?_set_ne (Ne.symm e)]
    simp only [zws, List.getElem?_mapIdx]
    cases hj : sh[j]? with
    | none => rfl
    | some y =>
      simp only [Option.map_some]
      rw [zE_congr (ho y.1 (fun q => e (hN j k y x hj h q)))]
theorem zws_len (sh : List zS) (b : Nat) (tc : Nat → ClassId) (M : zM) : (zws sh b tc M).length = sh.length := by simp [zws]
theorem zws_D (sh : List zS) (b : Nat) (tc : Nat → ClassId) (M : zM) : va_D (fun q => b ≤ q) (zws sh b tc M) := by
  have key : ∀ (k : Nat) (q : Nat × va_E), (zws sh b tc M)[k]? = some q → q.1 = b + k := by
    intro k q h
    simp only [zws, List.getElem?_mapIdx] at h
    cases hs : sh[k]? with
    | none => rw [hs] at h; cases h
    | some x => rw [hs] at h; cases h; rfl
  refine ⟨fun i j p q hi hj e => ?_, fun k q hk => ?_⟩
  · have h1 := key i p hi
    have h2 := key j q hj
    omega
  · have h1 := key k q hk
    show b ≤ q.1
    omega
theorem zat_zu_self (M : zM) (a i j f : Nat) (v : Int32) (k : Nat) : zat (zu M a i j f v) (a, i, j) k = if k = f then v else zat M (a, i, j) k := by
  by_cases h : k = f
  · subst h
    simp [zat, zu]
  · simp [zat, zu, h]
theorem zat_zu_ne (M : zM) (a i j f : Nat) (v : Int32) (q : Nat × Nat × Nat) (h : q ≠ (a, i, j)) : zat M q = zat (zu M a i j f v) q := by
  funext k
  obtain ⟨a', i', j'⟩ := q
  simp only [zat, zu]
  rw [if_neg]
  rintro ⟨rfl, rfl, rfl, -⟩
  exact h rfl
/-- fields: an int is stored -/
theorem zfs_set {b : Nat} {M : zM} {a i j f : Nat} {v : Int32} {fl : List (Option (Option Nat))} (h : fl[f]? = some none) : (fl.mapIdx (zfv b (zat M (a, i, j)))).set f (.int v) = fl.mapIdx (zfv b (zat (zu M a i j f v) (a, i, j))) := by
  apply List.ext_getElem?
  intro k
  have hl := (List.getElem?_eq_some_iff.mp h).1
  by_cases e : k = f
  · subst e
    rw [List.getElem?_set_self (by simpa using hl)]
    simp only [List.getElem?_mapIdx, h, Option.map_some, zfv]
    rw [zat_zu_self, if_pos rfl]
  · rw [List.getElem?_set_ne (Ne.symm e)]
    simp only [List.getElem?_mapIdx]
    cases hk : fl[k]? with
    | none => rfl
    | some o =>
      simp only [Option.map_some]
      cases o with
      | none =>
        simp only [zfv]
        rw [zat_zu_self, if_neg e]
      | some x => rfl
/-- fields: a reference is stored -/
theorem zfs_setR {b : Nat} {f : Nat → Int32} {k r : Nat} {fl : List (Option (Option Nat))} (h : k < fl.length) : (fl.mapIdx (zfv b f)).set k (.ref (b + r)) = (fl.set k (some (some r))).mapIdx (zfv b f) := by
  apply List.ext_getElem?
  intro j
  by_cases e : j = k
  · subst e
    rw [List.getElem?_set_self (by simpa using h)]
    simp [List.getElem?_mapIdx, h, zfv, zrv]
  · rw [List.getElem?_set_ne (Ne.symm e)]
    simp [List.getElem?_mapIdx, List.getElem?_set_ne (Ne.symm e)]
/-- locals -/
def zpl : Nat → List (Option Value) → List (Nat × Value)
  | _, [] => []
  | n, none :: r => zpl (n + 1) r
  | n, some v :: r => (n, v) :: zpl (n + 1) r
theorem zpl_mem (q : Nat × Value) : ∀ (L : List (Option Value)) (n : Nat), q ∈ zpl n L ↔ n ≤ q.1 ∧ L[q.1 - n]? = some (some q.2)
  | [], n => by simp [zpl]
  | none :: r, n => by
    rw [zpl, zpl_mem q r (n + 1)]
    constructor
    · rintro ⟨h1, h2⟩
      refine ⟨by omega, ?_⟩
      rw [show q.1 - n = (q.1 - (n + 1)) + 1 by omega, List.getElem?_cons_succ]
      exact h2
    · rintro ⟨h1, h2⟩
      by_cases e : q.1 = n
      · rw [e, Nat.sub_self] at h2
        cases h2
      · refine ⟨by omega, ?_⟩
        rw [show q.1 - n = (q.1 - (n + 1)) + 1 by omega, List.getElem?_cons_succ] at h2
        exact h2
  | some v :: r, n => by
    rw [zpl, List.mem_cons, zpl_mem q r (n + 1)]
    constructor
    · rintro (h | ⟨h1, h2⟩)
      · subst h
        exact ⟨Nat.le_refl _, by simp⟩
      · refine ⟨by omega, ?_⟩
        rw [show q.1 - n = (q.1 - (n + 1)) + 1 by omega, List.getElem?_cons_succ]
        exact h2
    · rintro ⟨h1, h2⟩
      by_cases e : q.1 = n
      · rw [e, Nat.sub_self] at h2
        left
        obtain ⟨q1, q2⟩ := q
        simp only [List.getElem?_cons_zero, Option.some.injEq] at h2 e
        rw [e, h2]
      · right
        refine ⟨by omega, ?_⟩
        rw [show q.1 - n = (q.1 - (n + 1)) + 1 by omega, List.getElem?_cons_succ] at h2
        exact h2
def zLs (ls : Array Slot) (nL : Nat) (L : List (Option Value)) : Prop := lv_has ls nL (zpl 0 L) ∧ ∀ (i : Nat) (v : Value), L[i]? = some (some v) → v.category = 1
theorem zLs.get {ls : Array Slot} {nL : Nat} {L : List (Option Value)} (h : zLs ls nL L) {i : Nat} {v : Value} (hi : L[i]? = some (some v)) : ls[i]? = some (.val v) :=
  h.1.2.2 (i, v) ((zpl_mem (i, v) L 0).mpr ⟨Nat.zero_le _, hi⟩)
theorem zLs.store {ls' : Array Slot} {nL : Nat} {L : List (Option Value)} {i : Nat} {v : Value} (hL : ∀ (i : Nat) (v : Value), L[i]? = some (some v) → v.category = 1) (hv : v.category = 1) (h : lv_has ls' nL ((i, v) :: (zpl 0 L).filter (fun q => !(q.1 == i) && !(q.1 + 1 == i && q.2.category == 2)))) : zLs ls' nL (L.set i (some v)) := by
  have key : ∀ (k : Nat) (w : Value), (L.set i (some v))[k]? = some (some w) → (k = i ∧ w = v) ∨ (k ≠ i ∧ L[k]? = some (some w)) := by
    intro k w hk
    by_cases e : k = i
    · subst e
      left
      by_cases hl : k < L.length
      · rw [List.getElem?_set_self hl] at hk
        cases hk
        exact ⟨rfl, rfl⟩
      · rw [List.getElem?_eq_none (by simpa using hl)] at hk
        cases hk
    · rw [List.getElem?_set_ne (Ne.symm e)] at hk
      exact Or.inr ⟨e, hk⟩
  refine ⟨⟨h.1, h.2.1, fun q hq => ?_⟩, fun k w hk => ?_⟩
  · obtain ⟨-, hq⟩ := (zpl_mem q _ 0).mp hq
    rcases key q.1 q.2 hq with ⟨e1, e2⟩ | ⟨e1, e2⟩
    · have := h.2.2 (i, v) List.mem_cons_self
      rw [e1, e2]
      exact this
    · refine h.2.2 q (List.mem_cons_of_mem _ (List.mem_filter.mpr ⟨(zpl_mem q L 0).mpr ⟨Nat.zero_le _, e2⟩, ?_⟩))
      have hc := hL _ _ e2
      simp [e1, hc]
  · rcases key k w hk with ⟨-, e2⟩ | ⟨-, e2⟩
    · rw [e2]; exact hv
    · exact hL _ _ e2
theorem zpl_args : ∀ (vs : List Value) (n : Nat), (∀ v ∈ vs, v.category = 1) → lv_args n vs = zpl n (vs.map some)
  | [], _, _ => rfl
  | v :: vs, n, h => by
    have hv : ¬ v.category = 2 := by rw [h v List.mem_cons_self]; decide
    rw [lv_args, List.map_cons, zpl, if_neg hv, zpl_args vs (n + 1) (fun w hw => h w (List.mem_cons_of_mem _ hw))]
theorem zpl_pad : ∀ (L : List (Option Value)) (n k : Nat), zpl n (L ++ List.replicate k none) = zpl n L
  | [], n, 0 => rfl
  | [], n, k + 1 => by
    rw [List.nil_append, List.replicate_succ, zpl]
    exact zpl_pad [] (n + 1) k
  | none :: r, n, k => by rw [List.cons_append, zpl, zpl, zpl_pad r (n + 1) k]
  | some v :: r, n, k => by rw [List.cons_append, zpl, zpl, zpl_pad r (n + 1) k]
theorem zsl_len : ∀ (vs : List Value), (∀ v ∈ vs, v.category = 1) → (lg_sl vs).length = vs.length
  | [], _ => rfl
  | v :: vs, h => by
    have hv : ¬ v.category = 2 := by rw [h v List.mem_cons_self]; decide
    have ih := zsl_len vs (fun w hw => h w (List.mem_cons_of_mem _ hw))
    unfold lg_sl at ih ⊢
    rw [List.flatMap_cons, if_neg hv, List.length_append, ih]
    simp [Nat.add_comm]
/-- a method's locals at its entry -/
theorem zLs.entry (vs : List Value) {n : Nat} (h : vs.length ≤ n) (hv : ∀ v ∈ vs, v.category = 1) : zLs ((lg_sl vs ++ List.replicate (n - (lg_sl vs).length) Slot.unset).toArray) n (vs.map some ++ List.replicate (n - vs.length) none) := by
  refine ⟨?_, fun i v hi => ?_⟩
  · rw [zpl_pad, ← zpl_args vs 0 hv]
    exact lv_entry vs (by rw [zsl_len vs hv]; exact h)
  · have := List.mem_of_getElem? hi
    rcases List.mem_append.mp this with h1 | h1
    · obtain ⟨w, hw, e⟩ := List.mem_map.mp h1
      cases e
      exact hv _ hw
    · have := List.eq_of_mem_replicate h1
      cases this
