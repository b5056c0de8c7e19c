/-! INSTRUCTIONS: arithmetic, branches -/
section ZROW2
variable {X : zX} {l : Launch} {G : zG} {b : Nat} {cc : ByteArray} {nL : Nat} {own : String} {d : Nat} {sh : List zS} {M : zM} {pc : Nat} {L : List (Option Value)} {st : List Value}
theorem z_iadd (C : zOK X l G b cc nL own d) {x y : Int32} (hdg : decode cc pc = .ok (.iadd, 1)) (kk : zW X sh M (pc + 1) L (.int (x + y) :: st)) : zW X sh M pc L (.int y :: .int x :: st) := by
  obtain ⟨p, l', e, R, s, m, args, below, meth, c, Q, n0, s0, G', b'⟩ := X
  obtain ⟨rfl, rfl, rfl, hx, hb, -⟩ := C
  intro H locs ls hP hz hS hN hn hs hL
  exact lv_iadd hx hb hdg (kk H locs ls hP hz hS hN hn hs hL)
theorem z_isub (C : zOK X l G b cc nL own d) {x y : Int32} (hdg : decode cc pc = .ok (.isub, 1)) (kk : zW X sh M (pc + 1) L (.int (x - y) :: st)) : zW X sh M pc L (.int y :: .int x :: st) := by
  obtain ⟨p, l', e, R, s, m, args, below, meth, c, Q, n0, s0, G', b'⟩ := X
  obtain ⟨rfl, rfl, rfl, hx, hb, -⟩ := C
  intro H locs ls hP hz hS hN hn hs hL
  exact lv_isub hx hb hdg (kk H locs ls hP hz hS hN hn hs hL)
theorem z_imul (C : zOK X l G b cc nL own d) {x y : Int32} (hdg : decode cc pc = .ok (.imul, 1)) (kk : zW X sh M (pc + 1) L (.int (x * y) :: st)) : zW X sh M pc L (.int y :: .int x :: st) := by
  obtain ⟨p, l', e, R, s, m, args, below, meth, c, Q, n0, s0, G', b'⟩ := X
  obtain ⟨rfl, rfl, rfl, hx, hb, -⟩ := C
  intro H locs ls hP hz hS hN hn hs hL
  exact lv_imul hx hb hdg (kk H locs ls hP hz hS hN hn hs hL)
theorem z_iand (C : zOK X l G b cc nL own d) {x y : Int32} (hdg : decode cc pc = .ok (.iand, 1)) (kk : zW X sh M (pc + 1) L (.int (x &&& y) :: st)) : zW X sh M pc L (.int y :: .int x :: st) := by
  obtain ⟨p, l', e, R, s, m, args, below, meth, c, Q, n0, s0, G', b'⟩ := X
  obtain ⟨rfl, rfl, rfl, hx, hb, -⟩ := C
  intro H locs ls hP hz hS hN hn hs hL
  exact lv_iand hx hb hdg (kk H locs ls hP hz hS hN hn hs hL)
theorem z_ior (C : zOK X l G b cc nL own d) {x y : Int32} (hdg : decode cc pc = .ok (.ior, 1)) (kk : zW X sh M (pc + 1) L (.int (x ||| y) :: st)) : zW X sh M pc L (.int y :: .int x :: st) := by
  obtain ⟨p, l', e, R, s, m, args, below, meth, c, Q, n0, s0, G', b'⟩ := X
  obtain ⟨rfl, rfl, rfl, hx, hb, -⟩ := C
  intro H locs ls hP hz hS hN hn hs hL
  exact lv_ior hx hb hdg (kk H locs ls hP hz hS hN hn hs hL)
theorem z_ixor (C : zOK X l G b cc nL own d) {x y : Int32} (hdg : decode cc pc = .ok (.ixor, 1)) (kk : zW X sh M (pc + 1) L (.int (x ^^^ y) :: st)) : zW X sh M pc L (.int y :: .int x :: st) := by
  obtain ⟨p, l', e, R, s, m, args, below, meth, c, Q, n0, s0, G', b'⟩ := X
  obtain ⟨rfl, rfl, rfl, hx, hb, -⟩ := C
  intro H locs ls hP hz hS hN hn hs hL
  exact lv_ixor hx hb hdg (kk H locs ls hP hz hS hN hn hs hL)
theorem z_ishl (C : zOK X l G b cc nL own d) {x y : Int32} (hdg : decode cc pc = .ok (.ishl, 1)) (kk : zW X sh M (pc + 1) L (.int (x <<< (y &&& 31)) :: st)) : zW X sh M pc L (.int y :: .int x :: st) := by
  obtain ⟨p, l', e, R, s, m, args, below, meth, c, Q, n0, s0, G', b'⟩ := X
  obtain ⟨rfl, rfl, rfl, hx, hb, -⟩ := C
  intro H locs ls hP hz hS hN hn hs hL
  exact lv_ishl hx hb hdg (kk H locs ls hP hz hS hN hn hs hL)
theorem z_ishr (C : zOK X l G b cc nL own d) {x y : Int32} (hdg : decode cc pc = .ok (.ishr, 1)) (kk : zW X sh M (pc + 1) L (.int (x >>> (y &&& 31)) :: st)) : zW X sh M pc L (.int y :: .int x :: st) := by
  obtain ⟨p, l', e, R, s, m, args, below, meth, c, Q, n0, s0, G', b'⟩ := X
  obtain ⟨rfl, rfl, rfl, hx, hb, -⟩ := C
  intro H locs ls hP hz hS hN hn hs hL
  exact lv_ishr hx hb hdg (kk H locs ls hP hz hS hN hn hs hL)
theorem z_idiv (C : zOK X l G b cc nL own d) {x y : Int32} (hdg : decode cc pc = .ok (.idiv, 1)) (hne : ¬ y = 0) (kk : zW X sh M (pc + 1) L (.int (x / y) :: st)) : zW X sh M pc L (.int y :: .int x :: st) := by
  obtain ⟨p, l', e, R, s, m, args, below, meth, c, Q, n0, s0, G', b'⟩ := X
  obtain ⟨rfl, rfl, rfl, hx, hb, -⟩ := C
  intro H locs ls hP hz hS hN hn hs hL
  exact lv_idiv hx hb hdg hne (kk H locs ls hP hz hS hN hn hs hL)
theorem z_irem (C : zOK X l G b cc nL own d) {x y : Int32} (hdg : decode cc pc = .ok (.irem, 1)) (hne : ¬ y = 0) (kk : zW X sh M (pc + 1) L (.int (x - x / y * y) :: st)) : zW X sh M pc L (.int y :: .int x :: st) := by
  obtain ⟨p, l', e, R, s, m, args, below, meth, c, Q, n0, s0, G', b'⟩ := X
  obtain ⟨rfl, rfl, rfl, hx, hb, -⟩ := C
  intro H locs ls hP hz hS hN hn hs hL
  exact lv_irem hx hb hdg hne (kk H locs ls hP hz hS hN hn hs hL)
def zushr (x y : Int32) : Int32 := (x.toUInt32 >>> (y.toUInt32 &&& Int32.toUInt32 31)).toInt32
theorem z_iushr (C : zOK X l G b cc nL own d) {x y : Int32} (hdg : decode cc pc = .ok (.iushr, 1)) (kk : zW X sh M (pc + 1) L (.int (zushr x y) :: st)) : zW X sh M pc L (.int y :: .int x :: st) := by
  obtain ⟨p, l', e, R, s, m, args, below, meth, c, Q, n0, s0, G', b'⟩ := X
  obtain ⟨rfl, rfl, rfl, hx, hb, -⟩ := C
  intro H locs ls hP hz hS hN hn hs hL
  exact lv_iushr hx hb hdg rfl (kk H locs ls hP hz hS hN hn hs hL)
theorem z_i2s (C : zOK X l G b cc nL own d) {x : Int32} (hdg : decode cc pc = .ok (.i2s, 1)) (kk : zW X sh M (pc + 1) L (.int (x.toInt16.toInt32) :: st)) : zW X sh M pc L (.int x :: st) := by
  obtain ⟨p, l', e, R, s, m, args, below, meth, c, Q, n0, s0, G', b'⟩ := X
  obtain ⟨rfl, rfl, rfl, hx, hb, -⟩ := C
  intro H locs ls hP hz hS hN hn hs hL
  exact lv_i2s hx hb hdg rfl (kk H locs ls hP hz hS hN hn hs hL)
theorem z_i2b (C : zOK X l G b cc nL own d) {x : Int32} (hdg : decode cc pc = .ok (.i2b, 1)) (kk : zW X sh M (pc + 1) L (.int (x.toInt8.toInt32) :: st)) : zW X sh M pc L (.int x :: st) := by
  obtain ⟨p, l', e, R, s, m, args, below, meth, c, Q, n0, s0, G', b'⟩ := X
  obtain ⟨rfl, rfl, rfl, hx, hb, -⟩ := C
  intro H locs ls hP hz hS hN hn hs hL
  exact lv_i2b hx hb hdg rfl (kk H locs ls hP hz hS hN hn hs hL)
theorem z_i2c (C : zOK X l G b cc nL own d) {x : Int32} (hdg : decode cc pc = .ok (.i2c, 1)) (kk : zW X sh M (pc + 1) L (.int ((x.toUInt32 % 65536).toInt32) :: st)) : zW X sh M pc L (.int x :: st) := by
  obtain ⟨p, l', e, R, s, m, args, below, meth, c, Q, n0, s0, G', b'⟩ := X
  obtain ⟨rfl, rfl, rfl, hx, hb, -⟩ := C
  intro H locs ls hP hz hS hN hn hs hL
  exact lv_i2c hx hb hdg rfl (kk H locs ls hP hz hS hN hn hs hL)
theorem z_dup (C : zOK X l G b cc nL own d) {v : Value} (hdg : decode cc pc = .ok (.dup, 1)) (hv : v.category = 1) (kk : zW X sh M (pc + 1) L (v :: v :: st)) : zW X sh M pc L (v :: st) := by
  obtain ⟨p, l', e, R, s, m, args, below, meth, c, Q, n0, s0, G', b'⟩ := X
  obtain ⟨rfl, rfl, rfl, hx, hb, -⟩ := C
  intro H locs ls hP hz hS hN hn hs hL
  exact lv_dup hx hb hdg hv (kk H locs ls hP hz hS hN hn hs hL)
theorem z_dup2 (C : zOK X l G b cc nL own d) {v w : Value} (hdg : decode cc pc = .ok (.dup2, 1)) (hv : v.category = 1) (hw : w.category = 1) (kk : zW X sh M (pc + 1) L (v :: w :: v :: w :: st)) : zW X sh M pc L (v :: w :: st) := by
  obtain ⟨p, l', e, R, s, m, args, below, meth, c, Q, n0, s0, G', b'⟩ := X
  obtain ⟨rfl, rfl, rfl, hx, hb, -⟩ := C
  intro H locs ls hP hz hS hN hn hs hL
  exact lv_dup2_11 hx hb hdg hv hw (kk H locs ls hP hz hS hN hn hs hL)
theorem z_pop (C : zOK X l G b cc nL own d) {v : Value} (hdg : decode cc pc = .ok (.pop, 1)) (hv : v.category = 1) (kk : zW X sh M (pc + 1) L st) : zW X sh M pc L (v :: st) := by
  obtain ⟨p, l', e, R, s, m, args, below, meth, c, Q, n0, s0, G', b'⟩ := X
  obtain ⟨rfl, rfl, rfl, hx, hb, -⟩ := C
  intro H locs ls hP hz hS hN hn hs hL
  exact lv_pop hx hb hdg hv (kk H locs ls hP hz hS hN hn hs hL)
theorem z_if_eq (C : zOK X l G b cc nL own d) {x : Int32} {off : Int} (tgt : Nat) (hdg : decode cc pc = .ok (.ifCond .eq off, 3)) (ht : (pc : Int) + off = (tgt : Int)) (kt : x = 0 → zW X sh M tgt L st) (kf : ¬ x = 0 → zW X sh M (pc + 3) L st) : zW X sh M pc L (.int x :: st) := by
  obtain ⟨p, l', e, R, s, m, args, below, meth, c, Q, n0, s0, G', b'⟩ := X
  obtain ⟨rfl, rfl, rfl, hx, hb, -⟩ := C
  intro H locs ls hP hz hS hN hn hs hL
  exact lv_if_eq hx hb hdg ht (fun q => kt q H locs ls hP hz hS hN hn hs hL) (fun q => kf q H locs ls hP hz hS hN hn hs hL)
theorem z_if_ne (C : zOK X l G b cc nL own d) {x : Int32} {off : Int} (tgt : Nat) (hdg : decode cc pc = .ok (.ifCond .ne off, 3)) (ht : (pc : Int) + off = (tgt : Int)) (kt : ¬ x = 0 → zW X sh M tgt L st) (kf : x = 0 → zW X sh M (pc + 3) L st) : zW X sh M pc L (.int x :: st) := by
  obtain ⟨p, l', e, R, s, m, args, below, meth, c, Q, n0, s0, G', b'⟩ := X
  obtain ⟨rfl, rfl, rfl, hx, hb, -⟩ := C
  intro H locs ls hP hz hS hN hn hs hL
  exact lv_if_ne hx hb hdg ht (fun q => kt q H locs ls hP hz hS hN hn hs hL) (fun q => kf q H locs ls hP hz hS hN hn hs hL)
theorem z_if_lt (C : zOK X l G b cc nL own d) {x : Int32} {off : Int} (tgt : Nat) (hdg : decode cc pc = .ok (.ifCond .lt off, 3)) (ht : (pc : Int) + off = (tgt : Int)) (kt : x < 0 → zW X sh M tgt L st) (kf : ¬ x < 0 → zW X sh M (pc + 3) L st) : zW X sh M pc L (.int x :: st) := by
  obtain ⟨p, l', e, R, s, m, args, below, meth, c, Q, n0, s0, G', b'⟩ := X
  obtain ⟨rfl, rfl, rfl, hx, hb, -⟩ := C
  intro H locs ls hP hz hS hN hn hs hL
  exact lv_if_lt hx hb hdg ht (fun q => kt q H locs ls hP hz hS hN hn hs hL) (fun q => kf q H locs ls hP hz hS hN hn hs hL)
theorem z_if_ge (C : zOK X l G b cc nL own d) {x : Int32} {off : Int} (tgt : Nat) (hdg : decode cc pc = .ok (.ifCond .ge off, 3)) (ht : (pc : Int) + off = (tgt : Int)) (kt : 0 ≤ x → zW X sh M tgt L st) (kf : ¬ 0 ≤ x → zW X sh M (pc + 3) L st) : zW X sh M pc L (.int x :: st) := by
  obtain ⟨p, l', e, R, s, m, args, below, meth, c, Q, n0, s0, G', b'⟩ := X
  obtain ⟨rfl, rfl, rfl, hx, hb, -⟩ := C
  intro H locs ls hP hz hS hN hn hs hL
  exact lv_if_ge hx hb hdg ht (fun q => kt q H locs ls hP hz hS hN hn hs hL) (fun q => kf q H locs ls hP hz hS hN hn hs hL)
theorem z_if_gt (C : zOK X l G b cc nL own d) {x : Int32} {off : Int} (tgt : Nat) (hdg : decode cc pc = .ok (.ifCond .gt off, 3)) (ht : (pc : Int) + off = (tgt : Int)) (kt : 0 < x → zW X sh M tgt L st) (kf : ¬ 0 < x → zW X sh M (pc + 3) L st) : zW X sh M pc L (.int x :: st) := by
  obtain ⟨p, l', e, R, s, m, args, below, meth, c, Q, n0, s0, G', b'⟩ := X
  obtain ⟨rfl, rfl, rfl, hx, hb, -⟩ := C
  intro H locs ls hP hz hS hN hn hs hL
  exact lv_if_gt hx hb hdg ht (fun q => kt q H locs ls hP hz hS hN hn hs hL) (fun q => kf q H locs ls hP hz hS hN hn hs hL)
theorem z_if_le (C : zOK X l G b cc nL own d) {x : Int32} {off : Int} (tgt : Nat) (hdg : decode cc pc = .ok (.ifCond .le off, 3)) (ht : (pc : Int) + off = (tgt : Int)) (kt : x ≤ 0 → zW X sh M tgt L st) (kf : ¬ x ≤ 0 → zW X sh M (pc + 3) L st) : zW X sh M pc L (.int x :: st) := by
  obtain ⟨p, l', e, R, s, m, args, below, meth, c, Q, n0, s0, G', b'⟩ := X
  obtain ⟨rfl, rfl, rfl, hx, hb, -⟩ := C
  intro H locs ls hP hz hS hN hn hs hL
  exact lv_if_le hx hb hdg ht (fun q => kt q H locs ls hP hz hS hN hn hs hL) (fun q => kf q H locs ls hP hz hS hN hn hs hL)
theorem z_icmp_eq (C : zOK X l G b cc nL own d) {x y : Int32} {off : Int} (tgt : Nat) (hdg : decode cc pc = .ok (.if_icmp .eq off, 3)) (ht : (pc : Int) + off = (tgt : Int)) (kt : x = y → zW X sh M tgt L st) (kf : ¬ x = y → zW X sh M (pc + 3) L st) : zW X sh M pc L (.int y :: .int x :: st) := by
  obtain ⟨p, l', e, R, s, m, args, below, meth, c, Q, n0, s0, G', b'⟩ := X
  obtain ⟨rfl, rfl, rfl, hx, hb, -⟩ := C
  intro H locs ls hP hz hS hN hn hs hL
  exact lv_icmp_eq hx hb hdg ht (fun q => kt q H locs ls hP hz hS hN hn hs hL) (fun q => kf q H locs ls hP hz hS hN hn hs hL)
theorem z_icmp_ne (C : zOK X l G b cc nL own d) {x y : Int32} {off : Int} (tgt : Nat) (hdg : decode cc pc = .ok (.if_icmp .ne off, 3)) (ht : (pc : Int) + off = (tgt : Int)) (kt : ¬ x = y → zW X sh M tgt L st) (kf : x = y → zW X sh M (pc + 3) L st) : zW X sh M pc L (.int y :: .int x :: st) := by
  obtain ⟨p, l', e, R, s, m, args, below, meth, c, Q, n0, s0, G', b'⟩ := X
  obtain ⟨rfl, rfl, rfl, hx, hb, -⟩ := C
  intro H locs ls hP hz hS hN hn hs hL
  exact lv_icmp_ne hx hb hdg ht (fun q => kt q H locs ls hP hz hS hN hn hs hL) (fun q => kf q H locs ls hP hz hS hN hn hs hL)
theorem z_icmp_lt (C : zOK X l G b cc nL own d) {x y : Int32} {off : Int} (tgt : Nat) (hdg : decode cc pc = .ok (.if_icmp .lt off, 3)) (ht : (pc : Int) + off = (tgt : Int)) (kt : x < y → zW X sh M tgt L st) (kf : ¬ x < y → zW X sh M (pc + 3) L st) : zW X sh M pc L (.int y :: .int x :: st) := by
  obtain ⟨p, l', e, R, s, m, args, below, meth, c, Q, n0, s0, G', b'⟩ := X
  obtain ⟨rfl, rfl, rfl, hx, hb, -⟩ := C
  intro H locs ls hP hz hS hN hn hs hL
  exact lv_icmp_lt hx hb hdg ht (fun q => kt q H locs ls hP hz hS hN hn hs hL) (fun q => kf q H locs ls hP hz hS hN hn hs hL)
theorem z_icmp_ge (C : zOK X l G b cc nL own d) {x y : Int32} {off : Int} (tgt : Nat) (hdg : decode cc pc = .ok (.if_icmp .ge off, 3)) (ht : (pc : Int) + off = (tgt : Int)) (kt : y ≤ x → zW X sh M tgt L st) (kf : ¬ y ≤ x → zW X sh M (pc + 3) L st) : zW X sh M pc L (.int y :: .int x :: st) := by
  obtain ⟨p, l', e, R, s, m, args, below, meth, c, Q, n0, s0, G', b'⟩ := X
  obtain ⟨rfl, rfl, rfl, hx, hb, -⟩ := C
  intro H locs ls hP hz hS hN hn hs hL
  exact lv_icmp_ge hx hb hdg ht (fun q => kt q H locs ls hP hz hS hN hn hs hL) (fun q => kf q H locs ls hP hz hS hN hn hs hL)
theorem z_icmp_gt (C : zOK X l G b cc nL own d) {x y : Int32} {off : Int} (tgt : Nat) (hdg : decode cc pc = .ok (.if_icmp .gt off, 3)) (ht : (pc : Int) + off = (tgt : Int)) (kt : y < x → zW X sh M tgt L st) (kf : ¬ y < x → zW X sh M (pc + 3) L st) : zW X sh M pc L (.int y :: .int x :: st) := by
  obtain ⟨p, l', e, R, s, m, args, below, meth, c, Q, n0, s0, G', b'⟩ := X
  obtain ⟨rfl, rfl, rfl, hx, hb, -⟩ := C
  intro H locs ls hP hz hS hN hn hs hL
  exact lv_icmp_gt hx hb hdg ht (fun q => kt q H locs ls hP hz hS hN hn hs hL) (fun q => kf q H locs ls hP hz hS hN hn hs hL)
theorem z_icmp_le (C : zOK X l G b cc nL own d) {x y : Int32} {off : Int} (tgt : Nat) (hdg : decode cc pc = .ok (.if_icmp .le off, 3)) (ht : (pc : Int) + off = (tgt : Int)) (kt : x ≤ y → zW X sh M tgt L st) (kf : ¬ x ≤ y → zW X sh M (pc + 3) L st) : zW X sh M pc L (.int y :: .int x :: st) := by
  obtain ⟨p, l', e, R, s, m, args, below, meth, c, Q, n0, s0, G', b'⟩ := X
  obtain ⟨rfl, rfl, rfl, hx, hb, -⟩ := C
  intro H locs ls hP hz hS hN hn hs hL
  exact lv_icmp_le hx hb hdg ht (fun q => kt q H locs ls hP hz hS hN hn hs hL) (fun q => kf q H locs ls hP hz hS hN hn hs hL)
theorem z_goto (C : zOK X l G b cc nL own d) {off : Int} (tgt : Nat) (hdg : decode cc pc = .ok (.goto off, 3)) (ht : (pc : Int) + off = (tgt : Int)) (kk : zW X sh M tgt L st) : zW X sh M pc L st := by
  obtain ⟨p, l', e, R, s, m, args, below, meth, c, Q, n0, s0, G', b'⟩ := X
  obtain ⟨rfl, rfl, rfl, hx, hb, -⟩ := C
  intro H locs ls hP hz hS hN hn hs hL
  exact lv_goto hx hb hdg ht (kk H locs ls hP hz hS hN hn hs hL)
theorem z_lookup (C : zOK X l G b cc nL own d) {dflt : Int} {ps : Array (Int × Int)} {len : Nat} {x : Int32} {off : Int} (tgt : Nat) (hdg : decode cc pc = .ok (.lookupswitch dflt ps, len)) (hp : (ps.toList.zip (ps.toList.drop 1)).all (fun (a, next) => a.1 < next.1) = true) (ho : Op.lookupswitch.offset ps.toList dflt x.toInt = off) (ht : (pc : Int) + off = (tgt : Int)) (kk : zW X sh M tgt L st) : zW X sh M pc L (.int x :: st) := by
  obtain ⟨p, l', e, R, s, m, args, below, meth, c, Q, n0, s0, G', b'⟩ := X
  obtain ⟨rfl, rfl, rfl, hx, hb, -⟩ := C
  intro H locs ls hP hz hS hN hn hs hL
  exact lv_lookup hx hb hdg hp ho ht (kk H locs ls hP hz hS hN hn hs hL)
theorem z_tswOut (C : zOK X l G b cc nL own d) {dflt lo hi : Int} {offs : Array Int} {len : Nat} {x : Int32} (tgt : Nat) (hdg : decode cc pc = .ok (.tableswitch dflt lo hi offs, len)) (h : x.toInt < lo ∨ hi < x.toInt) (ht : (pc : Int) + dflt = (tgt : Int)) (kk : zW X sh M tgt L st) : zW X sh M pc L (.int x :: st) := by
  obtain ⟨p, l', e, R, s, m, args, below, meth, c, Q, n0, s0, G', b'⟩ := X
  obtain ⟨rfl, rfl, rfl, hx, hb, -⟩ := C
  intro H locs ls hP hz hS hN hn hs hL
  exact lv_tableOut hx hb hdg h ht (kk H locs ls hP hz hS hN hn hs hL)
theorem z_tswIn (C : zOK X l G b cc nL own d) {dflt lo hi : Int} {offs : Array Int} {len : Nat} {x : Int32} (v : Int) {off : Int} (tgt : Nat) (hdg : decode cc pc = .ok (.tableswitch dflt lo hi offs, len)) (hv : x.toInt = v) (h1 : ¬ v < lo) (h2 : ¬ hi < v) (ho : offs[(v - lo).toNat]? = some off) (ht : (pc : Int) + off = (tgt : Int)) (kk : zW X sh M tgt L st) : zW X sh M pc L (.int x :: st) := by
  subst hv
  obtain ⟨p, l', e, R, s, m, args, below, meth, c, Q, n0, s0, G', b'⟩ := X
  obtain ⟨rfl, rfl, rfl, hx, hb, -⟩ := C
  intro H locs ls hP hz hS hN hn hs hL
  exact lv_tableIn hx hb hdg h1 h2 ho ht (kk H locs ls hP hz hS hN hn hs hL)
end ZROW2
/-! fields, arrays -/
/-- a field by its link in a class's pool: the class's number, the field's place, whether final -/
def zFld (own : String) (index ci f : Nat) (fin : Bool) (ty : FieldType) : Prop := ∃ (C ref : String) (T : u_T) (N : Nat) (ty0 : Nat → FieldType), vwCl[ci]? = some (C, T, N) ∧ f < N ∧ Cond.fieldLink own index ref (T f).2.1 (T f).2.2.1 ∈ zT ∧ (T f).1 = ref ∧ (∀ w ∈ u_ws C T N, w ∈ zT) ∧ (T f).2.2.2 = fin ∧ (∀ k, k < N → parseFieldDescriptor (T k).2.2.1 = some (ty0 k)) ∧ (∀ a, a < N → ∀ b, b < N → a ≠ b → (T a).2.1 ≠ (T b).2.1) ∧ parseFieldDescriptor (T f).2.2.1 = some ty
section ZROW3
variable {X : zX} {l : Launch} {G : zG} {b : Nat} {cc : ByteArray} {nL : Nat} {own : String} {d : Nat} {sh : List zS} {M : zM} {pc : Nat} {L : List (Option Value)} {st : List Value}
theorem z_getI (C : zOK X l G b cc nL own d) {index ci f : Nat} {fin : Bool} {ty : FieldType} {k a i j : Nat} {fl : List (Option (Option Nat))} (hdg : decode cc pc = .ok (.getfield index, 3)) (hf : zFld own index ci f fin ty) (hsh : sh[k]? = some ((a, i, j), .inl (ci, fl))) (hfl : fl[f]? = some none) (kk : zW X sh M (pc + 3) L (.int (M a i j f) :: st)) : zW X sh M pc L (.ref (b + k) :: st) := by
  obtain ⟨p, l', e, R, s, m, args, below, meth, c, Q, n0, s0, G', b'⟩ := X
  obtain ⟨rfl, rfl, rfl, hx, hb, -, hown, hts, hAm, -⟩ := C
  obtain ⟨Cn, ref, T, N, ty0, h1, h2, h3, h4, h5, -⟩ := hf
  intro H locs ls hP hz hS hN hn hs hL
  refine va_get hx hb hts h5 hown hAm.1 hP k (zws_get hsh) h1 f h2 (hts _ h3) (fun x hx => by rw [← h4]; exact hx) (v := .int (M a i j f)) ?_ hdg (kk H locs ls hP hz hS hN hn hs hL)
  simp [List.getElem?_mapIdx, hfl, zfv, zat]
theorem z_getR (C : zOK X l G b cc nL own d) {index ci f : Nat} {fin : Bool} {ty : FieldType} {k r : Nat} {q : Nat × Nat × Nat} {fl : List (Option (Option Nat))} (hdg : decode cc pc = .ok (.getfield index, 3)) (hf : zFld own index ci f fin ty) (hsh : sh[k]? = some (q, .inl (ci, fl))) (hfl : fl[f]? = some (some (some r))) (kk : zW X sh M (pc + 3) L (.ref (b + r) :: st)) : zW X sh M pc L (.ref (b + k) :: st) := by
  obtain ⟨p, l', e, R, s, m, args, below, meth, c, Q, n0, s0, G', b'⟩ := X
  obtain ⟨rfl, rfl, rfl, hx, hb, -, hown, hts, hAm, -⟩ := C
  obtain ⟨Cn, ref, T, N, ty0, h1, h2, h3, h4, h5, -⟩ := hf
  intro H locs ls hP hz hS hN hn hs hL
  refine va_get hx hb hts h5 hown hAm.1 hP k (zws_get hsh) h1 f h2 (hts _ h3) (fun x hx => by rw [← h4]; exact hx) (v := .ref (b' + r)) ?_ hdg (kk H locs ls hP hz hS hN hn hs hL)
  simp [List.getElem?_mapIdx, hfl, zfv, zrv]
theorem z_putI (C : zOK X l G b cc nL own d) {index ci f : Nat} {ty : FieldType} {k a i j : Nat} {fl : List (Option (Option Nat))} {v : Int32} (hdg : decode cc pc = .ok (.putfield index, 3)) (hf : zFld own index ci f false ty) (hsh : sh[k]? = some ((a, i, j), .inl (ci, fl))) (hfl : fl[f]? = some none) (hv : narrow ty (.int v) = .int v) (hv2 : fits ty (.int v) = true) (kk : zW X sh (zu M a i j f v) (pc + 3) L st) : zW X sh M pc L (.int v :: .ref (b + k) :: st) := by
  obtain ⟨p, l', e, R, s, m, args, below, meth, c, Q, n0, s0, G', b'⟩ := X
  obtain ⟨rfl, rfl, rfl, hx, hb, -, hown, hts, hAm, -⟩ := C
  obtain ⟨Cn, ref, T, N, ty0, h1, h2, h3, h4, h5, h6, h7, h8, h9⟩ := hf
  intro H locs ls hP hz hS hN hn hs hL
  have hl : f < fl.length := (List.getElem?_eq_some_iff.mp hfl).1
  have hK := hAm.1
  have hD := zws_D sh b' G'.2.1 M
  have he := zws_get (b := b') (tc := G'.2.1) (M := M) hsh
  have hap := va_apart (own := own) hts h5 ty0 h7 h8 hK h1
  obtain ⟨r, g1, cell, q1, q2, q3, q4⟩ := hP k _ he
  have hr : r = (Cn, T, N) := Option.some.inj (g1.symm.trans h1)
  subst hr
  obtain ⟨hSl, hfc, kC, hkC, hkind⟩ := hK.1 ci _ h1
  obtain ⟨cf, kf, fi, fd, hi, hsl⟩ := hSl f h2
  have hlay := hts _ (h5 _ (u_in_lay h2))
  unfold u_lay at hlay
  rw [if_neg (by rw [h6]; decide)] at hlay
  have hst := (u_facts hfc hkC (u_lays hts h5 h2) hi).1
  have h10 := u_store hfc hkC hkind hlay hi h9 hv hv2
  have hsame : s.fieldFound? ref (T f).2.1 (T f).2.2.1 = some (cf, kf, fi, fd) := by rw [← h4]; exact hi
  refine W.putK hx hb (f := fd) ⟨hown, hts _ h3, ⟨_, _, _, hsame⟩, hst⟩ (by rw [q2]; exact h10) q1 q3 (by rw [hsl]; exact k2_hasslot (q4 f h2)) rfl rfl hdg fun H' e1 e2 e3 => ?_
  rw [hsl] at e1 ⊢
  have hP1 := hP.set (e := .inr (ci, (fl.mapIdx (zfv b' (zat M (a, i, j)))).set f (.int v))) (H1 := H') hD he ⟨_, h1, t_OB.to (V := updV (vp_V (fl.mapIdx (zfv b' (zat M (a, i, j))))) f (.int v)) ⟨_, e1, q2, q3, t_set q4 hap h2 (.int v)⟩ (fun j _ => vp_updV_set (by simpa using hl) (.int v) j)⟩ e3
  rw [zfs_set (M := M) hfl] at hP1
  have w1 : (zws sh b' G'.2.1 M).set k (b' + k, .inr (ci, fl.mapIdx (zfv b' (zat (zu M a i j f v) (a, i, j))))) = zws sh b' G'.2.1 (zu M a i j f v) := zws_set (M' := zu M a i j f v) hN hsh (fun q hq => zat_zu_ne M a i j f v q hq)
  rw [w1] at hP1
  exact kk H' _ ls hP1 (fun h => by rw [e2]; exact hz h) (hS.put e2 e3 (hD.2 k _ he)) hN hn hs hL
theorem z_putII (C : zOK X l G b cc nL own d) {index ci f : Nat} {k a i j : Nat} {fl : List (Option (Option Nat))} {v : Int32} (hdg : decode cc pc = .ok (.putfield index, 3)) (hf : zFld own index ci f false .int) (hsh : sh[k]? = some ((a, i, j), .inl (ci, fl))) (hfl : fl[f]? = some none) (kk : zW X sh (zu M a i j f v) (pc + 3) L st) : zW X sh M pc L (.int v :: .ref (b + k) :: st) := z_putI C hdg hf hsh hfl rfl rfl kk
theorem z_bool {v : Int32} (h : v = 0 ∨ v = 1) : narrow .boolean (.int v) = .int v ∧ fits .boolean (.int v) = true := by rcases h with rfl | rfl <;> decide
theorem z_putZ (C : zOK X l G b cc nL own d) {index ci f : Nat} {k a i j : Nat} {fl : List (Option (Option Nat))} {v : Int32} (hdg : decode cc pc = .ok (.putfield index, 3)) (hf : zFld own index ci f false .boolean) (hsh : sh[k]? = some ((a, i, j), .inl (ci, fl))) (hfl : fl[f]? = some none) (hv : v = 0 ∨ v = 1) (kk : zW X sh (zu M a i j f v) (pc + 3) L st) : zW X sh M pc L (.int v :: .ref (b + k) :: st) := z_putI C hdg hf hsh hfl (z_bool hv).1 (z_bool hv).2 kk
/-- arrays of ints -/
theorem z_iaload (C : zOK X l G b cc nL own d) {k a i j n : Nat} {x : Int32} (hdg : decode cc pc = .ok (.iaload, 1)) (hsh : sh[k]? = some ((a, i, j), .inr (.inl (0, n)))) (hin : vp_in x n) (kk : zW X sh M (pc + 1) L (.int (M a i j x.toNatClampNeg) :: st)) : zW X sh M pc L (.int x :: .ref (b + k) :: st) := by
  obtain ⟨p, l', e, R, s, m, args, below, meth, c, Q, n0, s0, G', b'⟩ := X
  obtain ⟨rfl, rfl, rfl, hx, hb, -, hown, hts, hAm, -⟩ := C
  intro H locs ls hP hz hS hN hn hs hL
  exact va_iald hx hb hAm.1 hP k 0 (zws_get hsh) rfl hin hdg (kk H locs ls hP hz hS hN hn hs hL)
theorem z_zaload (C : zOK X l G b cc nL own d) {k a i j n : Nat} {x : Int32} (hdg : decode cc pc = .ok (.baload, 1)) (hsh : sh[k]? = some ((a, i, j), .inr (.inl (1, n)))) (hin : vp_in x n) (kk : zW X sh M (pc + 1) L (.int (M a i j x.toNatClampNeg) :: st)) : zW X sh M pc L (.int x :: .ref (b + k) :: st) := by
  obtain ⟨p, l', e, R, s, m, args, below, meth, c, Q, n0, s0, G', b'⟩ := X
  obtain ⟨rfl, rfl, rfl, hx, hb, -, hown, hts, hAm, -⟩ := C
  intro H locs ls hP hz hS hN hn hs hL
  exact va_zald hx hb hAm.1 hP k 1 (zws_get hsh) rfl hin hdg (kk H locs ls hP hz hS hN hn hs hL)
theorem z_caload (C : zOK X l G b cc nL own d) {k a i j n : Nat} {x : Int32} (hdg : decode cc pc = .ok (.caload, 1)) (hsh : sh[k]? = some ((a, i, j), .inr (.inl (2, n)))) (hin : vp_in x n) (kk : zW X sh M (pc + 1) L (.int (M a i j x.toNatClampNeg) :: st)) : zW X sh M pc L (.int x :: .ref (b + k) :: st) := by
  obtain ⟨p, l', e, R, s, m, args, below, meth, c, Q, n0, s0, G', b'⟩ := X
  obtain ⟨rfl, rfl, rfl, hx, hb, -, hown, hts, hAm, -⟩ := C
  intro H locs ls hP hz hS hN hn hs hL
  exact va_cald hx hb hAm.1 hP k 2 (zws_get hsh) rfl hin hdg (kk H locs ls hP hz hS hN hn hs hL)
/-- a store into an array, by its cell -/
theorem zst {b : Nat} {G : zG} {a i j k n t : Nat} {H H' : Heap} {x : Nat} {y : Int32} (hP : va_P G.1 vwCl (zws sh b G.2.1 M) H) (hN : zND sh) (hsh : sh[k]? = some ((a, i, j), .inr (.inl (t, n)))) (e1 : H'[b + k]? = some ((arrV (G.2.1 t) n (fun q => .int (M a i j q))).setSlot x (.int y))) (e3 : ∀ q, q ≠ b + k → H'[q]? = H[q]?) : va_P G.1 vwCl (zws sh b G.2.1 (zu M a i j x y)) H' := by
  have he := zws_get (b := b) (tc := G.2.1) (M := M) hsh
  have w1 : (zws sh b G.2.1 M).set k (b + k, zE b G.2.1 (zu M a i j x y) ((a, i, j), .inr (.inl (t, n)))) = zws sh b G.2.1 (zu M a i j x y) := zws_set (M' := zu M a i j x y) hN hsh (fun q hq => zat_zu_ne M a i j x y q hq)
  rw [← w1]
  refine hP.set (zws_D sh b G.2.1 M) he ?_ e3
  show H'[b + k]? = some (vp_cell _ _)
  rw [e1, arrV_store, vp_cell_i]
  congr 2
  funext q
  rw [zat_zu_self]
  by_cases hq : q = x
  · simp [updV, hq]
  · simp [updV, hq, zat]
theorem z_iastore (C : zOK X l G b cc nL own d) {k a i j n : Nat} {x y : Int32} (hdg : decode cc pc = .ok (.iastore, 1)) (hsh : sh[k]? = some ((a, i, j), .inr (.inl (0, n)))) (hin : vp_in x n) (kk : zW X sh (zu M a i j x.toNatClampNeg y) (pc + 1) L st) : zW X sh M pc L (.int y :: .int x :: .ref (b + k) :: st) := by
  obtain ⟨p, l', e, R, s, m, args, below, meth, c, Q, n0, s0, G', b'⟩ := X
  obtain ⟨rfl, rfl, rfl, hx, hb, -, hown, hts, hAm, -⟩ := C
  intro H locs ls hP hz hS hN hn hs hL
  refine W.iast hx hb (hP k _ (zws_get hsh)) ((hAm.1.2 0 _ rfl).1 n (fun q => .int (M a i j q))) (fun q => by cases q) (by show ¬ (x < 0 ∨ (arrV _ _ _).slots.size ≤ _); rw [arrV_size]; exact hin) rfl rfl hdg fun H' e1 e2 e3 => ?_
  exact kk H' _ ls (zst hP hN hsh e1 e3) (fun h => by rw [e2]; exact hz h) (hS.put e2 e3 (Nat.le_add_right _ _)) hN hn hs hL
theorem z_zastore (C : zOK X l G b cc nL own d) {k a i j n : Nat} {x y : Int32} (hdg : decode cc pc = .ok (.bastore, 1)) (hsh : sh[k]? = some ((a, i, j), .inr (.inl (1, n)))) (hin : vp_in x n) (hy : y = 0 ∨ y = 1) (kk : zW X sh (zu M a i j x.toNatClampNeg y) (pc + 1) L st) : zW X sh M pc L (.int y :: .int x :: .ref (b + k) :: st) := by
  obtain ⟨p, l', e, R, s, m, args, below, meth, c, Q, n0, s0, G', b'⟩ := X
  obtain ⟨rfl, rfl, rfl, hx, hb, -, hown, hts, hAm, -⟩ := C
  intro H locs ls hP hz hS hN hn hs hL
  refine W.zast hx hb (hP k _ (zws_get hsh)) ((hAm.1.2 1 _ rfl).1 n (fun q => .int (M a i j q))) (fun q => by cases q) (by show ¬ (x < 0 ∨ (arrV _ _ _).slots.size ≤ _); rw [arrV_size]; exact hin) rfl rfl hdg fun H' e1 e2 e3 => ?_
  rw [(z_bool hy).1] at e1
  exact kk H' _ ls (zst hP hN hsh e1 e3) (fun h => by rw [e2]; exact hz h) (hS.put e2 e3 (Nat.le_add_right _ _)) hN hn hs hL
theorem z_castore (C : zOK X l G b cc nL own d) {k a i j n : Nat} {x y : Int32} (hdg : decode cc pc = .ok (.castore, 1)) (hsh : sh[k]? = some ((a, i, j), .inr (.inl (2, n)))) (hin : vp_in x n) (hy : narrow .char (.int y) = .int y) (kk : zW X sh (zu M a i j x.toNatClampNeg y) (pc + 1) L st) : zW X sh M pc L (.int y :: .int x :: .ref (b + k) :: st) := by
  obtain ⟨p, l', e, R, s, m, args, below, meth, c, Q, n0, s0, G', b'⟩ := X
  obtain ⟨rfl, rfl, rfl, hx, hb, -, hown, hts, hAm, -⟩ := C
  intro H locs ls hP hz hS hN hn hs hL
  refine W.cast hx hb (hP k _ (zws_get hsh)) ((hAm.1.2 2 _ rfl).1 n (fun q => .int (M a i j q))) (fun q => by cases q) (by show ¬ (x < 0 ∨ (arrV _ _ _).slots.size ≤ _); rw [arrV_size]; exact hin) rfl rfl hdg fun H' e1 e2 e3 => ?_
  rw [hy] at e1
  exact kk H' _ ls (zst hP hN hsh e1 e3) (fun h => by rw [e2]; exact hz h) (hS.put e2 e3 (Nat.le_add_right _ _)) hN hn hs hL
/-- arrays of references -/
theorem z_aaload (C : zOK X l G b cc nL own d) {k t r : Nat} {q : Nat × Nat × Nat} {rs : List (Option Nat)} {x : Int32} {cA : ClassId} {ty : FieldType} (hdg : decode cc pc = .ok (.aaload, 1)) (hsh : sh[k]? = some (q, .inr (.inr (t, rs)))) (ht : (zty G.2.1)[t]? = some (G.2.1 t, ty)) (hty : ty.isReference = true) (hin : vp_in x rs.length) (hr : rs[x.toNatClampNeg]? = some (some r)) (kk : zW X sh M (pc + 1) L (.ref (b + r) :: st)) : zW X sh M pc L (.int x :: .ref (b + k) :: st) := by
  obtain ⟨p, l', e, R, s, m, args, below, meth, c, Q, n0, s0, G', b'⟩ := X
  obtain ⟨rfl, rfl, rfl, hx, hb, -, hown, hts, hAm, -⟩ := C
  intro H locs ls hP hz hS hN hn hs hL
  have hlt : x.toNatClampNeg < rs.length := Nat.not_le.mp fun q => hin (Or.inr q)
  refine W.aald (v := .ref (b' + r)) (ty := ty) hx hb (hP k _ (zws_get hsh)) ((hAm.1.2 t _ ht).1 rs.length _) hty (fun q => by cases q) (by show ¬ (x < 0 ∨ (arrV _ _ _).slots.size ≤ _); rw [arrV_size]; exact hin) ?_ rfl rfl hdg (kk H locs ls hP hz hS hN hn hs hL)
  show (arrV _ _ _).slots[_]? = _
  rw [arrV_read _ _ hlt]
  simp [List.getD_eq_getElem?_getD, hr, va_rf]
theorem z_alen (C : zOK X l G b cc nL own d) {k t n : Nat} {q : Nat × Nat × Nat} {ty : FieldType} (hdg : decode cc pc = .ok (.arraylength, 1)) (hsh : sh[k]? = some (q, .inr (.inl (t, n)))) (ht : (zty G.2.1)[t]? = some (G.2.1 t, ty)) (kk : zW X sh M (pc + 1) L (.int (Int32.ofNat n) :: st)) : zW X sh M pc L (.ref (b + k) :: st) := by
  obtain ⟨p, l', e, R, s, m, args, below, meth, c, Q, n0, s0, G', b'⟩ := X
  obtain ⟨rfl, rfl, rfl, hx, hb, -, hown, hts, hAm, -⟩ := C
  intro H locs ls hP hz hS hN hn hs hL
  exact va_alen hx hb hAm.1 hP k t (zws_get hsh) ht rfl hdg (kk H locs ls hP hz hS hN hn hs hL)
/-- the table ABOVE -/
theorem z_above (C : zOK X l G b cc nL RX0 d) (hdg : decode cc pc = .ok (.getstatic 34, 3)) (kk : zW X sh M (pc + 3) L (.ref (G.2.2 0) :: st)) : zW X sh M pc L st := by
  obtain ⟨p, l', e, R, s, m, args, below, meth, c, Q, n0, s0, G', b'⟩ := X
  obtain ⟨rfl, rfl, rfl, hx, hb, -, hown, hts, hAm, -⟩ := C
  intro H locs ls hP hz hS hN hn hs hL
  exact va_getsN hx hb hAm.2.2.2.1 hS hown (va_Nw.use rfl hAm.2.2.1) (fun x h => h) hdg (kk H locs ls hP hz hS hN hn hs hL)
theorem z_aboveld (C : zOK X l G b cc nL own d) {x : Int32} (hdg : decode cc pc = .ok (.iaload, 1)) (hin : vp_in x 6) (kk : zW X sh M (pc + 1) L (.int (zabv x.toNatClampNeg) :: st)) : zW X sh M pc L (.int x :: .ref (G.2.2 0) :: st) := by
  obtain ⟨p, l', e, R, s, m, args, below, meth, c, Q, n0, s0, G', b'⟩ := X
  obtain ⟨rfl, rfl, rfl, hx, hb, -, hown, hts, hAm, -⟩ := C
  intro H locs ls hP hz hS hN hn hs hL
  have h5 := hAm.2.2.2.2.1
  have hq : G'.2.2 0 < s.heap.size := by
    obtain ⟨scr, e, -⟩ := h5.1
    exact (Array.getElem?_eq_some_iff.mp e).1
  exact va_sld hx hb h5.1 hq (by have := h5.2; omega) hS hin hdg (kk H locs ls hP hz hS hN hn hs hL)
/-- returns -/
theorem z_ireturn (C : zOK X l G b cc nL own d) {v : Int32} {post : Option Value → zM → Prop} (K : zRt X (some .int) sh post) (hdg : decode cc pc = .ok (.ireturn, 1)) (hp : post (some (.int v)) M) : zW X sh M pc L [.int v] := by
  obtain ⟨p, l', e, R, s, m, args, below, meth, c, Q, n0, s0, G', b'⟩ := X
  obtain ⟨rfl, rfl, rfl, hx, hb, -⟩ := C
  obtain ⟨hr, hlk, rfl⟩ := K
  intro H locs ls hP hz hS hN hn hs hL
  exact W.iret hx hb hr (fun t ht hW => ⟨_, M, rfl, hp, by rw [ht]; exact hP, fun h => by rw [ht]; exact hz h, hN, hS.F ht⟩) hS.2.2 hdg hlk
theorem z_zreturn (C : zOK X l G b cc nL own d) {v : Int32} {post : Option Value → zM → Prop} (K : zRt X (some .boolean) sh post) (hdg : decode cc pc = .ok (.ireturn, 1)) (hv : v = 0 ∨ v = 1) (hp : post (some (.int v)) M) : zW X sh M pc L [.int v] := by
  obtain ⟨p, l', e, R, s, m, args, below, meth, c, Q, n0, s0, G', b'⟩ := X
  obtain ⟨rfl, rfl, rfl, hx, hb, -⟩ := C
  obtain ⟨hr, hlk, rfl⟩ := K
  intro H locs ls hP hz hS hN hn hs hL
  exact W.zret hx hb hr (z_bool hv).1 (fun t ht hW => ⟨_, M, rfl, hp, by rw [ht]; exact hP, fun h => by rw [ht]; exact hz h, hN, hS.F ht⟩) hS.2.2 hdg hlk
theorem z_return (C : zOK X l G b cc nL own d) {post : Option Value → zM → Prop} (K : zRt X none sh post) (hdg : decode cc pc = .ok (.return_, 1)) (hp : post none M) : zW X sh M pc L [] := by
  obtain ⟨p, l', e, R, s, m, args, below, meth, c, Q, n0, s0, G', b'⟩ := X
  obtain ⟨rfl, rfl, rfl, hx, hb, -⟩ := C
  obtain ⟨hr, hlk, rfl⟩ := K
  intro H locs ls hP hz hS hN hn hs hL
  exact W.vret hx hb hr (fun t ht hW => ⟨_, M, rfl, hp, by rw [ht]; exact hP, fun h => by rw [ht]; exact hz h, hN, hS.F ht⟩) hS.2.2 hdg hlk
theorem z_areturn (C : zOK X l G b cc nL own d) {v : Nat} {rt : FieldType} {post : Option Value → zM → Prop} (K : zRt X (some rt) sh post) (hrt : (∃ n, rt = .object n) ∨ ∃ t, rt = .array t) (hdg : decode cc pc = .ok (.areturn, 1)) (hp : post (some (.ref v)) M) : zW X sh M pc L [.ref v] := by
  obtain ⟨p, l', e, R, s, m, args, below, meth, c, Q, n0, s0, G', b'⟩ := X
  obtain ⟨rfl, rfl, rfl, hx, hb, -⟩ := C
  obtain ⟨hr, hlk, rfl⟩ := K
  intro H locs ls hP hz hS hN hn hs hL
  exact W.aret hx hb hr hrt (Or.inr ⟨v, rfl⟩) (fun t ht hW => ⟨_, M, rfl, hp, by rw [ht]; exact hP, fun h => by rw [ht]; exact hz h, hN, hS.F ht⟩) hS.2.2 hdg hlk
end ZROW3
