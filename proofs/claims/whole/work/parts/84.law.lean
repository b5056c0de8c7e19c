/-! THE LAW: its rows and its cases -/
/-- the script, below the base -/
def zScr (X : zX) (sc L : Nat) (xs : Nat → Int32) : Prop := match X with
  | (_, _, _, _, s, _, _, _, _, _, _, _, _, _, b) => va_X sc L xs s s.heap ∧ sc < s.heap.size ∧ sc < b
section ZLAW
variable {X : zX} {l : Launch} {G : zG} {b : Nat} {cc : ByteArray} {nL : Nat} {own : String} {d : Nat} {sh : List zS} {M : zM} {pc : Nat} {Lc : List (Option Value)} {st : List Value} {sc L : Nat} {xs : Nat → Int32}
theorem z_scln (C : zOK X l G b cc nL own d) (Sc : zScr X sc L xs) (hdg : decode cc pc = .ok (.arraylength, 1)) (kk : zW X sh M (pc + 1) Lc (.int (nI L) :: st)) : zW X sh M pc Lc (.ref sc :: st) := by
  obtain ⟨p, l', e, R, s, m, args, below, meth, c, Q, n0, s0, G', b'⟩ := X
  obtain ⟨rfl, rfl, rfl, hx, hb, -, hown, hts, hAm, -⟩ := C
  obtain ⟨hX, hl, hl2⟩ := Sc
  intro H locs ls hP hz hS hN hn hs hL
  exact va_slen hx hb hX hl (Nat.not_le.mpr hl2) hS hdg (kk H locs ls hP hz hS hN hn hs hL)
theorem z_scld (C : zOK X l G b cc nL own d) (Sc : zScr X sc L xs) {x : Int32} (hdg : decode cc pc = .ok (.iaload, 1)) (hin : vp_in x L) (kk : zW X sh M (pc + 1) Lc (.int (xs x.toNatClampNeg) :: st)) : zW X sh M pc Lc (.int x :: .ref sc :: st) := by
  obtain ⟨p, l', e, R, s, m, args, below, meth, c, Q, n0, s0, G', b'⟩ := X
  obtain ⟨rfl, rfl, rfl, hx, hb, -, hown, hts, hAm, -⟩ := C
  obtain ⟨hX, hl, hl2⟩ := Sc
  intro H locs ls hP hz hS hN hn hs hL
  exact va_sld hx hb hX hl (Nat.not_le.mpr hl2) hS hin hdg (kk H locs ls hP hz hS hN hn hs hL)
end ZLAW
theorem sc_in {i L : Nat} (c : Int32) (h : i + 6 ≤ L) (hL : L ≤ 3072) (hc : 0 ≤ c.toInt ∧ c.toInt ≤ 5) : vp_in (nI i + c) L := by
  have h1 : (nI i).toInt = i := nI_toInt (by omega)
  have h2 : (nI i + c).toInt = i + c.toInt := by
    rw [Int32.toInt_add, h1]
    exact Int.bmod_eq_of_le (by omega) (by omega)
  exact zi_in.mpr ⟨by omega, by omega⟩
theorem sc_in0 {i L : Nat} (h : i + 6 ≤ L) (hL : L ≤ 3072) : vp_in (nI i) L := by
  have h1 : (nI i).toInt = i := nI_toInt (by omega)
  exact zi_in.mpr ⟨by omega, by omega⟩
def lwL (b sc i : Nat) : List (Option Value) := [some (.ref sc), some (.ref (b + 0)), some (.ref (b + 239)), some (.int (nI i))]
set_option maxHeartbeats 1600000 in
theorem lw_c0 {X : zX} {l : Launch} {G : zG} {b : Nat} {M : zM} {sc L i : Nat} {xs : Nat → Int32} (C : zOK X l G b cL_law 4 RL 2048) (Sc : zScr X sc L xs) (hL : L ≤ 3072) (hi : i + 6 ≤ L) (hM : Rel M) (kk : ∀ M', Rel M' → zW X zshL M' 1348 (lwL b sc i) []) : zW X zshL M 208 (lwL b sc i) [] := by
  obtain ⟨A, h1, h2⟩ := op_person (l := l) (G := G) (b := b) hM (k := xs (nI i + 1).toNatClampNeg) (d := xs (nI i + 2).toNatClampNeg) (w := xs (nI i + 3).toNatClampNeg)
  refine z_aload_n (pc := 208) C 1 dL_law_208 rfl rfl ?_
  refine z_aload_n (pc := 209) C 0 dL_law_209 rfl rfl ?_
  refine z_iload_n (pc := 210) C 3 dL_law_210 rfl rfl ?_
  refine z_iconst (pc := 211) (v := 1) C dL_law_211 rfl ?_
  refine z_iadd (pc := 212) C dL_law_212 ?_
  refine z_scld (pc := 213) C Sc dL_law_213 (sc_in 1 hi hL (by decide)) ?_
  refine z_aload_n (pc := 214) C 0 dL_law_214 rfl rfl ?_
  refine z_iload_n (pc := 215) C 3 dL_law_215 rfl rfl ?_
  refine z_iconst (pc := 216) (v := 2) C dL_law_216 rfl ?_
  refine z_iadd (pc := 217) C dL_law_217 ?_
  refine z_scld (pc := 218) C Sc dL_law_218 (sc_in 2 hi hL (by decide)) ?_
  refine z_aload_n (pc := 219) C 0 dL_law_219 rfl rfl ?_
  refine z_iload_n (pc := 220) C 3 dL_law_220 rfl rfl ?_
  refine z_iconst (pc := 221) (v := 3) C dL_law_221 rfl ?_
  refine z_iadd (pc := 222) C dL_law_222 ?_
  refine z_scld (pc := 223) C Sc dL_law_223 (sc_in 3 hi hL (by decide)) ?_
  refine z_callVi (pc := 224) (k := 0) (ci := 9) (As := [.int (xs (nI i + 1).toNatClampNeg), .int (xs (nI i + 2).toNatClampNeg), .int (xs (nI i + 3).toNatClampNeg)]) (rest := []) C dL_law_224 kL_13 h1 (by decide) sh_0 rfl rfl rfl (Nat.le_of_ble_eq_true rfl) (fun r M1 a1 => ?_)
  refine z_aload_n (pc := 227) C 2 dL_law_227 rfl rfl ?_
  refine z_aload_n (pc := 228) C 0 dL_law_228 rfl rfl ?_
  refine z_iload_n (pc := 229) C 3 dL_law_229 rfl rfl ?_
  refine z_iconst (pc := 230) (v := 1) C dL_law_230 rfl ?_
  refine z_iadd (pc := 231) C dL_law_231 ?_
  refine z_scld (pc := 232) C Sc dL_law_232 (sc_in 1 hi hL (by decide)) ?_
  refine z_aload_n (pc := 233) C 0 dL_law_233 rfl rfl ?_
  refine z_iload_n (pc := 234) C 3 dL_law_234 rfl rfl ?_
  refine z_iconst (pc := 235) (v := 2) C dL_law_235 rfl ?_
  refine z_iadd (pc := 236) C dL_law_236 ?_
  refine z_scld (pc := 237) C Sc dL_law_237 (sc_in 2 hi hL (by decide)) ?_
  refine z_aload_n (pc := 238) C 0 dL_law_238 rfl rfl ?_
  refine z_iload_n (pc := 239) C 3 dL_law_239 rfl rfl ?_
  refine z_iconst (pc := 240) (v := 3) C dL_law_240 rfl ?_
  refine z_iadd (pc := 241) C dL_law_241 ?_
  refine z_scld (pc := 242) C Sc dL_law_242 (sc_in 3 hi hL (by decide)) ?_
  refine z_callVi (pc := 243) (k := 239) (ci := 10) (As := [.int (xs (nI i + 1).toNatClampNeg), .int (xs (nI i + 2).toNatClampNeg), .int (xs (nI i + 3).toNatClampNeg)]) (rest := [.int r]) C dL_law_243 kL_17 (h2 r M1 a1) (by decide) sh_239 rfl rfl rfl (Nat.le_of_ble_eq_true rfl) (fun v M2 a2 => ?_)
  obtain ⟨rfl, hR⟩ := a2
  exact z_icmp_eq (pc := 246) C 1348 dL_law_246 (by decide) (fun _ => kk M2 hR) (fun q => absurd rfl q)
set_option maxHeartbeats 1600000 in
theorem lw_c1 {X : zX} {l : Launch} {G : zG} {b : Nat} {M : zM} {sc L i : Nat} {xs : Nat → Int32} (C : zOK X l G b cL_law 4 RL 2048) (Sc : zScr X sc L xs) (hL : L ≤ 3072) (hi : i + 6 ≤ L) (hM : Rel M) (kk : ∀ M', Rel M' → zW X zshL M' 1348 (lwL b sc i) []) : zW X zshL M 251 (lwL b sc i) [] := by
  obtain ⟨A, h1, h2⟩ := op_told (l := l) (G := G) (b := b) hM (x := xs (nI i + 1).toNatClampNeg) (t := xs (nI i + 2).toNatClampNeg)
  refine z_aload_n (pc := 251) C 1 dL_law_251 rfl rfl ?_
  refine z_aload_n (pc := 252) C 0 dL_law_252 rfl rfl ?_
  refine z_iload_n (pc := 253) C 3 dL_law_253 rfl rfl ?_
  refine z_iconst (pc := 254) (v := 1) C dL_law_254 rfl ?_
  refine z_iadd (pc := 255) C dL_law_255 ?_
  refine z_scld (pc := 256) C Sc dL_law_256 (sc_in 1 hi hL (by decide)) ?_
  refine z_aload_n (pc := 257) C 0 dL_law_257 rfl rfl ?_
  refine z_iload_n (pc := 258) C 3 dL_law_258 rfl rfl ?_
  refine z_iconst (pc := 259) (v := 2) C dL_law_259 rfl ?_
  refine z_iadd (pc := 260) C dL_law_260 ?_
  refine z_scld (pc := 261) C Sc dL_law_261 (sc_in 2 hi hL (by decide)) ?_
  refine z_callVi (pc := 262) (k := 0) (ci := 9) (As := [.int (xs (nI i + 1).toNatClampNeg), .int (xs (nI i + 2).toNatClampNeg)]) (rest := []) C dL_law_262 kL_18 h1 (by decide) sh_0 rfl rfl rfl (Nat.le_of_ble_eq_true rfl) (fun r M1 a1 => ?_)
  refine z_aload_n (pc := 265) C 2 dL_law_265 rfl rfl ?_
  refine z_aload_n (pc := 266) C 0 dL_law_266 rfl rfl ?_
  refine z_iload_n (pc := 267) C 3 dL_law_267 rfl rfl ?_
  refine z_iconst (pc := 268) (v := 1) C dL_law_268 rfl ?_
  refine z_iadd (pc := 269) C dL_law_269 ?_
  refine z_scld (pc := 270) C Sc dL_law_270 (sc_in 1 hi hL (by decide)) ?_
  refine z_aload_n (pc := 271) C 0 dL_law_271 rfl rfl ?_
  refine z_iload_n (pc := 272) C 3 dL_law_272 rfl rfl ?_
  refine z_iconst (pc := 273) (v := 2) C dL_law_273 rfl ?_
  refine z_iadd (pc := 274) C dL_law_274 ?_
  refine z_scld (pc := 275) C Sc dL_law_275 (sc_in 2 hi hL (by decide)) ?_
  refine z_callVi (pc := 276) (k := 239) (ci := 10) (As := [.int (xs (nI i + 1).toNatClampNeg), .int (xs (nI i + 2).toNatClampNeg)]) (rest := [.int r]) C dL_law_276 kL_22 (h2 r M1 a1) (by decide) sh_239 rfl rfl rfl (Nat.le_of_ble_eq_true rfl) (fun v M2 a2 => ?_)
  obtain ⟨rfl, hR⟩ := a2
  exact z_icmp_eq (pc := 279) C 1348 dL_law_279 (by decide) (fun _ => kk M2 hR) (fun q => absurd rfl q)
set_option maxHeartbeats 1600000 in
theorem lw_c2 {X : zX} {l : Launch} {G : zG} {b : Nat} {M : zM} {sc L i : Nat} {xs : Nat → Int32} (C : zOK X l G b cL_law 4 RL 2048) (Sc : zScr X sc L xs) (hL : L ≤ 3072) (hi : i + 6 ≤ L) (hM : Rel M) (kk : ∀ M', Rel M' → zW X zshL M' 1348 (lwL b sc i) []) : zW X zshL M 284 (lwL b sc i) [] := by
  obtain ⟨A, h1, h2⟩ := op_as (l := l) (G := G) (b := b) hM (x := xs (nI i + 1).toNatClampNeg) (t := xs (nI i + 2).toNatClampNeg)
  refine z_aload_n (pc := 284) C 1 dL_law_284 rfl rfl ?_
  refine z_aload_n (pc := 285) C 0 dL_law_285 rfl rfl ?_
  refine z_iload_n (pc := 286) C 3 dL_law_286 rfl rfl ?_
  refine z_iconst (pc := 287) (v := 1) C dL_law_287 rfl ?_
  refine z_iadd (pc := 288) C dL_law_288 ?_
  refine z_scld (pc := 289) C Sc dL_law_289 (sc_in 1 hi hL (by decide)) ?_
  refine z_aload_n (pc := 290) C 0 dL_law_290 rfl rfl ?_
  refine z_iload_n (pc := 291) C 3 dL_law_291 rfl rfl ?_
  refine z_iconst (pc := 292) (v := 2) C dL_law_292 rfl ?_
  refine z_iadd (pc := 293) C dL_law_293 ?_
  refine z_scld (pc := 294) C Sc dL_law_294 (sc_in 2 hi hL (by decide)) ?_
  refine z_callVi (pc := 295) (k := 0) (ci := 9) (As := [.int (xs (nI i + 1).toNatClampNeg), .int (xs (nI i + 2).toNatClampNeg)]) (rest := []) C dL_law_295 kL_23 h1 (by decide) sh_0 rfl rfl rfl (Nat.le_of_ble_eq_true rfl) (fun r M1 a1 => ?_)
  refine z_aload_n (pc := 298) C 2 dL_law_298 rfl rfl ?_
  refine z_aload_n (pc := 299) C 0 dL_law_299 rfl rfl ?_
  refine z_iload_n (pc := 300) C 3 dL_law_300 rfl rfl ?_
  refine z_iconst (pc := 301) (v := 1) C dL_law_301 rfl ?_
  refine z_iadd (pc := 302) C dL_law_302 ?_
  refine z_scld (pc := 303) C Sc dL_law_303 (sc_in 1 hi hL (by decide)) ?_
  refine z_aload_n (pc := 304) C 0 dL_law_304 rfl rfl ?_
  refine z_iload_n (pc := 305) C 3 dL_law_305 rfl rfl ?_
  refine z_iconst (pc := 306) (v := 2) C dL_law_306 rfl ?_
  refine z_iadd (pc := 307) C dL_law_307 ?_
  refine z_scld (pc := 308) C Sc dL_law_308 (sc_in 2 hi hL (by decide)) ?_
  refine z_callVi (pc := 309) (k := 239) (ci := 10) (As := [.int (xs (nI i + 1).toNatClampNeg), .int (xs (nI i + 2).toNatClampNeg)]) (rest := [.int r]) C dL_law_309 kL_26 (h2 r M1 a1) (by decide) sh_239 rfl rfl rfl (Nat.le_of_ble_eq_true rfl) (fun v M2 a2 => ?_)
  obtain ⟨rfl, hR⟩ := a2
  exact z_icmp_eq (pc := 312) C 1348 dL_law_312 (by decide) (fun _ => kk M2 hR) (fun q => absurd rfl q)
set_option maxHeartbeats 1600000 in
theorem lw_c3 {X : zX} {l : Launch} {G : zG} {b : Nat} {M : zM} {sc L i : Nat} {xs : Nat → Int32} (C : zOK X l G b cL_law 4 RL 2048) (Sc : zScr X sc L xs) (hL : L ≤ 3072) (hi : i + 6 ≤ L) (hM : Rel M) (kk : ∀ M', Rel M' → zW X zshL M' 1348 (lwL b sc i) []) : zW X zshL M 317 (lwL b sc i) [] := by
  obtain ⟨A, h1, h2⟩ := op_turns (l := l) (G := G) (b := b) hM (x := xs (nI i + 1).toNatClampNeg) (k := xs (nI i + 2).toNatClampNeg)
  refine z_aload_n (pc := 317) C 1 dL_law_317 rfl rfl ?_
  refine z_aload_n (pc := 318) C 0 dL_law_318 rfl rfl ?_
  refine z_iload_n (pc := 319) C 3 dL_law_319 rfl rfl ?_
  refine z_iconst (pc := 320) (v := 1) C dL_law_320 rfl ?_
  refine z_iadd (pc := 321) C dL_law_321 ?_
  refine z_scld (pc := 322) C Sc dL_law_322 (sc_in 1 hi hL (by decide)) ?_
  refine z_aload_n (pc := 323) C 0 dL_law_323 rfl rfl ?_
  refine z_iload_n (pc := 324) C 3 dL_law_324 rfl rfl ?_
  refine z_iconst (pc := 325) (v := 2) C dL_law_325 rfl ?_
  refine z_iadd (pc := 326) C dL_law_326 ?_
  refine z_scld (pc := 327) C Sc dL_law_327 (sc_in 2 hi hL (by decide)) ?_
  refine z_callVi (pc := 328) (k := 0) (ci := 9) (As := [.int (xs (nI i + 1).toNatClampNeg), .int (xs (nI i + 2).toNatClampNeg)]) (rest := []) C dL_law_328 kL_27 h1 (by decide) sh_0 rfl rfl rfl (Nat.le_of_ble_eq_true rfl) (fun r M1 a1 => ?_)
  refine z_aload_n (pc := 331) C 2 dL_law_331 rfl rfl ?_
  refine z_aload_n (pc := 332) C 0 dL_law_332 rfl rfl ?_
  refine z_iload_n (pc := 333) C 3 dL_law_333 rfl rfl ?_
  refine z_iconst (pc := 334) (v := 1) C dL_law_334 rfl ?_
  refine z_iadd (pc := 335) C dL_law_335 ?_
  refine z_scld (pc := 336) C Sc dL_law_336 (sc_in 1 hi hL (by decide)) ?_
  refine z_aload_n (pc := 337) C 0 dL_law_337 rfl rfl ?_
  refine z_iload_n (pc := 338) C 3 dL_law_338 rfl rfl ?_
  refine z_iconst (pc := 339) (v := 2) C dL_law_339 rfl ?_
  refine z_iadd (pc := 340) C dL_law_340 ?_
  refine z_scld (pc := 341) C Sc dL_law_341 (sc_in 2 hi hL (by decide)) ?_
  refine z_callVi (pc := 342) (k := 239) (ci := 10) (As := [.int (xs (nI i + 1).toNatClampNeg), .int (xs (nI i + 2).toNatClampNeg)]) (rest := [.int r]) C dL_law_342 kL_30 (h2 r M1 a1) (by decide) sh_239 rfl rfl rfl (Nat.le_of_ble_eq_true rfl) (fun v M2 a2 => ?_)
  obtain ⟨rfl, hR⟩ := a2
  exact z_icmp_eq (pc := 345) C 1348 dL_law_345 (by decide) (fun _ => kk M2 hR) (fun q => absurd rfl q)
set_option maxHeartbeats 1600000 in
theorem lw_c4 {X : zX} {l : Launch} {G : zG} {b : Nat} {M : zM} {sc L i : Nat} {xs : Nat → Int32} (C : zOK X l G b cL_law 4 RL 2048) (Sc : zScr X sc L xs) (hL : L ≤ 3072) (hi : i + 6 ≤ L) (hM : Rel M) (kk : ∀ M', Rel M' → zW X zshL M' 1348 (lwL b sc i) []) : zW X zshL M 350 (lwL b sc i) [] := by
  obtain ⟨A, h1, h2⟩ := op_set (l := l) (G := G) (b := b) hM (x := xs (nI i + 1).toNatClampNeg) (t := xs (nI i + 2).toNatClampNeg) (v := xs (nI i + 3).toNatClampNeg)
  refine z_aload_n (pc := 350) C 1 dL_law_350 rfl rfl ?_
  refine z_aload_n (pc := 351) C 0 dL_law_351 rfl rfl ?_
  refine z_iload_n (pc := 352) C 3 dL_law_352 rfl rfl ?_
  refine z_iconst (pc := 353) (v := 1) C dL_law_353 rfl ?_
  refine z_iadd (pc := 354) C dL_law_354 ?_
  refine z_scld (pc := 355) C Sc dL_law_355 (sc_in 1 hi hL (by decide)) ?_
  refine z_aload_n (pc := 356) C 0 dL_law_356 rfl rfl ?_
  refine z_iload_n (pc := 357) C 3 dL_law_357 rfl rfl ?_
  refine z_iconst (pc := 358) (v := 2) C dL_law_358 rfl ?_
  refine z_iadd (pc := 359) C dL_law_359 ?_
  refine z_scld (pc := 360) C Sc dL_law_360 (sc_in 2 hi hL (by decide)) ?_
  refine z_aload_n (pc := 361) C 0 dL_law_361 rfl rfl ?_
  refine z_iload_n (pc := 362) C 3 dL_law_362 rfl rfl ?_
  refine z_iconst (pc := 363) (v := 3) C dL_law_363 rfl ?_
  refine z_iadd (pc := 364) C dL_law_364 ?_
  refine z_scld (pc := 365) C Sc dL_law_365 (sc_in 3 hi hL (by decide)) ?_
  refine z_callVi (pc := 366) (k := 0) (ci := 9) (As := [.int (xs (nI i + 1).toNatClampNeg), .int (xs (nI i + 2).toNatClampNeg), .int (xs (nI i + 3).toNatClampNeg)]) (rest := []) C dL_law_366 kL_31 h1 (by decide) sh_0 rfl rfl rfl (Nat.le_of_ble_eq_true rfl) (fun r M1 a1 => ?_)
  refine z_aload_n (pc := 369) C 2 dL_law_369 rfl rfl ?_
  refine z_aload_n (pc := 370) C 0 dL_law_370 rfl rfl ?_
  refine z_iload_n (pc := 371) C 3 dL_law_371 rfl rfl ?_
  refine z_iconst (pc := 372) (v := 1) C dL_law_372 rfl ?_
  refine z_iadd (pc := 373) C dL_law_373 ?_
  refine z_scld (pc := 374) C Sc dL_law_374 (sc_in 1 hi hL (by decide)) ?_
  refine z_aload_n (pc := 375) C 0 dL_law_375 rfl rfl ?_
  refine z_iload_n (pc := 376) C 3 dL_law_376 rfl rfl ?_
  refine z_iconst (pc := 377) (v := 2) C dL_law_377 rfl ?_
  refine z_iadd (pc := 378) C dL_law_378 ?_
  refine z_scld (pc := 379) C Sc dL_law_379 (sc_in 2 hi hL (by decide)) ?_
  refine z_aload_n (pc := 380) C 0 dL_law_380 rfl rfl ?_
  refine z_iload_n (pc := 381) C 3 dL_law_381 rfl rfl ?_
  refine z_iconst (pc := 382) (v := 3) C dL_law_382 rfl ?_
  refine z_iadd (pc := 383) C dL_law_383 ?_
  refine z_scld (pc := 384) C Sc dL_law_384 (sc_in 3 hi hL (by decide)) ?_
  refine z_callVi (pc := 385) (k := 239) (ci := 10) (As := [.int (xs (nI i + 1).toNatClampNeg), .int (xs (nI i + 2).toNatClampNeg), .int (xs (nI i + 3).toNatClampNeg)]) (rest := [.int r]) C dL_law_385 kL_34 (h2 r M1 a1) (by decide) sh_239 rfl rfl rfl (Nat.le_of_ble_eq_true rfl) (fun v M2 a2 => ?_)
  obtain ⟨rfl, hR⟩ := a2
  exact z_icmp_eq (pc := 388) C 1348 dL_law_388 (by decide) (fun _ => kk M2 hR) (fun q => absurd rfl q)
set_option maxHeartbeats 1600000 in
theorem lw_c5 {X : zX} {l : Launch} {G : zG} {b : Nat} {M : zM} {sc L i : Nat} {xs : Nat → Int32} (C : zOK X l G b cL_law 4 RL 2048) (Sc : zScr X sc L xs) (hL : L ≤ 3072) (hi : i + 6 ≤ L) (hM : Rel M) (kk : ∀ M', Rel M' → zW X zshL M' 1348 (lwL b sc i) []) : zW X zshL M 393 (lwL b sc i) [] := by
  obtain ⟨A, h1, h2⟩ := op_forget (l := l) (G := G) (b := b) hM 
  refine z_aload_n (pc := 393) C 1 dL_law_393 rfl rfl ?_
  refine z_callVi (pc := 394) (k := 0) (ci := 9) (As := []) (rest := []) C dL_law_394 kL_35 h1 (by decide) sh_0 rfl rfl rfl (Nat.le_of_ble_eq_true rfl) (fun r M1 a1 => ?_)
  refine z_aload_n (pc := 397) C 2 dL_law_397 rfl rfl ?_
  refine z_callVi (pc := 398) (k := 239) (ci := 10) (As := []) (rest := [.int r]) C dL_law_398 kL_39 (h2 r M1 a1) (by decide) sh_239 rfl rfl rfl (Nat.le_of_ble_eq_true rfl) (fun v M2 a2 => ?_)
  obtain ⟨rfl, hR⟩ := a2
  exact z_icmp_eq (pc := 401) C 1348 dL_law_401 (by decide) (fun _ => kk M2 hR) (fun q => absurd rfl q)
set_option maxHeartbeats 1600000 in
theorem lw_c6 {X : zX} {l : Launch} {G : zG} {b : Nat} {M : zM} {sc L i : Nat} {xs : Nat → Int32} (C : zOK X l G b cL_law 4 RL 2048) (Sc : zScr X sc L xs) (hL : L ≤ 3072) (hi : i + 6 ≤ L) (hM : Rel M) (kk : ∀ M', Rel M' → zW X zshL M' 1348 (lwL b sc i) []) : zW X zshL M 406 (lwL b sc i) [] := by
  obtain ⟨A, h1, h2⟩ := op_deal (l := l) (G := G) (b := b) hM (x := xs (nI i + 1).toNatClampNeg)
  refine z_aload_n (pc := 406) C 1 dL_law_406 rfl rfl ?_
  refine z_aload_n (pc := 407) C 0 dL_law_407 rfl rfl ?_
  refine z_iload_n (pc := 408) C 3 dL_law_408 rfl rfl ?_
  refine z_iconst (pc := 409) (v := 1) C dL_law_409 rfl ?_
  refine z_iadd (pc := 410) C dL_law_410 ?_
  refine z_scld (pc := 411) C Sc dL_law_411 (sc_in 1 hi hL (by decide)) ?_
  refine z_callVi (pc := 412) (k := 0) (ci := 9) (As := [.int (xs (nI i + 1).toNatClampNeg)]) (rest := []) C dL_law_412 kL_40 h1 (by decide) sh_0 rfl rfl rfl (Nat.le_of_ble_eq_true rfl) (fun r M1 a1 => ?_)
  refine z_aload_n (pc := 415) C 2 dL_law_415 rfl rfl ?_
  refine z_aload_n (pc := 416) C 0 dL_law_416 rfl rfl ?_
  refine z_iload_n (pc := 417) C 3 dL_law_417 rfl rfl ?_
  refine z_iconst (pc := 418) (v := 1) C dL_law_418 rfl ?_
  refine z_iadd (pc := 419) C dL_law_419 ?_
  refine z_scld (pc := 420) C Sc dL_law_420 (sc_in 1 hi hL (by decide)) ?_
  refine z_callVi (pc := 421) (k := 239) (ci := 10) (As := [.int (xs (nI i + 1).toNatClampNeg)]) (rest := [.int r]) C dL_law_421 kL_44 (h2 r M1 a1) (by decide) sh_239 rfl rfl rfl (Nat.le_of_ble_eq_true rfl) (fun v M2 a2 => ?_)
  obtain ⟨rfl, hR⟩ := a2
  exact z_icmp_eq (pc := 424) C 1348 dL_law_424 (by decide) (fun _ => kk M2 hR) (fun q => absurd rfl q)
set_option maxHeartbeats 1600000 in
theorem lw_c7 {X : zX} {l : Launch} {G : zG} {b : Nat} {M : zM} {sc L i : Nat} {xs : Nat → Int32} (C : zOK X l G b cL_law 4 RL 2048) (Sc : zScr X sc L xs) (hL : L ≤ 3072) (hi : i + 6 ≤ L) (hM : Rel M) (kk : ∀ M', Rel M' → zW X zshL M' 1348 (lwL b sc i) []) : zW X zshL M 429 (lwL b sc i) [] := by
  obtain ⟨A, h1, h2⟩ := op_seed (l := l) (G := G) (b := b) hM (v := xs (nI i + 1).toNatClampNeg)
  refine z_aload_n (pc := 429) C 1 dL_law_429 rfl rfl ?_
  refine z_aload_n (pc := 430) C 0 dL_law_430 rfl rfl ?_
  refine z_iload_n (pc := 431) C 3 dL_law_431 rfl rfl ?_
  refine z_iconst (pc := 432) (v := 1) C dL_law_432 rfl ?_
  refine z_iadd (pc := 433) C dL_law_433 ?_
  refine z_scld (pc := 434) C Sc dL_law_434 (sc_in 1 hi hL (by decide)) ?_
  refine z_callVi (pc := 435) (k := 0) (ci := 9) (As := [.int (xs (nI i + 1).toNatClampNeg)]) (rest := []) C dL_law_435 kL_45 h1 (by decide) sh_0 rfl rfl rfl (Nat.le_of_ble_eq_true rfl) (fun r M1 a1 => ?_)
  refine z_aload_n (pc := 438) C 2 dL_law_438 rfl rfl ?_
  refine z_aload_n (pc := 439) C 0 dL_law_439 rfl rfl ?_
  refine z_iload_n (pc := 440) C 3 dL_law_440 rfl rfl ?_
  refine z_iconst (pc := 441) (v := 1) C dL_law_441 rfl ?_
  refine z_iadd (pc := 442) C dL_law_442 ?_
  refine z_scld (pc := 443) C Sc dL_law_443 (sc_in 1 hi hL (by decide)) ?_
  refine z_callVi (pc := 444) (k := 239) (ci := 10) (As := [.int (xs (nI i + 1).toNatClampNeg)]) (rest := [.int r]) C dL_law_444 kL_48 (h2 r M1 a1) (by decide) sh_239 rfl rfl rfl (Nat.le_of_ble_eq_true rfl) (fun v M2 a2 => ?_)
  obtain ⟨rfl, hR⟩ := a2
  exact z_icmp_eq (pc := 447) C 1348 dL_law_447 (by decide) (fun _ => kk M2 hR) (fun q => absurd rfl q)
set_option maxHeartbeats 1600000 in
theorem lw_c8 {X : zX} {l : Launch} {G : zG} {b : Nat} {M : zM} {sc L i : Nat} {xs : Nat → Int32} (C : zOK X l G b cL_law 4 RL 2048) (Sc : zScr X sc L xs) (hL : L ≤ 3072) (hi : i + 6 ≤ L) (hM : Rel M) (kk : ∀ M', Rel M' → zW X zshL M' 1348 (lwL b sc i) []) : zW X zshL M 452 (lwL b sc i) [] := by
  obtain ⟨A, h1, h2⟩ := op_safe (l := l) (G := G) (b := b) hM (t := xs (nI i + 1).toNatClampNeg) (v := xs (nI i + 2).toNatClampNeg)
  refine z_aload_n (pc := 452) C 1 dL_law_452 rfl rfl ?_
  refine z_aload_n (pc := 453) C 0 dL_law_453 rfl rfl ?_
  refine z_iload_n (pc := 454) C 3 dL_law_454 rfl rfl ?_
  refine z_iconst (pc := 455) (v := 1) C dL_law_455 rfl ?_
  refine z_iadd (pc := 456) C dL_law_456 ?_
  refine z_scld (pc := 457) C Sc dL_law_457 (sc_in 1 hi hL (by decide)) ?_
  refine z_aload_n (pc := 458) C 0 dL_law_458 rfl rfl ?_
  refine z_iload_n (pc := 459) C 3 dL_law_459 rfl rfl ?_
  refine z_iconst (pc := 460) (v := 2) C dL_law_460 rfl ?_
  refine z_iadd (pc := 461) C dL_law_461 ?_
  refine z_scld (pc := 462) C Sc dL_law_462 (sc_in 2 hi hL (by decide)) ?_
  refine z_callVi (pc := 463) (k := 0) (ci := 9) (As := [.int (xs (nI i + 1).toNatClampNeg), .int (xs (nI i + 2).toNatClampNeg)]) (rest := []) C dL_law_463 kL_49 h1 (by decide) sh_0 rfl rfl rfl (Nat.le_of_ble_eq_true rfl) (fun r M1 a1 => ?_)
  refine z_aload_n (pc := 466) C 2 dL_law_466 rfl rfl ?_
  refine z_aload_n (pc := 467) C 0 dL_law_467 rfl rfl ?_
  refine z_iload_n (pc := 468) C 3 dL_law_468 rfl rfl ?_
  refine z_iconst (pc := 469) (v := 1) C dL_law_469 rfl ?_
  refine z_iadd (pc := 470) C dL_law_470 ?_
  refine z_scld (pc := 471) C Sc dL_law_471 (sc_in 1 hi hL (by decide)) ?_
  refine z_aload_n (pc := 472) C 0 dL_law_472 rfl rfl ?_
  refine z_iload_n (pc := 473) C 3 dL_law_473 rfl rfl ?_
  refine z_iconst (pc := 474) (v := 2) C dL_law_474 rfl ?_
  refine z_iadd (pc := 475) C dL_law_475 ?_
  refine z_scld (pc := 476) C Sc dL_law_476 (sc_in 2 hi hL (by decide)) ?_
  refine z_callVi (pc := 477) (k := 239) (ci := 10) (As := [.int (xs (nI i + 1).toNatClampNeg), .int (xs (nI i + 2).toNatClampNeg)]) (rest := [.int r]) C dL_law_477 kL_52 (h2 r M1 a1) (by decide) sh_239 rfl rfl rfl (Nat.le_of_ble_eq_true rfl) (fun v M2 a2 => ?_)
  obtain ⟨rfl, hR⟩ := a2
  exact z_icmp_eq (pc := 480) C 1348 dL_law_480 (by decide) (fun _ => kk M2 hR) (fun q => absurd rfl q)
set_option maxHeartbeats 1600000 in
theorem lw_c9 {X : zX} {l : Launch} {G : zG} {b : Nat} {M : zM} {sc L i : Nat} {xs : Nat → Int32} (C : zOK X l G b cL_law 4 RL 2048) (Sc : zScr X sc L xs) (hL : L ≤ 3072) (hi : i + 6 ≤ L) (hM : Rel M) (kk : ∀ M', Rel M' → zW X zshL M' 1348 (lwL b sc i) []) : zW X zshL M 485 (lwL b sc i) [] := by
  obtain ⟨A, h1, h2⟩ := op_says (l := l) (G := G) (b := b) hM 
  refine z_aload_n (pc := 485) C 1 dL_law_485 rfl rfl ?_
  refine z_callVi (pc := 486) (k := 0) (ci := 9) (As := []) (rest := []) C dL_law_486 kL_53 h1 (by decide) sh_0 rfl rfl rfl (Nat.le_of_ble_eq_true rfl) (fun r M1 a1 => ?_)
  refine z_aload_n (pc := 489) C 2 dL_law_489 rfl rfl ?_
  refine z_callVi (pc := 490) (k := 239) (ci := 10) (As := []) (rest := [.int r]) C dL_law_490 kL_56 (h2 r M1 a1) (by decide) sh_239 rfl rfl rfl (Nat.le_of_ble_eq_true rfl) (fun v M2 a2 => ?_)
  obtain ⟨rfl, hR⟩ := a2
  exact z_icmp_eq (pc := 493) C 1348 dL_law_493 (by decide) (fun _ => kk M2 hR) (fun q => absurd rfl q)
set_option maxHeartbeats 1600000 in
theorem lw_c10 {X : zX} {l : Launch} {G : zG} {b : Nat} {M : zM} {sc L i : Nat} {xs : Nat → Int32} (C : zOK X l G b cL_law 4 RL 2048) (Sc : zScr X sc L xs) (hL : L ≤ 3072) (hi : i + 6 ≤ L) (hM : Rel M) (kk : ∀ M', Rel M' → zW X zshL M' 1348 (lwL b sc i) []) : zW X zshL M 498 (lwL b sc i) [] := by
  obtain ⟨A, h1, h2⟩ := op_tries (l := l) (G := G) (b := b) hM (x := xs (nI i + 1).toNatClampNeg)
  refine z_aload_n (pc := 498) C 1 dL_law_498 rfl rfl ?_
  refine z_aload_n (pc := 499) C 0 dL_law_499 rfl rfl ?_
  refine z_iload_n (pc := 500) C 3 dL_law_500 rfl rfl ?_
  refine z_iconst (pc := 501) (v := 1) C dL_law_501 rfl ?_
  refine z_iadd (pc := 502) C dL_law_502 ?_
  refine z_scld (pc := 503) C Sc dL_law_503 (sc_in 1 hi hL (by decide)) ?_
  refine z_callVi (pc := 504) (k := 0) (ci := 9) (As := [.int (xs (nI i + 1).toNatClampNeg)]) (rest := []) C dL_law_504 kL_57 h1 (by decide) sh_0 rfl rfl rfl (Nat.le_of_ble_eq_true rfl) (fun r M1 a1 => ?_)
  refine z_aload_n (pc := 507) C 2 dL_law_507 rfl rfl ?_
  refine z_aload_n (pc := 508) C 0 dL_law_508 rfl rfl ?_
  refine z_iload_n (pc := 509) C 3 dL_law_509 rfl rfl ?_
  refine z_iconst (pc := 510) (v := 1) C dL_law_510 rfl ?_
  refine z_iadd (pc := 511) C dL_law_511 ?_
  refine z_scld (pc := 512) C Sc dL_law_512 (sc_in 1 hi hL (by decide)) ?_
  refine z_callVi (pc := 513) (k := 239) (ci := 10) (As := [.int (xs (nI i + 1).toNatClampNeg)]) (rest := [.int r]) C dL_law_513 kL_60 (h2 r M1 a1) (by decide) sh_239 rfl rfl rfl (Nat.le_of_ble_eq_true rfl) (fun v M2 a2 => ?_)
  obtain ⟨rfl, hR⟩ := a2
  exact z_icmp_eq (pc := 516) C 1348 dL_law_516 (by decide) (fun _ => kk M2 hR) (fun q => absurd rfl q)
set_option maxHeartbeats 1600000 in
theorem lw_c11 {X : zX} {l : Launch} {G : zG} {b : Nat} {M : zM} {sc L i : Nat} {xs : Nat → Int32} (C : zOK X l G b cL_law 4 RL 2048) (Sc : zScr X sc L xs) (hL : L ≤ 3072) (hi : i + 6 ≤ L) (hM : Rel M) (kk : ∀ M', Rel M' → zW X zshL M' 1348 (lwL b sc i) []) : zW X zshL M 521 (lwL b sc i) [] := by
  obtain ⟨A, h1, h2⟩ := op_needs (l := l) (G := G) (b := b) hM (x := xs (nI i + 1).toNatClampNeg)
  refine z_aload_n (pc := 521) C 1 dL_law_521 rfl rfl ?_
  refine z_aload_n (pc := 522) C 0 dL_law_522 rfl rfl ?_
  refine z_iload_n (pc := 523) C 3 dL_law_523 rfl rfl ?_
  refine z_iconst (pc := 524) (v := 1) C dL_law_524 rfl ?_
  refine z_iadd (pc := 525) C dL_law_525 ?_
  refine z_scld (pc := 526) C Sc dL_law_526 (sc_in 1 hi hL (by decide)) ?_
  refine z_callVi (pc := 527) (k := 0) (ci := 9) (As := [.int (xs (nI i + 1).toNatClampNeg)]) (rest := []) C dL_law_527 kL_61 h1 (by decide) sh_0 rfl rfl rfl (Nat.le_of_ble_eq_true rfl) (fun r M1 a1 => ?_)
  refine z_aload_n (pc := 530) C 2 dL_law_530 rfl rfl ?_
  refine z_aload_n (pc := 531) C 0 dL_law_531 rfl rfl ?_
  refine z_iload_n (pc := 532) C 3 dL_law_532 rfl rfl ?_
  refine z_iconst (pc := 533) (v := 1) C dL_law_533 rfl ?_
  refine z_iadd (pc := 534) C dL_law_534 ?_
  refine z_scld (pc := 535) C Sc dL_law_535 (sc_in 1 hi hL (by decide)) ?_
  refine z_callVi (pc := 536) (k := 239) (ci := 10) (As := [.int (xs (nI i + 1).toNatClampNeg)]) (rest := [.int r]) C dL_law_536 kL_64 (h2 r M1 a1) (by decide) sh_239 rfl rfl rfl (Nat.le_of_ble_eq_true rfl) (fun v M2 a2 => ?_)
  obtain ⟨rfl, hR⟩ := a2
  exact z_icmp_eq (pc := 539) C 1348 dL_law_539 (by decide) (fun _ => kk M2 hR) (fun q => absurd rfl q)
set_option maxHeartbeats 1600000 in
theorem lw_c12 {X : zX} {l : Launch} {G : zG} {b : Nat} {M : zM} {sc L i : Nat} {xs : Nat → Int32} (C : zOK X l G b cL_law 4 RL 2048) (Sc : zScr X sc L xs) (hL : L ≤ 3072) (hi : i + 6 ≤ L) (hM : Rel M) (kk : ∀ M', Rel M' → zW X zshL M' 1348 (lwL b sc i) []) : zW X zshL M 544 (lwL b sc i) [] := by
  obtain ⟨A, h1, h2⟩ := op_worst (l := l) (G := G) (b := b) hM (t := xs (nI i + 1).toNatClampNeg)
  refine z_aload_n (pc := 544) C 1 dL_law_544 rfl rfl ?_
  refine z_aload_n (pc := 545) C 0 dL_law_545 rfl rfl ?_
  refine z_iload_n (pc := 546) C 3 dL_law_546 rfl rfl ?_
  refine z_iconst (pc := 547) (v := 1) C dL_law_547 rfl ?_
  refine z_iadd (pc := 548) C dL_law_548 ?_
  refine z_scld (pc := 549) C Sc dL_law_549 (sc_in 1 hi hL (by decide)) ?_
  refine z_callVi (pc := 550) (k := 0) (ci := 9) (As := [.int (xs (nI i + 1).toNatClampNeg)]) (rest := []) C dL_law_550 kL_65 h1 (by decide) sh_0 rfl rfl rfl (Nat.le_of_ble_eq_true rfl) (fun r M1 a1 => ?_)
  refine z_aload_n (pc := 553) C 2 dL_law_553 rfl rfl ?_
  refine z_aload_n (pc := 554) C 0 dL_law_554 rfl rfl ?_
  refine z_iload_n (pc := 555) C 3 dL_law_555 rfl rfl ?_
  refine z_iconst (pc := 556) (v := 1) C dL_law_556 rfl ?_
  refine z_iadd (pc := 557) C dL_law_557 ?_
  refine z_scld (pc := 558) C Sc dL_law_558 (sc_in 1 hi hL (by decide)) ?_
  refine z_callVi (pc := 559) (k := 239) (ci := 10) (As := [.int (xs (nI i + 1).toNatClampNeg)]) (rest := [.int r]) C dL_law_559 kL_68 (h2 r M1 a1) (by decide) sh_239 rfl rfl rfl (Nat.le_of_ble_eq_true rfl) (fun v M2 a2 => ?_)
  obtain ⟨rfl, hR⟩ := a2
  exact z_icmp_eq (pc := 562) C 1348 dL_law_562 (by decide) (fun _ => kk M2 hR) (fun q => absurd rfl q)
set_option maxHeartbeats 1600000 in
theorem lw_c13 {X : zX} {l : Launch} {G : zG} {b : Nat} {M : zM} {sc L i : Nat} {xs : Nat → Int32} (C : zOK X l G b cL_law 4 RL 2048) (Sc : zScr X sc L xs) (hL : L ≤ 3072) (hi : i + 6 ≤ L) (hM : Rel M) (kk : ∀ M', Rel M' → zW X zshL M' 1348 (lwL b sc i) []) : zW X zshL M 567 (lwL b sc i) [] := by
  obtain ⟨A, h1, h2⟩ := op_had (l := l) (G := G) (b := b) hM (x := xs (nI i + 1).toNatClampNeg)
  refine z_aload_n (pc := 567) C 1 dL_law_567 rfl rfl ?_
  refine z_aload_n (pc := 568) C 0 dL_law_568 rfl rfl ?_
  refine z_iload_n (pc := 569) C 3 dL_law_569 rfl rfl ?_
  refine z_iconst (pc := 570) (v := 1) C dL_law_570 rfl ?_
  refine z_iadd (pc := 571) C dL_law_571 ?_
  refine z_scld (pc := 572) C Sc dL_law_572 (sc_in 1 hi hL (by decide)) ?_
  refine z_callVi (pc := 573) (k := 0) (ci := 9) (As := [.int (xs (nI i + 1).toNatClampNeg)]) (rest := []) C dL_law_573 kL_69 h1 (by decide) sh_0 rfl rfl rfl (Nat.le_of_ble_eq_true rfl) (fun r M1 a1 => ?_)
  refine z_aload_n (pc := 576) C 2 dL_law_576 rfl rfl ?_
  refine z_aload_n (pc := 577) C 0 dL_law_577 rfl rfl ?_
  refine z_iload_n (pc := 578) C 3 dL_law_578 rfl rfl ?_
  refine z_iconst (pc := 579) (v := 1) C dL_law_579 rfl ?_
  refine z_iadd (pc := 580) C dL_law_580 ?_
  refine z_scld (pc := 581) C Sc dL_law_581 (sc_in 1 hi hL (by decide)) ?_
  refine z_callVi (pc := 582) (k := 239) (ci := 10) (As := [.int (xs (nI i + 1).toNatClampNeg)]) (rest := [.int r]) C dL_law_582 kL_72 (h2 r M1 a1) (by decide) sh_239 rfl rfl rfl (Nat.le_of_ble_eq_true rfl) (fun v M2 a2 => ?_)
  obtain ⟨rfl, hR⟩ := a2
  exact z_icmp_eq (pc := 585) C 1348 dL_law_585 (by decide) (fun _ => kk M2 hR) (fun q => absurd rfl q)
set_option maxHeartbeats 1600000 in
theorem lw_c14 {X : zX} {l : Launch} {G : zG} {b : Nat} {M : zM} {sc L i : Nat} {xs : Nat → Int32} (C : zOK X l G b cL_law 4 RL 2048) (Sc : zScr X sc L xs) (hL : L ≤ 3072) (hi : i + 6 ≤ L) (hM : Rel M) (kk : ∀ M', Rel M' → zW X zshL M' 1348 (lwL b sc i) []) : zW X zshL M 590 (lwL b sc i) [] := by
  obtain ⟨A, h1, h2⟩ := op_start (l := l) (G := G) (b := b) hM (x := xs (nI i + 1).toNatClampNeg) (t := xs (nI i + 2).toNatClampNeg)
  refine z_aload_n (pc := 590) C 1 dL_law_590 rfl rfl ?_
  refine z_aload_n (pc := 591) C 0 dL_law_591 rfl rfl ?_
  refine z_iload_n (pc := 592) C 3 dL_law_592 rfl rfl ?_
  refine z_iconst (pc := 593) (v := 1) C dL_law_593 rfl ?_
  refine z_iadd (pc := 594) C dL_law_594 ?_
  refine z_scld (pc := 595) C Sc dL_law_595 (sc_in 1 hi hL (by decide)) ?_
  refine z_aload_n (pc := 596) C 0 dL_law_596 rfl rfl ?_
  refine z_iload_n (pc := 597) C 3 dL_law_597 rfl rfl ?_
  refine z_iconst (pc := 598) (v := 2) C dL_law_598 rfl ?_
  refine z_iadd (pc := 599) C dL_law_599 ?_
  refine z_scld (pc := 600) C Sc dL_law_600 (sc_in 2 hi hL (by decide)) ?_
  refine z_callVi (pc := 601) (k := 0) (ci := 9) (As := [.int (xs (nI i + 1).toNatClampNeg), .int (xs (nI i + 2).toNatClampNeg)]) (rest := []) C dL_law_601 kL_73 h1 (by decide) sh_0 rfl rfl rfl (Nat.le_of_ble_eq_true rfl) (fun r M1 a1 => ?_)
  refine z_aload_n (pc := 604) C 2 dL_law_604 rfl rfl ?_
  refine z_aload_n (pc := 605) C 0 dL_law_605 rfl rfl ?_
  refine z_iload_n (pc := 606) C 3 dL_law_606 rfl rfl ?_
  refine z_iconst (pc := 607) (v := 1) C dL_law_607 rfl ?_
  refine z_iadd (pc := 608) C dL_law_608 ?_
  refine z_scld (pc := 609) C Sc dL_law_609 (sc_in 1 hi hL (by decide)) ?_
  refine z_aload_n (pc := 610) C 0 dL_law_610 rfl rfl ?_
  refine z_iload_n (pc := 611) C 3 dL_law_611 rfl rfl ?_
  refine z_iconst (pc := 612) (v := 2) C dL_law_612 rfl ?_
  refine z_iadd (pc := 613) C dL_law_613 ?_
  refine z_scld (pc := 614) C Sc dL_law_614 (sc_in 2 hi hL (by decide)) ?_
  refine z_callVi (pc := 615) (k := 239) (ci := 10) (As := [.int (xs (nI i + 1).toNatClampNeg), .int (xs (nI i + 2).toNatClampNeg)]) (rest := [.int r]) C dL_law_615 kL_76 (h2 r M1 a1) (by decide) sh_239 rfl rfl rfl (Nat.le_of_ble_eq_true rfl) (fun v M2 a2 => ?_)
  obtain ⟨rfl, hR⟩ := a2
  exact z_icmp_eq (pc := 618) C 1348 dL_law_618 (by decide) (fun _ => kk M2 hR) (fun q => absurd rfl q)
set_option maxHeartbeats 1600000 in
theorem lw_c15 {X : zX} {l : Launch} {G : zG} {b : Nat} {M : zM} {sc L i : Nat} {xs : Nat → Int32} (C : zOK X l G b cL_law 4 RL 2048) (Sc : zScr X sc L xs) (hL : L ≤ 3072) (hi : i + 6 ≤ L) (hM : Rel M) (kk : ∀ M', Rel M' → zW X zshL M' 1348 (lwL b sc i) []) : zW X zshL M 623 (lwL b sc i) [] := by
  obtain ⟨A, h1, h2⟩ := op_tells (l := l) (G := G) (b := b) hM (t := xs (nI i + 1).toNatClampNeg)
  refine z_aload_n (pc := 623) C 1 dL_law_623 rfl rfl ?_
  refine z_aload_n (pc := 624) C 0 dL_law_624 rfl rfl ?_
  refine z_iload_n (pc := 625) C 3 dL_law_625 rfl rfl ?_
  refine z_iconst (pc := 626) (v := 1) C dL_law_626 rfl ?_
  refine z_iadd (pc := 627) C dL_law_627 ?_
  refine z_scld (pc := 628) C Sc dL_law_628 (sc_in 1 hi hL (by decide)) ?_
  refine z_callVi (pc := 629) (k := 0) (ci := 9) (As := [.int (xs (nI i + 1).toNatClampNeg)]) (rest := []) C dL_law_629 kL_77 h1 (by decide) sh_0 rfl rfl rfl (Nat.le_of_ble_eq_true rfl) (fun r M1 a1 => ?_)
  refine z_aload_n (pc := 632) C 2 dL_law_632 rfl rfl ?_
  refine z_aload_n (pc := 633) C 0 dL_law_633 rfl rfl ?_
  refine z_iload_n (pc := 634) C 3 dL_law_634 rfl rfl ?_
  refine z_iconst (pc := 635) (v := 1) C dL_law_635 rfl ?_
  refine z_iadd (pc := 636) C dL_law_636 ?_
  refine z_scld (pc := 637) C Sc dL_law_637 (sc_in 1 hi hL (by decide)) ?_
  refine z_callVi (pc := 638) (k := 239) (ci := 10) (As := [.int (xs (nI i + 1).toNatClampNeg)]) (rest := [.int r]) C dL_law_638 kL_80 (h2 r M1 a1) (by decide) sh_239 rfl rfl rfl (Nat.le_of_ble_eq_true rfl) (fun v M2 a2 => ?_)
  obtain ⟨rfl, hR⟩ := a2
  exact z_icmp_eq (pc := 641) C 1348 dL_law_641 (by decide) (fun _ => kk M2 hR) (fun q => absurd rfl q)
set_option maxHeartbeats 1600000 in
theorem lw_c16 {X : zX} {l : Launch} {G : zG} {b : Nat} {M : zM} {sc L i : Nat} {xs : Nat → Int32} (C : zOK X l G b cL_law 4 RL 2048) (Sc : zScr X sc L xs) (hL : L ≤ 3072) (hi : i + 6 ≤ L) (hM : Rel M) (kk : ∀ M', Rel M' → zW X zshL M' 1348 (lwL b sc i) []) : zW X zshL M 646 (lwL b sc i) [] := by
  obtain ⟨A, h1, h2⟩ := op_keeps (l := l) (G := G) (b := b) hM (x := xs (nI i + 1).toNatClampNeg)
  refine z_aload_n (pc := 646) C 1 dL_law_646 rfl rfl ?_
  refine z_aload_n (pc := 647) C 0 dL_law_647 rfl rfl ?_
  refine z_iload_n (pc := 648) C 3 dL_law_648 rfl rfl ?_
  refine z_iconst (pc := 649) (v := 1) C dL_law_649 rfl ?_
  refine z_iadd (pc := 650) C dL_law_650 ?_
  refine z_scld (pc := 651) C Sc dL_law_651 (sc_in 1 hi hL (by decide)) ?_
  refine z_callVi (pc := 652) (k := 0) (ci := 9) (As := [.int (xs (nI i + 1).toNatClampNeg)]) (rest := []) C dL_law_652 kL_81 h1 (by decide) sh_0 rfl rfl rfl (Nat.le_of_ble_eq_true rfl) (fun r M1 a1 => ?_)
  refine z_aload_n (pc := 655) C 2 dL_law_655 rfl rfl ?_
  refine z_aload_n (pc := 656) C 0 dL_law_656 rfl rfl ?_
  refine z_iload_n (pc := 657) C 3 dL_law_657 rfl rfl ?_
  refine z_iconst (pc := 658) (v := 1) C dL_law_658 rfl ?_
  refine z_iadd (pc := 659) C dL_law_659 ?_
  refine z_scld (pc := 660) C Sc dL_law_660 (sc_in 1 hi hL (by decide)) ?_
  refine z_callVi (pc := 661) (k := 239) (ci := 10) (As := [.int (xs (nI i + 1).toNatClampNeg)]) (rest := [.int r]) C dL_law_661 kL_84 (h2 r M1 a1) (by decide) sh_239 rfl rfl rfl (Nat.le_of_ble_eq_true rfl) (fun v M2 a2 => ?_)
  obtain ⟨rfl, hR⟩ := a2
  exact z_icmp_eq (pc := 664) C 1348 dL_law_664 (by decide) (fun _ => kk M2 hR) (fun q => absurd rfl q)
set_option maxHeartbeats 1600000 in
theorem lw_c17 {X : zX} {l : Launch} {G : zG} {b : Nat} {M : zM} {sc L i : Nat} {xs : Nat → Int32} (C : zOK X l G b cL_law 4 RL 2048) (Sc : zScr X sc L xs) (hL : L ≤ 3072) (hi : i + 6 ≤ L) (hM : Rel M) (kk : ∀ M', Rel M' → zW X zshL M' 1348 (lwL b sc i) []) : zW X zshL M 669 (lwL b sc i) [] := by
  obtain ⟨A, h1, h2⟩ := op_behind (l := l) (G := G) (b := b) hM (x := xs (nI i + 1).toNatClampNeg) (c := xs (nI i + 2).toNatClampNeg) (t := xs (nI i + 3).toNatClampNeg)
  refine z_aload_n (pc := 669) C 1 dL_law_669 rfl rfl ?_
  refine z_aload_n (pc := 670) C 0 dL_law_670 rfl rfl ?_
  refine z_iload_n (pc := 671) C 3 dL_law_671 rfl rfl ?_
  refine z_iconst (pc := 672) (v := 1) C dL_law_672 rfl ?_
  refine z_iadd (pc := 673) C dL_law_673 ?_
  refine z_scld (pc := 674) C Sc dL_law_674 (sc_in 1 hi hL (by decide)) ?_
  refine z_aload_n (pc := 675) C 0 dL_law_675 rfl rfl ?_
  refine z_iload_n (pc := 676) C 3 dL_law_676 rfl rfl ?_
  refine z_iconst (pc := 677) (v := 2) C dL_law_677 rfl ?_
  refine z_iadd (pc := 678) C dL_law_678 ?_
  refine z_scld (pc := 679) C Sc dL_law_679 (sc_in 2 hi hL (by decide)) ?_
  refine z_aload_n (pc := 680) C 0 dL_law_680 rfl rfl ?_
  refine z_iload_n (pc := 681) C 3 dL_law_681 rfl rfl ?_
  refine z_iconst (pc := 682) (v := 3) C dL_law_682 rfl ?_
  refine z_iadd (pc := 683) C dL_law_683 ?_
  refine z_scld (pc := 684) C Sc dL_law_684 (sc_in 3 hi hL (by decide)) ?_
  refine z_callVi (pc := 685) (k := 0) (ci := 9) (As := [.int (xs (nI i + 1).toNatClampNeg), .int (xs (nI i + 2).toNatClampNeg), .int (xs (nI i + 3).toNatClampNeg)]) (rest := []) C dL_law_685 kL_85 h1 (by decide) sh_0 rfl rfl rfl (Nat.le_of_ble_eq_true rfl) (fun r M1 a1 => ?_)
  refine z_aload_n (pc := 688) C 2 dL_law_688 rfl rfl ?_
  refine z_aload_n (pc := 689) C 0 dL_law_689 rfl rfl ?_
  refine z_iload_n (pc := 690) C 3 dL_law_690 rfl rfl ?_
  refine z_iconst (pc := 691) (v := 1) C dL_law_691 rfl ?_
  refine z_iadd (pc := 692) C dL_law_692 ?_
  refine z_scld (pc := 693) C Sc dL_law_693 (sc_in 1 hi hL (by decide)) ?_
  refine z_aload_n (pc := 694) C 0 dL_law_694 rfl rfl ?_
  refine z_iload_n (pc := 695) C 3 dL_law_695 rfl rfl ?_
  refine z_iconst (pc := 696) (v := 2) C dL_law_696 rfl ?_
  refine z_iadd (pc := 697) C dL_law_697 ?_
  refine z_scld (pc := 698) C Sc dL_law_698 (sc_in 2 hi hL (by decide)) ?_
  refine z_aload_n (pc := 699) C 0 dL_law_699 rfl rfl ?_
  refine z_iload_n (pc := 700) C 3 dL_law_700 rfl rfl ?_
  refine z_iconst (pc := 701) (v := 3) C dL_law_701 rfl ?_
  refine z_iadd (pc := 702) C dL_law_702 ?_
  refine z_scld (pc := 703) C Sc dL_law_703 (sc_in 3 hi hL (by decide)) ?_
  refine z_callVi (pc := 704) (k := 239) (ci := 10) (As := [.int (xs (nI i + 1).toNatClampNeg), .int (xs (nI i + 2).toNatClampNeg), .int (xs (nI i + 3).toNatClampNeg)]) (rest := [.int r]) C dL_law_704 kL_88 (h2 r M1 a1) (by decide) sh_239 rfl rfl rfl (Nat.le_of_ble_eq_true rfl) (fun v M2 a2 => ?_)
  obtain ⟨rfl, hR⟩ := a2
  exact z_icmp_eq (pc := 707) C 1348 dL_law_707 (by decide) (fun _ => kk M2 hR) (fun q => absurd rfl q)
set_option maxHeartbeats 1600000 in
theorem lw_c18 {X : zX} {l : Launch} {G : zG} {b : Nat} {M : zM} {sc L i : Nat} {xs : Nat → Int32} (C : zOK X l G b cL_law 4 RL 2048) (Sc : zScr X sc L xs) (hL : L ≤ 3072) (hi : i + 6 ≤ L) (hM : Rel M) (kk : ∀ M', Rel M' → zW X zshL M' 1348 (lwL b sc i) []) : zW X zshL M 712 (lwL b sc i) [] := by
  obtain ⟨A, h1, h2⟩ := op_left (l := l) (G := G) (b := b) hM (x := xs (nI i + 1).toNatClampNeg) (t := xs (nI i + 2).toNatClampNeg)
  refine z_aload_n (pc := 712) C 1 dL_law_712 rfl rfl ?_
  refine z_aload_n (pc := 713) C 0 dL_law_713 rfl rfl ?_
  refine z_iload_n (pc := 714) C 3 dL_law_714 rfl rfl ?_
  refine z_iconst (pc := 715) (v := 1) C dL_law_715 rfl ?_
  refine z_iadd (pc := 716) C dL_law_716 ?_
  refine z_scld (pc := 717) C Sc dL_law_717 (sc_in 1 hi hL (by decide)) ?_
  refine z_aload_n (pc := 718) C 0 dL_law_718 rfl rfl ?_
  refine z_iload_n (pc := 719) C 3 dL_law_719 rfl rfl ?_
  refine z_iconst (pc := 720) (v := 2) C dL_law_720 rfl ?_
  refine z_iadd (pc := 721) C dL_law_721 ?_
  refine z_scld (pc := 722) C Sc dL_law_722 (sc_in 2 hi hL (by decide)) ?_
  refine z_callVi (pc := 723) (k := 0) (ci := 9) (As := [.int (xs (nI i + 1).toNatClampNeg), .int (xs (nI i + 2).toNatClampNeg)]) (rest := []) C dL_law_723 kL_89 h1 (by decide) sh_0 rfl rfl rfl (Nat.le_of_ble_eq_true rfl) (fun r M1 a1 => ?_)
  refine z_aload_n (pc := 726) C 2 dL_law_726 rfl rfl ?_
  refine z_aload_n (pc := 727) C 0 dL_law_727 rfl rfl ?_
  refine z_iload_n (pc := 728) C 3 dL_law_728 rfl rfl ?_
  refine z_iconst (pc := 729) (v := 1) C dL_law_729 rfl ?_
  refine z_iadd (pc := 730) C dL_law_730 ?_
  refine z_scld (pc := 731) C Sc dL_law_731 (sc_in 1 hi hL (by decide)) ?_
  refine z_aload_n (pc := 732) C 0 dL_law_732 rfl rfl ?_
  refine z_iload_n (pc := 733) C 3 dL_law_733 rfl rfl ?_
  refine z_iconst (pc := 734) (v := 2) C dL_law_734 rfl ?_
  refine z_iadd (pc := 735) C dL_law_735 ?_
  refine z_scld (pc := 736) C Sc dL_law_736 (sc_in 2 hi hL (by decide)) ?_
  refine z_callVi (pc := 737) (k := 239) (ci := 10) (As := [.int (xs (nI i + 1).toNatClampNeg), .int (xs (nI i + 2).toNatClampNeg)]) (rest := [.int r]) C dL_law_737 kL_92 (h2 r M1 a1) (by decide) sh_239 rfl rfl rfl (Nat.le_of_ble_eq_true rfl) (fun v M2 a2 => ?_)
  obtain ⟨rfl, hR⟩ := a2
  exact z_icmp_eq (pc := 740) C 1348 dL_law_740 (by decide) (fun _ => kk M2 hR) (fun q => absurd rfl q)
set_option maxHeartbeats 1600000 in
theorem lw_c19 {X : zX} {l : Launch} {G : zG} {b : Nat} {M : zM} {sc L i : Nat} {xs : Nat → Int32} (C : zOK X l G b cL_law 4 RL 2048) (Sc : zScr X sc L xs) (hL : L ≤ 3072) (hi : i + 6 ≤ L) (hM : Rel M) (kk : ∀ M', Rel M' → zW X zshL M' 1348 (lwL b sc i) []) : zW X zshL M 745 (lwL b sc i) [] := by
  obtain ⟨A, h1, h2⟩ := op_fee (l := l) (G := G) (b := b) hM 
  refine z_aload_n (pc := 745) C 1 dL_law_745 rfl rfl ?_
  refine z_callVi (pc := 746) (k := 0) (ci := 9) (As := []) (rest := []) C dL_law_746 kL_93 h1 (by decide) sh_0 rfl rfl rfl (Nat.le_of_ble_eq_true rfl) (fun r M1 a1 => ?_)
  refine z_aload_n (pc := 749) C 2 dL_law_749 rfl rfl ?_
  refine z_callVi (pc := 750) (k := 239) (ci := 10) (As := []) (rest := [.int r]) C dL_law_750 kL_96 (h2 r M1 a1) (by decide) sh_239 rfl rfl rfl (Nat.le_of_ble_eq_true rfl) (fun v M2 a2 => ?_)
  obtain ⟨rfl, hR⟩ := a2
  exact z_icmp_eq (pc := 753) C 1348 dL_law_753 (by decide) (fun _ => kk M2 hR) (fun q => absurd rfl q)
set_option maxHeartbeats 1600000 in
theorem lw_c20 {X : zX} {l : Launch} {G : zG} {b : Nat} {M : zM} {sc L i : Nat} {xs : Nat → Int32} (C : zOK X l G b cL_law 4 RL 2048) (Sc : zScr X sc L xs) (hL : L ≤ 3072) (hi : i + 6 ≤ L) (hM : Rel M) (kk : ∀ M', Rel M' → zW X zshL M' 1348 (lwL b sc i) []) : zW X zshL M 758 (lwL b sc i) [] := by
  obtain ⟨A, h1, h2⟩ := op_fine (l := l) (G := G) (b := b) hM (x := xs (nI i + 1).toNatClampNeg)
  refine z_aload_n (pc := 758) C 1 dL_law_758 rfl rfl ?_
  refine z_aload_n (pc := 759) C 0 dL_law_759 rfl rfl ?_
  refine z_iload_n (pc := 760) C 3 dL_law_760 rfl rfl ?_
  refine z_iconst (pc := 761) (v := 1) C dL_law_761 rfl ?_
  refine z_iadd (pc := 762) C dL_law_762 ?_
  refine z_scld (pc := 763) C Sc dL_law_763 (sc_in 1 hi hL (by decide)) ?_
  refine z_callVi (pc := 764) (k := 0) (ci := 9) (As := [.int (xs (nI i + 1).toNatClampNeg)]) (rest := []) C dL_law_764 kL_97 h1 (by decide) sh_0 rfl rfl rfl (Nat.le_of_ble_eq_true rfl) (fun r M1 a1 => ?_)
  refine z_aload_n (pc := 767) C 2 dL_law_767 rfl rfl ?_
  refine z_aload_n (pc := 768) C 0 dL_law_768 rfl rfl ?_
  refine z_iload_n (pc := 769) C 3 dL_law_769 rfl rfl ?_
  refine z_iconst (pc := 770) (v := 1) C dL_law_770 rfl ?_
  refine z_iadd (pc := 771) C dL_law_771 ?_
  refine z_scld (pc := 772) C Sc dL_law_772 (sc_in 1 hi hL (by decide)) ?_
  refine z_callVi (pc := 773) (k := 239) (ci := 10) (As := [.int (xs (nI i + 1).toNatClampNeg)]) (rest := [.int r]) C dL_law_773 kL_100 (h2 r M1 a1) (by decide) sh_239 rfl rfl rfl (Nat.le_of_ble_eq_true rfl) (fun v M2 a2 => ?_)
  obtain ⟨rfl, hR⟩ := a2
  exact z_icmp_eq (pc := 776) C 1348 dL_law_776 (by decide) (fun _ => kk M2 hR) (fun q => absurd rfl q)
set_option maxHeartbeats 1600000 in
theorem lw_c21 {X : zX} {l : Launch} {G : zG} {b : Nat} {M : zM} {sc L i : Nat} {xs : Nat → Int32} (C : zOK X l G b cL_law 4 RL 2048) (Sc : zScr X sc L xs) (hL : L ≤ 3072) (hi : i + 6 ≤ L) (hM : Rel M) (kk : ∀ M', Rel M' → zW X zshL M' 1348 (lwL b sc i) []) : zW X zshL M 781 (lwL b sc i) [] := by
  obtain ⟨A, h1, h2⟩ := op_feed (l := l) (G := G) (b := b) hM (v1 := xs (nI i + 1).toNatClampNeg) (v2 := xs (nI i + 2).toNatClampNeg) (v3 := xs (nI i + 3).toNatClampNeg)
  refine z_aload_n (pc := 781) C 1 dL_law_781 rfl rfl ?_
  refine z_aload_n (pc := 782) C 0 dL_law_782 rfl rfl ?_
  refine z_iload_n (pc := 783) C 3 dL_law_783 rfl rfl ?_
  refine z_iconst (pc := 784) (v := 1) C dL_law_784 rfl ?_
  refine z_iadd (pc := 785) C dL_law_785 ?_
  refine z_scld (pc := 786) C Sc dL_law_786 (sc_in 1 hi hL (by decide)) ?_
  refine z_aload_n (pc := 787) C 0 dL_law_787 rfl rfl ?_
  refine z_iload_n (pc := 788) C 3 dL_law_788 rfl rfl ?_
  refine z_iconst (pc := 789) (v := 2) C dL_law_789 rfl ?_
  refine z_iadd (pc := 790) C dL_law_790 ?_
  refine z_scld (pc := 791) C Sc dL_law_791 (sc_in 2 hi hL (by decide)) ?_
  refine z_aload_n (pc := 792) C 0 dL_law_792 rfl rfl ?_
  refine z_iload_n (pc := 793) C 3 dL_law_793 rfl rfl ?_
  refine z_iconst (pc := 794) (v := 3) C dL_law_794 rfl ?_
  refine z_iadd (pc := 795) C dL_law_795 ?_
  refine z_scld (pc := 796) C Sc dL_law_796 (sc_in 3 hi hL (by decide)) ?_
  refine z_callVi (pc := 797) (k := 0) (ci := 9) (As := [.int (xs (nI i + 1).toNatClampNeg), .int (xs (nI i + 2).toNatClampNeg), .int (xs (nI i + 3).toNatClampNeg)]) (rest := []) C dL_law_797 kL_101 h1 (by decide) sh_0 rfl rfl rfl (Nat.le_of_ble_eq_true rfl) (fun r M1 a1 => ?_)
  refine z_aload_n (pc := 800) C 2 dL_law_800 rfl rfl ?_
  refine z_aload_n (pc := 801) C 0 dL_law_801 rfl rfl ?_
  refine z_iload_n (pc := 802) C 3 dL_law_802 rfl rfl ?_
  refine z_iconst (pc := 803) (v := 1) C dL_law_803 rfl ?_
  refine z_iadd (pc := 804) C dL_law_804 ?_
  refine z_scld (pc := 805) C Sc dL_law_805 (sc_in 1 hi hL (by decide)) ?_
  refine z_aload_n (pc := 806) C 0 dL_law_806 rfl rfl ?_
  refine z_iload_n (pc := 807) C 3 dL_law_807 rfl rfl ?_
  refine z_iconst (pc := 808) (v := 2) C dL_law_808 rfl ?_
  refine z_iadd (pc := 809) C dL_law_809 ?_
  refine z_scld (pc := 810) C Sc dL_law_810 (sc_in 2 hi hL (by decide)) ?_
  refine z_aload_n (pc := 811) C 0 dL_law_811 rfl rfl ?_
  refine z_iload_n (pc := 812) C 3 dL_law_812 rfl rfl ?_
  refine z_iconst (pc := 813) (v := 3) C dL_law_813 rfl ?_
  refine z_iadd (pc := 814) C dL_law_814 ?_
  refine z_scld (pc := 815) C Sc dL_law_815 (sc_in 3 hi hL (by decide)) ?_
  refine z_callVi (pc := 816) (k := 239) (ci := 10) (As := [.int (xs (nI i + 1).toNatClampNeg), .int (xs (nI i + 2).toNatClampNeg), .int (xs (nI i + 3).toNatClampNeg)]) (rest := [.int r]) C dL_law_816 kL_104 (h2 r M1 a1) (by decide) sh_239 rfl rfl rfl (Nat.le_of_ble_eq_true rfl) (fun v M2 a2 => ?_)
  obtain ⟨rfl, hR⟩ := a2
  exact z_icmp_eq (pc := 819) C 1348 dL_law_819 (by decide) (fun _ => kk M2 hR) (fun q => absurd rfl q)
set_option maxHeartbeats 1600000 in
theorem lw_c22 {X : zX} {l : Launch} {G : zG} {b : Nat} {M : zM} {sc L i : Nat} {xs : Nat → Int32} (C : zOK X l G b cL_law 4 RL 2048) (Sc : zScr X sc L xs) (hL : L ≤ 3072) (hi : i + 6 ≤ L) (hM : Rel M) (kk : ∀ M', Rel M' → zW X zshL M' 1348 (lwL b sc i) []) : zW X zshL M 824 (lwL b sc i) [] := by
  obtain ⟨A, h1, h2⟩ := op_trim (l := l) (G := G) (b := b) hM (x := xs (nI i + 1).toNatClampNeg)
  refine z_aload_n (pc := 824) C 1 dL_law_824 rfl rfl ?_
  refine z_aload_n (pc := 825) C 0 dL_law_825 rfl rfl ?_
  refine z_iload_n (pc := 826) C 3 dL_law_826 rfl rfl ?_
  refine z_iconst (pc := 827) (v := 1) C dL_law_827 rfl ?_
  refine z_iadd (pc := 828) C dL_law_828 ?_
  refine z_scld (pc := 829) C Sc dL_law_829 (sc_in 1 hi hL (by decide)) ?_
  refine z_callVi (pc := 830) (k := 0) (ci := 9) (As := [.int (xs (nI i + 1).toNatClampNeg)]) (rest := []) C dL_law_830 kL_105 h1 (by decide) sh_0 rfl rfl rfl (Nat.le_of_ble_eq_true rfl) (fun r M1 a1 => ?_)
  refine z_aload_n (pc := 833) C 2 dL_law_833 rfl rfl ?_
  refine z_aload_n (pc := 834) C 0 dL_law_834 rfl rfl ?_
  refine z_iload_n (pc := 835) C 3 dL_law_835 rfl rfl ?_
  refine z_iconst (pc := 836) (v := 1) C dL_law_836 rfl ?_
  refine z_iadd (pc := 837) C dL_law_837 ?_
  refine z_scld (pc := 838) C Sc dL_law_838 (sc_in 1 hi hL (by decide)) ?_
  refine z_callVi (pc := 839) (k := 239) (ci := 10) (As := [.int (xs (nI i + 1).toNatClampNeg)]) (rest := [.int r]) C dL_law_839 kL_108 (h2 r M1 a1) (by decide) sh_239 rfl rfl rfl (Nat.le_of_ble_eq_true rfl) (fun v M2 a2 => ?_)
  obtain ⟨rfl, hR⟩ := a2
  exact z_icmp_eq (pc := 842) C 1348 dL_law_842 (by decide) (fun _ => kk M2 hR) (fun q => absurd rfl q)
set_option maxHeartbeats 1600000 in
theorem lw_c23 {X : zX} {l : Launch} {G : zG} {b : Nat} {M : zM} {sc L i : Nat} {xs : Nat → Int32} (C : zOK X l G b cL_law 4 RL 2048) (Sc : zScr X sc L xs) (hL : L ≤ 3072) (hi : i + 6 ≤ L) (hM : Rel M) (kk : ∀ M', Rel M' → zW X zshL M' 1348 (lwL b sc i) []) : zW X zshL M 847 (lwL b sc i) [] := by
  obtain ⟨A, h1, h2⟩ := op_text (l := l) (G := G) (b := b) hM 
  refine z_aload_n (pc := 847) C 1 dL_law_847 rfl rfl ?_
  refine z_callVi (pc := 848) (k := 0) (ci := 9) (As := []) (rest := []) C dL_law_848 kL_109 h1 (by decide) sh_0 rfl rfl rfl (Nat.le_of_ble_eq_true rfl) (fun r M1 a1 => ?_)
  refine z_aload_n (pc := 851) C 2 dL_law_851 rfl rfl ?_
  refine z_callVi (pc := 852) (k := 239) (ci := 10) (As := []) (rest := [.int r]) C dL_law_852 kL_112 (h2 r M1 a1) (by decide) sh_239 rfl rfl rfl (Nat.le_of_ble_eq_true rfl) (fun v M2 a2 => ?_)
  obtain ⟨rfl, hR⟩ := a2
  exact z_icmp_eq (pc := 855) C 1348 dL_law_855 (by decide) (fun _ => kk M2 hR) (fun q => absurd rfl q)
set_option maxHeartbeats 1600000 in
theorem lw_c24 {X : zX} {l : Launch} {G : zG} {b : Nat} {M : zM} {sc L i : Nat} {xs : Nat → Int32} (C : zOK X l G b cL_law 4 RL 2048) (Sc : zScr X sc L xs) (hL : L ≤ 3072) (hi : i + 6 ≤ L) (hM : Rel M) (kk : ∀ M', Rel M' → zW X zshL M' 1348 (lwL b sc i) []) : zW X zshL M 860 (lwL b sc i) [] := by
  obtain ⟨A, h1, h2⟩ := op_textTold (l := l) (G := G) (b := b) hM (x := xs (nI i + 1).toNatClampNeg) (t := xs (nI i + 2).toNatClampNeg)
  refine z_aload_n (pc := 860) C 1 dL_law_860 rfl rfl ?_
  refine z_aload_n (pc := 861) C 0 dL_law_861 rfl rfl ?_
  refine z_iload_n (pc := 862) C 3 dL_law_862 rfl rfl ?_
  refine z_iconst (pc := 863) (v := 1) C dL_law_863 rfl ?_
  refine z_iadd (pc := 864) C dL_law_864 ?_
  refine z_scld (pc := 865) C Sc dL_law_865 (sc_in 1 hi hL (by decide)) ?_
  refine z_aload_n (pc := 866) C 0 dL_law_866 rfl rfl ?_
  refine z_iload_n (pc := 867) C 3 dL_law_867 rfl rfl ?_
  refine z_iconst (pc := 868) (v := 2) C dL_law_868 rfl ?_
  refine z_iadd (pc := 869) C dL_law_869 ?_
  refine z_scld (pc := 870) C Sc dL_law_870 (sc_in 2 hi hL (by decide)) ?_
  refine z_callVi (pc := 871) (k := 0) (ci := 9) (As := [.int (xs (nI i + 1).toNatClampNeg), .int (xs (nI i + 2).toNatClampNeg)]) (rest := []) C dL_law_871 kL_113 h1 (by decide) sh_0 rfl rfl rfl (Nat.le_of_ble_eq_true rfl) (fun r M1 a1 => ?_)
  refine z_aload_n (pc := 874) C 2 dL_law_874 rfl rfl ?_
  refine z_aload_n (pc := 875) C 0 dL_law_875 rfl rfl ?_
  refine z_iload_n (pc := 876) C 3 dL_law_876 rfl rfl ?_
  refine z_iconst (pc := 877) (v := 1) C dL_law_877 rfl ?_
  refine z_iadd (pc := 878) C dL_law_878 ?_
  refine z_scld (pc := 879) C Sc dL_law_879 (sc_in 1 hi hL (by decide)) ?_
  refine z_aload_n (pc := 880) C 0 dL_law_880 rfl rfl ?_
  refine z_iload_n (pc := 881) C 3 dL_law_881 rfl rfl ?_
  refine z_iconst (pc := 882) (v := 2) C dL_law_882 rfl ?_
  refine z_iadd (pc := 883) C dL_law_883 ?_
  refine z_scld (pc := 884) C Sc dL_law_884 (sc_in 2 hi hL (by decide)) ?_
  refine z_callVi (pc := 885) (k := 239) (ci := 10) (As := [.int (xs (nI i + 1).toNatClampNeg), .int (xs (nI i + 2).toNatClampNeg)]) (rest := [.int r]) C dL_law_885 kL_116 (h2 r M1 a1) (by decide) sh_239 rfl rfl rfl (Nat.le_of_ble_eq_true rfl) (fun v M2 a2 => ?_)
  obtain ⟨rfl, hR⟩ := a2
  exact z_icmp_eq (pc := 888) C 1348 dL_law_888 (by decide) (fun _ => kk M2 hR) (fun q => absurd rfl q)
set_option maxHeartbeats 1600000 in
theorem lw_c25 {X : zX} {l : Launch} {G : zG} {b : Nat} {M : zM} {sc L i : Nat} {xs : Nat → Int32} (C : zOK X l G b cL_law 4 RL 2048) (Sc : zScr X sc L xs) (hL : L ≤ 3072) (hi : i + 6 ≤ L) (hM : Rel M) (kk : ∀ M', Rel M' → zW X zshL M' 1348 (lwL b sc i) []) : zW X zshL M 893 (lwL b sc i) [] := by
  obtain ⟨A, h1, h2⟩ := op_why (l := l) (G := G) (b := b) hM (x := xs (nI i + 1).toNatClampNeg)
  refine z_aload_n (pc := 893) C 1 dL_law_893 rfl rfl ?_
  refine z_aload_n (pc := 894) C 0 dL_law_894 rfl rfl ?_
  refine z_iload_n (pc := 895) C 3 dL_law_895 rfl rfl ?_
  refine z_iconst (pc := 896) (v := 1) C dL_law_896 rfl ?_
  refine z_iadd (pc := 897) C dL_law_897 ?_
  refine z_scld (pc := 898) C Sc dL_law_898 (sc_in 1 hi hL (by decide)) ?_
  refine z_callVi (pc := 899) (k := 0) (ci := 9) (As := [.int (xs (nI i + 1).toNatClampNeg)]) (rest := []) C dL_law_899 kL_117 h1 (by decide) sh_0 rfl rfl rfl (Nat.le_of_ble_eq_true rfl) (fun r M1 a1 => ?_)
  refine z_aload_n (pc := 902) C 2 dL_law_902 rfl rfl ?_
  refine z_aload_n (pc := 903) C 0 dL_law_903 rfl rfl ?_
  refine z_iload_n (pc := 904) C 3 dL_law_904 rfl rfl ?_
  refine z_iconst (pc := 905) (v := 1) C dL_law_905 rfl ?_
  refine z_iadd (pc := 906) C dL_law_906 ?_
  refine z_scld (pc := 907) C Sc dL_law_907 (sc_in 1 hi hL (by decide)) ?_
  refine z_callVi (pc := 908) (k := 239) (ci := 10) (As := [.int (xs (nI i + 1).toNatClampNeg)]) (rest := [.int r]) C dL_law_908 kL_120 (h2 r M1 a1) (by decide) sh_239 rfl rfl rfl (Nat.le_of_ble_eq_true rfl) (fun v M2 a2 => ?_)
  obtain ⟨rfl, hR⟩ := a2
  exact z_icmp_eq (pc := 911) C 1348 dL_law_911 (by decide) (fun _ => kk M2 hR) (fun q => absurd rfl q)
set_option maxHeartbeats 1600000 in
theorem lw_c26 {X : zX} {l : Launch} {G : zG} {b : Nat} {M : zM} {sc L i : Nat} {xs : Nat → Int32} (C : zOK X l G b cL_law 4 RL 2048) (Sc : zScr X sc L xs) (hL : L ≤ 3072) (hi : i + 6 ≤ L) (hM : Rel M) (kk : ∀ M', Rel M' → zW X zshL M' 1348 (lwL b sc i) []) : zW X zshL M 916 (lwL b sc i) [] := by
  obtain ⟨A, h1, h2⟩ := op_sheet (l := l) (G := G) (b := b) hM (x := xs (nI i + 1).toNatClampNeg) (t := xs (nI i + 2).toNatClampNeg) (v := xs (nI i + 3).toNatClampNeg)
  refine z_aload_n (pc := 916) C 1 dL_law_916 rfl rfl ?_
  refine z_aload_n (pc := 917) C 0 dL_law_917 rfl rfl ?_
  refine z_iload_n (pc := 918) C 3 dL_law_918 rfl rfl ?_
  refine z_iconst (pc := 919) (v := 1) C dL_law_919 rfl ?_
  refine z_iadd (pc := 920) C dL_law_920 ?_
  refine z_scld (pc := 921) C Sc dL_law_921 (sc_in 1 hi hL (by decide)) ?_
  refine z_aload_n (pc := 922) C 0 dL_law_922 rfl rfl ?_
  refine z_iload_n (pc := 923) C 3 dL_law_923 rfl rfl ?_
  refine z_iconst (pc := 924) (v := 2) C dL_law_924 rfl ?_
  refine z_iadd (pc := 925) C dL_law_925 ?_
  refine z_scld (pc := 926) C Sc dL_law_926 (sc_in 2 hi hL (by decide)) ?_
  refine z_aload_n (pc := 927) C 0 dL_law_927 rfl rfl ?_
  refine z_iload_n (pc := 928) C 3 dL_law_928 rfl rfl ?_
  refine z_iconst (pc := 929) (v := 3) C dL_law_929 rfl ?_
  refine z_iadd (pc := 930) C dL_law_930 ?_
  refine z_scld (pc := 931) C Sc dL_law_931 (sc_in 3 hi hL (by decide)) ?_
  refine z_callVi (pc := 932) (k := 0) (ci := 9) (As := [.int (xs (nI i + 1).toNatClampNeg), .int (xs (nI i + 2).toNatClampNeg), .int (xs (nI i + 3).toNatClampNeg)]) (rest := []) C dL_law_932 kL_121 h1 (by decide) sh_0 rfl rfl rfl (Nat.le_of_ble_eq_true rfl) (fun r M1 a1 => ?_)
  refine z_aload_n (pc := 935) C 2 dL_law_935 rfl rfl ?_
  refine z_aload_n (pc := 936) C 0 dL_law_936 rfl rfl ?_
  refine z_iload_n (pc := 937) C 3 dL_law_937 rfl rfl ?_
  refine z_iconst (pc := 938) (v := 1) C dL_law_938 rfl ?_
  refine z_iadd (pc := 939) C dL_law_939 ?_
  refine z_scld (pc := 940) C Sc dL_law_940 (sc_in 1 hi hL (by decide)) ?_
  refine z_aload_n (pc := 941) C 0 dL_law_941 rfl rfl ?_
  refine z_iload_n (pc := 942) C 3 dL_law_942 rfl rfl ?_
  refine z_iconst (pc := 943) (v := 2) C dL_law_943 rfl ?_
  refine z_iadd (pc := 944) C dL_law_944 ?_
  refine z_scld (pc := 945) C Sc dL_law_945 (sc_in 2 hi hL (by decide)) ?_
  refine z_aload_n (pc := 946) C 0 dL_law_946 rfl rfl ?_
  refine z_iload_n (pc := 947) C 3 dL_law_947 rfl rfl ?_
  refine z_iconst (pc := 948) (v := 3) C dL_law_948 rfl ?_
  refine z_iadd (pc := 949) C dL_law_949 ?_
  refine z_scld (pc := 950) C Sc dL_law_950 (sc_in 3 hi hL (by decide)) ?_
  refine z_callVi (pc := 951) (k := 239) (ci := 10) (As := [.int (xs (nI i + 1).toNatClampNeg), .int (xs (nI i + 2).toNatClampNeg), .int (xs (nI i + 3).toNatClampNeg)]) (rest := [.int r]) C dL_law_951 kL_124 (h2 r M1 a1) (by decide) sh_239 rfl rfl rfl (Nat.le_of_ble_eq_true rfl) (fun v M2 a2 => ?_)
  obtain ⟨rfl, hR⟩ := a2
  exact z_icmp_eq (pc := 954) C 1348 dL_law_954 (by decide) (fun _ => kk M2 hR) (fun q => absurd rfl q)
set_option maxHeartbeats 1600000 in
theorem lw_c27 {X : zX} {l : Launch} {G : zG} {b : Nat} {M : zM} {sc L i : Nat} {xs : Nat → Int32} (C : zOK X l G b cL_law 4 RL 2048) (Sc : zScr X sc L xs) (hL : L ≤ 3072) (hi : i + 6 ≤ L) (hM : Rel M) (kk : ∀ M', Rel M' → zW X zshL M' 1348 (lwL b sc i) []) : zW X zshL M 959 (lwL b sc i) [] := by
  obtain ⟨A, h1, h2⟩ := op_mark (l := l) (G := G) (b := b) hM (x := xs (nI i + 1).toNatClampNeg) (p := xs (nI i + 2).toNatClampNeg) (v := xs (nI i + 3).toNatClampNeg)
  refine z_aload_n (pc := 959) C 1 dL_law_959 rfl rfl ?_
  refine z_aload_n (pc := 960) C 0 dL_law_960 rfl rfl ?_
  refine z_iload_n (pc := 961) C 3 dL_law_961 rfl rfl ?_
  refine z_iconst (pc := 962) (v := 1) C dL_law_962 rfl ?_
  refine z_iadd (pc := 963) C dL_law_963 ?_
  refine z_scld (pc := 964) C Sc dL_law_964 (sc_in 1 hi hL (by decide)) ?_
  refine z_aload_n (pc := 965) C 0 dL_law_965 rfl rfl ?_
  refine z_iload_n (pc := 966) C 3 dL_law_966 rfl rfl ?_
  refine z_iconst (pc := 967) (v := 2) C dL_law_967 rfl ?_
  refine z_iadd (pc := 968) C dL_law_968 ?_
  refine z_scld (pc := 969) C Sc dL_law_969 (sc_in 2 hi hL (by decide)) ?_
  refine z_aload_n (pc := 970) C 0 dL_law_970 rfl rfl ?_
  refine z_iload_n (pc := 971) C 3 dL_law_971 rfl rfl ?_
  refine z_iconst (pc := 972) (v := 3) C dL_law_972 rfl ?_
  refine z_iadd (pc := 973) C dL_law_973 ?_
  refine z_scld (pc := 974) C Sc dL_law_974 (sc_in 3 hi hL (by decide)) ?_
  refine z_callVi (pc := 975) (k := 0) (ci := 9) (As := [.int (xs (nI i + 1).toNatClampNeg), .int (xs (nI i + 2).toNatClampNeg), .int (xs (nI i + 3).toNatClampNeg)]) (rest := []) C dL_law_975 kL_125 h1 (by decide) sh_0 rfl rfl rfl (Nat.le_of_ble_eq_true rfl) (fun r M1 a1 => ?_)
  refine z_aload_n (pc := 978) C 2 dL_law_978 rfl rfl ?_
  refine z_aload_n (pc := 979) C 0 dL_law_979 rfl rfl ?_
  refine z_iload_n (pc := 980) C 3 dL_law_980 rfl rfl ?_
  refine z_iconst (pc := 981) (v := 1) C dL_law_981 rfl ?_
  refine z_iadd (pc := 982) C dL_law_982 ?_
  refine z_scld (pc := 983) C Sc dL_law_983 (sc_in 1 hi hL (by decide)) ?_
  refine z_aload_n (pc := 984) C 0 dL_law_984 rfl rfl ?_
  refine z_iload_n (pc := 985) C 3 dL_law_985 rfl rfl ?_
  refine z_iconst (pc := 986) (v := 2) C dL_law_986 rfl ?_
  refine z_iadd (pc := 987) C dL_law_987 ?_
  refine z_scld (pc := 988) C Sc dL_law_988 (sc_in 2 hi hL (by decide)) ?_
  refine z_aload_n (pc := 989) C 0 dL_law_989 rfl rfl ?_
  refine z_iload_n (pc := 990) C 3 dL_law_990 rfl rfl ?_
  refine z_iconst (pc := 991) (v := 3) C dL_law_991 rfl ?_
  refine z_iadd (pc := 992) C dL_law_992 ?_
  refine z_scld (pc := 993) C Sc dL_law_993 (sc_in 3 hi hL (by decide)) ?_
  refine z_callVi (pc := 994) (k := 239) (ci := 10) (As := [.int (xs (nI i + 1).toNatClampNeg), .int (xs (nI i + 2).toNatClampNeg), .int (xs (nI i + 3).toNatClampNeg)]) (rest := [.int r]) C dL_law_994 kL_128 (h2 r M1 a1) (by decide) sh_239 rfl rfl rfl (Nat.le_of_ble_eq_true rfl) (fun v M2 a2 => ?_)
  obtain ⟨rfl, hR⟩ := a2
  exact z_icmp_eq (pc := 997) C 1348 dL_law_997 (by decide) (fun _ => kk M2 hR) (fun q => absurd rfl q)
set_option maxHeartbeats 1600000 in
theorem lw_c28 {X : zX} {l : Launch} {G : zG} {b : Nat} {M : zM} {sc L i : Nat} {xs : Nat → Int32} (C : zOK X l G b cL_law 4 RL 2048) (Sc : zScr X sc L xs) (hL : L ≤ 3072) (hi : i + 6 ≤ L) (hM : Rel M) (kk : ∀ M', Rel M' → zW X zshL M' 1348 (lwL b sc i) []) : zW X zshL M 1002 (lwL b sc i) [] := by
  obtain ⟨A, h1, h2⟩ := op_pour (l := l) (G := G) (b := b) hM (x := xs (nI i + 1).toNatClampNeg)
  refine z_aload_n (pc := 1002) C 1 dL_law_1002 rfl rfl ?_
  refine z_aload_n (pc := 1003) C 0 dL_law_1003 rfl rfl ?_
  refine z_iload_n (pc := 1004) C 3 dL_law_1004 rfl rfl ?_
  refine z_iconst (pc := 1005) (v := 1) C dL_law_1005 rfl ?_
  refine z_iadd (pc := 1006) C dL_law_1006 ?_
  refine z_scld (pc := 1007) C Sc dL_law_1007 (sc_in 1 hi hL (by decide)) ?_
  refine z_callVi (pc := 1008) (k := 0) (ci := 9) (As := [.int (xs (nI i + 1).toNatClampNeg)]) (rest := []) C dL_law_1008 kL_129 h1 (by decide) sh_0 rfl rfl rfl (Nat.le_of_ble_eq_true rfl) (fun r M1 a1 => ?_)
  refine z_aload_n (pc := 1011) C 2 dL_law_1011 rfl rfl ?_
  refine z_aload_n (pc := 1012) C 0 dL_law_1012 rfl rfl ?_
  refine z_iload_n (pc := 1013) C 3 dL_law_1013 rfl rfl ?_
  refine z_iconst (pc := 1014) (v := 1) C dL_law_1014 rfl ?_
  refine z_iadd (pc := 1015) C dL_law_1015 ?_
  refine z_scld (pc := 1016) C Sc dL_law_1016 (sc_in 1 hi hL (by decide)) ?_
  refine z_callVi (pc := 1017) (k := 239) (ci := 10) (As := [.int (xs (nI i + 1).toNatClampNeg)]) (rest := [.int r]) C dL_law_1017 kL_132 (h2 r M1 a1) (by decide) sh_239 rfl rfl rfl (Nat.le_of_ble_eq_true rfl) (fun v M2 a2 => ?_)
  obtain ⟨rfl, hR⟩ := a2
  exact z_icmp_eq (pc := 1020) C 1348 dL_law_1020 (by decide) (fun _ => kk M2 hR) (fun q => absurd rfl q)
set_option maxHeartbeats 1600000 in
theorem lw_c29 {X : zX} {l : Launch} {G : zG} {b : Nat} {M : zM} {sc L i : Nat} {xs : Nat → Int32} (C : zOK X l G b cL_law 4 RL 2048) (Sc : zScr X sc L xs) (hL : L ≤ 3072) (hi : i + 6 ≤ L) (hM : Rel M) (kk : ∀ M', Rel M' → zW X zshL M' 1348 (lwL b sc i) []) : zW X zshL M 1025 (lwL b sc i) [] := by
  obtain ⟨A, h1, h2⟩ := op_reads (l := l) (G := G) (b := b) hM (x := xs (nI i + 1).toNatClampNeg)
  refine z_aload_n (pc := 1025) C 1 dL_law_1025 rfl rfl ?_
  refine z_aload_n (pc := 1026) C 0 dL_law_1026 rfl rfl ?_
  refine z_iload_n (pc := 1027) C 3 dL_law_1027 rfl rfl ?_
  refine z_iconst (pc := 1028) (v := 1) C dL_law_1028 rfl ?_
  refine z_iadd (pc := 1029) C dL_law_1029 ?_
  refine z_scld (pc := 1030) C Sc dL_law_1030 (sc_in 1 hi hL (by decide)) ?_
  refine z_callVi (pc := 1031) (k := 0) (ci := 9) (As := [.int (xs (nI i + 1).toNatClampNeg)]) (rest := []) C dL_law_1031 kL_133 h1 (by decide) sh_0 rfl rfl rfl (Nat.le_of_ble_eq_true rfl) (fun r M1 a1 => ?_)
  refine z_aload_n (pc := 1034) C 2 dL_law_1034 rfl rfl ?_
  refine z_aload_n (pc := 1035) C 0 dL_law_1035 rfl rfl ?_
  refine z_iload_n (pc := 1036) C 3 dL_law_1036 rfl rfl ?_
  refine z_iconst (pc := 1037) (v := 1) C dL_law_1037 rfl ?_
  refine z_iadd (pc := 1038) C dL_law_1038 ?_
  refine z_scld (pc := 1039) C Sc dL_law_1039 (sc_in 1 hi hL (by decide)) ?_
  refine z_callVi (pc := 1040) (k := 239) (ci := 10) (As := [.int (xs (nI i + 1).toNatClampNeg)]) (rest := [.int r]) C dL_law_1040 kL_136 (h2 r M1 a1) (by decide) sh_239 rfl rfl rfl (Nat.le_of_ble_eq_true rfl) (fun v M2 a2 => ?_)
  obtain ⟨rfl, hR⟩ := a2
  exact z_icmp_eq (pc := 1043) C 1348 dL_law_1043 (by decide) (fun _ => kk M2 hR) (fun q => absurd rfl q)
set_option maxHeartbeats 1600000 in
theorem lw_c30 {X : zX} {l : Launch} {G : zG} {b : Nat} {M : zM} {sc L i : Nat} {xs : Nat → Int32} (C : zOK X l G b cL_law 4 RL 2048) (Sc : zScr X sc L xs) (hL : L ≤ 3072) (hi : i + 6 ≤ L) (hM : Rel M) (kk : ∀ M', Rel M' → zW X zshL M' 1348 (lwL b sc i) []) : zW X zshL M 1048 (lwL b sc i) [] := by
  obtain ⟨A, h1, h2⟩ := op_copy (l := l) (G := G) (b := b) hM (x := xs (nI i + 1).toNatClampNeg) (p := xs (nI i + 2).toNatClampNeg) (y := xs (nI i + 3).toNatClampNeg) (q := xs (nI i + 4).toNatClampNeg) (m := xs (nI i + 5).toNatClampNeg)
  refine z_aload_n (pc := 1048) C 1 dL_law_1048 rfl rfl ?_
  refine z_aload_n (pc := 1049) C 0 dL_law_1049 rfl rfl ?_
  refine z_iload_n (pc := 1050) C 3 dL_law_1050 rfl rfl ?_
  refine z_iconst (pc := 1051) (v := 1) C dL_law_1051 rfl ?_
  refine z_iadd (pc := 1052) C dL_law_1052 ?_
  refine z_scld (pc := 1053) C Sc dL_law_1053 (sc_in 1 hi hL (by decide)) ?_
  refine z_aload_n (pc := 1054) C 0 dL_law_1054 rfl rfl ?_
  refine z_iload_n (pc := 1055) C 3 dL_law_1055 rfl rfl ?_
  refine z_iconst (pc := 1056) (v := 2) C dL_law_1056 rfl ?_
  refine z_iadd (pc := 1057) C dL_law_1057 ?_
  refine z_scld (pc := 1058) C Sc dL_law_1058 (sc_in 2 hi hL (by decide)) ?_
  refine z_aload_n (pc := 1059) C 0 dL_law_1059 rfl rfl ?_
  refine z_iload_n (pc := 1060) C 3 dL_law_1060 rfl rfl ?_
  refine z_iconst (pc := 1061) (v := 3) C dL_law_1061 rfl ?_
  refine z_iadd (pc := 1062) C dL_law_1062 ?_
  refine z_scld (pc := 1063) C Sc dL_law_1063 (sc_in 3 hi hL (by decide)) ?_
  refine z_aload_n (pc := 1064) C 0 dL_law_1064 rfl rfl ?_
  refine z_iload_n (pc := 1065) C 3 dL_law_1065 rfl rfl ?_
  refine z_iconst (pc := 1066) (v := 4) C dL_law_1066 rfl ?_
  refine z_iadd (pc := 1067) C dL_law_1067 ?_
  refine z_scld (pc := 1068) C Sc dL_law_1068 (sc_in 4 hi hL (by decide)) ?_
  refine z_aload_n (pc := 1069) C 0 dL_law_1069 rfl rfl ?_
  refine z_iload_n (pc := 1070) C 3 dL_law_1070 rfl rfl ?_
  refine z_iconst (pc := 1071) (v := 5) C dL_law_1071 rfl ?_
  refine z_iadd (pc := 1072) C dL_law_1072 ?_
  refine z_scld (pc := 1073) C Sc dL_law_1073 (sc_in 5 hi hL (by decide)) ?_
  refine z_callVi (pc := 1074) (k := 0) (ci := 9) (As := [.int (xs (nI i + 1).toNatClampNeg), .int (xs (nI i + 2).toNatClampNeg), .int (xs (nI i + 3).toNatClampNeg), .int (xs (nI i + 4).toNatClampNeg), .int (xs (nI i + 5).toNatClampNeg)]) (rest := []) C dL_law_1074 kL_137 h1 (by decide) sh_0 rfl rfl rfl (Nat.le_of_ble_eq_true rfl) (fun r M1 a1 => ?_)
  refine z_aload_n (pc := 1077) C 2 dL_law_1077 rfl rfl ?_
  refine z_aload_n (pc := 1078) C 0 dL_law_1078 rfl rfl ?_
  refine z_iload_n (pc := 1079) C 3 dL_law_1079 rfl rfl ?_
  refine z_iconst (pc := 1080) (v := 1) C dL_law_1080 rfl ?_
  refine z_iadd (pc := 1081) C dL_law_1081 ?_
  refine z_scld (pc := 1082) C Sc dL_law_1082 (sc_in 1 hi hL (by decide)) ?_
  refine z_aload_n (pc := 1083) C 0 dL_law_1083 rfl rfl ?_
  refine z_iload_n (pc := 1084) C 3 dL_law_1084 rfl rfl ?_
  refine z_iconst (pc := 1085) (v := 2) C dL_law_1085 rfl ?_
  refine z_iadd (pc := 1086) C dL_law_1086 ?_
  refine z_scld (pc := 1087) C Sc dL_law_1087 (sc_in 2 hi hL (by decide)) ?_
  refine z_aload_n (pc := 1088) C 0 dL_law_1088 rfl rfl ?_
  refine z_iload_n (pc := 1089) C 3 dL_law_1089 rfl rfl ?_
  refine z_iconst (pc := 1090) (v := 3) C dL_law_1090 rfl ?_
  refine z_iadd (pc := 1091) C dL_law_1091 ?_
  refine z_scld (pc := 1092) C Sc dL_law_1092 (sc_in 3 hi hL (by decide)) ?_
  refine z_aload_n (pc := 1093) C 0 dL_law_1093 rfl rfl ?_
  refine z_iload_n (pc := 1094) C 3 dL_law_1094 rfl rfl ?_
  refine z_iconst (pc := 1095) (v := 4) C dL_law_1095 rfl ?_
  refine z_iadd (pc := 1096) C dL_law_1096 ?_
  refine z_scld (pc := 1097) C Sc dL_law_1097 (sc_in 4 hi hL (by decide)) ?_
  refine z_aload_n (pc := 1098) C 0 dL_law_1098 rfl rfl ?_
  refine z_iload_n (pc := 1099) C 3 dL_law_1099 rfl rfl ?_
  refine z_iconst (pc := 1100) (v := 5) C dL_law_1100 rfl ?_
  refine z_iadd (pc := 1101) C dL_law_1101 ?_
  refine z_scld (pc := 1102) C Sc dL_law_1102 (sc_in 5 hi hL (by decide)) ?_
  refine z_callVi (pc := 1103) (k := 239) (ci := 10) (As := [.int (xs (nI i + 1).toNatClampNeg), .int (xs (nI i + 2).toNatClampNeg), .int (xs (nI i + 3).toNatClampNeg), .int (xs (nI i + 4).toNatClampNeg), .int (xs (nI i + 5).toNatClampNeg)]) (rest := [.int r]) C dL_law_1103 kL_141 (h2 r M1 a1) (by decide) sh_239 rfl rfl rfl (Nat.le_of_ble_eq_true rfl) (fun v M2 a2 => ?_)
  obtain ⟨rfl, hR⟩ := a2
  exact z_icmp_eq (pc := 1106) C 1348 dL_law_1106 (by decide) (fun _ => kk M2 hR) (fun q => absurd rfl q)
set_option maxHeartbeats 1600000 in
theorem lw_c31 {X : zX} {l : Launch} {G : zG} {b : Nat} {M : zM} {sc L i : Nat} {xs : Nat → Int32} (C : zOK X l G b cL_law 4 RL 2048) (Sc : zScr X sc L xs) (hL : L ≤ 3072) (hi : i + 6 ≤ L) (hM : Rel M) (kk : ∀ M', Rel M' → zW X zshL M' 1348 (lwL b sc i) []) : zW X zshL M 1111 (lwL b sc i) [] := by
  obtain ⟨A, h1, h2⟩ := op_lay (l := l) (G := G) (b := b) hM (x := xs (nI i + 1).toNatClampNeg) (t := xs (nI i + 2).toNatClampNeg) (k := xs (nI i + 3).toNatClampNeg)
  refine z_aload_n (pc := 1111) C 1 dL_law_1111 rfl rfl ?_
  refine z_aload_n (pc := 1112) C 0 dL_law_1112 rfl rfl ?_
  refine z_iload_n (pc := 1113) C 3 dL_law_1113 rfl rfl ?_
  refine z_iconst (pc := 1114) (v := 1) C dL_law_1114 rfl ?_
  refine z_iadd (pc := 1115) C dL_law_1115 ?_
  refine z_scld (pc := 1116) C Sc dL_law_1116 (sc_in 1 hi hL (by decide)) ?_
  refine z_aload_n (pc := 1117) C 0 dL_law_1117 rfl rfl ?_
  refine z_iload_n (pc := 1118) C 3 dL_law_1118 rfl rfl ?_
  refine z_iconst (pc := 1119) (v := 2) C dL_law_1119 rfl ?_
  refine z_iadd (pc := 1120) C dL_law_1120 ?_
  refine z_scld (pc := 1121) C Sc dL_law_1121 (sc_in 2 hi hL (by decide)) ?_
  refine z_aload_n (pc := 1122) C 0 dL_law_1122 rfl rfl ?_
  refine z_iload_n (pc := 1123) C 3 dL_law_1123 rfl rfl ?_
  refine z_iconst (pc := 1124) (v := 3) C dL_law_1124 rfl ?_
  refine z_iadd (pc := 1125) C dL_law_1125 ?_
  refine z_scld (pc := 1126) C Sc dL_law_1126 (sc_in 3 hi hL (by decide)) ?_
  refine z_callVi (pc := 1127) (k := 0) (ci := 9) (As := [.int (xs (nI i + 1).toNatClampNeg), .int (xs (nI i + 2).toNatClampNeg), .int (xs (nI i + 3).toNatClampNeg)]) (rest := []) C dL_law_1127 kL_142 h1 (by decide) sh_0 rfl rfl rfl (Nat.le_of_ble_eq_true rfl) (fun r M1 a1 => ?_)
  refine z_aload_n (pc := 1130) C 2 dL_law_1130 rfl rfl ?_
  refine z_aload_n (pc := 1131) C 0 dL_law_1131 rfl rfl ?_
  refine z_iload_n (pc := 1132) C 3 dL_law_1132 rfl rfl ?_
  refine z_iconst (pc := 1133) (v := 1) C dL_law_1133 rfl ?_
  refine z_iadd (pc := 1134) C dL_law_1134 ?_
  refine z_scld (pc := 1135) C Sc dL_law_1135 (sc_in 1 hi hL (by decide)) ?_
  refine z_aload_n (pc := 1136) C 0 dL_law_1136 rfl rfl ?_
  refine z_iload_n (pc := 1137) C 3 dL_law_1137 rfl rfl ?_
  refine z_iconst (pc := 1138) (v := 2) C dL_law_1138 rfl ?_
  refine z_iadd (pc := 1139) C dL_law_1139 ?_
  refine z_scld (pc := 1140) C Sc dL_law_1140 (sc_in 2 hi hL (by decide)) ?_
  refine z_aload_n (pc := 1141) C 0 dL_law_1141 rfl rfl ?_
  refine z_iload_n (pc := 1142) C 3 dL_law_1142 rfl rfl ?_
  refine z_iconst (pc := 1143) (v := 3) C dL_law_1143 rfl ?_
  refine z_iadd (pc := 1144) C dL_law_1144 ?_
  refine z_scld (pc := 1145) C Sc dL_law_1145 (sc_in 3 hi hL (by decide)) ?_
  refine z_callVi (pc := 1146) (k := 239) (ci := 10) (As := [.int (xs (nI i + 1).toNatClampNeg), .int (xs (nI i + 2).toNatClampNeg), .int (xs (nI i + 3).toNatClampNeg)]) (rest := [.int r]) C dL_law_1146 kL_145 (h2 r M1 a1) (by decide) sh_239 rfl rfl rfl (Nat.le_of_ble_eq_true rfl) (fun v M2 a2 => ?_)
  obtain ⟨rfl, hR⟩ := a2
  exact z_icmp_eq (pc := 1149) C 1348 dL_law_1149 (by decide) (fun _ => kk M2 hR) (fun q => absurd rfl q)
set_option maxHeartbeats 1600000 in
theorem lw_c32 {X : zX} {l : Launch} {G : zG} {b : Nat} {M : zM} {sc L i : Nat} {xs : Nat → Int32} (C : zOK X l G b cL_law 4 RL 2048) (Sc : zScr X sc L xs) (hL : L ≤ 3072) (hi : i + 6 ≤ L) (hM : Rel M) (kk : ∀ M', Rel M' → zW X zshL M' 1348 (lwL b sc i) []) : zW X zshL M 1154 (lwL b sc i) [] := by
  obtain ⟨A, h1, h2⟩ := op_ask (l := l) (G := G) (b := b) hM (x := xs (nI i + 1).toNatClampNeg) (t := xs (nI i + 2).toNatClampNeg)
  refine z_aload_n (pc := 1154) C 1 dL_law_1154 rfl rfl ?_
  refine z_aload_n (pc := 1155) C 0 dL_law_1155 rfl rfl ?_
  refine z_iload_n (pc := 1156) C 3 dL_law_1156 rfl rfl ?_
  refine z_iconst (pc := 1157) (v := 1) C dL_law_1157 rfl ?_
  refine z_iadd (pc := 1158) C dL_law_1158 ?_
  refine z_scld (pc := 1159) C Sc dL_law_1159 (sc_in 1 hi hL (by decide)) ?_
  refine z_aload_n (pc := 1160) C 0 dL_law_1160 rfl rfl ?_
  refine z_iload_n (pc := 1161) C 3 dL_law_1161 rfl rfl ?_
  refine z_iconst (pc := 1162) (v := 2) C dL_law_1162 rfl ?_
  refine z_iadd (pc := 1163) C dL_law_1163 ?_
  refine z_scld (pc := 1164) C Sc dL_law_1164 (sc_in 2 hi hL (by decide)) ?_
  refine z_callVi (pc := 1165) (k := 0) (ci := 9) (As := [.int (xs (nI i + 1).toNatClampNeg), .int (xs (nI i + 2).toNatClampNeg)]) (rest := []) C dL_law_1165 kL_146 h1 (by decide) sh_0 rfl rfl rfl (Nat.le_of_ble_eq_true rfl) (fun r M1 a1 => ?_)
  refine z_aload_n (pc := 1168) C 2 dL_law_1168 rfl rfl ?_
  refine z_aload_n (pc := 1169) C 0 dL_law_1169 rfl rfl ?_
  refine z_iload_n (pc := 1170) C 3 dL_law_1170 rfl rfl ?_
  refine z_iconst (pc := 1171) (v := 1) C dL_law_1171 rfl ?_
  refine z_iadd (pc := 1172) C dL_law_1172 ?_
  refine z_scld (pc := 1173) C Sc dL_law_1173 (sc_in 1 hi hL (by decide)) ?_
  refine z_aload_n (pc := 1174) C 0 dL_law_1174 rfl rfl ?_
  refine z_iload_n (pc := 1175) C 3 dL_law_1175 rfl rfl ?_
  refine z_iconst (pc := 1176) (v := 2) C dL_law_1176 rfl ?_
  refine z_iadd (pc := 1177) C dL_law_1177 ?_
  refine z_scld (pc := 1178) C Sc dL_law_1178 (sc_in 2 hi hL (by decide)) ?_
  refine z_callVi (pc := 1179) (k := 239) (ci := 10) (As := [.int (xs (nI i + 1).toNatClampNeg), .int (xs (nI i + 2).toNatClampNeg)]) (rest := [.int r]) C dL_law_1179 kL_149 (h2 r M1 a1) (by decide) sh_239 rfl rfl rfl (Nat.le_of_ble_eq_true rfl) (fun v M2 a2 => ?_)
  obtain ⟨rfl, hR⟩ := a2
  exact z_icmp_eq (pc := 1182) C 1348 dL_law_1182 (by decide) (fun _ => kk M2 hR) (fun q => absurd rfl q)
set_option maxHeartbeats 1600000 in
theorem lw_c33 {X : zX} {l : Launch} {G : zG} {b : Nat} {M : zM} {sc L i : Nat} {xs : Nat → Int32} (C : zOK X l G b cL_law 4 RL 2048) (Sc : zScr X sc L xs) (hL : L ≤ 3072) (hi : i + 6 ≤ L) (hM : Rel M) (kk : ∀ M', Rel M' → zW X zshL M' 1348 (lwL b sc i) []) : zW X zshL M 1187 (lwL b sc i) [] := by
  obtain ⟨A, h1, h2⟩ := op_item (l := l) (G := G) (b := b) hM (x := xs (nI i + 1).toNatClampNeg) (t := xs (nI i + 2).toNatClampNeg)
  refine z_aload_n (pc := 1187) C 1 dL_law_1187 rfl rfl ?_
  refine z_aload_n (pc := 1188) C 0 dL_law_1188 rfl rfl ?_
  refine z_iload_n (pc := 1189) C 3 dL_law_1189 rfl rfl ?_
  refine z_iconst (pc := 1190) (v := 1) C dL_law_1190 rfl ?_
  refine z_iadd (pc := 1191) C dL_law_1191 ?_
  refine z_scld (pc := 1192) C Sc dL_law_1192 (sc_in 1 hi hL (by decide)) ?_
  refine z_aload_n (pc := 1193) C 0 dL_law_1193 rfl rfl ?_
  refine z_iload_n (pc := 1194) C 3 dL_law_1194 rfl rfl ?_
  refine z_iconst (pc := 1195) (v := 2) C dL_law_1195 rfl ?_
  refine z_iadd (pc := 1196) C dL_law_1196 ?_
  refine z_scld (pc := 1197) C Sc dL_law_1197 (sc_in 2 hi hL (by decide)) ?_
  refine z_callVi (pc := 1198) (k := 0) (ci := 9) (As := [.int (xs (nI i + 1).toNatClampNeg), .int (xs (nI i + 2).toNatClampNeg)]) (rest := []) C dL_law_1198 kL_150 h1 (by decide) sh_0 rfl rfl rfl (Nat.le_of_ble_eq_true rfl) (fun r M1 a1 => ?_)
  refine z_aload_n (pc := 1201) C 2 dL_law_1201 rfl rfl ?_
  refine z_aload_n (pc := 1202) C 0 dL_law_1202 rfl rfl ?_
  refine z_iload_n (pc := 1203) C 3 dL_law_1203 rfl rfl ?_
  refine z_iconst (pc := 1204) (v := 1) C dL_law_1204 rfl ?_
  refine z_iadd (pc := 1205) C dL_law_1205 ?_
  refine z_scld (pc := 1206) C Sc dL_law_1206 (sc_in 1 hi hL (by decide)) ?_
  refine z_aload_n (pc := 1207) C 0 dL_law_1207 rfl rfl ?_
  refine z_iload_n (pc := 1208) C 3 dL_law_1208 rfl rfl ?_
  refine z_iconst (pc := 1209) (v := 2) C dL_law_1209 rfl ?_
  refine z_iadd (pc := 1210) C dL_law_1210 ?_
  refine z_scld (pc := 1211) C Sc dL_law_1211 (sc_in 2 hi hL (by decide)) ?_
  refine z_callVi (pc := 1212) (k := 239) (ci := 10) (As := [.int (xs (nI i + 1).toNatClampNeg), .int (xs (nI i + 2).toNatClampNeg)]) (rest := [.int r]) C dL_law_1212 kL_153 (h2 r M1 a1) (by decide) sh_239 rfl rfl rfl (Nat.le_of_ble_eq_true rfl) (fun v M2 a2 => ?_)
  obtain ⟨rfl, hR⟩ := a2
  exact z_icmp_eq (pc := 1215) C 1348 dL_law_1215 (by decide) (fun _ => kk M2 hR) (fun q => absurd rfl q)
set_option maxHeartbeats 1600000 in
theorem lw_c34 {X : zX} {l : Launch} {G : zG} {b : Nat} {M : zM} {sc L i : Nat} {xs : Nat → Int32} (C : zOK X l G b cL_law 4 RL 2048) (Sc : zScr X sc L xs) (hL : L ≤ 3072) (hi : i + 6 ≤ L) (hM : Rel M) (kk : ∀ M', Rel M' → zW X zshL M' 1348 (lwL b sc i) []) : zW X zshL M 1220 (lwL b sc i) [] := by
  obtain ⟨A, h1, h2⟩ := op_rest (l := l) (G := G) (b := b) hM (x := xs (nI i + 1).toNatClampNeg) (t := xs (nI i + 2).toNatClampNeg)
  refine z_aload_n (pc := 1220) C 1 dL_law_1220 rfl rfl ?_
  refine z_aload_n (pc := 1221) C 0 dL_law_1221 rfl rfl ?_
  refine z_iload_n (pc := 1222) C 3 dL_law_1222 rfl rfl ?_
  refine z_iconst (pc := 1223) (v := 1) C dL_law_1223 rfl ?_
  refine z_iadd (pc := 1224) C dL_law_1224 ?_
  refine z_scld (pc := 1225) C Sc dL_law_1225 (sc_in 1 hi hL (by decide)) ?_
  refine z_aload_n (pc := 1226) C 0 dL_law_1226 rfl rfl ?_
  refine z_iload_n (pc := 1227) C 3 dL_law_1227 rfl rfl ?_
  refine z_iconst (pc := 1228) (v := 2) C dL_law_1228 rfl ?_
  refine z_iadd (pc := 1229) C dL_law_1229 ?_
  refine z_scld (pc := 1230) C Sc dL_law_1230 (sc_in 2 hi hL (by decide)) ?_
  refine z_callVi (pc := 1231) (k := 0) (ci := 9) (As := [.int (xs (nI i + 1).toNatClampNeg), .int (xs (nI i + 2).toNatClampNeg)]) (rest := []) C dL_law_1231 kL_154 h1 (by decide) sh_0 rfl rfl rfl (Nat.le_of_ble_eq_true rfl) (fun r M1 a1 => ?_)
  refine z_aload_n (pc := 1234) C 2 dL_law_1234 rfl rfl ?_
  refine z_aload_n (pc := 1235) C 0 dL_law_1235 rfl rfl ?_
  refine z_iload_n (pc := 1236) C 3 dL_law_1236 rfl rfl ?_
  refine z_iconst (pc := 1237) (v := 1) C dL_law_1237 rfl ?_
  refine z_iadd (pc := 1238) C dL_law_1238 ?_
  refine z_scld (pc := 1239) C Sc dL_law_1239 (sc_in 1 hi hL (by decide)) ?_
  refine z_aload_n (pc := 1240) C 0 dL_law_1240 rfl rfl ?_
  refine z_iload_n (pc := 1241) C 3 dL_law_1241 rfl rfl ?_
  refine z_iconst (pc := 1242) (v := 2) C dL_law_1242 rfl ?_
  refine z_iadd (pc := 1243) C dL_law_1243 ?_
  refine z_scld (pc := 1244) C Sc dL_law_1244 (sc_in 2 hi hL (by decide)) ?_
  refine z_callVi (pc := 1245) (k := 239) (ci := 10) (As := [.int (xs (nI i + 1).toNatClampNeg), .int (xs (nI i + 2).toNatClampNeg)]) (rest := [.int r]) C dL_law_1245 kL_157 (h2 r M1 a1) (by decide) sh_239 rfl rfl rfl (Nat.le_of_ble_eq_true rfl) (fun v M2 a2 => ?_)
  obtain ⟨rfl, hR⟩ := a2
  exact z_icmp_eq (pc := 1248) C 1348 dL_law_1248 (by decide) (fun _ => kk M2 hR) (fun q => absurd rfl q)
set_option maxHeartbeats 1600000 in
theorem lw_c35 {X : zX} {l : Launch} {G : zG} {b : Nat} {M : zM} {sc L i : Nat} {xs : Nat → Int32} (C : zOK X l G b cL_law 4 RL 2048) (Sc : zScr X sc L xs) (hL : L ≤ 3072) (hi : i + 6 ≤ L) (hM : Rel M) (kk : ∀ M', Rel M' → zW X zshL M' 1348 (lwL b sc i) []) : zW X zshL M 1253 (lwL b sc i) [] := by
  obtain ⟨A, h1, h2⟩ := op_tell (l := l) (G := G) (b := b) hM (v := xs (nI i + 1).toNatClampNeg)
  refine z_aload_n (pc := 1253) C 1 dL_law_1253 rfl rfl ?_
  refine z_aload_n (pc := 1254) C 0 dL_law_1254 rfl rfl ?_
  refine z_iload_n (pc := 1255) C 3 dL_law_1255 rfl rfl ?_
  refine z_iconst (pc := 1256) (v := 1) C dL_law_1256 rfl ?_
  refine z_iadd (pc := 1257) C dL_law_1257 ?_
  refine z_scld (pc := 1258) C Sc dL_law_1258 (sc_in 1 hi hL (by decide)) ?_
  refine z_callVi (pc := 1259) (k := 0) (ci := 9) (As := [.int (xs (nI i + 1).toNatClampNeg)]) (rest := []) C dL_law_1259 kL_158 h1 (by decide) sh_0 rfl rfl rfl (Nat.le_of_ble_eq_true rfl) (fun r M1 a1 => ?_)
  refine z_aload_n (pc := 1262) C 2 dL_law_1262 rfl rfl ?_
  refine z_aload_n (pc := 1263) C 0 dL_law_1263 rfl rfl ?_
  refine z_iload_n (pc := 1264) C 3 dL_law_1264 rfl rfl ?_
  refine z_iconst (pc := 1265) (v := 1) C dL_law_1265 rfl ?_
  refine z_iadd (pc := 1266) C dL_law_1266 ?_
  refine z_scld (pc := 1267) C Sc dL_law_1267 (sc_in 1 hi hL (by decide)) ?_
  refine z_callVi (pc := 1268) (k := 239) (ci := 10) (As := [.int (xs (nI i + 1).toNatClampNeg)]) (rest := [.int r]) C dL_law_1268 kL_161 (h2 r M1 a1) (by decide) sh_239 rfl rfl rfl (Nat.le_of_ble_eq_true rfl) (fun v M2 a2 => ?_)
  obtain ⟨rfl, hR⟩ := a2
  exact z_icmp_eq (pc := 1271) C 1348 dL_law_1271 (by decide) (fun _ => kk M2 hR) (fun q => absurd rfl q)
set_option maxHeartbeats 1600000 in
theorem lw_c36 {X : zX} {l : Launch} {G : zG} {b : Nat} {M : zM} {sc L i : Nat} {xs : Nat → Int32} (C : zOK X l G b cL_law 4 RL 2048) (Sc : zScr X sc L xs) (hL : L ≤ 3072) (hi : i + 6 ≤ L) (hM : Rel M) (kk : ∀ M', Rel M' → zW X zshL M' 1348 (lwL b sc i) []) : zW X zshL M 1276 (lwL b sc i) [] := by
  obtain ⟨A, h1, h2⟩ := op_check (l := l) (G := G) (b := b) hM (x := xs (nI i + 1).toNatClampNeg)
  refine z_aload_n (pc := 1276) C 1 dL_law_1276 rfl rfl ?_
  refine z_aload_n (pc := 1277) C 0 dL_law_1277 rfl rfl ?_
  refine z_iload_n (pc := 1278) C 3 dL_law_1278 rfl rfl ?_
  refine z_iconst (pc := 1279) (v := 1) C dL_law_1279 rfl ?_
  refine z_iadd (pc := 1280) C dL_law_1280 ?_
  refine z_scld (pc := 1281) C Sc dL_law_1281 (sc_in 1 hi hL (by decide)) ?_
  refine z_callVi (pc := 1282) (k := 0) (ci := 9) (As := [.int (xs (nI i + 1).toNatClampNeg)]) (rest := []) C dL_law_1282 kL_162 h1 (by decide) sh_0 rfl rfl rfl (Nat.le_of_ble_eq_true rfl) (fun r M1 a1 => ?_)
  refine z_aload_n (pc := 1285) C 2 dL_law_1285 rfl rfl ?_
  refine z_aload_n (pc := 1286) C 0 dL_law_1286 rfl rfl ?_
  refine z_iload_n (pc := 1287) C 3 dL_law_1287 rfl rfl ?_
  refine z_iconst (pc := 1288) (v := 1) C dL_law_1288 rfl ?_
  refine z_iadd (pc := 1289) C dL_law_1289 ?_
  refine z_scld (pc := 1290) C Sc dL_law_1290 (sc_in 1 hi hL (by decide)) ?_
  refine z_callVi (pc := 1291) (k := 239) (ci := 10) (As := [.int (xs (nI i + 1).toNatClampNeg)]) (rest := [.int r]) C dL_law_1291 kL_165 (h2 r M1 a1) (by decide) sh_239 rfl rfl rfl (Nat.le_of_ble_eq_true rfl) (fun v M2 a2 => ?_)
  obtain ⟨rfl, hR⟩ := a2
  exact z_icmp_eq (pc := 1294) C 1348 dL_law_1294 (by decide) (fun _ => kk M2 hR) (fun q => absurd rfl q)
set_option maxHeartbeats 1600000 in
theorem lw_c37 {X : zX} {l : Launch} {G : zG} {b : Nat} {M : zM} {sc L i : Nat} {xs : Nat → Int32} (C : zOK X l G b cL_law 4 RL 2048) (Sc : zScr X sc L xs) (hL : L ≤ 3072) (hi : i + 6 ≤ L) (hM : Rel M) (kk : ∀ M', Rel M' → zW X zshL M' 1348 (lwL b sc i) []) : zW X zshL M 1299 (lwL b sc i) [] := by
  obtain ⟨A, h1, h2⟩ := op_keep (l := l) (G := G) (b := b) hM 
  refine z_aload_n (pc := 1299) C 1 dL_law_1299 rfl rfl ?_
  refine z_callVi (pc := 1300) (k := 0) (ci := 9) (As := []) (rest := []) C dL_law_1300 kL_166 h1 (by decide) sh_0 rfl rfl rfl (Nat.le_of_ble_eq_true rfl) (fun r M1 a1 => ?_)
  refine z_aload_n (pc := 1303) C 2 dL_law_1303 rfl rfl ?_
  refine z_callVi (pc := 1304) (k := 239) (ci := 10) (As := []) (rest := [.int r]) C dL_law_1304 kL_169 (h2 r M1 a1) (by decide) sh_239 rfl rfl rfl (Nat.le_of_ble_eq_true rfl) (fun v M2 a2 => ?_)
  obtain ⟨rfl, hR⟩ := a2
  exact z_icmp_eq (pc := 1307) C 1348 dL_law_1307 (by decide) (fun _ => kk M2 hR) (fun q => absurd rfl q)
set_option maxHeartbeats 1600000 in
theorem lw_c38 {X : zX} {l : Launch} {G : zG} {b : Nat} {M : zM} {sc L i : Nat} {xs : Nat → Int32} (C : zOK X l G b cL_law 4 RL 2048) (Sc : zScr X sc L xs) (hL : L ≤ 3072) (hi : i + 6 ≤ L) (hM : Rel M) (kk : ∀ M', Rel M' → zW X zshL M' 1348 (lwL b sc i) []) : zW X zshL M 1312 (lwL b sc i) [] := by
  obtain ⟨A, h1, h2⟩ := op_back (l := l) (G := G) (b := b) hM 
  refine z_aload_n (pc := 1312) C 1 dL_law_1312 rfl rfl ?_
  refine z_callVi (pc := 1313) (k := 0) (ci := 9) (As := []) (rest := []) C dL_law_1313 kL_170 h1 (by decide) sh_0 rfl rfl rfl (Nat.le_of_ble_eq_true rfl) (fun r M1 a1 => ?_)
  refine z_aload_n (pc := 1316) C 2 dL_law_1316 rfl rfl ?_
  refine z_callVi (pc := 1317) (k := 239) (ci := 10) (As := []) (rest := [.int r]) C dL_law_1317 kL_173 (h2 r M1 a1) (by decide) sh_239 rfl rfl rfl (Nat.le_of_ble_eq_true rfl) (fun v M2 a2 => ?_)
  obtain ⟨rfl, hR⟩ := a2
  exact z_icmp_eq (pc := 1320) C 1348 dL_law_1320 (by decide) (fun _ => kk M2 hR) (fun q => absurd rfl q)
set_option maxHeartbeats 1600000 in
theorem lw_c39 {X : zX} {l : Launch} {G : zG} {b : Nat} {M : zM} {sc L i : Nat} {xs : Nat → Int32} (C : zOK X l G b cL_law 4 RL 2048) (Sc : zScr X sc L xs) (hL : L ≤ 3072) (hi : i + 6 ≤ L) (hM : Rel M) (kk : ∀ M', Rel M' → zW X zshL M' 1348 (lwL b sc i) []) : zW X zshL M 1325 (lwL b sc i) [] := by
  obtain ⟨A, h1, h2⟩ := op_count (l := l) (G := G) (b := b) hM (t := xs (nI i + 1).toNatClampNeg)
  refine z_aload_n (pc := 1325) C 1 dL_law_1325 rfl rfl ?_
  refine z_aload_n (pc := 1326) C 0 dL_law_1326 rfl rfl ?_
  refine z_iload_n (pc := 1327) C 3 dL_law_1327 rfl rfl ?_
  refine z_iconst (pc := 1328) (v := 1) C dL_law_1328 rfl ?_
  refine z_iadd (pc := 1329) C dL_law_1329 ?_
  refine z_scld (pc := 1330) C Sc dL_law_1330 (sc_in 1 hi hL (by decide)) ?_
  refine z_callVi (pc := 1331) (k := 0) (ci := 9) (As := [.int (xs (nI i + 1).toNatClampNeg)]) (rest := []) C dL_law_1331 kL_174 h1 (by decide) sh_0 rfl rfl rfl (Nat.le_of_ble_eq_true rfl) (fun r M1 a1 => ?_)
  refine z_aload_n (pc := 1334) C 2 dL_law_1334 rfl rfl ?_
  refine z_aload_n (pc := 1335) C 0 dL_law_1335 rfl rfl ?_
  refine z_iload_n (pc := 1336) C 3 dL_law_1336 rfl rfl ?_
  refine z_iconst (pc := 1337) (v := 1) C dL_law_1337 rfl ?_
  refine z_iadd (pc := 1338) C dL_law_1338 ?_
  refine z_scld (pc := 1339) C Sc dL_law_1339 (sc_in 1 hi hL (by decide)) ?_
  refine z_callVi (pc := 1340) (k := 239) (ci := 10) (As := [.int (xs (nI i + 1).toNatClampNeg)]) (rest := [.int r]) C dL_law_1340 kL_177 (h2 r M1 a1) (by decide) sh_239 rfl rfl rfl (Nat.le_of_ble_eq_true rfl) (fun v M2 a2 => ?_)
  obtain ⟨rfl, hR⟩ := a2
  exact z_icmp_eq (pc := 1343) C 1348 dL_law_1343 (by decide) (fun _ => kk M2 hR) (fun q => absurd rfl q)
set_option maxHeartbeats 1600000 in
theorem lw_sw {X : zX} {l : Launch} {G : zG} {b : Nat} {M : zM} {sc L i : Nat} {xs : Nat → Int32} {v : Int32} (C : zOK X l G b cL_law 4 RL 2048) (Sc : zScr X sc L xs) (hL : L ≤ 3072) (hi : i + 6 ≤ L) (hM : Rel M) (kk : ∀ M', Rel M' → zW X zshL M' 1348 (lwL b sc i) []) : zW X zshL M 33 (lwL b sc i) [.int v] := by
  by_cases s0 : v.toInt = 0
  · exact z_tswIn (pc := 33) C 0 208 dL_law_33 s0 (by decide) (by decide) rfl (by decide) (lw_c0 C Sc hL hi hM kk)
  by_cases s1 : v.toInt = 1
  · exact z_tswIn (pc := 33) C 1 251 dL_law_33 s1 (by decide) (by decide) rfl (by decide) (lw_c1 C Sc hL hi hM kk)
  by_cases s2 : v.toInt = 2
  · exact z_tswIn (pc := 33) C 2 284 dL_law_33 s2 (by decide) (by decide) rfl (by decide) (lw_c2 C Sc hL hi hM kk)
  by_cases s3 : v.toInt = 3
  · exact z_tswIn (pc := 33) C 3 317 dL_law_33 s3 (by decide) (by decide) rfl (by decide) (lw_c3 C Sc hL hi hM kk)
  by_cases s4 : v.toInt = 4
  · exact z_tswIn (pc := 33) C 4 350 dL_law_33 s4 (by decide) (by decide) rfl (by decide) (lw_c4 C Sc hL hi hM kk)
  by_cases s5 : v.toInt = 5
  · exact z_tswIn (pc := 33) C 5 393 dL_law_33 s5 (by decide) (by decide) rfl (by decide) (lw_c5 C Sc hL hi hM kk)
  by_cases s6 : v.toInt = 6
  · exact z_tswIn (pc := 33) C 6 406 dL_law_33 s6 (by decide) (by decide) rfl (by decide) (lw_c6 C Sc hL hi hM kk)
  by_cases s7 : v.toInt = 7
  · exact z_tswIn (pc := 33) C 7 429 dL_law_33 s7 (by decide) (by decide) rfl (by decide) (lw_c7 C Sc hL hi hM kk)
  by_cases s8 : v.toInt = 8
  · exact z_tswIn (pc := 33) C 8 452 dL_law_33 s8 (by decide) (by decide) rfl (by decide) (lw_c8 C Sc hL hi hM kk)
  by_cases s9 : v.toInt = 9
  · exact z_tswIn (pc := 33) C 9 485 dL_law_33 s9 (by decide) (by decide) rfl (by decide) (lw_c9 C Sc hL hi hM kk)
  by_cases s10 : v.toInt = 10
  · exact z_tswIn (pc := 33) C 10 498 dL_law_33 s10 (by decide) (by decide) rfl (by decide) (lw_c10 C Sc hL hi hM kk)
  by_cases s11 : v.toInt = 11
  · exact z_tswIn (pc := 33) C 11 521 dL_law_33 s11 (by decide) (by decide) rfl (by decide) (lw_c11 C Sc hL hi hM kk)
  by_cases s12 : v.toInt = 12
  · exact z_tswIn (pc := 33) C 12 544 dL_law_33 s12 (by decide) (by decide) rfl (by decide) (lw_c12 C Sc hL hi hM kk)
  by_cases s13 : v.toInt = 13
  · exact z_tswIn (pc := 33) C 13 567 dL_law_33 s13 (by decide) (by decide) rfl (by decide) (lw_c13 C Sc hL hi hM kk)
  by_cases s14 : v.toInt = 14
  · exact z_tswIn (pc := 33) C 14 590 dL_law_33 s14 (by decide) (by decide) rfl (by decide) (lw_c14 C Sc hL hi hM kk)
  by_cases s15 : v.toInt = 15
  · exact z_tswIn (pc := 33) C 15 623 dL_law_33 s15 (by decide) (by decide) rfl (by decide) (lw_c15 C Sc hL hi hM kk)
  by_cases s16 : v.toInt = 16
  · exact z_tswIn (pc := 33) C 16 646 dL_law_33 s16 (by decide) (by decide) rfl (by decide) (lw_c16 C Sc hL hi hM kk)
  by_cases s17 : v.toInt = 17
  · exact z_tswIn (pc := 33) C 17 669 dL_law_33 s17 (by decide) (by decide) rfl (by decide) (lw_c17 C Sc hL hi hM kk)
  by_cases s18 : v.toInt = 18
  · exact z_tswIn (pc := 33) C 18 712 dL_law_33 s18 (by decide) (by decide) rfl (by decide) (lw_c18 C Sc hL hi hM kk)
  by_cases s19 : v.toInt = 19
  · exact z_tswIn (pc := 33) C 19 745 dL_law_33 s19 (by decide) (by decide) rfl (by decide) (lw_c19 C Sc hL hi hM kk)
  by_cases s20 : v.toInt = 20
  · exact z_tswIn (pc := 33) C 20 758 dL_law_33 s20 (by decide) (by decide) rfl (by decide) (lw_c20 C Sc hL hi hM kk)
  by_cases s21 : v.toInt = 21
  · exact z_tswIn (pc := 33) C 21 781 dL_law_33 s21 (by decide) (by decide) rfl (by decide) (lw_c21 C Sc hL hi hM kk)
  by_cases s22 : v.toInt = 22
  · exact z_tswIn (pc := 33) C 22 824 dL_law_33 s22 (by decide) (by decide) rfl (by decide) (lw_c22 C Sc hL hi hM kk)
  by_cases s23 : v.toInt = 23
  · exact z_tswIn (pc := 33) C 23 847 dL_law_33 s23 (by decide) (by decide) rfl (by decide) (lw_c23 C Sc hL hi hM kk)
  by_cases s24 : v.toInt = 24
  · exact z_tswIn (pc := 33) C 24 860 dL_law_33 s24 (by decide) (by decide) rfl (by decide) (lw_c24 C Sc hL hi hM kk)
  by_cases s25 : v.toInt = 25
  · exact z_tswIn (pc := 33) C 25 893 dL_law_33 s25 (by decide) (by decide) rfl (by decide) (lw_c25 C Sc hL hi hM kk)
  by_cases s26 : v.toInt = 26
  · exact z_tswIn (pc := 33) C 26 916 dL_law_33 s26 (by decide) (by decide) rfl (by decide) (lw_c26 C Sc hL hi hM kk)
  by_cases s27 : v.toInt = 27
  · exact z_tswIn (pc := 33) C 27 959 dL_law_33 s27 (by decide) (by decide) rfl (by decide) (lw_c27 C Sc hL hi hM kk)
  by_cases s28 : v.toInt = 28
  · exact z_tswIn (pc := 33) C 28 1002 dL_law_33 s28 (by decide) (by decide) rfl (by decide) (lw_c28 C Sc hL hi hM kk)
  by_cases s29 : v.toInt = 29
  · exact z_tswIn (pc := 33) C 29 1025 dL_law_33 s29 (by decide) (by decide) rfl (by decide) (lw_c29 C Sc hL hi hM kk)
  by_cases s30 : v.toInt = 30
  · exact z_tswIn (pc := 33) C 30 1048 dL_law_33 s30 (by decide) (by decide) rfl (by decide) (lw_c30 C Sc hL hi hM kk)
  by_cases s31 : v.toInt = 31
  · exact z_tswIn (pc := 33) C 31 1111 dL_law_33 s31 (by decide) (by decide) rfl (by decide) (lw_c31 C Sc hL hi hM kk)
  by_cases s32 : v.toInt = 32
  · exact z_tswIn (pc := 33) C 32 1154 dL_law_33 s32 (by decide) (by decide) rfl (by decide) (lw_c32 C Sc hL hi hM kk)
  by_cases s33 : v.toInt = 33
  · exact z_tswIn (pc := 33) C 33 1187 dL_law_33 s33 (by decide) (by decide) rfl (by decide) (lw_c33 C Sc hL hi hM kk)
  by_cases s34 : v.toInt = 34
  · exact z_tswIn (pc := 33) C 34 1220 dL_law_33 s34 (by decide) (by decide) rfl (by decide) (lw_c34 C Sc hL hi hM kk)
  by_cases s35 : v.toInt = 35
  · exact z_tswIn (pc := 33) C 35 1253 dL_law_33 s35 (by decide) (by decide) rfl (by decide) (lw_c35 C Sc hL hi hM kk)
  by_cases s36 : v.toInt = 36
  · exact z_tswIn (pc := 33) C 36 1276 dL_law_33 s36 (by decide) (by decide) rfl (by decide) (lw_c36 C Sc hL hi hM kk)
  by_cases s37 : v.toInt = 37
  · exact z_tswIn (pc := 33) C 37 1299 dL_law_33 s37 (by decide) (by decide) rfl (by decide) (lw_c37 C Sc hL hi hM kk)
  by_cases s38 : v.toInt = 38
  · exact z_tswIn (pc := 33) C 38 1312 dL_law_33 s38 (by decide) (by decide) rfl (by decide) (lw_c38 C Sc hL hi hM kk)
  by_cases s39 : v.toInt = 39
  · exact z_tswIn (pc := 33) C 39 1325 dL_law_33 s39 (by decide) (by decide) rfl (by decide) (lw_c39 C Sc hL hi hM kk)
  exact z_tswOut (pc := 33) C 1348 dL_law_33 (by omega) (by decide) (kk M hM)
/-- the law's loop -/
theorem lw_loop {X : zX} {l : Launch} {G : zG} {b : Nat} {sc L : Nat} {xs : Nat → Int32} (C : zOK X l G b cL_law 4 RL 2048) (Sc : zScr X sc L xs) (hL : L ≤ 3072) (fin : ∀ M Lc, zW X zshL M 1355 Lc [.int 1]) : ∀ (n i : Nat) (M : zM), i ≤ L → L - i < n → Rel M → zW X zshL M 18 (lwL b sc i) []
  | 0, _, _, _, h, _ => absurd h (Nat.not_lt_zero _)
  | n + 1, i, M, hi, hn, hM => by
    have e1 : (nI i).toInt = i := nI_toInt (by omega)
    have e2 : (nI L).toInt = L := nI_toInt (by omega)
    have e3 : (nI L - 6).toInt = (L : Int) - 6 := by
      rw [Int32.toInt_sub, e2]
      exact Int.bmod_eq_of_le (by have : (6 : Int32).toInt = 6 := rfl; omega) (by have : (6 : Int32).toInt = 6 := rfl; omega)
    refine z_iload_n (pc := 18) C 3 dL_law_18 rfl rfl ?_
    refine z_aload_n (pc := 19) C 0 dL_law_19 rfl rfl ?_
    refine z_scln (pc := 20) C Sc dL_law_20 ?_
    refine z_bipush (pc := 21) (v := 6) C dL_law_21 rfl ?_
    refine z_isub (pc := 23) C dL_law_23 ?_
    refine z_icmp_gt (pc := 24) C 1354 dL_law_24 (by decide) (fun c24 => ?_) (fun c24 => ?_)
    · refine z_iconst (pc := 1354) (v := 1) C dL_law_1354 rfl ?_
      exact fin M _
    · have h6 : i + 6 ≤ L := by
        rw [zi_lt, e1, e3] at c24
        omega
      refine z_aload_n (pc := 27) C 0 dL_law_27 rfl rfl ?_
      refine z_iload_n (pc := 28) C 3 dL_law_28 rfl rfl ?_
      refine z_scld (pc := 29) C Sc dL_law_29 (sc_in0 h6 hL) ?_
      refine z_bipush (pc := 30) (v := 63) C dL_law_30 rfl ?_
      refine z_iand (pc := 32) C dL_law_32 ?_
      refine lw_sw C Sc hL h6 hM (fun M' hM' => ?_)
      refine z_iinc (pc := 1348) (v := 6) (L' := lwL b sc (i + 6)) C 3 dL_law_1348 (by decide) rfl rfl ?_ ?_
      · show [some (Value.ref sc), some (.ref (b + 0)), some (.ref (b + 239)), some (.int (nI i + 6))] = [some (Value.ref sc), some (.ref (b + 0)), some (.ref (b + 239)), some (.int (nI (i + 6)))]
        rw [show nI i + 6 = nI (i + 6) from (Int32.ofNat_add i 6).symm]
      refine z_goto (pc := 1351) C 18 dL_law_1351 (by decide) ?_
      exact lw_loop C Sc hL fin n (i + 6) M' h6 (by omega) hM'
