set_option maxHeartbeats 4000000 in
set_option maxRecDepth 100000 in
theorem lc_4 {p : Program} {l : Launch} {e : Env} {s : State} {m : MethodId} {below : List Frame} {meth : Method} {c : Code} {D : va_G} {cI cZ cL : ClassId} {sa : Nat → Nat} {b L B : Nat} {xs : Nat → Int32} {Q : State → Prop} (hst : l.stackTraces = false) (hx : p.tables.exec = Jvm.exec) (hb : c.code = code) (hml : c.maxLocals = 7) (hE : ME "ChainPickerLaw" (Cond.initialized "ChainPickerLaw") #[Value.ref b] s m D (TYS cI cZ cL)) (hX : va_X b L xs s s.heap) (hbl : b < s.heap.size) (hbB : b < B) (hXX : mX B sa s) (hL : L ≤ 2048) (k : Nat) (hkL : 4 * k + 4 ≤ L) {o r ob : Nat} {w : Wd} (hI : LI cI cZ cL o r ob w) (next : ∀ (w1 : Wd) (H : Heap) (locs : List Loc) (ls : Array Slot), LI cI cZ cL o r ob w1 → mS B D CLS s.heap w1 H locs → lv_has ls 7 [(4, .int (nI (4 * k))), (3, .ref (ob)), (2, .ref (r)), (1, .ref (o)), (0, .ref (b))] → W p l e room_1 s m #[Value.ref b] below meth c H locs (12 + 2 * (k + 1)) (11616 + 62 * (k + 1)) Q (F0 m 694 ls [])) : ∀ (H : Heap) (locs : List Loc) (ls : Array Slot), mS B D CLS s.heap w H locs → lv_has ls 7 [(4, .int (nI (4 * k))), (3, .ref (ob)), (2, .ref (r)), (1, .ref (o)), (0, .ref (b))] → W p l e room_1 s m #[Value.ref b] below meth c H locs (12 + 2 * k) (11616 + 62 * k) Q (F0 m 299 ls []) := by
  obtain ⟨ad, va, as, g, fo, thr, now, n, J, hC, hR, hM, hNw, hob, hdis, hob1, hob2⟩ := hI
  intro H locs ls hm hl
  refine lv_aload_n hx hb dL_law_299 rfl (lv_at hl 3 rfl) ?_
  refine lv_aload_n hx hb dL_law_300 rfl (lv_at hl 4 rfl) ?_
  refine lv_iload hx hb dL_law_301 (lv_at hl 0 rfl) ?_
  refine lv_iconst (v := 1) hx hb dL_law_303 (by decide) ?_
  refine lv_iadd hx hb dL_law_304 ?_
  refine lw_sld (4 * k + 1) hx hb hX hbl hbB hm (nI_add (4 * k) 1) (by omega) hL dL_law_305 ?_
  refine lv_aload_n hx hb dL_law_306 rfl (lv_at hl 4 rfl) ?_
  refine lv_iload hx hb dL_law_307 (lv_at hl 0 rfl) ?_
  refine lv_iconst (v := 2) hx hb dL_law_309 (by decide) ?_
  refine lv_iadd hx hb dL_law_310 ?_
  refine lw_sld (4 * k + 2) hx hb hX hbl hbB hm (nI_add (4 * k) 2) (by omega) hL dL_law_311 ?_
  refine mcalli (mcV (n := 2) (As := [.int (xs (4 * k + 1)), .int (xs (4 * k + 2))]) (rest := []) hx hb hml hE (kC_chain l B D cI cZ cL w o ad va now n J hC (xs (4 * k + 1)) (xs (4 * k + 2))) q_127 q_128 q_129 q_1 q_130 rfl rfl (by decide +kernel) ⟨Nat.le_of_ble_eq_true rfl, Nat.le_of_ble_eq_true rfl⟩ rfl hl.1 hm rfl hC.1 rfl (Nat.le_of_ble_eq_true rfl) dL_law_312 ⟨by show _ ≤ 601024; omega, by show _ ≤ 7293034; omega⟩) hm (fun r1 u1 H locs hp1 hm => ?_)
  obtain ⟨hr1, hu1⟩ := hp1
  rw [hu1] at hm
  refine lv_aload_n hx hb dL_law_315 rfl (lv_at hl 2 rfl) ?_
  refine lv_aload_n hx hb dL_law_316 rfl (lv_at hl 4 rfl) ?_
  refine lv_iload hx hb dL_law_317 (lv_at hl 0 rfl) ?_
  refine lv_iconst (v := 1) hx hb dL_law_319 (by decide) ?_
  refine lv_iadd hx hb dL_law_320 ?_
  refine lw_sld (4 * k + 1) hx hb hX hbl hbB hm (nI_add (4 * k) 1) (by omega) hL dL_law_321 ?_
  refine lv_aload_n hx hb dL_law_322 rfl (lv_at hl 4 rfl) ?_
  refine lv_iload hx hb dL_law_323 (lv_at hl 0 rfl) ?_
  refine lv_iconst (v := 2) hx hb dL_law_325 (by decide) ?_
  refine lv_iadd hx hb dL_law_326 ?_
  refine lw_sld (4 * k + 2) hx hb hX hbl hbB hm (nI_add (4 * k) 2) (by omega) hL dL_law_327 ?_
  refine mcalli (mcV (n := 2) (As := [.int (xs (4 * k + 1)), .int (xs (4 * k + 2))]) (rest := [.int (r1)]) hx hb hml hE (kM_chain l B D cI cZ cL w r as g thr now n J hR hM (xs (4 * k + 1)) (xs (4 * k + 2))) q_369 q_370 q_371 q_2 q_372 rfl rfl (by decide +kernel) ⟨Nat.le_of_ble_eq_true rfl, Nat.le_of_ble_eq_true rfl⟩ rfl hl.1 hm rfl hR.1 rfl (Nat.le_of_ble_eq_true rfl) dL_law_328 ⟨by show _ ≤ 601024; omega, by show _ ≤ 7293034; omega⟩) hm (fun r2 u2 H locs hp2 hm => ?_)
  obtain ⟨hr2, hR2, hK2⟩ := hp2
  refine lv_icmp_eq (tgt := 694) hx hb dL_law_331 (by decide) (fun c_331 => ?_) (fun c_331 => ?_)
  · refine W.widen (k := 12 + 2 * (k + 1)) (n := 11616 + 62 * (k + 1)) (by omega) (by omega) ?_
    exact next u2 H locs ls (LI.rd hC hM hNw hob hdis hob1 hob2 hR2 hK2) hm (lv_sub hl [0, 1, 2, 3, 4] rfl)
  · exact absurd (by rw [hr1, hr2]) c_331
set_option maxHeartbeats 4000000 in
set_option maxRecDepth 100000 in
theorem lc_6 {p : Program} {l : Launch} {e : Env} {s : State} {m : MethodId} {below : List Frame} {meth : Method} {c : Code} {D : va_G} {cI cZ cL : ClassId} {sa : Nat → Nat} {b L B : Nat} {xs : Nat → Int32} {Q : State → Prop} (hst : l.stackTraces = false) (hx : p.tables.exec = Jvm.exec) (hb : c.code = code) (hml : c.maxLocals = 7) (hE : ME "ChainPickerLaw" (Cond.initialized "ChainPickerLaw") #[Value.ref b] s m D (TYS cI cZ cL)) (hX : va_X b L xs s s.heap) (hbl : b < s.heap.size) (hbB : b < B) (hXX : mX B sa s) (hL : L ≤ 2048) (k : Nat) (hkL : 4 * k + 4 ≤ L) {o r ob : Nat} {w : Wd} (hI : LI cI cZ cL o r ob w) (next : ∀ (w1 : Wd) (H : Heap) (locs : List Loc) (ls : Array Slot), LI cI cZ cL o r ob w1 → mS B D CLS s.heap w1 H locs → lv_has ls 7 [(4, .int (nI (4 * k))), (3, .ref (ob)), (2, .ref (r)), (1, .ref (o)), (0, .ref (b))] → W p l e room_1 s m #[Value.ref b] below meth c H locs (12 + 2 * (k + 1)) (11616 + 62 * (k + 1)) Q (F0 m 694 ls [])) : ∀ (H : Heap) (locs : List Loc) (ls : Array Slot), mS B D CLS s.heap w H locs → lv_has ls 7 [(4, .int (nI (4 * k))), (3, .ref (ob)), (2, .ref (r)), (1, .ref (o)), (0, .ref (b))] → W p l e room_1 s m #[Value.ref b] below meth c H locs (12 + 2 * k) (11616 + 62 * k) Q (F0 m 416 ls []) := by
  obtain ⟨ad, va, as, g, fo, thr, now, n, J, hC, hR, hM, hNw, hob, hdis, hob1, hob2⟩ := hI
  intro H locs ls hm hl
  refine lv_aload_n hx hb dL_law_416 rfl (lv_at hl 3 rfl) ?_
  refine lv_aload_n hx hb dL_law_417 rfl (lv_at hl 4 rfl) ?_
  refine lv_iload hx hb dL_law_418 (lv_at hl 0 rfl) ?_
  refine lv_iconst (v := 1) hx hb dL_law_420 (by decide) ?_
  refine lv_iadd hx hb dL_law_421 ?_
  refine lw_sld (4 * k + 1) hx hb hX hbl hbB hm (nI_add (4 * k) 1) (by omega) hL dL_law_422 ?_
  refine lv_aload_n hx hb dL_law_423 rfl (lv_at hl 4 rfl) ?_
  refine lv_iload hx hb dL_law_424 (lv_at hl 0 rfl) ?_
  refine lv_iconst (v := 2) hx hb dL_law_426 (by decide) ?_
  refine lv_iadd hx hb dL_law_427 ?_
  refine lw_sld (4 * k + 2) hx hb hX hbl hbB hm (nI_add (4 * k) 2) (by omega) hL dL_law_428 ?_
  refine lv_aload_n hx hb dL_law_429 rfl (lv_at hl 4 rfl) ?_
  refine lv_iload hx hb dL_law_430 (lv_at hl 0 rfl) ?_
  refine lv_iconst (v := 3) hx hb dL_law_432 (by decide) ?_
  refine lv_iadd hx hb dL_law_433 ?_
  refine lw_sld (4 * k + 3) hx hb hX hbl hbB hm (nI_add (4 * k) 3) (by omega) hL dL_law_434 ?_
  refine mcalli (mcV (n := 3) (As := [.int (xs (4 * k + 1)), .int (xs (4 * k + 2)), .int (xs (4 * k + 3))]) (rest := []) hx hb hml hE (kC_view l B D cI cZ cL w o ad va now n J hC (xs (4 * k + 1)) (xs (4 * k + 2)) (xs (4 * k + 3))) q_135 q_136 q_137 q_1 q_138 rfl rfl (by decide +kernel) ⟨Nat.le_of_ble_eq_true rfl, Nat.le_of_ble_eq_true rfl⟩ rfl hl.1 hm rfl hC.1 rfl (Nat.le_of_ble_eq_true rfl) dL_law_435 ⟨by show _ ≤ 601024; omega, by show _ ≤ 7293034; omega⟩) hm (fun r1 u1 H locs hp1 hm => ?_)
  obtain ⟨hr1, hu1⟩ := hp1
  rw [hu1] at hm
  refine lv_aload_n hx hb dL_law_438 rfl (lv_at hl 2 rfl) ?_
  refine lv_aload_n hx hb dL_law_439 rfl (lv_at hl 4 rfl) ?_
  refine lv_iload hx hb dL_law_440 (lv_at hl 0 rfl) ?_
  refine lv_iconst (v := 1) hx hb dL_law_442 (by decide) ?_
  refine lv_iadd hx hb dL_law_443 ?_
  refine lw_sld (4 * k + 1) hx hb hX hbl hbB hm (nI_add (4 * k) 1) (by omega) hL dL_law_444 ?_
  refine lv_aload_n hx hb dL_law_445 rfl (lv_at hl 4 rfl) ?_
  refine lv_iload hx hb dL_law_446 (lv_at hl 0 rfl) ?_
  refine lv_iconst (v := 2) hx hb dL_law_448 (by decide) ?_
  refine lv_iadd hx hb dL_law_449 ?_
  refine lw_sld (4 * k + 2) hx hb hX hbl hbB hm (nI_add (4 * k) 2) (by omega) hL dL_law_450 ?_
  refine lv_aload_n hx hb dL_law_451 rfl (lv_at hl 4 rfl) ?_
  refine lv_iload hx hb dL_law_452 (lv_at hl 0 rfl) ?_
  refine lv_iconst (v := 3) hx hb dL_law_454 (by decide) ?_
  refine lv_iadd hx hb dL_law_455 ?_
  refine lw_sld (4 * k + 3) hx hb hX hbl hbB hm (nI_add (4 * k) 3) (by omega) hL dL_law_456 ?_
  refine mcalli (mcV (n := 3) (As := [.int (xs (4 * k + 1)), .int (xs (4 * k + 2)), .int (xs (4 * k + 3))]) (rest := [.int (r1)]) hx hb hml hE (kM_view l B D cI cZ cL w r as g thr now n J hR hM (xs (4 * k + 1)) (xs (4 * k + 2)) (xs (4 * k + 3))) q_381 q_382 q_383 q_2 q_384 rfl rfl (by decide +kernel) ⟨Nat.le_of_ble_eq_true rfl, Nat.le_of_ble_eq_true rfl⟩ rfl hl.1 hm rfl hR.1 rfl (Nat.le_of_ble_eq_true rfl) dL_law_457 ⟨by show _ ≤ 601024; omega, by show _ ≤ 7293034; omega⟩) hm (fun r2 u2 H locs hp2 hm => ?_)
  obtain ⟨hr2, hR2, hK2⟩ := hp2
  refine lv_icmp_eq (tgt := 694) hx hb dL_law_460 (by decide) (fun c_460 => ?_) (fun c_460 => ?_)
  · refine W.widen (k := 12 + 2 * (k + 1)) (n := 11616 + 62 * (k + 1)) (by omega) (by omega) ?_
    exact next u2 H locs ls (LI.rd hC hM hNw hob hdis hob1 hob2 hR2 hK2) hm (lv_sub hl [0, 1, 2, 3, 4] rfl)
  · exact absurd (by rw [hr1, hr2]) c_460
set_option maxHeartbeats 4000000 in
set_option maxRecDepth 100000 in
theorem lc_7 {p : Program} {l : Launch} {e : Env} {s : State} {m : MethodId} {below : List Frame} {meth : Method} {c : Code} {D : va_G} {cI cZ cL : ClassId} {sa : Nat → Nat} {b L B : Nat} {xs : Nat → Int32} {Q : State → Prop} (hst : l.stackTraces = false) (hx : p.tables.exec = Jvm.exec) (hb : c.code = code) (hml : c.maxLocals = 7) (hE : ME "ChainPickerLaw" (Cond.initialized "ChainPickerLaw") #[Value.ref b] s m D (TYS cI cZ cL)) (hX : va_X b L xs s s.heap) (hbl : b < s.heap.size) (hbB : b < B) (hXX : mX B sa s) (hL : L ≤ 2048) (k : Nat) (hkL : 4 * k + 4 ≤ L) {o r ob : Nat} {w : Wd} (hI : LI cI cZ cL o r ob w) (next : ∀ (w1 : Wd) (H : Heap) (locs : List Loc) (ls : Array Slot), LI cI cZ cL o r ob w1 → mS B D CLS s.heap w1 H locs → lv_has ls 7 [(4, .int (nI (4 * k))), (3, .ref (ob)), (2, .ref (r)), (1, .ref (o)), (0, .ref (b))] → W p l e room_1 s m #[Value.ref b] below meth c H locs (12 + 2 * (k + 1)) (11616 + 62 * (k + 1)) Q (F0 m 694 ls [])) : ∀ (H : Heap) (locs : List Loc) (ls : Array Slot), mS B D CLS s.heap w H locs → lv_has ls 7 [(4, .int (nI (4 * k))), (3, .ref (ob)), (2, .ref (r)), (1, .ref (o)), (0, .ref (b))] → W p l e room_1 s m #[Value.ref b] below meth c H locs (12 + 2 * k) (11616 + 62 * k) Q (F0 m 465 ls []) := by
  obtain ⟨ad, va, as, g, fo, thr, now, n, J, hC, hR, hM, hNw, hob, hdis, hob1, hob2⟩ := hI
  intro H locs ls hm hl
  refine lv_aload_n hx hb dL_law_465 rfl (lv_at hl 3 rfl) ?_
  refine lv_aload_n hx hb dL_law_466 rfl (lv_at hl 4 rfl) ?_
  refine lv_iload hx hb dL_law_467 (lv_at hl 0 rfl) ?_
  refine lv_iconst (v := 1) hx hb dL_law_469 (by decide) ?_
  refine lv_iadd hx hb dL_law_470 ?_
  refine lw_sld (4 * k + 1) hx hb hX hbl hbB hm (nI_add (4 * k) 1) (by omega) hL dL_law_471 ?_
  refine lv_aload_n hx hb dL_law_472 rfl (lv_at hl 4 rfl) ?_
  refine lv_iload hx hb dL_law_473 (lv_at hl 0 rfl) ?_
  refine lv_iconst (v := 2) hx hb dL_law_475 (by decide) ?_
  refine lv_iadd hx hb dL_law_476 ?_
  refine lw_sld (4 * k + 2) hx hb hX hbl hbB hm (nI_add (4 * k) 2) (by omega) hL dL_law_477 ?_
  refine mcalli (mcV (n := 2) (As := [.int (xs (4 * k + 1)), .int (xs (4 * k + 2))]) (rest := []) hx hb hml hE (kC_files l B D cI cZ cL w o ad va now n J hC (xs (4 * k + 1)) (xs (4 * k + 2))) q_145 q_146 q_147 q_1 q_148 rfl rfl (by decide +kernel) ⟨Nat.le_of_ble_eq_true rfl, Nat.le_of_ble_eq_true rfl⟩ rfl hl.1 hm rfl hC.1 rfl (Nat.le_of_ble_eq_true rfl) dL_law_478 ⟨by show _ ≤ 601024; omega, by show _ ≤ 7293034; omega⟩) hm (fun r1 u1 H locs hp1 hm => ?_)
  obtain ⟨hr1, hu1⟩ := hp1
  rw [hu1] at hm
  refine lv_aload_n hx hb dL_law_481 rfl (lv_at hl 2 rfl) ?_
  refine lv_aload_n hx hb dL_law_482 rfl (lv_at hl 4 rfl) ?_
  refine lv_iload hx hb dL_law_483 (lv_at hl 0 rfl) ?_
  refine lv_iconst (v := 1) hx hb dL_law_485 (by decide) ?_
  refine lv_iadd hx hb dL_law_486 ?_
  refine lw_sld (4 * k + 1) hx hb hX hbl hbB hm (nI_add (4 * k) 1) (by omega) hL dL_law_487 ?_
  refine lv_aload_n hx hb dL_law_488 rfl (lv_at hl 4 rfl) ?_
  refine lv_iload hx hb dL_law_489 (lv_at hl 0 rfl) ?_
  refine lv_iconst (v := 2) hx hb dL_law_491 (by decide) ?_
  refine lv_iadd hx hb dL_law_492 ?_
  refine lw_sld (4 * k + 2) hx hb hX hbl hbB hm (nI_add (4 * k) 2) (by omega) hL dL_law_493 ?_
  refine mcalli (mcV (n := 2) (As := [.int (xs (4 * k + 1)), .int (xs (4 * k + 2))]) (rest := [.int (r1)]) hx hb hml hE (kM_files l B D cI cZ cL w r as g thr now n J hR hM (xs (4 * k + 1)) (xs (4 * k + 2))) q_393 q_394 q_395 q_2 q_396 rfl rfl (by decide +kernel) ⟨Nat.le_of_ble_eq_true rfl, Nat.le_of_ble_eq_true rfl⟩ rfl hl.1 hm rfl hR.1 rfl (Nat.le_of_ble_eq_true rfl) dL_law_494 ⟨by show _ ≤ 601024; omega, by show _ ≤ 7293034; omega⟩) hm (fun r2 u2 H locs hp2 hm => ?_)
  obtain ⟨hr2, hR2, hK2⟩ := hp2
  refine lv_icmp_eq (tgt := 694) hx hb dL_law_497 (by decide) (fun c_497 => ?_) (fun c_497 => ?_)
  · refine W.widen (k := 12 + 2 * (k + 1)) (n := 11616 + 62 * (k + 1)) (by omega) (by omega) ?_
    exact next u2 H locs ls (LI.rd hC hM hNw hob hdis hob1 hob2 hR2 hK2) hm (lv_sub hl [0, 1, 2, 3, 4] rfl)
  · exact absurd (by rw [hr1, hr2]) c_497
set_option maxHeartbeats 4000000 in
set_option maxRecDepth 100000 in
theorem lc_8 {p : Program} {l : Launch} {e : Env} {s : State} {m : MethodId} {below : List Frame} {meth : Method} {c : Code} {D : va_G} {cI cZ cL : ClassId} {sa : Nat → Nat} {b L B : Nat} {xs : Nat → Int32} {Q : State → Prop} (hst : l.stackTraces = false) (hx : p.tables.exec = Jvm.exec) (hb : c.code = code) (hml : c.maxLocals = 7) (hE : ME "ChainPickerLaw" (Cond.initialized "ChainPickerLaw") #[Value.ref b] s m D (TYS cI cZ cL)) (hX : va_X b L xs s s.heap) (hbl : b < s.heap.size) (hbB : b < B) (hXX : mX B sa s) (hL : L ≤ 2048) (k : Nat) (hkL : 4 * k + 4 ≤ L) {o r ob : Nat} {w : Wd} (hI : LI cI cZ cL o r ob w) (next : ∀ (w1 : Wd) (H : Heap) (locs : List Loc) (ls : Array Slot), LI cI cZ cL o r ob w1 → mS B D CLS s.heap w1 H locs → lv_has ls 7 [(4, .int (nI (4 * k))), (3, .ref (ob)), (2, .ref (r)), (1, .ref (o)), (0, .ref (b))] → W p l e room_1 s m #[Value.ref b] below meth c H locs (12 + 2 * (k + 1)) (11616 + 62 * (k + 1)) Q (F0 m 694 ls [])) : ∀ (H : Heap) (locs : List Loc) (ls : Array Slot), mS B D CLS s.heap w H locs → lv_has ls 7 [(4, .int (nI (4 * k))), (3, .ref (ob)), (2, .ref (r)), (1, .ref (o)), (0, .ref (b))] → W p l e room_1 s m #[Value.ref b] below meth c H locs (12 + 2 * k) (11616 + 62 * k) Q (F0 m 502 ls []) := by
  obtain ⟨ad, va, as, g, fo, thr, now, n, J, hC, hR, hM, hNw, hob, hdis, hob1, hob2⟩ := hI
  intro H locs ls hm hl
  refine lv_aload_n hx hb dL_law_502 rfl (lv_at hl 3 rfl) ?_
  refine lv_aload_n hx hb dL_law_503 rfl (lv_at hl 4 rfl) ?_
  refine lv_iload hx hb dL_law_504 (lv_at hl 0 rfl) ?_
  refine lv_iconst (v := 1) hx hb dL_law_506 (by decide) ?_
  refine lv_iadd hx hb dL_law_507 ?_
  refine lw_sld (4 * k + 1) hx hb hX hbl hbB hm (nI_add (4 * k) 1) (by omega) hL dL_law_508 ?_
  refine lv_aload_n hx hb dL_law_509 rfl (lv_at hl 4 rfl) ?_
  refine lv_iload hx hb dL_law_510 (lv_at hl 0 rfl) ?_
  refine lv_iconst (v := 2) hx hb dL_law_512 (by decide) ?_
  refine lv_iadd hx hb dL_law_513 ?_
  refine lw_sld (4 * k + 2) hx hb hX hbl hbB hm (nI_add (4 * k) 2) (by omega) hL dL_law_514 ?_
  refine lv_aload_n hx hb dL_law_515 rfl (lv_at hl 4 rfl) ?_
  refine lv_iload hx hb dL_law_516 (lv_at hl 0 rfl) ?_
  refine lv_iconst (v := 3) hx hb dL_law_518 (by decide) ?_
  refine lv_iadd hx hb dL_law_519 ?_
  refine lw_sld (4 * k + 3) hx hb hX hbl hbB hm (nI_add (4 * k) 3) (by omega) hL dL_law_520 ?_
  refine mcalli (mcV (n := 3) (As := [.int (xs (4 * k + 1)), .int (xs (4 * k + 2)), .int (xs (4 * k + 3))]) (rest := []) hx hb hml hE (kC_source l B D cI cZ cL w o ad va now n J hC (xs (4 * k + 1)) (xs (4 * k + 2)) (xs (4 * k + 3))) q_149 q_150 q_151 q_1 q_152 rfl rfl (by decide +kernel) ⟨Nat.le_of_ble_eq_true rfl, Nat.le_of_ble_eq_true rfl⟩ rfl hl.1 hm rfl hC.1 rfl (Nat.le_of_ble_eq_true rfl) dL_law_521 ⟨by show _ ≤ 601024; omega, by show _ ≤ 7293034; omega⟩) hm (fun r1 u1 H locs hp1 hm => ?_)
  obtain ⟨hr1, hu1⟩ := hp1
  rw [hu1] at hm
  refine lv_aload_n hx hb dL_law_524 rfl (lv_at hl 2 rfl) ?_
  refine lv_aload_n hx hb dL_law_525 rfl (lv_at hl 4 rfl) ?_
  refine lv_iload hx hb dL_law_526 (lv_at hl 0 rfl) ?_
  refine lv_iconst (v := 1) hx hb dL_law_528 (by decide) ?_
  refine lv_iadd hx hb dL_law_529 ?_
  refine lw_sld (4 * k + 1) hx hb hX hbl hbB hm (nI_add (4 * k) 1) (by omega) hL dL_law_530 ?_
  refine lv_aload_n hx hb dL_law_531 rfl (lv_at hl 4 rfl) ?_
  refine lv_iload hx hb dL_law_532 (lv_at hl 0 rfl) ?_
  refine lv_iconst (v := 2) hx hb dL_law_534 (by decide) ?_
  refine lv_iadd hx hb dL_law_535 ?_
  refine lw_sld (4 * k + 2) hx hb hX hbl hbB hm (nI_add (4 * k) 2) (by omega) hL dL_law_536 ?_
  refine lv_aload_n hx hb dL_law_537 rfl (lv_at hl 4 rfl) ?_
  refine lv_iload hx hb dL_law_538 (lv_at hl 0 rfl) ?_
  refine lv_iconst (v := 3) hx hb dL_law_540 (by decide) ?_
  refine lv_iadd hx hb dL_law_541 ?_
  refine lw_sld (4 * k + 3) hx hb hX hbl hbB hm (nI_add (4 * k) 3) (by omega) hL dL_law_542 ?_
  refine mcalli (mcV (n := 3) (As := [.int (xs (4 * k + 1)), .int (xs (4 * k + 2)), .int (xs (4 * k + 3))]) (rest := [.int (r1)]) hx hb hml hE (kM_source l B D cI cZ cL w r as g thr now n J hR hM (xs (4 * k + 1)) (xs (4 * k + 2)) (xs (4 * k + 3))) q_397 q_398 q_399 q_2 q_400 rfl rfl (by decide +kernel) ⟨Nat.le_of_ble_eq_true rfl, Nat.le_of_ble_eq_true rfl⟩ rfl hl.1 hm rfl hR.1 rfl (Nat.le_of_ble_eq_true rfl) dL_law_543 ⟨by show _ ≤ 601024; omega, by show _ ≤ 7293034; omega⟩) hm (fun r2 u2 H locs hp2 hm => ?_)
  obtain ⟨hr2, hR2, hK2⟩ := hp2
  refine lv_icmp_eq (tgt := 694) hx hb dL_law_546 (by decide) (fun c_546 => ?_) (fun c_546 => ?_)
  · refine W.widen (k := 12 + 2 * (k + 1)) (n := 11616 + 62 * (k + 1)) (by omega) (by omega) ?_
    exact next u2 H locs ls (LI.rd hC hM hNw hob hdis hob1 hob2 hR2 hK2) hm (lv_sub hl [0, 1, 2, 3, 4] rfl)
  · exact absurd (by rw [hr1, hr2]) c_546
set_option maxHeartbeats 4000000 in
set_option maxRecDepth 100000 in
theorem lc_11 {p : Program} {l : Launch} {e : Env} {s : State} {m : MethodId} {below : List Frame} {meth : Method} {c : Code} {D : va_G} {cI cZ cL : ClassId} {sa : Nat → Nat} {b L B : Nat} {xs : Nat → Int32} {Q : State → Prop} (hst : l.stackTraces = false) (hx : p.tables.exec = Jvm.exec) (hb : c.code = code) (hml : c.maxLocals = 7) (hE : ME "ChainPickerLaw" (Cond.initialized "ChainPickerLaw") #[Value.ref b] s m D (TYS cI cZ cL)) (hX : va_X b L xs s s.heap) (hbl : b < s.heap.size) (hbB : b < B) (hXX : mX B sa s) (hL : L ≤ 2048) (k : Nat) (hkL : 4 * k + 4 ≤ L) {o r ob : Nat} {w : Wd} (hI : LI cI cZ cL o r ob w) (next : ∀ (w1 : Wd) (H : Heap) (locs : List Loc) (ls : Array Slot), LI cI cZ cL o r ob w1 → mS B D CLS s.heap w1 H locs → lv_has ls 7 [(4, .int (nI (4 * k))), (3, .ref (ob)), (2, .ref (r)), (1, .ref (o)), (0, .ref (b))] → W p l e room_1 s m #[Value.ref b] below meth c H locs (12 + 2 * (k + 1)) (11616 + 62 * (k + 1)) Q (F0 m 694 ls [])) : ∀ (H : Heap) (locs : List Loc) (ls : Array Slot), mS B D CLS s.heap w H locs → lv_has ls 7 [(4, .int (nI (4 * k))), (3, .ref (ob)), (2, .ref (r)), (1, .ref (o)), (0, .ref (b))] → W p l e room_1 s m #[Value.ref b] below meth c H locs (12 + 2 * k) (11616 + 62 * k) Q (F0 m 632 ls []) := by
  obtain ⟨ad, va, as, g, fo, thr, now, n, J, hC, hR, hM, hNw, hob, hdis, hob1, hob2⟩ := hI
  intro H locs ls hm hl
  refine lv_aload_n hx hb dL_law_632 rfl (lv_at hl 3 rfl) ?_
  refine lv_aload_n hx hb dL_law_633 rfl (lv_at hl 4 rfl) ?_
  refine lv_iload hx hb dL_law_634 (lv_at hl 0 rfl) ?_
  refine lv_iconst (v := 1) hx hb dL_law_636 (by decide) ?_
  refine lv_iadd hx hb dL_law_637 ?_
  refine lw_sld (4 * k + 1) hx hb hX hbl hbB hm (nI_add (4 * k) 1) (by omega) hL dL_law_638 ?_
  refine lv_aload_n hx hb dL_law_639 rfl (lv_at hl 4 rfl) ?_
  refine lv_iload hx hb dL_law_640 (lv_at hl 0 rfl) ?_
  refine lv_iconst (v := 2) hx hb dL_law_642 (by decide) ?_
  refine lv_iadd hx hb dL_law_643 ?_
  refine lw_sld (4 * k + 2) hx hb hX hbl hbB hm (nI_add (4 * k) 2) (by omega) hL dL_law_644 ?_
  refine mcalli (mcV (n := 2) (As := [.int (xs (4 * k + 1)), .int (xs (4 * k + 2))]) (rest := []) hx hb hml hE (kC_job l B D cI cZ cL w o ad va now n J hC (xs (4 * k + 1)) (xs (4 * k + 2))) q_164 q_165 q_166 q_1 q_167 rfl rfl (by decide +kernel) ⟨Nat.le_of_ble_eq_true rfl, Nat.le_of_ble_eq_true rfl⟩ rfl hl.1 hm rfl hC.1 rfl (Nat.le_of_ble_eq_true rfl) dL_law_645 ⟨by show _ ≤ 601024; omega, by show _ ≤ 7293034; omega⟩) hm (fun r1 u1 H locs hp1 hm => ?_)
  obtain ⟨hr1, hu1⟩ := hp1
  rw [hu1] at hm
  refine lv_aload_n hx hb dL_law_648 rfl (lv_at hl 2 rfl) ?_
  refine lv_aload_n hx hb dL_law_649 rfl (lv_at hl 4 rfl) ?_
  refine lv_iload hx hb dL_law_650 (lv_at hl 0 rfl) ?_
  refine lv_iconst (v := 1) hx hb dL_law_652 (by decide) ?_
  refine lv_iadd hx hb dL_law_653 ?_
  refine lw_sld (4 * k + 1) hx hb hX hbl hbB hm (nI_add (4 * k) 1) (by omega) hL dL_law_654 ?_
  refine lv_aload_n hx hb dL_law_655 rfl (lv_at hl 4 rfl) ?_
  refine lv_iload hx hb dL_law_656 (lv_at hl 0 rfl) ?_
  refine lv_iconst (v := 2) hx hb dL_law_658 (by decide) ?_
  refine lv_iadd hx hb dL_law_659 ?_
  refine lw_sld (4 * k + 2) hx hb hX hbl hbB hm (nI_add (4 * k) 2) (by omega) hL dL_law_660 ?_
  refine mcalli (mcV (n := 2) (As := [.int (xs (4 * k + 1)), .int (xs (4 * k + 2))]) (rest := [.int (r1)]) hx hb hml hE (kM_job l B D cI cZ cL w r as g thr now n J hR (xs (4 * k + 1)) (xs (4 * k + 2))) q_425 q_426 q_427 q_2 q_428 rfl rfl (by decide +kernel) ⟨Nat.le_of_ble_eq_true rfl, Nat.le_of_ble_eq_true rfl⟩ rfl hl.1 hm rfl hR.1 rfl (Nat.le_of_ble_eq_true rfl) dL_law_661 ⟨by show _ ≤ 601024; omega, by show _ ≤ 7293034; omega⟩) hm (fun r2 u2 H locs hp2 hm => ?_)
  obtain ⟨hr2, hR2, hK2⟩ := hp2
  refine lv_icmp_eq (tgt := 694) hx hb dL_law_664 (by decide) (fun c_664 => ?_) (fun c_664 => ?_)
  · refine W.widen (k := 12 + 2 * (k + 1)) (n := 11616 + 62 * (k + 1)) (by omega) (by omega) ?_
    exact next u2 H locs ls (LI.rd hC hM hNw hob hdis hob1 hob2 hR2 hK2) hm (lv_sub hl [0, 1, 2, 3, 4] rfl)
  · exact absurd (by rw [hr1, hr2]) c_664
set_option maxHeartbeats 4000000 in
set_option maxRecDepth 100000 in
theorem lc_12 {p : Program} {l : Launch} {e : Env} {s : State} {m : MethodId} {below : List Frame} {meth : Method} {c : Code} {D : va_G} {cI cZ cL : ClassId} {sa : Nat → Nat} {b L B : Nat} {xs : Nat → Int32} {Q : State → Prop} (hst : l.stackTraces = false) (hx : p.tables.exec = Jvm.exec) (hb : c.code = code) (hml : c.maxLocals = 7) (hE : ME "ChainPickerLaw" (Cond.initialized "ChainPickerLaw") #[Value.ref b] s m D (TYS cI cZ cL)) (hX : va_X b L xs s s.heap) (hbl : b < s.heap.size) (hbB : b < B) (hXX : mX B sa s) (hL : L ≤ 2048) (k : Nat) (hkL : 4 * k + 4 ≤ L) {o r ob : Nat} {w : Wd} (hI : LI cI cZ cL o r ob w) (next : ∀ (w1 : Wd) (H : Heap) (locs : List Loc) (ls : Array Slot), LI cI cZ cL o r ob w1 → mS B D CLS s.heap w1 H locs → lv_has ls 7 [(4, .int (nI (4 * k))), (3, .ref (ob)), (2, .ref (r)), (1, .ref (o)), (0, .ref (b))] → W p l e room_1 s m #[Value.ref b] below meth c H locs (12 + 2 * (k + 1)) (11616 + 62 * (k + 1)) Q (F0 m 694 ls [])) : ∀ (H : Heap) (locs : List Loc) (ls : Array Slot), mS B D CLS s.heap w H locs → lv_has ls 7 [(4, .int (nI (4 * k))), (3, .ref (ob)), (2, .ref (r)), (1, .ref (o)), (0, .ref (b))] → W p l e room_1 s m #[Value.ref b] below meth c H locs (12 + 2 * k) (11616 + 62 * k) Q (F0 m 669 ls []) := by
  obtain ⟨ad, va, as, g, fo, thr, now, n, J, hC, hR, hM, hNw, hob, hdis, hob1, hob2⟩ := hI
  intro H locs ls hm hl
  refine lv_aload_n hx hb dL_law_669 rfl (lv_at hl 3 rfl) ?_
  refine lv_aload_n hx hb dL_law_670 rfl (lv_at hl 4 rfl) ?_
  refine lv_iload hx hb dL_law_671 (lv_at hl 0 rfl) ?_
  refine lv_iconst (v := 1) hx hb dL_law_673 (by decide) ?_
  refine lv_iadd hx hb dL_law_674 ?_
  refine lw_sld (4 * k + 1) hx hb hX hbl hbB hm (nI_add (4 * k) 1) (by omega) hL dL_law_675 ?_
  refine mcalli (mcV (n := 1) (As := [.int (xs (4 * k + 1))]) (rest := []) hx hb hml hE (kC_count l B D cI cZ cL w o ad va now n J hC (xs (4 * k + 1))) q_171 q_172 q_173 q_1 q_174 rfl rfl (by decide +kernel) ⟨Nat.le_of_ble_eq_true rfl, Nat.le_of_ble_eq_true rfl⟩ rfl hl.1 hm rfl hC.1 rfl (Nat.le_of_ble_eq_true rfl) dL_law_676 ⟨by show _ ≤ 601024; omega, by show _ ≤ 7293034; omega⟩) hm (fun r1 u1 H locs hp1 hm => ?_)
  obtain ⟨hr1, hu1⟩ := hp1
  rw [hu1] at hm
  refine lv_aload_n hx hb dL_law_679 rfl (lv_at hl 2 rfl) ?_
  refine lv_aload_n hx hb dL_law_680 rfl (lv_at hl 4 rfl) ?_
  refine lv_iload hx hb dL_law_681 (lv_at hl 0 rfl) ?_
  refine lv_iconst (v := 1) hx hb dL_law_683 (by decide) ?_
  refine lv_iadd hx hb dL_law_684 ?_
  refine lw_sld (4 * k + 1) hx hb hX hbl hbB hm (nI_add (4 * k) 1) (by omega) hL dL_law_685 ?_
  refine mcalli (mcV (n := 1) (As := [.int (xs (4 * k + 1))]) (rest := [.int (r1)]) hx hb hml hE (kM_count l B D cI cZ cL w r as g thr now n J hR (xs (4 * k + 1))) q_429 q_430 q_431 q_2 q_432 rfl rfl (by decide +kernel) ⟨Nat.le_of_ble_eq_true rfl, Nat.le_of_ble_eq_true rfl⟩ rfl hl.1 hm rfl hR.1 rfl (Nat.le_of_ble_eq_true rfl) dL_law_686 ⟨by show _ ≤ 601024; omega, by show _ ≤ 7293034; omega⟩) hm (fun r2 u2 H locs hp2 hm => ?_)
  obtain ⟨hr2, hR2, hK2⟩ := hp2
  refine lv_icmp_eq (tgt := 694) hx hb dL_law_689 (by decide) (fun c_689 => ?_) (fun c_689 => ?_)
  · refine W.widen (k := 12 + 2 * (k + 1)) (n := 11616 + 62 * (k + 1)) (by omega) (by omega) ?_
    exact next u2 H locs ls (LI.rd hC hM hNw hob hdis hob1 hob2 hR2 hK2) hm (lv_sub hl [0, 1, 2, 3, 4] rfl)
  · exact absurd (by rw [hr1, hr2]) c_689
set_option maxHeartbeats 4000000 in
set_option maxRecDepth 100000 in
theorem lc_2 {p : Program} {l : Launch} {e : Env} {s : State} {m : MethodId} {below : List Frame} {meth : Method} {c : Code} {D : va_G} {cI cZ cL : ClassId} {sa : Nat → Nat} {b L B : Nat} {xs : Nat → Int32} {Q : State → Prop} (hst : l.stackTraces = false) (hx : p.tables.exec = Jvm.exec) (hb : c.code = code) (hml : c.maxLocals = 7) (hE : ME "ChainPickerLaw" (Cond.initialized "ChainPickerLaw") #[Value.ref b] s m D (TYS cI cZ cL)) (hX : va_X b L xs s s.heap) (hbl : b < s.heap.size) (hbB : b < B) (hXX : mX B sa s) (hL : L ≤ 2048) (k : Nat) (hkL : 4 * k + 4 ≤ L) {o r ob : Nat} {w : Wd} (hI : LI cI cZ cL o r ob w) (next : ∀ (w1 : Wd) (H : Heap) (locs : List Loc) (ls : Array Slot), LI cI cZ cL o r ob w1 → mS B D CLS s.heap w1 H locs → lv_has ls 7 [(4, .int (nI (4 * k))), (3, .ref (ob)), (2, .ref (r)), (1, .ref (o)), (0, .ref (b))] → W p l e room_1 s m #[Value.ref b] below meth c H locs (12 + 2 * (k + 1)) (11616 + 62 * (k + 1)) Q (F0 m 694 ls [])) : ∀ (H : Heap) (locs : List Loc) (ls : Array Slot), mS B D CLS s.heap w H locs → lv_has ls 7 [(4, .int (nI (4 * k))), (3, .ref (ob)), (2, .ref (r)), (1, .ref (o)), (0, .ref (b))] → W p l e room_1 s m #[Value.ref b] below meth c H locs (12 + 2 * k) (11616 + 62 * k) Q (F0 m 197 ls []) := by
  obtain ⟨ad, va, as, g, fo, thr, now, n, J, hC, hR, hM, hNw, hob, hdis, hob1, hob2⟩ := hI
  intro H locs ls hm hl
  refine lv_aload_n hx hb dL_law_197 rfl (lv_at hl 3 rfl) ?_
  refine lv_aload_n hx hb dL_law_198 rfl (lv_at hl 4 rfl) ?_
  refine lv_iload hx hb dL_law_199 (lv_at hl 0 rfl) ?_
  refine lv_iconst (v := 1) hx hb dL_law_201 (by decide) ?_
  refine lv_iadd hx hb dL_law_202 ?_
  refine lw_sld (4 * k + 1) hx hb hX hbl hbB hm (nI_add (4 * k) 1) (by omega) hL dL_law_203 ?_
  refine lv_aload_n hx hb dL_law_204 rfl (lv_at hl 4 rfl) ?_
  refine lv_iload hx hb dL_law_205 (lv_at hl 0 rfl) ?_
  refine lv_iconst (v := 2) hx hb dL_law_207 (by decide) ?_
  refine lv_iadd hx hb dL_law_208 ?_
  refine lw_sld (4 * k + 2) hx hb hX hbl hbB hm (nI_add (4 * k) 2) (by omega) hL dL_law_209 ?_
  refine lv_aload_n hx hb dL_law_210 rfl (lv_at hl 4 rfl) ?_
  refine lv_iload hx hb dL_law_211 (lv_at hl 0 rfl) ?_
  refine lv_iconst (v := 3) hx hb dL_law_213 (by decide) ?_
  refine lv_iadd hx hb dL_law_214 ?_
  refine lw_sld (4 * k + 3) hx hb hX hbl hbB hm (nI_add (4 * k) 3) (by omega) hL dL_law_215 ?_
  refine mcalli (mcV (n := 3) (As := [.int (xs (4 * k + 1)), .int (xs (4 * k + 2)), .int (xs (4 * k + 3))]) (rest := []) hx hb hml hE (kC_tell l B D cI cZ cL w o ad va now n J hC (xs (4 * k + 1)) (xs (4 * k + 2)) (xs (4 * k + 3))) q_108 q_109 q_110 q_1 q_111 rfl rfl (by decide +kernel) ⟨Nat.le_of_ble_eq_true rfl, Nat.le_of_ble_eq_true rfl⟩ rfl hl.1 hm rfl hC.1 rfl (Nat.le_of_ble_eq_true rfl) dL_law_216 ⟨by show _ ≤ 601024; omega, by show _ ≤ 7293034; omega⟩) hm (fun r1 u1 H locs hp1 hm => ?_)
  obtain ⟨hr1, hC1, hK1⟩ := hp1
  have hR1 := hR.keep (u := u1) (fun q hq => hK1 q (fun h => hdis q h hq))
  refine lv_aload_n hx hb dL_law_219 rfl (lv_at hl 2 rfl) ?_
  refine lv_aload_n hx hb dL_law_220 rfl (lv_at hl 4 rfl) ?_
  refine lv_iload hx hb dL_law_221 (lv_at hl 0 rfl) ?_
  refine lv_iconst (v := 1) hx hb dL_law_223 (by decide) ?_
  refine lv_iadd hx hb dL_law_224 ?_
  refine lw_sld (4 * k + 1) hx hb hX hbl hbB hm (nI_add (4 * k) 1) (by omega) hL dL_law_225 ?_
  refine lv_aload_n hx hb dL_law_226 rfl (lv_at hl 4 rfl) ?_
  refine lv_iload hx hb dL_law_227 (lv_at hl 0 rfl) ?_
  refine lv_iconst (v := 2) hx hb dL_law_229 (by decide) ?_
  refine lv_iadd hx hb dL_law_230 ?_
  refine lw_sld (4 * k + 2) hx hb hX hbl hbB hm (nI_add (4 * k) 2) (by omega) hL dL_law_231 ?_
  refine lv_aload_n hx hb dL_law_232 rfl (lv_at hl 4 rfl) ?_
  refine lv_iload hx hb dL_law_233 (lv_at hl 0 rfl) ?_
  refine lv_iconst (v := 3) hx hb dL_law_235 (by decide) ?_
  refine lv_iadd hx hb dL_law_236 ?_
  refine lw_sld (4 * k + 3) hx hb hX hbl hbB hm (nI_add (4 * k) 3) (by omega) hL dL_law_237 ?_
  refine mcalli (mcV (n := 3) (As := [.int (xs (4 * k + 1)), .int (xs (4 * k + 2)), .int (xs (4 * k + 3))]) (rest := [.int (r1)]) hx hb hml hE (kM_tell l B D cI cZ cL u1 r as g thr now n J hR1 (xs (4 * k + 1)) (xs (4 * k + 2)) (xs (4 * k + 3))) q_356 q_357 q_358 q_2 q_359 rfl rfl (by decide +kernel) ⟨Nat.le_of_ble_eq_true rfl, Nat.le_of_ble_eq_true rfl⟩ rfl hl.1 hm rfl hR1.1 rfl (Nat.le_of_ble_eq_true rfl) dL_law_238 ⟨by show _ ≤ 601024; omega, by show _ ≤ 7293034; omega⟩) hm (fun r2 u2 H locs hp2 hm => ?_)
  obtain ⟨hr2, ⟨g2, hR2⟩, hK2⟩ := hp2
  refine lv_icmp_eq (tgt := 694) hx hb dL_law_241 (by decide) (fun c_241 => ?_) (fun c_241 => ?_)
  · refine W.widen (k := 12 + 2 * (k + 1)) (n := 11616 + 62 * (k + 1)) (by omega) (by omega) ?_
    exact next u2 H locs ls (⟨ad, va, as, g2, fo, 0, now, n, _, hC1.keep (fun q hq => hK2 q (hdis q hq)), hR2, hM.ten, hNw, ((hK2 ob hob2).trans (hK1 ob hob1)).trans hob, hdis, hob1, hob2⟩) hm (lv_sub hl [0, 1, 2, 3, 4] rfl)
  · exact absurd (by rw [hr1, hr2]) c_241
set_option maxHeartbeats 4000000 in
set_option maxRecDepth 100000 in
theorem lc_3 {p : Program} {l : Launch} {e : Env} {s : State} {m : MethodId} {below : List Frame} {meth : Method} {c : Code} {D : va_G} {cI cZ cL : ClassId} {sa : Nat → Nat} {b L B : Nat} {xs : Nat → Int32} {Q : State → Prop} (hst : l.stackTraces = false) (hx : p.tables.exec = Jvm.exec) (hb : c.code = code) (hml : c.maxLocals = 7) (hE : ME "ChainPickerLaw" (Cond.initialized "ChainPickerLaw") #[Value.ref b] s m D (TYS cI cZ cL)) (hX : va_X b L xs s s.heap) (hbl : b < s.heap.size) (hbB : b < B) (hXX : mX B sa s) (hL : L ≤ 2048) (k : Nat) (hkL : 4 * k + 4 ≤ L) {o r ob : Nat} {w : Wd} (hI : LI cI cZ cL o r ob w) (next : ∀ (w1 : Wd) (H : Heap) (locs : List Loc) (ls : Array Slot), LI cI cZ cL o r ob w1 → mS B D CLS s.heap w1 H locs → lv_has ls 7 [(4, .int (nI (4 * k))), (3, .ref (ob)), (2, .ref (r)), (1, .ref (o)), (0, .ref (b))] → W p l e room_1 s m #[Value.ref b] below meth c H locs (12 + 2 * (k + 1)) (11616 + 62 * (k + 1)) Q (F0 m 694 ls [])) : ∀ (H : Heap) (locs : List Loc) (ls : Array Slot), mS B D CLS s.heap w H locs → lv_has ls 7 [(4, .int (nI (4 * k))), (3, .ref (ob)), (2, .ref (r)), (1, .ref (o)), (0, .ref (b))] → W p l e room_1 s m #[Value.ref b] below meth c H locs (12 + 2 * k) (11616 + 62 * k) Q (F0 m 246 ls []) := by
  obtain ⟨ad, va, as, g, fo, thr, now, n, J, hC, hR, hM, hNw, hob, hdis, hob1, hob2⟩ := hI
  intro H locs ls hm hl
  refine lv_aload_n hx hb dL_law_246 rfl (lv_at hl 3 rfl) ?_
  refine lv_aload_n hx hb dL_law_247 rfl (lv_at hl 4 rfl) ?_
  refine lv_iload hx hb dL_law_248 (lv_at hl 0 rfl) ?_
  refine lv_iconst (v := 1) hx hb dL_law_250 (by decide) ?_
  refine lv_iadd hx hb dL_law_251 ?_
  refine lw_sld (4 * k + 1) hx hb hX hbl hbB hm (nI_add (4 * k) 1) (by omega) hL dL_law_252 ?_
  refine lv_aload_n hx hb dL_law_253 rfl (lv_at hl 4 rfl) ?_
  refine lv_iload hx hb dL_law_254 (lv_at hl 0 rfl) ?_
  refine lv_iconst (v := 2) hx hb dL_law_256 (by decide) ?_
  refine lv_iadd hx hb dL_law_257 ?_
  refine lw_sld (4 * k + 2) hx hb hX hbl hbB hm (nI_add (4 * k) 2) (by omega) hL dL_law_258 ?_
  refine lv_if_eq (tgt := 266) hx hb dL_law_259 (by decide) (fun c_259 => ?_) (fun c_259 => ?_)
  · refine lv_iconst (v := 0) hx hb dL_law_266 (by decide) ?_
    refine mcalli (mcV (n := 2) (As := [.int (xs (4 * k + 1)), .int (0)]) (rest := []) hx hb hml hE (kC_end l B D cI cZ cL w o ad va now n J hC (xs (4 * k + 1)) (0)) q_123 q_124 q_125 q_1 q_126 rfl rfl (by decide +kernel) ⟨Nat.le_of_ble_eq_true rfl, Nat.le_of_ble_eq_true rfl⟩ rfl hl.1 hm rfl hC.1 rfl (Nat.le_of_ble_eq_true rfl) dL_law_267 ⟨by show _ ≤ 601024; omega, by show _ ≤ 7293034; omega⟩) hm (fun r1 u1 H locs hp1 hm => ?_)
    obtain ⟨hr1, hC1, hK1⟩ := hp1
    have hR1 := hR.keep (u := u1) (fun q hq => hK1 q (fun h => hdis q h hq))
    refine lv_aload_n hx hb dL_law_270 rfl (lv_at hl 2 rfl) ?_
    refine lv_aload_n hx hb dL_law_271 rfl (lv_at hl 4 rfl) ?_
    refine lv_iload hx hb dL_law_272 (lv_at hl 0 rfl) ?_
    refine lv_iconst (v := 1) hx hb dL_law_274 (by decide) ?_
    refine lv_iadd hx hb dL_law_275 ?_
    refine lw_sld (4 * k + 1) hx hb hX hbl hbB hm (nI_add (4 * k) 1) (by omega) hL dL_law_276 ?_
    refine lv_aload_n hx hb dL_law_277 rfl (lv_at hl 4 rfl) ?_
    refine lv_iload hx hb dL_law_278 (lv_at hl 0 rfl) ?_
    refine lv_iconst (v := 2) hx hb dL_law_280 (by decide) ?_
    refine lv_iadd hx hb dL_law_281 ?_
    refine lw_sld (4 * k + 2) hx hb hX hbl hbB hm (nI_add (4 * k) 2) (by omega) hL dL_law_282 ?_
    refine lv_if_eq (tgt := 290) hx hb dL_law_283 (by decide) (fun c_283 => ?_) (fun c_283 => ?_)
    · refine lv_iconst (v := 0) hx hb dL_law_290 (by decide) ?_
      refine mcalli (mcV (n := 2) (As := [.int (xs (4 * k + 1)), .int (0)]) (rest := [.int (r1)]) hx hb hml hE (kM_end l B D cI cZ cL u1 r as g thr now n J hR1 (xs (4 * k + 1)) (0)) q_365 q_366 q_367 q_2 q_368 rfl rfl (by decide +kernel) ⟨Nat.le_of_ble_eq_true rfl, Nat.le_of_ble_eq_true rfl⟩ rfl hl.1 hm rfl hR1.1 rfl (Nat.le_of_ble_eq_true rfl) dL_law_291 ⟨by show _ ≤ 601024; omega, by show _ ≤ 7293034; omega⟩) hm (fun r2 u2 H locs hp2 hm => ?_)
      obtain ⟨hr2, ⟨g2, hR2⟩, hK2⟩ := hp2
      refine lv_icmp_eq (tgt := 694) hx hb dL_law_294 (by decide) (fun c_294 => ?_) (fun c_294 => ?_)
      · refine W.widen (k := 12 + 2 * (k + 1)) (n := 11616 + 62 * (k + 1)) (by omega) (by omega) ?_
        exact next u2 H locs ls (⟨ad, va, as, g2, fo, 0, now, n, _, hC1.keep (fun q hq => hK2 q (hdis q hq)), hR2, hM.enn, hNw, ((hK2 ob hob2).trans (hK1 ob hob1)).trans hob, hdis, hob1, hob2⟩) hm (lv_sub hl [0, 1, 2, 3, 4] rfl)
      · exact absurd (by rw [hr1, hr2]) c_294
    · exact absurd c_259 c_283
  · refine lv_iconst (v := 1) hx hb dL_law_262 (by decide) ?_
    refine lv_goto (tgt := 267) hx hb dL_law_263 (by decide) ?_
    refine mcalli (mcV (n := 2) (As := [.int (xs (4 * k + 1)), .int (1)]) (rest := []) hx hb hml hE (kC_end l B D cI cZ cL w o ad va now n J hC (xs (4 * k + 1)) (1)) q_123 q_124 q_125 q_1 q_126 rfl rfl (by decide +kernel) ⟨Nat.le_of_ble_eq_true rfl, Nat.le_of_ble_eq_true rfl⟩ rfl hl.1 hm rfl hC.1 rfl (Nat.le_of_ble_eq_true rfl) dL_law_267 ⟨by show _ ≤ 601024; omega, by show _ ≤ 7293034; omega⟩) hm (fun r1 u1 H locs hp1 hm => ?_)
    obtain ⟨hr1, hC1, hK1⟩ := hp1
    have hR1 := hR.keep (u := u1) (fun q hq => hK1 q (fun h => hdis q h hq))
    refine lv_aload_n hx hb dL_law_270 rfl (lv_at hl 2 rfl) ?_
    refine lv_aload_n hx hb dL_law_271 rfl (lv_at hl 4 rfl) ?_
    refine lv_iload hx hb dL_law_272 (lv_at hl 0 rfl) ?_
    refine lv_iconst (v := 1) hx hb dL_law_274 (by decide) ?_
    refine lv_iadd hx hb dL_law_275 ?_
    refine lw_sld (4 * k + 1) hx hb hX hbl hbB hm (nI_add (4 * k) 1) (by omega) hL dL_law_276 ?_
    refine lv_aload_n hx hb dL_law_277 rfl (lv_at hl 4 rfl) ?_
    refine lv_iload hx hb dL_law_278 (lv_at hl 0 rfl) ?_
    refine lv_iconst (v := 2) hx hb dL_law_280 (by decide) ?_
    refine lv_iadd hx hb dL_law_281 ?_
    refine lw_sld (4 * k + 2) hx hb hX hbl hbB hm (nI_add (4 * k) 2) (by omega) hL dL_law_282 ?_
    refine lv_if_eq (tgt := 290) hx hb dL_law_283 (by decide) (fun c_283 => ?_) (fun c_283 => ?_)
    · exact absurd c_283 c_259
    · refine lv_iconst (v := 1) hx hb dL_law_286 (by decide) ?_
      refine lv_goto (tgt := 291) hx hb dL_law_287 (by decide) ?_
      refine mcalli (mcV (n := 2) (As := [.int (xs (4 * k + 1)), .int (1)]) (rest := [.int (r1)]) hx hb hml hE (kM_end l B D cI cZ cL u1 r as g thr now n J hR1 (xs (4 * k + 1)) (1)) q_365 q_366 q_367 q_2 q_368 rfl rfl (by decide +kernel) ⟨Nat.le_of_ble_eq_true rfl, Nat.le_of_ble_eq_true rfl⟩ rfl hl.1 hm rfl hR1.1 rfl (Nat.le_of_ble_eq_true rfl) dL_law_291 ⟨by show _ ≤ 601024; omega, by show _ ≤ 7293034; omega⟩) hm (fun r2 u2 H locs hp2 hm => ?_)
      obtain ⟨hr2, ⟨g2, hR2⟩, hK2⟩ := hp2
      refine lv_icmp_eq (tgt := 694) hx hb dL_law_294 (by decide) (fun c_294 => ?_) (fun c_294 => ?_)
      · refine W.widen (k := 12 + 2 * (k + 1)) (n := 11616 + 62 * (k + 1)) (by omega) (by omega) ?_
        exact next u2 H locs ls (⟨ad, va, as, g2, fo, 0, now, n, _, hC1.keep (fun q hq => hK2 q (hdis q hq)), hR2, hM.enn, hNw, ((hK2 ob hob2).trans (hK1 ob hob1)).trans hob, hdis, hob1, hob2⟩) hm (lv_sub hl [0, 1, 2, 3, 4] rfl)
      · exact absurd (by rw [hr1, hr2]) c_294
set_option maxHeartbeats 4000000 in
set_option maxRecDepth 100000 in
theorem lc_9 {p : Program} {l : Launch} {e : Env} {s : State} {m : MethodId} {below : List Frame} {meth : Method} {c : Code} {D : va_G} {cI cZ cL : ClassId} {sa : Nat → Nat} {b L B : Nat} {xs : Nat → Int32} {Q : State → Prop} (hst : l.stackTraces = false) (hx : p.tables.exec = Jvm.exec) (hb : c.code = code) (hml : c.maxLocals = 7) (hE : ME "ChainPickerLaw" (Cond.initialized "ChainPickerLaw") #[Value.ref b] s m D (TYS cI cZ cL)) (hX : va_X b L xs s s.heap) (hbl : b < s.heap.size) (hbB : b < B) (hXX : mX B sa s) (hL : L ≤ 2048) (k : Nat) (hkL : 4 * k + 4 ≤ L) {o r ob : Nat} {w : Wd} (hI : LI cI cZ cL o r ob w) (next : ∀ (w1 : Wd) (H : Heap) (locs : List Loc) (ls : Array Slot), LI cI cZ cL o r ob w1 → mS B D CLS s.heap w1 H locs → lv_has ls 7 [(4, .int (nI (4 * k))), (3, .ref (ob)), (2, .ref (r)), (1, .ref (o)), (0, .ref (b))] → W p l e room_1 s m #[Value.ref b] below meth c H locs (12 + 2 * (k + 1)) (11616 + 62 * (k + 1)) Q (F0 m 694 ls [])) : ∀ (H : Heap) (locs : List Loc) (ls : Array Slot), mS B D CLS s.heap w H locs → lv_has ls 7 [(4, .int (nI (4 * k))), (3, .ref (ob)), (2, .ref (r)), (1, .ref (o)), (0, .ref (b))] → W p l e room_1 s m #[Value.ref b] below meth c H locs (12 + 2 * k) (11616 + 62 * k) Q (F0 m 551 ls []) := by
  obtain ⟨ad, va, as, g, fo, thr, now, n, J, hC, hR, hM, hNw, hob, hdis, hob1, hob2⟩ := hI
  intro H locs ls hm hl
  refine lv_aload_n hx hb dL_law_551 rfl (lv_at hl 3 rfl) ?_
  refine lv_aload_n hx hb dL_law_552 rfl (lv_at hl 4 rfl) ?_
  refine lv_iload hx hb dL_law_553 (lv_at hl 0 rfl) ?_
  refine lv_iconst (v := 1) hx hb dL_law_555 (by decide) ?_
  refine lv_iadd hx hb dL_law_556 ?_
  refine lw_sld (4 * k + 1) hx hb hX hbl hbB hm (nI_add (4 * k) 1) (by omega) hL dL_law_557 ?_
  refine mcalli (mcV (n := 1) (As := [.int (xs (4 * k + 1))]) (rest := []) hx hb hml hE (kC_prune l B D cI cZ cL w o ad va now n J hC (xs (4 * k + 1))) q_153 q_154 q_155 q_1 q_156 rfl rfl (by decide +kernel) ⟨Nat.le_of_ble_eq_true rfl, Nat.le_of_ble_eq_true rfl⟩ rfl hl.1 hm rfl hC.1 rfl (Nat.le_of_ble_eq_true rfl) dL_law_558 ⟨by show _ ≤ 601024; omega, by show _ ≤ 7293034; omega⟩) hm (fun r1 u1 H locs hp1 hm => ?_)
  obtain ⟨hr1, hC1, hK1⟩ := hp1
  have hR1 := hR.keep (u := u1) (fun q hq => hK1 q (fun h => hdis q h hq))
  refine lv_aload_n hx hb dL_law_561 rfl (lv_at hl 2 rfl) ?_
  refine lv_aload_n hx hb dL_law_562 rfl (lv_at hl 4 rfl) ?_
  refine lv_iload hx hb dL_law_563 (lv_at hl 0 rfl) ?_
  refine lv_iconst (v := 1) hx hb dL_law_565 (by decide) ?_
  refine lv_iadd hx hb dL_law_566 ?_
  refine lw_sld (4 * k + 1) hx hb hX hbl hbB hm (nI_add (4 * k) 1) (by omega) hL dL_law_567 ?_
  refine mcalli (mcV (n := 1) (As := [.int (xs (4 * k + 1))]) (rest := [.int (r1)]) hx hb hml hE (kM_prune l B D cI cZ cL u1 r as g thr now n J hR1 (xs (4 * k + 1))) q_401 q_402 q_403 q_2 q_404 rfl rfl (by decide +kernel) ⟨Nat.le_of_ble_eq_true rfl, Nat.le_of_ble_eq_true rfl⟩ rfl hl.1 hm rfl hR1.1 rfl (Nat.le_of_ble_eq_true rfl) dL_law_568 ⟨by show _ ≤ 601024; omega, by show _ ≤ 7293034; omega⟩) hm (fun r2 u2 H locs hp2 hm => ?_)
  obtain ⟨hr2, ⟨g2, hR2⟩, hK2⟩ := hp2
  refine lv_icmp_eq (tgt := 694) hx hb dL_law_571 (by decide) (fun c_571 => ?_) (fun c_571 => ?_)
  · refine W.widen (k := 12 + 2 * (k + 1)) (n := 11616 + 62 * (k + 1)) (by omega) (by omega) ?_
    exact next u2 H locs ls (⟨ad, va, as, g2, fo, 0, now, n, _, hC1.keep (fun q hq => hK2 q (hdis q hq)), hR2, hM.prn, hNw, ((hK2 ob hob2).trans (hK1 ob hob1)).trans hob, hdis, hob1, hob2⟩) hm (lv_sub hl [0, 1, 2, 3, 4] rfl)
  · exact absurd (by rw [hr1, hr2]) c_571
set_option maxHeartbeats 4000000 in
set_option maxRecDepth 100000 in
theorem lc_1 {p : Program} {l : Launch} {e : Env} {s : State} {m : MethodId} {below : List Frame} {meth : Method} {c : Code} {D : va_G} {cI cZ cL : ClassId} {sa : Nat → Nat} {b L B : Nat} {xs : Nat → Int32} {Q : State → Prop} (hst : l.stackTraces = false) (hx : p.tables.exec = Jvm.exec) (hb : c.code = code) (hml : c.maxLocals = 7) (hE : ME "ChainPickerLaw" (Cond.initialized "ChainPickerLaw") #[Value.ref b] s m D (TYS cI cZ cL)) (hX : va_X b L xs s s.heap) (hbl : b < s.heap.size) (hbB : b < B) (hXX : mX B sa s) (hL : L ≤ 2048) (k : Nat) (hkL : 4 * k + 4 ≤ L) {o r ob : Nat} {w : Wd} (hI : LI cI cZ cL o r ob w) (next : ∀ (w1 : Wd) (H : Heap) (locs : List Loc) (ls : Array Slot), LI cI cZ cL o r ob w1 → mS B D CLS s.heap w1 H locs → lv_has ls 7 [(4, .int (nI (4 * k))), (3, .ref (ob)), (2, .ref (r)), (1, .ref (o)), (0, .ref (b))] → W p l e room_1 s m #[Value.ref b] below meth c H locs (12 + 2 * (k + 1)) (11616 + 62 * (k + 1)) Q (F0 m 694 ls [])) : ∀ (H : Heap) (locs : List Loc) (ls : Array Slot), mS B D CLS s.heap w H locs → lv_has ls 7 [(4, .int (nI (4 * k))), (3, .ref (ob)), (2, .ref (r)), (1, .ref (o)), (0, .ref (b))] → W p l e room_1 s m #[Value.ref b] below meth c H locs (12 + 2 * k) (11616 + 62 * k) Q (F0 m 160 ls []) := by
  obtain ⟨ad, va, as, g, fo, thr, now, n, J, hC, hR, hM, hNw, hob, hdis, hob1, hob2⟩ := hI
  intro H locs ls hm hl
  refine lv_aload_n hx hb dL_law_160 rfl (lv_at hl 3 rfl) ?_
  refine lv_aload_n hx hb dL_law_161 rfl (lv_at hl 4 rfl) ?_
  refine lv_iload hx hb dL_law_162 (lv_at hl 0 rfl) ?_
  refine lv_iconst (v := 1) hx hb dL_law_164 (by decide) ?_
  refine lv_iadd hx hb dL_law_165 ?_
  refine lw_sld (4 * k + 1) hx hb hX hbl hbB hm (nI_add (4 * k) 1) (by omega) hL dL_law_166 ?_
  refine lv_aload_n hx hb dL_law_167 rfl (lv_at hl 4 rfl) ?_
  refine lv_iload hx hb dL_law_168 (lv_at hl 0 rfl) ?_
  refine lv_iconst (v := 2) hx hb dL_law_170 (by decide) ?_
  refine lv_iadd hx hb dL_law_171 ?_
  refine lw_sld (4 * k + 2) hx hb hX hbl hbB hm (nI_add (4 * k) 2) (by omega) hL dL_law_172 ?_
  refine mcalli (mcV (n := 2) (As := [.int (xs (4 * k + 1)), .int (xs (4 * k + 2))]) (rest := []) hx hb hml hE (kC_begin l B D cI cZ cL w o ad va now n J hC (xs (4 * k + 1)) (xs (4 * k + 2))) q_28 q_29 q_30 q_1 q_31 rfl rfl (by decide +kernel) ⟨Nat.le_of_ble_eq_true rfl, Nat.le_of_ble_eq_true rfl⟩ rfl hl.1 hm rfl hC.1 rfl (Nat.le_of_ble_eq_true rfl) dL_law_173 ⟨by show _ ≤ 601024; omega, by show _ ≤ 7293034; omega⟩) hm (fun r1 u1 H locs hp1 hm => ?_)
  rcases hp1 with ⟨hB1, hr1, hu1⟩ | ⟨hB1, hr1, q1, q2, hq1, hq2, hC1, hF1⟩
  · rw [hu1] at hm
    refine lv_aload_n hx hb dL_law_176 rfl (lv_at hl 2 rfl) ?_
    refine lv_aload_n hx hb dL_law_177 rfl (lv_at hl 4 rfl) ?_
    refine lv_iload hx hb dL_law_178 (lv_at hl 0 rfl) ?_
    refine lv_iconst (v := 1) hx hb dL_law_180 (by decide) ?_
    refine lv_iadd hx hb dL_law_181 ?_
    refine lw_sld (4 * k + 1) hx hb hX hbl hbB hm (nI_add (4 * k) 1) (by omega) hL dL_law_182 ?_
    refine lv_aload_n hx hb dL_law_183 rfl (lv_at hl 4 rfl) ?_
    refine lv_iload hx hb dL_law_184 (lv_at hl 0 rfl) ?_
    refine lv_iconst (v := 2) hx hb dL_law_186 (by decide) ?_
    refine lv_iadd hx hb dL_law_187 ?_
    refine lw_sld (4 * k + 2) hx hb hX hbl hbB hm (nI_add (4 * k) 2) (by omega) hL dL_law_188 ?_
    refine mcalli (mcV (n := 2) (As := [.int (xs (4 * k + 1)), .int (xs (4 * k + 2))]) (rest := [.int (r1)]) hx hb hml hE (kM_begin l B D cI cZ cL w r as g thr now n J hR hM (xs (4 * k + 1)) (xs (4 * k + 2))) q_348 q_349 q_350 q_2 q_351 rfl rfl (by decide +kernel) ⟨Nat.le_of_ble_eq_true rfl, Nat.le_of_ble_eq_true rfl⟩ rfl hl.1 hm rfl hR.1 rfl (Nat.le_of_ble_eq_true rfl) dL_law_189 ⟨by show _ ≤ 601024; omega, by show _ ≤ 7293034; omega⟩) hm (fun r2 u2 H locs hp2 hm => ?_)
    obtain ⟨hp2, hK2⟩ := hp2
    rcases hp2 with ⟨hB2, hr2, hR2⟩ | ⟨hB2, hr2, g2, hR2⟩
    · refine lv_icmp_eq (tgt := 694) hx hb dL_law_192 (by decide) (fun c_192 => ?_) (fun c_192 => ?_)
      · refine W.widen (k := 12 + 2 * (k + 1)) (n := 11616 + 62 * (k + 1)) (by omega) (by omega) ?_
        exact next u2 H locs ls (LI.rd hC hM hNw hob hdis hob1 hob2 hR2 hK2) hm (lv_sub hl [0, 1, 2, 3, 4] rfl)
      · exact absurd (by rw [hr1, hr2]) c_192
    · rw [hB1] at hB2; cases hB2
  · have n1 : ∀ q, rF r as q → q ≠ q1 := fun q hq e => hR.some hq (by rw [e]; exact hq1)
    have n2 : ∀ q, rF r as q → q ≠ q2 := fun q hq e => hR.some hq (by rw [e]; exact hq2)
    have o1 : ob ≠ q1 := fun e => by rw [e, hq1] at hob; cases hob
    have o2 : ob ≠ q2 := fun e => by rw [e, hq2] at hob; cases hob
    have hR1 := hR.keep (u := u1) (fun q hq => hF1 q (fun h => hdis q h hq) (n1 q hq) (n2 q hq))
    have hdis1 : ∀ q, cF o (upN ad n q1) (upN va n q2) (n + 1) q → ¬ rF r as q := by
      intro q hq hr9
      rcases hq with rfl | ⟨i, hi, hq⟩
      · exact hdis _ cF_o hr9
      · by_cases hin : i = n
        · rw [hin, upN_at, upN_at] at hq
          rcases hq with rfl | rfl
          · exact n1 _ hr9 rfl
          · exact n2 _ hr9 rfl
        · rw [upN_ne hin, upN_ne hin] at hq
          exact hdis q (Or.inr ⟨i, by omega, hq⟩) hr9
    have hob3 : ¬ cF o (upN ad n q1) (upN va n q2) (n + 1) ob := by
      rintro (e9 | ⟨i, hi, hq⟩)
      · exact hob1 (Or.inl e9)
      · by_cases hin : i = n
        · rw [hin, upN_at, upN_at] at hq
          rcases hq with e9 | e9
          · exact o1 e9
          · exact o2 e9
        · rw [upN_ne hin, upN_ne hin] at hq
          exact hob1 (Or.inr ⟨i, by omega, hq⟩)
    refine lv_aload_n hx hb dL_law_176 rfl (lv_at hl 2 rfl) ?_
    refine lv_aload_n hx hb dL_law_177 rfl (lv_at hl 4 rfl) ?_
    refine lv_iload hx hb dL_law_178 (lv_at hl 0 rfl) ?_
    refine lv_iconst (v := 1) hx hb dL_law_180 (by decide) ?_
    refine lv_iadd hx hb dL_law_181 ?_
    refine lw_sld (4 * k + 1) hx hb hX hbl hbB hm (nI_add (4 * k) 1) (by omega) hL dL_law_182 ?_
    refine lv_aload_n hx hb dL_law_183 rfl (lv_at hl 4 rfl) ?_
    refine lv_iload hx hb dL_law_184 (lv_at hl 0 rfl) ?_
    refine lv_iconst (v := 2) hx hb dL_law_186 (by decide) ?_
    refine lv_iadd hx hb dL_law_187 ?_
    refine lw_sld (4 * k + 2) hx hb hX hbl hbB hm (nI_add (4 * k) 2) (by omega) hL dL_law_188 ?_
    refine mcalli (mcV (n := 2) (As := [.int (xs (4 * k + 1)), .int (xs (4 * k + 2))]) (rest := [.int (r1)]) hx hb hml hE (kM_begin l B D cI cZ cL u1 r as g thr now n J hR1 hM (xs (4 * k + 1)) (xs (4 * k + 2))) q_348 q_349 q_350 q_2 q_351 rfl rfl (by decide +kernel) ⟨Nat.le_of_ble_eq_true rfl, Nat.le_of_ble_eq_true rfl⟩ rfl hl.1 hm rfl hR1.1 rfl (Nat.le_of_ble_eq_true rfl) dL_law_189 ⟨by show _ ≤ 601024; omega, by show _ ≤ 7293034; omega⟩) hm (fun r2 u2 H locs hp2 hm => ?_)
    obtain ⟨hp2, hK2⟩ := hp2
    rcases hp2 with ⟨hB2, hr2, hR2⟩ | ⟨hB2, hr2, g2, hR2⟩
    · rw [hB1] at hB2; cases hB2
    · refine lv_icmp_eq (tgt := 694) hx hb dL_law_192 (by decide) (fun c_192 => ?_) (fun c_192 => ?_)
      · refine W.widen (k := 12 + 2 * (k + 1)) (n := 11616 + 62 * (k + 1)) (by omega) (by omega) ?_
        exact next u2 H locs ls (⟨upN ad n q1, upN va n q2, as, g2, fo, 0, now, n + 1, _, hC1.keep (fun q hq => hK2 q (hdis1 q hq)), hR2, hM.beg, hNw, ((hK2 ob hob2).trans (hF1 ob hob1 o1 o2)).trans hob, hdis1, hob3, hob2⟩) hm (lv_sub hl [0, 1, 2, 3, 4] rfl)
      · exact absurd (by rw [hr1, hr2]) c_192
