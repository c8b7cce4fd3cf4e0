set_option maxHeartbeats 4000000 in
set_option maxRecDepth 100000 in
theorem lc_0 {p : Program} {l : Launch} {e : Env} {s : State} {m : MethodId} {below : List Frame} {meth : Method} {c : Code} {D : va_G} {cI cZ cL : ClassId} {sa : Nat → Nat} {b L B : Nat} {xs : Nat → Int32} {Q : State → Prop} (hst : l.stackTraces = false) (hx : p.tables.exec = Jvm.exec) (hb : c.code = code) (hml : c.maxLocals = 7) (hE : ME "ChainPickerLaw" (Cond.initialized "ChainPickerLaw") #[Value.ref b] s m D (TYS cI cZ cL)) (hX : va_X b L xs s s.heap) (hbl : b < s.heap.size) (hbB : b < B) (hXX : mX B sa s) (hL : L ≤ 2048) (k : Nat) (hkL : 4 * k + 4 ≤ L) {o r ob : Nat} {w : Wd} (hI : LI cI cZ cL o r ob w) (next : ∀ (w1 : Wd) (H : Heap) (locs : List Loc) (ls : Array Slot), LI cI cZ cL o r ob w1 → mS B D CLS s.heap w1 H locs → lv_has ls 7 [(4, .int (nI (4 * k))), (3, .ref (ob)), (2, .ref (r)), (1, .ref (o)), (0, .ref (b))] → W p l e room_1 s m #[Value.ref b] below meth c H locs (12 + 2 * (k + 1)) (11616 + 62 * (k + 1)) Q (F0 m 694 ls [])) : ∀ (H : Heap) (locs : List Loc) (ls : Array Slot), mS B D CLS s.heap w H locs → lv_has ls 7 [(4, .int (nI (4 * k))), (3, .ref (ob)), (2, .ref (r)), (1, .ref (o)), (0, .ref (b))] → W p l e room_1 s m #[Value.ref b] below meth c H locs (12 + 2 * k) (11616 + 62 * k) Q (F0 m 104 ls []) := by
  obtain ⟨ad, va, as, g, fo, thr, now, n, J, hC, hR, hM, hNw, hob, hdis, hob1, hob2⟩ := hI
  intro H locs ls hm hl
  refine lv_aload_n hx hb dL_law_104 rfl (lv_at hl 3 rfl) ?_
  refine lv_aload_n hx hb dL_law_105 rfl (lv_at hl 4 rfl) ?_
  refine lv_iload hx hb dL_law_106 (lv_at hl 0 rfl) ?_
  refine lv_iconst (v := 1) hx hb dL_law_108 (by decide) ?_
  refine lv_iadd hx hb dL_law_109 ?_
  refine lw_sld (4 * k + 1) hx hb hX hbl hbB hm (nI_add (4 * k) 1) (by omega) hL dL_law_110 ?_
  refine lv_aload_n hx hb dL_law_111 rfl (lv_at hl 1 rfl) ?_
  refine mcalli (mcSW (n := 3) (As := [.ref (o), .int (xs (4 * k + 1)), .ref (ob)]) (rest := []) hx hb hml hE hXX (kL_pass l hst B D cI cZ cL sa w o ad va now n J hC ob fo hob hob1 (xs (4 * k + 1))) q_183 q_184 q_0 q_185 rfl rfl (by decide +kernel) ⟨Nat.le_of_ble_eq_true rfl, Nat.le_of_ble_eq_true rfl⟩ rfl hl.1 hm rfl (Nat.le_of_ble_eq_true rfl) dL_law_112 ⟨by show _ ≤ 601024; omega, by show _ ≤ 7293034; omega⟩) hm (fun r1 u1 H locs hp1 hm => ?_)
  rcases hp1 with ⟨hr1, hp1, hC1, ⟨f2, hf2, hv2⟩, hF1⟩ | ⟨hr1, hp1, hu1⟩
  · subst hr1
    have hR1 := hR.keep (u := u1) (fun q hq => hF1 q (fun h => hdis q h hq) (fun e => hob2 (by rw [← e]; exact hq)))
    refine lv_istore (lv' := [(5, .int (0)), (4, .int (nI (4 * k))), (3, .ref (ob)), (2, .ref (r)), (1, .ref (o)), (0, .ref (b))]) hx hb dL_law_115 hl (by decide) rfl (fun ls hl => ?_)
    refine lv_aload_n hx hb dL_law_117 rfl (lv_at hl 3 rfl) ?_
    refine lv_aload_n hx hb dL_law_118 rfl (lv_at hl 5 rfl) ?_
    refine lv_iload hx hb dL_law_119 (lv_at hl 1 rfl) ?_
    refine lv_iconst (v := 1) hx hb dL_law_121 (by decide) ?_
    refine lv_iadd hx hb dL_law_122 ?_
    refine lw_sld (4 * k + 1) hx hb hX hbl hbB hm (nI_add (4 * k) 1) (by omega) hL dL_law_123 ?_
    refine mcalli (mcV (n := 1) (As := [.int (xs (4 * k + 1))]) (rest := []) hx hb hml hE (kM_pass l B D cI cZ cL u1 r as g thr now n J hR1 (xs (4 * k + 1))) q_343 q_344 q_345 q_2 q_346 rfl rfl (by decide +kernel) ⟨Nat.le_of_ble_eq_true rfl, Nat.le_of_ble_eq_true rfl⟩ rfl hl.1 hm rfl hR1.1 rfl (Nat.le_of_ble_eq_true rfl) dL_law_124 ⟨by show _ ≤ 601024; omega, by show _ ≤ 7293034; omega⟩) hm (fun r2 u2 H locs hp2 hm => ?_)
    obtain ⟨hp2, hK2⟩ := hp2
    rcases hp2 with ⟨hq2, hr2, hR2⟩ | ⟨hq2, hr2, hR2⟩
    · have hz9 : True := trivial
      refine lv_istore (lv' := [(6, .int (r2)), (5, .int (0)), (4, .int (nI (4 * k))), (3, .ref (ob)), (2, .ref (r)), (1, .ref (o)), (0, .ref (b))]) hx hb dL_law_127 hl (by decide) rfl (fun ls hl => ?_)
      refine lv_aload_n hx hb dL_law_129 rfl (lv_at hl 4 rfl) ?_
      refine mcalli (mcV (n := 0) (As := []) (rest := []) hx hb hml hE (kM_thrown l B D cI cZ cL u2 r as g 0 (now + xs (4 * k + 1)) n J hR2) q_339 q_340 q_341 q_2 q_342 rfl rfl (by decide +kernel) ⟨Nat.le_of_ble_eq_true rfl, Nat.le_of_ble_eq_true rfl⟩ rfl hl.1 hm rfl hR2.1 rfl (Nat.le_of_ble_eq_true rfl) dL_law_130 ⟨by show _ ≤ 601024; omega, by show _ ≤ 7293034; omega⟩) hm (fun r3 u3 H locs hp3 hm => ?_)
      obtain ⟨hr3, hu3⟩ := hp3
      rw [hu3] at hm
      subst hr3
      refine lv_iload hx hb dL_law_133 (lv_at hl 1 rfl) ?_
      refine lv_icmp_eq (tgt := 140) hx hb dL_law_135 (by decide) (fun c_135 => ?_) (fun c_135 => ?_)
      · refine lv_iload hx hb dL_law_140 (lv_at hl 1 rfl) ?_
        refine lv_if_ne (tgt := 157) hx hb dL_law_142 (by decide) (fun c_142 => ?_) (fun c_142 => ?_)
        · first | exact absurd c_142 (by decide) | exact absurd (by decide) c_142
        · refine lv_aload_n hx hb dL_law_145 rfl (lv_at hl 3 rfl) ?_
          refine lv_iconst (v := 0) hx hb dL_law_146 (by decide) ?_
          have ho2 : u2 ob = some (.inl (cL, 1, .inr (.inl f2))) := (hK2 ob hob2).trans hf2
          refine mlald hx hb hE.2.2.1 hm 2 ho2 rfl (by unfold vp_in; decide) dL_law_147 ?_
          refine lv_iload hx hb dL_law_148 (lv_at hl 0 rfl) ?_
          refine lv_i2l (v := (r2).toInt64) hx hb dL_law_150 rfl ?_
          refine W.lcmp hx hb dL_law_151 ?_
          refine lv_if_eq (tgt := 157) hx hb dL_law_152 (by decide) (fun c_9 => ?_) (fun c_9 => ?_)
          · refine lv_goto (tgt := 694) hx hb dL_law_157 (by decide) ?_
            refine W.widen (k := 12 + 2 * (k + 1)) (n := 11616 + 62 * (k + 1)) (by omega) (by omega) ?_
            exact next u2 H locs ls (⟨ad, va, as, g, f2, 0, _, n, J, hC1.keep (fun q hq => hK2 q (hdis q hq)), hR2, hM.pass (pass_ok hNw hp1).2, (pass_ok hNw hp1).1, (hK2 ob hob2).trans hf2, hdis, hob1, hob2⟩) hm (lv_sub hl [2, 3, 4, 5, 6] rfl)
          · exact absurd (by rw [hr2]; rw [show f2 (0 : Int32).toNatClampNeg = _ from hv2]; exact lgc_0 _) c_9
      · first | exact absurd c_135 (by decide) | exact absurd (by decide) c_135
    · rw [hp1] at hq2; cases hq2
  · subst hr1
    rw [hu1] at hm
    have hR1 := hR
    refine lv_istore (lv' := [(5, .int (1)), (4, .int (nI (4 * k))), (3, .ref (ob)), (2, .ref (r)), (1, .ref (o)), (0, .ref (b))]) hx hb dL_law_115 hl (by decide) rfl (fun ls hl => ?_)
    refine lv_aload_n hx hb dL_law_117 rfl (lv_at hl 3 rfl) ?_
    refine lv_aload_n hx hb dL_law_118 rfl (lv_at hl 5 rfl) ?_
    refine lv_iload hx hb dL_law_119 (lv_at hl 1 rfl) ?_
    refine lv_iconst (v := 1) hx hb dL_law_121 (by decide) ?_
    refine lv_iadd hx hb dL_law_122 ?_
    refine lw_sld (4 * k + 1) hx hb hX hbl hbB hm (nI_add (4 * k) 1) (by omega) hL dL_law_123 ?_
    refine mcalli (mcV (n := 1) (As := [.int (xs (4 * k + 1))]) (rest := []) hx hb hml hE (kM_pass l B D cI cZ cL w r as g thr now n J hR1 (xs (4 * k + 1))) q_343 q_344 q_345 q_2 q_346 rfl rfl (by decide +kernel) ⟨Nat.le_of_ble_eq_true rfl, Nat.le_of_ble_eq_true rfl⟩ rfl hl.1 hm rfl hR1.1 rfl (Nat.le_of_ble_eq_true rfl) dL_law_124 ⟨by show _ ≤ 601024; omega, by show _ ≤ 7293034; omega⟩) hm (fun r2 u2 H locs hp2 hm => ?_)
    obtain ⟨hp2, hK2⟩ := hp2
    rcases hp2 with ⟨hq2, hr2, hR2⟩ | ⟨hq2, hr2, hR2⟩
    · rw [hp1] at hq2; cases hq2
    · have hz9 : True := trivial
      refine lv_istore (lv' := [(6, .int (r2)), (5, .int (1)), (4, .int (nI (4 * k))), (3, .ref (ob)), (2, .ref (r)), (1, .ref (o)), (0, .ref (b))]) hx hb dL_law_127 hl (by decide) rfl (fun ls hl => ?_)
      refine lv_aload_n hx hb dL_law_129 rfl (lv_at hl 4 rfl) ?_
      refine mcalli (mcV (n := 0) (As := []) (rest := []) hx hb hml hE (kM_thrown l B D cI cZ cL u2 r as g 1 (now) n J hR2) q_339 q_340 q_341 q_2 q_342 rfl rfl (by decide +kernel) ⟨Nat.le_of_ble_eq_true rfl, Nat.le_of_ble_eq_true rfl⟩ rfl hl.1 hm rfl hR2.1 rfl (Nat.le_of_ble_eq_true rfl) dL_law_130 ⟨by show _ ≤ 601024; omega, by show _ ≤ 7293034; omega⟩) hm (fun r3 u3 H locs hp3 hm => ?_)
      obtain ⟨hr3, hu3⟩ := hp3
      rw [hu3] at hm
      subst hr3
      refine lv_iload hx hb dL_law_133 (lv_at hl 1 rfl) ?_
      refine lv_icmp_eq (tgt := 140) hx hb dL_law_135 (by decide) (fun c_135 => ?_) (fun c_135 => ?_)
      · refine lv_iload hx hb dL_law_140 (lv_at hl 1 rfl) ?_
        refine lv_if_ne (tgt := 157) hx hb dL_law_142 (by decide) (fun c_142 => ?_) (fun c_142 => ?_)
        · refine lv_goto (tgt := 694) hx hb dL_law_157 (by decide) ?_
          refine W.widen (k := 12 + 2 * (k + 1)) (n := 11616 + 62 * (k + 1)) (by omega) (by omega) ?_
          exact next u2 H locs ls (LI.rd hC hM hNw hob hdis hob1 hob2 hR2 hK2) hm (lv_sub hl [2, 3, 4, 5, 6] rfl)
        · first | exact absurd c_142 (by decide) | exact absurd (by decide) c_142
      · first | exact absurd c_135 (by decide) | exact absurd (by decide) c_135
set_option maxHeartbeats 4000000 in
set_option maxRecDepth 100000 in
theorem lc_5 {p : Program} {l : Launch} {e : Env} {s : State} {m : MethodId} {below : List Frame} {meth : Method} {c : Code} {D : va_G} {cI cZ cL : ClassId} {sa : Nat → Nat} {b L B : Nat} {xs : Nat → Int32} {Q : State → Prop} (hst : l.stackTraces = false) (hx : p.tables.exec = Jvm.exec) (hb : c.code = code) (hml : c.maxLocals = 7) (hE : ME "ChainPickerLaw" (Cond.initialized "ChainPickerLaw") #[Value.ref b] s m D (TYS cI cZ cL)) (hX : va_X b L xs s s.heap) (hbl : b < s.heap.size) (hbB : b < B) (hXX : mX B sa s) (hL : L ≤ 2048) (k : Nat) (hkL : 4 * k + 4 ≤ L) {o r ob : Nat} {w : Wd} (hI : LI cI cZ cL o r ob w) (next : ∀ (w1 : Wd) (H : Heap) (locs : List Loc) (ls : Array Slot), LI cI cZ cL o r ob w1 → mS B D CLS s.heap w1 H locs → lv_has ls 7 [(4, .int (nI (4 * k))), (3, .ref (ob)), (2, .ref (r)), (1, .ref (o)), (0, .ref (b))] → W p l e room_1 s m #[Value.ref b] below meth c H locs (12 + 2 * (k + 1)) (11616 + 62 * (k + 1)) Q (F0 m 694 ls [])) : ∀ (H : Heap) (locs : List Loc) (ls : Array Slot), mS B D CLS s.heap w H locs → lv_has ls 7 [(4, .int (nI (4 * k))), (3, .ref (ob)), (2, .ref (r)), (1, .ref (o)), (0, .ref (b))] → W p l e room_1 s m #[Value.ref b] below meth c H locs (12 + 2 * k) (11616 + 62 * k) Q (F0 m 336 ls []) := by
  obtain ⟨ad, va, as, g, fo, thr, now, n, J, hC, hR, hM, hNw, hob, hdis, hob1, hob2⟩ := hI
  intro H locs ls hm hl
  refine lv_aload_n hx hb dL_law_336 rfl (lv_at hl 3 rfl) ?_
  refine lv_aload_n hx hb dL_law_337 rfl (lv_at hl 4 rfl) ?_
  refine lv_iload hx hb dL_law_338 (lv_at hl 0 rfl) ?_
  refine lv_iconst (v := 1) hx hb dL_law_340 (by decide) ?_
  refine lv_iadd hx hb dL_law_341 ?_
  refine lw_sld (4 * k + 1) hx hb hX hbl hbB hm (nI_add (4 * k) 1) (by omega) hL dL_law_342 ?_
  refine lv_aload_n hx hb dL_law_343 rfl (lv_at hl 4 rfl) ?_
  refine lv_iload hx hb dL_law_344 (lv_at hl 0 rfl) ?_
  refine lv_iconst (v := 2) hx hb dL_law_346 (by decide) ?_
  refine lv_iadd hx hb dL_law_347 ?_
  refine lw_sld (4 * k + 2) hx hb hX hbl hbB hm (nI_add (4 * k) 2) (by omega) hL dL_law_348 ?_
  refine lv_aload_n hx hb dL_law_349 rfl (lv_at hl 4 rfl) ?_
  refine lv_iload hx hb dL_law_350 (lv_at hl 0 rfl) ?_
  refine lv_iconst (v := 3) hx hb dL_law_352 (by decide) ?_
  refine lv_iadd hx hb dL_law_353 ?_
  refine lw_sld (4 * k + 3) hx hb hX hbl hbB hm (nI_add (4 * k) 3) (by omega) hL dL_law_354 ?_
  refine lv_aload_n hx hb dL_law_355 rfl (lv_at hl 1 rfl) ?_
  refine mcalli (mcSW (n := 5) (As := [.ref (o), .int (xs (4 * k + 1)), .int (xs (4 * k + 2)), .int (xs (4 * k + 3)), .ref (ob)]) (rest := []) hx hb hml hE hXX (kL_link l hst B D cI cZ cL sa w o ad va now n J hC ob fo hob hob1 (xs (4 * k + 1)) (xs (4 * k + 2)) (xs (4 * k + 3))) q_259 q_260 q_0 q_261 rfl rfl (by decide +kernel) ⟨Nat.le_of_ble_eq_true rfl, Nat.le_of_ble_eq_true rfl⟩ rfl hl.1 hm rfl (Nat.le_of_ble_eq_true rfl) dL_law_356 ⟨by show _ ≤ 601024; omega, by show _ ≤ 7293034; omega⟩) hm (fun r1 u1 H locs hp1 hm => ?_)
  rcases hp1 with ⟨hr1, hC1, ⟨j, hp1, f2, hf2, hv2⟩, hF1⟩ | ⟨hr1, hp1, hu1⟩
  · subst hr1
    have hR1 := hR.keep (u := u1) (fun q hq => hF1 q (fun h => hdis q h hq) (fun e => hob2 (by rw [← e]; exact hq)))
    refine lv_istore (lv' := [(5, .int (0)), (4, .int (nI (4 * k))), (3, .ref (ob)), (2, .ref (r)), (1, .ref (o)), (0, .ref (b))]) hx hb dL_law_359 hl (by decide) rfl (fun ls hl => ?_)
    refine lv_aload_n hx hb dL_law_361 rfl (lv_at hl 3 rfl) ?_
    refine lv_aload_n hx hb dL_law_362 rfl (lv_at hl 5 rfl) ?_
    refine lv_iload hx hb dL_law_363 (lv_at hl 1 rfl) ?_
    refine lv_iconst (v := 1) hx hb dL_law_365 (by decide) ?_
    refine lv_iadd hx hb dL_law_366 ?_
    refine lw_sld (4 * k + 1) hx hb hX hbl hbB hm (nI_add (4 * k) 1) (by omega) hL dL_law_367 ?_
    refine lv_aload_n hx hb dL_law_368 rfl (lv_at hl 5 rfl) ?_
    refine lv_iload hx hb dL_law_369 (lv_at hl 1 rfl) ?_
    refine lv_iconst (v := 2) hx hb dL_law_371 (by decide) ?_
    refine lv_iadd hx hb dL_law_372 ?_
    refine lw_sld (4 * k + 2) hx hb hX hbl hbB hm (nI_add (4 * k) 2) (by omega) hL dL_law_373 ?_
    refine lv_aload_n hx hb dL_law_374 rfl (lv_at hl 5 rfl) ?_
    refine lv_iload hx hb dL_law_375 (lv_at hl 1 rfl) ?_
    refine lv_iconst (v := 3) hx hb dL_law_377 (by decide) ?_
    refine lv_iadd hx hb dL_law_378 ?_
    refine lw_sld (4 * k + 3) hx hb hX hbl hbB hm (nI_add (4 * k) 3) (by omega) hL dL_law_379 ?_
    refine mcalli (mcV (n := 3) (As := [.int (xs (4 * k + 1)), .int (xs (4 * k + 2)), .int (xs (4 * k + 3))]) (rest := []) hx hb hml hE (kM_link l B D cI cZ cL u1 r as g thr now n J hR1 hM (xs (4 * k + 1)) (xs (4 * k + 2)) (xs (4 * k + 3))) q_377 q_378 q_379 q_2 q_380 rfl rfl (by decide +kernel) ⟨Nat.le_of_ble_eq_true rfl, Nat.le_of_ble_eq_true rfl⟩ rfl hl.1 hm rfl hR1.1 rfl (Nat.le_of_ble_eq_true rfl) dL_law_380 ⟨by show _ ≤ 601024; omega, by show _ ≤ 7293034; omega⟩) hm (fun r2 u2 H locs hp2 hm => ?_)
    obtain ⟨hp2, hK2⟩ := hp2
    rcases hp2 with ⟨j2, hq2, hr2, hR2⟩ | ⟨hq2, hr2, hR2⟩
    · cases Option.some.inj (hq2.symm.trans hp1)
      refine lv_istore (lv' := [(6, .int (r2)), (5, .int (0)), (4, .int (nI (4 * k))), (3, .ref (ob)), (2, .ref (r)), (1, .ref (o)), (0, .ref (b))]) hx hb dL_law_383 hl (by decide) rfl (fun ls hl => ?_)
      refine lv_aload_n hx hb dL_law_385 rfl (lv_at hl 4 rfl) ?_
      refine mcalli (mcV (n := 0) (As := []) (rest := []) hx hb hml hE (kM_thrown l B D cI cZ cL u2 r as g 0 now n J hR2) q_339 q_340 q_341 q_2 q_342 rfl rfl (by decide +kernel) ⟨Nat.le_of_ble_eq_true rfl, Nat.le_of_ble_eq_true rfl⟩ rfl hl.1 hm rfl hR2.1 rfl (Nat.le_of_ble_eq_true rfl) dL_law_386 ⟨by show _ ≤ 601024; omega, by show _ ≤ 7293034; omega⟩) hm (fun r3 u3 H locs hp3 hm => ?_)
      obtain ⟨hr3, hu3⟩ := hp3
      rw [hu3] at hm
      subst hr3
      refine lv_iload hx hb dL_law_389 (lv_at hl 1 rfl) ?_
      refine lv_icmp_eq (tgt := 396) hx hb dL_law_391 (by decide) (fun c_391 => ?_) (fun c_391 => ?_)
      · refine lv_iload hx hb dL_law_396 (lv_at hl 1 rfl) ?_
        refine lv_if_ne (tgt := 413) hx hb dL_law_398 (by decide) (fun c_398 => ?_) (fun c_398 => ?_)
        · first | exact absurd c_398 (by decide) | exact absurd (by decide) c_398
        · refine lv_aload_n hx hb dL_law_401 rfl (lv_at hl 3 rfl) ?_
          refine lv_iconst (v := 0) hx hb dL_law_402 (by decide) ?_
          have ho2 : u2 ob = some (.inl (cL, 1, .inr (.inl f2))) := (hK2 ob hob2).trans hf2
          refine mlald hx hb hE.2.2.1 hm 2 ho2 rfl (by unfold vp_in; decide) dL_law_403 ?_
          refine lv_iload hx hb dL_law_404 (lv_at hl 0 rfl) ?_
          refine lv_i2l (v := (r2).toInt64) hx hb dL_law_406 rfl ?_
          refine W.lcmp hx hb dL_law_407 ?_
          refine lv_if_eq (tgt := 413) hx hb dL_law_408 (by decide) (fun c_9 => ?_) (fun c_9 => ?_)
          · refine lv_goto (tgt := 694) hx hb dL_law_413 (by decide) ?_
            refine W.widen (k := 12 + 2 * (k + 1)) (n := 11616 + 62 * (k + 1)) (by omega) (by omega) ?_
            exact next u2 H locs ls (⟨ad, va, as, g, f2, 0, now, n, J, hC1.keep (fun q hq => hK2 q (hdis q hq)), hR2, hM, hNw, (hK2 ob hob2).trans hf2, hdis, hob1, hob2⟩) hm (lv_sub hl [2, 3, 4, 5, 6] rfl)
          · exact absurd (by rw [hr2]; rw [show f2 (0 : Int32).toNatClampNeg = _ from hv2]; exact lgc_0 _) c_9
      · first | exact absurd c_391 (by decide) | exact absurd (by decide) c_391
    · rw [hp1] at hq2; cases hq2
  · subst hr1
    rw [hu1] at hm
    have hR1 := hR
    refine lv_istore (lv' := [(5, .int (1)), (4, .int (nI (4 * k))), (3, .ref (ob)), (2, .ref (r)), (1, .ref (o)), (0, .ref (b))]) hx hb dL_law_359 hl (by decide) rfl (fun ls hl => ?_)
    refine lv_aload_n hx hb dL_law_361 rfl (lv_at hl 3 rfl) ?_
    refine lv_aload_n hx hb dL_law_362 rfl (lv_at hl 5 rfl) ?_
    refine lv_iload hx hb dL_law_363 (lv_at hl 1 rfl) ?_
    refine lv_iconst (v := 1) hx hb dL_law_365 (by decide) ?_
    refine lv_iadd hx hb dL_law_366 ?_
    refine lw_sld (4 * k + 1) hx hb hX hbl hbB hm (nI_add (4 * k) 1) (by omega) hL dL_law_367 ?_
    refine lv_aload_n hx hb dL_law_368 rfl (lv_at hl 5 rfl) ?_
    refine lv_iload hx hb dL_law_369 (lv_at hl 1 rfl) ?_
    refine lv_iconst (v := 2) hx hb dL_law_371 (by decide) ?_
    refine lv_iadd hx hb dL_law_372 ?_
    refine lw_sld (4 * k + 2) hx hb hX hbl hbB hm (nI_add (4 * k) 2) (by omega) hL dL_law_373 ?_
    refine lv_aload_n hx hb dL_law_374 rfl (lv_at hl 5 rfl) ?_
    refine lv_iload hx hb dL_law_375 (lv_at hl 1 rfl) ?_
    refine lv_iconst (v := 3) hx hb dL_law_377 (by decide) ?_
    refine lv_iadd hx hb dL_law_378 ?_
    refine lw_sld (4 * k + 3) hx hb hX hbl hbB hm (nI_add (4 * k) 3) (by omega) hL dL_law_379 ?_
    refine mcalli (mcV (n := 3) (As := [.int (xs (4 * k + 1)), .int (xs (4 * k + 2)), .int (xs (4 * k + 3))]) (rest := []) hx hb hml hE (kM_link l B D cI cZ cL w r as g thr now n J hR1 hM (xs (4 * k + 1)) (xs (4 * k + 2)) (xs (4 * k + 3))) q_377 q_378 q_379 q_2 q_380 rfl rfl (by decide +kernel) ⟨Nat.le_of_ble_eq_true rfl, Nat.le_of_ble_eq_true rfl⟩ rfl hl.1 hm rfl hR1.1 rfl (Nat.le_of_ble_eq_true rfl) dL_law_380 ⟨by show _ ≤ 601024; omega, by show _ ≤ 7293034; omega⟩) hm (fun r2 u2 H locs hp2 hm => ?_)
    obtain ⟨hp2, hK2⟩ := hp2
    rcases hp2 with ⟨j2, hq2, hr2, hR2⟩ | ⟨hq2, hr2, hR2⟩
    · rw [hp1] at hq2; cases hq2
    · have hz9 : True := trivial
      refine lv_istore (lv' := [(6, .int (r2)), (5, .int (1)), (4, .int (nI (4 * k))), (3, .ref (ob)), (2, .ref (r)), (1, .ref (o)), (0, .ref (b))]) hx hb dL_law_383 hl (by decide) rfl (fun ls hl => ?_)
      refine lv_aload_n hx hb dL_law_385 rfl (lv_at hl 4 rfl) ?_
      refine mcalli (mcV (n := 0) (As := []) (rest := []) hx hb hml hE (kM_thrown l B D cI cZ cL u2 r as g 1 now n J hR2) q_339 q_340 q_341 q_2 q_342 rfl rfl (by decide +kernel) ⟨Nat.le_of_ble_eq_true rfl, Nat.le_of_ble_eq_true rfl⟩ rfl hl.1 hm rfl hR2.1 rfl (Nat.le_of_ble_eq_true rfl) dL_law_386 ⟨by show _ ≤ 601024; omega, by show _ ≤ 7293034; omega⟩) hm (fun r3 u3 H locs hp3 hm => ?_)
      obtain ⟨hr3, hu3⟩ := hp3
      rw [hu3] at hm
      subst hr3
      refine lv_iload hx hb dL_law_389 (lv_at hl 1 rfl) ?_
      refine lv_icmp_eq (tgt := 396) hx hb dL_law_391 (by decide) (fun c_391 => ?_) (fun c_391 => ?_)
      · refine lv_iload hx hb dL_law_396 (lv_at hl 1 rfl) ?_
        refine lv_if_ne (tgt := 413) hx hb dL_law_398 (by decide) (fun c_398 => ?_) (fun c_398 => ?_)
        · refine lv_goto (tgt := 694) hx hb dL_law_413 (by decide) ?_
          refine W.widen (k := 12 + 2 * (k + 1)) (n := 11616 + 62 * (k + 1)) (by omega) (by omega) ?_
          exact next u2 H locs ls (LI.rd hC hM hNw hob hdis hob1 hob2 hR2 hK2) hm (lv_sub hl [2, 3, 4, 5, 6] rfl)
        · first | exact absurd c_398 (by decide) | exact absurd (by decide) c_398
      · first | exact absurd c_391 (by decide) | exact absurd (by decide) c_391
set_option maxHeartbeats 4000000 in
set_option maxRecDepth 100000 in
theorem lc_10 {p : Program} {l : Launch} {e : Env} {s : State} {m : MethodId} {below : List Frame} {meth : Method} {c : Code} {D : va_G} {cI cZ cL : ClassId} {sa : Nat → Nat} {b L B : Nat} {xs : Nat → Int32} {Q : State → Prop} (hst : l.stackTraces = false) (hx : p.tables.exec = Jvm.exec) (hb : c.code = code) (hml : c.maxLocals = 7) (hE : ME "ChainPickerLaw" (Cond.initialized "ChainPickerLaw") #[Value.ref b] s m D (TYS cI cZ cL)) (hX : va_X b L xs s s.heap) (hbl : b < s.heap.size) (hbB : b < B) (hXX : mX B sa s) (hL : L ≤ 2048) (k : Nat) (hkL : 4 * k + 4 ≤ L) {o r ob : Nat} {w : Wd} (hI : LI cI cZ cL o r ob w) (next : ∀ (w1 : Wd) (H : Heap) (locs : List Loc) (ls : Array Slot), LI cI cZ cL o r ob w1 → mS B D CLS s.heap w1 H locs → lv_has ls 7 [(4, .int (nI (4 * k))), (3, .ref (ob)), (2, .ref (r)), (1, .ref (o)), (0, .ref (b))] → W p l e room_1 s m #[Value.ref b] below meth c H locs (12 + 2 * (k + 1)) (11616 + 62 * (k + 1)) Q (F0 m 694 ls [])) : ∀ (H : Heap) (locs : List Loc) (ls : Array Slot), mS B D CLS s.heap w H locs → lv_has ls 7 [(4, .int (nI (4 * k))), (3, .ref (ob)), (2, .ref (r)), (1, .ref (o)), (0, .ref (b))] → W p l e room_1 s m #[Value.ref b] below meth c H locs (12 + 2 * k) (11616 + 62 * k) Q (F0 m 576 ls []) := by
  obtain ⟨ad, va, as, g, fo, thr, now, n, J, hC, hR, hM, hNw, hob, hdis, hob1, hob2⟩ := hI
  intro H locs ls hm hl
  refine lv_aload_n hx hb dL_law_576 rfl (lv_at hl 3 rfl) ?_
  refine lv_aload_n hx hb dL_law_577 rfl (lv_at hl 4 rfl) ?_
  refine lv_iload hx hb dL_law_578 (lv_at hl 0 rfl) ?_
  refine lv_iconst (v := 1) hx hb dL_law_580 (by decide) ?_
  refine lv_iadd hx hb dL_law_581 ?_
  refine lw_sld (4 * k + 1) hx hb hX hbl hbB hm (nI_add (4 * k) 1) (by omega) hL dL_law_582 ?_
  refine lv_aload_n hx hb dL_law_583 rfl (lv_at hl 1 rfl) ?_
  refine mcalli (mcSW (n := 3) (As := [.ref (o), .int (xs (4 * k + 1)), .ref (ob)]) (rest := []) hx hb hml hE hXX (kL_expire l hst B D cI cZ cL sa w o ad va now n J hC ob fo hob hob1 (xs (4 * k + 1))) q_283 q_284 q_0 q_285 rfl rfl (by decide +kernel) ⟨Nat.le_of_ble_eq_true rfl, Nat.le_of_ble_eq_true rfl⟩ rfl hl.1 hm rfl (Nat.le_of_ble_eq_true rfl) dL_law_584 ⟨by show _ ≤ 601024; omega, by show _ ≤ 7293034; omega⟩) hm (fun r1 u1 H locs hp1 hm => ?_)
  rcases hp1 with ⟨hr1, hp1, hC1, ⟨f2, hf2, hv2⟩, hF1⟩ | ⟨hr1, hp1, hu1⟩
  · subst hr1
    have hR1 := hR.keep (u := u1) (fun q hq => hF1 q (fun h => hdis q h hq) (fun e => hob2 (by rw [← e]; exact hq)))
    refine lv_istore (lv' := [(5, .int (0)), (4, .int (nI (4 * k))), (3, .ref (ob)), (2, .ref (r)), (1, .ref (o)), (0, .ref (b))]) hx hb dL_law_587 hl (by decide) rfl (fun ls hl => ?_)
    refine lv_aload_n hx hb dL_law_589 rfl (lv_at hl 3 rfl) ?_
    refine lv_aload_n hx hb dL_law_590 rfl (lv_at hl 5 rfl) ?_
    refine lv_iload hx hb dL_law_591 (lv_at hl 1 rfl) ?_
    refine lv_iconst (v := 1) hx hb dL_law_593 (by decide) ?_
    refine lv_iadd hx hb dL_law_594 ?_
    refine lw_sld (4 * k + 1) hx hb hX hbl hbB hm (nI_add (4 * k) 1) (by omega) hL dL_law_595 ?_
    refine mcalli (mcV (n := 1) (As := [.int (xs (4 * k + 1))]) (rest := []) hx hb hml hE (kM_expire l B D cI cZ cL u1 r as g thr now n J hR1 (xs (4 * k + 1))) q_417 q_418 q_419 q_2 q_420 rfl rfl (by decide +kernel) ⟨Nat.le_of_ble_eq_true rfl, Nat.le_of_ble_eq_true rfl⟩ rfl hl.1 hm rfl hR1.1 rfl (Nat.le_of_ble_eq_true rfl) dL_law_596 ⟨by show _ ≤ 601024; omega, by show _ ≤ 7293034; omega⟩) hm (fun r2 u2 H locs hp2 hm => ?_)
    obtain ⟨hp2, hK2⟩ := hp2
    rcases hp2 with ⟨hq2, hr2, hR2⟩ | ⟨hq2, hr2, g2, hR2⟩
    · exact absurd hq2 hp1
    · have hz9 : True := trivial
      refine lv_istore (lv' := [(6, .int (r2)), (5, .int (0)), (4, .int (nI (4 * k))), (3, .ref (ob)), (2, .ref (r)), (1, .ref (o)), (0, .ref (b))]) hx hb dL_law_599 hl (by decide) rfl (fun ls hl => ?_)
      refine lv_aload_n hx hb dL_law_601 rfl (lv_at hl 4 rfl) ?_
      refine mcalli (mcV (n := 0) (As := []) (rest := []) hx hb hml hE (kM_thrown l B D cI cZ cL u2 r as g2 0 now n (xp n now (xs (4 * k + 1)) n J 0).1 hR2) q_339 q_340 q_341 q_2 q_342 rfl rfl (by decide +kernel) ⟨Nat.le_of_ble_eq_true rfl, Nat.le_of_ble_eq_true rfl⟩ rfl hl.1 hm rfl hR2.1 rfl (Nat.le_of_ble_eq_true rfl) dL_law_602 ⟨by show _ ≤ 601024; omega, by show _ ≤ 7293034; omega⟩) hm (fun r3 u3 H locs hp3 hm => ?_)
      obtain ⟨hr3, hu3⟩ := hp3
      rw [hu3] at hm
      subst hr3
      refine lv_iload hx hb dL_law_605 (lv_at hl 1 rfl) ?_
      refine lv_icmp_eq (tgt := 612) hx hb dL_law_607 (by decide) (fun c_607 => ?_) (fun c_607 => ?_)
      · refine lv_iload hx hb dL_law_612 (lv_at hl 1 rfl) ?_
        refine lv_if_ne (tgt := 629) hx hb dL_law_614 (by decide) (fun c_614 => ?_) (fun c_614 => ?_)
        · first | exact absurd c_614 (by decide) | exact absurd (by decide) c_614
        · refine lv_aload_n hx hb dL_law_617 rfl (lv_at hl 3 rfl) ?_
          refine lv_iconst (v := 0) hx hb dL_law_618 (by decide) ?_
          have ho2 : u2 ob = some (.inl (cL, 1, .inr (.inl f2))) := (hK2 ob hob2).trans hf2
          refine mlald hx hb hE.2.2.1 hm 2 ho2 rfl (by unfold vp_in; decide) dL_law_619 ?_
          refine lv_iload hx hb dL_law_620 (lv_at hl 0 rfl) ?_
          refine lv_i2l (v := (r2).toInt64) hx hb dL_law_622 rfl ?_
          refine W.lcmp hx hb dL_law_623 ?_
          refine lv_if_eq (tgt := 629) hx hb dL_law_624 (by decide) (fun c_9 => ?_) (fun c_9 => ?_)
          · refine lv_goto (tgt := 694) hx hb dL_law_629 (by decide) ?_
            refine W.widen (k := 12 + 2 * (k + 1)) (n := 11616 + 62 * (k + 1)) (by omega) (by omega) ?_
            exact next u2 H locs ls (⟨ad, va, as, g2, f2, 0, now, n, _, hC1.keep (fun q hq => hK2 q (hdis q hq)), hR2, mW_xp n J 0 hM, hNw, (hK2 ob hob2).trans hf2, hdis, hob1, hob2⟩) hm (lv_sub hl [2, 3, 4, 5, 6] rfl)
          · exact absurd (by rw [hr2]; rw [show f2 (0 : Int32).toNatClampNeg = _ from hv2]; exact lgc_0 _) c_9
      · first | exact absurd c_607 (by decide) | exact absurd (by decide) c_607
  · subst hr1
    rw [hu1] at hm
    have hR1 := hR
    refine lv_istore (lv' := [(5, .int (1)), (4, .int (nI (4 * k))), (3, .ref (ob)), (2, .ref (r)), (1, .ref (o)), (0, .ref (b))]) hx hb dL_law_587 hl (by decide) rfl (fun ls hl => ?_)
    refine lv_aload_n hx hb dL_law_589 rfl (lv_at hl 3 rfl) ?_
    refine lv_aload_n hx hb dL_law_590 rfl (lv_at hl 5 rfl) ?_
    refine lv_iload hx hb dL_law_591 (lv_at hl 1 rfl) ?_
    refine lv_iconst (v := 1) hx hb dL_law_593 (by decide) ?_
    refine lv_iadd hx hb dL_law_594 ?_
    refine lw_sld (4 * k + 1) hx hb hX hbl hbB hm (nI_add (4 * k) 1) (by omega) hL dL_law_595 ?_
    refine mcalli (mcV (n := 1) (As := [.int (xs (4 * k + 1))]) (rest := []) hx hb hml hE (kM_expire l B D cI cZ cL w r as g thr now n J hR1 (xs (4 * k + 1))) q_417 q_418 q_419 q_2 q_420 rfl rfl (by decide +kernel) ⟨Nat.le_of_ble_eq_true rfl, Nat.le_of_ble_eq_true rfl⟩ rfl hl.1 hm rfl hR1.1 rfl (Nat.le_of_ble_eq_true rfl) dL_law_596 ⟨by show _ ≤ 601024; omega, by show _ ≤ 7293034; omega⟩) hm (fun r2 u2 H locs hp2 hm => ?_)
    obtain ⟨hp2, hK2⟩ := hp2
    rcases hp2 with ⟨hq2, hr2, hR2⟩ | ⟨hq2, hr2, g2, hR2⟩
    · have hz9 : True := trivial
      refine lv_istore (lv' := [(6, .int (r2)), (5, .int (1)), (4, .int (nI (4 * k))), (3, .ref (ob)), (2, .ref (r)), (1, .ref (o)), (0, .ref (b))]) hx hb dL_law_599 hl (by decide) rfl (fun ls hl => ?_)
      refine lv_aload_n hx hb dL_law_601 rfl (lv_at hl 4 rfl) ?_
      refine mcalli (mcV (n := 0) (As := []) (rest := []) hx hb hml hE (kM_thrown l B D cI cZ cL u2 r as g 1 now n J hR2) q_339 q_340 q_341 q_2 q_342 rfl rfl (by decide +kernel) ⟨Nat.le_of_ble_eq_true rfl, Nat.le_of_ble_eq_true rfl⟩ rfl hl.1 hm rfl hR2.1 rfl (Nat.le_of_ble_eq_true rfl) dL_law_602 ⟨by show _ ≤ 601024; omega, by show _ ≤ 7293034; omega⟩) hm (fun r3 u3 H locs hp3 hm => ?_)
      obtain ⟨hr3, hu3⟩ := hp3
      rw [hu3] at hm
      subst hr3
      refine lv_iload hx hb dL_law_605 (lv_at hl 1 rfl) ?_
      refine lv_icmp_eq (tgt := 612) hx hb dL_law_607 (by decide) (fun c_607 => ?_) (fun c_607 => ?_)
      · refine lv_iload hx hb dL_law_612 (lv_at hl 1 rfl) ?_
        refine lv_if_ne (tgt := 629) hx hb dL_law_614 (by decide) (fun c_614 => ?_) (fun c_614 => ?_)
        · refine lv_goto (tgt := 694) hx hb dL_law_629 (by decide) ?_
          refine W.widen (k := 12 + 2 * (k + 1)) (n := 11616 + 62 * (k + 1)) (by omega) (by omega) ?_
          exact next u2 H locs ls (LI.rd hC hM hNw hob hdis hob1 hob2 hR2 hK2) hm (lv_sub hl [2, 3, 4, 5, 6] rfl)
        · first | exact absurd c_614 (by decide) | exact absurd (by decide) c_614
      · first | exact absurd c_607 (by decide) | exact absurd (by decide) c_607
    · exact absurd hp1 hq2
