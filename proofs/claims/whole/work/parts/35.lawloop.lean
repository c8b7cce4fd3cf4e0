set_option maxHeartbeats 4000000 in
set_option maxRecDepth 100000 in
theorem law_loop {p : Program} {l : Launch} {e : Env} {s : State} {m : MethodId} {below : List Frame} {meth : Method} {c : Code} {D : va_G} {cI cZ cL : ClassId} {sa : Nat → Nat} {b L B : Nat} {xs : Nat → Int32} (hst : l.stackTraces = false) (hx : p.tables.exec = Jvm.exec) (hb : c.code = code) (hml : c.maxLocals = 7) (hE : ME "ChainPickerLaw" (Cond.initialized "ChainPickerLaw") #[Value.ref b] s m D (TYS cI cZ cL)) (hX : va_X b L xs s s.heap) (hbl : b < s.heap.size) (hbB : b < B) (hXX : mX B sa s) (hL : L ≤ 2048) (hB : B = s.heap.size) (hr : meth.sig.returnType = ret) (hlk : meth.locks = false) {o r ob : Nat} : ∀ (d k : Nat), L + 4 ≤ 4 * k + 4 * d → k ≤ 513 → ∀ (w : Wd) (H : Heap) (locs : List Loc) (ls : Array Slot), LI cI cZ cL o r ob w → mS B D CLS s.heap w H locs → lv_has ls 7 [(4, .int (nI (4 * k))), (3, .ref (ob)), (2, .ref (r)), (1, .ref (o)), (0, .ref (b))] → W p l e room_1 s m #[Value.ref b] below meth c H locs (12 + 2 * k) (11616 + 62 * k) (lw_Z below #[Value.ref b] s) (F0 m 23 ls []) := by
  intro d
  induction d with
  | zero =>
    intro k hd hk5 w H locs ls hI hm hl
    refine lv_iload hx hb dL_law_23 (lv_at hl 0 rfl) ?_
    refine lv_aload_n hx hb dL_law_25 rfl (lv_at hl 4 rfl) ?_
    refine va_slen (A := fun q => B ≤ q) hx hb hX hbl (Nat.not_le.mpr hbB) hm.2 dL_law_26 ?_
    refine lv_iconst (v := 4) hx hb dL_law_27 (by decide) ?_
    refine lv_isub hx hb dL_law_28 ?_
    have hcv : (Int32.ofNat L - 4).toInt = (L : Int) - 4 := pk_sub_toInt (a := L) (b := 4) (by omega) (by omega)
    have hiv : (nI (4 * k)).toInt = ((4 * k : Nat) : Int) := nI_toInt (by omega)
    refine lv_icmp_gt (tgt := 700) hx hb dL_law_29 (by decide) (fun c_29 => ?_) (fun c_29 => ?_)
    · refine lv_iconst (v := 1) hx hb dL_law_700 (by decide) ?_
      refine va_forget (fun q hq => by rw [← hB]; exact hm.2.2.2 q hq) ?_
      refine W.widen (k := 601024) (n := 7293034) (by omega) (by omega) ?_
      exact lw_ret hx hb hr hlk dL_law_701
    · rw [Int32.lt_iff_toInt_lt, hcv, hiv] at c_29
      exact absurd c_29 (by omega)
  | succ d ih =>
    intro k hd hk5 w H locs ls hI hm hl
    refine lv_iload hx hb dL_law_23 (lv_at hl 0 rfl) ?_
    refine lv_aload_n hx hb dL_law_25 rfl (lv_at hl 4 rfl) ?_
    refine va_slen (A := fun q => B ≤ q) hx hb hX hbl (Nat.not_le.mpr hbB) hm.2 dL_law_26 ?_
    refine lv_iconst (v := 4) hx hb dL_law_27 (by decide) ?_
    refine lv_isub hx hb dL_law_28 ?_
    have hcv : (Int32.ofNat L - 4).toInt = (L : Int) - 4 := pk_sub_toInt (a := L) (b := 4) (by omega) (by omega)
    have hiv : (nI (4 * k)).toInt = ((4 * k : Nat) : Int) := nI_toInt (by omega)
    refine lv_icmp_gt (tgt := 700) hx hb dL_law_29 (by decide) (fun c_29 => ?_) (fun c_29 => ?_)
    · refine lv_iconst (v := 1) hx hb dL_law_700 (by decide) ?_
      refine va_forget (fun q hq => by rw [← hB]; exact hm.2.2.2 q hq) ?_
      refine W.widen (k := 601024) (n := 7293034) (by omega) (by omega) ?_
      exact lw_ret hx hb hr hlk dL_law_701
    · rw [Int32.lt_iff_toInt_lt, hcv, hiv] at c_29
      have hkL : 4 * k + 4 ≤ L := by omega
      have step : ∀ (w1 : Wd) (H : Heap) (locs : List Loc) (ls : Array Slot), LI cI cZ cL o r ob w1 → mS B D CLS s.heap w1 H locs → lv_has ls 7 [(4, .int (nI (4 * k))), (3, .ref (ob)), (2, .ref (r)), (1, .ref (o)), (0, .ref (b))] → W p l e room_1 s m #[Value.ref b] below meth c H locs (12 + 2 * (k + 1)) (11616 + 62 * (k + 1)) (lw_Z below #[Value.ref b] s) (F0 m 694 ls []) := by
        intro w1 H locs ls hI hm hl
        refine lv_iinc (v := nI (4 * k) + 4) (lv' := [(4, .int (nI (4 * k) + 4)), (3, .ref ob), (2, .ref r), (1, .ref o), (0, .ref b)]) hx hb dL_law_694 hl (k := 0) rfl rfl (by decide) rfl (fun ls hl => ?_)
        refine lv_goto (tgt := 23) hx hb dL_law_697 (by decide) ?_
        rw [show nI (4 * k) + 4 = nI (4 * (k + 1)) from nI_add (4 * k) 4] at hl
        exact ih (k + 1) (by omega) (by omega) w1 H locs ls hI hm hl
      refine lv_aload_n hx hb dL_law_32 rfl (lv_at hl 4 rfl) ?_
      refine lv_iload hx hb dL_law_33 (lv_at hl 0 rfl) ?_
      refine lw_sld (4 * k) hx hb hX hbl hbB hm rfl (by omega) hL dL_law_35 ?_
      refine lv_bipush (v := 15) hx hb dL_law_36 (by decide) ?_
      refine lv_iand hx hb dL_law_38 ?_
      refine lv_topi (fun z hz => ?_)
      by_cases e_0 : z = 0
      · subst e_0
        refine lv_tableIn (off := 65) (tgt := 104) hx hb dL_law_39 (by decide) (by decide) (by decide) (by decide) ?_
        exact lc_0 hst hx hb hml hE hX hbl hbB hXX hL k hkL hI step H locs ls hm hl
      by_cases e_1 : z = 1
      · subst e_1
        refine lv_tableIn (off := 121) (tgt := 160) hx hb dL_law_39 (by decide) (by decide) (by decide) (by decide) ?_
        exact lc_1 hst hx hb hml hE hX hbl hbB hXX hL k hkL hI step H locs ls hm hl
      by_cases e_2 : z = 2
      · subst e_2
        refine lv_tableIn (off := 158) (tgt := 197) hx hb dL_law_39 (by decide) (by decide) (by decide) (by decide) ?_
        exact lc_2 hst hx hb hml hE hX hbl hbB hXX hL k hkL hI step H locs ls hm hl
      by_cases e_3 : z = 3
      · subst e_3
        refine lv_tableIn (off := 207) (tgt := 246) hx hb dL_law_39 (by decide) (by decide) (by decide) (by decide) ?_
        exact lc_3 hst hx hb hml hE hX hbl hbB hXX hL k hkL hI step H locs ls hm hl
      by_cases e_4 : z = 4
      · subst e_4
        refine lv_tableIn (off := 260) (tgt := 299) hx hb dL_law_39 (by decide) (by decide) (by decide) (by decide) ?_
        exact lc_4 hst hx hb hml hE hX hbl hbB hXX hL k hkL hI step H locs ls hm hl
      by_cases e_5 : z = 5
      · subst e_5
        refine lv_tableIn (off := 297) (tgt := 336) hx hb dL_law_39 (by decide) (by decide) (by decide) (by decide) ?_
        exact lc_5 hst hx hb hml hE hX hbl hbB hXX hL k hkL hI step H locs ls hm hl
      by_cases e_6 : z = 6
      · subst e_6
        refine lv_tableIn (off := 377) (tgt := 416) hx hb dL_law_39 (by decide) (by decide) (by decide) (by decide) ?_
        exact lc_6 hst hx hb hml hE hX hbl hbB hXX hL k hkL hI step H locs ls hm hl
      by_cases e_7 : z = 7
      · subst e_7
        refine lv_tableIn (off := 426) (tgt := 465) hx hb dL_law_39 (by decide) (by decide) (by decide) (by decide) ?_
        exact lc_7 hst hx hb hml hE hX hbl hbB hXX hL k hkL hI step H locs ls hm hl
      by_cases e_8 : z = 8
      · subst e_8
        refine lv_tableIn (off := 463) (tgt := 502) hx hb dL_law_39 (by decide) (by decide) (by decide) (by decide) ?_
        exact lc_8 hst hx hb hml hE hX hbl hbB hXX hL k hkL hI step H locs ls hm hl
      by_cases e_9 : z = 9
      · subst e_9
        refine lv_tableIn (off := 512) (tgt := 551) hx hb dL_law_39 (by decide) (by decide) (by decide) (by decide) ?_
        exact lc_9 hst hx hb hml hE hX hbl hbB hXX hL k hkL hI step H locs ls hm hl
      by_cases e_10 : z = 10
      · subst e_10
        refine lv_tableIn (off := 537) (tgt := 576) hx hb dL_law_39 (by decide) (by decide) (by decide) (by decide) ?_
        exact lc_10 hst hx hb hml hE hX hbl hbB hXX hL k hkL hI step H locs ls hm hl
      by_cases e_11 : z = 11
      · subst e_11
        refine lv_tableIn (off := 593) (tgt := 632) hx hb dL_law_39 (by decide) (by decide) (by decide) (by decide) ?_
        exact lc_11 hst hx hb hml hE hX hbl hbB hXX hL k hkL hI step H locs ls hm hl
      by_cases e_12 : z = 12
      · subst e_12
        refine lv_tableIn (off := 630) (tgt := 669) hx hb dL_law_39 (by decide) (by decide) (by decide) (by decide) ?_
        exact lc_12 hst hx hb hml hE hX hbl hbB hXX hL k hkL hI step H locs ls hm hl
      refine lv_tableOut (tgt := 694) hx hb dL_law_39 (by have z_0 := lv_neT (k := 0) (a := 0) e_0 (by decide); have z_1 := lv_neT (k := 1) (a := 1) e_1 (by decide); have z_2 := lv_neT (k := 2) (a := 2) e_2 (by decide); have z_3 := lv_neT (k := 3) (a := 3) e_3 (by decide); have z_4 := lv_neT (k := 4) (a := 4) e_4 (by decide); have z_5 := lv_neT (k := 5) (a := 5) e_5 (by decide); have z_6 := lv_neT (k := 6) (a := 6) e_6 (by decide); have z_7 := lv_neT (k := 7) (a := 7) e_7 (by decide); have z_8 := lv_neT (k := 8) (a := 8) e_8 (by decide); have z_9 := lv_neT (k := 9) (a := 9) e_9 (by decide); have z_10 := lv_neT (k := 10) (a := 10) e_10 (by decide); have z_11 := lv_neT (k := 11) (a := 11) e_11 (by decide); have z_12 := lv_neT (k := 12) (a := 12) e_12 (by decide); omega) (by decide) ?_
      refine W.widen (k := 12 + 2 * (k + 1)) (n := 11616 + 62 * (k + 1)) (by omega) (by omega) ?_
      exact step w H locs ls hI hm hl
