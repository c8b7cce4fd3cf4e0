set_option maxHeartbeats 4000000 in
set_option maxRecDepth 100000 in
theorem kC_isSeries (l : Launch) (B : Nat) (D : va_G) (cI cZ cL : ClassId) (w : Wd) (x : Int32) : Met l yC_isSeries (.code yC_isSeries cC_isSeries 1 (some .boolean) :: BIG) { frames := 0, cells := 0, slots := 0, locals := 0 } (va_Pc [.int (x)] (mP B D CLS (TYS cI cZ cL) NEST w)) (va_Qi (fun r u => r = bI (decide (0 ≤ x) && decide (x < 8)) ∧ u = w) (mE B D CLS) (fun q => B ≤ q)) 0 0 (fun q => B ≤ q) := by
  refine mMet (by decide) rfl (Nat.le_of_ble_eq_true rfl) ?_
  intro p e s m below meth c ls hx hb hml hr hlk hnm hown hts hK hN hm hl
  have hE : ME "ChainPicker" (.code yC_isSeries cC_isSeries 1 (some .boolean)) _ s m D (TYS cI cZ cL) := ⟨hown, hts, hK, hN⟩
  have hl : lv_has ls 1 [(0, .int (x))] := hl
  refine lv_iload_n hx hb dC_isSeries_0 rfl (lv_at hl 0 rfl) ?_
  refine lv_if_lt (tgt := 14) hx hb dC_isSeries_1 (by decide) (fun c_1 => ?_) (fun c_1 => ?_)
  · refine lv_iconst (v := 0) hx hb dC_isSeries_14 (by decide) ?_
    exact mretz hx hb hr (by decide +kernel) hlk hm ⟨by simp_all [bI, isF, ← Int32.not_lt], rfl⟩ dC_isSeries_15
  · refine lv_iload_n hx hb dC_isSeries_4 rfl (lv_at hl 0 rfl) ?_
    refine lv_bipush (v := 8) hx hb dC_isSeries_5 (by decide) ?_
    refine lv_icmp_ge (tgt := 14) hx hb dC_isSeries_7 (by decide) (fun c_7 => ?_) (fun c_7 => ?_)
    · refine lv_iconst (v := 0) hx hb dC_isSeries_14 (by decide) ?_
      exact mretz hx hb hr (by decide +kernel) hlk hm ⟨by simp_all [bI, isF, ← Int32.not_lt], rfl⟩ dC_isSeries_15
    · refine lv_iconst (v := 1) hx hb dC_isSeries_10 (by decide) ?_
      refine lv_goto (tgt := 15) hx hb dC_isSeries_11 (by decide) ?_
      exact mretz hx hb hr (by decide +kernel) hlk hm ⟨by simp_all [bI, isF, ← Int32.not_lt], rfl⟩ dC_isSeries_15
set_option maxHeartbeats 4000000 in
set_option maxRecDepth 100000 in
theorem kC_isLevel (l : Launch) (B : Nat) (D : va_G) (cI cZ cL : ClassId) (w : Wd) (x : Int32) : Met l yC_isLevel (.code yC_isLevel cC_isLevel 1 (some .boolean) :: BIG) { frames := 0, cells := 0, slots := 0, locals := 0 } (va_Pc [.int (x)] (mP B D CLS (TYS cI cZ cL) NEST w)) (va_Qi (fun r u => r = bI (decide (0 ≤ x) && decide (x ≤ 2)) ∧ u = w) (mE B D CLS) (fun q => B ≤ q)) 0 0 (fun q => B ≤ q) := by
  refine mMet (by decide) rfl (Nat.le_of_ble_eq_true rfl) ?_
  intro p e s m below meth c ls hx hb hml hr hlk hnm hown hts hK hN hm hl
  have hE : ME "ChainPicker" (.code yC_isLevel cC_isLevel 1 (some .boolean)) _ s m D (TYS cI cZ cL) := ⟨hown, hts, hK, hN⟩
  have hl : lv_has ls 1 [(0, .int (x))] := hl
  refine lv_iload_n hx hb dC_isLevel_0 rfl (lv_at hl 0 rfl) ?_
  refine lv_if_lt (tgt := 13) hx hb dC_isLevel_1 (by decide) (fun c_1 => ?_) (fun c_1 => ?_)
  · refine lv_iconst (v := 0) hx hb dC_isLevel_13 (by decide) ?_
    exact mretz hx hb hr (by decide +kernel) hlk hm ⟨by simp_all [bI, isF, ← Int32.not_lt], rfl⟩ dC_isLevel_14
  · refine lv_iload_n hx hb dC_isLevel_4 rfl (lv_at hl 0 rfl) ?_
    refine lv_iconst (v := 2) hx hb dC_isLevel_5 (by decide) ?_
    refine lv_icmp_gt (tgt := 13) hx hb dC_isLevel_6 (by decide) (fun c_6 => ?_) (fun c_6 => ?_)
    · refine lv_iconst (v := 0) hx hb dC_isLevel_13 (by decide) ?_
      exact mretz hx hb hr (by decide +kernel) hlk hm ⟨by simp_all [bI, isF, ← Int32.not_lt], rfl⟩ dC_isLevel_14
    · refine lv_iconst (v := 1) hx hb dC_isLevel_9 (by decide) ?_
      refine lv_goto (tgt := 14) hx hb dC_isLevel_10 (by decide) ?_
      exact mretz hx hb hr (by decide +kernel) hlk hm ⟨by simp_all [bI, isF, ← Int32.not_lt], rfl⟩ dC_isLevel_14
set_option maxHeartbeats 4000000 in
set_option maxRecDepth 100000 in
theorem kC_isFile (l : Launch) (B : Nat) (D : va_G) (cI cZ cL : ClassId) (w : Wd) (x : Int32) : Met l yC_isFile (.code yC_isFile cC_isFile 1 (some .boolean) :: BIG) { frames := 0, cells := 0, slots := 0, locals := 0 } (va_Pc [.int (x)] (mP B D CLS (TYS cI cZ cL) NEST w)) (va_Qi (fun r u => r = bI (isF x) ∧ u = w) (mE B D CLS) (fun q => B ≤ q)) 0 0 (fun q => B ≤ q) := by
  refine mMet (by decide) rfl (Nat.le_of_ble_eq_true rfl) ?_
  intro p e s m below meth c ls hx hb hml hr hlk hnm hown hts hK hN hm hl
  have hE : ME "ChainPicker" (.code yC_isFile cC_isFile 1 (some .boolean)) _ s m D (TYS cI cZ cL) := ⟨hown, hts, hK, hN⟩
  have hl : lv_has ls 1 [(0, .int (x))] := hl
  refine lv_iload_n hx hb dC_isFile_0 rfl (lv_at hl 0 rfl) ?_
  refine lv_if_lt (tgt := 14) hx hb dC_isFile_1 (by decide) (fun c_1 => ?_) (fun c_1 => ?_)
  · refine lv_iconst (v := 0) hx hb dC_isFile_14 (by decide) ?_
    exact mretz hx hb hr (by decide +kernel) hlk hm ⟨by simp_all [bI, isF, ← Int32.not_lt], rfl⟩ dC_isFile_15
  · refine lv_iload_n hx hb dC_isFile_4 rfl (lv_at hl 0 rfl) ?_
    refine lv_bipush (v := 50) hx hb dC_isFile_5 (by decide) ?_
    refine lv_icmp_ge (tgt := 14) hx hb dC_isFile_7 (by decide) (fun c_7 => ?_) (fun c_7 => ?_)
    · refine lv_iconst (v := 0) hx hb dC_isFile_14 (by decide) ?_
      exact mretz hx hb hr (by decide +kernel) hlk hm ⟨by simp_all [bI, isF, ← Int32.not_lt], rfl⟩ dC_isFile_15
    · refine lv_iconst (v := 1) hx hb dC_isFile_10 (by decide) ?_
      refine lv_goto (tgt := 15) hx hb dC_isFile_11 (by decide) ?_
      exact mretz hx hb hr (by decide +kernel) hlk hm ⟨by simp_all [bI, isF, ← Int32.not_lt], rfl⟩ dC_isFile_15
set_option maxHeartbeats 4000000 in
set_option maxRecDepth 100000 in
theorem kC_isVersion (l : Launch) (B : Nat) (D : va_G) (cI cZ cL : ClassId) (w : Wd) (x : Int32) : Met l yC_isVersion (.code yC_isVersion cC_isVersion 1 (some .boolean) :: BIG) { frames := 0, cells := 0, slots := 0, locals := 0 } (va_Pc [.int (x)] (mP B D CLS (TYS cI cZ cL) NEST w)) (va_Qi (fun r u => r = bI (decide (0 ≤ x) && decide (x ≤ 1000000)) ∧ u = w) (mE B D CLS) (fun q => B ≤ q)) 0 0 (fun q => B ≤ q) := by
  refine mMet (by decide) rfl (Nat.le_of_ble_eq_true rfl) ?_
  intro p e s m below meth c ls hx hb hml hr hlk hnm hown hts hK hN hm hl
  have hE : ME "ChainPicker" (.code yC_isVersion cC_isVersion 1 (some .boolean)) _ s m D (TYS cI cZ cL) := ⟨hown, hts, hK, hN⟩
  have hl : lv_has ls 1 [(0, .int (x))] := hl
  refine lv_iload_n hx hb dC_isVersion_0 rfl (lv_at hl 0 rfl) ?_
  refine lv_if_lt (tgt := 14) hx hb dC_isVersion_1 (by decide) (fun c_1 => ?_) (fun c_1 => ?_)
  · refine lv_iconst (v := 0) hx hb dC_isVersion_14 (by decide) ?_
    exact mretz hx hb hr (by decide +kernel) hlk hm ⟨by simp_all [bI, isF, ← Int32.not_lt], rfl⟩ dC_isVersion_15
  · refine lv_iload_n hx hb dC_isVersion_4 rfl (lv_at hl 0 rfl) ?_
    refine lv_ldc (v := 1000000) hx hb hE.1 (hE.2.1 _ (List.mem_cons_of_mem _ q_122)) dC_isVersion_5 ?_
    refine lv_icmp_gt (tgt := 14) hx hb dC_isVersion_7 (by decide) (fun c_7 => ?_) (fun c_7 => ?_)
    · refine lv_iconst (v := 0) hx hb dC_isVersion_14 (by decide) ?_
      exact mretz hx hb hr (by decide +kernel) hlk hm ⟨by simp_all [bI, isF, ← Int32.not_lt], rfl⟩ dC_isVersion_15
    · refine lv_iconst (v := 1) hx hb dC_isVersion_10 (by decide) ?_
      refine lv_goto (tgt := 15) hx hb dC_isVersion_11 (by decide) ?_
      exact mretz hx hb hr (by decide +kernel) hlk hm ⟨by simp_all [bI, isF, ← Int32.not_lt], rfl⟩ dC_isVersion_15
set_option maxHeartbeats 4000000 in
set_option maxRecDepth 100000 in
theorem kC_isUsable (l : Launch) (B : Nat) (D : va_G) (cI cZ cL : ClassId) (w : Wd) (a : Nat) (x0 x1 x2 x3 : Int32) (x4 : Option Nat) (x5 : Int32) (x6 : Option Nat) (x7 : Nat) (x8 x9 x10 x11 : Int32) (ha : w a = some (.inr (0, [.int (x0), .int (x1), .int (x2), .int (x3), va_rf (x4), .int (x5), va_rf (x6), .ref (x7), .int (x8), .int (x9), .int (x10), .int (x11)]))) : Met l yC_isUsable (.code yC_isUsable cC_isUsable 1 (some .boolean) :: BIG) { frames := 0, cells := 0, slots := 0, locals := 0 } (va_Pc [.ref (a)] (mP B D CLS (TYS cI cZ cL) NEST w)) (va_Qi (fun r u => r = bI (decide (x9 = 1) && decide (x10 = 0)) ∧ u = w) (mE B D CLS) (fun q => B ≤ q)) 0 0 (fun q => B ≤ q) := by
  refine mMet (by decide) rfl (Nat.le_of_ble_eq_true rfl) ?_
  intro p e s m below meth c ls hx hb hml hr hlk hnm hown hts hK hN hm hl
  have hE : ME "ChainPicker" (.code yC_isUsable cC_isUsable 1 (some .boolean)) _ s m D (TYS cI cZ cL) := ⟨hown, hts, hK, hN⟩
  have hl : lv_has ls 1 [(0, .ref (a))] := hl
  refine lv_aload_n hx hb dC_isUsable_0 rfl (lv_at hl 0 rfl) ?_
  refine g_C_J_57 (v := .int (x9)) hx hb hE hm ha rfl dC_isUsable_1 ?_
  refine lv_iconst (v := 1) hx hb dC_isUsable_4 (by decide) ?_
  refine lv_icmp_ne (tgt := 19) hx hb dC_isUsable_5 (by decide) (fun c_5 => ?_) (fun c_5 => ?_)
  · refine lv_iconst (v := 0) hx hb dC_isUsable_19 (by decide) ?_
    exact mretz hx hb hr (by decide +kernel) hlk hm ⟨by simp_all [bI], rfl⟩ dC_isUsable_20
  · refine lv_aload_n hx hb dC_isUsable_8 rfl (lv_at hl 0 rfl) ?_
    refine g_C_J_121 (v := .int (x10)) hx hb hE hm ha rfl dC_isUsable_9 ?_
    refine lv_if_ne (tgt := 19) hx hb dC_isUsable_12 (by decide) (fun c_12 => ?_) (fun c_12 => ?_)
    · refine lv_iconst (v := 0) hx hb dC_isUsable_19 (by decide) ?_
      exact mretz hx hb hr (by decide +kernel) hlk hm ⟨by simp_all [bI], rfl⟩ dC_isUsable_20
    · refine lv_iconst (v := 1) hx hb dC_isUsable_15 (by decide) ?_
      refine lv_goto (tgt := 20) hx hb dC_isUsable_16 (by decide) ?_
      exact mretz hx hb hr (by decide +kernel) hlk hm ⟨by simp_all [bI], rfl⟩ dC_isUsable_20
set_option maxHeartbeats 4000000 in
set_option maxRecDepth 100000 in
theorem kC_isFree (l : Launch) (B : Nat) (D : va_G) (cI cZ cL : ClassId) (w : Wd) (a : Nat) (x0 x1 x2 x3 : Int32) (x4 : Option Nat) (x5 : Int32) (x6 : Option Nat) (x7 : Nat) (x8 x9 x10 x11 : Int32) (ha : w a = some (.inr (0, [.int (x0), .int (x1), .int (x2), .int (x3), va_rf (x4), .int (x5), va_rf (x6), .ref (x7), .int (x8), .int (x9), .int (x10), .int (x11)]))) : Met l yC_isFree (.code yC_isFree cC_isFree 1 (some .boolean) :: BIG) { frames := 0, cells := 0, slots := 0, locals := 0 } (va_Pc [.ref (a)] (mP B D CLS (TYS cI cZ cL) NEST w)) (va_Qi (fun r u => r = bI (decide (x9 ≠ 0) && decide (x10 = 0) && decide (x11 = 0)) ∧ u = w) (mE B D CLS) (fun q => B ≤ q)) 0 0 (fun q => B ≤ q) := by
  refine mMet (by decide) rfl (Nat.le_of_ble_eq_true rfl) ?_
  intro p e s m below meth c ls hx hb hml hr hlk hnm hown hts hK hN hm hl
  have hE : ME "ChainPicker" (.code yC_isFree cC_isFree 1 (some .boolean)) _ s m D (TYS cI cZ cL) := ⟨hown, hts, hK, hN⟩
  have hl : lv_has ls 1 [(0, .ref (a))] := hl
  refine lv_aload_n hx hb dC_isFree_0 rfl (lv_at hl 0 rfl) ?_
  refine g_C_J_57 (v := .int (x9)) hx hb hE hm ha rfl dC_isFree_1 ?_
  refine lv_if_eq (tgt := 25) hx hb dC_isFree_4 (by decide) (fun c_4 => ?_) (fun c_4 => ?_)
  · refine lv_iconst (v := 0) hx hb dC_isFree_25 (by decide) ?_
    exact mretz hx hb hr (by decide +kernel) hlk hm ⟨by simp_all [bI], rfl⟩ dC_isFree_26
  · refine lv_aload_n hx hb dC_isFree_7 rfl (lv_at hl 0 rfl) ?_
    refine g_C_J_121 (v := .int (x10)) hx hb hE hm ha rfl dC_isFree_8 ?_
    refine lv_if_ne (tgt := 25) hx hb dC_isFree_11 (by decide) (fun c_11 => ?_) (fun c_11 => ?_)
    · refine lv_iconst (v := 0) hx hb dC_isFree_25 (by decide) ?_
      exact mretz hx hb hr (by decide +kernel) hlk hm ⟨by simp_all [bI], rfl⟩ dC_isFree_26
    · refine lv_aload_n hx hb dC_isFree_14 rfl (lv_at hl 0 rfl) ?_
      refine g_C_J_42 (v := .int (x11)) hx hb hE hm ha rfl dC_isFree_15 ?_
      refine lv_if_ne (tgt := 25) hx hb dC_isFree_18 (by decide) (fun c_18 => ?_) (fun c_18 => ?_)
      · refine lv_iconst (v := 0) hx hb dC_isFree_25 (by decide) ?_
        exact mretz hx hb hr (by decide +kernel) hlk hm ⟨by simp_all [bI], rfl⟩ dC_isFree_26
      · refine lv_iconst (v := 1) hx hb dC_isFree_21 (by decide) ?_
        refine lv_goto (tgt := 26) hx hb dC_isFree_22 (by decide) ?_
        exact mretz hx hb hr (by decide +kernel) hlk hm ⟨by simp_all [bI], rfl⟩ dC_isFree_26
