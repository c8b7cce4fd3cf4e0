set_option maxHeartbeats 4000000 in
set_option maxRecDepth 100000 in
/-- drop(job): pruned, its versions gone, its base has one less -/
theorem kC_drop (l : Launch) (B : Nat) (D : va_G) (cI cZ cL : ClassId) (w : Wd) (o : Nat) (ad va : Nat → Nat) (now : Int32) (n : Nat) (J : Nat → Jr) (hR : cR cI o ad va now n J w) (i : Nat) (hi : i < n) (hp : jPr (J i) = false) : Met l yC_drop (.code yC_drop cC_drop 1 none :: BIG) { frames := 1, cells := 0, slots := 0, locals := 23 } (va_Pc [.ref (ad i)] (mP B D CLS (TYS cI cZ cL) NEST w)) (va_Qv (fun u => cR cI o ad va now n (drJ J i) u ∧ cK o ad va n w u) (mE B D CLS) (fun q => B ≤ q)) 0 0 (fun q => B ≤ q) := by
  cases hb0 : jBs (J i) with
  | none =>
    refine mMet (by decide) rfl (Nat.le_of_ble_eq_true rfl) ?_
    intro p e s m below meth c ls hx hb hml hr hlk hnm hown hts hK hN hm hl
    have hE : ME "ChainPicker" (.code yC_drop cC_drop 1 none) _ s m D (TYS cI cZ cL) := ⟨hown, hts, hK, hN⟩
    have hl : lv_has ls 1 [(0, .ref (ad i))] := hl
    have hA : w (ad i) = some (.inr (0, [.int (nI i), .int (jSer (J i)), .int (jLev (J i)), .int (bI (jUp (J i))), .null, .int (jBg (J i)), va_rf (prv ad i), .ref (va i), .int (jEn (J i)), .int (jSt (J i)), .int (bI (jPr (J i))), .int (nI (sd n J i))])) := by have h := hR.2.1 i hi; rw [jL, hb0] at h; exact h
    refine lv_aload_n hx hb dC_drop_0 rfl (lv_at hl 0 rfl) ?_
    refine lv_iconst (v := 1) hx hb dC_drop_1 (by decide) ?_
    refine p_C_J_121 (x := 1) hx hb hE hm hA (by simp) (by decide) dC_drop_2 (fun H locs hm => ?_)
    obtain ⟨w1, hhw1⟩ : ∃ z : Wd, z = wset w (ad i) (.inr (0, [.int (nI i), .int (jSer (J i)), .int (jLev (J i)), .int (bI (jUp (J i))), .null, .int (jBg (J i)), va_rf (prv ad i), .ref (va i), .int (jEn (J i)), .int (jSt (J i)), .int (1), .int (nI (sd n J i))])) := ⟨_, rfl⟩
    have hm : mS B D CLS s.heap w1 H locs := by rw [hhw1]; exact hm
    have hw1 : w1 = wset (w) (ad i) (.inr (0, [.int (nI i), .int (jSer (J i)), .int (jLev (J i)), .int (bI (jUp (J i))), .null, .int (jBg (J i)), va_rf (prv ad i), .ref (va i), .int (jEn (J i)), .int (jSt (J i)), .int (1), .int (nI (sd n J i))])) := by rw [hhw1]
    have fw1 : w1 (ad i) = some (.inr (0, [.int (nI i), .int (jSer (J i)), .int (jLev (J i)), .int (bI (jUp (J i))), .null, .int (jBg (J i)), va_rf (prv ad i), .ref (va i), .int (jEn (J i)), .int (jSt (J i)), .int (1), .int (nI (sd n J i))])) := by rw [hhw1]; exact wset_at _ _ _
    have fw1_1 := (show w1 (va i) = w (va i) by rw [hhw1]; exact wset_ne (hR.vaad hi hi)).trans (hR.2.2.1 i hi)
    refine lv_aload_n hx hb dC_drop_5 rfl (lv_at hl 0 rfl) ?_
    refine g_C_J_69 (v := .ref (va i)) hx hb hE hm fw1 rfl dC_drop_6 ?_
    refine lv_bipush (v := (-2)) hx hb dC_drop_9 (by decide) ?_
    refine mcallv (mcS (n := 2) (As := [.ref (va i), .int ((-2))]) (rest := []) hx hb hml hE (kF_fill l B D cI cZ cL w1 (va i) (-2) 50 (jVr (J i)) (by decide) fw1_1) q_163 q_56 q_8 q_57 rfl rfl (by decide +kernel) ⟨Nat.le_of_ble_eq_true rfl, Nat.le_of_ble_eq_true rfl⟩ rfl hl.1 hm rfl (Nat.le_of_ble_eq_true rfl) dC_drop_11 ⟨Nat.le_of_ble_eq_true rfl, Nat.le_of_ble_eq_true rfl⟩) hm (fun u2 H locs hp2 hm => ?_)
    rw [hp2] at hm
    obtain ⟨w2, hhw2⟩ : ∃ z : Wd, z = wset w1 (va i) (.inl (cI, 50, .inl (fun _ => -2))) := ⟨_, rfl⟩
    have hm : mS B D CLS s.heap w2 H locs := by rw [hhw2]; exact hm
    have hw2 : w2 = wset (wset (w) (ad i) (.inr (0, [.int (nI i), .int (jSer (J i)), .int (jLev (J i)), .int (bI (jUp (J i))), .null, .int (jBg (J i)), va_rf (prv ad i), .ref (va i), .int (jEn (J i)), .int (jSt (J i)), .int (1), .int (nI (sd n J i))]))) (va i) (.inl (cI, 50, .inl (fun _ => -2))) := by rw [hhw2, hw1]
    have fw2 : w2 (va i) = some (.inl (cI, 50, .inl (fun _ => -2))) := by rw [hhw2]; exact wset_at _ _ _
    have fw2_1 := (show w2 (ad i) = w1 (ad i) by rw [hhw2]; exact wset_ne (Ne.symm (hR.vaad hi hi))).trans fw1
    refine lv_aload_n hx hb dC_drop_14 rfl (lv_at hl 0 rfl) ?_
    refine g_C_J_79 (v := .null) hx hb hE hm fw2_1 rfl dC_drop_15 ?_
    refine lv_ifnullN (tgt := 34) hx hb dC_drop_18 (by decide) ?_
    exact mretv hx hb hr hlk hm (by rw [hw2]; have h := hR.drop0 hi hp hb0; rw [hb0] at h; exact ⟨h, (cK.rf.set (cF_ad hi)).set (cF_va hi)⟩) dC_drop_34
  | some b =>
    refine mMet (by decide) rfl (Nat.le_of_ble_eq_true rfl) ?_
    intro p e s m below meth c ls hx hb hml hr hlk hnm hown hts hK hN hm hl
    have hE : ME "ChainPicker" (.code yC_drop cC_drop 1 none) _ s m D (TYS cI cZ cL) := ⟨hown, hts, hK, hN⟩
    have hl : lv_has ls 1 [(0, .ref (ad i))] := hl
    have hbn : b < n := Nat.lt_trans (hR.bs hi hb0) hi
    have hbi : b ≠ i := Nat.ne_of_lt (hR.bs hi hb0)
    have hA : w (ad i) = some (.inr (0, [.int (nI i), .int (jSer (J i)), .int (jLev (J i)), .int (bI (jUp (J i))), .ref (ad b), .int (jBg (J i)), va_rf (prv ad i), .ref (va i), .int (jEn (J i)), .int (jSt (J i)), .int (bI (jPr (J i))), .int (nI (sd n J i))])) := by have h := hR.2.1 i hi; rw [jL, hb0] at h; exact h
    refine lv_aload_n hx hb dC_drop_0 rfl (lv_at hl 0 rfl) ?_
    refine lv_iconst (v := 1) hx hb dC_drop_1 (by decide) ?_
    refine p_C_J_121 (x := 1) hx hb hE hm hA (by simp) (by decide) dC_drop_2 (fun H locs hm => ?_)
    obtain ⟨w1, hhw1⟩ : ∃ z : Wd, z = wset w (ad i) (.inr (0, [.int (nI i), .int (jSer (J i)), .int (jLev (J i)), .int (bI (jUp (J i))), .ref (ad b), .int (jBg (J i)), va_rf (prv ad i), .ref (va i), .int (jEn (J i)), .int (jSt (J i)), .int (1), .int (nI (sd n J i))])) := ⟨_, rfl⟩
    have hm : mS B D CLS s.heap w1 H locs := by rw [hhw1]; exact hm
    have hw1 : w1 = wset (w) (ad i) (.inr (0, [.int (nI i), .int (jSer (J i)), .int (jLev (J i)), .int (bI (jUp (J i))), .ref (ad b), .int (jBg (J i)), va_rf (prv ad i), .ref (va i), .int (jEn (J i)), .int (jSt (J i)), .int (1), .int (nI (sd n J i))])) := by rw [hhw1]
    have fw1 : w1 (ad i) = some (.inr (0, [.int (nI i), .int (jSer (J i)), .int (jLev (J i)), .int (bI (jUp (J i))), .ref (ad b), .int (jBg (J i)), va_rf (prv ad i), .ref (va i), .int (jEn (J i)), .int (jSt (J i)), .int (1), .int (nI (sd n J i))])) := by rw [hhw1]; exact wset_at _ _ _
    have fw1_1 := (show w1 (va i) = w (va i) by rw [hhw1]; exact wset_ne (hR.vaad hi hi)).trans (hR.2.2.1 i hi)
    have fw1_2 := (show w1 (ad b) = w (ad b) by rw [hhw1]; exact wset_ne (hR.adad hbn hi hbi)).trans (hR.2.1 b hbn)
    refine lv_aload_n hx hb dC_drop_5 rfl (lv_at hl 0 rfl) ?_
    refine g_C_J_69 (v := .ref (va i)) hx hb hE hm fw1 rfl dC_drop_6 ?_
    refine lv_bipush (v := (-2)) hx hb dC_drop_9 (by decide) ?_
    refine mcallv (mcS (n := 2) (As := [.ref (va i), .int ((-2))]) (rest := []) hx hb hml hE (kF_fill l B D cI cZ cL w1 (va i) (-2) 50 (jVr (J i)) (by decide) fw1_1) q_163 q_56 q_8 q_57 rfl rfl (by decide +kernel) ⟨Nat.le_of_ble_eq_true rfl, Nat.le_of_ble_eq_true rfl⟩ rfl hl.1 hm rfl (Nat.le_of_ble_eq_true rfl) dC_drop_11 ⟨Nat.le_of_ble_eq_true rfl, Nat.le_of_ble_eq_true rfl⟩) hm (fun u2 H locs hp2 hm => ?_)
    rw [hp2] at hm
    obtain ⟨w2, hhw2⟩ : ∃ z : Wd, z = wset w1 (va i) (.inl (cI, 50, .inl (fun _ => -2))) := ⟨_, rfl⟩
    have hm : mS B D CLS s.heap w2 H locs := by rw [hhw2]; exact hm
    have hw2 : w2 = wset (wset (w) (ad i) (.inr (0, [.int (nI i), .int (jSer (J i)), .int (jLev (J i)), .int (bI (jUp (J i))), .ref (ad b), .int (jBg (J i)), va_rf (prv ad i), .ref (va i), .int (jEn (J i)), .int (jSt (J i)), .int (1), .int (nI (sd n J i))]))) (va i) (.inl (cI, 50, .inl (fun _ => -2))) := by rw [hhw2, hw1]
    have fw2 : w2 (va i) = some (.inl (cI, 50, .inl (fun _ => -2))) := by rw [hhw2]; exact wset_at _ _ _
    have fw2_1 := (show w2 (ad i) = w1 (ad i) by rw [hhw2]; exact wset_ne (Ne.symm (hR.vaad hi hi))).trans fw1
    have fw2_2 := (show w2 (ad b) = w1 (ad b) by rw [hhw2]; exact wset_ne (Ne.symm (hR.vaad hi hbn))).trans fw1_2
    refine lv_aload_n hx hb dC_drop_14 rfl (lv_at hl 0 rfl) ?_
    refine g_C_J_79 (v := .ref (ad b)) hx hb hE hm fw2_1 rfl dC_drop_15 ?_
    refine lv_ifnull hx hb dC_drop_18 ?_
    refine lv_aload_n hx hb dC_drop_21 rfl (lv_at hl 0 rfl) ?_
    refine g_C_J_79 (v := .ref (ad b)) hx hb hE hm fw2_1 rfl dC_drop_22 ?_
    refine lv_dup hx hb dC_drop_25 rfl ?_
    refine g_C_J_42 (v := .int (nI (sd n J b))) hx hb hE hm fw2_2 rfl dC_drop_26 ?_
    refine lv_iconst (v := 1) hx hb dC_drop_29 (by decide) ?_
    refine lv_isub hx hb dC_drop_30 ?_
    refine p_C_J_42 (x := (nI (sd n J b)) - (1)) hx hb hE hm fw2_2 (by simp) dC_drop_31 (fun H locs hm => ?_)
    obtain ⟨w3, hhw3⟩ : ∃ z : Wd, z = wset w2 (ad b) (.inr (0, [.int (nI b), .int (jSer (J b)), .int (jLev (J b)), .int (bI (jUp (J b))), va_rf ((jBs (J b)).map ad), .int (jBg (J b)), va_rf (prv ad b), .ref (va b), .int (jEn (J b)), .int (jSt (J b)), .int (bI (jPr (J b))), .int ((nI (sd n J b)) - (1))])) := ⟨_, rfl⟩
    have hm : mS B D CLS s.heap w3 H locs := by rw [hhw3]; exact hm
    have hw3 : w3 = wset (wset (wset (w) (ad i) (.inr (0, [.int (nI i), .int (jSer (J i)), .int (jLev (J i)), .int (bI (jUp (J i))), .ref (ad b), .int (jBg (J i)), va_rf (prv ad i), .ref (va i), .int (jEn (J i)), .int (jSt (J i)), .int (1), .int (nI (sd n J i))]))) (va i) (.inl (cI, 50, .inl (fun _ => -2)))) (ad b) (.inr (0, [.int (nI b), .int (jSer (J b)), .int (jLev (J b)), .int (bI (jUp (J b))), va_rf ((jBs (J b)).map ad), .int (jBg (J b)), va_rf (prv ad b), .ref (va b), .int (jEn (J b)), .int (jSt (J b)), .int (bI (jPr (J b))), .int ((nI (sd n J b)) - (1))])) := by rw [hhw3, hw2]
    have fw3 : w3 (ad b) = some (.inr (0, [.int (nI b), .int (jSer (J b)), .int (jLev (J b)), .int (bI (jUp (J b))), va_rf ((jBs (J b)).map ad), .int (jBg (J b)), va_rf (prv ad b), .ref (va b), .int (jEn (J b)), .int (jSt (J b)), .int (bI (jPr (J b))), .int ((nI (sd n J b)) - (1))])) := by rw [hhw3]; exact wset_at _ _ _
    have fw3_1 := (show w3 (va i) = w2 (va i) by rw [hhw3]; exact wset_ne (hR.vaad hi hbn)).trans fw2
    have fw3_2 := (show w3 (ad i) = w2 (ad i) by rw [hhw3]; exact wset_ne (Ne.symm (hR.adad hbn hi hbi))).trans fw2_1
    exact mretv hx hb hr hlk hm (by rw [hw3]; have h := hR.drop1 hi hp hb0; rw [hb0] at h; exact ⟨h, ((cK.rf.set (cF_ad hi)).set (cF_va hi)).set (cF_ad hbn)⟩) dC_drop_34
