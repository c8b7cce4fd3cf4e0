set_option maxHeartbeats 4000000 in
set_option maxRecDepth 100000 in
theorem kC_findJob (l : Launch) (B : Nat) (D : va_G) (cI cZ cL : ClassId) (w : Wd) (o : Nat) (ad va : Nat → Nat) (now : Int32) (n : Nat) (J : Nat → Jr) (hR : cR cI o ad va now n J w) (x : Int32) : Met l yC_findJob (.code yC_findJob cC_findJob 3 (some (.object "ChainPicker$Job")) :: BIG) { frames := 0, cells := 0, slots := 0, locals := 0 } (va_Pc [.ref (o), .int (x)] (mP B D CLS (TYS cI cZ cL) NEST w)) (va_Qq (fun r u => r = (fJ n x).map ad ∧ u = w) (mE B D CLS) (fun q => B ≤ q)) 0 0 (fun q => B ≤ q) := by
  refine mMet (by decide) rfl (Nat.le_of_ble_eq_true rfl) ?_
  intro p e s m below meth c ls hx hb hml hr hlk hnm hown hts hK hN hm hl
  have hE : ME "ChainPicker" (.code yC_findJob cC_findJob 3 (some (.object "ChainPicker$Job"))) _ s m D (TYS cI cZ cL) := ⟨hown, hts, hK, hN⟩
  have hl : lv_has ls 3 [(0, .ref (o)), (1, .int (x))] := hl
  have loop : ∀ k, k ≤ n → lastI (fun j => decide (nI j = x)) n = lastI (fun j => decide (nI j = x)) k → ∀ (H : Heap) (locs : List Loc) (ls : Array Slot), mS B D CLS s.heap w H locs → lv_has ls 3 [(2, va_rf (prv ad k)), (0, .ref (o)), (1, .int (x))] → W p l e ({ frames := 0, cells := 0, slots := 0, locals := 0 }) s m [.ref (o), .int (x)].toArray below meth c H locs 0 0 (MQ below (va_Qq (fun r u => r = (fJ n x).map ad ∧ u = w) (mE B D CLS) (fun q => B ≤ q)) [.ref (o), .int (x)].toArray s 0 0 (fun q => B ≤ q)) (F0 m 5 ls []) := by
    intro k
    induction k with
    | zero =>
      intro hk heq H locs ls hm hl
      have hl : lv_has ls 3 [(2, .null), (0, .ref (o)), (1, .int (x))] := hl
      refine lv_aload_nN hx hb dC_findJob_5 rfl (lv_at hl 0 rfl) ?_
      refine lv_ifnullN (tgt := 27) hx hb dC_findJob_6 (by decide) ?_
      refine lv_null hx hb dC_findJob_27 ?_
      exact mretq (r := none) hx hb hr (Or.inl ⟨_, rfl⟩) hlk hm ⟨by rw [fJ, heq]; rfl, rfl⟩ dC_findJob_28
    | succ k ih =>
      intro hk heq H locs ls hm hl
      have hl : lv_has ls 3 [(2, .ref (ad k)), (0, .ref (o)), (1, .int (x))] := hl
      have hk1 : k < n := hk
      refine lv_aload_n hx hb dC_findJob_5 rfl (lv_at hl 0 rfl) ?_
      refine lv_ifnull hx hb dC_findJob_6 ?_
      refine lv_aload_n hx hb dC_findJob_9 rfl (lv_at hl 0 rfl) ?_
      refine g_C_J_50 (v := .int (nI k)) hx hb hE hm (hR.2.1 k hk1) rfl dC_findJob_10 ?_
      refine lv_iload_n hx hb dC_findJob_13 rfl (lv_at hl 2 rfl) ?_
      refine lv_icmp_ne (tgt := 19) hx hb dC_findJob_14 (by decide) (fun c_14 => ?_) (fun c_14 => ?_)
      · refine lv_aload_n hx hb dC_findJob_19 rfl (lv_at hl 0 rfl) ?_
        refine g_C_J_108 (v := va_rf (prv ad k)) hx hb hE hm (hR.2.1 k hk1) rfl dC_findJob_20 ?_
        refine mstoreR (lv' := [(2, va_rf (prv ad k)), (0, .ref (o)), (1, .int (x))]) hx hb dC_findJob_23 rfl hl (by decide) rfl (fun ls hl => ?_)
        refine lv_goto (tgt := 5) hx hb dC_findJob_24 (by decide) ?_
        exact ih (Nat.le_of_succ_le hk) (by rw [heq]; exact lastI_f (by simp [c_14, dec_0, bI_0, ← Int32.not_lt])) H locs ls hm (lv_sub hl [0, 1, 2] rfl)
      · refine lv_aload_n hx hb dC_findJob_17 rfl (lv_at hl 0 rfl) ?_
        exact mretq (r := some (ad k)) hx hb hr (Or.inl ⟨_, rfl⟩) hlk hm ⟨by rw [fJ, heq, lastI_t (by simp [c_14, dec_0, bI_0, ← Int32.not_lt])]; rfl, rfl⟩ dC_findJob_18
  refine lv_aload_n hx hb dC_findJob_0 rfl (lv_at hl 0 rfl) ?_
  refine g_C_C_16 (v := va_rf (prv ad n)) hx hb hE hm hR.1 rfl dC_findJob_1 ?_
  refine mstoreR (lv' := [(2, va_rf (prv ad n)), (0, .ref (o)), (1, .int (x))]) hx hb dC_findJob_4 rfl hl (by decide) rfl (fun ls hl => ?_)
  exact loop n (Nat.le_refl n) rfl _ _ ls hm hl
set_option maxHeartbeats 4000000 in
set_option maxRecDepth 100000 in
theorem kC_hasRunning (l : Launch) (B : Nat) (D : va_G) (cI cZ cL : ClassId) (w : Wd) (o : Nat) (ad va : Nat → Nat) (now : Int32) (n : Nat) (J : Nat → Jr) (hR : cR cI o ad va now n J w) (x : Int32) : Met l yC_hasRunning (.code yC_hasRunning cC_hasRunning 3 (some .boolean) :: BIG) { frames := 0, cells := 0, slots := 0, locals := 0 } (va_Pc [.ref (o), .int (x)] (mP B D CLS (TYS cI cZ cL) NEST w)) (va_Qi (fun r u => r = bI (hRun n J x) ∧ u = w) (mE B D CLS) (fun q => B ≤ q)) 0 0 (fun q => B ≤ q) := by
  refine mMet (by decide) rfl (Nat.le_of_ble_eq_true rfl) ?_
  intro p e s m below meth c ls hx hb hml hr hlk hnm hown hts hK hN hm hl
  have hE : ME "ChainPicker" (.code yC_hasRunning cC_hasRunning 3 (some .boolean)) _ s m D (TYS cI cZ cL) := ⟨hown, hts, hK, hN⟩
  have hl : lv_has ls 3 [(0, .ref (o)), (1, .int (x))] := hl
  have loop : ∀ k, k ≤ n → lastI (fun j => decide (jSer (J j) = x) && decide (jSt (J j) = 0)) n = lastI (fun j => decide (jSer (J j) = x) && decide (jSt (J j) = 0)) k → ∀ (H : Heap) (locs : List Loc) (ls : Array Slot), mS B D CLS s.heap w H locs → lv_has ls 3 [(2, va_rf (prv ad k)), (0, .ref (o)), (1, .int (x))] → W p l e ({ frames := 0, cells := 0, slots := 0, locals := 0 }) s m [.ref (o), .int (x)].toArray below meth c H locs 0 0 (MQ below (va_Qi (fun r u => r = bI (hRun n J x) ∧ u = w) (mE B D CLS) (fun q => B ≤ q)) [.ref (o), .int (x)].toArray s 0 0 (fun q => B ≤ q)) (F0 m 5 ls []) := by
    intro k
    induction k with
    | zero =>
      intro hk heq H locs ls hm hl
      have hl : lv_has ls 3 [(2, .null), (0, .ref (o)), (1, .int (x))] := hl
      refine lv_aload_nN hx hb dC_hasRunning_5 rfl (lv_at hl 0 rfl) ?_
      refine lv_ifnullN (tgt := 34) hx hb dC_hasRunning_6 (by decide) ?_
      refine lv_iconst (v := 0) hx hb dC_hasRunning_34 (by decide) ?_
      exact mretz hx hb hr (by decide +kernel) hlk hm ⟨by rw [hRun, heq]; rfl, rfl⟩ dC_hasRunning_35
    | succ k ih =>
      intro hk heq H locs ls hm hl
      have hl : lv_has ls 3 [(2, .ref (ad k)), (0, .ref (o)), (1, .int (x))] := hl
      have hk1 : k < n := hk
      refine lv_aload_n hx hb dC_hasRunning_5 rfl (lv_at hl 0 rfl) ?_
      refine lv_ifnull hx hb dC_hasRunning_6 ?_
      refine lv_aload_n hx hb dC_hasRunning_9 rfl (lv_at hl 0 rfl) ?_
      refine g_C_J_111 (v := .int (jSer (J k))) hx hb hE hm (hR.2.1 k hk1) rfl dC_hasRunning_10 ?_
      refine lv_iload_n hx hb dC_hasRunning_13 rfl (lv_at hl 2 rfl) ?_
      refine lv_icmp_ne (tgt := 26) hx hb dC_hasRunning_14 (by decide) (fun c_14 => ?_) (fun c_14 => ?_)
      · refine lv_aload_n hx hb dC_hasRunning_26 rfl (lv_at hl 0 rfl) ?_
        refine g_C_J_108 (v := va_rf (prv ad k)) hx hb hE hm (hR.2.1 k hk1) rfl dC_hasRunning_27 ?_
        refine mstoreR (lv' := [(2, va_rf (prv ad k)), (0, .ref (o)), (1, .int (x))]) hx hb dC_hasRunning_30 rfl hl (by decide) rfl (fun ls hl => ?_)
        refine lv_goto (tgt := 5) hx hb dC_hasRunning_31 (by decide) ?_
        exact ih (Nat.le_of_succ_le hk) (by rw [heq]; exact lastI_f (by simp [c_14, dec_0, bI_0, ← Int32.not_lt])) H locs ls hm (lv_sub hl [0, 1, 2] rfl)
      · refine lv_aload_n hx hb dC_hasRunning_17 rfl (lv_at hl 0 rfl) ?_
        refine g_C_J_57 (v := .int (jSt (J k))) hx hb hE hm (hR.2.1 k hk1) rfl dC_hasRunning_18 ?_
        refine lv_if_ne (tgt := 26) hx hb dC_hasRunning_21 (by decide) (fun c_21 => ?_) (fun c_21 => ?_)
        · refine lv_aload_n hx hb dC_hasRunning_26 rfl (lv_at hl 0 rfl) ?_
          refine g_C_J_108 (v := va_rf (prv ad k)) hx hb hE hm (hR.2.1 k hk1) rfl dC_hasRunning_27 ?_
          refine mstoreR (lv' := [(2, va_rf (prv ad k)), (0, .ref (o)), (1, .int (x))]) hx hb dC_hasRunning_30 rfl hl (by decide) rfl (fun ls hl => ?_)
          refine lv_goto (tgt := 5) hx hb dC_hasRunning_31 (by decide) ?_
          exact ih (Nat.le_of_succ_le hk) (by rw [heq]; exact lastI_f (by simp [c_14, c_21, dec_0, bI_0, ← Int32.not_lt])) H locs ls hm (lv_sub hl [0, 1, 2] rfl)
        · refine lv_iconst (v := 1) hx hb dC_hasRunning_24 (by decide) ?_
          exact mretz hx hb hr (by decide +kernel) hlk hm ⟨by rw [hRun, heq, lastI_t (by simp [c_14, c_21, dec_0, bI_0, ← Int32.not_lt])]; rfl, rfl⟩ dC_hasRunning_25
  refine lv_aload_n hx hb dC_hasRunning_0 rfl (lv_at hl 0 rfl) ?_
  refine g_C_C_16 (v := va_rf (prv ad n)) hx hb hE hm hR.1 rfl dC_hasRunning_1 ?_
  refine mstoreR (lv' := [(2, va_rf (prv ad n)), (0, .ref (o)), (1, .int (x))]) hx hb dC_hasRunning_4 rfl hl (by decide) rfl (fun ls hl => ?_)
  exact loop n (Nat.le_refl n) rfl _ _ ls hm hl
set_option maxHeartbeats 4000000 in
set_option maxRecDepth 100000 in
theorem kC_findHead (l : Launch) (B : Nat) (D : va_G) (cI cZ cL : ClassId) (w : Wd) (o : Nat) (ad va : Nat → Nat) (now : Int32) (n : Nat) (J : Nat → Jr) (hR : cR cI o ad va now n J w) (x : Int32) (t : Int32) : Met l yC_findHead (.code yC_findHead cC_findHead 4 (some (.object "ChainPicker$Job")) :: BIG) { frames := 1, cells := 0, slots := 0, locals := 20 } (va_Pc [.ref (o), .int (x), .int (t)] (mP B D CLS (TYS cI cZ cL) NEST w)) (va_Qq (fun r u => r = (hd n J x t).map ad ∧ u = w) (mE B D CLS) (fun q => B ≤ q)) 0 0 (fun q => B ≤ q) := by
  refine mMet (by decide) rfl (Nat.le_of_ble_eq_true rfl) ?_
  intro p e s m below meth c ls hx hb hml hr hlk hnm hown hts hK hN hm hl
  have hE : ME "ChainPicker" (.code yC_findHead cC_findHead 4 (some (.object "ChainPicker$Job"))) _ s m D (TYS cI cZ cL) := ⟨hown, hts, hK, hN⟩
  have hl : lv_has ls 4 [(0, .ref (o)), (1, .int (x)), (2, .int (t))] := hl
  have loop : ∀ k, k ≤ n → lastI (fun j => decide (jSer (J j) = x) && uz (J j) && decide (jEn (J j) ≤ t)) n = lastI (fun j => decide (jSer (J j) = x) && uz (J j) && decide (jEn (J j) ≤ t)) k → ∀ (H : Heap) (locs : List Loc) (ls : Array Slot), mS B D CLS s.heap w H locs → lv_has ls 4 [(3, va_rf (prv ad k)), (0, .ref (o)), (1, .int (x)), (2, .int (t))] → W p l e ({ frames := 1, cells := 0, slots := 0, locals := 20 }) s m [.ref (o), .int (x), .int (t)].toArray below meth c H locs 0 0 (MQ below (va_Qq (fun r u => r = (hd n J x t).map ad ∧ u = w) (mE B D CLS) (fun q => B ≤ q)) [.ref (o), .int (x), .int (t)].toArray s 0 0 (fun q => B ≤ q)) (F0 m 5 ls []) := by
    intro k
    induction k with
    | zero =>
      intro hk heq H locs ls hm hl
      have hl : lv_has ls 4 [(3, .null), (0, .ref (o)), (1, .int (x)), (2, .int (t))] := hl
      refine lv_aload_nN hx hb dC_findHead_5 rfl (lv_at hl 0 rfl) ?_
      refine lv_ifnullN (tgt := 42) hx hb dC_findHead_6 (by decide) ?_
      refine lv_null hx hb dC_findHead_42 ?_
      exact mretq (r := none) hx hb hr (Or.inl ⟨_, rfl⟩) hlk hm ⟨by rw [hd, heq]; rfl, rfl⟩ dC_findHead_43
    | succ k ih =>
      intro hk heq H locs ls hm hl
      have hl : lv_has ls 4 [(3, .ref (ad k)), (0, .ref (o)), (1, .int (x)), (2, .int (t))] := hl
      have hk1 : k < n := hk
      refine lv_aload_n hx hb dC_findHead_5 rfl (lv_at hl 0 rfl) ?_
      refine lv_ifnull hx hb dC_findHead_6 ?_
      refine lv_aload_n hx hb dC_findHead_9 rfl (lv_at hl 0 rfl) ?_
      refine g_C_J_111 (v := .int (jSer (J k))) hx hb hE hm (hR.2.1 k hk1) rfl dC_findHead_10 ?_
      refine lv_iload_n hx hb dC_findHead_13 rfl (lv_at hl 2 rfl) ?_
      refine lv_icmp_ne (tgt := 34) hx hb dC_findHead_14 (by decide) (fun c_14 => ?_) (fun c_14 => ?_)
      · refine lv_aload_n hx hb dC_findHead_34 rfl (lv_at hl 0 rfl) ?_
        refine g_C_J_108 (v := va_rf (prv ad k)) hx hb hE hm (hR.2.1 k hk1) rfl dC_findHead_35 ?_
        refine mstoreR (lv' := [(3, va_rf (prv ad k)), (0, .ref (o)), (1, .int (x)), (2, .int (t))]) hx hb dC_findHead_38 rfl hl (by decide) rfl (fun ls hl => ?_)
        refine lv_goto (tgt := 5) hx hb dC_findHead_39 (by decide) ?_
        exact ih (Nat.le_of_succ_le hk) (by rw [heq]; exact lastI_f (by simp [c_14, dec_0, bI_0, ← Int32.not_lt])) H locs ls hm (lv_sub hl [0, 1, 2, 3] rfl)
      · refine lv_aload_n hx hb dC_findHead_17 rfl (lv_at hl 0 rfl) ?_
        refine mcalli (mcS (n := 1) (As := [.ref (ad k)]) (rest := []) hx hb hml hE (kC_isUsable l B D cI cZ cL w (ad k) _ _ _ _ _ _ _ _ _ _ _ _ (hR.2.1 k hk1)) q_46 q_47 q_1 q_48 rfl rfl (by decide +kernel) ⟨Nat.le_of_ble_eq_true rfl, Nat.le_of_ble_eq_true rfl⟩ rfl hl.1 hm rfl (Nat.le_of_ble_eq_true rfl) dC_findHead_18 ⟨Nat.le_of_ble_eq_true rfl, Nat.le_of_ble_eq_true rfl⟩) hm (fun r1 u1 H locs hp1 hm => ?_)
        obtain ⟨hr1, hu1⟩ := hp1
        rw [hu1] at hm
        have hr1 := uz_r hr1
        refine lv_if_eq (tgt := 34) hx hb dC_findHead_21 (by decide) (fun c_21 => ?_) (fun c_21 => ?_)
        · rw [hr1, bI_0] at c_21
          refine lv_aload_n hx hb dC_findHead_34 rfl (lv_at hl 0 rfl) ?_
          refine g_C_J_108 (v := va_rf (prv ad k)) hx hb hE hm (hR.2.1 k hk1) rfl dC_findHead_35 ?_
          refine mstoreR (lv' := [(3, va_rf (prv ad k)), (0, .ref (o)), (1, .int (x)), (2, .int (t))]) hx hb dC_findHead_38 rfl hl (by decide) rfl (fun ls hl => ?_)
          refine lv_goto (tgt := 5) hx hb dC_findHead_39 (by decide) ?_
          exact ih (Nat.le_of_succ_le hk) (by rw [heq]; exact lastI_f (by simp [c_14, c_21, dec_0, bI_0, ← Int32.not_lt])) H locs ls hm (lv_sub hl [0, 1, 2, 3] rfl)
        · rw [hr1, bI_0] at c_21
          refine lv_aload_n hx hb dC_findHead_24 rfl (lv_at hl 0 rfl) ?_
          refine g_C_J_73 (v := .int (jEn (J k))) hx hb hE hm (hR.2.1 k hk1) rfl dC_findHead_25 ?_
          refine lv_iload_n hx hb dC_findHead_28 rfl (lv_at hl 3 rfl) ?_
          refine lv_icmp_gt (tgt := 34) hx hb dC_findHead_29 (by decide) (fun c_29 => ?_) (fun c_29 => ?_)
          · refine lv_aload_n hx hb dC_findHead_34 rfl (lv_at hl 0 rfl) ?_
            refine g_C_J_108 (v := va_rf (prv ad k)) hx hb hE hm (hR.2.1 k hk1) rfl dC_findHead_35 ?_
            refine mstoreR (lv' := [(3, va_rf (prv ad k)), (0, .ref (o)), (1, .int (x)), (2, .int (t))]) hx hb dC_findHead_38 rfl hl (by decide) rfl (fun ls hl => ?_)
            refine lv_goto (tgt := 5) hx hb dC_findHead_39 (by decide) ?_
            exact ih (Nat.le_of_succ_le hk) (by rw [heq]; exact lastI_f (by simp [c_14, c_21, c_29, dec_0, bI_0, ← Int32.not_lt])) H locs ls hm (lv_sub hl [0, 1, 2, 3] rfl)
          · refine lv_aload_n hx hb dC_findHead_32 rfl (lv_at hl 0 rfl) ?_
            exact mretq (r := some (ad k)) hx hb hr (Or.inl ⟨_, rfl⟩) hlk hm ⟨by rw [hd, heq, lastI_t (by simp [c_14, c_21, c_29, dec_0, bI_0, ← Int32.not_lt])]; rfl, rfl⟩ dC_findHead_33
  refine lv_aload_n hx hb dC_findHead_0 rfl (lv_at hl 0 rfl) ?_
  refine g_C_C_16 (v := va_rf (prv ad n)) hx hb hE hm hR.1 rfl dC_findHead_1 ?_
  refine mstoreR (lv' := [(3, va_rf (prv ad n)), (0, .ref (o)), (1, .int (x)), (2, .int (t))]) hx hb dC_findHead_4 rfl hl (by decide) rfl (fun ls hl => ?_)
  exact loop n (Nat.le_refl n) rfl _ _ ls hm hl
set_option maxHeartbeats 4000000 in
set_option maxRecDepth 100000 in
theorem kC_countRunning (l : Launch) (B : Nat) (D : va_G) (cI cZ cL : ClassId) (w : Wd) (o : Nat) (ad va : Nat → Nat) (now : Int32) (n : Nat) (J : Nat → Jr) (hR : cR cI o ad va now n J w) : Met l yC_countRunning (.code yC_countRunning cC_countRunning 3 (some .int) :: BIG) { frames := 0, cells := 0, slots := 0, locals := 0 } (va_Pc [.ref (o)] (mP B D CLS (TYS cI cZ cL) NEST w)) (va_Qi (fun r u => r = nI (cnt (fun j => decide (jSt (J j) = 0)) n) ∧ u = w) (mE B D CLS) (fun q => B ≤ q)) 0 0 (fun q => B ≤ q) := by
  refine mMet (by decide) rfl (Nat.le_of_ble_eq_true rfl) ?_
  intro p e s m below meth c ls hx hb hml hr hlk hnm hown hts hK hN hm hl
  have hE : ME "ChainPicker" (.code yC_countRunning cC_countRunning 3 (some .int)) _ s m D (TYS cI cZ cL) := ⟨hown, hts, hK, hN⟩
  have hl : lv_has ls 3 [(0, .ref (o))] := hl
  have loop : ∀ k, k ≤ n → ∀ (x : Int32), x + nI (cnt (fun j => decide (jSt (J j) = 0)) k) = nI (cnt (fun j => decide (jSt (J j) = 0)) n) → ∀ (H : Heap) (locs : List Loc) (ls : Array Slot), mS B D CLS s.heap w H locs → lv_has ls 3 [(2, va_rf (prv ad k)), (1, .int (x)), (0, .ref (o))] → W p l e ({ frames := 0, cells := 0, slots := 0, locals := 0 }) s m [.ref (o)].toArray below meth c H locs 0 0 (MQ below (va_Qi (fun r u => r = nI (cnt (fun j => decide (jSt (J j) = 0)) n) ∧ u = w) (mE B D CLS) (fun q => B ≤ q)) [.ref (o)].toArray s 0 0 (fun q => B ≤ q)) (F0 m 7 ls []) := by
    intro k
    induction k with
    | zero =>
      intro hk x hx0 H locs ls hm hl
      have hl : lv_has ls 3 [(2, .null), (1, .int (x)), (0, .ref (o))] := hl
      refine lv_aload_nN hx hb dC_countRunning_7 rfl (lv_at hl 0 rfl) ?_
      refine lv_ifnullN (tgt := 29) hx hb dC_countRunning_8 (by decide) ?_
      refine lv_iload_n hx hb dC_countRunning_29 rfl (lv_at hl 1 rfl) ?_
      exact mreti hx hb hr hlk hm ⟨cntI_0 hx0, rfl⟩ dC_countRunning_30
    | succ k ih =>
      intro hk x hx0 H locs ls hm hl
      have hl : lv_has ls 3 [(2, .ref (ad k)), (1, .int (x)), (0, .ref (o))] := hl
      have hk1 : k < n := hk
      refine lv_aload_n hx hb dC_countRunning_7 rfl (lv_at hl 0 rfl) ?_
      refine lv_ifnull hx hb dC_countRunning_8 ?_
      refine lv_aload_n hx hb dC_countRunning_11 rfl (lv_at hl 0 rfl) ?_
      refine g_C_J_57 (v := .int (jSt (J k))) hx hb hE hm (hR.2.1 k hk1) rfl dC_countRunning_12 ?_
      refine lv_if_ne (tgt := 21) hx hb dC_countRunning_15 (by decide) (fun c_15 => ?_) (fun c_15 => ?_)
      · refine lv_aload_n hx hb dC_countRunning_21 rfl (lv_at hl 0 rfl) ?_
        refine g_C_J_108 (v := va_rf (prv ad k)) hx hb hE hm (hR.2.1 k hk1) rfl dC_countRunning_22 ?_
        refine mstoreR (lv' := [(2, va_rf (prv ad k)), (1, .int (x)), (0, .ref (o))]) hx hb dC_countRunning_25 rfl hl (by decide) rfl (fun ls hl => ?_)
        refine lv_goto (tgt := 7) hx hb dC_countRunning_26 (by decide) ?_
        exact ih (Nat.le_of_succ_le hk) (x) (cntI_f hx0 (by simp [c_15, dec_0, bI_0, ← Int32.not_lt])) H locs ls hm (lv_sub hl [0, 1, 2] rfl)
      · refine lv_iinc (v := x + 1) (lv' := [(1, .int (x + 1)), (2, .ref (ad k)), (0, .ref (o))]) hx hb dC_countRunning_18 hl (k := 1) rfl rfl (by decide) rfl (fun ls hl => ?_)
        refine lv_aload_n hx hb dC_countRunning_21 rfl (lv_at hl 1 rfl) ?_
        refine g_C_J_108 (v := va_rf (prv ad k)) hx hb hE hm (hR.2.1 k hk1) rfl dC_countRunning_22 ?_
        refine mstoreR (lv' := [(2, va_rf (prv ad k)), (1, .int (x + 1)), (0, .ref (o))]) hx hb dC_countRunning_25 rfl hl (by decide) rfl (fun ls hl => ?_)
        refine lv_goto (tgt := 7) hx hb dC_countRunning_26 (by decide) ?_
        exact ih (Nat.le_of_succ_le hk) (x + 1) (cntI_t hx0 (by simp [c_15, dec_0, bI_0, ← Int32.not_lt])) H locs ls hm (lv_sub hl [0, 1, 2] rfl)
  refine lv_iconst (v := 0) hx hb dC_countRunning_0 (by decide) ?_
  refine lv_istore_n (lv' := [(1, .int (0)), (0, .ref (o))]) hx hb dC_countRunning_1 rfl hl (by decide) rfl (fun ls hl => ?_)
  refine lv_aload_n hx hb dC_countRunning_2 rfl (lv_at hl 1 rfl) ?_
  refine g_C_C_16 (v := va_rf (prv ad n)) hx hb hE hm hR.1 rfl dC_countRunning_3 ?_
  refine mstoreR (lv' := [(2, va_rf (prv ad n)), (1, .int (0)), (0, .ref (o))]) hx hb dC_countRunning_6 rfl hl (by decide) rfl (fun ls hl => ?_)
  exact loop n (Nat.le_refl n) 0 (by simp) _ _ ls hm hl
set_option maxHeartbeats 4000000 in
set_option maxRecDepth 100000 in
theorem kC_countPruned (l : Launch) (B : Nat) (D : va_G) (cI cZ cL : ClassId) (w : Wd) (o : Nat) (ad va : Nat → Nat) (now : Int32) (n : Nat) (J : Nat → Jr) (hR : cR cI o ad va now n J w) : Met l yC_countPruned (.code yC_countPruned cC_countPruned 3 (some .int) :: BIG) { frames := 0, cells := 0, slots := 0, locals := 0 } (va_Pc [.ref (o)] (mP B D CLS (TYS cI cZ cL) NEST w)) (va_Qi (fun r u => r = nI (cnt (fun j => jPr (J j)) n) ∧ u = w) (mE B D CLS) (fun q => B ≤ q)) 0 0 (fun q => B ≤ q) := by
  refine mMet (by decide) rfl (Nat.le_of_ble_eq_true rfl) ?_
  intro p e s m below meth c ls hx hb hml hr hlk hnm hown hts hK hN hm hl
  have hE : ME "ChainPicker" (.code yC_countPruned cC_countPruned 3 (some .int)) _ s m D (TYS cI cZ cL) := ⟨hown, hts, hK, hN⟩
  have hl : lv_has ls 3 [(0, .ref (o))] := hl
  have loop : ∀ k, k ≤ n → ∀ (x : Int32), x + nI (cnt (fun j => jPr (J j)) k) = nI (cnt (fun j => jPr (J j)) n) → ∀ (H : Heap) (locs : List Loc) (ls : Array Slot), mS B D CLS s.heap w H locs → lv_has ls 3 [(2, va_rf (prv ad k)), (1, .int (x)), (0, .ref (o))] → W p l e ({ frames := 0, cells := 0, slots := 0, locals := 0 }) s m [.ref (o)].toArray below meth c H locs 0 0 (MQ below (va_Qi (fun r u => r = nI (cnt (fun j => jPr (J j)) n) ∧ u = w) (mE B D CLS) (fun q => B ≤ q)) [.ref (o)].toArray s 0 0 (fun q => B ≤ q)) (F0 m 7 ls []) := by
    intro k
    induction k with
    | zero =>
      intro hk x hx0 H locs ls hm hl
      have hl : lv_has ls 3 [(2, .null), (1, .int (x)), (0, .ref (o))] := hl
      refine lv_aload_nN hx hb dC_countPruned_7 rfl (lv_at hl 0 rfl) ?_
      refine lv_ifnullN (tgt := 29) hx hb dC_countPruned_8 (by decide) ?_
      refine lv_iload_n hx hb dC_countPruned_29 rfl (lv_at hl 1 rfl) ?_
      exact mreti hx hb hr hlk hm ⟨cntI_0 hx0, rfl⟩ dC_countPruned_30
    | succ k ih =>
      intro hk x hx0 H locs ls hm hl
      have hl : lv_has ls 3 [(2, .ref (ad k)), (1, .int (x)), (0, .ref (o))] := hl
      have hk1 : k < n := hk
      refine lv_aload_n hx hb dC_countPruned_7 rfl (lv_at hl 0 rfl) ?_
      refine lv_ifnull hx hb dC_countPruned_8 ?_
      refine lv_aload_n hx hb dC_countPruned_11 rfl (lv_at hl 0 rfl) ?_
      refine g_C_J_121 (v := .int (bI (jPr (J k)))) hx hb hE hm (hR.2.1 k hk1) rfl dC_countPruned_12 ?_
      refine lv_if_eq (tgt := 21) hx hb dC_countPruned_15 (by decide) (fun c_15 => ?_) (fun c_15 => ?_)
      · rw [bI_0] at c_15
        refine lv_aload_n hx hb dC_countPruned_21 rfl (lv_at hl 0 rfl) ?_
        refine g_C_J_108 (v := va_rf (prv ad k)) hx hb hE hm (hR.2.1 k hk1) rfl dC_countPruned_22 ?_
        refine mstoreR (lv' := [(2, va_rf (prv ad k)), (1, .int (x)), (0, .ref (o))]) hx hb dC_countPruned_25 rfl hl (by decide) rfl (fun ls hl => ?_)
        refine lv_goto (tgt := 7) hx hb dC_countPruned_26 (by decide) ?_
        exact ih (Nat.le_of_succ_le hk) (x) (cntI_f hx0 (by simp [c_15, dec_0, bI_0, ← Int32.not_lt])) H locs ls hm (lv_sub hl [0, 1, 2] rfl)
      · rw [bI_0] at c_15
        refine lv_iinc (v := x + 1) (lv' := [(1, .int (x + 1)), (2, .ref (ad k)), (0, .ref (o))]) hx hb dC_countPruned_18 hl (k := 1) rfl rfl (by decide) rfl (fun ls hl => ?_)
        refine lv_aload_n hx hb dC_countPruned_21 rfl (lv_at hl 1 rfl) ?_
        refine g_C_J_108 (v := va_rf (prv ad k)) hx hb hE hm (hR.2.1 k hk1) rfl dC_countPruned_22 ?_
        refine mstoreR (lv' := [(2, va_rf (prv ad k)), (1, .int (x + 1)), (0, .ref (o))]) hx hb dC_countPruned_25 rfl hl (by decide) rfl (fun ls hl => ?_)
        refine lv_goto (tgt := 7) hx hb dC_countPruned_26 (by decide) ?_
        exact ih (Nat.le_of_succ_le hk) (x + 1) (cntI_t hx0 (by simp [c_15, dec_0, bI_0, ← Int32.not_lt])) H locs ls hm (lv_sub hl [0, 1, 2] rfl)
  refine lv_iconst (v := 0) hx hb dC_countPruned_0 (by decide) ?_
  refine lv_istore_n (lv' := [(1, .int (0)), (0, .ref (o))]) hx hb dC_countPruned_1 rfl hl (by decide) rfl (fun ls hl => ?_)
  refine lv_aload_n hx hb dC_countPruned_2 rfl (lv_at hl 1 rfl) ?_
  refine g_C_C_16 (v := va_rf (prv ad n)) hx hb hE hm hR.1 rfl dC_countPruned_3 ?_
  refine mstoreR (lv' := [(2, va_rf (prv ad n)), (1, .int (0)), (0, .ref (o))]) hx hb dC_countPruned_6 rfl hl (by decide) rfl (fun ls hl => ?_)
  exact loop n (Nat.le_refl n) 0 (by simp) _ _ ls hm hl
set_option maxHeartbeats 4000000 in
set_option maxRecDepth 100000 in
theorem kC_findBase (l : Launch) (B : Nat) (D : va_G) (cI cZ cL : ClassId) (w : Wd) (o : Nat) (ad va : Nat → Nat) (now : Int32) (n : Nat) (J : Nat → Jr) (hR : cR cI o ad va now n J w) (x : Int32) (v : Int32) : Met l yC_findBase (.code yC_findBase cC_findBase 4 (some (.object "ChainPicker$Job")) :: BIG) { frames := 1, cells := 0, slots := 0, locals := 20 } (va_Pc [.ref (o), .int (x), .int (v)] (mP B D CLS (TYS cI cZ cL) NEST w)) (va_Qq (fun r u => r = (bOf n J x v).map ad ∧ u = w) (mE B D CLS) (fun q => B ≤ q)) 0 0 (fun q => B ≤ q) := by
  refine mMet (by decide) rfl (Nat.le_of_ble_eq_true rfl) ?_
  intro p e s m below meth c ls hx hb hml hr hlk hnm hown hts hK hN hm hl
  have hE : ME "ChainPicker" (.code yC_findBase cC_findBase 4 (some (.object "ChainPicker$Job"))) _ s m D (TYS cI cZ cL) := ⟨hown, hts, hK, hN⟩
  have hl : lv_has ls 4 [(0, .ref (o)), (1, .int (x)), (2, .int (v))] := hl
  have loop : ¬ v = 0 → ∀ k, k ≤ n → lastI (fun j => decide (jSer (J j) = x) && uz (J j) && (decide (v = 2) || decide (jLev (J j) = 0))) n = lastI (fun j => decide (jSer (J j) = x) && uz (J j) && (decide (v = 2) || decide (jLev (J j) = 0))) k → ∀ (H : Heap) (locs : List Loc) (ls : Array Slot), mS B D CLS s.heap w H locs → lv_has ls 4 [(3, va_rf (prv ad k)), (0, .ref (o)), (1, .int (x)), (2, .int (v))] → W p l e ({ frames := 1, cells := 0, slots := 0, locals := 20 }) s m [.ref (o), .int (x), .int (v)].toArray below meth c H locs 0 0 (MQ below (va_Qq (fun r u => r = (bOf n J x v).map ad ∧ u = w) (mE B D CLS) (fun q => B ≤ q)) [.ref (o), .int (x), .int (v)].toArray s 0 0 (fun q => B ≤ q)) (F0 m 11 ls []) := by
    intro hv0 k
    induction k with
    | zero =>
      intro hk heq H locs ls hm hl
      have hl : lv_has ls 4 [(3, .null), (0, .ref (o)), (1, .int (x)), (2, .int (v))] := hl
      refine lv_aload_nN hx hb dC_findBase_11 rfl (lv_at hl 0 rfl) ?_
      refine lv_ifnullN (tgt := 52) hx hb dC_findBase_12 (by decide) ?_
      refine lv_null hx hb dC_findBase_52 ?_
      exact mretq (r := none) hx hb hr (Or.inl ⟨_, rfl⟩) hlk hm ⟨by rw [bOf, if_neg hv0, heq]; rfl, rfl⟩ dC_findBase_53
    | succ k ih =>
      intro hk heq H locs ls hm hl
      have hl : lv_has ls 4 [(3, .ref (ad k)), (0, .ref (o)), (1, .int (x)), (2, .int (v))] := hl
      have hk1 : k < n := hk
      refine lv_aload_n hx hb dC_findBase_11 rfl (lv_at hl 0 rfl) ?_
      refine lv_ifnull hx hb dC_findBase_12 ?_
      refine lv_aload_n hx hb dC_findBase_15 rfl (lv_at hl 0 rfl) ?_
      refine g_C_J_111 (v := .int (jSer (J k))) hx hb hE hm (hR.2.1 k hk1) rfl dC_findBase_16 ?_
      refine lv_iload_n hx hb dC_findBase_19 rfl (lv_at hl 2 rfl) ?_
      refine lv_icmp_ne (tgt := 44) hx hb dC_findBase_20 (by decide) (fun c_20 => ?_) (fun c_20 => ?_)
      · refine lv_aload_n hx hb dC_findBase_44 rfl (lv_at hl 0 rfl) ?_
        refine g_C_J_108 (v := va_rf (prv ad k)) hx hb hE hm (hR.2.1 k hk1) rfl dC_findBase_45 ?_
        refine mstoreR (lv' := [(3, va_rf (prv ad k)), (0, .ref (o)), (1, .int (x)), (2, .int (v))]) hx hb dC_findBase_48 rfl hl (by decide) rfl (fun ls hl => ?_)
        refine lv_goto (tgt := 11) hx hb dC_findBase_49 (by decide) ?_
        exact ih (Nat.le_of_succ_le hk) (by rw [heq]; exact lastI_f (by simp [c_20, dec_0, bI_0, ← Int32.not_lt])) H locs ls hm (lv_sub hl [0, 1, 2, 3] rfl)
      · refine lv_aload_n hx hb dC_findBase_23 rfl (lv_at hl 0 rfl) ?_
        refine mcalli (mcS (n := 1) (As := [.ref (ad k)]) (rest := []) hx hb hml hE (kC_isUsable l B D cI cZ cL w (ad k) _ _ _ _ _ _ _ _ _ _ _ _ (hR.2.1 k hk1)) q_46 q_47 q_1 q_48 rfl rfl (by decide +kernel) ⟨Nat.le_of_ble_eq_true rfl, Nat.le_of_ble_eq_true rfl⟩ rfl hl.1 hm rfl (Nat.le_of_ble_eq_true rfl) dC_findBase_24 ⟨Nat.le_of_ble_eq_true rfl, Nat.le_of_ble_eq_true rfl⟩) hm (fun r1 u1 H locs hp1 hm => ?_)
        obtain ⟨hr1, hu1⟩ := hp1
        rw [hu1] at hm
        have hr1 := uz_r hr1
        refine lv_if_eq (tgt := 44) hx hb dC_findBase_27 (by decide) (fun c_27 => ?_) (fun c_27 => ?_)
        · rw [hr1, bI_0] at c_27
          refine lv_aload_n hx hb dC_findBase_44 rfl (lv_at hl 0 rfl) ?_
          refine g_C_J_108 (v := va_rf (prv ad k)) hx hb hE hm (hR.2.1 k hk1) rfl dC_findBase_45 ?_
          refine mstoreR (lv' := [(3, va_rf (prv ad k)), (0, .ref (o)), (1, .int (x)), (2, .int (v))]) hx hb dC_findBase_48 rfl hl (by decide) rfl (fun ls hl => ?_)
          refine lv_goto (tgt := 11) hx hb dC_findBase_49 (by decide) ?_
          exact ih (Nat.le_of_succ_le hk) (by rw [heq]; exact lastI_f (by simp [c_20, c_27, dec_0, bI_0, ← Int32.not_lt])) H locs ls hm (lv_sub hl [0, 1, 2, 3] rfl)
        · rw [hr1, bI_0] at c_27
          refine lv_iload_n hx hb dC_findBase_30 rfl (lv_at hl 3 rfl) ?_
          refine lv_iconst (v := 2) hx hb dC_findBase_31 (by decide) ?_
          refine lv_icmp_eq (tgt := 42) hx hb dC_findBase_32 (by decide) (fun c_32 => ?_) (fun c_32 => ?_)
          · refine lv_aload_n hx hb dC_findBase_42 rfl (lv_at hl 0 rfl) ?_
            exact mretq (r := some (ad k)) hx hb hr (Or.inl ⟨_, rfl⟩) hlk hm ⟨by rw [bOf, if_neg hv0, heq, lastI_t (by simp [c_20, c_27, c_32, dec_0, bI_0, ← Int32.not_lt])]; rfl, rfl⟩ dC_findBase_43
          · refine lv_aload_n hx hb dC_findBase_35 rfl (lv_at hl 0 rfl) ?_
            refine g_C_J_63 (v := .int (jLev (J k))) hx hb hE hm (hR.2.1 k hk1) rfl dC_findBase_36 ?_
            refine lv_if_ne (tgt := 44) hx hb dC_findBase_39 (by decide) (fun c_39 => ?_) (fun c_39 => ?_)
            · refine lv_aload_n hx hb dC_findBase_44 rfl (lv_at hl 0 rfl) ?_
              refine g_C_J_108 (v := va_rf (prv ad k)) hx hb hE hm (hR.2.1 k hk1) rfl dC_findBase_45 ?_
              refine mstoreR (lv' := [(3, va_rf (prv ad k)), (0, .ref (o)), (1, .int (x)), (2, .int (v))]) hx hb dC_findBase_48 rfl hl (by decide) rfl (fun ls hl => ?_)
              refine lv_goto (tgt := 11) hx hb dC_findBase_49 (by decide) ?_
              exact ih (Nat.le_of_succ_le hk) (by rw [heq]; exact lastI_f (by simp [c_20, c_27, c_32, c_39, dec_0, bI_0, ← Int32.not_lt])) H locs ls hm (lv_sub hl [0, 1, 2, 3] rfl)
            · refine lv_aload_n hx hb dC_findBase_42 rfl (lv_at hl 0 rfl) ?_
              exact mretq (r := some (ad k)) hx hb hr (Or.inl ⟨_, rfl⟩) hlk hm ⟨by rw [bOf, if_neg hv0, heq, lastI_t (by simp [c_20, c_27, c_32, c_39, dec_0, bI_0, ← Int32.not_lt])]; rfl, rfl⟩ dC_findBase_43
  refine lv_iload_n hx hb dC_findBase_0 rfl (lv_at hl 2 rfl) ?_
  refine lv_if_ne (tgt := 6) hx hb dC_findBase_1 (by decide) (fun c_1 => ?_) (fun c_1 => ?_)
  · refine lv_aload_n hx hb dC_findBase_6 rfl (lv_at hl 0 rfl) ?_
    refine g_C_C_16 (v := va_rf (prv ad n)) hx hb hE hm hR.1 rfl dC_findBase_7 ?_
    refine mstoreR (lv' := [(3, va_rf (prv ad n)), (0, .ref (o)), (1, .int (x)), (2, .int (v))]) hx hb dC_findBase_10 rfl hl (by decide) rfl (fun ls hl => ?_)
    exact loop c_1 n (Nat.le_refl n) rfl _ _ ls hm hl
  · refine lv_null hx hb dC_findBase_4 ?_
    exact mretq (r := none) hx hb hr (Or.inl ⟨_, rfl⟩) hlk hm ⟨by simp [bOf, c_1, dec_0, bI_0, ← Int32.not_lt], rfl⟩ dC_findBase_5
set_option maxHeartbeats 4000000 in
set_option maxRecDepth 100000 in
theorem kC_isOnlyGoodFull (l : Launch) (B : Nat) (D : va_G) (cI cZ cL : ClassId) (w : Wd) (o : Nat) (ad va : Nat → Nat) (now : Int32) (n : Nat) (J : Nat → Jr) (hR : cR cI o ad va now n J w) (i : Nat) (hi : i < n) : Met l yC_isOnlyGoodFull (.code yC_isOnlyGoodFull cC_isOnlyGoodFull 3 (some .boolean) :: BIG) { frames := 1, cells := 0, slots := 0, locals := 20 } (va_Pc [.ref (o), .ref (ad i)] (mP B D CLS (TYS cI cZ cL) NEST w)) (va_Qi (fun r u => r = bI (only n J i) ∧ u = w) (mE B D CLS) (fun q => B ≤ q)) 0 0 (fun q => B ≤ q) := by
  refine mMet (by decide) rfl (Nat.le_of_ble_eq_true rfl) ?_
  intro p e s m below meth c ls hx hb hml hr hlk hnm hown hts hK hN hm hl
  have hE : ME "ChainPicker" (.code yC_isOnlyGoodFull cC_isOnlyGoodFull 3 (some .boolean)) _ s m D (TYS cI cZ cL) := ⟨hown, hts, hK, hN⟩
  have hl : lv_has ls 3 [(0, .ref (o)), (1, .ref (ad i))] := hl
  have loop : jLev (J i) = 0 → uz (J i) = true → ∀ k, k ≤ n → lastI (fun j => decide (j ≠ i) && decide (jSer (J j) = jSer (J i)) && decide (jLev (J j) = 0) && uz (J j)) n = lastI (fun j => decide (j ≠ i) && decide (jSer (J j) = jSer (J i)) && decide (jLev (J j) = 0) && uz (J j)) k → ∀ (H : Heap) (locs : List Loc) (ls : Array Slot), mS B D CLS s.heap w H locs → lv_has ls 3 [(2, va_rf (prv ad k)), (0, .ref (o)), (1, .ref (ad i))] → W p l e ({ frames := 1, cells := 0, slots := 0, locals := 20 }) s m [.ref (o), .ref (ad i)].toArray below meth c H locs 0 0 (MQ below (va_Qi (fun r u => r = bI (only n J i) ∧ u = w) (mE B D CLS) (fun q => B ≤ q)) [.ref (o), .ref (ad i)].toArray s 0 0 (fun q => B ≤ q)) (F0 m 21 ls []) := by
    intro hv0 hv1 k
    induction k with
    | zero =>
      intro hk heq H locs ls hm hl
      have hl : lv_has ls 3 [(2, .null), (0, .ref (o)), (1, .ref (ad i))] := hl
      refine lv_aload_nN hx hb dC_isOnlyGoodFull_21 rfl (lv_at hl 0 rfl) ?_
      refine lv_ifnullN (tgt := 65) hx hb dC_isOnlyGoodFull_22 (by decide) ?_
      refine lv_iconst (v := 1) hx hb dC_isOnlyGoodFull_65 (by decide) ?_
      exact mretz hx hb hr (by decide +kernel) hlk hm ⟨by rw [only, heq, hv1]; simp [hv0, lastI, bI], rfl⟩ dC_isOnlyGoodFull_66
    | succ k ih =>
      intro hk heq H locs ls hm hl
      have hl : lv_has ls 3 [(2, .ref (ad k)), (0, .ref (o)), (1, .ref (ad i))] := hl
      have hk1 : k < n := hk
      refine lv_aload_n hx hb dC_isOnlyGoodFull_21 rfl (lv_at hl 0 rfl) ?_
      refine lv_ifnull hx hb dC_isOnlyGoodFull_22 ?_
      refine lv_aload_n hx hb dC_isOnlyGoodFull_25 rfl (lv_at hl 0 rfl) ?_
      refine lv_aload_n hx hb dC_isOnlyGoodFull_26 rfl (lv_at hl 2 rfl) ?_
      refine lv_acmp_eq (rx := some (ad k)) (ry := some (ad i)) (tgt := 57) hx hb dC_isOnlyGoodFull_27 (by decide) (fun c_27 => ?_) (fun c_27 => ?_)
      · have c_27 : k = i := hR.2.2.2.1 k i hk1 hi (Option.some.inj c_27)
        refine lv_aload_n hx hb dC_isOnlyGoodFull_57 rfl (lv_at hl 0 rfl) ?_
        refine g_C_J_108 (v := va_rf (prv ad k)) hx hb hE hm (hR.2.1 k hk1) rfl dC_isOnlyGoodFull_58 ?_
        refine mstoreR (lv' := [(2, va_rf (prv ad k)), (0, .ref (o)), (1, .ref (ad i))]) hx hb dC_isOnlyGoodFull_61 rfl hl (by decide) rfl (fun ls hl => ?_)
        refine lv_goto (tgt := 21) hx hb dC_isOnlyGoodFull_62 (by decide) ?_
        exact ih (Nat.le_of_succ_le hk) (by rw [heq]; exact lastI_f (by simp [c_27, dec_0, bI_0, ← Int32.not_lt])) H locs ls hm (lv_sub hl [0, 1, 2] rfl)
      · have c_27 : ¬ k = i := fun h => c_27 (by rw [h])
        refine lv_aload_n hx hb dC_isOnlyGoodFull_30 rfl (lv_at hl 0 rfl) ?_
        refine g_C_J_111 (v := .int (jSer (J k))) hx hb hE hm (hR.2.1 k hk1) rfl dC_isOnlyGoodFull_31 ?_
        refine lv_aload_n hx hb dC_isOnlyGoodFull_34 rfl (lv_at hl 2 rfl) ?_
        refine g_C_J_111 (v := .int (jSer (J i))) hx hb hE hm (hR.2.1 i hi) rfl dC_isOnlyGoodFull_35 ?_
        refine lv_icmp_ne (tgt := 57) hx hb dC_isOnlyGoodFull_38 (by decide) (fun c_38 => ?_) (fun c_38 => ?_)
        · refine lv_aload_n hx hb dC_isOnlyGoodFull_57 rfl (lv_at hl 0 rfl) ?_
          refine g_C_J_108 (v := va_rf (prv ad k)) hx hb hE hm (hR.2.1 k hk1) rfl dC_isOnlyGoodFull_58 ?_
          refine mstoreR (lv' := [(2, va_rf (prv ad k)), (0, .ref (o)), (1, .ref (ad i))]) hx hb dC_isOnlyGoodFull_61 rfl hl (by decide) rfl (fun ls hl => ?_)
          refine lv_goto (tgt := 21) hx hb dC_isOnlyGoodFull_62 (by decide) ?_
          exact ih (Nat.le_of_succ_le hk) (by rw [heq]; exact lastI_f (by simp [c_27, c_38, dec_0, bI_0, ← Int32.not_lt])) H locs ls hm (lv_sub hl [0, 1, 2] rfl)
        · refine lv_aload_n hx hb dC_isOnlyGoodFull_41 rfl (lv_at hl 0 rfl) ?_
          refine g_C_J_63 (v := .int (jLev (J k))) hx hb hE hm (hR.2.1 k hk1) rfl dC_isOnlyGoodFull_42 ?_
          refine lv_if_ne (tgt := 57) hx hb dC_isOnlyGoodFull_45 (by decide) (fun c_45 => ?_) (fun c_45 => ?_)
          · refine lv_aload_n hx hb dC_isOnlyGoodFull_57 rfl (lv_at hl 0 rfl) ?_
            refine g_C_J_108 (v := va_rf (prv ad k)) hx hb hE hm (hR.2.1 k hk1) rfl dC_isOnlyGoodFull_58 ?_
            refine mstoreR (lv' := [(2, va_rf (prv ad k)), (0, .ref (o)), (1, .ref (ad i))]) hx hb dC_isOnlyGoodFull_61 rfl hl (by decide) rfl (fun ls hl => ?_)
            refine lv_goto (tgt := 21) hx hb dC_isOnlyGoodFull_62 (by decide) ?_
            exact ih (Nat.le_of_succ_le hk) (by rw [heq]; exact lastI_f (by simp [c_27, c_38, c_45, dec_0, bI_0, ← Int32.not_lt])) H locs ls hm (lv_sub hl [0, 1, 2] rfl)
          · refine lv_aload_n hx hb dC_isOnlyGoodFull_48 rfl (lv_at hl 0 rfl) ?_
            refine mcalli (mcS (n := 1) (As := [.ref (ad k)]) (rest := []) hx hb hml hE (kC_isUsable l B D cI cZ cL w (ad k) _ _ _ _ _ _ _ _ _ _ _ _ (hR.2.1 k hk1)) q_46 q_47 q_1 q_48 rfl rfl (by decide +kernel) ⟨Nat.le_of_ble_eq_true rfl, Nat.le_of_ble_eq_true rfl⟩ rfl hl.1 hm rfl (Nat.le_of_ble_eq_true rfl) dC_isOnlyGoodFull_49 ⟨Nat.le_of_ble_eq_true rfl, Nat.le_of_ble_eq_true rfl⟩) hm (fun r1 u1 H locs hp1 hm => ?_)
            obtain ⟨hr1, hu1⟩ := hp1
            rw [hu1] at hm
            have hr1 := uz_r hr1
            refine lv_if_eq (tgt := 57) hx hb dC_isOnlyGoodFull_52 (by decide) (fun c_52 => ?_) (fun c_52 => ?_)
            · rw [hr1, bI_0] at c_52
              refine lv_aload_n hx hb dC_isOnlyGoodFull_57 rfl (lv_at hl 0 rfl) ?_
              refine g_C_J_108 (v := va_rf (prv ad k)) hx hb hE hm (hR.2.1 k hk1) rfl dC_isOnlyGoodFull_58 ?_
              refine mstoreR (lv' := [(2, va_rf (prv ad k)), (0, .ref (o)), (1, .ref (ad i))]) hx hb dC_isOnlyGoodFull_61 rfl hl (by decide) rfl (fun ls hl => ?_)
              refine lv_goto (tgt := 21) hx hb dC_isOnlyGoodFull_62 (by decide) ?_
              exact ih (Nat.le_of_succ_le hk) (by rw [heq]; exact lastI_f (by simp [c_27, c_38, c_45, c_52, dec_0, bI_0, ← Int32.not_lt])) H locs ls hm (lv_sub hl [0, 1, 2] rfl)
            · rw [hr1, bI_0] at c_52
              refine lv_iconst (v := 0) hx hb dC_isOnlyGoodFull_55 (by decide) ?_
              exact mretz hx hb hr (by decide +kernel) hlk hm ⟨by rw [only, heq, lastI_t (by simp [c_27, c_38, c_45, c_52, dec_0, bI_0, ← Int32.not_lt])]; simp [bI], rfl⟩ dC_isOnlyGoodFull_56
  refine lv_aload_n hx hb dC_isOnlyGoodFull_0 rfl (lv_at hl 1 rfl) ?_
  refine g_C_J_63 (v := .int (jLev (J i))) hx hb hE hm (hR.2.1 i hi) rfl dC_isOnlyGoodFull_1 ?_
  refine lv_if_ne (tgt := 14) hx hb dC_isOnlyGoodFull_4 (by decide) (fun c_4 => ?_) (fun c_4 => ?_)
  · refine lv_iconst (v := 0) hx hb dC_isOnlyGoodFull_14 (by decide) ?_
    exact mretz hx hb hr (by decide +kernel) hlk hm ⟨by simp [only, bI, c_4, dec_0, bI_0, ← Int32.not_lt], rfl⟩ dC_isOnlyGoodFull_15
  · refine lv_aload_n hx hb dC_isOnlyGoodFull_7 rfl (lv_at hl 1 rfl) ?_
    refine mcalli (mcS (n := 1) (As := [.ref (ad i)]) (rest := []) hx hb hml hE (kC_isUsable l B D cI cZ cL w (ad i) _ _ _ _ _ _ _ _ _ _ _ _ (hR.2.1 i hi)) q_46 q_47 q_1 q_48 rfl rfl (by decide +kernel) ⟨Nat.le_of_ble_eq_true rfl, Nat.le_of_ble_eq_true rfl⟩ rfl hl.1 hm rfl (Nat.le_of_ble_eq_true rfl) dC_isOnlyGoodFull_8 ⟨Nat.le_of_ble_eq_true rfl, Nat.le_of_ble_eq_true rfl⟩) hm (fun r1 u1 H locs hp1 hm => ?_)
    obtain ⟨hr1, hu1⟩ := hp1
    rw [hu1] at hm
    have hr1 := uz_r hr1
    refine lv_if_ne (tgt := 16) hx hb dC_isOnlyGoodFull_11 (by decide) (fun c_11 => ?_) (fun c_11 => ?_)
    · rw [hr1, bI_0] at c_11
      refine lv_aload_n hx hb dC_isOnlyGoodFull_16 rfl (lv_at hl 0 rfl) ?_
      refine g_C_C_16 (v := va_rf (prv ad n)) hx hb hE hm hR.1 rfl dC_isOnlyGoodFull_17 ?_
      refine mstoreR (lv' := [(2, va_rf (prv ad n)), (0, .ref (o)), (1, .ref (ad i))]) hx hb dC_isOnlyGoodFull_20 rfl hl (by decide) rfl (fun ls hl => ?_)
      exact loop (by simpa using c_4) (by simpa using c_11) n (Nat.le_refl n) rfl _ _ ls hm hl
    · rw [hr1, bI_0] at c_11
      refine lv_iconst (v := 0) hx hb dC_isOnlyGoodFull_14 (by decide) ?_
      exact mretz hx hb hr (by decide +kernel) hlk hm ⟨by simp [only, bI, c_4, c_11, dec_0, bI_0, ← Int32.not_lt], rfl⟩ dC_isOnlyGoodFull_15
