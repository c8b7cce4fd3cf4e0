set_option maxHeartbeats 4000000 in
set_option maxRecDepth 100000 in
theorem kC_findTeller (l : Launch) (B : Nat) (D : va_G) (cI cZ cL : ClassId) (w : Wd) (o : Nat) (ad va : Nat → Nat) (now : Int32) (n : Nat) (J : Nat → Jr) (hR : cR cI o ad va now n J w) (h0 : Option Nat) (hh0 : ∀ i, h0 = some i → i < n) (x : Int32) : Met l yC_findTeller (.code yC_findTeller cC_findTeller 3 (some (.object "ChainPicker$Job")) :: BIG) { frames := 1, cells := 0, slots := 0, locals := 20 } (va_Pc [va_rf (h0.map ad), .int (x)] (mP B D CLS (TYS cI cZ cL) NEST w)) (va_Qq (fun r u => r = (tel n J h0 x).map ad ∧ u = w) (mE B D CLS) (fun q => B ≤ q)) 0 0 (fun q => B ≤ q) := by
  refine mMet (by decide) rfl (by simp [lg_sl, rf_cat, int_cat, ref_cat]) ?_
  intro p e s m below meth c ls hx hb hml hr hlk hnm hown hts hK hN hm hl
  have hE : ME "ChainPicker" (.code yC_findTeller cC_findTeller 3 (some (.object "ChainPicker$Job"))) _ s m D (TYS cI cZ cL) := ⟨hown, hts, hK, hN⟩
  have hl : lv_has ls 3 [(0, va_rf (h0.map ad)), (1, .int (x))] := by simpa [lv_args, rf_cat, int_cat, ref_cat] using hl
  refine lv_iload_n hx hb dC_findTeller_0 rfl (lv_at hl 1 rfl) ?_
  refine mcalli (mcS (n := 1) (As := [.int (x)]) (rest := []) hx hb hml hE (kC_isFile l B D cI cZ cL w x) q_116 q_117 q_1 q_118 rfl rfl (by decide +kernel) ⟨Nat.le_of_ble_eq_true rfl, Nat.le_of_ble_eq_true rfl⟩ rfl hl.1 hm rfl (Nat.le_of_ble_eq_true rfl) dC_findTeller_1 ⟨Nat.le_of_ble_eq_true rfl, Nat.le_of_ble_eq_true rfl⟩) hm (fun r1 u1 H locs hp1 hm => ?_)
  obtain ⟨hr1, hu1⟩ := hp1
  rw [hu1] at hm
  refine lv_if_ne (tgt := 9) hx hb dC_findTeller_4 (by decide) (fun c_4 => ?_) (fun c_4 => ?_)
  · rw [hr1, bI_0] at c_4
    refine mloadR hx hb dC_findTeller_9 rfl (lv_at hl 0 rfl) ?_
    refine mstoreR (lv' := [(2, va_rf (h0.map ad)), (0, va_rf (h0.map ad)), (1, .int (x))]) hx hb dC_findTeller_10 rfl hl (by decide) rfl (fun ls hl => ?_)
    obtain ⟨k, hk, hxk, hck⟩ := isF_of (x := x) (by simpa using c_4)
    have loop : ∀ (f : Nat) (h : Option Nat), (∀ i, h = some i → i < f ∧ i < n) → tlr J k (chn J n h0) = tlr J k (chn J f h) → ∀ (H : Heap) (locs : List Loc) (ls : Array Slot), mS B D CLS s.heap w H locs → lv_has ls 3 [(2, va_rf (h.map ad)), (0, va_rf (h0.map ad)), (1, .int (x))] → W p l e ({ frames := 1, cells := 0, slots := 0, locals := 20 }) s m [va_rf (h0.map ad), .int (x)].toArray below meth c H locs 0 0 (MQ below (va_Qq (fun r u => r = (tel n J h0 x).map ad ∧ u = w) (mE B D CLS) (fun q => B ≤ q)) [va_rf (h0.map ad), .int (x)].toArray s 0 0 (fun q => B ≤ q)) (F0 m 11 ls []) := by
      intro f
      induction f with
      | zero =>
        intro h hlt heq H locs ls hm hl
        cases h with
        | none =>
          have hl : lv_has ls 3 [(2, .null), (0, va_rf (h0.map ad)), (1, .int (x))] := hl
          refine lv_aload_nN hx hb dC_findTeller_11 rfl (lv_at hl 0 rfl) ?_
          refine lv_ifnullN (tgt := 36) hx hb dC_findTeller_12 (by decide) ?_
          refine lv_null hx hb dC_findTeller_36 ?_
          exact mretq (r := none) hx hb hr (Or.inl ⟨_, rfl⟩) hlk hm ⟨by rw [tel, if_pos (by simpa using c_4), hck, heq, tlr_n]; rfl, rfl⟩ dC_findTeller_37
        | some i => exact absurd (hlt i rfl).1 (Nat.not_lt_zero _)
      | succ f ih =>
        intro h hlt heq H locs ls hm hl
        cases h with
        | none =>
          have hl : lv_has ls 3 [(2, .null), (0, va_rf (h0.map ad)), (1, .int (x))] := hl
          refine lv_aload_nN hx hb dC_findTeller_11 rfl (lv_at hl 0 rfl) ?_
          refine lv_ifnullN (tgt := 36) hx hb dC_findTeller_12 (by decide) ?_
          refine lv_null hx hb dC_findTeller_36 ?_
          exact mretq (r := none) hx hb hr (Or.inl ⟨_, rfl⟩) hlk hm ⟨by rw [tel, if_pos (by simpa using c_4), hck, heq, tlr_n]; rfl, rfl⟩ dC_findTeller_37
        | some i =>
          have hin : i < n := (hlt i rfl).2
          have hl : lv_has ls 3 [(2, .ref (ad i)), (0, va_rf (h0.map ad)), (1, .int (x))] := hl
          refine lv_aload_n hx hb dC_findTeller_11 rfl (lv_at hl 0 rfl) ?_
          refine lv_ifnull hx hb dC_findTeller_12 ?_
          refine lv_aload_n hx hb dC_findTeller_15 rfl (lv_at hl 0 rfl) ?_
          refine g_C_J_69 (v := .ref (va i)) hx hb hE hm (hR.2.1 i hin) rfl dC_findTeller_16 ?_
          refine lv_iload_n hx hb dC_findTeller_19 rfl (lv_at hl 2 rfl) ?_
          refine ialdE (k) hx hb hE.2.2.1 hm 0 (hR.2.2.1 i hin) rfl hxk hk (by decide) dC_findTeller_20 ?_
          refine lv_bipush (v := (-2)) hx hb dC_findTeller_21 (by decide) ?_
          refine lv_icmp_eq (tgt := 28) hx hb dC_findTeller_23 (by decide) (fun c_23 => ?_) (fun c_23 => ?_)
          · refine lv_aload_n hx hb dC_findTeller_28 rfl (lv_at hl 0 rfl) ?_
            refine g_C_J_79 (v := va_rf ((jBs (J i)).map ad)) hx hb hE hm (hR.2.1 i hin) rfl dC_findTeller_29 ?_
            refine mstoreR (lv' := [(2, va_rf ((jBs (J i)).map ad)), (0, va_rf (h0.map ad)), (1, .int (x))]) hx hb dC_findTeller_32 rfl hl (by decide) rfl (fun ls hl => ?_)
            refine lv_goto (tgt := 11) hx hb dC_findTeller_33 (by decide) ?_
            exact ih (jBs (J i)) (fun b hb => ⟨Nat.lt_of_lt_of_le (hR.bs hin hb) (Nat.le_of_lt_succ (hlt i rfl).1), Nat.lt_trans (hR.bs hin hb) hin⟩) (by rw [heq, tlr_c c_23]) H locs ls hm (lv_sub hl [0, 1, 2] rfl)
          · refine lv_aload_n hx hb dC_findTeller_26 rfl (lv_at hl 0 rfl) ?_
            exact mretq (r := some (ad i)) hx hb hr (Or.inl ⟨_, rfl⟩) hlk hm ⟨by rw [tel, if_pos (by simpa using c_4), hck, heq, tlr_s c_23]; rfl, rfl⟩ dC_findTeller_27
    exact loop n h0 (fun i hi => ⟨hh0 i hi, hh0 i hi⟩) rfl _ _ ls hm (lv_sub hl [0, 1, 2] rfl)
  · rw [hr1, bI_0] at c_4
    refine lv_null hx hb dC_findTeller_7 ?_
    exact mretq (r := none) hx hb hr (Or.inl ⟨_, rfl⟩) hlk hm ⟨by rw [tel, if_neg (by simp [c_4, dec_0, bI_0, ← Int32.not_lt])]; rfl, rfl⟩ dC_findTeller_8
set_option maxHeartbeats 4000000 in
set_option maxRecDepth 100000 in
theorem kC_versionIn (l : Launch) (B : Nat) (D : va_G) (cI cZ cL : ClassId) (w : Wd) (o : Nat) (ad va : Nat → Nat) (now : Int32) (n : Nat) (J : Nat → Jr) (hR : cR cI o ad va now n J w) (h0 : Option Nat) (hh0 : ∀ i, h0 = some i → i < n) (x : Int32) : Met l yC_versionIn (.code yC_versionIn cC_versionIn 3 (some .int) :: BIG) { frames := 2, cells := 0, slots := 0, locals := 42 } (va_Pc [va_rf (h0.map ad), .int (x)] (mP B D CLS (TYS cI cZ cL) NEST w)) (va_Qi (fun r u => r = ver n J h0 x ∧ u = w) (mE B D CLS) (fun q => B ≤ q)) 0 0 (fun q => B ≤ q) := by
  refine mMet (by decide) rfl (by simp [lg_sl, rf_cat, int_cat, ref_cat]) ?_
  intro p e s m below meth c ls hx hb hml hr hlk hnm hown hts hK hN hm hl
  have hE : ME "ChainPicker" (.code yC_versionIn cC_versionIn 3 (some .int)) _ s m D (TYS cI cZ cL) := ⟨hown, hts, hK, hN⟩
  have hl : lv_has ls 3 [(0, va_rf (h0.map ad)), (1, .int (x))] := by simpa [lv_args, rf_cat, int_cat, ref_cat] using hl
  refine mloadR hx hb dC_versionIn_0 rfl (lv_at hl 0 rfl) ?_
  refine lv_iload_n hx hb dC_versionIn_1 rfl (lv_at hl 1 rfl) ?_
  refine mcallq (mcS (n := 2) (As := [va_rf (h0.map ad), .int (x)]) (rest := []) hx hb hml hE (kC_findTeller l B D cI cZ cL w o ad va now n J hR h0 hh0 x) q_142 q_143 q_1 q_144 rfl rfl (by decide +kernel) ⟨Nat.le_of_ble_eq_true rfl, Nat.le_of_ble_eq_true rfl⟩ rfl hl.1 hm rfl (Nat.le_of_ble_eq_true rfl) dC_versionIn_2 ⟨Nat.le_of_ble_eq_true rfl, Nat.le_of_ble_eq_true rfl⟩) hm (fun r1 u1 H locs hp1 hm => ?_)
  obtain ⟨hr1, hu1⟩ := hp1
  rw [hu1] at hm
  subst hr1
  cases ht : tel n J h0 x with
  | none =>
    show W _ _ _ _ _ _ _ _ _ _ _ _ _ _ _ (F0 m 5 ls [.null])
    refine lv_astore_nN (lv' := [(2, .null), (0, va_rf (h0.map ad)), (1, .int (x))]) hx hb dC_versionIn_5 rfl hl (by decide) rfl (fun ls hl => ?_)
    refine lv_aload_nN hx hb dC_versionIn_6 rfl (lv_at hl 0 rfl) ?_
    refine lv_ifnonnullN hx hb dC_versionIn_7 ?_
    refine lv_iconst (v := (-1)) hx hb dC_versionIn_10 (by decide) ?_
    refine lv_goto (tgt := 20) hx hb dC_versionIn_11 (by decide) ?_
    exact mreti hx hb hr hlk hm ⟨by simp only [ver, ht], rfl⟩ dC_versionIn_20
  | some j =>
    obtain ⟨hjn, hfx, -⟩ := tel_lt hR.2.2.2.2.2.1 hh0 ht
    obtain ⟨k, hk, hxk, hck⟩ := isF_of hfx
    show W _ _ _ _ _ _ _ _ _ _ _ _ _ _ _ (F0 m 5 ls [.ref (ad j)])
    refine lv_astore_n (lv' := [(2, .ref (ad j)), (0, va_rf (h0.map ad)), (1, .int (x))]) hx hb dC_versionIn_5 rfl hl (by decide) rfl (fun ls hl => ?_)
    refine lv_aload_n hx hb dC_versionIn_6 rfl (lv_at hl 0 rfl) ?_
    refine lv_ifnonnull (tgt := 14) hx hb dC_versionIn_7 (by decide) ?_
    refine lv_aload_n hx hb dC_versionIn_14 rfl (lv_at hl 0 rfl) ?_
    refine g_C_J_69 (v := .ref (va j)) hx hb hE hm (hR.2.1 j hjn) rfl dC_versionIn_15 ?_
    refine lv_iload_n hx hb dC_versionIn_18 rfl (lv_at hl 2 rfl) ?_
    refine ialdE (k) hx hb hE.2.2.1 hm 0 (hR.2.2.1 j hjn) rfl hxk hk (by decide) dC_versionIn_19 ?_
    exact mreti hx hb hr hlk hm ⟨by simp only [ver, ht]; rw [hck], rfl⟩ dC_versionIn_20
set_option maxHeartbeats 4000000 in
set_option maxRecDepth 100000 in
theorem kC_chain (l : Launch) (B : Nat) (D : va_G) (cI cZ cL : ClassId) (w : Wd) (o : Nat) (ad va : Nat → Nat) (now : Int32) (n : Nat) (J : Nat → Jr) (hR : cR cI o ad va now n J w) (x t : Int32) : Met l yC_chain (.code yC_chain cC_chain 5 (some .int) :: BIG) { frames := 2, cells := 0, slots := 0, locals := 43 } (va_Pc [.ref (o), .int (x), .int (t)] (mP B D CLS (TYS cI cZ cL) NEST w)) (va_Qi (fun r u => r = nI (chn J n (hd n J x t)).length ∧ u = w) (mE B D CLS) (fun q => B ≤ q)) 0 0 (fun q => B ≤ q) := by
  refine mMet (by decide) rfl (Nat.le_of_ble_eq_true rfl) ?_
  intro p e s m below meth c ls hx hb hml hr hlk hnm hown hts hK hN hm hl
  have hE : ME "ChainPicker" (.code yC_chain cC_chain 5 (some .int)) _ s m D (TYS cI cZ cL) := ⟨hown, hts, hK, hN⟩
  have hl : lv_has ls 5 [(0, .ref (o)), (1, .int (x)), (2, .int (t))] := hl
  have loop : ∀ (f : Nat) (h : Option Nat), (∀ i, h = some i → i < f ∧ i < n) → ∀ (y : Int32), y + nI (chn J f h).length = nI (chn J n (hd n J x t)).length → ∀ (H : Heap) (locs : List Loc) (ls : Array Slot), mS B D CLS s.heap w H locs → lv_has ls 5 [(4, va_rf (h.map ad)), (3, .int (y)), (0, .ref (o)), (1, .int (x)), (2, .int (t))] → W p l e ({ frames := 2, cells := 0, slots := 0, locals := 43 }) s m [.ref (o), .int (x), .int (t)].toArray below meth c H locs 0 0 (MQ below (va_Qi (fun r u => r = nI (chn J n (hd n J x t)).length ∧ u = w) (mE B D CLS) (fun q => B ≤ q)) [.ref (o), .int (x), .int (t)].toArray s 0 0 (fun q => B ≤ q)) (F0 m 10 ls []) := by
    intro f
    induction f with
    | zero =>
      intro h hlt y hy H locs ls hm hl
      cases h with
      | none =>
        have hl : lv_has ls 5 [(4, .null), (3, .int (y)), (0, .ref (o)), (1, .int (x)), (2, .int (t))] := hl
        refine lv_aloadN hx hb dC_chain_10 (lv_at hl 0 rfl) ?_
        refine lv_ifnullN (tgt := 28) hx hb dC_chain_12 (by decide) ?_
        refine lv_iload_n hx hb dC_chain_28 rfl (lv_at hl 1 rfl) ?_
        exact mreti hx hb hr hlk hm ⟨len0 hy, rfl⟩ dC_chain_29
      | some i => exact absurd (hlt i rfl).1 (Nat.not_lt_zero _)
    | succ f ih =>
      intro h hlt y hy H locs ls hm hl
      cases h with
      | none =>
        have hl : lv_has ls 5 [(4, .null), (3, .int (y)), (0, .ref (o)), (1, .int (x)), (2, .int (t))] := hl
        refine lv_aloadN hx hb dC_chain_10 (lv_at hl 0 rfl) ?_
        refine lv_ifnullN (tgt := 28) hx hb dC_chain_12 (by decide) ?_
        refine lv_iload_n hx hb dC_chain_28 rfl (lv_at hl 1 rfl) ?_
        exact mreti hx hb hr hlk hm ⟨len0 hy, rfl⟩ dC_chain_29
      | some i =>
        have hin : i < n := (hlt i rfl).2
        have hl : lv_has ls 5 [(4, .ref (ad i)), (3, .int (y)), (0, .ref (o)), (1, .int (x)), (2, .int (t))] := hl
        refine lv_aload hx hb dC_chain_10 (lv_at hl 0 rfl) ?_
        refine lv_ifnull hx hb dC_chain_12 ?_
        refine lv_iinc (v := y + 1) (lv' := [(3, .int (y + 1)), (4, .ref (ad i)), (0, .ref (o)), (1, .int (x)), (2, .int (t))]) hx hb dC_chain_15 hl (k := 1) rfl rfl (by decide) rfl (fun ls hl => ?_)
        refine lv_aload hx hb dC_chain_18 (lv_at hl 1 rfl) ?_
        refine g_C_J_79 (v := va_rf ((jBs (J i)).map ad)) hx hb hE hm (hR.2.1 i hin) rfl dC_chain_20 ?_
        refine mstoreR2 (lv' := [(4, va_rf ((jBs (J i)).map ad)), (3, .int (y + 1)), (0, .ref (o)), (1, .int (x)), (2, .int (t))]) hx hb dC_chain_23 hl (by decide) rfl (fun ls hl => ?_)
        refine lv_goto (tgt := 10) hx hb dC_chain_25 (by decide) ?_
        exact ih (jBs (J i)) (fun b hb => ⟨Nat.lt_of_lt_of_le (hR.bs hin hb) (Nat.le_of_lt_succ (hlt i rfl).1), Nat.lt_trans (hR.bs hin hb) hin⟩) (y + 1) (lenI hy) H locs ls hm (lv_sub hl [0, 1, 2, 3, 4] rfl)
  refine lv_iconst (v := 0) hx hb dC_chain_0 (by decide) ?_
  refine lv_istore_n (lv' := [(3, .int (0)), (0, .ref (o)), (1, .int (x)), (2, .int (t))]) hx hb dC_chain_1 rfl hl (by decide) rfl (fun ls hl => ?_)
  refine lv_aload_n hx hb dC_chain_2 rfl (lv_at hl 1 rfl) ?_
  refine lv_iload_n hx hb dC_chain_3 rfl (lv_at hl 2 rfl) ?_
  refine lv_iload_n hx hb dC_chain_4 rfl (lv_at hl 3 rfl) ?_
  refine mcallq (mcV (n := 2) (As := [.int (x), .int (t)]) (rest := []) hx hb hml hE (kC_findHead l B D cI cZ cL w o ad va now n J hR x t) q_131 q_133 qs_3 q_1 q_134 rfl rfl (by decide +kernel) ⟨Nat.le_of_ble_eq_true rfl, Nat.le_of_ble_eq_true rfl⟩ rfl hl.1 hm rfl hR.1 rfl (Nat.le_of_ble_eq_true rfl) dC_chain_5 ⟨Nat.le_of_ble_eq_true rfl, Nat.le_of_ble_eq_true rfl⟩) hm (fun r1 u1 H locs hp1 hm => ?_)
  obtain ⟨hr1, hu1⟩ := hp1
  rw [hu1] at hm
  refine mstoreR2 (lv' := [(4, va_rf (r1)), (3, .int (0)), (0, .ref (o)), (1, .int (x)), (2, .int (t))]) hx hb dC_chain_8 hl (by decide) rfl (fun ls hl => ?_)
  subst hr1
  exact loop n _ (fun i hi => ⟨hd_lt i hi, hd_lt i hi⟩) 0 (by simp) _ _ ls hm (lv_sub hl [0, 1, 2, 3, 4] rfl)
set_option maxHeartbeats 4000000 in
set_option maxRecDepth 100000 in
theorem kC_view (l : Launch) (B : Nat) (D : va_G) (cI cZ cL : ClassId) (w : Wd) (o : Nat) (ad va : Nat → Nat) (now : Int32) (n : Nat) (J : Nat → Jr) (hR : cR cI o ad va now n J w) (x t y : Int32) : Met l yC_view (.code yC_view cC_view 4 (some .int) :: BIG) { frames := 3, cells := 0, slots := 0, locals := 64 } (va_Pc [.ref (o), .int (x), .int (t), .int (y)] (mP B D CLS (TYS cI cZ cL) NEST w)) (va_Qi (fun r u => r = ver n J (hd n J x t) y ∧ u = w) (mE B D CLS) (fun q => B ≤ q)) 0 0 (fun q => B ≤ q) := by
  refine mMet (by decide) rfl (Nat.le_of_ble_eq_true rfl) ?_
  intro p e s m below meth c ls hx hb hml hr hlk hnm hown hts hK hN hm hl
  have hE : ME "ChainPicker" (.code yC_view cC_view 4 (some .int)) _ s m D (TYS cI cZ cL) := ⟨hown, hts, hK, hN⟩
  have hl : lv_has ls 4 [(0, .ref (o)), (1, .int (x)), (2, .int (t)), (3, .int (y))] := hl
  refine lv_aload_n hx hb dC_view_0 rfl (lv_at hl 0 rfl) ?_
  refine lv_iload_n hx hb dC_view_1 rfl (lv_at hl 1 rfl) ?_
  refine lv_iload_n hx hb dC_view_2 rfl (lv_at hl 2 rfl) ?_
  refine mcallq (mcV (n := 2) (As := [.int (x), .int (t)]) (rest := []) hx hb hml hE (kC_findHead l B D cI cZ cL w o ad va now n J hR x t) q_131 q_133 qs_3 q_1 q_134 rfl rfl (by decide +kernel) ⟨Nat.le_of_ble_eq_true rfl, Nat.le_of_ble_eq_true rfl⟩ rfl hl.1 hm rfl hR.1 rfl (Nat.le_of_ble_eq_true rfl) dC_view_3 ⟨Nat.le_of_ble_eq_true rfl, Nat.le_of_ble_eq_true rfl⟩) hm (fun r1 u1 H locs hp1 hm => ?_)
  obtain ⟨hr1, hu1⟩ := hp1
  rw [hu1] at hm
  subst hr1
  refine lv_iload_n hx hb dC_view_6 rfl (lv_at hl 3 rfl) ?_
  refine mcalli (mcS (n := 2) (As := [va_rf ((hd n J x t).map ad), .int (y)]) (rest := []) hx hb hml hE (kC_versionIn l B D cI cZ cL w o ad va now n J hR (hd n J x t) hd_lt y) q_139 q_140 q_1 q_141 rfl rfl (by decide +kernel) ⟨Nat.le_of_ble_eq_true rfl, Nat.le_of_ble_eq_true rfl⟩ rfl hl.1 hm rfl (Nat.le_of_ble_eq_true rfl) dC_view_7 ⟨Nat.le_of_ble_eq_true rfl, Nat.le_of_ble_eq_true rfl⟩) hm (fun r2 u2 H locs hp2 hm => ?_)
  obtain ⟨hr2, hu2⟩ := hp2
  rw [hu2] at hm
  exact mreti hx hb hr hlk hm ⟨hr2, rfl⟩ dC_view_10
set_option maxHeartbeats 4000000 in
set_option maxRecDepth 100000 in
theorem kC_source (l : Launch) (B : Nat) (D : va_G) (cI cZ cL : ClassId) (w : Wd) (o : Nat) (ad va : Nat → Nat) (now : Int32) (n : Nat) (J : Nat → Jr) (hR : cR cI o ad va now n J w) (x t y : Int32) : Met l yC_source (.code yC_source cC_source 5 (some .int) :: BIG) { frames := 2, cells := 0, slots := 0, locals := 43 } (va_Pc [.ref (o), .int (x), .int (t), .int (y)] (mP B D CLS (TYS cI cZ cL) NEST w)) (va_Qi (fun r u => r = oI (tel n J (hd n J x t) y) ∧ u = w) (mE B D CLS) (fun q => B ≤ q)) 0 0 (fun q => B ≤ q) := by
  refine mMet (by decide) rfl (Nat.le_of_ble_eq_true rfl) ?_
  intro p e s m below meth c ls hx hb hml hr hlk hnm hown hts hK hN hm hl
  have hE : ME "ChainPicker" (.code yC_source cC_source 5 (some .int)) _ s m D (TYS cI cZ cL) := ⟨hown, hts, hK, hN⟩
  have hl : lv_has ls 5 [(0, .ref (o)), (1, .int (x)), (2, .int (t)), (3, .int (y))] := hl
  refine lv_aload_n hx hb dC_source_0 rfl (lv_at hl 0 rfl) ?_
  refine lv_iload_n hx hb dC_source_1 rfl (lv_at hl 1 rfl) ?_
  refine lv_iload_n hx hb dC_source_2 rfl (lv_at hl 2 rfl) ?_
  refine mcallq (mcV (n := 2) (As := [.int (x), .int (t)]) (rest := []) hx hb hml hE (kC_findHead l B D cI cZ cL w o ad va now n J hR x t) q_131 q_133 qs_3 q_1 q_134 rfl rfl (by decide +kernel) ⟨Nat.le_of_ble_eq_true rfl, Nat.le_of_ble_eq_true rfl⟩ rfl hl.1 hm rfl hR.1 rfl (Nat.le_of_ble_eq_true rfl) dC_source_3 ⟨Nat.le_of_ble_eq_true rfl, Nat.le_of_ble_eq_true rfl⟩) hm (fun r1 u1 H locs hp1 hm => ?_)
  obtain ⟨hr1, hu1⟩ := hp1
  rw [hu1] at hm
  subst hr1
  refine lv_iload_n hx hb dC_source_6 rfl (lv_at hl 3 rfl) ?_
  refine mcallq (mcS (n := 2) (As := [va_rf ((hd n J x t).map ad), .int (y)]) (rest := []) hx hb hml hE (kC_findTeller l B D cI cZ cL w o ad va now n J hR (hd n J x t) hd_lt y) q_142 q_143 q_1 q_144 rfl rfl (by decide +kernel) ⟨Nat.le_of_ble_eq_true rfl, Nat.le_of_ble_eq_true rfl⟩ rfl hl.1 hm rfl (Nat.le_of_ble_eq_true rfl) dC_source_7 ⟨Nat.le_of_ble_eq_true rfl, Nat.le_of_ble_eq_true rfl⟩) hm (fun r2 u2 H locs hp2 hm => ?_)
  obtain ⟨hr2, hu2⟩ := hp2
  rw [hu2] at hm
  subst hr2
  cases ht : tel n J (hd n J x t) y with
  | none =>
    show W _ _ _ _ _ _ _ _ _ _ _ _ _ _ _ (F0 m 10 ls [.null])
    refine lv_astoreN (lv' := [(4, .null), (0, .ref (o)), (1, .int (x)), (2, .int (t)), (3, .int (y))]) hx hb dC_source_10 hl (by decide) rfl (fun ls hl => ?_)
    refine lv_aloadN hx hb dC_source_12 (lv_at hl 0 rfl) ?_
    refine lv_ifnonnullN hx hb dC_source_14 ?_
    refine lv_iconst (v := (-1)) hx hb dC_source_17 (by decide) ?_
    refine lv_goto (tgt := 26) hx hb dC_source_18 (by decide) ?_
    exact mreti hx hb hr hlk hm ⟨by simp only [oI, ht], rfl⟩ dC_source_26
  | some j =>
    obtain ⟨hjn, hfx, -⟩ := tel_lt hR.2.2.2.2.2.1 hd_lt ht
    show W _ _ _ _ _ _ _ _ _ _ _ _ _ _ _ (F0 m 10 ls [.ref (ad j)])
    refine lv_astore (lv' := [(4, .ref (ad j)), (0, .ref (o)), (1, .int (x)), (2, .int (t)), (3, .int (y))]) hx hb dC_source_10 hl (by decide) rfl (fun ls hl => ?_)
    refine lv_aload hx hb dC_source_12 (lv_at hl 0 rfl) ?_
    refine lv_ifnonnull (tgt := 21) hx hb dC_source_14 (by decide) ?_
    refine lv_aload hx hb dC_source_21 (lv_at hl 0 rfl) ?_
    refine g_C_J_50 (v := .int (nI j)) hx hb hE hm (hR.2.1 j hjn) rfl dC_source_23 ?_
    exact mreti hx hb hr hlk hm ⟨by simp only [oI, ht], rfl⟩ dC_source_26
set_option maxHeartbeats 4000000 in
set_option maxRecDepth 100000 in
theorem kC_files (l : Launch) (B : Nat) (D : va_G) (cI cZ cL : ClassId) (w : Wd) (o : Nat) (ad va : Nat → Nat) (now : Int32) (n : Nat) (J : Nat → Jr) (hR : cR cI o ad va now n J w) (x t : Int32) : Met l yC_files (.code yC_files cC_files 6 (some .int) :: BIG) { frames := 3, cells := 0, slots := 0, locals := 64 } (va_Pc [.ref (o), .int (x), .int (t)] (mP B D CLS (TYS cI cZ cL) NEST w)) (va_Qi (fun r u => r = nI (cnt (fun j => decide (ver n J (hd n J x t) (nI j) ≠ -1)) 50) ∧ u = w) (mE B D CLS) (fun q => B ≤ q)) 0 0 (fun q => B ≤ q) := by
  refine mMet (by decide) rfl (Nat.le_of_ble_eq_true rfl) ?_
  intro p e s m below meth c ls hx hb hml hr hlk hnm hown hts hK hN hm hl
  have hE : ME "ChainPicker" (.code yC_files cC_files 6 (some .int)) _ s m D (TYS cI cZ cL) := ⟨hown, hts, hK, hN⟩
  have hl : lv_has ls 6 [(0, .ref (o)), (1, .int (x)), (2, .int (t))] := hl
  have loop : ∀ (d i : Nat), i + d = 50 → ∀ (y : Int32), y = nI (cnt (fun j => decide (ver n J (hd n J x t) (nI j) ≠ -1)) i) → ∀ (H : Heap) (locs : List Loc) (ls : Array Slot), mS B D CLS s.heap w H locs → lv_has ls 6 [(5, .int (nI i)), (4, .int (y)), (3, va_rf ((hd n J x t).map ad)), (0, .ref (o)), (1, .int (x)), (2, .int (t))] → W p l e ({ frames := 3, cells := 0, slots := 0, locals := 64 }) s m [.ref (o), .int (x), .int (t)].toArray below meth c H locs 0 0 (MQ below (va_Qi (fun r u => r = nI (cnt (fun j => decide (ver n J (hd n J x t) (nI j) ≠ -1)) 50) ∧ u = w) (mE B D CLS) (fun q => B ≤ q)) [.ref (o), .int (x), .int (t)].toArray s 0 0 (fun q => B ≤ q)) (F0 m 13 ls []) := by
    intro d
    induction d with
    | zero =>
      intro i hi y hx0 H locs ls hm hl
      refine lv_iload hx hb dC_files_13 (lv_at hl 0 rfl) ?_
      refine lv_bipush (v := 50) hx hb dC_files_15 (by decide) ?_
      refine lv_icmp_ge (tgt := 39) hx hb dC_files_17 (by decide) (fun c_17 => ?_) (fun c_17 => ?_)
      · refine lv_iload hx hb dC_files_39 (lv_at hl 1 rfl) ?_
        exact mreti hx hb hr hlk hm ⟨by rw [hx0, show i = 50 by omega], rfl⟩ dC_files_41
      · exact absurd (nI_le (a := 50) (b := i) (by omega) (by omega)) c_17
    | succ d ih =>
      intro i hi y hx0 H locs ls hm hl
      have hiN : i < 50 := by omega
      refine lv_iload hx hb dC_files_13 (lv_at hl 0 rfl) ?_
      refine lv_bipush (v := 50) hx hb dC_files_15 (by decide) ?_
      refine lv_icmp_ge (tgt := 39) hx hb dC_files_17 (by decide) (fun c_17 => ?_) (fun c_17 => ?_)
      · exact absurd c_17 (nI_ge (a := i) (b := 50) (by omega) (by omega))
      · refine mloadR hx hb dC_files_20 rfl (lv_at hl 2 rfl) ?_
        refine lv_iload hx hb dC_files_21 (lv_at hl 0 rfl) ?_
        refine mcalli (mcS (n := 2) (As := [va_rf ((hd n J x t).map ad), .int (nI i)]) (rest := []) hx hb hml hE (kC_versionIn l B D cI cZ cL w o ad va now n J hR (hd n J x t) hd_lt (nI i)) q_139 q_140 q_1 q_141 rfl rfl (by decide +kernel) ⟨Nat.le_of_ble_eq_true rfl, Nat.le_of_ble_eq_true rfl⟩ rfl hl.1 hm rfl (Nat.le_of_ble_eq_true rfl) dC_files_23 ⟨Nat.le_of_ble_eq_true rfl, Nat.le_of_ble_eq_true rfl⟩) hm (fun r1 u1 H locs hp1 hm => ?_)
        obtain ⟨hr1, hu1⟩ := hp1
        rw [hu1] at hm
        refine lv_iconst (v := (-1)) hx hb dC_files_26 (by decide) ?_
        refine lv_icmp_eq (tgt := 33) hx hb dC_files_27 (by decide) (fun c_27 => ?_) (fun c_27 => ?_)
        · refine lv_iinc (v := nI i + 1) (lv' := [(5, .int (nI i + 1)), (4, .int (y)), (3, va_rf ((hd n J x t).map ad)), (0, .ref (o)), (1, .int (x)), (2, .int (t))]) hx hb dC_files_33 hl (k := 0) rfl rfl (by decide) rfl (fun ls hl => ?_)
          refine lv_goto (tgt := 13) hx hb dC_files_36 (by decide) ?_
          rw [nI_1] at hl
          exact ih (i + 1) (by omega) (y) (cntU_f hx0 (by rw [hr1] at c_27; simp [c_17, c_27, dec_0, bI_0, ← Int32.not_lt])) H locs ls hm (lv_sub hl [0, 1, 2, 3, 4, 5] rfl)
        · refine lv_iinc (v := y + 1) (lv' := [(4, .int (y + 1)), (5, .int (nI i)), (3, va_rf ((hd n J x t).map ad)), (0, .ref (o)), (1, .int (x)), (2, .int (t))]) hx hb dC_files_30 hl (k := 1) rfl rfl (by decide) (by simp [rf_cat]) (fun ls hl => ?_)
          refine lv_iinc (v := nI i + 1) (lv' := [(5, .int (nI i + 1)), (4, .int (y + 1)), (3, va_rf ((hd n J x t).map ad)), (0, .ref (o)), (1, .int (x)), (2, .int (t))]) hx hb dC_files_33 hl (k := 1) rfl rfl (by decide) rfl (fun ls hl => ?_)
          refine lv_goto (tgt := 13) hx hb dC_files_36 (by decide) ?_
          rw [nI_1] at hl
          exact ih (i + 1) (by omega) (y + 1) (cntU_t hx0 (by rw [hr1] at c_27; simp [c_17, c_27, dec_0, bI_0, ← Int32.not_lt])) H locs ls hm (lv_sub hl [0, 1, 2, 3, 4, 5] rfl)
  refine lv_aload_n hx hb dC_files_0 rfl (lv_at hl 0 rfl) ?_
  refine lv_iload_n hx hb dC_files_1 rfl (lv_at hl 1 rfl) ?_
  refine lv_iload_n hx hb dC_files_2 rfl (lv_at hl 2 rfl) ?_
  refine mcallq (mcV (n := 2) (As := [.int (x), .int (t)]) (rest := []) hx hb hml hE (kC_findHead l B D cI cZ cL w o ad va now n J hR x t) q_131 q_133 qs_3 q_1 q_134 rfl rfl (by decide +kernel) ⟨Nat.le_of_ble_eq_true rfl, Nat.le_of_ble_eq_true rfl⟩ rfl hl.1 hm rfl hR.1 rfl (Nat.le_of_ble_eq_true rfl) dC_files_3 ⟨Nat.le_of_ble_eq_true rfl, Nat.le_of_ble_eq_true rfl⟩) hm (fun r1 u1 H locs hp1 hm => ?_)
  obtain ⟨hr1, hu1⟩ := hp1
  rw [hu1] at hm
  subst hr1
  refine mstoreR (lv' := [(3, va_rf ((hd n J x t).map ad)), (0, .ref (o)), (1, .int (x)), (2, .int (t))]) hx hb dC_files_6 rfl hl (by decide) rfl (fun ls hl => ?_)
  refine lv_iconst (v := 0) hx hb dC_files_7 (by decide) ?_
  refine lv_istore (lv' := [(4, .int (0)), (3, va_rf ((hd n J x t).map ad)), (0, .ref (o)), (1, .int (x)), (2, .int (t))]) hx hb dC_files_8 hl (by decide) (by simp [rf_cat]) (fun ls hl => ?_)
  refine lv_iconst (v := 0) hx hb dC_files_10 (by decide) ?_
  refine lv_istore (lv' := [(5, .int (0)), (4, .int (0)), (3, va_rf ((hd n J x t).map ad)), (0, .ref (o)), (1, .int (x)), (2, .int (t))]) hx hb dC_files_11 hl (by decide) rfl (fun ls hl => ?_)
  exact loop 50 0 (by omega) 0 rfl _ _ ls hm (by rw [nI_0]; exact lv_sub hl [0, 1, 2, 3, 4, 5] rfl)
