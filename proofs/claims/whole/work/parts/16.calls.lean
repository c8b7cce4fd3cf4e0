set_option maxHeartbeats 4000000 in
set_option maxRecDepth 100000 in
/-- tell -/
theorem kC_tell (l : Launch) (B : Nat) (D : va_G) (cI cZ cL : ClassId) (w : Wd) (o : Nat) (ad va : Nat → Nat) (now : Int32) (n : Nat) (J : Nat → Jr) (hR : cR cI o ad va now n J w) (x y v : Int32) : Met l yC_tell (.code yC_tell cC_tell 6 (some .boolean) :: BIG) { frames := 1, cells := 0, slots := 0, locals := 22 } (va_Pc [.ref (o), .int (x), .int (y), .int (v)] (mP B D CLS (TYS cI cZ cL) NEST w)) (va_Qi (fun r u => r = bI (tells n J x y v) ∧ cR cI o ad va now n (teN n J x y v) u ∧ cK o ad va n w u) (mE B D CLS) (fun q => B ≤ q)) 0 0 (fun q => B ≤ q) := by
  refine mMet (by decide) rfl (Nat.le_of_ble_eq_true rfl) ?_
  intro p e s m below meth c ls hx hb hml hr hlk hnm hown hts hK hN hm hl
  have hE : ME "ChainPicker" (.code yC_tell cC_tell 6 (some .boolean)) _ s m D (TYS cI cZ cL) := ⟨hown, hts, hK, hN⟩
  have hl : lv_has ls 6 [(0, .ref (o)), (1, .int (x)), (2, .int (y)), (3, .int (v))] := hl
  refine lv_aload_n hx hb dC_tell_0 rfl (lv_at hl 0 rfl) ?_
  refine lv_iload_n hx hb dC_tell_1 rfl (lv_at hl 1 rfl) ?_
  refine mcallq (mcV (n := 1) (As := [.int (x)]) (rest := []) hx hb hml hE (kC_findJob l B D cI cZ cL w o ad va now n J hR x) q_112 q_114 qs_2 q_1 q_115 rfl rfl (by decide +kernel) ⟨Nat.le_of_ble_eq_true rfl, Nat.le_of_ble_eq_true rfl⟩ rfl hl.1 hm rfl hR.1 rfl (Nat.le_of_ble_eq_true rfl) dC_tell_2 ⟨Nat.le_of_ble_eq_true rfl, Nat.le_of_ble_eq_true rfl⟩) hm (fun r1 u1 H locs hp1 hm => ?_)
  obtain ⟨hr1, hu1⟩ := hp1
  rw [hu1] at hm
  subst hr1
  cases ht : fJ n x with
  | none =>
    show W _ _ _ _ _ _ _ _ _ _ _ _ _ _ _ (F0 m 5 ls [.null])
    refine lv_astoreN (lv' := [(4, .null), (0, .ref (o)), (1, .int (x)), (2, .int (y)), (3, .int (v))]) hx hb dC_tell_5 hl (by decide) rfl (fun ls hl => ?_)
    refine lv_aloadN hx hb dC_tell_7 (lv_at hl 0 rfl) ?_
    refine lv_ifnullN (tgt := 27) hx hb dC_tell_9 (by decide) ?_
    refine lv_iconst (v := 0) hx hb dC_tell_27 (by decide) ?_
    have hT : tells n J x y v = false := by simp [tells, ht]
    exact mretz hx hb hr (by decide +kernel) hlk hm ⟨by rw [hT]; rfl, by simp only [teN, ht]; exact hR, cK.rf⟩ dC_tell_28
  | some j =>
    have hjn : j < n := (fJ_lt ht).1
    show W _ _ _ _ _ _ _ _ _ _ _ _ _ _ _ (F0 m 5 ls [.ref (ad j)])
    refine lv_astore (lv' := [(4, .ref (ad j)), (0, .ref (o)), (1, .int (x)), (2, .int (y)), (3, .int (v))]) hx hb dC_tell_5 hl (by decide) rfl (fun ls hl => ?_)
    refine lv_aload hx hb dC_tell_7 (lv_at hl 0 rfl) ?_
    refine lv_ifnull hx hb dC_tell_9 ?_
    refine lv_aload hx hb dC_tell_12 (lv_at hl 0 rfl) ?_
    refine g_C_J_57 (v := .int (jSt (J j))) hx hb hE hm (hR.2.1 j hjn) rfl dC_tell_14 ?_
    refine lv_if_ne (tgt := 27) hx hb dC_tell_17 (by decide) (fun c_17 => ?_) (fun c_17 => ?_)
    · refine lv_iconst (v := 0) hx hb dC_tell_27 (by decide) ?_
      have hT : tells n J x y v = false := by simp [tells, ht, c_17]
      exact mretz hx hb hr (by decide +kernel) hlk hm ⟨by rw [hT]; rfl, by simp only [teN, ht, hT]; exact hR, cK.rf⟩ dC_tell_28
    · refine lv_iload_n hx hb dC_tell_20 rfl (lv_at hl 3 rfl) ?_
      refine mcalli (mcS (n := 1) (As := [.int (y)]) (rest := []) hx hb hml hE (kC_isFile l B D cI cZ cL w y) q_116 q_117 q_1 q_118 rfl rfl (by decide +kernel) ⟨Nat.le_of_ble_eq_true rfl, Nat.le_of_ble_eq_true rfl⟩ rfl hl.1 hm rfl (Nat.le_of_ble_eq_true rfl) dC_tell_21 ⟨Nat.le_of_ble_eq_true rfl, Nat.le_of_ble_eq_true rfl⟩) hm (fun r2 u2 H locs hp2 hm => ?_)
      obtain ⟨hr2, hu2⟩ := hp2
      rw [hu2] at hm
      refine lv_if_ne (tgt := 29) hx hb dC_tell_24 (by decide) (fun c_24 => ?_) (fun c_24 => ?_)
      · rw [hr2, bI_0] at c_24
        obtain ⟨k, hk, hyk, hck⟩ := isF_of (x := y) (by simpa using c_24)
        refine lv_iload_n hx hb dC_tell_29 rfl (lv_at hl 4 rfl) ?_
        refine lv_iconst (v := (-1)) hx hb dC_tell_30 (by decide) ?_
        refine lv_icmp_ne (tgt := 50) hx hb dC_tell_31 (by decide) (fun c_31 => ?_) (fun c_31 => ?_)
        · refine lv_iload_n hx hb dC_tell_50 rfl (lv_at hl 4 rfl) ?_
          refine mcalli (mcS (n := 1) (As := [.int (v)]) (rest := []) hx hb hml hE (kC_isVersion l B D cI cZ cL w v) q_119 q_120 q_1 q_121 rfl rfl (by decide +kernel) ⟨Nat.le_of_ble_eq_true rfl, Nat.le_of_ble_eq_true rfl⟩ rfl hl.1 hm rfl (Nat.le_of_ble_eq_true rfl) dC_tell_51 ⟨Nat.le_of_ble_eq_true rfl, Nat.le_of_ble_eq_true rfl⟩) hm (fun r3 u3 H locs hp3 hm => ?_)
          obtain ⟨hr3, hu3⟩ := hp3
          rw [hu3] at hm
          refine lv_istore (lv' := [(5, .int (r3)), (4, .ref (ad j)), (0, .ref (o)), (1, .int (x)), (2, .int (y)), (3, .int (v))]) hx hb dC_tell_54 hl (by decide) rfl (fun ls hl => ?_)
          refine lv_iload hx hb dC_tell_56 (lv_at hl 0 rfl) ?_
          refine lv_if_eq (tgt := 69) hx hb dC_tell_58 (by decide) (fun c_58 => ?_) (fun c_58 => ?_)
          · rw [hr3, bI_0] at c_58
            refine lv_iload hx hb dC_tell_69 (lv_at hl 0 rfl) ?_
            have hT : tells n J x y v = false := by simp [tells, ht, c_17, c_24, c_31, c_58]
            exact mretz hx hb hr (by rw [hr3]; exact bI_nar _) hlk hm ⟨by rw [hr3, hT]; exact congrArg bI (by simpa using c_58), by simp only [teN, ht, hT]; exact hR, cK.rf⟩ dC_tell_71
          · rw [hr3, bI_0] at c_58
            refine lv_aload hx hb dC_tell_61 (lv_at hl 1 rfl) ?_
            refine g_C_J_69 (v := .ref (va j)) hx hb hE hm (hR.2.1 j hjn) rfl dC_tell_63 ?_
            refine lv_iload_n hx hb dC_tell_66 rfl (lv_at hl 4 rfl) ?_
            refine lv_iload_n hx hb dC_tell_67 rfl (lv_at hl 5 rfl) ?_
            refine iastE (k) hx hb hE.2.2.1 hm 0 (hR.2.2.1 j hjn) rfl hyk hk (by decide) dC_tell_68 (fun H locs hm => ?_)
            obtain ⟨w4, hhw4⟩ : ∃ z : Wd, z = wset w (va j) (.inl (cI, 50, .inl (upd (jVr (J j)) (k) (v)))) := ⟨_, rfl⟩
            have hm : mS B D CLS s.heap w4 H locs := by rw [hhw4]; exact hm
            have hw4 : w4 = wset (w) (va j) (.inl (cI, 50, .inl (upd (jVr (J j)) (k) (v)))) := by rw [hhw4]
            have fw4 : w4 (va j) = some (.inl (cI, 50, .inl (upd (jVr (J j)) (k) (v)))) := by rw [hhw4]; exact wset_at _ _ _
            refine lv_iload hx hb dC_tell_69 (lv_at hl 0 rfl) ?_
            have hT : tells n J x y v = true := by simp [tells, ht, c_17, c_24, c_31, c_58]
            exact mretz hx hb hr (by rw [hr3]; exact bI_nar _) hlk hm ⟨by rw [hr3, hT]; exact congrArg bI (by simpa using c_58), by rw [hw4]; simp only [teN, ht, hT, if_true, hck]; exact hR.tell hjn v, by rw [hw4]; exact cK.rf.set (cF_va hjn)⟩ dC_tell_71
        · refine lv_aload hx hb dC_tell_34 (lv_at hl 0 rfl) ?_
          refine g_C_J_63 (v := .int (jLev (J j))) hx hb hE hm (hR.2.1 j hjn) rfl dC_tell_36 ?_
          refine lv_if_eq (tgt := 46) hx hb dC_tell_39 (by decide) (fun c_39 => ?_) (fun c_39 => ?_)
          · refine lv_iconst (v := 0) hx hb dC_tell_46 (by decide) ?_
            refine lv_goto (tgt := 54) hx hb dC_tell_47 (by decide) ?_
            refine lv_istore (lv' := [(5, .int (0)), (4, .ref (ad j)), (0, .ref (o)), (1, .int (x)), (2, .int (y)), (3, .int (v))]) hx hb dC_tell_54 hl (by decide) rfl (fun ls hl => ?_)
            refine lv_iload hx hb dC_tell_56 (lv_at hl 0 rfl) ?_
            refine lv_if_eq (tgt := 69) hx hb dC_tell_58 (by decide) (fun c_58 => ?_) (fun c_58 => ?_)
            · refine lv_iload hx hb dC_tell_69 (lv_at hl 0 rfl) ?_
              have hT : tells n J x y v = false := by simp [tells, ht, c_17, c_24, c_31, c_39, c_58]
              exact mretz hx hb hr (by decide +kernel) hlk hm ⟨by rw [hT]; rfl, by simp only [teN, ht, hT]; exact hR, cK.rf⟩ dC_tell_71
            · exact absurd (by decide) c_58
          · refine lv_iconst (v := 1) hx hb dC_tell_42 (by decide) ?_
            refine lv_goto (tgt := 54) hx hb dC_tell_43 (by decide) ?_
            refine lv_istore (lv' := [(5, .int (1)), (4, .ref (ad j)), (0, .ref (o)), (1, .int (x)), (2, .int (y)), (3, .int (v))]) hx hb dC_tell_54 hl (by decide) rfl (fun ls hl => ?_)
            refine lv_iload hx hb dC_tell_56 (lv_at hl 0 rfl) ?_
            refine lv_if_eq (tgt := 69) hx hb dC_tell_58 (by decide) (fun c_58 => ?_) (fun c_58 => ?_)
            · exact absurd c_58 (by decide)
            · refine lv_aload hx hb dC_tell_61 (lv_at hl 1 rfl) ?_
              refine g_C_J_69 (v := .ref (va j)) hx hb hE hm (hR.2.1 j hjn) rfl dC_tell_63 ?_
              refine lv_iload_n hx hb dC_tell_66 rfl (lv_at hl 4 rfl) ?_
              refine lv_iload_n hx hb dC_tell_67 rfl (lv_at hl 5 rfl) ?_
              refine iastE (k) hx hb hE.2.2.1 hm 0 (hR.2.2.1 j hjn) rfl hyk hk (by decide) dC_tell_68 (fun H locs hm => ?_)
              obtain ⟨w5, hhw5⟩ : ∃ z : Wd, z = wset w (va j) (.inl (cI, 50, .inl (upd (jVr (J j)) (k) (v)))) := ⟨_, rfl⟩
              have hm : mS B D CLS s.heap w5 H locs := by rw [hhw5]; exact hm
              have hw5 : w5 = wset (w) (va j) (.inl (cI, 50, .inl (upd (jVr (J j)) (k) (v)))) := by rw [hhw5]
              have fw5 : w5 (va j) = some (.inl (cI, 50, .inl (upd (jVr (J j)) (k) (v)))) := by rw [hhw5]; exact wset_at _ _ _
              refine lv_iload hx hb dC_tell_69 (lv_at hl 0 rfl) ?_
              have hT : tells n J x y v = true := by simp [tells, ht, c_17, c_24, c_31, c_39, c_58]
              exact mretz hx hb hr (by decide +kernel) hlk hm ⟨by rw [hT]; rfl, by rw [hw5]; simp only [teN, ht, hT, if_true, hck]; exact hR.tell hjn v, by rw [hw5]; exact cK.rf.set (cF_va hjn)⟩ dC_tell_71
      · rw [hr2, bI_0] at c_24
        refine lv_iconst (v := 0) hx hb dC_tell_27 (by decide) ?_
        have hT : tells n J x y v = false := by simp [tells, ht, c_17, c_24]
        exact mretz hx hb hr (by decide +kernel) hlk hm ⟨by rw [hT]; rfl, by simp only [teN, ht, hT]; exact hR, cK.rf⟩ dC_tell_28
set_option maxHeartbeats 4000000 in
set_option maxRecDepth 100000 in
/-- end -/
theorem kC_end (l : Launch) (B : Nat) (D : va_G) (cI cZ cL : ClassId) (w : Wd) (o : Nat) (ad va : Nat → Nat) (now : Int32) (n : Nat) (J : Nat → Jr) (hR : cR cI o ad va now n J w) (x g : Int32) : Met l yC_end (.code yC_end cC_end 4 (some .boolean) :: BIG) { frames := 1, cells := 0, slots := 0, locals := 22 } (va_Pc [.ref (o), .int (x), .int (g)] (mP B D CLS (TYS cI cZ cL) NEST w)) (va_Qi (fun r u => r = bI (ends n J x) ∧ cR cI o ad va now n (enN n J x g now) u ∧ cK o ad va n w u) (mE B D CLS) (fun q => B ≤ q)) 0 0 (fun q => B ≤ q) := by
  refine mMet (by decide) rfl (Nat.le_of_ble_eq_true rfl) ?_
  intro p e s m below meth c ls hx hb hml hr hlk hnm hown hts hK hN hm hl
  have hE : ME "ChainPicker" (.code yC_end cC_end 4 (some .boolean)) _ s m D (TYS cI cZ cL) := ⟨hown, hts, hK, hN⟩
  have hl : lv_has ls 4 [(0, .ref (o)), (1, .int (x)), (2, .int (g))] := hl
  refine lv_aload_n hx hb dC_end_0 rfl (lv_at hl 0 rfl) ?_
  refine lv_iload_n hx hb dC_end_1 rfl (lv_at hl 1 rfl) ?_
  refine mcallq (mcV (n := 1) (As := [.int (x)]) (rest := []) hx hb hml hE (kC_findJob l B D cI cZ cL w o ad va now n J hR x) q_112 q_114 qs_2 q_1 q_115 rfl rfl (by decide +kernel) ⟨Nat.le_of_ble_eq_true rfl, Nat.le_of_ble_eq_true rfl⟩ rfl hl.1 hm rfl hR.1 rfl (Nat.le_of_ble_eq_true rfl) dC_end_2 ⟨Nat.le_of_ble_eq_true rfl, Nat.le_of_ble_eq_true rfl⟩) hm (fun r1 u1 H locs hp1 hm => ?_)
  obtain ⟨hr1, hu1⟩ := hp1
  rw [hu1] at hm
  subst hr1
  cases ht : fJ n x with
  | none =>
    show W _ _ _ _ _ _ _ _ _ _ _ _ _ _ _ (F0 m 5 ls [.null])
    refine lv_astore_nN (lv' := [(3, .null), (0, .ref (o)), (1, .int (x)), (2, .int (g))]) hx hb dC_end_5 rfl hl (by decide) rfl (fun ls hl => ?_)
    refine lv_aload_nN hx hb dC_end_6 rfl (lv_at hl 0 rfl) ?_
    refine lv_ifnullN (tgt := 17) hx hb dC_end_7 (by decide) ?_
    refine lv_iconst (v := 0) hx hb dC_end_17 (by decide) ?_
    exact mretz hx hb hr (by decide +kernel) hlk hm ⟨by simp [ends, ht, bI], by simp only [enN, ht]; exact hR, cK.rf⟩ dC_end_18
  | some j =>
    have hjn : j < n := (fJ_lt ht).1
    show W _ _ _ _ _ _ _ _ _ _ _ _ _ _ _ (F0 m 5 ls [.ref (ad j)])
    refine lv_astore_n (lv' := [(3, .ref (ad j)), (0, .ref (o)), (1, .int (x)), (2, .int (g))]) hx hb dC_end_5 rfl hl (by decide) rfl (fun ls hl => ?_)
    refine lv_aload_n hx hb dC_end_6 rfl (lv_at hl 0 rfl) ?_
    refine lv_ifnull hx hb dC_end_7 ?_
    refine lv_aload_n hx hb dC_end_10 rfl (lv_at hl 0 rfl) ?_
    refine g_C_J_57 (v := .int (jSt (J j))) hx hb hE hm (hR.2.1 j hjn) rfl dC_end_11 ?_
    refine lv_if_eq (tgt := 19) hx hb dC_end_14 (by decide) (fun c_14 => ?_) (fun c_14 => ?_)
    · refine lv_aload_n hx hb dC_end_19 rfl (lv_at hl 0 rfl) ?_
      refine lv_iload_n hx hb dC_end_20 rfl (lv_at hl 3 rfl) ?_
      refine lv_if_eq (tgt := 28) hx hb dC_end_21 (by decide) (fun c_21 => ?_) (fun c_21 => ?_)
      · refine lv_iconst (v := 2) hx hb dC_end_28 (by decide) ?_
        refine p_C_J_57 (x := 2) hx hb hE hm (hR.2.1 j hjn) (by simp) dC_end_29 (fun H locs hm => ?_)
        obtain ⟨w2, hhw2⟩ : ∃ z : Wd, z = wset w (ad j) (.inr (0, [.int (nI j), .int (jSer (J j)), .int (jLev (J j)), .int (bI (jUp (J j))), va_rf ((jBs (J j)).map ad), .int (jBg (J j)), va_rf (prv ad j), .ref (va j), .int (jEn (J j)), .int (2), .int (bI (jPr (J j))), .int (nI (sd n J j))])) := ⟨_, rfl⟩
        have hm : mS B D CLS s.heap w2 H locs := by rw [hhw2]; exact hm
        have hw2 : w2 = wset (w) (ad j) (.inr (0, [.int (nI j), .int (jSer (J j)), .int (jLev (J j)), .int (bI (jUp (J j))), va_rf ((jBs (J j)).map ad), .int (jBg (J j)), va_rf (prv ad j), .ref (va j), .int (jEn (J j)), .int (2), .int (bI (jPr (J j))), .int (nI (sd n J j))])) := by rw [hhw2]
        have fw2 : w2 (ad j) = some (.inr (0, [.int (nI j), .int (jSer (J j)), .int (jLev (J j)), .int (bI (jUp (J j))), va_rf ((jBs (J j)).map ad), .int (jBg (J j)), va_rf (prv ad j), .ref (va j), .int (jEn (J j)), .int (2), .int (bI (jPr (J j))), .int (nI (sd n J j))])) := by rw [hhw2]; exact wset_at _ _ _
        have fw2_1 := (show w2 (o) = w (o) by rw [hhw2]; exact wset_ne (Ne.symm (hR.ado hjn))).trans hR.1
        refine lv_aload_n hx hb dC_end_32 rfl (lv_at hl 0 rfl) ?_
        refine lv_aload_n hx hb dC_end_33 rfl (lv_at hl 1 rfl) ?_
        refine g_C_C_9 (v := .int (now)) hx hb hE hm fw2_1 rfl dC_end_34 ?_
        refine p_C_J_73 (x := now) hx hb hE hm fw2 (by simp) dC_end_37 (fun H locs hm => ?_)
        obtain ⟨w3, hhw3⟩ : ∃ z : Wd, z = wset w2 (ad j) (.inr (0, [.int (nI j), .int (jSer (J j)), .int (jLev (J j)), .int (bI (jUp (J j))), va_rf ((jBs (J j)).map ad), .int (jBg (J j)), va_rf (prv ad j), .ref (va j), .int (now), .int (2), .int (bI (jPr (J j))), .int (nI (sd n J j))])) := ⟨_, rfl⟩
        have hm : mS B D CLS s.heap w3 H locs := by rw [hhw3]; exact hm
        have hw3 : w3 = wset (w) (ad j) (.inr (0, [.int (nI j), .int (jSer (J j)), .int (jLev (J j)), .int (bI (jUp (J j))), va_rf ((jBs (J j)).map ad), .int (jBg (J j)), va_rf (prv ad j), .ref (va j), .int (now), .int (2), .int (bI (jPr (J j))), .int (nI (sd n J j))])) := by rw [hhw3, hw2]; funext z; by_cases hz : z = ad j <;> simp [wset, hz]
        have fw3 : w3 (ad j) = some (.inr (0, [.int (nI j), .int (jSer (J j)), .int (jLev (J j)), .int (bI (jUp (J j))), va_rf ((jBs (J j)).map ad), .int (jBg (J j)), va_rf (prv ad j), .ref (va j), .int (now), .int (2), .int (bI (jPr (J j))), .int (nI (sd n J j))])) := by rw [hhw3]; exact wset_at _ _ _
        have fw3_1 := (show w3 (o) = w2 (o) by rw [hhw3]; exact wset_ne (Ne.symm (hR.ado hjn))).trans fw2_1
        refine lv_iconst (v := 1) hx hb dC_end_40 (by decide) ?_
        exact mretz hx hb hr (by decide +kernel) hlk hm ⟨by simp [ends, ht, bI, c_14, c_21], by rw [hw3]; simp only [enN, ht, if_pos c_14, if_pos c_21]; exact hR.endj hjn _ _, by rw [hw3]; exact cK.rf.set (cF_ad hjn)⟩ dC_end_41
      · refine lv_iconst (v := 1) hx hb dC_end_24 (by decide) ?_
        refine lv_goto (tgt := 29) hx hb dC_end_25 (by decide) ?_
        refine p_C_J_57 (x := 1) hx hb hE hm (hR.2.1 j hjn) (by simp) dC_end_29 (fun H locs hm => ?_)
        obtain ⟨w4, hhw4⟩ : ∃ z : Wd, z = wset w (ad j) (.inr (0, [.int (nI j), .int (jSer (J j)), .int (jLev (J j)), .int (bI (jUp (J j))), va_rf ((jBs (J j)).map ad), .int (jBg (J j)), va_rf (prv ad j), .ref (va j), .int (jEn (J j)), .int (1), .int (bI (jPr (J j))), .int (nI (sd n J j))])) := ⟨_, rfl⟩
        have hm : mS B D CLS s.heap w4 H locs := by rw [hhw4]; exact hm
        have hw4 : w4 = wset (w) (ad j) (.inr (0, [.int (nI j), .int (jSer (J j)), .int (jLev (J j)), .int (bI (jUp (J j))), va_rf ((jBs (J j)).map ad), .int (jBg (J j)), va_rf (prv ad j), .ref (va j), .int (jEn (J j)), .int (1), .int (bI (jPr (J j))), .int (nI (sd n J j))])) := by rw [hhw4]
        have fw4 : w4 (ad j) = some (.inr (0, [.int (nI j), .int (jSer (J j)), .int (jLev (J j)), .int (bI (jUp (J j))), va_rf ((jBs (J j)).map ad), .int (jBg (J j)), va_rf (prv ad j), .ref (va j), .int (jEn (J j)), .int (1), .int (bI (jPr (J j))), .int (nI (sd n J j))])) := by rw [hhw4]; exact wset_at _ _ _
        have fw4_1 := (show w4 (o) = w (o) by rw [hhw4]; exact wset_ne (Ne.symm (hR.ado hjn))).trans hR.1
        refine lv_aload_n hx hb dC_end_32 rfl (lv_at hl 0 rfl) ?_
        refine lv_aload_n hx hb dC_end_33 rfl (lv_at hl 1 rfl) ?_
        refine g_C_C_9 (v := .int (now)) hx hb hE hm fw4_1 rfl dC_end_34 ?_
        refine p_C_J_73 (x := now) hx hb hE hm fw4 (by simp) dC_end_37 (fun H locs hm => ?_)
        obtain ⟨w5, hhw5⟩ : ∃ z : Wd, z = wset w4 (ad j) (.inr (0, [.int (nI j), .int (jSer (J j)), .int (jLev (J j)), .int (bI (jUp (J j))), va_rf ((jBs (J j)).map ad), .int (jBg (J j)), va_rf (prv ad j), .ref (va j), .int (now), .int (1), .int (bI (jPr (J j))), .int (nI (sd n J j))])) := ⟨_, rfl⟩
        have hm : mS B D CLS s.heap w5 H locs := by rw [hhw5]; exact hm
        have hw5 : w5 = wset (w) (ad j) (.inr (0, [.int (nI j), .int (jSer (J j)), .int (jLev (J j)), .int (bI (jUp (J j))), va_rf ((jBs (J j)).map ad), .int (jBg (J j)), va_rf (prv ad j), .ref (va j), .int (now), .int (1), .int (bI (jPr (J j))), .int (nI (sd n J j))])) := by rw [hhw5, hw4]; funext z; by_cases hz : z = ad j <;> simp [wset, hz]
        have fw5 : w5 (ad j) = some (.inr (0, [.int (nI j), .int (jSer (J j)), .int (jLev (J j)), .int (bI (jUp (J j))), va_rf ((jBs (J j)).map ad), .int (jBg (J j)), va_rf (prv ad j), .ref (va j), .int (now), .int (1), .int (bI (jPr (J j))), .int (nI (sd n J j))])) := by rw [hhw5]; exact wset_at _ _ _
        have fw5_1 := (show w5 (o) = w4 (o) by rw [hhw5]; exact wset_ne (Ne.symm (hR.ado hjn))).trans fw4_1
        refine lv_iconst (v := 1) hx hb dC_end_40 (by decide) ?_
        exact mretz hx hb hr (by decide +kernel) hlk hm ⟨by simp [ends, ht, bI, c_14, c_21], by rw [hw5]; simp only [enN, ht, if_pos c_14, if_neg c_21]; exact hR.endj hjn _ _, by rw [hw5]; exact cK.rf.set (cF_ad hjn)⟩ dC_end_41
    · refine lv_iconst (v := 0) hx hb dC_end_17 (by decide) ?_
      exact mretz hx hb hr (by decide +kernel) hlk hm ⟨by simp [ends, ht, bI, c_14], by simp only [enN, ht, if_neg c_14]; exact hR, cK.rf⟩ dC_end_18
set_option maxHeartbeats 4000000 in
set_option maxRecDepth 100000 in
/-- prune -/
theorem kC_prune (l : Launch) (B : Nat) (D : va_G) (cI cZ cL : ClassId) (w : Wd) (o : Nat) (ad va : Nat → Nat) (now : Int32) (n : Nat) (J : Nat → Jr) (hR : cR cI o ad va now n J w) (x : Int32) : Met l yC_prune (.code yC_prune cC_prune 3 (some .boolean) :: BIG) { frames := 2, cells := 0, slots := 0, locals := 43 } (va_Pc [.ref (o), .int (x)] (mP B D CLS (TYS cI cZ cL) NEST w)) (va_Qi (fun r u => r = bI (prs n J x) ∧ cR cI o ad va now n (prN n J x) u ∧ cK o ad va n w u) (mE B D CLS) (fun q => B ≤ q)) 0 0 (fun q => B ≤ q) := by
  refine mMet (by decide) rfl (Nat.le_of_ble_eq_true rfl) ?_
  intro p e s m below meth c ls hx hb hml hr hlk hnm hown hts hK hN hm hl
  have hE : ME "ChainPicker" (.code yC_prune cC_prune 3 (some .boolean)) _ s m D (TYS cI cZ cL) := ⟨hown, hts, hK, hN⟩
  have hl : lv_has ls 3 [(0, .ref (o)), (1, .int (x))] := hl
  refine lv_aload_n hx hb dC_prune_0 rfl (lv_at hl 0 rfl) ?_
  refine lv_iload_n hx hb dC_prune_1 rfl (lv_at hl 1 rfl) ?_
  refine mcallq (mcV (n := 1) (As := [.int (x)]) (rest := []) hx hb hml hE (kC_findJob l B D cI cZ cL w o ad va now n J hR x) q_112 q_114 qs_2 q_1 q_115 rfl rfl (by decide +kernel) ⟨Nat.le_of_ble_eq_true rfl, Nat.le_of_ble_eq_true rfl⟩ rfl hl.1 hm rfl hR.1 rfl (Nat.le_of_ble_eq_true rfl) dC_prune_2 ⟨Nat.le_of_ble_eq_true rfl, Nat.le_of_ble_eq_true rfl⟩) hm (fun r1 u1 H locs hp1 hm => ?_)
  obtain ⟨hr1, hu1⟩ := hp1
  rw [hu1] at hm
  subst hr1
  cases ht : fJ n x with
  | none =>
    show W _ _ _ _ _ _ _ _ _ _ _ _ _ _ _ (F0 m 5 ls [.null])
    refine lv_astore_nN (lv' := [(2, .null), (0, .ref (o)), (1, .int (x))]) hx hb dC_prune_5 rfl hl (by decide) rfl (fun ls hl => ?_)
    refine lv_aload_nN hx hb dC_prune_6 rfl (lv_at hl 0 rfl) ?_
    refine lv_ifnullN (tgt := 17) hx hb dC_prune_7 (by decide) ?_
    refine lv_iconst (v := 0) hx hb dC_prune_17 (by decide) ?_
    exact mretz hx hb hr (by decide +kernel) hlk hm ⟨by simp [prs, ht, bI], by simp only [prN, ht]; exact hR, cK.rf⟩ dC_prune_18
  | some j =>
    have hjn : j < n := (fJ_lt ht).1
    show W _ _ _ _ _ _ _ _ _ _ _ _ _ _ _ (F0 m 5 ls [.ref (ad j)])
    refine lv_astore_n (lv' := [(2, .ref (ad j)), (0, .ref (o)), (1, .int (x))]) hx hb dC_prune_5 rfl hl (by decide) rfl (fun ls hl => ?_)
    refine lv_aload_n hx hb dC_prune_6 rfl (lv_at hl 0 rfl) ?_
    refine lv_ifnull hx hb dC_prune_7 ?_
    refine lv_aload_n hx hb dC_prune_10 rfl (lv_at hl 0 rfl) ?_
    refine mcalli (mcS (n := 1) (As := [.ref (ad j)]) (rest := []) hx hb hml hE (kC_isFree l B D cI cZ cL w (ad j) _ _ _ _ _ _ _ _ _ _ _ _ (hR.2.1 j hjn)) q_157 q_158 q_1 q_159 rfl rfl (by decide +kernel) ⟨Nat.le_of_ble_eq_true rfl, Nat.le_of_ble_eq_true rfl⟩ rfl hl.1 hm rfl (Nat.le_of_ble_eq_true rfl) dC_prune_11 ⟨Nat.le_of_ble_eq_true rfl, Nat.le_of_ble_eq_true rfl⟩) hm (fun r2 u2 H locs hp2 hm => ?_)
    obtain ⟨hr2, hu2⟩ := hp2
    rw [hu2] at hm
    have hr2 := fr_r hR.n200 hr2
    refine lv_if_ne (tgt := 19) hx hb dC_prune_14 (by decide) (fun c_14 => ?_) (fun c_14 => ?_)
    · rw [hr2, bI_0] at c_14
      refine lv_aload_n hx hb dC_prune_19 rfl (lv_at hl 0 rfl) ?_
      refine mcallv (mcS (n := 1) (As := [.ref (ad j)]) (rest := []) hx hb hml hE (kC_drop l B D cI cZ cL w o ad va now n J hR j hjn (fr_pr (by simpa using c_14))) q_160 q_161 q_1 q_162 rfl rfl (by decide +kernel) ⟨Nat.le_of_ble_eq_true rfl, Nat.le_of_ble_eq_true rfl⟩ rfl hl.1 hm rfl (Nat.le_of_ble_eq_true rfl) dC_prune_20 ⟨Nat.le_of_ble_eq_true rfl, Nat.le_of_ble_eq_true rfl⟩) hm (fun u3 H locs hp3 hm => ?_)
      refine lv_iconst (v := 1) hx hb dC_prune_23 (by decide) ?_
      exact mretz hx hb hr (by decide +kernel) hlk hm ⟨by simp [prs, ht, bI, c_14], by simp [prN, ht, c_14]; exact hp3.1, hp3.2⟩ dC_prune_24
    · rw [hr2, bI_0] at c_14
      refine lv_iconst (v := 0) hx hb dC_prune_17 (by decide) ?_
      exact mretz hx hb hr (by decide +kernel) hlk hm ⟨by simp [prs, ht, bI, c_14], by simp [prN, ht, c_14]; exact hR, cK.rf⟩ dC_prune_18
set_option maxHeartbeats 4000000 in
set_option maxRecDepth 100000 in
/-- count -/
theorem kC_count (l : Launch) (B : Nat) (D : va_G) (cI cZ cL : ClassId) (w : Wd) (o : Nat) (ad va : Nat → Nat) (now : Int32) (n : Nat) (J : Nat → Jr) (hR : cR cI o ad va now n J w) (x : Int32) : Met l yC_count (.code yC_count cC_count 2 (some .int) :: BIG) { frames := 1, cells := 0, slots := 0, locals := 22 } (va_Pc [.ref (o), .int (x)] (mP B D CLS (TYS cI cZ cL) NEST w)) (va_Qi (fun r u => r = cntw now n J x ∧ u = w) (mE B D CLS) (fun q => B ≤ q)) 0 0 (fun q => B ≤ q) := by
  refine mMet (by decide) rfl (Nat.le_of_ble_eq_true rfl) ?_
  intro p e s m below meth c ls hx hb hml hr hlk hnm hown hts hK hN hm hl
  have hE : ME "ChainPicker" (.code yC_count cC_count 2 (some .int)) _ s m D (TYS cI cZ cL) := ⟨hown, hts, hK, hN⟩
  have hl : lv_has ls 2 [(0, .ref (o)), (1, .int (x))] := hl
  refine lv_iload_n hx hb dC_count_0 rfl (lv_at hl 1 rfl) ?_
  by_cases e_0 : x = 0
  · subst e_0
    refine lv_tableIn (off := 31) (tgt := 32) hx hb dC_count_1 (by decide) (by decide) (by decide) (by decide) ?_
    refine lv_aload_n hx hb dC_count_32 rfl (lv_at hl 0 rfl) ?_
    refine g_C_C_9 (v := .int (now)) hx hb hE hm hR.1 rfl dC_count_33 ?_
    exact mreti hx hb hr hlk hm ⟨by simp [cntw], rfl⟩ dC_count_36
  by_cases e_1 : x = 1
  · subst e_1
    refine lv_tableIn (off := 36) (tgt := 37) hx hb dC_count_1 (by decide) (by decide) (by decide) (by decide) ?_
    refine lv_aload_n hx hb dC_count_37 rfl (lv_at hl 0 rfl) ?_
    refine g_C_C_13 (v := .int (nI n)) hx hb hE hm hR.1 rfl dC_count_38 ?_
    exact mreti hx hb hr hlk hm ⟨by simp [cntw], rfl⟩ dC_count_41
  by_cases e_2 : x = 2
  · subst e_2
    refine lv_tableIn (off := 41) (tgt := 42) hx hb dC_count_1 (by decide) (by decide) (by decide) (by decide) ?_
    refine lv_aload_n hx hb dC_count_42 rfl (lv_at hl 0 rfl) ?_
    refine mcalli (mcV (n := 0) (As := []) (rest := []) hx hb hml hE (kC_countRunning l B D cI cZ cL w o ad va now n J hR) q_175 q_177 qs_4 q_1 q_178 rfl rfl (by decide +kernel) ⟨Nat.le_of_ble_eq_true rfl, Nat.le_of_ble_eq_true rfl⟩ rfl hl.1 hm rfl hR.1 rfl (Nat.le_of_ble_eq_true rfl) dC_count_43 ⟨Nat.le_of_ble_eq_true rfl, Nat.le_of_ble_eq_true rfl⟩) hm (fun r1 u1 H locs hp1 hm => ?_)
    obtain ⟨hr1, hu1⟩ := hp1
    rw [hu1] at hm
    exact mreti hx hb hr hlk hm ⟨by rw [hr1]; simp [cntw], rfl⟩ dC_count_46
  by_cases e_3 : x = 3
  · subst e_3
    refine lv_tableIn (off := 46) (tgt := 47) hx hb dC_count_1 (by decide) (by decide) (by decide) (by decide) ?_
    refine lv_aload_n hx hb dC_count_47 rfl (lv_at hl 0 rfl) ?_
    refine mcalli (mcV (n := 0) (As := []) (rest := []) hx hb hml hE (kC_countPruned l B D cI cZ cL w o ad va now n J hR) q_179 q_181 qs_5 q_1 q_182 rfl rfl (by decide +kernel) ⟨Nat.le_of_ble_eq_true rfl, Nat.le_of_ble_eq_true rfl⟩ rfl hl.1 hm rfl hR.1 rfl (Nat.le_of_ble_eq_true rfl) dC_count_48 ⟨Nat.le_of_ble_eq_true rfl, Nat.le_of_ble_eq_true rfl⟩) hm (fun r2 u2 H locs hp2 hm => ?_)
    obtain ⟨hr2, hu2⟩ := hp2
    rw [hu2] at hm
    exact mreti hx hb hr hlk hm ⟨by rw [hr2]; simp [cntw], rfl⟩ dC_count_51
  refine lv_tableOut (tgt := 52) hx hb dC_count_1 (by have z_0 := lv_neT (k := 0) (a := 0) e_0 (by decide); have z_1 := lv_neT (k := 1) (a := 1) e_1 (by decide); have z_2 := lv_neT (k := 2) (a := 2) e_2 (by decide); have z_3 := lv_neT (k := 3) (a := 3) e_3 (by decide); omega) (by decide) ?_
  refine lv_iconst (v := (-1)) hx hb dC_count_52 (by decide) ?_
  exact mreti hx hb hr hlk hm ⟨by simp [cntw, e_0, e_1, e_2, e_3], rfl⟩ dC_count_53
set_option maxHeartbeats 4000000 in
set_option maxRecDepth 100000 in
/-- job -/
theorem kC_job (l : Launch) (B : Nat) (D : va_G) (cI cZ cL : ClassId) (w : Wd) (o : Nat) (ad va : Nat → Nat) (now : Int32) (n : Nat) (J : Nat → Jr) (hR : cR cI o ad va now n J w) (x y : Int32) : Met l yC_job (.code yC_job cC_job 4 (some .int) :: BIG) { frames := 1, cells := 0, slots := 0, locals := 22 } (va_Pc [.ref (o), .int (x), .int (y)] (mP B D CLS (TYS cI cZ cL) NEST w)) (va_Qi (fun r u => r = jobw n J x y ∧ u = w) (mE B D CLS) (fun q => B ≤ q)) 0 0 (fun q => B ≤ q) := by
  refine mMet (by decide) rfl (Nat.le_of_ble_eq_true rfl) ?_
  intro p e s m below meth c ls hx hb hml hr hlk hnm hown hts hK hN hm hl
  have hE : ME "ChainPicker" (.code yC_job cC_job 4 (some .int)) _ s m D (TYS cI cZ cL) := ⟨hown, hts, hK, hN⟩
  have hl : lv_has ls 4 [(0, .ref (o)), (1, .int (x)), (2, .int (y))] := hl
  refine lv_aload_n hx hb dC_job_0 rfl (lv_at hl 0 rfl) ?_
  refine lv_iload_n hx hb dC_job_1 rfl (lv_at hl 1 rfl) ?_
  refine mcallq (mcV (n := 1) (As := [.int (x)]) (rest := []) hx hb hml hE (kC_findJob l B D cI cZ cL w o ad va now n J hR x) q_112 q_114 qs_2 q_1 q_115 rfl rfl (by decide +kernel) ⟨Nat.le_of_ble_eq_true rfl, Nat.le_of_ble_eq_true rfl⟩ rfl hl.1 hm rfl hR.1 rfl (Nat.le_of_ble_eq_true rfl) dC_job_2 ⟨Nat.le_of_ble_eq_true rfl, Nat.le_of_ble_eq_true rfl⟩) hm (fun r1 u1 H locs hp1 hm => ?_)
  obtain ⟨hr1, hu1⟩ := hp1
  rw [hu1] at hm
  subst hr1
  cases ht : fJ n x with
  | none =>
    show W _ _ _ _ _ _ _ _ _ _ _ _ _ _ _ (F0 m 5 ls [.null])
    refine lv_astore_nN (lv' := [(3, .null), (0, .ref (o)), (1, .int (x)), (2, .int (y))]) hx hb dC_job_5 rfl hl (by decide) rfl (fun ls hl => ?_)
    refine lv_aload_nN hx hb dC_job_6 rfl (lv_at hl 0 rfl) ?_
    refine lv_ifnonnullN hx hb dC_job_7 ?_
    refine lv_iconst (v := (-1)) hx hb dC_job_10 (by decide) ?_
    exact mreti hx hb hr hlk hm ⟨by simp [jobw, ht, oI, bI], rfl⟩ dC_job_11
  | some j =>
    have hjn : j < n := (fJ_lt ht).1
    cases hb0 : jBs (J j) with
    | none =>
      have hA : w (ad j) = some (.inr (0, [.int (nI j), .int (jSer (J j)), .int (jLev (J j)), .int (bI (jUp (J j))), .null, .int (jBg (J j)), va_rf (prv ad j), .ref (va j), .int (jEn (J j)), .int (jSt (J j)), .int (bI (jPr (J j))), .int (nI (sd n J j))])) := by have h := hR.2.1 j hjn; rw [jL, hb0] at h; exact h
      show W _ _ _ _ _ _ _ _ _ _ _ _ _ _ _ (F0 m 5 ls [.ref (ad j)])
      refine lv_astore_n (lv' := [(3, .ref (ad j)), (0, .ref (o)), (1, .int (x)), (2, .int (y))]) hx hb dC_job_5 rfl hl (by decide) rfl (fun ls hl => ?_)
      refine lv_aload_n hx hb dC_job_6 rfl (lv_at hl 0 rfl) ?_
      refine lv_ifnonnull (tgt := 12) hx hb dC_job_7 (by decide) ?_
      refine lv_iload_n hx hb dC_job_12 rfl (lv_at hl 3 rfl) ?_
      by_cases e_0 : y = 0
      · subst e_0
        refine lv_tableIn (off := 59) (tgt := 72) hx hb dC_job_13 (by decide) (by decide) (by decide) (by decide) ?_
        refine lv_aload_n hx hb dC_job_72 rfl (lv_at hl 0 rfl) ?_
        refine g_C_J_111 (v := .int (jSer (J j))) hx hb hE hm hA rfl dC_job_73 ?_
        exact mreti hx hb hr hlk hm ⟨by simp [jobw, ht, oI, bI, hb0], rfl⟩ dC_job_76
      by_cases e_1 : y = 1
      · subst e_1
        refine lv_tableIn (off := 64) (tgt := 77) hx hb dC_job_13 (by decide) (by decide) (by decide) (by decide) ?_
        refine lv_aload_n hx hb dC_job_77 rfl (lv_at hl 0 rfl) ?_
        refine g_C_J_63 (v := .int (jLev (J j))) hx hb hE hm hA rfl dC_job_78 ?_
        exact mreti hx hb hr hlk hm ⟨by simp [jobw, ht, oI, bI, hb0], rfl⟩ dC_job_81
      by_cases e_2 : y = 2
      · subst e_2
        refine lv_tableIn (off := 69) (tgt := 82) hx hb dC_job_13 (by decide) (by decide) (by decide) (by decide) ?_
        refine lv_aload_n hx hb dC_job_82 rfl (lv_at hl 0 rfl) ?_
        refine g_C_J_114 (v := .int (bI (jUp (J j)))) hx hb hE hm hA rfl dC_job_83 ?_
        refine lv_if_eq (tgt := 93) hx hb dC_job_86 (by decide) (fun c_86 => ?_) (fun c_86 => ?_)
        · rw [bI_0] at c_86
          refine lv_iconst (v := 0) hx hb dC_job_93 (by decide) ?_
          exact mreti hx hb hr hlk hm ⟨by simp [jobw, ht, oI, bI, hb0, c_86], rfl⟩ dC_job_94
        · rw [bI_0] at c_86
          refine lv_iconst (v := 1) hx hb dC_job_89 (by decide) ?_
          refine lv_goto (tgt := 94) hx hb dC_job_90 (by decide) ?_
          exact mreti hx hb hr hlk hm ⟨by simp [jobw, ht, oI, bI, hb0, c_86], rfl⟩ dC_job_94
      by_cases e_3 : y = 3
      · subst e_3
        refine lv_tableIn (off := 82) (tgt := 95) hx hb dC_job_13 (by decide) (by decide) (by decide) (by decide) ?_
        refine lv_aload_n hx hb dC_job_95 rfl (lv_at hl 0 rfl) ?_
        refine g_C_J_79 (v := .null) hx hb hE hm hA rfl dC_job_96 ?_
        refine lv_ifnonnullN hx hb dC_job_99 ?_
        refine lv_iconst (v := (-1)) hx hb dC_job_102 (by decide) ?_
        refine lv_goto (tgt := 113) hx hb dC_job_103 (by decide) ?_
        exact mreti hx hb hr hlk hm ⟨by simp [jobw, ht, oI, bI, hb0], rfl⟩ dC_job_113
      by_cases e_4 : y = 4
      · subst e_4
        refine lv_tableIn (off := 101) (tgt := 114) hx hb dC_job_13 (by decide) (by decide) (by decide) (by decide) ?_
        refine lv_aload_n hx hb dC_job_114 rfl (lv_at hl 0 rfl) ?_
        refine g_C_J_118 (v := .int (jBg (J j))) hx hb hE hm hA rfl dC_job_115 ?_
        exact mreti hx hb hr hlk hm ⟨by simp [jobw, ht, oI, bI, hb0], rfl⟩ dC_job_118
      by_cases e_5 : y = 5
      · subst e_5
        refine lv_tableIn (off := 106) (tgt := 119) hx hb dC_job_13 (by decide) (by decide) (by decide) (by decide) ?_
        refine lv_aload_n hx hb dC_job_119 rfl (lv_at hl 0 rfl) ?_
        refine g_C_J_73 (v := .int (jEn (J j))) hx hb hE hm hA rfl dC_job_120 ?_
        exact mreti hx hb hr hlk hm ⟨by simp [jobw, ht, oI, bI, hb0], rfl⟩ dC_job_123
      by_cases e_6 : y = 6
      · subst e_6
        refine lv_tableIn (off := 111) (tgt := 124) hx hb dC_job_13 (by decide) (by decide) (by decide) (by decide) ?_
        refine lv_aload_n hx hb dC_job_124 rfl (lv_at hl 0 rfl) ?_
        refine g_C_J_57 (v := .int (jSt (J j))) hx hb hE hm hA rfl dC_job_125 ?_
        exact mreti hx hb hr hlk hm ⟨by simp [jobw, ht, oI, bI, hb0], rfl⟩ dC_job_128
      by_cases e_7 : y = 7
      · subst e_7
        refine lv_tableIn (off := 116) (tgt := 129) hx hb dC_job_13 (by decide) (by decide) (by decide) (by decide) ?_
        refine lv_aload_n hx hb dC_job_129 rfl (lv_at hl 0 rfl) ?_
        refine g_C_J_121 (v := .int (bI (jPr (J j)))) hx hb hE hm hA rfl dC_job_130 ?_
        refine lv_if_eq (tgt := 140) hx hb dC_job_133 (by decide) (fun c_133 => ?_) (fun c_133 => ?_)
        · rw [bI_0] at c_133
          refine lv_iconst (v := 0) hx hb dC_job_140 (by decide) ?_
          exact mreti hx hb hr hlk hm ⟨by simp [jobw, ht, oI, bI, hb0, c_133], rfl⟩ dC_job_141
        · rw [bI_0] at c_133
          refine lv_iconst (v := 1) hx hb dC_job_136 (by decide) ?_
          refine lv_goto (tgt := 141) hx hb dC_job_137 (by decide) ?_
          exact mreti hx hb hr hlk hm ⟨by simp [jobw, ht, oI, bI, hb0, c_133], rfl⟩ dC_job_141
      by_cases e_8 : y = 8
      · subst e_8
        refine lv_tableIn (off := 129) (tgt := 142) hx hb dC_job_13 (by decide) (by decide) (by decide) (by decide) ?_
        refine lv_aload_n hx hb dC_job_142 rfl (lv_at hl 0 rfl) ?_
        refine mcalli (mcS (n := 1) (As := [.ref (ad j)]) (rest := []) hx hb hml hE (kC_countTold l B D cI cZ cL w (ad j) _ _ _ _ _ _ _ _ _ _ _ _ (hR.2.1 j hjn) (jVr (J j)) (hR.2.2.1 j hjn)) q_168 q_169 q_1 q_170 rfl rfl (by decide +kernel) ⟨Nat.le_of_ble_eq_true rfl, Nat.le_of_ble_eq_true rfl⟩ rfl hl.1 hm rfl (Nat.le_of_ble_eq_true rfl) dC_job_143 ⟨Nat.le_of_ble_eq_true rfl, Nat.le_of_ble_eq_true rfl⟩) hm (fun r2 u2 H locs hp2 hm => ?_)
        obtain ⟨hr2, hu2⟩ := hp2
        rw [hu2] at hm
        exact mreti hx hb hr hlk hm ⟨by rw [hr2]; simp [jobw, ht, oI, bI, hb0], rfl⟩ dC_job_146
      by_cases e_9 : y = 9
      · subst e_9
        refine lv_tableIn (off := 134) (tgt := 147) hx hb dC_job_13 (by decide) (by decide) (by decide) (by decide) ?_
        refine lv_aload_n hx hb dC_job_147 rfl (lv_at hl 0 rfl) ?_
        refine g_C_J_79 (v := .null) hx hb hE hm hA rfl dC_job_148 ?_
        refine lv_ifnonnullN hx hb dC_job_151 ?_
        refine lv_iconst (v := (-1)) hx hb dC_job_154 (by decide) ?_
        refine lv_goto (tgt := 165) hx hb dC_job_155 (by decide) ?_
        exact mreti hx hb hr hlk hm ⟨by simp [jobw, ht, oI, bI, hb0], rfl⟩ dC_job_165
      by_cases e_10 : y = 10
      · subst e_10
        refine lv_tableIn (off := 153) (tgt := 166) hx hb dC_job_13 (by decide) (by decide) (by decide) (by decide) ?_
        refine lv_aload_n hx hb dC_job_166 rfl (lv_at hl 0 rfl) ?_
        refine g_C_J_42 (v := .int (nI (sd n J j))) hx hb hE hm hA rfl dC_job_167 ?_
        exact mreti hx hb hr hlk hm ⟨by simp [jobw, ht, oI, bI, hb0], rfl⟩ dC_job_170
      refine lv_tableOut (tgt := 171) hx hb dC_job_13 (by have z_0 := lv_neT (k := 0) (a := 0) e_0 (by decide); have z_1 := lv_neT (k := 1) (a := 1) e_1 (by decide); have z_2 := lv_neT (k := 2) (a := 2) e_2 (by decide); have z_3 := lv_neT (k := 3) (a := 3) e_3 (by decide); have z_4 := lv_neT (k := 4) (a := 4) e_4 (by decide); have z_5 := lv_neT (k := 5) (a := 5) e_5 (by decide); have z_6 := lv_neT (k := 6) (a := 6) e_6 (by decide); have z_7 := lv_neT (k := 7) (a := 7) e_7 (by decide); have z_8 := lv_neT (k := 8) (a := 8) e_8 (by decide); have z_9 := lv_neT (k := 9) (a := 9) e_9 (by decide); have z_10 := lv_neT (k := 10) (a := 10) e_10 (by decide); omega) (by decide) ?_
      refine lv_iconst (v := (-1)) hx hb dC_job_171 (by decide) ?_
      exact mreti hx hb hr hlk hm ⟨by simp [jobw, ht, oI, bI, hb0, e_0, e_1, e_2, e_3, e_4, e_5, e_6, e_7, e_8, e_9, e_10], rfl⟩ dC_job_172
    | some b =>
      have hA : w (ad j) = some (.inr (0, [.int (nI j), .int (jSer (J j)), .int (jLev (J j)), .int (bI (jUp (J j))), .ref (ad b), .int (jBg (J j)), va_rf (prv ad j), .ref (va j), .int (jEn (J j)), .int (jSt (J j)), .int (bI (jPr (J j))), .int (nI (sd n J j))])) := by have h := hR.2.1 j hjn; rw [jL, hb0] at h; exact h
      have hbn : b < n := Nat.lt_trans (hR.bs hjn hb0) hjn
      show W _ _ _ _ _ _ _ _ _ _ _ _ _ _ _ (F0 m 5 ls [.ref (ad j)])
      refine lv_astore_n (lv' := [(3, .ref (ad j)), (0, .ref (o)), (1, .int (x)), (2, .int (y))]) hx hb dC_job_5 rfl hl (by decide) rfl (fun ls hl => ?_)
      refine lv_aload_n hx hb dC_job_6 rfl (lv_at hl 0 rfl) ?_
      refine lv_ifnonnull (tgt := 12) hx hb dC_job_7 (by decide) ?_
      refine lv_iload_n hx hb dC_job_12 rfl (lv_at hl 3 rfl) ?_
      by_cases e_0 : y = 0
      · subst e_0
        refine lv_tableIn (off := 59) (tgt := 72) hx hb dC_job_13 (by decide) (by decide) (by decide) (by decide) ?_
        refine lv_aload_n hx hb dC_job_72 rfl (lv_at hl 0 rfl) ?_
        refine g_C_J_111 (v := .int (jSer (J j))) hx hb hE hm hA rfl dC_job_73 ?_
        exact mreti hx hb hr hlk hm ⟨by simp [jobw, ht, oI, bI, hb0], rfl⟩ dC_job_76
      by_cases e_1 : y = 1
      · subst e_1
        refine lv_tableIn (off := 64) (tgt := 77) hx hb dC_job_13 (by decide) (by decide) (by decide) (by decide) ?_
        refine lv_aload_n hx hb dC_job_77 rfl (lv_at hl 0 rfl) ?_
        refine g_C_J_63 (v := .int (jLev (J j))) hx hb hE hm hA rfl dC_job_78 ?_
        exact mreti hx hb hr hlk hm ⟨by simp [jobw, ht, oI, bI, hb0], rfl⟩ dC_job_81
      by_cases e_2 : y = 2
      · subst e_2
        refine lv_tableIn (off := 69) (tgt := 82) hx hb dC_job_13 (by decide) (by decide) (by decide) (by decide) ?_
        refine lv_aload_n hx hb dC_job_82 rfl (lv_at hl 0 rfl) ?_
        refine g_C_J_114 (v := .int (bI (jUp (J j)))) hx hb hE hm hA rfl dC_job_83 ?_
        refine lv_if_eq (tgt := 93) hx hb dC_job_86 (by decide) (fun c_86 => ?_) (fun c_86 => ?_)
        · rw [bI_0] at c_86
          refine lv_iconst (v := 0) hx hb dC_job_93 (by decide) ?_
          exact mreti hx hb hr hlk hm ⟨by simp [jobw, ht, oI, bI, hb0, c_86], rfl⟩ dC_job_94
        · rw [bI_0] at c_86
          refine lv_iconst (v := 1) hx hb dC_job_89 (by decide) ?_
          refine lv_goto (tgt := 94) hx hb dC_job_90 (by decide) ?_
          exact mreti hx hb hr hlk hm ⟨by simp [jobw, ht, oI, bI, hb0, c_86], rfl⟩ dC_job_94
      by_cases e_3 : y = 3
      · subst e_3
        refine lv_tableIn (off := 82) (tgt := 95) hx hb dC_job_13 (by decide) (by decide) (by decide) (by decide) ?_
        refine lv_aload_n hx hb dC_job_95 rfl (lv_at hl 0 rfl) ?_
        refine g_C_J_79 (v := .ref (ad b)) hx hb hE hm hA rfl dC_job_96 ?_
        refine lv_ifnonnull (tgt := 106) hx hb dC_job_99 (by decide) ?_
        refine lv_aload_n hx hb dC_job_106 rfl (lv_at hl 0 rfl) ?_
        refine g_C_J_79 (v := .ref (ad b)) hx hb hE hm hA rfl dC_job_107 ?_
        refine g_C_J_50 (v := .int (nI b)) hx hb hE hm (hR.2.1 b hbn) rfl dC_job_110 ?_
        exact mreti hx hb hr hlk hm ⟨by simp [jobw, ht, oI, bI, hb0], rfl⟩ dC_job_113
      by_cases e_4 : y = 4
      · subst e_4
        refine lv_tableIn (off := 101) (tgt := 114) hx hb dC_job_13 (by decide) (by decide) (by decide) (by decide) ?_
        refine lv_aload_n hx hb dC_job_114 rfl (lv_at hl 0 rfl) ?_
        refine g_C_J_118 (v := .int (jBg (J j))) hx hb hE hm hA rfl dC_job_115 ?_
        exact mreti hx hb hr hlk hm ⟨by simp [jobw, ht, oI, bI, hb0], rfl⟩ dC_job_118
      by_cases e_5 : y = 5
      · subst e_5
        refine lv_tableIn (off := 106) (tgt := 119) hx hb dC_job_13 (by decide) (by decide) (by decide) (by decide) ?_
        refine lv_aload_n hx hb dC_job_119 rfl (lv_at hl 0 rfl) ?_
        refine g_C_J_73 (v := .int (jEn (J j))) hx hb hE hm hA rfl dC_job_120 ?_
        exact mreti hx hb hr hlk hm ⟨by simp [jobw, ht, oI, bI, hb0], rfl⟩ dC_job_123
      by_cases e_6 : y = 6
      · subst e_6
        refine lv_tableIn (off := 111) (tgt := 124) hx hb dC_job_13 (by decide) (by decide) (by decide) (by decide) ?_
        refine lv_aload_n hx hb dC_job_124 rfl (lv_at hl 0 rfl) ?_
        refine g_C_J_57 (v := .int (jSt (J j))) hx hb hE hm hA rfl dC_job_125 ?_
        exact mreti hx hb hr hlk hm ⟨by simp [jobw, ht, oI, bI, hb0], rfl⟩ dC_job_128
      by_cases e_7 : y = 7
      · subst e_7
        refine lv_tableIn (off := 116) (tgt := 129) hx hb dC_job_13 (by decide) (by decide) (by decide) (by decide) ?_
        refine lv_aload_n hx hb dC_job_129 rfl (lv_at hl 0 rfl) ?_
        refine g_C_J_121 (v := .int (bI (jPr (J j)))) hx hb hE hm hA rfl dC_job_130 ?_
        refine lv_if_eq (tgt := 140) hx hb dC_job_133 (by decide) (fun c_133 => ?_) (fun c_133 => ?_)
        · rw [bI_0] at c_133
          refine lv_iconst (v := 0) hx hb dC_job_140 (by decide) ?_
          exact mreti hx hb hr hlk hm ⟨by simp [jobw, ht, oI, bI, hb0, c_133], rfl⟩ dC_job_141
        · rw [bI_0] at c_133
          refine lv_iconst (v := 1) hx hb dC_job_136 (by decide) ?_
          refine lv_goto (tgt := 141) hx hb dC_job_137 (by decide) ?_
          exact mreti hx hb hr hlk hm ⟨by simp [jobw, ht, oI, bI, hb0, c_133], rfl⟩ dC_job_141
      by_cases e_8 : y = 8
      · subst e_8
        refine lv_tableIn (off := 129) (tgt := 142) hx hb dC_job_13 (by decide) (by decide) (by decide) (by decide) ?_
        refine lv_aload_n hx hb dC_job_142 rfl (lv_at hl 0 rfl) ?_
        refine mcalli (mcS (n := 1) (As := [.ref (ad j)]) (rest := []) hx hb hml hE (kC_countTold l B D cI cZ cL w (ad j) _ _ _ _ _ _ _ _ _ _ _ _ (hR.2.1 j hjn) (jVr (J j)) (hR.2.2.1 j hjn)) q_168 q_169 q_1 q_170 rfl rfl (by decide +kernel) ⟨Nat.le_of_ble_eq_true rfl, Nat.le_of_ble_eq_true rfl⟩ rfl hl.1 hm rfl (Nat.le_of_ble_eq_true rfl) dC_job_143 ⟨Nat.le_of_ble_eq_true rfl, Nat.le_of_ble_eq_true rfl⟩) hm (fun r3 u3 H locs hp3 hm => ?_)
        obtain ⟨hr3, hu3⟩ := hp3
        rw [hu3] at hm
        exact mreti hx hb hr hlk hm ⟨by rw [hr3]; simp [jobw, ht, oI, bI, hb0], rfl⟩ dC_job_146
      by_cases e_9 : y = 9
      · subst e_9
        refine lv_tableIn (off := 134) (tgt := 147) hx hb dC_job_13 (by decide) (by decide) (by decide) (by decide) ?_
        refine lv_aload_n hx hb dC_job_147 rfl (lv_at hl 0 rfl) ?_
        refine g_C_J_79 (v := .ref (ad b)) hx hb hE hm hA rfl dC_job_148 ?_
        refine lv_ifnonnull (tgt := 158) hx hb dC_job_151 (by decide) ?_
        refine lv_aload_n hx hb dC_job_158 rfl (lv_at hl 0 rfl) ?_
        refine g_C_J_79 (v := .ref (ad b)) hx hb hE hm hA rfl dC_job_159 ?_
        refine g_C_J_118 (v := .int (jBg (J b))) hx hb hE hm (hR.2.1 b hbn) rfl dC_job_162 ?_
        exact mreti hx hb hr hlk hm ⟨by simp [jobw, ht, oI, bI, hb0], rfl⟩ dC_job_165
      by_cases e_10 : y = 10
      · subst e_10
        refine lv_tableIn (off := 153) (tgt := 166) hx hb dC_job_13 (by decide) (by decide) (by decide) (by decide) ?_
        refine lv_aload_n hx hb dC_job_166 rfl (lv_at hl 0 rfl) ?_
        refine g_C_J_42 (v := .int (nI (sd n J j))) hx hb hE hm hA rfl dC_job_167 ?_
        exact mreti hx hb hr hlk hm ⟨by simp [jobw, ht, oI, bI, hb0], rfl⟩ dC_job_170
      refine lv_tableOut (tgt := 171) hx hb dC_job_13 (by have z_0 := lv_neT (k := 0) (a := 0) e_0 (by decide); have z_1 := lv_neT (k := 1) (a := 1) e_1 (by decide); have z_2 := lv_neT (k := 2) (a := 2) e_2 (by decide); have z_3 := lv_neT (k := 3) (a := 3) e_3 (by decide); have z_4 := lv_neT (k := 4) (a := 4) e_4 (by decide); have z_5 := lv_neT (k := 5) (a := 5) e_5 (by decide); have z_6 := lv_neT (k := 6) (a := 6) e_6 (by decide); have z_7 := lv_neT (k := 7) (a := 7) e_7 (by decide); have z_8 := lv_neT (k := 8) (a := 8) e_8 (by decide); have z_9 := lv_neT (k := 9) (a := 9) e_9 (by decide); have z_10 := lv_neT (k := 10) (a := 10) e_10 (by decide); omega) (by decide) ?_
      refine lv_iconst (v := (-1)) hx hb dC_job_171 (by decide) ?_
      exact mreti hx hb hr hlk hm ⟨by simp [jobw, ht, oI, bI, hb0, e_0, e_1, e_2, e_3, e_4, e_5, e_6, e_7, e_8, e_9, e_10], rfl⟩ dC_job_172
