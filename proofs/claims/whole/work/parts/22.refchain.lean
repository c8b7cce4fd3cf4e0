set_option maxHeartbeats 4000000 in
set_option maxRecDepth 100000 in
theorem kM_teller (l : Launch) (B : Nat) (D : va_G) (cI cZ cL : ClassId) (w : Wd) (r : Nat) (as : Nat → Nat) (g : Nat → Nat → Int32) (thr now : Int32) (n : Nat) (J : Nat → Jr) (hR : rR cI cZ r as g thr now n J w) (hM : mW now n J) (x t y : Int32) : Met l yM_teller (.code yM_teller cM_teller 5 (some .int) :: BIG) { frames := 1, cells := 0, slots := 0, locals := 24 } (va_Pc [.ref (r), .int (x), .int (t), .int (y)] (mP B D CLS (TYS cI cZ cL) NEST w)) (va_Qi (fun z u => z = oI (tel n J (hd n J x t) y) ∧ u = w) (mE B D CLS) (fun q => B ≤ q)) 0 0 (fun q => B ≤ q) := by
  refine mMet (by decide) rfl (Nat.le_of_ble_eq_true rfl) ?_
  intro p e s m below meth c ls hx hb hml hr hlk hnm hown hts hK hN hm hl
  have hE : ME "ChainPickerModel" (.code yM_teller cM_teller 5 (some .int)) _ s m D (TYS cI cZ cL) := ⟨hown, hts, hK, hN⟩
  have hl : lv_has ls 5 [(0, .ref (r)), (1, .int (x)), (2, .int (t)), (3, .int (y))] := hl
  have hn200 := hR.n200
  refine lv_iload_n hx hb dM_teller_0 rfl (lv_at hl 3 rfl) ?_
  refine lv_if_lt (tgt := 10) hx hb dM_teller_1 (by decide) (fun c_1 => ?_) (fun c_1 => ?_)
  · refine lv_iconst (v := (-1)) hx hb dM_teller_10 (by decide) ?_
    exact mreti hx hb hr hlk hm ⟨by rw [tel, if_neg (by simp [isF, c_1, ← Int32.not_lt])]; rfl, rfl⟩ dM_teller_11
  · refine lv_iload_n hx hb dM_teller_4 rfl (lv_at hl 3 rfl) ?_
    refine lv_bipush (v := 50) hx hb dM_teller_5 (by decide) ?_
    refine lv_icmp_lt (tgt := 12) hx hb dM_teller_7 (by decide) (fun c_7 => ?_) (fun c_7 => ?_)
    · refine lv_aload_n hx hb dM_teller_12 rfl (lv_at hl 0 rfl) ?_
      refine lv_iload_n hx hb dM_teller_13 rfl (lv_at hl 1 rfl) ?_
      refine lv_iload_n hx hb dM_teller_14 rfl (lv_at hl 2 rfl) ?_
      refine mcalli (mcV (n := 2) (As := [.int (x), .int (t)]) (rest := []) hx hb hml hE (kM_head l B D cI cZ cL w r as g thr now n J hR hM x t) q_373 q_375 qs_10 q_2 q_376 rfl rfl (by decide +kernel) ⟨Nat.le_of_ble_eq_true rfl, Nat.le_of_ble_eq_true rfl⟩ rfl hl.1 hm rfl hR.1 rfl (Nat.le_of_ble_eq_true rfl) dM_teller_15 ⟨Nat.le_of_ble_eq_true rfl, Nat.le_of_ble_eq_true rfl⟩) hm (fun r1 u1 H locs hp1 hm => ?_)
      obtain ⟨hr1, hu1⟩ := hp1
      rw [hu1] at hm
      rw [hd_eq] at hr1
      subst hr1
      refine lv_istore (lv' := [(4, .int (oI (hd n J x t))), (0, .ref (r)), (1, .int (x)), (2, .int (t)), (3, .int (y))]) hx hb dM_teller_18 hl (by decide) rfl (fun ls hl => ?_)
      have hF : isF y = true := by simp [isF, c_1, c_7, ← Int32.not_lt]
      obtain ⟨k, hk, hyk, hck⟩ := isF_of hF
      have loop : ∀ (f : Nat) (h : Option Nat), (∀ i, h = some i → i < f ∧ i < n) → tlr J k (chn J n (hd n J x t)) = tlr J k (chn J f h) → ∀ (H : Heap) (locs : List Loc) (ls : Array Slot), mS B D CLS s.heap w H locs → lv_has ls 5 [(4, .int (oI h)), (0, .ref (r)), (1, .int (x)), (2, .int (t)), (3, .int (y))] → W p l e ({ frames := 1, cells := 0, slots := 0, locals := 24 }) s m [.ref (r), .int (x), .int (t), .int (y)].toArray below meth c H locs 0 0 (MQ below (va_Qi (fun z u => z = oI (tel n J (hd n J x t) y) ∧ u = w) (mE B D CLS) (fun q => B ≤ q)) [.ref (r), .int (x), .int (t), .int (y)].toArray s 0 0 (fun q => B ≤ q)) (F0 m 20 ls []) := by
        intro f
        induction f with
        | zero =>
          intro h hlt heq H locs ls hm hl
          cases h with
          | none =>
            have hl : lv_has ls 5 [(4, .int (-1)), (0, .ref (r)), (1, .int (x)), (2, .int (t)), (3, .int (y))] := hl
            refine lv_iload hx hb dM_teller_20 (lv_at hl 0 rfl) ?_
            refine lv_if_lt (tgt := 54) hx hb dM_teller_22 (by decide) (fun c_22 => ?_) (fun c_22 => ?_)
            · refine lv_iload hx hb dM_teller_54 (lv_at hl 0 rfl) ?_
              exact mreti hx hb hr hlk hm ⟨by rw [tel, if_pos hF, hck, heq, tlr_n]; rfl, rfl⟩ dM_teller_56
            · first | exact absurd c_22 (by decide) | exact absurd (by decide) c_22
          | some i => exact absurd (hlt i rfl).1 (Nat.not_lt_zero _)
        | succ f ih =>
          intro h hlt heq H locs ls hm hl
          cases h with
          | none =>
            have hl : lv_has ls 5 [(4, .int (-1)), (0, .ref (r)), (1, .int (x)), (2, .int (t)), (3, .int (y))] := hl
            refine lv_iload hx hb dM_teller_20 (lv_at hl 0 rfl) ?_
            refine lv_if_lt (tgt := 54) hx hb dM_teller_22 (by decide) (fun c_22 => ?_) (fun c_22 => ?_)
            · refine lv_iload hx hb dM_teller_54 (lv_at hl 0 rfl) ?_
              exact mreti hx hb hr hlk hm ⟨by rw [tel, if_pos hF, hck, heq, tlr_n]; rfl, rfl⟩ dM_teller_56
            · first | exact absurd c_22 (by decide) | exact absurd (by decide) c_22
          | some i =>
            have hiN : i < n := (hlt i rfl).2
            have hl : lv_has ls 5 [(4, .int (nI i)), (0, .ref (r)), (1, .int (x)), (2, .int (t)), (3, .int (y))] := hl
            refine lv_iload hx hb dM_teller_20 (lv_at hl 0 rfl) ?_
            refine lv_if_lt (tgt := 54) hx hb dM_teller_22 (by decide) (fun c_22 => ?_) (fun c_22 => ?_)
            · exact absurd c_22 (nI_pos (by omega))
            · refine lv_aload_n hx hb dM_teller_25 rfl (lv_at hl 1 rfl) ?_
              refine g_M_M_35 (v := .ref (as 8)) hx hb hE hm hR.1 rfl dM_teller_26 ?_
              refine lv_bipush (v := 50) hx hb dM_teller_29 (by decide) ?_
              refine lv_iload hx hb dM_teller_31 (lv_at hl 0 rfl) ?_
              refine lv_imul hx hb dM_teller_33 ?_
              refine lv_iload_n hx hb dM_teller_34 rfl (lv_at hl 4 rfl) ?_
              refine lv_iadd hx hb dM_teller_35 ?_
              refine ialdE (50 * i + k) hx hb hE.2.2.1 hm 0 hR.a8 rfl (i50 hyk) (by omega) (by decide) dM_teller_36 ?_
              rw [hR.g8 hiN hk]
              refine lv_bipush (v := (-2)) hx hb dM_teller_37 (by decide) ?_
              refine lv_icmp_ne (tgt := 54) hx hb dM_teller_39 (by decide) (fun c_39 => ?_) (fun c_39 => ?_)
              · refine lv_iload hx hb dM_teller_54 (lv_at hl 0 rfl) ?_
                exact mreti hx hb hr hlk hm ⟨by rw [tel, if_pos hF, hck, heq, tlr_s c_39]; rfl, rfl⟩ dM_teller_56
              · refine lv_aload_n hx hb dM_teller_42 rfl (lv_at hl 1 rfl) ?_
                refine g_M_M_20 (v := .ref (as 3)) hx hb hE hm hR.1 rfl dM_teller_43 ?_
                refine lv_iload hx hb dM_teller_46 (lv_at hl 0 rfl) ?_
                refine ialdE (i) hx hb hE.2.2.1 hm 0 hR.a3 rfl rfl (by have := hR.n200; have := hiN; omega) (by decide) dM_teller_48 ?_
                rw [hR.g3 hiN]
                refine lv_istore (lv' := [(4, .int (oI (jBs (J i)))), (0, .ref (r)), (1, .int (x)), (2, .int (t)), (3, .int (y))]) hx hb dM_teller_49 hl (by decide) rfl (fun ls hl => ?_)
                refine lv_goto (tgt := 20) hx hb dM_teller_51 (by decide) ?_
                exact ih (jBs (J i)) (fun b hb => ⟨Nat.lt_of_lt_of_le (hR.bs hiN hb) (Nat.le_of_lt_succ (hlt i rfl).1), Nat.lt_trans (hR.bs hiN hb) hiN⟩) (by rw [heq, tlr_c (by simpa using c_39)]) H locs ls hm (lv_sub hl [0, 1, 2, 3, 4] rfl)
      exact loop n _ (fun i hi => ⟨hd_lt i hi, hd_lt i hi⟩) rfl _ _ ls hm (lv_sub hl [0, 1, 2, 3, 4] rfl)
    · refine lv_iconst (v := (-1)) hx hb dM_teller_10 (by decide) ?_
      exact mreti hx hb hr hlk hm ⟨by rw [tel, if_neg (by simp [isF, c_1, c_7, ← Int32.not_lt])]; rfl, rfl⟩ dM_teller_11
set_option maxHeartbeats 4000000 in
set_option maxRecDepth 100000 in
theorem kM_version (l : Launch) (B : Nat) (D : va_G) (cI cZ cL : ClassId) (w : Wd) (r : Nat) (as : Nat → Nat) (g : Nat → Nat → Int32) (thr now : Int32) (n : Nat) (J : Nat → Jr) (hR : rR cI cZ r as g thr now n J w) (hM : mW now n J) (x t y : Int32) : Met l yM_version (.code yM_version cM_version 5 (some .int) :: BIG) { frames := 2, cells := 0, slots := 0, locals := 48 } (va_Pc [.ref (r), .int (x), .int (t), .int (y)] (mP B D CLS (TYS cI cZ cL) NEST w)) (va_Qi (fun z u => z = ver n J (hd n J x t) y ∧ u = w) (mE B D CLS) (fun q => B ≤ q)) 0 0 (fun q => B ≤ q) := by
  refine mMet (by decide) rfl (Nat.le_of_ble_eq_true rfl) ?_
  intro p e s m below meth c ls hx hb hml hr hlk hnm hown hts hK hN hm hl
  have hE : ME "ChainPickerModel" (.code yM_version cM_version 5 (some .int)) _ s m D (TYS cI cZ cL) := ⟨hown, hts, hK, hN⟩
  have hl : lv_has ls 5 [(0, .ref (r)), (1, .int (x)), (2, .int (t)), (3, .int (y))] := hl
  have hn200 := hR.n200
  refine lv_aload_n hx hb dM_version_0 rfl (lv_at hl 0 rfl) ?_
  refine lv_iload_n hx hb dM_version_1 rfl (lv_at hl 1 rfl) ?_
  refine lv_iload_n hx hb dM_version_2 rfl (lv_at hl 2 rfl) ?_
  refine lv_iload_n hx hb dM_version_3 rfl (lv_at hl 3 rfl) ?_
  refine mcalli (mcV (n := 3) (As := [.int (x), .int (t), .int (y)]) (rest := []) hx hb hml hE (kM_teller l B D cI cZ cL w r as g thr now n J hR hM x t y) q_389 q_391 qs_12 q_2 q_392 rfl rfl (by decide +kernel) ⟨Nat.le_of_ble_eq_true rfl, Nat.le_of_ble_eq_true rfl⟩ rfl hl.1 hm rfl hR.1 rfl (Nat.le_of_ble_eq_true rfl) dM_version_4 ⟨Nat.le_of_ble_eq_true rfl, Nat.le_of_ble_eq_true rfl⟩) hm (fun r1 u1 H locs hp1 hm => ?_)
  obtain ⟨hr1, hu1⟩ := hp1
  rw [hu1] at hm
  subst hr1
  cases ht : tel n J (hd n J x t) y with
  | none =>
    show W _ _ _ _ _ _ _ _ _ _ _ _ _ _ _ (F0 m 7 ls [.int (-1)])
    refine lv_istore (lv' := [(4, .int (-1)), (0, .ref (r)), (1, .int (x)), (2, .int (t)), (3, .int (y))]) hx hb dM_version_7 hl (by decide) rfl (fun ls hl => ?_)
    refine lv_iload hx hb dM_version_9 (lv_at hl 0 rfl) ?_
    refine lv_if_ge (tgt := 18) hx hb dM_version_11 (by decide) (fun c_11 => ?_) (fun c_11 => ?_)
    · first | exact absurd c_11 (by decide) | exact absurd (by decide) c_11
    · refine lv_iconst (v := (-1)) hx hb dM_version_14 (by decide) ?_
      refine lv_goto (tgt := 30) hx hb dM_version_15 (by decide) ?_
      exact mreti hx hb hr hlk hm ⟨by simp only [ver, ht], rfl⟩ dM_version_30
  | some j =>
    obtain ⟨hjn, hfx, -⟩ := tel_lt (fun i hi b hb => hR.bs hi hb) hd_lt ht
    obtain ⟨k, hk, hyk, hck⟩ := isF_of hfx
    show W _ _ _ _ _ _ _ _ _ _ _ _ _ _ _ (F0 m 7 ls [.int (nI j)])
    refine lv_istore (lv' := [(4, .int (nI j)), (0, .ref (r)), (1, .int (x)), (2, .int (t)), (3, .int (y))]) hx hb dM_version_7 hl (by decide) rfl (fun ls hl => ?_)
    refine lv_iload hx hb dM_version_9 (lv_at hl 0 rfl) ?_
    refine lv_if_ge (tgt := 18) hx hb dM_version_11 (by decide) (fun c_11 => ?_) (fun c_11 => ?_)
    · refine lv_aload_n hx hb dM_version_18 rfl (lv_at hl 1 rfl) ?_
      refine g_M_M_35 (v := .ref (as 8)) hx hb hE hm hR.1 rfl dM_version_19 ?_
      refine lv_bipush (v := 50) hx hb dM_version_22 (by decide) ?_
      refine lv_iload hx hb dM_version_24 (lv_at hl 0 rfl) ?_
      refine lv_imul hx hb dM_version_26 ?_
      refine lv_iload_n hx hb dM_version_27 rfl (lv_at hl 4 rfl) ?_
      refine lv_iadd hx hb dM_version_28 ?_
      refine ialdE (50 * j + k) hx hb hE.2.2.1 hm 0 hR.a8 rfl (i50 hyk) (by omega) (by decide) dM_version_29 ?_
      rw [hR.g8 hjn hk]
      exact mreti hx hb hr hlk hm ⟨by simp only [ver, ht]; rw [hck], rfl⟩ dM_version_30
    · exact absurd (nI_pos' (by omega)) c_11
set_option maxHeartbeats 4000000 in
set_option maxRecDepth 100000 in
theorem kM_view (l : Launch) (B : Nat) (D : va_G) (cI cZ cL : ClassId) (w : Wd) (r : Nat) (as : Nat → Nat) (g : Nat → Nat → Int32) (thr now : Int32) (n : Nat) (J : Nat → Jr) (hR : rR cI cZ r as g thr now n J w) (hM : mW now n J) (x t y : Int32) : Met l yM_view (.code yM_view cM_view 4 (some .int) :: BIG) { frames := 3, cells := 0, slots := 0, locals := 72 } (va_Pc [.ref (r), .int (x), .int (t), .int (y)] (mP B D CLS (TYS cI cZ cL) NEST w)) (va_Qi (fun z u => z = ver n J (hd n J x t) y ∧ rR cI cZ r as g 0 now n J u ∧ rK r as w u) (mE B D CLS) (fun q => B ≤ q)) 0 0 (fun q => B ≤ q) := by
  refine mMet (by decide) rfl (Nat.le_of_ble_eq_true rfl) ?_
  intro p e s m below meth c ls hx hb hml hr hlk hnm hown hts hK hN hm hl
  have hE : ME "ChainPickerModel" (.code yM_view cM_view 4 (some .int)) _ s m D (TYS cI cZ cL) := ⟨hown, hts, hK, hN⟩
  have hl : lv_has ls 4 [(0, .ref (r)), (1, .int (x)), (2, .int (t)), (3, .int (y))] := hl
  have hn200 := hR.n200
  refine lv_aload_n hx hb dM_view_0 rfl (lv_at hl 0 rfl) ?_
  refine lv_iconst (v := 0) hx hb dM_view_1 (by decide) ?_
  refine p_M_M_38 (x := 0) hx hb hE hm hR.1 (by simp) dM_view_2 (fun H locs hm => ?_)
  obtain ⟨w1, hhw1⟩ : ∃ z : Wd, z = wset w (r) (.inr (2, [.int (0), .int (now), .int (nI n), .ref (as 0), .ref (as 1), .ref (as 2), .ref (as 3), .ref (as 4), .ref (as 5), .ref (as 6), .ref (as 7), .ref (as 8)])) := ⟨_, rfl⟩
  have hm : mS B D CLS s.heap w1 H locs := by rw [hhw1]; exact hm
  have hw1 : w1 = wset (w) (r) (.inr (2, [.int (0), .int (now), .int (nI n), .ref (as 0), .ref (as 1), .ref (as 2), .ref (as 3), .ref (as 4), .ref (as 5), .ref (as 6), .ref (as 7), .ref (as 8)])) := by rw [hhw1]
  have fw1 : w1 (r) = some (.inr (2, [.int (0), .int (now), .int (nI n), .ref (as 0), .ref (as 1), .ref (as 2), .ref (as 3), .ref (as 4), .ref (as 5), .ref (as 6), .ref (as 7), .ref (as 8)])) := by rw [hhw1]; exact wset_at _ _ _
  have fw1_1 := (show w1 (as 0) = w (as 0) by rw [hhw1]; exact wset_ne (hR.ne (by decide : 0 < 9))).trans hR.a0
  have fw1_2 := (show w1 (as 1) = w (as 1) by rw [hhw1]; exact wset_ne (hR.ne (by decide : 1 < 9))).trans hR.a1
  have fw1_3 := (show w1 (as 2) = w (as 2) by rw [hhw1]; exact wset_ne (hR.ne (by decide : 2 < 9))).trans hR.a2
  have fw1_4 := (show w1 (as 3) = w (as 3) by rw [hhw1]; exact wset_ne (hR.ne (by decide : 3 < 9))).trans hR.a3
  have fw1_5 := (show w1 (as 4) = w (as 4) by rw [hhw1]; exact wset_ne (hR.ne (by decide : 4 < 9))).trans hR.a4
  have fw1_6 := (show w1 (as 5) = w (as 5) by rw [hhw1]; exact wset_ne (hR.ne (by decide : 5 < 9))).trans hR.a5
  have fw1_7 := (show w1 (as 6) = w (as 6) by rw [hhw1]; exact wset_ne (hR.ne (by decide : 6 < 9))).trans hR.a6
  have fw1_8 := (show w1 (as 7) = w (as 7) by rw [hhw1]; exact wset_ne (hR.ne (by decide : 7 < 9))).trans hR.a7
  have fw1_9 := (show w1 (as 8) = w (as 8) by rw [hhw1]; exact wset_ne (hR.ne (by decide : 8 < 9))).trans hR.a8
  have hR1 : rR cI cZ r as g 0 now n J w1 := by rw [hw1]; exact hR.set _ _
  have hK1 : rK r as w w1 := by rw [hw1]; exact rK.rf.set rF_r
  refine lv_aload_n hx hb dM_view_5 rfl (lv_at hl 0 rfl) ?_
  refine lv_iload_n hx hb dM_view_6 rfl (lv_at hl 1 rfl) ?_
  refine lv_iload_n hx hb dM_view_7 rfl (lv_at hl 2 rfl) ?_
  refine lv_iload_n hx hb dM_view_8 rfl (lv_at hl 3 rfl) ?_
  refine mcalli (mcV (n := 3) (As := [.int (x), .int (t), .int (y)]) (rest := []) hx hb hml hE (kM_version l B D cI cZ cL w1 r as g 0 now n J hR1 hM x t y) q_385 q_387 qs_11 q_2 q_388 rfl rfl (by decide +kernel) ⟨Nat.le_of_ble_eq_true rfl, Nat.le_of_ble_eq_true rfl⟩ rfl hl.1 hm rfl hR1.1 rfl (Nat.le_of_ble_eq_true rfl) dM_view_9 ⟨Nat.le_of_ble_eq_true rfl, Nat.le_of_ble_eq_true rfl⟩) hm (fun r2 u2 H locs hp2 hm => ?_)
  obtain ⟨hr2, hu2⟩ := hp2
  rw [hu2] at hm
  exact mreti hx hb hr hlk hm ⟨hr2, hR1, hK1⟩ dM_view_12
set_option maxHeartbeats 4000000 in
set_option maxRecDepth 100000 in
theorem kM_source (l : Launch) (B : Nat) (D : va_G) (cI cZ cL : ClassId) (w : Wd) (r : Nat) (as : Nat → Nat) (g : Nat → Nat → Int32) (thr now : Int32) (n : Nat) (J : Nat → Jr) (hR : rR cI cZ r as g thr now n J w) (hM : mW now n J) (x t y : Int32) : Met l yM_source (.code yM_source cM_source 4 (some .int) :: BIG) { frames := 2, cells := 0, slots := 0, locals := 48 } (va_Pc [.ref (r), .int (x), .int (t), .int (y)] (mP B D CLS (TYS cI cZ cL) NEST w)) (va_Qi (fun z u => z = oI (tel n J (hd n J x t) y) ∧ rR cI cZ r as g 0 now n J u ∧ rK r as w u) (mE B D CLS) (fun q => B ≤ q)) 0 0 (fun q => B ≤ q) := by
  refine mMet (by decide) rfl (Nat.le_of_ble_eq_true rfl) ?_
  intro p e s m below meth c ls hx hb hml hr hlk hnm hown hts hK hN hm hl
  have hE : ME "ChainPickerModel" (.code yM_source cM_source 4 (some .int)) _ s m D (TYS cI cZ cL) := ⟨hown, hts, hK, hN⟩
  have hl : lv_has ls 4 [(0, .ref (r)), (1, .int (x)), (2, .int (t)), (3, .int (y))] := hl
  have hn200 := hR.n200
  refine lv_aload_n hx hb dM_source_0 rfl (lv_at hl 0 rfl) ?_
  refine lv_iconst (v := 0) hx hb dM_source_1 (by decide) ?_
  refine p_M_M_38 (x := 0) hx hb hE hm hR.1 (by simp) dM_source_2 (fun H locs hm => ?_)
  obtain ⟨w1, hhw1⟩ : ∃ z : Wd, z = wset w (r) (.inr (2, [.int (0), .int (now), .int (nI n), .ref (as 0), .ref (as 1), .ref (as 2), .ref (as 3), .ref (as 4), .ref (as 5), .ref (as 6), .ref (as 7), .ref (as 8)])) := ⟨_, rfl⟩
  have hm : mS B D CLS s.heap w1 H locs := by rw [hhw1]; exact hm
  have hw1 : w1 = wset (w) (r) (.inr (2, [.int (0), .int (now), .int (nI n), .ref (as 0), .ref (as 1), .ref (as 2), .ref (as 3), .ref (as 4), .ref (as 5), .ref (as 6), .ref (as 7), .ref (as 8)])) := by rw [hhw1]
  have fw1 : w1 (r) = some (.inr (2, [.int (0), .int (now), .int (nI n), .ref (as 0), .ref (as 1), .ref (as 2), .ref (as 3), .ref (as 4), .ref (as 5), .ref (as 6), .ref (as 7), .ref (as 8)])) := by rw [hhw1]; exact wset_at _ _ _
  have fw1_1 := (show w1 (as 0) = w (as 0) by rw [hhw1]; exact wset_ne (hR.ne (by decide : 0 < 9))).trans hR.a0
  have fw1_2 := (show w1 (as 1) = w (as 1) by rw [hhw1]; exact wset_ne (hR.ne (by decide : 1 < 9))).trans hR.a1
  have fw1_3 := (show w1 (as 2) = w (as 2) by rw [hhw1]; exact wset_ne (hR.ne (by decide : 2 < 9))).trans hR.a2
  have fw1_4 := (show w1 (as 3) = w (as 3) by rw [hhw1]; exact wset_ne (hR.ne (by decide : 3 < 9))).trans hR.a3
  have fw1_5 := (show w1 (as 4) = w (as 4) by rw [hhw1]; exact wset_ne (hR.ne (by decide : 4 < 9))).trans hR.a4
  have fw1_6 := (show w1 (as 5) = w (as 5) by rw [hhw1]; exact wset_ne (hR.ne (by decide : 5 < 9))).trans hR.a5
  have fw1_7 := (show w1 (as 6) = w (as 6) by rw [hhw1]; exact wset_ne (hR.ne (by decide : 6 < 9))).trans hR.a6
  have fw1_8 := (show w1 (as 7) = w (as 7) by rw [hhw1]; exact wset_ne (hR.ne (by decide : 7 < 9))).trans hR.a7
  have fw1_9 := (show w1 (as 8) = w (as 8) by rw [hhw1]; exact wset_ne (hR.ne (by decide : 8 < 9))).trans hR.a8
  have hR1 : rR cI cZ r as g 0 now n J w1 := by rw [hw1]; exact hR.set _ _
  have hK1 : rK r as w w1 := by rw [hw1]; exact rK.rf.set rF_r
  refine lv_aload_n hx hb dM_source_5 rfl (lv_at hl 0 rfl) ?_
  refine lv_iload_n hx hb dM_source_6 rfl (lv_at hl 1 rfl) ?_
  refine lv_iload_n hx hb dM_source_7 rfl (lv_at hl 2 rfl) ?_
  refine lv_iload_n hx hb dM_source_8 rfl (lv_at hl 3 rfl) ?_
  refine mcalli (mcV (n := 3) (As := [.int (x), .int (t), .int (y)]) (rest := []) hx hb hml hE (kM_teller l B D cI cZ cL w1 r as g 0 now n J hR1 hM x t y) q_389 q_391 qs_12 q_2 q_392 rfl rfl (by decide +kernel) ⟨Nat.le_of_ble_eq_true rfl, Nat.le_of_ble_eq_true rfl⟩ rfl hl.1 hm rfl hR1.1 rfl (Nat.le_of_ble_eq_true rfl) dM_source_9 ⟨Nat.le_of_ble_eq_true rfl, Nat.le_of_ble_eq_true rfl⟩) hm (fun r2 u2 H locs hp2 hm => ?_)
  obtain ⟨hr2, hu2⟩ := hp2
  rw [hu2] at hm
  exact mreti hx hb hr hlk hm ⟨hr2, hR1, hK1⟩ dM_source_12
set_option maxHeartbeats 4000000 in
set_option maxRecDepth 100000 in
theorem kM_chain (l : Launch) (B : Nat) (D : va_G) (cI cZ cL : ClassId) (w : Wd) (r : Nat) (as : Nat → Nat) (g : Nat → Nat → Int32) (thr now : Int32) (n : Nat) (J : Nat → Jr) (hR : rR cI cZ r as g thr now n J w) (hM : mW now n J) (x t : Int32) : Met l yM_chain (.code yM_chain cM_chain 5 (some .int) :: BIG) { frames := 1, cells := 0, slots := 0, locals := 24 } (va_Pc [.ref (r), .int (x), .int (t)] (mP B D CLS (TYS cI cZ cL) NEST w)) (va_Qi (fun z u => z = nI (chn J n (hd n J x t)).length ∧ rR cI cZ r as g 0 now n J u ∧ rK r as w u) (mE B D CLS) (fun q => B ≤ q)) 0 0 (fun q => B ≤ q) := by
  refine mMet (by decide) rfl (Nat.le_of_ble_eq_true rfl) ?_
  intro p e s m below meth c ls hx hb hml hr hlk hnm hown hts hK hN hm hl
  have hE : ME "ChainPickerModel" (.code yM_chain cM_chain 5 (some .int)) _ s m D (TYS cI cZ cL) := ⟨hown, hts, hK, hN⟩
  have hl : lv_has ls 5 [(0, .ref (r)), (1, .int (x)), (2, .int (t))] := hl
  have hn200 := hR.n200
  refine lv_aload_n hx hb dM_chain_0 rfl (lv_at hl 0 rfl) ?_
  refine lv_iconst (v := 0) hx hb dM_chain_1 (by decide) ?_
  refine p_M_M_38 (x := 0) hx hb hE hm hR.1 (by simp) dM_chain_2 (fun H locs hm => ?_)
  obtain ⟨w1, hhw1⟩ : ∃ z : Wd, z = wset w (r) (.inr (2, [.int (0), .int (now), .int (nI n), .ref (as 0), .ref (as 1), .ref (as 2), .ref (as 3), .ref (as 4), .ref (as 5), .ref (as 6), .ref (as 7), .ref (as 8)])) := ⟨_, rfl⟩
  have hm : mS B D CLS s.heap w1 H locs := by rw [hhw1]; exact hm
  have hw1 : w1 = wset (w) (r) (.inr (2, [.int (0), .int (now), .int (nI n), .ref (as 0), .ref (as 1), .ref (as 2), .ref (as 3), .ref (as 4), .ref (as 5), .ref (as 6), .ref (as 7), .ref (as 8)])) := by rw [hhw1]
  have fw1 : w1 (r) = some (.inr (2, [.int (0), .int (now), .int (nI n), .ref (as 0), .ref (as 1), .ref (as 2), .ref (as 3), .ref (as 4), .ref (as 5), .ref (as 6), .ref (as 7), .ref (as 8)])) := by rw [hhw1]; exact wset_at _ _ _
  have fw1_1 := (show w1 (as 0) = w (as 0) by rw [hhw1]; exact wset_ne (hR.ne (by decide : 0 < 9))).trans hR.a0
  have fw1_2 := (show w1 (as 1) = w (as 1) by rw [hhw1]; exact wset_ne (hR.ne (by decide : 1 < 9))).trans hR.a1
  have fw1_3 := (show w1 (as 2) = w (as 2) by rw [hhw1]; exact wset_ne (hR.ne (by decide : 2 < 9))).trans hR.a2
  have fw1_4 := (show w1 (as 3) = w (as 3) by rw [hhw1]; exact wset_ne (hR.ne (by decide : 3 < 9))).trans hR.a3
  have fw1_5 := (show w1 (as 4) = w (as 4) by rw [hhw1]; exact wset_ne (hR.ne (by decide : 4 < 9))).trans hR.a4
  have fw1_6 := (show w1 (as 5) = w (as 5) by rw [hhw1]; exact wset_ne (hR.ne (by decide : 5 < 9))).trans hR.a5
  have fw1_7 := (show w1 (as 6) = w (as 6) by rw [hhw1]; exact wset_ne (hR.ne (by decide : 6 < 9))).trans hR.a6
  have fw1_8 := (show w1 (as 7) = w (as 7) by rw [hhw1]; exact wset_ne (hR.ne (by decide : 7 < 9))).trans hR.a7
  have fw1_9 := (show w1 (as 8) = w (as 8) by rw [hhw1]; exact wset_ne (hR.ne (by decide : 8 < 9))).trans hR.a8
  have hR1 : rR cI cZ r as g 0 now n J w1 := by rw [hw1]; exact hR.set _ _
  have hK1 : rK r as w w1 := by rw [hw1]; exact rK.rf.set rF_r
  refine lv_iconst (v := 0) hx hb dM_chain_5 (by decide) ?_
  refine lv_istore_n (lv' := [(3, .int (0)), (0, .ref (r)), (1, .int (x)), (2, .int (t))]) hx hb dM_chain_6 rfl hl (by decide) rfl (fun ls hl => ?_)
  refine lv_aload_n hx hb dM_chain_7 rfl (lv_at hl 1 rfl) ?_
  refine lv_iload_n hx hb dM_chain_8 rfl (lv_at hl 2 rfl) ?_
  refine lv_iload_n hx hb dM_chain_9 rfl (lv_at hl 3 rfl) ?_
  refine mcalli (mcV (n := 2) (As := [.int (x), .int (t)]) (rest := []) hx hb hml hE (kM_head l B D cI cZ cL w1 r as g 0 now n J hR1 hM x t) q_373 q_375 qs_10 q_2 q_376 rfl rfl (by decide +kernel) ⟨Nat.le_of_ble_eq_true rfl, Nat.le_of_ble_eq_true rfl⟩ rfl hl.1 hm rfl hR1.1 rfl (Nat.le_of_ble_eq_true rfl) dM_chain_10 ⟨Nat.le_of_ble_eq_true rfl, Nat.le_of_ble_eq_true rfl⟩) hm (fun r2 u2 H locs hp2 hm => ?_)
  obtain ⟨hr2, hu2⟩ := hp2
  rw [hu2] at hm
  rw [hd_eq] at hr2
  subst hr2
  refine lv_istore (lv' := [(4, .int (oI (hd n J x t))), (3, .int (0)), (0, .ref (r)), (1, .int (x)), (2, .int (t))]) hx hb dM_chain_13 hl (by decide) rfl (fun ls hl => ?_)
  have loop : ∀ (f : Nat) (h : Option Nat), (∀ i, h = some i → i < f ∧ i < n) → ∀ (y : Int32), y + nI (chn J f h).length = nI (chn J n (hd n J x t)).length → ∀ (H : Heap) (locs : List Loc) (ls : Array Slot), mS B D CLS s.heap w1 H locs → lv_has ls 5 [(4, .int (oI h)), (3, .int (y)), (0, .ref (r)), (1, .int (x)), (2, .int (t))] → W p l e ({ frames := 1, cells := 0, slots := 0, locals := 24 }) s m [.ref (r), .int (x), .int (t)].toArray below meth c H locs 0 0 (MQ below (va_Qi (fun z u => z = nI (chn J n (hd n J x t)).length ∧ rR cI cZ r as g 0 now n J u ∧ rK r as w u) (mE B D CLS) (fun q => B ≤ q)) [.ref (r), .int (x), .int (t)].toArray s 0 0 (fun q => B ≤ q)) (F0 m 15 ls []) := by
    intro f
    induction f with
    | zero =>
      intro h hlt y hy H locs ls hm hl
      cases h with
      | none =>
        have hl : lv_has ls 5 [(4, .int (-1)), (3, .int (y)), (0, .ref (r)), (1, .int (x)), (2, .int (t))] := hl
        refine lv_iload hx hb dM_chain_15 (lv_at hl 0 rfl) ?_
        refine lv_if_lt (tgt := 35) hx hb dM_chain_17 (by decide) (fun c_17 => ?_) (fun c_17 => ?_)
        · refine lv_iload_n hx hb dM_chain_35 rfl (lv_at hl 1 rfl) ?_
          exact mreti hx hb hr hlk hm ⟨len0 hy, hR1, hK1⟩ dM_chain_36
        · first | exact absurd c_17 (by decide) | exact absurd (by decide) c_17
      | some i => exact absurd (hlt i rfl).1 (Nat.not_lt_zero _)
    | succ f ih =>
      intro h hlt y hy H locs ls hm hl
      cases h with
      | none =>
        have hl : lv_has ls 5 [(4, .int (-1)), (3, .int (y)), (0, .ref (r)), (1, .int (x)), (2, .int (t))] := hl
        refine lv_iload hx hb dM_chain_15 (lv_at hl 0 rfl) ?_
        refine lv_if_lt (tgt := 35) hx hb dM_chain_17 (by decide) (fun c_17 => ?_) (fun c_17 => ?_)
        · refine lv_iload_n hx hb dM_chain_35 rfl (lv_at hl 1 rfl) ?_
          exact mreti hx hb hr hlk hm ⟨len0 hy, hR1, hK1⟩ dM_chain_36
        · first | exact absurd c_17 (by decide) | exact absurd (by decide) c_17
      | some i =>
        have hiN : i < n := (hlt i rfl).2
        have hl : lv_has ls 5 [(4, .int (nI i)), (3, .int (y)), (0, .ref (r)), (1, .int (x)), (2, .int (t))] := hl
        refine lv_iload hx hb dM_chain_15 (lv_at hl 0 rfl) ?_
        refine lv_if_lt (tgt := 35) hx hb dM_chain_17 (by decide) (fun c_17 => ?_) (fun c_17 => ?_)
        · exact absurd c_17 (nI_pos (by omega))
        · refine lv_iinc (v := y + 1) (lv' := [(3, .int (y + 1)), (4, .int (nI i)), (0, .ref (r)), (1, .int (x)), (2, .int (t))]) hx hb dM_chain_20 hl (k := 1) rfl rfl (by decide) rfl (fun ls hl => ?_)
          refine lv_aload_n hx hb dM_chain_23 rfl (lv_at hl 2 rfl) ?_
          refine g_M_M_20 (v := .ref (as 3)) hx hb hE hm hR1.1 rfl dM_chain_24 ?_
          refine lv_iload hx hb dM_chain_27 (lv_at hl 1 rfl) ?_
          refine ialdE (i) hx hb hE.2.2.1 hm 0 hR1.a3 rfl rfl (by have := hR.n200; have := hiN; omega) (by decide) dM_chain_29 ?_
          rw [hR1.g3 hiN]
          refine lv_istore (lv' := [(4, .int (oI (jBs (J i)))), (3, .int (y + 1)), (0, .ref (r)), (1, .int (x)), (2, .int (t))]) hx hb dM_chain_30 hl (by decide) rfl (fun ls hl => ?_)
          refine lv_goto (tgt := 15) hx hb dM_chain_32 (by decide) ?_
          exact ih (jBs (J i)) (fun b hb => ⟨Nat.lt_of_lt_of_le (hR.bs hiN hb) (Nat.le_of_lt_succ (hlt i rfl).1), Nat.lt_trans (hR.bs hiN hb) hiN⟩) (y + 1) (lenI hy) H locs ls hm (lv_sub hl [0, 1, 2, 3, 4] rfl)
  exact loop n _ (fun i hi => ⟨hd_lt i hi, hd_lt i hi⟩) 0 (by simp) _ _ ls hm (lv_sub hl [0, 1, 2, 3, 4] rfl)
