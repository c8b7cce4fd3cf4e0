set_option maxHeartbeats 4000000 in
set_option maxRecDepth 100000 in
theorem kM_thrown (l : Launch) (B : Nat) (D : va_G) (cI cZ cL : ClassId) (w : Wd) (r : Nat) (as : Nat → Nat) (g : Nat → Nat → Int32) (thr now : Int32) (n : Nat) (J : Nat → Jr) (hR : rR cI cZ r as g thr now n J w) : Met l yM_thrown (.code yM_thrown cM_thrown 1 (some .int) :: BIG) { frames := 0, cells := 0, slots := 0, locals := 0 } (va_Pc [.ref (r)] (mP B D CLS (TYS cI cZ cL) NEST w)) (va_Qi (fun z u => z = thr ∧ u = w) (mE B D CLS) (fun q => B ≤ q)) 0 0 (fun q => B ≤ q) := by
  refine mMet (by decide) rfl (Nat.le_of_ble_eq_true rfl) ?_
  intro p e s m below meth c ls hx hb hml hr hlk hnm hown hts hK hN hm hl
  have hE : ME "ChainPickerModel" (.code yM_thrown cM_thrown 1 (some .int)) _ s m D (TYS cI cZ cL) := ⟨hown, hts, hK, hN⟩
  have hl : lv_has ls 1 [(0, .ref (r))] := hl
  have hn200 := hR.n200
  refine lv_aload_n hx hb dM_thrown_0 rfl (lv_at hl 0 rfl) ?_
  refine g_M_M_38 (v := .int (thr)) hx hb hE hm hR.1 rfl dM_thrown_1 ?_
  exact mreti hx hb hr hlk hm ⟨rfl, rfl⟩ dM_thrown_4
set_option maxHeartbeats 4000000 in
set_option maxRecDepth 100000 in
theorem kM_pass (l : Launch) (B : Nat) (D : va_G) (cI cZ cL : ClassId) (w : Wd) (r : Nat) (as : Nat → Nat) (g : Nat → Nat → Int32) (thr now : Int32) (n : Nat) (J : Nat → Jr) (hR : rR cI cZ r as g thr now n J w) (x : Int32) : Met l yM_pass (.code yM_pass cM_pass 2 (some .int) :: BIG) { frames := 0, cells := 0, slots := 0, locals := 0 } (va_Pc [.ref (r), .int (x)] (mP B D CLS (TYS cI cZ cL) NEST w)) (va_Qi (fun z u => ((pOk now x = true ∧ z = now + x ∧ rR cI cZ r as g 0 (now + x) n J u) ∨ (pOk now x = false ∧ z = 0 ∧ rR cI cZ r as g 1 now n J u)) ∧ rK r as w u) (mE B D CLS) (fun q => B ≤ q)) 0 0 (fun q => B ≤ q) := by
  refine mMet (by decide) rfl (Nat.le_of_ble_eq_true rfl) ?_
  intro p e s m below meth c ls hx hb hml hr hlk hnm hown hts hK hN hm hl
  have hE : ME "ChainPickerModel" (.code yM_pass cM_pass 2 (some .int)) _ s m D (TYS cI cZ cL) := ⟨hown, hts, hK, hN⟩
  have hl : lv_has ls 2 [(0, .ref (r)), (1, .int (x))] := hl
  have hn200 := hR.n200
  refine lv_aload_n hx hb dM_pass_0 rfl (lv_at hl 0 rfl) ?_
  refine lv_iload_n hx hb dM_pass_1 rfl (lv_at hl 1 rfl) ?_
  refine lv_if_lt (tgt := 16) hx hb dM_pass_2 (by decide) (fun c_2 => ?_) (fun c_2 => ?_)
  · refine lv_iconst (v := 1) hx hb dM_pass_16 (by decide) ?_
    refine lv_goto (tgt := 21) hx hb dM_pass_17 (by decide) ?_
    refine p_M_M_38 (x := 1) hx hb hE hm hR.1 (by simp) dM_pass_21 (fun H locs hm => ?_)
    obtain ⟨w1, hhw1⟩ : ∃ z : Wd, z = wset w (r) (.inr (2, [.int (1), .int (now), .int (nI n), .ref (as 0), .ref (as 1), .ref (as 2), .ref (as 3), .ref (as 4), .ref (as 5), .ref (as 6), .ref (as 7), .ref (as 8)])) := ⟨_, rfl⟩
    have hm : mS B D CLS s.heap w1 H locs := by rw [hhw1]; exact hm
    have hw1 : w1 = wset (w) (r) (.inr (2, [.int (1), .int (now), .int (nI n), .ref (as 0), .ref (as 1), .ref (as 2), .ref (as 3), .ref (as 4), .ref (as 5), .ref (as 6), .ref (as 7), .ref (as 8)])) := by rw [hhw1]
    have fw1 : w1 (r) = some (.inr (2, [.int (1), .int (now), .int (nI n), .ref (as 0), .ref (as 1), .ref (as 2), .ref (as 3), .ref (as 4), .ref (as 5), .ref (as 6), .ref (as 7), .ref (as 8)])) := by rw [hhw1]; exact wset_at _ _ _
    have fw1_1 := (show w1 (as 0) = w (as 0) by rw [hhw1]; exact wset_ne (hR.ne (by decide : 0 < 9))).trans hR.a0
    have fw1_2 := (show w1 (as 1) = w (as 1) by rw [hhw1]; exact wset_ne (hR.ne (by decide : 1 < 9))).trans hR.a1
    have fw1_3 := (show w1 (as 2) = w (as 2) by rw [hhw1]; exact wset_ne (hR.ne (by decide : 2 < 9))).trans hR.a2
    have fw1_4 := (show w1 (as 3) = w (as 3) by rw [hhw1]; exact wset_ne (hR.ne (by decide : 3 < 9))).trans hR.a3
    have fw1_5 := (show w1 (as 4) = w (as 4) by rw [hhw1]; exact wset_ne (hR.ne (by decide : 4 < 9))).trans hR.a4
    have fw1_6 := (show w1 (as 5) = w (as 5) by rw [hhw1]; exact wset_ne (hR.ne (by decide : 5 < 9))).trans hR.a5
    have fw1_7 := (show w1 (as 6) = w (as 6) by rw [hhw1]; exact wset_ne (hR.ne (by decide : 6 < 9))).trans hR.a6
    have fw1_8 := (show w1 (as 7) = w (as 7) by rw [hhw1]; exact wset_ne (hR.ne (by decide : 7 < 9))).trans hR.a7
    have fw1_9 := (show w1 (as 8) = w (as 8) by rw [hhw1]; exact wset_ne (hR.ne (by decide : 8 < 9))).trans hR.a8
    refine lv_aload_n hx hb dM_pass_24 rfl (lv_at hl 0 rfl) ?_
    refine g_M_M_38 (v := .int (1)) hx hb hE hm fw1 rfl dM_pass_25 ?_
    refine lv_if_ne (tgt := 41) hx hb dM_pass_28 (by decide) (fun c_28 => ?_) (fun c_28 => ?_)
    · refine lv_aload_n hx hb dM_pass_41 rfl (lv_at hl 0 rfl) ?_
      refine g_M_M_38 (v := .int (1)) hx hb hE hm fw1 rfl dM_pass_42 ?_
      refine lv_if_ne (tgt := 55) hx hb dM_pass_45 (by decide) (fun c_45 => ?_) (fun c_45 => ?_)
      · refine lv_iconst (v := 0) hx hb dM_pass_55 (by decide) ?_
        exact mreti hx hb hr hlk hm ⟨Or.inr ⟨by simp [pOk, c_2], rfl, (by rw [hw1]; exact hR.set _ _)⟩, by rw [hw1]; exact rK.rf.set rF_r⟩ dM_pass_56
      · first | exact absurd c_45 (by decide) | exact absurd (by decide) c_45
    · first | exact absurd c_28 (by decide) | exact absurd (by decide) c_28
  · refine lv_iload_n hx hb dM_pass_5 rfl (lv_at hl 1 rfl) ?_
    refine lv_ldc (v := 1000000000) hx hb hE.1 (hE.2.1 _ (List.mem_cons_of_mem _ q_347)) dM_pass_6 ?_
    refine lv_aload_n hx hb dM_pass_8 rfl (lv_at hl 0 rfl) ?_
    refine g_M_M_43 (v := .int (now)) hx hb hE hm hR.1 rfl dM_pass_9 ?_
    refine lv_isub hx hb dM_pass_12 ?_
    refine lv_icmp_le (tgt := 20) hx hb dM_pass_13 (by decide) (fun c_13 => ?_) (fun c_13 => ?_)
    · rw [← Int32.not_lt] at c_13
      refine lv_iconst (v := 0) hx hb dM_pass_20 (by decide) ?_
      refine p_M_M_38 (x := 0) hx hb hE hm hR.1 (by simp) dM_pass_21 (fun H locs hm => ?_)
      obtain ⟨w2, hhw2⟩ : ∃ z : Wd, z = wset w (r) (.inr (2, [.int (0), .int (now), .int (nI n), .ref (as 0), .ref (as 1), .ref (as 2), .ref (as 3), .ref (as 4), .ref (as 5), .ref (as 6), .ref (as 7), .ref (as 8)])) := ⟨_, rfl⟩
      have hm : mS B D CLS s.heap w2 H locs := by rw [hhw2]; exact hm
      have hw2 : w2 = wset (w) (r) (.inr (2, [.int (0), .int (now), .int (nI n), .ref (as 0), .ref (as 1), .ref (as 2), .ref (as 3), .ref (as 4), .ref (as 5), .ref (as 6), .ref (as 7), .ref (as 8)])) := by rw [hhw2]
      have fw2 : w2 (r) = some (.inr (2, [.int (0), .int (now), .int (nI n), .ref (as 0), .ref (as 1), .ref (as 2), .ref (as 3), .ref (as 4), .ref (as 5), .ref (as 6), .ref (as 7), .ref (as 8)])) := by rw [hhw2]; exact wset_at _ _ _
      have fw2_1 := (show w2 (as 0) = w (as 0) by rw [hhw2]; exact wset_ne (hR.ne (by decide : 0 < 9))).trans hR.a0
      have fw2_2 := (show w2 (as 1) = w (as 1) by rw [hhw2]; exact wset_ne (hR.ne (by decide : 1 < 9))).trans hR.a1
      have fw2_3 := (show w2 (as 2) = w (as 2) by rw [hhw2]; exact wset_ne (hR.ne (by decide : 2 < 9))).trans hR.a2
      have fw2_4 := (show w2 (as 3) = w (as 3) by rw [hhw2]; exact wset_ne (hR.ne (by decide : 3 < 9))).trans hR.a3
      have fw2_5 := (show w2 (as 4) = w (as 4) by rw [hhw2]; exact wset_ne (hR.ne (by decide : 4 < 9))).trans hR.a4
      have fw2_6 := (show w2 (as 5) = w (as 5) by rw [hhw2]; exact wset_ne (hR.ne (by decide : 5 < 9))).trans hR.a5
      have fw2_7 := (show w2 (as 6) = w (as 6) by rw [hhw2]; exact wset_ne (hR.ne (by decide : 6 < 9))).trans hR.a6
      have fw2_8 := (show w2 (as 7) = w (as 7) by rw [hhw2]; exact wset_ne (hR.ne (by decide : 7 < 9))).trans hR.a7
      have fw2_9 := (show w2 (as 8) = w (as 8) by rw [hhw2]; exact wset_ne (hR.ne (by decide : 8 < 9))).trans hR.a8
      refine lv_aload_n hx hb dM_pass_24 rfl (lv_at hl 0 rfl) ?_
      refine g_M_M_38 (v := .int (0)) hx hb hE hm fw2 rfl dM_pass_25 ?_
      refine lv_if_ne (tgt := 41) hx hb dM_pass_28 (by decide) (fun c_28 => ?_) (fun c_28 => ?_)
      · first | exact absurd c_28 (by decide) | exact absurd (by decide) c_28
      · refine lv_aload_n hx hb dM_pass_31 rfl (lv_at hl 0 rfl) ?_
        refine lv_dup hx hb dM_pass_32 rfl ?_
        refine g_M_M_43 (v := .int (now)) hx hb hE hm fw2 rfl dM_pass_33 ?_
        refine lv_iload_n hx hb dM_pass_36 rfl (lv_at hl 1 rfl) ?_
        refine lv_iadd hx hb dM_pass_37 ?_
        refine p_M_M_43 (x := (now) + (x)) hx hb hE hm fw2 (by simp) dM_pass_38 (fun H locs hm => ?_)
        obtain ⟨w3, hhw3⟩ : ∃ z : Wd, z = wset w2 (r) (.inr (2, [.int (0), .int ((now) + (x)), .int (nI n), .ref (as 0), .ref (as 1), .ref (as 2), .ref (as 3), .ref (as 4), .ref (as 5), .ref (as 6), .ref (as 7), .ref (as 8)])) := ⟨_, rfl⟩
        have hm : mS B D CLS s.heap w3 H locs := by rw [hhw3]; exact hm
        have hw3 : w3 = wset (w) (r) (.inr (2, [.int (0), .int ((now) + (x)), .int (nI n), .ref (as 0), .ref (as 1), .ref (as 2), .ref (as 3), .ref (as 4), .ref (as 5), .ref (as 6), .ref (as 7), .ref (as 8)])) := by rw [hhw3, hw2]; funext z; by_cases hz : z = r <;> simp [wset, hz]
        have fw3 : w3 (r) = some (.inr (2, [.int (0), .int ((now) + (x)), .int (nI n), .ref (as 0), .ref (as 1), .ref (as 2), .ref (as 3), .ref (as 4), .ref (as 5), .ref (as 6), .ref (as 7), .ref (as 8)])) := by rw [hhw3]; exact wset_at _ _ _
        have fw3_1 := (show w3 (as 0) = w2 (as 0) by rw [hhw3]; exact wset_ne (hR.ne (by decide : 0 < 9))).trans fw2_1
        have fw3_2 := (show w3 (as 1) = w2 (as 1) by rw [hhw3]; exact wset_ne (hR.ne (by decide : 1 < 9))).trans fw2_2
        have fw3_3 := (show w3 (as 2) = w2 (as 2) by rw [hhw3]; exact wset_ne (hR.ne (by decide : 2 < 9))).trans fw2_3
        have fw3_4 := (show w3 (as 3) = w2 (as 3) by rw [hhw3]; exact wset_ne (hR.ne (by decide : 3 < 9))).trans fw2_4
        have fw3_5 := (show w3 (as 4) = w2 (as 4) by rw [hhw3]; exact wset_ne (hR.ne (by decide : 4 < 9))).trans fw2_5
        have fw3_6 := (show w3 (as 5) = w2 (as 5) by rw [hhw3]; exact wset_ne (hR.ne (by decide : 5 < 9))).trans fw2_6
        have fw3_7 := (show w3 (as 6) = w2 (as 6) by rw [hhw3]; exact wset_ne (hR.ne (by decide : 6 < 9))).trans fw2_7
        have fw3_8 := (show w3 (as 7) = w2 (as 7) by rw [hhw3]; exact wset_ne (hR.ne (by decide : 7 < 9))).trans fw2_8
        have fw3_9 := (show w3 (as 8) = w2 (as 8) by rw [hhw3]; exact wset_ne (hR.ne (by decide : 8 < 9))).trans fw2_9
        refine lv_aload_n hx hb dM_pass_41 rfl (lv_at hl 0 rfl) ?_
        refine g_M_M_38 (v := .int (0)) hx hb hE hm fw3 rfl dM_pass_42 ?_
        refine lv_if_ne (tgt := 55) hx hb dM_pass_45 (by decide) (fun c_45 => ?_) (fun c_45 => ?_)
        · first | exact absurd c_45 (by decide) | exact absurd (by decide) c_45
        · refine lv_aload_n hx hb dM_pass_48 rfl (lv_at hl 0 rfl) ?_
          refine g_M_M_43 (v := .int ((now) + (x))) hx hb hE hm fw3 rfl dM_pass_49 ?_
          refine lv_goto (tgt := 56) hx hb dM_pass_52 (by decide) ?_
          exact mreti hx hb hr hlk hm ⟨Or.inl ⟨by simp [pOk, c_2, c_13], rfl, (by rw [hw3]; exact hR.set _ _)⟩, by rw [hw3]; exact rK.rf.set rF_r⟩ dM_pass_56
    · rw [Int32.not_le] at c_13
      refine lv_iconst (v := 1) hx hb dM_pass_16 (by decide) ?_
      refine lv_goto (tgt := 21) hx hb dM_pass_17 (by decide) ?_
      refine p_M_M_38 (x := 1) hx hb hE hm hR.1 (by simp) dM_pass_21 (fun H locs hm => ?_)
      obtain ⟨w4, hhw4⟩ : ∃ z : Wd, z = wset w (r) (.inr (2, [.int (1), .int (now), .int (nI n), .ref (as 0), .ref (as 1), .ref (as 2), .ref (as 3), .ref (as 4), .ref (as 5), .ref (as 6), .ref (as 7), .ref (as 8)])) := ⟨_, rfl⟩
      have hm : mS B D CLS s.heap w4 H locs := by rw [hhw4]; exact hm
      have hw4 : w4 = wset (w) (r) (.inr (2, [.int (1), .int (now), .int (nI n), .ref (as 0), .ref (as 1), .ref (as 2), .ref (as 3), .ref (as 4), .ref (as 5), .ref (as 6), .ref (as 7), .ref (as 8)])) := by rw [hhw4]
      have fw4 : w4 (r) = some (.inr (2, [.int (1), .int (now), .int (nI n), .ref (as 0), .ref (as 1), .ref (as 2), .ref (as 3), .ref (as 4), .ref (as 5), .ref (as 6), .ref (as 7), .ref (as 8)])) := by rw [hhw4]; exact wset_at _ _ _
      have fw4_1 := (show w4 (as 0) = w (as 0) by rw [hhw4]; exact wset_ne (hR.ne (by decide : 0 < 9))).trans hR.a0
      have fw4_2 := (show w4 (as 1) = w (as 1) by rw [hhw4]; exact wset_ne (hR.ne (by decide : 1 < 9))).trans hR.a1
      have fw4_3 := (show w4 (as 2) = w (as 2) by rw [hhw4]; exact wset_ne (hR.ne (by decide : 2 < 9))).trans hR.a2
      have fw4_4 := (show w4 (as 3) = w (as 3) by rw [hhw4]; exact wset_ne (hR.ne (by decide : 3 < 9))).trans hR.a3
      have fw4_5 := (show w4 (as 4) = w (as 4) by rw [hhw4]; exact wset_ne (hR.ne (by decide : 4 < 9))).trans hR.a4
      have fw4_6 := (show w4 (as 5) = w (as 5) by rw [hhw4]; exact wset_ne (hR.ne (by decide : 5 < 9))).trans hR.a5
      have fw4_7 := (show w4 (as 6) = w (as 6) by rw [hhw4]; exact wset_ne (hR.ne (by decide : 6 < 9))).trans hR.a6
      have fw4_8 := (show w4 (as 7) = w (as 7) by rw [hhw4]; exact wset_ne (hR.ne (by decide : 7 < 9))).trans hR.a7
      have fw4_9 := (show w4 (as 8) = w (as 8) by rw [hhw4]; exact wset_ne (hR.ne (by decide : 8 < 9))).trans hR.a8
      refine lv_aload_n hx hb dM_pass_24 rfl (lv_at hl 0 rfl) ?_
      refine g_M_M_38 (v := .int (1)) hx hb hE hm fw4 rfl dM_pass_25 ?_
      refine lv_if_ne (tgt := 41) hx hb dM_pass_28 (by decide) (fun c_28 => ?_) (fun c_28 => ?_)
      · refine lv_aload_n hx hb dM_pass_41 rfl (lv_at hl 0 rfl) ?_
        refine g_M_M_38 (v := .int (1)) hx hb hE hm fw4 rfl dM_pass_42 ?_
        refine lv_if_ne (tgt := 55) hx hb dM_pass_45 (by decide) (fun c_45 => ?_) (fun c_45 => ?_)
        · refine lv_iconst (v := 0) hx hb dM_pass_55 (by decide) ?_
          exact mreti hx hb hr hlk hm ⟨Or.inr ⟨by simp [pOk, c_2, c_13], rfl, (by rw [hw4]; exact hR.set _ _)⟩, by rw [hw4]; exact rK.rf.set rF_r⟩ dM_pass_56
        · first | exact absurd c_45 (by decide) | exact absurd (by decide) c_45
      · first | exact absurd c_28 (by decide) | exact absurd (by decide) c_28
set_option maxHeartbeats 4000000 in
set_option maxRecDepth 100000 in
theorem kM_link (l : Launch) (B : Nat) (D : va_G) (cI cZ cL : ClassId) (w : Wd) (r : Nat) (as : Nat → Nat) (g : Nat → Nat → Int32) (thr now : Int32) (n : Nat) (J : Nat → Jr) (hR : rR cI cZ r as g thr now n J w) (hM : mW now n J) (x t z : Int32) : Met l yM_link (.code yM_link cM_link 6 (some .int) :: BIG) { frames := 1, cells := 0, slots := 0, locals := 24 } (va_Pc [.ref (r), .int (x), .int (t), .int (z)] (mP B D CLS (TYS cI cZ cL) NEST w)) (va_Qi (fun y u => ((∃ j, lk (chn J n (hd n J x t)) 0 z = some j ∧ y = nI j ∧ rR cI cZ r as g 0 now n J u) ∨ (lk (chn J n (hd n J x t)) 0 z = none ∧ y = 0 ∧ rR cI cZ r as g 1 now n J u)) ∧ rK r as w u) (mE B D CLS) (fun q => B ≤ q)) 0 0 (fun q => B ≤ q) := by
  refine mMet (by decide) rfl (Nat.le_of_ble_eq_true rfl) ?_
  intro p e s m below meth c ls hx hb hml hr hlk hnm hown hts hK hN hm hl
  have hE : ME "ChainPickerModel" (.code yM_link cM_link 6 (some .int)) _ s m D (TYS cI cZ cL) := ⟨hown, hts, hK, hN⟩
  have hl : lv_has ls 6 [(0, .ref (r)), (1, .int (x)), (2, .int (t)), (3, .int (z))] := hl
  have hn200 := hR.n200
  refine lv_iconst (v := 0) hx hb dM_link_0 (by decide) ?_
  refine lv_istore (lv' := [(4, .int (0)), (0, .ref (r)), (1, .int (x)), (2, .int (t)), (3, .int (z))]) hx hb dM_link_1 hl (by decide) rfl (fun ls hl => ?_)
  refine lv_iload_n hx hb dM_link_3 rfl (lv_at hl 4 rfl) ?_
  refine lv_if_ge (tgt := 11) hx hb dM_link_4 (by decide) (fun c_4 => ?_) (fun c_4 => ?_)
  · rw [← Int32.not_lt] at c_4
    refine lv_aload_n hx hb dM_link_11 rfl (lv_at hl 1 rfl) ?_
    refine lv_iload_n hx hb dM_link_12 rfl (lv_at hl 2 rfl) ?_
    refine lv_iload_n hx hb dM_link_13 rfl (lv_at hl 3 rfl) ?_
    refine mcalli (mcV (n := 2) (As := [.int (x), .int (t)]) (rest := []) hx hb hml hE (kM_head l B D cI cZ cL w r as g thr now n J hR hM x t) q_373 q_375 qs_10 q_2 q_376 rfl rfl (by decide +kernel) ⟨Nat.le_of_ble_eq_true rfl, Nat.le_of_ble_eq_true rfl⟩ rfl hl.1 hm rfl hR.1 rfl (Nat.le_of_ble_eq_true rfl) dM_link_14 ⟨Nat.le_of_ble_eq_true rfl, Nat.le_of_ble_eq_true rfl⟩) hm (fun r1 u1 H locs hp1 hm => ?_)
    obtain ⟨hr1, hu1⟩ := hp1
    rw [hu1] at hm
    rw [hd_eq] at hr1
    subst hr1
    refine lv_istore (lv' := [(5, .int (oI (hd n J x t))), (4, .int (0)), (0, .ref (r)), (1, .int (x)), (2, .int (t)), (3, .int (z))]) hx hb dM_link_17 hl (by decide) rfl (fun ls hl => ?_)
    obtain ⟨k, hk, hzk⟩ := nI_of (x := z) (by simpa using c_4)
    subst hzk
    have loop : ∀ (f : Nat) (h : Option Nat), (∀ i, h = some i → i < f ∧ i < n) → ∀ (p9 : Nat), p9 ≤ k → lk (chn J n (hd n J x t)) 0 (nI k) = lk (chn J f h) (nI p9) (nI k) → ∀ (H : Heap) (locs : List Loc) (ls : Array Slot), mS B D CLS s.heap w H locs → lv_has ls 6 [(5, .int (oI h)), (4, .int (nI p9)), (0, .ref (r)), (1, .int (x)), (2, .int (t)), (3, .int (nI k))] → W p l e ({ frames := 1, cells := 0, slots := 0, locals := 24 }) s m [.ref (r), .int (x), .int (t), .int (nI k)].toArray below meth c H locs 0 0 (MQ below (va_Qi (fun y u => ((∃ j, lk (chn J n (hd n J x t)) 0 (nI k) = some j ∧ y = nI j ∧ rR cI cZ r as g 0 now n J u) ∨ (lk (chn J n (hd n J x t)) 0 (nI k) = none ∧ y = 0 ∧ rR cI cZ r as g 1 now n J u)) ∧ rK r as w u) (mE B D CLS) (fun q => B ≤ q)) [.ref (r), .int (x), .int (t), .int (nI k)].toArray s 0 0 (fun q => B ≤ q)) (F0 m 19 ls []) := by
      intro f
      induction f with
      | zero =>
        intro h hlt p9 hp9 heq H locs ls hm hl
        cases h with
        | none =>
          have hl : lv_has ls 6 [(5, .int (-1)), (4, .int (nI p9)), (0, .ref (r)), (1, .int (x)), (2, .int (t)), (3, .int (nI k))] := hl
          refine lv_iload hx hb dM_link_19 (lv_at hl 0 rfl) ?_
          refine lv_if_lt (tgt := 45) hx hb dM_link_21 (by decide) (fun c_21 => ?_) (fun c_21 => ?_)
          · refine lv_aload_n hx hb dM_link_45 rfl (lv_at hl 2 rfl) ?_
            refine lv_iload hx hb dM_link_46 (lv_at hl 0 rfl) ?_
            refine lv_if_ge (tgt := 55) hx hb dM_link_48 (by decide) (fun c_48 => ?_) (fun c_48 => ?_)
            · first | exact absurd c_48 (by decide) | exact absurd (by decide) c_48
            · refine lv_iconst (v := 1) hx hb dM_link_51 (by decide) ?_
              refine lv_goto (tgt := 56) hx hb dM_link_52 (by decide) ?_
              refine p_M_M_38 (x := 1) hx hb hE hm hR.1 (by simp) dM_link_56 (fun H locs hm => ?_)
              obtain ⟨w1, hhw1⟩ : ∃ z : Wd, z = wset w (r) (.inr (2, [.int (1), .int (now), .int (nI n), .ref (as 0), .ref (as 1), .ref (as 2), .ref (as 3), .ref (as 4), .ref (as 5), .ref (as 6), .ref (as 7), .ref (as 8)])) := ⟨_, rfl⟩
              have hm : mS B D CLS s.heap w1 H locs := by rw [hhw1]; exact hm
              have hw1 : w1 = wset (w) (r) (.inr (2, [.int (1), .int (now), .int (nI n), .ref (as 0), .ref (as 1), .ref (as 2), .ref (as 3), .ref (as 4), .ref (as 5), .ref (as 6), .ref (as 7), .ref (as 8)])) := by rw [hhw1]
              have fw1 : w1 (r) = some (.inr (2, [.int (1), .int (now), .int (nI n), .ref (as 0), .ref (as 1), .ref (as 2), .ref (as 3), .ref (as 4), .ref (as 5), .ref (as 6), .ref (as 7), .ref (as 8)])) := by rw [hhw1]; exact wset_at _ _ _
              have fw1_1 := (show w1 (as 0) = w (as 0) by rw [hhw1]; exact wset_ne (hR.ne (by decide : 0 < 9))).trans hR.a0
              have fw1_2 := (show w1 (as 1) = w (as 1) by rw [hhw1]; exact wset_ne (hR.ne (by decide : 1 < 9))).trans hR.a1
              have fw1_3 := (show w1 (as 2) = w (as 2) by rw [hhw1]; exact wset_ne (hR.ne (by decide : 2 < 9))).trans hR.a2
              have fw1_4 := (show w1 (as 3) = w (as 3) by rw [hhw1]; exact wset_ne (hR.ne (by decide : 3 < 9))).trans hR.a3
              have fw1_5 := (show w1 (as 4) = w (as 4) by rw [hhw1]; exact wset_ne (hR.ne (by decide : 4 < 9))).trans hR.a4
              have fw1_6 := (show w1 (as 5) = w (as 5) by rw [hhw1]; exact wset_ne (hR.ne (by decide : 5 < 9))).trans hR.a5
              have fw1_7 := (show w1 (as 6) = w (as 6) by rw [hhw1]; exact wset_ne (hR.ne (by decide : 6 < 9))).trans hR.a6
              have fw1_8 := (show w1 (as 7) = w (as 7) by rw [hhw1]; exact wset_ne (hR.ne (by decide : 7 < 9))).trans hR.a7
              have fw1_9 := (show w1 (as 8) = w (as 8) by rw [hhw1]; exact wset_ne (hR.ne (by decide : 8 < 9))).trans hR.a8
              refine lv_iload hx hb dM_link_59 (lv_at hl 0 rfl) ?_
              refine lv_if_ge (tgt := 68) hx hb dM_link_61 (by decide) (fun c_61 => ?_) (fun c_61 => ?_)
              · first | exact absurd c_61 (by decide) | exact absurd (by decide) c_61
              · refine lv_iconst (v := 0) hx hb dM_link_64 (by decide) ?_
                refine lv_goto (tgt := 70) hx hb dM_link_65 (by decide) ?_
                exact mreti hx hb hr hlk hm ⟨Or.inr ⟨by rw [heq, lk_n], rfl, (by rw [hw1]; exact hR.set _ _)⟩, by rw [hw1]; exact rK.rf.set rF_r⟩ dM_link_70
          · first | exact absurd c_21 (by decide) | exact absurd (by decide) c_21
        | some i => exact absurd (hlt i rfl).1 (Nat.not_lt_zero _)
      | succ f ih =>
        intro h hlt p9 hp9 heq H locs ls hm hl
        cases h with
        | none =>
          have hl : lv_has ls 6 [(5, .int (-1)), (4, .int (nI p9)), (0, .ref (r)), (1, .int (x)), (2, .int (t)), (3, .int (nI k))] := hl
          refine lv_iload hx hb dM_link_19 (lv_at hl 0 rfl) ?_
          refine lv_if_lt (tgt := 45) hx hb dM_link_21 (by decide) (fun c_21 => ?_) (fun c_21 => ?_)
          · refine lv_aload_n hx hb dM_link_45 rfl (lv_at hl 2 rfl) ?_
            refine lv_iload hx hb dM_link_46 (lv_at hl 0 rfl) ?_
            refine lv_if_ge (tgt := 55) hx hb dM_link_48 (by decide) (fun c_48 => ?_) (fun c_48 => ?_)
            · first | exact absurd c_48 (by decide) | exact absurd (by decide) c_48
            · refine lv_iconst (v := 1) hx hb dM_link_51 (by decide) ?_
              refine lv_goto (tgt := 56) hx hb dM_link_52 (by decide) ?_
              refine p_M_M_38 (x := 1) hx hb hE hm hR.1 (by simp) dM_link_56 (fun H locs hm => ?_)
              obtain ⟨w1, hhw1⟩ : ∃ z : Wd, z = wset w (r) (.inr (2, [.int (1), .int (now), .int (nI n), .ref (as 0), .ref (as 1), .ref (as 2), .ref (as 3), .ref (as 4), .ref (as 5), .ref (as 6), .ref (as 7), .ref (as 8)])) := ⟨_, rfl⟩
              have hm : mS B D CLS s.heap w1 H locs := by rw [hhw1]; exact hm
              have hw1 : w1 = wset (w) (r) (.inr (2, [.int (1), .int (now), .int (nI n), .ref (as 0), .ref (as 1), .ref (as 2), .ref (as 3), .ref (as 4), .ref (as 5), .ref (as 6), .ref (as 7), .ref (as 8)])) := by rw [hhw1]
              have fw1 : w1 (r) = some (.inr (2, [.int (1), .int (now), .int (nI n), .ref (as 0), .ref (as 1), .ref (as 2), .ref (as 3), .ref (as 4), .ref (as 5), .ref (as 6), .ref (as 7), .ref (as 8)])) := by rw [hhw1]; exact wset_at _ _ _
              have fw1_1 := (show w1 (as 0) = w (as 0) by rw [hhw1]; exact wset_ne (hR.ne (by decide : 0 < 9))).trans hR.a0
              have fw1_2 := (show w1 (as 1) = w (as 1) by rw [hhw1]; exact wset_ne (hR.ne (by decide : 1 < 9))).trans hR.a1
              have fw1_3 := (show w1 (as 2) = w (as 2) by rw [hhw1]; exact wset_ne (hR.ne (by decide : 2 < 9))).trans hR.a2
              have fw1_4 := (show w1 (as 3) = w (as 3) by rw [hhw1]; exact wset_ne (hR.ne (by decide : 3 < 9))).trans hR.a3
              have fw1_5 := (show w1 (as 4) = w (as 4) by rw [hhw1]; exact wset_ne (hR.ne (by decide : 4 < 9))).trans hR.a4
              have fw1_6 := (show w1 (as 5) = w (as 5) by rw [hhw1]; exact wset_ne (hR.ne (by decide : 5 < 9))).trans hR.a5
              have fw1_7 := (show w1 (as 6) = w (as 6) by rw [hhw1]; exact wset_ne (hR.ne (by decide : 6 < 9))).trans hR.a6
              have fw1_8 := (show w1 (as 7) = w (as 7) by rw [hhw1]; exact wset_ne (hR.ne (by decide : 7 < 9))).trans hR.a7
              have fw1_9 := (show w1 (as 8) = w (as 8) by rw [hhw1]; exact wset_ne (hR.ne (by decide : 8 < 9))).trans hR.a8
              refine lv_iload hx hb dM_link_59 (lv_at hl 0 rfl) ?_
              refine lv_if_ge (tgt := 68) hx hb dM_link_61 (by decide) (fun c_61 => ?_) (fun c_61 => ?_)
              · first | exact absurd c_61 (by decide) | exact absurd (by decide) c_61
              · refine lv_iconst (v := 0) hx hb dM_link_64 (by decide) ?_
                refine lv_goto (tgt := 70) hx hb dM_link_65 (by decide) ?_
                exact mreti hx hb hr hlk hm ⟨Or.inr ⟨by rw [heq, lk_n], rfl, (by rw [hw1]; exact hR.set _ _)⟩, by rw [hw1]; exact rK.rf.set rF_r⟩ dM_link_70
          · first | exact absurd c_21 (by decide) | exact absurd (by decide) c_21
        | some i =>
          have hiN : i < n := (hlt i rfl).2
          have hl : lv_has ls 6 [(5, .int (nI i)), (4, .int (nI p9)), (0, .ref (r)), (1, .int (x)), (2, .int (t)), (3, .int (nI k))] := hl
          refine lv_iload hx hb dM_link_19 (lv_at hl 0 rfl) ?_
          refine lv_if_lt (tgt := 45) hx hb dM_link_21 (by decide) (fun c_21 => ?_) (fun c_21 => ?_)
          · exact absurd c_21 (nI_pos (by omega))
          · refine lv_iload hx hb dM_link_24 (lv_at hl 1 rfl) ?_
            refine lv_iload_n hx hb dM_link_26 rfl (lv_at hl 5 rfl) ?_
            refine lv_icmp_ge (tgt := 45) hx hb dM_link_27 (by decide) (fun c_27 => ?_) (fun c_27 => ?_)
            · rw [← Int32.not_lt] at c_27
              rw [nI_ltI (by omega) hk] at c_27
              have hpk : p9 = k := by omega
              refine lv_aload_n hx hb dM_link_45 rfl (lv_at hl 2 rfl) ?_
              refine lv_iload hx hb dM_link_46 (lv_at hl 0 rfl) ?_
              refine lv_if_ge (tgt := 55) hx hb dM_link_48 (by decide) (fun c_48 => ?_) (fun c_48 => ?_)
              · rw [← Int32.not_lt] at c_48
                refine lv_iconst (v := 0) hx hb dM_link_55 (by decide) ?_
                refine p_M_M_38 (x := 0) hx hb hE hm hR.1 (by simp) dM_link_56 (fun H locs hm => ?_)
                obtain ⟨w1, hhw1⟩ : ∃ z : Wd, z = wset w (r) (.inr (2, [.int (0), .int (now), .int (nI n), .ref (as 0), .ref (as 1), .ref (as 2), .ref (as 3), .ref (as 4), .ref (as 5), .ref (as 6), .ref (as 7), .ref (as 8)])) := ⟨_, rfl⟩
                have hm : mS B D CLS s.heap w1 H locs := by rw [hhw1]; exact hm
                have hw1 : w1 = wset (w) (r) (.inr (2, [.int (0), .int (now), .int (nI n), .ref (as 0), .ref (as 1), .ref (as 2), .ref (as 3), .ref (as 4), .ref (as 5), .ref (as 6), .ref (as 7), .ref (as 8)])) := by rw [hhw1]
                have fw1 : w1 (r) = some (.inr (2, [.int (0), .int (now), .int (nI n), .ref (as 0), .ref (as 1), .ref (as 2), .ref (as 3), .ref (as 4), .ref (as 5), .ref (as 6), .ref (as 7), .ref (as 8)])) := by rw [hhw1]; exact wset_at _ _ _
                have fw1_1 := (show w1 (as 0) = w (as 0) by rw [hhw1]; exact wset_ne (hR.ne (by decide : 0 < 9))).trans hR.a0
                have fw1_2 := (show w1 (as 1) = w (as 1) by rw [hhw1]; exact wset_ne (hR.ne (by decide : 1 < 9))).trans hR.a1
                have fw1_3 := (show w1 (as 2) = w (as 2) by rw [hhw1]; exact wset_ne (hR.ne (by decide : 2 < 9))).trans hR.a2
                have fw1_4 := (show w1 (as 3) = w (as 3) by rw [hhw1]; exact wset_ne (hR.ne (by decide : 3 < 9))).trans hR.a3
                have fw1_5 := (show w1 (as 4) = w (as 4) by rw [hhw1]; exact wset_ne (hR.ne (by decide : 4 < 9))).trans hR.a4
                have fw1_6 := (show w1 (as 5) = w (as 5) by rw [hhw1]; exact wset_ne (hR.ne (by decide : 5 < 9))).trans hR.a5
                have fw1_7 := (show w1 (as 6) = w (as 6) by rw [hhw1]; exact wset_ne (hR.ne (by decide : 6 < 9))).trans hR.a6
                have fw1_8 := (show w1 (as 7) = w (as 7) by rw [hhw1]; exact wset_ne (hR.ne (by decide : 7 < 9))).trans hR.a7
                have fw1_9 := (show w1 (as 8) = w (as 8) by rw [hhw1]; exact wset_ne (hR.ne (by decide : 8 < 9))).trans hR.a8
                refine lv_iload hx hb dM_link_59 (lv_at hl 0 rfl) ?_
                refine lv_if_ge (tgt := 68) hx hb dM_link_61 (by decide) (fun c_61 => ?_) (fun c_61 => ?_)
                · rw [← Int32.not_lt] at c_61
                  refine lv_iload hx hb dM_link_68 (lv_at hl 0 rfl) ?_
                  exact mreti hx hb hr hlk hm ⟨Or.inl ⟨i, by rw [heq, lk_t (by rw [hpk])], rfl, (by rw [hw1]; exact hR.set _ _)⟩, by rw [hw1]; exact rK.rf.set rF_r⟩ dM_link_70
                · exact absurd (nI_pos' (by omega)) c_61
              · exact absurd (nI_pos' (by omega)) c_48
            · rw [← Int32.not_lt, Classical.not_not, nI_ltI (by omega) hk] at c_27
              refine lv_aload_n hx hb dM_link_30 rfl (lv_at hl 2 rfl) ?_
              refine g_M_M_20 (v := .ref (as 3)) hx hb hE hm hR.1 rfl dM_link_31 ?_
              refine lv_iload hx hb dM_link_34 (lv_at hl 0 rfl) ?_
              refine ialdE (i) hx hb hE.2.2.1 hm 0 hR.a3 rfl rfl (by have := hR.n200; have := hiN; omega) (by decide) dM_link_36 ?_
              rw [hR.g3 hiN]
              refine lv_istore (lv' := [(5, .int (oI (jBs (J i)))), (4, .int (nI p9)), (0, .ref (r)), (1, .int (x)), (2, .int (t)), (3, .int (nI k))]) hx hb dM_link_37 hl (by decide) rfl (fun ls hl => ?_)
              refine lv_iinc (v := nI p9 + 1) (lv' := [(4, .int (nI p9 + 1)), (5, .int (oI (jBs (J i)))), (0, .ref (r)), (1, .int (x)), (2, .int (t)), (3, .int (nI k))]) hx hb dM_link_39 hl (k := 1) rfl rfl (by decide) rfl (fun ls hl => ?_)
              refine lv_goto (tgt := 19) hx hb dM_link_42 (by decide) ?_
              rw [nI_1] at hl
              exact ih (jBs (J i)) (fun b hb => ⟨Nat.lt_of_lt_of_le (hR.bs hiN hb) (Nat.le_of_lt_succ (hlt i rfl).1), Nat.lt_trans (hR.bs hiN hb) hiN⟩) (p9 + 1) (by omega) (by rw [heq, lk_f (fun e => by rw [nI_eq (by omega) hk] at e; omega), nI_1]) H locs ls hm (lv_sub hl [1, 0, 2, 3, 4, 5] rfl)
    exact loop n _ (fun i hi => ⟨hd_lt i hi, hd_lt i hi⟩) 0 (Nat.zero_le k) (by rw [nI_0]) _ _ ls hm (by rw [nI_0]; exact lv_sub hl [0, 1, 2, 3, 4, 5] rfl)
  · rw [Int32.not_le] at c_4
    refine lv_iconst (v := (-1)) hx hb dM_link_7 (by decide) ?_
    refine lv_goto (tgt := 17) hx hb dM_link_8 (by decide) ?_
    refine lv_istore (lv' := [(5, .int ((-1))), (4, .int (0)), (0, .ref (r)), (1, .int (x)), (2, .int (t)), (3, .int (z))]) hx hb dM_link_17 hl (by decide) rfl (fun ls hl => ?_)
    refine lv_iload hx hb dM_link_19 (lv_at hl 0 rfl) ?_
    refine lv_if_lt (tgt := 45) hx hb dM_link_21 (by decide) (fun c_21 => ?_) (fun c_21 => ?_)
    · refine lv_aload_n hx hb dM_link_45 rfl (lv_at hl 2 rfl) ?_
      refine lv_iload hx hb dM_link_46 (lv_at hl 0 rfl) ?_
      refine lv_if_ge (tgt := 55) hx hb dM_link_48 (by decide) (fun c_48 => ?_) (fun c_48 => ?_)
      · first | exact absurd c_48 (by decide) | exact absurd (by decide) c_48
      · refine lv_iconst (v := 1) hx hb dM_link_51 (by decide) ?_
        refine lv_goto (tgt := 56) hx hb dM_link_52 (by decide) ?_
        refine p_M_M_38 (x := 1) hx hb hE hm hR.1 (by simp) dM_link_56 (fun H locs hm => ?_)
        obtain ⟨w1, hhw1⟩ : ∃ z : Wd, z = wset w (r) (.inr (2, [.int (1), .int (now), .int (nI n), .ref (as 0), .ref (as 1), .ref (as 2), .ref (as 3), .ref (as 4), .ref (as 5), .ref (as 6), .ref (as 7), .ref (as 8)])) := ⟨_, rfl⟩
        have hm : mS B D CLS s.heap w1 H locs := by rw [hhw1]; exact hm
        have hw1 : w1 = wset (w) (r) (.inr (2, [.int (1), .int (now), .int (nI n), .ref (as 0), .ref (as 1), .ref (as 2), .ref (as 3), .ref (as 4), .ref (as 5), .ref (as 6), .ref (as 7), .ref (as 8)])) := by rw [hhw1]
        have fw1 : w1 (r) = some (.inr (2, [.int (1), .int (now), .int (nI n), .ref (as 0), .ref (as 1), .ref (as 2), .ref (as 3), .ref (as 4), .ref (as 5), .ref (as 6), .ref (as 7), .ref (as 8)])) := by rw [hhw1]; exact wset_at _ _ _
        have fw1_1 := (show w1 (as 0) = w (as 0) by rw [hhw1]; exact wset_ne (hR.ne (by decide : 0 < 9))).trans hR.a0
        have fw1_2 := (show w1 (as 1) = w (as 1) by rw [hhw1]; exact wset_ne (hR.ne (by decide : 1 < 9))).trans hR.a1
        have fw1_3 := (show w1 (as 2) = w (as 2) by rw [hhw1]; exact wset_ne (hR.ne (by decide : 2 < 9))).trans hR.a2
        have fw1_4 := (show w1 (as 3) = w (as 3) by rw [hhw1]; exact wset_ne (hR.ne (by decide : 3 < 9))).trans hR.a3
        have fw1_5 := (show w1 (as 4) = w (as 4) by rw [hhw1]; exact wset_ne (hR.ne (by decide : 4 < 9))).trans hR.a4
        have fw1_6 := (show w1 (as 5) = w (as 5) by rw [hhw1]; exact wset_ne (hR.ne (by decide : 5 < 9))).trans hR.a5
        have fw1_7 := (show w1 (as 6) = w (as 6) by rw [hhw1]; exact wset_ne (hR.ne (by decide : 6 < 9))).trans hR.a6
        have fw1_8 := (show w1 (as 7) = w (as 7) by rw [hhw1]; exact wset_ne (hR.ne (by decide : 7 < 9))).trans hR.a7
        have fw1_9 := (show w1 (as 8) = w (as 8) by rw [hhw1]; exact wset_ne (hR.ne (by decide : 8 < 9))).trans hR.a8
        refine lv_iload hx hb dM_link_59 (lv_at hl 0 rfl) ?_
        refine lv_if_ge (tgt := 68) hx hb dM_link_61 (by decide) (fun c_61 => ?_) (fun c_61 => ?_)
        · first | exact absurd c_61 (by decide) | exact absurd (by decide) c_61
        · refine lv_iconst (v := 0) hx hb dM_link_64 (by decide) ?_
          refine lv_goto (tgt := 70) hx hb dM_link_65 (by decide) ?_
          exact mreti hx hb hr hlk hm ⟨Or.inr ⟨by have h := lk_neg (z := z) (by simpa using c_4) (chn J n (hd n J x t)) 0 (by have := chn_len J n (hd n J x t); omega); rw [nI_0] at h; exact h, rfl, (by rw [hw1]; exact hR.set _ _)⟩, by rw [hw1]; exact rK.rf.set rF_r⟩ dM_link_70
    · first | exact absurd c_21 (by decide) | exact absurd (by decide) c_21
set_option maxHeartbeats 4000000 in
set_option maxRecDepth 100000 in
theorem kM_files (l : Launch) (B : Nat) (D : va_G) (cI cZ cL : ClassId) (w : Wd) (r : Nat) (as : Nat → Nat) (g : Nat → Nat → Int32) (thr now : Int32) (n : Nat) (J : Nat → Jr) (hR : rR cI cZ r as g thr now n J w) (hM : mW now n J) (x t : Int32) : Met l yM_files (.code yM_files cM_files 5 (some .int) :: BIG) { frames := 3, cells := 0, slots := 0, locals := 72 } (va_Pc [.ref (r), .int (x), .int (t)] (mP B D CLS (TYS cI cZ cL) NEST w)) (va_Qi (fun z u => z = nI (cnt (fun j => decide (ver n J (hd n J x t) (nI j) ≠ -1)) 50) ∧ rR cI cZ r as g 0 now n J u ∧ rK r as w u) (mE B D CLS) (fun q => B ≤ q)) 0 0 (fun q => B ≤ q) := by
  refine mMet (by decide) rfl (Nat.le_of_ble_eq_true rfl) ?_
  intro p e s m below meth c ls hx hb hml hr hlk hnm hown hts hK hN hm hl
  have hE : ME "ChainPickerModel" (.code yM_files cM_files 5 (some .int)) _ s m D (TYS cI cZ cL) := ⟨hown, hts, hK, hN⟩
  have hl : lv_has ls 5 [(0, .ref (r)), (1, .int (x)), (2, .int (t))] := hl
  have hn200 := hR.n200
  refine lv_aload_n hx hb dM_files_0 rfl (lv_at hl 0 rfl) ?_
  refine lv_iconst (v := 0) hx hb dM_files_1 (by decide) ?_
  refine p_M_M_38 (x := 0) hx hb hE hm hR.1 (by simp) dM_files_2 (fun H locs hm => ?_)
  obtain ⟨w1, hhw1⟩ : ∃ z : Wd, z = wset w (r) (.inr (2, [.int (0), .int (now), .int (nI n), .ref (as 0), .ref (as 1), .ref (as 2), .ref (as 3), .ref (as 4), .ref (as 5), .ref (as 6), .ref (as 7), .ref (as 8)])) := ⟨_, rfl⟩
  have hm : mS B D CLS s.heap w1 H locs := by rw [hhw1]; exact hm
  have hw1 : w1 = wset (w) (r) (.inr (2, [.int (0), .int (now), .int (nI n), .ref (as 0), .ref (as 1), .ref (as 2), .ref (as 3), .ref (as 4), .ref (as 5), .ref (as 6), .ref (as 7), .ref (as 8)])) := by rw [hhw1]
  have fw1 : w1 (r) = some (.inr (2, [.int (0), .int (now), .int (nI n), .ref (as 0), .ref (as 1), .ref (as 2), .ref (as 3), .ref (as 4), .ref (as 5), .ref (as 6), .ref (as 7), .ref (as 8)])) := by rw [hhw1]; exact wset_at _ _ _
  have fw1_1 := (show w1 (as 0) = w (as 0) by rw [hhw1]; exact wset_ne (hR.ne (by decide : 0 < 9))).trans hR.a0
  have fw1_2 := (show w1 (as 1) = w (as 1) by rw [hhw1]; exact wset_ne (hR.ne (by decide : 1 < 9))).trans hR.a1
  have fw1_3 := (show w1 (as 2) = w (as 2) by rw [hhw1]; exact wset_ne (hR.ne (by decide : 2 < 9))).trans hR.a2
  have fw1_4 := (show w1 (as 3) = w (as 3) by rw [hhw1]; exact wset_ne (hR.ne (by decide : 3 < 9))).trans hR.a3
  have fw1_5 := (show w1 (as 4) = w (as 4) by rw [hhw1]; exact wset_ne (hR.ne (by decide : 4 < 9))).trans hR.a4
  have fw1_6 := (show w1 (as 5) = w (as 5) by rw [hhw1]; exact wset_ne (hR.ne (by decide : 5 < 9))).trans hR.a5
  have fw1_7 := (show w1 (as 6) = w (as 6) by rw [hhw1]; exact wset_ne (hR.ne (by decide : 6 < 9))).trans hR.a6
  have fw1_8 := (show w1 (as 7) = w (as 7) by rw [hhw1]; exact wset_ne (hR.ne (by decide : 7 < 9))).trans hR.a7
  have fw1_9 := (show w1 (as 8) = w (as 8) by rw [hhw1]; exact wset_ne (hR.ne (by decide : 8 < 9))).trans hR.a8
  have hR1 : rR cI cZ r as g 0 now n J w1 := by rw [hw1]; exact hR.set _ _
  have hK1 : rK r as w w1 := by rw [hw1]; exact rK.rf.set rF_r
  refine lv_iconst (v := 0) hx hb dM_files_5 (by decide) ?_
  refine lv_istore_n (lv' := [(3, .int (0)), (0, .ref (r)), (1, .int (x)), (2, .int (t))]) hx hb dM_files_6 rfl hl (by decide) rfl (fun ls hl => ?_)
  refine lv_iconst (v := 0) hx hb dM_files_7 (by decide) ?_
  refine lv_istore (lv' := [(4, .int (0)), (3, .int (0)), (0, .ref (r)), (1, .int (x)), (2, .int (t))]) hx hb dM_files_8 hl (by decide) rfl (fun ls hl => ?_)
  have loop : ∀ (d i : Nat), i + d = 50 → ∀ (x9 : Int32), x9 = nI (cnt (fun j => decide (ver n J (hd n J x t) (nI j) ≠ -1)) i) → ∀ (H : Heap) (locs : List Loc) (ls : Array Slot), mS B D CLS s.heap w1 H locs → lv_has ls 5 [(4, .int (nI i)), (3, .int (x9)), (0, .ref (r)), (1, .int (x)), (2, .int (t))] → W p l e ({ frames := 3, cells := 0, slots := 0, locals := 72 }) s m [.ref (r), .int (x), .int (t)].toArray below meth c H locs 0 0 (MQ below (va_Qi (fun z u => z = nI (cnt (fun j => decide (ver n J (hd n J x t) (nI j) ≠ -1)) 50) ∧ rR cI cZ r as g 0 now n J u ∧ rK r as w u) (mE B D CLS) (fun q => B ≤ q)) [.ref (r), .int (x), .int (t)].toArray s 0 0 (fun q => B ≤ q)) (F0 m 10 ls []) := by
    intro d
    induction d with
    | zero =>
      intro i hi x9 hx0 H locs ls hm hl
      refine lv_iload hx hb dM_files_10 (lv_at hl 0 rfl) ?_
      refine lv_bipush (v := 50) hx hb dM_files_12 (by decide) ?_
      refine lv_icmp_ge (tgt := 42) hx hb dM_files_14 (by decide) (fun c_14 => ?_) (fun c_14 => ?_)
      · rw [← Int32.not_lt] at c_14
        refine lv_iload_n hx hb dM_files_42 rfl (lv_at hl 1 rfl) ?_
        exact mreti hx hb hr hlk hm ⟨by rw [hx0, show i = 50 by omega], hR1, hK1⟩ dM_files_43
      · exact absurd (nI_le (a := 50) (b := i) (by omega) (by omega)) c_14
    | succ d ih =>
      intro i hi x9 hx0 H locs ls hm hl
      have hiN : i < 50 := by omega
      refine lv_iload hx hb dM_files_10 (lv_at hl 0 rfl) ?_
      refine lv_bipush (v := 50) hx hb dM_files_12 (by decide) ?_
      refine lv_icmp_ge (tgt := 42) hx hb dM_files_14 (by decide) (fun c_14 => ?_) (fun c_14 => ?_)
      · exact absurd c_14 (nI_ge (a := i) (b := 50) (by omega) (by omega))
      · rw [Int32.not_le] at c_14
        refine lv_iload_n hx hb dM_files_17 rfl (lv_at hl 1 rfl) ?_
        refine lv_aload_n hx hb dM_files_18 rfl (lv_at hl 2 rfl) ?_
        refine lv_iload_n hx hb dM_files_19 rfl (lv_at hl 3 rfl) ?_
        refine lv_iload_n hx hb dM_files_20 rfl (lv_at hl 4 rfl) ?_
        refine lv_iload hx hb dM_files_21 (lv_at hl 0 rfl) ?_
        refine mcalli (mcV (n := 3) (As := [.int (x), .int (t), .int (nI i)]) (rest := [.int (x9)]) hx hb hml hE (kM_version l B D cI cZ cL w1 r as g 0 now n J hR1 hM x t (nI i)) q_385 q_387 qs_11 q_2 q_388 rfl rfl (by decide +kernel) ⟨Nat.le_of_ble_eq_true rfl, Nat.le_of_ble_eq_true rfl⟩ rfl hl.1 hm rfl hR1.1 rfl (Nat.le_of_ble_eq_true rfl) dM_files_23 ⟨Nat.le_of_ble_eq_true rfl, Nat.le_of_ble_eq_true rfl⟩) hm (fun r1 u1 H locs hp1 hm => ?_)
        obtain ⟨hr1, hu1⟩ := hp1
        rw [hu1] at hm
        refine lv_if_lt (tgt := 33) hx hb dM_files_26 (by decide) (fun c_26 => ?_) (fun c_26 => ?_)
        · rw [hr1, ver_neg hM (fun i hi b hb => hR.bs hi hb) hd_lt] at c_26
          refine lv_iconst (v := 0) hx hb dM_files_33 (by decide) ?_
          refine lv_iadd hx hb dM_files_34 ?_
          refine lv_istore_n (lv' := [(3, .int ((x9) + (0))), (4, .int (nI i)), (0, .ref (r)), (1, .int (x)), (2, .int (t))]) hx hb dM_files_35 rfl hl (by decide) rfl (fun ls hl => ?_)
          refine lv_iinc (v := nI i + 1) (lv' := [(4, .int (nI i + 1)), (3, .int ((x9) + (0))), (0, .ref (r)), (1, .int (x)), (2, .int (t))]) hx hb dM_files_36 hl (k := 1) rfl rfl (by decide) rfl (fun ls hl => ?_)
          refine lv_goto (tgt := 10) hx hb dM_files_39 (by decide) ?_
          rw [nI_1] at hl
          rw [Int32.add_zero] at hl
          exact ih (i + 1) (by omega) x9 (cntU_f hx0 (by simp [c_14, c_26])) H locs ls hm (lv_sub hl [0, 1, 2, 3, 4] rfl)
        · rw [hr1, ver_neg hM (fun i hi b hb => hR.bs hi hb) hd_lt] at c_26
          refine lv_iconst (v := 1) hx hb dM_files_29 (by decide) ?_
          refine lv_goto (tgt := 34) hx hb dM_files_30 (by decide) ?_
          refine lv_iadd hx hb dM_files_34 ?_
          refine lv_istore_n (lv' := [(3, .int ((x9) + (1))), (4, .int (nI i)), (0, .ref (r)), (1, .int (x)), (2, .int (t))]) hx hb dM_files_35 rfl hl (by decide) rfl (fun ls hl => ?_)
          refine lv_iinc (v := nI i + 1) (lv' := [(4, .int (nI i + 1)), (3, .int ((x9) + (1))), (0, .ref (r)), (1, .int (x)), (2, .int (t))]) hx hb dM_files_36 hl (k := 1) rfl rfl (by decide) rfl (fun ls hl => ?_)
          refine lv_goto (tgt := 10) hx hb dM_files_39 (by decide) ?_
          rw [nI_1] at hl
          exact ih (i + 1) (by omega) (x9 + 1) (cntU_t hx0 (by simp [c_14, c_26])) H locs ls hm (lv_sub hl [0, 1, 2, 3, 4] rfl)
  exact loop 50 0 (by omega) 0 rfl _ _ ls hm (by rw [nI_0]; exact lv_sub hl [0, 1, 2, 3, 4] rfl)
set_option maxHeartbeats 4000000 in
set_option maxRecDepth 100000 in
theorem kM_count (l : Launch) (B : Nat) (D : va_G) (cI cZ cL : ClassId) (w : Wd) (r : Nat) (as : Nat → Nat) (g : Nat → Nat → Int32) (thr now : Int32) (n : Nat) (J : Nat → Jr) (hR : rR cI cZ r as g thr now n J w) (x : Int32) : Met l yM_count (.code yM_count cM_count 5 (some .int) :: BIG) { frames := 0, cells := 0, slots := 0, locals := 0 } (va_Pc [.ref (r), .int (x)] (mP B D CLS (TYS cI cZ cL) NEST w)) (va_Qi (fun z u => z = cntw now n J x ∧ rR cI cZ r as g 0 now n J u ∧ rK r as w u) (mE B D CLS) (fun q => B ≤ q)) 0 0 (fun q => B ≤ q) := by
  refine mMet (by decide) rfl (Nat.le_of_ble_eq_true rfl) ?_
  intro p e s m below meth c ls hx hb hml hr hlk hnm hown hts hK hN hm hl
  have hE : ME "ChainPickerModel" (.code yM_count cM_count 5 (some .int)) _ s m D (TYS cI cZ cL) := ⟨hown, hts, hK, hN⟩
  have hl : lv_has ls 5 [(0, .ref (r)), (1, .int (x))] := hl
  have hn200 := hR.n200
  refine lv_aload_n hx hb dM_count_0 rfl (lv_at hl 0 rfl) ?_
  refine lv_iconst (v := 0) hx hb dM_count_1 (by decide) ?_
  refine p_M_M_38 (x := 0) hx hb hE hm hR.1 (by simp) dM_count_2 (fun H locs hm => ?_)
  obtain ⟨w1, hhw1⟩ : ∃ z : Wd, z = wset w (r) (.inr (2, [.int (0), .int (now), .int (nI n), .ref (as 0), .ref (as 1), .ref (as 2), .ref (as 3), .ref (as 4), .ref (as 5), .ref (as 6), .ref (as 7), .ref (as 8)])) := ⟨_, rfl⟩
  have hm : mS B D CLS s.heap w1 H locs := by rw [hhw1]; exact hm
  have hw1 : w1 = wset (w) (r) (.inr (2, [.int (0), .int (now), .int (nI n), .ref (as 0), .ref (as 1), .ref (as 2), .ref (as 3), .ref (as 4), .ref (as 5), .ref (as 6), .ref (as 7), .ref (as 8)])) := by rw [hhw1]
  have fw1 : w1 (r) = some (.inr (2, [.int (0), .int (now), .int (nI n), .ref (as 0), .ref (as 1), .ref (as 2), .ref (as 3), .ref (as 4), .ref (as 5), .ref (as 6), .ref (as 7), .ref (as 8)])) := by rw [hhw1]; exact wset_at _ _ _
  have fw1_1 := (show w1 (as 0) = w (as 0) by rw [hhw1]; exact wset_ne (hR.ne (by decide : 0 < 9))).trans hR.a0
  have fw1_2 := (show w1 (as 1) = w (as 1) by rw [hhw1]; exact wset_ne (hR.ne (by decide : 1 < 9))).trans hR.a1
  have fw1_3 := (show w1 (as 2) = w (as 2) by rw [hhw1]; exact wset_ne (hR.ne (by decide : 2 < 9))).trans hR.a2
  have fw1_4 := (show w1 (as 3) = w (as 3) by rw [hhw1]; exact wset_ne (hR.ne (by decide : 3 < 9))).trans hR.a3
  have fw1_5 := (show w1 (as 4) = w (as 4) by rw [hhw1]; exact wset_ne (hR.ne (by decide : 4 < 9))).trans hR.a4
  have fw1_6 := (show w1 (as 5) = w (as 5) by rw [hhw1]; exact wset_ne (hR.ne (by decide : 5 < 9))).trans hR.a5
  have fw1_7 := (show w1 (as 6) = w (as 6) by rw [hhw1]; exact wset_ne (hR.ne (by decide : 6 < 9))).trans hR.a6
  have fw1_8 := (show w1 (as 7) = w (as 7) by rw [hhw1]; exact wset_ne (hR.ne (by decide : 7 < 9))).trans hR.a7
  have fw1_9 := (show w1 (as 8) = w (as 8) by rw [hhw1]; exact wset_ne (hR.ne (by decide : 8 < 9))).trans hR.a8
  have hR1 : rR cI cZ r as g 0 now n J w1 := by rw [hw1]; exact hR.set _ _
  have hK1 : rK r as w w1 := by rw [hw1]; exact rK.rf.set rF_r
  refine lv_iconst (v := 0) hx hb dM_count_5 (by decide) ?_
  refine lv_istore_n (lv' := [(2, .int (0)), (0, .ref (r)), (1, .int (x))]) hx hb dM_count_6 rfl hl (by decide) rfl (fun ls hl => ?_)
  refine lv_iconst (v := 0) hx hb dM_count_7 (by decide) ?_
  refine lv_istore_n (lv' := [(3, .int (0)), (2, .int (0)), (0, .ref (r)), (1, .int (x))]) hx hb dM_count_8 rfl hl (by decide) rfl (fun ls hl => ?_)
  refine lv_iconst (v := 0) hx hb dM_count_9 (by decide) ?_
  refine lv_istore (lv' := [(4, .int (0)), (3, .int (0)), (2, .int (0)), (0, .ref (r)), (1, .int (x))]) hx hb dM_count_10 hl (by decide) rfl (fun ls hl => ?_)
  have loop : ∀ (d i : Nat), i + d = n → ∀ (x2 x3 : Int32), x2 = nI (cnt (fun j => decide (jSt (J j) = 0)) i) → x3 = nI (cnt (fun j => jPr (J j)) i) → ∀ (H : Heap) (locs : List Loc) (ls : Array Slot), mS B D CLS s.heap w1 H locs → lv_has ls 5 [(4, .int (nI i)), (3, .int (x3)), (2, .int (x2)), (0, .ref (r)), (1, .int (x))] → W p l e ({ frames := 0, cells := 0, slots := 0, locals := 0 }) s m [.ref (r), .int (x)].toArray below meth c H locs 0 0 (MQ below (va_Qi (fun z u => z = cntw now n J x ∧ rR cI cZ r as g 0 now n J u ∧ rK r as w u) (mE B D CLS) (fun q => B ≤ q)) [.ref (r), .int (x)].toArray s 0 0 (fun q => B ≤ q)) (F0 m 12 ls []) := by
    intro d
    induction d with
    | zero =>
      intro i hi x2 x3 h2 h3 H locs ls hm hl
      refine lv_iload hx hb dM_count_12 (lv_at hl 0 rfl) ?_
      refine lv_aload_n hx hb dM_count_14 rfl (lv_at hl 3 rfl) ?_
      refine g_M_M_46 (v := .int (nI n)) hx hb hE hm hR1.1 rfl dM_count_15 ?_
      refine lv_icmp_ge (tgt := 63) hx hb dM_count_18 (by decide) (fun c_18 => ?_) (fun c_18 => ?_)
      · rw [← Int32.not_lt] at c_18
        refine lv_iload_n hx hb dM_count_63 rfl (lv_at hl 4 rfl) ?_
        refine lv_if_ne (tgt := 74) hx hb dM_count_64 (by decide) (fun c_64 => ?_) (fun c_64 => ?_)
        · refine lv_iload_n hx hb dM_count_74 rfl (lv_at hl 4 rfl) ?_
          refine lv_iconst (v := 1) hx hb dM_count_75 (by decide) ?_
          refine lv_icmp_ne (tgt := 86) hx hb dM_count_76 (by decide) (fun c_76 => ?_) (fun c_76 => ?_)
          · refine lv_iload_n hx hb dM_count_86 rfl (lv_at hl 4 rfl) ?_
            refine lv_iconst (v := 2) hx hb dM_count_87 (by decide) ?_
            refine lv_icmp_ne (tgt := 95) hx hb dM_count_88 (by decide) (fun c_88 => ?_) (fun c_88 => ?_)
            · refine lv_iload_n hx hb dM_count_95 rfl (lv_at hl 4 rfl) ?_
              refine lv_iconst (v := 3) hx hb dM_count_96 (by decide) ?_
              refine lv_icmp_ne (tgt := 104) hx hb dM_count_97 (by decide) (fun c_97 => ?_) (fun c_97 => ?_)
              · refine lv_iconst (v := (-1)) hx hb dM_count_104 (by decide) ?_
                exact mreti hx hb hr hlk hm ⟨by rw [show i = n by omega] at h2 h3; simp [cntw, h2, h3, c_64, c_76, c_88, c_97], hR1, hK1⟩ dM_count_105
              · refine lv_iload_n hx hb dM_count_100 rfl (lv_at hl 1 rfl) ?_
                refine lv_goto (tgt := 105) hx hb dM_count_101 (by decide) ?_
                exact mreti hx hb hr hlk hm ⟨by rw [show i = n by omega] at h2 h3; simp [cntw, h2, h3, c_64, c_76, c_88, c_97], hR1, hK1⟩ dM_count_105
            · refine lv_iload_n hx hb dM_count_91 rfl (lv_at hl 2 rfl) ?_
              refine lv_goto (tgt := 105) hx hb dM_count_92 (by decide) ?_
              exact mreti hx hb hr hlk hm ⟨by rw [show i = n by omega] at h2 h3; simp [cntw, h2, h3, c_64, c_76, c_88], hR1, hK1⟩ dM_count_105
          · refine lv_aload_n hx hb dM_count_79 rfl (lv_at hl 3 rfl) ?_
            refine g_M_M_46 (v := .int (nI n)) hx hb hE hm hR1.1 rfl dM_count_80 ?_
            refine lv_goto (tgt := 105) hx hb dM_count_83 (by decide) ?_
            exact mreti hx hb hr hlk hm ⟨by rw [show i = n by omega] at h2 h3; simp [cntw, h2, h3, c_64, c_76], hR1, hK1⟩ dM_count_105
        · refine lv_aload_n hx hb dM_count_67 rfl (lv_at hl 3 rfl) ?_
          refine g_M_M_43 (v := .int (now)) hx hb hE hm hR1.1 rfl dM_count_68 ?_
          refine lv_goto (tgt := 105) hx hb dM_count_71 (by decide) ?_
          exact mreti hx hb hr hlk hm ⟨by rw [show i = n by omega] at h2 h3; simp [cntw, h2, h3, c_64], hR1, hK1⟩ dM_count_105
      · exact absurd (nI_le (a := n) (b := i) (by omega) (by omega)) c_18
    | succ d ih =>
      intro i hi x2 x3 h2 h3 H locs ls hm hl
      have hiN : i < n := by omega
      refine lv_iload hx hb dM_count_12 (lv_at hl 0 rfl) ?_
      refine lv_aload_n hx hb dM_count_14 rfl (lv_at hl 3 rfl) ?_
      refine g_M_M_46 (v := .int (nI n)) hx hb hE hm hR1.1 rfl dM_count_15 ?_
      refine lv_icmp_ge (tgt := 63) hx hb dM_count_18 (by decide) (fun c_18 => ?_) (fun c_18 => ?_)
      · exact absurd c_18 (nI_ge (a := i) (b := n) (by omega) (by omega))
      · rw [Int32.not_le] at c_18
        refine lv_iload_n hx hb dM_count_21 rfl (lv_at hl 2 rfl) ?_
        refine lv_aload_n hx hb dM_count_22 rfl (lv_at hl 3 rfl) ?_
        refine g_M_M_29 (v := .ref (as 6)) hx hb hE hm hR1.1 rfl dM_count_23 ?_
        refine lv_iload hx hb dM_count_26 (lv_at hl 0 rfl) ?_
        refine ialdE (i) hx hb hE.2.2.1 hm 0 hR1.a6 rfl rfl (by have := hR.n200; have := hiN; omega) (by decide) dM_count_28 ?_
        rw [hR1.g6 hiN]
        refine lv_if_ne (tgt := 36) hx hb dM_count_29 (by decide) (fun c_29 => ?_) (fun c_29 => ?_)
        · refine lv_iconst (v := 0) hx hb dM_count_36 (by decide) ?_
          refine lv_iadd hx hb dM_count_37 ?_
          refine lv_istore_n (lv' := [(2, .int ((x2) + (0))), (4, .int (nI i)), (3, .int (x3)), (0, .ref (r)), (1, .int (x))]) hx hb dM_count_38 rfl hl (by decide) rfl (fun ls hl => ?_)
          refine lv_iload_n hx hb dM_count_39 rfl (lv_at hl 2 rfl) ?_
          refine lv_aload_n hx hb dM_count_40 rfl (lv_at hl 3 rfl) ?_
          refine g_M_M_32 (v := .ref (as 7)) hx hb hE hm hR1.1 rfl dM_count_41 ?_
          refine lv_iload hx hb dM_count_44 (lv_at hl 1 rfl) ?_
          refine baldE (i) hx hb hE.2.2.1 hm 1 hR1.a7 rfl rfl (by have := hR.n200; have := hiN; omega) (by decide) dM_count_46 ?_
          rw [hR1.g7 hiN]
          refine lv_if_eq (tgt := 54) hx hb dM_count_47 (by decide) (fun c_47 => ?_) (fun c_47 => ?_)
          · rw [bI_0] at c_47
            refine lv_iconst (v := 0) hx hb dM_count_54 (by decide) ?_
            refine lv_iadd hx hb dM_count_55 ?_
            refine lv_istore_n (lv' := [(3, .int ((x3) + (0))), (2, .int ((x2) + (0))), (4, .int (nI i)), (0, .ref (r)), (1, .int (x))]) hx hb dM_count_56 rfl hl (by decide) rfl (fun ls hl => ?_)
            refine lv_iinc (v := nI i + 1) (lv' := [(4, .int (nI i + 1)), (3, .int ((x3) + (0))), (2, .int ((x2) + (0))), (0, .ref (r)), (1, .int (x))]) hx hb dM_count_57 hl (k := 2) rfl rfl (by decide) rfl (fun ls hl => ?_)
            refine lv_goto (tgt := 12) hx hb dM_count_60 (by decide) ?_
            rw [nI_1] at hl
            simp only [Int32.add_zero] at hl
            exact ih (i + 1) (by omega) (x2) (x3) (cntU_f h2 (by simp [c_18, c_29, c_47])) (cntU_f h3 (by simp [c_18, c_29, c_47])) H locs ls hm (lv_sub hl [0, 1, 2, 3, 4] rfl)
          · rw [bI_0] at c_47
            refine lv_iconst (v := 1) hx hb dM_count_50 (by decide) ?_
            refine lv_goto (tgt := 55) hx hb dM_count_51 (by decide) ?_
            refine lv_iadd hx hb dM_count_55 ?_
            refine lv_istore_n (lv' := [(3, .int ((x3) + (1))), (2, .int ((x2) + (0))), (4, .int (nI i)), (0, .ref (r)), (1, .int (x))]) hx hb dM_count_56 rfl hl (by decide) rfl (fun ls hl => ?_)
            refine lv_iinc (v := nI i + 1) (lv' := [(4, .int (nI i + 1)), (3, .int ((x3) + (1))), (2, .int ((x2) + (0))), (0, .ref (r)), (1, .int (x))]) hx hb dM_count_57 hl (k := 2) rfl rfl (by decide) rfl (fun ls hl => ?_)
            refine lv_goto (tgt := 12) hx hb dM_count_60 (by decide) ?_
            rw [nI_1] at hl
            simp only [Int32.add_zero] at hl
            exact ih (i + 1) (by omega) (x2) (x3 + 1) (cntU_f h2 (by simp [c_18, c_29, c_47])) (cntU_t h3 (by simp [c_18, c_29, c_47])) H locs ls hm (lv_sub hl [0, 1, 2, 3, 4] rfl)
        · refine lv_iconst (v := 1) hx hb dM_count_32 (by decide) ?_
          refine lv_goto (tgt := 37) hx hb dM_count_33 (by decide) ?_
          refine lv_iadd hx hb dM_count_37 ?_
          refine lv_istore_n (lv' := [(2, .int ((x2) + (1))), (4, .int (nI i)), (3, .int (x3)), (0, .ref (r)), (1, .int (x))]) hx hb dM_count_38 rfl hl (by decide) rfl (fun ls hl => ?_)
          refine lv_iload_n hx hb dM_count_39 rfl (lv_at hl 2 rfl) ?_
          refine lv_aload_n hx hb dM_count_40 rfl (lv_at hl 3 rfl) ?_
          refine g_M_M_32 (v := .ref (as 7)) hx hb hE hm hR1.1 rfl dM_count_41 ?_
          refine lv_iload hx hb dM_count_44 (lv_at hl 1 rfl) ?_
          refine baldE (i) hx hb hE.2.2.1 hm 1 hR1.a7 rfl rfl (by have := hR.n200; have := hiN; omega) (by decide) dM_count_46 ?_
          rw [hR1.g7 hiN]
          refine lv_if_eq (tgt := 54) hx hb dM_count_47 (by decide) (fun c_47 => ?_) (fun c_47 => ?_)
          · rw [bI_0] at c_47
            refine lv_iconst (v := 0) hx hb dM_count_54 (by decide) ?_
            refine lv_iadd hx hb dM_count_55 ?_
            refine lv_istore_n (lv' := [(3, .int ((x3) + (0))), (2, .int ((x2) + (1))), (4, .int (nI i)), (0, .ref (r)), (1, .int (x))]) hx hb dM_count_56 rfl hl (by decide) rfl (fun ls hl => ?_)
            refine lv_iinc (v := nI i + 1) (lv' := [(4, .int (nI i + 1)), (3, .int ((x3) + (0))), (2, .int ((x2) + (1))), (0, .ref (r)), (1, .int (x))]) hx hb dM_count_57 hl (k := 2) rfl rfl (by decide) rfl (fun ls hl => ?_)
            refine lv_goto (tgt := 12) hx hb dM_count_60 (by decide) ?_
            rw [nI_1] at hl
            simp only [Int32.add_zero] at hl
            exact ih (i + 1) (by omega) (x2 + 1) (x3) (cntU_t h2 (by simp [c_18, c_29, c_47])) (cntU_f h3 (by simp [c_18, c_29, c_47])) H locs ls hm (lv_sub hl [0, 1, 2, 3, 4] rfl)
          · rw [bI_0] at c_47
            refine lv_iconst (v := 1) hx hb dM_count_50 (by decide) ?_
            refine lv_goto (tgt := 55) hx hb dM_count_51 (by decide) ?_
            refine lv_iadd hx hb dM_count_55 ?_
            refine lv_istore_n (lv' := [(3, .int ((x3) + (1))), (2, .int ((x2) + (1))), (4, .int (nI i)), (0, .ref (r)), (1, .int (x))]) hx hb dM_count_56 rfl hl (by decide) rfl (fun ls hl => ?_)
            refine lv_iinc (v := nI i + 1) (lv' := [(4, .int (nI i + 1)), (3, .int ((x3) + (1))), (2, .int ((x2) + (1))), (0, .ref (r)), (1, .int (x))]) hx hb dM_count_57 hl (k := 2) rfl rfl (by decide) rfl (fun ls hl => ?_)
            refine lv_goto (tgt := 12) hx hb dM_count_60 (by decide) ?_
            rw [nI_1] at hl
            exact ih (i + 1) (by omega) (x2 + 1) (x3 + 1) (cntU_t h2 (by simp [c_18, c_29, c_47])) (cntU_t h3 (by simp [c_18, c_29, c_47])) H locs ls hm (lv_sub hl [0, 1, 2, 3, 4] rfl)
  exact loop n 0 (by omega) 0 0 rfl rfl _ _ ls hm (by rw [nI_0]; exact lv_sub hl [0, 1, 2, 3, 4] rfl)
set_option maxHeartbeats 4000000 in
set_option maxRecDepth 100000 in
theorem kM_job (l : Launch) (B : Nat) (D : va_G) (cI cZ cL : ClassId) (w : Wd) (r : Nat) (as : Nat → Nat) (g : Nat → Nat → Int32) (thr now : Int32) (n : Nat) (J : Nat → Jr) (hR : rR cI cZ r as g thr now n J w) (x y : Int32) : Met l yM_job (.code yM_job cM_job 5 (some .int) :: BIG) { frames := 1, cells := 0, slots := 0, locals := 23 } (va_Pc [.ref (r), .int (x), .int (y)] (mP B D CLS (TYS cI cZ cL) NEST w)) (va_Qi (fun z u => z = jobw n J x y ∧ rR cI cZ r as g 0 now n J u ∧ rK r as w u) (mE B D CLS) (fun q => B ≤ q)) 0 0 (fun q => B ≤ q) := by
  refine mMet (by decide) rfl (Nat.le_of_ble_eq_true rfl) ?_
  intro p e s m below meth c ls hx hb hml hr hlk hnm hown hts hK hN hm hl
  have hE : ME "ChainPickerModel" (.code yM_job cM_job 5 (some .int)) _ s m D (TYS cI cZ cL) := ⟨hown, hts, hK, hN⟩
  have hl : lv_has ls 5 [(0, .ref (r)), (1, .int (x)), (2, .int (y))] := hl
  have hn200 := hR.n200
  refine lv_aload_n hx hb dM_job_0 rfl (lv_at hl 0 rfl) ?_
  refine lv_iconst (v := 0) hx hb dM_job_1 (by decide) ?_
  refine p_M_M_38 (x := 0) hx hb hE hm hR.1 (by simp) dM_job_2 (fun H locs hm => ?_)
  obtain ⟨w1, hhw1⟩ : ∃ z : Wd, z = wset w (r) (.inr (2, [.int (0), .int (now), .int (nI n), .ref (as 0), .ref (as 1), .ref (as 2), .ref (as 3), .ref (as 4), .ref (as 5), .ref (as 6), .ref (as 7), .ref (as 8)])) := ⟨_, rfl⟩
  have hm : mS B D CLS s.heap w1 H locs := by rw [hhw1]; exact hm
  have hw1 : w1 = wset (w) (r) (.inr (2, [.int (0), .int (now), .int (nI n), .ref (as 0), .ref (as 1), .ref (as 2), .ref (as 3), .ref (as 4), .ref (as 5), .ref (as 6), .ref (as 7), .ref (as 8)])) := by rw [hhw1]
  have fw1 : w1 (r) = some (.inr (2, [.int (0), .int (now), .int (nI n), .ref (as 0), .ref (as 1), .ref (as 2), .ref (as 3), .ref (as 4), .ref (as 5), .ref (as 6), .ref (as 7), .ref (as 8)])) := by rw [hhw1]; exact wset_at _ _ _
  have fw1_1 := (show w1 (as 0) = w (as 0) by rw [hhw1]; exact wset_ne (hR.ne (by decide : 0 < 9))).trans hR.a0
  have fw1_2 := (show w1 (as 1) = w (as 1) by rw [hhw1]; exact wset_ne (hR.ne (by decide : 1 < 9))).trans hR.a1
  have fw1_3 := (show w1 (as 2) = w (as 2) by rw [hhw1]; exact wset_ne (hR.ne (by decide : 2 < 9))).trans hR.a2
  have fw1_4 := (show w1 (as 3) = w (as 3) by rw [hhw1]; exact wset_ne (hR.ne (by decide : 3 < 9))).trans hR.a3
  have fw1_5 := (show w1 (as 4) = w (as 4) by rw [hhw1]; exact wset_ne (hR.ne (by decide : 4 < 9))).trans hR.a4
  have fw1_6 := (show w1 (as 5) = w (as 5) by rw [hhw1]; exact wset_ne (hR.ne (by decide : 5 < 9))).trans hR.a5
  have fw1_7 := (show w1 (as 6) = w (as 6) by rw [hhw1]; exact wset_ne (hR.ne (by decide : 6 < 9))).trans hR.a6
  have fw1_8 := (show w1 (as 7) = w (as 7) by rw [hhw1]; exact wset_ne (hR.ne (by decide : 7 < 9))).trans hR.a7
  have fw1_9 := (show w1 (as 8) = w (as 8) by rw [hhw1]; exact wset_ne (hR.ne (by decide : 8 < 9))).trans hR.a8
  have hR1 : rR cI cZ r as g 0 now n J w1 := by rw [hw1]; exact hR.set _ _
  have hK1 : rK r as w w1 := by rw [hw1]; exact rK.rf.set rF_r
  refine lv_aload_n hx hb dM_job_5 rfl (lv_at hl 0 rfl) ?_
  refine lv_iload_n hx hb dM_job_6 rfl (lv_at hl 1 rfl) ?_
  refine mcalli (mcV (n := 1) (As := [.int (x)]) (rest := []) hx hb hml hE (kM_isJob l B D cI cZ cL w1 r as g 0 now n J hR1 x) q_360 q_362 qs_9 q_2 q_363 rfl rfl (by decide +kernel) ⟨Nat.le_of_ble_eq_true rfl, Nat.le_of_ble_eq_true rfl⟩ rfl hl.1 hm rfl hR1.1 rfl (Nat.le_of_ble_eq_true rfl) dM_job_7 ⟨Nat.le_of_ble_eq_true rfl, Nat.le_of_ble_eq_true rfl⟩) hm (fun r2 u2 H locs hp2 hm => ?_)
  obtain ⟨hr2, hu2⟩ := hp2
  rw [hu2] at hm
  cases ht : fJ n x with
  | none =>
    rw [ht] at hr2
    have hr2 : r2 = 0 := hr2
    subst hr2
    refine lv_if_ne (tgt := 15) hx hb dM_job_10 (by decide) (fun c_10 => ?_) (fun c_10 => ?_)
    · first | exact absurd c_10 (by decide) | exact absurd (by decide) c_10
    · refine lv_iconst (v := (-1)) hx hb dM_job_13 (by decide) ?_
      exact mreti hx hb hr hlk hm ⟨by simp [jobw, ht, bI], hR1, hK1⟩ dM_job_14
  | some j =>
    rw [ht] at hr2
    have hr2 : r2 = 1 := hr2
    subst hr2
    obtain ⟨hjn, hxj⟩ := fJ_lt ht
    subst hxj
    refine lv_if_ne (tgt := 15) hx hb dM_job_10 (by decide) (fun c_10 => ?_) (fun c_10 => ?_)
    · refine lv_iload_n hx hb dM_job_15 rfl (lv_at hl 2 rfl) ?_
      by_cases e_0 : y = 0
      · subst e_0
        refine lv_tableIn (off := 60) (tgt := 76) hx hb dM_job_16 (by decide) (by decide) (by decide) (by decide) ?_
        refine lv_aload_n hx hb dM_job_76 rfl (lv_at hl 0 rfl) ?_
        refine g_M_M_7 (v := .ref (as 0)) hx hb hE hm hR1.1 rfl dM_job_77 ?_
        refine lv_iload_n hx hb dM_job_80 rfl (lv_at hl 1 rfl) ?_
        refine ialdE (j) hx hb hE.2.2.1 hm 0 hR1.a0 rfl rfl (by have := hR.n200; have := hjn; omega) (by decide) dM_job_81 ?_
        rw [hR1.g0 hjn]
        exact mreti hx hb hr hlk hm ⟨by simp [jobw, ht, bI], hR1, hK1⟩ dM_job_82
      by_cases e_1 : y = 1
      · subst e_1
        refine lv_tableIn (off := 67) (tgt := 83) hx hb dM_job_16 (by decide) (by decide) (by decide) (by decide) ?_
        refine lv_aload_n hx hb dM_job_83 rfl (lv_at hl 0 rfl) ?_
        refine g_M_M_13 (v := .ref (as 1)) hx hb hE hm hR1.1 rfl dM_job_84 ?_
        refine lv_iload_n hx hb dM_job_87 rfl (lv_at hl 1 rfl) ?_
        refine ialdE (j) hx hb hE.2.2.1 hm 0 hR1.a1 rfl rfl (by have := hR.n200; have := hjn; omega) (by decide) dM_job_88 ?_
        rw [hR1.g1 hjn]
        exact mreti hx hb hr hlk hm ⟨by simp [jobw, ht, bI], hR1, hK1⟩ dM_job_89
      by_cases e_2 : y = 2
      · subst e_2
        refine lv_tableIn (off := 74) (tgt := 90) hx hb dM_job_16 (by decide) (by decide) (by decide) (by decide) ?_
        refine lv_aload_n hx hb dM_job_90 rfl (lv_at hl 0 rfl) ?_
        refine g_M_M_16 (v := .ref (as 2)) hx hb hE hm hR1.1 rfl dM_job_91 ?_
        refine lv_iload_n hx hb dM_job_94 rfl (lv_at hl 1 rfl) ?_
        refine baldE (j) hx hb hE.2.2.1 hm 1 hR1.a2 rfl rfl (by have := hR.n200; have := hjn; omega) (by decide) dM_job_95 ?_
        rw [hR1.g2 hjn]
        refine lv_if_eq (tgt := 103) hx hb dM_job_96 (by decide) (fun c_96 => ?_) (fun c_96 => ?_)
        · rw [bI_0] at c_96
          refine lv_iconst (v := 0) hx hb dM_job_103 (by decide) ?_
          exact mreti hx hb hr hlk hm ⟨by simp [jobw, ht, bI, c_96], hR1, hK1⟩ dM_job_104
        · rw [bI_0] at c_96
          refine lv_iconst (v := 1) hx hb dM_job_99 (by decide) ?_
          refine lv_goto (tgt := 104) hx hb dM_job_100 (by decide) ?_
          exact mreti hx hb hr hlk hm ⟨by simp [jobw, ht, bI, c_96], hR1, hK1⟩ dM_job_104
      by_cases e_3 : y = 3
      · subst e_3
        refine lv_tableIn (off := 89) (tgt := 105) hx hb dM_job_16 (by decide) (by decide) (by decide) (by decide) ?_
        refine lv_aload_n hx hb dM_job_105 rfl (lv_at hl 0 rfl) ?_
        refine g_M_M_20 (v := .ref (as 3)) hx hb hE hm hR1.1 rfl dM_job_106 ?_
        refine lv_iload_n hx hb dM_job_109 rfl (lv_at hl 1 rfl) ?_
        refine ialdE (j) hx hb hE.2.2.1 hm 0 hR1.a3 rfl rfl (by have := hR.n200; have := hjn; omega) (by decide) dM_job_110 ?_
        rw [hR1.g3 hjn]
        exact mreti hx hb hr hlk hm ⟨by simp [jobw, ht, bI], hR1, hK1⟩ dM_job_111
      by_cases e_4 : y = 4
      · subst e_4
        refine lv_tableIn (off := 96) (tgt := 112) hx hb dM_job_16 (by decide) (by decide) (by decide) (by decide) ?_
        refine lv_aload_n hx hb dM_job_112 rfl (lv_at hl 0 rfl) ?_
        refine g_M_M_23 (v := .ref (as 4)) hx hb hE hm hR1.1 rfl dM_job_113 ?_
        refine lv_iload_n hx hb dM_job_116 rfl (lv_at hl 1 rfl) ?_
        refine ialdE (j) hx hb hE.2.2.1 hm 0 hR1.a4 rfl rfl (by have := hR.n200; have := hjn; omega) (by decide) dM_job_117 ?_
        rw [hR1.g4 hjn]
        exact mreti hx hb hr hlk hm ⟨by simp [jobw, ht, bI], hR1, hK1⟩ dM_job_118
      by_cases e_5 : y = 5
      · subst e_5
        refine lv_tableIn (off := 103) (tgt := 119) hx hb dM_job_16 (by decide) (by decide) (by decide) (by decide) ?_
        refine lv_aload_n hx hb dM_job_119 rfl (lv_at hl 0 rfl) ?_
        refine g_M_M_26 (v := .ref (as 5)) hx hb hE hm hR1.1 rfl dM_job_120 ?_
        refine lv_iload_n hx hb dM_job_123 rfl (lv_at hl 1 rfl) ?_
        refine ialdE (j) hx hb hE.2.2.1 hm 0 hR1.a5 rfl rfl (by have := hR.n200; have := hjn; omega) (by decide) dM_job_124 ?_
        rw [hR1.g5 hjn]
        exact mreti hx hb hr hlk hm ⟨by simp [jobw, ht, bI], hR1, hK1⟩ dM_job_125
      by_cases e_6 : y = 6
      · subst e_6
        refine lv_tableIn (off := 110) (tgt := 126) hx hb dM_job_16 (by decide) (by decide) (by decide) (by decide) ?_
        refine lv_aload_n hx hb dM_job_126 rfl (lv_at hl 0 rfl) ?_
        refine g_M_M_29 (v := .ref (as 6)) hx hb hE hm hR1.1 rfl dM_job_127 ?_
        refine lv_iload_n hx hb dM_job_130 rfl (lv_at hl 1 rfl) ?_
        refine ialdE (j) hx hb hE.2.2.1 hm 0 hR1.a6 rfl rfl (by have := hR.n200; have := hjn; omega) (by decide) dM_job_131 ?_
        rw [hR1.g6 hjn]
        exact mreti hx hb hr hlk hm ⟨by simp [jobw, ht, bI], hR1, hK1⟩ dM_job_132
      by_cases e_7 : y = 7
      · subst e_7
        refine lv_tableIn (off := 117) (tgt := 133) hx hb dM_job_16 (by decide) (by decide) (by decide) (by decide) ?_
        refine lv_aload_n hx hb dM_job_133 rfl (lv_at hl 0 rfl) ?_
        refine g_M_M_32 (v := .ref (as 7)) hx hb hE hm hR1.1 rfl dM_job_134 ?_
        refine lv_iload_n hx hb dM_job_137 rfl (lv_at hl 1 rfl) ?_
        refine baldE (j) hx hb hE.2.2.1 hm 1 hR1.a7 rfl rfl (by have := hR.n200; have := hjn; omega) (by decide) dM_job_138 ?_
        rw [hR1.g7 hjn]
        refine lv_if_eq (tgt := 146) hx hb dM_job_139 (by decide) (fun c_139 => ?_) (fun c_139 => ?_)
        · rw [bI_0] at c_139
          refine lv_iconst (v := 0) hx hb dM_job_146 (by decide) ?_
          exact mreti hx hb hr hlk hm ⟨by simp [jobw, ht, bI, c_139], hR1, hK1⟩ dM_job_147
        · rw [bI_0] at c_139
          refine lv_iconst (v := 1) hx hb dM_job_142 (by decide) ?_
          refine lv_goto (tgt := 147) hx hb dM_job_143 (by decide) ?_
          exact mreti hx hb hr hlk hm ⟨by simp [jobw, ht, bI, c_139], hR1, hK1⟩ dM_job_147
      by_cases e_8 : y = 8
      · subst e_8
        refine lv_tableIn (off := 132) (tgt := 148) hx hb dM_job_16 (by decide) (by decide) (by decide) (by decide) ?_
        refine lv_iconst (v := 0) hx hb dM_job_148 (by decide) ?_
        refine lv_istore_n (lv' := [(3, .int (0)), (0, .ref (r)), (1, .int (nI j)), (2, .int (8))]) hx hb dM_job_149 rfl hl (by decide) rfl (fun ls hl => ?_)
        refine lv_iconst (v := 0) hx hb dM_job_150 (by decide) ?_
        refine lv_istore (lv' := [(4, .int (0)), (3, .int (0)), (0, .ref (r)), (1, .int (nI j)), (2, .int (8))]) hx hb dM_job_151 hl (by decide) rfl (fun ls hl => ?_)
        have loop : ∀ (d i : Nat), i + d = 50 → ∀ (x9 : Int32), x9 = nI (cnt (fun q => decide (jVr (J j) q ≠ -2)) i) → ∀ (H : Heap) (locs : List Loc) (ls : Array Slot), mS B D CLS s.heap w1 H locs → lv_has ls 5 [(4, .int (nI i)), (3, .int (x9)), (0, .ref (r)), (1, .int (nI j)), (2, .int (8))] → W p l e ({ frames := 1, cells := 0, slots := 0, locals := 23 }) s m [.ref (r), .int (nI j), .int (8)].toArray below meth c H locs 0 0 (MQ below (va_Qi (fun z u => z = jobw n J (nI j) 8 ∧ rR cI cZ r as g 0 now n J u ∧ rK r as w u) (mE B D CLS) (fun q => B ≤ q)) [.ref (r), .int (nI j), .int (8)].toArray s 0 0 (fun q => B ≤ q)) (F0 m 153 ls []) := by
          intro d
          induction d with
          | zero =>
            intro i hi x9 hx0 H locs ls hm hl
            refine lv_iload hx hb dM_job_153 (lv_at hl 0 rfl) ?_
            refine lv_bipush (v := 50) hx hb dM_job_155 (by decide) ?_
            refine lv_icmp_ge (tgt := 191) hx hb dM_job_157 (by decide) (fun c_157 => ?_) (fun c_157 => ?_)
            · rw [← Int32.not_lt] at c_157
              refine lv_iload_n hx hb dM_job_191 rfl (lv_at hl 1 rfl) ?_
              exact mreti hx hb hr hlk hm ⟨by rw [hx0, show i = 50 by omega]; simp [jobw, ht], hR1, hK1⟩ dM_job_192
            · exact absurd (nI_le (a := 50) (b := i) (by omega) (by omega)) c_157
          | succ d ih =>
            intro i hi x9 hx0 H locs ls hm hl
            have hiN : i < 50 := by omega
            refine lv_iload hx hb dM_job_153 (lv_at hl 0 rfl) ?_
            refine lv_bipush (v := 50) hx hb dM_job_155 (by decide) ?_
            refine lv_icmp_ge (tgt := 191) hx hb dM_job_157 (by decide) (fun c_157 => ?_) (fun c_157 => ?_)
            · exact absurd c_157 (nI_ge (a := i) (b := 50) (by omega) (by omega))
            · rw [Int32.not_le] at c_157
              refine lv_iload_n hx hb dM_job_160 rfl (lv_at hl 1 rfl) ?_
              refine lv_aload_n hx hb dM_job_161 rfl (lv_at hl 2 rfl) ?_
              refine g_M_M_35 (v := .ref (as 8)) hx hb hE hm hR1.1 rfl dM_job_162 ?_
              refine lv_bipush (v := 50) hx hb dM_job_165 (by decide) ?_
              refine lv_iload_n hx hb dM_job_167 rfl (lv_at hl 3 rfl) ?_
              refine lv_imul hx hb dM_job_168 ?_
              refine lv_iload hx hb dM_job_169 (lv_at hl 0 rfl) ?_
              refine lv_iadd hx hb dM_job_171 ?_
              refine ialdE (50 * j + i) hx hb hE.2.2.1 hm 0 hR1.a8 rfl (i50 rfl) (by omega) (by decide) dM_job_172 ?_
              rw [hR1.g8 hjn hiN]
              refine lv_bipush (v := (-2)) hx hb dM_job_173 (by decide) ?_
              refine lv_icmp_eq (tgt := 182) hx hb dM_job_175 (by decide) (fun c_175 => ?_) (fun c_175 => ?_)
              · refine lv_iconst (v := 0) hx hb dM_job_182 (by decide) ?_
                refine lv_iadd hx hb dM_job_183 ?_
                refine lv_istore_n (lv' := [(3, .int ((x9) + (0))), (4, .int (nI i)), (0, .ref (r)), (1, .int (nI j)), (2, .int (8))]) hx hb dM_job_184 rfl hl (by decide) rfl (fun ls hl => ?_)
                refine lv_iinc (v := nI i + 1) (lv' := [(4, .int (nI i + 1)), (3, .int ((x9) + (0))), (0, .ref (r)), (1, .int (nI j)), (2, .int (8))]) hx hb dM_job_185 hl (k := 1) rfl rfl (by decide) rfl (fun ls hl => ?_)
                refine lv_goto (tgt := 153) hx hb dM_job_188 (by decide) ?_
                rw [nI_1] at hl
                rw [Int32.add_zero] at hl
                exact ih (i + 1) (by omega) x9 (cntU_f hx0 (by simp [c_157, c_175])) H locs ls hm (lv_sub hl [0, 1, 2, 3, 4] rfl)
              · refine lv_iconst (v := 1) hx hb dM_job_178 (by decide) ?_
                refine lv_goto (tgt := 183) hx hb dM_job_179 (by decide) ?_
                refine lv_iadd hx hb dM_job_183 ?_
                refine lv_istore_n (lv' := [(3, .int ((x9) + (1))), (4, .int (nI i)), (0, .ref (r)), (1, .int (nI j)), (2, .int (8))]) hx hb dM_job_184 rfl hl (by decide) rfl (fun ls hl => ?_)
                refine lv_iinc (v := nI i + 1) (lv' := [(4, .int (nI i + 1)), (3, .int ((x9) + (1))), (0, .ref (r)), (1, .int (nI j)), (2, .int (8))]) hx hb dM_job_185 hl (k := 1) rfl rfl (by decide) rfl (fun ls hl => ?_)
                refine lv_goto (tgt := 153) hx hb dM_job_188 (by decide) ?_
                rw [nI_1] at hl
                exact ih (i + 1) (by omega) (x9 + 1) (cntU_t hx0 (by simp [c_157, c_175])) H locs ls hm (lv_sub hl [0, 1, 2, 3, 4] rfl)
        exact loop 50 0 (by omega) 0 rfl _ _ ls hm (by rw [nI_0]; exact lv_sub hl [0, 1, 2, 3, 4] rfl)
      by_cases e_9 : y = 9
      · subst e_9
        refine lv_tableIn (off := 177) (tgt := 193) hx hb dM_job_16 (by decide) (by decide) (by decide) (by decide) ?_
        cases hb0 : jBs (J j) with
        | none =>
          refine lv_aload_n hx hb dM_job_193 rfl (lv_at hl 0 rfl) ?_
          refine g_M_M_20 (v := .ref (as 3)) hx hb hE hm hR1.1 rfl dM_job_194 ?_
          refine lv_iload_n hx hb dM_job_197 rfl (lv_at hl 1 rfl) ?_
          refine ialdE (j) hx hb hE.2.2.1 hm 0 hR1.a3 rfl rfl (by have := hR.n200; have := hjn; omega) (by decide) dM_job_198 ?_
          rw [hR1.g3 hjn]
          rw [hb0]
          show W _ _ _ _ _ _ _ _ _ _ _ _ _ _ _ (F0 m 199 ls [.int (-1)])
          refine lv_if_ge (tgt := 206) hx hb dM_job_199 (by decide) (fun c_199 => ?_) (fun c_199 => ?_)
          · first | exact absurd c_199 (by decide) | exact absurd (by decide) c_199
          · refine lv_iconst (v := (-1)) hx hb dM_job_202 (by decide) ?_
            refine lv_goto (tgt := 217) hx hb dM_job_203 (by decide) ?_
            exact mreti hx hb hr hlk hm ⟨by simp [jobw, ht, bI, hb0], hR1, hK1⟩ dM_job_217
        | some b =>
          refine lv_aload_n hx hb dM_job_193 rfl (lv_at hl 0 rfl) ?_
          refine g_M_M_20 (v := .ref (as 3)) hx hb hE hm hR1.1 rfl dM_job_194 ?_
          refine lv_iload_n hx hb dM_job_197 rfl (lv_at hl 1 rfl) ?_
          refine ialdE (j) hx hb hE.2.2.1 hm 0 hR1.a3 rfl rfl (by have := hR.n200; have := hjn; omega) (by decide) dM_job_198 ?_
          rw [hR1.g3 hjn]
          rw [hb0]
          show W _ _ _ _ _ _ _ _ _ _ _ _ _ _ _ (F0 m 199 ls [.int (nI b)])
          refine lv_if_ge (tgt := 206) hx hb dM_job_199 (by decide) (fun c_199 => ?_) (fun c_199 => ?_)
          · refine lv_aload_n hx hb dM_job_206 rfl (lv_at hl 0 rfl) ?_
            refine g_M_M_23 (v := .ref (as 4)) hx hb hE hm hR1.1 rfl dM_job_207 ?_
            refine lv_aload_n hx hb dM_job_210 rfl (lv_at hl 0 rfl) ?_
            refine g_M_M_20 (v := .ref (as 3)) hx hb hE hm hR1.1 rfl dM_job_211 ?_
            refine lv_iload_n hx hb dM_job_214 rfl (lv_at hl 1 rfl) ?_
            refine ialdE (j) hx hb hE.2.2.1 hm 0 hR1.a3 rfl rfl (by have := hR.n200; have := hjn; omega) (by decide) dM_job_215 ?_
            rw [hR1.g3 hjn]
            rw [hb0]
            show W _ _ _ _ _ _ _ _ _ _ _ _ _ _ _ (F0 m 216 ls [.int (nI b), .ref (as 4)])
            refine ialdE (b) hx hb hE.2.2.1 hm 0 hR1.a4 rfl rfl (by have := hR.n200; have := (Nat.lt_trans (hR.bs hjn hb0) hjn); omega) (by decide) dM_job_216 ?_
            rw [hR1.g4 (Nat.lt_trans (hR.bs hjn hb0) hjn)]
            exact mreti hx hb hr hlk hm ⟨by simp [jobw, ht, bI, hb0], hR1, hK1⟩ dM_job_217
          · exact absurd (nI_pos' (by have := hR.bs hjn hb0; omega)) c_199
      by_cases e_10 : y = 10
      · subst e_10
        refine lv_tableIn (off := 202) (tgt := 218) hx hb dM_job_16 (by decide) (by decide) (by decide) (by decide) ?_
        refine lv_aload_n hx hb dM_job_218 rfl (lv_at hl 0 rfl) ?_
        refine lv_iload_n hx hb dM_job_219 rfl (lv_at hl 1 rfl) ?_
        refine mcalli (mcV (n := 1) (As := [.int (nI j)]) (rest := []) hx hb hml hE (kM_standing l B D cI cZ cL w1 r as g 0 now n J hR1 j hjn) q_409 q_411 qs_14 q_2 q_412 rfl rfl (by decide +kernel) ⟨Nat.le_of_ble_eq_true rfl, Nat.le_of_ble_eq_true rfl⟩ rfl hl.1 hm rfl hR1.1 rfl (Nat.le_of_ble_eq_true rfl) dM_job_220 ⟨Nat.le_of_ble_eq_true rfl, Nat.le_of_ble_eq_true rfl⟩) hm (fun r3 u3 H locs hp3 hm => ?_)
        obtain ⟨hr3, hu3⟩ := hp3
        rw [hu3] at hm
        exact mreti hx hb hr hlk hm ⟨by rw [hr3]; simp [jobw, ht], hR1, hK1⟩ dM_job_223
      refine lv_tableOut (tgt := 224) hx hb dM_job_16 (by have z_0 := lv_neT (k := 0) (a := 0) e_0 (by decide); have z_1 := lv_neT (k := 1) (a := 1) e_1 (by decide); have z_2 := lv_neT (k := 2) (a := 2) e_2 (by decide); have z_3 := lv_neT (k := 3) (a := 3) e_3 (by decide); have z_4 := lv_neT (k := 4) (a := 4) e_4 (by decide); have z_5 := lv_neT (k := 5) (a := 5) e_5 (by decide); have z_6 := lv_neT (k := 6) (a := 6) e_6 (by decide); have z_7 := lv_neT (k := 7) (a := 7) e_7 (by decide); have z_8 := lv_neT (k := 8) (a := 8) e_8 (by decide); have z_9 := lv_neT (k := 9) (a := 9) e_9 (by decide); have z_10 := lv_neT (k := 10) (a := 10) e_10 (by decide); omega) (by decide) ?_
      refine lv_iconst (v := (-1)) hx hb dM_job_224 (by decide) ?_
      exact mreti hx hb hr hlk hm ⟨by simp [jobw, ht, bI, e_0, e_1, e_2, e_3, e_4, e_5, e_6, e_7, e_8, e_9, e_10], hR1, hK1⟩ dM_job_225
    · first | exact absurd c_10 (by decide) | exact absurd (by decide) c_10
