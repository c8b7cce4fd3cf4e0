set_option maxHeartbeats 4000000 in
set_option maxRecDepth 100000 in
theorem kM_begin (l : Launch) (B : Nat) (D : va_G) (cI cZ cL : ClassId) (w : Wd) (r : Nat) (as : Nat → Nat) (g : Nat → Nat → Int32) (thr now : Int32) (n : Nat) (J : Nat → Jr) (hR : rR cI cZ r as g thr now n J w) (hM : mW now n J) (x v0 : Int32) : Met l yM_begin (.code yM_begin cM_begin 5 (some .int) :: BIG) { frames := 1, cells := 0, slots := 0, locals := 24 } (va_Pc [.ref (r), .int (x), .int (v0)] (mP B D CLS (TYS cI cZ cL) NEST w)) (va_Qi (fun z u => ((bgs n J x v0 = false ∧ z = -1 ∧ rR cI cZ r as g 0 now n J u) ∨ (bgs n J x v0 = true ∧ z = nI n ∧ ∃ g2, rR cI cZ r as g2 0 now (n + 1) (upJ J n (nwJ x v0 (bOf n J x v0) now)) u)) ∧ rK r as w u) (mE B D CLS) (fun q => B ≤ q)) 0 0 (fun q => B ≤ q) := by
  refine mMet (by decide) rfl (Nat.le_of_ble_eq_true rfl) ?_
  intro p e s m below meth c ls hx hb hml hr hlk hnm hown hts hK hN hm hl
  have hE : ME "ChainPickerModel" (.code yM_begin cM_begin 5 (some .int)) _ s m D (TYS cI cZ cL) := ⟨hown, hts, hK, hN⟩
  have hl : lv_has ls 5 [(0, .ref (r)), (1, .int (x)), (2, .int (v0))] := hl
  have hn200 := hR.n200
  refine lv_aload_n hx hb dM_begin_0 rfl (lv_at hl 0 rfl) ?_
  refine lv_iconst (v := 0) hx hb dM_begin_1 (by decide) ?_
  refine p_M_M_38 (x := 0) hx hb hE hm hR.1 (by simp) dM_begin_2 (fun H locs hm => ?_)
  obtain ⟨w1, hhw1⟩ : ∃ z : Wd, z = wset w (r) (.inr (2, [.int (0), .int (now), .int (nI n), .ref (as 0), .ref (as 1), .ref (as 2), .ref (as 3), .ref (as 4), .ref (as 5), .ref (as 6), .ref (as 7), .ref (as 8)])) := ⟨_, rfl⟩
  have hm : mS B D CLS s.heap w1 H locs := by rw [hhw1]; exact hm
  have hw1 : w1 = wset (w) (r) (.inr (2, [.int (0), .int (now), .int (nI n), .ref (as 0), .ref (as 1), .ref (as 2), .ref (as 3), .ref (as 4), .ref (as 5), .ref (as 6), .ref (as 7), .ref (as 8)])) := by rw [hhw1]
  have fw1 : w1 (r) = some (.inr (2, [.int (0), .int (now), .int (nI n), .ref (as 0), .ref (as 1), .ref (as 2), .ref (as 3), .ref (as 4), .ref (as 5), .ref (as 6), .ref (as 7), .ref (as 8)])) := by rw [hhw1]; exact wset_at _ _ _
  have fw1_1 := (show w1 (as 0) = w (as 0) by rw [hhw1]; exact wset_ne (hR.ne (by decide : 0 < 9))).trans hR.a0
  have fw1_2 := (show w1 (as 1) = w (as 1) by rw [hhw1]; exact wset_ne (hR.ne (by decide : 1 < 9))).trans hR.a1
  have fw1_3 := (show w1 (as 2) = w (as 2) by rw [hhw1]; exact wset_ne (hR.ne (by decide : 2 < 9))).trans hR.a2
  have fw1_4 := (show w1 (as 3) = w (as 3) by rw [hhw1]; exact wset_ne (hR.ne (by decide : 3 < 9))).trans hR.a3
  have fw1_5 := (show w1 (as 4) = w (as 4) by rw [hhw1]; exact wset_ne (hR.ne (by decide : 4 < 9))).trans hR.a4
  have fw1_6 := (show w1 (as 5) = w (as 5) by rw [hhw1]; exact wset_ne (hR.ne (by decide : 5 < 9))).trans hR.a5
  have fw1_7 := (show w1 (as 6) = w (as 6) by rw [hhw1]; exact wset_ne (hR.ne (by decide : 6 < 9))).trans hR.a6
  have fw1_8 := (show w1 (as 7) = w (as 7) by rw [hhw1]; exact wset_ne (hR.ne (by decide : 7 < 9))).trans hR.a7
  have fw1_9 := (show w1 (as 8) = w (as 8) by rw [hhw1]; exact wset_ne (hR.ne (by decide : 8 < 9))).trans hR.a8
  have hR1 : rR cI cZ r as g 0 now n J w1 := by rw [hw1]; exact hR.set _ _
  have hK1 : rK r as w w1 := by rw [hw1]; exact rK.rf.set rF_r
  refine lv_iload_n hx hb dM_begin_5 rfl (lv_at hl 1 rfl) ?_
  refine lv_if_lt (tgt := 34) hx hb dM_begin_6 (by decide) (fun c_6 => ?_) (fun c_6 => ?_)
  · refine lv_iconst (v := (-1)) hx hb dM_begin_34 (by decide) ?_
    exact mreti hx hb hr hlk hm ⟨Or.inl ⟨bg_s0 c_6, rfl, hR1⟩, hK1⟩ dM_begin_35
  · refine lv_iload_n hx hb dM_begin_9 rfl (lv_at hl 1 rfl) ?_
    refine lv_bipush (v := 8) hx hb dM_begin_10 (by decide) ?_
    refine lv_icmp_ge (tgt := 34) hx hb dM_begin_12 (by decide) (fun c_12 => ?_) (fun c_12 => ?_)
    · rw [← Int32.not_lt] at c_12
      refine lv_iconst (v := (-1)) hx hb dM_begin_34 (by decide) ?_
      exact mreti hx hb hr hlk hm ⟨Or.inl ⟨bg_s1 c_12, rfl, hR1⟩, hK1⟩ dM_begin_35
    · rw [Int32.not_le] at c_12
      refine lv_iload_n hx hb dM_begin_15 rfl (lv_at hl 2 rfl) ?_
      refine lv_if_lt (tgt := 34) hx hb dM_begin_16 (by decide) (fun c_16 => ?_) (fun c_16 => ?_)
      · refine lv_iconst (v := (-1)) hx hb dM_begin_34 (by decide) ?_
        exact mreti hx hb hr hlk hm ⟨Or.inl ⟨bg_l0 c_16, rfl, hR1⟩, hK1⟩ dM_begin_35
      · refine lv_iload_n hx hb dM_begin_19 rfl (lv_at hl 2 rfl) ?_
        refine lv_iconst (v := 2) hx hb dM_begin_20 (by decide) ?_
        refine lv_icmp_gt (tgt := 34) hx hb dM_begin_21 (by decide) (fun c_21 => ?_) (fun c_21 => ?_)
        · refine lv_iconst (v := (-1)) hx hb dM_begin_34 (by decide) ?_
          exact mreti hx hb hr hlk hm ⟨Or.inl ⟨bg_l1 c_21, rfl, hR1⟩, hK1⟩ dM_begin_35
        · refine lv_aload_n hx hb dM_begin_24 rfl (lv_at hl 0 rfl) ?_
          refine g_M_M_46 (v := .int (nI n)) hx hb hE hm hR1.1 rfl dM_begin_25 ?_
          refine lv_sipush (v := 200) hx hb dM_begin_28 (by decide) ?_
          refine lv_icmp_ne (tgt := 36) hx hb dM_begin_31 (by decide) (fun c_31 => ?_) (fun c_31 => ?_)
          · refine lv_iconst (v := 0) hx hb dM_begin_36 (by decide) ?_
            refine lv_istore_n (lv' := [(3, .int (0)), (0, .ref (r)), (1, .int (x)), (2, .int (v0))]) hx hb dM_begin_37 rfl hl (by decide) rfl (fun ls hl => ?_)
            have loop : ∀ (d i : Nat), i + d = n → (∀ k, k < i → (fun k => decide (jSer (J k) = x) && decide (jSt (J k) = 0)) k = false) → ∀ (H : Heap) (locs : List Loc) (ls : Array Slot), mS B D CLS s.heap w1 H locs → lv_has ls 5 [(3, .int (nI i)), (0, .ref (r)), (1, .int (x)), (2, .int (v0))] → W p l e ({ frames := 1, cells := 0, slots := 0, locals := 24 }) s m [.ref (r), .int (x), .int (v0)].toArray below meth c H locs 0 0 (MQ below (va_Qi (fun z u => ((bgs n J x v0 = false ∧ z = -1 ∧ rR cI cZ r as g 0 now n J u) ∨ (bgs n J x v0 = true ∧ z = nI n ∧ ∃ g2, rR cI cZ r as g2 0 now (n + 1) (upJ J n (nwJ x v0 (bOf n J x v0) now)) u)) ∧ rK r as w u) (mE B D CLS) (fun q => B ≤ q)) [.ref (r), .int (x), .int (v0)].toArray s 0 0 (fun q => B ≤ q)) (F0 m 38 ls []) := by
              intro d
              induction d with
              | zero =>
                intro i hi hx0 H locs ls hm hl
                refine lv_iload_n hx hb dM_begin_38 rfl (lv_at hl 0 rfl) ?_
                refine lv_aload_n hx hb dM_begin_39 rfl (lv_at hl 1 rfl) ?_
                refine g_M_M_46 (v := .int (nI n)) hx hb hE hm hR1.1 rfl dM_begin_40 ?_
                refine lv_icmp_ge (tgt := 73) hx hb dM_begin_43 (by decide) (fun c_43 => ?_) (fun c_43 => ?_)
                · rw [← Int32.not_lt] at c_43
                  have hn1 : n < 200 := by have : ¬ n = 200 := fun e => c_31 ((n_200 hn200).mpr e); omega
                  have hrun : hRun n J x = false := hRun_f (fun k hk => hx0 k (by omega))
                  have hB : bgs n J x v0 = true := bgs_t c_6 c_12 c_16 c_21 hn1 hrun
                  rcases lev3 c_16 c_21 with e9 | e9 | e9
                  · subst e9
                    refine lv_iload_n hx hb dM_begin_73 rfl (lv_at hl 3 rfl) ?_
                    refine lv_if_ne (tgt := 81) hx hb dM_begin_74 (by decide) (fun c_74 => ?_) (fun c_74 => ?_)
                    · first | exact absurd c_74 (by decide) | exact absurd (by decide) c_74
                    · refine lv_iconst (v := (-1)) hx hb dM_begin_77 (by decide) ?_
                      refine lv_goto (tgt := 96) hx hb dM_begin_78 (by decide) ?_
                      refine lv_istore_n (lv' := [(3, .int ((-1))), (0, .ref (r)), (1, .int (x)), (2, .int (0))]) hx hb dM_begin_96 rfl hl (by decide) rfl (fun ls hl => ?_)
                      refine lv_aload_n hx hb dM_begin_97 rfl (lv_at hl 1 rfl) ?_
                      refine g_M_M_7 (v := .ref (as 0)) hx hb hE hm hR1.1 rfl dM_begin_98 ?_
                      refine lv_aload_n hx hb dM_begin_101 rfl (lv_at hl 1 rfl) ?_
                      refine g_M_M_46 (v := .int (nI n)) hx hb hE hm hR1.1 rfl dM_begin_102 ?_
                      refine lv_iload_n hx hb dM_begin_105 rfl (lv_at hl 2 rfl) ?_
                      refine iastE (n) hx hb hE.2.2.1 hm 0 hR1.a0 rfl rfl (by have := hR.n200; have := hn1; omega) (by decide) dM_begin_106 (fun H locs hm => ?_)
                      obtain ⟨w21, hhw21⟩ : ∃ z : Wd, z = wset w1 (as 0) (.inl (cI, 200, .inl (upd (g 0) (n) (x)))) := ⟨_, rfl⟩
                      have hm : mS B D CLS s.heap w21 H locs := by rw [hhw21]; exact hm
                      have hw21 : w21 = wset (wset (w) (r) (.inr (2, [.int (0), .int (now), .int (nI n), .ref (as 0), .ref (as 1), .ref (as 2), .ref (as 3), .ref (as 4), .ref (as 5), .ref (as 6), .ref (as 7), .ref (as 8)]))) (as 0) (.inl (cI, 200, .inl (upd (g 0) (n) (x)))) := by rw [hhw21, hw1]
                      have fw21 : w21 (as 0) = some (.inl (cI, 200, .inl (upd (g 0) (n) (x)))) := by rw [hhw21]; exact wset_at _ _ _
                      have fw21_1 := (show w21 (r) = w1 (r) by rw [hhw21]; exact wset_ne (Ne.symm (hR.ne (by decide : 0 < 9)))).trans hR1.1
                      have fw21_2 := (show w21 (as 1) = w1 (as 1) by rw [hhw21]; exact wset_ne (hR.nn (by decide : 1 < 9) (by decide : 0 < 9) (by decide))).trans hR1.a1
                      have fw21_3 := (show w21 (as 2) = w1 (as 2) by rw [hhw21]; exact wset_ne (hR.nn (by decide : 2 < 9) (by decide : 0 < 9) (by decide))).trans hR1.a2
                      have fw21_4 := (show w21 (as 3) = w1 (as 3) by rw [hhw21]; exact wset_ne (hR.nn (by decide : 3 < 9) (by decide : 0 < 9) (by decide))).trans hR1.a3
                      have fw21_5 := (show w21 (as 4) = w1 (as 4) by rw [hhw21]; exact wset_ne (hR.nn (by decide : 4 < 9) (by decide : 0 < 9) (by decide))).trans hR1.a4
                      have fw21_6 := (show w21 (as 5) = w1 (as 5) by rw [hhw21]; exact wset_ne (hR.nn (by decide : 5 < 9) (by decide : 0 < 9) (by decide))).trans hR1.a5
                      have fw21_7 := (show w21 (as 6) = w1 (as 6) by rw [hhw21]; exact wset_ne (hR.nn (by decide : 6 < 9) (by decide : 0 < 9) (by decide))).trans hR1.a6
                      have fw21_8 := (show w21 (as 7) = w1 (as 7) by rw [hhw21]; exact wset_ne (hR.nn (by decide : 7 < 9) (by decide : 0 < 9) (by decide))).trans hR1.a7
                      have fw21_9 := (show w21 (as 8) = w1 (as 8) by rw [hhw21]; exact wset_ne (hR.nn (by decide : 8 < 9) (by decide : 0 < 9) (by decide))).trans hR1.a8
                      refine lv_aload_n hx hb dM_begin_107 rfl (lv_at hl 1 rfl) ?_
                      refine g_M_M_16 (v := .ref (as 2)) hx hb hE hm fw21_1 rfl dM_begin_108 ?_
                      refine lv_aload_n hx hb dM_begin_111 rfl (lv_at hl 1 rfl) ?_
                      refine g_M_M_46 (v := .int (nI n)) hx hb hE hm fw21_1 rfl dM_begin_112 ?_
                      refine lv_iload_n hx hb dM_begin_115 rfl (lv_at hl 3 rfl) ?_
                      refine lv_if_le (tgt := 127) hx hb dM_begin_116 (by decide) (fun c_116 => ?_) (fun c_116 => ?_)
                      · refine lv_iconst (v := 0) hx hb dM_begin_127 (by decide) ?_
                        refine bastE (n) hx hb hE.2.2.1 hm 1 fw21_3 rfl rfl (by have := hR.n200; have := hn1; omega) (by decide) (by decide) dM_begin_128 (fun H locs hm => ?_)
                        obtain ⟨w22, hhw22⟩ : ∃ z : Wd, z = wset w21 (as 2) (.inl (cZ, 200, .inl (upd (g 2) (n) (0)))) := ⟨_, rfl⟩
                        have hm : mS B D CLS s.heap w22 H locs := by rw [hhw22]; exact hm
                        have hw22 : w22 = wset (wset (wset (w) (r) (.inr (2, [.int (0), .int (now), .int (nI n), .ref (as 0), .ref (as 1), .ref (as 2), .ref (as 3), .ref (as 4), .ref (as 5), .ref (as 6), .ref (as 7), .ref (as 8)]))) (as 0) (.inl (cI, 200, .inl (upd (g 0) (n) (x))))) (as 2) (.inl (cZ, 200, .inl (upd (g 2) (n) (0)))) := by rw [hhw22, hw21]
                        have fw22 : w22 (as 2) = some (.inl (cZ, 200, .inl (upd (g 2) (n) (0)))) := by rw [hhw22]; exact wset_at _ _ _
                        have fw22_1 := (show w22 (as 0) = w21 (as 0) by rw [hhw22]; exact wset_ne (hR.nn (by decide : 0 < 9) (by decide : 2 < 9) (by decide))).trans fw21
                        have fw22_2 := (show w22 (r) = w21 (r) by rw [hhw22]; exact wset_ne (Ne.symm (hR.ne (by decide : 2 < 9)))).trans fw21_1
                        have fw22_3 := (show w22 (as 1) = w21 (as 1) by rw [hhw22]; exact wset_ne (hR.nn (by decide : 1 < 9) (by decide : 2 < 9) (by decide))).trans fw21_2
                        have fw22_4 := (show w22 (as 3) = w21 (as 3) by rw [hhw22]; exact wset_ne (hR.nn (by decide : 3 < 9) (by decide : 2 < 9) (by decide))).trans fw21_4
                        have fw22_5 := (show w22 (as 4) = w21 (as 4) by rw [hhw22]; exact wset_ne (hR.nn (by decide : 4 < 9) (by decide : 2 < 9) (by decide))).trans fw21_5
                        have fw22_6 := (show w22 (as 5) = w21 (as 5) by rw [hhw22]; exact wset_ne (hR.nn (by decide : 5 < 9) (by decide : 2 < 9) (by decide))).trans fw21_6
                        have fw22_7 := (show w22 (as 6) = w21 (as 6) by rw [hhw22]; exact wset_ne (hR.nn (by decide : 6 < 9) (by decide : 2 < 9) (by decide))).trans fw21_7
                        have fw22_8 := (show w22 (as 7) = w21 (as 7) by rw [hhw22]; exact wset_ne (hR.nn (by decide : 7 < 9) (by decide : 2 < 9) (by decide))).trans fw21_8
                        have fw22_9 := (show w22 (as 8) = w21 (as 8) by rw [hhw22]; exact wset_ne (hR.nn (by decide : 8 < 9) (by decide : 2 < 9) (by decide))).trans fw21_9
                        refine lv_aload_n hx hb dM_begin_129 rfl (lv_at hl 1 rfl) ?_
                        refine g_M_M_13 (v := .ref (as 1)) hx hb hE hm fw22_2 rfl dM_begin_130 ?_
                        refine lv_aload_n hx hb dM_begin_133 rfl (lv_at hl 1 rfl) ?_
                        refine g_M_M_46 (v := .int (nI n)) hx hb hE hm fw22_2 rfl dM_begin_134 ?_
                        refine lv_iload_n hx hb dM_begin_137 rfl (lv_at hl 0 rfl) ?_
                        refine lv_if_ge (tgt := 145) hx hb dM_begin_138 (by decide) (fun c_138 => ?_) (fun c_138 => ?_)
                        · first | exact absurd c_138 (by decide) | exact absurd (by decide) c_138
                        · refine lv_iconst (v := 0) hx hb dM_begin_141 (by decide) ?_
                          refine lv_goto (tgt := 146) hx hb dM_begin_142 (by decide) ?_
                          refine iastE (n) hx hb hE.2.2.1 hm 0 fw22_3 rfl rfl (by have := hR.n200; have := hn1; omega) (by decide) dM_begin_146 (fun H locs hm => ?_)
                          obtain ⟨w23, hhw23⟩ : ∃ z : Wd, z = wset w22 (as 1) (.inl (cI, 200, .inl (upd (g 1) (n) (0)))) := ⟨_, rfl⟩
                          have hm : mS B D CLS s.heap w23 H locs := by rw [hhw23]; exact hm
                          have hw23 : w23 = wset (wset (wset (wset (w) (r) (.inr (2, [.int (0), .int (now), .int (nI n), .ref (as 0), .ref (as 1), .ref (as 2), .ref (as 3), .ref (as 4), .ref (as 5), .ref (as 6), .ref (as 7), .ref (as 8)]))) (as 0) (.inl (cI, 200, .inl (upd (g 0) (n) (x))))) (as 2) (.inl (cZ, 200, .inl (upd (g 2) (n) (0))))) (as 1) (.inl (cI, 200, .inl (upd (g 1) (n) (0)))) := by rw [hhw23, hw22]
                          have fw23 : w23 (as 1) = some (.inl (cI, 200, .inl (upd (g 1) (n) (0)))) := by rw [hhw23]; exact wset_at _ _ _
                          have fw23_1 := (show w23 (as 2) = w22 (as 2) by rw [hhw23]; exact wset_ne (hR.nn (by decide : 2 < 9) (by decide : 1 < 9) (by decide))).trans fw22
                          have fw23_2 := (show w23 (as 0) = w22 (as 0) by rw [hhw23]; exact wset_ne (hR.nn (by decide : 0 < 9) (by decide : 1 < 9) (by decide))).trans fw22_1
                          have fw23_3 := (show w23 (r) = w22 (r) by rw [hhw23]; exact wset_ne (Ne.symm (hR.ne (by decide : 1 < 9)))).trans fw22_2
                          have fw23_4 := (show w23 (as 3) = w22 (as 3) by rw [hhw23]; exact wset_ne (hR.nn (by decide : 3 < 9) (by decide : 1 < 9) (by decide))).trans fw22_4
                          have fw23_5 := (show w23 (as 4) = w22 (as 4) by rw [hhw23]; exact wset_ne (hR.nn (by decide : 4 < 9) (by decide : 1 < 9) (by decide))).trans fw22_5
                          have fw23_6 := (show w23 (as 5) = w22 (as 5) by rw [hhw23]; exact wset_ne (hR.nn (by decide : 5 < 9) (by decide : 1 < 9) (by decide))).trans fw22_6
                          have fw23_7 := (show w23 (as 6) = w22 (as 6) by rw [hhw23]; exact wset_ne (hR.nn (by decide : 6 < 9) (by decide : 1 < 9) (by decide))).trans fw22_7
                          have fw23_8 := (show w23 (as 7) = w22 (as 7) by rw [hhw23]; exact wset_ne (hR.nn (by decide : 7 < 9) (by decide : 1 < 9) (by decide))).trans fw22_8
                          have fw23_9 := (show w23 (as 8) = w22 (as 8) by rw [hhw23]; exact wset_ne (hR.nn (by decide : 8 < 9) (by decide : 1 < 9) (by decide))).trans fw22_9
                          refine lv_aload_n hx hb dM_begin_147 rfl (lv_at hl 1 rfl) ?_
                          refine g_M_M_20 (v := .ref (as 3)) hx hb hE hm fw23_3 rfl dM_begin_148 ?_
                          refine lv_aload_n hx hb dM_begin_151 rfl (lv_at hl 1 rfl) ?_
                          refine g_M_M_46 (v := .int (nI n)) hx hb hE hm fw23_3 rfl dM_begin_152 ?_
                          refine lv_iload_n hx hb dM_begin_155 rfl (lv_at hl 0 rfl) ?_
                          refine iastE (n) hx hb hE.2.2.1 hm 0 fw23_4 rfl rfl (by have := hR.n200; have := hn1; omega) (by decide) dM_begin_156 (fun H locs hm => ?_)
                          obtain ⟨w24, hhw24⟩ : ∃ z : Wd, z = wset w23 (as 3) (.inl (cI, 200, .inl (upd (g 3) (n) ((-1))))) := ⟨_, rfl⟩
                          have hm : mS B D CLS s.heap w24 H locs := by rw [hhw24]; exact hm
                          have hw24 : w24 = wset (wset (wset (wset (wset (w) (r) (.inr (2, [.int (0), .int (now), .int (nI n), .ref (as 0), .ref (as 1), .ref (as 2), .ref (as 3), .ref (as 4), .ref (as 5), .ref (as 6), .ref (as 7), .ref (as 8)]))) (as 0) (.inl (cI, 200, .inl (upd (g 0) (n) (x))))) (as 2) (.inl (cZ, 200, .inl (upd (g 2) (n) (0))))) (as 1) (.inl (cI, 200, .inl (upd (g 1) (n) (0))))) (as 3) (.inl (cI, 200, .inl (upd (g 3) (n) ((-1))))) := by rw [hhw24, hw23]
                          have fw24 : w24 (as 3) = some (.inl (cI, 200, .inl (upd (g 3) (n) ((-1))))) := by rw [hhw24]; exact wset_at _ _ _
                          have fw24_1 := (show w24 (as 1) = w23 (as 1) by rw [hhw24]; exact wset_ne (hR.nn (by decide : 1 < 9) (by decide : 3 < 9) (by decide))).trans fw23
                          have fw24_2 := (show w24 (as 2) = w23 (as 2) by rw [hhw24]; exact wset_ne (hR.nn (by decide : 2 < 9) (by decide : 3 < 9) (by decide))).trans fw23_1
                          have fw24_3 := (show w24 (as 0) = w23 (as 0) by rw [hhw24]; exact wset_ne (hR.nn (by decide : 0 < 9) (by decide : 3 < 9) (by decide))).trans fw23_2
                          have fw24_4 := (show w24 (r) = w23 (r) by rw [hhw24]; exact wset_ne (Ne.symm (hR.ne (by decide : 3 < 9)))).trans fw23_3
                          have fw24_5 := (show w24 (as 4) = w23 (as 4) by rw [hhw24]; exact wset_ne (hR.nn (by decide : 4 < 9) (by decide : 3 < 9) (by decide))).trans fw23_5
                          have fw24_6 := (show w24 (as 5) = w23 (as 5) by rw [hhw24]; exact wset_ne (hR.nn (by decide : 5 < 9) (by decide : 3 < 9) (by decide))).trans fw23_6
                          have fw24_7 := (show w24 (as 6) = w23 (as 6) by rw [hhw24]; exact wset_ne (hR.nn (by decide : 6 < 9) (by decide : 3 < 9) (by decide))).trans fw23_7
                          have fw24_8 := (show w24 (as 7) = w23 (as 7) by rw [hhw24]; exact wset_ne (hR.nn (by decide : 7 < 9) (by decide : 3 < 9) (by decide))).trans fw23_8
                          have fw24_9 := (show w24 (as 8) = w23 (as 8) by rw [hhw24]; exact wset_ne (hR.nn (by decide : 8 < 9) (by decide : 3 < 9) (by decide))).trans fw23_9
                          refine lv_aload_n hx hb dM_begin_157 rfl (lv_at hl 1 rfl) ?_
                          refine g_M_M_23 (v := .ref (as 4)) hx hb hE hm fw24_4 rfl dM_begin_158 ?_
                          refine lv_aload_n hx hb dM_begin_161 rfl (lv_at hl 1 rfl) ?_
                          refine g_M_M_46 (v := .int (nI n)) hx hb hE hm fw24_4 rfl dM_begin_162 ?_
                          refine lv_aload_n hx hb dM_begin_165 rfl (lv_at hl 1 rfl) ?_
                          refine g_M_M_43 (v := .int (now)) hx hb hE hm fw24_4 rfl dM_begin_166 ?_
                          refine iastE (n) hx hb hE.2.2.1 hm 0 fw24_5 rfl rfl (by have := hR.n200; have := hn1; omega) (by decide) dM_begin_169 (fun H locs hm => ?_)
                          obtain ⟨w25, hhw25⟩ : ∃ z : Wd, z = wset w24 (as 4) (.inl (cI, 200, .inl (upd (g 4) (n) (now)))) := ⟨_, rfl⟩
                          have hm : mS B D CLS s.heap w25 H locs := by rw [hhw25]; exact hm
                          have hw25 : w25 = wset (wset (wset (wset (wset (wset (w) (r) (.inr (2, [.int (0), .int (now), .int (nI n), .ref (as 0), .ref (as 1), .ref (as 2), .ref (as 3), .ref (as 4), .ref (as 5), .ref (as 6), .ref (as 7), .ref (as 8)]))) (as 0) (.inl (cI, 200, .inl (upd (g 0) (n) (x))))) (as 2) (.inl (cZ, 200, .inl (upd (g 2) (n) (0))))) (as 1) (.inl (cI, 200, .inl (upd (g 1) (n) (0))))) (as 3) (.inl (cI, 200, .inl (upd (g 3) (n) ((-1)))))) (as 4) (.inl (cI, 200, .inl (upd (g 4) (n) (now)))) := by rw [hhw25, hw24]
                          have fw25 : w25 (as 4) = some (.inl (cI, 200, .inl (upd (g 4) (n) (now)))) := by rw [hhw25]; exact wset_at _ _ _
                          have fw25_1 := (show w25 (as 3) = w24 (as 3) by rw [hhw25]; exact wset_ne (hR.nn (by decide : 3 < 9) (by decide : 4 < 9) (by decide))).trans fw24
                          have fw25_2 := (show w25 (as 1) = w24 (as 1) by rw [hhw25]; exact wset_ne (hR.nn (by decide : 1 < 9) (by decide : 4 < 9) (by decide))).trans fw24_1
                          have fw25_3 := (show w25 (as 2) = w24 (as 2) by rw [hhw25]; exact wset_ne (hR.nn (by decide : 2 < 9) (by decide : 4 < 9) (by decide))).trans fw24_2
                          have fw25_4 := (show w25 (as 0) = w24 (as 0) by rw [hhw25]; exact wset_ne (hR.nn (by decide : 0 < 9) (by decide : 4 < 9) (by decide))).trans fw24_3
                          have fw25_5 := (show w25 (r) = w24 (r) by rw [hhw25]; exact wset_ne (Ne.symm (hR.ne (by decide : 4 < 9)))).trans fw24_4
                          have fw25_6 := (show w25 (as 5) = w24 (as 5) by rw [hhw25]; exact wset_ne (hR.nn (by decide : 5 < 9) (by decide : 4 < 9) (by decide))).trans fw24_6
                          have fw25_7 := (show w25 (as 6) = w24 (as 6) by rw [hhw25]; exact wset_ne (hR.nn (by decide : 6 < 9) (by decide : 4 < 9) (by decide))).trans fw24_7
                          have fw25_8 := (show w25 (as 7) = w24 (as 7) by rw [hhw25]; exact wset_ne (hR.nn (by decide : 7 < 9) (by decide : 4 < 9) (by decide))).trans fw24_8
                          have fw25_9 := (show w25 (as 8) = w24 (as 8) by rw [hhw25]; exact wset_ne (hR.nn (by decide : 8 < 9) (by decide : 4 < 9) (by decide))).trans fw24_9
                          refine lv_aload_n hx hb dM_begin_170 rfl (lv_at hl 1 rfl) ?_
                          refine g_M_M_26 (v := .ref (as 5)) hx hb hE hm fw25_5 rfl dM_begin_171 ?_
                          refine lv_aload_n hx hb dM_begin_174 rfl (lv_at hl 1 rfl) ?_
                          refine g_M_M_46 (v := .int (nI n)) hx hb hE hm fw25_5 rfl dM_begin_175 ?_
                          refine lv_iconst (v := (-1)) hx hb dM_begin_178 (by decide) ?_
                          refine iastE (n) hx hb hE.2.2.1 hm 0 fw25_6 rfl rfl (by have := hR.n200; have := hn1; omega) (by decide) dM_begin_179 (fun H locs hm => ?_)
                          obtain ⟨w26, hhw26⟩ : ∃ z : Wd, z = wset w25 (as 5) (.inl (cI, 200, .inl (upd (g 5) (n) ((-1))))) := ⟨_, rfl⟩
                          have hm : mS B D CLS s.heap w26 H locs := by rw [hhw26]; exact hm
                          have hw26 : w26 = wset (wset (wset (wset (wset (wset (wset (w) (r) (.inr (2, [.int (0), .int (now), .int (nI n), .ref (as 0), .ref (as 1), .ref (as 2), .ref (as 3), .ref (as 4), .ref (as 5), .ref (as 6), .ref (as 7), .ref (as 8)]))) (as 0) (.inl (cI, 200, .inl (upd (g 0) (n) (x))))) (as 2) (.inl (cZ, 200, .inl (upd (g 2) (n) (0))))) (as 1) (.inl (cI, 200, .inl (upd (g 1) (n) (0))))) (as 3) (.inl (cI, 200, .inl (upd (g 3) (n) ((-1)))))) (as 4) (.inl (cI, 200, .inl (upd (g 4) (n) (now))))) (as 5) (.inl (cI, 200, .inl (upd (g 5) (n) ((-1))))) := by rw [hhw26, hw25]
                          have fw26 : w26 (as 5) = some (.inl (cI, 200, .inl (upd (g 5) (n) ((-1))))) := by rw [hhw26]; exact wset_at _ _ _
                          have fw26_1 := (show w26 (as 4) = w25 (as 4) by rw [hhw26]; exact wset_ne (hR.nn (by decide : 4 < 9) (by decide : 5 < 9) (by decide))).trans fw25
                          have fw26_2 := (show w26 (as 3) = w25 (as 3) by rw [hhw26]; exact wset_ne (hR.nn (by decide : 3 < 9) (by decide : 5 < 9) (by decide))).trans fw25_1
                          have fw26_3 := (show w26 (as 1) = w25 (as 1) by rw [hhw26]; exact wset_ne (hR.nn (by decide : 1 < 9) (by decide : 5 < 9) (by decide))).trans fw25_2
                          have fw26_4 := (show w26 (as 2) = w25 (as 2) by rw [hhw26]; exact wset_ne (hR.nn (by decide : 2 < 9) (by decide : 5 < 9) (by decide))).trans fw25_3
                          have fw26_5 := (show w26 (as 0) = w25 (as 0) by rw [hhw26]; exact wset_ne (hR.nn (by decide : 0 < 9) (by decide : 5 < 9) (by decide))).trans fw25_4
                          have fw26_6 := (show w26 (r) = w25 (r) by rw [hhw26]; exact wset_ne (Ne.symm (hR.ne (by decide : 5 < 9)))).trans fw25_5
                          have fw26_7 := (show w26 (as 6) = w25 (as 6) by rw [hhw26]; exact wset_ne (hR.nn (by decide : 6 < 9) (by decide : 5 < 9) (by decide))).trans fw25_7
                          have fw26_8 := (show w26 (as 7) = w25 (as 7) by rw [hhw26]; exact wset_ne (hR.nn (by decide : 7 < 9) (by decide : 5 < 9) (by decide))).trans fw25_8
                          have fw26_9 := (show w26 (as 8) = w25 (as 8) by rw [hhw26]; exact wset_ne (hR.nn (by decide : 8 < 9) (by decide : 5 < 9) (by decide))).trans fw25_9
                          refine lv_aload_n hx hb dM_begin_180 rfl (lv_at hl 1 rfl) ?_
                          refine g_M_M_29 (v := .ref (as 6)) hx hb hE hm fw26_6 rfl dM_begin_181 ?_
                          refine lv_aload_n hx hb dM_begin_184 rfl (lv_at hl 1 rfl) ?_
                          refine g_M_M_46 (v := .int (nI n)) hx hb hE hm fw26_6 rfl dM_begin_185 ?_
                          refine lv_iconst (v := 0) hx hb dM_begin_188 (by decide) ?_
                          refine iastE (n) hx hb hE.2.2.1 hm 0 fw26_7 rfl rfl (by have := hR.n200; have := hn1; omega) (by decide) dM_begin_189 (fun H locs hm => ?_)
                          obtain ⟨w27, hhw27⟩ : ∃ z : Wd, z = wset w26 (as 6) (.inl (cI, 200, .inl (upd (g 6) (n) (0)))) := ⟨_, rfl⟩
                          have hm : mS B D CLS s.heap w27 H locs := by rw [hhw27]; exact hm
                          have hw27 : w27 = wset (wset (wset (wset (wset (wset (wset (wset (w) (r) (.inr (2, [.int (0), .int (now), .int (nI n), .ref (as 0), .ref (as 1), .ref (as 2), .ref (as 3), .ref (as 4), .ref (as 5), .ref (as 6), .ref (as 7), .ref (as 8)]))) (as 0) (.inl (cI, 200, .inl (upd (g 0) (n) (x))))) (as 2) (.inl (cZ, 200, .inl (upd (g 2) (n) (0))))) (as 1) (.inl (cI, 200, .inl (upd (g 1) (n) (0))))) (as 3) (.inl (cI, 200, .inl (upd (g 3) (n) ((-1)))))) (as 4) (.inl (cI, 200, .inl (upd (g 4) (n) (now))))) (as 5) (.inl (cI, 200, .inl (upd (g 5) (n) ((-1)))))) (as 6) (.inl (cI, 200, .inl (upd (g 6) (n) (0)))) := by rw [hhw27, hw26]
                          have fw27 : w27 (as 6) = some (.inl (cI, 200, .inl (upd (g 6) (n) (0)))) := by rw [hhw27]; exact wset_at _ _ _
                          have fw27_1 := (show w27 (as 5) = w26 (as 5) by rw [hhw27]; exact wset_ne (hR.nn (by decide : 5 < 9) (by decide : 6 < 9) (by decide))).trans fw26
                          have fw27_2 := (show w27 (as 4) = w26 (as 4) by rw [hhw27]; exact wset_ne (hR.nn (by decide : 4 < 9) (by decide : 6 < 9) (by decide))).trans fw26_1
                          have fw27_3 := (show w27 (as 3) = w26 (as 3) by rw [hhw27]; exact wset_ne (hR.nn (by decide : 3 < 9) (by decide : 6 < 9) (by decide))).trans fw26_2
                          have fw27_4 := (show w27 (as 1) = w26 (as 1) by rw [hhw27]; exact wset_ne (hR.nn (by decide : 1 < 9) (by decide : 6 < 9) (by decide))).trans fw26_3
                          have fw27_5 := (show w27 (as 2) = w26 (as 2) by rw [hhw27]; exact wset_ne (hR.nn (by decide : 2 < 9) (by decide : 6 < 9) (by decide))).trans fw26_4
                          have fw27_6 := (show w27 (as 0) = w26 (as 0) by rw [hhw27]; exact wset_ne (hR.nn (by decide : 0 < 9) (by decide : 6 < 9) (by decide))).trans fw26_5
                          have fw27_7 := (show w27 (r) = w26 (r) by rw [hhw27]; exact wset_ne (Ne.symm (hR.ne (by decide : 6 < 9)))).trans fw26_6
                          have fw27_8 := (show w27 (as 7) = w26 (as 7) by rw [hhw27]; exact wset_ne (hR.nn (by decide : 7 < 9) (by decide : 6 < 9) (by decide))).trans fw26_8
                          have fw27_9 := (show w27 (as 8) = w26 (as 8) by rw [hhw27]; exact wset_ne (hR.nn (by decide : 8 < 9) (by decide : 6 < 9) (by decide))).trans fw26_9
                          refine lv_aload_n hx hb dM_begin_190 rfl (lv_at hl 1 rfl) ?_
                          refine g_M_M_32 (v := .ref (as 7)) hx hb hE hm fw27_7 rfl dM_begin_191 ?_
                          refine lv_aload_n hx hb dM_begin_194 rfl (lv_at hl 1 rfl) ?_
                          refine g_M_M_46 (v := .int (nI n)) hx hb hE hm fw27_7 rfl dM_begin_195 ?_
                          refine lv_iconst (v := 0) hx hb dM_begin_198 (by decide) ?_
                          refine bastE (n) hx hb hE.2.2.1 hm 1 fw27_8 rfl rfl (by have := hR.n200; have := hn1; omega) (by decide) (by decide) dM_begin_199 (fun H locs hm => ?_)
                          obtain ⟨w28, hhw28⟩ : ∃ z : Wd, z = wset w27 (as 7) (.inl (cZ, 200, .inl (upd (g 7) (n) (0)))) := ⟨_, rfl⟩
                          have hm : mS B D CLS s.heap w28 H locs := by rw [hhw28]; exact hm
                          have hw28 : w28 = wset (wset (wset (wset (wset (wset (wset (wset (wset (w) (r) (.inr (2, [.int (0), .int (now), .int (nI n), .ref (as 0), .ref (as 1), .ref (as 2), .ref (as 3), .ref (as 4), .ref (as 5), .ref (as 6), .ref (as 7), .ref (as 8)]))) (as 0) (.inl (cI, 200, .inl (upd (g 0) (n) (x))))) (as 2) (.inl (cZ, 200, .inl (upd (g 2) (n) (0))))) (as 1) (.inl (cI, 200, .inl (upd (g 1) (n) (0))))) (as 3) (.inl (cI, 200, .inl (upd (g 3) (n) ((-1)))))) (as 4) (.inl (cI, 200, .inl (upd (g 4) (n) (now))))) (as 5) (.inl (cI, 200, .inl (upd (g 5) (n) ((-1)))))) (as 6) (.inl (cI, 200, .inl (upd (g 6) (n) (0))))) (as 7) (.inl (cZ, 200, .inl (upd (g 7) (n) (0)))) := by rw [hhw28, hw27]
                          have fw28 : w28 (as 7) = some (.inl (cZ, 200, .inl (upd (g 7) (n) (0)))) := by rw [hhw28]; exact wset_at _ _ _
                          have fw28_1 := (show w28 (as 6) = w27 (as 6) by rw [hhw28]; exact wset_ne (hR.nn (by decide : 6 < 9) (by decide : 7 < 9) (by decide))).trans fw27
                          have fw28_2 := (show w28 (as 5) = w27 (as 5) by rw [hhw28]; exact wset_ne (hR.nn (by decide : 5 < 9) (by decide : 7 < 9) (by decide))).trans fw27_1
                          have fw28_3 := (show w28 (as 4) = w27 (as 4) by rw [hhw28]; exact wset_ne (hR.nn (by decide : 4 < 9) (by decide : 7 < 9) (by decide))).trans fw27_2
                          have fw28_4 := (show w28 (as 3) = w27 (as 3) by rw [hhw28]; exact wset_ne (hR.nn (by decide : 3 < 9) (by decide : 7 < 9) (by decide))).trans fw27_3
                          have fw28_5 := (show w28 (as 1) = w27 (as 1) by rw [hhw28]; exact wset_ne (hR.nn (by decide : 1 < 9) (by decide : 7 < 9) (by decide))).trans fw27_4
                          have fw28_6 := (show w28 (as 2) = w27 (as 2) by rw [hhw28]; exact wset_ne (hR.nn (by decide : 2 < 9) (by decide : 7 < 9) (by decide))).trans fw27_5
                          have fw28_7 := (show w28 (as 0) = w27 (as 0) by rw [hhw28]; exact wset_ne (hR.nn (by decide : 0 < 9) (by decide : 7 < 9) (by decide))).trans fw27_6
                          have fw28_8 := (show w28 (r) = w27 (r) by rw [hhw28]; exact wset_ne (Ne.symm (hR.ne (by decide : 7 < 9)))).trans fw27_7
                          have fw28_9 := (show w28 (as 8) = w27 (as 8) by rw [hhw28]; exact wset_ne (hR.nn (by decide : 8 < 9) (by decide : 7 < 9) (by decide))).trans fw27_9
                          refine lv_iconst (v := 0) hx hb dM_begin_200 (by decide) ?_
                          refine lv_istore (lv' := [(4, .int (0)), (3, .int ((-1))), (0, .ref (r)), (1, .int (x)), (2, .int (0))]) hx hb dM_begin_201 hl (by decide) rfl (fun ls hl => ?_)
                          have hbo : bOf n J x 0 = none := by simp [bOf]
                          obtain ⟨q8, hq8⟩ : ∃ z, z = upG (upG (upG (upG (upG (upG (upG (upG (g) 0 (upd (g 0) (n) (x))) 2 (upd (g 2) (n) (0))) 1 (upd (g 1) (n) (0))) 3 (upd (g 3) (n) ((-1)))) 4 (upd (g 4) (n) (now))) 5 (upd (g 5) (n) ((-1)))) 6 (upd (g 6) (n) (0))) 7 (upd (g 7) (n) (0)) := ⟨_, rfl⟩
                          have loop : ∀ (d i : Nat), i + d = 50 → ∀ (q9 : Nat → Nat → Int32) (v : Wd), rA cI cZ r as q9 0 now n v → rK r as w v → (∀ k, k < 8 → q9 k = q8 k) → (∀ x, x < i → q9 8 (50 * n + x) = -2) → (∀ x, x < 50 * n ∨ 50 * n + 50 ≤ x → q9 8 x = g 8 x) → ∀ (H : Heap) (locs : List Loc) (ls : Array Slot), mS B D CLS s.heap v H locs → lv_has ls 5 [(4, .int (nI i)), (3, .int ((-1))), (0, .ref (r)), (1, .int (x)), (2, .int (0))] → W p l e ({ frames := 1, cells := 0, slots := 0, locals := 24 }) s m [.ref (r), .int (x), .int (0)].toArray below meth c H locs 0 0 (MQ below (va_Qi (fun z u => ((bgs n J x 0 = false ∧ z = -1 ∧ rR cI cZ r as g 0 now n J u) ∨ (bgs n J x 0 = true ∧ z = nI n ∧ ∃ g2, rR cI cZ r as g2 0 now (n + 1) (upJ J n (nwJ x 0 (bOf n J x 0) now)) u)) ∧ rK r as w u) (mE B D CLS) (fun q => B ≤ q)) [.ref (r), .int (x), .int (0)].toArray s 0 0 (fun q => B ≤ q)) (F0 m 203 ls []) := by
                            intro d
                            induction d with
                            | zero =>
                              intro i hi q9 v hv hk9 h9 ht9 ho9  H locs ls hm hl
                              refine lv_iload hx hb dM_begin_203 (lv_at hl 0 rfl) ?_
                              refine lv_bipush (v := 50) hx hb dM_begin_205 (by decide) ?_
                              refine lv_icmp_ge (tgt := 233) hx hb dM_begin_207 (by decide) (fun c_207 => ?_) (fun c_207 => ?_)
                              · rw [← Int32.not_lt] at c_207
                                refine lv_aload_n hx hb dM_begin_233 rfl (lv_at hl 2 rfl) ?_
                                refine lv_dup hx hb dM_begin_234 rfl ?_
                                refine g_M_M_46 (v := .int (nI n)) hx hb hE hm hv.1 rfl dM_begin_235 ?_
                                refine lv_iconst (v := 1) hx hb dM_begin_238 (by decide) ?_
                                refine lv_iadd hx hb dM_begin_239 ?_
                                refine p_M_M_46 (x := (nI n) + (1)) hx hb hE hm hv.1 (by simp) dM_begin_240 (fun H locs hm => ?_)
                                obtain ⟨w1, hhw1⟩ : ∃ z : Wd, z = wset v (r) (.inr (2, [.int (0), .int (now), .int ((nI n) + (1)), .ref (as 0), .ref (as 1), .ref (as 2), .ref (as 3), .ref (as 4), .ref (as 5), .ref (as 6), .ref (as 7), .ref (as 8)])) := ⟨_, rfl⟩
                                have hm : mS B D CLS s.heap w1 H locs := by rw [hhw1]; exact hm
                                have hw1 : w1 = wset (v) (r) (.inr (2, [.int (0), .int (now), .int ((nI n) + (1)), .ref (as 0), .ref (as 1), .ref (as 2), .ref (as 3), .ref (as 4), .ref (as 5), .ref (as 6), .ref (as 7), .ref (as 8)])) := by rw [hhw1]
                                have fw1 : w1 (r) = some (.inr (2, [.int (0), .int (now), .int ((nI n) + (1)), .ref (as 0), .ref (as 1), .ref (as 2), .ref (as 3), .ref (as 4), .ref (as 5), .ref (as 6), .ref (as 7), .ref (as 8)])) := by rw [hhw1]; exact wset_at _ _ _
                                refine lv_aload_n hx hb dM_begin_243 rfl (lv_at hl 2 rfl) ?_
                                refine g_M_M_46 (v := .int ((nI n) + (1))) hx hb hE hm fw1 rfl dM_begin_244 ?_
                                refine lv_iconst (v := 1) hx hb dM_begin_247 (by decide) ?_
                                refine lv_isub hx hb dM_begin_248 ?_
                                have hF := hv.set 0 now (n + 1)
                                rw [nI_succ] at hF
                                exact mreti hx hb hr hlk hm ⟨Or.inr ⟨hB, by rw [← nI_succ]; exact nI_pred n, q9, by rw [hw1]; exact hF.R hn1 (hR.2.2.2.2.1.beg (b := none) (by rw [h9 0 (by decide), hq8]; simp [upG, bI, oI]) (by rw [h9 1 (by decide), hq8]; simp [upG, bI, oI]) (by rw [h9 2 (by decide), hq8]; simp [upG, bI, oI]) (by rw [h9 3 (by decide), hq8]; simp [upG, bI, oI]) (by rw [h9 4 (by decide), hq8]; simp [upG, bI, oI]) (by rw [h9 5 (by decide), hq8]; simp [upG, bI, oI]) (by rw [h9 6 (by decide), hq8]; simp [upG, bI, oI]) (by rw [h9 7 (by decide), hq8]; simp [upG, bI, oI]) (fun f hf => ht9 f (by omega)) (fun z hz => ho9 z (Or.inl hz))) (bs_beg hR.2.2.2.2.2 (fun i hi => by cases hi))⟩, by rw [hw1]; exact hk9.set rF_r⟩ dM_begin_249
                              · exact absurd (nI_le (a := 50) (b := i) (by omega) (by omega)) c_207
                            | succ d ih =>
                              intro i hi q9 v hv hk9 h9 ht9 ho9  H locs ls hm hl
                              have hiN : i < 50 := by omega
                              refine lv_iload hx hb dM_begin_203 (lv_at hl 0 rfl) ?_
                              refine lv_bipush (v := 50) hx hb dM_begin_205 (by decide) ?_
                              refine lv_icmp_ge (tgt := 233) hx hb dM_begin_207 (by decide) (fun c_207 => ?_) (fun c_207 => ?_)
                              · exact absurd c_207 (nI_ge (a := i) (b := 50) (by omega) (by omega))
                              · rw [Int32.not_le] at c_207
                                refine lv_aload_n hx hb dM_begin_210 rfl (lv_at hl 2 rfl) ?_
                                refine g_M_M_35 (v := .ref (as 8)) hx hb hE hm hv.1 rfl dM_begin_211 ?_
                                refine lv_bipush (v := 50) hx hb dM_begin_214 (by decide) ?_
                                refine lv_aload_n hx hb dM_begin_216 rfl (lv_at hl 2 rfl) ?_
                                refine g_M_M_46 (v := .int (nI n)) hx hb hE hm hv.1 rfl dM_begin_217 ?_
                                refine lv_imul hx hb dM_begin_220 ?_
                                refine lv_iload hx hb dM_begin_221 (lv_at hl 0 rfl) ?_
                                refine lv_iadd hx hb dM_begin_223 ?_
                                refine lv_bipush (v := (-2)) hx hb dM_begin_224 (by decide) ?_
                                refine iastE (50 * n + i) hx hb hE.2.2.1 hm 0 hv.a8 rfl (i50 rfl) (by omega) (by decide) dM_begin_226 (fun H locs hm => ?_)
                                obtain ⟨w1, hhw1⟩ : ∃ z : Wd, z = wset v (as 8) (.inl (cI, 10000, .inl (upd (q9 8) (50 * n + i) ((-2))))) := ⟨_, rfl⟩
                                have hm : mS B D CLS s.heap w1 H locs := by rw [hhw1]; exact hm
                                have hw1 : w1 = wset (v) (as 8) (.inl (cI, 10000, .inl (upd (q9 8) (50 * n + i) ((-2))))) := by rw [hhw1]
                                have fw1 : w1 (as 8) = some (.inl (cI, 10000, .inl (upd (q9 8) (50 * n + i) ((-2))))) := by rw [hhw1]; exact wset_at _ _ _
                                refine lv_iinc (v := nI i + 1) (lv' := [(4, .int (nI i + 1)), (3, .int ((-1))), (0, .ref (r)), (1, .int (x)), (2, .int (0))]) hx hb dM_begin_227 hl (k := 0) rfl rfl (by decide) rfl (fun ls hl => ?_)
                                refine lv_goto (tgt := 203) hx hb dM_begin_230 (by decide) ?_
                                rw [nI_1] at hl
                                refine ih (i + 1) (by omega) (upG q9 8 (upd (q9 8) (50 * n + i) (-2))) w1 (by rw [hw1]; exact hv.put (by decide : 8 < 9) _) (by rw [hw1]; exact hk9.set (rF_a (by decide))) (fun k hk => by rw [upG_ne (by omega)]; exact h9 k hk) (fun x hx => ?_) (fun x hx => ?_) H locs ls hm (lv_sub hl [0, 1, 2, 3, 4] rfl)
                                · rw [upG_at]
                                  by_cases e9 : x = i
                                  · simp [upd, e9]
                                  · rw [show upd (q9 8) (50 * n + i) (-2) (50 * n + x) = q9 8 (50 * n + x) by simp [upd]; intro h; omega]; exact ht9 x (by omega)
                                · rw [upG_at, show upd (q9 8) (50 * n + i) (-2) x = q9 8 x by simp [upd]; intro h; omega]; exact ho9 x hx
                          exact loop 50 0 (by omega) q8 w28 (by rw [hq8, hw28]; exact ((((((((hR.A.set 0 now n).put (by decide : 0 < 9) _).put (by decide : 2 < 9) _).put (by decide : 1 < 9) _).put (by decide : 3 < 9) _).put (by decide : 4 < 9) _).put (by decide : 5 < 9) _).put (by decide : 6 < 9) _).put (by decide : 7 < 9) _) (by rw [hw28]; exact ((((((((rK.rf.set rF_r).set (rF_a (by decide))).set (rF_a (by decide))).set (rF_a (by decide))).set (rF_a (by decide))).set (rF_a (by decide))).set (rF_a (by decide))).set (rF_a (by decide))).set (rF_a (by decide))) (fun k hk => rfl) (fun x hx => absurd hx (Nat.not_lt_zero x)) (fun x hx => by rw [hq8]; simp [upG]) _ _ ls hm (by rw [nI_0]; exact lv_sub hl [0, 1, 2, 3, 4] rfl)
                      · first | exact absurd c_116 (by decide) | exact absurd (by decide) c_116
                  · subst e9
                    refine lv_iload_n hx hb dM_begin_73 rfl (lv_at hl 3 rfl) ?_
                    refine lv_if_ne (tgt := 81) hx hb dM_begin_74 (by decide) (fun c_74 => ?_) (fun c_74 => ?_)
                    · refine lv_aload_n hx hb dM_begin_81 rfl (lv_at hl 1 rfl) ?_
                      refine lv_iload_n hx hb dM_begin_82 rfl (lv_at hl 2 rfl) ?_
                      refine lv_iload_n hx hb dM_begin_83 rfl (lv_at hl 3 rfl) ?_
                      refine lv_iconst (v := 1) hx hb dM_begin_84 (by decide) ?_
                      refine lv_icmp_ne (tgt := 92) hx hb dM_begin_85 (by decide) (fun c_85 => ?_) (fun c_85 => ?_)
                      · first | exact absurd c_85 (by decide) | exact absurd (by decide) c_85
                      · refine lv_iconst (v := 0) hx hb dM_begin_88 (by decide) ?_
                        refine lv_goto (tgt := 93) hx hb dM_begin_89 (by decide) ?_
                        refine mcalli (mcV (n := 2) (As := [.int (x), .int (0)]) (rest := []) hx hb hml hE (kM_lastOne l B D cI cZ cL w1 r as g 0 now n J hR1 hM x (0)) q_352 q_354 qs_8 q_2 q_355 rfl rfl (by decide +kernel) ⟨Nat.le_of_ble_eq_true rfl, Nat.le_of_ble_eq_true rfl⟩ rfl hl.1 hm rfl hR1.1 rfl (Nat.le_of_ble_eq_true rfl) dM_begin_93 ⟨Nat.le_of_ble_eq_true rfl, Nat.le_of_ble_eq_true rfl⟩) hm (fun r29 u29 H locs hp29 hm => ?_)
                        obtain ⟨hr29, hu29⟩ := hp29
                        rw [hu29] at hm
                        rw [lastP_1] at hr29
                        subst hr29
                        have hbl := bOf_lt (n := n) (J := J) (s := x) (l := 1)
                        cases hbo : bOf n J x 1 with
                        | none =>
                          show W _ _ _ _ _ _ _ _ _ _ _ _ _ _ _ (F0 m 96 ls [.int (-1)])
                          refine lv_istore_n (lv' := [(3, .int (-1)), (0, .ref (r)), (1, .int (x)), (2, .int (1))]) hx hb dM_begin_96 rfl hl (by decide) rfl (fun ls hl => ?_)
                          refine lv_aload_n hx hb dM_begin_97 rfl (lv_at hl 1 rfl) ?_
                          refine g_M_M_7 (v := .ref (as 0)) hx hb hE hm hR1.1 rfl dM_begin_98 ?_
                          refine lv_aload_n hx hb dM_begin_101 rfl (lv_at hl 1 rfl) ?_
                          refine g_M_M_46 (v := .int (nI n)) hx hb hE hm hR1.1 rfl dM_begin_102 ?_
                          refine lv_iload_n hx hb dM_begin_105 rfl (lv_at hl 2 rfl) ?_
                          refine iastE (n) hx hb hE.2.2.1 hm 0 hR1.a0 rfl rfl (by have := hR.n200; have := hn1; omega) (by decide) dM_begin_106 (fun H locs hm => ?_)
                          obtain ⟨w30, hhw30⟩ : ∃ z : Wd, z = wset w1 (as 0) (.inl (cI, 200, .inl (upd (g 0) (n) (x)))) := ⟨_, rfl⟩
                          have hm : mS B D CLS s.heap w30 H locs := by rw [hhw30]; exact hm
                          have hw30 : w30 = wset (wset (w) (r) (.inr (2, [.int (0), .int (now), .int (nI n), .ref (as 0), .ref (as 1), .ref (as 2), .ref (as 3), .ref (as 4), .ref (as 5), .ref (as 6), .ref (as 7), .ref (as 8)]))) (as 0) (.inl (cI, 200, .inl (upd (g 0) (n) (x)))) := by rw [hhw30, hw1]
                          have fw30 : w30 (as 0) = some (.inl (cI, 200, .inl (upd (g 0) (n) (x)))) := by rw [hhw30]; exact wset_at _ _ _
                          have fw30_1 := (show w30 (r) = w1 (r) by rw [hhw30]; exact wset_ne (Ne.symm (hR.ne (by decide : 0 < 9)))).trans hR1.1
                          have fw30_2 := (show w30 (as 1) = w1 (as 1) by rw [hhw30]; exact wset_ne (hR.nn (by decide : 1 < 9) (by decide : 0 < 9) (by decide))).trans hR1.a1
                          have fw30_3 := (show w30 (as 2) = w1 (as 2) by rw [hhw30]; exact wset_ne (hR.nn (by decide : 2 < 9) (by decide : 0 < 9) (by decide))).trans hR1.a2
                          have fw30_4 := (show w30 (as 3) = w1 (as 3) by rw [hhw30]; exact wset_ne (hR.nn (by decide : 3 < 9) (by decide : 0 < 9) (by decide))).trans hR1.a3
                          have fw30_5 := (show w30 (as 4) = w1 (as 4) by rw [hhw30]; exact wset_ne (hR.nn (by decide : 4 < 9) (by decide : 0 < 9) (by decide))).trans hR1.a4
                          have fw30_6 := (show w30 (as 5) = w1 (as 5) by rw [hhw30]; exact wset_ne (hR.nn (by decide : 5 < 9) (by decide : 0 < 9) (by decide))).trans hR1.a5
                          have fw30_7 := (show w30 (as 6) = w1 (as 6) by rw [hhw30]; exact wset_ne (hR.nn (by decide : 6 < 9) (by decide : 0 < 9) (by decide))).trans hR1.a6
                          have fw30_8 := (show w30 (as 7) = w1 (as 7) by rw [hhw30]; exact wset_ne (hR.nn (by decide : 7 < 9) (by decide : 0 < 9) (by decide))).trans hR1.a7
                          have fw30_9 := (show w30 (as 8) = w1 (as 8) by rw [hhw30]; exact wset_ne (hR.nn (by decide : 8 < 9) (by decide : 0 < 9) (by decide))).trans hR1.a8
                          refine lv_aload_n hx hb dM_begin_107 rfl (lv_at hl 1 rfl) ?_
                          refine g_M_M_16 (v := .ref (as 2)) hx hb hE hm fw30_1 rfl dM_begin_108 ?_
                          refine lv_aload_n hx hb dM_begin_111 rfl (lv_at hl 1 rfl) ?_
                          refine g_M_M_46 (v := .int (nI n)) hx hb hE hm fw30_1 rfl dM_begin_112 ?_
                          refine lv_iload_n hx hb dM_begin_115 rfl (lv_at hl 3 rfl) ?_
                          refine lv_if_le (tgt := 127) hx hb dM_begin_116 (by decide) (fun c_116 => ?_) (fun c_116 => ?_)
                          · first | exact absurd c_116 (by decide) | exact absurd (by decide) c_116
                          · refine lv_iload_n hx hb dM_begin_119 rfl (lv_at hl 0 rfl) ?_
                            refine lv_if_ge (tgt := 127) hx hb dM_begin_120 (by decide) (fun c_120 => ?_) (fun c_120 => ?_)
                            · first | exact absurd c_120 (by decide) | exact absurd (by decide) c_120
                            · refine lv_iconst (v := 1) hx hb dM_begin_123 (by decide) ?_
                              refine lv_goto (tgt := 128) hx hb dM_begin_124 (by decide) ?_
                              refine bastE (n) hx hb hE.2.2.1 hm 1 fw30_3 rfl rfl (by have := hR.n200; have := hn1; omega) (by decide) (by decide) dM_begin_128 (fun H locs hm => ?_)
                              obtain ⟨w31, hhw31⟩ : ∃ z : Wd, z = wset w30 (as 2) (.inl (cZ, 200, .inl (upd (g 2) (n) (1)))) := ⟨_, rfl⟩
                              have hm : mS B D CLS s.heap w31 H locs := by rw [hhw31]; exact hm
                              have hw31 : w31 = wset (wset (wset (w) (r) (.inr (2, [.int (0), .int (now), .int (nI n), .ref (as 0), .ref (as 1), .ref (as 2), .ref (as 3), .ref (as 4), .ref (as 5), .ref (as 6), .ref (as 7), .ref (as 8)]))) (as 0) (.inl (cI, 200, .inl (upd (g 0) (n) (x))))) (as 2) (.inl (cZ, 200, .inl (upd (g 2) (n) (1)))) := by rw [hhw31, hw30]
                              have fw31 : w31 (as 2) = some (.inl (cZ, 200, .inl (upd (g 2) (n) (1)))) := by rw [hhw31]; exact wset_at _ _ _
                              have fw31_1 := (show w31 (as 0) = w30 (as 0) by rw [hhw31]; exact wset_ne (hR.nn (by decide : 0 < 9) (by decide : 2 < 9) (by decide))).trans fw30
                              have fw31_2 := (show w31 (r) = w30 (r) by rw [hhw31]; exact wset_ne (Ne.symm (hR.ne (by decide : 2 < 9)))).trans fw30_1
                              have fw31_3 := (show w31 (as 1) = w30 (as 1) by rw [hhw31]; exact wset_ne (hR.nn (by decide : 1 < 9) (by decide : 2 < 9) (by decide))).trans fw30_2
                              have fw31_4 := (show w31 (as 3) = w30 (as 3) by rw [hhw31]; exact wset_ne (hR.nn (by decide : 3 < 9) (by decide : 2 < 9) (by decide))).trans fw30_4
                              have fw31_5 := (show w31 (as 4) = w30 (as 4) by rw [hhw31]; exact wset_ne (hR.nn (by decide : 4 < 9) (by decide : 2 < 9) (by decide))).trans fw30_5
                              have fw31_6 := (show w31 (as 5) = w30 (as 5) by rw [hhw31]; exact wset_ne (hR.nn (by decide : 5 < 9) (by decide : 2 < 9) (by decide))).trans fw30_6
                              have fw31_7 := (show w31 (as 6) = w30 (as 6) by rw [hhw31]; exact wset_ne (hR.nn (by decide : 6 < 9) (by decide : 2 < 9) (by decide))).trans fw30_7
                              have fw31_8 := (show w31 (as 7) = w30 (as 7) by rw [hhw31]; exact wset_ne (hR.nn (by decide : 7 < 9) (by decide : 2 < 9) (by decide))).trans fw30_8
                              have fw31_9 := (show w31 (as 8) = w30 (as 8) by rw [hhw31]; exact wset_ne (hR.nn (by decide : 8 < 9) (by decide : 2 < 9) (by decide))).trans fw30_9
                              refine lv_aload_n hx hb dM_begin_129 rfl (lv_at hl 1 rfl) ?_
                              refine g_M_M_13 (v := .ref (as 1)) hx hb hE hm fw31_2 rfl dM_begin_130 ?_
                              refine lv_aload_n hx hb dM_begin_133 rfl (lv_at hl 1 rfl) ?_
                              refine g_M_M_46 (v := .int (nI n)) hx hb hE hm fw31_2 rfl dM_begin_134 ?_
                              refine lv_iload_n hx hb dM_begin_137 rfl (lv_at hl 0 rfl) ?_
                              refine lv_if_ge (tgt := 145) hx hb dM_begin_138 (by decide) (fun c_138 => ?_) (fun c_138 => ?_)
                              · first | exact absurd c_138 (by decide) | exact absurd (by decide) c_138
                              · refine lv_iconst (v := 0) hx hb dM_begin_141 (by decide) ?_
                                refine lv_goto (tgt := 146) hx hb dM_begin_142 (by decide) ?_
                                refine iastE (n) hx hb hE.2.2.1 hm 0 fw31_3 rfl rfl (by have := hR.n200; have := hn1; omega) (by decide) dM_begin_146 (fun H locs hm => ?_)
                                obtain ⟨w32, hhw32⟩ : ∃ z : Wd, z = wset w31 (as 1) (.inl (cI, 200, .inl (upd (g 1) (n) (0)))) := ⟨_, rfl⟩
                                have hm : mS B D CLS s.heap w32 H locs := by rw [hhw32]; exact hm
                                have hw32 : w32 = wset (wset (wset (wset (w) (r) (.inr (2, [.int (0), .int (now), .int (nI n), .ref (as 0), .ref (as 1), .ref (as 2), .ref (as 3), .ref (as 4), .ref (as 5), .ref (as 6), .ref (as 7), .ref (as 8)]))) (as 0) (.inl (cI, 200, .inl (upd (g 0) (n) (x))))) (as 2) (.inl (cZ, 200, .inl (upd (g 2) (n) (1))))) (as 1) (.inl (cI, 200, .inl (upd (g 1) (n) (0)))) := by rw [hhw32, hw31]
                                have fw32 : w32 (as 1) = some (.inl (cI, 200, .inl (upd (g 1) (n) (0)))) := by rw [hhw32]; exact wset_at _ _ _
                                have fw32_1 := (show w32 (as 2) = w31 (as 2) by rw [hhw32]; exact wset_ne (hR.nn (by decide : 2 < 9) (by decide : 1 < 9) (by decide))).trans fw31
                                have fw32_2 := (show w32 (as 0) = w31 (as 0) by rw [hhw32]; exact wset_ne (hR.nn (by decide : 0 < 9) (by decide : 1 < 9) (by decide))).trans fw31_1
                                have fw32_3 := (show w32 (r) = w31 (r) by rw [hhw32]; exact wset_ne (Ne.symm (hR.ne (by decide : 1 < 9)))).trans fw31_2
                                have fw32_4 := (show w32 (as 3) = w31 (as 3) by rw [hhw32]; exact wset_ne (hR.nn (by decide : 3 < 9) (by decide : 1 < 9) (by decide))).trans fw31_4
                                have fw32_5 := (show w32 (as 4) = w31 (as 4) by rw [hhw32]; exact wset_ne (hR.nn (by decide : 4 < 9) (by decide : 1 < 9) (by decide))).trans fw31_5
                                have fw32_6 := (show w32 (as 5) = w31 (as 5) by rw [hhw32]; exact wset_ne (hR.nn (by decide : 5 < 9) (by decide : 1 < 9) (by decide))).trans fw31_6
                                have fw32_7 := (show w32 (as 6) = w31 (as 6) by rw [hhw32]; exact wset_ne (hR.nn (by decide : 6 < 9) (by decide : 1 < 9) (by decide))).trans fw31_7
                                have fw32_8 := (show w32 (as 7) = w31 (as 7) by rw [hhw32]; exact wset_ne (hR.nn (by decide : 7 < 9) (by decide : 1 < 9) (by decide))).trans fw31_8
                                have fw32_9 := (show w32 (as 8) = w31 (as 8) by rw [hhw32]; exact wset_ne (hR.nn (by decide : 8 < 9) (by decide : 1 < 9) (by decide))).trans fw31_9
                                refine lv_aload_n hx hb dM_begin_147 rfl (lv_at hl 1 rfl) ?_
                                refine g_M_M_20 (v := .ref (as 3)) hx hb hE hm fw32_3 rfl dM_begin_148 ?_
                                refine lv_aload_n hx hb dM_begin_151 rfl (lv_at hl 1 rfl) ?_
                                refine g_M_M_46 (v := .int (nI n)) hx hb hE hm fw32_3 rfl dM_begin_152 ?_
                                refine lv_iload_n hx hb dM_begin_155 rfl (lv_at hl 0 rfl) ?_
                                refine iastE (n) hx hb hE.2.2.1 hm 0 fw32_4 rfl rfl (by have := hR.n200; have := hn1; omega) (by decide) dM_begin_156 (fun H locs hm => ?_)
                                obtain ⟨w33, hhw33⟩ : ∃ z : Wd, z = wset w32 (as 3) (.inl (cI, 200, .inl (upd (g 3) (n) (-1)))) := ⟨_, rfl⟩
                                have hm : mS B D CLS s.heap w33 H locs := by rw [hhw33]; exact hm
                                have hw33 : w33 = wset (wset (wset (wset (wset (w) (r) (.inr (2, [.int (0), .int (now), .int (nI n), .ref (as 0), .ref (as 1), .ref (as 2), .ref (as 3), .ref (as 4), .ref (as 5), .ref (as 6), .ref (as 7), .ref (as 8)]))) (as 0) (.inl (cI, 200, .inl (upd (g 0) (n) (x))))) (as 2) (.inl (cZ, 200, .inl (upd (g 2) (n) (1))))) (as 1) (.inl (cI, 200, .inl (upd (g 1) (n) (0))))) (as 3) (.inl (cI, 200, .inl (upd (g 3) (n) (-1)))) := by rw [hhw33, hw32]
                                have fw33 : w33 (as 3) = some (.inl (cI, 200, .inl (upd (g 3) (n) (-1)))) := by rw [hhw33]; exact wset_at _ _ _
                                have fw33_1 := (show w33 (as 1) = w32 (as 1) by rw [hhw33]; exact wset_ne (hR.nn (by decide : 1 < 9) (by decide : 3 < 9) (by decide))).trans fw32
                                have fw33_2 := (show w33 (as 2) = w32 (as 2) by rw [hhw33]; exact wset_ne (hR.nn (by decide : 2 < 9) (by decide : 3 < 9) (by decide))).trans fw32_1
                                have fw33_3 := (show w33 (as 0) = w32 (as 0) by rw [hhw33]; exact wset_ne (hR.nn (by decide : 0 < 9) (by decide : 3 < 9) (by decide))).trans fw32_2
                                have fw33_4 := (show w33 (r) = w32 (r) by rw [hhw33]; exact wset_ne (Ne.symm (hR.ne (by decide : 3 < 9)))).trans fw32_3
                                have fw33_5 := (show w33 (as 4) = w32 (as 4) by rw [hhw33]; exact wset_ne (hR.nn (by decide : 4 < 9) (by decide : 3 < 9) (by decide))).trans fw32_5
                                have fw33_6 := (show w33 (as 5) = w32 (as 5) by rw [hhw33]; exact wset_ne (hR.nn (by decide : 5 < 9) (by decide : 3 < 9) (by decide))).trans fw32_6
                                have fw33_7 := (show w33 (as 6) = w32 (as 6) by rw [hhw33]; exact wset_ne (hR.nn (by decide : 6 < 9) (by decide : 3 < 9) (by decide))).trans fw32_7
                                have fw33_8 := (show w33 (as 7) = w32 (as 7) by rw [hhw33]; exact wset_ne (hR.nn (by decide : 7 < 9) (by decide : 3 < 9) (by decide))).trans fw32_8
                                have fw33_9 := (show w33 (as 8) = w32 (as 8) by rw [hhw33]; exact wset_ne (hR.nn (by decide : 8 < 9) (by decide : 3 < 9) (by decide))).trans fw32_9
                                refine lv_aload_n hx hb dM_begin_157 rfl (lv_at hl 1 rfl) ?_
                                refine g_M_M_23 (v := .ref (as 4)) hx hb hE hm fw33_4 rfl dM_begin_158 ?_
                                refine lv_aload_n hx hb dM_begin_161 rfl (lv_at hl 1 rfl) ?_
                                refine g_M_M_46 (v := .int (nI n)) hx hb hE hm fw33_4 rfl dM_begin_162 ?_
                                refine lv_aload_n hx hb dM_begin_165 rfl (lv_at hl 1 rfl) ?_
                                refine g_M_M_43 (v := .int (now)) hx hb hE hm fw33_4 rfl dM_begin_166 ?_
                                refine iastE (n) hx hb hE.2.2.1 hm 0 fw33_5 rfl rfl (by have := hR.n200; have := hn1; omega) (by decide) dM_begin_169 (fun H locs hm => ?_)
                                obtain ⟨w34, hhw34⟩ : ∃ z : Wd, z = wset w33 (as 4) (.inl (cI, 200, .inl (upd (g 4) (n) (now)))) := ⟨_, rfl⟩
                                have hm : mS B D CLS s.heap w34 H locs := by rw [hhw34]; exact hm
                                have hw34 : w34 = wset (wset (wset (wset (wset (wset (w) (r) (.inr (2, [.int (0), .int (now), .int (nI n), .ref (as 0), .ref (as 1), .ref (as 2), .ref (as 3), .ref (as 4), .ref (as 5), .ref (as 6), .ref (as 7), .ref (as 8)]))) (as 0) (.inl (cI, 200, .inl (upd (g 0) (n) (x))))) (as 2) (.inl (cZ, 200, .inl (upd (g 2) (n) (1))))) (as 1) (.inl (cI, 200, .inl (upd (g 1) (n) (0))))) (as 3) (.inl (cI, 200, .inl (upd (g 3) (n) (-1))))) (as 4) (.inl (cI, 200, .inl (upd (g 4) (n) (now)))) := by rw [hhw34, hw33]
                                have fw34 : w34 (as 4) = some (.inl (cI, 200, .inl (upd (g 4) (n) (now)))) := by rw [hhw34]; exact wset_at _ _ _
                                have fw34_1 := (show w34 (as 3) = w33 (as 3) by rw [hhw34]; exact wset_ne (hR.nn (by decide : 3 < 9) (by decide : 4 < 9) (by decide))).trans fw33
                                have fw34_2 := (show w34 (as 1) = w33 (as 1) by rw [hhw34]; exact wset_ne (hR.nn (by decide : 1 < 9) (by decide : 4 < 9) (by decide))).trans fw33_1
                                have fw34_3 := (show w34 (as 2) = w33 (as 2) by rw [hhw34]; exact wset_ne (hR.nn (by decide : 2 < 9) (by decide : 4 < 9) (by decide))).trans fw33_2
                                have fw34_4 := (show w34 (as 0) = w33 (as 0) by rw [hhw34]; exact wset_ne (hR.nn (by decide : 0 < 9) (by decide : 4 < 9) (by decide))).trans fw33_3
                                have fw34_5 := (show w34 (r) = w33 (r) by rw [hhw34]; exact wset_ne (Ne.symm (hR.ne (by decide : 4 < 9)))).trans fw33_4
                                have fw34_6 := (show w34 (as 5) = w33 (as 5) by rw [hhw34]; exact wset_ne (hR.nn (by decide : 5 < 9) (by decide : 4 < 9) (by decide))).trans fw33_6
                                have fw34_7 := (show w34 (as 6) = w33 (as 6) by rw [hhw34]; exact wset_ne (hR.nn (by decide : 6 < 9) (by decide : 4 < 9) (by decide))).trans fw33_7
                                have fw34_8 := (show w34 (as 7) = w33 (as 7) by rw [hhw34]; exact wset_ne (hR.nn (by decide : 7 < 9) (by decide : 4 < 9) (by decide))).trans fw33_8
                                have fw34_9 := (show w34 (as 8) = w33 (as 8) by rw [hhw34]; exact wset_ne (hR.nn (by decide : 8 < 9) (by decide : 4 < 9) (by decide))).trans fw33_9
                                refine lv_aload_n hx hb dM_begin_170 rfl (lv_at hl 1 rfl) ?_
                                refine g_M_M_26 (v := .ref (as 5)) hx hb hE hm fw34_5 rfl dM_begin_171 ?_
                                refine lv_aload_n hx hb dM_begin_174 rfl (lv_at hl 1 rfl) ?_
                                refine g_M_M_46 (v := .int (nI n)) hx hb hE hm fw34_5 rfl dM_begin_175 ?_
                                refine lv_iconst (v := (-1)) hx hb dM_begin_178 (by decide) ?_
                                refine iastE (n) hx hb hE.2.2.1 hm 0 fw34_6 rfl rfl (by have := hR.n200; have := hn1; omega) (by decide) dM_begin_179 (fun H locs hm => ?_)
                                obtain ⟨w35, hhw35⟩ : ∃ z : Wd, z = wset w34 (as 5) (.inl (cI, 200, .inl (upd (g 5) (n) ((-1))))) := ⟨_, rfl⟩
                                have hm : mS B D CLS s.heap w35 H locs := by rw [hhw35]; exact hm
                                have hw35 : w35 = wset (wset (wset (wset (wset (wset (wset (w) (r) (.inr (2, [.int (0), .int (now), .int (nI n), .ref (as 0), .ref (as 1), .ref (as 2), .ref (as 3), .ref (as 4), .ref (as 5), .ref (as 6), .ref (as 7), .ref (as 8)]))) (as 0) (.inl (cI, 200, .inl (upd (g 0) (n) (x))))) (as 2) (.inl (cZ, 200, .inl (upd (g 2) (n) (1))))) (as 1) (.inl (cI, 200, .inl (upd (g 1) (n) (0))))) (as 3) (.inl (cI, 200, .inl (upd (g 3) (n) (-1))))) (as 4) (.inl (cI, 200, .inl (upd (g 4) (n) (now))))) (as 5) (.inl (cI, 200, .inl (upd (g 5) (n) ((-1))))) := by rw [hhw35, hw34]
                                have fw35 : w35 (as 5) = some (.inl (cI, 200, .inl (upd (g 5) (n) ((-1))))) := by rw [hhw35]; exact wset_at _ _ _
                                have fw35_1 := (show w35 (as 4) = w34 (as 4) by rw [hhw35]; exact wset_ne (hR.nn (by decide : 4 < 9) (by decide : 5 < 9) (by decide))).trans fw34
                                have fw35_2 := (show w35 (as 3) = w34 (as 3) by rw [hhw35]; exact wset_ne (hR.nn (by decide : 3 < 9) (by decide : 5 < 9) (by decide))).trans fw34_1
                                have fw35_3 := (show w35 (as 1) = w34 (as 1) by rw [hhw35]; exact wset_ne (hR.nn (by decide : 1 < 9) (by decide : 5 < 9) (by decide))).trans fw34_2
                                have fw35_4 := (show w35 (as 2) = w34 (as 2) by rw [hhw35]; exact wset_ne (hR.nn (by decide : 2 < 9) (by decide : 5 < 9) (by decide))).trans fw34_3
                                have fw35_5 := (show w35 (as 0) = w34 (as 0) by rw [hhw35]; exact wset_ne (hR.nn (by decide : 0 < 9) (by decide : 5 < 9) (by decide))).trans fw34_4
                                have fw35_6 := (show w35 (r) = w34 (r) by rw [hhw35]; exact wset_ne (Ne.symm (hR.ne (by decide : 5 < 9)))).trans fw34_5
                                have fw35_7 := (show w35 (as 6) = w34 (as 6) by rw [hhw35]; exact wset_ne (hR.nn (by decide : 6 < 9) (by decide : 5 < 9) (by decide))).trans fw34_7
                                have fw35_8 := (show w35 (as 7) = w34 (as 7) by rw [hhw35]; exact wset_ne (hR.nn (by decide : 7 < 9) (by decide : 5 < 9) (by decide))).trans fw34_8
                                have fw35_9 := (show w35 (as 8) = w34 (as 8) by rw [hhw35]; exact wset_ne (hR.nn (by decide : 8 < 9) (by decide : 5 < 9) (by decide))).trans fw34_9
                                refine lv_aload_n hx hb dM_begin_180 rfl (lv_at hl 1 rfl) ?_
                                refine g_M_M_29 (v := .ref (as 6)) hx hb hE hm fw35_6 rfl dM_begin_181 ?_
                                refine lv_aload_n hx hb dM_begin_184 rfl (lv_at hl 1 rfl) ?_
                                refine g_M_M_46 (v := .int (nI n)) hx hb hE hm fw35_6 rfl dM_begin_185 ?_
                                refine lv_iconst (v := 0) hx hb dM_begin_188 (by decide) ?_
                                refine iastE (n) hx hb hE.2.2.1 hm 0 fw35_7 rfl rfl (by have := hR.n200; have := hn1; omega) (by decide) dM_begin_189 (fun H locs hm => ?_)
                                obtain ⟨w36, hhw36⟩ : ∃ z : Wd, z = wset w35 (as 6) (.inl (cI, 200, .inl (upd (g 6) (n) (0)))) := ⟨_, rfl⟩
                                have hm : mS B D CLS s.heap w36 H locs := by rw [hhw36]; exact hm
                                have hw36 : w36 = wset (wset (wset (wset (wset (wset (wset (wset (w) (r) (.inr (2, [.int (0), .int (now), .int (nI n), .ref (as 0), .ref (as 1), .ref (as 2), .ref (as 3), .ref (as 4), .ref (as 5), .ref (as 6), .ref (as 7), .ref (as 8)]))) (as 0) (.inl (cI, 200, .inl (upd (g 0) (n) (x))))) (as 2) (.inl (cZ, 200, .inl (upd (g 2) (n) (1))))) (as 1) (.inl (cI, 200, .inl (upd (g 1) (n) (0))))) (as 3) (.inl (cI, 200, .inl (upd (g 3) (n) (-1))))) (as 4) (.inl (cI, 200, .inl (upd (g 4) (n) (now))))) (as 5) (.inl (cI, 200, .inl (upd (g 5) (n) ((-1)))))) (as 6) (.inl (cI, 200, .inl (upd (g 6) (n) (0)))) := by rw [hhw36, hw35]
                                have fw36 : w36 (as 6) = some (.inl (cI, 200, .inl (upd (g 6) (n) (0)))) := by rw [hhw36]; exact wset_at _ _ _
                                have fw36_1 := (show w36 (as 5) = w35 (as 5) by rw [hhw36]; exact wset_ne (hR.nn (by decide : 5 < 9) (by decide : 6 < 9) (by decide))).trans fw35
                                have fw36_2 := (show w36 (as 4) = w35 (as 4) by rw [hhw36]; exact wset_ne (hR.nn (by decide : 4 < 9) (by decide : 6 < 9) (by decide))).trans fw35_1
                                have fw36_3 := (show w36 (as 3) = w35 (as 3) by rw [hhw36]; exact wset_ne (hR.nn (by decide : 3 < 9) (by decide : 6 < 9) (by decide))).trans fw35_2
                                have fw36_4 := (show w36 (as 1) = w35 (as 1) by rw [hhw36]; exact wset_ne (hR.nn (by decide : 1 < 9) (by decide : 6 < 9) (by decide))).trans fw35_3
                                have fw36_5 := (show w36 (as 2) = w35 (as 2) by rw [hhw36]; exact wset_ne (hR.nn (by decide : 2 < 9) (by decide : 6 < 9) (by decide))).trans fw35_4
                                have fw36_6 := (show w36 (as 0) = w35 (as 0) by rw [hhw36]; exact wset_ne (hR.nn (by decide : 0 < 9) (by decide : 6 < 9) (by decide))).trans fw35_5
                                have fw36_7 := (show w36 (r) = w35 (r) by rw [hhw36]; exact wset_ne (Ne.symm (hR.ne (by decide : 6 < 9)))).trans fw35_6
                                have fw36_8 := (show w36 (as 7) = w35 (as 7) by rw [hhw36]; exact wset_ne (hR.nn (by decide : 7 < 9) (by decide : 6 < 9) (by decide))).trans fw35_8
                                have fw36_9 := (show w36 (as 8) = w35 (as 8) by rw [hhw36]; exact wset_ne (hR.nn (by decide : 8 < 9) (by decide : 6 < 9) (by decide))).trans fw35_9
                                refine lv_aload_n hx hb dM_begin_190 rfl (lv_at hl 1 rfl) ?_
                                refine g_M_M_32 (v := .ref (as 7)) hx hb hE hm fw36_7 rfl dM_begin_191 ?_
                                refine lv_aload_n hx hb dM_begin_194 rfl (lv_at hl 1 rfl) ?_
                                refine g_M_M_46 (v := .int (nI n)) hx hb hE hm fw36_7 rfl dM_begin_195 ?_
                                refine lv_iconst (v := 0) hx hb dM_begin_198 (by decide) ?_
                                refine bastE (n) hx hb hE.2.2.1 hm 1 fw36_8 rfl rfl (by have := hR.n200; have := hn1; omega) (by decide) (by decide) dM_begin_199 (fun H locs hm => ?_)
                                obtain ⟨w37, hhw37⟩ : ∃ z : Wd, z = wset w36 (as 7) (.inl (cZ, 200, .inl (upd (g 7) (n) (0)))) := ⟨_, rfl⟩
                                have hm : mS B D CLS s.heap w37 H locs := by rw [hhw37]; exact hm
                                have hw37 : w37 = wset (wset (wset (wset (wset (wset (wset (wset (wset (w) (r) (.inr (2, [.int (0), .int (now), .int (nI n), .ref (as 0), .ref (as 1), .ref (as 2), .ref (as 3), .ref (as 4), .ref (as 5), .ref (as 6), .ref (as 7), .ref (as 8)]))) (as 0) (.inl (cI, 200, .inl (upd (g 0) (n) (x))))) (as 2) (.inl (cZ, 200, .inl (upd (g 2) (n) (1))))) (as 1) (.inl (cI, 200, .inl (upd (g 1) (n) (0))))) (as 3) (.inl (cI, 200, .inl (upd (g 3) (n) (-1))))) (as 4) (.inl (cI, 200, .inl (upd (g 4) (n) (now))))) (as 5) (.inl (cI, 200, .inl (upd (g 5) (n) ((-1)))))) (as 6) (.inl (cI, 200, .inl (upd (g 6) (n) (0))))) (as 7) (.inl (cZ, 200, .inl (upd (g 7) (n) (0)))) := by rw [hhw37, hw36]
                                have fw37 : w37 (as 7) = some (.inl (cZ, 200, .inl (upd (g 7) (n) (0)))) := by rw [hhw37]; exact wset_at _ _ _
                                have fw37_1 := (show w37 (as 6) = w36 (as 6) by rw [hhw37]; exact wset_ne (hR.nn (by decide : 6 < 9) (by decide : 7 < 9) (by decide))).trans fw36
                                have fw37_2 := (show w37 (as 5) = w36 (as 5) by rw [hhw37]; exact wset_ne (hR.nn (by decide : 5 < 9) (by decide : 7 < 9) (by decide))).trans fw36_1
                                have fw37_3 := (show w37 (as 4) = w36 (as 4) by rw [hhw37]; exact wset_ne (hR.nn (by decide : 4 < 9) (by decide : 7 < 9) (by decide))).trans fw36_2
                                have fw37_4 := (show w37 (as 3) = w36 (as 3) by rw [hhw37]; exact wset_ne (hR.nn (by decide : 3 < 9) (by decide : 7 < 9) (by decide))).trans fw36_3
                                have fw37_5 := (show w37 (as 1) = w36 (as 1) by rw [hhw37]; exact wset_ne (hR.nn (by decide : 1 < 9) (by decide : 7 < 9) (by decide))).trans fw36_4
                                have fw37_6 := (show w37 (as 2) = w36 (as 2) by rw [hhw37]; exact wset_ne (hR.nn (by decide : 2 < 9) (by decide : 7 < 9) (by decide))).trans fw36_5
                                have fw37_7 := (show w37 (as 0) = w36 (as 0) by rw [hhw37]; exact wset_ne (hR.nn (by decide : 0 < 9) (by decide : 7 < 9) (by decide))).trans fw36_6
                                have fw37_8 := (show w37 (r) = w36 (r) by rw [hhw37]; exact wset_ne (Ne.symm (hR.ne (by decide : 7 < 9)))).trans fw36_7
                                have fw37_9 := (show w37 (as 8) = w36 (as 8) by rw [hhw37]; exact wset_ne (hR.nn (by decide : 8 < 9) (by decide : 7 < 9) (by decide))).trans fw36_9
                                refine lv_iconst (v := 0) hx hb dM_begin_200 (by decide) ?_
                                refine lv_istore (lv' := [(4, .int (0)), (3, .int (-1)), (0, .ref (r)), (1, .int (x)), (2, .int (1))]) hx hb dM_begin_201 hl (by decide) rfl (fun ls hl => ?_)
                                obtain ⟨q8, hq8⟩ : ∃ z, z = upG (upG (upG (upG (upG (upG (upG (upG (g) 0 (upd (g 0) (n) (x))) 2 (upd (g 2) (n) (1))) 1 (upd (g 1) (n) (0))) 3 (upd (g 3) (n) (-1))) 4 (upd (g 4) (n) (now))) 5 (upd (g 5) (n) ((-1)))) 6 (upd (g 6) (n) (0))) 7 (upd (g 7) (n) (0)) := ⟨_, rfl⟩
                                have loop : ∀ (d i : Nat), i + d = 50 → ∀ (q9 : Nat → Nat → Int32) (v : Wd), rA cI cZ r as q9 0 now n v → rK r as w v → (∀ k, k < 8 → q9 k = q8 k) → (∀ x, x < i → q9 8 (50 * n + x) = -2) → (∀ x, x < 50 * n ∨ 50 * n + 50 ≤ x → q9 8 x = g 8 x) → ∀ (H : Heap) (locs : List Loc) (ls : Array Slot), mS B D CLS s.heap v H locs → lv_has ls 5 [(4, .int (nI i)), (3, .int (-1)), (0, .ref (r)), (1, .int (x)), (2, .int (1))] → W p l e ({ frames := 1, cells := 0, slots := 0, locals := 24 }) s m [.ref (r), .int (x), .int (1)].toArray below meth c H locs 0 0 (MQ below (va_Qi (fun z u => ((bgs n J x 1 = false ∧ z = -1 ∧ rR cI cZ r as g 0 now n J u) ∨ (bgs n J x 1 = true ∧ z = nI n ∧ ∃ g2, rR cI cZ r as g2 0 now (n + 1) (upJ J n (nwJ x 1 (none) now)) u)) ∧ rK r as w u) (mE B D CLS) (fun q => B ≤ q)) [.ref (r), .int (x), .int (1)].toArray s 0 0 (fun q => B ≤ q)) (F0 m 203 ls []) := by
                                  intro d
                                  induction d with
                                  | zero =>
                                    intro i hi q9 v hv hk9 h9 ht9 ho9  H locs ls hm hl
                                    refine lv_iload hx hb dM_begin_203 (lv_at hl 0 rfl) ?_
                                    refine lv_bipush (v := 50) hx hb dM_begin_205 (by decide) ?_
                                    refine lv_icmp_ge (tgt := 233) hx hb dM_begin_207 (by decide) (fun c_207 => ?_) (fun c_207 => ?_)
                                    · rw [← Int32.not_lt] at c_207
                                      refine lv_aload_n hx hb dM_begin_233 rfl (lv_at hl 2 rfl) ?_
                                      refine lv_dup hx hb dM_begin_234 rfl ?_
                                      refine g_M_M_46 (v := .int (nI n)) hx hb hE hm hv.1 rfl dM_begin_235 ?_
                                      refine lv_iconst (v := 1) hx hb dM_begin_238 (by decide) ?_
                                      refine lv_iadd hx hb dM_begin_239 ?_
                                      refine p_M_M_46 (x := (nI n) + (1)) hx hb hE hm hv.1 (by simp) dM_begin_240 (fun H locs hm => ?_)
                                      obtain ⟨w1, hhw1⟩ : ∃ z : Wd, z = wset v (r) (.inr (2, [.int (0), .int (now), .int ((nI n) + (1)), .ref (as 0), .ref (as 1), .ref (as 2), .ref (as 3), .ref (as 4), .ref (as 5), .ref (as 6), .ref (as 7), .ref (as 8)])) := ⟨_, rfl⟩
                                      have hm : mS B D CLS s.heap w1 H locs := by rw [hhw1]; exact hm
                                      have hw1 : w1 = wset (v) (r) (.inr (2, [.int (0), .int (now), .int ((nI n) + (1)), .ref (as 0), .ref (as 1), .ref (as 2), .ref (as 3), .ref (as 4), .ref (as 5), .ref (as 6), .ref (as 7), .ref (as 8)])) := by rw [hhw1]
                                      have fw1 : w1 (r) = some (.inr (2, [.int (0), .int (now), .int ((nI n) + (1)), .ref (as 0), .ref (as 1), .ref (as 2), .ref (as 3), .ref (as 4), .ref (as 5), .ref (as 6), .ref (as 7), .ref (as 8)])) := by rw [hhw1]; exact wset_at _ _ _
                                      refine lv_aload_n hx hb dM_begin_243 rfl (lv_at hl 2 rfl) ?_
                                      refine g_M_M_46 (v := .int ((nI n) + (1))) hx hb hE hm fw1 rfl dM_begin_244 ?_
                                      refine lv_iconst (v := 1) hx hb dM_begin_247 (by decide) ?_
                                      refine lv_isub hx hb dM_begin_248 ?_
                                      have hF := hv.set 0 now (n + 1)
                                      rw [nI_succ] at hF
                                      exact mreti hx hb hr hlk hm ⟨Or.inr ⟨hB, by rw [← nI_succ]; exact nI_pred n, q9, by rw [hw1]; exact hF.R hn1 (hR.2.2.2.2.1.beg (b := none) (by rw [h9 0 (by decide), hq8]; simp [upG, bI, oI]) (by rw [h9 1 (by decide), hq8]; simp [upG, bI, oI]) (by rw [h9 2 (by decide), hq8]; simp [upG, bI, oI]) (by rw [h9 3 (by decide), hq8]; simp [upG, bI, oI]) (by rw [h9 4 (by decide), hq8]; simp [upG, bI, oI]) (by rw [h9 5 (by decide), hq8]; simp [upG, bI, oI]) (by rw [h9 6 (by decide), hq8]; simp [upG, bI, oI]) (by rw [h9 7 (by decide), hq8]; simp [upG, bI, oI]) (fun f hf => ht9 f (by omega)) (fun z hz => ho9 z (Or.inl hz))) (bs_beg hR.2.2.2.2.2 (fun i hi => by cases hi))⟩, by rw [hw1]; exact hk9.set rF_r⟩ dM_begin_249
                                    · exact absurd (nI_le (a := 50) (b := i) (by omega) (by omega)) c_207
                                  | succ d ih =>
                                    intro i hi q9 v hv hk9 h9 ht9 ho9  H locs ls hm hl
                                    have hiN : i < 50 := by omega
                                    refine lv_iload hx hb dM_begin_203 (lv_at hl 0 rfl) ?_
                                    refine lv_bipush (v := 50) hx hb dM_begin_205 (by decide) ?_
                                    refine lv_icmp_ge (tgt := 233) hx hb dM_begin_207 (by decide) (fun c_207 => ?_) (fun c_207 => ?_)
                                    · exact absurd c_207 (nI_ge (a := i) (b := 50) (by omega) (by omega))
                                    · rw [Int32.not_le] at c_207
                                      refine lv_aload_n hx hb dM_begin_210 rfl (lv_at hl 2 rfl) ?_
                                      refine g_M_M_35 (v := .ref (as 8)) hx hb hE hm hv.1 rfl dM_begin_211 ?_
                                      refine lv_bipush (v := 50) hx hb dM_begin_214 (by decide) ?_
                                      refine lv_aload_n hx hb dM_begin_216 rfl (lv_at hl 2 rfl) ?_
                                      refine g_M_M_46 (v := .int (nI n)) hx hb hE hm hv.1 rfl dM_begin_217 ?_
                                      refine lv_imul hx hb dM_begin_220 ?_
                                      refine lv_iload hx hb dM_begin_221 (lv_at hl 0 rfl) ?_
                                      refine lv_iadd hx hb dM_begin_223 ?_
                                      refine lv_bipush (v := (-2)) hx hb dM_begin_224 (by decide) ?_
                                      refine iastE (50 * n + i) hx hb hE.2.2.1 hm 0 hv.a8 rfl (i50 rfl) (by omega) (by decide) dM_begin_226 (fun H locs hm => ?_)
                                      obtain ⟨w1, hhw1⟩ : ∃ z : Wd, z = wset v (as 8) (.inl (cI, 10000, .inl (upd (q9 8) (50 * n + i) ((-2))))) := ⟨_, rfl⟩
                                      have hm : mS B D CLS s.heap w1 H locs := by rw [hhw1]; exact hm
                                      have hw1 : w1 = wset (v) (as 8) (.inl (cI, 10000, .inl (upd (q9 8) (50 * n + i) ((-2))))) := by rw [hhw1]
                                      have fw1 : w1 (as 8) = some (.inl (cI, 10000, .inl (upd (q9 8) (50 * n + i) ((-2))))) := by rw [hhw1]; exact wset_at _ _ _
                                      refine lv_iinc (v := nI i + 1) (lv' := [(4, .int (nI i + 1)), (3, .int (-1)), (0, .ref (r)), (1, .int (x)), (2, .int (1))]) hx hb dM_begin_227 hl (k := 0) rfl rfl (by decide) rfl (fun ls hl => ?_)
                                      refine lv_goto (tgt := 203) hx hb dM_begin_230 (by decide) ?_
                                      rw [nI_1] at hl
                                      refine ih (i + 1) (by omega) (upG q9 8 (upd (q9 8) (50 * n + i) (-2))) w1 (by rw [hw1]; exact hv.put (by decide : 8 < 9) _) (by rw [hw1]; exact hk9.set (rF_a (by decide))) (fun k hk => by rw [upG_ne (by omega)]; exact h9 k hk) (fun x hx => ?_) (fun x hx => ?_) H locs ls hm (lv_sub hl [0, 1, 2, 3, 4] rfl)
                                      · rw [upG_at]
                                        by_cases e9 : x = i
                                        · simp [upd, e9]
                                        · rw [show upd (q9 8) (50 * n + i) (-2) (50 * n + x) = q9 8 (50 * n + x) by simp [upd]; intro h; omega]; exact ht9 x (by omega)
                                      · rw [upG_at, show upd (q9 8) (50 * n + i) (-2) x = q9 8 x by simp [upd]; intro h; omega]; exact ho9 x hx
                                exact loop 50 0 (by omega) q8 w37 (by rw [hq8, hw37]; exact ((((((((hR.A.set 0 now n).put (by decide : 0 < 9) _).put (by decide : 2 < 9) _).put (by decide : 1 < 9) _).put (by decide : 3 < 9) _).put (by decide : 4 < 9) _).put (by decide : 5 < 9) _).put (by decide : 6 < 9) _).put (by decide : 7 < 9) _) (by rw [hw37]; exact ((((((((rK.rf.set rF_r).set (rF_a (by decide))).set (rF_a (by decide))).set (rF_a (by decide))).set (rF_a (by decide))).set (rF_a (by decide))).set (rF_a (by decide))).set (rF_a (by decide))).set (rF_a (by decide))) (fun k hk => rfl) (fun x hx => absurd hx (Nat.not_lt_zero x)) (fun x hx => by rw [hq8]; simp [upG]) _ _ ls hm (by rw [nI_0]; exact lv_sub hl [0, 1, 2, 3, 4] rfl)
                        | some b =>
                          have hbn : b < n := hbl b hbo
                          show W _ _ _ _ _ _ _ _ _ _ _ _ _ _ _ (F0 m 96 ls [.int (nI b)])
                          refine lv_istore_n (lv' := [(3, .int (nI b)), (0, .ref (r)), (1, .int (x)), (2, .int (1))]) hx hb dM_begin_96 rfl hl (by decide) rfl (fun ls hl => ?_)
                          refine lv_aload_n hx hb dM_begin_97 rfl (lv_at hl 1 rfl) ?_
                          refine g_M_M_7 (v := .ref (as 0)) hx hb hE hm hR1.1 rfl dM_begin_98 ?_
                          refine lv_aload_n hx hb dM_begin_101 rfl (lv_at hl 1 rfl) ?_
                          refine g_M_M_46 (v := .int (nI n)) hx hb hE hm hR1.1 rfl dM_begin_102 ?_
                          refine lv_iload_n hx hb dM_begin_105 rfl (lv_at hl 2 rfl) ?_
                          refine iastE (n) hx hb hE.2.2.1 hm 0 hR1.a0 rfl rfl (by have := hR.n200; have := hn1; omega) (by decide) dM_begin_106 (fun H locs hm => ?_)
                          obtain ⟨w38, hhw38⟩ : ∃ z : Wd, z = wset w1 (as 0) (.inl (cI, 200, .inl (upd (g 0) (n) (x)))) := ⟨_, rfl⟩
                          have hm : mS B D CLS s.heap w38 H locs := by rw [hhw38]; exact hm
                          have hw38 : w38 = wset (wset (w) (r) (.inr (2, [.int (0), .int (now), .int (nI n), .ref (as 0), .ref (as 1), .ref (as 2), .ref (as 3), .ref (as 4), .ref (as 5), .ref (as 6), .ref (as 7), .ref (as 8)]))) (as 0) (.inl (cI, 200, .inl (upd (g 0) (n) (x)))) := by rw [hhw38, hw1]
                          have fw38 : w38 (as 0) = some (.inl (cI, 200, .inl (upd (g 0) (n) (x)))) := by rw [hhw38]; exact wset_at _ _ _
                          have fw38_1 := (show w38 (r) = w1 (r) by rw [hhw38]; exact wset_ne (Ne.symm (hR.ne (by decide : 0 < 9)))).trans hR1.1
                          have fw38_2 := (show w38 (as 1) = w1 (as 1) by rw [hhw38]; exact wset_ne (hR.nn (by decide : 1 < 9) (by decide : 0 < 9) (by decide))).trans hR1.a1
                          have fw38_3 := (show w38 (as 2) = w1 (as 2) by rw [hhw38]; exact wset_ne (hR.nn (by decide : 2 < 9) (by decide : 0 < 9) (by decide))).trans hR1.a2
                          have fw38_4 := (show w38 (as 3) = w1 (as 3) by rw [hhw38]; exact wset_ne (hR.nn (by decide : 3 < 9) (by decide : 0 < 9) (by decide))).trans hR1.a3
                          have fw38_5 := (show w38 (as 4) = w1 (as 4) by rw [hhw38]; exact wset_ne (hR.nn (by decide : 4 < 9) (by decide : 0 < 9) (by decide))).trans hR1.a4
                          have fw38_6 := (show w38 (as 5) = w1 (as 5) by rw [hhw38]; exact wset_ne (hR.nn (by decide : 5 < 9) (by decide : 0 < 9) (by decide))).trans hR1.a5
                          have fw38_7 := (show w38 (as 6) = w1 (as 6) by rw [hhw38]; exact wset_ne (hR.nn (by decide : 6 < 9) (by decide : 0 < 9) (by decide))).trans hR1.a6
                          have fw38_8 := (show w38 (as 7) = w1 (as 7) by rw [hhw38]; exact wset_ne (hR.nn (by decide : 7 < 9) (by decide : 0 < 9) (by decide))).trans hR1.a7
                          have fw38_9 := (show w38 (as 8) = w1 (as 8) by rw [hhw38]; exact wset_ne (hR.nn (by decide : 8 < 9) (by decide : 0 < 9) (by decide))).trans hR1.a8
                          refine lv_aload_n hx hb dM_begin_107 rfl (lv_at hl 1 rfl) ?_
                          refine g_M_M_16 (v := .ref (as 2)) hx hb hE hm fw38_1 rfl dM_begin_108 ?_
                          refine lv_aload_n hx hb dM_begin_111 rfl (lv_at hl 1 rfl) ?_
                          refine g_M_M_46 (v := .int (nI n)) hx hb hE hm fw38_1 rfl dM_begin_112 ?_
                          refine lv_iload_n hx hb dM_begin_115 rfl (lv_at hl 3 rfl) ?_
                          refine lv_if_le (tgt := 127) hx hb dM_begin_116 (by decide) (fun c_116 => ?_) (fun c_116 => ?_)
                          · first | exact absurd c_116 (by decide) | exact absurd (by decide) c_116
                          · refine lv_iload_n hx hb dM_begin_119 rfl (lv_at hl 0 rfl) ?_
                            refine lv_if_ge (tgt := 127) hx hb dM_begin_120 (by decide) (fun c_120 => ?_) (fun c_120 => ?_)
                            · refine lv_iconst (v := 0) hx hb dM_begin_127 (by decide) ?_
                              refine bastE (n) hx hb hE.2.2.1 hm 1 fw38_3 rfl rfl (by have := hR.n200; have := hn1; omega) (by decide) (by decide) dM_begin_128 (fun H locs hm => ?_)
                              obtain ⟨w39, hhw39⟩ : ∃ z : Wd, z = wset w38 (as 2) (.inl (cZ, 200, .inl (upd (g 2) (n) (0)))) := ⟨_, rfl⟩
                              have hm : mS B D CLS s.heap w39 H locs := by rw [hhw39]; exact hm
                              have hw39 : w39 = wset (wset (wset (w) (r) (.inr (2, [.int (0), .int (now), .int (nI n), .ref (as 0), .ref (as 1), .ref (as 2), .ref (as 3), .ref (as 4), .ref (as 5), .ref (as 6), .ref (as 7), .ref (as 8)]))) (as 0) (.inl (cI, 200, .inl (upd (g 0) (n) (x))))) (as 2) (.inl (cZ, 200, .inl (upd (g 2) (n) (0)))) := by rw [hhw39, hw38]
                              have fw39 : w39 (as 2) = some (.inl (cZ, 200, .inl (upd (g 2) (n) (0)))) := by rw [hhw39]; exact wset_at _ _ _
                              have fw39_1 := (show w39 (as 0) = w38 (as 0) by rw [hhw39]; exact wset_ne (hR.nn (by decide : 0 < 9) (by decide : 2 < 9) (by decide))).trans fw38
                              have fw39_2 := (show w39 (r) = w38 (r) by rw [hhw39]; exact wset_ne (Ne.symm (hR.ne (by decide : 2 < 9)))).trans fw38_1
                              have fw39_3 := (show w39 (as 1) = w38 (as 1) by rw [hhw39]; exact wset_ne (hR.nn (by decide : 1 < 9) (by decide : 2 < 9) (by decide))).trans fw38_2
                              have fw39_4 := (show w39 (as 3) = w38 (as 3) by rw [hhw39]; exact wset_ne (hR.nn (by decide : 3 < 9) (by decide : 2 < 9) (by decide))).trans fw38_4
                              have fw39_5 := (show w39 (as 4) = w38 (as 4) by rw [hhw39]; exact wset_ne (hR.nn (by decide : 4 < 9) (by decide : 2 < 9) (by decide))).trans fw38_5
                              have fw39_6 := (show w39 (as 5) = w38 (as 5) by rw [hhw39]; exact wset_ne (hR.nn (by decide : 5 < 9) (by decide : 2 < 9) (by decide))).trans fw38_6
                              have fw39_7 := (show w39 (as 6) = w38 (as 6) by rw [hhw39]; exact wset_ne (hR.nn (by decide : 6 < 9) (by decide : 2 < 9) (by decide))).trans fw38_7
                              have fw39_8 := (show w39 (as 7) = w38 (as 7) by rw [hhw39]; exact wset_ne (hR.nn (by decide : 7 < 9) (by decide : 2 < 9) (by decide))).trans fw38_8
                              have fw39_9 := (show w39 (as 8) = w38 (as 8) by rw [hhw39]; exact wset_ne (hR.nn (by decide : 8 < 9) (by decide : 2 < 9) (by decide))).trans fw38_9
                              refine lv_aload_n hx hb dM_begin_129 rfl (lv_at hl 1 rfl) ?_
                              refine g_M_M_13 (v := .ref (as 1)) hx hb hE hm fw39_2 rfl dM_begin_130 ?_
                              refine lv_aload_n hx hb dM_begin_133 rfl (lv_at hl 1 rfl) ?_
                              refine g_M_M_46 (v := .int (nI n)) hx hb hE hm fw39_2 rfl dM_begin_134 ?_
                              refine lv_iload_n hx hb dM_begin_137 rfl (lv_at hl 0 rfl) ?_
                              refine lv_if_ge (tgt := 145) hx hb dM_begin_138 (by decide) (fun c_138 => ?_) (fun c_138 => ?_)
                              · rw [← Int32.not_lt] at c_138
                                refine lv_iload_n hx hb dM_begin_145 rfl (lv_at hl 3 rfl) ?_
                                refine iastE (n) hx hb hE.2.2.1 hm 0 fw39_3 rfl rfl (by have := hR.n200; have := hn1; omega) (by decide) dM_begin_146 (fun H locs hm => ?_)
                                obtain ⟨w40, hhw40⟩ : ∃ z : Wd, z = wset w39 (as 1) (.inl (cI, 200, .inl (upd (g 1) (n) (1)))) := ⟨_, rfl⟩
                                have hm : mS B D CLS s.heap w40 H locs := by rw [hhw40]; exact hm
                                have hw40 : w40 = wset (wset (wset (wset (w) (r) (.inr (2, [.int (0), .int (now), .int (nI n), .ref (as 0), .ref (as 1), .ref (as 2), .ref (as 3), .ref (as 4), .ref (as 5), .ref (as 6), .ref (as 7), .ref (as 8)]))) (as 0) (.inl (cI, 200, .inl (upd (g 0) (n) (x))))) (as 2) (.inl (cZ, 200, .inl (upd (g 2) (n) (0))))) (as 1) (.inl (cI, 200, .inl (upd (g 1) (n) (1)))) := by rw [hhw40, hw39]
                                have fw40 : w40 (as 1) = some (.inl (cI, 200, .inl (upd (g 1) (n) (1)))) := by rw [hhw40]; exact wset_at _ _ _
                                have fw40_1 := (show w40 (as 2) = w39 (as 2) by rw [hhw40]; exact wset_ne (hR.nn (by decide : 2 < 9) (by decide : 1 < 9) (by decide))).trans fw39
                                have fw40_2 := (show w40 (as 0) = w39 (as 0) by rw [hhw40]; exact wset_ne (hR.nn (by decide : 0 < 9) (by decide : 1 < 9) (by decide))).trans fw39_1
                                have fw40_3 := (show w40 (r) = w39 (r) by rw [hhw40]; exact wset_ne (Ne.symm (hR.ne (by decide : 1 < 9)))).trans fw39_2
                                have fw40_4 := (show w40 (as 3) = w39 (as 3) by rw [hhw40]; exact wset_ne (hR.nn (by decide : 3 < 9) (by decide : 1 < 9) (by decide))).trans fw39_4
                                have fw40_5 := (show w40 (as 4) = w39 (as 4) by rw [hhw40]; exact wset_ne (hR.nn (by decide : 4 < 9) (by decide : 1 < 9) (by decide))).trans fw39_5
                                have fw40_6 := (show w40 (as 5) = w39 (as 5) by rw [hhw40]; exact wset_ne (hR.nn (by decide : 5 < 9) (by decide : 1 < 9) (by decide))).trans fw39_6
                                have fw40_7 := (show w40 (as 6) = w39 (as 6) by rw [hhw40]; exact wset_ne (hR.nn (by decide : 6 < 9) (by decide : 1 < 9) (by decide))).trans fw39_7
                                have fw40_8 := (show w40 (as 7) = w39 (as 7) by rw [hhw40]; exact wset_ne (hR.nn (by decide : 7 < 9) (by decide : 1 < 9) (by decide))).trans fw39_8
                                have fw40_9 := (show w40 (as 8) = w39 (as 8) by rw [hhw40]; exact wset_ne (hR.nn (by decide : 8 < 9) (by decide : 1 < 9) (by decide))).trans fw39_9
                                refine lv_aload_n hx hb dM_begin_147 rfl (lv_at hl 1 rfl) ?_
                                refine g_M_M_20 (v := .ref (as 3)) hx hb hE hm fw40_3 rfl dM_begin_148 ?_
                                refine lv_aload_n hx hb dM_begin_151 rfl (lv_at hl 1 rfl) ?_
                                refine g_M_M_46 (v := .int (nI n)) hx hb hE hm fw40_3 rfl dM_begin_152 ?_
                                refine lv_iload_n hx hb dM_begin_155 rfl (lv_at hl 0 rfl) ?_
                                refine iastE (n) hx hb hE.2.2.1 hm 0 fw40_4 rfl rfl (by have := hR.n200; have := hn1; omega) (by decide) dM_begin_156 (fun H locs hm => ?_)
                                obtain ⟨w41, hhw41⟩ : ∃ z : Wd, z = wset w40 (as 3) (.inl (cI, 200, .inl (upd (g 3) (n) (nI b)))) := ⟨_, rfl⟩
                                have hm : mS B D CLS s.heap w41 H locs := by rw [hhw41]; exact hm
                                have hw41 : w41 = wset (wset (wset (wset (wset (w) (r) (.inr (2, [.int (0), .int (now), .int (nI n), .ref (as 0), .ref (as 1), .ref (as 2), .ref (as 3), .ref (as 4), .ref (as 5), .ref (as 6), .ref (as 7), .ref (as 8)]))) (as 0) (.inl (cI, 200, .inl (upd (g 0) (n) (x))))) (as 2) (.inl (cZ, 200, .inl (upd (g 2) (n) (0))))) (as 1) (.inl (cI, 200, .inl (upd (g 1) (n) (1))))) (as 3) (.inl (cI, 200, .inl (upd (g 3) (n) (nI b)))) := by rw [hhw41, hw40]
                                have fw41 : w41 (as 3) = some (.inl (cI, 200, .inl (upd (g 3) (n) (nI b)))) := by rw [hhw41]; exact wset_at _ _ _
                                have fw41_1 := (show w41 (as 1) = w40 (as 1) by rw [hhw41]; exact wset_ne (hR.nn (by decide : 1 < 9) (by decide : 3 < 9) (by decide))).trans fw40
                                have fw41_2 := (show w41 (as 2) = w40 (as 2) by rw [hhw41]; exact wset_ne (hR.nn (by decide : 2 < 9) (by decide : 3 < 9) (by decide))).trans fw40_1
                                have fw41_3 := (show w41 (as 0) = w40 (as 0) by rw [hhw41]; exact wset_ne (hR.nn (by decide : 0 < 9) (by decide : 3 < 9) (by decide))).trans fw40_2
                                have fw41_4 := (show w41 (r) = w40 (r) by rw [hhw41]; exact wset_ne (Ne.symm (hR.ne (by decide : 3 < 9)))).trans fw40_3
                                have fw41_5 := (show w41 (as 4) = w40 (as 4) by rw [hhw41]; exact wset_ne (hR.nn (by decide : 4 < 9) (by decide : 3 < 9) (by decide))).trans fw40_5
                                have fw41_6 := (show w41 (as 5) = w40 (as 5) by rw [hhw41]; exact wset_ne (hR.nn (by decide : 5 < 9) (by decide : 3 < 9) (by decide))).trans fw40_6
                                have fw41_7 := (show w41 (as 6) = w40 (as 6) by rw [hhw41]; exact wset_ne (hR.nn (by decide : 6 < 9) (by decide : 3 < 9) (by decide))).trans fw40_7
                                have fw41_8 := (show w41 (as 7) = w40 (as 7) by rw [hhw41]; exact wset_ne (hR.nn (by decide : 7 < 9) (by decide : 3 < 9) (by decide))).trans fw40_8
                                have fw41_9 := (show w41 (as 8) = w40 (as 8) by rw [hhw41]; exact wset_ne (hR.nn (by decide : 8 < 9) (by decide : 3 < 9) (by decide))).trans fw40_9
                                refine lv_aload_n hx hb dM_begin_157 rfl (lv_at hl 1 rfl) ?_
                                refine g_M_M_23 (v := .ref (as 4)) hx hb hE hm fw41_4 rfl dM_begin_158 ?_
                                refine lv_aload_n hx hb dM_begin_161 rfl (lv_at hl 1 rfl) ?_
                                refine g_M_M_46 (v := .int (nI n)) hx hb hE hm fw41_4 rfl dM_begin_162 ?_
                                refine lv_aload_n hx hb dM_begin_165 rfl (lv_at hl 1 rfl) ?_
                                refine g_M_M_43 (v := .int (now)) hx hb hE hm fw41_4 rfl dM_begin_166 ?_
                                refine iastE (n) hx hb hE.2.2.1 hm 0 fw41_5 rfl rfl (by have := hR.n200; have := hn1; omega) (by decide) dM_begin_169 (fun H locs hm => ?_)
                                obtain ⟨w42, hhw42⟩ : ∃ z : Wd, z = wset w41 (as 4) (.inl (cI, 200, .inl (upd (g 4) (n) (now)))) := ⟨_, rfl⟩
                                have hm : mS B D CLS s.heap w42 H locs := by rw [hhw42]; exact hm
                                have hw42 : w42 = wset (wset (wset (wset (wset (wset (w) (r) (.inr (2, [.int (0), .int (now), .int (nI n), .ref (as 0), .ref (as 1), .ref (as 2), .ref (as 3), .ref (as 4), .ref (as 5), .ref (as 6), .ref (as 7), .ref (as 8)]))) (as 0) (.inl (cI, 200, .inl (upd (g 0) (n) (x))))) (as 2) (.inl (cZ, 200, .inl (upd (g 2) (n) (0))))) (as 1) (.inl (cI, 200, .inl (upd (g 1) (n) (1))))) (as 3) (.inl (cI, 200, .inl (upd (g 3) (n) (nI b))))) (as 4) (.inl (cI, 200, .inl (upd (g 4) (n) (now)))) := by rw [hhw42, hw41]
                                have fw42 : w42 (as 4) = some (.inl (cI, 200, .inl (upd (g 4) (n) (now)))) := by rw [hhw42]; exact wset_at _ _ _
                                have fw42_1 := (show w42 (as 3) = w41 (as 3) by rw [hhw42]; exact wset_ne (hR.nn (by decide : 3 < 9) (by decide : 4 < 9) (by decide))).trans fw41
                                have fw42_2 := (show w42 (as 1) = w41 (as 1) by rw [hhw42]; exact wset_ne (hR.nn (by decide : 1 < 9) (by decide : 4 < 9) (by decide))).trans fw41_1
                                have fw42_3 := (show w42 (as 2) = w41 (as 2) by rw [hhw42]; exact wset_ne (hR.nn (by decide : 2 < 9) (by decide : 4 < 9) (by decide))).trans fw41_2
                                have fw42_4 := (show w42 (as 0) = w41 (as 0) by rw [hhw42]; exact wset_ne (hR.nn (by decide : 0 < 9) (by decide : 4 < 9) (by decide))).trans fw41_3
                                have fw42_5 := (show w42 (r) = w41 (r) by rw [hhw42]; exact wset_ne (Ne.symm (hR.ne (by decide : 4 < 9)))).trans fw41_4
                                have fw42_6 := (show w42 (as 5) = w41 (as 5) by rw [hhw42]; exact wset_ne (hR.nn (by decide : 5 < 9) (by decide : 4 < 9) (by decide))).trans fw41_6
                                have fw42_7 := (show w42 (as 6) = w41 (as 6) by rw [hhw42]; exact wset_ne (hR.nn (by decide : 6 < 9) (by decide : 4 < 9) (by decide))).trans fw41_7
                                have fw42_8 := (show w42 (as 7) = w41 (as 7) by rw [hhw42]; exact wset_ne (hR.nn (by decide : 7 < 9) (by decide : 4 < 9) (by decide))).trans fw41_8
                                have fw42_9 := (show w42 (as 8) = w41 (as 8) by rw [hhw42]; exact wset_ne (hR.nn (by decide : 8 < 9) (by decide : 4 < 9) (by decide))).trans fw41_9
                                refine lv_aload_n hx hb dM_begin_170 rfl (lv_at hl 1 rfl) ?_
                                refine g_M_M_26 (v := .ref (as 5)) hx hb hE hm fw42_5 rfl dM_begin_171 ?_
                                refine lv_aload_n hx hb dM_begin_174 rfl (lv_at hl 1 rfl) ?_
                                refine g_M_M_46 (v := .int (nI n)) hx hb hE hm fw42_5 rfl dM_begin_175 ?_
                                refine lv_iconst (v := (-1)) hx hb dM_begin_178 (by decide) ?_
                                refine iastE (n) hx hb hE.2.2.1 hm 0 fw42_6 rfl rfl (by have := hR.n200; have := hn1; omega) (by decide) dM_begin_179 (fun H locs hm => ?_)
                                obtain ⟨w43, hhw43⟩ : ∃ z : Wd, z = wset w42 (as 5) (.inl (cI, 200, .inl (upd (g 5) (n) ((-1))))) := ⟨_, rfl⟩
                                have hm : mS B D CLS s.heap w43 H locs := by rw [hhw43]; exact hm
                                have hw43 : w43 = wset (wset (wset (wset (wset (wset (wset (w) (r) (.inr (2, [.int (0), .int (now), .int (nI n), .ref (as 0), .ref (as 1), .ref (as 2), .ref (as 3), .ref (as 4), .ref (as 5), .ref (as 6), .ref (as 7), .ref (as 8)]))) (as 0) (.inl (cI, 200, .inl (upd (g 0) (n) (x))))) (as 2) (.inl (cZ, 200, .inl (upd (g 2) (n) (0))))) (as 1) (.inl (cI, 200, .inl (upd (g 1) (n) (1))))) (as 3) (.inl (cI, 200, .inl (upd (g 3) (n) (nI b))))) (as 4) (.inl (cI, 200, .inl (upd (g 4) (n) (now))))) (as 5) (.inl (cI, 200, .inl (upd (g 5) (n) ((-1))))) := by rw [hhw43, hw42]
                                have fw43 : w43 (as 5) = some (.inl (cI, 200, .inl (upd (g 5) (n) ((-1))))) := by rw [hhw43]; exact wset_at _ _ _
                                have fw43_1 := (show w43 (as 4) = w42 (as 4) by rw [hhw43]; exact wset_ne (hR.nn (by decide : 4 < 9) (by decide : 5 < 9) (by decide))).trans fw42
                                have fw43_2 := (show w43 (as 3) = w42 (as 3) by rw [hhw43]; exact wset_ne (hR.nn (by decide : 3 < 9) (by decide : 5 < 9) (by decide))).trans fw42_1
                                have fw43_3 := (show w43 (as 1) = w42 (as 1) by rw [hhw43]; exact wset_ne (hR.nn (by decide : 1 < 9) (by decide : 5 < 9) (by decide))).trans fw42_2
                                have fw43_4 := (show w43 (as 2) = w42 (as 2) by rw [hhw43]; exact wset_ne (hR.nn (by decide : 2 < 9) (by decide : 5 < 9) (by decide))).trans fw42_3
                                have fw43_5 := (show w43 (as 0) = w42 (as 0) by rw [hhw43]; exact wset_ne (hR.nn (by decide : 0 < 9) (by decide : 5 < 9) (by decide))).trans fw42_4
                                have fw43_6 := (show w43 (r) = w42 (r) by rw [hhw43]; exact wset_ne (Ne.symm (hR.ne (by decide : 5 < 9)))).trans fw42_5
                                have fw43_7 := (show w43 (as 6) = w42 (as 6) by rw [hhw43]; exact wset_ne (hR.nn (by decide : 6 < 9) (by decide : 5 < 9) (by decide))).trans fw42_7
                                have fw43_8 := (show w43 (as 7) = w42 (as 7) by rw [hhw43]; exact wset_ne (hR.nn (by decide : 7 < 9) (by decide : 5 < 9) (by decide))).trans fw42_8
                                have fw43_9 := (show w43 (as 8) = w42 (as 8) by rw [hhw43]; exact wset_ne (hR.nn (by decide : 8 < 9) (by decide : 5 < 9) (by decide))).trans fw42_9
                                refine lv_aload_n hx hb dM_begin_180 rfl (lv_at hl 1 rfl) ?_
                                refine g_M_M_29 (v := .ref (as 6)) hx hb hE hm fw43_6 rfl dM_begin_181 ?_
                                refine lv_aload_n hx hb dM_begin_184 rfl (lv_at hl 1 rfl) ?_
                                refine g_M_M_46 (v := .int (nI n)) hx hb hE hm fw43_6 rfl dM_begin_185 ?_
                                refine lv_iconst (v := 0) hx hb dM_begin_188 (by decide) ?_
                                refine iastE (n) hx hb hE.2.2.1 hm 0 fw43_7 rfl rfl (by have := hR.n200; have := hn1; omega) (by decide) dM_begin_189 (fun H locs hm => ?_)
                                obtain ⟨w44, hhw44⟩ : ∃ z : Wd, z = wset w43 (as 6) (.inl (cI, 200, .inl (upd (g 6) (n) (0)))) := ⟨_, rfl⟩
                                have hm : mS B D CLS s.heap w44 H locs := by rw [hhw44]; exact hm
                                have hw44 : w44 = wset (wset (wset (wset (wset (wset (wset (wset (w) (r) (.inr (2, [.int (0), .int (now), .int (nI n), .ref (as 0), .ref (as 1), .ref (as 2), .ref (as 3), .ref (as 4), .ref (as 5), .ref (as 6), .ref (as 7), .ref (as 8)]))) (as 0) (.inl (cI, 200, .inl (upd (g 0) (n) (x))))) (as 2) (.inl (cZ, 200, .inl (upd (g 2) (n) (0))))) (as 1) (.inl (cI, 200, .inl (upd (g 1) (n) (1))))) (as 3) (.inl (cI, 200, .inl (upd (g 3) (n) (nI b))))) (as 4) (.inl (cI, 200, .inl (upd (g 4) (n) (now))))) (as 5) (.inl (cI, 200, .inl (upd (g 5) (n) ((-1)))))) (as 6) (.inl (cI, 200, .inl (upd (g 6) (n) (0)))) := by rw [hhw44, hw43]
                                have fw44 : w44 (as 6) = some (.inl (cI, 200, .inl (upd (g 6) (n) (0)))) := by rw [hhw44]; exact wset_at _ _ _
                                have fw44_1 := (show w44 (as 5) = w43 (as 5) by rw [hhw44]; exact wset_ne (hR.nn (by decide : 5 < 9) (by decide : 6 < 9) (by decide))).trans fw43
                                have fw44_2 := (show w44 (as 4) = w43 (as 4) by rw [hhw44]; exact wset_ne (hR.nn (by decide : 4 < 9) (by decide : 6 < 9) (by decide))).trans fw43_1
                                have fw44_3 := (show w44 (as 3) = w43 (as 3) by rw [hhw44]; exact wset_ne (hR.nn (by decide : 3 < 9) (by decide : 6 < 9) (by decide))).trans fw43_2
                                have fw44_4 := (show w44 (as 1) = w43 (as 1) by rw [hhw44]; exact wset_ne (hR.nn (by decide : 1 < 9) (by decide : 6 < 9) (by decide))).trans fw43_3
                                have fw44_5 := (show w44 (as 2) = w43 (as 2) by rw [hhw44]; exact wset_ne (hR.nn (by decide : 2 < 9) (by decide : 6 < 9) (by decide))).trans fw43_4
                                have fw44_6 := (show w44 (as 0) = w43 (as 0) by rw [hhw44]; exact wset_ne (hR.nn (by decide : 0 < 9) (by decide : 6 < 9) (by decide))).trans fw43_5
                                have fw44_7 := (show w44 (r) = w43 (r) by rw [hhw44]; exact wset_ne (Ne.symm (hR.ne (by decide : 6 < 9)))).trans fw43_6
                                have fw44_8 := (show w44 (as 7) = w43 (as 7) by rw [hhw44]; exact wset_ne (hR.nn (by decide : 7 < 9) (by decide : 6 < 9) (by decide))).trans fw43_8
                                have fw44_9 := (show w44 (as 8) = w43 (as 8) by rw [hhw44]; exact wset_ne (hR.nn (by decide : 8 < 9) (by decide : 6 < 9) (by decide))).trans fw43_9
                                refine lv_aload_n hx hb dM_begin_190 rfl (lv_at hl 1 rfl) ?_
                                refine g_M_M_32 (v := .ref (as 7)) hx hb hE hm fw44_7 rfl dM_begin_191 ?_
                                refine lv_aload_n hx hb dM_begin_194 rfl (lv_at hl 1 rfl) ?_
                                refine g_M_M_46 (v := .int (nI n)) hx hb hE hm fw44_7 rfl dM_begin_195 ?_
                                refine lv_iconst (v := 0) hx hb dM_begin_198 (by decide) ?_
                                refine bastE (n) hx hb hE.2.2.1 hm 1 fw44_8 rfl rfl (by have := hR.n200; have := hn1; omega) (by decide) (by decide) dM_begin_199 (fun H locs hm => ?_)
                                obtain ⟨w45, hhw45⟩ : ∃ z : Wd, z = wset w44 (as 7) (.inl (cZ, 200, .inl (upd (g 7) (n) (0)))) := ⟨_, rfl⟩
                                have hm : mS B D CLS s.heap w45 H locs := by rw [hhw45]; exact hm
                                have hw45 : w45 = wset (wset (wset (wset (wset (wset (wset (wset (wset (w) (r) (.inr (2, [.int (0), .int (now), .int (nI n), .ref (as 0), .ref (as 1), .ref (as 2), .ref (as 3), .ref (as 4), .ref (as 5), .ref (as 6), .ref (as 7), .ref (as 8)]))) (as 0) (.inl (cI, 200, .inl (upd (g 0) (n) (x))))) (as 2) (.inl (cZ, 200, .inl (upd (g 2) (n) (0))))) (as 1) (.inl (cI, 200, .inl (upd (g 1) (n) (1))))) (as 3) (.inl (cI, 200, .inl (upd (g 3) (n) (nI b))))) (as 4) (.inl (cI, 200, .inl (upd (g 4) (n) (now))))) (as 5) (.inl (cI, 200, .inl (upd (g 5) (n) ((-1)))))) (as 6) (.inl (cI, 200, .inl (upd (g 6) (n) (0))))) (as 7) (.inl (cZ, 200, .inl (upd (g 7) (n) (0)))) := by rw [hhw45, hw44]
                                have fw45 : w45 (as 7) = some (.inl (cZ, 200, .inl (upd (g 7) (n) (0)))) := by rw [hhw45]; exact wset_at _ _ _
                                have fw45_1 := (show w45 (as 6) = w44 (as 6) by rw [hhw45]; exact wset_ne (hR.nn (by decide : 6 < 9) (by decide : 7 < 9) (by decide))).trans fw44
                                have fw45_2 := (show w45 (as 5) = w44 (as 5) by rw [hhw45]; exact wset_ne (hR.nn (by decide : 5 < 9) (by decide : 7 < 9) (by decide))).trans fw44_1
                                have fw45_3 := (show w45 (as 4) = w44 (as 4) by rw [hhw45]; exact wset_ne (hR.nn (by decide : 4 < 9) (by decide : 7 < 9) (by decide))).trans fw44_2
                                have fw45_4 := (show w45 (as 3) = w44 (as 3) by rw [hhw45]; exact wset_ne (hR.nn (by decide : 3 < 9) (by decide : 7 < 9) (by decide))).trans fw44_3
                                have fw45_5 := (show w45 (as 1) = w44 (as 1) by rw [hhw45]; exact wset_ne (hR.nn (by decide : 1 < 9) (by decide : 7 < 9) (by decide))).trans fw44_4
                                have fw45_6 := (show w45 (as 2) = w44 (as 2) by rw [hhw45]; exact wset_ne (hR.nn (by decide : 2 < 9) (by decide : 7 < 9) (by decide))).trans fw44_5
                                have fw45_7 := (show w45 (as 0) = w44 (as 0) by rw [hhw45]; exact wset_ne (hR.nn (by decide : 0 < 9) (by decide : 7 < 9) (by decide))).trans fw44_6
                                have fw45_8 := (show w45 (r) = w44 (r) by rw [hhw45]; exact wset_ne (Ne.symm (hR.ne (by decide : 7 < 9)))).trans fw44_7
                                have fw45_9 := (show w45 (as 8) = w44 (as 8) by rw [hhw45]; exact wset_ne (hR.nn (by decide : 8 < 9) (by decide : 7 < 9) (by decide))).trans fw44_9
                                refine lv_iconst (v := 0) hx hb dM_begin_200 (by decide) ?_
                                refine lv_istore (lv' := [(4, .int (0)), (3, .int (nI b)), (0, .ref (r)), (1, .int (x)), (2, .int (1))]) hx hb dM_begin_201 hl (by decide) rfl (fun ls hl => ?_)
                                obtain ⟨q8, hq8⟩ : ∃ z, z = upG (upG (upG (upG (upG (upG (upG (upG (g) 0 (upd (g 0) (n) (x))) 2 (upd (g 2) (n) (0))) 1 (upd (g 1) (n) (1))) 3 (upd (g 3) (n) (nI b))) 4 (upd (g 4) (n) (now))) 5 (upd (g 5) (n) ((-1)))) 6 (upd (g 6) (n) (0))) 7 (upd (g 7) (n) (0)) := ⟨_, rfl⟩
                                have loop : ∀ (d i : Nat), i + d = 50 → ∀ (q9 : Nat → Nat → Int32) (v : Wd), rA cI cZ r as q9 0 now n v → rK r as w v → (∀ k, k < 8 → q9 k = q8 k) → (∀ x, x < i → q9 8 (50 * n + x) = -2) → (∀ x, x < 50 * n ∨ 50 * n + 50 ≤ x → q9 8 x = g 8 x) → ∀ (H : Heap) (locs : List Loc) (ls : Array Slot), mS B D CLS s.heap v H locs → lv_has ls 5 [(4, .int (nI i)), (3, .int (nI b)), (0, .ref (r)), (1, .int (x)), (2, .int (1))] → W p l e ({ frames := 1, cells := 0, slots := 0, locals := 24 }) s m [.ref (r), .int (x), .int (1)].toArray below meth c H locs 0 0 (MQ below (va_Qi (fun z u => ((bgs n J x 1 = false ∧ z = -1 ∧ rR cI cZ r as g 0 now n J u) ∨ (bgs n J x 1 = true ∧ z = nI n ∧ ∃ g2, rR cI cZ r as g2 0 now (n + 1) (upJ J n (nwJ x 1 (some b) now)) u)) ∧ rK r as w u) (mE B D CLS) (fun q => B ≤ q)) [.ref (r), .int (x), .int (1)].toArray s 0 0 (fun q => B ≤ q)) (F0 m 203 ls []) := by
                                  intro d
                                  induction d with
                                  | zero =>
                                    intro i hi q9 v hv hk9 h9 ht9 ho9  H locs ls hm hl
                                    refine lv_iload hx hb dM_begin_203 (lv_at hl 0 rfl) ?_
                                    refine lv_bipush (v := 50) hx hb dM_begin_205 (by decide) ?_
                                    refine lv_icmp_ge (tgt := 233) hx hb dM_begin_207 (by decide) (fun c_207 => ?_) (fun c_207 => ?_)
                                    · rw [← Int32.not_lt] at c_207
                                      refine lv_aload_n hx hb dM_begin_233 rfl (lv_at hl 2 rfl) ?_
                                      refine lv_dup hx hb dM_begin_234 rfl ?_
                                      refine g_M_M_46 (v := .int (nI n)) hx hb hE hm hv.1 rfl dM_begin_235 ?_
                                      refine lv_iconst (v := 1) hx hb dM_begin_238 (by decide) ?_
                                      refine lv_iadd hx hb dM_begin_239 ?_
                                      refine p_M_M_46 (x := (nI n) + (1)) hx hb hE hm hv.1 (by simp) dM_begin_240 (fun H locs hm => ?_)
                                      obtain ⟨w1, hhw1⟩ : ∃ z : Wd, z = wset v (r) (.inr (2, [.int (0), .int (now), .int ((nI n) + (1)), .ref (as 0), .ref (as 1), .ref (as 2), .ref (as 3), .ref (as 4), .ref (as 5), .ref (as 6), .ref (as 7), .ref (as 8)])) := ⟨_, rfl⟩
                                      have hm : mS B D CLS s.heap w1 H locs := by rw [hhw1]; exact hm
                                      have hw1 : w1 = wset (v) (r) (.inr (2, [.int (0), .int (now), .int ((nI n) + (1)), .ref (as 0), .ref (as 1), .ref (as 2), .ref (as 3), .ref (as 4), .ref (as 5), .ref (as 6), .ref (as 7), .ref (as 8)])) := by rw [hhw1]
                                      have fw1 : w1 (r) = some (.inr (2, [.int (0), .int (now), .int ((nI n) + (1)), .ref (as 0), .ref (as 1), .ref (as 2), .ref (as 3), .ref (as 4), .ref (as 5), .ref (as 6), .ref (as 7), .ref (as 8)])) := by rw [hhw1]; exact wset_at _ _ _
                                      refine lv_aload_n hx hb dM_begin_243 rfl (lv_at hl 2 rfl) ?_
                                      refine g_M_M_46 (v := .int ((nI n) + (1))) hx hb hE hm fw1 rfl dM_begin_244 ?_
                                      refine lv_iconst (v := 1) hx hb dM_begin_247 (by decide) ?_
                                      refine lv_isub hx hb dM_begin_248 ?_
                                      have hF := hv.set 0 now (n + 1)
                                      rw [nI_succ] at hF
                                      exact mreti hx hb hr hlk hm ⟨Or.inr ⟨hB, by rw [← nI_succ]; exact nI_pred n, q9, by rw [hw1]; exact hF.R hn1 (hR.2.2.2.2.1.beg (b := some b) (by rw [h9 0 (by decide), hq8]; simp [upG, bI, oI]) (by rw [h9 1 (by decide), hq8]; simp [upG, bI, oI]) (by rw [h9 2 (by decide), hq8]; simp [upG, bI, oI]) (by rw [h9 3 (by decide), hq8]; simp [upG, bI, oI]) (by rw [h9 4 (by decide), hq8]; simp [upG, bI, oI]) (by rw [h9 5 (by decide), hq8]; simp [upG, bI, oI]) (by rw [h9 6 (by decide), hq8]; simp [upG, bI, oI]) (by rw [h9 7 (by decide), hq8]; simp [upG, bI, oI]) (fun f hf => ht9 f (by omega)) (fun z hz => ho9 z (Or.inl hz))) (bs_beg hR.2.2.2.2.2 (fun i hi => by cases hi; exact hbn))⟩, by rw [hw1]; exact hk9.set rF_r⟩ dM_begin_249
                                    · exact absurd (nI_le (a := 50) (b := i) (by omega) (by omega)) c_207
                                  | succ d ih =>
                                    intro i hi q9 v hv hk9 h9 ht9 ho9  H locs ls hm hl
                                    have hiN : i < 50 := by omega
                                    refine lv_iload hx hb dM_begin_203 (lv_at hl 0 rfl) ?_
                                    refine lv_bipush (v := 50) hx hb dM_begin_205 (by decide) ?_
                                    refine lv_icmp_ge (tgt := 233) hx hb dM_begin_207 (by decide) (fun c_207 => ?_) (fun c_207 => ?_)
                                    · exact absurd c_207 (nI_ge (a := i) (b := 50) (by omega) (by omega))
                                    · rw [Int32.not_le] at c_207
                                      refine lv_aload_n hx hb dM_begin_210 rfl (lv_at hl 2 rfl) ?_
                                      refine g_M_M_35 (v := .ref (as 8)) hx hb hE hm hv.1 rfl dM_begin_211 ?_
                                      refine lv_bipush (v := 50) hx hb dM_begin_214 (by decide) ?_
                                      refine lv_aload_n hx hb dM_begin_216 rfl (lv_at hl 2 rfl) ?_
                                      refine g_M_M_46 (v := .int (nI n)) hx hb hE hm hv.1 rfl dM_begin_217 ?_
                                      refine lv_imul hx hb dM_begin_220 ?_
                                      refine lv_iload hx hb dM_begin_221 (lv_at hl 0 rfl) ?_
                                      refine lv_iadd hx hb dM_begin_223 ?_
                                      refine lv_bipush (v := (-2)) hx hb dM_begin_224 (by decide) ?_
                                      refine iastE (50 * n + i) hx hb hE.2.2.1 hm 0 hv.a8 rfl (i50 rfl) (by omega) (by decide) dM_begin_226 (fun H locs hm => ?_)
                                      obtain ⟨w1, hhw1⟩ : ∃ z : Wd, z = wset v (as 8) (.inl (cI, 10000, .inl (upd (q9 8) (50 * n + i) ((-2))))) := ⟨_, rfl⟩
                                      have hm : mS B D CLS s.heap w1 H locs := by rw [hhw1]; exact hm
                                      have hw1 : w1 = wset (v) (as 8) (.inl (cI, 10000, .inl (upd (q9 8) (50 * n + i) ((-2))))) := by rw [hhw1]
                                      have fw1 : w1 (as 8) = some (.inl (cI, 10000, .inl (upd (q9 8) (50 * n + i) ((-2))))) := by rw [hhw1]; exact wset_at _ _ _
                                      refine lv_iinc (v := nI i + 1) (lv' := [(4, .int (nI i + 1)), (3, .int (nI b)), (0, .ref (r)), (1, .int (x)), (2, .int (1))]) hx hb dM_begin_227 hl (k := 0) rfl rfl (by decide) rfl (fun ls hl => ?_)
                                      refine lv_goto (tgt := 203) hx hb dM_begin_230 (by decide) ?_
                                      rw [nI_1] at hl
                                      refine ih (i + 1) (by omega) (upG q9 8 (upd (q9 8) (50 * n + i) (-2))) w1 (by rw [hw1]; exact hv.put (by decide : 8 < 9) _) (by rw [hw1]; exact hk9.set (rF_a (by decide))) (fun k hk => by rw [upG_ne (by omega)]; exact h9 k hk) (fun x hx => ?_) (fun x hx => ?_) H locs ls hm (lv_sub hl [0, 1, 2, 3, 4] rfl)
                                      · rw [upG_at]
                                        by_cases e9 : x = i
                                        · simp [upd, e9]
                                        · rw [show upd (q9 8) (50 * n + i) (-2) (50 * n + x) = q9 8 (50 * n + x) by simp [upd]; intro h; omega]; exact ht9 x (by omega)
                                      · rw [upG_at, show upd (q9 8) (50 * n + i) (-2) x = q9 8 x by simp [upd]; intro h; omega]; exact ho9 x hx
                                exact loop 50 0 (by omega) q8 w45 (by rw [hq8, hw45]; exact ((((((((hR.A.set 0 now n).put (by decide : 0 < 9) _).put (by decide : 2 < 9) _).put (by decide : 1 < 9) _).put (by decide : 3 < 9) _).put (by decide : 4 < 9) _).put (by decide : 5 < 9) _).put (by decide : 6 < 9) _).put (by decide : 7 < 9) _) (by rw [hw45]; exact ((((((((rK.rf.set rF_r).set (rF_a (by decide))).set (rF_a (by decide))).set (rF_a (by decide))).set (rF_a (by decide))).set (rF_a (by decide))).set (rF_a (by decide))).set (rF_a (by decide))).set (rF_a (by decide))) (fun k hk => rfl) (fun x hx => absurd hx (Nat.not_lt_zero x)) (fun x hx => by rw [hq8]; simp [upG]) _ _ ls hm (by rw [nI_0]; exact lv_sub hl [0, 1, 2, 3, 4] rfl)
                              · exact absurd (nI_pos' (by omega)) c_138
                            · exact absurd (nI_pos' (by omega)) c_120
                    · first | exact absurd c_74 (by decide) | exact absurd (by decide) c_74
                  · subst e9
                    refine lv_iload_n hx hb dM_begin_73 rfl (lv_at hl 3 rfl) ?_
                    refine lv_if_ne (tgt := 81) hx hb dM_begin_74 (by decide) (fun c_74 => ?_) (fun c_74 => ?_)
                    · refine lv_aload_n hx hb dM_begin_81 rfl (lv_at hl 1 rfl) ?_
                      refine lv_iload_n hx hb dM_begin_82 rfl (lv_at hl 2 rfl) ?_
                      refine lv_iload_n hx hb dM_begin_83 rfl (lv_at hl 3 rfl) ?_
                      refine lv_iconst (v := 1) hx hb dM_begin_84 (by decide) ?_
                      refine lv_icmp_ne (tgt := 92) hx hb dM_begin_85 (by decide) (fun c_85 => ?_) (fun c_85 => ?_)
                      · refine lv_iconst (v := (-1)) hx hb dM_begin_92 (by decide) ?_
                        refine mcalli (mcV (n := 2) (As := [.int (x), .int ((-1))]) (rest := []) hx hb hml hE (kM_lastOne l B D cI cZ cL w1 r as g 0 now n J hR1 hM x ((-1))) q_352 q_354 qs_8 q_2 q_355 rfl rfl (by decide +kernel) ⟨Nat.le_of_ble_eq_true rfl, Nat.le_of_ble_eq_true rfl⟩ rfl hl.1 hm rfl hR1.1 rfl (Nat.le_of_ble_eq_true rfl) dM_begin_93 ⟨Nat.le_of_ble_eq_true rfl, Nat.le_of_ble_eq_true rfl⟩) hm (fun r46 u46 H locs hp46 hm => ?_)
                        obtain ⟨hr46, hu46⟩ := hp46
                        rw [hu46] at hm
                        rw [lastP_2] at hr46
                        subst hr46
                        have hbl := bOf_lt (n := n) (J := J) (s := x) (l := 2)
                        cases hbo : bOf n J x 2 with
                        | none =>
                          show W _ _ _ _ _ _ _ _ _ _ _ _ _ _ _ (F0 m 96 ls [.int (-1)])
                          refine lv_istore_n (lv' := [(3, .int (-1)), (0, .ref (r)), (1, .int (x)), (2, .int (2))]) hx hb dM_begin_96 rfl hl (by decide) rfl (fun ls hl => ?_)
                          refine lv_aload_n hx hb dM_begin_97 rfl (lv_at hl 1 rfl) ?_
                          refine g_M_M_7 (v := .ref (as 0)) hx hb hE hm hR1.1 rfl dM_begin_98 ?_
                          refine lv_aload_n hx hb dM_begin_101 rfl (lv_at hl 1 rfl) ?_
                          refine g_M_M_46 (v := .int (nI n)) hx hb hE hm hR1.1 rfl dM_begin_102 ?_
                          refine lv_iload_n hx hb dM_begin_105 rfl (lv_at hl 2 rfl) ?_
                          refine iastE (n) hx hb hE.2.2.1 hm 0 hR1.a0 rfl rfl (by have := hR.n200; have := hn1; omega) (by decide) dM_begin_106 (fun H locs hm => ?_)
                          obtain ⟨w47, hhw47⟩ : ∃ z : Wd, z = wset w1 (as 0) (.inl (cI, 200, .inl (upd (g 0) (n) (x)))) := ⟨_, rfl⟩
                          have hm : mS B D CLS s.heap w47 H locs := by rw [hhw47]; exact hm
                          have hw47 : w47 = wset (wset (w) (r) (.inr (2, [.int (0), .int (now), .int (nI n), .ref (as 0), .ref (as 1), .ref (as 2), .ref (as 3), .ref (as 4), .ref (as 5), .ref (as 6), .ref (as 7), .ref (as 8)]))) (as 0) (.inl (cI, 200, .inl (upd (g 0) (n) (x)))) := by rw [hhw47, hw1]
                          have fw47 : w47 (as 0) = some (.inl (cI, 200, .inl (upd (g 0) (n) (x)))) := by rw [hhw47]; exact wset_at _ _ _
                          have fw47_1 := (show w47 (r) = w1 (r) by rw [hhw47]; exact wset_ne (Ne.symm (hR.ne (by decide : 0 < 9)))).trans hR1.1
                          have fw47_2 := (show w47 (as 1) = w1 (as 1) by rw [hhw47]; exact wset_ne (hR.nn (by decide : 1 < 9) (by decide : 0 < 9) (by decide))).trans hR1.a1
                          have fw47_3 := (show w47 (as 2) = w1 (as 2) by rw [hhw47]; exact wset_ne (hR.nn (by decide : 2 < 9) (by decide : 0 < 9) (by decide))).trans hR1.a2
                          have fw47_4 := (show w47 (as 3) = w1 (as 3) by rw [hhw47]; exact wset_ne (hR.nn (by decide : 3 < 9) (by decide : 0 < 9) (by decide))).trans hR1.a3
                          have fw47_5 := (show w47 (as 4) = w1 (as 4) by rw [hhw47]; exact wset_ne (hR.nn (by decide : 4 < 9) (by decide : 0 < 9) (by decide))).trans hR1.a4
                          have fw47_6 := (show w47 (as 5) = w1 (as 5) by rw [hhw47]; exact wset_ne (hR.nn (by decide : 5 < 9) (by decide : 0 < 9) (by decide))).trans hR1.a5
                          have fw47_7 := (show w47 (as 6) = w1 (as 6) by rw [hhw47]; exact wset_ne (hR.nn (by decide : 6 < 9) (by decide : 0 < 9) (by decide))).trans hR1.a6
                          have fw47_8 := (show w47 (as 7) = w1 (as 7) by rw [hhw47]; exact wset_ne (hR.nn (by decide : 7 < 9) (by decide : 0 < 9) (by decide))).trans hR1.a7
                          have fw47_9 := (show w47 (as 8) = w1 (as 8) by rw [hhw47]; exact wset_ne (hR.nn (by decide : 8 < 9) (by decide : 0 < 9) (by decide))).trans hR1.a8
                          refine lv_aload_n hx hb dM_begin_107 rfl (lv_at hl 1 rfl) ?_
                          refine g_M_M_16 (v := .ref (as 2)) hx hb hE hm fw47_1 rfl dM_begin_108 ?_
                          refine lv_aload_n hx hb dM_begin_111 rfl (lv_at hl 1 rfl) ?_
                          refine g_M_M_46 (v := .int (nI n)) hx hb hE hm fw47_1 rfl dM_begin_112 ?_
                          refine lv_iload_n hx hb dM_begin_115 rfl (lv_at hl 3 rfl) ?_
                          refine lv_if_le (tgt := 127) hx hb dM_begin_116 (by decide) (fun c_116 => ?_) (fun c_116 => ?_)
                          · first | exact absurd c_116 (by decide) | exact absurd (by decide) c_116
                          · refine lv_iload_n hx hb dM_begin_119 rfl (lv_at hl 0 rfl) ?_
                            refine lv_if_ge (tgt := 127) hx hb dM_begin_120 (by decide) (fun c_120 => ?_) (fun c_120 => ?_)
                            · first | exact absurd c_120 (by decide) | exact absurd (by decide) c_120
                            · refine lv_iconst (v := 1) hx hb dM_begin_123 (by decide) ?_
                              refine lv_goto (tgt := 128) hx hb dM_begin_124 (by decide) ?_
                              refine bastE (n) hx hb hE.2.2.1 hm 1 fw47_3 rfl rfl (by have := hR.n200; have := hn1; omega) (by decide) (by decide) dM_begin_128 (fun H locs hm => ?_)
                              obtain ⟨w48, hhw48⟩ : ∃ z : Wd, z = wset w47 (as 2) (.inl (cZ, 200, .inl (upd (g 2) (n) (1)))) := ⟨_, rfl⟩
                              have hm : mS B D CLS s.heap w48 H locs := by rw [hhw48]; exact hm
                              have hw48 : w48 = wset (wset (wset (w) (r) (.inr (2, [.int (0), .int (now), .int (nI n), .ref (as 0), .ref (as 1), .ref (as 2), .ref (as 3), .ref (as 4), .ref (as 5), .ref (as 6), .ref (as 7), .ref (as 8)]))) (as 0) (.inl (cI, 200, .inl (upd (g 0) (n) (x))))) (as 2) (.inl (cZ, 200, .inl (upd (g 2) (n) (1)))) := by rw [hhw48, hw47]
                              have fw48 : w48 (as 2) = some (.inl (cZ, 200, .inl (upd (g 2) (n) (1)))) := by rw [hhw48]; exact wset_at _ _ _
                              have fw48_1 := (show w48 (as 0) = w47 (as 0) by rw [hhw48]; exact wset_ne (hR.nn (by decide : 0 < 9) (by decide : 2 < 9) (by decide))).trans fw47
                              have fw48_2 := (show w48 (r) = w47 (r) by rw [hhw48]; exact wset_ne (Ne.symm (hR.ne (by decide : 2 < 9)))).trans fw47_1
                              have fw48_3 := (show w48 (as 1) = w47 (as 1) by rw [hhw48]; exact wset_ne (hR.nn (by decide : 1 < 9) (by decide : 2 < 9) (by decide))).trans fw47_2
                              have fw48_4 := (show w48 (as 3) = w47 (as 3) by rw [hhw48]; exact wset_ne (hR.nn (by decide : 3 < 9) (by decide : 2 < 9) (by decide))).trans fw47_4
                              have fw48_5 := (show w48 (as 4) = w47 (as 4) by rw [hhw48]; exact wset_ne (hR.nn (by decide : 4 < 9) (by decide : 2 < 9) (by decide))).trans fw47_5
                              have fw48_6 := (show w48 (as 5) = w47 (as 5) by rw [hhw48]; exact wset_ne (hR.nn (by decide : 5 < 9) (by decide : 2 < 9) (by decide))).trans fw47_6
                              have fw48_7 := (show w48 (as 6) = w47 (as 6) by rw [hhw48]; exact wset_ne (hR.nn (by decide : 6 < 9) (by decide : 2 < 9) (by decide))).trans fw47_7
                              have fw48_8 := (show w48 (as 7) = w47 (as 7) by rw [hhw48]; exact wset_ne (hR.nn (by decide : 7 < 9) (by decide : 2 < 9) (by decide))).trans fw47_8
                              have fw48_9 := (show w48 (as 8) = w47 (as 8) by rw [hhw48]; exact wset_ne (hR.nn (by decide : 8 < 9) (by decide : 2 < 9) (by decide))).trans fw47_9
                              refine lv_aload_n hx hb dM_begin_129 rfl (lv_at hl 1 rfl) ?_
                              refine g_M_M_13 (v := .ref (as 1)) hx hb hE hm fw48_2 rfl dM_begin_130 ?_
                              refine lv_aload_n hx hb dM_begin_133 rfl (lv_at hl 1 rfl) ?_
                              refine g_M_M_46 (v := .int (nI n)) hx hb hE hm fw48_2 rfl dM_begin_134 ?_
                              refine lv_iload_n hx hb dM_begin_137 rfl (lv_at hl 0 rfl) ?_
                              refine lv_if_ge (tgt := 145) hx hb dM_begin_138 (by decide) (fun c_138 => ?_) (fun c_138 => ?_)
                              · first | exact absurd c_138 (by decide) | exact absurd (by decide) c_138
                              · refine lv_iconst (v := 0) hx hb dM_begin_141 (by decide) ?_
                                refine lv_goto (tgt := 146) hx hb dM_begin_142 (by decide) ?_
                                refine iastE (n) hx hb hE.2.2.1 hm 0 fw48_3 rfl rfl (by have := hR.n200; have := hn1; omega) (by decide) dM_begin_146 (fun H locs hm => ?_)
                                obtain ⟨w49, hhw49⟩ : ∃ z : Wd, z = wset w48 (as 1) (.inl (cI, 200, .inl (upd (g 1) (n) (0)))) := ⟨_, rfl⟩
                                have hm : mS B D CLS s.heap w49 H locs := by rw [hhw49]; exact hm
                                have hw49 : w49 = wset (wset (wset (wset (w) (r) (.inr (2, [.int (0), .int (now), .int (nI n), .ref (as 0), .ref (as 1), .ref (as 2), .ref (as 3), .ref (as 4), .ref (as 5), .ref (as 6), .ref (as 7), .ref (as 8)]))) (as 0) (.inl (cI, 200, .inl (upd (g 0) (n) (x))))) (as 2) (.inl (cZ, 200, .inl (upd (g 2) (n) (1))))) (as 1) (.inl (cI, 200, .inl (upd (g 1) (n) (0)))) := by rw [hhw49, hw48]
                                have fw49 : w49 (as 1) = some (.inl (cI, 200, .inl (upd (g 1) (n) (0)))) := by rw [hhw49]; exact wset_at _ _ _
                                have fw49_1 := (show w49 (as 2) = w48 (as 2) by rw [hhw49]; exact wset_ne (hR.nn (by decide : 2 < 9) (by decide : 1 < 9) (by decide))).trans fw48
                                have fw49_2 := (show w49 (as 0) = w48 (as 0) by rw [hhw49]; exact wset_ne (hR.nn (by decide : 0 < 9) (by decide : 1 < 9) (by decide))).trans fw48_1
                                have fw49_3 := (show w49 (r) = w48 (r) by rw [hhw49]; exact wset_ne (Ne.symm (hR.ne (by decide : 1 < 9)))).trans fw48_2
                                have fw49_4 := (show w49 (as 3) = w48 (as 3) by rw [hhw49]; exact wset_ne (hR.nn (by decide : 3 < 9) (by decide : 1 < 9) (by decide))).trans fw48_4
                                have fw49_5 := (show w49 (as 4) = w48 (as 4) by rw [hhw49]; exact wset_ne (hR.nn (by decide : 4 < 9) (by decide : 1 < 9) (by decide))).trans fw48_5
                                have fw49_6 := (show w49 (as 5) = w48 (as 5) by rw [hhw49]; exact wset_ne (hR.nn (by decide : 5 < 9) (by decide : 1 < 9) (by decide))).trans fw48_6
                                have fw49_7 := (show w49 (as 6) = w48 (as 6) by rw [hhw49]; exact wset_ne (hR.nn (by decide : 6 < 9) (by decide : 1 < 9) (by decide))).trans fw48_7
                                have fw49_8 := (show w49 (as 7) = w48 (as 7) by rw [hhw49]; exact wset_ne (hR.nn (by decide : 7 < 9) (by decide : 1 < 9) (by decide))).trans fw48_8
                                have fw49_9 := (show w49 (as 8) = w48 (as 8) by rw [hhw49]; exact wset_ne (hR.nn (by decide : 8 < 9) (by decide : 1 < 9) (by decide))).trans fw48_9
                                refine lv_aload_n hx hb dM_begin_147 rfl (lv_at hl 1 rfl) ?_
                                refine g_M_M_20 (v := .ref (as 3)) hx hb hE hm fw49_3 rfl dM_begin_148 ?_
                                refine lv_aload_n hx hb dM_begin_151 rfl (lv_at hl 1 rfl) ?_
                                refine g_M_M_46 (v := .int (nI n)) hx hb hE hm fw49_3 rfl dM_begin_152 ?_
                                refine lv_iload_n hx hb dM_begin_155 rfl (lv_at hl 0 rfl) ?_
                                refine iastE (n) hx hb hE.2.2.1 hm 0 fw49_4 rfl rfl (by have := hR.n200; have := hn1; omega) (by decide) dM_begin_156 (fun H locs hm => ?_)
                                obtain ⟨w50, hhw50⟩ : ∃ z : Wd, z = wset w49 (as 3) (.inl (cI, 200, .inl (upd (g 3) (n) (-1)))) := ⟨_, rfl⟩
                                have hm : mS B D CLS s.heap w50 H locs := by rw [hhw50]; exact hm
                                have hw50 : w50 = wset (wset (wset (wset (wset (w) (r) (.inr (2, [.int (0), .int (now), .int (nI n), .ref (as 0), .ref (as 1), .ref (as 2), .ref (as 3), .ref (as 4), .ref (as 5), .ref (as 6), .ref (as 7), .ref (as 8)]))) (as 0) (.inl (cI, 200, .inl (upd (g 0) (n) (x))))) (as 2) (.inl (cZ, 200, .inl (upd (g 2) (n) (1))))) (as 1) (.inl (cI, 200, .inl (upd (g 1) (n) (0))))) (as 3) (.inl (cI, 200, .inl (upd (g 3) (n) (-1)))) := by rw [hhw50, hw49]
                                have fw50 : w50 (as 3) = some (.inl (cI, 200, .inl (upd (g 3) (n) (-1)))) := by rw [hhw50]; exact wset_at _ _ _
                                have fw50_1 := (show w50 (as 1) = w49 (as 1) by rw [hhw50]; exact wset_ne (hR.nn (by decide : 1 < 9) (by decide : 3 < 9) (by decide))).trans fw49
                                have fw50_2 := (show w50 (as 2) = w49 (as 2) by rw [hhw50]; exact wset_ne (hR.nn (by decide : 2 < 9) (by decide : 3 < 9) (by decide))).trans fw49_1
                                have fw50_3 := (show w50 (as 0) = w49 (as 0) by rw [hhw50]; exact wset_ne (hR.nn (by decide : 0 < 9) (by decide : 3 < 9) (by decide))).trans fw49_2
                                have fw50_4 := (show w50 (r) = w49 (r) by rw [hhw50]; exact wset_ne (Ne.symm (hR.ne (by decide : 3 < 9)))).trans fw49_3
                                have fw50_5 := (show w50 (as 4) = w49 (as 4) by rw [hhw50]; exact wset_ne (hR.nn (by decide : 4 < 9) (by decide : 3 < 9) (by decide))).trans fw49_5
                                have fw50_6 := (show w50 (as 5) = w49 (as 5) by rw [hhw50]; exact wset_ne (hR.nn (by decide : 5 < 9) (by decide : 3 < 9) (by decide))).trans fw49_6
                                have fw50_7 := (show w50 (as 6) = w49 (as 6) by rw [hhw50]; exact wset_ne (hR.nn (by decide : 6 < 9) (by decide : 3 < 9) (by decide))).trans fw49_7
                                have fw50_8 := (show w50 (as 7) = w49 (as 7) by rw [hhw50]; exact wset_ne (hR.nn (by decide : 7 < 9) (by decide : 3 < 9) (by decide))).trans fw49_8
                                have fw50_9 := (show w50 (as 8) = w49 (as 8) by rw [hhw50]; exact wset_ne (hR.nn (by decide : 8 < 9) (by decide : 3 < 9) (by decide))).trans fw49_9
                                refine lv_aload_n hx hb dM_begin_157 rfl (lv_at hl 1 rfl) ?_
                                refine g_M_M_23 (v := .ref (as 4)) hx hb hE hm fw50_4 rfl dM_begin_158 ?_
                                refine lv_aload_n hx hb dM_begin_161 rfl (lv_at hl 1 rfl) ?_
                                refine g_M_M_46 (v := .int (nI n)) hx hb hE hm fw50_4 rfl dM_begin_162 ?_
                                refine lv_aload_n hx hb dM_begin_165 rfl (lv_at hl 1 rfl) ?_
                                refine g_M_M_43 (v := .int (now)) hx hb hE hm fw50_4 rfl dM_begin_166 ?_
                                refine iastE (n) hx hb hE.2.2.1 hm 0 fw50_5 rfl rfl (by have := hR.n200; have := hn1; omega) (by decide) dM_begin_169 (fun H locs hm => ?_)
                                obtain ⟨w51, hhw51⟩ : ∃ z : Wd, z = wset w50 (as 4) (.inl (cI, 200, .inl (upd (g 4) (n) (now)))) := ⟨_, rfl⟩
                                have hm : mS B D CLS s.heap w51 H locs := by rw [hhw51]; exact hm
                                have hw51 : w51 = wset (wset (wset (wset (wset (wset (w) (r) (.inr (2, [.int (0), .int (now), .int (nI n), .ref (as 0), .ref (as 1), .ref (as 2), .ref (as 3), .ref (as 4), .ref (as 5), .ref (as 6), .ref (as 7), .ref (as 8)]))) (as 0) (.inl (cI, 200, .inl (upd (g 0) (n) (x))))) (as 2) (.inl (cZ, 200, .inl (upd (g 2) (n) (1))))) (as 1) (.inl (cI, 200, .inl (upd (g 1) (n) (0))))) (as 3) (.inl (cI, 200, .inl (upd (g 3) (n) (-1))))) (as 4) (.inl (cI, 200, .inl (upd (g 4) (n) (now)))) := by rw [hhw51, hw50]
                                have fw51 : w51 (as 4) = some (.inl (cI, 200, .inl (upd (g 4) (n) (now)))) := by rw [hhw51]; exact wset_at _ _ _
                                have fw51_1 := (show w51 (as 3) = w50 (as 3) by rw [hhw51]; exact wset_ne (hR.nn (by decide : 3 < 9) (by decide : 4 < 9) (by decide))).trans fw50
                                have fw51_2 := (show w51 (as 1) = w50 (as 1) by rw [hhw51]; exact wset_ne (hR.nn (by decide : 1 < 9) (by decide : 4 < 9) (by decide))).trans fw50_1
                                have fw51_3 := (show w51 (as 2) = w50 (as 2) by rw [hhw51]; exact wset_ne (hR.nn (by decide : 2 < 9) (by decide : 4 < 9) (by decide))).trans fw50_2
                                have fw51_4 := (show w51 (as 0) = w50 (as 0) by rw [hhw51]; exact wset_ne (hR.nn (by decide : 0 < 9) (by decide : 4 < 9) (by decide))).trans fw50_3
                                have fw51_5 := (show w51 (r) = w50 (r) by rw [hhw51]; exact wset_ne (Ne.symm (hR.ne (by decide : 4 < 9)))).trans fw50_4
                                have fw51_6 := (show w51 (as 5) = w50 (as 5) by rw [hhw51]; exact wset_ne (hR.nn (by decide : 5 < 9) (by decide : 4 < 9) (by decide))).trans fw50_6
                                have fw51_7 := (show w51 (as 6) = w50 (as 6) by rw [hhw51]; exact wset_ne (hR.nn (by decide : 6 < 9) (by decide : 4 < 9) (by decide))).trans fw50_7
                                have fw51_8 := (show w51 (as 7) = w50 (as 7) by rw [hhw51]; exact wset_ne (hR.nn (by decide : 7 < 9) (by decide : 4 < 9) (by decide))).trans fw50_8
                                have fw51_9 := (show w51 (as 8) = w50 (as 8) by rw [hhw51]; exact wset_ne (hR.nn (by decide : 8 < 9) (by decide : 4 < 9) (by decide))).trans fw50_9
                                refine lv_aload_n hx hb dM_begin_170 rfl (lv_at hl 1 rfl) ?_
                                refine g_M_M_26 (v := .ref (as 5)) hx hb hE hm fw51_5 rfl dM_begin_171 ?_
                                refine lv_aload_n hx hb dM_begin_174 rfl (lv_at hl 1 rfl) ?_
                                refine g_M_M_46 (v := .int (nI n)) hx hb hE hm fw51_5 rfl dM_begin_175 ?_
                                refine lv_iconst (v := (-1)) hx hb dM_begin_178 (by decide) ?_
                                refine iastE (n) hx hb hE.2.2.1 hm 0 fw51_6 rfl rfl (by have := hR.n200; have := hn1; omega) (by decide) dM_begin_179 (fun H locs hm => ?_)
                                obtain ⟨w52, hhw52⟩ : ∃ z : Wd, z = wset w51 (as 5) (.inl (cI, 200, .inl (upd (g 5) (n) ((-1))))) := ⟨_, rfl⟩
                                have hm : mS B D CLS s.heap w52 H locs := by rw [hhw52]; exact hm
                                have hw52 : w52 = wset (wset (wset (wset (wset (wset (wset (w) (r) (.inr (2, [.int (0), .int (now), .int (nI n), .ref (as 0), .ref (as 1), .ref (as 2), .ref (as 3), .ref (as 4), .ref (as 5), .ref (as 6), .ref (as 7), .ref (as 8)]))) (as 0) (.inl (cI, 200, .inl (upd (g 0) (n) (x))))) (as 2) (.inl (cZ, 200, .inl (upd (g 2) (n) (1))))) (as 1) (.inl (cI, 200, .inl (upd (g 1) (n) (0))))) (as 3) (.inl (cI, 200, .inl (upd (g 3) (n) (-1))))) (as 4) (.inl (cI, 200, .inl (upd (g 4) (n) (now))))) (as 5) (.inl (cI, 200, .inl (upd (g 5) (n) ((-1))))) := by rw [hhw52, hw51]
                                have fw52 : w52 (as 5) = some (.inl (cI, 200, .inl (upd (g 5) (n) ((-1))))) := by rw [hhw52]; exact wset_at _ _ _
                                have fw52_1 := (show w52 (as 4) = w51 (as 4) by rw [hhw52]; exact wset_ne (hR.nn (by decide : 4 < 9) (by decide : 5 < 9) (by decide))).trans fw51
                                have fw52_2 := (show w52 (as 3) = w51 (as 3) by rw [hhw52]; exact wset_ne (hR.nn (by decide : 3 < 9) (by decide : 5 < 9) (by decide))).trans fw51_1
                                have fw52_3 := (show w52 (as 1) = w51 (as 1) by rw [hhw52]; exact wset_ne (hR.nn (by decide : 1 < 9) (by decide : 5 < 9) (by decide))).trans fw51_2
                                have fw52_4 := (show w52 (as 2) = w51 (as 2) by rw [hhw52]; exact wset_ne (hR.nn (by decide : 2 < 9) (by decide : 5 < 9) (by decide))).trans fw51_3
                                have fw52_5 := (show w52 (as 0) = w51 (as 0) by rw [hhw52]; exact wset_ne (hR.nn (by decide : 0 < 9) (by decide : 5 < 9) (by decide))).trans fw51_4
                                have fw52_6 := (show w52 (r) = w51 (r) by rw [hhw52]; exact wset_ne (Ne.symm (hR.ne (by decide : 5 < 9)))).trans fw51_5
                                have fw52_7 := (show w52 (as 6) = w51 (as 6) by rw [hhw52]; exact wset_ne (hR.nn (by decide : 6 < 9) (by decide : 5 < 9) (by decide))).trans fw51_7
                                have fw52_8 := (show w52 (as 7) = w51 (as 7) by rw [hhw52]; exact wset_ne (hR.nn (by decide : 7 < 9) (by decide : 5 < 9) (by decide))).trans fw51_8
                                have fw52_9 := (show w52 (as 8) = w51 (as 8) by rw [hhw52]; exact wset_ne (hR.nn (by decide : 8 < 9) (by decide : 5 < 9) (by decide))).trans fw51_9
                                refine lv_aload_n hx hb dM_begin_180 rfl (lv_at hl 1 rfl) ?_
                                refine g_M_M_29 (v := .ref (as 6)) hx hb hE hm fw52_6 rfl dM_begin_181 ?_
                                refine lv_aload_n hx hb dM_begin_184 rfl (lv_at hl 1 rfl) ?_
                                refine g_M_M_46 (v := .int (nI n)) hx hb hE hm fw52_6 rfl dM_begin_185 ?_
                                refine lv_iconst (v := 0) hx hb dM_begin_188 (by decide) ?_
                                refine iastE (n) hx hb hE.2.2.1 hm 0 fw52_7 rfl rfl (by have := hR.n200; have := hn1; omega) (by decide) dM_begin_189 (fun H locs hm => ?_)
                                obtain ⟨w53, hhw53⟩ : ∃ z : Wd, z = wset w52 (as 6) (.inl (cI, 200, .inl (upd (g 6) (n) (0)))) := ⟨_, rfl⟩
                                have hm : mS B D CLS s.heap w53 H locs := by rw [hhw53]; exact hm
                                have hw53 : w53 = wset (wset (wset (wset (wset (wset (wset (wset (w) (r) (.inr (2, [.int (0), .int (now), .int (nI n), .ref (as 0), .ref (as 1), .ref (as 2), .ref (as 3), .ref (as 4), .ref (as 5), .ref (as 6), .ref (as 7), .ref (as 8)]))) (as 0) (.inl (cI, 200, .inl (upd (g 0) (n) (x))))) (as 2) (.inl (cZ, 200, .inl (upd (g 2) (n) (1))))) (as 1) (.inl (cI, 200, .inl (upd (g 1) (n) (0))))) (as 3) (.inl (cI, 200, .inl (upd (g 3) (n) (-1))))) (as 4) (.inl (cI, 200, .inl (upd (g 4) (n) (now))))) (as 5) (.inl (cI, 200, .inl (upd (g 5) (n) ((-1)))))) (as 6) (.inl (cI, 200, .inl (upd (g 6) (n) (0)))) := by rw [hhw53, hw52]
                                have fw53 : w53 (as 6) = some (.inl (cI, 200, .inl (upd (g 6) (n) (0)))) := by rw [hhw53]; exact wset_at _ _ _
                                have fw53_1 := (show w53 (as 5) = w52 (as 5) by rw [hhw53]; exact wset_ne (hR.nn (by decide : 5 < 9) (by decide : 6 < 9) (by decide))).trans fw52
                                have fw53_2 := (show w53 (as 4) = w52 (as 4) by rw [hhw53]; exact wset_ne (hR.nn (by decide : 4 < 9) (by decide : 6 < 9) (by decide))).trans fw52_1
                                have fw53_3 := (show w53 (as 3) = w52 (as 3) by rw [hhw53]; exact wset_ne (hR.nn (by decide : 3 < 9) (by decide : 6 < 9) (by decide))).trans fw52_2
                                have fw53_4 := (show w53 (as 1) = w52 (as 1) by rw [hhw53]; exact wset_ne (hR.nn (by decide : 1 < 9) (by decide : 6 < 9) (by decide))).trans fw52_3
                                have fw53_5 := (show w53 (as 2) = w52 (as 2) by rw [hhw53]; exact wset_ne (hR.nn (by decide : 2 < 9) (by decide : 6 < 9) (by decide))).trans fw52_4
                                have fw53_6 := (show w53 (as 0) = w52 (as 0) by rw [hhw53]; exact wset_ne (hR.nn (by decide : 0 < 9) (by decide : 6 < 9) (by decide))).trans fw52_5
                                have fw53_7 := (show w53 (r) = w52 (r) by rw [hhw53]; exact wset_ne (Ne.symm (hR.ne (by decide : 6 < 9)))).trans fw52_6
                                have fw53_8 := (show w53 (as 7) = w52 (as 7) by rw [hhw53]; exact wset_ne (hR.nn (by decide : 7 < 9) (by decide : 6 < 9) (by decide))).trans fw52_8
                                have fw53_9 := (show w53 (as 8) = w52 (as 8) by rw [hhw53]; exact wset_ne (hR.nn (by decide : 8 < 9) (by decide : 6 < 9) (by decide))).trans fw52_9
                                refine lv_aload_n hx hb dM_begin_190 rfl (lv_at hl 1 rfl) ?_
                                refine g_M_M_32 (v := .ref (as 7)) hx hb hE hm fw53_7 rfl dM_begin_191 ?_
                                refine lv_aload_n hx hb dM_begin_194 rfl (lv_at hl 1 rfl) ?_
                                refine g_M_M_46 (v := .int (nI n)) hx hb hE hm fw53_7 rfl dM_begin_195 ?_
                                refine lv_iconst (v := 0) hx hb dM_begin_198 (by decide) ?_
                                refine bastE (n) hx hb hE.2.2.1 hm 1 fw53_8 rfl rfl (by have := hR.n200; have := hn1; omega) (by decide) (by decide) dM_begin_199 (fun H locs hm => ?_)
                                obtain ⟨w54, hhw54⟩ : ∃ z : Wd, z = wset w53 (as 7) (.inl (cZ, 200, .inl (upd (g 7) (n) (0)))) := ⟨_, rfl⟩
                                have hm : mS B D CLS s.heap w54 H locs := by rw [hhw54]; exact hm
                                have hw54 : w54 = wset (wset (wset (wset (wset (wset (wset (wset (wset (w) (r) (.inr (2, [.int (0), .int (now), .int (nI n), .ref (as 0), .ref (as 1), .ref (as 2), .ref (as 3), .ref (as 4), .ref (as 5), .ref (as 6), .ref (as 7), .ref (as 8)]))) (as 0) (.inl (cI, 200, .inl (upd (g 0) (n) (x))))) (as 2) (.inl (cZ, 200, .inl (upd (g 2) (n) (1))))) (as 1) (.inl (cI, 200, .inl (upd (g 1) (n) (0))))) (as 3) (.inl (cI, 200, .inl (upd (g 3) (n) (-1))))) (as 4) (.inl (cI, 200, .inl (upd (g 4) (n) (now))))) (as 5) (.inl (cI, 200, .inl (upd (g 5) (n) ((-1)))))) (as 6) (.inl (cI, 200, .inl (upd (g 6) (n) (0))))) (as 7) (.inl (cZ, 200, .inl (upd (g 7) (n) (0)))) := by rw [hhw54, hw53]
                                have fw54 : w54 (as 7) = some (.inl (cZ, 200, .inl (upd (g 7) (n) (0)))) := by rw [hhw54]; exact wset_at _ _ _
                                have fw54_1 := (show w54 (as 6) = w53 (as 6) by rw [hhw54]; exact wset_ne (hR.nn (by decide : 6 < 9) (by decide : 7 < 9) (by decide))).trans fw53
                                have fw54_2 := (show w54 (as 5) = w53 (as 5) by rw [hhw54]; exact wset_ne (hR.nn (by decide : 5 < 9) (by decide : 7 < 9) (by decide))).trans fw53_1
                                have fw54_3 := (show w54 (as 4) = w53 (as 4) by rw [hhw54]; exact wset_ne (hR.nn (by decide : 4 < 9) (by decide : 7 < 9) (by decide))).trans fw53_2
                                have fw54_4 := (show w54 (as 3) = w53 (as 3) by rw [hhw54]; exact wset_ne (hR.nn (by decide : 3 < 9) (by decide : 7 < 9) (by decide))).trans fw53_3
                                have fw54_5 := (show w54 (as 1) = w53 (as 1) by rw [hhw54]; exact wset_ne (hR.nn (by decide : 1 < 9) (by decide : 7 < 9) (by decide))).trans fw53_4
                                have fw54_6 := (show w54 (as 2) = w53 (as 2) by rw [hhw54]; exact wset_ne (hR.nn (by decide : 2 < 9) (by decide : 7 < 9) (by decide))).trans fw53_5
                                have fw54_7 := (show w54 (as 0) = w53 (as 0) by rw [hhw54]; exact wset_ne (hR.nn (by decide : 0 < 9) (by decide : 7 < 9) (by decide))).trans fw53_6
                                have fw54_8 := (show w54 (r) = w53 (r) by rw [hhw54]; exact wset_ne (Ne.symm (hR.ne (by decide : 7 < 9)))).trans fw53_7
                                have fw54_9 := (show w54 (as 8) = w53 (as 8) by rw [hhw54]; exact wset_ne (hR.nn (by decide : 8 < 9) (by decide : 7 < 9) (by decide))).trans fw53_9
                                refine lv_iconst (v := 0) hx hb dM_begin_200 (by decide) ?_
                                refine lv_istore (lv' := [(4, .int (0)), (3, .int (-1)), (0, .ref (r)), (1, .int (x)), (2, .int (2))]) hx hb dM_begin_201 hl (by decide) rfl (fun ls hl => ?_)
                                obtain ⟨q8, hq8⟩ : ∃ z, z = upG (upG (upG (upG (upG (upG (upG (upG (g) 0 (upd (g 0) (n) (x))) 2 (upd (g 2) (n) (1))) 1 (upd (g 1) (n) (0))) 3 (upd (g 3) (n) (-1))) 4 (upd (g 4) (n) (now))) 5 (upd (g 5) (n) ((-1)))) 6 (upd (g 6) (n) (0))) 7 (upd (g 7) (n) (0)) := ⟨_, rfl⟩
                                have loop : ∀ (d i : Nat), i + d = 50 → ∀ (q9 : Nat → Nat → Int32) (v : Wd), rA cI cZ r as q9 0 now n v → rK r as w v → (∀ k, k < 8 → q9 k = q8 k) → (∀ x, x < i → q9 8 (50 * n + x) = -2) → (∀ x, x < 50 * n ∨ 50 * n + 50 ≤ x → q9 8 x = g 8 x) → ∀ (H : Heap) (locs : List Loc) (ls : Array Slot), mS B D CLS s.heap v H locs → lv_has ls 5 [(4, .int (nI i)), (3, .int (-1)), (0, .ref (r)), (1, .int (x)), (2, .int (2))] → W p l e ({ frames := 1, cells := 0, slots := 0, locals := 24 }) s m [.ref (r), .int (x), .int (2)].toArray below meth c H locs 0 0 (MQ below (va_Qi (fun z u => ((bgs n J x 2 = false ∧ z = -1 ∧ rR cI cZ r as g 0 now n J u) ∨ (bgs n J x 2 = true ∧ z = nI n ∧ ∃ g2, rR cI cZ r as g2 0 now (n + 1) (upJ J n (nwJ x 2 (none) now)) u)) ∧ rK r as w u) (mE B D CLS) (fun q => B ≤ q)) [.ref (r), .int (x), .int (2)].toArray s 0 0 (fun q => B ≤ q)) (F0 m 203 ls []) := by
                                  intro d
                                  induction d with
                                  | zero =>
                                    intro i hi q9 v hv hk9 h9 ht9 ho9  H locs ls hm hl
                                    refine lv_iload hx hb dM_begin_203 (lv_at hl 0 rfl) ?_
                                    refine lv_bipush (v := 50) hx hb dM_begin_205 (by decide) ?_
                                    refine lv_icmp_ge (tgt := 233) hx hb dM_begin_207 (by decide) (fun c_207 => ?_) (fun c_207 => ?_)
                                    · rw [← Int32.not_lt] at c_207
                                      refine lv_aload_n hx hb dM_begin_233 rfl (lv_at hl 2 rfl) ?_
                                      refine lv_dup hx hb dM_begin_234 rfl ?_
                                      refine g_M_M_46 (v := .int (nI n)) hx hb hE hm hv.1 rfl dM_begin_235 ?_
                                      refine lv_iconst (v := 1) hx hb dM_begin_238 (by decide) ?_
                                      refine lv_iadd hx hb dM_begin_239 ?_
                                      refine p_M_M_46 (x := (nI n) + (1)) hx hb hE hm hv.1 (by simp) dM_begin_240 (fun H locs hm => ?_)
                                      obtain ⟨w1, hhw1⟩ : ∃ z : Wd, z = wset v (r) (.inr (2, [.int (0), .int (now), .int ((nI n) + (1)), .ref (as 0), .ref (as 1), .ref (as 2), .ref (as 3), .ref (as 4), .ref (as 5), .ref (as 6), .ref (as 7), .ref (as 8)])) := ⟨_, rfl⟩
                                      have hm : mS B D CLS s.heap w1 H locs := by rw [hhw1]; exact hm
                                      have hw1 : w1 = wset (v) (r) (.inr (2, [.int (0), .int (now), .int ((nI n) + (1)), .ref (as 0), .ref (as 1), .ref (as 2), .ref (as 3), .ref (as 4), .ref (as 5), .ref (as 6), .ref (as 7), .ref (as 8)])) := by rw [hhw1]
                                      have fw1 : w1 (r) = some (.inr (2, [.int (0), .int (now), .int ((nI n) + (1)), .ref (as 0), .ref (as 1), .ref (as 2), .ref (as 3), .ref (as 4), .ref (as 5), .ref (as 6), .ref (as 7), .ref (as 8)])) := by rw [hhw1]; exact wset_at _ _ _
                                      refine lv_aload_n hx hb dM_begin_243 rfl (lv_at hl 2 rfl) ?_
                                      refine g_M_M_46 (v := .int ((nI n) + (1))) hx hb hE hm fw1 rfl dM_begin_244 ?_
                                      refine lv_iconst (v := 1) hx hb dM_begin_247 (by decide) ?_
                                      refine lv_isub hx hb dM_begin_248 ?_
                                      have hF := hv.set 0 now (n + 1)
                                      rw [nI_succ] at hF
                                      exact mreti hx hb hr hlk hm ⟨Or.inr ⟨hB, by rw [← nI_succ]; exact nI_pred n, q9, by rw [hw1]; exact hF.R hn1 (hR.2.2.2.2.1.beg (b := none) (by rw [h9 0 (by decide), hq8]; simp [upG, bI, oI]) (by rw [h9 1 (by decide), hq8]; simp [upG, bI, oI]) (by rw [h9 2 (by decide), hq8]; simp [upG, bI, oI]) (by rw [h9 3 (by decide), hq8]; simp [upG, bI, oI]) (by rw [h9 4 (by decide), hq8]; simp [upG, bI, oI]) (by rw [h9 5 (by decide), hq8]; simp [upG, bI, oI]) (by rw [h9 6 (by decide), hq8]; simp [upG, bI, oI]) (by rw [h9 7 (by decide), hq8]; simp [upG, bI, oI]) (fun f hf => ht9 f (by omega)) (fun z hz => ho9 z (Or.inl hz))) (bs_beg hR.2.2.2.2.2 (fun i hi => by cases hi))⟩, by rw [hw1]; exact hk9.set rF_r⟩ dM_begin_249
                                    · exact absurd (nI_le (a := 50) (b := i) (by omega) (by omega)) c_207
                                  | succ d ih =>
                                    intro i hi q9 v hv hk9 h9 ht9 ho9  H locs ls hm hl
                                    have hiN : i < 50 := by omega
                                    refine lv_iload hx hb dM_begin_203 (lv_at hl 0 rfl) ?_
                                    refine lv_bipush (v := 50) hx hb dM_begin_205 (by decide) ?_
                                    refine lv_icmp_ge (tgt := 233) hx hb dM_begin_207 (by decide) (fun c_207 => ?_) (fun c_207 => ?_)
                                    · exact absurd c_207 (nI_ge (a := i) (b := 50) (by omega) (by omega))
                                    · rw [Int32.not_le] at c_207
                                      refine lv_aload_n hx hb dM_begin_210 rfl (lv_at hl 2 rfl) ?_
                                      refine g_M_M_35 (v := .ref (as 8)) hx hb hE hm hv.1 rfl dM_begin_211 ?_
                                      refine lv_bipush (v := 50) hx hb dM_begin_214 (by decide) ?_
                                      refine lv_aload_n hx hb dM_begin_216 rfl (lv_at hl 2 rfl) ?_
                                      refine g_M_M_46 (v := .int (nI n)) hx hb hE hm hv.1 rfl dM_begin_217 ?_
                                      refine lv_imul hx hb dM_begin_220 ?_
                                      refine lv_iload hx hb dM_begin_221 (lv_at hl 0 rfl) ?_
                                      refine lv_iadd hx hb dM_begin_223 ?_
                                      refine lv_bipush (v := (-2)) hx hb dM_begin_224 (by decide) ?_
                                      refine iastE (50 * n + i) hx hb hE.2.2.1 hm 0 hv.a8 rfl (i50 rfl) (by omega) (by decide) dM_begin_226 (fun H locs hm => ?_)
                                      obtain ⟨w1, hhw1⟩ : ∃ z : Wd, z = wset v (as 8) (.inl (cI, 10000, .inl (upd (q9 8) (50 * n + i) ((-2))))) := ⟨_, rfl⟩
                                      have hm : mS B D CLS s.heap w1 H locs := by rw [hhw1]; exact hm
                                      have hw1 : w1 = wset (v) (as 8) (.inl (cI, 10000, .inl (upd (q9 8) (50 * n + i) ((-2))))) := by rw [hhw1]
                                      have fw1 : w1 (as 8) = some (.inl (cI, 10000, .inl (upd (q9 8) (50 * n + i) ((-2))))) := by rw [hhw1]; exact wset_at _ _ _
                                      refine lv_iinc (v := nI i + 1) (lv' := [(4, .int (nI i + 1)), (3, .int (-1)), (0, .ref (r)), (1, .int (x)), (2, .int (2))]) hx hb dM_begin_227 hl (k := 0) rfl rfl (by decide) rfl (fun ls hl => ?_)
                                      refine lv_goto (tgt := 203) hx hb dM_begin_230 (by decide) ?_
                                      rw [nI_1] at hl
                                      refine ih (i + 1) (by omega) (upG q9 8 (upd (q9 8) (50 * n + i) (-2))) w1 (by rw [hw1]; exact hv.put (by decide : 8 < 9) _) (by rw [hw1]; exact hk9.set (rF_a (by decide))) (fun k hk => by rw [upG_ne (by omega)]; exact h9 k hk) (fun x hx => ?_) (fun x hx => ?_) H locs ls hm (lv_sub hl [0, 1, 2, 3, 4] rfl)
                                      · rw [upG_at]
                                        by_cases e9 : x = i
                                        · simp [upd, e9]
                                        · rw [show upd (q9 8) (50 * n + i) (-2) (50 * n + x) = q9 8 (50 * n + x) by simp [upd]; intro h; omega]; exact ht9 x (by omega)
                                      · rw [upG_at, show upd (q9 8) (50 * n + i) (-2) x = q9 8 x by simp [upd]; intro h; omega]; exact ho9 x hx
                                exact loop 50 0 (by omega) q8 w54 (by rw [hq8, hw54]; exact ((((((((hR.A.set 0 now n).put (by decide : 0 < 9) _).put (by decide : 2 < 9) _).put (by decide : 1 < 9) _).put (by decide : 3 < 9) _).put (by decide : 4 < 9) _).put (by decide : 5 < 9) _).put (by decide : 6 < 9) _).put (by decide : 7 < 9) _) (by rw [hw54]; exact ((((((((rK.rf.set rF_r).set (rF_a (by decide))).set (rF_a (by decide))).set (rF_a (by decide))).set (rF_a (by decide))).set (rF_a (by decide))).set (rF_a (by decide))).set (rF_a (by decide))).set (rF_a (by decide))) (fun k hk => rfl) (fun x hx => absurd hx (Nat.not_lt_zero x)) (fun x hx => by rw [hq8]; simp [upG]) _ _ ls hm (by rw [nI_0]; exact lv_sub hl [0, 1, 2, 3, 4] rfl)
                        | some b =>
                          have hbn : b < n := hbl b hbo
                          show W _ _ _ _ _ _ _ _ _ _ _ _ _ _ _ (F0 m 96 ls [.int (nI b)])
                          refine lv_istore_n (lv' := [(3, .int (nI b)), (0, .ref (r)), (1, .int (x)), (2, .int (2))]) hx hb dM_begin_96 rfl hl (by decide) rfl (fun ls hl => ?_)
                          refine lv_aload_n hx hb dM_begin_97 rfl (lv_at hl 1 rfl) ?_
                          refine g_M_M_7 (v := .ref (as 0)) hx hb hE hm hR1.1 rfl dM_begin_98 ?_
                          refine lv_aload_n hx hb dM_begin_101 rfl (lv_at hl 1 rfl) ?_
                          refine g_M_M_46 (v := .int (nI n)) hx hb hE hm hR1.1 rfl dM_begin_102 ?_
                          refine lv_iload_n hx hb dM_begin_105 rfl (lv_at hl 2 rfl) ?_
                          refine iastE (n) hx hb hE.2.2.1 hm 0 hR1.a0 rfl rfl (by have := hR.n200; have := hn1; omega) (by decide) dM_begin_106 (fun H locs hm => ?_)
                          obtain ⟨w55, hhw55⟩ : ∃ z : Wd, z = wset w1 (as 0) (.inl (cI, 200, .inl (upd (g 0) (n) (x)))) := ⟨_, rfl⟩
                          have hm : mS B D CLS s.heap w55 H locs := by rw [hhw55]; exact hm
                          have hw55 : w55 = wset (wset (w) (r) (.inr (2, [.int (0), .int (now), .int (nI n), .ref (as 0), .ref (as 1), .ref (as 2), .ref (as 3), .ref (as 4), .ref (as 5), .ref (as 6), .ref (as 7), .ref (as 8)]))) (as 0) (.inl (cI, 200, .inl (upd (g 0) (n) (x)))) := by rw [hhw55, hw1]
                          have fw55 : w55 (as 0) = some (.inl (cI, 200, .inl (upd (g 0) (n) (x)))) := by rw [hhw55]; exact wset_at _ _ _
                          have fw55_1 := (show w55 (r) = w1 (r) by rw [hhw55]; exact wset_ne (Ne.symm (hR.ne (by decide : 0 < 9)))).trans hR1.1
                          have fw55_2 := (show w55 (as 1) = w1 (as 1) by rw [hhw55]; exact wset_ne (hR.nn (by decide : 1 < 9) (by decide : 0 < 9) (by decide))).trans hR1.a1
                          have fw55_3 := (show w55 (as 2) = w1 (as 2) by rw [hhw55]; exact wset_ne (hR.nn (by decide : 2 < 9) (by decide : 0 < 9) (by decide))).trans hR1.a2
                          have fw55_4 := (show w55 (as 3) = w1 (as 3) by rw [hhw55]; exact wset_ne (hR.nn (by decide : 3 < 9) (by decide : 0 < 9) (by decide))).trans hR1.a3
                          have fw55_5 := (show w55 (as 4) = w1 (as 4) by rw [hhw55]; exact wset_ne (hR.nn (by decide : 4 < 9) (by decide : 0 < 9) (by decide))).trans hR1.a4
                          have fw55_6 := (show w55 (as 5) = w1 (as 5) by rw [hhw55]; exact wset_ne (hR.nn (by decide : 5 < 9) (by decide : 0 < 9) (by decide))).trans hR1.a5
                          have fw55_7 := (show w55 (as 6) = w1 (as 6) by rw [hhw55]; exact wset_ne (hR.nn (by decide : 6 < 9) (by decide : 0 < 9) (by decide))).trans hR1.a6
                          have fw55_8 := (show w55 (as 7) = w1 (as 7) by rw [hhw55]; exact wset_ne (hR.nn (by decide : 7 < 9) (by decide : 0 < 9) (by decide))).trans hR1.a7
                          have fw55_9 := (show w55 (as 8) = w1 (as 8) by rw [hhw55]; exact wset_ne (hR.nn (by decide : 8 < 9) (by decide : 0 < 9) (by decide))).trans hR1.a8
                          refine lv_aload_n hx hb dM_begin_107 rfl (lv_at hl 1 rfl) ?_
                          refine g_M_M_16 (v := .ref (as 2)) hx hb hE hm fw55_1 rfl dM_begin_108 ?_
                          refine lv_aload_n hx hb dM_begin_111 rfl (lv_at hl 1 rfl) ?_
                          refine g_M_M_46 (v := .int (nI n)) hx hb hE hm fw55_1 rfl dM_begin_112 ?_
                          refine lv_iload_n hx hb dM_begin_115 rfl (lv_at hl 3 rfl) ?_
                          refine lv_if_le (tgt := 127) hx hb dM_begin_116 (by decide) (fun c_116 => ?_) (fun c_116 => ?_)
                          · first | exact absurd c_116 (by decide) | exact absurd (by decide) c_116
                          · refine lv_iload_n hx hb dM_begin_119 rfl (lv_at hl 0 rfl) ?_
                            refine lv_if_ge (tgt := 127) hx hb dM_begin_120 (by decide) (fun c_120 => ?_) (fun c_120 => ?_)
                            · refine lv_iconst (v := 0) hx hb dM_begin_127 (by decide) ?_
                              refine bastE (n) hx hb hE.2.2.1 hm 1 fw55_3 rfl rfl (by have := hR.n200; have := hn1; omega) (by decide) (by decide) dM_begin_128 (fun H locs hm => ?_)
                              obtain ⟨w56, hhw56⟩ : ∃ z : Wd, z = wset w55 (as 2) (.inl (cZ, 200, .inl (upd (g 2) (n) (0)))) := ⟨_, rfl⟩
                              have hm : mS B D CLS s.heap w56 H locs := by rw [hhw56]; exact hm
                              have hw56 : w56 = wset (wset (wset (w) (r) (.inr (2, [.int (0), .int (now), .int (nI n), .ref (as 0), .ref (as 1), .ref (as 2), .ref (as 3), .ref (as 4), .ref (as 5), .ref (as 6), .ref (as 7), .ref (as 8)]))) (as 0) (.inl (cI, 200, .inl (upd (g 0) (n) (x))))) (as 2) (.inl (cZ, 200, .inl (upd (g 2) (n) (0)))) := by rw [hhw56, hw55]
                              have fw56 : w56 (as 2) = some (.inl (cZ, 200, .inl (upd (g 2) (n) (0)))) := by rw [hhw56]; exact wset_at _ _ _
                              have fw56_1 := (show w56 (as 0) = w55 (as 0) by rw [hhw56]; exact wset_ne (hR.nn (by decide : 0 < 9) (by decide : 2 < 9) (by decide))).trans fw55
                              have fw56_2 := (show w56 (r) = w55 (r) by rw [hhw56]; exact wset_ne (Ne.symm (hR.ne (by decide : 2 < 9)))).trans fw55_1
                              have fw56_3 := (show w56 (as 1) = w55 (as 1) by rw [hhw56]; exact wset_ne (hR.nn (by decide : 1 < 9) (by decide : 2 < 9) (by decide))).trans fw55_2
                              have fw56_4 := (show w56 (as 3) = w55 (as 3) by rw [hhw56]; exact wset_ne (hR.nn (by decide : 3 < 9) (by decide : 2 < 9) (by decide))).trans fw55_4
                              have fw56_5 := (show w56 (as 4) = w55 (as 4) by rw [hhw56]; exact wset_ne (hR.nn (by decide : 4 < 9) (by decide : 2 < 9) (by decide))).trans fw55_5
                              have fw56_6 := (show w56 (as 5) = w55 (as 5) by rw [hhw56]; exact wset_ne (hR.nn (by decide : 5 < 9) (by decide : 2 < 9) (by decide))).trans fw55_6
                              have fw56_7 := (show w56 (as 6) = w55 (as 6) by rw [hhw56]; exact wset_ne (hR.nn (by decide : 6 < 9) (by decide : 2 < 9) (by decide))).trans fw55_7
                              have fw56_8 := (show w56 (as 7) = w55 (as 7) by rw [hhw56]; exact wset_ne (hR.nn (by decide : 7 < 9) (by decide : 2 < 9) (by decide))).trans fw55_8
                              have fw56_9 := (show w56 (as 8) = w55 (as 8) by rw [hhw56]; exact wset_ne (hR.nn (by decide : 8 < 9) (by decide : 2 < 9) (by decide))).trans fw55_9
                              refine lv_aload_n hx hb dM_begin_129 rfl (lv_at hl 1 rfl) ?_
                              refine g_M_M_13 (v := .ref (as 1)) hx hb hE hm fw56_2 rfl dM_begin_130 ?_
                              refine lv_aload_n hx hb dM_begin_133 rfl (lv_at hl 1 rfl) ?_
                              refine g_M_M_46 (v := .int (nI n)) hx hb hE hm fw56_2 rfl dM_begin_134 ?_
                              refine lv_iload_n hx hb dM_begin_137 rfl (lv_at hl 0 rfl) ?_
                              refine lv_if_ge (tgt := 145) hx hb dM_begin_138 (by decide) (fun c_138 => ?_) (fun c_138 => ?_)
                              · rw [← Int32.not_lt] at c_138
                                refine lv_iload_n hx hb dM_begin_145 rfl (lv_at hl 3 rfl) ?_
                                refine iastE (n) hx hb hE.2.2.1 hm 0 fw56_3 rfl rfl (by have := hR.n200; have := hn1; omega) (by decide) dM_begin_146 (fun H locs hm => ?_)
                                obtain ⟨w57, hhw57⟩ : ∃ z : Wd, z = wset w56 (as 1) (.inl (cI, 200, .inl (upd (g 1) (n) (2)))) := ⟨_, rfl⟩
                                have hm : mS B D CLS s.heap w57 H locs := by rw [hhw57]; exact hm
                                have hw57 : w57 = wset (wset (wset (wset (w) (r) (.inr (2, [.int (0), .int (now), .int (nI n), .ref (as 0), .ref (as 1), .ref (as 2), .ref (as 3), .ref (as 4), .ref (as 5), .ref (as 6), .ref (as 7), .ref (as 8)]))) (as 0) (.inl (cI, 200, .inl (upd (g 0) (n) (x))))) (as 2) (.inl (cZ, 200, .inl (upd (g 2) (n) (0))))) (as 1) (.inl (cI, 200, .inl (upd (g 1) (n) (2)))) := by rw [hhw57, hw56]
                                have fw57 : w57 (as 1) = some (.inl (cI, 200, .inl (upd (g 1) (n) (2)))) := by rw [hhw57]; exact wset_at _ _ _
                                have fw57_1 := (show w57 (as 2) = w56 (as 2) by rw [hhw57]; exact wset_ne (hR.nn (by decide : 2 < 9) (by decide : 1 < 9) (by decide))).trans fw56
                                have fw57_2 := (show w57 (as 0) = w56 (as 0) by rw [hhw57]; exact wset_ne (hR.nn (by decide : 0 < 9) (by decide : 1 < 9) (by decide))).trans fw56_1
                                have fw57_3 := (show w57 (r) = w56 (r) by rw [hhw57]; exact wset_ne (Ne.symm (hR.ne (by decide : 1 < 9)))).trans fw56_2
                                have fw57_4 := (show w57 (as 3) = w56 (as 3) by rw [hhw57]; exact wset_ne (hR.nn (by decide : 3 < 9) (by decide : 1 < 9) (by decide))).trans fw56_4
                                have fw57_5 := (show w57 (as 4) = w56 (as 4) by rw [hhw57]; exact wset_ne (hR.nn (by decide : 4 < 9) (by decide : 1 < 9) (by decide))).trans fw56_5
                                have fw57_6 := (show w57 (as 5) = w56 (as 5) by rw [hhw57]; exact wset_ne (hR.nn (by decide : 5 < 9) (by decide : 1 < 9) (by decide))).trans fw56_6
                                have fw57_7 := (show w57 (as 6) = w56 (as 6) by rw [hhw57]; exact wset_ne (hR.nn (by decide : 6 < 9) (by decide : 1 < 9) (by decide))).trans fw56_7
                                have fw57_8 := (show w57 (as 7) = w56 (as 7) by rw [hhw57]; exact wset_ne (hR.nn (by decide : 7 < 9) (by decide : 1 < 9) (by decide))).trans fw56_8
                                have fw57_9 := (show w57 (as 8) = w56 (as 8) by rw [hhw57]; exact wset_ne (hR.nn (by decide : 8 < 9) (by decide : 1 < 9) (by decide))).trans fw56_9
                                refine lv_aload_n hx hb dM_begin_147 rfl (lv_at hl 1 rfl) ?_
                                refine g_M_M_20 (v := .ref (as 3)) hx hb hE hm fw57_3 rfl dM_begin_148 ?_
                                refine lv_aload_n hx hb dM_begin_151 rfl (lv_at hl 1 rfl) ?_
                                refine g_M_M_46 (v := .int (nI n)) hx hb hE hm fw57_3 rfl dM_begin_152 ?_
                                refine lv_iload_n hx hb dM_begin_155 rfl (lv_at hl 0 rfl) ?_
                                refine iastE (n) hx hb hE.2.2.1 hm 0 fw57_4 rfl rfl (by have := hR.n200; have := hn1; omega) (by decide) dM_begin_156 (fun H locs hm => ?_)
                                obtain ⟨w58, hhw58⟩ : ∃ z : Wd, z = wset w57 (as 3) (.inl (cI, 200, .inl (upd (g 3) (n) (nI b)))) := ⟨_, rfl⟩
                                have hm : mS B D CLS s.heap w58 H locs := by rw [hhw58]; exact hm
                                have hw58 : w58 = wset (wset (wset (wset (wset (w) (r) (.inr (2, [.int (0), .int (now), .int (nI n), .ref (as 0), .ref (as 1), .ref (as 2), .ref (as 3), .ref (as 4), .ref (as 5), .ref (as 6), .ref (as 7), .ref (as 8)]))) (as 0) (.inl (cI, 200, .inl (upd (g 0) (n) (x))))) (as 2) (.inl (cZ, 200, .inl (upd (g 2) (n) (0))))) (as 1) (.inl (cI, 200, .inl (upd (g 1) (n) (2))))) (as 3) (.inl (cI, 200, .inl (upd (g 3) (n) (nI b)))) := by rw [hhw58, hw57]
                                have fw58 : w58 (as 3) = some (.inl (cI, 200, .inl (upd (g 3) (n) (nI b)))) := by rw [hhw58]; exact wset_at _ _ _
                                have fw58_1 := (show w58 (as 1) = w57 (as 1) by rw [hhw58]; exact wset_ne (hR.nn (by decide : 1 < 9) (by decide : 3 < 9) (by decide))).trans fw57
                                have fw58_2 := (show w58 (as 2) = w57 (as 2) by rw [hhw58]; exact wset_ne (hR.nn (by decide : 2 < 9) (by decide : 3 < 9) (by decide))).trans fw57_1
                                have fw58_3 := (show w58 (as 0) = w57 (as 0) by rw [hhw58]; exact wset_ne (hR.nn (by decide : 0 < 9) (by decide : 3 < 9) (by decide))).trans fw57_2
                                have fw58_4 := (show w58 (r) = w57 (r) by rw [hhw58]; exact wset_ne (Ne.symm (hR.ne (by decide : 3 < 9)))).trans fw57_3
                                have fw58_5 := (show w58 (as 4) = w57 (as 4) by rw [hhw58]; exact wset_ne (hR.nn (by decide : 4 < 9) (by decide : 3 < 9) (by decide))).trans fw57_5
                                have fw58_6 := (show w58 (as 5) = w57 (as 5) by rw [hhw58]; exact wset_ne (hR.nn (by decide : 5 < 9) (by decide : 3 < 9) (by decide))).trans fw57_6
                                have fw58_7 := (show w58 (as 6) = w57 (as 6) by rw [hhw58]; exact wset_ne (hR.nn (by decide : 6 < 9) (by decide : 3 < 9) (by decide))).trans fw57_7
                                have fw58_8 := (show w58 (as 7) = w57 (as 7) by rw [hhw58]; exact wset_ne (hR.nn (by decide : 7 < 9) (by decide : 3 < 9) (by decide))).trans fw57_8
                                have fw58_9 := (show w58 (as 8) = w57 (as 8) by rw [hhw58]; exact wset_ne (hR.nn (by decide : 8 < 9) (by decide : 3 < 9) (by decide))).trans fw57_9
                                refine lv_aload_n hx hb dM_begin_157 rfl (lv_at hl 1 rfl) ?_
                                refine g_M_M_23 (v := .ref (as 4)) hx hb hE hm fw58_4 rfl dM_begin_158 ?_
                                refine lv_aload_n hx hb dM_begin_161 rfl (lv_at hl 1 rfl) ?_
                                refine g_M_M_46 (v := .int (nI n)) hx hb hE hm fw58_4 rfl dM_begin_162 ?_
                                refine lv_aload_n hx hb dM_begin_165 rfl (lv_at hl 1 rfl) ?_
                                refine g_M_M_43 (v := .int (now)) hx hb hE hm fw58_4 rfl dM_begin_166 ?_
                                refine iastE (n) hx hb hE.2.2.1 hm 0 fw58_5 rfl rfl (by have := hR.n200; have := hn1; omega) (by decide) dM_begin_169 (fun H locs hm => ?_)
                                obtain ⟨w59, hhw59⟩ : ∃ z : Wd, z = wset w58 (as 4) (.inl (cI, 200, .inl (upd (g 4) (n) (now)))) := ⟨_, rfl⟩
                                have hm : mS B D CLS s.heap w59 H locs := by rw [hhw59]; exact hm
                                have hw59 : w59 = wset (wset (wset (wset (wset (wset (w) (r) (.inr (2, [.int (0), .int (now), .int (nI n), .ref (as 0), .ref (as 1), .ref (as 2), .ref (as 3), .ref (as 4), .ref (as 5), .ref (as 6), .ref (as 7), .ref (as 8)]))) (as 0) (.inl (cI, 200, .inl (upd (g 0) (n) (x))))) (as 2) (.inl (cZ, 200, .inl (upd (g 2) (n) (0))))) (as 1) (.inl (cI, 200, .inl (upd (g 1) (n) (2))))) (as 3) (.inl (cI, 200, .inl (upd (g 3) (n) (nI b))))) (as 4) (.inl (cI, 200, .inl (upd (g 4) (n) (now)))) := by rw [hhw59, hw58]
                                have fw59 : w59 (as 4) = some (.inl (cI, 200, .inl (upd (g 4) (n) (now)))) := by rw [hhw59]; exact wset_at _ _ _
                                have fw59_1 := (show w59 (as 3) = w58 (as 3) by rw [hhw59]; exact wset_ne (hR.nn (by decide : 3 < 9) (by decide : 4 < 9) (by decide))).trans fw58
                                have fw59_2 := (show w59 (as 1) = w58 (as 1) by rw [hhw59]; exact wset_ne (hR.nn (by decide : 1 < 9) (by decide : 4 < 9) (by decide))).trans fw58_1
                                have fw59_3 := (show w59 (as 2) = w58 (as 2) by rw [hhw59]; exact wset_ne (hR.nn (by decide : 2 < 9) (by decide : 4 < 9) (by decide))).trans fw58_2
                                have fw59_4 := (show w59 (as 0) = w58 (as 0) by rw [hhw59]; exact wset_ne (hR.nn (by decide : 0 < 9) (by decide : 4 < 9) (by decide))).trans fw58_3
                                have fw59_5 := (show w59 (r) = w58 (r) by rw [hhw59]; exact wset_ne (Ne.symm (hR.ne (by decide : 4 < 9)))).trans fw58_4
                                have fw59_6 := (show w59 (as 5) = w58 (as 5) by rw [hhw59]; exact wset_ne (hR.nn (by decide : 5 < 9) (by decide : 4 < 9) (by decide))).trans fw58_6
                                have fw59_7 := (show w59 (as 6) = w58 (as 6) by rw [hhw59]; exact wset_ne (hR.nn (by decide : 6 < 9) (by decide : 4 < 9) (by decide))).trans fw58_7
                                have fw59_8 := (show w59 (as 7) = w58 (as 7) by rw [hhw59]; exact wset_ne (hR.nn (by decide : 7 < 9) (by decide : 4 < 9) (by decide))).trans fw58_8
                                have fw59_9 := (show w59 (as 8) = w58 (as 8) by rw [hhw59]; exact wset_ne (hR.nn (by decide : 8 < 9) (by decide : 4 < 9) (by decide))).trans fw58_9
                                refine lv_aload_n hx hb dM_begin_170 rfl (lv_at hl 1 rfl) ?_
                                refine g_M_M_26 (v := .ref (as 5)) hx hb hE hm fw59_5 rfl dM_begin_171 ?_
                                refine lv_aload_n hx hb dM_begin_174 rfl (lv_at hl 1 rfl) ?_
                                refine g_M_M_46 (v := .int (nI n)) hx hb hE hm fw59_5 rfl dM_begin_175 ?_
                                refine lv_iconst (v := (-1)) hx hb dM_begin_178 (by decide) ?_
                                refine iastE (n) hx hb hE.2.2.1 hm 0 fw59_6 rfl rfl (by have := hR.n200; have := hn1; omega) (by decide) dM_begin_179 (fun H locs hm => ?_)
                                obtain ⟨w60, hhw60⟩ : ∃ z : Wd, z = wset w59 (as 5) (.inl (cI, 200, .inl (upd (g 5) (n) ((-1))))) := ⟨_, rfl⟩
                                have hm : mS B D CLS s.heap w60 H locs := by rw [hhw60]; exact hm
                                have hw60 : w60 = wset (wset (wset (wset (wset (wset (wset (w) (r) (.inr (2, [.int (0), .int (now), .int (nI n), .ref (as 0), .ref (as 1), .ref (as 2), .ref (as 3), .ref (as 4), .ref (as 5), .ref (as 6), .ref (as 7), .ref (as 8)]))) (as 0) (.inl (cI, 200, .inl (upd (g 0) (n) (x))))) (as 2) (.inl (cZ, 200, .inl (upd (g 2) (n) (0))))) (as 1) (.inl (cI, 200, .inl (upd (g 1) (n) (2))))) (as 3) (.inl (cI, 200, .inl (upd (g 3) (n) (nI b))))) (as 4) (.inl (cI, 200, .inl (upd (g 4) (n) (now))))) (as 5) (.inl (cI, 200, .inl (upd (g 5) (n) ((-1))))) := by rw [hhw60, hw59]
                                have fw60 : w60 (as 5) = some (.inl (cI, 200, .inl (upd (g 5) (n) ((-1))))) := by rw [hhw60]; exact wset_at _ _ _
                                have fw60_1 := (show w60 (as 4) = w59 (as 4) by rw [hhw60]; exact wset_ne (hR.nn (by decide : 4 < 9) (by decide : 5 < 9) (by decide))).trans fw59
                                have fw60_2 := (show w60 (as 3) = w59 (as 3) by rw [hhw60]; exact wset_ne (hR.nn (by decide : 3 < 9) (by decide : 5 < 9) (by decide))).trans fw59_1
                                have fw60_3 := (show w60 (as 1) = w59 (as 1) by rw [hhw60]; exact wset_ne (hR.nn (by decide : 1 < 9) (by decide : 5 < 9) (by decide))).trans fw59_2
                                have fw60_4 := (show w60 (as 2) = w59 (as 2) by rw [hhw60]; exact wset_ne (hR.nn (by decide : 2 < 9) (by decide : 5 < 9) (by decide))).trans fw59_3
                                have fw60_5 := (show w60 (as 0) = w59 (as 0) by rw [hhw60]; exact wset_ne (hR.nn (by decide : 0 < 9) (by decide : 5 < 9) (by decide))).trans fw59_4
                                have fw60_6 := (show w60 (r) = w59 (r) by rw [hhw60]; exact wset_ne (Ne.symm (hR.ne (by decide : 5 < 9)))).trans fw59_5
                                have fw60_7 := (show w60 (as 6) = w59 (as 6) by rw [hhw60]; exact wset_ne (hR.nn (by decide : 6 < 9) (by decide : 5 < 9) (by decide))).trans fw59_7
                                have fw60_8 := (show w60 (as 7) = w59 (as 7) by rw [hhw60]; exact wset_ne (hR.nn (by decide : 7 < 9) (by decide : 5 < 9) (by decide))).trans fw59_8
                                have fw60_9 := (show w60 (as 8) = w59 (as 8) by rw [hhw60]; exact wset_ne (hR.nn (by decide : 8 < 9) (by decide : 5 < 9) (by decide))).trans fw59_9
                                refine lv_aload_n hx hb dM_begin_180 rfl (lv_at hl 1 rfl) ?_
                                refine g_M_M_29 (v := .ref (as 6)) hx hb hE hm fw60_6 rfl dM_begin_181 ?_
                                refine lv_aload_n hx hb dM_begin_184 rfl (lv_at hl 1 rfl) ?_
                                refine g_M_M_46 (v := .int (nI n)) hx hb hE hm fw60_6 rfl dM_begin_185 ?_
                                refine lv_iconst (v := 0) hx hb dM_begin_188 (by decide) ?_
                                refine iastE (n) hx hb hE.2.2.1 hm 0 fw60_7 rfl rfl (by have := hR.n200; have := hn1; omega) (by decide) dM_begin_189 (fun H locs hm => ?_)
                                obtain ⟨w61, hhw61⟩ : ∃ z : Wd, z = wset w60 (as 6) (.inl (cI, 200, .inl (upd (g 6) (n) (0)))) := ⟨_, rfl⟩
                                have hm : mS B D CLS s.heap w61 H locs := by rw [hhw61]; exact hm
                                have hw61 : w61 = wset (wset (wset (wset (wset (wset (wset (wset (w) (r) (.inr (2, [.int (0), .int (now), .int (nI n), .ref (as 0), .ref (as 1), .ref (as 2), .ref (as 3), .ref (as 4), .ref (as 5), .ref (as 6), .ref (as 7), .ref (as 8)]))) (as 0) (.inl (cI, 200, .inl (upd (g 0) (n) (x))))) (as 2) (.inl (cZ, 200, .inl (upd (g 2) (n) (0))))) (as 1) (.inl (cI, 200, .inl (upd (g 1) (n) (2))))) (as 3) (.inl (cI, 200, .inl (upd (g 3) (n) (nI b))))) (as 4) (.inl (cI, 200, .inl (upd (g 4) (n) (now))))) (as 5) (.inl (cI, 200, .inl (upd (g 5) (n) ((-1)))))) (as 6) (.inl (cI, 200, .inl (upd (g 6) (n) (0)))) := by rw [hhw61, hw60]
                                have fw61 : w61 (as 6) = some (.inl (cI, 200, .inl (upd (g 6) (n) (0)))) := by rw [hhw61]; exact wset_at _ _ _
                                have fw61_1 := (show w61 (as 5) = w60 (as 5) by rw [hhw61]; exact wset_ne (hR.nn (by decide : 5 < 9) (by decide : 6 < 9) (by decide))).trans fw60
                                have fw61_2 := (show w61 (as 4) = w60 (as 4) by rw [hhw61]; exact wset_ne (hR.nn (by decide : 4 < 9) (by decide : 6 < 9) (by decide))).trans fw60_1
                                have fw61_3 := (show w61 (as 3) = w60 (as 3) by rw [hhw61]; exact wset_ne (hR.nn (by decide : 3 < 9) (by decide : 6 < 9) (by decide))).trans fw60_2
                                have fw61_4 := (show w61 (as 1) = w60 (as 1) by rw [hhw61]; exact wset_ne (hR.nn (by decide : 1 < 9) (by decide : 6 < 9) (by decide))).trans fw60_3
                                have fw61_5 := (show w61 (as 2) = w60 (as 2) by rw [hhw61]; exact wset_ne (hR.nn (by decide : 2 < 9) (by decide : 6 < 9) (by decide))).trans fw60_4
                                have fw61_6 := (show w61 (as 0) = w60 (as 0) by rw [hhw61]; exact wset_ne (hR.nn (by decide : 0 < 9) (by decide : 6 < 9) (by decide))).trans fw60_5
                                have fw61_7 := (show w61 (r) = w60 (r) by rw [hhw61]; exact wset_ne (Ne.symm (hR.ne (by decide : 6 < 9)))).trans fw60_6
                                have fw61_8 := (show w61 (as 7) = w60 (as 7) by rw [hhw61]; exact wset_ne (hR.nn (by decide : 7 < 9) (by decide : 6 < 9) (by decide))).trans fw60_8
                                have fw61_9 := (show w61 (as 8) = w60 (as 8) by rw [hhw61]; exact wset_ne (hR.nn (by decide : 8 < 9) (by decide : 6 < 9) (by decide))).trans fw60_9
                                refine lv_aload_n hx hb dM_begin_190 rfl (lv_at hl 1 rfl) ?_
                                refine g_M_M_32 (v := .ref (as 7)) hx hb hE hm fw61_7 rfl dM_begin_191 ?_
                                refine lv_aload_n hx hb dM_begin_194 rfl (lv_at hl 1 rfl) ?_
                                refine g_M_M_46 (v := .int (nI n)) hx hb hE hm fw61_7 rfl dM_begin_195 ?_
                                refine lv_iconst (v := 0) hx hb dM_begin_198 (by decide) ?_
                                refine bastE (n) hx hb hE.2.2.1 hm 1 fw61_8 rfl rfl (by have := hR.n200; have := hn1; omega) (by decide) (by decide) dM_begin_199 (fun H locs hm => ?_)
                                obtain ⟨w62, hhw62⟩ : ∃ z : Wd, z = wset w61 (as 7) (.inl (cZ, 200, .inl (upd (g 7) (n) (0)))) := ⟨_, rfl⟩
                                have hm : mS B D CLS s.heap w62 H locs := by rw [hhw62]; exact hm
                                have hw62 : w62 = wset (wset (wset (wset (wset (wset (wset (wset (wset (w) (r) (.inr (2, [.int (0), .int (now), .int (nI n), .ref (as 0), .ref (as 1), .ref (as 2), .ref (as 3), .ref (as 4), .ref (as 5), .ref (as 6), .ref (as 7), .ref (as 8)]))) (as 0) (.inl (cI, 200, .inl (upd (g 0) (n) (x))))) (as 2) (.inl (cZ, 200, .inl (upd (g 2) (n) (0))))) (as 1) (.inl (cI, 200, .inl (upd (g 1) (n) (2))))) (as 3) (.inl (cI, 200, .inl (upd (g 3) (n) (nI b))))) (as 4) (.inl (cI, 200, .inl (upd (g 4) (n) (now))))) (as 5) (.inl (cI, 200, .inl (upd (g 5) (n) ((-1)))))) (as 6) (.inl (cI, 200, .inl (upd (g 6) (n) (0))))) (as 7) (.inl (cZ, 200, .inl (upd (g 7) (n) (0)))) := by rw [hhw62, hw61]
                                have fw62 : w62 (as 7) = some (.inl (cZ, 200, .inl (upd (g 7) (n) (0)))) := by rw [hhw62]; exact wset_at _ _ _
                                have fw62_1 := (show w62 (as 6) = w61 (as 6) by rw [hhw62]; exact wset_ne (hR.nn (by decide : 6 < 9) (by decide : 7 < 9) (by decide))).trans fw61
                                have fw62_2 := (show w62 (as 5) = w61 (as 5) by rw [hhw62]; exact wset_ne (hR.nn (by decide : 5 < 9) (by decide : 7 < 9) (by decide))).trans fw61_1
                                have fw62_3 := (show w62 (as 4) = w61 (as 4) by rw [hhw62]; exact wset_ne (hR.nn (by decide : 4 < 9) (by decide : 7 < 9) (by decide))).trans fw61_2
                                have fw62_4 := (show w62 (as 3) = w61 (as 3) by rw [hhw62]; exact wset_ne (hR.nn (by decide : 3 < 9) (by decide : 7 < 9) (by decide))).trans fw61_3
                                have fw62_5 := (show w62 (as 1) = w61 (as 1) by rw [hhw62]; exact wset_ne (hR.nn (by decide : 1 < 9) (by decide : 7 < 9) (by decide))).trans fw61_4
                                have fw62_6 := (show w62 (as 2) = w61 (as 2) by rw [hhw62]; exact wset_ne (hR.nn (by decide : 2 < 9) (by decide : 7 < 9) (by decide))).trans fw61_5
                                have fw62_7 := (show w62 (as 0) = w61 (as 0) by rw [hhw62]; exact wset_ne (hR.nn (by decide : 0 < 9) (by decide : 7 < 9) (by decide))).trans fw61_6
                                have fw62_8 := (show w62 (r) = w61 (r) by rw [hhw62]; exact wset_ne (Ne.symm (hR.ne (by decide : 7 < 9)))).trans fw61_7
                                have fw62_9 := (show w62 (as 8) = w61 (as 8) by rw [hhw62]; exact wset_ne (hR.nn (by decide : 8 < 9) (by decide : 7 < 9) (by decide))).trans fw61_9
                                refine lv_iconst (v := 0) hx hb dM_begin_200 (by decide) ?_
                                refine lv_istore (lv' := [(4, .int (0)), (3, .int (nI b)), (0, .ref (r)), (1, .int (x)), (2, .int (2))]) hx hb dM_begin_201 hl (by decide) rfl (fun ls hl => ?_)
                                obtain ⟨q8, hq8⟩ : ∃ z, z = upG (upG (upG (upG (upG (upG (upG (upG (g) 0 (upd (g 0) (n) (x))) 2 (upd (g 2) (n) (0))) 1 (upd (g 1) (n) (2))) 3 (upd (g 3) (n) (nI b))) 4 (upd (g 4) (n) (now))) 5 (upd (g 5) (n) ((-1)))) 6 (upd (g 6) (n) (0))) 7 (upd (g 7) (n) (0)) := ⟨_, rfl⟩
                                have loop : ∀ (d i : Nat), i + d = 50 → ∀ (q9 : Nat → Nat → Int32) (v : Wd), rA cI cZ r as q9 0 now n v → rK r as w v → (∀ k, k < 8 → q9 k = q8 k) → (∀ x, x < i → q9 8 (50 * n + x) = -2) → (∀ x, x < 50 * n ∨ 50 * n + 50 ≤ x → q9 8 x = g 8 x) → ∀ (H : Heap) (locs : List Loc) (ls : Array Slot), mS B D CLS s.heap v H locs → lv_has ls 5 [(4, .int (nI i)), (3, .int (nI b)), (0, .ref (r)), (1, .int (x)), (2, .int (2))] → W p l e ({ frames := 1, cells := 0, slots := 0, locals := 24 }) s m [.ref (r), .int (x), .int (2)].toArray below meth c H locs 0 0 (MQ below (va_Qi (fun z u => ((bgs n J x 2 = false ∧ z = -1 ∧ rR cI cZ r as g 0 now n J u) ∨ (bgs n J x 2 = true ∧ z = nI n ∧ ∃ g2, rR cI cZ r as g2 0 now (n + 1) (upJ J n (nwJ x 2 (some b) now)) u)) ∧ rK r as w u) (mE B D CLS) (fun q => B ≤ q)) [.ref (r), .int (x), .int (2)].toArray s 0 0 (fun q => B ≤ q)) (F0 m 203 ls []) := by
                                  intro d
                                  induction d with
                                  | zero =>
                                    intro i hi q9 v hv hk9 h9 ht9 ho9  H locs ls hm hl
                                    refine lv_iload hx hb dM_begin_203 (lv_at hl 0 rfl) ?_
                                    refine lv_bipush (v := 50) hx hb dM_begin_205 (by decide) ?_
                                    refine lv_icmp_ge (tgt := 233) hx hb dM_begin_207 (by decide) (fun c_207 => ?_) (fun c_207 => ?_)
                                    · rw [← Int32.not_lt] at c_207
                                      refine lv_aload_n hx hb dM_begin_233 rfl (lv_at hl 2 rfl) ?_
                                      refine lv_dup hx hb dM_begin_234 rfl ?_
                                      refine g_M_M_46 (v := .int (nI n)) hx hb hE hm hv.1 rfl dM_begin_235 ?_
                                      refine lv_iconst (v := 1) hx hb dM_begin_238 (by decide) ?_
                                      refine lv_iadd hx hb dM_begin_239 ?_
                                      refine p_M_M_46 (x := (nI n) + (1)) hx hb hE hm hv.1 (by simp) dM_begin_240 (fun H locs hm => ?_)
                                      obtain ⟨w1, hhw1⟩ : ∃ z : Wd, z = wset v (r) (.inr (2, [.int (0), .int (now), .int ((nI n) + (1)), .ref (as 0), .ref (as 1), .ref (as 2), .ref (as 3), .ref (as 4), .ref (as 5), .ref (as 6), .ref (as 7), .ref (as 8)])) := ⟨_, rfl⟩
                                      have hm : mS B D CLS s.heap w1 H locs := by rw [hhw1]; exact hm
                                      have hw1 : w1 = wset (v) (r) (.inr (2, [.int (0), .int (now), .int ((nI n) + (1)), .ref (as 0), .ref (as 1), .ref (as 2), .ref (as 3), .ref (as 4), .ref (as 5), .ref (as 6), .ref (as 7), .ref (as 8)])) := by rw [hhw1]
                                      have fw1 : w1 (r) = some (.inr (2, [.int (0), .int (now), .int ((nI n) + (1)), .ref (as 0), .ref (as 1), .ref (as 2), .ref (as 3), .ref (as 4), .ref (as 5), .ref (as 6), .ref (as 7), .ref (as 8)])) := by rw [hhw1]; exact wset_at _ _ _
                                      refine lv_aload_n hx hb dM_begin_243 rfl (lv_at hl 2 rfl) ?_
                                      refine g_M_M_46 (v := .int ((nI n) + (1))) hx hb hE hm fw1 rfl dM_begin_244 ?_
                                      refine lv_iconst (v := 1) hx hb dM_begin_247 (by decide) ?_
                                      refine lv_isub hx hb dM_begin_248 ?_
                                      have hF := hv.set 0 now (n + 1)
                                      rw [nI_succ] at hF
                                      exact mreti hx hb hr hlk hm ⟨Or.inr ⟨hB, by rw [← nI_succ]; exact nI_pred n, q9, by rw [hw1]; exact hF.R hn1 (hR.2.2.2.2.1.beg (b := some b) (by rw [h9 0 (by decide), hq8]; simp [upG, bI, oI]) (by rw [h9 1 (by decide), hq8]; simp [upG, bI, oI]) (by rw [h9 2 (by decide), hq8]; simp [upG, bI, oI]) (by rw [h9 3 (by decide), hq8]; simp [upG, bI, oI]) (by rw [h9 4 (by decide), hq8]; simp [upG, bI, oI]) (by rw [h9 5 (by decide), hq8]; simp [upG, bI, oI]) (by rw [h9 6 (by decide), hq8]; simp [upG, bI, oI]) (by rw [h9 7 (by decide), hq8]; simp [upG, bI, oI]) (fun f hf => ht9 f (by omega)) (fun z hz => ho9 z (Or.inl hz))) (bs_beg hR.2.2.2.2.2 (fun i hi => by cases hi; exact hbn))⟩, by rw [hw1]; exact hk9.set rF_r⟩ dM_begin_249
                                    · exact absurd (nI_le (a := 50) (b := i) (by omega) (by omega)) c_207
                                  | succ d ih =>
                                    intro i hi q9 v hv hk9 h9 ht9 ho9  H locs ls hm hl
                                    have hiN : i < 50 := by omega
                                    refine lv_iload hx hb dM_begin_203 (lv_at hl 0 rfl) ?_
                                    refine lv_bipush (v := 50) hx hb dM_begin_205 (by decide) ?_
                                    refine lv_icmp_ge (tgt := 233) hx hb dM_begin_207 (by decide) (fun c_207 => ?_) (fun c_207 => ?_)
                                    · exact absurd c_207 (nI_ge (a := i) (b := 50) (by omega) (by omega))
                                    · rw [Int32.not_le] at c_207
                                      refine lv_aload_n hx hb dM_begin_210 rfl (lv_at hl 2 rfl) ?_
                                      refine g_M_M_35 (v := .ref (as 8)) hx hb hE hm hv.1 rfl dM_begin_211 ?_
                                      refine lv_bipush (v := 50) hx hb dM_begin_214 (by decide) ?_
                                      refine lv_aload_n hx hb dM_begin_216 rfl (lv_at hl 2 rfl) ?_
                                      refine g_M_M_46 (v := .int (nI n)) hx hb hE hm hv.1 rfl dM_begin_217 ?_
                                      refine lv_imul hx hb dM_begin_220 ?_
                                      refine lv_iload hx hb dM_begin_221 (lv_at hl 0 rfl) ?_
                                      refine lv_iadd hx hb dM_begin_223 ?_
                                      refine lv_bipush (v := (-2)) hx hb dM_begin_224 (by decide) ?_
                                      refine iastE (50 * n + i) hx hb hE.2.2.1 hm 0 hv.a8 rfl (i50 rfl) (by omega) (by decide) dM_begin_226 (fun H locs hm => ?_)
                                      obtain ⟨w1, hhw1⟩ : ∃ z : Wd, z = wset v (as 8) (.inl (cI, 10000, .inl (upd (q9 8) (50 * n + i) ((-2))))) := ⟨_, rfl⟩
                                      have hm : mS B D CLS s.heap w1 H locs := by rw [hhw1]; exact hm
                                      have hw1 : w1 = wset (v) (as 8) (.inl (cI, 10000, .inl (upd (q9 8) (50 * n + i) ((-2))))) := by rw [hhw1]
                                      have fw1 : w1 (as 8) = some (.inl (cI, 10000, .inl (upd (q9 8) (50 * n + i) ((-2))))) := by rw [hhw1]; exact wset_at _ _ _
                                      refine lv_iinc (v := nI i + 1) (lv' := [(4, .int (nI i + 1)), (3, .int (nI b)), (0, .ref (r)), (1, .int (x)), (2, .int (2))]) hx hb dM_begin_227 hl (k := 0) rfl rfl (by decide) rfl (fun ls hl => ?_)
                                      refine lv_goto (tgt := 203) hx hb dM_begin_230 (by decide) ?_
                                      rw [nI_1] at hl
                                      refine ih (i + 1) (by omega) (upG q9 8 (upd (q9 8) (50 * n + i) (-2))) w1 (by rw [hw1]; exact hv.put (by decide : 8 < 9) _) (by rw [hw1]; exact hk9.set (rF_a (by decide))) (fun k hk => by rw [upG_ne (by omega)]; exact h9 k hk) (fun x hx => ?_) (fun x hx => ?_) H locs ls hm (lv_sub hl [0, 1, 2, 3, 4] rfl)
                                      · rw [upG_at]
                                        by_cases e9 : x = i
                                        · simp [upd, e9]
                                        · rw [show upd (q9 8) (50 * n + i) (-2) (50 * n + x) = q9 8 (50 * n + x) by simp [upd]; intro h; omega]; exact ht9 x (by omega)
                                      · rw [upG_at, show upd (q9 8) (50 * n + i) (-2) x = q9 8 x by simp [upd]; intro h; omega]; exact ho9 x hx
                                exact loop 50 0 (by omega) q8 w62 (by rw [hq8, hw62]; exact ((((((((hR.A.set 0 now n).put (by decide : 0 < 9) _).put (by decide : 2 < 9) _).put (by decide : 1 < 9) _).put (by decide : 3 < 9) _).put (by decide : 4 < 9) _).put (by decide : 5 < 9) _).put (by decide : 6 < 9) _).put (by decide : 7 < 9) _) (by rw [hw62]; exact ((((((((rK.rf.set rF_r).set (rF_a (by decide))).set (rF_a (by decide))).set (rF_a (by decide))).set (rF_a (by decide))).set (rF_a (by decide))).set (rF_a (by decide))).set (rF_a (by decide))).set (rF_a (by decide))) (fun k hk => rfl) (fun x hx => absurd hx (Nat.not_lt_zero x)) (fun x hx => by rw [hq8]; simp [upG]) _ _ ls hm (by rw [nI_0]; exact lv_sub hl [0, 1, 2, 3, 4] rfl)
                              · exact absurd (nI_pos' (by omega)) c_138
                            · exact absurd (nI_pos' (by omega)) c_120
                      · first | exact absurd c_85 (by decide) | exact absurd (by decide) c_85
                    · first | exact absurd c_74 (by decide) | exact absurd (by decide) c_74
                · exact absurd (nI_le (a := n) (b := i) (by omega) (by omega)) c_43
              | succ d ih =>
                intro i hi hx0 H locs ls hm hl
                have hiN : i < n := by omega
                refine lv_iload_n hx hb dM_begin_38 rfl (lv_at hl 0 rfl) ?_
                refine lv_aload_n hx hb dM_begin_39 rfl (lv_at hl 1 rfl) ?_
                refine g_M_M_46 (v := .int (nI n)) hx hb hE hm hR1.1 rfl dM_begin_40 ?_
                refine lv_icmp_ge (tgt := 73) hx hb dM_begin_43 (by decide) (fun c_43 => ?_) (fun c_43 => ?_)
                · exact absurd c_43 (nI_ge (a := i) (b := n) (by omega) (by omega))
                · rw [Int32.not_le] at c_43
                  refine lv_aload_n hx hb dM_begin_46 rfl (lv_at hl 1 rfl) ?_
                  refine g_M_M_7 (v := .ref (as 0)) hx hb hE hm hR1.1 rfl dM_begin_47 ?_
                  refine lv_iload_n hx hb dM_begin_50 rfl (lv_at hl 0 rfl) ?_
                  refine ialdE (i) hx hb hE.2.2.1 hm 0 hR1.a0 rfl rfl (by have := hR.n200; have := hiN; omega) (by decide) dM_begin_51 ?_
                  rw [hR1.g0 hiN]
                  refine lv_iload_n hx hb dM_begin_52 rfl (lv_at hl 2 rfl) ?_
                  refine lv_icmp_ne (tgt := 67) hx hb dM_begin_53 (by decide) (fun c_53 => ?_) (fun c_53 => ?_)
                  · refine lv_iinc (v := nI i + 1) (lv' := [(3, .int (nI i + 1)), (0, .ref (r)), (1, .int (x)), (2, .int (v0))]) hx hb dM_begin_67 hl (k := 0) rfl rfl (by decide) rfl (fun ls hl => ?_)
                    refine lv_goto (tgt := 38) hx hb dM_begin_70 (by decide) ?_
                    rw [nI_1] at hl
                    exact ih (i + 1) (by omega) (lt_s hx0 (by simp [c_53])) H locs ls hm (lv_sub hl [0, 1, 2, 3] rfl)
                  · refine lv_aload_n hx hb dM_begin_56 rfl (lv_at hl 1 rfl) ?_
                    refine g_M_M_29 (v := .ref (as 6)) hx hb hE hm hR1.1 rfl dM_begin_57 ?_
                    refine lv_iload_n hx hb dM_begin_60 rfl (lv_at hl 0 rfl) ?_
                    refine ialdE (i) hx hb hE.2.2.1 hm 0 hR1.a6 rfl rfl (by have := hR.n200; have := hiN; omega) (by decide) dM_begin_61 ?_
                    rw [hR1.g6 hiN]
                    refine lv_if_ne (tgt := 67) hx hb dM_begin_62 (by decide) (fun c_62 => ?_) (fun c_62 => ?_)
                    · refine lv_iinc (v := nI i + 1) (lv' := [(3, .int (nI i + 1)), (0, .ref (r)), (1, .int (x)), (2, .int (v0))]) hx hb dM_begin_67 hl (k := 0) rfl rfl (by decide) rfl (fun ls hl => ?_)
                      refine lv_goto (tgt := 38) hx hb dM_begin_70 (by decide) ?_
                      rw [nI_1] at hl
                      exact ih (i + 1) (by omega) (lt_s hx0 (by simp [c_53, c_62])) H locs ls hm (lv_sub hl [0, 1, 2, 3] rfl)
                    · refine lv_iconst (v := (-1)) hx hb dM_begin_65 (by decide) ?_
                      exact mreti hx hb hr hlk hm ⟨Or.inl ⟨bg_r (hRun_t hiN (by simp [c_53, c_62])), rfl, hR1⟩, hK1⟩ dM_begin_66
            exact loop n 0 (by omega) (fun k hk => absurd hk (Nat.not_lt_zero k)) _ _ ls hm (by rw [nI_0]; exact lv_sub hl [0, 1, 2, 3] rfl)
          · refine lv_iconst (v := (-1)) hx hb dM_begin_34 (by decide) ?_
            exact mreti hx hb hr hlk hm ⟨Or.inl ⟨bg_n ((n_200 hn200).mp (by simpa using c_31)), rfl, hR1⟩, hK1⟩ dM_begin_35
