set_option maxHeartbeats 4000000 in
set_option maxRecDepth 100000 in
theorem kM_expire (l : Launch) (B : Nat) (D : va_G) (cI cZ cL : ClassId) (w : Wd) (r : Nat) (as : Nat → Nat) (g : Nat → Nat → Int32) (thr now : Int32) (n : Nat) (J : Nat → Jr) (hR : rR cI cZ r as g thr now n J w) (x : Int32) : Met l yM_expire (.code yM_expire cM_expire 4 (some .int) :: BIG) { frames := 2, cells := 0, slots := 0, locals := 44 } (va_Pc [.ref (r), .int (x)] (mP B D CLS (TYS cI cZ cL) NEST w)) (va_Qi (fun z u => ((x < 0 ∧ z = 0 ∧ rR cI cZ r as g 1 now n J u) ∨ (¬ x < 0 ∧ z = (xp n now x n J 0).2 ∧ ∃ g2, rR cI cZ r as g2 0 now n (xp n now x n J 0).1 u)) ∧ rK r as w u) (mE B D CLS) (fun q => B ≤ q)) 0 0 (fun q => B ≤ q) := by
  refine mMet (by decide) rfl (Nat.le_of_ble_eq_true rfl) ?_
  intro p e s m below meth c ls hx hb hml hr hlk hnm hown hts hK hN hm hl
  have hE : ME "ChainPickerModel" (.code yM_expire cM_expire 4 (some .int)) _ s m D (TYS cI cZ cL) := ⟨hown, hts, hK, hN⟩
  have hl : lv_has ls 4 [(0, .ref (r)), (1, .int (x))] := hl
  have hn200 := hR.n200
  have loop : ¬ x < 0 → ∀ k, k ≤ n → ∀ (K : Nat → Jr) (y : Int32) (g9 : Nat → Nat → Int32) (v : Wd), rR cI cZ r as g9 0 now n K v → rK r as w v → xp n now x n J 0 = xp n now x k K y → ∀ (H : Heap) (locs : List Loc) (ls : Array Slot), mS B D CLS s.heap v H locs → lv_has ls 4 [(3, .int (nI k - 1)), (2, .int (y)), (0, .ref (r)), (1, .int (x))] → W p l e ({ frames := 2, cells := 0, slots := 0, locals := 44 }) s m [.ref (r), .int (x)].toArray below meth c H locs 0 0 (MQ below (va_Qi (fun z u => ((x < 0 ∧ z = 0 ∧ rR cI cZ r as g 1 now n J u) ∨ (¬ x < 0 ∧ z = (xp n now x n J 0).2 ∧ ∃ g2, rR cI cZ r as g2 0 now n (xp n now x n J 0).1 u)) ∧ rK r as w u) (mE B D CLS) (fun q => B ≤ q)) [.ref (r), .int (x)].toArray s 0 0 (fun q => B ≤ q)) (F0 m 22 ls []) := by
    intro hx0 k
    induction k with
    | zero =>
      intro hk K y g9 v hv hk9 heq H locs ls hm hl
      have hl : lv_has ls 4 [(3, .int (-1)), (2, .int (y)), (0, .ref (r)), (1, .int (x))] := hl
      refine lv_iload_n hx hb dM_expire_22 rfl (lv_at hl 0 rfl) ?_
      refine lv_if_lt (tgt := 81) hx hb dM_expire_23 (by decide) (fun c_23 => ?_) (fun c_23 => ?_)
      · refine lv_iload_n hx hb dM_expire_81 rfl (lv_at hl 1 rfl) ?_
        exact mreti hx hb hr hlk hm ⟨Or.inr ⟨hx0, by rw [heq]; rfl, g9, by rw [heq]; exact hv⟩, hk9⟩ dM_expire_82
      · first | exact absurd c_23 (by decide) | exact absurd (by decide) c_23
    | succ k ih =>
      intro hk K y g9 v hv hk9 heq H locs ls hm hl
      have hk1 : k < n := hk
      rw [nI_pred] at hl
      refine lv_iload_n hx hb dM_expire_22 rfl (lv_at hl 0 rfl) ?_
      refine lv_if_lt (tgt := 81) hx hb dM_expire_23 (by decide) (fun c_23 => ?_) (fun c_23 => ?_)
      · exact absurd c_23 (nI_pos (by omega))
      · refine lv_aload_n hx hb dM_expire_26 rfl (lv_at hl 2 rfl) ?_
        refine g_M_M_38 (v := .int (0)) hx hb hE hm hv.1 rfl dM_expire_27 ?_
        refine lv_if_ne (tgt := 81) hx hb dM_expire_30 (by decide) (fun c_30 => ?_) (fun c_30 => ?_)
        · first | exact absurd c_30 (by decide) | exact absurd (by decide) c_30
        · refine lv_aload_n hx hb dM_expire_33 rfl (lv_at hl 2 rfl) ?_
          refine lv_iload_n hx hb dM_expire_34 rfl (lv_at hl 0 rfl) ?_
          refine mcalli (mcV (n := 1) (As := [.int (nI k)]) (rest := []) hx hb hml hE (kM_mayGo l B D cI cZ cL v r as g9 0 now n K hv k hk1) q_405 q_407 qs_13 q_2 q_408 rfl rfl (by decide +kernel) ⟨Nat.le_of_ble_eq_true rfl, Nat.le_of_ble_eq_true rfl⟩ rfl hl.1 hm rfl hv.1 rfl (Nat.le_of_ble_eq_true rfl) dM_expire_35 ⟨Nat.le_of_ble_eq_true rfl, Nat.le_of_ble_eq_true rfl⟩) hm (fun r1 u1 H locs hp1 hm => ?_)
          obtain ⟨hr1, hu1⟩ := hp1
          rw [hu1] at hm
          refine lv_if_eq (tgt := 75) hx hb dM_expire_38 (by decide) (fun c_38 => ?_) (fun c_38 => ?_)
          · rw [hr1, bI_0] at c_38
            refine lv_iinc (v := nI k + (-1)) (lv' := [(3, .int (nI k + (-1))), (2, .int (y)), (0, .ref (r)), (1, .int (x))]) hx hb dM_expire_75 hl (k := 0) rfl rfl (by decide) rfl (fun ls hl => ?_)
            refine lv_goto (tgt := 22) hx hb dM_expire_78 (by decide) ?_
            rw [← Int32.sub_eq_add_neg] at hl
            exact ih (Nat.le_of_succ_le hk) K y g9 v hv hk9 (by rw [heq, xp_f (by simp [c_38])]) H locs ls hm (lv_sub hl [0, 1, 2, 3] rfl)
          · rw [hr1, bI_0] at c_38
            refine lv_aload_n hx hb dM_expire_41 rfl (lv_at hl 2 rfl) ?_
            refine g_M_M_43 (v := .int (now)) hx hb hE hm hv.1 rfl dM_expire_42 ?_
            refine lv_aload_n hx hb dM_expire_45 rfl (lv_at hl 2 rfl) ?_
            refine g_M_M_26 (v := .ref (as 5)) hx hb hE hm hv.1 rfl dM_expire_46 ?_
            refine lv_iload_n hx hb dM_expire_49 rfl (lv_at hl 0 rfl) ?_
            refine ialdE (k) hx hb hE.2.2.1 hm 0 hv.a5 rfl rfl (by have := hR.n200; have := hk1; omega) (by decide) dM_expire_50 ?_
            rw [hv.g5 hk1]
            refine lv_isub hx hb dM_expire_51 ?_
            refine lv_iload_n hx hb dM_expire_52 rfl (lv_at hl 3 rfl) ?_
            refine lv_icmp_le (tgt := 75) hx hb dM_expire_53 (by decide) (fun c_53 => ?_) (fun c_53 => ?_)
            · rw [← Int32.not_lt] at c_53
              refine lv_iinc (v := nI k + (-1)) (lv' := [(3, .int (nI k + (-1))), (2, .int (y)), (0, .ref (r)), (1, .int (x))]) hx hb dM_expire_75 hl (k := 0) rfl rfl (by decide) rfl (fun ls hl => ?_)
              refine lv_goto (tgt := 22) hx hb dM_expire_78 (by decide) ?_
              rw [← Int32.sub_eq_add_neg] at hl
              exact ih (Nat.le_of_succ_le hk) K y g9 v hv hk9 (by rw [heq, xp_f (by simp [c_38, c_53])]) H locs ls hm (lv_sub hl [0, 1, 2, 3] rfl)
            · rw [Int32.not_le] at c_53
              refine lv_aload_n hx hb dM_expire_56 rfl (lv_at hl 2 rfl) ?_
              refine lv_iload_n hx hb dM_expire_57 rfl (lv_at hl 0 rfl) ?_
              refine mcalli (mcV (n := 1) (As := [.int (nI k)]) (rest := []) hx hb hml hE (kM_isOnly l B D cI cZ cL v r as g9 0 now n K hv k hk1) q_421 q_423 qs_16 q_2 q_424 rfl rfl (by decide +kernel) ⟨Nat.le_of_ble_eq_true rfl, Nat.le_of_ble_eq_true rfl⟩ rfl hl.1 hm rfl hv.1 rfl (Nat.le_of_ble_eq_true rfl) dM_expire_58 ⟨Nat.le_of_ble_eq_true rfl, Nat.le_of_ble_eq_true rfl⟩) hm (fun r2 u2 H locs hp2 hm => ?_)
              obtain ⟨hr2, hu2⟩ := hp2
              rw [hu2] at hm
              rw [onlyR_eq (fr_pr (by simpa using c_38))] at hr2
              refine lv_if_eq (tgt := 67) hx hb dM_expire_61 (by decide) (fun c_61 => ?_) (fun c_61 => ?_)
              · rw [hr2, bI_0] at c_61
                refine lv_aload_n hx hb dM_expire_67 rfl (lv_at hl 2 rfl) ?_
                refine lv_iload_n hx hb dM_expire_68 rfl (lv_at hl 0 rfl) ?_
                refine mcallv (mcV (n := 1) (As := [.int (nI k)]) (rest := []) hx hb hml hE (kM_drop l B D cI cZ cL v r as g9 0 now n K hv k hk1) q_413 q_415 qs_15 q_2 q_416 rfl rfl (by decide +kernel) ⟨Nat.le_of_ble_eq_true rfl, Nat.le_of_ble_eq_true rfl⟩ rfl hl.1 hm rfl hv.1 rfl (Nat.le_of_ble_eq_true rfl) dM_expire_69 ⟨Nat.le_of_ble_eq_true rfl, Nat.le_of_ble_eq_true rfl⟩) hm (fun u3 H locs hp3 hm => ?_)
                obtain ⟨⟨g8, hv8⟩, hk8⟩ := hp3
                refine lv_iinc (v := y + 1) (lv' := [(2, .int (y + 1)), (3, .int (nI k)), (0, .ref (r)), (1, .int (x))]) hx hb dM_expire_72 hl (k := 1) rfl rfl (by decide) rfl (fun ls hl => ?_)
                refine lv_iinc (v := nI k + (-1)) (lv' := [(3, .int (nI k + (-1))), (2, .int (y + 1)), (0, .ref (r)), (1, .int (x))]) hx hb dM_expire_75 hl (k := 1) rfl rfl (by decide) rfl (fun ls hl => ?_)
                refine lv_goto (tgt := 22) hx hb dM_expire_78 (by decide) ?_
                rw [← Int32.sub_eq_add_neg] at hl
                exact ih (Nat.le_of_succ_le hk) (drJ K k) (y + 1) g8 u3 hv8 (hk9.tr hk8) (by rw [heq, xp_t (by simp [c_38, c_53, c_61])]) H locs ls hm (lv_sub hl [0, 1, 2, 3] rfl)
              · rw [hr2, bI_0] at c_61
                refine lv_goto (tgt := 75) hx hb dM_expire_64 (by decide) ?_
                refine lv_iinc (v := nI k + (-1)) (lv' := [(3, .int (nI k + (-1))), (2, .int (y)), (0, .ref (r)), (1, .int (x))]) hx hb dM_expire_75 hl (k := 0) rfl rfl (by decide) rfl (fun ls hl => ?_)
                refine lv_goto (tgt := 22) hx hb dM_expire_78 (by decide) ?_
                rw [← Int32.sub_eq_add_neg] at hl
                exact ih (Nat.le_of_succ_le hk) K y g9 v hv hk9 (by rw [heq, xp_f (by simp [c_38, c_53, c_61])]) H locs ls hm (lv_sub hl [0, 1, 2, 3] rfl)
  refine lv_aload_n hx hb dM_expire_0 rfl (lv_at hl 0 rfl) ?_
  refine lv_iload_n hx hb dM_expire_1 rfl (lv_at hl 1 rfl) ?_
  refine lv_if_ge (tgt := 9) hx hb dM_expire_2 (by decide) (fun c_2 => ?_) (fun c_2 => ?_)
  · rw [← Int32.not_lt] at c_2
    refine lv_iconst (v := 0) hx hb dM_expire_9 (by decide) ?_
    refine p_M_M_38 (x := 0) hx hb hE hm hR.1 (by simp) dM_expire_10 (fun H locs hm => ?_)
    obtain ⟨w1, hhw1⟩ : ∃ z : Wd, z = wset w (r) (.inr (2, [.int (0), .int (now), .int (nI n), .ref (as 0), .ref (as 1), .ref (as 2), .ref (as 3), .ref (as 4), .ref (as 5), .ref (as 6), .ref (as 7), .ref (as 8)])) := ⟨_, rfl⟩
    have hm : mS B D CLS s.heap w1 H locs := by rw [hhw1]; exact hm
    have hw1 : w1 = wset (w) (r) (.inr (2, [.int (0), .int (now), .int (nI n), .ref (as 0), .ref (as 1), .ref (as 2), .ref (as 3), .ref (as 4), .ref (as 5), .ref (as 6), .ref (as 7), .ref (as 8)])) := by rw [hhw1]
    have fw1 : w1 (r) = some (.inr (2, [.int (0), .int (now), .int (nI n), .ref (as 0), .ref (as 1), .ref (as 2), .ref (as 3), .ref (as 4), .ref (as 5), .ref (as 6), .ref (as 7), .ref (as 8)])) := by rw [hhw1]; exact wset_at _ _ _
    have fw1_1 := (show w1 (as 0) = w (as 0) by rw [hhw1]; exact wset_ne (hR.ne (by decide : 0 < 9))).trans hR.a0
    have fw1_2 := (show w1 (as 1) = w (as 1) by rw [hhw1]; exact wset_ne (hR.ne (by decide : 1 < 9))).trans hR.a1
    have fw1_3 := (show w1 (as 2) = w (as 2) by rw [hhw1]; exact wset_ne (hR.ne (by decide : 2 < 9))).trans hR.a2
    have fw1_4 := (show w1 (as 3) = w (as 3) by rw [hhw1]; exact wset_ne (hR.ne (by decide : 3 < 9))).trans hR.a3
    have fw1_5 := (show w1 (as 4) = w (as 4) by rw [hhw1]; exact wset_ne (hR.ne (by decide : 4 < 9))).trans hR.a4
    have fw1_6 := (show w1 (as 5) = w (as 5) by rw [hhw1]; exact wset_ne (hR.ne (by decide : 5 < 9))).trans hR.a5
    have fw1_7 := (show w1 (as 6) = w (as 6) by rw [hhw1]; exact wset_ne (hR.ne (by decide : 6 < 9))).trans hR.a6
    have fw1_8 := (show w1 (as 7) = w (as 7) by rw [hhw1]; exact wset_ne (hR.ne (by decide : 7 < 9))).trans hR.a7
    have fw1_9 := (show w1 (as 8) = w (as 8) by rw [hhw1]; exact wset_ne (hR.ne (by decide : 8 < 9))).trans hR.a8
    refine lv_iconst (v := 0) hx hb dM_expire_13 (by decide) ?_
    refine lv_istore_n (lv' := [(2, .int (0)), (0, .ref (r)), (1, .int (x))]) hx hb dM_expire_14 rfl hl (by decide) rfl (fun ls hl => ?_)
    refine lv_aload_n hx hb dM_expire_15 rfl (lv_at hl 1 rfl) ?_
    refine g_M_M_46 (v := .int (nI n)) hx hb hE hm fw1 rfl dM_expire_16 ?_
    refine lv_iconst (v := 1) hx hb dM_expire_19 (by decide) ?_
    refine lv_isub hx hb dM_expire_20 ?_
    refine lv_istore_n (lv' := [(3, .int ((nI n) - (1))), (2, .int (0)), (0, .ref (r)), (1, .int (x))]) hx hb dM_expire_21 rfl hl (by decide) rfl (fun ls hl => ?_)
    exact loop c_2 n (Nat.le_refl n) J 0 g w1 (by rw [hw1]; exact hR.set _ _) (by rw [hw1]; exact rK.rf.set rF_r) rfl _ _ ls hm (lv_sub hl [0, 1, 2, 3] rfl)
  · rw [Int32.not_le] at c_2
    refine lv_iconst (v := 1) hx hb dM_expire_5 (by decide) ?_
    refine lv_goto (tgt := 10) hx hb dM_expire_6 (by decide) ?_
    refine p_M_M_38 (x := 1) hx hb hE hm hR.1 (by simp) dM_expire_10 (fun H locs hm => ?_)
    obtain ⟨w2, hhw2⟩ : ∃ z : Wd, z = wset w (r) (.inr (2, [.int (1), .int (now), .int (nI n), .ref (as 0), .ref (as 1), .ref (as 2), .ref (as 3), .ref (as 4), .ref (as 5), .ref (as 6), .ref (as 7), .ref (as 8)])) := ⟨_, rfl⟩
    have hm : mS B D CLS s.heap w2 H locs := by rw [hhw2]; exact hm
    have hw2 : w2 = wset (w) (r) (.inr (2, [.int (1), .int (now), .int (nI n), .ref (as 0), .ref (as 1), .ref (as 2), .ref (as 3), .ref (as 4), .ref (as 5), .ref (as 6), .ref (as 7), .ref (as 8)])) := by rw [hhw2]
    have fw2 : w2 (r) = some (.inr (2, [.int (1), .int (now), .int (nI n), .ref (as 0), .ref (as 1), .ref (as 2), .ref (as 3), .ref (as 4), .ref (as 5), .ref (as 6), .ref (as 7), .ref (as 8)])) := by rw [hhw2]; exact wset_at _ _ _
    have fw2_1 := (show w2 (as 0) = w (as 0) by rw [hhw2]; exact wset_ne (hR.ne (by decide : 0 < 9))).trans hR.a0
    have fw2_2 := (show w2 (as 1) = w (as 1) by rw [hhw2]; exact wset_ne (hR.ne (by decide : 1 < 9))).trans hR.a1
    have fw2_3 := (show w2 (as 2) = w (as 2) by rw [hhw2]; exact wset_ne (hR.ne (by decide : 2 < 9))).trans hR.a2
    have fw2_4 := (show w2 (as 3) = w (as 3) by rw [hhw2]; exact wset_ne (hR.ne (by decide : 3 < 9))).trans hR.a3
    have fw2_5 := (show w2 (as 4) = w (as 4) by rw [hhw2]; exact wset_ne (hR.ne (by decide : 4 < 9))).trans hR.a4
    have fw2_6 := (show w2 (as 5) = w (as 5) by rw [hhw2]; exact wset_ne (hR.ne (by decide : 5 < 9))).trans hR.a5
    have fw2_7 := (show w2 (as 6) = w (as 6) by rw [hhw2]; exact wset_ne (hR.ne (by decide : 6 < 9))).trans hR.a6
    have fw2_8 := (show w2 (as 7) = w (as 7) by rw [hhw2]; exact wset_ne (hR.ne (by decide : 7 < 9))).trans hR.a7
    have fw2_9 := (show w2 (as 8) = w (as 8) by rw [hhw2]; exact wset_ne (hR.ne (by decide : 8 < 9))).trans hR.a8
    refine lv_iconst (v := 0) hx hb dM_expire_13 (by decide) ?_
    refine lv_istore_n (lv' := [(2, .int (0)), (0, .ref (r)), (1, .int (x))]) hx hb dM_expire_14 rfl hl (by decide) rfl (fun ls hl => ?_)
    refine lv_aload_n hx hb dM_expire_15 rfl (lv_at hl 1 rfl) ?_
    refine g_M_M_46 (v := .int (nI n)) hx hb hE hm fw2 rfl dM_expire_16 ?_
    refine lv_iconst (v := 1) hx hb dM_expire_19 (by decide) ?_
    refine lv_isub hx hb dM_expire_20 ?_
    refine lv_istore_n (lv' := [(3, .int ((nI n) - (1))), (2, .int (0)), (0, .ref (r)), (1, .int (x))]) hx hb dM_expire_21 rfl hl (by decide) rfl (fun ls hl => ?_)
    refine lv_iload_n hx hb dM_expire_22 rfl (lv_at hl 0 rfl) ?_
    refine lv_if_lt (tgt := 81) hx hb dM_expire_23 (by decide) (fun c_23 => ?_) (fun c_23 => ?_)
    · refine lv_iload_n hx hb dM_expire_81 rfl (lv_at hl 1 rfl) ?_
      exact mreti hx hb hr hlk hm ⟨Or.inl ⟨c_2, rfl, by rw [hw2]; exact hR.set _ _⟩, by rw [hw2]; exact rK.rf.set rF_r⟩ dM_expire_82
    · refine lv_aload_n hx hb dM_expire_26 rfl (lv_at hl 2 rfl) ?_
      refine g_M_M_38 (v := .int (1)) hx hb hE hm fw2 rfl dM_expire_27 ?_
      refine lv_if_ne (tgt := 81) hx hb dM_expire_30 (by decide) (fun c_30 => ?_) (fun c_30 => ?_)
      · refine lv_iload_n hx hb dM_expire_81 rfl (lv_at hl 1 rfl) ?_
        exact mreti hx hb hr hlk hm ⟨Or.inl ⟨c_2, rfl, by rw [hw2]; exact hR.set _ _⟩, by rw [hw2]; exact rK.rf.set rF_r⟩ dM_expire_82
      · first | exact absurd c_30 (by decide) | exact absurd (by decide) c_30
set_option maxHeartbeats 4000000 in
set_option maxRecDepth 100000 in
/-- ChainPickerModel() -/
theorem kM_init (l : Launch) (B : Nat) (D : va_G) (cI cZ cL : ClassId) (w : Wd) (r : Nat) (ha : w r = some (.inr (2, DEFM))) : Met l yM_init (.code yM_init cM_init 1 none :: BIG) { frames := 1, cells := 9, slots := 11600, locals := 12 } (va_Pc [.ref (r)] (mP B D CLS (TYS cI cZ cL) NEST w)) (va_Qv (fun u => (∃ as, (∀ i, i < 9 → w (as i) = none) ∧ (∀ J, rR cI cZ r as (fun _ _ => 0) 0 0 0 J u) ∧ ∀ q, ¬ rF r as q → u q = w q)) (mE B D CLS) (fun q => B ≤ q)) 9 11600 (fun q => B ≤ q) := by
  refine mMet (by decide) rfl (Nat.le_of_ble_eq_true rfl) ?_
  intro p e s m below meth c ls hx hb hml hr hlk hnm hown hts hK hN hm hl
  have hE : ME "ChainPickerModel" (.code yM_init cM_init 1 none) _ s m D (TYS cI cZ cL) := ⟨hown, hts, hK, hN⟩
  have hl : lv_has ls 1 [(0, .ref (r))] := hl
  refine lv_aload_n hx hb dM_init_0 rfl (lv_at hl 0 rfl) ?_
  refine W.objInit hx hb hE.1 (hE.2.1 _ (List.mem_cons_of_mem _ q_300)) (hE.2.1 _ (List.mem_cons_of_mem _ q_16)) (hE.2.1 _ (List.mem_cons_of_mem _ q_17)) rfl (by rw [hml]; exact hl.1) rfl dM_init_1 (Nat.le_of_ble_eq_true rfl) (Nat.le_of_ble_eq_true rfl) ?_
  refine W.eq (g2 := F0 m 4 ls []) rfl ?_
  refine lv_aload_n hx hb dM_init_4 rfl (lv_at hl 0 rfl) ?_
  refine lv_sipush (v := 200) hx hb dM_init_5 (by decide) ?_
  refine mnewa (atype := .int) (cI := cI) (ty := .int) (N' := 200) (a0 := (200, .inl (fun _ => 0))) hx hb (hE.2.1 _ (List.mem_cons_of_mem _ q_107)) rfl hE.2.2.1 hm 0 rfl (fun C h => by cases h) (fun _ => rfl) (by decide) (by decide) (by decide) (Nat.le_of_ble_eq_true rfl) (Nat.le_of_ble_eq_true rfl) dM_init_8 (fun q1 H hq1 hm => ?_)
  generalize ([] : List Loc) = locs at hm ⊢
  have hfq1 : w q1 = none := by have h := hq1; exact h
  have nq1_0 : r ≠ q1 := fun e => by have h := ha; rw [e, hq1] at h; cases h
  obtain ⟨w1, hhw1⟩ : ∃ z : Wd, z = wset w (q1) (.inl (cI, 200, .inl (fun _ => 0))) := ⟨_, rfl⟩
  have hm : mS B D CLS s.heap w1 H locs := by rw [hhw1]; exact hm
  have hw1 : w1 = wset (w) (q1) (.inl (cI, 200, .inl (fun _ => 0))) := by rw [hhw1]
  have fw1 : w1 (q1) = some (.inl (cI, 200, .inl (fun _ => 0))) := by rw [hhw1]; exact wset_at _ _ _
  have fw1_1 := (show w1 (r) = w (r) by rw [hhw1]; exact wset_ne nq1_0).trans ha
  refine p_M_M_7 (r := some (q1)) hx hb hE hm fw1_1 hnm (by simp) dM_init_10 (fun H locs hm => ?_)
  obtain ⟨w2, hhw2⟩ : ∃ z : Wd, z = wset w1 (r) (.inr (2, [.int (0), .int (0), .int (0), .ref (q1), va_rf (none), va_rf (none), va_rf (none), va_rf (none), va_rf (none), va_rf (none), va_rf (none), va_rf (none)])) := ⟨_, rfl⟩
  have hm : mS B D CLS s.heap w2 H locs := by rw [hhw2]; exact hm
  have hw2 : w2 = wset (wset (w) (q1) (.inl (cI, 200, .inl (fun _ => 0)))) (r) (.inr (2, [.int (0), .int (0), .int (0), .ref (q1), va_rf (none), va_rf (none), va_rf (none), va_rf (none), va_rf (none), va_rf (none), va_rf (none), va_rf (none)])) := by rw [hhw2, hw1]
  have fw2 : w2 (r) = some (.inr (2, [.int (0), .int (0), .int (0), .ref (q1), va_rf (none), va_rf (none), va_rf (none), va_rf (none), va_rf (none), va_rf (none), va_rf (none), va_rf (none)])) := by rw [hhw2]; exact wset_at _ _ _
  have fw2_1 := (show w2 (q1) = w1 (q1) by rw [hhw2]; exact wset_ne (Ne.symm nq1_0)).trans fw1
  refine lv_aload_n hx hb dM_init_13 rfl (lv_at hl 0 rfl) ?_
  refine lv_sipush (v := 200) hx hb dM_init_14 (by decide) ?_
  refine mnewa (atype := .int) (cI := cI) (ty := .int) (N' := 200) (a0 := (200, .inl (fun _ => 0))) hx hb (hE.2.1 _ (List.mem_cons_of_mem _ q_107)) rfl hE.2.2.1 hm 0 rfl (fun C h => by cases h) (fun _ => rfl) (by decide) (by decide) (by decide) (Nat.le_of_ble_eq_true rfl) (Nat.le_of_ble_eq_true rfl) dM_init_17 (fun q3 H hq3 hm => ?_)
  have hfq3 : w q3 = none := by have h := hq3; rw [hw2] at h; exact (wset_none (wset_none h).1).1
  have nq3_0 : r ≠ q3 := fun e => by have h := fw2; rw [e, hq3] at h; cases h
  have nq3_1 : q1 ≠ q3 := fun e => by have h := fw2_1; rw [e, hq3] at h; cases h
  obtain ⟨w3, hhw3⟩ : ∃ z : Wd, z = wset w2 (q3) (.inl (cI, 200, .inl (fun _ => 0))) := ⟨_, rfl⟩
  have hm : mS B D CLS s.heap w3 H locs := by rw [hhw3]; exact hm
  have hw3 : w3 = wset (wset (wset (w) (q1) (.inl (cI, 200, .inl (fun _ => 0)))) (r) (.inr (2, [.int (0), .int (0), .int (0), .ref (q1), va_rf (none), va_rf (none), va_rf (none), va_rf (none), va_rf (none), va_rf (none), va_rf (none), va_rf (none)]))) (q3) (.inl (cI, 200, .inl (fun _ => 0))) := by rw [hhw3, hw2]
  have fw3 : w3 (q3) = some (.inl (cI, 200, .inl (fun _ => 0))) := by rw [hhw3]; exact wset_at _ _ _
  have fw3_1 := (show w3 (r) = w2 (r) by rw [hhw3]; exact wset_ne nq3_0).trans fw2
  have fw3_2 := (show w3 (q1) = w2 (q1) by rw [hhw3]; exact wset_ne nq3_1).trans fw2_1
  refine p_M_M_13 (r := some (q3)) hx hb hE hm fw3_1 hnm (by simp) dM_init_19 (fun H locs hm => ?_)
  obtain ⟨w4, hhw4⟩ : ∃ z : Wd, z = wset w3 (r) (.inr (2, [.int (0), .int (0), .int (0), .ref (q1), .ref (q3), va_rf (none), va_rf (none), va_rf (none), va_rf (none), va_rf (none), va_rf (none), va_rf (none)])) := ⟨_, rfl⟩
  have hm : mS B D CLS s.heap w4 H locs := by rw [hhw4]; exact hm
  have hw4 : w4 = wset (wset (wset (w) (q1) (.inl (cI, 200, .inl (fun _ => 0)))) (q3) (.inl (cI, 200, .inl (fun _ => 0)))) (r) (.inr (2, [.int (0), .int (0), .int (0), .ref (q1), .ref (q3), va_rf (none), va_rf (none), va_rf (none), va_rf (none), va_rf (none), va_rf (none), va_rf (none)])) := by rw [hhw4, hw3]; funext z; by_cases hz : z = r <;> simp [wset, hz]
  have fw4 : w4 (r) = some (.inr (2, [.int (0), .int (0), .int (0), .ref (q1), .ref (q3), va_rf (none), va_rf (none), va_rf (none), va_rf (none), va_rf (none), va_rf (none), va_rf (none)])) := by rw [hhw4]; exact wset_at _ _ _
  have fw4_1 := (show w4 (q3) = w3 (q3) by rw [hhw4]; exact wset_ne (Ne.symm nq3_0)).trans fw3
  have fw4_2 := (show w4 (q1) = w3 (q1) by rw [hhw4]; exact wset_ne (Ne.symm nq1_0)).trans fw3_2
  refine lv_aload_n hx hb dM_init_22 rfl (lv_at hl 0 rfl) ?_
  refine lv_sipush (v := 200) hx hb dM_init_23 (by decide) ?_
  refine mnewa (atype := .boolean) (cI := cZ) (ty := .boolean) (N' := 200) (a0 := (200, .inl (fun _ => 0))) hx hb (hE.2.1 _ (List.mem_cons_of_mem _ q_338)) rfl hE.2.2.1 hm 1 rfl (fun C h => by cases h) (fun _ => rfl) (by decide) (by decide) (by decide) (Nat.le_of_ble_eq_true rfl) (Nat.le_of_ble_eq_true rfl) dM_init_26 (fun q5 H hq5 hm => ?_)
  have hfq5 : w q5 = none := by have h := hq5; rw [hw4] at h; exact (wset_none (wset_none (wset_none h).1).1).1
  have nq5_0 : r ≠ q5 := fun e => by have h := fw4; rw [e, hq5] at h; cases h
  have nq5_1 : q3 ≠ q5 := fun e => by have h := fw4_1; rw [e, hq5] at h; cases h
  have nq5_2 : q1 ≠ q5 := fun e => by have h := fw4_2; rw [e, hq5] at h; cases h
  obtain ⟨w5, hhw5⟩ : ∃ z : Wd, z = wset w4 (q5) (.inl (cZ, 200, .inl (fun _ => 0))) := ⟨_, rfl⟩
  have hm : mS B D CLS s.heap w5 H locs := by rw [hhw5]; exact hm
  have hw5 : w5 = wset (wset (wset (wset (w) (q1) (.inl (cI, 200, .inl (fun _ => 0)))) (q3) (.inl (cI, 200, .inl (fun _ => 0)))) (r) (.inr (2, [.int (0), .int (0), .int (0), .ref (q1), .ref (q3), va_rf (none), va_rf (none), va_rf (none), va_rf (none), va_rf (none), va_rf (none), va_rf (none)]))) (q5) (.inl (cZ, 200, .inl (fun _ => 0))) := by rw [hhw5, hw4]
  have fw5 : w5 (q5) = some (.inl (cZ, 200, .inl (fun _ => 0))) := by rw [hhw5]; exact wset_at _ _ _
  have fw5_1 := (show w5 (r) = w4 (r) by rw [hhw5]; exact wset_ne nq5_0).trans fw4
  have fw5_2 := (show w5 (q3) = w4 (q3) by rw [hhw5]; exact wset_ne nq5_1).trans fw4_1
  have fw5_3 := (show w5 (q1) = w4 (q1) by rw [hhw5]; exact wset_ne nq5_2).trans fw4_2
  refine p_M_M_16 (r := some (q5)) hx hb hE hm fw5_1 hnm (by simp) dM_init_28 (fun H locs hm => ?_)
  obtain ⟨w6, hhw6⟩ : ∃ z : Wd, z = wset w5 (r) (.inr (2, [.int (0), .int (0), .int (0), .ref (q1), .ref (q3), .ref (q5), va_rf (none), va_rf (none), va_rf (none), va_rf (none), va_rf (none), va_rf (none)])) := ⟨_, rfl⟩
  have hm : mS B D CLS s.heap w6 H locs := by rw [hhw6]; exact hm
  have hw6 : w6 = wset (wset (wset (wset (w) (q1) (.inl (cI, 200, .inl (fun _ => 0)))) (q3) (.inl (cI, 200, .inl (fun _ => 0)))) (q5) (.inl (cZ, 200, .inl (fun _ => 0)))) (r) (.inr (2, [.int (0), .int (0), .int (0), .ref (q1), .ref (q3), .ref (q5), va_rf (none), va_rf (none), va_rf (none), va_rf (none), va_rf (none), va_rf (none)])) := by rw [hhw6, hw5]; funext z; by_cases hz : z = r <;> simp [wset, hz]
  have fw6 : w6 (r) = some (.inr (2, [.int (0), .int (0), .int (0), .ref (q1), .ref (q3), .ref (q5), va_rf (none), va_rf (none), va_rf (none), va_rf (none), va_rf (none), va_rf (none)])) := by rw [hhw6]; exact wset_at _ _ _
  have fw6_1 := (show w6 (q5) = w5 (q5) by rw [hhw6]; exact wset_ne (Ne.symm nq5_0)).trans fw5
  have fw6_2 := (show w6 (q3) = w5 (q3) by rw [hhw6]; exact wset_ne (Ne.symm nq3_0)).trans fw5_2
  have fw6_3 := (show w6 (q1) = w5 (q1) by rw [hhw6]; exact wset_ne (Ne.symm nq1_0)).trans fw5_3
  refine lv_aload_n hx hb dM_init_31 rfl (lv_at hl 0 rfl) ?_
  refine lv_sipush (v := 200) hx hb dM_init_32 (by decide) ?_
  refine mnewa (atype := .int) (cI := cI) (ty := .int) (N' := 200) (a0 := (200, .inl (fun _ => 0))) hx hb (hE.2.1 _ (List.mem_cons_of_mem _ q_107)) rfl hE.2.2.1 hm 0 rfl (fun C h => by cases h) (fun _ => rfl) (by decide) (by decide) (by decide) (Nat.le_of_ble_eq_true rfl) (Nat.le_of_ble_eq_true rfl) dM_init_35 (fun q7 H hq7 hm => ?_)
  have hfq7 : w q7 = none := by have h := hq7; rw [hw6] at h; exact (wset_none (wset_none (wset_none (wset_none h).1).1).1).1
  have nq7_0 : r ≠ q7 := fun e => by have h := fw6; rw [e, hq7] at h; cases h
  have nq7_1 : q5 ≠ q7 := fun e => by have h := fw6_1; rw [e, hq7] at h; cases h
  have nq7_2 : q3 ≠ q7 := fun e => by have h := fw6_2; rw [e, hq7] at h; cases h
  have nq7_3 : q1 ≠ q7 := fun e => by have h := fw6_3; rw [e, hq7] at h; cases h
  obtain ⟨w7, hhw7⟩ : ∃ z : Wd, z = wset w6 (q7) (.inl (cI, 200, .inl (fun _ => 0))) := ⟨_, rfl⟩
  have hm : mS B D CLS s.heap w7 H locs := by rw [hhw7]; exact hm
  have hw7 : w7 = wset (wset (wset (wset (wset (w) (q1) (.inl (cI, 200, .inl (fun _ => 0)))) (q3) (.inl (cI, 200, .inl (fun _ => 0)))) (q5) (.inl (cZ, 200, .inl (fun _ => 0)))) (r) (.inr (2, [.int (0), .int (0), .int (0), .ref (q1), .ref (q3), .ref (q5), va_rf (none), va_rf (none), va_rf (none), va_rf (none), va_rf (none), va_rf (none)]))) (q7) (.inl (cI, 200, .inl (fun _ => 0))) := by rw [hhw7, hw6]
  have fw7 : w7 (q7) = some (.inl (cI, 200, .inl (fun _ => 0))) := by rw [hhw7]; exact wset_at _ _ _
  have fw7_1 := (show w7 (r) = w6 (r) by rw [hhw7]; exact wset_ne nq7_0).trans fw6
  have fw7_2 := (show w7 (q5) = w6 (q5) by rw [hhw7]; exact wset_ne nq7_1).trans fw6_1
  have fw7_3 := (show w7 (q3) = w6 (q3) by rw [hhw7]; exact wset_ne nq7_2).trans fw6_2
  have fw7_4 := (show w7 (q1) = w6 (q1) by rw [hhw7]; exact wset_ne nq7_3).trans fw6_3
  refine p_M_M_20 (r := some (q7)) hx hb hE hm fw7_1 hnm (by simp) dM_init_37 (fun H locs hm => ?_)
  obtain ⟨w8, hhw8⟩ : ∃ z : Wd, z = wset w7 (r) (.inr (2, [.int (0), .int (0), .int (0), .ref (q1), .ref (q3), .ref (q5), .ref (q7), va_rf (none), va_rf (none), va_rf (none), va_rf (none), va_rf (none)])) := ⟨_, rfl⟩
  have hm : mS B D CLS s.heap w8 H locs := by rw [hhw8]; exact hm
  have hw8 : w8 = wset (wset (wset (wset (wset (w) (q1) (.inl (cI, 200, .inl (fun _ => 0)))) (q3) (.inl (cI, 200, .inl (fun _ => 0)))) (q5) (.inl (cZ, 200, .inl (fun _ => 0)))) (q7) (.inl (cI, 200, .inl (fun _ => 0)))) (r) (.inr (2, [.int (0), .int (0), .int (0), .ref (q1), .ref (q3), .ref (q5), .ref (q7), va_rf (none), va_rf (none), va_rf (none), va_rf (none), va_rf (none)])) := by rw [hhw8, hw7]; funext z; by_cases hz : z = r <;> simp [wset, hz]
  have fw8 : w8 (r) = some (.inr (2, [.int (0), .int (0), .int (0), .ref (q1), .ref (q3), .ref (q5), .ref (q7), va_rf (none), va_rf (none), va_rf (none), va_rf (none), va_rf (none)])) := by rw [hhw8]; exact wset_at _ _ _
  have fw8_1 := (show w8 (q7) = w7 (q7) by rw [hhw8]; exact wset_ne (Ne.symm nq7_0)).trans fw7
  have fw8_2 := (show w8 (q5) = w7 (q5) by rw [hhw8]; exact wset_ne (Ne.symm nq5_0)).trans fw7_2
  have fw8_3 := (show w8 (q3) = w7 (q3) by rw [hhw8]; exact wset_ne (Ne.symm nq3_0)).trans fw7_3
  have fw8_4 := (show w8 (q1) = w7 (q1) by rw [hhw8]; exact wset_ne (Ne.symm nq1_0)).trans fw7_4
  refine lv_aload_n hx hb dM_init_40 rfl (lv_at hl 0 rfl) ?_
  refine lv_sipush (v := 200) hx hb dM_init_41 (by decide) ?_
  refine mnewa (atype := .int) (cI := cI) (ty := .int) (N' := 200) (a0 := (200, .inl (fun _ => 0))) hx hb (hE.2.1 _ (List.mem_cons_of_mem _ q_107)) rfl hE.2.2.1 hm 0 rfl (fun C h => by cases h) (fun _ => rfl) (by decide) (by decide) (by decide) (Nat.le_of_ble_eq_true rfl) (Nat.le_of_ble_eq_true rfl) dM_init_44 (fun q9 H hq9 hm => ?_)
  have hfq9 : w q9 = none := by have h := hq9; rw [hw8] at h; exact (wset_none (wset_none (wset_none (wset_none (wset_none h).1).1).1).1).1
  have nq9_0 : r ≠ q9 := fun e => by have h := fw8; rw [e, hq9] at h; cases h
  have nq9_1 : q7 ≠ q9 := fun e => by have h := fw8_1; rw [e, hq9] at h; cases h
  have nq9_2 : q5 ≠ q9 := fun e => by have h := fw8_2; rw [e, hq9] at h; cases h
  have nq9_3 : q3 ≠ q9 := fun e => by have h := fw8_3; rw [e, hq9] at h; cases h
  have nq9_4 : q1 ≠ q9 := fun e => by have h := fw8_4; rw [e, hq9] at h; cases h
  obtain ⟨w9, hhw9⟩ : ∃ z : Wd, z = wset w8 (q9) (.inl (cI, 200, .inl (fun _ => 0))) := ⟨_, rfl⟩
  have hm : mS B D CLS s.heap w9 H locs := by rw [hhw9]; exact hm
  have hw9 : w9 = wset (wset (wset (wset (wset (wset (w) (q1) (.inl (cI, 200, .inl (fun _ => 0)))) (q3) (.inl (cI, 200, .inl (fun _ => 0)))) (q5) (.inl (cZ, 200, .inl (fun _ => 0)))) (q7) (.inl (cI, 200, .inl (fun _ => 0)))) (r) (.inr (2, [.int (0), .int (0), .int (0), .ref (q1), .ref (q3), .ref (q5), .ref (q7), va_rf (none), va_rf (none), va_rf (none), va_rf (none), va_rf (none)]))) (q9) (.inl (cI, 200, .inl (fun _ => 0))) := by rw [hhw9, hw8]
  have fw9 : w9 (q9) = some (.inl (cI, 200, .inl (fun _ => 0))) := by rw [hhw9]; exact wset_at _ _ _
  have fw9_1 := (show w9 (r) = w8 (r) by rw [hhw9]; exact wset_ne nq9_0).trans fw8
  have fw9_2 := (show w9 (q7) = w8 (q7) by rw [hhw9]; exact wset_ne nq9_1).trans fw8_1
  have fw9_3 := (show w9 (q5) = w8 (q5) by rw [hhw9]; exact wset_ne nq9_2).trans fw8_2
  have fw9_4 := (show w9 (q3) = w8 (q3) by rw [hhw9]; exact wset_ne nq9_3).trans fw8_3
  have fw9_5 := (show w9 (q1) = w8 (q1) by rw [hhw9]; exact wset_ne nq9_4).trans fw8_4
  refine p_M_M_23 (r := some (q9)) hx hb hE hm fw9_1 hnm (by simp) dM_init_46 (fun H locs hm => ?_)
  obtain ⟨w10, hhw10⟩ : ∃ z : Wd, z = wset w9 (r) (.inr (2, [.int (0), .int (0), .int (0), .ref (q1), .ref (q3), .ref (q5), .ref (q7), .ref (q9), va_rf (none), va_rf (none), va_rf (none), va_rf (none)])) := ⟨_, rfl⟩
  have hm : mS B D CLS s.heap w10 H locs := by rw [hhw10]; exact hm
  have hw10 : w10 = wset (wset (wset (wset (wset (wset (w) (q1) (.inl (cI, 200, .inl (fun _ => 0)))) (q3) (.inl (cI, 200, .inl (fun _ => 0)))) (q5) (.inl (cZ, 200, .inl (fun _ => 0)))) (q7) (.inl (cI, 200, .inl (fun _ => 0)))) (q9) (.inl (cI, 200, .inl (fun _ => 0)))) (r) (.inr (2, [.int (0), .int (0), .int (0), .ref (q1), .ref (q3), .ref (q5), .ref (q7), .ref (q9), va_rf (none), va_rf (none), va_rf (none), va_rf (none)])) := by rw [hhw10, hw9]; funext z; by_cases hz : z = r <;> simp [wset, hz]
  have fw10 : w10 (r) = some (.inr (2, [.int (0), .int (0), .int (0), .ref (q1), .ref (q3), .ref (q5), .ref (q7), .ref (q9), va_rf (none), va_rf (none), va_rf (none), va_rf (none)])) := by rw [hhw10]; exact wset_at _ _ _
  have fw10_1 := (show w10 (q9) = w9 (q9) by rw [hhw10]; exact wset_ne (Ne.symm nq9_0)).trans fw9
  have fw10_2 := (show w10 (q7) = w9 (q7) by rw [hhw10]; exact wset_ne (Ne.symm nq7_0)).trans fw9_2
  have fw10_3 := (show w10 (q5) = w9 (q5) by rw [hhw10]; exact wset_ne (Ne.symm nq5_0)).trans fw9_3
  have fw10_4 := (show w10 (q3) = w9 (q3) by rw [hhw10]; exact wset_ne (Ne.symm nq3_0)).trans fw9_4
  have fw10_5 := (show w10 (q1) = w9 (q1) by rw [hhw10]; exact wset_ne (Ne.symm nq1_0)).trans fw9_5
  refine lv_aload_n hx hb dM_init_49 rfl (lv_at hl 0 rfl) ?_
  refine lv_sipush (v := 200) hx hb dM_init_50 (by decide) ?_
  refine mnewa (atype := .int) (cI := cI) (ty := .int) (N' := 200) (a0 := (200, .inl (fun _ => 0))) hx hb (hE.2.1 _ (List.mem_cons_of_mem _ q_107)) rfl hE.2.2.1 hm 0 rfl (fun C h => by cases h) (fun _ => rfl) (by decide) (by decide) (by decide) (Nat.le_of_ble_eq_true rfl) (Nat.le_of_ble_eq_true rfl) dM_init_53 (fun q11 H hq11 hm => ?_)
  have hfq11 : w q11 = none := by have h := hq11; rw [hw10] at h; exact (wset_none (wset_none (wset_none (wset_none (wset_none (wset_none h).1).1).1).1).1).1
  have nq11_0 : r ≠ q11 := fun e => by have h := fw10; rw [e, hq11] at h; cases h
  have nq11_1 : q9 ≠ q11 := fun e => by have h := fw10_1; rw [e, hq11] at h; cases h
  have nq11_2 : q7 ≠ q11 := fun e => by have h := fw10_2; rw [e, hq11] at h; cases h
  have nq11_3 : q5 ≠ q11 := fun e => by have h := fw10_3; rw [e, hq11] at h; cases h
  have nq11_4 : q3 ≠ q11 := fun e => by have h := fw10_4; rw [e, hq11] at h; cases h
  have nq11_5 : q1 ≠ q11 := fun e => by have h := fw10_5; rw [e, hq11] at h; cases h
  obtain ⟨w11, hhw11⟩ : ∃ z : Wd, z = wset w10 (q11) (.inl (cI, 200, .inl (fun _ => 0))) := ⟨_, rfl⟩
  have hm : mS B D CLS s.heap w11 H locs := by rw [hhw11]; exact hm
  have hw11 : w11 = wset (wset (wset (wset (wset (wset (wset (w) (q1) (.inl (cI, 200, .inl (fun _ => 0)))) (q3) (.inl (cI, 200, .inl (fun _ => 0)))) (q5) (.inl (cZ, 200, .inl (fun _ => 0)))) (q7) (.inl (cI, 200, .inl (fun _ => 0)))) (q9) (.inl (cI, 200, .inl (fun _ => 0)))) (r) (.inr (2, [.int (0), .int (0), .int (0), .ref (q1), .ref (q3), .ref (q5), .ref (q7), .ref (q9), va_rf (none), va_rf (none), va_rf (none), va_rf (none)]))) (q11) (.inl (cI, 200, .inl (fun _ => 0))) := by rw [hhw11, hw10]
  have fw11 : w11 (q11) = some (.inl (cI, 200, .inl (fun _ => 0))) := by rw [hhw11]; exact wset_at _ _ _
  have fw11_1 := (show w11 (r) = w10 (r) by rw [hhw11]; exact wset_ne nq11_0).trans fw10
  have fw11_2 := (show w11 (q9) = w10 (q9) by rw [hhw11]; exact wset_ne nq11_1).trans fw10_1
  have fw11_3 := (show w11 (q7) = w10 (q7) by rw [hhw11]; exact wset_ne nq11_2).trans fw10_2
  have fw11_4 := (show w11 (q5) = w10 (q5) by rw [hhw11]; exact wset_ne nq11_3).trans fw10_3
  have fw11_5 := (show w11 (q3) = w10 (q3) by rw [hhw11]; exact wset_ne nq11_4).trans fw10_4
  have fw11_6 := (show w11 (q1) = w10 (q1) by rw [hhw11]; exact wset_ne nq11_5).trans fw10_5
  refine p_M_M_26 (r := some (q11)) hx hb hE hm fw11_1 hnm (by simp) dM_init_55 (fun H locs hm => ?_)
  obtain ⟨w12, hhw12⟩ : ∃ z : Wd, z = wset w11 (r) (.inr (2, [.int (0), .int (0), .int (0), .ref (q1), .ref (q3), .ref (q5), .ref (q7), .ref (q9), .ref (q11), va_rf (none), va_rf (none), va_rf (none)])) := ⟨_, rfl⟩
  have hm : mS B D CLS s.heap w12 H locs := by rw [hhw12]; exact hm
  have hw12 : w12 = wset (wset (wset (wset (wset (wset (wset (w) (q1) (.inl (cI, 200, .inl (fun _ => 0)))) (q3) (.inl (cI, 200, .inl (fun _ => 0)))) (q5) (.inl (cZ, 200, .inl (fun _ => 0)))) (q7) (.inl (cI, 200, .inl (fun _ => 0)))) (q9) (.inl (cI, 200, .inl (fun _ => 0)))) (q11) (.inl (cI, 200, .inl (fun _ => 0)))) (r) (.inr (2, [.int (0), .int (0), .int (0), .ref (q1), .ref (q3), .ref (q5), .ref (q7), .ref (q9), .ref (q11), va_rf (none), va_rf (none), va_rf (none)])) := by rw [hhw12, hw11]; funext z; by_cases hz : z = r <;> simp [wset, hz]
  have fw12 : w12 (r) = some (.inr (2, [.int (0), .int (0), .int (0), .ref (q1), .ref (q3), .ref (q5), .ref (q7), .ref (q9), .ref (q11), va_rf (none), va_rf (none), va_rf (none)])) := by rw [hhw12]; exact wset_at _ _ _
  have fw12_1 := (show w12 (q11) = w11 (q11) by rw [hhw12]; exact wset_ne (Ne.symm nq11_0)).trans fw11
  have fw12_2 := (show w12 (q9) = w11 (q9) by rw [hhw12]; exact wset_ne (Ne.symm nq9_0)).trans fw11_2
  have fw12_3 := (show w12 (q7) = w11 (q7) by rw [hhw12]; exact wset_ne (Ne.symm nq7_0)).trans fw11_3
  have fw12_4 := (show w12 (q5) = w11 (q5) by rw [hhw12]; exact wset_ne (Ne.symm nq5_0)).trans fw11_4
  have fw12_5 := (show w12 (q3) = w11 (q3) by rw [hhw12]; exact wset_ne (Ne.symm nq3_0)).trans fw11_5
  have fw12_6 := (show w12 (q1) = w11 (q1) by rw [hhw12]; exact wset_ne (Ne.symm nq1_0)).trans fw11_6
  refine lv_aload_n hx hb dM_init_58 rfl (lv_at hl 0 rfl) ?_
  refine lv_sipush (v := 200) hx hb dM_init_59 (by decide) ?_
  refine mnewa (atype := .int) (cI := cI) (ty := .int) (N' := 200) (a0 := (200, .inl (fun _ => 0))) hx hb (hE.2.1 _ (List.mem_cons_of_mem _ q_107)) rfl hE.2.2.1 hm 0 rfl (fun C h => by cases h) (fun _ => rfl) (by decide) (by decide) (by decide) (Nat.le_of_ble_eq_true rfl) (Nat.le_of_ble_eq_true rfl) dM_init_62 (fun q13 H hq13 hm => ?_)
  have hfq13 : w q13 = none := by have h := hq13; rw [hw12] at h; exact (wset_none (wset_none (wset_none (wset_none (wset_none (wset_none (wset_none h).1).1).1).1).1).1).1
  have nq13_0 : r ≠ q13 := fun e => by have h := fw12; rw [e, hq13] at h; cases h
  have nq13_1 : q11 ≠ q13 := fun e => by have h := fw12_1; rw [e, hq13] at h; cases h
  have nq13_2 : q9 ≠ q13 := fun e => by have h := fw12_2; rw [e, hq13] at h; cases h
  have nq13_3 : q7 ≠ q13 := fun e => by have h := fw12_3; rw [e, hq13] at h; cases h
  have nq13_4 : q5 ≠ q13 := fun e => by have h := fw12_4; rw [e, hq13] at h; cases h
  have nq13_5 : q3 ≠ q13 := fun e => by have h := fw12_5; rw [e, hq13] at h; cases h
  have nq13_6 : q1 ≠ q13 := fun e => by have h := fw12_6; rw [e, hq13] at h; cases h
  obtain ⟨w13, hhw13⟩ : ∃ z : Wd, z = wset w12 (q13) (.inl (cI, 200, .inl (fun _ => 0))) := ⟨_, rfl⟩
  have hm : mS B D CLS s.heap w13 H locs := by rw [hhw13]; exact hm
  have hw13 : w13 = wset (wset (wset (wset (wset (wset (wset (wset (w) (q1) (.inl (cI, 200, .inl (fun _ => 0)))) (q3) (.inl (cI, 200, .inl (fun _ => 0)))) (q5) (.inl (cZ, 200, .inl (fun _ => 0)))) (q7) (.inl (cI, 200, .inl (fun _ => 0)))) (q9) (.inl (cI, 200, .inl (fun _ => 0)))) (q11) (.inl (cI, 200, .inl (fun _ => 0)))) (r) (.inr (2, [.int (0), .int (0), .int (0), .ref (q1), .ref (q3), .ref (q5), .ref (q7), .ref (q9), .ref (q11), va_rf (none), va_rf (none), va_rf (none)]))) (q13) (.inl (cI, 200, .inl (fun _ => 0))) := by rw [hhw13, hw12]
  have fw13 : w13 (q13) = some (.inl (cI, 200, .inl (fun _ => 0))) := by rw [hhw13]; exact wset_at _ _ _
  have fw13_1 := (show w13 (r) = w12 (r) by rw [hhw13]; exact wset_ne nq13_0).trans fw12
  have fw13_2 := (show w13 (q11) = w12 (q11) by rw [hhw13]; exact wset_ne nq13_1).trans fw12_1
  have fw13_3 := (show w13 (q9) = w12 (q9) by rw [hhw13]; exact wset_ne nq13_2).trans fw12_2
  have fw13_4 := (show w13 (q7) = w12 (q7) by rw [hhw13]; exact wset_ne nq13_3).trans fw12_3
  have fw13_5 := (show w13 (q5) = w12 (q5) by rw [hhw13]; exact wset_ne nq13_4).trans fw12_4
  have fw13_6 := (show w13 (q3) = w12 (q3) by rw [hhw13]; exact wset_ne nq13_5).trans fw12_5
  have fw13_7 := (show w13 (q1) = w12 (q1) by rw [hhw13]; exact wset_ne nq13_6).trans fw12_6
  refine p_M_M_29 (r := some (q13)) hx hb hE hm fw13_1 hnm (by simp) dM_init_64 (fun H locs hm => ?_)
  obtain ⟨w14, hhw14⟩ : ∃ z : Wd, z = wset w13 (r) (.inr (2, [.int (0), .int (0), .int (0), .ref (q1), .ref (q3), .ref (q5), .ref (q7), .ref (q9), .ref (q11), .ref (q13), va_rf (none), va_rf (none)])) := ⟨_, rfl⟩
  have hm : mS B D CLS s.heap w14 H locs := by rw [hhw14]; exact hm
  have hw14 : w14 = wset (wset (wset (wset (wset (wset (wset (wset (w) (q1) (.inl (cI, 200, .inl (fun _ => 0)))) (q3) (.inl (cI, 200, .inl (fun _ => 0)))) (q5) (.inl (cZ, 200, .inl (fun _ => 0)))) (q7) (.inl (cI, 200, .inl (fun _ => 0)))) (q9) (.inl (cI, 200, .inl (fun _ => 0)))) (q11) (.inl (cI, 200, .inl (fun _ => 0)))) (q13) (.inl (cI, 200, .inl (fun _ => 0)))) (r) (.inr (2, [.int (0), .int (0), .int (0), .ref (q1), .ref (q3), .ref (q5), .ref (q7), .ref (q9), .ref (q11), .ref (q13), va_rf (none), va_rf (none)])) := by rw [hhw14, hw13]; funext z; by_cases hz : z = r <;> simp [wset, hz]
  have fw14 : w14 (r) = some (.inr (2, [.int (0), .int (0), .int (0), .ref (q1), .ref (q3), .ref (q5), .ref (q7), .ref (q9), .ref (q11), .ref (q13), va_rf (none), va_rf (none)])) := by rw [hhw14]; exact wset_at _ _ _
  have fw14_1 := (show w14 (q13) = w13 (q13) by rw [hhw14]; exact wset_ne (Ne.symm nq13_0)).trans fw13
  have fw14_2 := (show w14 (q11) = w13 (q11) by rw [hhw14]; exact wset_ne (Ne.symm nq11_0)).trans fw13_2
  have fw14_3 := (show w14 (q9) = w13 (q9) by rw [hhw14]; exact wset_ne (Ne.symm nq9_0)).trans fw13_3
  have fw14_4 := (show w14 (q7) = w13 (q7) by rw [hhw14]; exact wset_ne (Ne.symm nq7_0)).trans fw13_4
  have fw14_5 := (show w14 (q5) = w13 (q5) by rw [hhw14]; exact wset_ne (Ne.symm nq5_0)).trans fw13_5
  have fw14_6 := (show w14 (q3) = w13 (q3) by rw [hhw14]; exact wset_ne (Ne.symm nq3_0)).trans fw13_6
  have fw14_7 := (show w14 (q1) = w13 (q1) by rw [hhw14]; exact wset_ne (Ne.symm nq1_0)).trans fw13_7
  refine lv_aload_n hx hb dM_init_67 rfl (lv_at hl 0 rfl) ?_
  refine lv_sipush (v := 200) hx hb dM_init_68 (by decide) ?_
  refine mnewa (atype := .boolean) (cI := cZ) (ty := .boolean) (N' := 200) (a0 := (200, .inl (fun _ => 0))) hx hb (hE.2.1 _ (List.mem_cons_of_mem _ q_338)) rfl hE.2.2.1 hm 1 rfl (fun C h => by cases h) (fun _ => rfl) (by decide) (by decide) (by decide) (Nat.le_of_ble_eq_true rfl) (Nat.le_of_ble_eq_true rfl) dM_init_71 (fun q15 H hq15 hm => ?_)
  have hfq15 : w q15 = none := by have h := hq15; rw [hw14] at h; exact (wset_none (wset_none (wset_none (wset_none (wset_none (wset_none (wset_none (wset_none h).1).1).1).1).1).1).1).1
  have nq15_0 : r ≠ q15 := fun e => by have h := fw14; rw [e, hq15] at h; cases h
  have nq15_1 : q13 ≠ q15 := fun e => by have h := fw14_1; rw [e, hq15] at h; cases h
  have nq15_2 : q11 ≠ q15 := fun e => by have h := fw14_2; rw [e, hq15] at h; cases h
  have nq15_3 : q9 ≠ q15 := fun e => by have h := fw14_3; rw [e, hq15] at h; cases h
  have nq15_4 : q7 ≠ q15 := fun e => by have h := fw14_4; rw [e, hq15] at h; cases h
  have nq15_5 : q5 ≠ q15 := fun e => by have h := fw14_5; rw [e, hq15] at h; cases h
  have nq15_6 : q3 ≠ q15 := fun e => by have h := fw14_6; rw [e, hq15] at h; cases h
  have nq15_7 : q1 ≠ q15 := fun e => by have h := fw14_7; rw [e, hq15] at h; cases h
  obtain ⟨w15, hhw15⟩ : ∃ z : Wd, z = wset w14 (q15) (.inl (cZ, 200, .inl (fun _ => 0))) := ⟨_, rfl⟩
  have hm : mS B D CLS s.heap w15 H locs := by rw [hhw15]; exact hm
  have hw15 : w15 = wset (wset (wset (wset (wset (wset (wset (wset (wset (w) (q1) (.inl (cI, 200, .inl (fun _ => 0)))) (q3) (.inl (cI, 200, .inl (fun _ => 0)))) (q5) (.inl (cZ, 200, .inl (fun _ => 0)))) (q7) (.inl (cI, 200, .inl (fun _ => 0)))) (q9) (.inl (cI, 200, .inl (fun _ => 0)))) (q11) (.inl (cI, 200, .inl (fun _ => 0)))) (q13) (.inl (cI, 200, .inl (fun _ => 0)))) (r) (.inr (2, [.int (0), .int (0), .int (0), .ref (q1), .ref (q3), .ref (q5), .ref (q7), .ref (q9), .ref (q11), .ref (q13), va_rf (none), va_rf (none)]))) (q15) (.inl (cZ, 200, .inl (fun _ => 0))) := by rw [hhw15, hw14]
  have fw15 : w15 (q15) = some (.inl (cZ, 200, .inl (fun _ => 0))) := by rw [hhw15]; exact wset_at _ _ _
  have fw15_1 := (show w15 (r) = w14 (r) by rw [hhw15]; exact wset_ne nq15_0).trans fw14
  have fw15_2 := (show w15 (q13) = w14 (q13) by rw [hhw15]; exact wset_ne nq15_1).trans fw14_1
  have fw15_3 := (show w15 (q11) = w14 (q11) by rw [hhw15]; exact wset_ne nq15_2).trans fw14_2
  have fw15_4 := (show w15 (q9) = w14 (q9) by rw [hhw15]; exact wset_ne nq15_3).trans fw14_3
  have fw15_5 := (show w15 (q7) = w14 (q7) by rw [hhw15]; exact wset_ne nq15_4).trans fw14_4
  have fw15_6 := (show w15 (q5) = w14 (q5) by rw [hhw15]; exact wset_ne nq15_5).trans fw14_5
  have fw15_7 := (show w15 (q3) = w14 (q3) by rw [hhw15]; exact wset_ne nq15_6).trans fw14_6
  have fw15_8 := (show w15 (q1) = w14 (q1) by rw [hhw15]; exact wset_ne nq15_7).trans fw14_7
  refine p_M_M_32 (r := some (q15)) hx hb hE hm fw15_1 hnm (by simp) dM_init_73 (fun H locs hm => ?_)
  obtain ⟨w16, hhw16⟩ : ∃ z : Wd, z = wset w15 (r) (.inr (2, [.int (0), .int (0), .int (0), .ref (q1), .ref (q3), .ref (q5), .ref (q7), .ref (q9), .ref (q11), .ref (q13), .ref (q15), va_rf (none)])) := ⟨_, rfl⟩
  have hm : mS B D CLS s.heap w16 H locs := by rw [hhw16]; exact hm
  have hw16 : w16 = wset (wset (wset (wset (wset (wset (wset (wset (wset (w) (q1) (.inl (cI, 200, .inl (fun _ => 0)))) (q3) (.inl (cI, 200, .inl (fun _ => 0)))) (q5) (.inl (cZ, 200, .inl (fun _ => 0)))) (q7) (.inl (cI, 200, .inl (fun _ => 0)))) (q9) (.inl (cI, 200, .inl (fun _ => 0)))) (q11) (.inl (cI, 200, .inl (fun _ => 0)))) (q13) (.inl (cI, 200, .inl (fun _ => 0)))) (q15) (.inl (cZ, 200, .inl (fun _ => 0)))) (r) (.inr (2, [.int (0), .int (0), .int (0), .ref (q1), .ref (q3), .ref (q5), .ref (q7), .ref (q9), .ref (q11), .ref (q13), .ref (q15), va_rf (none)])) := by rw [hhw16, hw15]; funext z; by_cases hz : z = r <;> simp [wset, hz]
  have fw16 : w16 (r) = some (.inr (2, [.int (0), .int (0), .int (0), .ref (q1), .ref (q3), .ref (q5), .ref (q7), .ref (q9), .ref (q11), .ref (q13), .ref (q15), va_rf (none)])) := by rw [hhw16]; exact wset_at _ _ _
  have fw16_1 := (show w16 (q15) = w15 (q15) by rw [hhw16]; exact wset_ne (Ne.symm nq15_0)).trans fw15
  have fw16_2 := (show w16 (q13) = w15 (q13) by rw [hhw16]; exact wset_ne (Ne.symm nq13_0)).trans fw15_2
  have fw16_3 := (show w16 (q11) = w15 (q11) by rw [hhw16]; exact wset_ne (Ne.symm nq11_0)).trans fw15_3
  have fw16_4 := (show w16 (q9) = w15 (q9) by rw [hhw16]; exact wset_ne (Ne.symm nq9_0)).trans fw15_4
  have fw16_5 := (show w16 (q7) = w15 (q7) by rw [hhw16]; exact wset_ne (Ne.symm nq7_0)).trans fw15_5
  have fw16_6 := (show w16 (q5) = w15 (q5) by rw [hhw16]; exact wset_ne (Ne.symm nq5_0)).trans fw15_6
  have fw16_7 := (show w16 (q3) = w15 (q3) by rw [hhw16]; exact wset_ne (Ne.symm nq3_0)).trans fw15_7
  have fw16_8 := (show w16 (q1) = w15 (q1) by rw [hhw16]; exact wset_ne (Ne.symm nq1_0)).trans fw15_8
  refine lv_aload_n hx hb dM_init_76 rfl (lv_at hl 0 rfl) ?_
  refine lv_sipush (v := 10000) hx hb dM_init_77 (by decide) ?_
  refine mnewa (atype := .int) (cI := cI) (ty := .int) (N' := 10000) (a0 := (10000, .inl (fun _ => 0))) hx hb (hE.2.1 _ (List.mem_cons_of_mem _ q_107)) rfl hE.2.2.1 hm 0 rfl (fun C h => by cases h) (fun _ => rfl) (by decide) (by decide) (by decide) (Nat.le_of_ble_eq_true rfl) (Nat.le_of_ble_eq_true rfl) dM_init_80 (fun q17 H hq17 hm => ?_)
  have hfq17 : w q17 = none := by have h := hq17; rw [hw16] at h; exact (wset_none (wset_none (wset_none (wset_none (wset_none (wset_none (wset_none (wset_none (wset_none h).1).1).1).1).1).1).1).1).1
  have nq17_0 : r ≠ q17 := fun e => by have h := fw16; rw [e, hq17] at h; cases h
  have nq17_1 : q15 ≠ q17 := fun e => by have h := fw16_1; rw [e, hq17] at h; cases h
  have nq17_2 : q13 ≠ q17 := fun e => by have h := fw16_2; rw [e, hq17] at h; cases h
  have nq17_3 : q11 ≠ q17 := fun e => by have h := fw16_3; rw [e, hq17] at h; cases h
  have nq17_4 : q9 ≠ q17 := fun e => by have h := fw16_4; rw [e, hq17] at h; cases h
  have nq17_5 : q7 ≠ q17 := fun e => by have h := fw16_5; rw [e, hq17] at h; cases h
  have nq17_6 : q5 ≠ q17 := fun e => by have h := fw16_6; rw [e, hq17] at h; cases h
  have nq17_7 : q3 ≠ q17 := fun e => by have h := fw16_7; rw [e, hq17] at h; cases h
  have nq17_8 : q1 ≠ q17 := fun e => by have h := fw16_8; rw [e, hq17] at h; cases h
  obtain ⟨w17, hhw17⟩ : ∃ z : Wd, z = wset w16 (q17) (.inl (cI, 10000, .inl (fun _ => 0))) := ⟨_, rfl⟩
  have hm : mS B D CLS s.heap w17 H locs := by rw [hhw17]; exact hm
  have hw17 : w17 = wset (wset (wset (wset (wset (wset (wset (wset (wset (wset (w) (q1) (.inl (cI, 200, .inl (fun _ => 0)))) (q3) (.inl (cI, 200, .inl (fun _ => 0)))) (q5) (.inl (cZ, 200, .inl (fun _ => 0)))) (q7) (.inl (cI, 200, .inl (fun _ => 0)))) (q9) (.inl (cI, 200, .inl (fun _ => 0)))) (q11) (.inl (cI, 200, .inl (fun _ => 0)))) (q13) (.inl (cI, 200, .inl (fun _ => 0)))) (q15) (.inl (cZ, 200, .inl (fun _ => 0)))) (r) (.inr (2, [.int (0), .int (0), .int (0), .ref (q1), .ref (q3), .ref (q5), .ref (q7), .ref (q9), .ref (q11), .ref (q13), .ref (q15), va_rf (none)]))) (q17) (.inl (cI, 10000, .inl (fun _ => 0))) := by rw [hhw17, hw16]
  have fw17 : w17 (q17) = some (.inl (cI, 10000, .inl (fun _ => 0))) := by rw [hhw17]; exact wset_at _ _ _
  have fw17_1 := (show w17 (r) = w16 (r) by rw [hhw17]; exact wset_ne nq17_0).trans fw16
  have fw17_2 := (show w17 (q15) = w16 (q15) by rw [hhw17]; exact wset_ne nq17_1).trans fw16_1
  have fw17_3 := (show w17 (q13) = w16 (q13) by rw [hhw17]; exact wset_ne nq17_2).trans fw16_2
  have fw17_4 := (show w17 (q11) = w16 (q11) by rw [hhw17]; exact wset_ne nq17_3).trans fw16_3
  have fw17_5 := (show w17 (q9) = w16 (q9) by rw [hhw17]; exact wset_ne nq17_4).trans fw16_4
  have fw17_6 := (show w17 (q7) = w16 (q7) by rw [hhw17]; exact wset_ne nq17_5).trans fw16_5
  have fw17_7 := (show w17 (q5) = w16 (q5) by rw [hhw17]; exact wset_ne nq17_6).trans fw16_6
  have fw17_8 := (show w17 (q3) = w16 (q3) by rw [hhw17]; exact wset_ne nq17_7).trans fw16_7
  have fw17_9 := (show w17 (q1) = w16 (q1) by rw [hhw17]; exact wset_ne nq17_8).trans fw16_8
  refine p_M_M_35 (r := some (q17)) hx hb hE hm fw17_1 hnm (by simp) dM_init_82 (fun H locs hm => ?_)
  obtain ⟨w18, hhw18⟩ : ∃ z : Wd, z = wset w17 (r) (.inr (2, [.int (0), .int (0), .int (0), .ref (q1), .ref (q3), .ref (q5), .ref (q7), .ref (q9), .ref (q11), .ref (q13), .ref (q15), .ref (q17)])) := ⟨_, rfl⟩
  have hm : mS B D CLS s.heap w18 H locs := by rw [hhw18]; exact hm
  have hw18 : w18 = wset (wset (wset (wset (wset (wset (wset (wset (wset (wset (w) (q1) (.inl (cI, 200, .inl (fun _ => 0)))) (q3) (.inl (cI, 200, .inl (fun _ => 0)))) (q5) (.inl (cZ, 200, .inl (fun _ => 0)))) (q7) (.inl (cI, 200, .inl (fun _ => 0)))) (q9) (.inl (cI, 200, .inl (fun _ => 0)))) (q11) (.inl (cI, 200, .inl (fun _ => 0)))) (q13) (.inl (cI, 200, .inl (fun _ => 0)))) (q15) (.inl (cZ, 200, .inl (fun _ => 0)))) (q17) (.inl (cI, 10000, .inl (fun _ => 0)))) (r) (.inr (2, [.int (0), .int (0), .int (0), .ref (q1), .ref (q3), .ref (q5), .ref (q7), .ref (q9), .ref (q11), .ref (q13), .ref (q15), .ref (q17)])) := by rw [hhw18, hw17]; funext z; by_cases hz : z = r <;> simp [wset, hz]
  have fw18 : w18 (r) = some (.inr (2, [.int (0), .int (0), .int (0), .ref (q1), .ref (q3), .ref (q5), .ref (q7), .ref (q9), .ref (q11), .ref (q13), .ref (q15), .ref (q17)])) := by rw [hhw18]; exact wset_at _ _ _
  have fw18_1 := (show w18 (q17) = w17 (q17) by rw [hhw18]; exact wset_ne (Ne.symm nq17_0)).trans fw17
  have fw18_2 := (show w18 (q15) = w17 (q15) by rw [hhw18]; exact wset_ne (Ne.symm nq15_0)).trans fw17_2
  have fw18_3 := (show w18 (q13) = w17 (q13) by rw [hhw18]; exact wset_ne (Ne.symm nq13_0)).trans fw17_3
  have fw18_4 := (show w18 (q11) = w17 (q11) by rw [hhw18]; exact wset_ne (Ne.symm nq11_0)).trans fw17_4
  have fw18_5 := (show w18 (q9) = w17 (q9) by rw [hhw18]; exact wset_ne (Ne.symm nq9_0)).trans fw17_5
  have fw18_6 := (show w18 (q7) = w17 (q7) by rw [hhw18]; exact wset_ne (Ne.symm nq7_0)).trans fw17_6
  have fw18_7 := (show w18 (q5) = w17 (q5) by rw [hhw18]; exact wset_ne (Ne.symm nq5_0)).trans fw17_7
  have fw18_8 := (show w18 (q3) = w17 (q3) by rw [hhw18]; exact wset_ne (Ne.symm nq3_0)).trans fw17_8
  have fw18_9 := (show w18 (q1) = w17 (q1) by rw [hhw18]; exact wset_ne (Ne.symm nq1_0)).trans fw17_9
  have hnd : ([q1, q3, q5, q7, q9, q11, q13, q15, q17] : List Nat).Nodup := by simp [nq3_1, nq5_1, nq5_2, nq7_1, nq7_2, nq7_3, nq9_1, nq9_2, nq9_3, nq9_4, nq11_1, nq11_2, nq11_3, nq11_4, nq11_5, nq13_1, nq13_2, nq13_3, nq13_4, nq13_5, nq13_6, nq15_1, nq15_2, nq15_3, nq15_4, nq15_5, nq15_6, nq15_7, nq17_1, nq17_2, nq17_3, nq17_4, nq17_5, nq17_6, nq17_7, nq17_8]
  have hij := getD_inj hnd
  refine mretv hx hb hr hlk hm ⟨fun k => [q1, q3, q5, q7, q9, q11, q13, q15, q17].getD k 0, fun i hi => ?_, fun J => ⟨fw18, fun k hk => ?_, fun i j hi hj e => hij i j hi hj e, by decide, fun i hi => absurd hi (Nat.not_lt_zero i), fun i hi => absurd hi (Nat.not_lt_zero i)⟩, fun q hq => ?_⟩ dM_init_85
  · match i, hi with
    | 0, _ => exact hfq1
    | 1, _ => exact hfq3
    | 2, _ => exact hfq5
    | 3, _ => exact hfq7
    | 4, _ => exact hfq9
    | 5, _ => exact hfq11
    | 6, _ => exact hfq13
    | 7, _ => exact hfq15
    | 8, _ => exact hfq17
    | k + 9, h => omega
  · match k, hk with
    | 0, _ => exact fw18_9
    | 1, _ => exact fw18_8
    | 2, _ => exact fw18_7
    | 3, _ => exact fw18_6
    | 4, _ => exact fw18_5
    | 5, _ => exact fw18_4
    | 6, _ => exact fw18_3
    | 7, _ => exact fw18_2
    | 8, _ => exact fw18_1
    | k + 9, h => omega
  · rw [hw18, wset_ne (fun e => hq (by rw [e]; exact rF_r)), wset_ne (fun e => hq (by rw [e]; exact Or.inr ⟨8, by decide, rfl⟩)), wset_ne (fun e => hq (by rw [e]; exact Or.inr ⟨7, by decide, rfl⟩)), wset_ne (fun e => hq (by rw [e]; exact Or.inr ⟨6, by decide, rfl⟩)), wset_ne (fun e => hq (by rw [e]; exact Or.inr ⟨5, by decide, rfl⟩)), wset_ne (fun e => hq (by rw [e]; exact Or.inr ⟨4, by decide, rfl⟩)), wset_ne (fun e => hq (by rw [e]; exact Or.inr ⟨3, by decide, rfl⟩)), wset_ne (fun e => hq (by rw [e]; exact Or.inr ⟨2, by decide, rfl⟩)), wset_ne (fun e => hq (by rw [e]; exact Or.inr ⟨1, by decide, rfl⟩)), wset_ne (fun e => hq (by rw [e]; exact Or.inr ⟨0, by decide, rfl⟩))]
