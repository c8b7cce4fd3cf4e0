set_option maxHeartbeats 4000000 in
set_option maxRecDepth 100000 in
theorem kM_drop (l : Launch) (B : Nat) (D : va_G) (cI cZ cL : ClassId) (w : Wd) (r : Nat) (as : Nat → Nat) (g : Nat → Nat → Int32) (thr now : Int32) (n : Nat) (J : Nat → Jr) (hR : rR cI cZ r as g thr now n J w) (j : Nat) (hjn : j < n) : Met l yM_drop (.code yM_drop cM_drop 3 none :: BIG) { frames := 0, cells := 0, slots := 0, locals := 0 } (va_Pc [.ref (r), .int (nI j)] (mP B D CLS (TYS cI cZ cL) NEST w)) (va_Qv (fun u => (∃ g2, rR cI cZ r as g2 thr now n (drJ J j) u) ∧ rK r as w u) (mE B D CLS) (fun q => B ≤ q)) 0 0 (fun q => B ≤ q) := by
  refine mMet (by decide) rfl (Nat.le_of_ble_eq_true rfl) ?_
  intro p e s m below meth c ls hx hb hml hr hlk hnm hown hts hK hN hm hl
  have hE : ME "ChainPickerModel" (.code yM_drop cM_drop 3 none) _ s m D (TYS cI cZ cL) := ⟨hown, hts, hK, hN⟩
  have hl : lv_has ls 3 [(0, .ref (r)), (1, .int (nI j))] := hl
  have hn200 := hR.n200
  refine lv_aload_n hx hb dM_drop_0 rfl (lv_at hl 0 rfl) ?_
  refine g_M_M_32 (v := .ref (as 7)) hx hb hE hm hR.1 rfl dM_drop_1 ?_
  refine lv_iload_n hx hb dM_drop_4 rfl (lv_at hl 1 rfl) ?_
  refine lv_iconst (v := 1) hx hb dM_drop_5 (by decide) ?_
  refine bastE (j) hx hb hE.2.2.1 hm 1 hR.a7 rfl rfl (by have := hR.n200; have := hjn; omega) (by decide) (by decide) dM_drop_6 (fun H locs hm => ?_)
  obtain ⟨w1, hhw1⟩ : ∃ z : Wd, z = wset w (as 7) (.inl (cZ, 200, .inl (upd (g 7) (j) (1)))) := ⟨_, rfl⟩
  have hm : mS B D CLS s.heap w1 H locs := by rw [hhw1]; exact hm
  have hw1 : w1 = wset (w) (as 7) (.inl (cZ, 200, .inl (upd (g 7) (j) (1)))) := by rw [hhw1]
  have fw1 : w1 (as 7) = some (.inl (cZ, 200, .inl (upd (g 7) (j) (1)))) := by rw [hhw1]; exact wset_at _ _ _
  have fw1_1 := (show w1 (r) = w (r) by rw [hhw1]; exact wset_ne (Ne.symm (hR.ne (by decide : 7 < 9)))).trans hR.1
  have fw1_2 := (show w1 (as 0) = w (as 0) by rw [hhw1]; exact wset_ne (hR.nn (by decide : 0 < 9) (by decide : 7 < 9) (by decide))).trans hR.a0
  have fw1_3 := (show w1 (as 1) = w (as 1) by rw [hhw1]; exact wset_ne (hR.nn (by decide : 1 < 9) (by decide : 7 < 9) (by decide))).trans hR.a1
  have fw1_4 := (show w1 (as 2) = w (as 2) by rw [hhw1]; exact wset_ne (hR.nn (by decide : 2 < 9) (by decide : 7 < 9) (by decide))).trans hR.a2
  have fw1_5 := (show w1 (as 3) = w (as 3) by rw [hhw1]; exact wset_ne (hR.nn (by decide : 3 < 9) (by decide : 7 < 9) (by decide))).trans hR.a3
  have fw1_6 := (show w1 (as 4) = w (as 4) by rw [hhw1]; exact wset_ne (hR.nn (by decide : 4 < 9) (by decide : 7 < 9) (by decide))).trans hR.a4
  have fw1_7 := (show w1 (as 5) = w (as 5) by rw [hhw1]; exact wset_ne (hR.nn (by decide : 5 < 9) (by decide : 7 < 9) (by decide))).trans hR.a5
  have fw1_8 := (show w1 (as 6) = w (as 6) by rw [hhw1]; exact wset_ne (hR.nn (by decide : 6 < 9) (by decide : 7 < 9) (by decide))).trans hR.a6
  have fw1_9 := (show w1 (as 8) = w (as 8) by rw [hhw1]; exact wset_ne (hR.nn (by decide : 8 < 9) (by decide : 7 < 9) (by decide))).trans hR.a8
  refine lv_iconst (v := 0) hx hb dM_drop_7 (by decide) ?_
  refine lv_istore_n (lv' := [(2, .int (0)), (0, .ref (r)), (1, .int (nI j))]) hx hb dM_drop_8 rfl hl (by decide) rfl (fun ls hl => ?_)
  obtain ⟨q8, hq8⟩ : ∃ z, z = upG g 7 (upd (g 7) j 1) := ⟨_, rfl⟩
  have loop : ∀ (d i : Nat), i + d = 50 → ∀ (q9 : Nat → Nat → Int32) (v : Wd), rA cI cZ r as q9 thr now n v → rK r as w v → (∀ k, k < 8 → q9 k = q8 k) → (∀ x, x < i → q9 8 (50 * j + x) = -2) → (∀ x, x < 50 * j ∨ 50 * j + 50 ≤ x → q9 8 x = g 8 x) → ∀ (H : Heap) (locs : List Loc) (ls : Array Slot), mS B D CLS s.heap v H locs → lv_has ls 3 [(2, .int (nI i)), (0, .ref (r)), (1, .int (nI j))] → W p l e ({ frames := 0, cells := 0, slots := 0, locals := 0 }) s m [.ref (r), .int (nI j)].toArray below meth c H locs 0 0 (MQ below (va_Qv (fun u => (∃ g2, rR cI cZ r as g2 thr now n (drJ J j) u) ∧ rK r as w u) (mE B D CLS) (fun q => B ≤ q)) [.ref (r), .int (nI j)].toArray s 0 0 (fun q => B ≤ q)) (F0 m 9 ls []) := by
    intro d
    induction d with
    | zero =>
      intro i hi q9 v hv hk9 h9 ht9 ho9  H locs ls hm hl
      refine lv_iload_n hx hb dM_drop_9 rfl (lv_at hl 0 rfl) ?_
      refine lv_bipush (v := 50) hx hb dM_drop_10 (by decide) ?_
      refine lv_icmp_ge (tgt := 34) hx hb dM_drop_12 (by decide) (fun c_12 => ?_) (fun c_12 => ?_)
      · rw [← Int32.not_lt] at c_12
        exact mretv hx hb hr hlk hm ⟨⟨q9, hv.R hn200 (hR.2.2.2.2.1.drop hjn (fun k hk => by rw [h9 k (by omega), hq8, upG_ne (by omega)]) (by rw [h9 7 (by decide), hq8, upG_at]) (fun f hf => ht9 f (by omega)) ho9) (bs_drop hR.2.2.2.2.2)⟩, hk9⟩ dM_drop_34
      · exact absurd (nI_le (a := 50) (b := i) (by omega) (by omega)) c_12
    | succ d ih =>
      intro i hi q9 v hv hk9 h9 ht9 ho9  H locs ls hm hl
      have hiN : i < 50 := by omega
      refine lv_iload_n hx hb dM_drop_9 rfl (lv_at hl 0 rfl) ?_
      refine lv_bipush (v := 50) hx hb dM_drop_10 (by decide) ?_
      refine lv_icmp_ge (tgt := 34) hx hb dM_drop_12 (by decide) (fun c_12 => ?_) (fun c_12 => ?_)
      · exact absurd c_12 (nI_ge (a := i) (b := 50) (by omega) (by omega))
      · rw [Int32.not_le] at c_12
        refine lv_aload_n hx hb dM_drop_15 rfl (lv_at hl 1 rfl) ?_
        refine g_M_M_35 (v := .ref (as 8)) hx hb hE hm hv.1 rfl dM_drop_16 ?_
        refine lv_bipush (v := 50) hx hb dM_drop_19 (by decide) ?_
        refine lv_iload_n hx hb dM_drop_21 rfl (lv_at hl 2 rfl) ?_
        refine lv_imul hx hb dM_drop_22 ?_
        refine lv_iload_n hx hb dM_drop_23 rfl (lv_at hl 0 rfl) ?_
        refine lv_iadd hx hb dM_drop_24 ?_
        refine lv_bipush (v := (-2)) hx hb dM_drop_25 (by decide) ?_
        refine iastE (50 * j + i) hx hb hE.2.2.1 hm 0 hv.a8 rfl (i50 rfl) (by omega) (by decide) dM_drop_27 (fun H locs hm => ?_)
        obtain ⟨w1, hhw1⟩ : ∃ z : Wd, z = wset v (as 8) (.inl (cI, 10000, .inl (upd (q9 8) (50 * j + i) ((-2))))) := ⟨_, rfl⟩
        have hm : mS B D CLS s.heap w1 H locs := by rw [hhw1]; exact hm
        have hw1 : w1 = wset (v) (as 8) (.inl (cI, 10000, .inl (upd (q9 8) (50 * j + i) ((-2))))) := by rw [hhw1]
        have fw1 : w1 (as 8) = some (.inl (cI, 10000, .inl (upd (q9 8) (50 * j + i) ((-2))))) := by rw [hhw1]; exact wset_at _ _ _
        refine lv_iinc (v := nI i + 1) (lv' := [(2, .int (nI i + 1)), (0, .ref (r)), (1, .int (nI j))]) hx hb dM_drop_28 hl (k := 0) rfl rfl (by decide) rfl (fun ls hl => ?_)
        refine lv_goto (tgt := 9) hx hb dM_drop_31 (by decide) ?_
        rw [nI_1] at hl
        refine ih (i + 1) (by omega) (upG q9 8 (upd (q9 8) (50 * j + i) (-2))) w1 (by rw [hw1]; exact hv.put (by decide : 8 < 9) _) (by rw [hw1]; exact hk9.set (rF_a (by decide))) (fun k hk => by rw [upG_ne (by omega)]; exact h9 k hk) (fun x hx => ?_) (fun x hx => ?_) H locs ls hm (lv_sub hl [0, 1, 2] rfl)
        · rw [upG_at]
          by_cases e9 : x = i
          · simp [upd, e9]
          · rw [show upd (q9 8) (50 * j + i) (-2) (50 * j + x) = q9 8 (50 * j + x) by simp [upd]; intro h; omega]; exact ht9 x (by omega)
        · rw [upG_at, show upd (q9 8) (50 * j + i) (-2) x = q9 8 x by simp [upd]; intro h; omega]; exact ho9 x hx
  exact loop 50 0 (by omega) q8 w1 (by rw [hq8, hw1]; exact hR.A.put (by decide : 7 < 9) _) (by rw [hw1]; exact rK.rf.set (rF_a (by decide))) (fun k hk => rfl) (fun x hx => absurd hx (Nat.not_lt_zero x)) (fun x hx => by rw [hq8, upG_ne (by decide)]) _ _ ls hm (by rw [nI_0]; exact lv_sub hl [0, 1, 2] rfl)
set_option maxHeartbeats 4000000 in
set_option maxRecDepth 100000 in
theorem kM_prune (l : Launch) (B : Nat) (D : va_G) (cI cZ cL : ClassId) (w : Wd) (r : Nat) (as : Nat → Nat) (g : Nat → Nat → Int32) (thr now : Int32) (n : Nat) (J : Nat → Jr) (hR : rR cI cZ r as g thr now n J w) (x : Int32) : Met l yM_prune (.code yM_prune cM_prune 2 (some .boolean) :: BIG) { frames := 2, cells := 0, slots := 0, locals := 44 } (va_Pc [.ref (r), .int (x)] (mP B D CLS (TYS cI cZ cL) NEST w)) (va_Qi (fun z u => z = bI (prs n J x) ∧ (∃ g2, rR cI cZ r as g2 0 now n (prN n J x) u) ∧ rK r as w u) (mE B D CLS) (fun q => B ≤ q)) 0 0 (fun q => B ≤ q) := by
  refine mMet (by decide) rfl (Nat.le_of_ble_eq_true rfl) ?_
  intro p e s m below meth c ls hx hb hml hr hlk hnm hown hts hK hN hm hl
  have hE : ME "ChainPickerModel" (.code yM_prune cM_prune 2 (some .boolean)) _ s m D (TYS cI cZ cL) := ⟨hown, hts, hK, hN⟩
  have hl : lv_has ls 2 [(0, .ref (r)), (1, .int (x))] := hl
  have hn200 := hR.n200
  refine lv_aload_n hx hb dM_prune_0 rfl (lv_at hl 0 rfl) ?_
  refine lv_iconst (v := 0) hx hb dM_prune_1 (by decide) ?_
  refine p_M_M_38 (x := 0) hx hb hE hm hR.1 (by simp) dM_prune_2 (fun H locs hm => ?_)
  obtain ⟨w1, hhw1⟩ : ∃ z : Wd, z = wset w (r) (.inr (2, [.int (0), .int (now), .int (nI n), .ref (as 0), .ref (as 1), .ref (as 2), .ref (as 3), .ref (as 4), .ref (as 5), .ref (as 6), .ref (as 7), .ref (as 8)])) := ⟨_, rfl⟩
  have hm : mS B D CLS s.heap w1 H locs := by rw [hhw1]; exact hm
  have hw1 : w1 = wset (w) (r) (.inr (2, [.int (0), .int (now), .int (nI n), .ref (as 0), .ref (as 1), .ref (as 2), .ref (as 3), .ref (as 4), .ref (as 5), .ref (as 6), .ref (as 7), .ref (as 8)])) := by rw [hhw1]
  have fw1 : w1 (r) = some (.inr (2, [.int (0), .int (now), .int (nI n), .ref (as 0), .ref (as 1), .ref (as 2), .ref (as 3), .ref (as 4), .ref (as 5), .ref (as 6), .ref (as 7), .ref (as 8)])) := by rw [hhw1]; exact wset_at _ _ _
  have fw1_1 := (show w1 (as 0) = w (as 0) by rw [hhw1]; exact wset_ne (hR.ne (by decide : 0 < 9))).trans hR.a0
  have fw1_2 := (show w1 (as 1) = w (as 1) by rw [hhw1]; exact wset_ne (hR.ne (by decide : 1 < 9))).trans hR.a1
  have fw1_3 := (show w1 (as 2) = w (as 2) by rw [hhw1]; exact wset_ne (hR.ne (by decide : 2 < 9))).trans hR.a2
  have fw1_4 := (show w1 (as 3) = w (as 3) by rw [hhw1]; exact wset_ne (hR.ne (by decide : 3 < 9))).trans hR.a3
  have fw1_5 := (show w1 (as 4) = w (as 4) by rw [hhw1]; exact wset_ne (hR.ne (by decide : 4 < 9))).trans hR.a4
  have fw1_6 := (show w1 (as 5) = w (as 5) by rw [hhw1]; exact wset_ne (hR.ne (by decide : 5 < 9))).trans hR.a5
  have fw1_7 := (show w1 (as 6) = w (as 6) by rw [hhw1]; exact wset_ne (hR.ne (by decide : 6 < 9))).trans hR.a6
  have fw1_8 := (show w1 (as 7) = w (as 7) by rw [hhw1]; exact wset_ne (hR.ne (by decide : 7 < 9))).trans hR.a7
  have fw1_9 := (show w1 (as 8) = w (as 8) by rw [hhw1]; exact wset_ne (hR.ne (by decide : 8 < 9))).trans hR.a8
  have hR1 : rR cI cZ r as g 0 now n J w1 := by rw [hw1]; exact hR.set _ _
  have hK1 : rK r as w w1 := by rw [hw1]; exact rK.rf.set rF_r
  refine lv_aload_n hx hb dM_prune_5 rfl (lv_at hl 0 rfl) ?_
  refine lv_iload_n hx hb dM_prune_6 rfl (lv_at hl 1 rfl) ?_
  refine mcalli (mcV (n := 1) (As := [.int (x)]) (rest := []) hx hb hml hE (kM_isJob l B D cI cZ cL w1 r as g 0 now n J hR1 x) q_360 q_362 qs_9 q_2 q_363 rfl rfl (by decide +kernel) ⟨Nat.le_of_ble_eq_true rfl, Nat.le_of_ble_eq_true rfl⟩ rfl hl.1 hm rfl hR1.1 rfl (Nat.le_of_ble_eq_true rfl) dM_prune_7 ⟨Nat.le_of_ble_eq_true rfl, Nat.le_of_ble_eq_true rfl⟩) hm (fun r2 u2 H locs hp2 hm => ?_)
  obtain ⟨hr2, hu2⟩ := hp2
  rw [hu2] at hm
  cases ht : fJ n x with
  | none =>
    rw [ht] at hr2
    have hr2 : r2 = 0 := hr2
    subst hr2
    refine lv_if_eq (tgt := 21) hx hb dM_prune_10 (by decide) (fun c_10 => ?_) (fun c_10 => ?_)
    · refine lv_iconst (v := 0) hx hb dM_prune_21 (by decide) ?_
      exact mretz hx hb hr (by decide +kernel) hlk hm ⟨by simp [prs, ht, bI], ⟨g, by simp only [prN, ht]; exact hR1⟩, hK1⟩ dM_prune_22
    · first | exact absurd c_10 (by decide) | exact absurd (by decide) c_10
  | some j =>
    rw [ht] at hr2
    have hr2 : r2 = 1 := hr2
    subst hr2
    obtain ⟨hjn, hxj⟩ := fJ_lt ht
    subst hxj
    refine lv_if_eq (tgt := 21) hx hb dM_prune_10 (by decide) (fun c_10 => ?_) (fun c_10 => ?_)
    · first | exact absurd c_10 (by decide) | exact absurd (by decide) c_10
    · refine lv_aload_n hx hb dM_prune_13 rfl (lv_at hl 0 rfl) ?_
      refine lv_iload_n hx hb dM_prune_14 rfl (lv_at hl 1 rfl) ?_
      refine mcalli (mcV (n := 1) (As := [.int (nI j)]) (rest := []) hx hb hml hE (kM_mayGo l B D cI cZ cL w1 r as g 0 now n J hR1 j hjn) q_405 q_407 qs_13 q_2 q_408 rfl rfl (by decide +kernel) ⟨Nat.le_of_ble_eq_true rfl, Nat.le_of_ble_eq_true rfl⟩ rfl hl.1 hm rfl hR1.1 rfl (Nat.le_of_ble_eq_true rfl) dM_prune_15 ⟨Nat.le_of_ble_eq_true rfl, Nat.le_of_ble_eq_true rfl⟩) hm (fun r3 u3 H locs hp3 hm => ?_)
      obtain ⟨hr3, hu3⟩ := hp3
      rw [hu3] at hm
      refine lv_if_ne (tgt := 23) hx hb dM_prune_18 (by decide) (fun c_18 => ?_) (fun c_18 => ?_)
      · rw [hr3, bI_0] at c_18
        refine lv_aload_n hx hb dM_prune_23 rfl (lv_at hl 0 rfl) ?_
        refine lv_iload_n hx hb dM_prune_24 rfl (lv_at hl 1 rfl) ?_
        refine mcallv (mcV (n := 1) (As := [.int (nI j)]) (rest := []) hx hb hml hE (kM_drop l B D cI cZ cL w1 r as g 0 now n J hR1 j hjn) q_413 q_415 qs_15 q_2 q_416 rfl rfl (by decide +kernel) ⟨Nat.le_of_ble_eq_true rfl, Nat.le_of_ble_eq_true rfl⟩ rfl hl.1 hm rfl hR1.1 rfl (Nat.le_of_ble_eq_true rfl) dM_prune_25 ⟨Nat.le_of_ble_eq_true rfl, Nat.le_of_ble_eq_true rfl⟩) hm (fun u4 H locs hp4 hm => ?_)
        refine lv_iconst (v := 1) hx hb dM_prune_28 (by decide) ?_
        exact mretz hx hb hr (by decide +kernel) hlk hm ⟨by simp [prs, ht, bI, c_18], by simp [prN, ht, c_18]; exact hp4.1, hK1.tr hp4.2⟩ dM_prune_29
      · rw [hr3, bI_0] at c_18
        refine lv_iconst (v := 0) hx hb dM_prune_21 (by decide) ?_
        exact mretz hx hb hr (by decide +kernel) hlk hm ⟨by simp [prs, ht, bI, c_18], ⟨g, by simp [prN, ht, c_18]; exact hR1⟩, hK1⟩ dM_prune_22
set_option maxHeartbeats 4000000 in
set_option maxRecDepth 100000 in
theorem kM_end (l : Launch) (B : Nat) (D : va_G) (cI cZ cL : ClassId) (w : Wd) (r : Nat) (as : Nat → Nat) (g : Nat → Nat → Int32) (thr now : Int32) (n : Nat) (J : Nat → Jr) (hR : rR cI cZ r as g thr now n J w) (x y : Int32) : Met l yM_end (.code yM_end cM_end 3 (some .boolean) :: BIG) { frames := 1, cells := 0, slots := 0, locals := 21 } (va_Pc [.ref (r), .int (x), .int (y)] (mP B D CLS (TYS cI cZ cL) NEST w)) (va_Qi (fun z u => z = bI (ends n J x) ∧ (∃ g2, rR cI cZ r as g2 0 now n (enN n J x y now) u) ∧ rK r as w u) (mE B D CLS) (fun q => B ≤ q)) 0 0 (fun q => B ≤ q) := by
  refine mMet (by decide) rfl (Nat.le_of_ble_eq_true rfl) ?_
  intro p e s m below meth c ls hx hb hml hr hlk hnm hown hts hK hN hm hl
  have hE : ME "ChainPickerModel" (.code yM_end cM_end 3 (some .boolean)) _ s m D (TYS cI cZ cL) := ⟨hown, hts, hK, hN⟩
  have hl : lv_has ls 3 [(0, .ref (r)), (1, .int (x)), (2, .int (y))] := hl
  have hn200 := hR.n200
  refine lv_aload_n hx hb dM_end_0 rfl (lv_at hl 0 rfl) ?_
  refine lv_iconst (v := 0) hx hb dM_end_1 (by decide) ?_
  refine p_M_M_38 (x := 0) hx hb hE hm hR.1 (by simp) dM_end_2 (fun H locs hm => ?_)
  obtain ⟨w1, hhw1⟩ : ∃ z : Wd, z = wset w (r) (.inr (2, [.int (0), .int (now), .int (nI n), .ref (as 0), .ref (as 1), .ref (as 2), .ref (as 3), .ref (as 4), .ref (as 5), .ref (as 6), .ref (as 7), .ref (as 8)])) := ⟨_, rfl⟩
  have hm : mS B D CLS s.heap w1 H locs := by rw [hhw1]; exact hm
  have hw1 : w1 = wset (w) (r) (.inr (2, [.int (0), .int (now), .int (nI n), .ref (as 0), .ref (as 1), .ref (as 2), .ref (as 3), .ref (as 4), .ref (as 5), .ref (as 6), .ref (as 7), .ref (as 8)])) := by rw [hhw1]
  have fw1 : w1 (r) = some (.inr (2, [.int (0), .int (now), .int (nI n), .ref (as 0), .ref (as 1), .ref (as 2), .ref (as 3), .ref (as 4), .ref (as 5), .ref (as 6), .ref (as 7), .ref (as 8)])) := by rw [hhw1]; exact wset_at _ _ _
  have fw1_1 := (show w1 (as 0) = w (as 0) by rw [hhw1]; exact wset_ne (hR.ne (by decide : 0 < 9))).trans hR.a0
  have fw1_2 := (show w1 (as 1) = w (as 1) by rw [hhw1]; exact wset_ne (hR.ne (by decide : 1 < 9))).trans hR.a1
  have fw1_3 := (show w1 (as 2) = w (as 2) by rw [hhw1]; exact wset_ne (hR.ne (by decide : 2 < 9))).trans hR.a2
  have fw1_4 := (show w1 (as 3) = w (as 3) by rw [hhw1]; exact wset_ne (hR.ne (by decide : 3 < 9))).trans hR.a3
  have fw1_5 := (show w1 (as 4) = w (as 4) by rw [hhw1]; exact wset_ne (hR.ne (by decide : 4 < 9))).trans hR.a4
  have fw1_6 := (show w1 (as 5) = w (as 5) by rw [hhw1]; exact wset_ne (hR.ne (by decide : 5 < 9))).trans hR.a5
  have fw1_7 := (show w1 (as 6) = w (as 6) by rw [hhw1]; exact wset_ne (hR.ne (by decide : 6 < 9))).trans hR.a6
  have fw1_8 := (show w1 (as 7) = w (as 7) by rw [hhw1]; exact wset_ne (hR.ne (by decide : 7 < 9))).trans hR.a7
  have fw1_9 := (show w1 (as 8) = w (as 8) by rw [hhw1]; exact wset_ne (hR.ne (by decide : 8 < 9))).trans hR.a8
  have hR1 : rR cI cZ r as g 0 now n J w1 := by rw [hw1]; exact hR.set _ _
  have hK1 : rK r as w w1 := by rw [hw1]; exact rK.rf.set rF_r
  refine lv_aload_n hx hb dM_end_5 rfl (lv_at hl 0 rfl) ?_
  refine lv_iload_n hx hb dM_end_6 rfl (lv_at hl 1 rfl) ?_
  refine mcalli (mcV (n := 1) (As := [.int (x)]) (rest := []) hx hb hml hE (kM_isJob l B D cI cZ cL w1 r as g 0 now n J hR1 x) q_360 q_362 qs_9 q_2 q_363 rfl rfl (by decide +kernel) ⟨Nat.le_of_ble_eq_true rfl, Nat.le_of_ble_eq_true rfl⟩ rfl hl.1 hm rfl hR1.1 rfl (Nat.le_of_ble_eq_true rfl) dM_end_7 ⟨Nat.le_of_ble_eq_true rfl, Nat.le_of_ble_eq_true rfl⟩) hm (fun r2 u2 H locs hp2 hm => ?_)
  obtain ⟨hr2, hu2⟩ := hp2
  rw [hu2] at hm
  cases ht : fJ n x with
  | none =>
    rw [ht] at hr2
    have hr2 : r2 = 0 := hr2
    subst hr2
    refine lv_if_eq (tgt := 22) hx hb dM_end_10 (by decide) (fun c_10 => ?_) (fun c_10 => ?_)
    · refine lv_iconst (v := 0) hx hb dM_end_22 (by decide) ?_
      exact mretz hx hb hr (by decide +kernel) hlk hm ⟨by simp [ends, ht, bI], ⟨g, by simp only [enN, ht]; exact hR1⟩, hK1⟩ dM_end_23
    · first | exact absurd c_10 (by decide) | exact absurd (by decide) c_10
  | some j =>
    rw [ht] at hr2
    have hr2 : r2 = 1 := hr2
    subst hr2
    obtain ⟨hjn, hxj⟩ := fJ_lt ht
    subst hxj
    refine lv_if_eq (tgt := 22) hx hb dM_end_10 (by decide) (fun c_10 => ?_) (fun c_10 => ?_)
    · first | exact absurd c_10 (by decide) | exact absurd (by decide) c_10
    · refine lv_aload_n hx hb dM_end_13 rfl (lv_at hl 0 rfl) ?_
      refine g_M_M_29 (v := .ref (as 6)) hx hb hE hm hR1.1 rfl dM_end_14 ?_
      refine lv_iload_n hx hb dM_end_17 rfl (lv_at hl 1 rfl) ?_
      refine ialdE (j) hx hb hE.2.2.1 hm 0 hR1.a6 rfl rfl (by have := hR.n200; have := hjn; omega) (by decide) dM_end_18 ?_
      rw [hR1.g6 hjn]
      refine lv_if_eq (tgt := 24) hx hb dM_end_19 (by decide) (fun c_19 => ?_) (fun c_19 => ?_)
      · refine lv_aload_n hx hb dM_end_24 rfl (lv_at hl 0 rfl) ?_
        refine g_M_M_29 (v := .ref (as 6)) hx hb hE hm hR1.1 rfl dM_end_25 ?_
        refine lv_iload_n hx hb dM_end_28 rfl (lv_at hl 1 rfl) ?_
        refine lv_iload_n hx hb dM_end_29 rfl (lv_at hl 2 rfl) ?_
        refine lv_if_eq (tgt := 37) hx hb dM_end_30 (by decide) (fun c_30 => ?_) (fun c_30 => ?_)
        · refine lv_iconst (v := 2) hx hb dM_end_37 (by decide) ?_
          refine iastE (j) hx hb hE.2.2.1 hm 0 hR1.a6 rfl rfl (by have := hR.n200; have := hjn; omega) (by decide) dM_end_38 (fun H locs hm => ?_)
          obtain ⟨w3, hhw3⟩ : ∃ z : Wd, z = wset w1 (as 6) (.inl (cI, 200, .inl (upd (g 6) (j) (2)))) := ⟨_, rfl⟩
          have hm : mS B D CLS s.heap w3 H locs := by rw [hhw3]; exact hm
          have hw3 : w3 = wset (wset (w) (r) (.inr (2, [.int (0), .int (now), .int (nI n), .ref (as 0), .ref (as 1), .ref (as 2), .ref (as 3), .ref (as 4), .ref (as 5), .ref (as 6), .ref (as 7), .ref (as 8)]))) (as 6) (.inl (cI, 200, .inl (upd (g 6) (j) (2)))) := by rw [hhw3, hw1]
          have fw3 : w3 (as 6) = some (.inl (cI, 200, .inl (upd (g 6) (j) (2)))) := by rw [hhw3]; exact wset_at _ _ _
          have fw3_1 := (show w3 (r) = w1 (r) by rw [hhw3]; exact wset_ne (Ne.symm (hR.ne (by decide : 6 < 9)))).trans hR1.1
          have fw3_2 := (show w3 (as 0) = w1 (as 0) by rw [hhw3]; exact wset_ne (hR.nn (by decide : 0 < 9) (by decide : 6 < 9) (by decide))).trans hR1.a0
          have fw3_3 := (show w3 (as 1) = w1 (as 1) by rw [hhw3]; exact wset_ne (hR.nn (by decide : 1 < 9) (by decide : 6 < 9) (by decide))).trans hR1.a1
          have fw3_4 := (show w3 (as 2) = w1 (as 2) by rw [hhw3]; exact wset_ne (hR.nn (by decide : 2 < 9) (by decide : 6 < 9) (by decide))).trans hR1.a2
          have fw3_5 := (show w3 (as 3) = w1 (as 3) by rw [hhw3]; exact wset_ne (hR.nn (by decide : 3 < 9) (by decide : 6 < 9) (by decide))).trans hR1.a3
          have fw3_6 := (show w3 (as 4) = w1 (as 4) by rw [hhw3]; exact wset_ne (hR.nn (by decide : 4 < 9) (by decide : 6 < 9) (by decide))).trans hR1.a4
          have fw3_7 := (show w3 (as 5) = w1 (as 5) by rw [hhw3]; exact wset_ne (hR.nn (by decide : 5 < 9) (by decide : 6 < 9) (by decide))).trans hR1.a5
          have fw3_8 := (show w3 (as 7) = w1 (as 7) by rw [hhw3]; exact wset_ne (hR.nn (by decide : 7 < 9) (by decide : 6 < 9) (by decide))).trans hR1.a7
          have fw3_9 := (show w3 (as 8) = w1 (as 8) by rw [hhw3]; exact wset_ne (hR.nn (by decide : 8 < 9) (by decide : 6 < 9) (by decide))).trans hR1.a8
          refine lv_aload_n hx hb dM_end_39 rfl (lv_at hl 0 rfl) ?_
          refine g_M_M_26 (v := .ref (as 5)) hx hb hE hm fw3_1 rfl dM_end_40 ?_
          refine lv_iload_n hx hb dM_end_43 rfl (lv_at hl 1 rfl) ?_
          refine lv_aload_n hx hb dM_end_44 rfl (lv_at hl 0 rfl) ?_
          refine g_M_M_43 (v := .int (now)) hx hb hE hm fw3_1 rfl dM_end_45 ?_
          refine iastE (j) hx hb hE.2.2.1 hm 0 fw3_7 rfl rfl (by have := hR.n200; have := hjn; omega) (by decide) dM_end_48 (fun H locs hm => ?_)
          obtain ⟨w4, hhw4⟩ : ∃ z : Wd, z = wset w3 (as 5) (.inl (cI, 200, .inl (upd (g 5) (j) (now)))) := ⟨_, rfl⟩
          have hm : mS B D CLS s.heap w4 H locs := by rw [hhw4]; exact hm
          have hw4 : w4 = wset (wset (wset (w) (r) (.inr (2, [.int (0), .int (now), .int (nI n), .ref (as 0), .ref (as 1), .ref (as 2), .ref (as 3), .ref (as 4), .ref (as 5), .ref (as 6), .ref (as 7), .ref (as 8)]))) (as 6) (.inl (cI, 200, .inl (upd (g 6) (j) (2))))) (as 5) (.inl (cI, 200, .inl (upd (g 5) (j) (now)))) := by rw [hhw4, hw3]
          have fw4 : w4 (as 5) = some (.inl (cI, 200, .inl (upd (g 5) (j) (now)))) := by rw [hhw4]; exact wset_at _ _ _
          have fw4_1 := (show w4 (as 6) = w3 (as 6) by rw [hhw4]; exact wset_ne (hR.nn (by decide : 6 < 9) (by decide : 5 < 9) (by decide))).trans fw3
          have fw4_2 := (show w4 (r) = w3 (r) by rw [hhw4]; exact wset_ne (Ne.symm (hR.ne (by decide : 5 < 9)))).trans fw3_1
          have fw4_3 := (show w4 (as 0) = w3 (as 0) by rw [hhw4]; exact wset_ne (hR.nn (by decide : 0 < 9) (by decide : 5 < 9) (by decide))).trans fw3_2
          have fw4_4 := (show w4 (as 1) = w3 (as 1) by rw [hhw4]; exact wset_ne (hR.nn (by decide : 1 < 9) (by decide : 5 < 9) (by decide))).trans fw3_3
          have fw4_5 := (show w4 (as 2) = w3 (as 2) by rw [hhw4]; exact wset_ne (hR.nn (by decide : 2 < 9) (by decide : 5 < 9) (by decide))).trans fw3_4
          have fw4_6 := (show w4 (as 3) = w3 (as 3) by rw [hhw4]; exact wset_ne (hR.nn (by decide : 3 < 9) (by decide : 5 < 9) (by decide))).trans fw3_5
          have fw4_7 := (show w4 (as 4) = w3 (as 4) by rw [hhw4]; exact wset_ne (hR.nn (by decide : 4 < 9) (by decide : 5 < 9) (by decide))).trans fw3_6
          have fw4_8 := (show w4 (as 7) = w3 (as 7) by rw [hhw4]; exact wset_ne (hR.nn (by decide : 7 < 9) (by decide : 5 < 9) (by decide))).trans fw3_8
          have fw4_9 := (show w4 (as 8) = w3 (as 8) by rw [hhw4]; exact wset_ne (hR.nn (by decide : 8 < 9) (by decide : 5 < 9) (by decide))).trans fw3_9
          refine lv_iconst (v := 1) hx hb dM_end_49 (by decide) ?_
          exact mretz hx hb hr (by decide +kernel) hlk hm ⟨by simp [ends, ht, bI, c_19], ⟨_, by simp only [enN, ht, if_pos c_19, if_pos c_30]; rw [hw4]; exact (((hR.A.set 0 now n).put (by decide : 6 < 9) (upd (g 6) j 2)).put (by decide : 5 < 9) (upd (g 5) j now)).R hn200 (hR.2.2.2.2.1.endj hjn now 2) (bs_end hR.2.2.2.2.2)⟩, by rw [hw4]; exact ((rK.rf.set rF_r).set (rF_a (by decide))).set (rF_a (by decide))⟩ dM_end_50
        · refine lv_iconst (v := 1) hx hb dM_end_33 (by decide) ?_
          refine lv_goto (tgt := 38) hx hb dM_end_34 (by decide) ?_
          refine iastE (j) hx hb hE.2.2.1 hm 0 hR1.a6 rfl rfl (by have := hR.n200; have := hjn; omega) (by decide) dM_end_38 (fun H locs hm => ?_)
          obtain ⟨w5, hhw5⟩ : ∃ z : Wd, z = wset w1 (as 6) (.inl (cI, 200, .inl (upd (g 6) (j) (1)))) := ⟨_, rfl⟩
          have hm : mS B D CLS s.heap w5 H locs := by rw [hhw5]; exact hm
          have hw5 : w5 = wset (wset (w) (r) (.inr (2, [.int (0), .int (now), .int (nI n), .ref (as 0), .ref (as 1), .ref (as 2), .ref (as 3), .ref (as 4), .ref (as 5), .ref (as 6), .ref (as 7), .ref (as 8)]))) (as 6) (.inl (cI, 200, .inl (upd (g 6) (j) (1)))) := by rw [hhw5, hw1]
          have fw5 : w5 (as 6) = some (.inl (cI, 200, .inl (upd (g 6) (j) (1)))) := by rw [hhw5]; exact wset_at _ _ _
          have fw5_1 := (show w5 (r) = w1 (r) by rw [hhw5]; exact wset_ne (Ne.symm (hR.ne (by decide : 6 < 9)))).trans hR1.1
          have fw5_2 := (show w5 (as 0) = w1 (as 0) by rw [hhw5]; exact wset_ne (hR.nn (by decide : 0 < 9) (by decide : 6 < 9) (by decide))).trans hR1.a0
          have fw5_3 := (show w5 (as 1) = w1 (as 1) by rw [hhw5]; exact wset_ne (hR.nn (by decide : 1 < 9) (by decide : 6 < 9) (by decide))).trans hR1.a1
          have fw5_4 := (show w5 (as 2) = w1 (as 2) by rw [hhw5]; exact wset_ne (hR.nn (by decide : 2 < 9) (by decide : 6 < 9) (by decide))).trans hR1.a2
          have fw5_5 := (show w5 (as 3) = w1 (as 3) by rw [hhw5]; exact wset_ne (hR.nn (by decide : 3 < 9) (by decide : 6 < 9) (by decide))).trans hR1.a3
          have fw5_6 := (show w5 (as 4) = w1 (as 4) by rw [hhw5]; exact wset_ne (hR.nn (by decide : 4 < 9) (by decide : 6 < 9) (by decide))).trans hR1.a4
          have fw5_7 := (show w5 (as 5) = w1 (as 5) by rw [hhw5]; exact wset_ne (hR.nn (by decide : 5 < 9) (by decide : 6 < 9) (by decide))).trans hR1.a5
          have fw5_8 := (show w5 (as 7) = w1 (as 7) by rw [hhw5]; exact wset_ne (hR.nn (by decide : 7 < 9) (by decide : 6 < 9) (by decide))).trans hR1.a7
          have fw5_9 := (show w5 (as 8) = w1 (as 8) by rw [hhw5]; exact wset_ne (hR.nn (by decide : 8 < 9) (by decide : 6 < 9) (by decide))).trans hR1.a8
          refine lv_aload_n hx hb dM_end_39 rfl (lv_at hl 0 rfl) ?_
          refine g_M_M_26 (v := .ref (as 5)) hx hb hE hm fw5_1 rfl dM_end_40 ?_
          refine lv_iload_n hx hb dM_end_43 rfl (lv_at hl 1 rfl) ?_
          refine lv_aload_n hx hb dM_end_44 rfl (lv_at hl 0 rfl) ?_
          refine g_M_M_43 (v := .int (now)) hx hb hE hm fw5_1 rfl dM_end_45 ?_
          refine iastE (j) hx hb hE.2.2.1 hm 0 fw5_7 rfl rfl (by have := hR.n200; have := hjn; omega) (by decide) dM_end_48 (fun H locs hm => ?_)
          obtain ⟨w6, hhw6⟩ : ∃ z : Wd, z = wset w5 (as 5) (.inl (cI, 200, .inl (upd (g 5) (j) (now)))) := ⟨_, rfl⟩
          have hm : mS B D CLS s.heap w6 H locs := by rw [hhw6]; exact hm
          have hw6 : w6 = wset (wset (wset (w) (r) (.inr (2, [.int (0), .int (now), .int (nI n), .ref (as 0), .ref (as 1), .ref (as 2), .ref (as 3), .ref (as 4), .ref (as 5), .ref (as 6), .ref (as 7), .ref (as 8)]))) (as 6) (.inl (cI, 200, .inl (upd (g 6) (j) (1))))) (as 5) (.inl (cI, 200, .inl (upd (g 5) (j) (now)))) := by rw [hhw6, hw5]
          have fw6 : w6 (as 5) = some (.inl (cI, 200, .inl (upd (g 5) (j) (now)))) := by rw [hhw6]; exact wset_at _ _ _
          have fw6_1 := (show w6 (as 6) = w5 (as 6) by rw [hhw6]; exact wset_ne (hR.nn (by decide : 6 < 9) (by decide : 5 < 9) (by decide))).trans fw5
          have fw6_2 := (show w6 (r) = w5 (r) by rw [hhw6]; exact wset_ne (Ne.symm (hR.ne (by decide : 5 < 9)))).trans fw5_1
          have fw6_3 := (show w6 (as 0) = w5 (as 0) by rw [hhw6]; exact wset_ne (hR.nn (by decide : 0 < 9) (by decide : 5 < 9) (by decide))).trans fw5_2
          have fw6_4 := (show w6 (as 1) = w5 (as 1) by rw [hhw6]; exact wset_ne (hR.nn (by decide : 1 < 9) (by decide : 5 < 9) (by decide))).trans fw5_3
          have fw6_5 := (show w6 (as 2) = w5 (as 2) by rw [hhw6]; exact wset_ne (hR.nn (by decide : 2 < 9) (by decide : 5 < 9) (by decide))).trans fw5_4
          have fw6_6 := (show w6 (as 3) = w5 (as 3) by rw [hhw6]; exact wset_ne (hR.nn (by decide : 3 < 9) (by decide : 5 < 9) (by decide))).trans fw5_5
          have fw6_7 := (show w6 (as 4) = w5 (as 4) by rw [hhw6]; exact wset_ne (hR.nn (by decide : 4 < 9) (by decide : 5 < 9) (by decide))).trans fw5_6
          have fw6_8 := (show w6 (as 7) = w5 (as 7) by rw [hhw6]; exact wset_ne (hR.nn (by decide : 7 < 9) (by decide : 5 < 9) (by decide))).trans fw5_8
          have fw6_9 := (show w6 (as 8) = w5 (as 8) by rw [hhw6]; exact wset_ne (hR.nn (by decide : 8 < 9) (by decide : 5 < 9) (by decide))).trans fw5_9
          refine lv_iconst (v := 1) hx hb dM_end_49 (by decide) ?_
          exact mretz hx hb hr (by decide +kernel) hlk hm ⟨by simp [ends, ht, bI, c_19], ⟨_, by simp only [enN, ht, if_pos c_19, if_neg c_30]; rw [hw6]; exact (((hR.A.set 0 now n).put (by decide : 6 < 9) (upd (g 6) j 1)).put (by decide : 5 < 9) (upd (g 5) j now)).R hn200 (hR.2.2.2.2.1.endj hjn now 1) (bs_end hR.2.2.2.2.2)⟩, by rw [hw6]; exact ((rK.rf.set rF_r).set (rF_a (by decide))).set (rF_a (by decide))⟩ dM_end_50
      · refine lv_iconst (v := 0) hx hb dM_end_22 (by decide) ?_
        exact mretz hx hb hr (by decide +kernel) hlk hm ⟨by simp [ends, ht, bI, c_19], ⟨g, by simp only [enN, ht, if_neg c_19]; exact hR1⟩, hK1⟩ dM_end_23
set_option maxHeartbeats 4000000 in
set_option maxRecDepth 100000 in
theorem kM_tell (l : Launch) (B : Nat) (D : va_G) (cI cZ cL : ClassId) (w : Wd) (r : Nat) (as : Nat → Nat) (g : Nat → Nat → Int32) (thr now : Int32) (n : Nat) (J : Nat → Jr) (hR : rR cI cZ r as g thr now n J w) (x y v : Int32) : Met l yM_tell (.code yM_tell cM_tell 4 (some .boolean) :: BIG) { frames := 1, cells := 0, slots := 0, locals := 21 } (va_Pc [.ref (r), .int (x), .int (y), .int (v)] (mP B D CLS (TYS cI cZ cL) NEST w)) (va_Qi (fun z u => z = bI (tells n J x y v) ∧ (∃ g2, rR cI cZ r as g2 0 now n (teN n J x y v) u) ∧ rK r as w u) (mE B D CLS) (fun q => B ≤ q)) 0 0 (fun q => B ≤ q) := by
  refine mMet (by decide) rfl (Nat.le_of_ble_eq_true rfl) ?_
  intro p e s m below meth c ls hx hb hml hr hlk hnm hown hts hK hN hm hl
  have hE : ME "ChainPickerModel" (.code yM_tell cM_tell 4 (some .boolean)) _ s m D (TYS cI cZ cL) := ⟨hown, hts, hK, hN⟩
  have hl : lv_has ls 4 [(0, .ref (r)), (1, .int (x)), (2, .int (y)), (3, .int (v))] := hl
  have hn200 := hR.n200
  refine lv_aload_n hx hb dM_tell_0 rfl (lv_at hl 0 rfl) ?_
  refine lv_iconst (v := 0) hx hb dM_tell_1 (by decide) ?_
  refine p_M_M_38 (x := 0) hx hb hE hm hR.1 (by simp) dM_tell_2 (fun H locs hm => ?_)
  obtain ⟨w1, hhw1⟩ : ∃ z : Wd, z = wset w (r) (.inr (2, [.int (0), .int (now), .int (nI n), .ref (as 0), .ref (as 1), .ref (as 2), .ref (as 3), .ref (as 4), .ref (as 5), .ref (as 6), .ref (as 7), .ref (as 8)])) := ⟨_, rfl⟩
  have hm : mS B D CLS s.heap w1 H locs := by rw [hhw1]; exact hm
  have hw1 : w1 = wset (w) (r) (.inr (2, [.int (0), .int (now), .int (nI n), .ref (as 0), .ref (as 1), .ref (as 2), .ref (as 3), .ref (as 4), .ref (as 5), .ref (as 6), .ref (as 7), .ref (as 8)])) := by rw [hhw1]
  have fw1 : w1 (r) = some (.inr (2, [.int (0), .int (now), .int (nI n), .ref (as 0), .ref (as 1), .ref (as 2), .ref (as 3), .ref (as 4), .ref (as 5), .ref (as 6), .ref (as 7), .ref (as 8)])) := by rw [hhw1]; exact wset_at _ _ _
  have fw1_1 := (show w1 (as 0) = w (as 0) by rw [hhw1]; exact wset_ne (hR.ne (by decide : 0 < 9))).trans hR.a0
  have fw1_2 := (show w1 (as 1) = w (as 1) by rw [hhw1]; exact wset_ne (hR.ne (by decide : 1 < 9))).trans hR.a1
  have fw1_3 := (show w1 (as 2) = w (as 2) by rw [hhw1]; exact wset_ne (hR.ne (by decide : 2 < 9))).trans hR.a2
  have fw1_4 := (show w1 (as 3) = w (as 3) by rw [hhw1]; exact wset_ne (hR.ne (by decide : 3 < 9))).trans hR.a3
  have fw1_5 := (show w1 (as 4) = w (as 4) by rw [hhw1]; exact wset_ne (hR.ne (by decide : 4 < 9))).trans hR.a4
  have fw1_6 := (show w1 (as 5) = w (as 5) by rw [hhw1]; exact wset_ne (hR.ne (by decide : 5 < 9))).trans hR.a5
  have fw1_7 := (show w1 (as 6) = w (as 6) by rw [hhw1]; exact wset_ne (hR.ne (by decide : 6 < 9))).trans hR.a6
  have fw1_8 := (show w1 (as 7) = w (as 7) by rw [hhw1]; exact wset_ne (hR.ne (by decide : 7 < 9))).trans hR.a7
  have fw1_9 := (show w1 (as 8) = w (as 8) by rw [hhw1]; exact wset_ne (hR.ne (by decide : 8 < 9))).trans hR.a8
  have hR1 : rR cI cZ r as g 0 now n J w1 := by rw [hw1]; exact hR.set _ _
  have hK1 : rK r as w w1 := by rw [hw1]; exact rK.rf.set rF_r
  refine lv_aload_n hx hb dM_tell_5 rfl (lv_at hl 0 rfl) ?_
  refine lv_iload_n hx hb dM_tell_6 rfl (lv_at hl 1 rfl) ?_
  refine mcalli (mcV (n := 1) (As := [.int (x)]) (rest := []) hx hb hml hE (kM_isJob l B D cI cZ cL w1 r as g 0 now n J hR1 x) q_360 q_362 qs_9 q_2 q_363 rfl rfl (by decide +kernel) ⟨Nat.le_of_ble_eq_true rfl, Nat.le_of_ble_eq_true rfl⟩ rfl hl.1 hm rfl hR1.1 rfl (Nat.le_of_ble_eq_true rfl) dM_tell_7 ⟨Nat.le_of_ble_eq_true rfl, Nat.le_of_ble_eq_true rfl⟩) hm (fun r2 u2 H locs hp2 hm => ?_)
  obtain ⟨hr2, hu2⟩ := hp2
  rw [hu2] at hm
  cases ht : fJ n x with
  | none =>
    rw [ht] at hr2
    have hr2 : r2 = 0 := hr2
    subst hr2
    refine lv_if_eq (tgt := 56) hx hb dM_tell_10 (by decide) (fun c_10 => ?_) (fun c_10 => ?_)
    · refine lv_iconst (v := 0) hx hb dM_tell_56 (by decide) ?_
      exact mretz hx hb hr (by decide +kernel) hlk hm ⟨by simp [tells, ht, bI], ⟨g, by simp only [teN, ht]; exact hR1⟩, hK1⟩ dM_tell_57
    · first | exact absurd c_10 (by decide) | exact absurd (by decide) c_10
  | some j =>
    rw [ht] at hr2
    have hr2 : r2 = 1 := hr2
    subst hr2
    obtain ⟨hjn, hxj⟩ := fJ_lt ht
    subst hxj
    refine lv_if_eq (tgt := 56) hx hb dM_tell_10 (by decide) (fun c_10 => ?_) (fun c_10 => ?_)
    · first | exact absurd c_10 (by decide) | exact absurd (by decide) c_10
    · refine lv_aload_n hx hb dM_tell_13 rfl (lv_at hl 0 rfl) ?_
      refine g_M_M_29 (v := .ref (as 6)) hx hb hE hm hR1.1 rfl dM_tell_14 ?_
      refine lv_iload_n hx hb dM_tell_17 rfl (lv_at hl 1 rfl) ?_
      refine ialdE (j) hx hb hE.2.2.1 hm 0 hR1.a6 rfl rfl (by have := hR.n200; have := hjn; omega) (by decide) dM_tell_18 ?_
      rw [hR1.g6 hjn]
      refine lv_if_ne (tgt := 56) hx hb dM_tell_19 (by decide) (fun c_19 => ?_) (fun c_19 => ?_)
      · refine lv_iconst (v := 0) hx hb dM_tell_56 (by decide) ?_
        have hT : tells n J (nI j) y v = false := by
          unfold tells; rw [ht]; simp only [isF]
          exact tl_st c_19
        exact mretz hx hb hr (by decide +kernel) hlk hm ⟨by rw [hT]; rfl, ⟨g, by simp only [teN, ht, hT]; exact hR1⟩, hK1⟩ dM_tell_57
      · refine lv_iload_n hx hb dM_tell_22 rfl (lv_at hl 2 rfl) ?_
        refine lv_if_lt (tgt := 56) hx hb dM_tell_23 (by decide) (fun c_23 => ?_) (fun c_23 => ?_)
        · refine lv_iconst (v := 0) hx hb dM_tell_56 (by decide) ?_
          have hT : tells n J (nI j) y v = false := by
            unfold tells; rw [ht]; simp only [isF]
            exact tl_y0 c_23
          exact mretz hx hb hr (by decide +kernel) hlk hm ⟨by rw [hT]; rfl, ⟨g, by simp only [teN, ht, hT]; exact hR1⟩, hK1⟩ dM_tell_57
        · refine lv_iload_n hx hb dM_tell_26 rfl (lv_at hl 2 rfl) ?_
          refine lv_bipush (v := 50) hx hb dM_tell_27 (by decide) ?_
          refine lv_icmp_ge (tgt := 56) hx hb dM_tell_29 (by decide) (fun c_29 => ?_) (fun c_29 => ?_)
          · rw [← Int32.not_lt] at c_29
            refine lv_iconst (v := 0) hx hb dM_tell_56 (by decide) ?_
            have hT : tells n J (nI j) y v = false := by
              unfold tells; rw [ht]; simp only [isF]
              exact tl_y1 c_29
            exact mretz hx hb hr (by decide +kernel) hlk hm ⟨by rw [hT]; rfl, ⟨g, by simp only [teN, ht, hT]; exact hR1⟩, hK1⟩ dM_tell_57
          · rw [Int32.not_le] at c_29
            refine lv_iload_n hx hb dM_tell_32 rfl (lv_at hl 3 rfl) ?_
            refine lv_iconst (v := (-1)) hx hb dM_tell_33 (by decide) ?_
            refine lv_icmp_lt (tgt := 56) hx hb dM_tell_34 (by decide) (fun c_34 => ?_) (fun c_34 => ?_)
            · refine lv_iconst (v := 0) hx hb dM_tell_56 (by decide) ?_
              have hT : tells n J (nI j) y v = false := by
                unfold tells; rw [ht]; simp only [isF]
                exact tl_v0 c_34
              exact mretz hx hb hr (by decide +kernel) hlk hm ⟨by rw [hT]; rfl, ⟨g, by simp only [teN, ht, hT]; exact hR1⟩, hK1⟩ dM_tell_57
            · refine lv_iload_n hx hb dM_tell_37 rfl (lv_at hl 3 rfl) ?_
              refine lv_ldc (v := 1000000) hx hb hE.1 (hE.2.1 _ (List.mem_cons_of_mem _ q_364)) dM_tell_38 ?_
              refine lv_icmp_gt (tgt := 56) hx hb dM_tell_40 (by decide) (fun c_40 => ?_) (fun c_40 => ?_)
              · refine lv_iconst (v := 0) hx hb dM_tell_56 (by decide) ?_
                have hT : tells n J (nI j) y v = false := by
                  unfold tells; rw [ht]; simp only [isF]
                  exact tl_v1 c_40
                exact mretz hx hb hr (by decide +kernel) hlk hm ⟨by rw [hT]; rfl, ⟨g, by simp only [teN, ht, hT]; exact hR1⟩, hK1⟩ dM_tell_57
              · refine lv_iload_n hx hb dM_tell_43 rfl (lv_at hl 3 rfl) ?_
                refine lv_if_ge (tgt := 58) hx hb dM_tell_44 (by decide) (fun c_44 => ?_) (fun c_44 => ?_)
                · rw [← Int32.not_lt] at c_44
                  obtain ⟨k, hk, hyk, hck⟩ := isF_of (x := y) (by simp [isF, c_23, c_29, ← Int32.not_lt])
                  refine lv_aload_n hx hb dM_tell_58 rfl (lv_at hl 0 rfl) ?_
                  refine g_M_M_35 (v := .ref (as 8)) hx hb hE hm hR1.1 rfl dM_tell_59 ?_
                  refine lv_bipush (v := 50) hx hb dM_tell_62 (by decide) ?_
                  refine lv_iload_n hx hb dM_tell_64 rfl (lv_at hl 1 rfl) ?_
                  refine lv_imul hx hb dM_tell_65 ?_
                  refine lv_iload_n hx hb dM_tell_66 rfl (lv_at hl 2 rfl) ?_
                  refine lv_iadd hx hb dM_tell_67 ?_
                  refine lv_iload_n hx hb dM_tell_68 rfl (lv_at hl 3 rfl) ?_
                  refine iastE (50 * j + k) hx hb hE.2.2.1 hm 0 hR1.a8 rfl (i50 hyk) (by omega) (by decide) dM_tell_69 (fun H locs hm => ?_)
                  obtain ⟨w3, hhw3⟩ : ∃ z : Wd, z = wset w1 (as 8) (.inl (cI, 10000, .inl (upd (g 8) (50 * j + k) (v)))) := ⟨_, rfl⟩
                  have hm : mS B D CLS s.heap w3 H locs := by rw [hhw3]; exact hm
                  have hw3 : w3 = wset (wset (w) (r) (.inr (2, [.int (0), .int (now), .int (nI n), .ref (as 0), .ref (as 1), .ref (as 2), .ref (as 3), .ref (as 4), .ref (as 5), .ref (as 6), .ref (as 7), .ref (as 8)]))) (as 8) (.inl (cI, 10000, .inl (upd (g 8) (50 * j + k) (v)))) := by rw [hhw3, hw1]
                  have fw3 : w3 (as 8) = some (.inl (cI, 10000, .inl (upd (g 8) (50 * j + k) (v)))) := by rw [hhw3]; exact wset_at _ _ _
                  have fw3_1 := (show w3 (r) = w1 (r) by rw [hhw3]; exact wset_ne (Ne.symm (hR.ne (by decide : 8 < 9)))).trans hR1.1
                  have fw3_2 := (show w3 (as 0) = w1 (as 0) by rw [hhw3]; exact wset_ne (hR.nn (by decide : 0 < 9) (by decide : 8 < 9) (by decide))).trans hR1.a0
                  have fw3_3 := (show w3 (as 1) = w1 (as 1) by rw [hhw3]; exact wset_ne (hR.nn (by decide : 1 < 9) (by decide : 8 < 9) (by decide))).trans hR1.a1
                  have fw3_4 := (show w3 (as 2) = w1 (as 2) by rw [hhw3]; exact wset_ne (hR.nn (by decide : 2 < 9) (by decide : 8 < 9) (by decide))).trans hR1.a2
                  have fw3_5 := (show w3 (as 3) = w1 (as 3) by rw [hhw3]; exact wset_ne (hR.nn (by decide : 3 < 9) (by decide : 8 < 9) (by decide))).trans hR1.a3
                  have fw3_6 := (show w3 (as 4) = w1 (as 4) by rw [hhw3]; exact wset_ne (hR.nn (by decide : 4 < 9) (by decide : 8 < 9) (by decide))).trans hR1.a4
                  have fw3_7 := (show w3 (as 5) = w1 (as 5) by rw [hhw3]; exact wset_ne (hR.nn (by decide : 5 < 9) (by decide : 8 < 9) (by decide))).trans hR1.a5
                  have fw3_8 := (show w3 (as 6) = w1 (as 6) by rw [hhw3]; exact wset_ne (hR.nn (by decide : 6 < 9) (by decide : 8 < 9) (by decide))).trans hR1.a6
                  have fw3_9 := (show w3 (as 7) = w1 (as 7) by rw [hhw3]; exact wset_ne (hR.nn (by decide : 7 < 9) (by decide : 8 < 9) (by decide))).trans hR1.a7
                  refine lv_iconst (v := 1) hx hb dM_tell_70 (by decide) ?_
                  have hT : tells n J (nI j) y v = true := by
                    unfold tells; rw [ht]; simp only [isF]
                    exact tl_ok2 c_19 c_23 c_29 c_44 c_40
                  exact mretz hx hb hr (by decide +kernel) hlk hm ⟨by rw [hT]; rfl, ⟨_, by simp only [teN, ht, hT, if_true, hck]; rw [hw3]; exact ((hR.A.set 0 now n).put (by decide : 8 < 9) (upd (g 8) (50 * j + k) v)).R hn200 (hR.2.2.2.2.1.tell hjn hk v) (bs_tell hR.2.2.2.2.2)⟩, by rw [hw3]; exact (rK.rf.set rF_r).set (rF_a (by decide))⟩ dM_tell_71
                · rw [Int32.not_le] at c_44
                  refine lv_aload_n hx hb dM_tell_47 rfl (lv_at hl 0 rfl) ?_
                  refine g_M_M_13 (v := .ref (as 1)) hx hb hE hm hR1.1 rfl dM_tell_48 ?_
                  refine lv_iload_n hx hb dM_tell_51 rfl (lv_at hl 1 rfl) ?_
                  refine ialdE (j) hx hb hE.2.2.1 hm 0 hR1.a1 rfl rfl (by have := hR.n200; have := hjn; omega) (by decide) dM_tell_52 ?_
                  rw [hR1.g1 hjn]
                  refine lv_if_ne (tgt := 58) hx hb dM_tell_53 (by decide) (fun c_53 => ?_) (fun c_53 => ?_)
                  · obtain ⟨k, hk, hyk, hck⟩ := isF_of (x := y) (by simp [isF, c_23, c_29, ← Int32.not_lt])
                    refine lv_aload_n hx hb dM_tell_58 rfl (lv_at hl 0 rfl) ?_
                    refine g_M_M_35 (v := .ref (as 8)) hx hb hE hm hR1.1 rfl dM_tell_59 ?_
                    refine lv_bipush (v := 50) hx hb dM_tell_62 (by decide) ?_
                    refine lv_iload_n hx hb dM_tell_64 rfl (lv_at hl 1 rfl) ?_
                    refine lv_imul hx hb dM_tell_65 ?_
                    refine lv_iload_n hx hb dM_tell_66 rfl (lv_at hl 2 rfl) ?_
                    refine lv_iadd hx hb dM_tell_67 ?_
                    refine lv_iload_n hx hb dM_tell_68 rfl (lv_at hl 3 rfl) ?_
                    refine iastE (50 * j + k) hx hb hE.2.2.1 hm 0 hR1.a8 rfl (i50 hyk) (by omega) (by decide) dM_tell_69 (fun H locs hm => ?_)
                    obtain ⟨w4, hhw4⟩ : ∃ z : Wd, z = wset w1 (as 8) (.inl (cI, 10000, .inl (upd (g 8) (50 * j + k) (v)))) := ⟨_, rfl⟩
                    have hm : mS B D CLS s.heap w4 H locs := by rw [hhw4]; exact hm
                    have hw4 : w4 = wset (wset (w) (r) (.inr (2, [.int (0), .int (now), .int (nI n), .ref (as 0), .ref (as 1), .ref (as 2), .ref (as 3), .ref (as 4), .ref (as 5), .ref (as 6), .ref (as 7), .ref (as 8)]))) (as 8) (.inl (cI, 10000, .inl (upd (g 8) (50 * j + k) (v)))) := by rw [hhw4, hw1]
                    have fw4 : w4 (as 8) = some (.inl (cI, 10000, .inl (upd (g 8) (50 * j + k) (v)))) := by rw [hhw4]; exact wset_at _ _ _
                    have fw4_1 := (show w4 (r) = w1 (r) by rw [hhw4]; exact wset_ne (Ne.symm (hR.ne (by decide : 8 < 9)))).trans hR1.1
                    have fw4_2 := (show w4 (as 0) = w1 (as 0) by rw [hhw4]; exact wset_ne (hR.nn (by decide : 0 < 9) (by decide : 8 < 9) (by decide))).trans hR1.a0
                    have fw4_3 := (show w4 (as 1) = w1 (as 1) by rw [hhw4]; exact wset_ne (hR.nn (by decide : 1 < 9) (by decide : 8 < 9) (by decide))).trans hR1.a1
                    have fw4_4 := (show w4 (as 2) = w1 (as 2) by rw [hhw4]; exact wset_ne (hR.nn (by decide : 2 < 9) (by decide : 8 < 9) (by decide))).trans hR1.a2
                    have fw4_5 := (show w4 (as 3) = w1 (as 3) by rw [hhw4]; exact wset_ne (hR.nn (by decide : 3 < 9) (by decide : 8 < 9) (by decide))).trans hR1.a3
                    have fw4_6 := (show w4 (as 4) = w1 (as 4) by rw [hhw4]; exact wset_ne (hR.nn (by decide : 4 < 9) (by decide : 8 < 9) (by decide))).trans hR1.a4
                    have fw4_7 := (show w4 (as 5) = w1 (as 5) by rw [hhw4]; exact wset_ne (hR.nn (by decide : 5 < 9) (by decide : 8 < 9) (by decide))).trans hR1.a5
                    have fw4_8 := (show w4 (as 6) = w1 (as 6) by rw [hhw4]; exact wset_ne (hR.nn (by decide : 6 < 9) (by decide : 8 < 9) (by decide))).trans hR1.a6
                    have fw4_9 := (show w4 (as 7) = w1 (as 7) by rw [hhw4]; exact wset_ne (hR.nn (by decide : 7 < 9) (by decide : 8 < 9) (by decide))).trans hR1.a7
                    refine lv_iconst (v := 1) hx hb dM_tell_70 (by decide) ?_
                    have hT : tells n J (nI j) y v = true := by
                      unfold tells; rw [ht]; simp only [isF]
                      exact tl_ok1 c_19 c_23 c_29 c_34 c_44 c_53
                    exact mretz hx hb hr (by decide +kernel) hlk hm ⟨by rw [hT]; rfl, ⟨_, by simp only [teN, ht, hT, if_true, hck]; rw [hw4]; exact ((hR.A.set 0 now n).put (by decide : 8 < 9) (upd (g 8) (50 * j + k) v)).R hn200 (hR.2.2.2.2.1.tell hjn hk v) (bs_tell hR.2.2.2.2.2)⟩, by rw [hw4]; exact (rK.rf.set rF_r).set (rF_a (by decide))⟩ dM_tell_71
                  · refine lv_iconst (v := 0) hx hb dM_tell_56 (by decide) ?_
                    have hT : tells n J (nI j) y v = false := by
                      unfold tells; rw [ht]; simp only [isF]
                      exact tl_lv c_44 c_53
                    exact mretz hx hb hr (by decide +kernel) hlk hm ⟨by rw [hT]; rfl, ⟨g, by simp only [teN, ht, hT]; exact hR1⟩, hK1⟩ dM_tell_57
