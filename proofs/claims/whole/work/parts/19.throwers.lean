set_option maxHeartbeats 4000000 in
set_option maxRecDepth 100000 in
/-- pass -/
theorem kC_pass (l : Launch) (hst : l.stackTraces = false) (B : Nat) (D : va_G) (cI cZ cL : ClassId) (sa : Nat → Nat) (w : Wd) (o : Nat) (ad va : Nat → Nat) (now : Int32) (n : Nat) (J : Nat → Jr) (hR : cR cI o ad va now n J w) (x : Int32) : vx_Met l yC_pass (.code yC_pass cC_pass 2 (some .int) :: BIG) { frames := 6, cells := 1, slots := 6, locals := 82 } (va_Pc [.ref (o), .int (x)] (mPX B D CLS (TYS cI cZ cL) NEST sa w)) (va_Qi (fun r u => pOk now x = true ∧ r = now + x ∧ cR cI o ad va (now + x) n J u ∧ cK o ad va n w u) (mE B D CLS) (fun q => B ≤ q)) (mXC B D CLS "java/lang/IllegalArgumentException" (fun u => pOk now x = false ∧ u = w)) 1 6 (fun q => B ≤ q) := by
  refine mMetX (by decide) rfl (Nat.le_of_ble_eq_true rfl) ?_
  intro p e s m below meth c ls hx hb hml hr hlk hnm hown hts hK hN hX hno hm hl
  have hE : ME "ChainPicker" (.code yC_pass cC_pass 2 (some .int)) _ s m D (TYS cI cZ cL) := ⟨hown, hts, hK, hN⟩
  have hl : lv_has ls 2 [(0, .ref (o)), (1, .int (x))] := hl
  refine lv_iload_n hx hb dC_pass_0 rfl (lv_at hl 1 rfl) ?_
  refine lv_if_lt (tgt := 15) hx hb dC_pass_1 (by decide) (fun c_1 => ?_) (fun c_1 => ?_)
  · exact mthrow (sa1 := sa 0) hst hx hb hE hX hno hlk (by decide +kernel) q_192 q_6 hX.1 at_iae nt_iae ot_iae hm (by rw [hml]; exact hl.1) ⟨by simp [pOk, c_1], rfl⟩ dC_pass_15 dC_pass_18 dC_pass_19 dC_pass_21 dC_pass_24 (Nat.le_of_ble_eq_true rfl) (Nat.le_of_ble_eq_true rfl) (Nat.le_of_ble_eq_true rfl) (Nat.le_of_ble_eq_true rfl)
  · refine lv_iload_n hx hb dC_pass_4 rfl (lv_at hl 1 rfl) ?_
    refine lv_ldc (v := 1000000000) hx hb hE.1 (hE.2.1 _ (List.mem_cons_of_mem _ q_191)) dC_pass_5 ?_
    refine lv_aload_n hx hb dC_pass_7 rfl (lv_at hl 0 rfl) ?_
    refine g_C_C_9 (v := .int (now)) hx hb hE hm hR.1 rfl dC_pass_8 ?_
    refine lv_isub hx hb dC_pass_11 ?_
    refine lv_icmp_le (tgt := 25) hx hb dC_pass_12 (by decide) (fun c_12 => ?_) (fun c_12 => ?_)
    · refine lv_aload_n hx hb dC_pass_25 rfl (lv_at hl 0 rfl) ?_
      refine lv_dup hx hb dC_pass_26 rfl ?_
      refine g_C_C_9 (v := .int (now)) hx hb hE hm hR.1 rfl dC_pass_27 ?_
      refine lv_iload_n hx hb dC_pass_30 rfl (lv_at hl 1 rfl) ?_
      refine lv_iadd hx hb dC_pass_31 ?_
      refine p_C_C_9 (x := (now) + (x)) hx hb hE hm hR.1 (by simp) dC_pass_32 (fun H locs hm => ?_)
      obtain ⟨w1, hhw1⟩ : ∃ z : Wd, z = wset w (o) (.inr (1, [.int ((now) + (x)), .int (nI n), va_rf (prv ad n)])) := ⟨_, rfl⟩
      have hm : mS B D CLS s.heap w1 H locs := by rw [hhw1]; exact hm
      have hw1 : w1 = wset (w) (o) (.inr (1, [.int ((now) + (x)), .int (nI n), va_rf (prv ad n)])) := by rw [hhw1]
      have fw1 : w1 (o) = some (.inr (1, [.int ((now) + (x)), .int (nI n), va_rf (prv ad n)])) := by rw [hhw1]; exact wset_at _ _ _
      refine lv_aload_n hx hb dC_pass_35 rfl (lv_at hl 0 rfl) ?_
      refine g_C_C_9 (v := .int ((now) + (x))) hx hb hE hm fw1 rfl dC_pass_36 ?_
      refine W.widen (k := 1) (n := 6) (Nat.le_of_ble_eq_true rfl) (Nat.le_of_ble_eq_true rfl) ?_
      exact vx_ret (mreti hx hb hr hlk hm ⟨by simp [pOk, c_1, Int32.not_lt.mpr c_12], rfl, by rw [hw1]; exact hR.pass _, by rw [hw1]; exact cK.rf.set cF_o⟩ dC_pass_39)
    · exact mthrow (sa1 := sa 0) hst hx hb hE hX hno hlk (by decide +kernel) q_192 q_6 hX.1 at_iae nt_iae ot_iae hm (by rw [hml]; exact hl.1) ⟨by simp [pOk, Int32.not_le.mp c_12], rfl⟩ dC_pass_15 dC_pass_18 dC_pass_19 dC_pass_21 dC_pass_24 (Nat.le_of_ble_eq_true rfl) (Nat.le_of_ble_eq_true rfl) (Nat.le_of_ble_eq_true rfl) (Nat.le_of_ble_eq_true rfl)
set_option maxHeartbeats 4000000 in
set_option maxRecDepth 100000 in
/-- link -/
theorem kC_link (l : Launch) (hst : l.stackTraces = false) (B : Nat) (D : va_G) (cI cZ cL : ClassId) (sa : Nat → Nat) (w : Wd) (o : Nat) (ad va : Nat → Nat) (now : Int32) (n : Nat) (J : Nat → Jr) (hR : cR cI o ad va now n J w) (x t z : Int32) : vx_Met l yC_link (.code yC_link cC_link 6 (some .int) :: BIG) { frames := 6, cells := 1, slots := 6, locals := 82 } (va_Pc [.ref (o), .int (x), .int (t), .int (z)] (mPX B D CLS (TYS cI cZ cL) NEST sa w)) (va_Qi (fun r u => (∃ j, lk (chn J n (hd n J x t)) 0 z = some j ∧ r = nI j) ∧ u = w) (mE B D CLS) (fun q => B ≤ q)) (mXC B D CLS "java/lang/IndexOutOfBoundsException" (fun u => lk (chn J n (hd n J x t)) 0 z = none ∧ u = w)) 1 6 (fun q => B ≤ q) := by
  refine mMetX (by decide) rfl (Nat.le_of_ble_eq_true rfl) ?_
  intro p e s m below meth c ls hx hb hml hr hlk hnm hown hts hK hN hX hno hm hl
  have hE : ME "ChainPicker" (.code yC_link cC_link 6 (some .int)) _ s m D (TYS cI cZ cL) := ⟨hown, hts, hK, hN⟩
  have hl : lv_has ls 6 [(0, .ref (o)), (1, .int (x)), (2, .int (t)), (3, .int (z))] := hl
  have loop : ∀ (f : Nat) (h : Option Nat), (∀ i, h = some i → i < f ∧ i < n) → ∀ (y : Int32), lk (chn J n (hd n J x t)) 0 z = lk (chn J f h) y z → ∀ (H : Heap) (locs : List Loc) (ls : Array Slot), mS B D CLS s.heap w H locs → lv_has ls 6 [(5, va_rf (h.map ad)), (4, .int (y)), (0, .ref (o)), (1, .int (x)), (2, .int (t)), (3, .int (z))] → W p l e ({ frames := 6, cells := 1, slots := 6, locals := 82 }) s m [.ref (o), .int (x), .int (t), .int (z)].toArray below meth c H locs 0 0 (vx_MQ below (va_Qi (fun r u => (∃ j, lk (chn J n (hd n J x t)) 0 z = some j ∧ r = nI j) ∧ u = w) (mE B D CLS) (fun q => B ≤ q)) (mXC B D CLS "java/lang/IndexOutOfBoundsException" (fun u => lk (chn J n (hd n J x t)) 0 z = none ∧ u = w)) [.ref (o), .int (x), .int (t), .int (z)].toArray s 1 6 (fun q => B ≤ q)) (F0 m 11 ls []) := by
    intro f
    induction f with
    | zero =>
      intro h hlt y heq H locs ls hm hl
      cases h with
      | none =>
        have hl : lv_has ls 6 [(5, .null), (4, .int (y)), (0, .ref (o)), (1, .int (x)), (2, .int (t)), (3, .int (z))] := hl
        refine lv_aloadN hx hb dC_link_11 (lv_at hl 0 rfl) ?_
        refine lv_ifnullN (tgt := 41) hx hb dC_link_13 (by decide) ?_
        exact mthrow (sa1 := sa 1) hst hx hb hE hX hno hlk (by decide +kernel) q_267 q_9 hX.2.1 at_ioe nt_ioe ot_ioe hm (by rw [hml]; exact hl.1) ⟨by rw [heq, lk_n], rfl⟩ dC_link_41 dC_link_44 dC_link_45 dC_link_47 dC_link_50 (Nat.le_of_ble_eq_true rfl) (Nat.le_of_ble_eq_true rfl) (Nat.le_of_ble_eq_true rfl) (Nat.le_of_ble_eq_true rfl)
      | some i => exact absurd (hlt i rfl).1 (Nat.not_lt_zero _)
    | succ f ih =>
      intro h hlt y heq H locs ls hm hl
      cases h with
      | none =>
        have hl : lv_has ls 6 [(5, .null), (4, .int (y)), (0, .ref (o)), (1, .int (x)), (2, .int (t)), (3, .int (z))] := hl
        refine lv_aloadN hx hb dC_link_11 (lv_at hl 0 rfl) ?_
        refine lv_ifnullN (tgt := 41) hx hb dC_link_13 (by decide) ?_
        exact mthrow (sa1 := sa 1) hst hx hb hE hX hno hlk (by decide +kernel) q_267 q_9 hX.2.1 at_ioe nt_ioe ot_ioe hm (by rw [hml]; exact hl.1) ⟨by rw [heq, lk_n], rfl⟩ dC_link_41 dC_link_44 dC_link_45 dC_link_47 dC_link_50 (Nat.le_of_ble_eq_true rfl) (Nat.le_of_ble_eq_true rfl) (Nat.le_of_ble_eq_true rfl) (Nat.le_of_ble_eq_true rfl)
      | some i =>
        have hin : i < n := (hlt i rfl).2
        have hl : lv_has ls 6 [(5, .ref (ad i)), (4, .int (y)), (0, .ref (o)), (1, .int (x)), (2, .int (t)), (3, .int (z))] := hl
        refine lv_aload hx hb dC_link_11 (lv_at hl 0 rfl) ?_
        refine lv_ifnull hx hb dC_link_13 ?_
        refine lv_iload hx hb dC_link_16 (lv_at hl 1 rfl) ?_
        refine lv_iload_n hx hb dC_link_18 rfl (lv_at hl 5 rfl) ?_
        refine lv_icmp_ne (tgt := 28) hx hb dC_link_19 (by decide) (fun c_19 => ?_) (fun c_19 => ?_)
        · refine lv_iinc (v := y + 1) (lv' := [(4, .int (y + 1)), (5, .ref (ad i)), (0, .ref (o)), (1, .int (x)), (2, .int (t)), (3, .int (z))]) hx hb dC_link_28 hl (k := 1) rfl rfl (by decide) rfl (fun ls hl => ?_)
          refine lv_aload hx hb dC_link_31 (lv_at hl 1 rfl) ?_
          refine g_C_J_79 (v := va_rf ((jBs (J i)).map ad)) hx hb hE hm (hR.2.1 i hin) rfl dC_link_33 ?_
          refine mstoreR2 (lv' := [(5, va_rf ((jBs (J i)).map ad)), (4, .int (y + 1)), (0, .ref (o)), (1, .int (x)), (2, .int (t)), (3, .int (z))]) hx hb dC_link_36 hl (by decide) rfl (fun ls hl => ?_)
          refine lv_goto (tgt := 11) hx hb dC_link_38 (by decide) ?_
          exact ih (jBs (J i)) (fun b hb => ⟨Nat.lt_of_lt_of_le (hR.bs hin hb) (Nat.le_of_lt_succ (hlt i rfl).1), Nat.lt_trans (hR.bs hin hb) hin⟩) (y + 1) (by rw [heq, lk_f c_19]) H locs ls hm (lv_sub hl [0, 1, 2, 3, 4, 5] rfl)
        · refine lv_aload hx hb dC_link_22 (lv_at hl 0 rfl) ?_
          refine g_C_J_50 (v := .int (nI i)) hx hb hE hm (hR.2.1 i hin) rfl dC_link_24 ?_
          refine W.widen (k := 1) (n := 6) (Nat.le_of_ble_eq_true rfl) (Nat.le_of_ble_eq_true rfl) ?_
          exact vx_ret (mreti hx hb hr hlk hm ⟨⟨i, by rw [heq, lk_t c_19], rfl⟩, rfl⟩ dC_link_27)
  refine lv_iconst (v := 0) hx hb dC_link_0 (by decide) ?_
  refine lv_istore (lv' := [(4, .int (0)), (0, .ref (o)), (1, .int (x)), (2, .int (t)), (3, .int (z))]) hx hb dC_link_1 hl (by decide) rfl (fun ls hl => ?_)
  refine lv_aload_n hx hb dC_link_3 rfl (lv_at hl 1 rfl) ?_
  refine lv_iload_n hx hb dC_link_4 rfl (lv_at hl 2 rfl) ?_
  refine lv_iload_n hx hb dC_link_5 rfl (lv_at hl 3 rfl) ?_
  refine mcallq (mcV (n := 2) (As := [.int (x), .int (t)]) (rest := []) hx hb hml hE (kC_findHead l B D cI cZ cL w o ad va now n J hR x t) q_131 q_133 qs_3 q_1 q_134 rfl rfl (by decide +kernel) ⟨Nat.le_of_ble_eq_true rfl, Nat.le_of_ble_eq_true rfl⟩ rfl hl.1 hm rfl hR.1 rfl (Nat.le_of_ble_eq_true rfl) dC_link_6 ⟨Nat.le_of_ble_eq_true rfl, Nat.le_of_ble_eq_true rfl⟩) hm (fun r1 u1 H locs hp1 hm => ?_)
  obtain ⟨hr1, hu1⟩ := hp1
  rw [hu1] at hm
  refine mstoreR2 (lv' := [(5, va_rf (r1)), (4, .int (0)), (0, .ref (o)), (1, .int (x)), (2, .int (t)), (3, .int (z))]) hx hb dC_link_9 hl (by decide) rfl (fun ls hl => ?_)
  subst hr1
  exact loop n _ (fun i hi => ⟨hd_lt i hi, hd_lt i hi⟩) 0 rfl _ _ ls hm (lv_sub hl [0, 1, 2, 3, 4, 5] rfl)
set_option maxHeartbeats 4000000 in
set_option maxRecDepth 100000 in
/-- expire -/
theorem kC_expire (l : Launch) (hst : l.stackTraces = false) (B : Nat) (D : va_G) (cI cZ cL : ClassId) (sa : Nat → Nat) (w : Wd) (o : Nat) (ad va : Nat → Nat) (now : Int32) (n : Nat) (J : Nat → Jr) (hR : cR cI o ad va now n J w) (x : Int32) : vx_Met l yC_expire (.code yC_expire cC_expire 4 (some .int) :: BIG) { frames := 6, cells := 1, slots := 6, locals := 82 } (va_Pc [.ref (o), .int (x)] (mPX B D CLS (TYS cI cZ cL) NEST sa w)) (va_Qi (fun r u => ¬ x < 0 ∧ r = (xp n now x n J 0).2 ∧ cR cI o ad va now n (xp n now x n J 0).1 u ∧ cK o ad va n w u) (mE B D CLS) (fun q => B ≤ q)) (mXC B D CLS "java/lang/IllegalArgumentException" (fun u => x < 0 ∧ u = w)) 1 6 (fun q => B ≤ q) := by
  refine mMetX (by decide) rfl (Nat.le_of_ble_eq_true rfl) ?_
  intro p e s m below meth c ls hx hb hml hr hlk hnm hown hts hK hN hX hno hm hl
  have hE : ME "ChainPicker" (.code yC_expire cC_expire 4 (some .int)) _ s m D (TYS cI cZ cL) := ⟨hown, hts, hK, hN⟩
  have hl : lv_has ls 4 [(0, .ref (o)), (1, .int (x))] := hl
  have loop : ¬ x < 0 → ∀ k, k ≤ n → ∀ (K : Nat → Jr) (g : Int32) (v : Wd), cR cI o ad va now n K v → cK o ad va n w v → xp n now x n J 0 = xp n now x k K g → ∀ (H : Heap) (locs : List Loc) (ls : Array Slot), mS B D CLS s.heap v H locs → lv_has ls 4 [(3, va_rf (prv ad k)), (2, .int (g)), (0, .ref (o)), (1, .int (x))] → W p l e ({ frames := 6, cells := 1, slots := 6, locals := 82 }) s m [.ref (o), .int (x)].toArray below meth c H locs 0 0 (vx_MQ below (va_Qi (fun r u => ¬ x < 0 ∧ r = (xp n now x n J 0).2 ∧ cR cI o ad va now n (xp n now x n J 0).1 u ∧ cK o ad va n w u) (mE B D CLS) (fun q => B ≤ q)) (mXC B D CLS "java/lang/IllegalArgumentException" (fun u => x < 0 ∧ u = w)) [.ref (o), .int (x)].toArray s 1 6 (fun q => B ≤ q)) (F0 m 21 ls []) := by
    intro hx0 k
    induction k with
    | zero =>
      intro hk K g v hK1 hK2 heq H locs ls hm hl
      have hl : lv_has ls 4 [(3, .null), (2, .int (g)), (0, .ref (o)), (1, .int (x))] := hl
      refine lv_aload_nN hx hb dC_expire_21 rfl (lv_at hl 0 rfl) ?_
      refine lv_ifnullN (tgt := 68) hx hb dC_expire_22 (by decide) ?_
      refine lv_iload_n hx hb dC_expire_68 rfl (lv_at hl 1 rfl) ?_
      refine W.widen (k := 1) (n := 6) (Nat.le_of_ble_eq_true rfl) (Nat.le_of_ble_eq_true rfl) ?_
      exact vx_ret (mreti hx hb hr hlk hm ⟨hx0, by rw [heq]; rfl, by rw [heq]; exact hK1, hK2⟩ dC_expire_69)
    | succ k ih =>
      intro hk K g v hK1 hK2 heq H locs ls hm hl
      have hl : lv_has ls 4 [(3, .ref (ad k)), (2, .int (g)), (0, .ref (o)), (1, .int (x))] := hl
      have hk1 : k < n := hk
      refine lv_aload_n hx hb dC_expire_21 rfl (lv_at hl 0 rfl) ?_
      refine lv_ifnull hx hb dC_expire_22 ?_
      refine lv_aload_n hx hb dC_expire_25 rfl (lv_at hl 0 rfl) ?_
      refine mcalli (mcS (n := 1) (As := [.ref (ad k)]) (rest := []) hx hb hml hE (kC_isFree l B D cI cZ cL v (ad k) _ _ _ _ _ _ _ _ _ _ _ _ (hK1.2.1 k hk1)) q_157 q_158 q_1 q_159 rfl rfl (by decide +kernel) ⟨Nat.le_of_ble_eq_true rfl, Nat.le_of_ble_eq_true rfl⟩ rfl hl.1 hm rfl (Nat.le_of_ble_eq_true rfl) dC_expire_26 ⟨Nat.le_of_ble_eq_true rfl, Nat.le_of_ble_eq_true rfl⟩) hm (fun r1 u1 H locs hp1 hm => ?_)
      obtain ⟨hr1, hu1⟩ := hp1
      rw [hu1] at hm
      have hr1 := fr_r hK1.n200 hr1
      refine lv_if_eq (tgt := 60) hx hb dC_expire_29 (by decide) (fun c_29 => ?_) (fun c_29 => ?_)
      · rw [hr1, bI_0] at c_29
        refine lv_aload_n hx hb dC_expire_60 rfl (lv_at hl 0 rfl) ?_
        refine g_C_J_108 (v := va_rf (prv ad k)) hx hb hE hm (hK1.2.1 k hk1) rfl dC_expire_61 ?_
        refine mstoreR (lv' := [(3, va_rf (prv ad k)), (2, .int (g)), (0, .ref (o)), (1, .int (x))]) hx hb dC_expire_64 rfl hl (by decide) rfl (fun ls hl => ?_)
        refine lv_goto (tgt := 21) hx hb dC_expire_65 (by decide) ?_
        exact ih (Nat.le_of_succ_le hk) K g v hK1 hK2 (by rw [heq, xp_f (by simp [c_29, ← Int32.not_le])]) H locs ls hm (lv_sub hl [0, 1, 2, 3] rfl)
      · rw [hr1, bI_0] at c_29
        refine lv_aload_n hx hb dC_expire_32 rfl (lv_at hl 2 rfl) ?_
        refine g_C_C_9 (v := .int (now)) hx hb hE hm hK1.1 rfl dC_expire_33 ?_
        refine lv_aload_n hx hb dC_expire_36 rfl (lv_at hl 0 rfl) ?_
        refine g_C_J_73 (v := .int (jEn (K k))) hx hb hE hm (hK1.2.1 k hk1) rfl dC_expire_37 ?_
        refine lv_isub hx hb dC_expire_40 ?_
        refine lv_iload_n hx hb dC_expire_41 rfl (lv_at hl 3 rfl) ?_
        refine lv_icmp_le (tgt := 60) hx hb dC_expire_42 (by decide) (fun c_42 => ?_) (fun c_42 => ?_)
        · refine lv_aload_n hx hb dC_expire_60 rfl (lv_at hl 0 rfl) ?_
          refine g_C_J_108 (v := va_rf (prv ad k)) hx hb hE hm (hK1.2.1 k hk1) rfl dC_expire_61 ?_
          refine mstoreR (lv' := [(3, va_rf (prv ad k)), (2, .int (g)), (0, .ref (o)), (1, .int (x))]) hx hb dC_expire_64 rfl hl (by decide) rfl (fun ls hl => ?_)
          refine lv_goto (tgt := 21) hx hb dC_expire_65 (by decide) ?_
          exact ih (Nat.le_of_succ_le hk) K g v hK1 hK2 (by rw [heq, xp_f (by simp [c_29, c_42, ← Int32.not_le])]) H locs ls hm (lv_sub hl [0, 1, 2, 3] rfl)
        · refine lv_aload_n hx hb dC_expire_45 rfl (lv_at hl 2 rfl) ?_
          refine lv_aload_n hx hb dC_expire_46 rfl (lv_at hl 0 rfl) ?_
          refine mcalli (mcV (n := 1) (As := [.ref (ad k)]) (rest := []) hx hb hml hE (kC_isOnlyGoodFull l B D cI cZ cL v o ad va now n K hK1 k hk1) q_291 q_293 qs_7 q_1 q_294 rfl rfl (by decide +kernel) ⟨Nat.le_of_ble_eq_true rfl, Nat.le_of_ble_eq_true rfl⟩ rfl hl.1 hm rfl hK1.1 rfl (Nat.le_of_ble_eq_true rfl) dC_expire_47 ⟨Nat.le_of_ble_eq_true rfl, Nat.le_of_ble_eq_true rfl⟩) hm (fun r2 u2 H locs hp2 hm => ?_)
          obtain ⟨hr2, hu2⟩ := hp2
          rw [hu2] at hm
          refine lv_if_ne (tgt := 60) hx hb dC_expire_50 (by decide) (fun c_50 => ?_) (fun c_50 => ?_)
          · rw [hr2, bI_0] at c_50
            refine lv_aload_n hx hb dC_expire_60 rfl (lv_at hl 0 rfl) ?_
            refine g_C_J_108 (v := va_rf (prv ad k)) hx hb hE hm (hK1.2.1 k hk1) rfl dC_expire_61 ?_
            refine mstoreR (lv' := [(3, va_rf (prv ad k)), (2, .int (g)), (0, .ref (o)), (1, .int (x))]) hx hb dC_expire_64 rfl hl (by decide) rfl (fun ls hl => ?_)
            refine lv_goto (tgt := 21) hx hb dC_expire_65 (by decide) ?_
            exact ih (Nat.le_of_succ_le hk) K g v hK1 hK2 (by rw [heq, xp_f (by simp [c_29, c_42, c_50, ← Int32.not_le])]) H locs ls hm (lv_sub hl [0, 1, 2, 3] rfl)
          · rw [hr2, bI_0] at c_50
            refine lv_aload_n hx hb dC_expire_53 rfl (lv_at hl 0 rfl) ?_
            refine mcallv (mcS (n := 1) (As := [.ref (ad k)]) (rest := []) hx hb hml hE (kC_drop l B D cI cZ cL v o ad va now n K hK1 k hk1 (fr_pr (by simpa using c_29))) q_160 q_161 q_1 q_162 rfl rfl (by decide +kernel) ⟨Nat.le_of_ble_eq_true rfl, Nat.le_of_ble_eq_true rfl⟩ rfl hl.1 hm rfl (Nat.le_of_ble_eq_true rfl) dC_expire_54 ⟨Nat.le_of_ble_eq_true rfl, Nat.le_of_ble_eq_true rfl⟩) hm (fun u3 H locs hp3 hm => ?_)
            refine lv_iinc (v := g + 1) (lv' := [(2, .int (g + 1)), (3, .ref (ad k)), (0, .ref (o)), (1, .int (x))]) hx hb dC_expire_57 hl (k := 1) rfl rfl (by decide) rfl (fun ls hl => ?_)
            refine lv_aload_n hx hb dC_expire_60 rfl (lv_at hl 1 rfl) ?_
            refine g_C_J_108 (v := va_rf (prv ad k)) hx hb hE hm (hp3.1.2.1 k hk1) rfl dC_expire_61 ?_
            refine mstoreR (lv' := [(3, va_rf (prv ad k)), (2, .int (g + 1)), (0, .ref (o)), (1, .int (x))]) hx hb dC_expire_64 rfl hl (by decide) rfl (fun ls hl => ?_)
            refine lv_goto (tgt := 21) hx hb dC_expire_65 (by decide) ?_
            exact ih (Nat.le_of_succ_le hk) (drJ K k) (g + 1) u3 hp3.1 (hK2.tr hp3.2) (by rw [heq, xp_t (by simp [c_29, c_42, c_50, ← Int32.not_le])]) H locs ls hm (lv_sub hl [0, 1, 2, 3] rfl)
  refine lv_iload_n hx hb dC_expire_0 rfl (lv_at hl 1 rfl) ?_
  refine lv_if_ge (tgt := 14) hx hb dC_expire_1 (by decide) (fun c_1 => ?_) (fun c_1 => ?_)
  · refine lv_iconst (v := 0) hx hb dC_expire_14 (by decide) ?_
    refine lv_istore_n (lv' := [(2, .int (0)), (0, .ref (o)), (1, .int (x))]) hx hb dC_expire_15 rfl hl (by decide) rfl (fun ls hl => ?_)
    refine lv_aload_n hx hb dC_expire_16 rfl (lv_at hl 1 rfl) ?_
    refine g_C_C_16 (v := va_rf (prv ad n)) hx hb hE hm hR.1 rfl dC_expire_17 ?_
    refine mstoreR (lv' := [(3, va_rf (prv ad n)), (2, .int (0)), (0, .ref (o)), (1, .int (x))]) hx hb dC_expire_20 rfl hl (by decide) rfl (fun ls hl => ?_)
    exact loop (by simpa using c_1) n (Nat.le_refl n) J 0 w hR cK.rf rfl _ _ ls hm (lv_sub hl [0, 1, 2, 3] rfl)
  · exact mthrow (sa1 := sa 2) hst hx hb hE hX hno hlk (by decide +kernel) q_192 q_6 hX.2.2.1 at_iae nt_iae ot_iae hm (by rw [hml]; exact hl.1) ⟨by simpa using c_1, rfl⟩ dC_expire_4 dC_expire_7 dC_expire_8 dC_expire_10 dC_expire_13 (Nat.le_of_ble_eq_true rfl) (Nat.le_of_ble_eq_true rfl) (Nat.le_of_ble_eq_true rfl) (Nat.le_of_ble_eq_true rfl)
