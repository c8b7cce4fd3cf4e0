set_option maxHeartbeats 4000000 in
set_option maxRecDepth 100000 in
/-- Job(..) -/
theorem kJ_init (l : Launch) (B : Nat) (D : va_G) (cI cZ cL : ClassId) (w : Wd) (a : Nat) (nb s0 l0 : Int32) (b0 : Option Nat) (t0 : Int32) (er : Option Nat) (ha : w a = some (.inr (0, DEFJ))) : Met l yJ_init (.code yJ_init cJ_init 7 none :: BIG) { frames := 1, cells := 1, slots := 50, locals := 23 } (va_Pc [.ref (a), .int (nb), .int (s0), .int (l0), va_rf (b0), .int (t0), va_rf (er)] (mP B D CLS (TYS cI cZ cL) NEST w)) (va_Qv (fun u => ∃ q, w q = none ∧ u = wset (wset w q (.inl (cI, 50, .inl (fun _ => -2)))) a (.inr (0, [.int nb, .int s0, .int (if b0 = none then 0 else l0), .int (bI (decide (b0 = none) && decide (l0 ≠ 0))), va_rf b0, .int t0, va_rf er, .ref q, .int (-1), .int 0, .int 0, .int 0]))) (mE B D CLS) (fun q => B ≤ q)) 1 50 (fun q => B ≤ q) := by
  cases b0 with
  | none =>
    refine mMet (by decide) rfl (by simp [lg_sl, rf_cat, int_cat, ref_cat]) ?_
    intro p e s m below meth c ls hx hb hml hr hlk hnm hown hts hK hN hm hl
    have hE : ME "ChainPicker$Job" (.code yJ_init cJ_init 7 none) _ s m D (TYS cI cZ cL) := ⟨hown, hts, hK, hN⟩
    have hl : lv_has ls 7 [(0, .ref (a)), (1, .int (nb)), (2, .int (s0)), (3, .int (l0)), (4, va_rf (none)), (5, .int (t0)), (6, va_rf (er))] := by simpa [lv_args, rf_cat, int_cat, ref_cat] using hl
    have hl : lv_has ls 7 [(0, .ref (a)), (1, .int (nb)), (2, .int (s0)), (3, .int (l0)), (4, .null), (5, .int (t0)), (6, va_rf (er))] := hl
    refine lv_aload_n hx hb dJ_init_0 rfl (lv_at hl 0 rfl) ?_
    refine W.objInit hx hb hE.1 (hE.2.1 _ (List.mem_cons_of_mem _ q_54)) (hE.2.1 _ (List.mem_cons_of_mem _ q_16)) (hE.2.1 _ (List.mem_cons_of_mem _ q_17)) rfl (by rw [hml]; exact hl.1) rfl dJ_init_1 (Nat.le_of_ble_eq_true rfl) (Nat.le_of_ble_eq_true rfl) ?_
    refine W.eq (g2 := F0 m 4 ls []) rfl ?_
    refine lv_aload_n hx hb dJ_init_4 rfl (lv_at hl 0 rfl) ?_
    refine lv_iload_n hx hb dJ_init_5 rfl (lv_at hl 1 rfl) ?_
    refine p_J_J_9 (x := nb) hx hb hE hm ha hnm (by simp) dJ_init_6 (fun H locs hm => ?_)
    obtain ⟨w1, hhw1⟩ : ∃ z : Wd, z = wset w (a) (.inr (0, [.int (nb), .int (0), .int (0), .int (0), va_rf (none), .int (0), va_rf (none), va_rf (none), .int (0), .int (0), .int (0), .int (0)])) := ⟨_, rfl⟩
    have hm : mS B D CLS s.heap w1 H locs := by rw [hhw1]; exact hm
    have hw1 : w1 = wset (w) (a) (.inr (0, [.int (nb), .int (0), .int (0), .int (0), va_rf (none), .int (0), va_rf (none), va_rf (none), .int (0), .int (0), .int (0), .int (0)])) := by rw [hhw1]
    have fw1 : w1 (a) = some (.inr (0, [.int (nb), .int (0), .int (0), .int (0), va_rf (none), .int (0), va_rf (none), va_rf (none), .int (0), .int (0), .int (0), .int (0)])) := by rw [hhw1]; exact wset_at _ _ _
    refine lv_aload_n hx hb dJ_init_9 rfl (lv_at hl 0 rfl) ?_
    refine lv_iload_n hx hb dJ_init_10 rfl (lv_at hl 2 rfl) ?_
    refine p_J_J_15 (x := s0) hx hb hE hm fw1 hnm (by simp) dJ_init_11 (fun H locs hm => ?_)
    obtain ⟨w2, hhw2⟩ : ∃ z : Wd, z = wset w1 (a) (.inr (0, [.int (nb), .int (s0), .int (0), .int (0), va_rf (none), .int (0), va_rf (none), va_rf (none), .int (0), .int (0), .int (0), .int (0)])) := ⟨_, rfl⟩
    have hm : mS B D CLS s.heap w2 H locs := by rw [hhw2]; exact hm
    have hw2 : w2 = wset (w) (a) (.inr (0, [.int (nb), .int (s0), .int (0), .int (0), va_rf (none), .int (0), va_rf (none), va_rf (none), .int (0), .int (0), .int (0), .int (0)])) := by rw [hhw2, hw1]; funext z; by_cases hz : z = a <;> simp [wset, hz]
    have fw2 : w2 (a) = some (.inr (0, [.int (nb), .int (s0), .int (0), .int (0), va_rf (none), .int (0), va_rf (none), va_rf (none), .int (0), .int (0), .int (0), .int (0)])) := by rw [hhw2]; exact wset_at _ _ _
    refine lv_aload_n hx hb dJ_init_14 rfl (lv_at hl 0 rfl) ?_
    refine lv_aloadN hx hb dJ_init_15 (lv_at hl 4 rfl) ?_
    refine lv_ifnonnullN hx hb dJ_init_17 ?_
    refine lv_iconst (v := 0) hx hb dJ_init_20 (by decide) ?_
    refine lv_goto (tgt := 25) hx hb dJ_init_21 (by decide) ?_
    refine p_J_J_18 (x := 0) hx hb hE hm fw2 hnm (by simp) dJ_init_25 (fun H locs hm => ?_)
    obtain ⟨w3, hhw3⟩ : ∃ z : Wd, z = wset w2 (a) (.inr (0, [.int (nb), .int (s0), .int (0), .int (0), va_rf (none), .int (0), va_rf (none), va_rf (none), .int (0), .int (0), .int (0), .int (0)])) := ⟨_, rfl⟩
    have hm : mS B D CLS s.heap w3 H locs := by rw [hhw3]; exact hm
    have hw3 : w3 = wset (w) (a) (.inr (0, [.int (nb), .int (s0), .int (0), .int (0), va_rf (none), .int (0), va_rf (none), va_rf (none), .int (0), .int (0), .int (0), .int (0)])) := by rw [hhw3, hw2]; funext z; by_cases hz : z = a <;> simp [wset, hz]
    have fw3 : w3 (a) = some (.inr (0, [.int (nb), .int (s0), .int (0), .int (0), va_rf (none), .int (0), va_rf (none), va_rf (none), .int (0), .int (0), .int (0), .int (0)])) := by rw [hhw3]; exact wset_at _ _ _
    refine lv_aload_n hx hb dJ_init_28 rfl (lv_at hl 0 rfl) ?_
    refine lv_aloadN hx hb dJ_init_29 (lv_at hl 4 rfl) ?_
    refine lv_ifnonnullN hx hb dJ_init_31 ?_
    refine lv_iload_n hx hb dJ_init_34 rfl (lv_at hl 3 rfl) ?_
    refine lv_if_eq (tgt := 42) hx hb dJ_init_35 (by decide) (fun c_35 => ?_) (fun c_35 => ?_)
    · refine lv_iconst (v := 0) hx hb dJ_init_42 (by decide) ?_
      refine p_J_J_21 (x := 0) hx hb hE hm fw3 hnm (by simp) (by decide) dJ_init_43 (fun H locs hm => ?_)
      obtain ⟨w4, hhw4⟩ : ∃ z : Wd, z = wset w3 (a) (.inr (0, [.int (nb), .int (s0), .int (0), .int (0), va_rf (none), .int (0), va_rf (none), va_rf (none), .int (0), .int (0), .int (0), .int (0)])) := ⟨_, rfl⟩
      have hm : mS B D CLS s.heap w4 H locs := by rw [hhw4]; exact hm
      have hw4 : w4 = wset (w) (a) (.inr (0, [.int (nb), .int (s0), .int (0), .int (0), va_rf (none), .int (0), va_rf (none), va_rf (none), .int (0), .int (0), .int (0), .int (0)])) := by rw [hhw4, hw3]; funext z; by_cases hz : z = a <;> simp [wset, hz]
      have fw4 : w4 (a) = some (.inr (0, [.int (nb), .int (s0), .int (0), .int (0), va_rf (none), .int (0), va_rf (none), va_rf (none), .int (0), .int (0), .int (0), .int (0)])) := by rw [hhw4]; exact wset_at _ _ _
      refine lv_aload_n hx hb dJ_init_46 rfl (lv_at hl 0 rfl) ?_
      refine lv_aloadN hx hb dJ_init_47 (lv_at hl 4 rfl) ?_
      refine p_J_J_25 (r := none) hx hb hE hm fw4 hnm (by simp) dJ_init_49 (fun H locs hm => ?_)
      obtain ⟨w5, hhw5⟩ : ∃ z : Wd, z = wset w4 (a) (.inr (0, [.int (nb), .int (s0), .int (0), .int (0), va_rf (none), .int (0), va_rf (none), va_rf (none), .int (0), .int (0), .int (0), .int (0)])) := ⟨_, rfl⟩
      have hm : mS B D CLS s.heap w5 H locs := by rw [hhw5]; exact hm
      have hw5 : w5 = wset (w) (a) (.inr (0, [.int (nb), .int (s0), .int (0), .int (0), va_rf (none), .int (0), va_rf (none), va_rf (none), .int (0), .int (0), .int (0), .int (0)])) := by rw [hhw5, hw4]; funext z; by_cases hz : z = a <;> simp [wset, hz]
      have fw5 : w5 (a) = some (.inr (0, [.int (nb), .int (s0), .int (0), .int (0), va_rf (none), .int (0), va_rf (none), va_rf (none), .int (0), .int (0), .int (0), .int (0)])) := by rw [hhw5]; exact wset_at _ _ _
      refine lv_aload_n hx hb dJ_init_52 rfl (lv_at hl 0 rfl) ?_
      refine lv_iload hx hb dJ_init_53 (lv_at hl 5 rfl) ?_
      refine p_J_J_29 (x := t0) hx hb hE hm fw5 hnm (by simp) dJ_init_55 (fun H locs hm => ?_)
      obtain ⟨w6, hhw6⟩ : ∃ z : Wd, z = wset w5 (a) (.inr (0, [.int (nb), .int (s0), .int (0), .int (0), va_rf (none), .int (t0), va_rf (none), va_rf (none), .int (0), .int (0), .int (0), .int (0)])) := ⟨_, rfl⟩
      have hm : mS B D CLS s.heap w6 H locs := by rw [hhw6]; exact hm
      have hw6 : w6 = wset (w) (a) (.inr (0, [.int (nb), .int (s0), .int (0), .int (0), va_rf (none), .int (t0), va_rf (none), va_rf (none), .int (0), .int (0), .int (0), .int (0)])) := by rw [hhw6, hw5]; funext z; by_cases hz : z = a <;> simp [wset, hz]
      have fw6 : w6 (a) = some (.inr (0, [.int (nb), .int (s0), .int (0), .int (0), va_rf (none), .int (t0), va_rf (none), va_rf (none), .int (0), .int (0), .int (0), .int (0)])) := by rw [hhw6]; exact wset_at _ _ _
      refine lv_aload_n hx hb dJ_init_58 rfl (lv_at hl 0 rfl) ?_
      refine mloadR2 hx hb dJ_init_59 (lv_at hl 6 rfl) ?_
      refine p_J_J_32 (r := er) hx hb hE hm fw6 hnm (by simp) dJ_init_61 (fun H locs hm => ?_)
      obtain ⟨w7, hhw7⟩ : ∃ z : Wd, z = wset w6 (a) (.inr (0, [.int (nb), .int (s0), .int (0), .int (0), va_rf (none), .int (t0), va_rf (er), va_rf (none), .int (0), .int (0), .int (0), .int (0)])) := ⟨_, rfl⟩
      have hm : mS B D CLS s.heap w7 H locs := by rw [hhw7]; exact hm
      have hw7 : w7 = wset (w) (a) (.inr (0, [.int (nb), .int (s0), .int (0), .int (0), va_rf (none), .int (t0), va_rf (er), va_rf (none), .int (0), .int (0), .int (0), .int (0)])) := by rw [hhw7, hw6]; funext z; by_cases hz : z = a <;> simp [wset, hz]
      have fw7 : w7 (a) = some (.inr (0, [.int (nb), .int (s0), .int (0), .int (0), va_rf (none), .int (t0), va_rf (er), va_rf (none), .int (0), .int (0), .int (0), .int (0)])) := by rw [hhw7]; exact wset_at _ _ _
      refine lv_aload_n hx hb dJ_init_64 rfl (lv_at hl 0 rfl) ?_
      refine lv_bipush (v := 50) hx hb dJ_init_65 (by decide) ?_
      refine mnewa (atype := .int) (cI := cI) (ty := .int) (N' := 50) (a0 := (50, .inl (fun _ => 0))) hx hb (hE.2.1 _ (List.mem_cons_of_mem _ q_107)) rfl hE.2.2.1 hm 0 rfl (fun C h => by cases h) (fun _ => rfl) (by decide) (by decide) (by decide) (Nat.le_of_ble_eq_true rfl) (Nat.le_of_ble_eq_true rfl) dJ_init_67 (fun q8 H hq8 hm => ?_)
      have hfq8 : w q8 = none := by have h := hq8; rw [hw7] at h; exact (wset_none h).1
      have nq8_0 : a ≠ q8 := fun e => by have h := fw7; rw [e, hq8] at h; cases h
      obtain ⟨w8, hhw8⟩ : ∃ z : Wd, z = wset w7 (q8) (.inl (cI, 50, .inl (fun _ => 0))) := ⟨_, rfl⟩
      have hm : mS B D CLS s.heap w8 H locs := by rw [hhw8]; exact hm
      have hw8 : w8 = wset (wset (w) (a) (.inr (0, [.int (nb), .int (s0), .int (0), .int (0), va_rf (none), .int (t0), va_rf (er), va_rf (none), .int (0), .int (0), .int (0), .int (0)]))) (q8) (.inl (cI, 50, .inl (fun _ => 0))) := by rw [hhw8, hw7]
      have fw8 : w8 (q8) = some (.inl (cI, 50, .inl (fun _ => 0))) := by rw [hhw8]; exact wset_at _ _ _
      have fw8_1 := (show w8 (a) = w7 (a) by rw [hhw8]; exact wset_ne nq8_0).trans fw7
      refine p_J_J_35 (r := some (q8)) hx hb hE hm fw8_1 hnm (by simp) dJ_init_69 (fun H locs hm => ?_)
      obtain ⟨w9, hhw9⟩ : ∃ z : Wd, z = wset w8 (a) (.inr (0, [.int (nb), .int (s0), .int (0), .int (0), va_rf (none), .int (t0), va_rf (er), .ref (q8), .int (0), .int (0), .int (0), .int (0)])) := ⟨_, rfl⟩
      have hm : mS B D CLS s.heap w9 H locs := by rw [hhw9]; exact hm
      have hw9 : w9 = wset (wset (w) (q8) (.inl (cI, 50, .inl (fun _ => 0)))) (a) (.inr (0, [.int (nb), .int (s0), .int (0), .int (0), va_rf (none), .int (t0), va_rf (er), .ref (q8), .int (0), .int (0), .int (0), .int (0)])) := by rw [hhw9, hw8]; funext z; by_cases hz : z = a <;> simp [wset, hz]
      have fw9 : w9 (a) = some (.inr (0, [.int (nb), .int (s0), .int (0), .int (0), va_rf (none), .int (t0), va_rf (er), .ref (q8), .int (0), .int (0), .int (0), .int (0)])) := by rw [hhw9]; exact wset_at _ _ _
      have fw9_1 := (show w9 (q8) = w8 (q8) by rw [hhw9]; exact wset_ne (Ne.symm nq8_0)).trans fw8
      refine lv_aload_n hx hb dJ_init_72 rfl (lv_at hl 0 rfl) ?_
      refine g_J_J_35 (v := .ref (q8)) hx hb hE hm fw9 rfl dJ_init_73 ?_
      refine lv_bipush (v := (-2)) hx hb dJ_init_76 (by decide) ?_
      refine mcallv (mcS (n := 2) (As := [.ref (q8), .int ((-2))]) (rest := []) hx hb hml hE (kF_fill l B D cI cZ cL w9 (q8) (-2) 50 ((fun _ => 0)) (by decide) fw9_1) q_55 q_56 q_8 q_57 rfl rfl (by decide +kernel) ⟨Nat.le_of_ble_eq_true rfl, Nat.le_of_ble_eq_true rfl⟩ rfl hl.1 hm rfl (Nat.le_of_ble_eq_true rfl) dJ_init_78 ⟨Nat.le_of_ble_eq_true rfl, Nat.le_of_ble_eq_true rfl⟩) hm (fun u10 H locs hp10 hm => ?_)
      rw [hp10] at hm
      obtain ⟨w10, hhw10⟩ : ∃ z : Wd, z = wset w9 (q8) (.inl (cI, 50, .inl (fun _ => -2))) := ⟨_, rfl⟩
      have hm : mS B D CLS s.heap w10 H locs := by rw [hhw10]; exact hm
      have hw10 : w10 = wset (wset (w) (a) (.inr (0, [.int (nb), .int (s0), .int (0), .int (0), va_rf (none), .int (t0), va_rf (er), .ref (q8), .int (0), .int (0), .int (0), .int (0)]))) (q8) (.inl (cI, 50, .inl (fun _ => -2))) := by rw [hhw10, hw9]; funext z; by_cases hz : z = q8 <;> simp [wset, hz]
      have fw10 : w10 (q8) = some (.inl (cI, 50, .inl (fun _ => -2))) := by rw [hhw10]; exact wset_at _ _ _
      have fw10_1 := (show w10 (a) = w9 (a) by rw [hhw10]; exact wset_ne nq8_0).trans fw9
      refine lv_aload_n hx hb dJ_init_81 rfl (lv_at hl 0 rfl) ?_
      refine lv_iconst (v := (-1)) hx hb dJ_init_82 (by decide) ?_
      refine p_J_J_45 (x := (-1)) hx hb hE hm fw10_1 (by simp) dJ_init_83 (fun H locs hm => ?_)
      obtain ⟨w11, hhw11⟩ : ∃ z : Wd, z = wset w10 (a) (.inr (0, [.int (nb), .int (s0), .int (0), .int (0), va_rf (none), .int (t0), va_rf (er), .ref (q8), .int ((-1)), .int (0), .int (0), .int (0)])) := ⟨_, rfl⟩
      have hm : mS B D CLS s.heap w11 H locs := by rw [hhw11]; exact hm
      have hw11 : w11 = wset (wset (w) (q8) (.inl (cI, 50, .inl (fun _ => -2)))) (a) (.inr (0, [.int (nb), .int (s0), .int (0), .int (0), va_rf (none), .int (t0), va_rf (er), .ref (q8), .int ((-1)), .int (0), .int (0), .int (0)])) := by rw [hhw11, hw10]; funext z; by_cases hz : z = a <;> simp [wset, hz]
      have fw11 : w11 (a) = some (.inr (0, [.int (nb), .int (s0), .int (0), .int (0), va_rf (none), .int (t0), va_rf (er), .ref (q8), .int ((-1)), .int (0), .int (0), .int (0)])) := by rw [hhw11]; exact wset_at _ _ _
      have fw11_1 := (show w11 (q8) = w10 (q8) by rw [hhw11]; exact wset_ne (Ne.symm nq8_0)).trans fw10
      refine lv_aload_n hx hb dJ_init_86 rfl (lv_at hl 0 rfl) ?_
      refine lv_iconst (v := 0) hx hb dJ_init_87 (by decide) ?_
      refine p_J_J_48 (x := 0) hx hb hE hm fw11 (by simp) dJ_init_88 (fun H locs hm => ?_)
      obtain ⟨w12, hhw12⟩ : ∃ z : Wd, z = wset w11 (a) (.inr (0, [.int (nb), .int (s0), .int (0), .int (0), va_rf (none), .int (t0), va_rf (er), .ref (q8), .int ((-1)), .int (0), .int (0), .int (0)])) := ⟨_, rfl⟩
      have hm : mS B D CLS s.heap w12 H locs := by rw [hhw12]; exact hm
      have hw12 : w12 = wset (wset (w) (q8) (.inl (cI, 50, .inl (fun _ => -2)))) (a) (.inr (0, [.int (nb), .int (s0), .int (0), .int (0), va_rf (none), .int (t0), va_rf (er), .ref (q8), .int ((-1)), .int (0), .int (0), .int (0)])) := by rw [hhw12, hw11]; funext z; by_cases hz : z = a <;> simp [wset, hz]
      have fw12 : w12 (a) = some (.inr (0, [.int (nb), .int (s0), .int (0), .int (0), va_rf (none), .int (t0), va_rf (er), .ref (q8), .int ((-1)), .int (0), .int (0), .int (0)])) := by rw [hhw12]; exact wset_at _ _ _
      have fw12_1 := (show w12 (q8) = w11 (q8) by rw [hhw12]; exact wset_ne (Ne.symm nq8_0)).trans fw11_1
      refine lv_aload_n hx hb dJ_init_91 rfl (lv_at hl 0 rfl) ?_
      refine lv_iconst (v := 0) hx hb dJ_init_92 (by decide) ?_
      refine p_J_J_51 (x := 0) hx hb hE hm fw12 (by simp) (by decide) dJ_init_93 (fun H locs hm => ?_)
      obtain ⟨w13, hhw13⟩ : ∃ z : Wd, z = wset w12 (a) (.inr (0, [.int (nb), .int (s0), .int (0), .int (0), va_rf (none), .int (t0), va_rf (er), .ref (q8), .int ((-1)), .int (0), .int (0), .int (0)])) := ⟨_, rfl⟩
      have hm : mS B D CLS s.heap w13 H locs := by rw [hhw13]; exact hm
      have hw13 : w13 = wset (wset (w) (q8) (.inl (cI, 50, .inl (fun _ => -2)))) (a) (.inr (0, [.int (nb), .int (s0), .int (0), .int (0), va_rf (none), .int (t0), va_rf (er), .ref (q8), .int ((-1)), .int (0), .int (0), .int (0)])) := by rw [hhw13, hw12]; funext z; by_cases hz : z = a <;> simp [wset, hz]
      have fw13 : w13 (a) = some (.inr (0, [.int (nb), .int (s0), .int (0), .int (0), va_rf (none), .int (t0), va_rf (er), .ref (q8), .int ((-1)), .int (0), .int (0), .int (0)])) := by rw [hhw13]; exact wset_at _ _ _
      have fw13_1 := (show w13 (q8) = w12 (q8) by rw [hhw13]; exact wset_ne (Ne.symm nq8_0)).trans fw12_1
      refine lv_aload_n hx hb dJ_init_96 rfl (lv_at hl 0 rfl) ?_
      refine lv_iconst (v := 0) hx hb dJ_init_97 (by decide) ?_
      refine p_J_J_54 (x := 0) hx hb hE hm fw13 (by simp) dJ_init_98 (fun H locs hm => ?_)
      obtain ⟨w14, hhw14⟩ : ∃ z : Wd, z = wset w13 (a) (.inr (0, [.int (nb), .int (s0), .int (0), .int (0), va_rf (none), .int (t0), va_rf (er), .ref (q8), .int ((-1)), .int (0), .int (0), .int (0)])) := ⟨_, rfl⟩
      have hm : mS B D CLS s.heap w14 H locs := by rw [hhw14]; exact hm
      have hw14 : w14 = wset (wset (w) (q8) (.inl (cI, 50, .inl (fun _ => -2)))) (a) (.inr (0, [.int (nb), .int (s0), .int (0), .int (0), va_rf (none), .int (t0), va_rf (er), .ref (q8), .int ((-1)), .int (0), .int (0), .int (0)])) := by rw [hhw14, hw13]; funext z; by_cases hz : z = a <;> simp [wset, hz]
      have fw14 : w14 (a) = some (.inr (0, [.int (nb), .int (s0), .int (0), .int (0), va_rf (none), .int (t0), va_rf (er), .ref (q8), .int ((-1)), .int (0), .int (0), .int (0)])) := by rw [hhw14]; exact wset_at _ _ _
      have fw14_1 := (show w14 (q8) = w13 (q8) by rw [hhw14]; exact wset_ne (Ne.symm nq8_0)).trans fw13_1
      exact mretv hx hb hr hlk hm ⟨q8, hfq8, by rw [hw14]; simp [bI, va_rf, c_35]⟩ dJ_init_101
    · refine lv_iconst (v := 1) hx hb dJ_init_38 (by decide) ?_
      refine lv_goto (tgt := 43) hx hb dJ_init_39 (by decide) ?_
      refine p_J_J_21 (x := 1) hx hb hE hm fw3 hnm (by simp) (by decide) dJ_init_43 (fun H locs hm => ?_)
      obtain ⟨w15, hhw15⟩ : ∃ z : Wd, z = wset w3 (a) (.inr (0, [.int (nb), .int (s0), .int (0), .int (1), va_rf (none), .int (0), va_rf (none), va_rf (none), .int (0), .int (0), .int (0), .int (0)])) := ⟨_, rfl⟩
      have hm : mS B D CLS s.heap w15 H locs := by rw [hhw15]; exact hm
      have hw15 : w15 = wset (w) (a) (.inr (0, [.int (nb), .int (s0), .int (0), .int (1), va_rf (none), .int (0), va_rf (none), va_rf (none), .int (0), .int (0), .int (0), .int (0)])) := by rw [hhw15, hw3]; funext z; by_cases hz : z = a <;> simp [wset, hz]
      have fw15 : w15 (a) = some (.inr (0, [.int (nb), .int (s0), .int (0), .int (1), va_rf (none), .int (0), va_rf (none), va_rf (none), .int (0), .int (0), .int (0), .int (0)])) := by rw [hhw15]; exact wset_at _ _ _
      refine lv_aload_n hx hb dJ_init_46 rfl (lv_at hl 0 rfl) ?_
      refine lv_aloadN hx hb dJ_init_47 (lv_at hl 4 rfl) ?_
      refine p_J_J_25 (r := none) hx hb hE hm fw15 hnm (by simp) dJ_init_49 (fun H locs hm => ?_)
      obtain ⟨w16, hhw16⟩ : ∃ z : Wd, z = wset w15 (a) (.inr (0, [.int (nb), .int (s0), .int (0), .int (1), va_rf (none), .int (0), va_rf (none), va_rf (none), .int (0), .int (0), .int (0), .int (0)])) := ⟨_, rfl⟩
      have hm : mS B D CLS s.heap w16 H locs := by rw [hhw16]; exact hm
      have hw16 : w16 = wset (w) (a) (.inr (0, [.int (nb), .int (s0), .int (0), .int (1), va_rf (none), .int (0), va_rf (none), va_rf (none), .int (0), .int (0), .int (0), .int (0)])) := by rw [hhw16, hw15]; funext z; by_cases hz : z = a <;> simp [wset, hz]
      have fw16 : w16 (a) = some (.inr (0, [.int (nb), .int (s0), .int (0), .int (1), va_rf (none), .int (0), va_rf (none), va_rf (none), .int (0), .int (0), .int (0), .int (0)])) := by rw [hhw16]; exact wset_at _ _ _
      refine lv_aload_n hx hb dJ_init_52 rfl (lv_at hl 0 rfl) ?_
      refine lv_iload hx hb dJ_init_53 (lv_at hl 5 rfl) ?_
      refine p_J_J_29 (x := t0) hx hb hE hm fw16 hnm (by simp) dJ_init_55 (fun H locs hm => ?_)
      obtain ⟨w17, hhw17⟩ : ∃ z : Wd, z = wset w16 (a) (.inr (0, [.int (nb), .int (s0), .int (0), .int (1), va_rf (none), .int (t0), va_rf (none), va_rf (none), .int (0), .int (0), .int (0), .int (0)])) := ⟨_, rfl⟩
      have hm : mS B D CLS s.heap w17 H locs := by rw [hhw17]; exact hm
      have hw17 : w17 = wset (w) (a) (.inr (0, [.int (nb), .int (s0), .int (0), .int (1), va_rf (none), .int (t0), va_rf (none), va_rf (none), .int (0), .int (0), .int (0), .int (0)])) := by rw [hhw17, hw16]; funext z; by_cases hz : z = a <;> simp [wset, hz]
      have fw17 : w17 (a) = some (.inr (0, [.int (nb), .int (s0), .int (0), .int (1), va_rf (none), .int (t0), va_rf (none), va_rf (none), .int (0), .int (0), .int (0), .int (0)])) := by rw [hhw17]; exact wset_at _ _ _
      refine lv_aload_n hx hb dJ_init_58 rfl (lv_at hl 0 rfl) ?_
      refine mloadR2 hx hb dJ_init_59 (lv_at hl 6 rfl) ?_
      refine p_J_J_32 (r := er) hx hb hE hm fw17 hnm (by simp) dJ_init_61 (fun H locs hm => ?_)
      obtain ⟨w18, hhw18⟩ : ∃ z : Wd, z = wset w17 (a) (.inr (0, [.int (nb), .int (s0), .int (0), .int (1), va_rf (none), .int (t0), va_rf (er), va_rf (none), .int (0), .int (0), .int (0), .int (0)])) := ⟨_, rfl⟩
      have hm : mS B D CLS s.heap w18 H locs := by rw [hhw18]; exact hm
      have hw18 : w18 = wset (w) (a) (.inr (0, [.int (nb), .int (s0), .int (0), .int (1), va_rf (none), .int (t0), va_rf (er), va_rf (none), .int (0), .int (0), .int (0), .int (0)])) := by rw [hhw18, hw17]; funext z; by_cases hz : z = a <;> simp [wset, hz]
      have fw18 : w18 (a) = some (.inr (0, [.int (nb), .int (s0), .int (0), .int (1), va_rf (none), .int (t0), va_rf (er), va_rf (none), .int (0), .int (0), .int (0), .int (0)])) := by rw [hhw18]; exact wset_at _ _ _
      refine lv_aload_n hx hb dJ_init_64 rfl (lv_at hl 0 rfl) ?_
      refine lv_bipush (v := 50) hx hb dJ_init_65 (by decide) ?_
      refine mnewa (atype := .int) (cI := cI) (ty := .int) (N' := 50) (a0 := (50, .inl (fun _ => 0))) hx hb (hE.2.1 _ (List.mem_cons_of_mem _ q_107)) rfl hE.2.2.1 hm 0 rfl (fun C h => by cases h) (fun _ => rfl) (by decide) (by decide) (by decide) (Nat.le_of_ble_eq_true rfl) (Nat.le_of_ble_eq_true rfl) dJ_init_67 (fun q19 H hq19 hm => ?_)
      have hfq19 : w q19 = none := by have h := hq19; rw [hw18] at h; exact (wset_none h).1
      have nq19_0 : a ≠ q19 := fun e => by have h := fw18; rw [e, hq19] at h; cases h
      obtain ⟨w19, hhw19⟩ : ∃ z : Wd, z = wset w18 (q19) (.inl (cI, 50, .inl (fun _ => 0))) := ⟨_, rfl⟩
      have hm : mS B D CLS s.heap w19 H locs := by rw [hhw19]; exact hm
      have hw19 : w19 = wset (wset (w) (a) (.inr (0, [.int (nb), .int (s0), .int (0), .int (1), va_rf (none), .int (t0), va_rf (er), va_rf (none), .int (0), .int (0), .int (0), .int (0)]))) (q19) (.inl (cI, 50, .inl (fun _ => 0))) := by rw [hhw19, hw18]
      have fw19 : w19 (q19) = some (.inl (cI, 50, .inl (fun _ => 0))) := by rw [hhw19]; exact wset_at _ _ _
      have fw19_1 := (show w19 (a) = w18 (a) by rw [hhw19]; exact wset_ne nq19_0).trans fw18
      refine p_J_J_35 (r := some (q19)) hx hb hE hm fw19_1 hnm (by simp) dJ_init_69 (fun H locs hm => ?_)
      obtain ⟨w20, hhw20⟩ : ∃ z : Wd, z = wset w19 (a) (.inr (0, [.int (nb), .int (s0), .int (0), .int (1), va_rf (none), .int (t0), va_rf (er), .ref (q19), .int (0), .int (0), .int (0), .int (0)])) := ⟨_, rfl⟩
      have hm : mS B D CLS s.heap w20 H locs := by rw [hhw20]; exact hm
      have hw20 : w20 = wset (wset (w) (q19) (.inl (cI, 50, .inl (fun _ => 0)))) (a) (.inr (0, [.int (nb), .int (s0), .int (0), .int (1), va_rf (none), .int (t0), va_rf (er), .ref (q19), .int (0), .int (0), .int (0), .int (0)])) := by rw [hhw20, hw19]; funext z; by_cases hz : z = a <;> simp [wset, hz]
      have fw20 : w20 (a) = some (.inr (0, [.int (nb), .int (s0), .int (0), .int (1), va_rf (none), .int (t0), va_rf (er), .ref (q19), .int (0), .int (0), .int (0), .int (0)])) := by rw [hhw20]; exact wset_at _ _ _
      have fw20_1 := (show w20 (q19) = w19 (q19) by rw [hhw20]; exact wset_ne (Ne.symm nq19_0)).trans fw19
      refine lv_aload_n hx hb dJ_init_72 rfl (lv_at hl 0 rfl) ?_
      refine g_J_J_35 (v := .ref (q19)) hx hb hE hm fw20 rfl dJ_init_73 ?_
      refine lv_bipush (v := (-2)) hx hb dJ_init_76 (by decide) ?_
      refine mcallv (mcS (n := 2) (As := [.ref (q19), .int ((-2))]) (rest := []) hx hb hml hE (kF_fill l B D cI cZ cL w20 (q19) (-2) 50 ((fun _ => 0)) (by decide) fw20_1) q_55 q_56 q_8 q_57 rfl rfl (by decide +kernel) ⟨Nat.le_of_ble_eq_true rfl, Nat.le_of_ble_eq_true rfl⟩ rfl hl.1 hm rfl (Nat.le_of_ble_eq_true rfl) dJ_init_78 ⟨Nat.le_of_ble_eq_true rfl, Nat.le_of_ble_eq_true rfl⟩) hm (fun u21 H locs hp21 hm => ?_)
      rw [hp21] at hm
      obtain ⟨w21, hhw21⟩ : ∃ z : Wd, z = wset w20 (q19) (.inl (cI, 50, .inl (fun _ => -2))) := ⟨_, rfl⟩
      have hm : mS B D CLS s.heap w21 H locs := by rw [hhw21]; exact hm
      have hw21 : w21 = wset (wset (w) (a) (.inr (0, [.int (nb), .int (s0), .int (0), .int (1), va_rf (none), .int (t0), va_rf (er), .ref (q19), .int (0), .int (0), .int (0), .int (0)]))) (q19) (.inl (cI, 50, .inl (fun _ => -2))) := by rw [hhw21, hw20]; funext z; by_cases hz : z = q19 <;> simp [wset, hz]
      have fw21 : w21 (q19) = some (.inl (cI, 50, .inl (fun _ => -2))) := by rw [hhw21]; exact wset_at _ _ _
      have fw21_1 := (show w21 (a) = w20 (a) by rw [hhw21]; exact wset_ne nq19_0).trans fw20
      refine lv_aload_n hx hb dJ_init_81 rfl (lv_at hl 0 rfl) ?_
      refine lv_iconst (v := (-1)) hx hb dJ_init_82 (by decide) ?_
      refine p_J_J_45 (x := (-1)) hx hb hE hm fw21_1 (by simp) dJ_init_83 (fun H locs hm => ?_)
      obtain ⟨w22, hhw22⟩ : ∃ z : Wd, z = wset w21 (a) (.inr (0, [.int (nb), .int (s0), .int (0), .int (1), va_rf (none), .int (t0), va_rf (er), .ref (q19), .int ((-1)), .int (0), .int (0), .int (0)])) := ⟨_, rfl⟩
      have hm : mS B D CLS s.heap w22 H locs := by rw [hhw22]; exact hm
      have hw22 : w22 = wset (wset (w) (q19) (.inl (cI, 50, .inl (fun _ => -2)))) (a) (.inr (0, [.int (nb), .int (s0), .int (0), .int (1), va_rf (none), .int (t0), va_rf (er), .ref (q19), .int ((-1)), .int (0), .int (0), .int (0)])) := by rw [hhw22, hw21]; funext z; by_cases hz : z = a <;> simp [wset, hz]
      have fw22 : w22 (a) = some (.inr (0, [.int (nb), .int (s0), .int (0), .int (1), va_rf (none), .int (t0), va_rf (er), .ref (q19), .int ((-1)), .int (0), .int (0), .int (0)])) := by rw [hhw22]; exact wset_at _ _ _
      have fw22_1 := (show w22 (q19) = w21 (q19) by rw [hhw22]; exact wset_ne (Ne.symm nq19_0)).trans fw21
      refine lv_aload_n hx hb dJ_init_86 rfl (lv_at hl 0 rfl) ?_
      refine lv_iconst (v := 0) hx hb dJ_init_87 (by decide) ?_
      refine p_J_J_48 (x := 0) hx hb hE hm fw22 (by simp) dJ_init_88 (fun H locs hm => ?_)
      obtain ⟨w23, hhw23⟩ : ∃ z : Wd, z = wset w22 (a) (.inr (0, [.int (nb), .int (s0), .int (0), .int (1), va_rf (none), .int (t0), va_rf (er), .ref (q19), .int ((-1)), .int (0), .int (0), .int (0)])) := ⟨_, rfl⟩
      have hm : mS B D CLS s.heap w23 H locs := by rw [hhw23]; exact hm
      have hw23 : w23 = wset (wset (w) (q19) (.inl (cI, 50, .inl (fun _ => -2)))) (a) (.inr (0, [.int (nb), .int (s0), .int (0), .int (1), va_rf (none), .int (t0), va_rf (er), .ref (q19), .int ((-1)), .int (0), .int (0), .int (0)])) := by rw [hhw23, hw22]; funext z; by_cases hz : z = a <;> simp [wset, hz]
      have fw23 : w23 (a) = some (.inr (0, [.int (nb), .int (s0), .int (0), .int (1), va_rf (none), .int (t0), va_rf (er), .ref (q19), .int ((-1)), .int (0), .int (0), .int (0)])) := by rw [hhw23]; exact wset_at _ _ _
      have fw23_1 := (show w23 (q19) = w22 (q19) by rw [hhw23]; exact wset_ne (Ne.symm nq19_0)).trans fw22_1
      refine lv_aload_n hx hb dJ_init_91 rfl (lv_at hl 0 rfl) ?_
      refine lv_iconst (v := 0) hx hb dJ_init_92 (by decide) ?_
      refine p_J_J_51 (x := 0) hx hb hE hm fw23 (by simp) (by decide) dJ_init_93 (fun H locs hm => ?_)
      obtain ⟨w24, hhw24⟩ : ∃ z : Wd, z = wset w23 (a) (.inr (0, [.int (nb), .int (s0), .int (0), .int (1), va_rf (none), .int (t0), va_rf (er), .ref (q19), .int ((-1)), .int (0), .int (0), .int (0)])) := ⟨_, rfl⟩
      have hm : mS B D CLS s.heap w24 H locs := by rw [hhw24]; exact hm
      have hw24 : w24 = wset (wset (w) (q19) (.inl (cI, 50, .inl (fun _ => -2)))) (a) (.inr (0, [.int (nb), .int (s0), .int (0), .int (1), va_rf (none), .int (t0), va_rf (er), .ref (q19), .int ((-1)), .int (0), .int (0), .int (0)])) := by rw [hhw24, hw23]; funext z; by_cases hz : z = a <;> simp [wset, hz]
      have fw24 : w24 (a) = some (.inr (0, [.int (nb), .int (s0), .int (0), .int (1), va_rf (none), .int (t0), va_rf (er), .ref (q19), .int ((-1)), .int (0), .int (0), .int (0)])) := by rw [hhw24]; exact wset_at _ _ _
      have fw24_1 := (show w24 (q19) = w23 (q19) by rw [hhw24]; exact wset_ne (Ne.symm nq19_0)).trans fw23_1
      refine lv_aload_n hx hb dJ_init_96 rfl (lv_at hl 0 rfl) ?_
      refine lv_iconst (v := 0) hx hb dJ_init_97 (by decide) ?_
      refine p_J_J_54 (x := 0) hx hb hE hm fw24 (by simp) dJ_init_98 (fun H locs hm => ?_)
      obtain ⟨w25, hhw25⟩ : ∃ z : Wd, z = wset w24 (a) (.inr (0, [.int (nb), .int (s0), .int (0), .int (1), va_rf (none), .int (t0), va_rf (er), .ref (q19), .int ((-1)), .int (0), .int (0), .int (0)])) := ⟨_, rfl⟩
      have hm : mS B D CLS s.heap w25 H locs := by rw [hhw25]; exact hm
      have hw25 : w25 = wset (wset (w) (q19) (.inl (cI, 50, .inl (fun _ => -2)))) (a) (.inr (0, [.int (nb), .int (s0), .int (0), .int (1), va_rf (none), .int (t0), va_rf (er), .ref (q19), .int ((-1)), .int (0), .int (0), .int (0)])) := by rw [hhw25, hw24]; funext z; by_cases hz : z = a <;> simp [wset, hz]
      have fw25 : w25 (a) = some (.inr (0, [.int (nb), .int (s0), .int (0), .int (1), va_rf (none), .int (t0), va_rf (er), .ref (q19), .int ((-1)), .int (0), .int (0), .int (0)])) := by rw [hhw25]; exact wset_at _ _ _
      have fw25_1 := (show w25 (q19) = w24 (q19) by rw [hhw25]; exact wset_ne (Ne.symm nq19_0)).trans fw24_1
      exact mretv hx hb hr hlk hm ⟨q19, hfq19, by rw [hw25]; simp [bI, va_rf, c_35]⟩ dJ_init_101
  | some b1 =>
    refine mMet (by decide) rfl (by simp [lg_sl, rf_cat, int_cat, ref_cat]) ?_
    intro p e s m below meth c ls hx hb hml hr hlk hnm hown hts hK hN hm hl
    have hE : ME "ChainPicker$Job" (.code yJ_init cJ_init 7 none) _ s m D (TYS cI cZ cL) := ⟨hown, hts, hK, hN⟩
    have hl : lv_has ls 7 [(0, .ref (a)), (1, .int (nb)), (2, .int (s0)), (3, .int (l0)), (4, va_rf (some b1)), (5, .int (t0)), (6, va_rf (er))] := by simpa [lv_args, rf_cat, int_cat, ref_cat] using hl
    have hl : lv_has ls 7 [(0, .ref (a)), (1, .int (nb)), (2, .int (s0)), (3, .int (l0)), (4, .ref (b1)), (5, .int (t0)), (6, va_rf (er))] := hl
    refine lv_aload_n hx hb dJ_init_0 rfl (lv_at hl 0 rfl) ?_
    refine W.objInit hx hb hE.1 (hE.2.1 _ (List.mem_cons_of_mem _ q_54)) (hE.2.1 _ (List.mem_cons_of_mem _ q_16)) (hE.2.1 _ (List.mem_cons_of_mem _ q_17)) rfl (by rw [hml]; exact hl.1) rfl dJ_init_1 (Nat.le_of_ble_eq_true rfl) (Nat.le_of_ble_eq_true rfl) ?_
    refine W.eq (g2 := F0 m 4 ls []) rfl ?_
    refine lv_aload_n hx hb dJ_init_4 rfl (lv_at hl 0 rfl) ?_
    refine lv_iload_n hx hb dJ_init_5 rfl (lv_at hl 1 rfl) ?_
    refine p_J_J_9 (x := nb) hx hb hE hm ha hnm (by simp) dJ_init_6 (fun H locs hm => ?_)
    obtain ⟨w1, hhw1⟩ : ∃ z : Wd, z = wset w (a) (.inr (0, [.int (nb), .int (0), .int (0), .int (0), va_rf (none), .int (0), va_rf (none), va_rf (none), .int (0), .int (0), .int (0), .int (0)])) := ⟨_, rfl⟩
    have hm : mS B D CLS s.heap w1 H locs := by rw [hhw1]; exact hm
    have hw1 : w1 = wset (w) (a) (.inr (0, [.int (nb), .int (0), .int (0), .int (0), va_rf (none), .int (0), va_rf (none), va_rf (none), .int (0), .int (0), .int (0), .int (0)])) := by rw [hhw1]
    have fw1 : w1 (a) = some (.inr (0, [.int (nb), .int (0), .int (0), .int (0), va_rf (none), .int (0), va_rf (none), va_rf (none), .int (0), .int (0), .int (0), .int (0)])) := by rw [hhw1]; exact wset_at _ _ _
    refine lv_aload_n hx hb dJ_init_9 rfl (lv_at hl 0 rfl) ?_
    refine lv_iload_n hx hb dJ_init_10 rfl (lv_at hl 2 rfl) ?_
    refine p_J_J_15 (x := s0) hx hb hE hm fw1 hnm (by simp) dJ_init_11 (fun H locs hm => ?_)
    obtain ⟨w2, hhw2⟩ : ∃ z : Wd, z = wset w1 (a) (.inr (0, [.int (nb), .int (s0), .int (0), .int (0), va_rf (none), .int (0), va_rf (none), va_rf (none), .int (0), .int (0), .int (0), .int (0)])) := ⟨_, rfl⟩
    have hm : mS B D CLS s.heap w2 H locs := by rw [hhw2]; exact hm
    have hw2 : w2 = wset (w) (a) (.inr (0, [.int (nb), .int (s0), .int (0), .int (0), va_rf (none), .int (0), va_rf (none), va_rf (none), .int (0), .int (0), .int (0), .int (0)])) := by rw [hhw2, hw1]; funext z; by_cases hz : z = a <;> simp [wset, hz]
    have fw2 : w2 (a) = some (.inr (0, [.int (nb), .int (s0), .int (0), .int (0), va_rf (none), .int (0), va_rf (none), va_rf (none), .int (0), .int (0), .int (0), .int (0)])) := by rw [hhw2]; exact wset_at _ _ _
    refine lv_aload_n hx hb dJ_init_14 rfl (lv_at hl 0 rfl) ?_
    refine lv_aload hx hb dJ_init_15 (lv_at hl 4 rfl) ?_
    refine lv_ifnonnull (tgt := 24) hx hb dJ_init_17 (by decide) ?_
    refine lv_iload_n hx hb dJ_init_24 rfl (lv_at hl 3 rfl) ?_
    refine p_J_J_18 (x := l0) hx hb hE hm fw2 hnm (by simp) dJ_init_25 (fun H locs hm => ?_)
    obtain ⟨w3, hhw3⟩ : ∃ z : Wd, z = wset w2 (a) (.inr (0, [.int (nb), .int (s0), .int (l0), .int (0), va_rf (none), .int (0), va_rf (none), va_rf (none), .int (0), .int (0), .int (0), .int (0)])) := ⟨_, rfl⟩
    have hm : mS B D CLS s.heap w3 H locs := by rw [hhw3]; exact hm
    have hw3 : w3 = wset (w) (a) (.inr (0, [.int (nb), .int (s0), .int (l0), .int (0), va_rf (none), .int (0), va_rf (none), va_rf (none), .int (0), .int (0), .int (0), .int (0)])) := by rw [hhw3, hw2]; funext z; by_cases hz : z = a <;> simp [wset, hz]
    have fw3 : w3 (a) = some (.inr (0, [.int (nb), .int (s0), .int (l0), .int (0), va_rf (none), .int (0), va_rf (none), va_rf (none), .int (0), .int (0), .int (0), .int (0)])) := by rw [hhw3]; exact wset_at _ _ _
    refine lv_aload_n hx hb dJ_init_28 rfl (lv_at hl 0 rfl) ?_
    refine lv_aload hx hb dJ_init_29 (lv_at hl 4 rfl) ?_
    refine lv_ifnonnull (tgt := 42) hx hb dJ_init_31 (by decide) ?_
    refine lv_iconst (v := 0) hx hb dJ_init_42 (by decide) ?_
    refine p_J_J_21 (x := 0) hx hb hE hm fw3 hnm (by simp) (by decide) dJ_init_43 (fun H locs hm => ?_)
    obtain ⟨w4, hhw4⟩ : ∃ z : Wd, z = wset w3 (a) (.inr (0, [.int (nb), .int (s0), .int (l0), .int (0), va_rf (none), .int (0), va_rf (none), va_rf (none), .int (0), .int (0), .int (0), .int (0)])) := ⟨_, rfl⟩
    have hm : mS B D CLS s.heap w4 H locs := by rw [hhw4]; exact hm
    have hw4 : w4 = wset (w) (a) (.inr (0, [.int (nb), .int (s0), .int (l0), .int (0), va_rf (none), .int (0), va_rf (none), va_rf (none), .int (0), .int (0), .int (0), .int (0)])) := by rw [hhw4, hw3]; funext z; by_cases hz : z = a <;> simp [wset, hz]
    have fw4 : w4 (a) = some (.inr (0, [.int (nb), .int (s0), .int (l0), .int (0), va_rf (none), .int (0), va_rf (none), va_rf (none), .int (0), .int (0), .int (0), .int (0)])) := by rw [hhw4]; exact wset_at _ _ _
    refine lv_aload_n hx hb dJ_init_46 rfl (lv_at hl 0 rfl) ?_
    refine lv_aload hx hb dJ_init_47 (lv_at hl 4 rfl) ?_
    refine p_J_J_25 (r := some (b1)) hx hb hE hm fw4 hnm (by simp) dJ_init_49 (fun H locs hm => ?_)
    obtain ⟨w5, hhw5⟩ : ∃ z : Wd, z = wset w4 (a) (.inr (0, [.int (nb), .int (s0), .int (l0), .int (0), .ref (b1), .int (0), va_rf (none), va_rf (none), .int (0), .int (0), .int (0), .int (0)])) := ⟨_, rfl⟩
    have hm : mS B D CLS s.heap w5 H locs := by rw [hhw5]; exact hm
    have hw5 : w5 = wset (w) (a) (.inr (0, [.int (nb), .int (s0), .int (l0), .int (0), .ref (b1), .int (0), va_rf (none), va_rf (none), .int (0), .int (0), .int (0), .int (0)])) := by rw [hhw5, hw4]; funext z; by_cases hz : z = a <;> simp [wset, hz]
    have fw5 : w5 (a) = some (.inr (0, [.int (nb), .int (s0), .int (l0), .int (0), .ref (b1), .int (0), va_rf (none), va_rf (none), .int (0), .int (0), .int (0), .int (0)])) := by rw [hhw5]; exact wset_at _ _ _
    refine lv_aload_n hx hb dJ_init_52 rfl (lv_at hl 0 rfl) ?_
    refine lv_iload hx hb dJ_init_53 (lv_at hl 5 rfl) ?_
    refine p_J_J_29 (x := t0) hx hb hE hm fw5 hnm (by simp) dJ_init_55 (fun H locs hm => ?_)
    obtain ⟨w6, hhw6⟩ : ∃ z : Wd, z = wset w5 (a) (.inr (0, [.int (nb), .int (s0), .int (l0), .int (0), .ref (b1), .int (t0), va_rf (none), va_rf (none), .int (0), .int (0), .int (0), .int (0)])) := ⟨_, rfl⟩
    have hm : mS B D CLS s.heap w6 H locs := by rw [hhw6]; exact hm
    have hw6 : w6 = wset (w) (a) (.inr (0, [.int (nb), .int (s0), .int (l0), .int (0), .ref (b1), .int (t0), va_rf (none), va_rf (none), .int (0), .int (0), .int (0), .int (0)])) := by rw [hhw6, hw5]; funext z; by_cases hz : z = a <;> simp [wset, hz]
    have fw6 : w6 (a) = some (.inr (0, [.int (nb), .int (s0), .int (l0), .int (0), .ref (b1), .int (t0), va_rf (none), va_rf (none), .int (0), .int (0), .int (0), .int (0)])) := by rw [hhw6]; exact wset_at _ _ _
    refine lv_aload_n hx hb dJ_init_58 rfl (lv_at hl 0 rfl) ?_
    refine mloadR2 hx hb dJ_init_59 (lv_at hl 6 rfl) ?_
    refine p_J_J_32 (r := er) hx hb hE hm fw6 hnm (by simp) dJ_init_61 (fun H locs hm => ?_)
    obtain ⟨w7, hhw7⟩ : ∃ z : Wd, z = wset w6 (a) (.inr (0, [.int (nb), .int (s0), .int (l0), .int (0), .ref (b1), .int (t0), va_rf (er), va_rf (none), .int (0), .int (0), .int (0), .int (0)])) := ⟨_, rfl⟩
    have hm : mS B D CLS s.heap w7 H locs := by rw [hhw7]; exact hm
    have hw7 : w7 = wset (w) (a) (.inr (0, [.int (nb), .int (s0), .int (l0), .int (0), .ref (b1), .int (t0), va_rf (er), va_rf (none), .int (0), .int (0), .int (0), .int (0)])) := by rw [hhw7, hw6]; funext z; by_cases hz : z = a <;> simp [wset, hz]
    have fw7 : w7 (a) = some (.inr (0, [.int (nb), .int (s0), .int (l0), .int (0), .ref (b1), .int (t0), va_rf (er), va_rf (none), .int (0), .int (0), .int (0), .int (0)])) := by rw [hhw7]; exact wset_at _ _ _
    refine lv_aload_n hx hb dJ_init_64 rfl (lv_at hl 0 rfl) ?_
    refine lv_bipush (v := 50) hx hb dJ_init_65 (by decide) ?_
    refine mnewa (atype := .int) (cI := cI) (ty := .int) (N' := 50) (a0 := (50, .inl (fun _ => 0))) hx hb (hE.2.1 _ (List.mem_cons_of_mem _ q_107)) rfl hE.2.2.1 hm 0 rfl (fun C h => by cases h) (fun _ => rfl) (by decide) (by decide) (by decide) (Nat.le_of_ble_eq_true rfl) (Nat.le_of_ble_eq_true rfl) dJ_init_67 (fun q8 H hq8 hm => ?_)
    have hfq8 : w q8 = none := by have h := hq8; rw [hw7] at h; exact (wset_none h).1
    have nq8_0 : a ≠ q8 := fun e => by have h := fw7; rw [e, hq8] at h; cases h
    obtain ⟨w8, hhw8⟩ : ∃ z : Wd, z = wset w7 (q8) (.inl (cI, 50, .inl (fun _ => 0))) := ⟨_, rfl⟩
    have hm : mS B D CLS s.heap w8 H locs := by rw [hhw8]; exact hm
    have hw8 : w8 = wset (wset (w) (a) (.inr (0, [.int (nb), .int (s0), .int (l0), .int (0), .ref (b1), .int (t0), va_rf (er), va_rf (none), .int (0), .int (0), .int (0), .int (0)]))) (q8) (.inl (cI, 50, .inl (fun _ => 0))) := by rw [hhw8, hw7]
    have fw8 : w8 (q8) = some (.inl (cI, 50, .inl (fun _ => 0))) := by rw [hhw8]; exact wset_at _ _ _
    have fw8_1 := (show w8 (a) = w7 (a) by rw [hhw8]; exact wset_ne nq8_0).trans fw7
    refine p_J_J_35 (r := some (q8)) hx hb hE hm fw8_1 hnm (by simp) dJ_init_69 (fun H locs hm => ?_)
    obtain ⟨w9, hhw9⟩ : ∃ z : Wd, z = wset w8 (a) (.inr (0, [.int (nb), .int (s0), .int (l0), .int (0), .ref (b1), .int (t0), va_rf (er), .ref (q8), .int (0), .int (0), .int (0), .int (0)])) := ⟨_, rfl⟩
    have hm : mS B D CLS s.heap w9 H locs := by rw [hhw9]; exact hm
    have hw9 : w9 = wset (wset (w) (q8) (.inl (cI, 50, .inl (fun _ => 0)))) (a) (.inr (0, [.int (nb), .int (s0), .int (l0), .int (0), .ref (b1), .int (t0), va_rf (er), .ref (q8), .int (0), .int (0), .int (0), .int (0)])) := by rw [hhw9, hw8]; funext z; by_cases hz : z = a <;> simp [wset, hz]
    have fw9 : w9 (a) = some (.inr (0, [.int (nb), .int (s0), .int (l0), .int (0), .ref (b1), .int (t0), va_rf (er), .ref (q8), .int (0), .int (0), .int (0), .int (0)])) := by rw [hhw9]; exact wset_at _ _ _
    have fw9_1 := (show w9 (q8) = w8 (q8) by rw [hhw9]; exact wset_ne (Ne.symm nq8_0)).trans fw8
    refine lv_aload_n hx hb dJ_init_72 rfl (lv_at hl 0 rfl) ?_
    refine g_J_J_35 (v := .ref (q8)) hx hb hE hm fw9 rfl dJ_init_73 ?_
    refine lv_bipush (v := (-2)) hx hb dJ_init_76 (by decide) ?_
    refine mcallv (mcS (n := 2) (As := [.ref (q8), .int ((-2))]) (rest := []) hx hb hml hE (kF_fill l B D cI cZ cL w9 (q8) (-2) 50 ((fun _ => 0)) (by decide) fw9_1) q_55 q_56 q_8 q_57 rfl rfl (by decide +kernel) ⟨Nat.le_of_ble_eq_true rfl, Nat.le_of_ble_eq_true rfl⟩ rfl hl.1 hm rfl (Nat.le_of_ble_eq_true rfl) dJ_init_78 ⟨Nat.le_of_ble_eq_true rfl, Nat.le_of_ble_eq_true rfl⟩) hm (fun u10 H locs hp10 hm => ?_)
    rw [hp10] at hm
    obtain ⟨w10, hhw10⟩ : ∃ z : Wd, z = wset w9 (q8) (.inl (cI, 50, .inl (fun _ => -2))) := ⟨_, rfl⟩
    have hm : mS B D CLS s.heap w10 H locs := by rw [hhw10]; exact hm
    have hw10 : w10 = wset (wset (w) (a) (.inr (0, [.int (nb), .int (s0), .int (l0), .int (0), .ref (b1), .int (t0), va_rf (er), .ref (q8), .int (0), .int (0), .int (0), .int (0)]))) (q8) (.inl (cI, 50, .inl (fun _ => -2))) := by rw [hhw10, hw9]; funext z; by_cases hz : z = q8 <;> simp [wset, hz]
    have fw10 : w10 (q8) = some (.inl (cI, 50, .inl (fun _ => -2))) := by rw [hhw10]; exact wset_at _ _ _
    have fw10_1 := (show w10 (a) = w9 (a) by rw [hhw10]; exact wset_ne nq8_0).trans fw9
    refine lv_aload_n hx hb dJ_init_81 rfl (lv_at hl 0 rfl) ?_
    refine lv_iconst (v := (-1)) hx hb dJ_init_82 (by decide) ?_
    refine p_J_J_45 (x := (-1)) hx hb hE hm fw10_1 (by simp) dJ_init_83 (fun H locs hm => ?_)
    obtain ⟨w11, hhw11⟩ : ∃ z : Wd, z = wset w10 (a) (.inr (0, [.int (nb), .int (s0), .int (l0), .int (0), .ref (b1), .int (t0), va_rf (er), .ref (q8), .int ((-1)), .int (0), .int (0), .int (0)])) := ⟨_, rfl⟩
    have hm : mS B D CLS s.heap w11 H locs := by rw [hhw11]; exact hm
    have hw11 : w11 = wset (wset (w) (q8) (.inl (cI, 50, .inl (fun _ => -2)))) (a) (.inr (0, [.int (nb), .int (s0), .int (l0), .int (0), .ref (b1), .int (t0), va_rf (er), .ref (q8), .int ((-1)), .int (0), .int (0), .int (0)])) := by rw [hhw11, hw10]; funext z; by_cases hz : z = a <;> simp [wset, hz]
    have fw11 : w11 (a) = some (.inr (0, [.int (nb), .int (s0), .int (l0), .int (0), .ref (b1), .int (t0), va_rf (er), .ref (q8), .int ((-1)), .int (0), .int (0), .int (0)])) := by rw [hhw11]; exact wset_at _ _ _
    have fw11_1 := (show w11 (q8) = w10 (q8) by rw [hhw11]; exact wset_ne (Ne.symm nq8_0)).trans fw10
    refine lv_aload_n hx hb dJ_init_86 rfl (lv_at hl 0 rfl) ?_
    refine lv_iconst (v := 0) hx hb dJ_init_87 (by decide) ?_
    refine p_J_J_48 (x := 0) hx hb hE hm fw11 (by simp) dJ_init_88 (fun H locs hm => ?_)
    obtain ⟨w12, hhw12⟩ : ∃ z : Wd, z = wset w11 (a) (.inr (0, [.int (nb), .int (s0), .int (l0), .int (0), .ref (b1), .int (t0), va_rf (er), .ref (q8), .int ((-1)), .int (0), .int (0), .int (0)])) := ⟨_, rfl⟩
    have hm : mS B D CLS s.heap w12 H locs := by rw [hhw12]; exact hm
    have hw12 : w12 = wset (wset (w) (q8) (.inl (cI, 50, .inl (fun _ => -2)))) (a) (.inr (0, [.int (nb), .int (s0), .int (l0), .int (0), .ref (b1), .int (t0), va_rf (er), .ref (q8), .int ((-1)), .int (0), .int (0), .int (0)])) := by rw [hhw12, hw11]; funext z; by_cases hz : z = a <;> simp [wset, hz]
    have fw12 : w12 (a) = some (.inr (0, [.int (nb), .int (s0), .int (l0), .int (0), .ref (b1), .int (t0), va_rf (er), .ref (q8), .int ((-1)), .int (0), .int (0), .int (0)])) := by rw [hhw12]; exact wset_at _ _ _
    have fw12_1 := (show w12 (q8) = w11 (q8) by rw [hhw12]; exact wset_ne (Ne.symm nq8_0)).trans fw11_1
    refine lv_aload_n hx hb dJ_init_91 rfl (lv_at hl 0 rfl) ?_
    refine lv_iconst (v := 0) hx hb dJ_init_92 (by decide) ?_
    refine p_J_J_51 (x := 0) hx hb hE hm fw12 (by simp) (by decide) dJ_init_93 (fun H locs hm => ?_)
    obtain ⟨w13, hhw13⟩ : ∃ z : Wd, z = wset w12 (a) (.inr (0, [.int (nb), .int (s0), .int (l0), .int (0), .ref (b1), .int (t0), va_rf (er), .ref (q8), .int ((-1)), .int (0), .int (0), .int (0)])) := ⟨_, rfl⟩
    have hm : mS B D CLS s.heap w13 H locs := by rw [hhw13]; exact hm
    have hw13 : w13 = wset (wset (w) (q8) (.inl (cI, 50, .inl (fun _ => -2)))) (a) (.inr (0, [.int (nb), .int (s0), .int (l0), .int (0), .ref (b1), .int (t0), va_rf (er), .ref (q8), .int ((-1)), .int (0), .int (0), .int (0)])) := by rw [hhw13, hw12]; funext z; by_cases hz : z = a <;> simp [wset, hz]
    have fw13 : w13 (a) = some (.inr (0, [.int (nb), .int (s0), .int (l0), .int (0), .ref (b1), .int (t0), va_rf (er), .ref (q8), .int ((-1)), .int (0), .int (0), .int (0)])) := by rw [hhw13]; exact wset_at _ _ _
    have fw13_1 := (show w13 (q8) = w12 (q8) by rw [hhw13]; exact wset_ne (Ne.symm nq8_0)).trans fw12_1
    refine lv_aload_n hx hb dJ_init_96 rfl (lv_at hl 0 rfl) ?_
    refine lv_iconst (v := 0) hx hb dJ_init_97 (by decide) ?_
    refine p_J_J_54 (x := 0) hx hb hE hm fw13 (by simp) dJ_init_98 (fun H locs hm => ?_)
    obtain ⟨w14, hhw14⟩ : ∃ z : Wd, z = wset w13 (a) (.inr (0, [.int (nb), .int (s0), .int (l0), .int (0), .ref (b1), .int (t0), va_rf (er), .ref (q8), .int ((-1)), .int (0), .int (0), .int (0)])) := ⟨_, rfl⟩
    have hm : mS B D CLS s.heap w14 H locs := by rw [hhw14]; exact hm
    have hw14 : w14 = wset (wset (w) (q8) (.inl (cI, 50, .inl (fun _ => -2)))) (a) (.inr (0, [.int (nb), .int (s0), .int (l0), .int (0), .ref (b1), .int (t0), va_rf (er), .ref (q8), .int ((-1)), .int (0), .int (0), .int (0)])) := by rw [hhw14, hw13]; funext z; by_cases hz : z = a <;> simp [wset, hz]
    have fw14 : w14 (a) = some (.inr (0, [.int (nb), .int (s0), .int (l0), .int (0), .ref (b1), .int (t0), va_rf (er), .ref (q8), .int ((-1)), .int (0), .int (0), .int (0)])) := by rw [hhw14]; exact wset_at _ _ _
    have fw14_1 := (show w14 (q8) = w13 (q8) by rw [hhw14]; exact wset_ne (Ne.symm nq8_0)).trans fw13_1
    exact mretv hx hb hr hlk hm ⟨q8, hfq8, by rw [hw14]; simp [bI, va_rf]⟩ dJ_init_101
set_option maxHeartbeats 4000000 in
set_option maxRecDepth 100000 in
/-- begin -/
theorem kC_begin (l : Launch) (B : Nat) (D : va_G) (cI cZ cL : ClassId) (w : Wd) (o : Nat) (ad va : Nat → Nat) (now : Int32) (n : Nat) (J : Nat → Jr) (hR : cR cI o ad va now n J w) (x v : Int32) : Met l yC_begin (.code yC_begin cC_begin 4 (some .int) :: BIG) { frames := 2, cells := 2, slots := 62, locals := 49 } (va_Pc [.ref (o), .int (x), .int (v)] (mP B D CLS (TYS cI cZ cL) NEST w)) (va_Qi (fun r u => (bgs n J x v = false ∧ r = -1 ∧ u = w) ∨ (bgs n J x v = true ∧ r = nI n ∧ ∃ q1 q2, w q1 = none ∧ w q2 = none ∧ cR cI o (upN ad n q1) (upN va n q2) now (n + 1) (upJ J n (nwJ x v (bOf n J x v) now)) u ∧ ∀ q, ¬ cF o ad va n q → q ≠ q1 → q ≠ q2 → u q = w q)) (mE B D CLS) (fun q => B ≤ q)) 2 62 (fun q => B ≤ q) := by
  refine mMet (by decide) rfl (Nat.le_of_ble_eq_true rfl) ?_
  intro p e s m below meth c ls hx hb hml hr hlk hnm hown hts hK hN hm hl
  have hE : ME "ChainPicker" (.code yC_begin cC_begin 4 (some .int)) _ s m D (TYS cI cZ cL) := ⟨hown, hts, hK, hN⟩
  have hl : lv_has ls 4 [(0, .ref (o)), (1, .int (x)), (2, .int (v))] := hl
  refine lv_iload_n hx hb dC_begin_0 rfl (lv_at hl 1 rfl) ?_
  refine mcalli (mcS (n := 1) (As := [.int (x)]) (rest := []) hx hb hml hE (kC_isSeries l B D cI cZ cL w x) q_32 q_33 q_1 q_34 rfl rfl (by decide +kernel) ⟨Nat.le_of_ble_eq_true rfl, Nat.le_of_ble_eq_true rfl⟩ rfl hl.1 hm rfl (Nat.le_of_ble_eq_true rfl) dC_begin_1 ⟨Nat.le_of_ble_eq_true rfl, Nat.le_of_ble_eq_true rfl⟩) hm (fun r1 u1 H locs hp1 hm => ?_)
  obtain ⟨hr1, hu1⟩ := hp1
  rw [hu1] at hm
  refine lv_if_eq (tgt := 32) hx hb dC_begin_4 (by decide) (fun c_4 => ?_) (fun c_4 => ?_)
  · rw [hr1, bI_0] at c_4
    refine lv_iconst (v := (-1)) hx hb dC_begin_32 (by decide) ?_
    refine W.widen (k := 2) (n := 62) (Nat.le_of_ble_eq_true rfl) (Nat.le_of_ble_eq_true rfl) ?_
    exact mreti hx hb hr hlk hm (Or.inl ⟨by unfold bgs; rw [c_4]; simp, rfl, rfl⟩) dC_begin_33
  · rw [hr1, bI_0] at c_4
    refine lv_iload_n hx hb dC_begin_7 rfl (lv_at hl 2 rfl) ?_
    refine mcalli (mcS (n := 1) (As := [.int (v)]) (rest := []) hx hb hml hE (kC_isLevel l B D cI cZ cL w v) q_35 q_36 q_1 q_37 rfl rfl (by decide +kernel) ⟨Nat.le_of_ble_eq_true rfl, Nat.le_of_ble_eq_true rfl⟩ rfl hl.1 hm rfl (Nat.le_of_ble_eq_true rfl) dC_begin_8 ⟨Nat.le_of_ble_eq_true rfl, Nat.le_of_ble_eq_true rfl⟩) hm (fun r2 u2 H locs hp2 hm => ?_)
    obtain ⟨hr2, hu2⟩ := hp2
    rw [hu2] at hm
    refine lv_if_eq (tgt := 32) hx hb dC_begin_11 (by decide) (fun c_11 => ?_) (fun c_11 => ?_)
    · rw [hr2, bI_0] at c_11
      refine lv_iconst (v := (-1)) hx hb dC_begin_32 (by decide) ?_
      refine W.widen (k := 2) (n := 62) (Nat.le_of_ble_eq_true rfl) (Nat.le_of_ble_eq_true rfl) ?_
      exact mreti hx hb hr hlk hm (Or.inl ⟨by unfold bgs; rw [c_11]; simp, rfl, rfl⟩) dC_begin_33
    · rw [hr2, bI_0] at c_11
      refine lv_aload_n hx hb dC_begin_14 rfl (lv_at hl 0 rfl) ?_
      refine g_C_C_13 (v := .int (nI n)) hx hb hE hm hR.1 rfl dC_begin_15 ?_
      refine lv_sipush (v := 200) hx hb dC_begin_18 (by decide) ?_
      refine lv_icmp_ge (tgt := 32) hx hb dC_begin_21 (by decide) (fun c_21 => ?_) (fun c_21 => ?_)
      · refine lv_iconst (v := (-1)) hx hb dC_begin_32 (by decide) ?_
        refine W.widen (k := 2) (n := 62) (Nat.le_of_ble_eq_true rfl) (Nat.le_of_ble_eq_true rfl) ?_
        exact mreti hx hb hr hlk hm (Or.inl ⟨by have h : ¬ n < 200 := fun h => absurd c_21 (nI_ge (a := n) (b := 200) h (by omega)); unfold bgs; simp [h], rfl, rfl⟩) dC_begin_33
      · refine lv_aload_n hx hb dC_begin_24 rfl (lv_at hl 0 rfl) ?_
        refine lv_iload_n hx hb dC_begin_25 rfl (lv_at hl 1 rfl) ?_
        refine mcalli (mcV (n := 1) (As := [.int (x)]) (rest := []) hx hb hml hE (kC_hasRunning l B D cI cZ cL w o ad va now n J hR x) q_38 q_40 qs_0 q_1 q_41 rfl rfl (by decide +kernel) ⟨Nat.le_of_ble_eq_true rfl, Nat.le_of_ble_eq_true rfl⟩ rfl hl.1 hm rfl hR.1 rfl (Nat.le_of_ble_eq_true rfl) dC_begin_26 ⟨Nat.le_of_ble_eq_true rfl, Nat.le_of_ble_eq_true rfl⟩) hm (fun r3 u3 H locs hp3 hm => ?_)
        obtain ⟨hr3, hu3⟩ := hp3
        rw [hu3] at hm
        refine lv_if_eq (tgt := 34) hx hb dC_begin_29 (by decide) (fun c_29 => ?_) (fun c_29 => ?_)
        · rw [hr3, bI_0] at c_29
          refine lv_aload_n hx hb dC_begin_34 rfl (lv_at hl 0 rfl) ?_
          refine lv_iload_n hx hb dC_begin_35 rfl (lv_at hl 1 rfl) ?_
          refine lv_iload_n hx hb dC_begin_36 rfl (lv_at hl 2 rfl) ?_
          refine mcallq (mcV (n := 2) (As := [.int (x), .int (v)]) (rest := []) hx hb hml hE (kC_findBase l B D cI cZ cL w o ad va now n J hR x v) q_42 q_44 qs_1 q_1 q_45 rfl rfl (by decide +kernel) ⟨Nat.le_of_ble_eq_true rfl, Nat.le_of_ble_eq_true rfl⟩ rfl hl.1 hm rfl hR.1 rfl (Nat.le_of_ble_eq_true rfl) dC_begin_37 ⟨Nat.le_of_ble_eq_true rfl, Nat.le_of_ble_eq_true rfl⟩) hm (fun r4 u4 H locs hp4 hm => ?_)
          obtain ⟨hr4, hu4⟩ := hp4
          rw [hu4] at hm
          have hB : bgs n J x v = true := by
            have h1 : (decide (0 ≤ x) && decide (x < 8)) = true := by simpa using c_4
            have h2 : (decide (0 ≤ v) && decide (v ≤ 2)) = true := by simpa using c_11
            have h3 : n < 200 := nI_lt200 hR.n200 c_21
            unfold bgs; rw [h1, h2, c_29]; simp [h3]
          have h200 : n < 200 := nI_lt200 hR.n200 c_21
          subst hr4
          have hbl := bOf_lt (n := n) (J := J) (s := x) (l := v)
          cases ht : bOf n J x v with
          | none =>
            show W _ _ _ _ _ _ _ _ _ _ _ _ _ _ _ (F0 m 40 ls [.null])
            refine lv_astore_nN (lv' := [(3, .null), (0, .ref (o)), (1, .int (x)), (2, .int (v))]) hx hb dC_begin_40 rfl hl (by decide) rfl (fun ls hl => ?_)
            refine lv_aload_nN hx hb dC_begin_41 rfl (lv_at hl 0 rfl) ?_
            refine lv_ifnullN (tgt := 55) hx hb dC_begin_42 (by decide) ?_
            refine lv_aload_n hx hb dC_begin_55 rfl (lv_at hl 1 rfl) ?_
            refine mnew (C := "ChainPicker$Job") (T := T_J) (N := 12) (ci := 0) (fs := DEFJ) hx hb hE.2.1 (fun w h => List.mem_cons_of_mem _ (i_J w h)) t_J t_J_ok hE.1 (hE.2.1 _ (List.mem_cons_of_mem _ q_49)) (hE.2.1 _ (List.mem_cons_of_mem _ q_50)) (hE.2.1 _ (List.mem_cons_of_mem _ q_7)) hE.2.2.1 hm rfl defJ (Nat.le_of_ble_eq_true rfl) (Nat.le_of_ble_eq_true rfl) dC_begin_56 (fun q5 H hq5 hm => ?_)
            have hfq5 : w q5 = none := by have h := hq5; exact h
            have nq5_0 : o ≠ q5 := fun e => by have h := hR.1; rw [e, hq5] at h; cases h
            obtain ⟨w5, hhw5⟩ : ∃ z : Wd, z = wset w (q5) (.inr (0, DEFJ)) := ⟨_, rfl⟩
            have hm : mS B D CLS s.heap w5 H locs := by rw [hhw5]; exact hm
            have hw5 : w5 = wset (w) (q5) (.inr (0, DEFJ)) := by rw [hhw5]
            have fw5 : w5 (q5) = some (.inr (0, DEFJ)) := by rw [hhw5]; exact wset_at _ _ _
            have fw5_1 := (show w5 (o) = w (o) by rw [hhw5]; exact wset_ne nq5_0).trans hR.1
            refine lv_dup hx hb dC_begin_59 rfl ?_
            refine lv_aload_n hx hb dC_begin_60 rfl (lv_at hl 1 rfl) ?_
            refine g_C_C_13 (v := .int (nI n)) hx hb hE hm fw5_1 rfl dC_begin_61 ?_
            refine lv_iload_n hx hb dC_begin_64 rfl (lv_at hl 2 rfl) ?_
            refine lv_iload_n hx hb dC_begin_65 rfl (lv_at hl 3 rfl) ?_
            refine lv_aload_nN hx hb dC_begin_66 rfl (lv_at hl 0 rfl) ?_
            refine lv_aload_n hx hb dC_begin_67 rfl (lv_at hl 1 rfl) ?_
            refine g_C_C_9 (v := .int (now)) hx hb hE hm fw5_1 rfl dC_begin_68 ?_
            refine lv_aload_n hx hb dC_begin_71 rfl (lv_at hl 1 rfl) ?_
            refine g_C_C_16 (v := va_rf (prv ad n)) hx hb hE hm fw5_1 rfl dC_begin_72 ?_
            refine mcallv (mcIN (n := 6) (host := "ChainPicker") (As := [.int (nI n), .int (x), .int (v), .null, .int (now), va_rf (prv ad n)]) (rest := [.ref (q5), .ref (o)]) hx hb hml hE (kJ_init l B D cI cZ cL w5 q5 (nI n) (x) (v) (none : Option Nat) (now) (prv ad n) fw5) (List.mem_of_getElem? (i := 0) rfl) q_52 q_7 q_53 rfl rfl rfl (by decide +kernel) ⟨Nat.le_of_ble_eq_true rfl, Nat.le_of_ble_eq_true rfl⟩ rfl hl.1 hm rfl (Nat.le_of_ble_eq_true rfl) dC_begin_75 ⟨Nat.le_of_ble_eq_true rfl, Nat.le_of_ble_eq_true rfl⟩) hm (fun u9 H locs hp9 hm => ?_)
            obtain ⟨q2, hq2, hu9⟩ := hp9
            rw [hu9] at hm
            have m_0 : q5 ≠ q2 := fun e => by have h := fw5; rw [e, hq2] at h; cases h
            have m_1 : o ≠ q2 := fun e => by have h := fw5_1; rw [e, hq2] at h; cases h
            have hf2 : w q2 = none := by have h := hq2; rw [hw5] at h; exact (wset_none h).1
            obtain ⟨w6, hhw6⟩ : ∃ z : Wd, z = wset w5 (q2) (.inl (cI, 50, .inl (fun _ => -2))) := ⟨_, rfl⟩
            have hw6 : w6 = wset (wset (w) (q5) (.inr (0, DEFJ))) (q2) (.inl (cI, 50, .inl (fun _ => -2))) := by rw [hhw6, hw5]
            have fw6 : w6 (q2) = some (.inl (cI, 50, .inl (fun _ => -2))) := by rw [hhw6]; exact wset_at _ _ _
            have fw6_1 := (show w6 (q5) = w5 (q5) by rw [hhw6]; exact wset_ne m_0).trans fw5
            have fw6_2 := (show w6 (o) = w5 (o) by rw [hhw6]; exact wset_ne m_1).trans fw5_1
            obtain ⟨w7, hhw7⟩ : ∃ z : Wd, z = wset w6 (q5) (.inr (0, [.int (nI n), .int (x), .int (if (none : Option Nat) = none then 0 else (v)), .int (bI (decide ((none : Option Nat) = none) && decide ((v) ≠ 0))), va_rf ((none : Option Nat)), .int (now), va_rf ((prv ad n)), .ref (q2), .int ((-1)), .int (0), .int (0), .int (0)])) := ⟨_, rfl⟩
            have hm : mS B D CLS s.heap w7 H locs := by rw [hhw7, hhw6]; exact hm
            have hw7 : w7 = wset (wset (w) (q2) (.inl (cI, 50, .inl (fun _ => -2)))) (q5) (.inr (0, [.int (nI n), .int (x), .int (if (none : Option Nat) = none then 0 else (v)), .int (bI (decide ((none : Option Nat) = none) && decide ((v) ≠ 0))), va_rf ((none : Option Nat)), .int (now), va_rf ((prv ad n)), .ref (q2), .int ((-1)), .int (0), .int (0), .int (0)])) := by rw [hhw7, hw6]; funext z; by_cases hz : z = q5 <;> simp [wset, hz]
            have fw7 : w7 (q5) = some (.inr (0, [.int (nI n), .int (x), .int (if (none : Option Nat) = none then 0 else (v)), .int (bI (decide ((none : Option Nat) = none) && decide ((v) ≠ 0))), va_rf ((none : Option Nat)), .int (now), va_rf ((prv ad n)), .ref (q2), .int ((-1)), .int (0), .int (0), .int (0)])) := by rw [hhw7]; exact wset_at _ _ _
            have fw7_1 := (show w7 (q2) = w6 (q2) by rw [hhw7]; exact wset_ne (Ne.symm m_0)).trans fw6
            have fw7_2 := (show w7 (o) = w6 (o) by rw [hhw7]; exact wset_ne nq5_0).trans fw6_2
            refine p_C_C_16 (r := some (q5)) hx hb hE hm fw7_2 (by simp) dC_begin_78 (fun H locs hm => ?_)
            obtain ⟨w8, hhw8⟩ : ∃ z : Wd, z = wset w7 (o) (.inr (1, [.int (now), .int (nI n), .ref (q5)])) := ⟨_, rfl⟩
            have hm : mS B D CLS s.heap w8 H locs := by rw [hhw8]; exact hm
            have hw8 : w8 = wset (wset (wset (w) (q2) (.inl (cI, 50, .inl (fun _ => -2)))) (q5) (.inr (0, [.int (nI n), .int (x), .int (if (none : Option Nat) = none then 0 else (v)), .int (bI (decide ((none : Option Nat) = none) && decide ((v) ≠ 0))), va_rf ((none : Option Nat)), .int (now), va_rf ((prv ad n)), .ref (q2), .int ((-1)), .int (0), .int (0), .int (0)]))) (o) (.inr (1, [.int (now), .int (nI n), .ref (q5)])) := by rw [hhw8, hw7]
            have fw8 : w8 (o) = some (.inr (1, [.int (now), .int (nI n), .ref (q5)])) := by rw [hhw8]; exact wset_at _ _ _
            have fw8_1 := (show w8 (q5) = w7 (q5) by rw [hhw8]; exact wset_ne (Ne.symm nq5_0)).trans fw7
            have fw8_2 := (show w8 (q2) = w7 (q2) by rw [hhw8]; exact wset_ne (Ne.symm m_1)).trans fw7_1
            refine lv_aload_n hx hb dC_begin_81 rfl (lv_at hl 1 rfl) ?_
            refine lv_dup hx hb dC_begin_82 rfl ?_
            refine g_C_C_13 (v := .int (nI n)) hx hb hE hm fw8 rfl dC_begin_83 ?_
            refine lv_iconst (v := 1) hx hb dC_begin_86 (by decide) ?_
            refine lv_iadd hx hb dC_begin_87 ?_
            refine p_C_C_13 (x := (nI n) + (1)) hx hb hE hm fw8 (by simp) dC_begin_88 (fun H locs hm => ?_)
            obtain ⟨w9, hhw9⟩ : ∃ z : Wd, z = wset w8 (o) (.inr (1, [.int (now), .int ((nI n) + (1)), .ref (q5)])) := ⟨_, rfl⟩
            have hm : mS B D CLS s.heap w9 H locs := by rw [hhw9]; exact hm
            have hw9 : w9 = wset (wset (wset (w) (q2) (.inl (cI, 50, .inl (fun _ => -2)))) (q5) (.inr (0, [.int (nI n), .int (x), .int (if (none : Option Nat) = none then 0 else (v)), .int (bI (decide ((none : Option Nat) = none) && decide ((v) ≠ 0))), va_rf ((none : Option Nat)), .int (now), va_rf ((prv ad n)), .ref (q2), .int ((-1)), .int (0), .int (0), .int (0)]))) (o) (.inr (1, [.int (now), .int ((nI n) + (1)), .ref (q5)])) := by rw [hhw9, hw8]; funext z; by_cases hz : z = o <;> simp [wset, hz]
            have fw9 : w9 (o) = some (.inr (1, [.int (now), .int ((nI n) + (1)), .ref (q5)])) := by rw [hhw9]; exact wset_at _ _ _
            have fw9_1 := (show w9 (q5) = w8 (q5) by rw [hhw9]; exact wset_ne (Ne.symm nq5_0)).trans fw8_1
            have fw9_2 := (show w9 (q2) = w8 (q2) by rw [hhw9]; exact wset_ne (Ne.symm m_1)).trans fw8_2
            refine lv_aload_n hx hb dC_begin_91 rfl (lv_at hl 1 rfl) ?_
            refine g_C_C_16 (v := .ref (q5)) hx hb hE hm fw9 rfl dC_begin_92 ?_
            refine g_C_J_50 (v := .int (nI n)) hx hb hE hm fw9_1 rfl dC_begin_95 ?_
            have hC := hR.beg h200 hfq5 hf2 (s := x) (l := v) (b := none) (u := w9) (fun i hi => by cases hi) fw9 (by have h := fw9_1; simpa using h) fw9_2 (fun i hi => by rw [hw9, wset_ne (hR.ado hi), wset_ne (fun e => by have h := hR.2.1 i hi; rw [e, hfq5] at h; cases h), wset_ne (fun e => by have h := hR.2.1 i hi; rw [e, hf2] at h; cases h)]; rw [hR.2.1 i hi]; simp) (fun i hi => by rw [hw9, wset_ne (hR.vao hi), wset_ne (fun e => by have h := hR.2.2.1 i hi; rw [e, hfq5] at h; cases h), wset_ne (fun e => by have h := hR.2.2.1 i hi; rw [e, hf2] at h; cases h)])
            refine W.widen (k := 2) (n := 62) (Nat.le_of_ble_eq_true rfl) (Nat.le_of_ble_eq_true rfl) ?_
            exact mreti hx hb hr hlk hm (Or.inr ⟨hB, rfl, q5, q2, hfq5, hf2, hC, fun q hq g1 g2 => by rw [hw9, wset_ne (fun e => hq (by rw [e]; exact cF_o)), wset_ne g1, wset_ne g2]⟩) dC_begin_98
          | some b =>
            have hbn : b < n := hbl b ht
            show W _ _ _ _ _ _ _ _ _ _ _ _ _ _ _ (F0 m 40 ls [.ref (ad b)])
            refine lv_astore_n (lv' := [(3, .ref (ad b)), (0, .ref (o)), (1, .int (x)), (2, .int (v))]) hx hb dC_begin_40 rfl hl (by decide) rfl (fun ls hl => ?_)
            refine lv_aload_n hx hb dC_begin_41 rfl (lv_at hl 0 rfl) ?_
            refine lv_ifnull hx hb dC_begin_42 ?_
            refine lv_aload_n hx hb dC_begin_45 rfl (lv_at hl 0 rfl) ?_
            refine lv_dup hx hb dC_begin_46 rfl ?_
            refine g_C_J_42 (v := .int (nI (sd n J b))) hx hb hE hm (hR.2.1 b hbn) rfl dC_begin_47 ?_
            refine lv_iconst (v := 1) hx hb dC_begin_50 (by decide) ?_
            refine lv_iadd hx hb dC_begin_51 ?_
            refine p_C_J_42 (x := (nI (sd n J b)) + (1)) hx hb hE hm (hR.2.1 b hbn) (by simp) dC_begin_52 (fun H locs hm => ?_)
            obtain ⟨w10, hhw10⟩ : ∃ z : Wd, z = wset w (ad b) (.inr (0, [.int (nI b), .int (jSer (J b)), .int (jLev (J b)), .int (bI (jUp (J b))), va_rf ((jBs (J b)).map ad), .int (jBg (J b)), va_rf (prv ad b), .ref (va b), .int (jEn (J b)), .int (jSt (J b)), .int (bI (jPr (J b))), .int ((nI (sd n J b)) + (1))])) := ⟨_, rfl⟩
            have hm : mS B D CLS s.heap w10 H locs := by rw [hhw10]; exact hm
            have hw10 : w10 = wset (w) (ad b) (.inr (0, [.int (nI b), .int (jSer (J b)), .int (jLev (J b)), .int (bI (jUp (J b))), va_rf ((jBs (J b)).map ad), .int (jBg (J b)), va_rf (prv ad b), .ref (va b), .int (jEn (J b)), .int (jSt (J b)), .int (bI (jPr (J b))), .int ((nI (sd n J b)) + (1))])) := by rw [hhw10]
            have fw10 : w10 (ad b) = some (.inr (0, [.int (nI b), .int (jSer (J b)), .int (jLev (J b)), .int (bI (jUp (J b))), va_rf ((jBs (J b)).map ad), .int (jBg (J b)), va_rf (prv ad b), .ref (va b), .int (jEn (J b)), .int (jSt (J b)), .int (bI (jPr (J b))), .int ((nI (sd n J b)) + (1))])) := by rw [hhw10]; exact wset_at _ _ _
            have fw10_1 := (show w10 (o) = w (o) by rw [hhw10]; exact wset_ne (Ne.symm (hR.ado hbn))).trans hR.1
            refine lv_aload_n hx hb dC_begin_55 rfl (lv_at hl 1 rfl) ?_
            refine mnew (C := "ChainPicker$Job") (T := T_J) (N := 12) (ci := 0) (fs := DEFJ) hx hb hE.2.1 (fun w h => List.mem_cons_of_mem _ (i_J w h)) t_J t_J_ok hE.1 (hE.2.1 _ (List.mem_cons_of_mem _ q_49)) (hE.2.1 _ (List.mem_cons_of_mem _ q_50)) (hE.2.1 _ (List.mem_cons_of_mem _ q_7)) hE.2.2.1 hm rfl defJ (Nat.le_of_ble_eq_true rfl) (Nat.le_of_ble_eq_true rfl) dC_begin_56 (fun q11 H hq11 hm => ?_)
            have hfq11 : w q11 = none := by have h := hq11; rw [hw10] at h; have h := (wset_none h).1; exact h
            have nq11_0 : ad b ≠ q11 := fun e => by have h := fw10; rw [e, hq11] at h; cases h
            have nq11_1 : o ≠ q11 := fun e => by have h := fw10_1; rw [e, hq11] at h; cases h
            obtain ⟨w11, hhw11⟩ : ∃ z : Wd, z = wset w10 (q11) (.inr (0, DEFJ)) := ⟨_, rfl⟩
            have hm : mS B D CLS s.heap w11 H locs := by rw [hhw11]; exact hm
            have hw11 : w11 = wset (wset (w) (ad b) (.inr (0, [.int (nI b), .int (jSer (J b)), .int (jLev (J b)), .int (bI (jUp (J b))), va_rf ((jBs (J b)).map ad), .int (jBg (J b)), va_rf (prv ad b), .ref (va b), .int (jEn (J b)), .int (jSt (J b)), .int (bI (jPr (J b))), .int ((nI (sd n J b)) + (1))]))) (q11) (.inr (0, DEFJ)) := by rw [hhw11, hw10]
            have fw11 : w11 (q11) = some (.inr (0, DEFJ)) := by rw [hhw11]; exact wset_at _ _ _
            have fw11_1 := (show w11 (ad b) = w10 (ad b) by rw [hhw11]; exact wset_ne nq11_0).trans fw10
            have fw11_2 := (show w11 (o) = w10 (o) by rw [hhw11]; exact wset_ne nq11_1).trans fw10_1
            refine lv_dup hx hb dC_begin_59 rfl ?_
            refine lv_aload_n hx hb dC_begin_60 rfl (lv_at hl 1 rfl) ?_
            refine g_C_C_13 (v := .int (nI n)) hx hb hE hm fw11_2 rfl dC_begin_61 ?_
            refine lv_iload_n hx hb dC_begin_64 rfl (lv_at hl 2 rfl) ?_
            refine lv_iload_n hx hb dC_begin_65 rfl (lv_at hl 3 rfl) ?_
            refine lv_aload_n hx hb dC_begin_66 rfl (lv_at hl 0 rfl) ?_
            refine lv_aload_n hx hb dC_begin_67 rfl (lv_at hl 1 rfl) ?_
            refine g_C_C_9 (v := .int (now)) hx hb hE hm fw11_2 rfl dC_begin_68 ?_
            refine lv_aload_n hx hb dC_begin_71 rfl (lv_at hl 1 rfl) ?_
            refine g_C_C_16 (v := va_rf (prv ad n)) hx hb hE hm fw11_2 rfl dC_begin_72 ?_
            refine mcallv (mcIN (n := 6) (host := "ChainPicker") (As := [.int (nI n), .int (x), .int (v), .ref (ad b), .int (now), va_rf (prv ad n)]) (rest := [.ref (q11), .ref (o)]) hx hb hml hE (kJ_init l B D cI cZ cL w11 q11 (nI n) (x) (v) (some (ad b)) (now) (prv ad n) fw11) (List.mem_of_getElem? (i := 0) rfl) q_52 q_7 q_53 rfl rfl rfl (by decide +kernel) ⟨Nat.le_of_ble_eq_true rfl, Nat.le_of_ble_eq_true rfl⟩ rfl hl.1 hm rfl (Nat.le_of_ble_eq_true rfl) dC_begin_75 ⟨Nat.le_of_ble_eq_true rfl, Nat.le_of_ble_eq_true rfl⟩) hm (fun u9 H locs hp9 hm => ?_)
            obtain ⟨q2, hq2, hu9⟩ := hp9
            rw [hu9] at hm
            have m_0 : q11 ≠ q2 := fun e => by have h := fw11; rw [e, hq2] at h; cases h
            have m_1 : ad b ≠ q2 := fun e => by have h := fw11_1; rw [e, hq2] at h; cases h
            have m_2 : o ≠ q2 := fun e => by have h := fw11_2; rw [e, hq2] at h; cases h
            have hf2 : w q2 = none := by have h := hq2; rw [hw11] at h; exact (wset_none (wset_none h).1).1
            obtain ⟨w12, hhw12⟩ : ∃ z : Wd, z = wset w11 (q2) (.inl (cI, 50, .inl (fun _ => -2))) := ⟨_, rfl⟩
            have hw12 : w12 = wset (wset (wset (w) (ad b) (.inr (0, [.int (nI b), .int (jSer (J b)), .int (jLev (J b)), .int (bI (jUp (J b))), va_rf ((jBs (J b)).map ad), .int (jBg (J b)), va_rf (prv ad b), .ref (va b), .int (jEn (J b)), .int (jSt (J b)), .int (bI (jPr (J b))), .int ((nI (sd n J b)) + (1))]))) (q11) (.inr (0, DEFJ))) (q2) (.inl (cI, 50, .inl (fun _ => -2))) := by rw [hhw12, hw11]
            have fw12 : w12 (q2) = some (.inl (cI, 50, .inl (fun _ => -2))) := by rw [hhw12]; exact wset_at _ _ _
            have fw12_1 := (show w12 (q11) = w11 (q11) by rw [hhw12]; exact wset_ne m_0).trans fw11
            have fw12_2 := (show w12 (ad b) = w11 (ad b) by rw [hhw12]; exact wset_ne m_1).trans fw11_1
            have fw12_3 := (show w12 (o) = w11 (o) by rw [hhw12]; exact wset_ne m_2).trans fw11_2
            obtain ⟨w13, hhw13⟩ : ∃ z : Wd, z = wset w12 (q11) (.inr (0, [.int (nI n), .int (x), .int (if (some (ad b)) = none then 0 else (v)), .int (bI (decide ((some (ad b)) = none) && decide ((v) ≠ 0))), va_rf ((some (ad b))), .int (now), va_rf ((prv ad n)), .ref (q2), .int ((-1)), .int (0), .int (0), .int (0)])) := ⟨_, rfl⟩
            have hm : mS B D CLS s.heap w13 H locs := by rw [hhw13, hhw12]; exact hm
            have hw13 : w13 = wset (wset (wset (w) (ad b) (.inr (0, [.int (nI b), .int (jSer (J b)), .int (jLev (J b)), .int (bI (jUp (J b))), va_rf ((jBs (J b)).map ad), .int (jBg (J b)), va_rf (prv ad b), .ref (va b), .int (jEn (J b)), .int (jSt (J b)), .int (bI (jPr (J b))), .int ((nI (sd n J b)) + (1))]))) (q2) (.inl (cI, 50, .inl (fun _ => -2)))) (q11) (.inr (0, [.int (nI n), .int (x), .int (if (some (ad b)) = none then 0 else (v)), .int (bI (decide ((some (ad b)) = none) && decide ((v) ≠ 0))), va_rf ((some (ad b))), .int (now), va_rf ((prv ad n)), .ref (q2), .int ((-1)), .int (0), .int (0), .int (0)])) := by rw [hhw13, hw12]; funext z; by_cases hz : z = q11 <;> simp [wset, hz]
            have fw13 : w13 (q11) = some (.inr (0, [.int (nI n), .int (x), .int (if (some (ad b)) = none then 0 else (v)), .int (bI (decide ((some (ad b)) = none) && decide ((v) ≠ 0))), va_rf ((some (ad b))), .int (now), va_rf ((prv ad n)), .ref (q2), .int ((-1)), .int (0), .int (0), .int (0)])) := by rw [hhw13]; exact wset_at _ _ _
            have fw13_1 := (show w13 (q2) = w12 (q2) by rw [hhw13]; exact wset_ne (Ne.symm m_0)).trans fw12
            have fw13_2 := (show w13 (ad b) = w12 (ad b) by rw [hhw13]; exact wset_ne nq11_0).trans fw12_2
            have fw13_3 := (show w13 (o) = w12 (o) by rw [hhw13]; exact wset_ne nq11_1).trans fw12_3
            refine p_C_C_16 (r := some (q11)) hx hb hE hm fw13_3 (by simp) dC_begin_78 (fun H locs hm => ?_)
            obtain ⟨w14, hhw14⟩ : ∃ z : Wd, z = wset w13 (o) (.inr (1, [.int (now), .int (nI n), .ref (q11)])) := ⟨_, rfl⟩
            have hm : mS B D CLS s.heap w14 H locs := by rw [hhw14]; exact hm
            have hw14 : w14 = wset (wset (wset (wset (w) (ad b) (.inr (0, [.int (nI b), .int (jSer (J b)), .int (jLev (J b)), .int (bI (jUp (J b))), va_rf ((jBs (J b)).map ad), .int (jBg (J b)), va_rf (prv ad b), .ref (va b), .int (jEn (J b)), .int (jSt (J b)), .int (bI (jPr (J b))), .int ((nI (sd n J b)) + (1))]))) (q2) (.inl (cI, 50, .inl (fun _ => -2)))) (q11) (.inr (0, [.int (nI n), .int (x), .int (if (some (ad b)) = none then 0 else (v)), .int (bI (decide ((some (ad b)) = none) && decide ((v) ≠ 0))), va_rf ((some (ad b))), .int (now), va_rf ((prv ad n)), .ref (q2), .int ((-1)), .int (0), .int (0), .int (0)]))) (o) (.inr (1, [.int (now), .int (nI n), .ref (q11)])) := by rw [hhw14, hw13]
            have fw14 : w14 (o) = some (.inr (1, [.int (now), .int (nI n), .ref (q11)])) := by rw [hhw14]; exact wset_at _ _ _
            have fw14_1 := (show w14 (q11) = w13 (q11) by rw [hhw14]; exact wset_ne (Ne.symm nq11_1)).trans fw13
            have fw14_2 := (show w14 (q2) = w13 (q2) by rw [hhw14]; exact wset_ne (Ne.symm m_2)).trans fw13_1
            have fw14_3 := (show w14 (ad b) = w13 (ad b) by rw [hhw14]; exact wset_ne (Ne.symm (Ne.symm (hR.ado hbn)))).trans fw13_2
            refine lv_aload_n hx hb dC_begin_81 rfl (lv_at hl 1 rfl) ?_
            refine lv_dup hx hb dC_begin_82 rfl ?_
            refine g_C_C_13 (v := .int (nI n)) hx hb hE hm fw14 rfl dC_begin_83 ?_
            refine lv_iconst (v := 1) hx hb dC_begin_86 (by decide) ?_
            refine lv_iadd hx hb dC_begin_87 ?_
            refine p_C_C_13 (x := (nI n) + (1)) hx hb hE hm fw14 (by simp) dC_begin_88 (fun H locs hm => ?_)
            obtain ⟨w15, hhw15⟩ : ∃ z : Wd, z = wset w14 (o) (.inr (1, [.int (now), .int ((nI n) + (1)), .ref (q11)])) := ⟨_, rfl⟩
            have hm : mS B D CLS s.heap w15 H locs := by rw [hhw15]; exact hm
            have hw15 : w15 = wset (wset (wset (wset (w) (ad b) (.inr (0, [.int (nI b), .int (jSer (J b)), .int (jLev (J b)), .int (bI (jUp (J b))), va_rf ((jBs (J b)).map ad), .int (jBg (J b)), va_rf (prv ad b), .ref (va b), .int (jEn (J b)), .int (jSt (J b)), .int (bI (jPr (J b))), .int ((nI (sd n J b)) + (1))]))) (q2) (.inl (cI, 50, .inl (fun _ => -2)))) (q11) (.inr (0, [.int (nI n), .int (x), .int (if (some (ad b)) = none then 0 else (v)), .int (bI (decide ((some (ad b)) = none) && decide ((v) ≠ 0))), va_rf ((some (ad b))), .int (now), va_rf ((prv ad n)), .ref (q2), .int ((-1)), .int (0), .int (0), .int (0)]))) (o) (.inr (1, [.int (now), .int ((nI n) + (1)), .ref (q11)])) := by rw [hhw15, hw14]; funext z; by_cases hz : z = o <;> simp [wset, hz]
            have fw15 : w15 (o) = some (.inr (1, [.int (now), .int ((nI n) + (1)), .ref (q11)])) := by rw [hhw15]; exact wset_at _ _ _
            have fw15_1 := (show w15 (q11) = w14 (q11) by rw [hhw15]; exact wset_ne (Ne.symm nq11_1)).trans fw14_1
            have fw15_2 := (show w15 (q2) = w14 (q2) by rw [hhw15]; exact wset_ne (Ne.symm m_2)).trans fw14_2
            have fw15_3 := (show w15 (ad b) = w14 (ad b) by rw [hhw15]; exact wset_ne (Ne.symm (Ne.symm (hR.ado hbn)))).trans fw14_3
            refine lv_aload_n hx hb dC_begin_91 rfl (lv_at hl 1 rfl) ?_
            refine g_C_C_16 (v := .ref (q11)) hx hb hE hm fw15 rfl dC_begin_92 ?_
            refine g_C_J_50 (v := .int (nI n)) hx hb hE hm fw15_1 rfl dC_begin_95 ?_
            have hC := hR.beg h200 hfq11 hf2 (s := x) (l := v) (b := some b) (u := w15) (fun i hi => by cases hi; exact hbn) fw15 (by have h := fw15_1; simpa using h) fw15_2 (fun i hi => by rw [hw15, wset_ne (hR.ado hi), wset_ne (fun e => by have h := hR.2.1 i hi; rw [e, hfq11] at h; cases h), wset_ne (fun e => by have h := hR.2.1 i hi; rw [e, hf2] at h; cases h)]; by_cases hib : i = b; (· subst hib; rw [wset_at]; simp [nI_1]); (· rw [wset_ne (hR.adad hi hbn hib), hR.2.1 i hi]; simp [Ne.symm hib])) (fun i hi => by rw [hw15, wset_ne (hR.vao hi), wset_ne (fun e => by have h := hR.2.2.1 i hi; rw [e, hfq11] at h; cases h), wset_ne (fun e => by have h := hR.2.2.1 i hi; rw [e, hf2] at h; cases h), wset_ne (hR.vaad hi hbn)])
            refine W.widen (k := 2) (n := 62) (Nat.le_of_ble_eq_true rfl) (Nat.le_of_ble_eq_true rfl) ?_
            exact mreti hx hb hr hlk hm (Or.inr ⟨hB, rfl, q11, q2, hfq11, hf2, hC, fun q hq g1 g2 => by rw [hw15, wset_ne (fun e => hq (by rw [e]; exact cF_o)), wset_ne g1, wset_ne g2, wset_ne (fun e => hq (by rw [e]; exact cF_ad hbn))]⟩) dC_begin_98
        · rw [hr3, bI_0] at c_29
          refine lv_iconst (v := (-1)) hx hb dC_begin_32 (by decide) ?_
          refine W.widen (k := 2) (n := 62) (Nat.le_of_ble_eq_true rfl) (Nat.le_of_ble_eq_true rfl) ?_
          exact mreti hx hb hr hlk hm (Or.inl ⟨by unfold bgs; rw [show hRun n J x = true by simpa using c_29]; simp, rfl, rfl⟩) dC_begin_33
