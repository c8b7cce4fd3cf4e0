theorem arrOf {args : Array Value} {s : State} {ty : FieldType} (hpr : ∀ C, ty ≠ .object C) (h : (Cond.arrayClass ty).before args s = true) : ∃ cA, ArrOfT s cA ty ∧ va_RA s cA ty := by
  obtain ⟨cA, kA, comp, h1, h2, h3⟩ := Cond.arrayClass_spec (args := args) (first := s) (o := none) (idx := []) h
  refine ⟨cA, fun n z => ⟨fun k h => (by cases h), kA, h2, comp, h3⟩, ?_⟩
  cases ty with
  | object C => exact absurd rfl (hpr C)
  | _ => exact h1
theorem strOf {args : Array Value} {s : State} {k : Nat} {tx : String} (h1 : (Cond.stringRef "ChainPicker" k tx).before args s = true) (h2 : (Cond.exactly (.string "ChainPicker" k) "java/lang/String").before args s = true) : ∃ a, vk_R "ChainPicker" k tx a s := by
  obtain ⟨a, c, cell, kk, q1, -⟩ := Cond.exactly_spec (args := args) (first := s) (o := none) (s := s) (idx := []) h2
  exact ⟨a, vk_R.of h1 q1⟩
set_option maxHeartbeats 4000000 in
set_option maxRecDepth 100000 in
theorem whole_start {p : Program} {e : Env} {s : State} {m : MethodId} {below : List Frame} {meth : Method} {c : Code} (l : Launch) (hst : l.stackTraces = false) {b L : Nat} {xs : Nat → Int32} (hL : L ≤ 2048) (C0 : lw_At p s m meth c b L xs) : W p l e room_1 s m #[Value.ref b] below meth c s.heap [] 0 0 (lw_Z below #[Value.ref b] s) (entryFrame m ([Value.ref b] : List Value).toArray 7) := by
  obtain ⟨hx, hb, hr, hml, hown, hts0, hX, hbl, hlk, hgv⟩ := id C0
  have hs := flat_of_before _ hgv
  have htB : ∀ w ∈ BIG, w.before #[Value.ref b] s = true := fun w hw => hts0 w (List.mem_filter.mp hw).1
  have hts : ∀ w ∈ Cond.initialized "ChainPickerLaw" :: BIG, w.before #[Value.ref b] s = true := fun w hw => (List.mem_cons.mp hw).elim (fun e => by rw [e]; exact htB _ q_0) (htB w)
  obtain ⟨c0, i0, hK0⟩ := u_known (C := "ChainPicker$Job") (T := T_J) (N := 12) (n := 12) htB i_J (htB _ q_50)
  obtain ⟨c1, i1, hK1⟩ := u_known (C := "ChainPicker") (T := T_C) (N := 3) (n := 3) htB i_C (htB _ q_11)
  obtain ⟨c2, i2, hK2⟩ := u_known (C := "ChainPickerModel") (T := T_M) (N := 12) (n := 12) htB i_M (htB _ q_296)
  obtain ⟨cI, hcI1, hcI2⟩ := arrOf (ty := .int) (fun C h => by cases h) (htB _ q_107)
  obtain ⟨cZ, hcZ1, hcZ2⟩ := arrOf (ty := .boolean) (fun C h => by cases h) (htB _ q_338)
  obtain ⟨cL, hcL1, hcL2⟩ := arrOf (ty := .long) (fun C h => by cases h) (htB _ q_433)
  obtain ⟨D, hD⟩ : ∃ D : va_G, D = (fun k => if k = 0 then c0 else if k = 1 then c1 else c2, fun k => if k = 0 then i0 else if k = 1 then i1 else i2) := ⟨_, rfl⟩
  have hK : va_K D CLS (TYS cI cZ cL) s := by
    refine ⟨fun k q hq => ?_, fun k q hq => ?_⟩
    · subst hD
      match k, hq with
      | 0, hq => cases hq; exact hK0
      | 1, hq => cases hq; exact hK1
      | 2, hq => cases hq; exact hK2
      | k + 3, hq => simp [CLS] at hq
    · match k, hq with
      | 0, hq => cases hq; exact ⟨hcI1, hcI2⟩
      | 1, hq => cases hq; exact ⟨hcZ1, hcZ2⟩
      | 2, hq => cases hq; exact ⟨hcL1, hcL2⟩
      | k + 3, hq => simp [TYS] at hq
  have hN : mN NEST s := fun w hw => va_Nw.of (NEST_on w hw) (hts0 w (NEST_in w hw))
  have hE : ME "ChainPickerLaw" (Cond.initialized "ChainPickerLaw") #[Value.ref b] s m D (TYS cI cZ cL) := ⟨hown, hts, hK, hN⟩
  obtain ⟨s0, hs0⟩ := strOf (hts0 (Cond.stringRef "ChainPicker" 23 "time can't go on by that") (by decide +kernel)) (hs _ (by decide +kernel))
  obtain ⟨s1, hs1⟩ := strOf (hts0 (Cond.stringRef "ChainPicker" 84 "the chain has no such job") (by decide +kernel)) (hs _ (by decide +kernel))
  obtain ⟨s2, hs2⟩ := strOf (hts0 (Cond.stringRef "ChainPicker" 103 "an age is not below 0") (by decide +kernel)) (hs _ (by decide +kernel))
  have hA : ∀ a : Nat, a < s.heap.size → ¬ (fun q : Nat => s.heap.size ≤ q) a := fun a h => Nat.not_le.mpr h
  have hXX : mX s.heap.size (fun k => if k = 0 then s0 else if k = 1 then s1 else s2) s := ⟨hs0, hs1, hs2, vx_Zqof (hts0 (Cond.laysStatic "java/lang/Throwable" "UNASSIGNED_STACK" "[Ljava/lang/StackTraceElement;") (by decide +kernel)) (htB _ q_3) (hs (Cond.isRef (.static "java/lang/Throwable" "UNASSIGNED_STACK" "[Ljava/lang/StackTraceElement;")) (by decide +kernel)) hA, vx_Zqof (hts0 (Cond.laysStatic "java/lang/Throwable" "SUPPRESSED_SENTINEL" "Ljava/util/List;") (by decide +kernel)) (htB _ q_3) (hs (Cond.isRef (.static "java/lang/Throwable" "SUPPRESSED_SENTINEL" "Ljava/util/List;")) (by decide +kernel)) hA⟩
  obtain ⟨B, hB⟩ : ∃ z, z = s.heap.size := ⟨_, rfl⟩
  rw [← hB] at hXX
  have hbB : b < B := by rw [hB]; exact hbl
  obtain ⟨w, hw⟩ : ∃ z : Wd, z = fun _ => none := ⟨_, rfl⟩
  have hm : mS B D CLS s.heap w s.heap [] := ⟨⟨by rw [hB]; exact Nat.le_refl _, fun a x h => by rw [hw] at h; cases h⟩, va_S.rf⟩
  have hl := lv_entry ([.ref b]) (n := 7) (Nat.le_of_ble_eq_true rfl)
  rw [lg_entry_eq]
  generalize (lg_sl ([.ref b]) ++ List.replicate (7 - (lg_sl ([.ref b])).length) Slot.unset).toArray = ls at hl ⊢
  have hl : lv_has ls 7 [(0, .ref b)] := hl
  generalize ([] : List Loc) = locs at hm ⊢
  refine mnew (C := "ChainPicker") (T := T_C) (N := 3) (ci := 1) (fs := DEFC) hx hb hE.2.1 (fun w h => List.mem_cons_of_mem _ (i_C w h)) t_C t_C_ok hE.1 (hE.2.1 _ (List.mem_cons_of_mem _ q_10)) (hE.2.1 _ (List.mem_cons_of_mem _ q_11)) (hE.2.1 _ (List.mem_cons_of_mem _ q_1)) hE.2.2.1 hm rfl defC (Nat.le_of_ble_eq_true rfl) (Nat.le_of_ble_eq_true rfl) dL_law_0 (fun q1 H hq1 hm => ?_)
  obtain ⟨w1, hhw1⟩ : ∃ z : Wd, z = wset w (q1) (.inr (1, DEFC)) := ⟨_, rfl⟩
  have hm : mS B D CLS s.heap w1 H locs := by rw [hhw1]; exact hm
  have hw1 : w1 = wset (w) (q1) (.inr (1, DEFC)) := by rw [hhw1]
  have fw1 : w1 (q1) = some (.inr (1, DEFC)) := by rw [hhw1]; exact wset_at _ _ _
  refine lv_dup hx hb dL_law_3 rfl ?_
  refine mcallv (mcI (n := 0) (As := []) (rest := [.ref (q1)]) hx hb hml hE (kC_init l B D cI cZ cL w1 q1 0 0 none fw1) q_12 q_13 q_1 q_14 rfl rfl rfl (by decide +kernel) ⟨Nat.le_of_ble_eq_true rfl, Nat.le_of_ble_eq_true rfl⟩ rfl hl.1 hm rfl (Nat.le_of_ble_eq_true rfl) dL_law_4 ⟨Nat.le_of_ble_eq_true rfl, Nat.le_of_ble_eq_true rfl⟩) hm (fun u9 H locs hp9 hm => ?_)
  rw [hp9] at hm
  obtain ⟨w2, hhw2⟩ : ∃ z : Wd, z = wset w1 (q1) (.inr (1, [.int (0), .int (0), va_rf (none)])) := ⟨_, rfl⟩
  have hm : mS B D CLS s.heap w2 H locs := by rw [hhw2]; exact hm
  have hw2 : w2 = wset (w) (q1) (.inr (1, [.int (0), .int (0), va_rf (none)])) := by rw [hhw2, hw1]; funext z; by_cases hz : z = q1 <;> simp [wset, hz]
  have fw2 : w2 (q1) = some (.inr (1, [.int (0), .int (0), va_rf (none)])) := by rw [hhw2]; exact wset_at _ _ _
  refine lv_astore_n (lv' := [(1, .ref (q1)), (0, .ref (b))]) hx hb dL_law_7 rfl hl (by decide) rfl (fun ls hl => ?_)
  refine mnew (C := "ChainPickerModel") (T := T_M) (N := 12) (ci := 2) (fs := DEFM) hx hb hE.2.1 (fun w h => List.mem_cons_of_mem _ (i_M w h)) t_M t_M_ok hE.1 (hE.2.1 _ (List.mem_cons_of_mem _ q_295)) (hE.2.1 _ (List.mem_cons_of_mem _ q_296)) (hE.2.1 _ (List.mem_cons_of_mem _ q_2)) hE.2.2.1 hm rfl defM (Nat.le_of_ble_eq_true rfl) (Nat.le_of_ble_eq_true rfl) dL_law_8 (fun q3 H hq3 hm => ?_)
  have nq3_0 : q1 ≠ q3 := fun e => by have h := fw2; rw [e, hq3] at h; cases h
  obtain ⟨w3, hhw3⟩ : ∃ z : Wd, z = wset w2 (q3) (.inr (2, DEFM)) := ⟨_, rfl⟩
  have hm : mS B D CLS s.heap w3 H locs := by rw [hhw3]; exact hm
  have hw3 : w3 = wset (wset (w) (q1) (.inr (1, [.int (0), .int (0), va_rf (none)]))) (q3) (.inr (2, DEFM)) := by rw [hhw3, hw2]
  have fw3 : w3 (q3) = some (.inr (2, DEFM)) := by rw [hhw3]; exact wset_at _ _ _
  have fw3_1 := (show w3 (q1) = w2 (q1) by rw [hhw3]; exact wset_ne nq3_0).trans fw2
  refine lv_dup hx hb dL_law_11 rfl ?_
  refine mcallv (mcI (n := 0) (As := []) (rest := [.ref (q3)]) hx hb hml hE (kM_init l B D cI cZ cL w3 q3 fw3) q_297 q_298 q_2 q_299 rfl rfl rfl (by decide +kernel) ⟨Nat.le_of_ble_eq_true rfl, Nat.le_of_ble_eq_true rfl⟩ rfl hl.1 hm rfl (Nat.le_of_ble_eq_true rfl) dL_law_12 ⟨Nat.le_of_ble_eq_true rfl, Nat.le_of_ble_eq_true rfl⟩) hm (fun u9 H locs hp9 hm => ?_)
  obtain ⟨as, has, hRa, hfr⟩ := hp9
  have hno1 : ¬ rF q3 as q1 := by
    rintro (e9 | ⟨i, hi, e9⟩)
    · exact nq3_0 e9
    · have h := has i hi
      rw [← e9, fw3_1] at h
      cases h
  have foo := (hfr q1 hno1).trans fw3_1
  refine lv_astore_n (lv' := [(2, .ref (q3)), (1, .ref (q1)), (0, .ref (b))]) hx hb dL_law_15 rfl hl (by decide) rfl (fun ls hl => ?_)
  refine lv_iconst (v := 1) hx hb dL_law_16 (by decide) ?_
  refine mnewa (atype := .long) (cI := cL) (ty := .long) (N' := 1) (a0 := (1, .inr (.inl (fun _ => 0)))) hx hb (hE.2.1 _ (List.mem_cons_of_mem _ q_433)) rfl hE.2.2.1 hm 2 rfl (fun C h => by cases h) (fun _ => rfl) (by decide) (by decide) (by decide) (Nat.le_of_ble_eq_true rfl) (Nat.le_of_ble_eq_true rfl) dL_law_17 (fun q4 H hq4 hm => ?_)
  have nq4_0 : q1 ≠ q4 := fun e => by have h := foo; rw [e, hq4] at h; cases h
  have nq4_1 : q3 ≠ q4 := fun e => by have h := (hRa (fun _ => (0, 0, false, none, 0, 0, 0, false, fun _ => 0))).1; rw [e, hq4] at h; cases h
  obtain ⟨w4, hhw4⟩ : ∃ z : Wd, z = wset u9 (q4) (.inl (cL, 1, .inr (.inl (fun _ => 0)))) := ⟨_, rfl⟩
  have hm : mS B D CLS s.heap w4 H locs := by rw [hhw4]; exact hm
  have hw4 : w4 = wset (u9) (q4) (.inl (cL, 1, .inr (.inl (fun _ => 0)))) := by rw [hhw4]
  have fw4 : w4 (q4) = some (.inl (cL, 1, .inr (.inl (fun _ => 0)))) := by rw [hhw4]; exact wset_at _ _ _
  have fw4_1 := (show w4 (q1) = u9 (q1) by rw [hhw4]; exact wset_ne nq4_0).trans foo
  have fw4_2 := (show w4 (q3) = u9 (q3) by rw [hhw4]; exact wset_ne nq4_1).trans (hRa (fun _ => (0, 0, false, none, 0, 0, 0, false, fun _ => 0))).1
  refine lv_astore_n (lv' := [(3, .ref (q4)), (2, .ref (q3)), (1, .ref (q1)), (0, .ref (b))]) hx hb dL_law_19 rfl hl (by decide) rfl (fun ls hl => ?_)
  refine lv_iconst (v := 0) hx hb dL_law_20 (by decide) ?_
  refine lv_istore (lv' := [(4, .int (0)), (3, .ref (q4)), (2, .ref (q3)), (1, .ref (q1)), (0, .ref (b))]) hx hb dL_law_21 hl (by decide) rfl (fun ls hl => ?_)
  have hnr : ∀ q, rF q3 as q → q ≠ q4 := fun q hq e9 => (hRa (fun _ => (0, 0, false, none, 0, 0, 0, false, fun _ => 0))).some hq (by rw [e9]; exact hq4)
  have hC : cR cI q1 (fun _ => 0) (fun _ => 0) 0 0 (fun _ => (0, 0, false, none, 0, 0, 0, false, fun _ => 0)) w4 := ⟨by rw [nI_0]; exact fw4_1, fun i hi => absurd hi (Nat.not_lt_zero i), fun i hi => absurd hi (Nat.not_lt_zero i), fun i j hi => absurd hi (Nat.not_lt_zero i), fun i j hi => absurd hi (Nat.not_lt_zero i), fun i hi => absurd hi (Nat.not_lt_zero i), by decide⟩
  have hRR : rR cI cZ q3 as (fun _ _ => 0) 0 0 0 (fun _ => (0, 0, false, none, 0, 0, 0, false, fun _ => 0)) w4 := (hRa (fun _ => (0, 0, false, none, 0, 0, 0, false, fun _ => 0))).keep (fun q hq => by rw [hw4]; exact wset_ne (hnr q hq))
  have hI : LI cI cZ cL q1 q3 q4 w4 := by
    refine ⟨fun _ => 0, fun _ => 0, as, fun _ _ => 0, fun _ => 0, 0, 0, 0, (fun _ => (0, 0, false, none, 0, 0, 0, false, fun _ => 0)), hC, hRR, ⟨fun i j _ hj => absurd hj (Nat.not_lt_zero j), fun i hi => absurd hi (Nat.not_lt_zero i), fun i hi => absurd hi (Nat.not_lt_zero i)⟩, by decide, fw4, ?_, ?_, ?_⟩
    · rintro q (rfl | ⟨i, hi, -⟩)
      · exact hno1
      · exact absurd hi (Nat.not_lt_zero i)
    · rintro (e9 | ⟨i, hi, -⟩)
      · exact nq4_0 e9.symm
      · exact absurd hi (Nat.not_lt_zero i)
    · exact fun h => hnr _ h rfl
  refine W.widen (k := 12 + 2 * 0) (n := 11616 + 62 * 0) (Nat.le_of_ble_eq_true rfl) (Nat.le_of_ble_eq_true rfl) ?_
  exact law_loop hst hx hb hml hE hX hbl hbB hXX hL hB hr hlk (L + 4) 0 (by omega) (by omega) w4 H locs ls hI hm (by rw [Nat.mul_zero, nI_0]; exact lv_sub hl [0, 1, 2, 3, 4] rfl)
