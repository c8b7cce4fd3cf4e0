set_option maxHeartbeats 4000000 in
set_option maxRecDepth 100000 in
/-- Arrays.fill: the whole array holds v -/
theorem kF_fill (l : Launch) (B : Nat) (D : va_G) (cI cZ cL : ClassId) (w : Wd) (a : Nat) (v : Int32) (N : Nat) (f : Nat → Int32) (hNN : N < 2 ^ 31) (ha : w a = some (.inl (cI, N, .inl f))) : Met l yF_fill (.code yF_fill cF_fill 4 none :: BIG) { frames := 0, cells := 0, slots := 0, locals := 0 } (va_Pc [.ref (a), .int (v)] (mP B D CLS (TYS cI cZ cL) NEST w)) (va_Qv (fun u => u = wset w a (.inl (cI, N, .inl (fun _ => v)))) (mE B D CLS) (fun q => B ≤ q)) 0 0 (fun q => B ≤ q) := by
  refine mMet (by decide) rfl (Nat.le_of_ble_eq_true rfl) ?_
  intro p e s m below meth c ls hx hb hml hr hlk hnm hown hts hK hN hm hl
  have hE : ME "java/util/Arrays" (.code yF_fill cF_fill 4 none) _ s m D (TYS cI cZ cL) := ⟨hown, hts, hK, hN⟩
  have hl : lv_has ls 4 [(0, .ref (a)), (1, .int (v))] := hl
  refine lv_iconst (v := 0) hx hb dF_fill_0 (by decide) ?_
  refine lv_istore_n (lv' := [(2, .int 0), (0, .ref a), (1, .int v)]) hx hb dF_fill_1 rfl hl (by decide) rfl (fun ls hl => ?_)
  refine lv_aload_n hx hb dF_fill_2 rfl (lv_at hl 1 rfl) ?_
  refine malen (v := nI N) hx hb hE.2.2.1 hm 0 ha rfl rfl dF_fill_3 ?_
  refine lv_istore_n (lv' := [(3, .int (nI N)), (2, .int 0), (0, .ref a), (1, .int v)]) hx hb dF_fill_4 rfl hl (by decide) rfl (fun ls hl => ?_)
  have loop : ∀ (d i : Nat) (g : Nat → Int32), i + d = N → (∀ j, j < i → g j = v) → ∀ (u : Wd) (H : Heap) (locs : List Loc) (ls : Array Slot), u = wset w a (.inl (cI, N, .inl g)) → mS B D CLS s.heap u H locs → lv_has ls 4 [(2, .int (nI i)), (3, .int (nI N)), (0, .ref a), (1, .int v)] → W p l e { frames := 0, cells := 0, slots := 0, locals := 0 } s m [.ref a, .int v].toArray below meth c H locs 0 0 (MQ below (va_Qv (fun u => u = wset w a (.inl (cI, N, .inl (fun _ => v)))) (mE B D CLS) (fun q => B ≤ q)) [.ref a, .int v].toArray s 0 0 (fun q => B ≤ q)) (F0 m 5 ls []) := by
    intro d
    induction d with
    | zero =>
      intro i g hi hg u H locs ls hu hm hl
      refine lv_iload_n hx hb dF_fill_5 rfl (lv_at hl 0 rfl) ?_
      refine lv_iload_n hx hb dF_fill_6 rfl (lv_at hl 1 rfl) ?_
      refine lv_icmp_ge (tgt := 20) hx hb dF_fill_7 (by decide) (fun c_7 => ?_) (fun c_7 => ?_)
      · rw [hu] at hm
        have hm := hm.agree (g := fun _ => v) (fun j hj => hg j (by omega))
        exact mretv hx hb hr hlk hm rfl dF_fill_20
      · exact absurd (nI_le (by omega) (by omega)) c_7
    | succ d ih =>
      intro i g hi hg u H locs ls hu hm hl
      refine lv_iload_n hx hb dF_fill_5 rfl (lv_at hl 0 rfl) ?_
      refine lv_iload_n hx hb dF_fill_6 rfl (lv_at hl 1 rfl) ?_
      refine lv_icmp_ge (tgt := 20) hx hb dF_fill_7 (by decide) (fun c_7 => ?_) (fun c_7 => ?_)
      · exact absurd c_7 (nI_ge (by omega) (by omega))
      · refine lv_aload_n hx hb dF_fill_10 rfl (lv_at hl 2 rfl) ?_
        refine lv_iload_n hx hb dF_fill_11 rfl (lv_at hl 0 rfl) ?_
        refine lv_iload_n hx hb dF_fill_12 rfl (lv_at hl 3 rfl) ?_
        have hua : u a = some (.inl (cI, N, .inl g)) := by rw [hu]; exact wset_at _ _ _
        refine miast hx hb hE.2.2.1 hm 0 hua rfl (vp_in_nI (by omega) hNN) dF_fill_13 (fun H locs hm => ?_)
        refine lv_iinc (v := nI i + 1) (lv' := [(2, .int (nI i + 1)), (3, .int (nI N)), (0, .ref a), (1, .int v)]) hx hb dF_fill_14 hl (k := 0) rfl rfl (by decide) rfl (fun ls hl => ?_)
        refine lv_goto (tgt := 5) hx hb dF_fill_17 (by decide) ?_
        rw [nI_1] at hl
        refine ih (i + 1) (upd g i v) (by omega) (fun j hj => ?_) _ H locs ls ?_ hm hl
        · by_cases hji : j = i
          · simp [upd, hji]
          · simp [upd, hji]; exact hg j (by omega)
        · rw [hu, wset_wset, nI_clamp (by omega)]
  exact loop N 0 f (by omega) (fun j hj => by omega) w _ _ ls (wset_self ha).symm hm (by rw [nI_0]; exact lv_sub hl [1, 0, 2, 3] rfl)
set_option maxHeartbeats 4000000 in
set_option maxRecDepth 100000 in
/-- ChainPicker() -/
theorem kC_init (l : Launch) (B : Nat) (D : va_G) (cI cZ cL : ClassId) (w : Wd) (o : Nat) (x0 x1 : Int32) (x2 : Option Nat) (ho : w o = some (.inr (1, [.int x0, .int x1, va_rf x2]))) : Met l yC_init (.code yC_init cC_init 1 none :: BIG) { frames := 1, cells := 0, slots := 0, locals := 12 } (va_Pc [.ref (o)] (mP B D CLS (TYS cI cZ cL) NEST w)) (va_Qv (fun u => u = wset w o (.inr (1, [.int 0, .int 0, va_rf none]))) (mE B D CLS) (fun q => B ≤ q)) 0 0 (fun q => B ≤ q) := by
  refine mMet (by decide) rfl (Nat.le_of_ble_eq_true rfl) ?_
  intro p e s m below meth c ls hx hb hml hr hlk hnm hown hts hK hN hm hl
  have hE : ME "ChainPicker" (.code yC_init cC_init 1 none) _ s m D (TYS cI cZ cL) := ⟨hown, hts, hK, hN⟩
  have hl : lv_has ls 1 [(0, .ref (o))] := hl
  refine lv_aload_n hx hb dC_init_0 rfl (lv_at hl 0 rfl) ?_
  refine W.objInit hx hb hE.1 (hE.2.1 _ (List.mem_cons_of_mem _ q_15)) (hE.2.1 _ (List.mem_cons_of_mem _ q_16)) (hE.2.1 _ (List.mem_cons_of_mem _ q_17)) rfl (by rw [hml]; exact hl.1) rfl dC_init_1 (Nat.le_of_ble_eq_true rfl) (Nat.le_of_ble_eq_true rfl) ?_
  refine W.eq (g2 := F0 m 4 ls []) rfl ?_
  refine lv_aload_n hx hb dC_init_4 rfl (lv_at hl 0 rfl) ?_
  refine lv_iconst (v := 0) hx hb dC_init_5 (by decide) ?_
  refine p_C_C_9 (x := 0) hx hb hE hm ho (by simp) dC_init_6 (fun H locs hm => ?_)
  obtain ⟨w1, hhw1⟩ : ∃ z : Wd, z = wset w (o) (.inr (1, [.int (0), .int (x1), va_rf (x2)])) := ⟨_, rfl⟩
  have hm : mS B D CLS s.heap w1 H locs := by rw [hhw1]; exact hm
  have hw1 : w1 = wset (w) (o) (.inr (1, [.int (0), .int (x1), va_rf (x2)])) := by rw [hhw1]
  have fw1 : w1 (o) = some (.inr (1, [.int (0), .int (x1), va_rf (x2)])) := by rw [hhw1]; exact wset_at _ _ _
  refine lv_aload_n hx hb dC_init_9 rfl (lv_at hl 0 rfl) ?_
  refine lv_iconst (v := 0) hx hb dC_init_10 (by decide) ?_
  refine p_C_C_13 (x := 0) hx hb hE hm fw1 (by simp) dC_init_11 (fun H locs hm => ?_)
  obtain ⟨w2, hhw2⟩ : ∃ z : Wd, z = wset w1 (o) (.inr (1, [.int (0), .int (0), va_rf (x2)])) := ⟨_, rfl⟩
  have hm : mS B D CLS s.heap w2 H locs := by rw [hhw2]; exact hm
  have hw2 : w2 = wset (w) (o) (.inr (1, [.int (0), .int (0), va_rf (x2)])) := by rw [hhw2, hw1]; funext z; by_cases hz : z = o <;> simp [wset, hz]
  have fw2 : w2 (o) = some (.inr (1, [.int (0), .int (0), va_rf (x2)])) := by rw [hhw2]; exact wset_at _ _ _
  refine lv_aload_n hx hb dC_init_14 rfl (lv_at hl 0 rfl) ?_
  refine lv_null hx hb dC_init_15 ?_
  refine p_C_C_16 (r := none) hx hb hE hm fw2 (by simp) dC_init_16 (fun H locs hm => ?_)
  obtain ⟨w3, hhw3⟩ : ∃ z : Wd, z = wset w2 (o) (.inr (1, [.int (0), .int (0), va_rf (none)])) := ⟨_, rfl⟩
  have hm : mS B D CLS s.heap w3 H locs := by rw [hhw3]; exact hm
  have hw3 : w3 = wset (w) (o) (.inr (1, [.int (0), .int (0), va_rf (none)])) := by rw [hhw3, hw2]; funext z; by_cases hz : z = o <;> simp [wset, hz]
  have fw3 : w3 (o) = some (.inr (1, [.int (0), .int (0), va_rf (none)])) := by rw [hhw3]; exact wset_at _ _ _
  exact mretv hx hb hr hlk hm hw3 dC_init_19
set_option maxHeartbeats 4000000 in
set_option maxRecDepth 100000 in
theorem kC_countTold (l : Launch) (B : Nat) (D : va_G) (cI cZ cL : ClassId) (w : Wd) (a : Nat) (x0 x1 x2 x3 : Int32) (x4 : Option Nat) (x5 : Int32) (x6 : Option Nat) (x7 : Nat) (x8 x9 x10 x11 : Int32) (ha : w a = some (.inr (0, [.int (x0), .int (x1), .int (x2), .int (x3), va_rf (x4), .int (x5), va_rf (x6), .ref (x7), .int (x8), .int (x9), .int (x10), .int (x11)]))) (f : Nat → Int32) (hf : w x7 = some (.inl (cI, 50, .inl f))) : Met l yC_countTold (.code yC_countTold cC_countTold 3 (some .int) :: BIG) { frames := 0, cells := 0, slots := 0, locals := 0 } (va_Pc [.ref (a)] (mP B D CLS (TYS cI cZ cL) NEST w)) (va_Qi (fun r u => r = nI (cnt (fun j => decide (f j ≠ -2)) 50) ∧ u = w) (mE B D CLS) (fun q => B ≤ q)) 0 0 (fun q => B ≤ q) := by
  refine mMet (by decide) rfl (Nat.le_of_ble_eq_true rfl) ?_
  intro p e s m below meth c ls hx hb hml hr hlk hnm hown hts hK hN hm hl
  have hE : ME "ChainPicker" (.code yC_countTold cC_countTold 3 (some .int)) _ s m D (TYS cI cZ cL) := ⟨hown, hts, hK, hN⟩
  have hl : lv_has ls 3 [(0, .ref (a))] := hl
  have loop : ∀ (d i : Nat), i + d = 50 → ∀ (x : Int32), x = nI (cnt (fun j => decide (f j ≠ -2)) i) → ∀ (H : Heap) (locs : List Loc) (ls : Array Slot), mS B D CLS s.heap w H locs → lv_has ls 3 [(2, .int (nI i)), (1, .int (x)), (0, .ref (a))] → W p l e ({ frames := 0, cells := 0, slots := 0, locals := 0 }) s m [.ref (a)].toArray below meth c H locs 0 0 (MQ below (va_Qi (fun r u => r = nI (cnt (fun j => decide (f j ≠ -2)) 50) ∧ u = w) (mE B D CLS) (fun q => B ≤ q)) [.ref (a)].toArray s 0 0 (fun q => B ≤ q)) (F0 m 4 ls []) := by
    intro d
    induction d with
    | zero =>
      intro i hi x hx0 H locs ls hm hl
      refine lv_iload_n hx hb dC_countTold_4 rfl (lv_at hl 0 rfl) ?_
      refine lv_bipush (v := 50) hx hb dC_countTold_5 (by decide) ?_
      refine lv_icmp_ge (tgt := 30) hx hb dC_countTold_7 (by decide) (fun c_7 => ?_) (fun c_7 => ?_)
      · refine lv_iload_n hx hb dC_countTold_30 rfl (lv_at hl 1 rfl) ?_
        exact mreti hx hb hr hlk hm ⟨by rw [hx0, show i = 50 by omega], rfl⟩ dC_countTold_31
      · exact absurd (nI_le (a := 50) (b := i) (by omega) (by omega)) c_7
    | succ d ih =>
      intro i hi x hx0 H locs ls hm hl
      have hiN : i < 50 := by omega
      refine lv_iload_n hx hb dC_countTold_4 rfl (lv_at hl 0 rfl) ?_
      refine lv_bipush (v := 50) hx hb dC_countTold_5 (by decide) ?_
      refine lv_icmp_ge (tgt := 30) hx hb dC_countTold_7 (by decide) (fun c_7 => ?_) (fun c_7 => ?_)
      · exact absurd c_7 (nI_ge (a := i) (b := 50) (by omega) (by omega))
      · refine lv_aload_n hx hb dC_countTold_10 rfl (lv_at hl 2 rfl) ?_
        refine g_C_J_69 (v := .ref (x7)) hx hb hE hm ha rfl dC_countTold_11 ?_
        refine lv_iload_n hx hb dC_countTold_14 rfl (lv_at hl 0 rfl) ?_
        refine ialdE (i) hx hb hE.2.2.1 hm 0 hf rfl rfl (by omega) (by decide) dC_countTold_15 ?_
        refine lv_bipush (v := (-2)) hx hb dC_countTold_16 (by decide) ?_
        refine lv_icmp_eq (tgt := 24) hx hb dC_countTold_18 (by decide) (fun c_18 => ?_) (fun c_18 => ?_)
        · refine lv_iinc (v := nI i + 1) (lv' := [(2, .int (nI i + 1)), (1, .int (x)), (0, .ref (a))]) hx hb dC_countTold_24 hl (k := 0) rfl rfl (by decide) rfl (fun ls hl => ?_)
          refine lv_goto (tgt := 4) hx hb dC_countTold_27 (by decide) ?_
          rw [nI_1] at hl
          exact ih (i + 1) (by omega) (x) (cntU_f hx0 (by simp [c_7, c_18, dec_0, bI_0, ← Int32.not_lt])) H locs ls hm (lv_sub hl [0, 1, 2] rfl)
        · refine lv_iinc (v := x + 1) (lv' := [(1, .int (x + 1)), (2, .int (nI i)), (0, .ref (a))]) hx hb dC_countTold_21 hl (k := 1) rfl rfl (by decide) rfl (fun ls hl => ?_)
          refine lv_iinc (v := nI i + 1) (lv' := [(2, .int (nI i + 1)), (1, .int (x + 1)), (0, .ref (a))]) hx hb dC_countTold_24 hl (k := 1) rfl rfl (by decide) rfl (fun ls hl => ?_)
          refine lv_goto (tgt := 4) hx hb dC_countTold_27 (by decide) ?_
          rw [nI_1] at hl
          exact ih (i + 1) (by omega) (x + 1) (cntU_t hx0 (by simp [c_7, c_18, dec_0, bI_0, ← Int32.not_lt])) H locs ls hm (lv_sub hl [0, 1, 2] rfl)
  refine lv_iconst (v := 0) hx hb dC_countTold_0 (by decide) ?_
  refine lv_istore_n (lv' := [(1, .int (0)), (0, .ref (a))]) hx hb dC_countTold_1 rfl hl (by decide) rfl (fun ls hl => ?_)
  refine lv_iconst (v := 0) hx hb dC_countTold_2 (by decide) ?_
  refine lv_istore_n (lv' := [(2, .int (0)), (1, .int (0)), (0, .ref (a))]) hx hb dC_countTold_3 rfl hl (by decide) rfl (fun ls hl => ?_)
  exact loop 50 0 (by omega) 0 rfl _ _ ls hm (by rw [nI_0]; exact hl)
