set_option maxHeartbeats 4000000 in
set_option maxRecDepth 100000 in
theorem kL_pass (l : Launch) (hst : l.stackTraces = false) (B : Nat) (D : va_G) (cI cZ cL : ClassId) (sa : Nat → Nat) (w : Wd) (o : Nat) (ad va : Nat → Nat) (now : Int32) (n : Nat) (J : Nat → Jr) (hR : cR cI o ad va now n J w) (ob : Nat) (fo : Nat → Int64) (hob : w ob = some (.inl (cL, 1, .inr (.inl fo)))) (hnob : ¬ cF o ad va n ob) (x : Int32) : Met l yL_pass (.codeWith yL_pass cL_pass 4 (some .int) [(0, 9, 12, 13)] :: BIG) { frames := 7, cells := 1, slots := 6, locals := 103 } (va_Pc [.ref (o), .int (x), .ref (ob)] (mPX B D CLS (TYS cI cZ cL) NEST sa w)) (va_Qi (fun z u => (z = 0 ∧ pOk now x = true ∧ cR cI o ad va (now + x) n J u ∧ (∃ f2, u ob = some (.inl (cL, 1, .inr (.inl f2))) ∧ f2 0 = (now + x).toInt64) ∧ ∀ q, ¬ cF o ad va n q → q ≠ ob → u q = w q) ∨ (z = 1 ∧ pOk now x = false ∧ u = w)) (mE B D CLS) (fun q => B ≤ q)) 1 6 (fun q => B ≤ q) := by
  refine mMetH (by decide) rfl (Nat.le_of_ble_eq_true rfl) ?_
  intro p e s m below meth c ls hx hb hml hr hlk hnm hown hts hK hN hX htab hm hl
  have hE : ME "ChainPickerLaw" (.codeWith yL_pass cL_pass 4 (some .int) [(0, 9, 12, 13)]) _ s m D (TYS cI cZ cL) := ⟨hown, hts, hK, hN⟩
  have hl : lv_has ls 4 [(0, .ref (o)), (1, .int (x)), (2, .ref (ob))] := hl
  refine lv_aload_n hx hb dL_pass_0 rfl (lv_at hl 2 rfl) ?_
  refine lv_iconst (v := 0) hx hb dL_pass_1 (by decide) ?_
  refine lv_aload_n hx hb dL_pass_2 rfl (lv_at hl 0 rfl) ?_
  refine lv_iload_n hx hb dL_pass_3 rfl (lv_at hl 1 rfl) ?_
  refine mxcalli (mxV (n := 1) (As := [.int (x)]) (rest := [.int (0), .ref (ob)]) hx hb hml hown hts hK hN hX (kC_pass l hst B D cI cZ cL sa w o ad va now n J hR x) q_187 q_188 q_189 q_1 q_190 rfl rfl (by decide +kernel) ⟨Nat.le_of_ble_eq_true rfl, Nat.le_of_ble_eq_true rfl⟩ rfl hl.1 hm rfl hR.1 rfl (Nat.le_of_ble_eq_true rfl) dL_pass_4 ⟨Nat.le_of_ble_eq_true rfl, Nat.le_of_ble_eq_true rfl⟩) hm (fun ce q9 u1 H locs hp hm hce hcv hcl => ?_) (fun r1 u1 H locs hp hm => ?_)
  · obtain ⟨hp1, hu⟩ := hp
    rw [hu] at hm
    refine vx_catch (name := "java/lang/IllegalArgumentException") hown [] ⟨0, 9, 12, 13⟩ [] (by rw [htab]; rfl) (fun z hz => nomatch hz) (by decide) (by decide) (hts _ (List.mem_cons_of_mem _ q_186)) (va_Nw.use rfl (hN _ (List.mem_of_getElem? (i := 13) rfl))) hce hcv hcl ?_
    show W _ _ _ _ _ _ _ _ _ _ _ _ _ _ _ (F0 m 12 ls [.ref q9])
    refine lv_astore_n (lv' := [(3, .ref (q9)), (0, .ref (o)), (1, .int (x)), (2, .ref (ob))]) hx hb dL_pass_12 rfl hl (by decide) rfl (fun ls hl => ?_)
    refine lv_iconst (v := 1) hx hb dL_pass_13 (by decide) ?_
    exact mreti hx hb hr hlk hm (Or.inr ⟨rfl, hp1, rfl⟩) dL_pass_14
  · obtain ⟨hp1, hp2, hp3, hp4⟩ := hp
    have hob1 := (hp4 ob hnob).trans hob
    refine lv_i2l (v := (r1).toInt64) hx hb dL_pass_7 rfl ?_
    refine mlast hx hb hE.2.2.1 hm 2 hob1 rfl (by unfold vp_in; decide) dL_pass_8 (fun H locs hm => ?_)
    obtain ⟨w1, hhw1⟩ : ∃ z : Wd, z = wset u1 (ob) (.inl (cL, 1, .inr (.inl (vp_updL (fo) (0 : Int32).toNatClampNeg ((r1).toInt64))))) := ⟨_, rfl⟩
    have hm : mS B D CLS s.heap w1 H locs := by rw [hhw1]; exact hm
    have hw1 : w1 = wset (u1) (ob) (.inl (cL, 1, .inr (.inl (vp_updL (fo) (0 : Int32).toNatClampNeg ((r1).toInt64))))) := by rw [hhw1]
    have fw1 : w1 (ob) = some (.inl (cL, 1, .inr (.inl (vp_updL (fo) (0 : Int32).toNatClampNeg ((r1).toInt64))))) := by rw [hhw1]; exact wset_at _ _ _
    refine lv_goto (tgt := 15) hx hb dL_pass_9 (by decide) ?_
    refine lv_iconst (v := 0) hx hb dL_pass_15 (by decide) ?_
    exact mreti hx hb hr hlk hm (Or.inl ⟨rfl, hp1, (hp3).keep (fun q hq => by rw [hw1, wset_ne (fun e => hnob (by rw [← e]; exact hq))]), ⟨_, by rw [hw1]; exact wset_at _ _ _, by simp [vp_updL, hp2]⟩, fun q h1 h2 => by rw [hw1, wset_ne h2]; exact hp4 q h1⟩) dL_pass_16
set_option maxHeartbeats 4000000 in
set_option maxRecDepth 100000 in
theorem kL_link (l : Launch) (hst : l.stackTraces = false) (B : Nat) (D : va_G) (cI cZ cL : ClassId) (sa : Nat → Nat) (w : Wd) (o : Nat) (ad va : Nat → Nat) (now : Int32) (n : Nat) (J : Nat → Jr) (hR : cR cI o ad va now n J w) (ob : Nat) (fo : Nat → Int64) (hob : w ob = some (.inl (cL, 1, .inr (.inl fo)))) (hnob : ¬ cF o ad va n ob) (x t z : Int32) : Met l yL_link (.codeWith yL_link cL_link 6 (some .int) [(0, 12, 15, 19)] :: BIG) { frames := 7, cells := 1, slots := 6, locals := 107 } (va_Pc [.ref (o), .int (x), .int (t), .int (z), .ref (ob)] (mPX B D CLS (TYS cI cZ cL) NEST sa w)) (va_Qi (fun y u => (y = 0 ∧ cR cI o ad va now n J u ∧ (∃ j, lk (chn J n (hd n J x t)) 0 z = some j ∧ ∃ f2, u ob = some (.inl (cL, 1, .inr (.inl f2))) ∧ f2 0 = (nI j).toInt64) ∧ ∀ q, ¬ cF o ad va n q → q ≠ ob → u q = w q) ∨ (y = 1 ∧ lk (chn J n (hd n J x t)) 0 z = none ∧ u = w)) (mE B D CLS) (fun q => B ≤ q)) 1 6 (fun q => B ≤ q) := by
  refine mMetH (by decide) rfl (Nat.le_of_ble_eq_true rfl) ?_
  intro p e s m below meth c ls hx hb hml hr hlk hnm hown hts hK hN hX htab hm hl
  have hE : ME "ChainPickerLaw" (.codeWith yL_link cL_link 6 (some .int) [(0, 12, 15, 19)]) _ s m D (TYS cI cZ cL) := ⟨hown, hts, hK, hN⟩
  have hl : lv_has ls 6 [(0, .ref (o)), (1, .int (x)), (2, .int (t)), (3, .int (z)), (4, .ref (ob))] := hl
  refine lv_aload hx hb dL_link_0 (lv_at hl 4 rfl) ?_
  refine lv_iconst (v := 0) hx hb dL_link_2 (by decide) ?_
  refine lv_aload_n hx hb dL_link_3 rfl (lv_at hl 0 rfl) ?_
  refine lv_iload_n hx hb dL_link_4 rfl (lv_at hl 1 rfl) ?_
  refine lv_iload_n hx hb dL_link_5 rfl (lv_at hl 2 rfl) ?_
  refine lv_iload_n hx hb dL_link_6 rfl (lv_at hl 3 rfl) ?_
  refine mxcalli (mxV (n := 3) (As := [.int (x), .int (t), .int (z)]) (rest := [.int (0), .ref (ob)]) hx hb hml hown hts hK hN hX (kC_link l hst B D cI cZ cL sa w o ad va now n J hR x t z) q_263 q_264 q_265 q_1 q_266 rfl rfl (by decide +kernel) ⟨Nat.le_of_ble_eq_true rfl, Nat.le_of_ble_eq_true rfl⟩ rfl hl.1 hm rfl hR.1 rfl (Nat.le_of_ble_eq_true rfl) dL_link_7 ⟨Nat.le_of_ble_eq_true rfl, Nat.le_of_ble_eq_true rfl⟩) hm (fun ce q9 u1 H locs hp hm hce hcv hcl => ?_) (fun r1 u1 H locs hp hm => ?_)
  · obtain ⟨hp1, hu⟩ := hp
    rw [hu] at hm
    refine vx_catch (name := "java/lang/IndexOutOfBoundsException") hown [] ⟨0, 12, 15, 19⟩ [] (by rw [htab]; rfl) (fun z hz => nomatch hz) (by decide) (by decide) (hts _ (List.mem_cons_of_mem _ q_262)) (va_Nw.use rfl (hN _ (List.mem_of_getElem? (i := 20) rfl))) hce hcv hcl ?_
    show W _ _ _ _ _ _ _ _ _ _ _ _ _ _ _ (F0 m 15 ls [.ref q9])
    refine lv_astore (lv' := [(5, .ref (q9)), (0, .ref (o)), (1, .int (x)), (2, .int (t)), (3, .int (z)), (4, .ref (ob))]) hx hb dL_link_15 hl (by decide) rfl (fun ls hl => ?_)
    refine lv_iconst (v := 1) hx hb dL_link_17 (by decide) ?_
    exact mreti hx hb hr hlk hm (Or.inr ⟨rfl, hp1, rfl⟩) dL_link_18
  · obtain ⟨⟨j, hp1, hp2⟩, hu⟩ := hp
    rw [hu] at hm
    have hob1 := hob
    refine lv_i2l (v := (r1).toInt64) hx hb dL_link_10 rfl ?_
    refine mlast hx hb hE.2.2.1 hm 2 hob1 rfl (by unfold vp_in; decide) dL_link_11 (fun H locs hm => ?_)
    obtain ⟨w1, hhw1⟩ : ∃ z : Wd, z = wset w (ob) (.inl (cL, 1, .inr (.inl (vp_updL (fo) (0 : Int32).toNatClampNeg ((r1).toInt64))))) := ⟨_, rfl⟩
    have hm : mS B D CLS s.heap w1 H locs := by rw [hhw1]; exact hm
    have hw1 : w1 = wset (w) (ob) (.inl (cL, 1, .inr (.inl (vp_updL (fo) (0 : Int32).toNatClampNeg ((r1).toInt64))))) := by rw [hhw1]
    have fw1 : w1 (ob) = some (.inl (cL, 1, .inr (.inl (vp_updL (fo) (0 : Int32).toNatClampNeg ((r1).toInt64))))) := by rw [hhw1]; exact wset_at _ _ _
    refine lv_goto (tgt := 19) hx hb dL_link_12 (by decide) ?_
    refine lv_iconst (v := 0) hx hb dL_link_19 (by decide) ?_
    exact mreti hx hb hr hlk hm (Or.inl ⟨rfl, (hR).keep (fun q hq => by rw [hw1, wset_ne (fun e => hnob (by rw [← e]; exact hq))]), ⟨j, hp1, ⟨_, by rw [hw1]; exact wset_at _ _ _, by simp [vp_updL, hp2]⟩⟩, fun q h1 h2 => by rw [hw1, wset_ne h2]⟩) dL_link_20
set_option maxHeartbeats 4000000 in
set_option maxRecDepth 100000 in
theorem kL_expire (l : Launch) (hst : l.stackTraces = false) (B : Nat) (D : va_G) (cI cZ cL : ClassId) (sa : Nat → Nat) (w : Wd) (o : Nat) (ad va : Nat → Nat) (now : Int32) (n : Nat) (J : Nat → Jr) (hR : cR cI o ad va now n J w) (ob : Nat) (fo : Nat → Int64) (hob : w ob = some (.inl (cL, 1, .inr (.inl fo)))) (hnob : ¬ cF o ad va n ob) (x : Int32) : Met l yL_expire (.codeWith yL_expire cL_expire 4 (some .int) [(0, 9, 12, 13)] :: BIG) { frames := 7, cells := 1, slots := 6, locals := 105 } (va_Pc [.ref (o), .int (x), .ref (ob)] (mPX B D CLS (TYS cI cZ cL) NEST sa w)) (va_Qi (fun z u => (z = 0 ∧ ¬ x < 0 ∧ cR cI o ad va now n (xp n now x n J 0).1 u ∧ (∃ f2, u ob = some (.inl (cL, 1, .inr (.inl f2))) ∧ f2 0 = ((xp n now x n J 0).2).toInt64) ∧ ∀ q, ¬ cF o ad va n q → q ≠ ob → u q = w q) ∨ (z = 1 ∧ x < 0 ∧ u = w)) (mE B D CLS) (fun q => B ≤ q)) 1 6 (fun q => B ≤ q) := by
  refine mMetH (by decide) rfl (Nat.le_of_ble_eq_true rfl) ?_
  intro p e s m below meth c ls hx hb hml hr hlk hnm hown hts hK hN hX htab hm hl
  have hE : ME "ChainPickerLaw" (.codeWith yL_expire cL_expire 4 (some .int) [(0, 9, 12, 13)]) _ s m D (TYS cI cZ cL) := ⟨hown, hts, hK, hN⟩
  have hl : lv_has ls 4 [(0, .ref (o)), (1, .int (x)), (2, .ref (ob))] := hl
  refine lv_aload_n hx hb dL_expire_0 rfl (lv_at hl 2 rfl) ?_
  refine lv_iconst (v := 0) hx hb dL_expire_1 (by decide) ?_
  refine lv_aload_n hx hb dL_expire_2 rfl (lv_at hl 0 rfl) ?_
  refine lv_iload_n hx hb dL_expire_3 rfl (lv_at hl 1 rfl) ?_
  refine mxcalli (mxV (n := 1) (As := [.int (x)]) (rest := [.int (0), .ref (ob)]) hx hb hml hown hts hK hN hX (kC_expire l hst B D cI cZ cL sa w o ad va now n J hR x) q_286 q_287 q_288 q_1 q_289 rfl rfl (by decide +kernel) ⟨Nat.le_of_ble_eq_true rfl, Nat.le_of_ble_eq_true rfl⟩ rfl hl.1 hm rfl hR.1 rfl (Nat.le_of_ble_eq_true rfl) dL_expire_4 ⟨Nat.le_of_ble_eq_true rfl, Nat.le_of_ble_eq_true rfl⟩) hm (fun ce q9 u1 H locs hp hm hce hcv hcl => ?_) (fun r1 u1 H locs hp hm => ?_)
  · obtain ⟨hp1, hu⟩ := hp
    rw [hu] at hm
    refine vx_catch (name := "java/lang/IllegalArgumentException") hown [] ⟨0, 9, 12, 13⟩ [] (by rw [htab]; rfl) (fun z hz => nomatch hz) (by decide) (by decide) (hts _ (List.mem_cons_of_mem _ q_186)) (va_Nw.use rfl (hN _ (List.mem_of_getElem? (i := 13) rfl))) hce hcv hcl ?_
    show W _ _ _ _ _ _ _ _ _ _ _ _ _ _ _ (F0 m 12 ls [.ref q9])
    refine lv_astore_n (lv' := [(3, .ref (q9)), (0, .ref (o)), (1, .int (x)), (2, .ref (ob))]) hx hb dL_expire_12 rfl hl (by decide) rfl (fun ls hl => ?_)
    refine lv_iconst (v := 1) hx hb dL_expire_13 (by decide) ?_
    exact mreti hx hb hr hlk hm (Or.inr ⟨rfl, hp1, rfl⟩) dL_expire_14
  · obtain ⟨hp1, hp2, hp3, hp4⟩ := hp
    have hob1 := (hp4 ob hnob).trans hob
    refine lv_i2l (v := (r1).toInt64) hx hb dL_expire_7 rfl ?_
    refine mlast hx hb hE.2.2.1 hm 2 hob1 rfl (by unfold vp_in; decide) dL_expire_8 (fun H locs hm => ?_)
    obtain ⟨w1, hhw1⟩ : ∃ z : Wd, z = wset u1 (ob) (.inl (cL, 1, .inr (.inl (vp_updL (fo) (0 : Int32).toNatClampNeg ((r1).toInt64))))) := ⟨_, rfl⟩
    have hm : mS B D CLS s.heap w1 H locs := by rw [hhw1]; exact hm
    have hw1 : w1 = wset (u1) (ob) (.inl (cL, 1, .inr (.inl (vp_updL (fo) (0 : Int32).toNatClampNeg ((r1).toInt64))))) := by rw [hhw1]
    have fw1 : w1 (ob) = some (.inl (cL, 1, .inr (.inl (vp_updL (fo) (0 : Int32).toNatClampNeg ((r1).toInt64))))) := by rw [hhw1]; exact wset_at _ _ _
    refine lv_goto (tgt := 15) hx hb dL_expire_9 (by decide) ?_
    refine lv_iconst (v := 0) hx hb dL_expire_15 (by decide) ?_
    exact mreti hx hb hr hlk hm (Or.inl ⟨rfl, hp1, (hp3).keep (fun q hq => by rw [hw1, wset_ne (fun e => hnob (by rw [← e]; exact hq))]), ⟨_, by rw [hw1]; exact wset_at _ _ _, by simp [vp_updL, hp2]⟩, fun q h1 h2 => by rw [hw1, wset_ne h2]; exact hp4 q h1⟩) dL_expire_16
