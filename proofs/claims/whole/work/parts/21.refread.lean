set_option maxHeartbeats 4000000 in
set_option maxRecDepth 100000 in
theorem kM_isJob (l : Launch) (B : Nat) (D : va_G) (cI cZ cL : ClassId) (w : Wd) (r : Nat) (as : Nat → Nat) (g : Nat → Nat → Int32) (thr now : Int32) (n : Nat) (J : Nat → Jr) (hR : rR cI cZ r as g thr now n J w) (x : Int32) : Met l yM_isJob (.code yM_isJob cM_isJob 2 (some .boolean) :: BIG) { frames := 0, cells := 0, slots := 0, locals := 0 } (va_Pc [.ref (r), .int (x)] (mP B D CLS (TYS cI cZ cL) NEST w)) (va_Qi (fun z u => z = bI ((fJ n x).isSome) ∧ u = w) (mE B D CLS) (fun q => B ≤ q)) 0 0 (fun q => B ≤ q) := by
  refine mMet (by decide) rfl (Nat.le_of_ble_eq_true rfl) ?_
  intro p e s m below meth c ls hx hb hml hr hlk hnm hown hts hK hN hm hl
  have hE : ME "ChainPickerModel" (.code yM_isJob cM_isJob 2 (some .boolean)) _ s m D (TYS cI cZ cL) := ⟨hown, hts, hK, hN⟩
  have hl : lv_has ls 2 [(0, .ref (r)), (1, .int (x))] := hl
  have hn200 := hR.n200
  refine lv_iload_n hx hb dM_isJob_0 rfl (lv_at hl 1 rfl) ?_
  refine lv_if_lt (tgt := 16) hx hb dM_isJob_1 (by decide) (fun c_1 => ?_) (fun c_1 => ?_)
  · refine lv_iconst (v := 0) hx hb dM_isJob_16 (by decide) ?_
    exact mretz hx hb hr (by decide +kernel) hlk hm ⟨by rw [fJ_iff hR.n200]; simp [bI, c_1, ← Int32.not_lt], rfl⟩ dM_isJob_17
  · refine lv_iload_n hx hb dM_isJob_4 rfl (lv_at hl 1 rfl) ?_
    refine lv_aload_n hx hb dM_isJob_5 rfl (lv_at hl 0 rfl) ?_
    refine g_M_M_46 (v := .int (nI n)) hx hb hE hm hR.1 rfl dM_isJob_6 ?_
    refine lv_icmp_ge (tgt := 16) hx hb dM_isJob_9 (by decide) (fun c_9 => ?_) (fun c_9 => ?_)
    · rw [← Int32.not_lt] at c_9
      refine lv_iconst (v := 0) hx hb dM_isJob_16 (by decide) ?_
      exact mretz hx hb hr (by decide +kernel) hlk hm ⟨by rw [fJ_iff hR.n200]; simp [bI, c_1, c_9, ← Int32.not_lt], rfl⟩ dM_isJob_17
    · rw [Int32.not_le] at c_9
      refine lv_iconst (v := 1) hx hb dM_isJob_12 (by decide) ?_
      refine lv_goto (tgt := 17) hx hb dM_isJob_13 (by decide) ?_
      exact mretz hx hb hr (by decide +kernel) hlk hm ⟨by rw [fJ_iff hR.n200]; simp [bI, c_1, c_9, ← Int32.not_lt], rfl⟩ dM_isJob_17
set_option maxHeartbeats 4000000 in
set_option maxRecDepth 100000 in
theorem kM_lastOne (l : Launch) (B : Nat) (D : va_G) (cI cZ cL : ClassId) (w : Wd) (r : Nat) (as : Nat → Nat) (g : Nat → Nat → Int32) (thr now : Int32) (n : Nat) (J : Nat → Jr) (hR : rR cI cZ r as g thr now n J w) (hM : mW now n J) (s0 l0 : Int32) : Met l yM_lastOne (.code yM_lastOne cM_lastOne 5 (some .int) :: BIG) { frames := 0, cells := 0, slots := 0, locals := 0 } (va_Pc [.ref (r), .int (s0), .int (l0)] (mP B D CLS (TYS cI cZ cL) NEST w)) (va_Qi (fun z u => z = oI (lastI (lastP J s0 l0) n) ∧ u = w) (mE B D CLS) (fun q => B ≤ q)) 0 0 (fun q => B ≤ q) := by
  refine mMet (by decide) rfl (Nat.le_of_ble_eq_true rfl) ?_
  intro p e s m below meth c ls hx hb hml hr hlk hnm hown hts hK hN hm hl
  have hE : ME "ChainPickerModel" (.code yM_lastOne cM_lastOne 5 (some .int)) _ s m D (TYS cI cZ cL) := ⟨hown, hts, hK, hN⟩
  have hl : lv_has ls 5 [(0, .ref (r)), (1, .int (s0)), (2, .int (l0))] := hl
  have hn200 := hR.n200
  have loop : ∀ (d i : Nat), i + d = n → ∀ (H : Heap) (locs : List Loc) (ls : Array Slot), mS B D CLS s.heap w H locs → lv_has ls 5 [(4, .int (nI i)), (3, .int (oI (lastI (lastP J s0 l0) i))), (0, .ref (r)), (1, .int (s0)), (2, .int (l0))] → W p l e ({ frames := 0, cells := 0, slots := 0, locals := 0 }) s m [.ref (r), .int (s0), .int (l0)].toArray below meth c H locs 0 0 (MQ below (va_Qi (fun z u => z = oI (lastI (lastP J s0 l0) n) ∧ u = w) (mE B D CLS) (fun q => B ≤ q)) [.ref (r), .int (s0), .int (l0)].toArray s 0 0 (fun q => B ≤ q)) (F0 m 5 ls []) := by
    intro d
    induction d with
    | zero =>
      intro i hi  H locs ls hm hl
      refine lv_iload hx hb dM_lastOne_5 (lv_at hl 0 rfl) ?_
      refine lv_aload_n hx hb dM_lastOne_7 rfl (lv_at hl 2 rfl) ?_
      refine g_M_M_46 (v := .int (nI n)) hx hb hE hm hR.1 rfl dM_lastOne_8 ?_
      refine lv_icmp_ge (tgt := 93) hx hb dM_lastOne_11 (by decide) (fun c_11 => ?_) (fun c_11 => ?_)
      · rw [← Int32.not_lt] at c_11
        refine lv_iload_n hx hb dM_lastOne_93 rfl (lv_at hl 1 rfl) ?_
        exact mreti hx hb hr hlk hm ⟨by rw [show i = n by omega], rfl⟩ dM_lastOne_94
      · exact absurd (nI_le (a := n) (b := i) (by omega) (by omega)) c_11
    | succ d ih =>
      intro i hi  H locs ls hm hl
      have hiN : i < n := by omega
      refine lv_iload hx hb dM_lastOne_5 (lv_at hl 0 rfl) ?_
      refine lv_aload_n hx hb dM_lastOne_7 rfl (lv_at hl 2 rfl) ?_
      refine g_M_M_46 (v := .int (nI n)) hx hb hE hm hR.1 rfl dM_lastOne_8 ?_
      refine lv_icmp_ge (tgt := 93) hx hb dM_lastOne_11 (by decide) (fun c_11 => ?_) (fun c_11 => ?_)
      · exact absurd c_11 (nI_ge (a := i) (b := n) (by omega) (by omega))
      · rw [Int32.not_le] at c_11
        refine lv_aload_n hx hb dM_lastOne_14 rfl (lv_at hl 2 rfl) ?_
        refine g_M_M_7 (v := .ref (as 0)) hx hb hE hm hR.1 rfl dM_lastOne_15 ?_
        refine lv_iload hx hb dM_lastOne_18 (lv_at hl 0 rfl) ?_
        refine ialdE (i) hx hb hE.2.2.1 hm 0 hR.a0 rfl rfl (by have := hR.n200; have := hiN; omega) (by decide) dM_lastOne_20 ?_
        rw [hR.g0 hiN]
        refine lv_iload_n hx hb dM_lastOne_21 rfl (lv_at hl 3 rfl) ?_
        refine lv_icmp_ne (tgt := 87) hx hb dM_lastOne_22 (by decide) (fun c_22 => ?_) (fun c_22 => ?_)
        · refine lv_iinc (v := nI i + 1) (lv' := [(4, .int (nI i + 1)), (3, .int (oI (lastI (lastP J s0 l0) i))), (0, .ref (r)), (1, .int (s0)), (2, .int (l0))]) hx hb dM_lastOne_87 hl (k := 0) rfl rfl (by decide) rfl (fun ls hl => ?_)
          refine lv_goto (tgt := 5) hx hb dM_lastOne_90 (by decide) ?_
          rw [nI_1] at hl
          exact ih (i + 1) (by omega) H locs ls hm (by rw [lastI_f (by simp [lastP, uz, c_11, c_22, ← Int32.not_lt])]; exact lv_sub hl [0, 1, 2, 3, 4] rfl)
        · refine lv_aload_n hx hb dM_lastOne_25 rfl (lv_at hl 2 rfl) ?_
          refine g_M_M_29 (v := .ref (as 6)) hx hb hE hm hR.1 rfl dM_lastOne_26 ?_
          refine lv_iload hx hb dM_lastOne_29 (lv_at hl 0 rfl) ?_
          refine ialdE (i) hx hb hE.2.2.1 hm 0 hR.a6 rfl rfl (by have := hR.n200; have := hiN; omega) (by decide) dM_lastOne_31 ?_
          rw [hR.g6 hiN]
          refine lv_iconst (v := 1) hx hb dM_lastOne_32 (by decide) ?_
          refine lv_icmp_ne (tgt := 87) hx hb dM_lastOne_33 (by decide) (fun c_33 => ?_) (fun c_33 => ?_)
          · refine lv_iinc (v := nI i + 1) (lv' := [(4, .int (nI i + 1)), (3, .int (oI (lastI (lastP J s0 l0) i))), (0, .ref (r)), (1, .int (s0)), (2, .int (l0))]) hx hb dM_lastOne_87 hl (k := 0) rfl rfl (by decide) rfl (fun ls hl => ?_)
            refine lv_goto (tgt := 5) hx hb dM_lastOne_90 (by decide) ?_
            rw [nI_1] at hl
            exact ih (i + 1) (by omega) H locs ls hm (by rw [lastI_f (by simp [lastP, uz, c_11, c_22, c_33, ← Int32.not_lt])]; exact lv_sub hl [0, 1, 2, 3, 4] rfl)
          · refine lv_aload_n hx hb dM_lastOne_36 rfl (lv_at hl 2 rfl) ?_
            refine g_M_M_32 (v := .ref (as 7)) hx hb hE hm hR.1 rfl dM_lastOne_37 ?_
            refine lv_iload hx hb dM_lastOne_40 (lv_at hl 0 rfl) ?_
            refine baldE (i) hx hb hE.2.2.1 hm 1 hR.a7 rfl rfl (by have := hR.n200; have := hiN; omega) (by decide) dM_lastOne_42 ?_
            rw [hR.g7 hiN]
            refine lv_if_ne (tgt := 87) hx hb dM_lastOne_43 (by decide) (fun c_43 => ?_) (fun c_43 => ?_)
            · rw [bI_0] at c_43
              refine lv_iinc (v := nI i + 1) (lv' := [(4, .int (nI i + 1)), (3, .int (oI (lastI (lastP J s0 l0) i))), (0, .ref (r)), (1, .int (s0)), (2, .int (l0))]) hx hb dM_lastOne_87 hl (k := 0) rfl rfl (by decide) rfl (fun ls hl => ?_)
              refine lv_goto (tgt := 5) hx hb dM_lastOne_90 (by decide) ?_
              rw [nI_1] at hl
              exact ih (i + 1) (by omega) H locs ls hm (by rw [lastI_f (by simp [lastP, uz, c_11, c_22, c_33, c_43, ← Int32.not_lt])]; exact lv_sub hl [0, 1, 2, 3, 4] rfl)
            · rw [bI_0] at c_43
              refine lv_iload_n hx hb dM_lastOne_46 rfl (lv_at hl 4 rfl) ?_
              refine lv_if_lt (tgt := 64) hx hb dM_lastOne_47 (by decide) (fun c_47 => ?_) (fun c_47 => ?_)
              · cases hbest : lastI (lastP J s0 l0) i with
                | none =>
                  rw [hbest] at hl
                  have hl : lv_has ls 5 [(4, .int (nI i)), (3, .int (-1)), (0, .ref (r)), (1, .int (s0)), (2, .int (l0))] := hl
                  refine lv_iload_n hx hb dM_lastOne_64 rfl (lv_at hl 1 rfl) ?_
                  refine lv_if_lt (tgt := 84) hx hb dM_lastOne_65 (by decide) (fun c_65 => ?_) (fun c_65 => ?_)
                  · refine lv_iload hx hb dM_lastOne_84 (lv_at hl 0 rfl) ?_
                    refine lv_istore_n (lv' := [(3, .int (nI i)), (4, .int (nI i)), (0, .ref (r)), (1, .int (s0)), (2, .int (l0))]) hx hb dM_lastOne_86 rfl hl (by decide) rfl (fun ls hl => ?_)
                    refine lv_iinc (v := nI i + 1) (lv' := [(4, .int (nI i + 1)), (3, .int (nI i)), (0, .ref (r)), (1, .int (s0)), (2, .int (l0))]) hx hb dM_lastOne_87 hl (k := 1) rfl rfl (by decide) rfl (fun ls hl => ?_)
                    refine lv_goto (tgt := 5) hx hb dM_lastOne_90 (by decide) ?_
                    rw [nI_1] at hl
                    exact ih (i + 1) (by omega) H locs ls hm (by rw [lastI_t (by simp [lastP, uz, c_11, c_22, c_33, c_43, c_47, ← Int32.not_lt])]; exact lv_sub hl [0, 1, 2, 3, 4] rfl)
                  · first | exact absurd c_65 (by decide) | exact absurd (by decide) c_65
                | some b =>
                  rw [hbest] at hl
                  have hl : lv_has ls 5 [(4, .int (nI i)), (3, .int (nI b)), (0, .ref (r)), (1, .int (s0)), (2, .int (l0))] := hl
                  have hbi : b < i := (lastI_some hbest).1
                  refine lv_iload_n hx hb dM_lastOne_64 rfl (lv_at hl 1 rfl) ?_
                  refine lv_if_lt (tgt := 84) hx hb dM_lastOne_65 (by decide) (fun c_65 => ?_) (fun c_65 => ?_)
                  · exact absurd c_65 (nI_pos (by have := hR.n200; omega))
                  · refine lv_aload_n hx hb dM_lastOne_68 rfl (lv_at hl 2 rfl) ?_
                    refine g_M_M_23 (v := .ref (as 4)) hx hb hE hm hR.1 rfl dM_lastOne_69 ?_
                    refine lv_iload hx hb dM_lastOne_72 (lv_at hl 0 rfl) ?_
                    refine ialdE (i) hx hb hE.2.2.1 hm 0 hR.a4 rfl rfl (by have := hR.n200; have := hiN; omega) (by decide) dM_lastOne_74 ?_
                    rw [hR.g4 hiN]
                    refine lv_aload_n hx hb dM_lastOne_75 rfl (lv_at hl 2 rfl) ?_
                    refine g_M_M_23 (v := .ref (as 4)) hx hb hE hm hR.1 rfl dM_lastOne_76 ?_
                    refine lv_iload_n hx hb dM_lastOne_79 rfl (lv_at hl 1 rfl) ?_
                    refine ialdE (b) hx hb hE.2.2.1 hm 0 hR.a4 rfl rfl (by have := hR.n200; have := (Nat.lt_trans hbi hiN); omega) (by decide) dM_lastOne_80 ?_
                    rw [hR.g4 (Nat.lt_trans hbi hiN)]
                    refine lv_icmp_lt (tgt := 87) hx hb dM_lastOne_81 (by decide) (fun c_81 => ?_) (fun c_81 => ?_)
                    · exact absurd c_81 (by rw [Int32.not_lt]; exact hM.1 b i (by omega) hiN)
                    · refine lv_iload hx hb dM_lastOne_84 (lv_at hl 0 rfl) ?_
                      refine lv_istore_n (lv' := [(3, .int (nI i)), (4, .int (nI i)), (0, .ref (r)), (1, .int (s0)), (2, .int (l0))]) hx hb dM_lastOne_86 rfl hl (by decide) rfl (fun ls hl => ?_)
                      refine lv_iinc (v := nI i + 1) (lv' := [(4, .int (nI i + 1)), (3, .int (nI i)), (0, .ref (r)), (1, .int (s0)), (2, .int (l0))]) hx hb dM_lastOne_87 hl (k := 1) rfl rfl (by decide) rfl (fun ls hl => ?_)
                      refine lv_goto (tgt := 5) hx hb dM_lastOne_90 (by decide) ?_
                      rw [nI_1] at hl
                      exact ih (i + 1) (by omega) H locs ls hm (by rw [lastI_t (by simp [lastP, uz, c_11, c_22, c_33, c_43, c_47, ← Int32.not_lt])]; exact lv_sub hl [0, 1, 2, 3, 4] rfl)
              · refine lv_aload_n hx hb dM_lastOne_50 rfl (lv_at hl 2 rfl) ?_
                refine g_M_M_13 (v := .ref (as 1)) hx hb hE hm hR.1 rfl dM_lastOne_51 ?_
                refine lv_iload hx hb dM_lastOne_54 (lv_at hl 0 rfl) ?_
                refine ialdE (i) hx hb hE.2.2.1 hm 0 hR.a1 rfl rfl (by have := hR.n200; have := hiN; omega) (by decide) dM_lastOne_56 ?_
                rw [hR.g1 hiN]
                refine lv_iload_n hx hb dM_lastOne_57 rfl (lv_at hl 4 rfl) ?_
                refine lv_icmp_eq (tgt := 64) hx hb dM_lastOne_58 (by decide) (fun c_58 => ?_) (fun c_58 => ?_)
                · cases hbest : lastI (lastP J s0 l0) i with
                  | none =>
                    rw [hbest] at hl
                    have hl : lv_has ls 5 [(4, .int (nI i)), (3, .int (-1)), (0, .ref (r)), (1, .int (s0)), (2, .int (l0))] := hl
                    refine lv_iload_n hx hb dM_lastOne_64 rfl (lv_at hl 1 rfl) ?_
                    refine lv_if_lt (tgt := 84) hx hb dM_lastOne_65 (by decide) (fun c_65 => ?_) (fun c_65 => ?_)
                    · refine lv_iload hx hb dM_lastOne_84 (lv_at hl 0 rfl) ?_
                      refine lv_istore_n (lv' := [(3, .int (nI i)), (4, .int (nI i)), (0, .ref (r)), (1, .int (s0)), (2, .int (l0))]) hx hb dM_lastOne_86 rfl hl (by decide) rfl (fun ls hl => ?_)
                      refine lv_iinc (v := nI i + 1) (lv' := [(4, .int (nI i + 1)), (3, .int (nI i)), (0, .ref (r)), (1, .int (s0)), (2, .int (l0))]) hx hb dM_lastOne_87 hl (k := 1) rfl rfl (by decide) rfl (fun ls hl => ?_)
                      refine lv_goto (tgt := 5) hx hb dM_lastOne_90 (by decide) ?_
                      rw [nI_1] at hl
                      exact ih (i + 1) (by omega) H locs ls hm (by rw [lastI_t (by simp [lastP, uz, c_11, c_22, c_33, c_43, c_47, c_58, ← Int32.not_lt])]; exact lv_sub hl [0, 1, 2, 3, 4] rfl)
                    · first | exact absurd c_65 (by decide) | exact absurd (by decide) c_65
                  | some b =>
                    rw [hbest] at hl
                    have hl : lv_has ls 5 [(4, .int (nI i)), (3, .int (nI b)), (0, .ref (r)), (1, .int (s0)), (2, .int (l0))] := hl
                    have hbi : b < i := (lastI_some hbest).1
                    refine lv_iload_n hx hb dM_lastOne_64 rfl (lv_at hl 1 rfl) ?_
                    refine lv_if_lt (tgt := 84) hx hb dM_lastOne_65 (by decide) (fun c_65 => ?_) (fun c_65 => ?_)
                    · exact absurd c_65 (nI_pos (by have := hR.n200; omega))
                    · refine lv_aload_n hx hb dM_lastOne_68 rfl (lv_at hl 2 rfl) ?_
                      refine g_M_M_23 (v := .ref (as 4)) hx hb hE hm hR.1 rfl dM_lastOne_69 ?_
                      refine lv_iload hx hb dM_lastOne_72 (lv_at hl 0 rfl) ?_
                      refine ialdE (i) hx hb hE.2.2.1 hm 0 hR.a4 rfl rfl (by have := hR.n200; have := hiN; omega) (by decide) dM_lastOne_74 ?_
                      rw [hR.g4 hiN]
                      refine lv_aload_n hx hb dM_lastOne_75 rfl (lv_at hl 2 rfl) ?_
                      refine g_M_M_23 (v := .ref (as 4)) hx hb hE hm hR.1 rfl dM_lastOne_76 ?_
                      refine lv_iload_n hx hb dM_lastOne_79 rfl (lv_at hl 1 rfl) ?_
                      refine ialdE (b) hx hb hE.2.2.1 hm 0 hR.a4 rfl rfl (by have := hR.n200; have := (Nat.lt_trans hbi hiN); omega) (by decide) dM_lastOne_80 ?_
                      rw [hR.g4 (Nat.lt_trans hbi hiN)]
                      refine lv_icmp_lt (tgt := 87) hx hb dM_lastOne_81 (by decide) (fun c_81 => ?_) (fun c_81 => ?_)
                      · exact absurd c_81 (by rw [Int32.not_lt]; exact hM.1 b i (by omega) hiN)
                      · refine lv_iload hx hb dM_lastOne_84 (lv_at hl 0 rfl) ?_
                        refine lv_istore_n (lv' := [(3, .int (nI i)), (4, .int (nI i)), (0, .ref (r)), (1, .int (s0)), (2, .int (l0))]) hx hb dM_lastOne_86 rfl hl (by decide) rfl (fun ls hl => ?_)
                        refine lv_iinc (v := nI i + 1) (lv' := [(4, .int (nI i + 1)), (3, .int (nI i)), (0, .ref (r)), (1, .int (s0)), (2, .int (l0))]) hx hb dM_lastOne_87 hl (k := 1) rfl rfl (by decide) rfl (fun ls hl => ?_)
                        refine lv_goto (tgt := 5) hx hb dM_lastOne_90 (by decide) ?_
                        rw [nI_1] at hl
                        exact ih (i + 1) (by omega) H locs ls hm (by rw [lastI_t (by simp [lastP, uz, c_11, c_22, c_33, c_43, c_47, c_58, ← Int32.not_lt])]; exact lv_sub hl [0, 1, 2, 3, 4] rfl)
                · refine lv_goto (tgt := 87) hx hb dM_lastOne_61 (by decide) ?_
                  refine lv_iinc (v := nI i + 1) (lv' := [(4, .int (nI i + 1)), (3, .int (oI (lastI (lastP J s0 l0) i))), (0, .ref (r)), (1, .int (s0)), (2, .int (l0))]) hx hb dM_lastOne_87 hl (k := 0) rfl rfl (by decide) rfl (fun ls hl => ?_)
                  refine lv_goto (tgt := 5) hx hb dM_lastOne_90 (by decide) ?_
                  rw [nI_1] at hl
                  exact ih (i + 1) (by omega) H locs ls hm (by rw [lastI_f (by simp [lastP, uz, c_11, c_22, c_33, c_43, c_47, c_58, ← Int32.not_lt])]; exact lv_sub hl [0, 1, 2, 3, 4] rfl)
  refine lv_iconst (v := (-1)) hx hb dM_lastOne_0 (by decide) ?_
  refine lv_istore_n (lv' := [(3, .int ((-1))), (0, .ref (r)), (1, .int (s0)), (2, .int (l0))]) hx hb dM_lastOne_1 rfl hl (by decide) rfl (fun ls hl => ?_)
  refine lv_iconst (v := 0) hx hb dM_lastOne_2 (by decide) ?_
  refine lv_istore (lv' := [(4, .int (0)), (3, .int ((-1))), (0, .ref (r)), (1, .int (s0)), (2, .int (l0))]) hx hb dM_lastOne_3 hl (by decide) rfl (fun ls hl => ?_)
  exact loop n 0 (by omega) _ _ ls hm (by rw [nI_0]; exact lv_sub hl [0, 1, 2, 3, 4] rfl)
set_option maxHeartbeats 4000000 in
set_option maxRecDepth 100000 in
theorem kM_head (l : Launch) (B : Nat) (D : va_G) (cI cZ cL : ClassId) (w : Wd) (r : Nat) (as : Nat → Nat) (g : Nat → Nat → Int32) (thr now : Int32) (n : Nat) (J : Nat → Jr) (hR : rR cI cZ r as g thr now n J w) (hM : mW now n J) (s0 t0 : Int32) : Met l yM_head (.code yM_head cM_head 5 (some .int) :: BIG) { frames := 0, cells := 0, slots := 0, locals := 0 } (va_Pc [.ref (r), .int (s0), .int (t0)] (mP B D CLS (TYS cI cZ cL) NEST w)) (va_Qi (fun z u => z = oI (lastI (headP J s0 t0) n) ∧ u = w) (mE B D CLS) (fun q => B ≤ q)) 0 0 (fun q => B ≤ q) := by
  refine mMet (by decide) rfl (Nat.le_of_ble_eq_true rfl) ?_
  intro p e s m below meth c ls hx hb hml hr hlk hnm hown hts hK hN hm hl
  have hE : ME "ChainPickerModel" (.code yM_head cM_head 5 (some .int)) _ s m D (TYS cI cZ cL) := ⟨hown, hts, hK, hN⟩
  have hl : lv_has ls 5 [(0, .ref (r)), (1, .int (s0)), (2, .int (t0))] := hl
  have hn200 := hR.n200
  have loop : ∀ (d i : Nat), i + d = n → ∀ (H : Heap) (locs : List Loc) (ls : Array Slot), mS B D CLS s.heap w H locs → lv_has ls 5 [(4, .int (nI i)), (3, .int (oI (lastI (headP J s0 t0) i))), (0, .ref (r)), (1, .int (s0)), (2, .int (t0))] → W p l e ({ frames := 0, cells := 0, slots := 0, locals := 0 }) s m [.ref (r), .int (s0), .int (t0)].toArray below meth c H locs 0 0 (MQ below (va_Qi (fun z u => z = oI (lastI (headP J s0 t0) n) ∧ u = w) (mE B D CLS) (fun q => B ≤ q)) [.ref (r), .int (s0), .int (t0)].toArray s 0 0 (fun q => B ≤ q)) (F0 m 5 ls []) := by
    intro d
    induction d with
    | zero =>
      intro i hi  H locs ls hm hl
      refine lv_iload hx hb dM_head_5 (lv_at hl 0 rfl) ?_
      refine lv_aload_n hx hb dM_head_7 rfl (lv_at hl 2 rfl) ?_
      refine g_M_M_46 (v := .int (nI n)) hx hb hE hm hR.1 rfl dM_head_8 ?_
      refine lv_icmp_ge (tgt := 89) hx hb dM_head_11 (by decide) (fun c_11 => ?_) (fun c_11 => ?_)
      · rw [← Int32.not_lt] at c_11
        refine lv_iload_n hx hb dM_head_89 rfl (lv_at hl 1 rfl) ?_
        exact mreti hx hb hr hlk hm ⟨by rw [show i = n by omega], rfl⟩ dM_head_90
      · exact absurd (nI_le (a := n) (b := i) (by omega) (by omega)) c_11
    | succ d ih =>
      intro i hi  H locs ls hm hl
      have hiN : i < n := by omega
      refine lv_iload hx hb dM_head_5 (lv_at hl 0 rfl) ?_
      refine lv_aload_n hx hb dM_head_7 rfl (lv_at hl 2 rfl) ?_
      refine g_M_M_46 (v := .int (nI n)) hx hb hE hm hR.1 rfl dM_head_8 ?_
      refine lv_icmp_ge (tgt := 89) hx hb dM_head_11 (by decide) (fun c_11 => ?_) (fun c_11 => ?_)
      · exact absurd c_11 (nI_ge (a := i) (b := n) (by omega) (by omega))
      · rw [Int32.not_le] at c_11
        refine lv_aload_n hx hb dM_head_14 rfl (lv_at hl 2 rfl) ?_
        refine g_M_M_7 (v := .ref (as 0)) hx hb hE hm hR.1 rfl dM_head_15 ?_
        refine lv_iload hx hb dM_head_18 (lv_at hl 0 rfl) ?_
        refine ialdE (i) hx hb hE.2.2.1 hm 0 hR.a0 rfl rfl (by have := hR.n200; have := hiN; omega) (by decide) dM_head_20 ?_
        rw [hR.g0 hiN]
        refine lv_iload_n hx hb dM_head_21 rfl (lv_at hl 3 rfl) ?_
        refine lv_icmp_ne (tgt := 83) hx hb dM_head_22 (by decide) (fun c_22 => ?_) (fun c_22 => ?_)
        · refine lv_iinc (v := nI i + 1) (lv' := [(4, .int (nI i + 1)), (3, .int (oI (lastI (headP J s0 t0) i))), (0, .ref (r)), (1, .int (s0)), (2, .int (t0))]) hx hb dM_head_83 hl (k := 0) rfl rfl (by decide) rfl (fun ls hl => ?_)
          refine lv_goto (tgt := 5) hx hb dM_head_86 (by decide) ?_
          rw [nI_1] at hl
          exact ih (i + 1) (by omega) H locs ls hm (by rw [lastI_f (by simp [headP, uz, c_11, c_22, ← Int32.not_lt])]; exact lv_sub hl [0, 1, 2, 3, 4] rfl)
        · refine lv_aload_n hx hb dM_head_25 rfl (lv_at hl 2 rfl) ?_
          refine g_M_M_29 (v := .ref (as 6)) hx hb hE hm hR.1 rfl dM_head_26 ?_
          refine lv_iload hx hb dM_head_29 (lv_at hl 0 rfl) ?_
          refine ialdE (i) hx hb hE.2.2.1 hm 0 hR.a6 rfl rfl (by have := hR.n200; have := hiN; omega) (by decide) dM_head_31 ?_
          rw [hR.g6 hiN]
          refine lv_iconst (v := 1) hx hb dM_head_32 (by decide) ?_
          refine lv_icmp_ne (tgt := 83) hx hb dM_head_33 (by decide) (fun c_33 => ?_) (fun c_33 => ?_)
          · refine lv_iinc (v := nI i + 1) (lv' := [(4, .int (nI i + 1)), (3, .int (oI (lastI (headP J s0 t0) i))), (0, .ref (r)), (1, .int (s0)), (2, .int (t0))]) hx hb dM_head_83 hl (k := 0) rfl rfl (by decide) rfl (fun ls hl => ?_)
            refine lv_goto (tgt := 5) hx hb dM_head_86 (by decide) ?_
            rw [nI_1] at hl
            exact ih (i + 1) (by omega) H locs ls hm (by rw [lastI_f (by simp [headP, uz, c_11, c_22, c_33, ← Int32.not_lt])]; exact lv_sub hl [0, 1, 2, 3, 4] rfl)
          · refine lv_aload_n hx hb dM_head_36 rfl (lv_at hl 2 rfl) ?_
            refine g_M_M_32 (v := .ref (as 7)) hx hb hE hm hR.1 rfl dM_head_37 ?_
            refine lv_iload hx hb dM_head_40 (lv_at hl 0 rfl) ?_
            refine baldE (i) hx hb hE.2.2.1 hm 1 hR.a7 rfl rfl (by have := hR.n200; have := hiN; omega) (by decide) dM_head_42 ?_
            rw [hR.g7 hiN]
            refine lv_if_ne (tgt := 83) hx hb dM_head_43 (by decide) (fun c_43 => ?_) (fun c_43 => ?_)
            · rw [bI_0] at c_43
              refine lv_iinc (v := nI i + 1) (lv' := [(4, .int (nI i + 1)), (3, .int (oI (lastI (headP J s0 t0) i))), (0, .ref (r)), (1, .int (s0)), (2, .int (t0))]) hx hb dM_head_83 hl (k := 0) rfl rfl (by decide) rfl (fun ls hl => ?_)
              refine lv_goto (tgt := 5) hx hb dM_head_86 (by decide) ?_
              rw [nI_1] at hl
              exact ih (i + 1) (by omega) H locs ls hm (by rw [lastI_f (by simp [headP, uz, c_11, c_22, c_33, c_43, ← Int32.not_lt])]; exact lv_sub hl [0, 1, 2, 3, 4] rfl)
            · rw [bI_0] at c_43
              refine lv_aload_n hx hb dM_head_46 rfl (lv_at hl 2 rfl) ?_
              refine g_M_M_26 (v := .ref (as 5)) hx hb hE hm hR.1 rfl dM_head_47 ?_
              refine lv_iload hx hb dM_head_50 (lv_at hl 0 rfl) ?_
              refine ialdE (i) hx hb hE.2.2.1 hm 0 hR.a5 rfl rfl (by have := hR.n200; have := hiN; omega) (by decide) dM_head_52 ?_
              rw [hR.g5 hiN]
              refine lv_iload_n hx hb dM_head_53 rfl (lv_at hl 4 rfl) ?_
              refine lv_icmp_le (tgt := 60) hx hb dM_head_54 (by decide) (fun c_54 => ?_) (fun c_54 => ?_)
              · rw [← Int32.not_lt] at c_54
                cases hbest : lastI (headP J s0 t0) i with
                | none =>
                  rw [hbest] at hl
                  have hl : lv_has ls 5 [(4, .int (nI i)), (3, .int (-1)), (0, .ref (r)), (1, .int (s0)), (2, .int (t0))] := hl
                  refine lv_iload_n hx hb dM_head_60 rfl (lv_at hl 1 rfl) ?_
                  refine lv_if_lt (tgt := 80) hx hb dM_head_61 (by decide) (fun c_61 => ?_) (fun c_61 => ?_)
                  · refine lv_iload hx hb dM_head_80 (lv_at hl 0 rfl) ?_
                    refine lv_istore_n (lv' := [(3, .int (nI i)), (4, .int (nI i)), (0, .ref (r)), (1, .int (s0)), (2, .int (t0))]) hx hb dM_head_82 rfl hl (by decide) rfl (fun ls hl => ?_)
                    refine lv_iinc (v := nI i + 1) (lv' := [(4, .int (nI i + 1)), (3, .int (nI i)), (0, .ref (r)), (1, .int (s0)), (2, .int (t0))]) hx hb dM_head_83 hl (k := 1) rfl rfl (by decide) rfl (fun ls hl => ?_)
                    refine lv_goto (tgt := 5) hx hb dM_head_86 (by decide) ?_
                    rw [nI_1] at hl
                    exact ih (i + 1) (by omega) H locs ls hm (by rw [lastI_t (by simp [headP, uz, c_11, c_22, c_33, c_43, c_54, ← Int32.not_lt])]; exact lv_sub hl [0, 1, 2, 3, 4] rfl)
                  · first | exact absurd c_61 (by decide) | exact absurd (by decide) c_61
                | some b =>
                  rw [hbest] at hl
                  have hl : lv_has ls 5 [(4, .int (nI i)), (3, .int (nI b)), (0, .ref (r)), (1, .int (s0)), (2, .int (t0))] := hl
                  have hbi : b < i := (lastI_some hbest).1
                  refine lv_iload_n hx hb dM_head_60 rfl (lv_at hl 1 rfl) ?_
                  refine lv_if_lt (tgt := 80) hx hb dM_head_61 (by decide) (fun c_61 => ?_) (fun c_61 => ?_)
                  · exact absurd c_61 (nI_pos (by have := hR.n200; omega))
                  · refine lv_aload_n hx hb dM_head_64 rfl (lv_at hl 2 rfl) ?_
                    refine g_M_M_23 (v := .ref (as 4)) hx hb hE hm hR.1 rfl dM_head_65 ?_
                    refine lv_iload hx hb dM_head_68 (lv_at hl 0 rfl) ?_
                    refine ialdE (i) hx hb hE.2.2.1 hm 0 hR.a4 rfl rfl (by have := hR.n200; have := hiN; omega) (by decide) dM_head_70 ?_
                    rw [hR.g4 hiN]
                    refine lv_aload_n hx hb dM_head_71 rfl (lv_at hl 2 rfl) ?_
                    refine g_M_M_23 (v := .ref (as 4)) hx hb hE hm hR.1 rfl dM_head_72 ?_
                    refine lv_iload_n hx hb dM_head_75 rfl (lv_at hl 1 rfl) ?_
                    refine ialdE (b) hx hb hE.2.2.1 hm 0 hR.a4 rfl rfl (by have := hR.n200; have := (Nat.lt_trans hbi hiN); omega) (by decide) dM_head_76 ?_
                    rw [hR.g4 (Nat.lt_trans hbi hiN)]
                    refine lv_icmp_lt (tgt := 83) hx hb dM_head_77 (by decide) (fun c_77 => ?_) (fun c_77 => ?_)
                    · exact absurd c_77 (by rw [Int32.not_lt]; exact hM.1 b i (by omega) hiN)
                    · refine lv_iload hx hb dM_head_80 (lv_at hl 0 rfl) ?_
                      refine lv_istore_n (lv' := [(3, .int (nI i)), (4, .int (nI i)), (0, .ref (r)), (1, .int (s0)), (2, .int (t0))]) hx hb dM_head_82 rfl hl (by decide) rfl (fun ls hl => ?_)
                      refine lv_iinc (v := nI i + 1) (lv' := [(4, .int (nI i + 1)), (3, .int (nI i)), (0, .ref (r)), (1, .int (s0)), (2, .int (t0))]) hx hb dM_head_83 hl (k := 1) rfl rfl (by decide) rfl (fun ls hl => ?_)
                      refine lv_goto (tgt := 5) hx hb dM_head_86 (by decide) ?_
                      rw [nI_1] at hl
                      exact ih (i + 1) (by omega) H locs ls hm (by rw [lastI_t (by simp [headP, uz, c_11, c_22, c_33, c_43, c_54, ← Int32.not_lt])]; exact lv_sub hl [0, 1, 2, 3, 4] rfl)
              · rw [Int32.not_le] at c_54
                refine lv_goto (tgt := 83) hx hb dM_head_57 (by decide) ?_
                refine lv_iinc (v := nI i + 1) (lv' := [(4, .int (nI i + 1)), (3, .int (oI (lastI (headP J s0 t0) i))), (0, .ref (r)), (1, .int (s0)), (2, .int (t0))]) hx hb dM_head_83 hl (k := 0) rfl rfl (by decide) rfl (fun ls hl => ?_)
                refine lv_goto (tgt := 5) hx hb dM_head_86 (by decide) ?_
                rw [nI_1] at hl
                exact ih (i + 1) (by omega) H locs ls hm (by rw [lastI_f (by simp [headP, uz, c_11, c_22, c_33, c_43, c_54, ← Int32.not_lt])]; exact lv_sub hl [0, 1, 2, 3, 4] rfl)
  refine lv_iconst (v := (-1)) hx hb dM_head_0 (by decide) ?_
  refine lv_istore_n (lv' := [(3, .int ((-1))), (0, .ref (r)), (1, .int (s0)), (2, .int (t0))]) hx hb dM_head_1 rfl hl (by decide) rfl (fun ls hl => ?_)
  refine lv_iconst (v := 0) hx hb dM_head_2 (by decide) ?_
  refine lv_istore (lv' := [(4, .int (0)), (3, .int ((-1))), (0, .ref (r)), (1, .int (s0)), (2, .int (t0))]) hx hb dM_head_3 hl (by decide) rfl (fun ls hl => ?_)
  exact loop n 0 (by omega) _ _ ls hm (by rw [nI_0]; exact lv_sub hl [0, 1, 2, 3, 4] rfl)
set_option maxHeartbeats 4000000 in
set_option maxRecDepth 100000 in
theorem kM_standing (l : Launch) (B : Nat) (D : va_G) (cI cZ cL : ClassId) (w : Wd) (r : Nat) (as : Nat → Nat) (g : Nat → Nat → Int32) (thr now : Int32) (n : Nat) (J : Nat → Jr) (hR : rR cI cZ r as g thr now n J w) (j : Nat) (hjn : j < n) : Met l yM_standing (.code yM_standing cM_standing 4 (some .int) :: BIG) { frames := 0, cells := 0, slots := 0, locals := 0 } (va_Pc [.ref (r), .int (nI j)] (mP B D CLS (TYS cI cZ cL) NEST w)) (va_Qi (fun z u => z = nI (sd n J j) ∧ u = w) (mE B D CLS) (fun q => B ≤ q)) 0 0 (fun q => B ≤ q) := by
  refine mMet (by decide) rfl (Nat.le_of_ble_eq_true rfl) ?_
  intro p e s m below meth c ls hx hb hml hr hlk hnm hown hts hK hN hm hl
  have hE : ME "ChainPickerModel" (.code yM_standing cM_standing 4 (some .int)) _ s m D (TYS cI cZ cL) := ⟨hown, hts, hK, hN⟩
  have hl : lv_has ls 4 [(0, .ref (r)), (1, .int (nI j))] := hl
  have hn200 := hR.n200
  have loop : ∀ (d i : Nat), i + d = n → ∀ (x : Int32), x = nI (cnt (fun k => decide (jBs (J k) = some j) && !jPr (J k)) i) → ∀ (H : Heap) (locs : List Loc) (ls : Array Slot), mS B D CLS s.heap w H locs → lv_has ls 4 [(3, .int (nI i)), (2, .int (x)), (0, .ref (r)), (1, .int (nI j))] → W p l e ({ frames := 0, cells := 0, slots := 0, locals := 0 }) s m [.ref (r), .int (nI j)].toArray below meth c H locs 0 0 (MQ below (va_Qi (fun z u => z = nI (sd n J j) ∧ u = w) (mE B D CLS) (fun q => B ≤ q)) [.ref (r), .int (nI j)].toArray s 0 0 (fun q => B ≤ q)) (F0 m 4 ls []) := by
    intro d
    induction d with
    | zero =>
      intro i hi x hx0 H locs ls hm hl
      refine lv_iload_n hx hb dM_standing_4 rfl (lv_at hl 0 rfl) ?_
      refine lv_aload_n hx hb dM_standing_5 rfl (lv_at hl 2 rfl) ?_
      refine g_M_M_46 (v := .int (nI n)) hx hb hE hm hR.1 rfl dM_standing_6 ?_
      refine lv_icmp_ge (tgt := 45) hx hb dM_standing_9 (by decide) (fun c_9 => ?_) (fun c_9 => ?_)
      · rw [← Int32.not_lt] at c_9
        refine lv_iload_n hx hb dM_standing_45 rfl (lv_at hl 1 rfl) ?_
        exact mreti hx hb hr hlk hm ⟨by rw [hx0, show i = n by omega]; rfl, rfl⟩ dM_standing_46
      · exact absurd (nI_le (a := n) (b := i) (by omega) (by omega)) c_9
    | succ d ih =>
      intro i hi x hx0 H locs ls hm hl
      have hiN : i < n := by omega
      refine lv_iload_n hx hb dM_standing_4 rfl (lv_at hl 0 rfl) ?_
      refine lv_aload_n hx hb dM_standing_5 rfl (lv_at hl 2 rfl) ?_
      refine g_M_M_46 (v := .int (nI n)) hx hb hE hm hR.1 rfl dM_standing_6 ?_
      refine lv_icmp_ge (tgt := 45) hx hb dM_standing_9 (by decide) (fun c_9 => ?_) (fun c_9 => ?_)
      · exact absurd c_9 (nI_ge (a := i) (b := n) (by omega) (by omega))
      · rw [Int32.not_le] at c_9
        refine lv_iload_n hx hb dM_standing_12 rfl (lv_at hl 1 rfl) ?_
        refine lv_aload_n hx hb dM_standing_13 rfl (lv_at hl 2 rfl) ?_
        refine g_M_M_20 (v := .ref (as 3)) hx hb hE hm hR.1 rfl dM_standing_14 ?_
        refine lv_iload_n hx hb dM_standing_17 rfl (lv_at hl 0 rfl) ?_
        refine ialdE (i) hx hb hE.2.2.1 hm 0 hR.a3 rfl rfl (by have := hR.n200; have := hiN; omega) (by decide) dM_standing_18 ?_
        rw [hR.g3 hiN]
        refine lv_iload_n hx hb dM_standing_19 rfl (lv_at hl 3 rfl) ?_
        refine lv_icmp_ne (tgt := 36) hx hb dM_standing_20 (by decide) (fun c_20 => ?_) (fun c_20 => ?_)
        · rw [oI_eq (fun b hb => by have := hR.bs hiN hb; omega) (by omega)] at c_20
          refine lv_iconst (v := 0) hx hb dM_standing_36 (by decide) ?_
          refine lv_iadd hx hb dM_standing_37 ?_
          refine lv_istore_n (lv' := [(2, .int ((x) + (0))), (3, .int (nI i)), (0, .ref (r)), (1, .int (nI j))]) hx hb dM_standing_38 rfl hl (by decide) rfl (fun ls hl => ?_)
          refine lv_iinc (v := nI i + 1) (lv' := [(3, .int (nI i + 1)), (2, .int ((x) + (0))), (0, .ref (r)), (1, .int (nI j))]) hx hb dM_standing_39 hl (k := 1) rfl rfl (by decide) rfl (fun ls hl => ?_)
          refine lv_goto (tgt := 4) hx hb dM_standing_42 (by decide) ?_
          rw [nI_1] at hl
          rw [Int32.add_zero] at hl
          exact ih (i + 1) (by omega) x (cntU_f hx0 (by simp [c_9, c_20])) H locs ls hm (lv_sub hl [0, 1, 2, 3] rfl)
        · rw [oI_eq (fun b hb => by have := hR.bs hiN hb; omega) (by omega)] at c_20
          refine lv_aload_n hx hb dM_standing_23 rfl (lv_at hl 2 rfl) ?_
          refine g_M_M_32 (v := .ref (as 7)) hx hb hE hm hR.1 rfl dM_standing_24 ?_
          refine lv_iload_n hx hb dM_standing_27 rfl (lv_at hl 0 rfl) ?_
          refine baldE (i) hx hb hE.2.2.1 hm 1 hR.a7 rfl rfl (by have := hR.n200; have := hiN; omega) (by decide) dM_standing_28 ?_
          rw [hR.g7 hiN]
          refine lv_if_ne (tgt := 36) hx hb dM_standing_29 (by decide) (fun c_29 => ?_) (fun c_29 => ?_)
          · rw [bI_0] at c_29
            refine lv_iconst (v := 0) hx hb dM_standing_36 (by decide) ?_
            refine lv_iadd hx hb dM_standing_37 ?_
            refine lv_istore_n (lv' := [(2, .int ((x) + (0))), (3, .int (nI i)), (0, .ref (r)), (1, .int (nI j))]) hx hb dM_standing_38 rfl hl (by decide) rfl (fun ls hl => ?_)
            refine lv_iinc (v := nI i + 1) (lv' := [(3, .int (nI i + 1)), (2, .int ((x) + (0))), (0, .ref (r)), (1, .int (nI j))]) hx hb dM_standing_39 hl (k := 1) rfl rfl (by decide) rfl (fun ls hl => ?_)
            refine lv_goto (tgt := 4) hx hb dM_standing_42 (by decide) ?_
            rw [nI_1] at hl
            rw [Int32.add_zero] at hl
            exact ih (i + 1) (by omega) x (cntU_f hx0 (by simp [c_9, c_20, c_29])) H locs ls hm (lv_sub hl [0, 1, 2, 3] rfl)
          · rw [bI_0] at c_29
            refine lv_iconst (v := 1) hx hb dM_standing_32 (by decide) ?_
            refine lv_goto (tgt := 37) hx hb dM_standing_33 (by decide) ?_
            refine lv_iadd hx hb dM_standing_37 ?_
            refine lv_istore_n (lv' := [(2, .int ((x) + (1))), (3, .int (nI i)), (0, .ref (r)), (1, .int (nI j))]) hx hb dM_standing_38 rfl hl (by decide) rfl (fun ls hl => ?_)
            refine lv_iinc (v := nI i + 1) (lv' := [(3, .int (nI i + 1)), (2, .int ((x) + (1))), (0, .ref (r)), (1, .int (nI j))]) hx hb dM_standing_39 hl (k := 1) rfl rfl (by decide) rfl (fun ls hl => ?_)
            refine lv_goto (tgt := 4) hx hb dM_standing_42 (by decide) ?_
            rw [nI_1] at hl
            exact ih (i + 1) (by omega) (x + 1) (cntU_t hx0 (by simp [c_9, c_20, c_29])) H locs ls hm (lv_sub hl [0, 1, 2, 3] rfl)
  refine lv_iconst (v := 0) hx hb dM_standing_0 (by decide) ?_
  refine lv_istore_n (lv' := [(2, .int (0)), (0, .ref (r)), (1, .int (nI j))]) hx hb dM_standing_1 rfl hl (by decide) rfl (fun ls hl => ?_)
  refine lv_iconst (v := 0) hx hb dM_standing_2 (by decide) ?_
  refine lv_istore_n (lv' := [(3, .int (0)), (2, .int (0)), (0, .ref (r)), (1, .int (nI j))]) hx hb dM_standing_3 rfl hl (by decide) rfl (fun ls hl => ?_)
  exact loop n 0 (by omega) 0 rfl _ _ ls hm (by rw [nI_0]; exact lv_sub hl [0, 1, 2, 3] rfl)
set_option maxHeartbeats 4000000 in
set_option maxRecDepth 100000 in
theorem kM_mayGo (l : Launch) (B : Nat) (D : va_G) (cI cZ cL : ClassId) (w : Wd) (r : Nat) (as : Nat → Nat) (g : Nat → Nat → Int32) (thr now : Int32) (n : Nat) (J : Nat → Jr) (hR : rR cI cZ r as g thr now n J w) (j : Nat) (hjn : j < n) : Met l yM_mayGo (.code yM_mayGo cM_mayGo 2 (some .boolean) :: BIG) { frames := 1, cells := 0, slots := 0, locals := 23 } (va_Pc [.ref (r), .int (nI j)] (mP B D CLS (TYS cI cZ cL) NEST w)) (va_Qi (fun z u => z = bI (fr n J j) ∧ u = w) (mE B D CLS) (fun q => B ≤ q)) 0 0 (fun q => B ≤ q) := by
  refine mMet (by decide) rfl (Nat.le_of_ble_eq_true rfl) ?_
  intro p e s m below meth c ls hx hb hml hr hlk hnm hown hts hK hN hm hl
  have hE : ME "ChainPickerModel" (.code yM_mayGo cM_mayGo 2 (some .boolean)) _ s m D (TYS cI cZ cL) := ⟨hown, hts, hK, hN⟩
  have hl : lv_has ls 2 [(0, .ref (r)), (1, .int (nI j))] := hl
  have hn200 := hR.n200
  refine lv_aload_n hx hb dM_mayGo_0 rfl (lv_at hl 0 rfl) ?_
  refine g_M_M_29 (v := .ref (as 6)) hx hb hE hm hR.1 rfl dM_mayGo_1 ?_
  refine lv_iload_n hx hb dM_mayGo_4 rfl (lv_at hl 1 rfl) ?_
  refine ialdE (j) hx hb hE.2.2.1 hm 0 hR.a6 rfl rfl (by have := hR.n200; have := hjn; omega) (by decide) dM_mayGo_5 ?_
  rw [hR.g6 hjn]
  refine lv_if_eq (tgt := 30) hx hb dM_mayGo_6 (by decide) (fun c_6 => ?_) (fun c_6 => ?_)
  · refine lv_iconst (v := 0) hx hb dM_mayGo_30 (by decide) ?_
    exact mretz hx hb hr (by decide +kernel) hlk hm ⟨by simp [fr, bI, c_6], rfl⟩ dM_mayGo_31
  · refine lv_aload_n hx hb dM_mayGo_9 rfl (lv_at hl 0 rfl) ?_
    refine g_M_M_32 (v := .ref (as 7)) hx hb hE hm hR.1 rfl dM_mayGo_10 ?_
    refine lv_iload_n hx hb dM_mayGo_13 rfl (lv_at hl 1 rfl) ?_
    refine baldE (j) hx hb hE.2.2.1 hm 1 hR.a7 rfl rfl (by have := hR.n200; have := hjn; omega) (by decide) dM_mayGo_14 ?_
    rw [hR.g7 hjn]
    refine lv_if_ne (tgt := 30) hx hb dM_mayGo_15 (by decide) (fun c_15 => ?_) (fun c_15 => ?_)
    · rw [bI_0] at c_15
      refine lv_iconst (v := 0) hx hb dM_mayGo_30 (by decide) ?_
      exact mretz hx hb hr (by decide +kernel) hlk hm ⟨by simp [fr, bI, c_6, c_15], rfl⟩ dM_mayGo_31
    · rw [bI_0] at c_15
      refine lv_aload_n hx hb dM_mayGo_18 rfl (lv_at hl 0 rfl) ?_
      refine lv_iload_n hx hb dM_mayGo_19 rfl (lv_at hl 1 rfl) ?_
      refine mcalli (mcV (n := 1) (As := [.int (nI j)]) (rest := []) hx hb hml hE (kM_standing l B D cI cZ cL w r as g thr now n J hR j hjn) q_409 q_411 qs_14 q_2 q_412 rfl rfl (by decide +kernel) ⟨Nat.le_of_ble_eq_true rfl, Nat.le_of_ble_eq_true rfl⟩ rfl hl.1 hm rfl hR.1 rfl (Nat.le_of_ble_eq_true rfl) dM_mayGo_20 ⟨Nat.le_of_ble_eq_true rfl, Nat.le_of_ble_eq_true rfl⟩) hm (fun r1 u1 H locs hp1 hm => ?_)
      obtain ⟨hr1, hu1⟩ := hp1
      rw [hu1] at hm
      refine lv_if_ne (tgt := 30) hx hb dM_mayGo_23 (by decide) (fun c_23 => ?_) (fun c_23 => ?_)
      · rw [hr1, nI_eq0 (by have := sd_le n J j; omega)] at c_23
        refine lv_iconst (v := 0) hx hb dM_mayGo_30 (by decide) ?_
        exact mretz hx hb hr (by decide +kernel) hlk hm ⟨by simp [fr, bI, c_6, c_15, c_23], rfl⟩ dM_mayGo_31
      · rw [hr1, nI_eq0 (by have := sd_le n J j; omega)] at c_23
        refine lv_iconst (v := 1) hx hb dM_mayGo_26 (by decide) ?_
        refine lv_goto (tgt := 31) hx hb dM_mayGo_27 (by decide) ?_
        exact mretz hx hb hr (by decide +kernel) hlk hm ⟨by simp [fr, bI, c_6, c_15, c_23], rfl⟩ dM_mayGo_31
set_option maxHeartbeats 4000000 in
set_option maxRecDepth 100000 in
theorem kM_isOnly (l : Launch) (B : Nat) (D : va_G) (cI cZ cL : ClassId) (w : Wd) (r : Nat) (as : Nat → Nat) (g : Nat → Nat → Int32) (thr now : Int32) (n : Nat) (J : Nat → Jr) (hR : rR cI cZ r as g thr now n J w) (j : Nat) (hjn : j < n) : Met l yM_isOnly (.code yM_isOnly cM_isOnly 3 (some .boolean) :: BIG) { frames := 0, cells := 0, slots := 0, locals := 0 } (va_Pc [.ref (r), .int (nI j)] (mP B D CLS (TYS cI cZ cL) NEST w)) (va_Qi (fun z u => z = bI (onlyR n J j) ∧ u = w) (mE B D CLS) (fun q => B ≤ q)) 0 0 (fun q => B ≤ q) := by
  refine mMet (by decide) rfl (Nat.le_of_ble_eq_true rfl) ?_
  intro p e s m below meth c ls hx hb hml hr hlk hnm hown hts hK hN hm hl
  have hE : ME "ChainPickerModel" (.code yM_isOnly cM_isOnly 3 (some .boolean)) _ s m D (TYS cI cZ cL) := ⟨hown, hts, hK, hN⟩
  have hl : lv_has ls 3 [(0, .ref (r)), (1, .int (nI j))] := hl
  have hn200 := hR.n200
  have loop : ∀ (d i : Nat), i + d = n → jSt (J j) = 1 → jLev (J j) = 0 → (∀ k, k < i → onlyP J j k = false) → ∀ (H : Heap) (locs : List Loc) (ls : Array Slot), mS B D CLS s.heap w H locs → lv_has ls 3 [(2, .int (nI i)), (0, .ref (r)), (1, .int (nI j))] → W p l e ({ frames := 0, cells := 0, slots := 0, locals := 0 }) s m [.ref (r), .int (nI j)].toArray below meth c H locs 0 0 (MQ below (va_Qi (fun z u => z = bI (onlyR n J j) ∧ u = w) (mE B D CLS) (fun q => B ≤ q)) [.ref (r), .int (nI j)].toArray s 0 0 (fun q => B ≤ q)) (F0 m 23 ls []) := by
    intro d
    induction d with
    | zero =>
      intro i hi h1 h2 hx0 H locs ls hm hl
      refine lv_iload_n hx hb dM_isOnly_23 rfl (lv_at hl 0 rfl) ?_
      refine lv_aload_n hx hb dM_isOnly_24 rfl (lv_at hl 1 rfl) ?_
      refine g_M_M_46 (v := .int (nI n)) hx hb hE hm hR.1 rfl dM_isOnly_25 ?_
      refine lv_icmp_ge (tgt := 87) hx hb dM_isOnly_28 (by decide) (fun c_28 => ?_) (fun c_28 => ?_)
      · rw [← Int32.not_lt] at c_28
        refine lv_iconst (v := 1) hx hb dM_isOnly_87 (by decide) ?_
        exact mretz hx hb hr (by decide +kernel) hlk hm ⟨by simp [onlyR, h1, h2, lastI_none.mpr (show ∀ k, k < n → onlyP J j k = false from fun k hk => hx0 k (by omega)), bI], rfl⟩ dM_isOnly_88
      · exact absurd (nI_le (a := n) (b := i) (by omega) (by omega)) c_28
    | succ d ih =>
      intro i hi h1 h2 hx0 H locs ls hm hl
      have hiN : i < n := by omega
      refine lv_iload_n hx hb dM_isOnly_23 rfl (lv_at hl 0 rfl) ?_
      refine lv_aload_n hx hb dM_isOnly_24 rfl (lv_at hl 1 rfl) ?_
      refine g_M_M_46 (v := .int (nI n)) hx hb hE hm hR.1 rfl dM_isOnly_25 ?_
      refine lv_icmp_ge (tgt := 87) hx hb dM_isOnly_28 (by decide) (fun c_28 => ?_) (fun c_28 => ?_)
      · exact absurd c_28 (nI_ge (a := i) (b := n) (by omega) (by omega))
      · rw [Int32.not_le] at c_28
        refine lv_iload_n hx hb dM_isOnly_31 rfl (lv_at hl 0 rfl) ?_
        refine lv_iload_n hx hb dM_isOnly_32 rfl (lv_at hl 2 rfl) ?_
        refine lv_icmp_eq (tgt := 81) hx hb dM_isOnly_33 (by decide) (fun c_33 => ?_) (fun c_33 => ?_)
        · rw [nI_eq (by omega) (by omega)] at c_33
          refine lv_iinc (v := nI i + 1) (lv' := [(2, .int (nI i + 1)), (0, .ref (r)), (1, .int (nI j))]) hx hb dM_isOnly_81 hl (k := 0) rfl rfl (by decide) rfl (fun ls hl => ?_)
          refine lv_goto (tgt := 23) hx hb dM_isOnly_84 (by decide) ?_
          rw [nI_1] at hl
          exact ih (i + 1) (by omega) h1 h2 (lt_s hx0 (by simp [onlyP, uz, c_28, c_33])) H locs ls hm (lv_sub hl [0, 1, 2] rfl)
        · rw [nI_eq (by omega) (by omega)] at c_33
          refine lv_aload_n hx hb dM_isOnly_36 rfl (lv_at hl 1 rfl) ?_
          refine g_M_M_7 (v := .ref (as 0)) hx hb hE hm hR.1 rfl dM_isOnly_37 ?_
          refine lv_iload_n hx hb dM_isOnly_40 rfl (lv_at hl 0 rfl) ?_
          refine ialdE (i) hx hb hE.2.2.1 hm 0 hR.a0 rfl rfl (by have := hR.n200; have := hiN; omega) (by decide) dM_isOnly_41 ?_
          rw [hR.g0 hiN]
          refine lv_aload_n hx hb dM_isOnly_42 rfl (lv_at hl 1 rfl) ?_
          refine g_M_M_7 (v := .ref (as 0)) hx hb hE hm hR.1 rfl dM_isOnly_43 ?_
          refine lv_iload_n hx hb dM_isOnly_46 rfl (lv_at hl 2 rfl) ?_
          refine ialdE (j) hx hb hE.2.2.1 hm 0 hR.a0 rfl rfl (by have := hR.n200; have := hjn; omega) (by decide) dM_isOnly_47 ?_
          rw [hR.g0 hjn]
          refine lv_icmp_ne (tgt := 81) hx hb dM_isOnly_48 (by decide) (fun c_48 => ?_) (fun c_48 => ?_)
          · refine lv_iinc (v := nI i + 1) (lv' := [(2, .int (nI i + 1)), (0, .ref (r)), (1, .int (nI j))]) hx hb dM_isOnly_81 hl (k := 0) rfl rfl (by decide) rfl (fun ls hl => ?_)
            refine lv_goto (tgt := 23) hx hb dM_isOnly_84 (by decide) ?_
            rw [nI_1] at hl
            exact ih (i + 1) (by omega) h1 h2 (lt_s hx0 (by simp [onlyP, uz, c_28, c_33, c_48])) H locs ls hm (lv_sub hl [0, 1, 2] rfl)
          · refine lv_aload_n hx hb dM_isOnly_51 rfl (lv_at hl 1 rfl) ?_
            refine g_M_M_29 (v := .ref (as 6)) hx hb hE hm hR.1 rfl dM_isOnly_52 ?_
            refine lv_iload_n hx hb dM_isOnly_55 rfl (lv_at hl 0 rfl) ?_
            refine ialdE (i) hx hb hE.2.2.1 hm 0 hR.a6 rfl rfl (by have := hR.n200; have := hiN; omega) (by decide) dM_isOnly_56 ?_
            rw [hR.g6 hiN]
            refine lv_iconst (v := 1) hx hb dM_isOnly_57 (by decide) ?_
            refine lv_icmp_ne (tgt := 81) hx hb dM_isOnly_58 (by decide) (fun c_58 => ?_) (fun c_58 => ?_)
            · refine lv_iinc (v := nI i + 1) (lv' := [(2, .int (nI i + 1)), (0, .ref (r)), (1, .int (nI j))]) hx hb dM_isOnly_81 hl (k := 0) rfl rfl (by decide) rfl (fun ls hl => ?_)
              refine lv_goto (tgt := 23) hx hb dM_isOnly_84 (by decide) ?_
              rw [nI_1] at hl
              exact ih (i + 1) (by omega) h1 h2 (lt_s hx0 (by simp [onlyP, uz, c_28, c_33, c_48, c_58])) H locs ls hm (lv_sub hl [0, 1, 2] rfl)
            · refine lv_aload_n hx hb dM_isOnly_61 rfl (lv_at hl 1 rfl) ?_
              refine g_M_M_13 (v := .ref (as 1)) hx hb hE hm hR.1 rfl dM_isOnly_62 ?_
              refine lv_iload_n hx hb dM_isOnly_65 rfl (lv_at hl 0 rfl) ?_
              refine ialdE (i) hx hb hE.2.2.1 hm 0 hR.a1 rfl rfl (by have := hR.n200; have := hiN; omega) (by decide) dM_isOnly_66 ?_
              rw [hR.g1 hiN]
              refine lv_if_ne (tgt := 81) hx hb dM_isOnly_67 (by decide) (fun c_67 => ?_) (fun c_67 => ?_)
              · refine lv_iinc (v := nI i + 1) (lv' := [(2, .int (nI i + 1)), (0, .ref (r)), (1, .int (nI j))]) hx hb dM_isOnly_81 hl (k := 0) rfl rfl (by decide) rfl (fun ls hl => ?_)
                refine lv_goto (tgt := 23) hx hb dM_isOnly_84 (by decide) ?_
                rw [nI_1] at hl
                exact ih (i + 1) (by omega) h1 h2 (lt_s hx0 (by simp [onlyP, uz, c_28, c_33, c_48, c_58, c_67])) H locs ls hm (lv_sub hl [0, 1, 2] rfl)
              · refine lv_aload_n hx hb dM_isOnly_70 rfl (lv_at hl 1 rfl) ?_
                refine g_M_M_32 (v := .ref (as 7)) hx hb hE hm hR.1 rfl dM_isOnly_71 ?_
                refine lv_iload_n hx hb dM_isOnly_74 rfl (lv_at hl 0 rfl) ?_
                refine baldE (i) hx hb hE.2.2.1 hm 1 hR.a7 rfl rfl (by have := hR.n200; have := hiN; omega) (by decide) dM_isOnly_75 ?_
                rw [hR.g7 hiN]
                refine lv_if_ne (tgt := 81) hx hb dM_isOnly_76 (by decide) (fun c_76 => ?_) (fun c_76 => ?_)
                · rw [bI_0] at c_76
                  refine lv_iinc (v := nI i + 1) (lv' := [(2, .int (nI i + 1)), (0, .ref (r)), (1, .int (nI j))]) hx hb dM_isOnly_81 hl (k := 0) rfl rfl (by decide) rfl (fun ls hl => ?_)
                  refine lv_goto (tgt := 23) hx hb dM_isOnly_84 (by decide) ?_
                  rw [nI_1] at hl
                  exact ih (i + 1) (by omega) h1 h2 (lt_s hx0 (by simp [onlyP, uz, c_28, c_33, c_48, c_58, c_67, c_76])) H locs ls hm (lv_sub hl [0, 1, 2] rfl)
                · rw [bI_0] at c_76
                  refine lv_iconst (v := 0) hx hb dM_isOnly_79 (by decide) ?_
                  exact mretz hx hb hr (by decide +kernel) hlk hm ⟨by rw [onlyR, show (lastI (onlyP J j) n).isNone = false from lastI_fd hiN (by simp [onlyP, uz, c_28, c_33, c_48, c_58, c_67, c_76])]; simp [bI], rfl⟩ dM_isOnly_80
  refine lv_aload_n hx hb dM_isOnly_0 rfl (lv_at hl 0 rfl) ?_
  refine g_M_M_29 (v := .ref (as 6)) hx hb hE hm hR.1 rfl dM_isOnly_1 ?_
  refine lv_iload_n hx hb dM_isOnly_4 rfl (lv_at hl 1 rfl) ?_
  refine ialdE (j) hx hb hE.2.2.1 hm 0 hR.a6 rfl rfl (by have := hR.n200; have := hjn; omega) (by decide) dM_isOnly_5 ?_
  rw [hR.g6 hjn]
  refine lv_iconst (v := 1) hx hb dM_isOnly_6 (by decide) ?_
  refine lv_icmp_ne (tgt := 19) hx hb dM_isOnly_7 (by decide) (fun c_7 => ?_) (fun c_7 => ?_)
  · refine lv_iconst (v := 0) hx hb dM_isOnly_19 (by decide) ?_
    exact mretz hx hb hr (by decide +kernel) hlk hm ⟨by simp [onlyR, bI, c_7], rfl⟩ dM_isOnly_20
  · refine lv_aload_n hx hb dM_isOnly_10 rfl (lv_at hl 0 rfl) ?_
    refine g_M_M_13 (v := .ref (as 1)) hx hb hE hm hR.1 rfl dM_isOnly_11 ?_
    refine lv_iload_n hx hb dM_isOnly_14 rfl (lv_at hl 1 rfl) ?_
    refine ialdE (j) hx hb hE.2.2.1 hm 0 hR.a1 rfl rfl (by have := hR.n200; have := hjn; omega) (by decide) dM_isOnly_15 ?_
    rw [hR.g1 hjn]
    refine lv_if_eq (tgt := 21) hx hb dM_isOnly_16 (by decide) (fun c_16 => ?_) (fun c_16 => ?_)
    · refine lv_iconst (v := 0) hx hb dM_isOnly_21 (by decide) ?_
      refine lv_istore_n (lv' := [(2, .int (0)), (0, .ref (r)), (1, .int (nI j))]) hx hb dM_isOnly_22 rfl hl (by decide) rfl (fun ls hl => ?_)
      exact loop n 0 (by omega) (by simpa using c_7) (by simpa using c_16) (fun k hk => absurd hk (Nat.not_lt_zero k)) _ _ ls hm (by rw [nI_0]; exact lv_sub hl [0, 1, 2] rfl)
    · refine lv_iconst (v := 0) hx hb dM_isOnly_19 (by decide) ?_
      exact mretz hx hb hr (by decide +kernel) hlk hm ⟨by simp [onlyR, bI, c_7, c_16], rfl⟩ dM_isOnly_20
