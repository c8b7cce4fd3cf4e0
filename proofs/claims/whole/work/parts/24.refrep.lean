/-! the reference's cells, changed -/
def upG (g : Nat → Nat → Int32) (k : Nat) (f : Nat → Int32) : Nat → Nat → Int32 := fun m => if m = k then f else g m
theorem upG_at (g : Nat → Nat → Int32) (k : Nat) (f : Nat → Int32) : upG g k f k = f := by simp [upG]
theorem upG_ne {g : Nat → Nat → Int32} {k m : Nat} {f : Nat → Int32} (h : m ≠ k) : upG g k f m = g m := by simp [upG, h]
def rA (cI cZ : ClassId) (r : Nat) (as : Nat → Nat) (g : Nat → Nat → Int32) (thr now : Int32) (n : Nat) (w : Wd) : Prop :=
  w r = some (.inr (2, [.int thr, .int now, .int (nI n), .ref (as 0), .ref (as 1), .ref (as 2), .ref (as 3), .ref (as 4), .ref (as 5), .ref (as 6), .ref (as 7), .ref (as 8)])) ∧ (∀ k, k < 9 → w (as k) = some (.inl (rT cI cZ k, rN k, .inl (g k)))) ∧ (∀ i j, i < 9 → j < 9 → as i = as j → i = j)
section RREP2
variable {cI cZ : ClassId} {r : Nat} {as : Nat → Nat} {g : Nat → Nat → Int32} {thr now : Int32} {n : Nat} {J : Nat → Jr} {w : Wd}
theorem rR.A (h : rR cI cZ r as g thr now n J w) : rA cI cZ r as g thr now n w := ⟨h.1, h.2.1, h.2.2.1⟩
theorem rA.R (h : rA cI cZ r as g thr now n w) (hn : n ≤ 200) (hg : gOk g n J) (hb : ∀ i, i < n → ∀ b, jBs (J i) = some b → b < i) : rR cI cZ r as g thr now n J w := ⟨h.1, h.2.1, h.2.2, hn, hg, hb⟩
theorem rA.a0 (h : rA cI cZ r as g thr now n w) : w (as 0) = some (.inl (cI, 200, .inl (g 0))) := h.2.1 0 (by decide)
theorem rA.a1 (h : rA cI cZ r as g thr now n w) : w (as 1) = some (.inl (cI, 200, .inl (g 1))) := h.2.1 1 (by decide)
theorem rA.a2 (h : rA cI cZ r as g thr now n w) : w (as 2) = some (.inl (cZ, 200, .inl (g 2))) := h.2.1 2 (by decide)
theorem rA.a3 (h : rA cI cZ r as g thr now n w) : w (as 3) = some (.inl (cI, 200, .inl (g 3))) := h.2.1 3 (by decide)
theorem rA.a4 (h : rA cI cZ r as g thr now n w) : w (as 4) = some (.inl (cI, 200, .inl (g 4))) := h.2.1 4 (by decide)
theorem rA.a5 (h : rA cI cZ r as g thr now n w) : w (as 5) = some (.inl (cI, 200, .inl (g 5))) := h.2.1 5 (by decide)
theorem rA.a6 (h : rA cI cZ r as g thr now n w) : w (as 6) = some (.inl (cI, 200, .inl (g 6))) := h.2.1 6 (by decide)
theorem rA.a7 (h : rA cI cZ r as g thr now n w) : w (as 7) = some (.inl (cZ, 200, .inl (g 7))) := h.2.1 7 (by decide)
theorem rA.a8 (h : rA cI cZ r as g thr now n w) : w (as 8) = some (.inl (cI, 10000, .inl (g 8))) := h.2.1 8 (by decide)
theorem rA.ne (h : rA cI cZ r as g thr now n w) {k : Nat} (hk : k < 9) : as k ≠ r := by
  intro e
  have h1 := h.2.1 k hk
  rw [e, h.1] at h1
  cases h1
theorem rA.put (h : rA cI cZ r as g thr now n w) {k : Nat} (hk : k < 9) (f : Nat → Int32) : rA cI cZ r as (upG g k f) thr now n (wset w (as k) (.inl (rT cI cZ k, rN k, .inl f))) := by
  refine ⟨?_, fun m hm => ?_, h.2.2⟩
  · rw [wset_ne (h.ne hk).symm]; exact h.1
  · by_cases e : m = k
    · subst e
      rw [wset_at, upG_at]
    · rw [wset_ne (fun q => e (h.2.2 m k hm hk q)), upG_ne e]
      exact h.2.1 m hm
theorem rA.set (h : rA cI cZ r as g thr now n w) (t nw : Int32) (m : Nat) : rA cI cZ r as g t nw m (wset w r (.inr (2, [.int t, .int nw, .int (nI m), .ref (as 0), .ref (as 1), .ref (as 2), .ref (as 3), .ref (as 4), .ref (as 5), .ref (as 6), .ref (as 7), .ref (as 8)]))) :=
  ⟨wset_at _ _ _, fun k hk => by rw [wset_ne (h.ne hk)]; exact h.2.1 k hk, h.2.2⟩
theorem gOk.tell (h : gOk g n J) {j k : Nat} (hj : j < n) (hk : k < 50) (v : Int32) : gOk (upG g 8 (upd (g 8) (50 * j + k) v)) n (teJ J j k v) := by
  intro i hi
  obtain ⟨h0, h1, h2, h3, h4, h5, h6, h7, h8⟩ := h i hi
  by_cases e : i = j
  · subst e
    refine ⟨?_, ?_, ?_, ?_, ?_, ?_, ?_, ?_, fun f hf => ?_⟩
    all_goals first | (simp [upG, teJ, upJ, h0, h1, h2, h3, h4, h5, h6, h7]; done) | skip
    rw [upG_at]
    simp only [teJ, upJ_at]
    show _ = upd (jVr (J i)) k v f
    by_cases ef : f = k
    · subst ef; simp [upd]
    · rw [show upd (g 8) (50 * i + k) v (50 * i + f) = g 8 (50 * i + f) by simp [upd]; intro q; omega, h8 f hf]
      simp [upd, ef]
  · refine ⟨?_, ?_, ?_, ?_, ?_, ?_, ?_, ?_, fun f hf => ?_⟩
    all_goals first | (simp [upG, teJ, upJ, e, h0, h1, h2, h3, h4, h5, h6, h7]; done) | skip
    rw [upG_at]
    simp only [teJ, upJ_ne e]
    rw [show upd (g 8) (50 * j + k) v (50 * i + f) = g 8 (50 * i + f) by simp [upd]; intro q; omega, h8 f hf]
theorem gOk.endj (h : gOk g n J) {j : Nat} (hj : j < n) (t st : Int32) : gOk (upG (upG g 6 (upd (g 6) j st)) 5 (upd (g 5) j t)) n (enJ J j t st) := by
  intro i hi
  obtain ⟨h0, h1, h2, h3, h4, h5, h6, h7, h8⟩ := h i hi
  by_cases e : i = j
  · subst e
    simp [upG, enJ, upJ, upd, h0, h1, h2, h3, h4, h7]
    exact h8
  · simp [upG, enJ, upJ, e, upd, h0, h1, h2, h3, h4, h5, h6, h7]
    exact h8
theorem gOk.drop (h : gOk g n J) {j : Nat} (hj : j < n) {q : Nat → Nat → Int32} (q0 : ∀ k, k < 7 → q k = g k) (q7 : q 7 = upd (g 7) j 1) (q8 : ∀ f, f < 50 → q 8 (50 * j + f) = -2) (q9 : ∀ x, x < 50 * j ∨ 50 * j + 50 ≤ x → q 8 x = g 8 x) : gOk q n (drJ J j) := by
  intro i hi
  obtain ⟨h0, h1, h2, h3, h4, h5, h6, h7, h8⟩ := h i hi
  rw [q0 0 (by decide), q0 1 (by decide), q0 2 (by decide), q0 3 (by decide), q0 4 (by decide), q0 5 (by decide), q0 6 (by decide), q7]
  by_cases e : i = j
  · subst e
    simp only [drJ, upJ_at]
    exact ⟨h0, h1, h2, h3, h4, h5, h6, by simp [upd, bI], q8⟩
  · simp only [drJ, upJ_ne e]
    refine ⟨h0, h1, h2, h3, h4, h5, h6, by simp [upd, e, h7], fun f hf => ?_⟩
    rw [q9 _ (by omega), h8 f hf]
theorem gOk.beg (h : gOk g n J) {s l now : Int32} {b : Option Nat} {q : Nat → Nat → Int32} (q0 : q 0 = upd (g 0) n s) (q1 : q 1 = upd (g 1) n (if b = none then 0 else l)) (q2 : q 2 = upd (g 2) n (bI (decide (b = none) && decide (l ≠ 0)))) (q3 : q 3 = upd (g 3) n (oI b)) (q4 : q 4 = upd (g 4) n now) (q5 : q 5 = upd (g 5) n (-1)) (q6 : q 6 = upd (g 6) n 0) (q7 : q 7 = upd (g 7) n 0)
    (q8 : ∀ f, f < 50 → q 8 (50 * n + f) = -2) (q9 : ∀ x, x < 50 * n → q 8 x = g 8 x) : gOk q (n + 1) (upJ J n (nwJ s l b now)) := by
  intro i hi
  rw [q0, q1, q2, q3, q4, q5, q6, q7]
  by_cases e : i = n
  · subst e
    simp only [upJ_at, nwJ]
    exact ⟨by simp [upd], by simp [upd], by simp [upd], by simp [upd], by simp [upd], by simp [upd], by simp [upd], by simp [upd, bI], q8⟩
  · have hi' : i < n := by omega
    obtain ⟨h0, h1, h2, h3, h4, h5, h6, h7, h8⟩ := h i hi'
    simp only [upJ_ne e]
    refine ⟨by simp [upd, e, h0], by simp [upd, e, h1], by simp [upd, e, h2], by simp [upd, e, h3], by simp [upd, e, h4], by simp [upd, e, h5], by simp [upd, e, h6], by simp [upd, e, h7], fun f hf => ?_⟩
    rw [q9 _ (by omega), h8 f hf]
end RREP2
theorem bs_drop {n j : Nat} {J : Nat → Jr} (h : ∀ i, i < n → ∀ b, jBs (J i) = some b → b < i) : ∀ i, i < n → ∀ b, jBs (drJ J j i) = some b → b < i := by
  intro i hi b hb
  by_cases e : i = j
  · subst e; simp only [drJ, upJ_at] at hb; exact h i hi b hb
  · simp only [drJ, upJ_ne e] at hb; exact h i hi b hb
theorem bs_tell {n j k : Nat} {v : Int32} {J : Nat → Jr} (h : ∀ i, i < n → ∀ b, jBs (J i) = some b → b < i) : ∀ i, i < n → ∀ b, jBs (teJ J j k v i) = some b → b < i := by
  intro i hi b hb
  by_cases e : i = j
  · subst e; simp only [teJ, upJ_at] at hb; exact h i hi b hb
  · simp only [teJ, upJ_ne e] at hb; exact h i hi b hb
theorem bs_end {n j : Nat} {t st : Int32} {J : Nat → Jr} (h : ∀ i, i < n → ∀ b, jBs (J i) = some b → b < i) : ∀ i, i < n → ∀ b, jBs (enJ J j t st i) = some b → b < i := by
  intro i hi b hb
  by_cases e : i = j
  · subst e; simp only [enJ, upJ_at] at hb; exact h i hi b hb
  · simp only [enJ, upJ_ne e] at hb; exact h i hi b hb
theorem bs_beg {n : Nat} {s l now : Int32} {b0 : Option Nat} {J : Nat → Jr} (h : ∀ i, i < n → ∀ b, jBs (J i) = some b → b < i) (hb0 : ∀ i, b0 = some i → i < n) : ∀ i, i < n + 1 → ∀ b, jBs (upJ J n (nwJ s l b0 now) i) = some b → b < i := by
  intro i hi b hb
  by_cases e : i = n
  · subst e; rw [upJ_at] at hb; exact hb0 b hb
  · rw [upJ_ne e] at hb; exact h i (by omega) b hb
section TL
variable {a : Int32} {y v b : Int32}
abbrev tlX (a y v b : Int32) : Bool := decide (a = 0) && (decide (0 ≤ y) && decide (y < 50)) && (if v = -1 then decide (b ≠ 0) else decide (0 ≤ v) && decide (v ≤ 1000000))
theorem tl_st (h : ¬ a = 0) : tlX a y v b = false := by simp [h]
theorem tl_y0 (h : y < 0) : tlX a y v b = false := by simp [Int32.not_le.mpr h]
theorem tl_y1 (h : ¬ y < 50) : tlX a y v b = false := by simp [h]
theorem tl_v0 (h : v < -1) : tlX a y v b = false := by
  have h1 : ¬ v = -1 := fun e => by rw [e] at h; exact absurd h (by decide)
  have h2 : ¬ 0 ≤ v := by
    rw [Int32.not_le]
    exact Int32.lt_trans h (by decide)
  simp [h1, h2]
theorem tl_v1 (h : 1000000 < v) : tlX a y v b = false := by
  have h1 : ¬ v = -1 := fun e => by rw [e] at h; exact absurd h (by decide)
  simp [h1, Int32.not_le.mpr h]
theorem v_m1 (h0 : ¬ v < -1) (h : v < 0) : v = -1 := by
  rw [Int32.lt_iff_toInt_lt] at h0 h
  apply Int32.toInt_inj.mp
  have e1 : (-1 : Int32).toInt = -1 := by decide
  have e2 : (0 : Int32).toInt = 0 := by decide
  rw [e1] at h0
  rw [e2] at h
  rw [e1]
  omega
theorem tl_lv (h : v < 0) (hb : b = 0) : tlX a y v b = false := by
  by_cases e : v = -1
  · simp [e, hb]
  · simp [e, Int32.not_le.mpr h]
theorem tl_ok1 (ha : a = 0) (h1 : ¬ y < 0) (h2 : y < 50) (h3 : ¬ v < -1) (h4 : v < 0) (hb : ¬ b = 0) : tlX a y v b = true := by
  simp [ha, Int32.not_lt.mp h1, h2, v_m1 h3 h4, hb]
theorem tl_ok2 (ha : a = 0) (h1 : ¬ y < 0) (h2 : y < 50) (h4 : ¬ v < 0) (h5 : ¬ 1000000 < v) : tlX a y v b = true := by
  have h6 : ¬ v = -1 := fun e => h4 (by rw [e]; decide)
  simp [ha, Int32.not_lt.mp h1, h2, h6, Int32.not_lt.mp h4, Int32.not_lt.mp h5]
end TL
theorem lastP_1 {n : Nat} {J : Nat → Jr} {s : Int32} : lastI (lastP J s 0) n = bOf n J s 1 := by
  have h := lastP_eq (n := n) (J := J) (s := s) (l := 1) (Or.inl rfl)
  rw [if_pos rfl] at h
  exact h
theorem lastP_2 {n : Nat} {J : Nat → Jr} {s : Int32} : lastI (lastP J s (-1)) n = bOf n J s 2 := by
  have h := lastP_eq (n := n) (J := J) (s := s) (l := 2) (Or.inr rfl)
  rw [if_neg (by decide)] at h
  exact h
theorem lev3 {l : Int32} (h1 : ¬ l < 0) (h2 : ¬ 2 < l) : l = 0 ∨ l = 1 ∨ l = 2 := by
  obtain ⟨j, hj, he⟩ := nI_of h1
  have h3 : (2 : Int32) = nI 2 := rfl
  rw [he, h3, nI_ltI (by omega) hj] at h2
  rcases (show j = 0 ∨ j = 1 ∨ j = 2 by omega) with rfl | rfl | rfl
  · exact Or.inl he
  · exact Or.inr (Or.inl he)
  · exact Or.inr (Or.inr he)
theorem n_200 {n : Nat} (hn : n ≤ 200) : nI n = 200 ↔ n = 200 := by
  rw [show (200 : Int32) = nI 200 from rfl]
  exact nI_eq (by omega) (by omega)
theorem hRun_f {n : Nat} {J : Nat → Jr} {s : Int32} (h : ∀ k, k < n → (decide (jSer (J k) = s) && decide (jSt (J k) = 0)) = false) : hRun n J s = false := by
  unfold hRun
  rw [lastI_none.mpr h]
  rfl
theorem hRun_t {n i : Nat} {J : Nat → Jr} {s : Int32} (hi : i < n) (h : (decide (jSer (J i) = s) && decide (jSt (J i) = 0)) = true) : hRun n J s = true := by
  unfold hRun
  have := lastI_fd (p := fun k => decide (jSer (J k) = s) && decide (jSt (J k) = 0)) hi h
  cases hq : lastI (fun k => decide (jSer (J k) = s) && decide (jSt (J k) = 0)) n with
  | none => rw [hq] at this; cases this
  | some j => rfl
theorem bgs_t {n : Nat} {J : Nat → Jr} {s l : Int32} (h1 : ¬ s < 0) (h2 : s < 8) (h3 : ¬ l < 0) (h4 : ¬ 2 < l) (h5 : n < 200) (h6 : hRun n J s = false) : bgs n J s l = true := by
  simp [bgs, Int32.not_lt.mp h1, h2, Int32.not_lt.mp h3, Int32.not_lt.mp h4, h5, h6]
theorem bg_s0 {n : Nat} {J : Nat → Jr} {s l : Int32} (h : s < 0) : bgs n J s l = false := by simp [bgs, Int32.not_le.mpr h]
theorem bg_s1 {n : Nat} {J : Nat → Jr} {s l : Int32} (h : ¬ s < 8) : bgs n J s l = false := by simp [bgs, h]
theorem bg_l0 {n : Nat} {J : Nat → Jr} {s l : Int32} (h : l < 0) : bgs n J s l = false := by simp [bgs, Int32.not_le.mpr h]
theorem bg_l1 {n : Nat} {J : Nat → Jr} {s l : Int32} (h : 2 < l) : bgs n J s l = false := by simp [bgs, Int32.not_le.mpr h]
theorem bg_n {n : Nat} {J : Nat → Jr} {s l : Int32} (h : n = 200) : bgs n J s l = false := by simp [bgs, h]
theorem bg_r {n : Nat} {J : Nat → Jr} {s l : Int32} (h : hRun n J s = true) : bgs n J s l = false := by simp [bgs, h]
abbrev DEFM : List Value := [.int 0, .int 0, .int 0, va_rf none, va_rf none, va_rf none, va_rf none, va_rf none, va_rf none, va_rf none, va_rf none, va_rf none]
theorem defM : ∀ j, j < 12 → defaultValue (t_M j) = vp_V DEFM j := by
  intro j hj
  match j, hj with
  | 0, _ => rfl
  | 1, _ => rfl
  | 2, _ => rfl
  | 3, _ => rfl
  | 4, _ => rfl
  | 5, _ => rfl
  | 6, _ => rfl
  | 7, _ => rfl
  | 8, _ => rfl
  | 9, _ => rfl
  | 10, _ => rfl
  | 11, _ => rfl
  | k + 12, h => omega
abbrev DEFC : List Value := [.int 0, .int 0, va_rf none]
theorem defC : ∀ j, j < 3 → defaultValue (t_C j) = vp_V DEFC j := by
  intro j hj
  match j, hj with
  | 0, _ => rfl
  | 1, _ => rfl
  | 2, _ => rfl
  | k + 3, h => omega
theorem getD_inj {L : List Nat} (h : L.Nodup) : ∀ i j, i < L.length → j < L.length → L.getD i 0 = L.getD j 0 → i = j := by
  intro i j hi hj e
  rw [List.getD_eq_getElem?_getD, List.getD_eq_getElem?_getD, List.getElem?_eq_getElem hi, List.getElem?_eq_getElem hj] at e
  exact (List.getElem_inj h).mp e
