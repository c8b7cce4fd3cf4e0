/-! the class's cells, changed by tell, end, begin -/
def upN (f : Nat → Nat) (k v : Nat) : Nat → Nat := fun i => if i = k then v else f i
theorem upN_at (f : Nat → Nat) (k v : Nat) : upN f k v k = v := by simp [upN]
theorem upN_ne {f : Nat → Nat} {k v i : Nat} (h : i ≠ k) : upN f k v i = f i := by simp [upN, h]
theorem wset_none {w : Wd} {a q : Nat} {x : va_E} (h : wset w a x q = none) : w q = none ∧ q ≠ a := by
  by_cases e : q = a
  · rw [e, wset_at] at h
    cases h
  · rw [wset_ne e] at h
    exact ⟨h, e⟩
theorem prv_upN {ad : Nat → Nat} {n q i : Nat} (h : i ≤ n) : prv (upN ad n q) i = prv ad i := by
  cases i with
  | zero => rfl
  | succ k => simp only [prv]; rw [upN_ne (by omega)]
theorem map_upN {ad : Nat → Nat} {n q : Nat} {o : Option Nat} (h : ∀ i, o = some i → i < n) : o.map (upN ad n q) = o.map ad := by
  cases o with
  | none => rfl
  | some i =>
    have := h i rfl
    simp only [Option.map_some]
    rw [upN_ne (by omega)]
section CREP2
variable {cI : ClassId} {o : Nat} {ad va : Nat → Nat} {now : Int32} {n : Nat} {J : Nat → Jr} {w : Wd}
theorem cR.tell (h : cR cI o ad va now n J w) {i k : Nat} (hi : i < n) (v : Int32) : cR cI o ad va now n (teJ J i k v) (wset w (va i) (.inl (cI, 50, .inl (upd (jVr (J i)) k v)))) := by
  have hs : ∀ x, sd n (teJ J i k v) x = sd n J x := fun x => sd_ext fun j hj => by
    by_cases hji : j = i
    · subst hji; simp [teJ, upJ]
    · simp [teJ, upJ, hji]
  refine ⟨?_, fun j hj => ?_, fun j hj => ?_, h.2.2.2.1, h.2.2.2.2.1, fun j hj b hjb => ?_, h.n200⟩
  · rw [wset_ne (h.vao hi).symm]; exact h.1
  · rw [wset_ne (h.vaad hi hj).symm, h.2.1 j hj]
    simp only [jL]
    rw [hs]
    by_cases hji : j = i
    · subst hji; simp [teJ, upJ]
    · simp [teJ, upJ, hji]
  · by_cases hji : j = i
    · subst hji
      rw [wset_at]
      simp [teJ, upJ]
    · rw [wset_ne (h.vava hj hi hji), h.2.2.1 j hj]
      simp [teJ, upJ, hji]
  · by_cases hji : j = i
    · subst hji
      simp only [teJ, upJ_at] at hjb
      exact h.bs hi hjb
    · simp only [teJ, upJ_ne hji] at hjb
      exact h.bs hj hjb
theorem cR.endj (h : cR cI o ad va now n J w) {i : Nat} (hi : i < n) (t st : Int32) : cR cI o ad va now n (enJ J i t st) (wset w (ad i) (.inr (0, [.int (nI i), .int (jSer (J i)), .int (jLev (J i)), .int (bI (jUp (J i))), va_rf ((jBs (J i)).map ad), .int (jBg (J i)), va_rf (prv ad i), .ref (va i), .int t, .int st, .int (bI (jPr (J i))), .int (nI (sd n J i))]))) := by
  have hs : ∀ x, sd n (enJ J i t st) x = sd n J x := fun x => sd_ext fun j hj => by
    by_cases hji : j = i
    · subst hji; simp [enJ, upJ]
    · simp [enJ, upJ, hji]
  refine ⟨?_, fun j hj => ?_, fun j hj => ?_, h.2.2.2.1, h.2.2.2.2.1, fun j hj b hjb => ?_, h.n200⟩
  · rw [wset_ne (h.ado hi).symm]; exact h.1
  · simp only [jL]
    rw [hs]
    by_cases hji : j = i
    · subst hji
      rw [wset_at]
      simp [enJ, upJ]
    · rw [wset_ne (h.adad hj hi hji), h.2.1 j hj]
      simp [enJ, upJ, hji]
  · rw [wset_ne (h.vaad hj hi), h.2.2.1 j hj]
    by_cases hji : j = i
    · subst hji; simp [enJ, upJ]
    · simp [enJ, upJ, hji]
  · by_cases hji : j = i
    · subst hji
      simp only [enJ, upJ_at] at hjb
      exact h.bs hi hjb
    · simp only [enJ, upJ_ne hji] at hjb
      exact h.bs hj hjb
theorem cR.pass (h : cR cI o ad va now n J w) (t : Int32) : cR cI o ad va t n J (wset w o (.inr (1, [.int t, .int (nI n), va_rf (prv ad n)]))) :=
  ⟨wset_at _ _ _, fun j hj => by rw [wset_ne (h.ado hj)]; exact h.2.1 j hj, fun j hj => by rw [wset_ne (h.vao hj)]; exact h.2.2.1 j hj, h.2.2.2⟩
theorem cR.beg (h : cR cI o ad va now n J w) (hn : n < 200) {q1 q2 : Nat} (h1 : w q1 = none) (h2 : w q2 = none) {s l : Int32} {b : Option Nat} (hb : ∀ i, b = some i → i < n) {u : Wd}
    (uo : u o = some (.inr (1, [.int now, .int (nI n + 1), .ref q1])))
    (u1 : u q1 = some (.inr (0, [.int (nI n), .int s, .int (if b = none then 0 else l), .int (bI (decide (b = none) && decide (l ≠ 0))), va_rf (b.map ad), .int now, va_rf (prv ad n), .ref q2, .int (-1), .int 0, .int 0, .int 0])))
    (u2 : u q2 = some (.inl (cI, 50, .inl (fun _ => -2))))
    (ua : ∀ i, i < n → u (ad i) = some (.inr (0, [.int (nI i), .int (jSer (J i)), .int (jLev (J i)), .int (bI (jUp (J i))), va_rf ((jBs (J i)).map ad), .int (jBg (J i)), va_rf (prv ad i), .ref (va i), .int (jEn (J i)), .int (jSt (J i)), .int (bI (jPr (J i))), .int (nI (sd n J i + (if b = some i then 1 else 0)))])))
    (uv : ∀ i, i < n → u (va i) = w (va i)) : cR cI o (upN ad n q1) (upN va n q2) now (n + 1) (upJ J n (nwJ s l b now)) u := by
  have hs : ∀ x, sd (n + 1) (upJ J n (nwJ s l b now)) x = sd n J x + (if b = some x then 1 else 0) := fun x => sd_new rfl
  have hs0 : sd (n + 1) (upJ J n (nwJ s l b now)) n = 0 := by
    rw [hs, sd_none (Nat.le_refl n) h.2.2.2.2.2.1, if_neg (fun e => by have := hb n e; omega)]
  have n1 : ∀ i, i < n → ad i ≠ q1 := fun i hi e => by have := h.2.1 i hi; rw [e, h1] at this; cases this
  have n2 : ∀ i, i < n → va i ≠ q2 := fun i hi e => by have := h.2.2.1 i hi; rw [e, h2] at this; cases this
  refine ⟨?_, fun i hi => ?_, fun i hi => ?_, fun i j hi hj e => ?_, fun i j hi hj e => ?_, fun i hi x hx => ?_, hn⟩
  · rw [uo, nI_1]
    simp only [prv, upN_at]
    rfl
  · by_cases hin : i = n
    · subst hin
      simp only [jL]
      rw [upN_at, u1, hs0, prv_upN (Nat.le_refl i), upN_at, upJ_at]
      simp only [nwJ]
      rw [map_upN hb, nI_0]
      rfl
    · have hi' : i < n := by omega
      simp only [jL]
      rw [upN_ne hin, ua i hi', hs, prv_upN (by omega), upN_ne hin, upJ_ne hin, map_upN (fun x hx => by have := h.bs hi' hx; omega)]
  · by_cases hin : i = n
    · subst hin
      rw [upN_at, u2, upJ_at]
      rfl
    · have hi' : i < n := by omega
      rw [upN_ne hin, uv i hi', h.2.2.1 i hi', upJ_ne hin]
  · by_cases hin : i = n
    · by_cases hjn : j = n
      · omega
      · rw [hin, upN_at, upN_ne hjn] at e
        exact absurd e.symm (n1 j (by omega))
    · by_cases hjn : j = n
      · rw [hjn, upN_at, upN_ne hin] at e
        exact absurd e (n1 i (by omega))
      · rw [upN_ne hin, upN_ne hjn] at e
        exact h.2.2.2.1 i j (by omega) (by omega) e
  · by_cases hin : i = n
    · by_cases hjn : j = n
      · omega
      · rw [hin, upN_at, upN_ne hjn] at e
        exact absurd e.symm (n2 j (by omega))
    · by_cases hjn : j = n
      · rw [hjn, upN_at, upN_ne hin] at e
        exact absurd e (n2 i (by omega))
      · rw [upN_ne hin, upN_ne hjn] at e
        exact h.2.2.2.2.1 i j (by omega) (by omega) e
  · by_cases hin : i = n
    · subst hin
      rw [upJ_at] at hx
      exact hb x hx
    · rw [upJ_ne hin] at hx
      exact h.bs (by omega) hx
end CREP2
/-! the model's calls -/
def tells (n : Nat) (J : Nat → Jr) (x f v : Int32) : Bool := match fJ n x with
  | none => false
  | some i => decide (jSt (J i) = 0) && isF f && (if v = -1 then decide (jLev (J i) ≠ 0) else decide (0 ≤ v) && decide (v ≤ 1000000))
def teN (n : Nat) (J : Nat → Jr) (x f v : Int32) : Nat → Jr := match fJ n x with
  | none => J
  | some i => if tells n J x f v = true then teJ J i f.toNatClampNeg v else J
def ends (n : Nat) (J : Nat → Jr) (x : Int32) : Bool := match fJ n x with
  | none => false
  | some i => decide (jSt (J i) = 0)
def enN (n : Nat) (J : Nat → Jr) (x g now : Int32) : Nat → Jr := match fJ n x with
  | none => J
  | some i => if jSt (J i) = 0 then enJ J i now (if g = 0 then 2 else 1) else J
def prs (n : Nat) (J : Nat → Jr) (x : Int32) : Bool := match fJ n x with
  | none => false
  | some i => fr n J i
def prN (n : Nat) (J : Nat → Jr) (x : Int32) : Nat → Jr := match fJ n x with
  | none => J
  | some i => if fr n J i = true then drJ J i else J
def bgs (n : Nat) (J : Nat → Jr) (s l : Int32) : Bool := decide (0 ≤ s) && decide (s < 8) && (decide (0 ≤ l) && decide (l ≤ 2)) && decide (n < 200) && !hRun n J s
def cntw (now : Int32) (n : Nat) (J : Nat → Jr) (x : Int32) : Int32 := if x = 0 then now else if x = 1 then nI n else if x = 2 then nI (cnt (fun j => decide (jSt (J j) = 0)) n) else if x = 3 then nI (cnt (fun j => jPr (J j)) n) else -1
def jobw (n : Nat) (J : Nat → Jr) (x y : Int32) : Int32 := match fJ n x with
  | none => -1
  | some i => if y = 0 then jSer (J i) else if y = 1 then jLev (J i) else if y = 2 then bI (jUp (J i)) else if y = 3 then oI (jBs (J i)) else if y = 4 then jBg (J i) else if y = 5 then jEn (J i) else if y = 6 then jSt (J i) else if y = 7 then bI (jPr (J i)) else if y = 8 then nI (cnt (fun j => decide (jVr (J i) j ≠ -2)) 50) else if y = 9 then (match jBs (J i) with | none => -1 | some b => jBg (J b)) else if y = 10 then nI (sd n J i) else -1
theorem fJ_lt {n : Nat} {x : Int32} {i : Nat} (h : fJ n x = some i) : i < n ∧ nI i = x := ⟨(lastI_some h).1, by simpa using (lastI_some h).2.1⟩
abbrev DEFJ : List Value := [.int 0, .int 0, .int 0, .int 0, va_rf none, .int 0, va_rf none, va_rf none, .int 0, .int 0, .int 0, .int 0]
theorem defJ : ∀ j, j < 12 → defaultValue (t_J j) = vp_V DEFJ j := by
  intro j hj
  match j, hj with
  | 0, _ => rfl
  | 1, _ => rfl
  | 2, _ => rfl
  | 3, _ => rfl
  | 4, _ => rfl
  | 5, _ => rfl
  | 6, _ => rfl
  | 7, _ => rfl
  | 8, _ => rfl
  | 9, _ => rfl
  | 10, _ => rfl
  | 11, _ => rfl
  | k + 12, h => omega
theorem fr_pr {n : Nat} {J : Nat → Jr} {i : Nat} (h : fr n J i = true) : jPr (J i) = false := by
  simp [fr] at h
  exact h.1.2
theorem nI_lt200 {n : Nat} (hn : n ≤ 200) (h : ¬ (200 : Int32) ≤ nI n) : n < 200 := by
  rcases Nat.lt_or_ge n 200 with h1 | h1
  · exact h1
  · exact absurd (nI_le (a := 200) (b := n) h1 (by omega)) h
