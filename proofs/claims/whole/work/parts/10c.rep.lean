/-! what the class's cells are to each other -/
section CREP
variable {cI : ClassId} {o : Nat} {ad va : Nat → Nat} {now : Int32} {n : Nat} {J : Nat → Jr} {w : Wd}
theorem cR.vaad (h : cR cI o ad va now n J w) {i j : Nat} (hi : i < n) (hj : j < n) : va i ≠ ad j := by
  intro e
  have h1 := h.2.2.1 i hi
  rw [e, h.2.1 j hj] at h1
  cases h1
theorem cR.vao (h : cR cI o ad va now n J w) {i : Nat} (hi : i < n) : va i ≠ o := by
  intro e
  have h1 := h.2.2.1 i hi
  rw [e, h.1] at h1
  cases h1
theorem cR.ado (h : cR cI o ad va now n J w) {i : Nat} (hi : i < n) : ad i ≠ o := by
  intro e
  have h1 := h.2.1 i hi
  rw [e, h.1] at h1
  cases h1
theorem cR.adad (h : cR cI o ad va now n J w) {i j : Nat} (hi : i < n) (hj : j < n) (hn : i ≠ j) : ad i ≠ ad j := fun e => hn (h.2.2.2.1 i j hi hj e)
theorem cR.vava (h : cR cI o ad va now n J w) {i j : Nat} (hi : i < n) (hj : j < n) (hn : i ≠ j) : va i ≠ va j := fun e => hn (h.2.2.2.2.1 i j hi hj e)
theorem cR.bs (h : cR cI o ad va now n J w) {i b : Nat} (hi : i < n) (hb : jBs (J i) = some b) : b < i := h.2.2.2.2.2.1 i hi b hb
theorem cR.n200 (h : cR cI o ad va now n J w) : n ≤ 200 := h.2.2.2.2.2.2
theorem cR.ne (h : cR cI o ad va now n J w) {q : Nat} (hq : cF o ad va n q) : w q ≠ none := by
  rcases hq with rfl | ⟨i, hi, rfl | rfl⟩
  · rw [h.1]; exact fun e => by cases e
  · rw [h.2.1 i hi]; exact fun e => by cases e
  · rw [h.2.2.1 i hi]; exact fun e => by cases e
/-- what a job holds, changed; none else -/
abbrev jX (ad va : Nat → Nat) (i : Nat) (s l : Int32) (u : Bool) (b : Option Nat) (bg en st : Int32) (pr : Int32) (sv : Int32) : List Value := [.int (nI i), .int s, .int l, .int (bI u), va_rf (b.map ad), .int bg, va_rf (prv ad i), .ref (va i), .int en, .int st, .int pr, .int sv]
theorem cR.drop0 (h : cR cI o ad va now n J w) {i : Nat} (hi : i < n) (hp : jPr (J i) = false) (hb : jBs (J i) = none) :
    cR cI o ad va now n (drJ J i) (wset (wset w (ad i) (.inr (0, [.int (nI i), .int (jSer (J i)), .int (jLev (J i)), .int (bI (jUp (J i))), va_rf ((jBs (J i)).map ad), .int (jBg (J i)), va_rf (prv ad i), .ref (va i), .int (jEn (J i)), .int (jSt (J i)), .int 1, .int (nI (sd n J i))]))) (va i) (.inl (cI, 50, .inl (fun _ => -2)))) := by
  have hs : ∀ k, sd n (drJ J i) k = sd n J k := fun k => by rw [sd_drop (i := k) hi hp, hb]; simp
  refine ⟨?_, fun k hk => ?_, fun k hk => ?_, h.2.2.2.1, h.2.2.2.2.1, fun k hk b hkb => ?_, h.n200⟩
  · rw [wset_ne (h.vao hi).symm, wset_ne (h.ado hi).symm]; exact h.1
  · rw [wset_ne (h.vaad hi hk).symm]
    by_cases hki : k = i
    · subst hki
      rw [wset_at]
      simp only [jL]
      rw [hs]
      simp [drJ, upJ, bI]
    · rw [wset_ne (h.adad hk hi hki), h.2.1 k hk]
      simp only [jL]
      rw [hs]
      simp [drJ, upJ, hki]
  · by_cases hki : k = i
    · subst hki
      rw [wset_at]
      simp [drJ, upJ]
    · rw [wset_ne (h.vava hk hi hki), wset_ne (h.vaad hk hi), h.2.2.1 k hk]
      simp [drJ, upJ, hki]
  · by_cases hki : k = i
    · subst hki
      simp only [drJ, upJ_at] at hkb
      exact h.bs hi hkb
    · simp only [drJ, upJ_ne hki] at hkb
      exact h.bs hk hkb
theorem cR.drop1 (h : cR cI o ad va now n J w) {i b : Nat} (hi : i < n) (hp : jPr (J i) = false) (hb : jBs (J i) = some b) :
    cR cI o ad va now n (drJ J i) (wset (wset (wset w (ad i) (.inr (0, [.int (nI i), .int (jSer (J i)), .int (jLev (J i)), .int (bI (jUp (J i))), va_rf ((jBs (J i)).map ad), .int (jBg (J i)), va_rf (prv ad i), .ref (va i), .int (jEn (J i)), .int (jSt (J i)), .int 1, .int (nI (sd n J i))]))) (va i) (.inl (cI, 50, .inl (fun _ => -2))))
      (ad b) (.inr (0, [.int (nI b), .int (jSer (J b)), .int (jLev (J b)), .int (bI (jUp (J b))), va_rf ((jBs (J b)).map ad), .int (jBg (J b)), va_rf (prv ad b), .ref (va b), .int (jEn (J b)), .int (jSt (J b)), .int (bI (jPr (J b))), .int (nI (sd n J b) - 1)]))) := by
  have hbi : b < i := h.bs hi hb
  have hbn : b < n := by omega
  have hne : b ≠ i := by omega
  have hs : ∀ k, sd n J k = sd n (drJ J i) k + (if b = k then 1 else 0) := fun k => by
    rw [sd_drop (i := k) hi hp, hb]
    simp
  refine ⟨?_, fun k hk => ?_, fun k hk => ?_, h.2.2.2.1, h.2.2.2.2.1, fun k hk b' hkb => ?_, h.n200⟩
  · rw [wset_ne (h.ado hbn).symm, wset_ne (h.vao hi).symm, wset_ne (h.ado hi).symm]; exact h.1
  · by_cases hkb : k = b
    · subst hkb
      rw [wset_at]
      have := hs k
      rw [if_pos rfl] at this
      rw [this, nI_pred]
      simp [drJ, upJ, hne]
    · rw [wset_ne (h.adad hk hbn hkb), wset_ne (h.vaad hi hk).symm]
      have hsk := hs k
      rw [if_neg (fun e => hkb e.symm), Nat.add_zero] at hsk
      by_cases hki : k = i
      · subst hki
        rw [wset_at]
        simp only [jL]
        rw [← hsk]
        simp [drJ, upJ, bI]
      · rw [wset_ne (h.adad hk hi hki), h.2.1 k hk]
        simp only [jL]
        rw [← hsk]
        simp [drJ, upJ, hki]
  · rw [wset_ne (h.vaad hk hbn)]
    by_cases hki : k = i
    · subst hki
      rw [wset_at]
      simp [drJ, upJ]
    · rw [wset_ne (h.vava hk hi hki), wset_ne (h.vaad hk hi), h.2.2.1 k hk]
      simp [drJ, upJ, hki]
  · by_cases hki : k = i
    · subst hki
      simp only [drJ, upJ_at] at hkb
      exact h.bs hi hkb
    · simp only [drJ, upJ_ne hki] at hkb
      exact h.bs hk hkb
/-- nothing but its own cells has changed -/
def cK (o : Nat) (ad va : Nat → Nat) (n : Nat) (w u : Wd) : Prop := ∀ q, ¬ cF o ad va n q → u q = w q
theorem cK.rf : cK o ad va n w w := fun _ _ => rfl
theorem cK.tr {u v : Wd} (h1 : cK o ad va n w u) (h2 : cK o ad va n u v) : cK o ad va n w v := fun q hq => (h2 q hq).trans (h1 q hq)
theorem cK.set {u : Wd} {a : Nat} {x : va_E} (h : cK o ad va n w u) (ha : cF o ad va n a) : cK o ad va n w (wset u a x) := fun q hq => by
  have hqa : q ≠ a := by
    intro e
    rw [e] at hq
    exact hq ha
  rw [wset_ne hqa]
  exact h q hq
theorem cF_o : cF o ad va n o := Or.inl rfl
theorem cF_ad {i : Nat} (hi : i < n) : cF o ad va n (ad i) := Or.inr ⟨i, hi, Or.inl rfl⟩
theorem cF_va {i : Nat} (hi : i < n) : cF o ad va n (va i) := Or.inr ⟨i, hi, Or.inr rfl⟩
end CREP
