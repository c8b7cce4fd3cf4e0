/-! for the law: class and reference side by side -/
section KEEP
variable {cI cZ : ClassId} {o r : Nat} {ad va as : Nat → Nat} {g : Nat → Nat → Int32} {thr now : Int32} {n : Nat} {J : Nat → Jr} {w u : Wd}
theorem cR.keep (h : cR cI o ad va now n J w) (hq : ∀ q, cF o ad va n q → u q = w q) : cR cI o ad va now n J u :=
  ⟨by rw [hq o cF_o]; exact h.1, fun i hi => by rw [hq _ (cF_ad hi)]; exact h.2.1 i hi, fun i hi => by rw [hq _ (cF_va hi)]; exact h.2.2.1 i hi, h.2.2.2⟩
theorem rR.keep (h : rR cI cZ r as g thr now n J w) (hq : ∀ q, rF r as q → u q = w q) : rR cI cZ r as g thr now n J u :=
  ⟨by rw [hq r rF_r]; exact h.1, fun k hk => by rw [hq _ (rF_a hk)]; exact h.2.1 k hk, h.2.2⟩
theorem rR.some (h : rR cI cZ r as g thr now n J w) {q : Nat} (hq : rF r as q) : w q ≠ none := by
  rcases hq with rfl | ⟨i, hi, rfl⟩
  · rw [h.1]; exact fun e => by cases e
  · rw [h.2.1 i hi]; exact fun e => by cases e
end KEEP
/-- class and reference hold the same; the out array is by itself -/
def LI (cI cZ cL : ClassId) (o r ob : Nat) (w : Wd) : Prop := ∃ (ad va as : Nat → Nat) (g : Nat → Nat → Int32) (fo : Nat → Int64) (thr now : Int32) (n : Nat) (J : Nat → Jr),
  cR cI o ad va now n J w ∧ rR cI cZ r as g thr now n J w ∧ mW now n J ∧ (¬ now < 0 ∧ ¬ 1000000000 < now) ∧ w ob = some (.inl (cL, 1, .inr (.inl fo))) ∧ (∀ q, cF o ad va n q → ¬ rF r as q) ∧ ¬ cF o ad va n ob ∧ ¬ rF r as ob
theorem pass_ok {now x : Int32} (h : ¬ now < 0 ∧ ¬ 1000000000 < now) (hp : pOk now x = true) : (¬ now + x < 0 ∧ ¬ 1000000000 < now + x) ∧ now ≤ now + x := by
  simp only [pOk, Bool.and_eq_true, Bool.not_eq_true', decide_eq_false_iff_not] at hp
  obtain ⟨h1, h2⟩ := h
  obtain ⟨h3, h4⟩ := hp
  have e0 : (0 : Int32).toInt = 0 := by decide
  have e1 : (1000000000 : Int32).toInt = 1000000000 := by decide
  rw [Int32.lt_iff_toInt_lt, e0] at h1 h3
  rw [Int32.lt_iff_toInt_lt, e1] at h2
  have hs : (1000000000 - now).toInt = 1000000000 - now.toInt := by
    rw [Int32.toInt_sub, e1, Int.bmod_eq_of_le] <;> omega
  rw [Int32.lt_iff_toInt_lt, hs] at h4
  have ha : (now + x).toInt = now.toInt + x.toInt := by
    rw [Int32.toInt_add, Int.bmod_eq_of_le] <;> omega
  refine ⟨⟨?_, ?_⟩, ?_⟩
  · rw [Int32.lt_iff_toInt_lt, e0, ha]; omega
  · rw [Int32.lt_iff_toInt_lt, e1, ha]; omega
  · rw [Int32.le_iff_toInt_le, ha]; omega
theorem mW.pass {now t : Int32} {n : Nat} {J : Nat → Jr} (h : mW now n J) (ht : now ≤ t) : mW t n J := ⟨h.1, fun i hi => Int32.le_trans (h.2.1 i hi) ht, h.2.2⟩
theorem mW.up {now : Int32} {n j : Nat} {J : Nat → Jr} (h : mW now n J) {x : Jr} (hb : jBg x = jBg (J j)) (hv : ∀ f, jVr x f = -2 ∨ jVr x f = -1 ∨ 0 ≤ jVr x f) : mW now n (upJ J j x) := by
  have e : ∀ i, jBg (upJ J j x i) = jBg (J i) := fun i => by
    by_cases hi : i = j
    · subst hi; rw [upJ_at]; exact hb
    · rw [upJ_ne hi]
  refine ⟨fun i k hik hk => by rw [e, e]; exact h.1 i k hik hk, fun i hi => by rw [e]; exact h.2.1 i hi, fun i hi f => ?_⟩
  by_cases hij : i = j
  · subst hij; rw [upJ_at]; exact hv f
  · rw [upJ_ne hij]; exact h.2.2 i hi f
theorem mW.drop {now : Int32} {n j : Nat} {J : Nat → Jr} (h : mW now n J) : mW now n (drJ J j) := h.up rfl (fun _ => Or.inl rfl)
theorem mW.prn {now : Int32} {n : Nat} {J : Nat → Jr} {x : Int32} (h : mW now n J) : mW now n (prN n J x) := by
  unfold prN
  split
  · exact h
  · split
    · exact h.drop
    · exact h
theorem mW.enn {now : Int32} {n : Nat} {J : Nat → Jr} {x y t : Int32} (h : mW now n J) : mW now n (enN n J x y t) := by
  unfold enN
  cases hj : fJ n x with
  | none => exact h
  | some i =>
    simp only
    split
    · exact h.up rfl (h.2.2 i (fJ_lt hj).1)
    · exact h
theorem mW.ten {now : Int32} {n : Nat} {J : Nat → Jr} {x y v : Int32} (h : mW now n J) : mW now n (teN n J x y v) := by
  unfold teN
  cases hj : fJ n x with
  | none => exact h
  | some i =>
    simp only
    split
    next ht =>
      refine h.up rfl (fun f => ?_)
      show upd (jVr (J i)) y.toNatClampNeg v f = -2 ∨ upd (jVr (J i)) y.toNatClampNeg v f = -1 ∨ 0 ≤ upd (jVr (J i)) y.toNatClampNeg v f
      by_cases hf : f = y.toNatClampNeg
      · simp only [upd, hf, if_true]
        unfold tells at ht
        rw [hj] at ht
        simp only [Bool.and_eq_true] at ht
        have h3 := ht.2
        by_cases hv : v = -1
        · exact Or.inr (Or.inl hv)
        · rw [if_neg hv] at h3
          simp only [Bool.and_eq_true, decide_eq_true_eq] at h3
          exact Or.inr (Or.inr h3.1)
      · simp only [upd, hf, if_false]
        exact h.2.2 i (fJ_lt hj).1 f
    · exact h
theorem mW_xp {now age : Int32} {n : Nat} : ∀ (k : Nat) (J : Nat → Jr) (g : Int32), mW now n J → mW now n (xp n now age k J g).1 := by
  intro k
  induction k with
  | zero => intro J g h; exact h
  | succ k ih =>
    intro J g h
    by_cases hc : (fr n J k && decide (age < now - jEn (J k)) && !only n J k) = true
    · rw [xp_t hc]; exact ih _ _ h.drop
    · rw [xp_f (by simpa using hc)]; exact ih _ _ h
theorem mW.beg {now : Int32} {n : Nat} {J : Nat → Jr} {s l : Int32} {b : Option Nat} (h : mW now n J) : mW now (n + 1) (upJ J n (nwJ s l b now)) := by
  refine ⟨fun i k hik hk => ?_, fun i hi => ?_, fun i hi f => ?_⟩
  · by_cases hkn : k = n
    · subst hkn
      by_cases hin : i = k
      · subst hin; exact Int32.le_refl _
      · rw [upJ_ne hin, upJ_at]; exact h.2.1 i (by omega)
    · rw [upJ_ne (by omega), upJ_ne hkn]; exact h.1 i k hik (by omega)
  · by_cases hin : i = n
    · subst hin; rw [upJ_at]; exact Int32.le_refl _
    · rw [upJ_ne hin]; exact h.2.1 i (by omega)
  · by_cases hin : i = n
    · subst hin; rw [upJ_at]; exact Or.inl rfl
    · rw [upJ_ne hin]; exact h.2.2 i (by omega) f
