theorem cntI_t {p : Nat → Bool} {k : Nat} {x y : Int32} (h : x + nI (cnt p (k + 1)) = y) (hp : p k = true) : x + 1 + nI (cnt p k) = y := by
  rw [← h]
  simp only [cnt, hp, if_true]
  rw [nI_succ, Int32.add_assoc, Int32.add_comm 1]
theorem cntI_f {p : Nat → Bool} {k : Nat} {x y : Int32} (h : x + nI (cnt p (k + 1)) = y) (hp : p k = false) : x + nI (cnt p k) = y := by
  rw [← h]
  simp [cnt, hp]
theorem cntI_0 {p : Nat → Bool} {x y : Int32} (h : x + nI (cnt p 0) = y) : x = y := by
  rw [← h]
  simp [cnt, nI_0]
theorem uz_r {j : Jr} {r : Int32} (h : r = bI (decide (jSt j = 1) && decide (bI (jPr j) = 0))) : r = bI (uz j) := by
  rw [h, dec_0]
  rfl
theorem nI_z {k : Nat} (h : k < 2 ^ 31) : decide (nI k = 0) = decide (k = 0) := by
  rw [← nI_0]
  simp only [nI_eq h (by omega : (0 : Nat) < 2 ^ 31)]
theorem fr_r {n : Nat} {J : Nat → Jr} {i : Nat} {r : Int32} (hn : n ≤ 200) (h : r = bI (decide (jSt (J i) ≠ 0) && decide (bI (jPr (J i)) = 0) && decide (nI (sd n J i) = 0))) : r = bI (fr n J i) := by
  rw [h, dec_0, nI_z (by have := sd_le n J i; omega)]
  rfl
theorem cntU_t {p : Nat → Bool} {i : Nat} {x : Int32} (h : x = nI (cnt p i)) (hp : p i = true) : x + 1 = nI (cnt p (i + 1)) := by
  rw [h]
  simp only [cnt, hp, if_true]
  rw [nI_succ]
theorem cntU_f {p : Nat → Bool} {i : Nat} {x : Int32} (h : x = nI (cnt p i)) (hp : p i = false) : x = nI (cnt p (i + 1)) := by
  rw [h]
  simp [cnt, hp]
theorem hd_lt {n : Nat} {J : Nat → Jr} {s t : Int32} : ∀ i, hd n J s t = some i → i < n := fun _ h => (lastI_some h).1
theorem bOf_lt {n : Nat} {J : Nat → Jr} {s l : Int32} : ∀ i, bOf n J s l = some i → i < n := fun i h => by
  unfold bOf at h
  split at h
  · cases h
  · exact (lastI_some h).1
theorem isF_of {x : Int32} (h : isF x = true) : ∃ k, k < 50 ∧ x = nI k ∧ x.toNatClampNeg = k := by
  simp only [isF, Bool.and_eq_true, decide_eq_true_eq] at h
  obtain ⟨j, hj, he⟩ := nI_of (x := x) (by rw [Int32.not_lt]; exact h.1)
  have h50 : (50 : Int32) = nI 50 := rfl
  have hlt := h.2
  rw [he, h50, nI_ltI hj (by omega)] at hlt
  exact ⟨j, hlt, he, by rw [he]; exact nI_clamp hj⟩
theorem tlr_c {J : Nat → Jr} {k i f : Nat} (h : jVr (J i) k = -2) : tlr J k (chn J (f + 1) (some i)) = tlr J k (chn J f (jBs (J i))) := by
  simp [tlr, chn, h]
theorem tlr_s {J : Nat → Jr} {k i f : Nat} (h : ¬ jVr (J i) k = -2) : tlr J k (chn J (f + 1) (some i)) = some i := by
  simp [tlr, chn, h]
theorem tlr_n {J : Nat → Jr} {k f : Nat} : tlr J k (chn J f none) = none := by
  cases f <;> rfl
theorem chn_n {J : Nat → Jr} {f : Nat} : chn J f none = [] := by
  cases f <;> rfl
theorem mem_chn {J : Nat → Jr} {n : Nat} (hb : ∀ i, i < n → ∀ b, jBs (J i) = some b → b < i) : ∀ (f : Nat) (o : Option Nat), (∀ i, o = some i → i < n) → ∀ j, j ∈ chn J f o → j < n := by
  intro f
  induction f with
  | zero => intro o _ j hj; simp [chn] at hj
  | succ f ih =>
    intro o ho j hj
    cases o with
    | none => simp [chn] at hj
    | some i =>
      simp only [chn, List.mem_cons] at hj
      rcases hj with rfl | hj
      · exact ho _ rfl
      · exact ih _ (fun b hbb => Nat.lt_trans (hb i (ho i rfl) b hbb) (ho i rfl)) j hj
theorem tel_lt {J : Nat → Jr} {n : Nat} (hb : ∀ i, i < n → ∀ b, jBs (J i) = some b → b < i) {o : Option Nat} {x : Int32} (ho : ∀ i, o = some i → i < n) {j : Nat} (h : tel n J o x = some j) : j < n ∧ isF x = true ∧ jVr (J j) x.toNatClampNeg ≠ -2 := by
  unfold tel at h
  split at h
  next hf =>
    have h1 := List.mem_of_find?_eq_some h
    have h2 := List.find?_some h
    exact ⟨mem_chn hb n o ho j h1, hf, by simpa using h2⟩
  next => cases h
theorem lenI {x y : Int32} {J : Nat → Jr} {f i : Nat} (h : x + nI (chn J (f + 1) (some i)).length = y) : x + 1 + nI (chn J f (jBs (J i))).length = y := by
  rw [← h]
  simp only [chn, List.length_cons]
  rw [nI_succ, Int32.add_assoc, Int32.add_comm 1]
theorem len0 {x y : Int32} {J : Nat → Jr} {f : Nat} (h : x + nI (chn J f none).length = y) : x = y := by
  rw [← h, chn_n]
  simp [nI_0]
theorem rf_cat (r : Option Nat) : (va_rf r).category = 1 := by cases r <;> rfl
theorem int_cat (x : Int32) : (Value.int x).category = 1 := rfl
theorem ref_cat (x : Nat) : (Value.ref x).category = 1 := rfl
