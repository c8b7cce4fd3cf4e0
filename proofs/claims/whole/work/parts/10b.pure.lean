theorem cntI_t {p : Nat → Bool} {k : Nat} {x y : Int32} (h : x + nI (cnt p (k + 1)) = y) (hp : p k = true) : x + 1 + nI (cnt p k) = y := by
  rw [← h]
  simp only [cnt, hp, if_true]
  rw [nI_succ, Int32.add_assoc, Int32.add_comm 1]
theorem cntI_f {p : Nat → Bool} {k : Nat} {x y : Int32} (h : x + nI (cnt p (k + 1)) = y) (hp : p k = false) : x + nI (cnt p k) = y := by
  rw [← h]
  simp [cnt, hp]
theorem cntI_0 {p : Nat → Bool} {x y : Int32} (h : x + nI (cnt p 0) = y) : x = y := by
  rw [← h]
  simp [cnt, nI_0]
theorem uz_r {j : Jr} {r : Int32} (h : r = bI (decide (jSt j = 1) && decide (bI (jPr j) = 0))) : r = bI (uz j) := by
  rw [h, dec_0]
  rfl
theorem nI_z {k : Nat} (h : k < 2 ^ 31) : decide (nI k = 0) = decide (k = 0) := by
  rw [← nI_0]
  simp only [nI_eq h (by omega : (0 : Nat) < 2 ^ 31)]
theorem fr_r {n : Nat} {J : Nat → Jr} {i : Nat} {r : Int32} (hn : n ≤ 200) (h : r = bI (decide (jSt (J i) ≠ 0) && decide (bI (jPr (J i)) = 0) && decide (nI (sd n J i) = 0))) : r = bI (fr n J i) := by
  rw [h, dec_0, nI_z (by have := sd_le n J i; omega)]
  rfl
theorem cntU_t {p : Nat → Bool} {i : Nat} {x : Int32} (h : x = nI (cnt p i)) (hp : p i = true) : x + 1 = nI (cnt p (i + 1)) := by
  rw [h]
  simp only [cnt, hp, if_true]
  rw [nI_succ]
theorem cntU_f {p : Nat → Bool} {i : Nat} {x : Int32} (h : x = nI (cnt p i)) (hp : p i = false) : x = nI (cnt p (i + 1)) := by
  rw [h]
  simp [cnt, hp]
