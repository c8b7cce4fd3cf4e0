/-! THE MODEL: what class and reference both hold -/
/-- series, level, upgraded, base, began, ended, state, pruned, versions -/
abbrev Jr : Type := Int32 × Int32 × Bool × Option Nat × Int32 × Int32 × Int32 × Bool × (Nat → Int32)
abbrev jSer (j : Jr) : Int32 := j.1
abbrev jLev (j : Jr) : Int32 := j.2.1
abbrev jUp (j : Jr) : Bool := j.2.2.1
abbrev jBs (j : Jr) : Option Nat := j.2.2.2.1
abbrev jBg (j : Jr) : Int32 := j.2.2.2.2.1
abbrev jEn (j : Jr) : Int32 := j.2.2.2.2.2.1
abbrev jSt (j : Jr) : Int32 := j.2.2.2.2.2.2.1
abbrev jPr (j : Jr) : Bool := j.2.2.2.2.2.2.2.1
abbrev jVr (j : Jr) : Nat → Int32 := j.2.2.2.2.2.2.2.2
def bI (b : Bool) : Int32 := if b = true then 1 else 0
theorem bI_t : bI true = 1 := rfl
theorem bI_f : bI false = 0 := rfl
theorem bI_0 {b : Bool} : bI b = 0 ↔ b = false := by cases b <;> simp [bI]
theorem bI_1 {b : Bool} : bI b = 1 ↔ b = true := by cases b <;> simp [bI]
theorem bI_01 (b : Bool) : bI b = 0 ∨ bI b = 1 := by cases b <;> simp [bI]
theorem bI_nar (b : Bool) : narrow .boolean (.int (bI b)) = .int (bI b) := by cases b <;> decide +kernel
theorem dec_0 {b : Bool} : decide (bI b = 0) = !b := by cases b <;> simp [bI]
/-- the last place below n of which p holds -/
def lastI (p : Nat → Bool) : Nat → Option Nat
  | 0 => none
  | k + 1 => if p k = true then some k else lastI p k
theorem lastI_t {p : Nat → Bool} {k : Nat} (h : p k = true) : lastI p (k + 1) = some k := by simp [lastI, h]
theorem lastI_f {p : Nat → Bool} {k : Nat} (h : p k = false) : lastI p (k + 1) = lastI p k := by simp [lastI, h]
theorem lastI_none {p : Nat → Bool} {n : Nat} : lastI p n = none ↔ ∀ j, j < n → p j = false := by
  induction n with
  | zero => simp [lastI]
  | succ k ih =>
    by_cases h : p k = true
    · rw [lastI_t h]
      constructor
      · intro q; cases q
      · intro q; have := q k (by omega); rw [h] at this; cases this
    · have h' : p k = false := by simpa using h
      rw [lastI_f h', ih]
      constructor
      · intro q j hj
        rcases Nat.lt_or_ge j k with h1 | h1
        · exact q j h1
        · rw [show j = k by omega]; exact h'
      · intro q j hj; exact q j (by omega)
theorem lastI_some {p : Nat → Bool} {n i : Nat} (h : lastI p n = some i) : i < n ∧ p i = true ∧ ∀ j, i < j → j < n → p j = false := by
  induction n with
  | zero => simp [lastI] at h
  | succ k ih =>
    by_cases hp : p k = true
    · rw [lastI_t hp] at h
      cases h
      exact ⟨by omega, hp, fun j h1 h2 => by omega⟩
    · have hp' : p k = false := by simpa using hp
      rw [lastI_f hp'] at h
      obtain ⟨h1, h2, h3⟩ := ih h
      refine ⟨by omega, h2, fun j h4 h5 => ?_⟩
      rcases Nat.lt_or_ge j k with h6 | h6
      · exact h3 j h4 h6
      · rw [show j = k by omega]; exact hp'
/-- how many places below n -/
def cnt (p : Nat → Bool) : Nat → Nat
  | 0 => 0
  | k + 1 => cnt p k + (if p k = true then 1 else 0)
theorem cnt_le (p : Nat → Bool) (n : Nat) : cnt p n ≤ n := by
  induction n with
  | zero => simp [cnt]
  | succ k ih => simp only [cnt]; split <;> omega
theorem cnt_ext {p q : Nat → Bool} {n : Nat} (h : ∀ k, k < n → p k = q k) : cnt p n = cnt q n := by
  induction n with
  | zero => rfl
  | succ k ih => simp only [cnt]; rw [ih (fun j hj => h j (by omega)), h k (by omega)]
theorem cnt_zero {p : Nat → Bool} {n : Nat} : cnt p n = 0 ↔ ∀ k, k < n → p k = false := by
  induction n with
  | zero => simp [cnt]
  | succ k ih =>
    simp only [cnt]
    constructor
    · intro h j hj
      by_cases hp : p k = true
      · rw [if_pos hp] at h; omega
      · rw [if_neg hp] at h
        rcases Nat.lt_or_ge j k with h1 | h1
        · exact ih.mp (by omega) j h1
        · rw [show j = k by omega]; simpa using hp
    · intro h
      rw [ih.mpr (fun j hj => h j (by omega)), h k (by omega)]
      simp
/-- one place changes from yes to no -/
theorem cnt_off {p q : Nat → Bool} {n i : Nat} (hi : i < n) (hp : p i = true) (hq : q i = false) (h : ∀ k, k < n → k ≠ i → p k = q k) : cnt p n = cnt q n + 1 := by
  induction n with
  | zero => omega
  | succ k ih =>
    simp only [cnt]
    by_cases hk : k = i
    · subst hk
      rw [hp, hq, cnt_ext (fun j hj => h j (by omega) (by omega))]
      simp
    · rw [ih (by omega) (fun j hj hn => h j (by omega) hn), h k (by omega) hk]
      omega
/-- the chain from a job on -/
def chn (J : Nat → Jr) : Nat → Option Nat → List Nat
  | 0, _ => []
  | _ + 1, none => []
  | f + 1, some i => i :: chn J f (jBs (J i))
def uz (j : Jr) : Bool := decide (jSt j = 1) && !jPr j
/-- how many jobs that aren't pruned stand on i -/
def sd (n : Nat) (J : Nat → Jr) (i : Nat) : Nat := cnt (fun k => decide (jBs (J k) = some i) && !jPr (J k)) n
def fr (n : Nat) (J : Nat → Jr) (i : Nat) : Bool := decide (jSt (J i) ≠ 0) && !jPr (J i) && decide (sd n J i = 0)
def fJ (n : Nat) (x : Int32) : Option Nat := lastI (fun k => decide (nI k = x)) n
def hRun (n : Nat) (J : Nat → Jr) (s : Int32) : Bool := (lastI (fun k => decide (jSer (J k) = s) && decide (jSt (J k) = 0)) n).isSome
def bOf (n : Nat) (J : Nat → Jr) (s l : Int32) : Option Nat := if l = 0 then none else lastI (fun k => decide (jSer (J k) = s) && uz (J k) && (decide (l = 2) || decide (jLev (J k) = 0))) n
def hd (n : Nat) (J : Nat → Jr) (s t : Int32) : Option Nat := lastI (fun k => decide (jSer (J k) = s) && uz (J k) && decide (jEn (J k) ≤ t)) n
def only (n : Nat) (J : Nat → Jr) (i : Nat) : Bool := decide (jLev (J i) = 0) && uz (J i) && (lastI (fun k => decide (k ≠ i) && decide (jSer (J k) = jSer (J i)) && decide (jLev (J k) = 0) && uz (J k)) n).isNone
def isF (x : Int32) : Bool := decide (0 ≤ x) && decide (x < 50)
def tlr (J : Nat → Jr) (f : Nat) (L : List Nat) : Option Nat := L.find? (fun j => decide (jVr (J j) f ≠ -2))
def tel (n : Nat) (J : Nat → Jr) (o : Option Nat) (x : Int32) : Option Nat := if isF x = true then tlr J x.toNatClampNeg (chn J n o) else none
def ver (n : Nat) (J : Nat → Jr) (o : Option Nat) (x : Int32) : Int32 := match tel n J o x with
  | none => -1
  | some j => jVr (J j) x.toNatClampNeg
def oI (o : Option Nat) : Int32 := match o with
  | none => -1
  | some k => nI k
def lk : List Nat → Int32 → Int32 → Option Nat
  | [], _, _ => none
  | j :: t, x, i => if x = i then some j else lk t (x + 1) i
/-- a change of one job -/
def upJ (J : Nat → Jr) (k : Nat) (j : Jr) : Nat → Jr := fun i => if i = k then j else J i
theorem upJ_at (J : Nat → Jr) (k : Nat) (j : Jr) : upJ J k j k = j := by simp [upJ]
theorem upJ_ne {J : Nat → Jr} {k i : Nat} {j : Jr} (h : i ≠ k) : upJ J k j i = J i := by simp [upJ, h]
def drJ (J : Nat → Jr) (k : Nat) : Nat → Jr := upJ J k (jSer (J k), jLev (J k), jUp (J k), jBs (J k), jBg (J k), jEn (J k), jSt (J k), true, fun _ => -2)
def enJ (J : Nat → Jr) (k : Nat) (t st : Int32) : Nat → Jr := upJ J k (jSer (J k), jLev (J k), jUp (J k), jBs (J k), jBg (J k), t, st, jPr (J k), jVr (J k))
def teJ (J : Nat → Jr) (k f : Nat) (v : Int32) : Nat → Jr := upJ J k (jSer (J k), jLev (J k), jUp (J k), jBs (J k), jBg (J k), jEn (J k), jSt (J k), jPr (J k), upd (jVr (J k)) f v)
def nwJ (s l : Int32) (b : Option Nat) (now : Int32) : Jr := (s, if b = none then 0 else l, decide (b = none) && decide (l ≠ 0), b, now, -1, 0, false, fun _ => -2)
/-- expire, from k - 1 down -/
def xp (n : Nat) (now age : Int32) : Nat → (Nat → Jr) → Int32 → (Nat → Jr) × Int32
  | 0, J, g => (J, g)
  | k + 1, J, g => if (fr n J k && decide (age < now - jEn (J k)) && !only n J k) = true then xp n now age k (drJ J k) (g + 1) else xp n now age k J g
theorem sd_drop {n : Nat} {J : Nat → Jr} {k i : Nat} (hk : k < n) (hp : jPr (J k) = false) : sd n J i = sd n (drJ J k) i + (if jBs (J k) = some i then 1 else 0) := by
  by_cases hb : jBs (J k) = some i
  · rw [if_pos hb]
    refine cnt_off hk (by simp [hb, hp]) (by simp [drJ, upJ]) fun j hj hn => ?_
    simp [drJ, upJ_ne hn]
  · rw [if_neg hb, Nat.add_zero]
    refine cnt_ext fun j hj => ?_
    by_cases hn : j = k
    · subst hn
      simp [drJ, upJ, hb]
    · simp [drJ, upJ_ne hn]
theorem sd_ext {n : Nat} {J J' : Nat → Jr} {i : Nat} (h : ∀ k, k < n → jBs (J k) = jBs (J' k) ∧ jPr (J k) = jPr (J' k)) : sd n J i = sd n J' i := by
  refine cnt_ext fun k hk => ?_
  rw [(h k hk).1, (h k hk).2]
theorem sd_new {n : Nat} {J : Nat → Jr} {j : Jr} {i : Nat} (hp : jPr j = false) : sd (n + 1) (upJ J n j) i = sd n J i + (if jBs j = some i then 1 else 0) := by
  have h1 : sd n (upJ J n j) i = sd n J i := sd_ext fun k hk => by rw [upJ_ne (by omega)]; exact ⟨rfl, rfl⟩
  have h2 : sd (n + 1) (upJ J n j) i = sd n (upJ J n j) i + (if (decide (jBs (upJ J n j n) = some i) && !jPr (upJ J n j n)) = true then 1 else 0) := rfl
  rw [h2, h1, upJ_at, hp]
  simp
theorem sd_le (n : Nat) (J : Nat → Jr) (i : Nat) : sd n J i ≤ n := cnt_le _ _
theorem sd_none {n i : Nat} {J : Nat → Jr} (hi : n ≤ i) (hb : ∀ k, k < n → ∀ b, jBs (J k) = some b → b < k) : sd n J i = 0 := by
  refine cnt_zero.mpr fun k hk => ?_
  cases h : jBs (J k) with
  | none => simp
  | some b =>
    have := hb k hk b h
    simp
    omega
/-! THE CLASS'S CELLS -/
def prv (ad : Nat → Nat) : Nat → Option Nat
  | 0 => none
  | k + 1 => some (ad k)
abbrev jL (ad va : Nat → Nat) (J : Nat → Jr) (st : Nat → Nat) (i : Nat) : List Value := [.int (nI i), .int (jSer (J i)), .int (jLev (J i)), .int (bI (jUp (J i))), va_rf ((jBs (J i)).map ad), .int (jBg (J i)), va_rf (prv ad i), .ref (va i), .int (jEn (J i)), .int (jSt (J i)), .int (bI (jPr (J i))), .int (nI (st i))]
/-- the picker at o, its jobs at ad, their versions at va -/
def cR (cI : ClassId) (o : Nat) (ad va : Nat → Nat) (now : Int32) (n : Nat) (J : Nat → Jr) (w : Wd) : Prop :=
  w o = some (.inr (1, [.int now, .int (nI n), va_rf (prv ad n)])) ∧ (∀ i, i < n → w (ad i) = some (.inr (0, jL ad va J (sd n J) i))) ∧ (∀ i, i < n → w (va i) = some (.inl (cI, 50, .inl (jVr (J i))))) ∧
  (∀ i j, i < n → j < n → ad i = ad j → i = j) ∧ (∀ i j, i < n → j < n → va i = va j → i = j) ∧ (∀ i, i < n → ∀ b, jBs (J i) = some b → b < i) ∧ n ≤ 200
/-- its footprint -/
def cF (o : Nat) (ad va : Nat → Nat) (n : Nat) (q : Nat) : Prop := q = o ∨ ∃ i, i < n ∧ (q = ad i ∨ q = va i)
