/-! THE REFERENCE'S CELLS -/
def rT (cI cZ : ClassId) : Nat → ClassId
  | 2 => cZ
  | 7 => cZ
  | _ => cI
def rN : Nat → Nat
  | 8 => 10000
  | _ => 200
/-- what the arrays hold of the jobs -/
def gOk (g : Nat → Nat → Int32) (n : Nat) (J : Nat → Jr) : Prop := ∀ i, i < n → g 0 i = jSer (J i) ∧ g 1 i = jLev (J i) ∧ g 2 i = bI (jUp (J i)) ∧ g 3 i = oI (jBs (J i)) ∧ g 4 i = jBg (J i) ∧ g 5 i = jEn (J i) ∧ g 6 i = jSt (J i) ∧ g 7 i = bI (jPr (J i)) ∧ ∀ f, f < 50 → g 8 (50 * i + f) = jVr (J i) f
def rR (cI cZ : ClassId) (r : Nat) (as : Nat → Nat) (g : Nat → Nat → Int32) (thr now : Int32) (n : Nat) (J : Nat → Jr) (w : Wd) : Prop :=
  w r = some (.inr (2, [.int thr, .int now, .int (nI n), .ref (as 0), .ref (as 1), .ref (as 2), .ref (as 3), .ref (as 4), .ref (as 5), .ref (as 6), .ref (as 7), .ref (as 8)])) ∧ (∀ k, k < 9 → w (as k) = some (.inl (rT cI cZ k, rN k, .inl (g k)))) ∧ (∀ i j, i < 9 → j < 9 → as i = as j → i = j) ∧ n ≤ 200 ∧ gOk g n J ∧ ∀ i, i < n → ∀ b, jBs (J i) = some b → b < i
/-- began never falls; what is told is a version, gone, or nothing -/
def mW (now : Int32) (n : Nat) (J : Nat → Jr) : Prop := (∀ i j, i ≤ j → j < n → jBg (J i) ≤ jBg (J j)) ∧ (∀ i, i < n → jBg (J i) ≤ now) ∧ ∀ i, i < n → ∀ f, jVr (J i) f = -2 ∨ jVr (J i) f = -1 ∨ 0 ≤ jVr (J i) f
def rF (r : Nat) (as : Nat → Nat) (q : Nat) : Prop := q = r ∨ ∃ i, i < 9 ∧ q = as i
def rK (r : Nat) (as : Nat → Nat) (w u : Wd) : Prop := ∀ q, ¬ rF r as q → u q = w q
section RREP
variable {cI cZ : ClassId} {r : Nat} {as : Nat → Nat} {g : Nat → Nat → Int32} {thr now : Int32} {n : Nat} {J : Nat → Jr} {w : Wd}
theorem rR.a0 (h : rR cI cZ r as g thr now n J w) : w (as 0) = some (.inl (cI, 200, .inl (g 0))) := h.2.1 0 (by decide)
theorem rR.a1 (h : rR cI cZ r as g thr now n J w) : w (as 1) = some (.inl (cI, 200, .inl (g 1))) := h.2.1 1 (by decide)
theorem rR.a2 (h : rR cI cZ r as g thr now n J w) : w (as 2) = some (.inl (cZ, 200, .inl (g 2))) := h.2.1 2 (by decide)
theorem rR.a3 (h : rR cI cZ r as g thr now n J w) : w (as 3) = some (.inl (cI, 200, .inl (g 3))) := h.2.1 3 (by decide)
theorem rR.a4 (h : rR cI cZ r as g thr now n J w) : w (as 4) = some (.inl (cI, 200, .inl (g 4))) := h.2.1 4 (by decide)
theorem rR.a5 (h : rR cI cZ r as g thr now n J w) : w (as 5) = some (.inl (cI, 200, .inl (g 5))) := h.2.1 5 (by decide)
theorem rR.a6 (h : rR cI cZ r as g thr now n J w) : w (as 6) = some (.inl (cI, 200, .inl (g 6))) := h.2.1 6 (by decide)
theorem rR.a7 (h : rR cI cZ r as g thr now n J w) : w (as 7) = some (.inl (cZ, 200, .inl (g 7))) := h.2.1 7 (by decide)
theorem rR.a8 (h : rR cI cZ r as g thr now n J w) : w (as 8) = some (.inl (cI, 10000, .inl (g 8))) := h.2.1 8 (by decide)
theorem rR.g0 (h : rR cI cZ r as g thr now n J w) {i : Nat} (hi : i < n) : g 0 i = jSer (J i) := (h.2.2.2.2.1 i hi).1
theorem rR.g1 (h : rR cI cZ r as g thr now n J w) {i : Nat} (hi : i < n) : g 1 i = jLev (J i) := (h.2.2.2.2.1 i hi).2.1
theorem rR.g2 (h : rR cI cZ r as g thr now n J w) {i : Nat} (hi : i < n) : g 2 i = bI (jUp (J i)) := (h.2.2.2.2.1 i hi).2.2.1
theorem rR.g3 (h : rR cI cZ r as g thr now n J w) {i : Nat} (hi : i < n) : g 3 i = oI (jBs (J i)) := (h.2.2.2.2.1 i hi).2.2.2.1
theorem rR.g4 (h : rR cI cZ r as g thr now n J w) {i : Nat} (hi : i < n) : g 4 i = jBg (J i) := (h.2.2.2.2.1 i hi).2.2.2.2.1
theorem rR.g5 (h : rR cI cZ r as g thr now n J w) {i : Nat} (hi : i < n) : g 5 i = jEn (J i) := (h.2.2.2.2.1 i hi).2.2.2.2.2.1
theorem rR.g6 (h : rR cI cZ r as g thr now n J w) {i : Nat} (hi : i < n) : g 6 i = jSt (J i) := (h.2.2.2.2.1 i hi).2.2.2.2.2.2.1
theorem rR.g7 (h : rR cI cZ r as g thr now n J w) {i : Nat} (hi : i < n) : g 7 i = bI (jPr (J i)) := (h.2.2.2.2.1 i hi).2.2.2.2.2.2.2.1
theorem rR.g8 (h : rR cI cZ r as g thr now n J w) {i f : Nat} (hi : i < n) (hf : f < 50) : g 8 (50 * i + f) = jVr (J i) f := (h.2.2.2.2.1 i hi).2.2.2.2.2.2.2.2 f hf
theorem rR.n200 (h : rR cI cZ r as g thr now n J w) : n ≤ 200 := h.2.2.2.1
theorem rR.bs (h : rR cI cZ r as g thr now n J w) {i b : Nat} (hi : i < n) (hb : jBs (J i) = some b) : b < i := h.2.2.2.2.2 i hi b hb
theorem rR.ne (h : rR cI cZ r as g thr now n J w) {k : Nat} (hk : k < 9) : as k ≠ r := by
  intro e
  have h1 := h.2.1 k hk
  rw [e, h.1] at h1
  cases h1
theorem rR.nn (h : rR cI cZ r as g thr now n J w) {i j : Nat} (hi : i < 9) (hj : j < 9) (hn : i ≠ j) : as i ≠ as j := fun e => hn (h.2.2.1 i j hi hj e)
theorem rR.set (h : rR cI cZ r as g thr now n J w) (t nw : Int32) : rR cI cZ r as g t nw n J (wset w r (.inr (2, [.int t, .int nw, .int (nI n), .ref (as 0), .ref (as 1), .ref (as 2), .ref (as 3), .ref (as 4), .ref (as 5), .ref (as 6), .ref (as 7), .ref (as 8)]))) :=
  ⟨wset_at _ _ _, fun k hk => by rw [wset_ne (h.ne hk)]; exact h.2.1 k hk, h.2.2⟩
theorem rK.rf : rK r as w w := fun _ _ => rfl
theorem rK.tr {u v : Wd} (h1 : rK r as w u) (h2 : rK r as u v) : rK r as w v := fun q hq => (h2 q hq).trans (h1 q hq)
theorem rK.set {u : Wd} {a : Nat} {x : va_E} (h : rK r as w u) (ha : rF r as a) : rK r as w (wset u a x) := fun q hq => by
  have hqa : q ≠ a := by
    intro e
    rw [e] at hq
    exact hq ha
  rw [wset_ne hqa]
  exact h q hq
theorem rF_r : rF r as r := Or.inl rfl
theorem rF_a {k : Nat} (hk : k < 9) : rF r as (as k) := Or.inr ⟨k, hk, rfl⟩
end RREP
theorem oI_n {o : Option Nat} (h : ∀ i, o = some i → i < 2 ^ 31) : oI o < 0 ↔ o = none := by
  cases o with
  | none => simp [oI]
  | some i => simp only [oI]; constructor; (intro q; exact absurd q (nI_pos (h i rfl))); (intro q; cases q)
theorem fJ_iff {n : Nat} (hn : n ≤ 200) (x : Int32) : (fJ n x).isSome = (decide (0 ≤ x) && decide (x < nI n)) := by
  cases h : fJ n x with
  | none =>
    have h1 := lastI_none.mp h
    symm
    simp only [Option.isSome_none, Bool.and_eq_false_iff, decide_eq_false_iff_not]
    rcases pk_ix x (n := n) (by omega) with h2 | h2 | ⟨j, hj, rfl⟩
    · left; rw [Int32.not_le]; exact h2
    · right; rw [Int32.not_lt]; exact h2
    · have := h1 j hj; simp at this
  | some i =>
    obtain ⟨h1, h2⟩ := fJ_lt h
    rw [← h2]
    simp [nI_pos' (show i < 2 ^ 31 by omega), nI_lt h1 (show n < 2 ^ 31 by omega)]
theorem fJ_some {n : Nat} (hn : n ≤ 200) {i : Nat} (hi : i < n) : fJ n (nI i) = some i := by
  cases h : fJ n (nI i) with
  | none => have := lastI_none.mp h i hi; simp at this
  | some j =>
    obtain ⟨h1, h2⟩ := fJ_lt h
    rw [(nI_eq (by omega) (by omega)).mp h2]
theorem oI_eq {o : Option Nat} {i : Nat} (h : ∀ b, o = some b → b < 2 ^ 31) (hi : i < 2 ^ 31) : oI o = nI i ↔ o = some i := by
  cases o with
  | none =>
    simp only [oI]
    constructor
    · intro e
      have h1 := nI_pos hi
      rw [← e] at h1
      exact absurd (by decide) h1
    · intro e; cases e
  | some b =>
    simp only [oI]
    rw [nI_eq (h b rfl) hi]
    constructor
    · intro e; rw [e]
    · intro e; cases e; rfl
theorem nI_eq0 {k : Nat} (h : k < 2 ^ 31) : nI k = 0 ↔ k = 0 := by
  rw [← nI_0]
  exact nI_eq h (by omega)
theorem i50 {i k : Nat} {x : Int32} (hx : x = nI k) : (50 : Int32) * (nI i) + x = nI (50 * i + k) := by
  rw [hx, show (50 : Int32) = nI 50 from rfl, pk_mul, nI_add]
def lastP (J : Nat → Jr) (s l : Int32) : Nat → Bool := fun k => decide (jSer (J k) = s) && uz (J k) && (decide (l < 0) || decide (jLev (J k) = l))
def headP (J : Nat → Jr) (s t : Int32) : Nat → Bool := fun k => decide (jSer (J k) = s) && uz (J k) && decide (jEn (J k) ≤ t)
def onlyP (J : Nat → Jr) (i : Nat) : Nat → Bool := fun k => decide (k ≠ i) && decide (jSer (J k) = jSer (J i)) && decide (jLev (J k) = 0) && uz (J k)
def onlyR (n : Nat) (J : Nat → Jr) (i : Nat) : Bool := decide (jSt (J i) = 1) && decide (jLev (J i) = 0) && (lastI (onlyP J i) n).isNone
theorem onlyR_eq {n : Nat} {J : Nat → Jr} {i : Nat} (h : jPr (J i) = false) : onlyR n J i = only n J i := by
  unfold onlyR only
  rw [show uz (J i) = decide (jSt (J i) = 1) by simp [uz, h]]
  rw [Bool.and_comm (decide (jSt (J i) = 1))]
  rfl
theorem hd_eq {n : Nat} {J : Nat → Jr} {s t : Int32} : lastI (headP J s t) n = hd n J s t := rfl
theorem lastP_eq {n : Nat} {J : Nat → Jr} {s l : Int32} (hl : l = 1 ∨ l = 2) : lastI (lastP J s (if l = 1 then 0 else -1)) n = bOf n J s l := by
  unfold bOf
  rcases hl with rfl | rfl
  · rw [if_neg (show ¬ (1 : Int32) = 0 by decide), if_pos rfl]
    congr 1
  · rw [if_neg (show ¬ (2 : Int32) = 0 by decide), if_neg (show ¬ (2 : Int32) = 1 by decide)]
    congr 1
theorem lastI_fd {p : Nat → Bool} {n i : Nat} (hi : i < n) (h : p i = true) : (lastI p n).isNone = false := by
  cases hq : lastI p n with
  | none => have := lastI_none.mp hq i hi; rw [h] at this; cases this
  | some j => rfl
theorem chn_len (J : Nat → Jr) : ∀ (f : Nat) (o : Option Nat), (chn J f o).length ≤ f := by
  intro f
  induction f with
  | zero => intro o; simp [chn]
  | succ f ih =>
    intro o
    cases o with
    | none => simp [chn]
    | some i => simp only [chn, List.length_cons]; have := ih (jBs (J i)); omega
theorem lk_neg {z : Int32} (hz : z < 0) : ∀ (L : List Nat) (p : Nat), p + L.length < 2 ^ 31 → lk L (nI p) z = none := by
  intro L
  induction L with
  | nil => intro p _; rfl
  | cons j t ih =>
    intro p hp
    simp only [List.length_cons] at hp
    have hne : ¬ nI p = z := fun e => by rw [← e] at hz; exact nI_pos (by omega) hz
    simp only [lk]
    rw [if_neg hne, nI_1]
    exact ih (p + 1) (by omega)
theorem ver_neg {now : Int32} {n : Nat} {J : Nat → Jr} (hM : mW now n J) (hb : ∀ i, i < n → ∀ b, jBs (J i) = some b → b < i) {o : Option Nat} {x : Int32} (ho : ∀ i, o = some i → i < n) : ver n J o x < 0 ↔ ver n J o x = -1 := by
  unfold ver
  cases h : tel n J o x with
  | none => simp
  | some j =>
    obtain ⟨h1, -, h3⟩ := tel_lt hb ho h
    simp only
    rcases hM.2.2 j h1 x.toNatClampNeg with h2 | h2 | h2
    · exact absurd h2 h3
    · rw [h2]; decide
    · constructor
      · intro q; exact absurd h2 (by rw [Int32.not_le]; exact q)
      · intro q; rw [q] at h2; exact absurd h2 (by decide)
