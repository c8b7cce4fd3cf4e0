/-! WORLDS AS MAPS: an address holds an entry, or nothing is said of it; all that is spoken of lies from B on. -/
abbrev Wd : Type := Nat → Option va_E
def wset (w : Wd) (a : Nat) (x : va_E) : Wd := fun q => if q = a then some x else w q
theorem wset_at (w : Wd) (a : Nat) (x : va_E) : wset w a x a = some x := by simp [wset]
theorem wset_ne {w : Wd} {a b : Nat} {x : va_E} (h : b ≠ a) : wset w a x b = w b := by simp [wset, h]
theorem wset_wset (w : Wd) (a : Nat) (x y : va_E) : wset (wset w a x) a y = wset w a y := by
  funext q
  by_cases h : q = a <;> simp [wset, h]
theorem wset_self {w : Wd} {a : Nat} {x : va_E} (h : w a = some x) : wset w a x = w := by
  funext q
  by_cases hq : q = a
  · subst hq
    rw [wset_at, h]
  · rw [wset_ne hq]
theorem wset_comm {w : Wd} {a b : Nat} {x y : va_E} (h : a ≠ b) : wset (wset w a x) b y = wset (wset w b y) a x := by
  funext q
  by_cases h1 : q = a
  · subst h1
    rw [wset_ne h, wset_at, wset_at]
  · by_cases h2 : q = b
    · subst h2
      rw [wset_at, wset_ne h1, wset_at]
    · rw [wset_ne h2, wset_ne h1, wset_ne h1, wset_ne h2]
/-- the heap holds the map -/
def mw (B : Nat) (D : va_G) (cl : List vw_C) (w : Wd) (H : Heap) : Prop := B ≤ H.size ∧ ∀ (a : Nat) (x : va_E), w a = some x → B ≤ a ∧ va_at D cl (a, x) H
/-- .. and since H0 nothing below B has changed -/
def mS (B : Nat) (D : va_G) (cl : List vw_C) (H0 : Heap) (w : Wd) (H : Heap) (locs : List Loc) : Prop := mw B D cl w H ∧ va_S (fun q => B ≤ q) H0 H locs
/-- the nest's words, all of them -/
def mN (N : List Cond) (U : State) : Prop := ∀ w ∈ N, va_Nw w U
def nestWord : Cond → Bool
  | .fieldLinkNest _ _ _ _ _ _ => true
  | .methodLinkNest _ _ _ _ => true
  | .castable _ _ => true
  | .declares _ => true
  | _ => false
theorem mN.warm {N : List Cond} (hN : N.all nestWord = true) {s U : State} (hW : s.WarmedH U.vm) (h : mN N s) : mN N U := by
  intro w hw
  have h1 := List.all_eq_true.mp hN w hw
  have h2 := h w hw
  cases w <;> first | exact va_Nw.warmF hW h2 | exact va_Nw.warmM hW h2 | exact va_Nw.warmC hW h2 | exact va_Nw.warmD hW h2 | cases h1
theorem mN.same {N : List Cond} (hN : N.all nestWord = true) {s U : State} (hv : s.vm = U.vm) (h : mN N s) : mN N U := by
  intro w hw
  have h1 := List.all_eq_true.mp hN w hw
  have h2 := h w hw
  cases w <;> first | exact va_Nw.same rfl hv h2 | cases h1
/-- what a method is begun with: the map, the tables, the nest's words -/
def mP (B : Nat) (D : va_G) (cl : List vw_C) (tys : List (ClassId × FieldType)) (N : List Cond) (w : Wd) (U : State) : Prop := mw B D cl w U.heap ∧ va_K D cl tys U ∧ mN N U
/-- what it ends with -/
def mE (B : Nat) (D : va_G) (cl : List vw_C) (w : Wd) (U : State) : Prop := mw B D cl w U.heap
theorem mw.fresh {B : Nat} {D : va_G} {cl : List vw_C} {w : Wd} {H : Heap} (h : mw B D cl w H) : w H.size = none := by
  cases hq : w H.size with
  | none => rfl
  | some x => exact absurd (h.2 _ _ hq).2.lt (Nat.lt_irrefl _)
theorem mS.one {B : Nat} {D : va_G} {cl : List vw_C} {H0 : Heap} {w : Wd} {H : Heap} {locs : List Loc} {a : Nat} {x : va_E} (h : mS B D cl H0 w H locs) (ha : w a = some x) : va_P D cl [(a, x)] H := by
  intro k q hk
  match k, hk with
  | 0, hk => cases hk; exact (h.1.2 a x ha).2
  | k + 1, hk => simp at hk
theorem mS.put {B : Nat} {D : va_G} {cl : List vw_C} {H0 : Heap} {w : Wd} {H H1 : Heap} {locs : List Loc} {a i : Nat} {x0 x : va_E} (h : mS B D cl H0 w H locs) (ha : w a = some x0) (he : va_at D cl (a, x) H1) (z : H1.size = H.size) (oq : ∀ q : Nat, q ≠ a → H1[q]? = H[q]?) : mS B D cl H0 (wset w a x) H1 (locs ++ [⟨a, i⟩]) := by
  refine ⟨⟨by rw [z]; exact h.1.1, fun q y hq => ?_⟩, h.2.put z oq (h.1.2 a x0 ha).1⟩
  by_cases e : q = a
  · subst e
    rw [wset_at] at hq
    cases hq
    exact ⟨(h.1.2 q x0 ha).1, he⟩
  · rw [wset_ne e] at hq
    exact ⟨(h.1.2 q y hq).1, (h.1.2 q y hq).2.kept (oq q e)⟩
theorem mS.new {B : Nat} {D : va_G} {cl : List vw_C} {H0 : Heap} {w : Wd} {H H1 : Heap} {locs : List Loc} {x : va_E} (h : mS B D cl H0 w H locs) (he : va_at D cl (H.size, x) H1) (z : H1.size = H.size + 1) (oq : ∀ q : Nat, q < H.size → H1[q]? = H[q]?) : mS B D cl H0 (wset w H.size x) H1 locs := by
  have hB := h.1.1
  refine ⟨⟨by omega, fun q y hq => ?_⟩, Nat.le_trans h.2.1 (by omega), fun q h1 h2 => (oq q (Nat.lt_of_lt_of_le h1 h.2.1)).trans (h.2.2.1 q h1 h2), h.2.2.2⟩
  by_cases e : q = H.size
  · subst e
    rw [wset_at] at hq
    cases hq
    exact ⟨hB, he⟩
  · rw [wset_ne e] at hq
    exact ⟨(h.1.2 q y hq).1, (h.1.2 q y hq).2.kept (oq q (h.1.2 q y hq).2.lt)⟩
theorem mS.start {B : Nat} {D : va_G} {cl : List vw_C} {w : Wd} {H : Heap} (h : mw B D cl w H) : mS B D cl H w H [] := ⟨h, va_S.rf⟩
theorem mP.moved {B : Nat} {D : va_G} {cl : List vw_C} {tys : List (ClassId × FieldType)} {N : List Cond} (hN : N.all nestWord = true) {w : Wd} {s U : State} {H : Heap} (hK : va_K D cl tys s) (hn : mN N s) (h : mw B D cl w H) (hU : U.heap = H) (hW : s.WarmedH U.vm) : mP B D cl tys N w U := ⟨by rw [hU]; exact h, va_K.moved hW.alike hK, mN.warm hN hW hn⟩
theorem mP.blind {B : Nat} {D : va_G} {cl : List vw_C} {tys : List (ClassId × FieldType)} {N : List Cond} (hN : N.all nestWord = true) {w : Wd} {av : List Value} : FrameBlind (va_Pc av (mP B D cl tys N w)) := fun a U g mk q => by
  obtain ⟨q0, q1, q2, q3⟩ := q
  exact ⟨q0, q1, va_K.moved (u := U) (U := U.calling g mk a) (Vm.Alike.refl U.vm) q2, mN.same (s := U) (U := U.calling g mk a) hN rfl q3⟩
section MW
variable {p : Program} {l : Launch} {e : Env} {R : Room} {s : State} {m : MethodId} {args : Array Value} {below : List Frame} {meth : Method} {c : Code} {H : Heap} {locs : List Loc} {cells slots : Nat} {Q : State → Prop}
variable {cc : ByteArray} {pc : Nat} {ls : Array Slot} {rest : List Value} {D : va_G} {cl : List vw_C} {B : Nat} {a : Nat} {tys : List (ClassId × FieldType)} {w : Wd} {H0 : Heap}
theorem mPreS {N : List Cond} (hN : N.all nestWord = true) {av : List Value} (hK : va_K D cl tys s) (hn : mN N s) (hm : mS B D cl H0 w H locs) : PreS s H (va_Pc av (mP B D cl tys N w)) av :=
  ⟨mP.blind hN, fun U hU hW => ⟨rfl, mP.moved hN hK hn hm.1 hU hW⟩⟩
theorem mPreV {N : List Cond} (hN : N.all nestWord = true) {av : List Value} {ci : Nat} {q : vw_C} {fs : List Value} (hK : va_K D cl tys s) (hn : mN N s) (hm : mS B D cl H0 w H locs) (hc : cl[ci]? = some q) (he : w a = some (.inr (ci, fs))) : PreV s H q.1 a (va_Pc (.ref a :: av) (mP B D cl tys N w)) av :=
  ⟨mP.blind hN, va_recv hK (hm.one he) (q0 := 0) hc rfl, fun U hU hW => ⟨rfl, mP.moved hN hK hn hm.1 hU hW⟩⟩
theorem mget (hexec : p.tables.exec = Jvm.exec) (hb : c.code = cc) {own ref C : String} {T : u_T} {N ci index : Nat} {Ts : List Cond} (hts : ∀ w ∈ Ts, w.before args s = true) (hin : ∀ w ∈ u_ws C T N, w ∈ Ts) (hown : s.vm.findClass own = some m.cls) (hK : va_K D cl tys s) (hm : mS B D cl H0 w H locs) {fs : List Value} (he : w a = some (.inr (ci, fs))) (hc : cl[ci]? = some (C, T, N)) (k : Nat) (hk : k < N) (hlink : (Cond.fieldLink own index ref (T k).2.1 (T k).2.2.1).before args s = true) (hsame : ∀ x, s.fieldFound? (T k).1 (T k).2.1 (T k).2.2.1 = some x → s.fieldFound? ref (T k).2.1 (T k).2.2.1 = some x) {v : Value} (hv : fs[k]? = some v) (hdg : decode cc pc = .ok (.getfield index, 3))
    (kk : W p l e R s m args below meth c H locs cells slots Q (F0 m (pc + 3) ls (v :: rest))) : W p l e R s m args below meth c H locs cells slots Q (F0 m pc ls (.ref a :: rest)) :=
  va_get hexec hb hts hin hown hK (hm.one he) 0 rfl hc k hk hlink hsame hv hdg kk
theorem mgetN (hexec : p.tables.exec = Jvm.exec) (hb : c.code = cc) {own ref C host : String} {T : u_T} {N ci index : Nat} {Ts : List Cond} (hts : ∀ w ∈ Ts, w.before args s = true) (hin : ∀ w ∈ u_ws C T N, w ∈ Ts) (hown : s.vm.findClass own = some m.cls) (hK : va_K D cl tys s) (hm : mS B D cl H0 w H locs) {fs : List Value} (he : w a = some (.inr (ci, fs))) (hc : cl[ci]? = some (C, T, N)) (k : Nat) (hk : k < N) (hlink : (Cond.fieldLinkNest own index ref (T k).2.1 (T k).2.2.1 host).before args s = true) (hsame : ∀ x, s.fieldFound? (T k).1 (T k).2.1 (T k).2.2.1 = some x → s.fieldFound? ref (T k).2.1 (T k).2.2.1 = some x) {v : Value} (hv : fs[k]? = some v) (hdg : decode cc pc = .ok (.getfield index, 3))
    (kk : W p l e R s m args below meth c H locs cells slots Q (F0 m (pc + 3) ls (v :: rest))) : W p l e R s m args below meth c H locs cells slots Q (F0 m pc ls (.ref a :: rest)) :=
  va_getN hexec hb hts hin hown hK (hm.one he) 0 rfl hc k hk hlink hsame hv hdg kk
theorem mput (hexec : p.tables.exec = Jvm.exec) (hb : c.code = cc) {own ref C : String} {T : u_T} {N ci index : Nat} {Ts : List Cond} (hts : ∀ w ∈ Ts, w.before args s = true) (hin : ∀ w ∈ u_ws C T N, w ∈ Ts) (ty0 : Nat → FieldType) (hty : ∀ k, k < N → parseFieldDescriptor (T k).2.2.1 = some (ty0 k)) (hnm : ∀ a, a < N → ∀ b, b < N → a ≠ b → (T a).2.1 ≠ (T b).2.1) (hown : s.vm.findClass own = some m.cls) (hK : va_K D cl tys s) (hm : mS B D cl H0 w H locs) {fs : List Value} (he : w a = some (.inr (ci, fs))) (hc : cl[ci]? = some (C, T, N)) (k : Nat) (hk : k < N) (hlink : (Cond.fieldLink own index ref (T k).2.1 (T k).2.2.1).before args s = true) (hsame : ∀ x, s.fieldFound? (T k).1 (T k).2.1 (T k).2.2.1 = some x → s.fieldFound? ref (T k).2.1 (T k).2.2.1 = some x) (hfin : (T k).2.2.2 = false) {ty : FieldType} {v : Value} (hd : parseFieldDescriptor (T k).2.2.1 = some ty) (hn : narrow ty v = v) (hfit : fits ty v = true) (hl : k < fs.length)
    (hdg : decode cc pc = .ok (.putfield index, 3)) (kk : ∀ (H1 : Heap) (locs1 : List Loc), mS B D cl H0 (wset w a (.inr (ci, fs.set k v))) H1 locs1 → W p l e R s m args below meth c H1 locs1 cells slots Q (F0 m (pc + 3) ls rest)) : W p l e R s m args below meth c H locs cells slots Q (F0 m pc ls (v :: .ref a :: rest)) := by
  have hap := va_apart (own := own) hts hin ty0 hty hnm hK hc
  obtain ⟨r, h1, cell, q1, q2, q3, q4⟩ := (hm.1.2 a _ he).2
  have hr : r = (C, T, N) := Option.some.inj (h1.symm.trans hc)
  subst hr
  obtain ⟨hS, hfc, kC, hkC, hkind⟩ := hK.1 ci _ hc
  obtain ⟨cf, kf, fi, f, hi, hsl⟩ := hS k hk
  have hlay := hts _ (hin _ (u_in_lay hk))
  unfold u_lay at hlay
  rw [if_neg (by rw [hfin]; decide)] at hlay
  have hst := (u_facts hfc hkC (u_lays hts hin hk) hi).1
  have h6 := u_store hfc hkC hkind hlay hi hd hn hfit
  refine W.putK hexec hb (f := f) ⟨hown, hlink, ⟨_, _, _, hsame _ hi⟩, hst⟩ (by rw [q2]; exact h6) q1 q3 (by rw [hsl]; exact k2_hasslot (q4 k hk)) rfl rfl hdg fun H' e1 e2 e3 => ?_
  rw [hsl] at e1 ⊢
  exact kk H' _ (hm.put he ⟨_, hc, t_OB.to (V := updV (vp_V fs) k v) ⟨_, e1, q2, q3, t_set q4 hap hk v⟩ (fun j _ => vp_updV_set hl v j)⟩ e2 e3)
theorem mputN (hexec : p.tables.exec = Jvm.exec) (hb : c.code = cc) {own ref C host : String} {T : u_T} {N ci index : Nat} {Ts : List Cond} (hts : ∀ w ∈ Ts, w.before args s = true) (hin : ∀ w ∈ u_ws C T N, w ∈ Ts) (ty0 : Nat → FieldType) (hty : ∀ k, k < N → parseFieldDescriptor (T k).2.2.1 = some (ty0 k)) (hnm : ∀ a, a < N → ∀ b, b < N → a ≠ b → (T a).2.1 ≠ (T b).2.1) (hown : s.vm.findClass own = some m.cls) (hK : va_K D cl tys s) (hm : mS B D cl H0 w H locs) {fs : List Value} (he : w a = some (.inr (ci, fs))) (hc : cl[ci]? = some (C, T, N)) (k : Nat) (hk : k < N) (hlink : (Cond.fieldLinkNest own index ref (T k).2.1 (T k).2.2.1 host).before args s = true) (hsame : ∀ x, s.fieldFound? (T k).1 (T k).2.1 (T k).2.2.1 = some x → s.fieldFound? ref (T k).2.1 (T k).2.2.1 = some x) (hfin : (T k).2.2.2 = false) {ty : FieldType} {v : Value} (hd : parseFieldDescriptor (T k).2.2.1 = some ty) (hn : narrow ty v = v) (hfit : fits ty v = true) (hl : k < fs.length)
    (hdg : decode cc pc = .ok (.putfield index, 3)) (kk : ∀ (H1 : Heap) (locs1 : List Loc), mS B D cl H0 (wset w a (.inr (ci, fs.set k v))) H1 locs1 → W p l e R s m args below meth c H1 locs1 cells slots Q (F0 m (pc + 3) ls rest)) : W p l e R s m args below meth c H locs cells slots Q (F0 m pc ls (v :: .ref a :: rest)) := by
  have hap := va_apart (own := own) hts hin ty0 hty hnm hK hc
  obtain ⟨r, h1, cell, q1, q2, q3, q4⟩ := (hm.1.2 a _ he).2
  have hr : r = (C, T, N) := Option.some.inj (h1.symm.trans hc)
  subst hr
  obtain ⟨hS, hfc, kC, hkC, hkind⟩ := hK.1 ci _ hc
  obtain ⟨cf, kf, fi, f, hi, hsl⟩ := hS k hk
  have hlay := hts _ (hin _ (u_in_lay hk))
  unfold u_lay at hlay
  rw [if_neg (by rw [hfin]; decide)] at hlay
  have hst := (u_facts hfc hkC (u_lays hts hin hk) hi).1
  have h6 := u_store hfc hkC hkind hlay hi hd hn hfit
  refine va_WputK hexec hb (f := f) hown hlink (hsame _ hi) hst (by rw [q2]; exact h6) q1 q3 (by rw [hsl]; exact k2_hasslot (q4 k hk)) rfl rfl hdg fun H' e1 e2 e3 => ?_
  rw [hsl] at e1 ⊢
  exact kk H' _ (hm.put he ⟨_, hc, t_OB.to (V := updV (vp_V fs) k v) ⟨_, e1, q2, q3, t_set q4 hap hk v⟩ (fun j _ => vp_updV_set hl v j)⟩ e2 e3)
theorem mputF (hexec : p.tables.exec = Jvm.exec) (hb : c.code = cc) {own ref C : String} {T : u_T} {N ci index : Nat} {Ts : List Cond} (hts : ∀ w ∈ Ts, w.before args s = true) (hin : ∀ w ∈ u_ws C T N, w ∈ Ts) (ty0 : Nat → FieldType) (hty : ∀ k, k < N → parseFieldDescriptor (T k).2.2.1 = some (ty0 k)) (hnm : ∀ a, a < N → ∀ b, b < N → a ≠ b → (T a).2.1 ≠ (T b).2.1) (hown : s.vm.findClass own = some m.cls) (hK : va_K D cl tys s) (hm : mS B D cl H0 w H locs) {fs : List Value} (he : w a = some (.inr (ci, fs))) (hc : cl[ci]? = some (C, T, N)) (k : Nat) (hk : k < N) (hlink : (Cond.fieldLink own index ref (T k).2.1 (T k).2.2.1).before args s = true) (hsame : ∀ x, s.fieldFound? (T k).1 (T k).2.1 (T k).2.2.1 = some x → s.fieldFound? ref (T k).2.1 (T k).2.2.1 = some x) (hfin : (T k).2.2.2 = true) (hin2 : meth.name = "<init>") (hdecl : (T k).1 = own) {ty : FieldType} {v : Value} (hd : parseFieldDescriptor (T k).2.2.1 = some ty) (hn : narrow ty v = v) (hfit : fits ty v = true) (hl : k < fs.length)
    (hdg : decode cc pc = .ok (.putfield index, 3)) (kk : ∀ (H1 : Heap) (locs1 : List Loc), mS B D cl H0 (wset w a (.inr (ci, fs.set k v))) H1 locs1 → W p l e R s m args below meth c H1 locs1 cells slots Q (F0 m (pc + 3) ls rest)) : W p l e R s m args below meth c H locs cells slots Q (F0 m pc ls (v :: .ref a :: rest)) := by
  have hap := va_apart (own := own) hts hin ty0 hty hnm hK hc
  obtain ⟨r, h1, cell, q1, q2, q3, q4⟩ := (hm.1.2 a _ he).2
  have hr : r = (C, T, N) := Option.some.inj (h1.symm.trans hc)
  subst hr
  obtain ⟨hS, hfc, kC, hkC, hkind⟩ := hK.1 ci _ hc
  obtain ⟨cf, kf, fi, f, hi, hsl⟩ := hS k hk
  have hlay := hts _ (hin _ (u_in_lay hk))
  unfold u_lay at hlay
  rw [if_pos hfin] at hlay
  have hst := (u_facts hfc hkC (u_lays hts hin hk) hi).1
  have hcf : m.cls = cf := by
    obtain ⟨_, _, c', _, _, _, -, -, hf', -, -, -, hown2, -⟩ := Cond.laysFinal_spec hlay
    have e1 : c' = cf := by have := hi.symm.trans hf'; simp at this; exact this.1.symm
    rw [hdecl] at hown2
    rw [← e1]; exact Option.some.inj (hown.symm.trans hown2)
  have h6 := u_fits hfc hkC hkind (Or.inr hlay) hi hd hn hfit
  refine W.putFinK hexec hb hown hlink (hsame _ hi) hst hcf hin2 (by rw [q2]; exact h6) q1 q3 (by rw [hsl]; exact k2_hasslot (q4 k hk)) rfl rfl hdg fun H' e1 e2 e3 => ?_
  rw [hsl] at e1 ⊢
  exact kk H' _ (hm.put he ⟨_, hc, t_OB.to (V := updV (vp_V fs) k v) ⟨_, e1, q2, q3, t_set q4 hap hk v⟩ (fun j _ => vp_updV_set hl v j)⟩ e2 e3)
theorem miald (hexec : p.tables.exec = Jvm.exec) (hb : c.code = cc) (hK : va_K D cl tys s) (hm : mS B D cl H0 w H locs) (t0 : Nat) {cA : ClassId} {n : Nat} {f : Nat → Int32} (ha : w a = some (.inl (cA, n, .inl f))) (ht : tys[t0]? = some (cA, .int)) {i : Int32} (hin : vp_in i n) (hdg : decode cc pc = .ok (.iaload, 1))
    (kk : W p l e R s m args below meth c H locs cells slots Q (F0 m (pc + 1) ls (.int (f i.toNatClampNeg) :: rest))) : W p l e R s m args below meth c H locs cells slots Q (F0 m pc ls (.int i :: .ref a :: rest)) :=
  va_iald hexec hb hK (hm.one ha) 0 t0 rfl ht hin hdg kk
theorem miast (hexec : p.tables.exec = Jvm.exec) (hb : c.code = cc) (hK : va_K D cl tys s) (hm : mS B D cl H0 w H locs) (t0 : Nat) {cA : ClassId} {n : Nat} {f : Nat → Int32} (ha : w a = some (.inl (cA, n, .inl f))) (ht : tys[t0]? = some (cA, .int)) {i : Int32} {x : Int32} (hin : vp_in i n) (hdg : decode cc pc = .ok (.iastore, 1))
    (kk : ∀ (H1 : Heap) (locs1 : List Loc), mS B D cl H0 (wset w a (.inl (cA, n, .inl (upd f i.toNatClampNeg x)))) H1 locs1 → W p l e R s m args below meth c H1 locs1 cells slots Q (F0 m (pc + 1) ls rest)) : W p l e R s m args below meth c H locs cells slots Q (F0 m pc ls (.int x :: .int i :: .ref a :: rest)) := by
  refine W.iast hexec hb (hm.1.2 a _ ha).2 ((hK.2 t0 _ ht).1 n (fun j => .int (f j))) (fun q => by cases q) (by show ¬ (i < 0 ∨ (arrV _ _ _).slots.size ≤ _); rw [arrV_size]; exact hin) rfl rfl hdg fun H1 e z oq => ?_
  refine kk H1 _ (hm.put ha ?_ z oq)
  show H1[a]? = some (vp_cell _ _)
  rw [e]
  rw [vp_cell_i, vp_cell_i, arrV_store]
  congr 2
  funext q
  by_cases hq : q = i.toNatClampNeg
  · subst hq
    simp [updV, upd]
  · simp [updV, upd, hq]
theorem malen (hexec : p.tables.exec = Jvm.exec) (hb : c.code = cc) (hK : va_K D cl tys s) (hm : mS B D cl H0 w H locs) (t0 : Nat) {cA : ClassId} {x : vp_A} (ha : w a = some (.inl (cA, x))) {ty : FieldType} (ht : tys[t0]? = some (cA, ty)) {v : Int32} (hv : Int32.ofNat x.1 = v) (hdg : decode cc pc = .ok (.arraylength, 1))
    (kk : W p l e R s m args below meth c H locs cells slots Q (F0 m (pc + 1) ls (.int v :: rest))) : W p l e R s m args below meth c H locs cells slots Q (F0 m pc ls (.ref a :: rest)) :=
  va_alen hexec hb hK (hm.one ha) 0 t0 rfl ht hv hdg kk
theorem mnew (hexec : p.tables.exec = Jvm.exec) (hb : c.code = cc) {own C : String} {T : u_T} {N ci index : Nat} {Ts : List Cond} (hts : ∀ w ∈ Ts, w.before args s = true) (hin : ∀ w ∈ u_ws C T N, w ∈ Ts) (ty : Nat → FieldType) (hty : ∀ k, k < N → parseFieldDescriptor (T k).2.2.1 = some (ty k)) (hown : s.vm.findClass own = some m.cls) (hcl : (Cond.classLink own index C).before args s = true) (hinst : (Cond.instantiable C N).before args s = true) (hini : (Cond.initialized C).before args s = true)
    (hK : va_K D cl tys s) (hm : mS B D cl H0 w H locs) (hc : cl[ci]? = some (C, T, N)) {fs : List Value} (hfs : ∀ j, j < N → defaultValue (ty j) = vp_V fs j) (hcells : cells + 1 ≤ R.cells) (hslots : slots + N ≤ R.slots) (hdg : decode cc pc = .ok (.new index, 3))
    (kk : ∀ (q : Nat) (H1 : Heap), w q = none → mS B D cl H0 (wset w q (.inr (ci, fs))) H1 locs →
      W p l e R s m args below meth c H1 locs (cells + 1) (slots + N) Q (F0 m (pc + 3) ls (.ref q :: rest))) : W p l e R s m args below meth c H locs cells slots Q (F0 m pc ls rest) := by
  have hKn := hK.1 ci _ hc
  refine W.newcK hexec hb hown hcl hinst hini rfl hdg hcells hslots hKn.2.1 rfl fun H1 kC hkC e1 z1 o1 => ?_
  exact kk H.size H1 hm.1.fresh (hm.new ⟨_, hc, (u_born ty hts hin hKn hkC e1 hty).to hfs⟩ z1 o1)
theorem mnewa (hexec : p.tables.exec = Jvm.exec) (hb : c.code = cc) {atype : ArrayType} (harr : (Cond.arrayClass (newarray.typeOf atype)).before args s = true) {ty : FieldType} (hty : newarray.typeOf atype = ty) (hK : va_K D cl tys s) (hm : mS B D cl H0 w H locs) (t0 : Nat) {cI : ClassId} (ht : tys[t0]? = some (cI, ty)) (hpr : ∀ C, ty ≠ .object C)
    {n : Int32} {N' : Nat} {a0 : vp_A} (ha : ∀ cA : ClassId, vp_cell cA a0 = arrV cA N' (fun _ => defaultValue ty)) (hn : ¬ n < 0) (hN : n.toNatClampNeg = N') (hbytes : N' * componentBytes ty ≤ 536870912) (hcells : cells + 1 ≤ R.cells) (hslots : slots + N' ≤ R.slots) (hdg : decode cc pc = .ok (.newarray atype, 2))
    (kk : ∀ (q : Nat) (H1 : Heap), w q = none → mS B D cl H0 (wset w q (.inl (cI, a0))) H1 locs →
      W p l e R s m args below meth c H1 locs (cells + 1) (slots + N') Q (F0 m (pc + 2) ls (.ref q :: rest))) : W p l e R s m args below meth c H locs cells slots Q (F0 m pc ls (.int n :: rest)) := by
  subst hty
  refine va_newaK hexec hb harr rfl hdg rfl hn hN hbytes hcells hslots rfl fun H1 cA e1 z1 o1 hAr hNm => ?_
  have hRA := (hK.2 t0 _ ht).2
  have hc : cA = cI := by
    cases hq : newarray.typeOf atype with
    | object C => exact absurd hq (hpr C)
    | _ =>
      rw [hq] at hRA hNm
      exact Option.some.inj (hNm.symm.trans hRA)
  subst hc
  refine kk H.size H1 hm.1.fresh (hm.new ?_ z1 o1)
  show H1[H.size]? = some (vp_cell cA a0)
  rw [e1, ha cA]
theorem mloadR (hexec : p.tables.exec = Jvm.exec) (hb : c.code = cc) {k : Fin 4} {i : Nat} {r : Option Nat} (hdg : decode cc pc = .ok (.aload_n k, 1)) (hi : (k : Nat) = i) (hl : ls[i]? = some (.val (va_rf r)))
    (kk : W p l e R s m args below meth c H locs cells slots Q (F0 m (pc + 1) ls (va_rf r :: rest))) : W p l e R s m args below meth c H locs cells slots Q (F0 m pc ls rest) := by
  cases r with
  | none => exact lv_aload_nN hexec hb hdg hi hl kk
  | some x => exact lv_aload_n hexec hb hdg hi hl kk
theorem mloadR2 (hexec : p.tables.exec = Jvm.exec) (hb : c.code = cc) {i : Nat} {r : Option Nat} (hdg : decode cc pc = .ok (.aload i, 2)) (hl : ls[i]? = some (.val (va_rf r)))
    (kk : W p l e R s m args below meth c H locs cells slots Q (F0 m (pc + 2) ls (va_rf r :: rest))) : W p l e R s m args below meth c H locs cells slots Q (F0 m pc ls rest) := by
  cases r with
  | none => exact lv_aloadN hexec hb hdg hl kk
  | some x => exact lv_aload hexec hb hdg hl kk
end MW
section MC
variable {p : Program} {l : Launch} {e : Env} {R : Room} {s : State} {m : MethodId} {args : Array Value} {below : List Frame} {meth : Method} {c : Code} {H : Heap} {locs : List Loc} {cells slots : Nat} {Q : State → Prop}
variable {pc : Nat} {ls : Array Slot} {rest st0 : List Value} {a : Array Value} {H0 : Heap} {mc ms : Nat} {D : va_G} {cl : List vw_C} {B : Nat} {tys : List (ClassId × FieldType)} {w : Wd}
theorem mcalli {post : Int32 → Wd → Prop} (hr : va_Run p l e R s m args below meth c H locs cells slots mc ms (F0 m pc ls st0) rest (va_Qi post (mE B D cl) (fun q => B ≤ q) a) (fun q => B ≤ q)) (hm : mS B D cl H0 w H locs)
    (kk : ∀ (r : Int32) (w1 : Wd) (H1 : Heap) (locs1 : List Loc), post r w1 → mS B D cl H0 w1 H1 locs1 → W p l e R s m args below meth c H1 locs1 (cells + mc) (slots + ms) Q (F0 m (pc + 3) ls (.int r :: rest))) : W p l e R s m args below meth c H locs cells slots Q (F0 m pc ls st0) :=
  va_calli hr hm.2 (fun _ _ h => h) (fun _ h => h) fun r u t H1 locs1 ht _ hp hB _ _ hS => kk r u H1 locs1 hp ⟨by rw [← ht]; exact hB, hS⟩
theorem mcallv {post : Wd → Prop} (hr : va_Run p l e R s m args below meth c H locs cells slots mc ms (F0 m pc ls st0) rest (va_Qv post (mE B D cl) (fun q => B ≤ q) a) (fun q => B ≤ q)) (hm : mS B D cl H0 w H locs)
    (kk : ∀ (w1 : Wd) (H1 : Heap) (locs1 : List Loc), post w1 → mS B D cl H0 w1 H1 locs1 → W p l e R s m args below meth c H1 locs1 (cells + mc) (slots + ms) Q (F0 m (pc + 3) ls rest)) : W p l e R s m args below meth c H locs cells slots Q (F0 m pc ls st0) :=
  va_callv hr hm.2 (fun _ _ h => h) (fun _ h => h) fun u t H1 locs1 ht _ hp hB _ _ hS => kk u H1 locs1 hp ⟨by rw [← ht]; exact hB, hS⟩
theorem mcallq {post : Option Nat → Wd → Prop} (hr : va_Run p l e R s m args below meth c H locs cells slots mc ms (F0 m pc ls st0) rest (va_Qq post (mE B D cl) (fun q => B ≤ q) a) (fun q => B ≤ q)) (hm : mS B D cl H0 w H locs)
    (kk : ∀ (r : Option Nat) (w1 : Wd) (H1 : Heap) (locs1 : List Loc), post r w1 → mS B D cl H0 w1 H1 locs1 → W p l e R s m args below meth c H1 locs1 (cells + mc) (slots + ms) Q (F0 m (pc + 3) ls (va_rf r :: rest))) : W p l e R s m args below meth c H locs cells slots Q (F0 m pc ls st0) :=
  va_callq hr hm.2 (fun _ _ h => h) (fun _ h => h) fun r u t H1 locs1 ht _ hp hB _ _ hS => kk r u H1 locs1 hp ⟨by rw [← ht]; exact hB, hS⟩
end MC
/-! a method's beginning, its ends -/
theorem mMet {l : Launch} {y : MethodName} {ws ws' : List Cond} {rm : Room} {cc : ByteArray} {maxL : Nat} {ret : Option FieldType} {av : List Value} {B : Nat} {D : va_G} {cl : List vw_C} {tys : List (ClassId × FieldType)} {N : List Cond} {w : Wd} {Qc : Array Value → State → Outcome → State → Prop} {mc ms : Nat} {free : Addr → Prop}
    (hy : plainName y.cls = true) (hw : ws = Cond.code y cc maxL ret :: ws') (hav : (lg_sl av).length ≤ maxL)
    (body : ∀ (p : Program) (e : Env) (s : State) (m : MethodId) (below : List Frame) (meth : Method) (c : Code) (ls : Array Slot), p.tables.exec = Jvm.exec → c.code = cc → c.maxLocals = maxL → meth.sig.returnType = ret → meth.locks = false → meth.name = y.name → s.vm.findClass y.cls = some m.cls → (∀ w ∈ ws, w.before av.toArray s = true) → va_K D cl tys s → mN N s → mS B D cl s.heap w s.heap [] → lv_has ls maxL (lv_args 0 av) →
      W p l e rm s m av.toArray below meth c s.heap [] 0 0 (MQ below Qc av.toArray s mc ms free) (F0 m 0 ls [])) : Met l y ws rm (va_Pc av (mP B D cl tys N w)) Qc mc ms free := by
  refine Met.ofW (cc := cc) (maxL := maxL) (ret := ret) hy hw ?_
  intro p e s m args below meth c s₁ X hml hv
  obtain ⟨rfl, hm, hK, hn⟩ := hv
  rw [lg_entry_eq]
  exact body p e s m below meth c _ X.exec X.bytes hml X.returns X.notSynchronized (name_of_methodNamed X.named X.method).1 (findClass_of_methodNamed X.named) (atoms_spec (ws := ws) X.pre) hK hn (mS.start hm) (lv_entry av hav)
section MR
variable {p : Program} {l : Launch} {e : Env} {R : Room} {s : State} {m : MethodId} {args : Array Value} {below : List Frame} {meth : Method} {c : Code} {H : Heap} {locs : List Loc} {cells slots : Nat}
variable {cc : ByteArray} {pc : Nat} {ls : Array Slot} {D : va_G} {cl : List vw_C} {B : Nat} {tys : List (ClassId × FieldType)} {w : Wd}
theorem mreti {post : Int32 → Wd → Prop} {v : Int32} (hexec : p.tables.exec = Jvm.exec) (hb : c.code = cc) (hr : meth.sig.returnType = some .int) (hlocks : meth.locks = false) (hm : mS B D cl s.heap w H locs) (hp : post v w) (hdg : decode cc pc = .ok (.ireturn, 1)) : W p l e R s m args below meth c H locs cells slots (MQ below (va_Qi post (mE B D cl) (fun q => B ≤ q)) args s cells slots (fun q => B ≤ q)) (F0 m pc ls [.int v]) :=
  W.iret hexec hb hr (fun t ht hW => ⟨⟨v, w, rfl, hp, show mw B D cl w t.heap by rw [ht]; exact hm.1⟩, hm.2.F ht⟩) hm.2.2.2 hdg
theorem mretz {post : Int32 → Wd → Prop} {v : Int32} (hexec : p.tables.exec = Jvm.exec) (hb : c.code = cc) (hr : meth.sig.returnType = some .boolean) (hn : narrow .boolean (.int v) = .int v) (hlocks : meth.locks = false) (hm : mS B D cl s.heap w H locs) (hp : post v w) (hdg : decode cc pc = .ok (.ireturn, 1)) : W p l e R s m args below meth c H locs cells slots (MQ below (va_Qi post (mE B D cl) (fun q => B ≤ q)) args s cells slots (fun q => B ≤ q)) (F0 m pc ls [.int v]) :=
  W.zret hexec hb hr hn (fun t ht hW => ⟨⟨v, w, rfl, hp, show mw B D cl w t.heap by rw [ht]; exact hm.1⟩, hm.2.F ht⟩) hm.2.2.2 hdg
theorem mretv {post : Wd → Prop} (hexec : p.tables.exec = Jvm.exec) (hb : c.code = cc) (hr : meth.sig.returnType = none) (hlocks : meth.locks = false) (hm : mS B D cl s.heap w H locs) (hp : post w) (hdg : decode cc pc = .ok (.return_, 1)) : W p l e R s m args below meth c H locs cells slots (MQ below (va_Qv post (mE B D cl) (fun q => B ≤ q)) args s cells slots (fun q => B ≤ q)) (F0 m pc ls []) :=
  W.vret hexec hb hr (fun t ht hW => ⟨⟨w, rfl, hp, show mw B D cl w t.heap by rw [ht]; exact hm.1⟩, hm.2.F ht⟩) hm.2.2.2 hdg
theorem mretq {post : Option Nat → Wd → Prop} {r : Option Nat} {rt : FieldType} (hexec : p.tables.exec = Jvm.exec) (hb : c.code = cc) (hr : meth.sig.returnType = some rt) (hrt : (∃ n, rt = .object n) ∨ ∃ t, rt = .array t) (hlocks : meth.locks = false) (hm : mS B D cl s.heap w H locs) (hp : post r w) (hdg : decode cc pc = .ok (.areturn, 1)) : W p l e R s m args below meth c H locs cells slots (MQ below (va_Qq post (mE B D cl) (fun q => B ≤ q)) args s cells slots (fun q => B ≤ q)) (F0 m pc ls [va_rf r]) :=
  W.aret hexec hb hr hrt (va_rf_or r) (fun t ht hW => ⟨⟨r, w, rfl, hp, show mw B D cl w t.heap by rw [ht]; exact hm.1⟩, hm.2.F ht⟩) hm.2.2.2 hdg
end MR
