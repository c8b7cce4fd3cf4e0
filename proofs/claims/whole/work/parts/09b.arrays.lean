/-! arrays, at places that are known numbers -/
section MWE
variable {p : Program} {l : Launch} {e : Env} {R : Room} {s : State} {m : MethodId} {args : Array Value} {below : List Frame} {meth : Method} {c : Code} {H : Heap} {locs : List Loc} {cells slots : Nat} {Q : State → Prop}
variable {cc : ByteArray} {pc : Nat} {ls : Array Slot} {rest : List Value} {D : va_G} {cl : List vw_C} {B : Nat} {a : Nat} {tys : List (ClassId × FieldType)} {w : Wd} {H0 : Heap}
theorem ialdE (k : Nat) (hexec : p.tables.exec = Jvm.exec) (hb : c.code = cc) (hK : va_K D cl tys s) (hm : mS B D cl H0 w H locs) (t0 : Nat) {cA : ClassId} {n : Nat} {f : Nat → Int32} (ha : w a = some (.inl (cA, n, .inl f))) (ht : tys[t0]? = some (cA, .int)) {i : Int32} (hi : i = nI k) (hk : k < n) (hn : n < 2 ^ 31) (hdg : decode cc pc = .ok (.iaload, 1))
    (kk : W p l e R s m args below meth c H locs cells slots Q (F0 m (pc + 1) ls (.int (f k) :: rest))) : W p l e R s m args below meth c H locs cells slots Q (F0 m pc ls (.int i :: .ref a :: rest)) := by
  subst hi
  refine miald hexec hb hK hm t0 ha ht (vp_in_nI hk hn) hdg ?_
  rw [nI_clamp (by omega)]
  exact kk
theorem baldE (k : Nat) (hexec : p.tables.exec = Jvm.exec) (hb : c.code = cc) (hK : va_K D cl tys s) (hm : mS B D cl H0 w H locs) (t0 : Nat) {cA : ClassId} {n : Nat} {f : Nat → Int32} (ha : w a = some (.inl (cA, n, .inl f))) (ht : tys[t0]? = some (cA, .boolean)) {i : Int32} (hi : i = nI k) (hk : k < n) (hn : n < 2 ^ 31) (hdg : decode cc pc = .ok (.baload, 1))
    (kk : W p l e R s m args below meth c H locs cells slots Q (F0 m (pc + 1) ls (.int (f k) :: rest))) : W p l e R s m args below meth c H locs cells slots Q (F0 m pc ls (.int i :: .ref a :: rest)) := by
  subst hi
  refine mbald hexec hb hK hm t0 ha ht (vp_in_nI hk hn) hdg ?_
  rw [nI_clamp (by omega)]
  exact kk
theorem iastE (k : Nat) (hexec : p.tables.exec = Jvm.exec) (hb : c.code = cc) (hK : va_K D cl tys s) (hm : mS B D cl H0 w H locs) (t0 : Nat) {cA : ClassId} {n : Nat} {f : Nat → Int32} (ha : w a = some (.inl (cA, n, .inl f))) (ht : tys[t0]? = some (cA, .int)) {i x : Int32} (hi : i = nI k) (hk : k < n) (hn : n < 2 ^ 31) (hdg : decode cc pc = .ok (.iastore, 1))
    (kk : ∀ (H1 : Heap) (locs1 : List Loc), mS B D cl H0 (wset w a (.inl (cA, n, .inl (upd f k x)))) H1 locs1 → W p l e R s m args below meth c H1 locs1 cells slots Q (F0 m (pc + 1) ls rest)) : W p l e R s m args below meth c H locs cells slots Q (F0 m pc ls (.int x :: .int i :: .ref a :: rest)) := by
  subst hi
  refine miast hexec hb hK hm t0 ha ht (vp_in_nI hk hn) hdg (fun H1 locs1 h => ?_)
  rw [nI_clamp (by omega)] at h
  exact kk H1 locs1 h
theorem bastE (k : Nat) (hexec : p.tables.exec = Jvm.exec) (hb : c.code = cc) (hK : va_K D cl tys s) (hm : mS B D cl H0 w H locs) (t0 : Nat) {cA : ClassId} {n : Nat} {f : Nat → Int32} (ha : w a = some (.inl (cA, n, .inl f))) (ht : tys[t0]? = some (cA, .boolean)) {i x : Int32} (hi : i = nI k) (hk : k < n) (hn : n < 2 ^ 31) (hz : x = 0 ∨ x = 1) (hdg : decode cc pc = .ok (.bastore, 1))
    (kk : ∀ (H1 : Heap) (locs1 : List Loc), mS B D cl H0 (wset w a (.inl (cA, n, .inl (upd f k x)))) H1 locs1 → W p l e R s m args below meth c H1 locs1 cells slots Q (F0 m (pc + 1) ls rest)) : W p l e R s m args below meth c H locs cells slots Q (F0 m pc ls (.int x :: .int i :: .ref a :: rest)) := by
  subst hi
  refine mbast hexec hb hK hm t0 ha ht (vp_in_nI hk hn) hz hdg (fun H1 locs1 h => ?_)
  rw [nI_clamp (by omega)] at h
  exact kk H1 locs1 h
end MWE
