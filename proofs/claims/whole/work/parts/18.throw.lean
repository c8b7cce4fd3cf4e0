/-! throwing: what a thrower stands on, its beginning, its throw, its call -/
def mX (B : Nat) (sa : Nat → Nat) (U : State) : Prop := vk_R "ChainPicker" 23 "time can't go on by that" (sa 0) U ∧ vk_R "ChainPicker" 84 "the chain has no such job" (sa 1) U ∧ vk_R "ChainPicker" 103 "an age is not below 0" (sa 2) U ∧ vx_Zq Bundle.tN "UNASSIGNED_STACK" Bundle.steD (fun q => B ≤ q) U U.heap ∧ vx_Zq Bundle.tN "SUPPRESSED_SENTINEL" Bundle.listD (fun q => B ≤ q) U U.heap
def mPX (B : Nat) (D : va_G) (cl : List vw_C) (tys : List (ClassId × FieldType)) (N : List Cond) (sa : Nat → Nat) (w : Wd) (U : State) : Prop := mP B D cl tys N w U ∧ mX B sa U
theorem mX.blind {B : Nat} {sa : Nat → Nat} {U : State} (g : JFrame) (mk : MethodId) (a : Array Value) (h : mX B sa U) : mX B sa (U.calling g mk a) :=
  ⟨vk_R.same rfl h.1, vk_R.same rfl h.2.1, vk_R.same rfl h.2.2.1, vx_Zq.moved (u := U) (U := U.calling g mk a) (Vm.Alike.refl U.vm) h.2.2.2.1, vx_Zq.moved (u := U) (U := U.calling g mk a) (Vm.Alike.refl U.vm) h.2.2.2.2⟩
theorem mX.go {B : Nat} {sa : Nat → Nat} {s U : State} {H : Heap} {locs : List Loc} (h : mX B sa s) (hS : va_S (fun q => B ≤ q) s.heap H locs) (hU : U.heap = H) (hW : s.WarmedH U.vm) : mX B sa U :=
  ⟨vk_R.warm hW h.1, vk_R.warm hW h.2.1, vk_R.warm hW h.2.2.1, by rw [hU]; exact vx_Zq.moved hW.alike (h.2.2.2.1.kept hS.2.1), by rw [hU]; exact vx_Zq.moved hW.alike (h.2.2.2.2.kept hS.2.1)⟩
theorem mPX.blind {B : Nat} {D : va_G} {cl : List vw_C} {tys : List (ClassId × FieldType)} {N : List Cond} (hN : N.all nestWord = true) {sa : Nat → Nat} {w : Wd} {av : List Value} : FrameBlind (va_Pc av (mPX B D cl tys N sa w)) := fun a U g mk q => by
  obtain ⟨q0, q1, q2⟩ := q
  exact ⟨q0, (mP.blind hN (av := av) a U g mk ⟨q0, q1⟩).2, q2.blind g mk a⟩
theorem mw.kept {B : Nat} {D : va_G} {cl : List vw_C} {w : Wd} {H H1 : Heap} (h : mw B D cl w H) (hz : H.size ≤ H1.size) (hq : ∀ q : Nat, q < H.size → H1[q]? = H[q]?) : mw B D cl w H1 :=
  ⟨Nat.le_trans h.1 hz, fun a x ha => ⟨(h.2 a x ha).1, (h.2 a x ha).2.kept (hq a (h.2 a x ha).2.lt)⟩⟩
theorem mMetX {l : Launch} {y : MethodName} {ws ws' : List Cond} {rm : Room} {cc : ByteArray} {maxL : Nat} {ret : Option FieldType} {av : List Value} {B : Nat} {D : va_G} {cl : List vw_C} {tys : List (ClassId × FieldType)} {N : List Cond} {sa : Nat → Nat} {w : Wd} {Qc : Array Value → State → Outcome → State → Prop} {XC : String → State → State → Prop} {mc ms : Nat} {free : Addr → Prop}
    (hy : plainName y.cls = true) (hw : ws = Cond.code y cc maxL ret :: ws') (hav : (lg_sl av).length ≤ maxL)
    (body : ∀ (p : Program) (e : Env) (s : State) (m : MethodId) (below : List Frame) (meth : Method) (c : Code) (ls : Array Slot), p.tables.exec = Jvm.exec → c.code = cc → c.maxLocals = maxL → meth.sig.returnType = ret → meth.locks = false → meth.name = y.name → s.vm.findClass y.cls = some m.cls → (∀ w ∈ ws, w.before av.toArray s = true) → va_K D cl tys s → mN N s → mX B sa s → (∀ x ∈ c.exceptionTable.toList, False) → mS B D cl s.heap w s.heap [] → lv_has ls maxL (lv_args 0 av) →
      W p l e rm s m av.toArray below meth c s.heap [] 0 0 (vx_MQ below Qc XC av.toArray s mc ms free) (F0 m 0 ls [])) : vx_Met l y ws rm (va_Pc av (mPX B D cl tys N sa w)) Qc XC mc ms free := by
  refine vx_ofW (cc := cc) (maxL := maxL) (ret := ret) hy hw ?_
  intro p e s m args below meth c s₁ X hml hno hv
  obtain ⟨rfl, ⟨hm, hK, hn⟩, hX⟩ := hv
  rw [lg_entry_eq]
  exact body p e s m below meth c _ X.exec X.bytes hml X.returns X.notSynchronized (name_of_methodNamed X.named X.method).1 (findClass_of_methodNamed X.named) (atoms_spec (ws := ws) X.pre) hK hn hX hno (mS.start hm) (lv_entry av hav)
/-- a method with handlers, that throws nothing -/
theorem mMetH {l : Launch} {y : MethodName} {ws ws' : List Cond} {rm : Room} {cc : ByteArray} {maxL : Nat} {ret : Option FieldType} {hh : List (Nat × Nat × Nat × Nat)} {av : List Value} {B : Nat} {D : va_G} {cl : List vw_C} {tys : List (ClassId × FieldType)} {N : List Cond} {sa : Nat → Nat} {w : Wd} {Qc : Array Value → State → Outcome → State → Prop} {mc ms : Nat} {free : Addr → Prop}
    (hy : plainName y.cls = true) (hw : ws = Cond.codeWith y cc maxL ret hh :: ws') (hav : (lg_sl av).length ≤ maxL)
    (body : ∀ (p : Program) (e : Env) (s : State) (m : MethodId) (below : List Frame) (meth : Method) (c : Code) (ls : Array Slot), p.tables.exec = Jvm.exec → c.code = cc → c.maxLocals = maxL → meth.sig.returnType = ret → meth.locks = false → meth.name = y.name → s.vm.findClass y.cls = some m.cls → (∀ w ∈ ws, w.before av.toArray s = true) → va_K D cl tys s → mN N s → mX B sa s → c.exceptionTable.toList = tableOf hh → mS B D cl s.heap w s.heap [] → lv_has ls maxL (lv_args 0 av) →
      W p l e rm s m av.toArray below meth c s.heap [] 0 0 (MQ below Qc av.toArray s mc ms free) (F0 m 0 ls [])) : Met l y ws rm (va_Pc av (mPX B D cl tys N sa w)) Qc mc ms free := by
  refine va_MetW (cc := cc) (maxL := maxL) (ret := ret) (hh := hh) hy hw ?_
  intro p e s m args below meth c s₁ X hml hv
  obtain ⟨rfl, ⟨hm, hK, hn⟩, hX⟩ := hv
  rw [lg_entry_eq]
  exact body p e s m below meth c _ X.exec X.bytes hml X.returns X.notSynchronized (name_of_methodNamed X.named X.method).1 (findClass_of_methodNamed X.named) (atoms_spec (ws := ws) X.pre) hK hn hX (vx_table (x := y) X (atoms_spec (ws := ws) X.pre _ (by rw [hw]; exact List.mem_cons_self))) (mS.start hm) (lv_entry av hav)
/-- what is thrown: the class, and the world as it was -/
def mXC (B : Nat) (D : va_G) (cl : List vw_C) (E : String) (px : Wd → Prop) : String → State → State → Prop := vx_X px (fun E' u t => E' = E ∧ mw B D cl u t.heap) (fun q => B ≤ q)
abbrev nmE : List String := ["java/lang/RuntimeException", "java/lang/Exception"]
theorem at_iae : ∀ w ∈ (vx_atS "ChainPicker" 25 "java/lang/IllegalArgumentException" nmE).filter goodWord, w ∈ BIG := by decide +kernel
theorem at_ioe : ∀ w ∈ (vx_atS "ChainPicker" 86 "java/lang/IndexOutOfBoundsException" nmE).filter goodWord, w ∈ BIG := by decide +kernel
theorem nt_iae : ∀ w ∈ (vx_atS "ChainPicker" 25 "java/lang/IllegalArgumentException" nmE).filter (fun w => !goodWord w), w ∈ NEST := by decide +kernel
theorem nt_ioe : ∀ w ∈ (vx_atS "ChainPicker" 86 "java/lang/IndexOutOfBoundsException" nmE).filter (fun w => !goodWord w), w ∈ NEST := by decide +kernel
theorem ot_iae : ∀ w ∈ Cond.classLink "ChainPicker" 21 "java/lang/IllegalArgumentException" :: Cond.initialized "java/lang/IllegalArgumentException" :: vx_atS "ChainPicker" 25 "java/lang/IllegalArgumentException" nmE, vx_ot w = true := by decide +kernel
theorem ot_ioe : ∀ w ∈ Cond.classLink "ChainPicker" 82 "java/lang/IndexOutOfBoundsException" :: Cond.initialized "java/lang/IndexOutOfBoundsException" :: vx_atS "ChainPicker" 86 "java/lang/IndexOutOfBoundsException" nmE, vx_ot w = true := by decide +kernel
theorem NEST_on : ∀ w ∈ NEST, w.onTables = true := by decide +kernel
section MTH
variable {p : Program} {l : Launch} {e : Env} {R : Room} {s : State} {m : MethodId} {args : Array Value} {below : List Frame} {meth : Method} {c : Code} {H : Heap} {locs : List Loc} {cells slots : Nat}
variable {cc : ByteArray} {pc : Nat} {ls : Array Slot} {rest : List Value} {D : va_G} {B : Nat} {tys : List (ClassId × FieldType)} {w : Wd} {yw : Cond} {Qc : Array Value → State → Outcome → State → Prop}
theorem mthrow {cls text : String} {ik is ic sa1 : Nat} {sa : Nat → Nat} {px : Wd → Prop} (hl : l.stackTraces = false) (hx : p.tables.exec = Jvm.exec) (hb : c.code = cc) (hE : ME "ChainPicker" yw args s m D tys) (hX : mX B sa s) (hno : ∀ x ∈ c.exceptionTable.toList, False) (hlk : meth.locks = false)
    (hcls : Bundle.fit cls = true) (q1 : Cond.classLink "ChainPicker" ik cls ∈ BIG) (q2 : Cond.initialized cls ∈ BIG) (hstr : vk_R "ChainPicker" is text sa1 s) (a1 : ∀ w ∈ (vx_atS "ChainPicker" ic cls nmE).filter goodWord, w ∈ BIG) (a2 : ∀ w ∈ (vx_atS "ChainPicker" ic cls nmE).filter (fun w => !goodWord w), w ∈ NEST)
    (a3 : ∀ w ∈ Cond.classLink "ChainPicker" ik cls :: Cond.initialized cls :: vx_atS "ChainPicker" ic cls nmE, vx_ot w = true) (hm : mS B D CLS s.heap w H locs) (hls : ls.size = c.maxLocals) (hpx : px w)
    (d0 : decode cc pc = .ok (.new ik, 3)) (d3 : decode cc (pc + 3) = .ok (.dup, 1)) (d4 : decode cc (pc + 4) = .ok (.ldc is, 2)) (d6 : decode cc (pc + 6) = .ok (.invokespecial ic, 3)) (d9 : decode cc (pc + 9) = .ok (.athrow, 1))
    (hRf : 5 < R.frames) (hRl : (rest.map fun v => v.category).sum + 82 ≤ R.locals) (hRc : cells + 1 ≤ R.cells) (hRs : slots + 6 ≤ R.slots) :
    W p l e R s m args below meth c H locs cells slots (vx_MQ below Qc (mXC B D CLS cls px) args s (cells + 1) (slots + 6) (fun q => B ≤ q)) (F0 m pc ls rest) := by
  refine vx_throwS (names := nmE) (A := fun q => B ≤ q) hx hb hl hE.1 hcls (by decide +kernel) (hE.2.1 _ (List.mem_cons_of_mem _ q1)) (hE.2.1 _ (List.mem_cons_of_mem _ q2)) hstr (vx_hat (fun w hw => hE.2.1 w (List.mem_cons_of_mem _ (a1 w hw))) a2 (fun w hw => va_Nw.use (NEST_on w hw) (hE.2.2.2 w hw))) a3 hX.2.2.2.1 hX.2.2.2.2 hm.2 hls d0 d3 d4 d6 d9 (fun x h => (hno x h).elim) hRf hRl hRc hRs hlk ?_ hm.2.2.2 (Nat.le_refl _) (Nat.le_refl _)
  intro t _ hz hq
  exact ⟨w, hpx, ⟨rfl, hm.1.kept hz hq⟩, Nat.le_trans hm.2.1 hz, fun q h1 h2 => (hq q (Nat.lt_of_lt_of_le h1 hm.2.1)).trans (hm.2.2.1 q h1 h2)⟩
end MTH
section MXC
variable {p : Program} {l : Launch} {e : Env} {R : Room} {s : State} {m : MethodId} {args : Array Value} {below : List Frame} {meth : Method} {c : Code} {H : Heap} {locs : List Loc} {cells slots : Nat} {Q : State → Prop}
variable {cc : ByteArray} {pc : Nat} {ls : Array Slot} {D : va_G} {B : Nat} {tys : List (ClassId × FieldType)} {w : Wd} {yw : Cond}
variable {y : MethodName} {bytes : ByteArray} {maxL nL mc ms n index : Nat} {ret : Option FieldType} {rm : Room} {Qc : Array Value → State → Outcome → State → Prop} {XC : String → State → State → Prop} {own C : String} {b : Addr} {As rest st0 : List Value} {sa : Nat → Nat} {a : Array Value}
theorem mxV {ci : Nat} {T : u_T} {N9 : Nat} {fs : List Value} (hx : p.tables.exec = Jvm.exec) (hb : c.code = cc) (hml : c.maxLocals = nL) (hown : s.vm.findClass own = some m.cls) (hts : ∀ w ∈ yw :: BIG, w.before args s = true) (hK : va_K D CLS tys s) (hN : mN NEST s) (hX : mX B sa s) (hM : vx_Met l y (Cond.code y bytes maxL ret :: BIG) rm (va_Pc (.ref b :: As) (mPX B D CLS tys NEST sa w)) Qc XC mc ms (fun q => B ≤ q))
    (q1 : Cond.methodLink own index y ∈ BIG) (q2 : Cond.instanceMethod y ∈ BIG) (q3 : Cond.selects C y y ∈ BIG) (q5 : Cond.initialized y.cls ∈ BIG) (q4 : Cond.code y bytes maxL ret ∈ BIG) (hrc : rm.cells = mc) (hrs : rm.slots = ms)
    (hd : y.cls ≠ "java/lang/invoke/MethodHandle" ∧ y.cls ≠ "java/lang/invoke/VarHandle" ∧ (parseMethodDescriptor y.desc).map (fun d => d.parameters.length) = some n) (hR : rm.frames + 1 ≤ R.frames ∧ 8 + (maxL + 11) + rm.locals ≤ R.locals)
    (hn : As.length = n) (hls : ls.size = nL) (hm : mS B D CLS s.heap w H locs) (hc : CLS[ci]? = some (C, T, N9)) (he : w b = some (.inr (ci, fs))) (hst : st0 = As.reverse ++ .ref b :: rest) (hW : (rest.map fun v => v.category).sum ≤ 8) (hdg : decode cc pc = .ok (.invokevirtual index, 3)) (hf : cells + mc ≤ R.cells ∧ slots + ms ≤ R.slots) :
    vx_Run p l e R s m args below meth c H locs cells slots mc ms (F0 m pc ls st0) rest (Qc (Value.ref b :: As).toArray) XC (fun q => B ≤ q) :=
  vx_runV ⟨hx, hb, hml, hown, hts⟩ hM ⟨callB_of n hts (gBIG q4) rfl hrc hrs (hts _ (List.mem_cons_of_mem _ q5)) (hts _ (List.mem_cons_of_mem _ q1)) hd hR, hts _ (List.mem_cons_of_mem _ q2), hts _ (List.mem_cons_of_mem _ q3)⟩
    ⟨mPX.blind NEST_ok, va_recv hK (hm.one he) (q0 := 0) hc rfl, fun U hU hW => ⟨rfl, mP.moved NEST_ok hK hN hm.1 hU hW, hX.go hm.2 hU hW⟩⟩ rfl hn hls hst (lv_room hW) hdg hf
theorem mxcalli {post : Int32 → Wd → Prop} {px : Wd → Prop} {E : String} (hr : vx_Run p l e R s m args below meth c H locs cells slots mc ms (F0 m pc ls st0) rest (va_Qi post (mE B D CLS) (fun q => B ≤ q) a) (mXC B D CLS E px) (fun q => B ≤ q)) (hm : mS B D CLS s.heap w H locs)
    (kx : ∀ (ce : Cell) (q9 : Addr) (w1 : Wd) (H1 : Heap) (locs1 : List Loc), px w1 → mS B D CLS s.heap w1 H1 locs1 → H1[q9]? = some ce → ce.vm = .none → s.vm.findClass E = some ce.cls → vx_W p l e R s m args below meth c H1 locs1 (cells + mc) (slots + ms) Q (F0 m pc ls rest) q9)
    (kk : ∀ (r : Int32) (w1 : Wd) (H1 : Heap) (locs1 : List Loc), post r w1 → mS B D CLS s.heap w1 H1 locs1 → W p l e R s m args below meth c H1 locs1 (cells + mc) (slots + ms) Q (F0 m (pc + 3) ls (.int r :: rest))) : W p l e R s m args below meth c H locs cells slots Q (F0 m pc ls st0) := by
  refine vx_calli hr hm.2 (fun _ _ h => h) (fun _ h => h) (fun _ _ h => h) ?_ ?_
  · intro E' ce q9 u t H1 locs1 ht _ hp hB _ _ hS hce hv hcl
    obtain ⟨rfl, hB⟩ := hB
    exact kx ce q9 u H1 locs1 hp ⟨by rw [← ht]; exact hB, hS⟩ hce hv hcl
  · intro r u t H1 locs1 ht _ hp hB _ _ hS
    exact kk r u H1 locs1 hp ⟨by rw [← ht]; exact hB, hS⟩
end MXC
def pOk (now x : Int32) : Bool := !decide (x < 0) && !decide (1000000000 - now < x)
theorem lk_n {f : Nat} {J : Nat → Jr} {y i : Int32} : lk (chn J f none) y i = none := by rw [chn_n]; rfl
theorem lk_t {f j : Nat} {J : Nat → Jr} {y i : Int32} (h : y = i) : lk (chn J (f + 1) (some j)) y i = some j := by simp [chn, lk, h]
theorem lk_f {f j : Nat} {J : Nat → Jr} {y i : Int32} (h : ¬ y = i) : lk (chn J (f + 1) (some j)) y i = lk (chn J f (jBs (J j))) (y + 1) i := by simp [chn, lk, h]
theorem xp_t {n k : Nat} {now age g : Int32} {J : Nat → Jr} (h : (fr n J k && decide (age < now - jEn (J k)) && !only n J k) = true) : xp n now age (k + 1) J g = xp n now age k (drJ J k) (g + 1) := by simp only [xp]; rw [if_pos h]
theorem xp_f {n k : Nat} {now age g : Int32} {J : Nat → Jr} (h : (fr n J k && decide (age < now - jEn (J k)) && !only n J k) = false) : xp n now age (k + 1) J g = xp n now age k J g := by simp only [xp]; rw [h]; simp
