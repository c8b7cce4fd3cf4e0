/-! rows of the law -/
section LROW
variable {p : Program} {l : Launch} {e : Env} {R : Room} {s : State} {m : MethodId} {args : Array Value} {below : List Frame} {meth : Method} {c : Code} {H : Heap} {locs : List Loc} {cells slots : Nat} {Q : State → Prop}
variable {cc : ByteArray} {pc : Nat} {ls : Array Slot} {D : va_G} {B : Nat} {tys : List (ClassId × FieldType)} {w : Wd} {yw : Cond} {rest : List Value}
theorem lw_sld (q : Nat) {b L : Nat} {xs : Nat → Int32} (hx : p.tables.exec = Jvm.exec) (hb : c.code = cc) (hX : va_X b L xs s s.heap) (hbl : b < s.heap.size) (hbB : b < B) (hm : mS B D CLS s.heap w H locs) {i : Int32} (hi : i = nI q) (hq : q < L) (hL : L ≤ 2048) (hdg : decode cc pc = .ok (.iaload, 1))
    (kk : W p l e R s m args below meth c H locs cells slots Q (F0 m (pc + 1) ls (.int (xs q) :: rest))) : W p l e R s m args below meth c H locs cells slots Q (F0 m pc ls (.int i :: .ref b :: rest)) := by
  subst hi
  refine va_sld (A := fun q => B ≤ q) hx hb hX hbl (Nat.not_le.mpr hbB) hm.2 (vp_in_nI hq (by omega)) hdg ?_
  rw [nI_clamp (by omega)]
  exact kk
variable {y : MethodName} {bytes : ByteArray} {maxL nL mc ms n index : Nat} {ret : Option FieldType} {rm : Room} {Qc : Array Value → State → Outcome → State → Prop} {own C : String} {As st0 : List Value} {sa : Nat → Nat} {hh : List (Nat × Nat × Nat × Nat)}
theorem mcSW (hx : p.tables.exec = Jvm.exec) (hb : c.code = cc) (hml : c.maxLocals = nL) (hE : ME own yw args s m D tys) (hX : mX B sa s) (hM : Met l y (Cond.codeWith y bytes maxL ret hh :: BIG) rm (va_Pc As (mPX B D CLS tys NEST sa w)) Qc mc ms (fun q => B ≤ q))
    (q1 : Cond.methodLink own index y ∈ BIG) (q2 : Cond.static y ∈ BIG) (q3 : Cond.initialized y.cls ∈ BIG) (q4 : Cond.codeWith y bytes maxL ret hh ∈ BIG) (hrc : rm.cells = mc) (hrs : rm.slots = ms)
    (hd : y.cls ≠ "java/lang/invoke/MethodHandle" ∧ y.cls ≠ "java/lang/invoke/VarHandle" ∧ (parseMethodDescriptor y.desc).map (fun d => d.parameters.length) = some n) (hR : rm.frames + 1 ≤ R.frames ∧ 8 + (maxL + 11) + rm.locals ≤ R.locals)
    (hn : As.length = n) (hls : ls.size = nL) (hm : mS B D CLS s.heap w H locs) (hst : st0 = As.reverse ++ rest) (hW : (rest.map fun v => v.category).sum ≤ 8) (hdg : decode cc pc = .ok (.invokestatic index, 3)) (hf : cells + mc ≤ R.cells ∧ slots + ms ≤ R.slots) :
    va_Run p l e R s m args below meth c H locs cells slots mc ms (F0 m pc ls st0) rest (Qc As.toArray) (fun q => B ≤ q) :=
  vx_runSW ⟨hx, hb, hml, hE.1, hE.2.1⟩ hM ⟨⟨hrc, hrs, hR.1, hR.2, pay_in hE.2.1 (gBIG q4), List.mem_cons_self⟩, hE.2.1 _ (List.mem_cons_of_mem _ q4), hE.2.1 _ (List.mem_cons_of_mem _ q3), ⟨hd.1, hd.2.1⟩, (fun sig h => by have h2 := hd.2.2; rw [h] at h2; exact (Option.some.inj h2).symm), hE.2.1 _ (List.mem_cons_of_mem _ q1), hE.2.1 _ (List.mem_cons_of_mem _ q2)⟩
    ⟨mPX.blind NEST_ok, fun U hU hW => ⟨rfl, mP.moved NEST_ok hE.2.2.1 hE.2.2.2 hm.1 hU hW, hX.go hm.2 hU hW⟩⟩ rfl hn hls hst (lv_room hW) hdg hf
end LROW
theorem lgc_0 (x : Int64) : lg_cmp x x = 0 := by
  unfold lg_cmp
  rw [if_neg (by rw [gt_iff_lt, Int64.lt_iff_toInt_lt]; omega), if_pos rfl]
theorem LI.rd {cI cZ cL : ClassId} {o r ob : Nat} {ad va as : Nat → Nat} {g : Nat → Nat → Int32} {fo : Nat → Int64} {thr now : Int32} {n : Nat} {J : Nat → Jr} {w u : Wd} (hC : cR cI o ad va now n J w) (hM : mW now n J) (hNw : ¬ now < 0 ∧ ¬ 1000000000 < now) (hob : w ob = some (.inl (cL, 1, .inr (.inl fo)))) (hdis : ∀ q, cF o ad va n q → ¬ rF r as q) (hob1 : ¬ cF o ad va n ob) (hob2 : ¬ rF r as ob) (hR : rR cI cZ r as g thr now n J u) (hK : rK r as w u) : LI cI cZ cL o r ob u :=
  ⟨ad, va, as, g, fo, thr, now, n, J, hC.keep (fun q hq => hK q (hdis q hq)), hR, hM, hNw, (hK ob hob2).trans hob, hdis, hob1, hob2⟩
