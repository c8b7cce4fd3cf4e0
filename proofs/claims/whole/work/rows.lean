section
-- ===== PART A: goes FIRST, ahead of the names: the tables' words, and 'selects' of the private methods out of them =====
/-- a private method of a class that the tables say can be made, by its rows of tables_1 -/
def lw_okq (q : MethodName × Nat) : Prop := (q.1.cls ≠ "java/lang/invoke/MethodHandle" ∧ q.1.cls ≠ "java/lang/invoke/VarHandle") ∧ Cond.instantiable q.1.cls q.2 ∈ tables_1 ∧ Cond.privateMethod q.1 ∈ tables_1 ∧ Cond.instanceMethod q.1 ∈ tables_1
theorem lw_p0 : lw_okq (⟨"ChainPicker", "hasRunning", "(I)Z"⟩, 3) := ⟨⟨by decide +kernel, by decide +kernel⟩, List.mem_of_getElem? (i := 11) (by decide +kernel), List.mem_of_getElem? (i := 39) (by decide +kernel), List.mem_of_getElem? (i := 40) (by decide +kernel)⟩
theorem lw_p1 : lw_okq (⟨"ChainPicker", "findBase", "(II)LChainPicker$Job;"⟩, 3) := ⟨⟨by decide +kernel, by decide +kernel⟩, List.mem_of_getElem? (i := 11) (by decide +kernel), List.mem_of_getElem? (i := 43) (by decide +kernel), List.mem_of_getElem? (i := 44) (by decide +kernel)⟩
theorem lw_p2 : lw_okq (⟨"ChainPicker", "findJob", "(I)LChainPicker$Job;"⟩, 3) := ⟨⟨by decide +kernel, by decide +kernel⟩, List.mem_of_getElem? (i := 11) (by decide +kernel), List.mem_of_getElem? (i := 113) (by decide +kernel), List.mem_of_getElem? (i := 114) (by decide +kernel)⟩
theorem lw_p3 : lw_okq (⟨"ChainPicker", "findHead", "(II)LChainPicker$Job;"⟩, 3) := ⟨⟨by decide +kernel, by decide +kernel⟩, List.mem_of_getElem? (i := 11) (by decide +kernel), List.mem_of_getElem? (i := 132) (by decide +kernel), List.mem_of_getElem? (i := 133) (by decide +kernel)⟩
theorem lw_p4 : lw_okq (⟨"ChainPicker", "countRunning", "()I"⟩, 3) := ⟨⟨by decide +kernel, by decide +kernel⟩, List.mem_of_getElem? (i := 11) (by decide +kernel), List.mem_of_getElem? (i := 176) (by decide +kernel), List.mem_of_getElem? (i := 177) (by decide +kernel)⟩
theorem lw_p5 : lw_okq (⟨"ChainPicker", "countPruned", "()I"⟩, 3) := ⟨⟨by decide +kernel, by decide +kernel⟩, List.mem_of_getElem? (i := 11) (by decide +kernel), List.mem_of_getElem? (i := 180) (by decide +kernel), List.mem_of_getElem? (i := 181) (by decide +kernel)⟩
theorem lw_p6 : lw_okq (⟨"java/lang/Throwable", "fillInStackTrace", "(I)Ljava/lang/Throwable;"⟩, 6) := ⟨⟨by decide +kernel, by decide +kernel⟩, List.mem_of_getElem? (i := 230) (by decide +kernel), List.mem_of_getElem? (i := 228) (by decide +kernel), List.mem_of_getElem? (i := 229) (by decide +kernel)⟩
theorem lw_p7 : lw_okq (⟨"ChainPicker", "isOnlyGoodFull", "(LChainPicker$Job;)Z"⟩, 3) := ⟨⟨by decide +kernel, by decide +kernel⟩, List.mem_of_getElem? (i := 11) (by decide +kernel), List.mem_of_getElem? (i := 292) (by decide +kernel), List.mem_of_getElem? (i := 293) (by decide +kernel)⟩
theorem lw_p8 : lw_okq (⟨"ChainPickerModel", "lastOne", "(II)I"⟩, 12) := ⟨⟨by decide +kernel, by decide +kernel⟩, List.mem_of_getElem? (i := 296) (by decide +kernel), List.mem_of_getElem? (i := 353) (by decide +kernel), List.mem_of_getElem? (i := 354) (by decide +kernel)⟩
theorem lw_p9 : lw_okq (⟨"ChainPickerModel", "isJob", "(I)Z"⟩, 12) := ⟨⟨by decide +kernel, by decide +kernel⟩, List.mem_of_getElem? (i := 296) (by decide +kernel), List.mem_of_getElem? (i := 361) (by decide +kernel), List.mem_of_getElem? (i := 362) (by decide +kernel)⟩
theorem lw_p10 : lw_okq (⟨"ChainPickerModel", "head", "(II)I"⟩, 12) := ⟨⟨by decide +kernel, by decide +kernel⟩, List.mem_of_getElem? (i := 296) (by decide +kernel), List.mem_of_getElem? (i := 374) (by decide +kernel), List.mem_of_getElem? (i := 375) (by decide +kernel)⟩
theorem lw_p11 : lw_okq (⟨"ChainPickerModel", "version", "(III)I"⟩, 12) := ⟨⟨by decide +kernel, by decide +kernel⟩, List.mem_of_getElem? (i := 296) (by decide +kernel), List.mem_of_getElem? (i := 386) (by decide +kernel), List.mem_of_getElem? (i := 387) (by decide +kernel)⟩
theorem lw_p12 : lw_okq (⟨"ChainPickerModel", "teller", "(III)I"⟩, 12) := ⟨⟨by decide +kernel, by decide +kernel⟩, List.mem_of_getElem? (i := 296) (by decide +kernel), List.mem_of_getElem? (i := 390) (by decide +kernel), List.mem_of_getElem? (i := 391) (by decide +kernel)⟩
theorem lw_p13 : lw_okq (⟨"ChainPickerModel", "mayGo", "(I)Z"⟩, 12) := ⟨⟨by decide +kernel, by decide +kernel⟩, List.mem_of_getElem? (i := 296) (by decide +kernel), List.mem_of_getElem? (i := 406) (by decide +kernel), List.mem_of_getElem? (i := 407) (by decide +kernel)⟩
theorem lw_p14 : lw_okq (⟨"ChainPickerModel", "standing", "(I)I"⟩, 12) := ⟨⟨by decide +kernel, by decide +kernel⟩, List.mem_of_getElem? (i := 296) (by decide +kernel), List.mem_of_getElem? (i := 410) (by decide +kernel), List.mem_of_getElem? (i := 411) (by decide +kernel)⟩
theorem lw_p15 : lw_okq (⟨"ChainPickerModel", "drop", "(I)V"⟩, 12) := ⟨⟨by decide +kernel, by decide +kernel⟩, List.mem_of_getElem? (i := 296) (by decide +kernel), List.mem_of_getElem? (i := 414) (by decide +kernel), List.mem_of_getElem? (i := 415) (by decide +kernel)⟩
def lw_privs_1 : List (MethodName × Nat) := [(⟨"ChainPicker", "hasRunning", "(I)Z"⟩, 3), (⟨"ChainPicker", "findBase", "(II)LChainPicker$Job;"⟩, 3), (⟨"ChainPicker", "findJob", "(I)LChainPicker$Job;"⟩, 3), (⟨"ChainPicker", "findHead", "(II)LChainPicker$Job;"⟩, 3), (⟨"ChainPicker", "countRunning", "()I"⟩, 3), (⟨"ChainPicker", "countPruned", "()I"⟩, 3), (⟨"java/lang/Throwable", "fillInStackTrace", "(I)Ljava/lang/Throwable;"⟩, 6), (⟨"ChainPicker", "isOnlyGoodFull", "(LChainPicker$Job;)Z"⟩, 3), (⟨"ChainPickerModel", "lastOne", "(II)I"⟩, 12), (⟨"ChainPickerModel", "isJob", "(I)Z"⟩, 12), (⟨"ChainPickerModel", "head", "(II)I"⟩, 12), (⟨"ChainPickerModel", "version", "(III)I"⟩, 12), (⟨"ChainPickerModel", "teller", "(III)I"⟩, 12), (⟨"ChainPickerModel", "mayGo", "(I)Z"⟩, 12), (⟨"ChainPickerModel", "standing", "(I)I"⟩, 12), (⟨"ChainPickerModel", "drop", "(I)V"⟩, 12)]
theorem lw_r1 : ∀ q ∈ lw_privs_1, lw_okq q := List.forall_mem_cons.mpr ⟨lw_p0, List.forall_mem_cons.mpr ⟨lw_p1, List.forall_mem_cons.mpr ⟨lw_p2, List.forall_mem_cons.mpr ⟨lw_p3, List.forall_mem_cons.mpr ⟨lw_p4, List.forall_mem_cons.mpr ⟨lw_p5, List.forall_mem_cons.mpr ⟨lw_p6, List.forall_mem_cons.mpr ⟨lw_p7, List.forall_mem_cons.mpr ⟨lw_p8, List.forall_mem_cons.mpr ⟨lw_p9, List.forall_mem_cons.mpr ⟨lw_p10, List.forall_mem_cons.mpr ⟨lw_p11, List.forall_mem_cons.mpr ⟨lw_p12, List.forall_mem_cons.mpr ⟨lw_p13, List.forall_mem_cons.mpr ⟨lw_p14, List.forall_mem_cons.mpr ⟨lw_p15, fun _ h => absurd h List.not_mem_nil⟩⟩⟩⟩⟩⟩⟩⟩⟩⟩⟩⟩⟩⟩⟩⟩
theorem lw_p16 : lw_okq (⟨"ChainPickerModel", "isOnly", "(I)Z"⟩, 12) := ⟨⟨by decide +kernel, by decide +kernel⟩, List.mem_of_getElem? (i := 296) (by decide +kernel), List.mem_of_getElem? (i := 422) (by decide +kernel), List.mem_of_getElem? (i := 423) (by decide +kernel)⟩
def lw_privs_2 : List (MethodName × Nat) := [(⟨"ChainPickerModel", "isOnly", "(I)Z"⟩, 12)]
theorem lw_r2 : ∀ q ∈ lw_privs_2, lw_okq q := List.forall_mem_cons.mpr ⟨lw_p16, fun _ h => absurd h List.not_mem_nil⟩
def lw_privs : List (MethodName × Nat) := lw_privs_1 ++ (lw_privs_2)
def lw_tbl : List Cond := k2_sels lw_privs ++ tables_1
theorem lw_privs_ok : ∀ q ∈ lw_privs, lw_okq q := by
  show ∀ q ∈ lw_privs_1 ++ (lw_privs_2), lw_okq q
  exact List.forall_mem_append.mpr ⟨lw_r1, lw_r2⟩
end
section
/-! ===== BEGIN words of one list among another's, by their places ===== -/
theorem goodIn_r {big : List Cond} (ws : List Cond) (ps : List Nat) (hp : ws = ps.filterMap (fun i => big[i]?)) (h : ws.all goodWord = true) : GoodIn big ws := by
  intro w hw
  have h1 := List.all_eq_true.mp h w hw
  rw [hp] at hw
  obtain ⟨i, -, hi⟩ := List.mem_filterMap.mp hw
  have hm : w ∈ big := by first | exact List.mem_of_getElem? hi | exact List.getElem?_mem hi
  exact ⟨hm, good_of_word h1⟩
theorem goodIn_app {big a b : List Cond} (ha : GoodIn big a) (hb : GoodIn big b) : GoodIn big (a ++ b) := fun w h => (List.mem_append.mp h).elim (ha w) (hb w)
theorem goodIn_ca {big a b : List Cond} {c : Cond} (ha : GoodIn big (c :: a)) (hb : GoodIn big b) : GoodIn big (c :: (a ++ b)) := fun w h => (List.mem_cons.mp h).elim (fun e => ha w (List.mem_cons.mpr (Or.inl e))) (fun h => (List.mem_append.mp h).elim (fun h => ha w (List.mem_cons.mpr (Or.inr h))) (hb w))
theorem goodIn_sub {big ws : List Cond} (hm : ∀ w ∈ ws, w ∈ big) (h : ws.all goodWord = true) : GoodIn big ws := fun w hw => ⟨hm w hw, good_of_word (List.all_eq_true.mp h w hw)⟩
/-! ===== END ===== -/

/-! ===== BEGIN exceptions that leave a method, and their catching by the caller (launches without stack traces) ===== -/
section VXA
/-! The laws vx_back, vx_callV, vx_callS, vx_callSW, vx_throw0, vx_throwS follow proofs of the library, with one case more: JvmDerived/Free/Laws.lean (Back.of_free), Shelf42/LK1.lean (callV, callS), Shelf/KitTraced.lean (throwNew0V, throwNewS). -/
/-- where a method has thrown q: the class by its name, the cell, what was written, the world -/
def vx_T (XC : String → State → State → Prop) (st : State) (q : Addr) (t : State) (mc ms : Nat) (free : Addr → Prop) : Prop :=
  ∃ (E : String) (ce : Cell) (L : List Loc), XC E st t ∧ t.heap[q]? = some ce ∧ ce.vm = .none ∧ st.vm.findClass E = some ce.cls ∧ st.WarmedH t.vm ∧ st.sameButNew ({ t with vm := st.vm } : State) L mc ms ∧ ∀ z ∈ L, free z.base
def vx_Q (Qc : Array Value → State → Outcome → State → Prop) (XC : String → State → State → Prop) (mc ms : Nat) (free : Addr → Prop) : Array Value → State → Outcome → State → Prop := fun a st o t =>
  (Qc a st o t ∧ ∃ L, FrameEnd st o t L mc ms ∧ ∀ q ∈ L, free q.base) ∨ ∃ q, o = .threw q ∧ vx_T XC st q t mc ms free
/-- a callee that returns or throws -/
def vx_Met (l : Launch) (y : MethodName) (ws : List Cond) (rm : Room) (Pc : Array Value → State → Prop) (Qc : Array Value → State → Outcome → State → Prop) (XC : String → State → State → Prop) (mc ms : Nat) (free : Addr → Prop) : Prop :=
  MetFree l y (headSpec ws rm) Pc (fun _ _ _ _ _ => True) (vx_Q Qc XC mc ms free)
def vx_Post (XC : String → State → State → Prop) (mc ms : Nat) (free : Addr → Prop) : Pt → Array Value → Addr → Pt → Prop := fun A a q B =>
  ∃ (g : JFrame) (mk : MethodId) (t : State) (L : List Loc) (E : String) (ce : Cell), B.U.heap = t.heap ∧ B.U.vm = t.vm ∧ XC E (A.U.calling g mk a) t ∧ t.heap[q]? = some ce ∧ ce.vm = .none ∧ A.U.vm.findClass E = some ce.cls ∧ B.locs = A.locs ++ L ∧ (∀ z ∈ L, free z.base) ∧ B.cells = A.cells + mc ∧ B.slots = A.slots + ms
def vx_Back (l : Launch) (R : Room) (p : Program) (e : Env) (below : List Frame) (s : State) (sargs : Array Value) (y : MethodName) (len W9 : Nat)
    (Pre : Pt → Array Value → Prop) (Post : Pt → Array Value → Option Value → Pt → Prop) (PostX : Pt → Array Value → Addr → Pt → Prop) : Prop :=
  ∀ (m : MethodId) (meth : Method) (c : Code) (A : Pt) (g : JFrame) (ig : Instr) (mk : MethodId) (a : Array Value),
    Stand p l e R s m sargs below meth c A.U A.locs A.cells A.slots → g.method = m → g.locals.size = c.maxLocals → decode c.code g.pc = .ok (ig, len) →
    2 * g.monitorRoom + (g.stack.map fun v => v.category).sum ≤ W9 → A.U.methodNamed? y = some mk → Pre A a →
    (∃ (v : Option Value) (B : Pt), Stand p l e R s m sargs below meth c B.U B.locs B.cells B.slots ∧ Post A a v B ∧
      Steps p.tables e below (doInvoke e (A.U.setTop g) [] mk a).1 (B.U.setTop { g with pc := g.pc + len, stack := v.toList ++ g.stack })) ∨
    (∃ (q : Addr) (B : Pt), Stand p l e R s m sargs below meth c B.U B.locs B.cells B.slots ∧ PostX A a q B ∧
      Steps p.tables e below (doInvoke e (A.U.setTop g) [] mk a).1 ((B.U.setTop g).pushFrame (.throwing q)))
section Payer
variable {l : Launch} {R : Room} {p : Program} {e : Env} {below : List Frame} {s : State} {sargs : Array Value} {y : MethodName} {len W9 : Nat}
theorem vx_back {ws : List Cond} {rm : Room} {Pc : Array Value → State → Prop} {Qc : Array Value → State → Outcome → State → Prop} {XC : String → State → State → Prop} {mc ms : Nat} {free : Addr → Prop} {bytes : ByteArray} {maxL : Nat} {ret : Option FieldType}
    (hM : vx_Met l y ws rm Pc Qc XC mc ms free) (hblind : FrameBlind Pc) (hrc : rm.cells = mc) (hrs : rm.slots = ms)
    (hframes : rm.frames + 1 ≤ R.frames) (hlocals : W9 + (maxL + 11) + rm.locals ≤ R.locals)
    (hws : ∀ w ∈ ws, ∀ a' U, s.WarmedH U.vm → w.before a' U = true) (hcode : Cond.code y bytes maxL ret ∈ ws) (hinit : ∀ a' U, s.WarmedH U.vm → (Cond.initialized y.cls).before a' U = true) :
    vx_Back l R p e below s sargs y len W9 (PreOf R mc ms Pc) (PostOf Qc mc ms free) (vx_Post XC mc ms free) := by
  intro m meth c A g ig mk a X hg hsize hdg hW hn hp
  have h1 : (headSpec ws rm).pre.before a A.U = true := atoms_intro fun w hw => hws w hw _ _ X.warmed
  have h2 : (Cond.code y bytes maxL ret).before a A.U = true := hws _ hcode _ _ X.warmed
  have h3 : (Cond.initialized y.cls).before a A.U = true := hinit _ _ X.warmed
  have h4 : A.cells + (headSpec ws rm).room.cells ≤ R.cells := by rw [show (headSpec ws rm).room.cells = mc from hrc]; exact hp.1
  have h5 : A.slots + (headSpec ws rm).room.slots ≤ R.slots := by rw [show (headSpec ws rm).room.slots = ms from hrs]; exact hp.2.1
  have hPc : Pc a (A.U.calling g mk a) := hblind _ _ _ _ hp.2.2
  obtain ⟨U, Ls, c0, s0⟩ := A
  dsimp only [Pt.U, Pt.locs, Pt.cells, Pt.slots] at h1 h2 h3 h4 h5 X hn hPc ⊢
  obtain ⟨methY, cY, hmY, hcY, -, hlY, -, -, -, -⟩ := Cond.code_spec hn h2
  obtain ⟨kY, hkY, -⟩ := className_of_methodNamed hn
  have hinitY : kY.init = .initialized := Cond.initialized_spec (findClass_of_methodNamed hn) hkY h3
  have h : At U g.method c below := by rw [hg]; exact X.here
  have hlocals9 : W9 + (maxL + 11) + (headSpec ws rm).room.locals ≤ R.locals := hlocals
  have happ : (headSpec ws rm).appliesLoose y e.platform (U.calling g mk a) = true :=
    Spec.appliesLoose_calling (g := g) h hdg hn hkY hinitY
      (X.room_calling (g := g) (R' := (headSpec ws rm).room) hsize hmY hcY hframes (by rw [hlY]; omega) h4 h5) h1
  obtain ⟨mid, hmid⟩ := h.above
  have hfr : (U.setTop g).frames = (.java g :: mid) ++ below := by rw [State.frames_setTop' g h.top, hmid]; rfl
  obtain ⟨o, s₂, hsteps, -, hend, hq⟩ := Steps.callFree hM p X.admits X.cas X.clock (acts := []) hfr happ hPc trivial
  have hq' : vx_Q Qc XC mc ms free a (U.calling g mk a) o s₂ := hq
  rw [State.frames_setTop' g h.top] at hend
  obtain ⟨g₀, hg0⟩ := Option.isSome_iff_exists.mp h.top
  obtain ⟨r, hr⟩ := State.topJava?_eq_some.mp hg0
  have hr' : (({ U with heap := s₂.heap, slotsUsed := s₂.slotsUsed } : State).setVm s₂.vm).frames = .java g₀ :: r := hr
  rcases hq' with ⟨hqc, L, hfe, hL⟩ | ⟨q, rfl, E, ce, L, hx, hce, hcv, hcl, hW₂, hsm, hL⟩
  · obtain ⟨⟨v, rfl⟩, hW₂, e2, q2, q3, q4, q5, q6⟩ := id hfe
    have e3 : s₂ = ({ (U.calling g mk a).setFrames s₂.frames with heap := s₂.heap, slotsUsed := s₂.slotsUsed } : State).setVm s₂.vm := by
      have : s₂ = ({ s₂ with vm := (U.calling g mk a).vm } : State).setVm s₂.vm := rfl
      rw [e2] at this
      exact this
    obtain ⟨c₂, i₂, len₂, hc₂, hd₂, hf₂⟩ := hend
    have hW' : U.WarmedH s₂.vm := hW₂
    have hcc : c₂ = c := by
      have h1 : s₂.code? g.method = U.code? g.method := by
        rw [State.code?_eq, State.code?_eq, hW'.alike.method?]
      exact Option.some.inj (hc₂.symm.trans (h1.trans h.code))
    subst hcc
    have hlen : len₂ = len := by rw [hdg] at hd₂; cases hd₂; rfl
    subst hlen
    have hs₂ : s₂ = (({ U with heap := s₂.heap, slotsUsed := s₂.slotsUsed } : State).setVm s₂.vm).setTop { g with pc := g.pc + len₂, stack := v.toList ++ g.stack } := by
      refine e3.trans ?_
      rw [hf₂, State.calling_eq h.top, State.setFrames_setFrames, State.setTop_of_frames _ hr', hr]
      rfl
    have hsame : U.sameButNew ({ U with heap := s₂.heap, slotsUsed := s₂.slotsUsed } : State) L mc ms := by
      refine ⟨?_, q2, q3, q4, q5, q6⟩
      obtain ⟨t, ht, -⟩ := State.frames_cons hr
      show ({ U with heap := s₂.heap, slotsUsed := s₂.slotsUsed } : State) = { U.setFrames U.frames with heap := s₂.heap, slotsUsed := s₂.slotsUsed }
      rw [State.setFrames_self ht]
    subst hg
    refine Or.inl ⟨v, ⟨(({ U with heap := s₂.heap, slotsUsed := s₂.slotsUsed } : State).setVm s₂.vm), Ls ++ L, c0 + mc, s0 + ms⟩,
      ⟨X.admits, X.cas, X.clock, X.frames, X.room, X.hears, X.method, X.code, (X.here.setHeapUsed s₂.heap s₂.slotsUsed).setVm hW'.alike, X.tail, State.WarmedH.trans X.warmed hW', X.limits, X.bytes, X.same.trans (hsame.setVm s.vm)⟩,
      ⟨g, mk, s₂, L, rfl, rfl, hqc, rfl, hL, rfl, rfl⟩, ?_⟩
    show Steps p.tables e below _ ((({ U with heap := s₂.heap, slotsUsed := s₂.slotsUsed } : State).setVm s₂.vm).setTop { g with pc := g.pc + len₂, stack := v.toList ++ g.stack })
    rw [← hs₂]
    exact hsteps
  · obtain ⟨e2, q2, q3, q4, q5, q6⟩ := id hsm
    have e3 : s₂ = ({ (U.calling g mk a).setFrames s₂.frames with heap := s₂.heap, slotsUsed := s₂.slotsUsed } : State).setVm s₂.vm := by
      have : s₂ = ({ s₂ with vm := (U.calling g mk a).vm } : State).setVm s₂.vm := rfl
      rw [e2] at this
      exact this
    have hf₂ : s₂.frames = .throwing q :: .java g :: U.frames.tail := hend
    have hW' : U.WarmedH s₂.vm := hW₂
    have hs₂ : s₂ = ((({ U with heap := s₂.heap, slotsUsed := s₂.slotsUsed } : State).setVm s₂.vm).setTop g).pushFrame (.throwing q) := by
      refine e3.trans ?_
      rw [hf₂, State.calling_eq h.top, State.setFrames_setFrames, State.pushFrame, State.frames_setTop _ hr', State.setTop_of_frames _ hr', State.setFrames_setFrames, hr]
      rfl
    have hsame : U.sameButNew ({ U with heap := s₂.heap, slotsUsed := s₂.slotsUsed } : State) L mc ms := by
      refine ⟨?_, q2, q3, q4, q5, q6⟩
      obtain ⟨t, ht, -⟩ := State.frames_cons hr
      show ({ U with heap := s₂.heap, slotsUsed := s₂.slotsUsed } : State) = { U.setFrames U.frames with heap := s₂.heap, slotsUsed := s₂.slotsUsed }
      rw [State.setFrames_self ht]
    subst hg
    refine Or.inr ⟨q, ⟨(({ U with heap := s₂.heap, slotsUsed := s₂.slotsUsed } : State).setVm s₂.vm), Ls ++ L, c0 + mc, s0 + ms⟩,
      ⟨X.admits, X.cas, X.clock, X.frames, X.room, X.hears, X.method, X.code, (X.here.setHeapUsed s₂.heap s₂.slotsUsed).setVm hW'.alike, X.tail, State.WarmedH.trans X.warmed hW', X.limits, X.bytes, X.same.trans (hsame.setVm s.vm)⟩,
      ⟨g, mk, s₂, L, E, ce, rfl, rfl, hx, hce, hcv, hcl, rfl, hL, rfl, rfl⟩, ?_⟩
    show Steps p.tables e below _ (((({ U with heap := s₂.heap, slotsUsed := s₂.slotsUsed } : State).setVm s₂.vm).setTop g).pushFrame (.throwing q))
    rw [← hs₂]
    exact hsteps
end Payer
section Calls
variable {p : Program} {l : Launch} {e : Env} {R : Room} {s : State} {m : MethodId} {args : Array Value} {below : List Frame} {meth : Method} {c : Code} {T : State} {locs : List Loc} {cells slots : Nat}
theorem vx_callV (X : Stand p l e R s m args below meth c T locs cells slots) (hexec : p.tables.exec = Jvm.exec) {own C : String} {index : Nat} {y : MethodName} {bytes : ByteArray} {maxL : Nat} {ret : Option FieldType}
    (hown : s.vm.findClass own = some m.cls) (hlink : (Cond.methodLink own index y).before args s = true) (hinst : (Cond.instanceMethod y).before args s = true) (hsel : (Cond.selects C y y).before args s = true)
    (hcode : (Cond.code y bytes maxL ret).before args s = true) (hy : y.cls ≠ "java/lang/invoke/MethodHandle" ∧ y.cls ≠ "java/lang/invoke/VarHandle")
    {W9 : Nat} {Pre : Pt → Array Value → Prop} {Post : Pt → Array Value → Option Value → Pt → Prop} {PostX : Pt → Array Value → Addr → Pt → Prop} (hK : vx_Back l R p e below s args y 3 W9 Pre Post PostX)
    {b : Addr} {cellB : Cell} (hcell : T.heap[b]? = some cellB) (hobj : cellB.vm.isStatics = false) (hcls : s.vm.findClass C = some cellB.cls)
    {g : JFrame} (hg : g.method = m) (hsize : g.locals.size = c.maxLocals) {argsL rest : List Value} (hlen : ∀ sig, parseMethodDescriptor y.desc = some sig → argsL.length = sig.parameters.length)
    (hstack : g.stack = argsL.reverse ++ .ref b :: rest) (hW : 2 * g.monitorRoom + (rest.map fun v => v.category).sum ≤ W9) (hdg : decode c.code g.pc = .ok (.invokevirtual index, 3))
    (hpre : ∀ vm₁, s.WarmedH vm₁ → Pre ⟨T.setVm vm₁, locs, cells, slots⟩ (Value.ref b :: argsL).toArray) :
    (∃ (v : Option Value) (vm₁ : Vm) (B : Pt), s.WarmedH vm₁ ∧ Stand p l e R s m args below meth c B.U B.locs B.cells B.slots ∧ Post ⟨T.setVm vm₁, locs, cells, slots⟩ (Value.ref b :: argsL).toArray v B ∧
      ∀ target, Steps p.tables e below (B.U.setTop { g with pc := g.pc + 3, stack := v.toList ++ rest }) target → Steps p.tables e below (T.setTop g) target) ∨
    (∃ (q : Addr) (vm₁ : Vm) (B : Pt), s.WarmedH vm₁ ∧ Stand p l e R s m args below meth c B.U B.locs B.cells B.slots ∧ PostX ⟨T.setVm vm₁, locs, cells, slots⟩ (Value.ref b :: argsL).toArray q B ∧
      Steps p.tables e below (T.setTop g) ((B.U.setTop { g with stack := rest }).pushFrame (.throwing q))) := by
  obtain ⟨mk, methM, hnamed, hmethM, hstM, habM⟩ := Cond.instanceMethod_spec hinst
  obtain ⟨methM', cM, hmethM', -, -, -, -, -, -, hsigM⟩ := Cond.code_spec hnamed hcode
  cases hmethM.symm.trans hmethM'
  obtain ⟨c2, r2, m2, q1, q2, q3, q4, kP, hkP, hkPi⟩ := Cond.selects_spec hsel
  cases hcls.symm.trans q1
  cases (State.methodFound?_of_named hnamed hy).symm.trans q2
  cases hnamed.symm.trans q3
  have hselP : selectMethod e.platform s.vm cellB.cls mk = .method mk := by rw [Launch.admits_selectMethod X.admits]; exact q4
  obtain ⟨vm₁, X₁, hstep₁⟩ := X.invokevirtual hexec hown hlink hnamed hmethM hstM hkP hkPi hy (a := b) (cell := cellB) hcell
    (fun z h => by rw [h] at hobj; cases hobj) hselP hmethM habM hkP hkPi (g := g) hg (argsL := argsL) (rest := rest) (hlen _ hsigM) hstack hdg
  rcases hK m meth c ⟨T.setVm vm₁, locs, cells, slots⟩ { g with stack := rest } (.invokevirtual index) mk (Value.ref b :: argsL).toArray X₁ hg hsize hdg hW (X₁.named hnamed) (hpre vm₁ X₁.warmed) with ⟨v, B, X', hpost, hsteps⟩ | ⟨q, B, X', hpost, hsteps⟩
  · exact Or.inl ⟨v, vm₁, B, X₁.warmed, X', hpost, fun target h => hstep₁ _ fun acts => by rw [doInvoke_state]; exact hsteps.trans h⟩
  · exact Or.inr ⟨q, vm₁, B, X₁.warmed, X', hpost, hstep₁ _ fun acts => by rw [doInvoke_state]; exact hsteps⟩
theorem vx_callS (X : Stand p l e R s m args below meth c T locs cells slots) (hexec : p.tables.exec = Jvm.exec) {own : String} {index : Nat} {y : MethodName} {bytes : ByteArray} {maxL : Nat} {ret : Option FieldType}
    (hown : s.vm.findClass own = some m.cls) (hlink : (Cond.methodLink own index y).before args s = true) (hstat : (Cond.static y).before args s = true) (hinit : (Cond.initialized y.cls).before args s = true)
    (hcode : (Cond.code y bytes maxL ret).before args s = true) (hy : y.cls ≠ "java/lang/invoke/MethodHandle" ∧ y.cls ≠ "java/lang/invoke/VarHandle")
    {W9 : Nat} {Pre : Pt → Array Value → Prop} {Post : Pt → Array Value → Option Value → Pt → Prop} {PostX : Pt → Array Value → Addr → Pt → Prop} (hK : vx_Back l R p e below s args y 3 W9 Pre Post PostX)
    {g : JFrame} (hg : g.method = m) (hsize : g.locals.size = c.maxLocals) {argsL rest : List Value} (hlen : ∀ sig, parseMethodDescriptor y.desc = some sig → argsL.length = sig.parameters.length)
    (hstack : g.stack = argsL.reverse ++ rest) (hW : 2 * g.monitorRoom + (rest.map fun v => v.category).sum ≤ W9) (hdg : decode c.code g.pc = .ok (.invokestatic index, 3))
    (hpre : ∀ vm₁, s.WarmedH vm₁ → Pre ⟨T.setVm vm₁, locs, cells, slots⟩ argsL.toArray) :
    (∃ (v : Option Value) (vm₁ : Vm) (B : Pt), s.WarmedH vm₁ ∧ Stand p l e R s m args below meth c B.U B.locs B.cells B.slots ∧ Post ⟨T.setVm vm₁, locs, cells, slots⟩ argsL.toArray v B ∧
      ∀ target, Steps p.tables e below (B.U.setTop { g with pc := g.pc + 3, stack := v.toList ++ rest }) target → Steps p.tables e below (T.setTop g) target) ∨
    (∃ (q : Addr) (vm₁ : Vm) (B : Pt), s.WarmedH vm₁ ∧ Stand p l e R s m args below meth c B.U B.locs B.cells B.slots ∧ PostX ⟨T.setVm vm₁, locs, cells, slots⟩ argsL.toArray q B ∧
      Steps p.tables e below (T.setTop g) ((B.U.setTop { g with stack := rest }).pushFrame (.throwing q))) := by
  obtain ⟨mk, hnamed⟩ := Cond.code_named hcode
  obtain ⟨methM, cM, hmethM, -, -, -, -, -, -, hsigM⟩ := Cond.code_spec hnamed hcode
  have hstatic : methM.isStatic = true := Cond.static_spec hnamed hmethM hstat
  obtain ⟨kP, hkP, -⟩ := className_of_methodNamed hnamed
  have hinitP : kP.init = .initialized := Cond.initialized_spec (findClass_of_methodNamed hnamed) hkP hinit
  obtain ⟨vm₁, X₁, hstep₁⟩ := X.invokestatic hexec hown hlink hnamed hmethM hstatic hkP hinitP hy (g := g) hg (argsL := argsL) (rest := rest) (hlen _ hsigM) hstack hdg
  rcases hK m meth c ⟨T.setVm vm₁, locs, cells, slots⟩ { g with stack := rest } (.invokestatic index) mk argsL.toArray X₁ hg hsize hdg hW (X₁.named hnamed) (hpre vm₁ X₁.warmed) with ⟨v, B, X', hpost, hsteps⟩ | ⟨q, B, X', hpost, hsteps⟩
  · exact Or.inl ⟨v, vm₁, B, X₁.warmed, X', hpost, fun target h => hstep₁ _ fun acts => by rw [doInvoke_state]; exact hsteps.trans h⟩
  · exact Or.inr ⟨q, vm₁, B, X₁.warmed, X', hpost, hstep₁ _ fun acts => by rw [doInvoke_state]; exact hsteps⟩
end Calls
theorem vx_cls {s : State} {T : State} {vm₁ : Vm} {E : String} {k : ClassId} (hW : s.WarmedH vm₁) (h : (T.setVm vm₁).vm.findClass E = some k) : s.vm.findClass E = some k := by
  have h1 : vm₁.findClass E = some k := h
  rw [hW.alike.findClass] at h1
  exact h1
/-- the method's frame g, with q thrown over it -/
def vx_W (p : Program) (l : Launch) (e : Env) (R : Room) (s : State) (m : MethodId) (args : Array Value) (below : List Frame) (meth : Method) (c : Code) (H : Heap) (locs : List Loc) (cells slots : Nat) (Q : State → Prop) (g : JFrame) (q : Addr) : Prop :=
  ∀ T : State, T.heap = H → Stand p l e R s m args below meth c T locs cells slots → ∃ t, Steps p.tables e below ((T.setTop g).pushFrame (.throwing q)) t ∧ Q t
def vx_Run (p : Program) (l : Launch) (e : Env) (R : Room) (s : State) (m : MethodId) (args : Array Value) (below : List Frame) (meth : Method) (c : Code) (H : Heap) (locs : List Loc) (cells slots mc ms : Nat) (g : JFrame) (rest : List Value) (Qa : State → Outcome → State → Prop) (XC : String → State → State → Prop) (free : Addr → Prop) : Prop :=
  ∀ T : State, T.heap = H → Stand p l e R s m args below meth c T locs cells slots →
    (∃ (v : Option Value) (st₀ t T' : State) (L : List Loc), st₀.heap = H ∧ Stand p l e R s m args below meth c T' (locs ++ L) (cells + mc) (slots + ms) ∧ (∀ q ∈ L, free q.base) ∧ T'.heap = t.heap ∧ T'.vm = t.vm ∧ Qa st₀ (.returned v) t ∧
      Goes p e below T g T' { g with pc := g.pc + 3, stack := v.toList ++ rest }) ∨
    (∃ (q : Addr) (st₀ t T' : State) (L : List Loc) (E : String) (ce : Cell), st₀.heap = H ∧ Stand p l e R s m args below meth c T' (locs ++ L) (cells + mc) (slots + ms) ∧ (∀ z ∈ L, free z.base) ∧ T'.heap = t.heap ∧ T'.vm = t.vm ∧ XC E st₀ t ∧ t.heap[q]? = some ce ∧ ce.vm = .none ∧ s.vm.findClass E = some ce.cls ∧
      Steps p.tables e below (T.setTop g) ((T'.setTop { g with stack := rest }).pushFrame (.throwing q)))
def vx_X {S : Type} (px : S → Prop) (B : String → S → State → Prop) (A : Nat → Prop) : String → State → State → Prop := fun E st t => ∃ u : S, px u ∧ B E u t ∧ va_F A st t
section Runs
variable {p : Program} {l : Launch} {e : Env} {R : Room} {s : State} {m : MethodId} {args : Array Value} {below : List Frame} {meth : Method} {c : Code} {H : Heap} {locs : List Loc} {cells slots : Nat}
variable {y : MethodName} {bytes cc : ByteArray} {maxL nL mc ms n index : Nat} {ret : Option FieldType} {ws : List Cond} {rm : Room} {Pc : Array Value → State → Prop} {Qc : Array Value → State → Outcome → State → Prop} {XC : String → State → State → Prop} {free : Addr → Prop} {Ts : List Cond} {own C : String} {b : Addr} {As rest : List Value} {g : JFrame}
theorem vx_callBack (cb : CallB R s args own index y bytes maxL ret ws rm mc ms n) (hM : vx_Met l y ws rm Pc Qc XC mc ms free) (hbl : FrameBlind Pc) : vx_Back l R p e below s args y 3 8 (PreOf R mc ms Pc) (PostOf Qc mc ms free) (vx_Post XC mc ms free) := by
  obtain ⟨hrc, hrs, hfr, hlo, hws, hcw, -, hini, -⟩ := cb
  exact vx_back (bytes := bytes) (maxL := maxL) (ret := ret) hM hbl hrc hrs hfr hlo hws hcw (fun a' U hW => word_at hW (Or.inl (by first | rfl | simp [Cond.onTables, Cond.keeps, Cond.steady])) hini)
theorem vx_runV (S : CallFix p m c cc nL s args Ts own) (hM : vx_Met l y ws rm Pc Qc XC mc ms free) (cw : CallW R s args own C index y bytes maxL ret ws rm mc ms n) (hp : PreV s H C b Pc As)
    (hg : g.method = m) (hn : As.length = n) (hsize : g.locals.size = nL) (hstack : g.stack = As.reverse ++ .ref b :: rest) (hW : 2 * g.monitorRoom + (rest.map fun v => v.category).sum ≤ 8) (hdg : decode cc g.pc = .ok (.invokevirtual index, 3)) (hf : cells + mc ≤ R.cells ∧ slots + ms ≤ R.slots) :
    vx_Run p l e R s m args below meth c H locs cells slots mc ms g rest (Qc (Value.ref b :: As).toArray) XC free := by
  have hK : vx_Back l R p e below s args y 3 8 (PreOf R mc ms Pc) (PostOf Qc mc ms free) (vx_Post XC mc ms free) := vx_callBack cw.1 hM hp.1
  obtain ⟨⟨-, -, -, -, -, -, hcode, -, hy, hlen, hl⟩, hin, hse⟩ := cw
  obtain ⟨hx, hb, hml, ho, -⟩ := S
  obtain ⟨-, ⟨cellB, hcB, hoB, hclB⟩, hPc⟩ := hp
  intro T hT X
  rcases vx_callV X hx (C := C) (bytes := bytes) (maxL := maxL) (ret := ret) ho hl hin hse hcode hy hK (by rw [hT]; exact hcB) hoB hclB hg (hsize.trans hml.symm) (argsL := As) (rest := rest) (fun sig h => hn.trans (hlen sig h)) hstack hW (by rw [hb]; exact hdg)
    (fun vm₁ hW₁ => ⟨hf.1, hf.2, hPc (T.setVm vm₁) hT hW₁⟩) with ⟨v, vm₁, ⟨U', l2, c2, s2⟩, hW₁, X', ⟨g', mk, t, L, e1, e2, hq, h1, hL, h2, h3⟩, st⟩ | ⟨q, vm₁, ⟨U', l2, c2, s2⟩, hW₁, X', ⟨g', mk, t, L, E, ce, e1, e2, hq, hce, hcv, hcl, h1, hL, h2, h3⟩, st⟩
  · dsimp only [Pt.U, Pt.locs, Pt.cells, Pt.slots] at X' e1 e2 h1 h2 h3 st
    subst h1; subst h2; subst h3
    exact Or.inl ⟨v, (T.setVm vm₁).calling g' mk (Value.ref b :: As).toArray, t, U', L, hT, X', hL, e1, e2, hq, st⟩
  · dsimp only [Pt.U, Pt.locs, Pt.cells, Pt.slots] at X' e1 e2 h1 h2 h3 st hcl
    subst h1; subst h2; subst h3
    exact Or.inr ⟨q, (T.setVm vm₁).calling g' mk (Value.ref b :: As).toArray, t, U', L, E, ce, hT, X', hL, e1, e2, hq, hce, hcv, vx_cls hW₁ hcl, st⟩
theorem vx_runS (S : CallFix p m c cc nL s args Ts own) (hM : vx_Met l y ws rm Pc Qc XC mc ms free) (cw : CallB R s args own index y bytes maxL ret ws rm mc ms n ∧ (Cond.static y).before args s = true) (hp : PreS s H Pc As)
    (hg : g.method = m) (hn : As.length = n) (hsize : g.locals.size = nL) (hstack : g.stack = As.reverse ++ rest) (hW : 2 * g.monitorRoom + (rest.map fun v => v.category).sum ≤ 8) (hdg : decode cc g.pc = .ok (.invokestatic index, 3)) (hf : cells + mc ≤ R.cells ∧ slots + ms ≤ R.slots) :
    vx_Run p l e R s m args below meth c H locs cells slots mc ms g rest (Qc As.toArray) XC free := by
  have hK : vx_Back l R p e below s args y 3 8 (PreOf R mc ms Pc) (PostOf Qc mc ms free) (vx_Post XC mc ms free) := vx_callBack cw.1 hM hp.1
  obtain ⟨⟨-, -, -, -, -, -, hcode, hini, hy, hlen, hl⟩, hstt⟩ := cw
  obtain ⟨hx, hb, hml, ho, -⟩ := S
  intro T hT X
  rcases vx_callS X hx (bytes := bytes) (maxL := maxL) (ret := ret) ho hl hstt hini hcode hy hK hg (hsize.trans hml.symm) (argsL := As) (rest := rest) (fun sig h => hn.trans (hlen sig h)) hstack hW (by rw [hb]; exact hdg)
    (fun vm₁ hW₁ => ⟨hf.1, hf.2, hp.2 (T.setVm vm₁) hT hW₁⟩) with ⟨v, vm₁, ⟨U', l2, c2, s2⟩, hW₁, X', ⟨g', mk, t, L, e1, e2, hq, h1, hL, h2, h3⟩, st⟩ | ⟨q, vm₁, ⟨U', l2, c2, s2⟩, hW₁, X', ⟨g', mk, t, L, E, ce, e1, e2, hq, hce, hcv, hcl, h1, hL, h2, h3⟩, st⟩
  · dsimp only [Pt.U, Pt.locs, Pt.cells, Pt.slots] at X' e1 e2 h1 h2 h3 st
    subst h1; subst h2; subst h3
    exact Or.inl ⟨v, (T.setVm vm₁).calling g' mk As.toArray, t, U', L, hT, X', hL, e1, e2, hq, st⟩
  · dsimp only [Pt.U, Pt.locs, Pt.cells, Pt.slots] at X' e1 e2 h1 h2 h3 st hcl
    subst h1; subst h2; subst h3
    exact Or.inr ⟨q, (T.setVm vm₁).calling g' mk As.toArray, t, U', L, E, ce, hT, X', hL, e1, e2, hq, hce, hcv, vx_cls hW₁ hcl, st⟩
end Runs
section Rows
variable {p : Program} {l : Launch} {e : Env} {R : Room} {s : State} {m : MethodId} {args : Array Value} {below : List Frame} {meth : Method} {c : Code} {H : Heap} {locs : List Loc} {cells slots : Nat} {Q : State → Prop}
variable {mc ms : Nat} {free : Addr → Prop} {A0 A1 : Nat → Prop} {H0 : Heap} {a : Array Value} {pc : Nat} {ls : Array Slot} {st0 rest : List Value}
theorem vx_keep {st₀ t T' : State} {L : List Loc} (h0 : st₀.heap = H) (e1 : T'.heap = t.heap) (hS : va_S A0 H0 H locs) (hA : ∀ q, q < H.size → A1 q → A0 q) (hf : ∀ q, free q → A0 q) (hL : ∀ q ∈ L, free q.base) (hF : va_F A1 st₀ t) :
    H.size ≤ T'.heap.size ∧ (∀ q : Nat, q < H.size → ¬ A1 q → T'.heap[q]? = H[q]?) ∧ va_S A0 H0 T'.heap (locs ++ L) := by
  obtain ⟨hz, hk⟩ := hF
  rw [h0] at hz hk
  exact ⟨by rw [e1]; exact hz, fun q h1 h2 => by rw [e1]; exact hk q h1 h2,
    ⟨Nat.le_trans hS.1 (by rw [e1]; exact hz), fun q h1 h2 => by rw [e1, hk q (Nat.lt_of_lt_of_le h1 hS.1) (fun z => h2 (hA q (Nat.lt_of_lt_of_le h1 hS.1) z))]; exact hS.2.1 q h1 h2, fun q hq => by
      rcases List.mem_append.mp hq with h | h
      · exact hS.2.2 q h
      · exact hf _ (hL q h)⟩⟩
theorem vx_calli {S SX : Type} {post : Int32 → S → Prop} {px : SX → Prop} {B : S → State → Prop} {BX : String → SX → State → Prop} {AX : Nat → Prop} (hr : vx_Run p l e R s m args below meth c H locs cells slots mc ms (F0 m pc ls st0) rest (va_Qi post B A1 a) (vx_X px BX AX) free) (hS : va_S A0 H0 H locs) (hA : ∀ q, q < H.size → A1 q → A0 q) (hf : ∀ q, free q → A0 q) (hAX : ∀ q, q < H.size → AX q → A0 q)
    (kx : ∀ (E : String) (ce : Cell) (q9 : Addr) (u : SX) (t : State) (H1 : Heap) (locs1 : List Loc), t.heap = H1 → s.vm.Alike t.vm → px u → BX E u t → H.size ≤ H1.size → (∀ q : Nat, q < H.size → ¬ AX q → H1[q]? = H[q]?) → va_S A0 H0 H1 locs1 → H1[q9]? = some ce → ce.vm = .none → s.vm.findClass E = some ce.cls → vx_W p l e R s m args below meth c H1 locs1 (cells + mc) (slots + ms) Q (F0 m pc ls rest) q9)
    (kk : ∀ (r : Int32) (u : S) (t : State) (H1 : Heap) (locs1 : List Loc), t.heap = H1 → s.vm.Alike t.vm → post r u → B u t → H.size ≤ H1.size → (∀ q : Nat, q < H.size → ¬ A1 q → H1[q]? = H[q]?) → va_S A0 H0 H1 locs1 → W p l e R s m args below meth c H1 locs1 (cells + mc) (slots + ms) Q (F0 m (pc + 3) ls (.int r :: rest))) : W p l e R s m args below meth c H locs cells slots Q (F0 m pc ls st0) := by
  intro T hT X
  rcases hr T hT X with ⟨v, st₀, t, T', L, h0, X', hL, e1, e2, ⟨⟨r, u, hv, hp, hb⟩, hF⟩, st⟩ | ⟨q, st₀, t, T', L, E, ce, h0, X', hL, e1, e2, ⟨u, hp, hb, hF⟩, hce, hcv, hcl, st⟩
  · cases hv
    obtain ⟨k1, k2, k3⟩ := vx_keep h0 e1 hS hA hf hL hF
    obtain ⟨t2, a1, b1⟩ := kk r u t T'.heap (locs ++ L) e1.symm (by rw [← e2]; exact X'.warmed.alike) hp hb k1 k2 k3 T' rfl X'
    exact ⟨t2, st t2 a1, b1⟩
  · obtain ⟨k1, k2, k3⟩ := vx_keep h0 e1 hS hAX hf hL hF
    obtain ⟨t2, a1, b1⟩ := kx E ce q u t T'.heap (locs ++ L) e1.symm (by rw [← e2]; exact X'.warmed.alike) hp hb k1 k2 k3 (by rw [e1]; exact hce) hcv hcl T' rfl X'
    exact ⟨t2, st.trans a1, b1⟩
theorem vx_calll {S SX : Type} {post : Int64 → S → Prop} {px : SX → Prop} {B : S → State → Prop} {BX : String → SX → State → Prop} {AX : Nat → Prop} (hr : vx_Run p l e R s m args below meth c H locs cells slots mc ms (F0 m pc ls st0) rest (va_Ql post B A1 a) (vx_X px BX AX) free) (hS : va_S A0 H0 H locs) (hA : ∀ q, q < H.size → A1 q → A0 q) (hf : ∀ q, free q → A0 q) (hAX : ∀ q, q < H.size → AX q → A0 q)
    (kx : ∀ (E : String) (ce : Cell) (q9 : Addr) (u : SX) (t : State) (H1 : Heap) (locs1 : List Loc), t.heap = H1 → s.vm.Alike t.vm → px u → BX E u t → H.size ≤ H1.size → (∀ q : Nat, q < H.size → ¬ AX q → H1[q]? = H[q]?) → va_S A0 H0 H1 locs1 → H1[q9]? = some ce → ce.vm = .none → s.vm.findClass E = some ce.cls → vx_W p l e R s m args below meth c H1 locs1 (cells + mc) (slots + ms) Q (F0 m pc ls rest) q9)
    (kk : ∀ (r : Int64) (u : S) (t : State) (H1 : Heap) (locs1 : List Loc), t.heap = H1 → s.vm.Alike t.vm → post r u → B u t → H.size ≤ H1.size → (∀ q : Nat, q < H.size → ¬ A1 q → H1[q]? = H[q]?) → va_S A0 H0 H1 locs1 → W p l e R s m args below meth c H1 locs1 (cells + mc) (slots + ms) Q (F0 m (pc + 3) ls (.long r :: rest))) : W p l e R s m args below meth c H locs cells slots Q (F0 m pc ls st0) := by
  intro T hT X
  rcases hr T hT X with ⟨v, st₀, t, T', L, h0, X', hL, e1, e2, ⟨⟨r, u, hv, hp, hb⟩, hF⟩, st⟩ | ⟨q, st₀, t, T', L, E, ce, h0, X', hL, e1, e2, ⟨u, hp, hb, hF⟩, hce, hcv, hcl, st⟩
  · cases hv
    obtain ⟨k1, k2, k3⟩ := vx_keep h0 e1 hS hA hf hL hF
    obtain ⟨t2, a1, b1⟩ := kk r u t T'.heap (locs ++ L) e1.symm (by rw [← e2]; exact X'.warmed.alike) hp hb k1 k2 k3 T' rfl X'
    exact ⟨t2, st t2 a1, b1⟩
  · obtain ⟨k1, k2, k3⟩ := vx_keep h0 e1 hS hAX hf hL hF
    obtain ⟨t2, a1, b1⟩ := kx E ce q u t T'.heap (locs ++ L) e1.symm (by rw [← e2]; exact X'.warmed.alike) hp hb k1 k2 k3 (by rw [e1]; exact hce) hcv hcl T' rfl X'
    exact ⟨t2, st.trans a1, b1⟩
theorem vx_callf {S SX : Type} {post : UInt32 → S → Prop} {px : SX → Prop} {B : S → State → Prop} {BX : String → SX → State → Prop} {AX : Nat → Prop} (hr : vx_Run p l e R s m args below meth c H locs cells slots mc ms (F0 m pc ls st0) rest (va_Qf post B A1 a) (vx_X px BX AX) free) (hS : va_S A0 H0 H locs) (hA : ∀ q, q < H.size → A1 q → A0 q) (hf : ∀ q, free q → A0 q) (hAX : ∀ q, q < H.size → AX q → A0 q)
    (kx : ∀ (E : String) (ce : Cell) (q9 : Addr) (u : SX) (t : State) (H1 : Heap) (locs1 : List Loc), t.heap = H1 → s.vm.Alike t.vm → px u → BX E u t → H.size ≤ H1.size → (∀ q : Nat, q < H.size → ¬ AX q → H1[q]? = H[q]?) → va_S A0 H0 H1 locs1 → H1[q9]? = some ce → ce.vm = .none → s.vm.findClass E = some ce.cls → vx_W p l e R s m args below meth c H1 locs1 (cells + mc) (slots + ms) Q (F0 m pc ls rest) q9)
    (kk : ∀ (r : UInt32) (u : S) (t : State) (H1 : Heap) (locs1 : List Loc), t.heap = H1 → s.vm.Alike t.vm → post r u → B u t → H.size ≤ H1.size → (∀ q : Nat, q < H.size → ¬ A1 q → H1[q]? = H[q]?) → va_S A0 H0 H1 locs1 → W p l e R s m args below meth c H1 locs1 (cells + mc) (slots + ms) Q (F0 m (pc + 3) ls (.float r :: rest))) : W p l e R s m args below meth c H locs cells slots Q (F0 m pc ls st0) := by
  intro T hT X
  rcases hr T hT X with ⟨v, st₀, t, T', L, h0, X', hL, e1, e2, ⟨⟨r, u, hv, hp, hb⟩, hF⟩, st⟩ | ⟨q, st₀, t, T', L, E, ce, h0, X', hL, e1, e2, ⟨u, hp, hb, hF⟩, hce, hcv, hcl, st⟩
  · cases hv
    obtain ⟨k1, k2, k3⟩ := vx_keep h0 e1 hS hA hf hL hF
    obtain ⟨t2, a1, b1⟩ := kk r u t T'.heap (locs ++ L) e1.symm (by rw [← e2]; exact X'.warmed.alike) hp hb k1 k2 k3 T' rfl X'
    exact ⟨t2, st t2 a1, b1⟩
  · obtain ⟨k1, k2, k3⟩ := vx_keep h0 e1 hS hAX hf hL hF
    obtain ⟨t2, a1, b1⟩ := kx E ce q u t T'.heap (locs ++ L) e1.symm (by rw [← e2]; exact X'.warmed.alike) hp hb k1 k2 k3 (by rw [e1]; exact hce) hcv hcl T' rfl X'
    exact ⟨t2, st.trans a1, b1⟩
theorem vx_calld {S SX : Type} {post : UInt64 → S → Prop} {px : SX → Prop} {B : S → State → Prop} {BX : String → SX → State → Prop} {AX : Nat → Prop} (hr : vx_Run p l e R s m args below meth c H locs cells slots mc ms (F0 m pc ls st0) rest (va_Qd post B A1 a) (vx_X px BX AX) free) (hS : va_S A0 H0 H locs) (hA : ∀ q, q < H.size → A1 q → A0 q) (hf : ∀ q, free q → A0 q) (hAX : ∀ q, q < H.size → AX q → A0 q)
    (kx : ∀ (E : String) (ce : Cell) (q9 : Addr) (u : SX) (t : State) (H1 : Heap) (locs1 : List Loc), t.heap = H1 → s.vm.Alike t.vm → px u → BX E u t → H.size ≤ H1.size → (∀ q : Nat, q < H.size → ¬ AX q → H1[q]? = H[q]?) → va_S A0 H0 H1 locs1 → H1[q9]? = some ce → ce.vm = .none → s.vm.findClass E = some ce.cls → vx_W p l e R s m args below meth c H1 locs1 (cells + mc) (slots + ms) Q (F0 m pc ls rest) q9)
    (kk : ∀ (r : UInt64) (u : S) (t : State) (H1 : Heap) (locs1 : List Loc), t.heap = H1 → s.vm.Alike t.vm → post r u → B u t → H.size ≤ H1.size → (∀ q : Nat, q < H.size → ¬ A1 q → H1[q]? = H[q]?) → va_S A0 H0 H1 locs1 → W p l e R s m args below meth c H1 locs1 (cells + mc) (slots + ms) Q (F0 m (pc + 3) ls (.double r :: rest))) : W p l e R s m args below meth c H locs cells slots Q (F0 m pc ls st0) := by
  intro T hT X
  rcases hr T hT X with ⟨v, st₀, t, T', L, h0, X', hL, e1, e2, ⟨⟨r, u, hv, hp, hb⟩, hF⟩, st⟩ | ⟨q, st₀, t, T', L, E, ce, h0, X', hL, e1, e2, ⟨u, hp, hb, hF⟩, hce, hcv, hcl, st⟩
  · cases hv
    obtain ⟨k1, k2, k3⟩ := vx_keep h0 e1 hS hA hf hL hF
    obtain ⟨t2, a1, b1⟩ := kk r u t T'.heap (locs ++ L) e1.symm (by rw [← e2]; exact X'.warmed.alike) hp hb k1 k2 k3 T' rfl X'
    exact ⟨t2, st t2 a1, b1⟩
  · obtain ⟨k1, k2, k3⟩ := vx_keep h0 e1 hS hAX hf hL hF
    obtain ⟨t2, a1, b1⟩ := kx E ce q u t T'.heap (locs ++ L) e1.symm (by rw [← e2]; exact X'.warmed.alike) hp hb k1 k2 k3 (by rw [e1]; exact hce) hcv hcl T' rfl X'
    exact ⟨t2, st.trans a1, b1⟩
theorem vx_callv {S SX : Type} {post : S → Prop} {px : SX → Prop} {B : S → State → Prop} {BX : String → SX → State → Prop} {AX : Nat → Prop} (hr : vx_Run p l e R s m args below meth c H locs cells slots mc ms (F0 m pc ls st0) rest (va_Qv post B A1 a) (vx_X px BX AX) free) (hS : va_S A0 H0 H locs) (hA : ∀ q, q < H.size → A1 q → A0 q) (hf : ∀ q, free q → A0 q) (hAX : ∀ q, q < H.size → AX q → A0 q)
    (kx : ∀ (E : String) (ce : Cell) (q9 : Addr) (u : SX) (t : State) (H1 : Heap) (locs1 : List Loc), t.heap = H1 → s.vm.Alike t.vm → px u → BX E u t → H.size ≤ H1.size → (∀ q : Nat, q < H.size → ¬ AX q → H1[q]? = H[q]?) → va_S A0 H0 H1 locs1 → H1[q9]? = some ce → ce.vm = .none → s.vm.findClass E = some ce.cls → vx_W p l e R s m args below meth c H1 locs1 (cells + mc) (slots + ms) Q (F0 m pc ls rest) q9)
    (kk : ∀ (u : S) (t : State) (H1 : Heap) (locs1 : List Loc), t.heap = H1 → s.vm.Alike t.vm → post u → B u t → H.size ≤ H1.size → (∀ q : Nat, q < H.size → ¬ A1 q → H1[q]? = H[q]?) → va_S A0 H0 H1 locs1 → W p l e R s m args below meth c H1 locs1 (cells + mc) (slots + ms) Q (F0 m (pc + 3) ls (rest))) : W p l e R s m args below meth c H locs cells slots Q (F0 m pc ls st0) := by
  intro T hT X
  rcases hr T hT X with ⟨v, st₀, t, T', L, h0, X', hL, e1, e2, ⟨⟨u, hv, hp, hb⟩, hF⟩, st⟩ | ⟨q, st₀, t, T', L, E, ce, h0, X', hL, e1, e2, ⟨u, hp, hb, hF⟩, hce, hcv, hcl, st⟩
  · cases hv
    obtain ⟨k1, k2, k3⟩ := vx_keep h0 e1 hS hA hf hL hF
    obtain ⟨t2, a1, b1⟩ := kk u t T'.heap (locs ++ L) e1.symm (by rw [← e2]; exact X'.warmed.alike) hp hb k1 k2 k3 T' rfl X'
    exact ⟨t2, st t2 a1, b1⟩
  · obtain ⟨k1, k2, k3⟩ := vx_keep h0 e1 hS hAX hf hL hF
    obtain ⟨t2, a1, b1⟩ := kx E ce q u t T'.heap (locs ++ L) e1.symm (by rw [← e2]; exact X'.warmed.alike) hp hb k1 k2 k3 (by rw [e1]; exact hce) hcv hcl T' rfl X'
    exact ⟨t2, st.trans a1, b1⟩
/-- caught by the row x of this method's table; the rows ahead don't take it -/
theorem vx_catch {own name : String} {E : String} {ce : Cell} {q : Addr} (hown : s.vm.findClass own = some m.cls) (pre : List ExceptionTableEntry) (x : ExceptionTableEntry) (suf : List ExceptionTableEntry) (hsplit : c.exceptionTable.toList = pre ++ x :: suf)
    (hpass : ∀ z ∈ pre, covers z pc = false ∨ (z.catchType ≠ 0 ∧ ∃ nm : String, (Cond.classLink own z.catchType nm).before args s = true ∧ va_Nc E nm s)) (hx : covers x pc = true) (h0 : x.catchType ≠ 0)
    (hlink : (Cond.classLink own x.catchType name).before args s = true) (hcast : (Cond.castable E name).before args s = true) (hcell : H[q]? = some ce) (hv : ce.vm = .none) (hcl : s.vm.findClass E = some ce.cls)
    (kk : W p l e R s m args below meth c H locs cells slots Q (F0 m x.handlerPc ls [.ref q])) : vx_W p l e R s m args below meth c H locs cells slots Q (F0 m pc ls rest) q := by
  intro T hT X
  have hpl : e.platform.magicAccessors = ({} : Platform).magicAccessors := by rw [X.admits.platform]
  obtain ⟨c3, c4, hc3, hc4, hasg⟩ := Cond.castable_spec hcast
  cases Option.some.inj (hc3.symm.trans hcl)
  obtain ⟨c5, hc5, hcl5⟩ := Cond.classLink_spec hown hlink e.platform hpl
  cases Option.some.inj (hc4.symm.trans hc5)
  obtain ⟨vm', X', st⟩ := X.thenCaughtThrough q (g := F0 m pc ls rest) rfl (Steps.refl _) (by rw [hT]; exact hcell) (by rw [hv]; rfl) (by obtain ⟨k9, h9, -⟩ := Vm.findClass_spec hcl; exact ⟨k9, h9⟩) pre x suf hsplit
    (fun z hz => by
      rcases hpass z hz with h | ⟨hz0, nm, hl1, hn1⟩
      · exact Or.inl h
      · obtain ⟨c6, hc6, hcl6⟩ := Cond.classLink_spec hown hl1 e.platform hpl
        obtain ⟨a8, b8, h1, h2, h3⟩ := hn1
        cases Option.some.inj (h1.symm.trans hcl)
        cases Option.some.inj (h2.symm.trans hc6)
        exact Or.inr ⟨hz0, _, hcl6, h3⟩) hx (Or.inr ⟨h0, c4, hcl5, hasg⟩)
  obtain ⟨t, a1, b1⟩ := kk (T.setVm vm') hT X'
  exact ⟨t, st.trans a1, b1⟩
end Rows
section Ends
variable {p : Program} {l : Launch} {e : Env} {R : Room} {s : State} {m : MethodId} {args : Array Value} {below : List Frame} {meth : Method} {c : Code} {H : Heap} {locs : List Loc} {cells slots : Nat} {Q : State → Prop}
variable {mc ms : Nat} {free : Addr → Prop} {A0 A1 : Nat → Prop} {H0 : Heap} {a : Array Value} {ls : Array Slot} {st0 rest : List Value}
variable {Qc : Array Value → State → Outcome → State → Prop} {XC : String → State → State → Prop}
/-- what a body that may throw owes at its end -/
def vx_MQ (below : List Frame) (Qc : Array Value → State → Outcome → State → Prop) (XC : String → State → State → Prop) (a : Array Value) (s : State) (mc ms : Nat) (free : Addr → Prop) : State → Prop := fun t =>
  ∃ o, t.status = .running ∧ Ended t below o ∧ vx_Q Qc XC mc ms free a s o t
theorem vx_ret {g : JFrame} {mc ms : Nat} (k : W p l e R s m args below meth c H locs cells slots (MQ below Qc args s mc ms free) g) : W p l e R s m args below meth c H locs cells slots (vx_MQ below Qc XC args s mc ms free) g := by
  intro T hT X
  obtain ⟨t, a1, o, b1, b2, b3, b4⟩ := k T hT X
  exact ⟨t, a1, o, b1, b2, Or.inl ⟨b3, b4⟩⟩
/-- not caught here: it goes on to the caller -/
theorem vx_widen {g : JFrame} {q : Addr} {k n : Nat} (h1 : cells ≤ k) (h2 : slots ≤ n) (kk : vx_W p l e R s m args below meth c H locs k n Q g q) : vx_W p l e R s m args below meth c H locs cells slots Q g q := fun T hT X => kk T hT (stand_widen X h1 h2)
theorem vx_out {pc : Nat} {E : String} {ce : Cell} {q : Addr} {mc ms : Nat} (hout : ∀ x ∈ c.exceptionTable.toList, covers x pc = false) (hlocks : meth.locks = false) (hcell : H[q]? = some ce) (hv : ce.vm = .none) (hcl : s.vm.findClass E = some ce.cls)
    (hx : ∀ t : State, t.heap = H → s.vm.Alike t.vm → XC E s t) (hf : ∀ z ∈ locs, free z.base) (hc : cells ≤ mc) (hs : slots ≤ ms) :
    vx_W p l e R s m args below meth c H locs cells slots (vx_MQ below Qc XC args s mc ms free) (F0 m pc ls rest) q := by
  intro T hT X
  obtain ⟨st1, hrun, hend, hW, hsm⟩ := X.leaveThrown q (g := F0 m pc ls rest) rfl rfl rfl hout hlocks
  have hcell9 : (T.setFrames (.throwing q :: below)).heap[q]? = some ce := by
    show T.heap[q]? = some ce
    rw [hT]; exact hcell
  exact ⟨_, st1, .threw q, hrun, hend, Or.inr ⟨q, rfl, E, ce, locs, hx _ hT hW.alike, hcell9, hv, hcl, hW, hsm.mono hc hs, hf⟩⟩
theorem vx_frame {U : State} {k n : Nat} (h : s.sameButNew ({ U with vm := s.vm } : State) locs k n) : s.heap.size ≤ U.heap.size ∧ ∀ q : Nat, q < s.heap.size → (∀ z ∈ locs, z.base ≠ q) → U.heap[q]? = s.heap[q]? := by
  obtain ⟨-, h2, -, -, -, h6⟩ := h
  refine ⟨h2, fun q hq hz => ?_⟩
  obtain ⟨c9, e1, e2, e3, e4⟩ := h6 q _ (Array.getElem?_eq_getElem hq)
  have hs : c9.slots = (s.heap[q]).slots := Array.ext_getElem? fun i => e4 i fun hm => hz _ hm rfl
  have h9 : c9 = s.heap[q] := by
    rw [hs] at e2
    exact e2
  have e5 : U.heap[q]? = some c9 := e1
  rw [e5, h9, Array.getElem?_eq_getElem hq]
/-- the words of a throw but the four that speak of the heap -/
def vx_no (w : Cond) : Bool := decide (w ≠ .isRef (.static Bundle.tN "UNASSIGNED_STACK" Bundle.steD)) && decide (w ≠ .isRef (.static Bundle.tN "SUPPRESSED_SENTINEL" Bundle.listD)) && decide (w ≠ .laysStatic Bundle.tN "UNASSIGNED_STACK" Bundle.steD) && decide (w ≠ .laysStatic Bundle.tN "SUPPRESSED_SENTINEL" Bundle.listD)
def vx_at0 (own : String) (ic : Nat) (X : String) (names : List String) : List Cond := (Bundle.ownAtoms0 own ic X names).filter vx_no
def vx_atS (own : String) (ic : Nat) (X : String) (names : List String) : List Cond := (Bundle.ownAtoms own ic X names).filter vx_no
/-- a word that the tables alone decide, or a good one -/
def vx_ot (w : Cond) : Bool := w.onTables || goodWord w
theorem vx_ot_at {args a' : Array Value} {s U : State} {w : Cond} (hW : s.WarmedH U.vm) (hvm : s.vm = U.vm) (hg : vx_ot w = true) (h : w.before args s = true) : w.before a' U = true := by
  simp only [vx_ot, Bool.or_eq_true] at hg
  rcases hg with hg | hg
  · exact va_tabs hg hvm h
  · exact word_at hW (good_of_word hg) h
/-- a list's words: the good ones out of the method's own list, the others by premises of their own -/
theorem vx_hat {args : Array Value} {s : State} {L B : List Cond} (h1 : ∀ w ∈ L.filter goodWord, w.before args s = true) (h2 : ∀ w ∈ L.filter (fun w => !goodWord w), w ∈ B) (h3 : ∀ w ∈ B, w.before args s = true) : ∀ w ∈ L, w.before args s = true := by
  intro w hw
  by_cases g : goodWord w = true
  · exact h1 w (List.mem_filter.mpr ⟨hw, g⟩)
  · refine h3 w (h2 w (List.mem_filter.mpr ⟨hw, ?_⟩))
    show (!goodWord w) = true
    cases hgw : goodWord w
    · rfl
    · exact absurd hgw g
theorem vx_c {args : Array Value} {s : State} {w : Cond} {B : List Cond} (h : w.before args s = true) (t : ∀ w ∈ B, w.before args s = true) : ∀ w' ∈ w :: B, w'.before args s = true := fun w' h' => (List.mem_cons.mp h').elim (fun e => by rw [e]; exact h) (t w')
theorem vx_n {args : Array Value} {s : State} : ∀ w ∈ ([] : List Cond), w.before args s = true := fun _ h => nomatch h
theorem vx_own {args : Array Value} {s : State} {L : List Cond} (h1 : ∀ w ∈ L.filter vx_no, w.before args s = true)
    (hU : (Cond.isRef (.static Bundle.tN "UNASSIGNED_STACK" Bundle.steD)).before args s = true) (hN : (Cond.isRef (.static Bundle.tN "SUPPRESSED_SENTINEL" Bundle.listD)).before args s = true)
    (lU : (Cond.laysStatic Bundle.tN "UNASSIGNED_STACK" Bundle.steD).before args s = true) (lN : (Cond.laysStatic Bundle.tN "SUPPRESSED_SENTINEL" Bundle.listD).before args s = true) : ∀ w ∈ L, w.before args s = true := by
  intro w hw
  by_cases e1 : w = .isRef (.static Bundle.tN "UNASSIGNED_STACK" Bundle.steD)
  · rw [e1]; exact hU
  · by_cases e2 : w = .isRef (.static Bundle.tN "SUPPRESSED_SENTINEL" Bundle.listD)
    · rw [e2]; exact hN
    · by_cases e3 : w = .laysStatic Bundle.tN "UNASSIGNED_STACK" Bundle.steD
      · rw [e3]; exact lU
      · by_cases e4 : w = .laysStatic Bundle.tN "SUPPRESSED_SENTINEL" Bundle.listD
        · rw [e4]; exact lN
        · exact h1 w (List.mem_filter.mpr ⟨hw, by unfold vx_no; rw [decide_eq_true e1, decide_eq_true e2, decide_eq_true e3, decide_eq_true e4]; rfl⟩)
/-- where a static field lies, its class's statics cell in H -/
def vx_L (C n d : String) (A : Nat → Prop) (U : State) (H : Heap) : Prop := ∃ (c : ClassId) (k : Class) (i : Nat) (f : Field) (a : Nat) (cell : Cell), U.vm.findClass C = some c ∧ U.fieldFound? C n d = some (c, k, i, f) ∧ f.isStatic = true ∧ k.statics = some a ∧ H[a]? = some cell ∧ cell.vm.isStatics = true ∧ cell.cls = c ∧ f.slot < cell.slots.size ∧ k.staticTypes[f.slot]? = some f.type ∧ ¬ A a
theorem vx_L.moved {C n d : String} {A : Nat → Prop} {u U : State} {H : Heap} (hvm : u.vm.Alike U.vm) (h : vx_L C n d A u H) : vx_L C n d A U H := by
  obtain ⟨c, k, i, f, a, cell, h1, h2, h3, h4, h5, h6, h7, h8, h9, h10⟩ := h
  obtain ⟨k', hi', he⟩ := State.fieldFound?_setVm hvm h2
  exact ⟨c, k', i, f, a, cell, by rw [hvm.findClass]; exact h1, hi', h3, by rw [he]; exact h4, h5, h6, h7, h8, by rw [he]; exact h9, h10⟩
theorem vx_L.kept {C n d : String} {A : Nat → Prop} {U : State} {H H1 : Heap} (h : vx_L C n d A U H) (hq : ∀ a : Nat, a < H.size → ¬ A a → H1[a]? = H[a]?) : vx_L C n d A U H1 := by
  obtain ⟨c, k, i, f, a, cell, h1, h2, h3, h4, h5, h6, h7, h8, h9, h10⟩ := h
  exact ⟨c, k, i, f, a, cell, h1, h2, h3, h4, by rw [hq a (Array.getElem?_eq_some_iff.mp h5).1 h10]; exact h5, h6, h7, h8, h9, h10⟩
theorem vx_L.narrow {C n d : String} {A B : Nat → Prop} {U : State} {H : Heap} (h : vx_L C n d A U H) (hAB : ∀ q, B q → A q) : vx_L C n d B U H := by
  obtain ⟨c, k, i, f, a, cell, h1, h2, h3, h4, h5, h6, h7, h8, h9, h10⟩ := h
  exact ⟨c, k, i, f, a, cell, h1, h2, h3, h4, h5, h6, h7, h8, h9, fun z => h10 (hAB _ z)⟩
theorem vx_L.word {C n d : String} {A : Nat → Prop} {s : State} {args : Array Value} (h : vx_L C n d A s s.heap) : (Cond.laysStatic C n d).before args s = true := by
  obtain ⟨c, k, i, f, a, cell, h1, h2, h3, h4, h5, h6, h7, h8, h9, -⟩ := h
  show (Cond.laysStatic C n d).holds args s none s [] = true
  exact Cond.laysStatic_of h1 h2 h3 h4 h5 h6 h7 h8 h9
/-- .. and what it holds: null or some reference -/
def vx_Zq (C n d : String) (A : Nat → Prop) (U : State) (H : Heap) : Prop := va_Zq C n d A U H ∧ vx_L C n d A U H
theorem vx_Zq.moved {C n d : String} {A : Nat → Prop} {u U : State} {H : Heap} (hvm : u.vm.Alike U.vm) (h : vx_Zq C n d A u H) : vx_Zq C n d A U H := ⟨va_Zq.moved hvm h.1, vx_L.moved hvm h.2⟩
theorem vx_Zq.kept {C n d : String} {A : Nat → Prop} {U : State} {H H1 : Heap} (h : vx_Zq C n d A U H) (hq : ∀ a : Nat, a < H.size → ¬ A a → H1[a]? = H[a]?) : vx_Zq C n d A U H1 := ⟨va_Zq.kept h.1 hq, vx_L.kept h.2 hq⟩
theorem vx_Zq.narrow {C n d : String} {A B : Nat → Prop} {U : State} {H : Heap} (h : vx_Zq C n d A U H) (hAB : ∀ q, B q → A q) : vx_Zq C n d B U H := ⟨va_Zq.narrow h.1 hAB, vx_L.narrow h.2 hAB⟩
theorem vx_Zqof {args : Array Value} {s : State} {C n d : String} {A : Nat → Prop} (hl : (Cond.laysStatic C n d).before args s = true) (hini : (Cond.initialized C).before args s = true) (h : (Cond.isRef (.static C n d)).before args s = true) (hA : ∀ a : Nat, a < s.heap.size → ¬ A a) : vx_Zq C n d A s s.heap := by
  refine ⟨va_Zqof hl hini h hA, ?_⟩
  obtain ⟨c, k, i, f, a, cell, h1, h2, h3, h4, h5, h6, h7, h8, h9⟩ := Cond.laysStatic_spec hl
  exact ⟨c, k, i, f, a, cell, h1, h2, h3, h4, h5, h6, h7, h8, h9, hA a (Array.getElem?_eq_some_iff.mp h5).1⟩
theorem vx_isRef {C n d : String} {v : Value} {A : Nat → Prop} {s : State} {args : Array Value} (h : va_Z C n d v A s s.heap) (hv : v.isRef = true) : (Cond.isRef (.static C n d)).before args s = true := by
  obtain ⟨cf, kf, fi, f, a, cell, h1, h2, h3, h4, h5, h6, h7, -⟩ := h
  have he : (Term.static C n d).eval args s none [] s = some v := by
    simp [Term.eval, State.fieldNamed?, h1, h2, h4, h5, h6, h7]
  simp only [Cond.before, Cond.holds, Cond.value, he]
  cases v <;> simp_all [Value.isRef]
theorem vx_isRefq {C n d : String} {A : Nat → Prop} {s : State} {args : Array Value} (h : va_Zq C n d A s s.heap) : (Cond.isRef (.static C n d)).before args s = true := by
  rcases h with h | ⟨t, h⟩
  · exact vx_isRef h rfl
  · exact vx_isRef h rfl
/-- the same frame, seen from here: as if the method were called anew in this heap -/
theorem vx_rebase {T : State} (X : Stand p l e R s m args below meth c T locs cells slots) {R' : Room} (hf : R'.frames ≤ R.frames) (hl : R'.locals ≤ R.locals) (hc : cells + R'.cells ≤ R.cells) (hs : slots + R'.slots ≤ R.slots) :
    Stand p l e R' ((T.setVm s.vm).setFrames (.invoking m args :: below)) m args below meth c T [] 0 0 := by
  have htop : (T.setVm s.vm).topJava?.isSome := X.here.top
  have hF : ((T.setVm s.vm).setFrames (.invoking m args :: below)).frames = .invoking m args :: below := State.frames_setFrames _ (State.cur_lt_of_top htop)
  obtain ⟨g₀, hg0⟩ := Option.isSome_iff_exists.mp htop
  obtain ⟨r, hr⟩ := State.topJava?_eq_some.mp hg0
  have hl9 : e.platform.stackLimits (T.setVm s.vm).me = e.platform.stackLimits s.me := X.limits
  have hb9 : (T.setVm s.vm).me.stackBytes = s.me.stackBytes := X.bytes
  refine ⟨X.admits, X.cas, X.clock, hF, ?_, X.hears, X.method, X.code, X.here, X.tail, X.warmed, ?_, ?_, ?_⟩
  · have h := X.room
    have hU : ((T.setVm s.vm).setFrames (.invoking m args :: below)).localsInUse = s.localsInUse := by
      rw [State.localsInUse_invoking hF (meth := meth) (c := c) X.method X.code, State.localsInUse_invoking X.frames X.method X.code]
    simp only [State.hasRoom, Bool.and_eq_true, decide_eq_true_eq] at h ⊢
    obtain ⟨⟨⟨⟨h1, h2, h3, h4, h5, h6⟩, h7⟩, h8⟩, h9⟩ := h
    rw [X.frames, List.length_cons] at h2 h3
    have q1 := X.heapSize
    have q2 := X.used
    simp only [hF, hU, List.length_cons, State.stackLimits_setFrames, State.stackBytes_setFrames, hl9, hb9]
    refine ⟨⟨⟨⟨by omega, by omega, by omega, by omega, by omega, h6⟩, ?_⟩, ?_⟩, X.book⟩
    · show T.heap.size + R'.cells ≤ e.platform.maxCells
      omega
    · show T.slotsUsed + R'.slots ≤ e.platform.maxSlots
      omega
  · rw [State.stackLimits_setFrames]; rfl
  · rw [State.stackBytes_setFrames]; rfl
  · refine ⟨?_, Nat.le_refl _, Nat.le_refl _, ?_, ?_, fun a c9 h9 => ⟨c9, h9, rfl, rfl, fun _ _ => rfl⟩⟩
    · obtain ⟨t, ht, -⟩ := State.frames_cons hr
      show T.setVm s.vm = { ((T.setVm s.vm).setFrames (.invoking m args :: below)).setFrames (T.setVm s.vm).frames with heap := T.heap, slotsUsed := T.slotsUsed }
      rw [State.setFrames_setFrames, State.setFrames_self ht]
      rfl
    · show T.slotsUsed = T.slotsUsed + ((T.heap.toList.drop T.heap.size).map (·.slots.size)).sum
      rw [List.drop_eq_nil_of_le (Nat.le_of_eq Array.length_toList)]
      rfl
    · show ((T.heap.toList.drop T.heap.size).map (·.slots.size)).sum ≤ 0
      rw [List.drop_eq_nil_of_le (Nat.le_of_eq Array.length_toList)]
      exact Nat.le_refl _
/-- 'throw new E()': new; dup; invokespecial; athrow -/
theorem vx_throw0 {cc : ByteArray} {pc : Nat} (hexec : p.tables.exec = Jvm.exec) (hb : c.code = cc) (hl : l.stackTraces = false) {own cls : String} {names : List String} {ik ic mc ms : Nat} {A : Nat → Prop}
    (hown : s.vm.findClass own = some m.cls) (hcls : Bundle.fit cls = true) (hnames : ∀ n ∈ names, Bundle.fit n = true)
    (hk : (Cond.classLink own ik cls).before args s = true) (hini : (Cond.initialized cls).before args s = true) (hat : ∀ w ∈ vx_at0 own ic cls names, w.before args s = true)
    (hgood : ∀ w ∈ Cond.classLink own ik cls :: Cond.initialized cls :: vx_at0 own ic cls names, vx_ot w = true)
    (hU : vx_Zq Bundle.tN "UNASSIGNED_STACK" Bundle.steD A s s.heap) (hN : vx_Zq Bundle.tN "SUPPRESSED_SENTINEL" Bundle.listD A s s.heap) (hS : va_S A s.heap H locs) (hsize : ls.size = c.maxLocals)
    (d0 : decode cc pc = .ok (.new ik, 3)) (d3 : decode cc (pc + 3) = .ok (.dup, 1)) (d4 : decode cc (pc + 4) = .ok (.invokespecial ic, 3)) (d7 : decode cc (pc + 7) = .ok (.athrow, 1))
    (hout : ∀ x ∈ c.exceptionTable.toList, covers x (pc + 7) = false)
    (hRframes : names.length + 3 < R.frames) (hRlocals : (rest.map fun v => v.category).sum + (13 * (names.length + 1) + 42) ≤ R.locals) (hRcells : cells + 1 ≤ R.cells) (hRslots : slots + 6 ≤ R.slots) (hlocks : meth.locks = false)
    (hx : ∀ t : State, s.vm.Alike t.vm → H.size ≤ t.heap.size → (∀ q : Nat, q < H.size → t.heap[q]? = H[q]?) → XC cls s t)
    (hf : ∀ z ∈ locs, free z.base) (hc : cells + 1 ≤ mc) (hs : slots + 6 ≤ ms) :
    W p l e R s m args below meth c H locs cells slots (vx_MQ below Qc XC args s mc ms free) (F0 m pc ls rest) := by
  intro T hT X
  have htr : e.platform.stackTraces = false := (show e.platform.stackTraces = l.stackTraces by rw [X.admits.platform]).trans hl
  have Y := vx_rebase X (R' := { frames := R.frames, locals := R.locals, cells := 1, slots := 6 }) (Nat.le_refl _) (Nat.le_refl _) hRcells hRslots
  obtain ⟨s', hA⟩ : ∃ z, z = (T.setVm s.vm).setFrames (.invoking m args :: below) := ⟨_, rfl⟩
  rw [← hA] at Y
  have hvm : s'.vm = s.vm := by rw [hA]; rfl
  have hhp : s'.heap = H := by rw [hA]; exact hT
  have hW0 : s.WarmedH s'.vm := by rw [hvm]; exact State.WarmedH.refl s
  have hat' : ∀ w ∈ vx_at0 own ic cls names, w.before args s' = true := fun w hw => vx_ot_at hW0 hvm.symm (hgood w (List.mem_cons_of_mem _ (List.mem_cons_of_mem _ hw))) (hat w hw)
  have hk' : (Cond.classLink own ik cls).before args s' = true := vx_ot_at hW0 hvm.symm (hgood _ List.mem_cons_self) hk
  have hini' : (Cond.initialized cls).before args s' = true := vx_ot_at hW0 hvm.symm (hgood _ (List.mem_cons_of_mem _ List.mem_cons_self)) hini
  have hU' : vx_Zq Bundle.tN "UNASSIGNED_STACK" Bundle.steD A s' s'.heap := by rw [hhp]; exact vx_Zq.moved hW0.alike (hU.kept hS.2.1)
  have hN' : vx_Zq Bundle.tN "SUPPRESSED_SENTINEL" Bundle.listD A s' s'.heap := by rw [hhp]; exact vx_Zq.moved hW0.alike (hN.kept hS.2.1)
  have h : ∀ w ∈ Bundle.ownAtoms0 own ic cls names, w.before args s' = true := vx_own hat' (vx_isRefq hU'.1) (vx_isRefq hN'.1) hU'.2.word hN'.2.word
  have hown' : s'.vm.findClass own = some m.cls := by rw [hvm]; exact hown
  have hins : (Cond.instantiable cls 6).before args s' = true := h _ (by simp [Bundle.ownAtoms0])
  obtain ⟨vm₁, cX, kX, hfX, hkX, -, -, X₁, st1⟩ := Y.newCold hexec (own := own) (C := cls) (index := ik) (n := 6) hown' hk' hins hini'
    (g := F0 m pc ls rest) rfl (by rw [hb]; exact d0) (Nat.le_refl _) (Nat.le_refl _)
  generalize hT1 : (T.setVm vm₁).pushCell { cls := cX, slots := kX.instanceTypes.map defaultValue, vm := .none } = T1 at X₁ st1
  have hcat : (Value.ref T.heap.size).category = 1 := rfl
  have hcellA : T1.heap[T.heap.size]? = some (freshCell cX kX) := by rw [← hT1]; exact State.heap_pushCell_size _ _
  have d3' : decode c.code (pc + 3) = .ok (.dup, 1) := by rw [hb]; exact d3
  obtain ⟨U, hsteps, hrun, hend, hW, hsame, ce, hce, hO⟩ := X₁.ctorThrow0 hexec htr (own := own) (cls := cls) (names := names) (ic := ic) hown' hcls hnames h (fun x hx => nomatch hx) hfX hkX hcellA (by rw [hhp, hT]; exact Nat.le_refl _)
    (g := { method := m, pc := pc + 4, locals := ls, stack := .ref T.heap.size :: .ref T.heap.size :: rest, locked := none }) rfl hsize rfl rfl (rest := rest) rfl
    (by rw [hb]; exact d4) (by rw [hb]; exact d7) hout hRframes (by simp only [List.map_cons, List.sum_cons, hcat]; omega) hlocks
  obtain ⟨f1, f2⟩ := vx_frame hsame
  rw [hhp] at f1 f2
  have hWs : s.WarmedH U.vm := State.WarmedH.trans hW0 hW
  have hcl : s.vm.findClass cls = some ce.cls := by
    have h9 := hO.cls
    rw [hvm] at h9
    exact h9
  have hall : s.sameButNew ({ U with vm := s.vm } : State) locs mc ms := by
    subst hA
    obtain ⟨e1, e2⟩ := hsame
    rw [State.setFrames_setFrames] at e1
    have h2 : (T.setVm s.vm).sameButNew ({ U with vm := s.vm } : State) [] (0 + 1) (0 + 6) := ⟨e1, e2⟩
    have h3 := X.same.trans h2
    rw [List.append_nil] at h3
    exact h3.mono hc hs
  refine ⟨U, ?_, .threw T.heap.size, hrun, hend, Or.inr ⟨T.heap.size, rfl, cls, ce, locs, hx U hWs.alike f1 (fun q hq => f2 q hq (fun z hz => nomatch hz)), hce, hO.vm, hcl, hWs, hall, hf⟩⟩
  refine st1 _ ?_
  show Steps p.tables e below (T1.setTop { method := m, pc := pc + 3, locals := ls, stack := .ref T.heap.size :: rest, locked := none }) _
  jvm_step X₁.here [X₁.here.top, hexec, d3', Value.category]
  exact hsteps
/-- 'throw new E("text")': new; dup; ldc; invokespecial; athrow -/
theorem vx_throwS {cc : ByteArray} {pc : Nat} (hexec : p.tables.exec = Jvm.exec) (hb : c.code = cc) (hl : l.stackTraces = false) {own cls text : String} {names : List String} {ik is ic mc ms sa : Nat} {A : Nat → Prop}
    (hown : s.vm.findClass own = some m.cls) (hcls : Bundle.fit cls = true) (hnames : ∀ n ∈ names, Bundle.fit n = true)
    (hk : (Cond.classLink own ik cls).before args s = true) (hini : (Cond.initialized cls).before args s = true) (hstr : vk_R own is text sa s) (hat : ∀ w ∈ vx_atS own ic cls names, w.before args s = true)
    (hgood : ∀ w ∈ Cond.classLink own ik cls :: Cond.initialized cls :: vx_atS own ic cls names, vx_ot w = true)
    (hU : vx_Zq Bundle.tN "UNASSIGNED_STACK" Bundle.steD A s s.heap) (hN : vx_Zq Bundle.tN "SUPPRESSED_SENTINEL" Bundle.listD A s s.heap) (hS : va_S A s.heap H locs) (hsize : ls.size = c.maxLocals)
    (d0 : decode cc pc = .ok (.new ik, 3)) (d3 : decode cc (pc + 3) = .ok (.dup, 1)) (d4 : decode cc (pc + 4) = .ok (.ldc is, 2)) (d6 : decode cc (pc + 6) = .ok (.invokespecial ic, 3)) (d9 : decode cc (pc + 9) = .ok (.athrow, 1))
    (hout : ∀ x ∈ c.exceptionTable.toList, covers x (pc + 9) = false)
    (hRframes : names.length + 3 < R.frames) (hRlocals : (rest.map fun v => v.category).sum + (13 * (names.length + 1) + 43) ≤ R.locals) (hRcells : cells + 1 ≤ R.cells) (hRslots : slots + 6 ≤ R.slots) (hlocks : meth.locks = false)
    (hx : ∀ t : State, s.vm.Alike t.vm → H.size ≤ t.heap.size → (∀ q : Nat, q < H.size → t.heap[q]? = H[q]?) → XC cls s t)
    (hf : ∀ z ∈ locs, free z.base) (hc : cells + 1 ≤ mc) (hs : slots + 6 ≤ ms) :
    W p l e R s m args below meth c H locs cells slots (vx_MQ below Qc XC args s mc ms free) (F0 m pc ls rest) := by
  intro T hT X
  have htr : e.platform.stackTraces = false := (show e.platform.stackTraces = l.stackTraces by rw [X.admits.platform]).trans hl
  have Y := vx_rebase X (R' := { frames := R.frames, locals := R.locals, cells := 1, slots := 6 }) (Nat.le_refl _) (Nat.le_refl _) hRcells hRslots
  obtain ⟨s', hA⟩ : ∃ z, z = (T.setVm s.vm).setFrames (.invoking m args :: below) := ⟨_, rfl⟩
  rw [← hA] at Y
  have hvm : s'.vm = s.vm := by rw [hA]; rfl
  have hhp : s'.heap = H := by rw [hA]; exact hT
  have hW0 : s.WarmedH s'.vm := by rw [hvm]; exact State.WarmedH.refl s
  have hat' : ∀ w ∈ vx_atS own ic cls names, w.before args s' = true := fun w hw => vx_ot_at hW0 hvm.symm (hgood w (List.mem_cons_of_mem _ (List.mem_cons_of_mem _ hw))) (hat w hw)
  have hk' : (Cond.classLink own ik cls).before args s' = true := vx_ot_at hW0 hvm.symm (hgood _ List.mem_cons_self) hk
  have hini' : (Cond.initialized cls).before args s' = true := vx_ot_at hW0 hvm.symm (hgood _ (List.mem_cons_of_mem _ List.mem_cons_self)) hini
  have hU' : vx_Zq Bundle.tN "UNASSIGNED_STACK" Bundle.steD A s' s'.heap := by rw [hhp]; exact vx_Zq.moved hW0.alike (hU.kept hS.2.1)
  have hN' : vx_Zq Bundle.tN "SUPPRESSED_SENTINEL" Bundle.listD A s' s'.heap := by rw [hhp]; exact vx_Zq.moved hW0.alike (hN.kept hS.2.1)
  have h : ∀ w ∈ Bundle.ownAtoms own ic cls names, w.before args s' = true := vx_own hat' (vx_isRefq hU'.1) (vx_isRefq hN'.1) hU'.2.word hN'.2.word
  have hown' : s'.vm.findClass own = some m.cls := by rw [hvm]; exact hown
  have hins : (Cond.instantiable cls 6).before args s' = true := h _ (by simp [Bundle.ownAtoms])
  obtain ⟨vm₁, cX, kX, hfX, hkX, -, -, X₁, st1⟩ := Y.newCold hexec (own := own) (C := cls) (index := ik) (n := 6) hown' hk' hins hini'
    (g := F0 m pc ls rest) rfl (by rw [hb]; exact d0) (Nat.le_refl _) (Nat.le_refl _)
  generalize hT1 : (T.setVm vm₁).pushCell { cls := cX, slots := kX.instanceTypes.map defaultValue, vm := .none } = T1 at X₁ st1
  have hcat : (Value.ref T.heap.size).category = 1 := rfl
  have hcellA : T1.heap[T.heap.size]? = some (freshCell cX kX) := by rw [← hT1]; exact State.heap_pushCell_size _ _
  have d3' : decode c.code (pc + 3) = .ok (.dup, 1) := by rw [hb]; exact d3
  have d4' : decode c.code (pc + 4) = .ok (.ldc is, 2) := by rw [hb]; exact d4
  have hstr' : vk_R own is text sa s' := vk_R.warm hW0 hstr
  obtain ⟨U, hsteps, hrun, hend, hW, hsame, ce, hce, hO⟩ := X₁.ctorThrowS hexec htr (own := own) (cls := cls) (names := names) (ic := ic) hown' hcls hnames h (fun x hx => nomatch hx) hfX hkX hcellA (by rw [hhp, hT]; exact Nat.le_refl _) (msg := .ref sa) rfl
    (g := { method := m, pc := pc + 6, locals := ls, stack := .ref sa :: .ref T.heap.size :: .ref T.heap.size :: rest, locked := none }) rfl hsize rfl rfl (rest := rest) rfl
    (by rw [hb]; exact d6) (by rw [hb]; exact d9) hout hRframes (by simp only [List.map_cons, List.sum_cons, hcat]; omega) hlocks
  obtain ⟨f1, f2⟩ := vx_frame hsame
  rw [hhp] at f1 f2
  have hWs : s.WarmedH U.vm := State.WarmedH.trans hW0 hW
  have hcl : s.vm.findClass cls = some ce.cls := by
    have h9 := hO.cls
    rw [hvm] at h9
    exact h9
  have hall : s.sameButNew ({ U with vm := s.vm } : State) locs mc ms := by
    subst hA
    obtain ⟨e1, e2⟩ := hsame
    rw [State.setFrames_setFrames] at e1
    have h2 : (T.setVm s.vm).sameButNew ({ U with vm := s.vm } : State) [] (0 + 1) (0 + 6) := ⟨e1, e2⟩
    have h3 := X.same.trans h2
    rw [List.append_nil] at h3
    exact h3.mono hc hs
  refine ⟨U, ?_, .threw T.heap.size, hrun, hend, Or.inr ⟨T.heap.size, rfl, cls, ce, locs, hx U hWs.alike f1 (fun q hq => f2 q hq (fun z hz => nomatch hz)), hce, hO.vm, hcl, hWs, hall, hf⟩⟩
  refine st1 _ ?_
  show Steps p.tables e below (T1.setTop { method := m, pc := pc + 3, locals := ls, stack := .ref T.heap.size :: rest, locked := none }) _
  jvm_step X₁.here [X₁.here.top, hexec, d3', Value.category]
  exact X₁.ldcString hexec (own := own) (text := text) (index := is) (a := sa) hown' hstr'.1 hstr'.2
    (g := { method := m, pc := pc + 4, locals := ls, stack := .ref T.heap.size :: .ref T.heap.size :: rest, locked := none }) rfl d4' _ hsteps
/-- 'throw new E("text")', the text by a wide index -/
theorem vx_throwSW {cc : ByteArray} {pc : Nat} (hexec : p.tables.exec = Jvm.exec) (hb : c.code = cc) (hl : l.stackTraces = false) {own cls text : String} {names : List String} {ik is ic mc ms sa : Nat} {A : Nat → Prop}
    (hown : s.vm.findClass own = some m.cls) (hcls : Bundle.fit cls = true) (hnames : ∀ n ∈ names, Bundle.fit n = true)
    (hk : (Cond.classLink own ik cls).before args s = true) (hini : (Cond.initialized cls).before args s = true) (hstr : vk_R own is text sa s) (hat : ∀ w ∈ vx_atS own ic cls names, w.before args s = true)
    (hgood : ∀ w ∈ Cond.classLink own ik cls :: Cond.initialized cls :: vx_atS own ic cls names, vx_ot w = true)
    (hU : vx_Zq Bundle.tN "UNASSIGNED_STACK" Bundle.steD A s s.heap) (hN : vx_Zq Bundle.tN "SUPPRESSED_SENTINEL" Bundle.listD A s s.heap) (hS : va_S A s.heap H locs) (hsize : ls.size = c.maxLocals)
    (d0 : decode cc pc = .ok (.new ik, 3)) (d3 : decode cc (pc + 3) = .ok (.dup, 1)) (d4 : decode cc (pc + 4) = .ok (.ldc_w is, 3)) (d7 : decode cc (pc + 7) = .ok (.invokespecial ic, 3)) (d10 : decode cc (pc + 10) = .ok (.athrow, 1))
    (hout : ∀ x ∈ c.exceptionTable.toList, covers x (pc + 10) = false)
    (hRframes : names.length + 3 < R.frames) (hRlocals : (rest.map fun v => v.category).sum + (13 * (names.length + 1) + 43) ≤ R.locals) (hRcells : cells + 1 ≤ R.cells) (hRslots : slots + 6 ≤ R.slots) (hlocks : meth.locks = false)
    (hx : ∀ t : State, s.vm.Alike t.vm → H.size ≤ t.heap.size → (∀ q : Nat, q < H.size → t.heap[q]? = H[q]?) → XC cls s t)
    (hf : ∀ z ∈ locs, free z.base) (hc : cells + 1 ≤ mc) (hs : slots + 6 ≤ ms) :
    W p l e R s m args below meth c H locs cells slots (vx_MQ below Qc XC args s mc ms free) (F0 m pc ls rest) := by
  intro T hT X
  have htr : e.platform.stackTraces = false := (show e.platform.stackTraces = l.stackTraces by rw [X.admits.platform]).trans hl
  have Y := vx_rebase X (R' := { frames := R.frames, locals := R.locals, cells := 1, slots := 6 }) (Nat.le_refl _) (Nat.le_refl _) hRcells hRslots
  obtain ⟨s', hA⟩ : ∃ z, z = (T.setVm s.vm).setFrames (.invoking m args :: below) := ⟨_, rfl⟩
  rw [← hA] at Y
  have hvm : s'.vm = s.vm := by rw [hA]; rfl
  have hhp : s'.heap = H := by rw [hA]; exact hT
  have hW0 : s.WarmedH s'.vm := by rw [hvm]; exact State.WarmedH.refl s
  have hat' : ∀ w ∈ vx_atS own ic cls names, w.before args s' = true := fun w hw => vx_ot_at hW0 hvm.symm (hgood w (List.mem_cons_of_mem _ (List.mem_cons_of_mem _ hw))) (hat w hw)
  have hk' : (Cond.classLink own ik cls).before args s' = true := vx_ot_at hW0 hvm.symm (hgood _ List.mem_cons_self) hk
  have hini' : (Cond.initialized cls).before args s' = true := vx_ot_at hW0 hvm.symm (hgood _ (List.mem_cons_of_mem _ List.mem_cons_self)) hini
  have hU' : vx_Zq Bundle.tN "UNASSIGNED_STACK" Bundle.steD A s' s'.heap := by rw [hhp]; exact vx_Zq.moved hW0.alike (hU.kept hS.2.1)
  have hN' : vx_Zq Bundle.tN "SUPPRESSED_SENTINEL" Bundle.listD A s' s'.heap := by rw [hhp]; exact vx_Zq.moved hW0.alike (hN.kept hS.2.1)
  have h : ∀ w ∈ Bundle.ownAtoms own ic cls names, w.before args s' = true := vx_own hat' (vx_isRefq hU'.1) (vx_isRefq hN'.1) hU'.2.word hN'.2.word
  have hown' : s'.vm.findClass own = some m.cls := by rw [hvm]; exact hown
  have hins : (Cond.instantiable cls 6).before args s' = true := h _ (by simp [Bundle.ownAtoms])
  obtain ⟨vm₁, cX, kX, hfX, hkX, -, -, X₁, st1⟩ := Y.newCold hexec (own := own) (C := cls) (index := ik) (n := 6) hown' hk' hins hini'
    (g := F0 m pc ls rest) rfl (by rw [hb]; exact d0) (Nat.le_refl _) (Nat.le_refl _)
  generalize hT1 : (T.setVm vm₁).pushCell { cls := cX, slots := kX.instanceTypes.map defaultValue, vm := .none } = T1 at X₁ st1
  have hcat : (Value.ref T.heap.size).category = 1 := rfl
  have hcellA : T1.heap[T.heap.size]? = some (freshCell cX kX) := by rw [← hT1]; exact State.heap_pushCell_size _ _
  have d3' : decode c.code (pc + 3) = .ok (.dup, 1) := by rw [hb]; exact d3
  have d4' : decode c.code (pc + 4) = .ok (.ldc_w is, 3) := by rw [hb]; exact d4
  have hstr' : vk_R own is text sa s' := vk_R.warm hW0 hstr
  obtain ⟨U, hsteps, hrun, hend, hW, hsame, ce, hce, hO⟩ := X₁.ctorThrowS hexec htr (own := own) (cls := cls) (names := names) (ic := ic) hown' hcls hnames h (fun x hx => nomatch hx) hfX hkX hcellA (by rw [hhp, hT]; exact Nat.le_refl _) (msg := .ref sa) rfl
    (g := { method := m, pc := pc + 7, locals := ls, stack := .ref sa :: .ref T.heap.size :: .ref T.heap.size :: rest, locked := none }) rfl hsize rfl rfl (rest := rest) rfl
    (by rw [hb]; exact d7) (by rw [hb]; exact d10) hout hRframes (by simp only [List.map_cons, List.sum_cons, hcat]; omega) hlocks
  obtain ⟨f1, f2⟩ := vx_frame hsame
  rw [hhp] at f1 f2
  have hWs : s.WarmedH U.vm := State.WarmedH.trans hW0 hW
  have hcl : s.vm.findClass cls = some ce.cls := by
    have h9 := hO.cls
    rw [hvm] at h9
    exact h9
  have hall : s.sameButNew ({ U with vm := s.vm } : State) locs mc ms := by
    subst hA
    obtain ⟨e1, e2⟩ := hsame
    rw [State.setFrames_setFrames] at e1
    have h2 : (T.setVm s.vm).sameButNew ({ U with vm := s.vm } : State) [] (0 + 1) (0 + 6) := ⟨e1, e2⟩
    have h3 := X.same.trans h2
    rw [List.append_nil] at h3
    exact h3.mono hc hs
  refine ⟨U, ?_, .threw T.heap.size, hrun, hend, Or.inr ⟨T.heap.size, rfl, cls, ce, locs, hx U hWs.alike f1 (fun q hq => f2 q hq (fun z hz => nomatch hz)), hce, hO.vm, hcl, hWs, hall, hf⟩⟩
  refine st1 _ ?_
  show Steps p.tables e below (T1.setTop { method := m, pc := pc + 3, locals := ls, stack := .ref T.heap.size :: rest, locked := none }) _
  jvm_step X₁.here [X₁.here.top, hexec, d3', Value.category]
  exact X₁.ldcStringW hexec (own := own) (text := text) (index := is) (a := sa) hown' hstr'.1 hstr'.2
    (g := { method := m, pc := pc + 4, locals := ls, stack := .ref T.heap.size :: .ref T.heap.size :: rest, locked := none }) rfl d4' _ hsteps
end Ends
section Bodies
variable {l : Launch}
theorem vx_ofW {y : MethodName} {ws ws' : List Cond} {rm : Room} {Pc : Array Value → State → Prop} {Qc : Array Value → State → Outcome → State → Prop} {XC : String → State → State → Prop} {mc ms : Nat} {free : Addr → Prop} {cc : ByteArray} {maxL : Nat} {ret : Option FieldType}
    (hy : plainName y.cls = true) (hw : ws = Cond.code y cc maxL ret :: ws')
    (body : ∀ p e s m args below meth c s₁, BodyLoose p l y (headSpec ws rm) cc maxL ret e s m args below meth c s₁ → c.maxLocals = maxL → (∀ x ∈ c.exceptionTable.toList, False) → Pc args s →
      W p l e (headSpec ws rm).room s m args below meth c s.heap [] 0 0 (vx_MQ below Qc XC args s mc ms free) (entryFrame m args maxL)) : vx_Met l y ws rm Pc Qc XC mc ms free := by
  refine MetFree.of_bodyS (code := cc) (maxLocals := maxL) (ret := ret) hy ?_ ?_
  · intro args s m h hn
    obtain ⟨meth, c, h1, h2, h3, h4, h5, h6, -, -⟩ := Cond.code_spec hn (atoms_spec (ws := ws) h _ (by rw [hw]; exact List.mem_cons_self))
    exact ⟨meth, c, h1, h2, h3, h4, h5, h6⟩
  · intro p e s m args below meth c s₁ B hml hP _
    have hh0 : s₁.heap = s.heap := by rw [B.state]; rfl
    have ht : ∀ x ∈ c.exceptionTable.toList, False := by
      obtain ⟨meth9, c9, h1, h2, -, -, -, -, h7, -⟩ := Cond.code_spec B.named (atoms_spec (ws := ws) B.pre _ (by rw [hw]; exact List.mem_cons_self))
      cases Option.some.inj (h1.symm.trans B.method)
      cases Option.some.inj (h2.symm.trans (Stand.of_body B).code)
      intro x hx
      rw [Array.isEmpty_iff.mp h7] at hx
      cases hx
    obtain ⟨t, a1, o, b1, b2, b3⟩ := body p e s m args below meth c s₁ B hml ht hP s₁ hh0 (Stand.of_body B)
    exact ⟨t, o, a1, b1, b2, b3⟩
/-- the table of a body with handlers -/
theorem vx_table {p : Program} {x y : MethodName} {S : Spec} {cc bytes : ByteArray} {maxL maxL' : Nat} {ret ret' : Option FieldType} {e : Env} {s s₁ : State} {m : MethodId} {args : Array Value} {below : List Frame} {meth : Method} {c : Code} {hh : List (Nat × Nat × Nat × Nat)}
    (B : BodyLoose p l y S cc maxL ret e s m args below meth c s₁) (h : (Cond.codeWith y bytes maxL' ret' hh).before args s = true) : c.exceptionTable.toList = tableOf hh := by
  obtain ⟨m9, meth9, c9, hn9, h1, h2, -, -, h6, -⟩ := Cond.codeWith_spec h
  cases Option.some.inj (hn9.symm.trans B.named)
  cases Option.some.inj (h1.symm.trans B.method)
  cases Option.some.inj (h2.symm.trans (Stand.of_body B).code)
  rw [← h6, table_eq]
end Bodies
end VXA
/-! ===== END ===== -/
/-! ===== BEGIN a static call of a method with an exception table ===== -/
section VXS
variable {p : Program} {l : Launch} {e : Env} {R : Room} {s : State} {m : MethodId} {args : Array Value} {below : List Frame} {meth : Method} {c : Code} {T : State} {H : Heap} {locs : List Loc} {cells slots : Nat}
abbrev vx_CSW (R : Room) (s : State) (args : Array Value) (own : String) (index : Nat) (y : MethodName) (bytes : ByteArray) (maxL : Nat) (ret : Option FieldType) (hh : List (Nat × Nat × Nat × Nat)) (ws : List Cond) (rm : Room) (mc ms n : Nat) : Prop :=
  (rm.cells = mc ∧ rm.slots = ms ∧ rm.frames + 1 ≤ R.frames ∧ 8 + (maxL + 11) + rm.locals ≤ R.locals ∧ (∀ w ∈ ws, ∀ (a' : Array Value) (U : State), s.WarmedH U.vm → w.before a' U = true) ∧ Cond.codeWith y bytes maxL ret hh ∈ ws) ∧
  (Cond.codeWith y bytes maxL ret hh).before args s = true ∧ (Cond.initialized y.cls).before args s = true ∧ (y.cls ≠ "java/lang/invoke/MethodHandle" ∧ y.cls ≠ "java/lang/invoke/VarHandle") ∧
  (∀ sig, parseMethodDescriptor y.desc = some sig → n = sig.parameters.length) ∧ (Cond.methodLink own index y).before args s = true ∧ (Cond.static y).before args s = true
theorem vx_cwSW {own : String} {index maxL mc ms : Nat} {y : MethodName} {bytes : ByteArray} {ret : Option FieldType} {hh : List (Nat × Nat × Nat × Nat)} {Ts ws ws' : List Cond} {rm : Room} (n : Nat) (ht : ∀ w ∈ Ts, w.before args s = true) (hT : GoodIn Ts (va_wsS own index y ws)) (hw : ws = Cond.codeWith y bytes maxL ret hh :: ws') (hrc : rm.cells = mc) (hrs : rm.slots = ms)
    (hd : y.cls ≠ "java/lang/invoke/MethodHandle" ∧ y.cls ≠ "java/lang/invoke/VarHandle" ∧ (parseMethodDescriptor y.desc).map (fun d => d.parameters.length) = some n) (hR : rm.frames + 1 ≤ R.frames ∧ 8 + (maxL + 11) + rm.locals ≤ R.locals) :
    vx_CSW R s args own index y bytes maxL ret hh ws rm mc ms n := by
  have ok : ∀ w ∈ va_wsS own index y ws, w.before args s = true := fun w h => ht w (hT w h).1
  have hG : GoodIn Ts ws := fun w h => hT w (by unfold va_wsS; exact List.mem_append_right _ h)
  have hc : Cond.codeWith y bytes maxL ret hh ∈ ws := by rw [hw]; exact List.mem_cons_self
  refine ⟨⟨hrc, hrs, hR.1, hR.2, pay_in ht hG, hc⟩, ht _ (hG _ hc).1, ok _ (by simp [va_wsS]), ⟨hd.1, hd.2.1⟩, fun sig h => ?_, ok _ (by simp [va_wsS]), ok _ (by simp [va_wsS])⟩
  have h2 := hd.2.2
  rw [h] at h2
  exact (Option.some.inj h2).symm
theorem vx_callSW (X : Stand p l e R s m args below meth c T locs cells slots) (hexec : p.tables.exec = Jvm.exec) {own : String} {index : Nat} {y : MethodName} {bytes : ByteArray} {maxL : Nat} {ret : Option FieldType} {hh : List (Nat × Nat × Nat × Nat)}
    (hown : s.vm.findClass own = some m.cls) (hlink : (Cond.methodLink own index y).before args s = true) (hstat : (Cond.static y).before args s = true) (hinit : (Cond.initialized y.cls).before args s = true)
    (hcode : (Cond.codeWith y bytes maxL ret hh).before args s = true) (hy : y.cls ≠ "java/lang/invoke/MethodHandle" ∧ y.cls ≠ "java/lang/invoke/VarHandle")
    {W9 : Nat} {Pre : Pt → Array Value → Prop} {Post : Pt → Array Value → Option Value → Pt → Prop} (hK : Back l R p e below s args y 3 W9 Pre Post)
    {g : JFrame} (hg : g.method = m) (hsize : g.locals.size = c.maxLocals) {argsL rest : List Value} (hlen : ∀ sig, parseMethodDescriptor y.desc = some sig → argsL.length = sig.parameters.length)
    (hstack : g.stack = argsL.reverse ++ rest) (hW : 2 * g.monitorRoom + (rest.map fun v => v.category).sum ≤ W9) (hdg : decode c.code g.pc = .ok (.invokestatic index, 3))
    (hpre : ∀ vm₁, s.WarmedH vm₁ → Pre ⟨T.setVm vm₁, locs, cells, slots⟩ argsL.toArray) :
    ∃ (v : Option Value) (vm₁ : Vm) (B : Pt), s.WarmedH vm₁ ∧ Stand p l e R s m args below meth c B.U B.locs B.cells B.slots ∧ Post ⟨T.setVm vm₁, locs, cells, slots⟩ argsL.toArray v B ∧
      ∀ target, Steps p.tables e below (B.U.setTop { g with pc := g.pc + 3, stack := v.toList ++ rest }) target → Steps p.tables e below (T.setTop g) target := by
  obtain ⟨mk, methM, cM, hnamed, hmethM, -, -, -, -, -, -, hsigM⟩ := Cond.codeWith_spec hcode
  have hstatic : methM.isStatic = true := Cond.static_spec hnamed hmethM hstat
  obtain ⟨kP, hkP, -⟩ := className_of_methodNamed hnamed
  have hinitP : kP.init = .initialized := Cond.initialized_spec (findClass_of_methodNamed hnamed) hkP hinit
  obtain ⟨vm₁, X₁, hstep₁⟩ := X.invokestatic hexec hown hlink hnamed hmethM hstatic hkP hinitP hy (g := g) hg (argsL := argsL) (rest := rest) (hlen _ hsigM) hstack hdg
  obtain ⟨v, B, X', hpost, hsteps⟩ := hK m meth c ⟨T.setVm vm₁, locs, cells, slots⟩ { g with stack := rest } (.invokestatic index) mk argsL.toArray X₁ hg hsize hdg hW (X₁.named hnamed) (hpre vm₁ X₁.warmed)
  exact ⟨v, vm₁, B, X₁.warmed, X', hpost, fun target h => hstep₁ _ fun acts => by rw [doInvoke_state]; exact hsteps.trans h⟩
theorem vx_runSW {y : MethodName} {bytes cc : ByteArray} {maxL nL mc ms n index : Nat} {ret : Option FieldType} {hh : List (Nat × Nat × Nat × Nat)} {ws : List Cond} {rm : Room} {Pc : Array Value → State → Prop} {Qc : Array Value → State → Outcome → State → Prop} {free : Addr → Prop} {Ts : List Cond} {own : String} {As rest : List Value} {g : JFrame}
    (S : CallFix p m c cc nL s args Ts own) (hM : Met l y ws rm Pc Qc mc ms free) (cw : vx_CSW R s args own index y bytes maxL ret hh ws rm mc ms n) (hp : PreS s H Pc As)
    (hg : g.method = m) (hn : As.length = n) (hsize : g.locals.size = nL) (hstack : g.stack = As.reverse ++ rest) (hW : 2 * g.monitorRoom + (rest.map fun v => v.category).sum ≤ 8) (hdg : decode cc g.pc = .ok (.invokestatic index, 3)) (hf : cells + mc ≤ R.cells ∧ slots + ms ≤ R.slots) :
    va_Run p l e R s m args below meth c H locs cells slots mc ms g rest (Qc As.toArray) (free) := by
  obtain ⟨⟨hrc, hrs, hfr, hlo, hws, hcw⟩, hcode, hini, hy, hlen, hl, hstt⟩ := cw
  have hK : Back l R p e below s args y 3 8 (PreOf R mc ms Pc) (PostOf Qc mc ms free) := va_backW (hh := hh) (bytes := bytes) (maxL := maxL) (ret := ret) hM hp.1 hrc hrs hfr hlo hws hcw (fun a' U hW => word_at hW (Or.inl (by first | rfl | simp [Cond.onTables, Cond.keeps, Cond.steady])) hini)
  obtain ⟨hx, hb, hml, ho, -⟩ := S
  intro T hT X
  obtain ⟨v, vm₁, ⟨U', l2, c2, s2⟩, hW₁, X', ⟨g', mk, t, L, e1, e2, hq, h1, hL, h2, h3⟩, st⟩ := vx_callSW X hx (hh := hh) (bytes := bytes) (maxL := maxL) (ret := ret) ho hl hstt hini hcode hy hK hg (hsize.trans hml.symm) (argsL := As) (rest := rest) (fun sig h => hn.trans (hlen sig h)) hstack hW (by rw [hb]; exact hdg)
    (fun vm₁ hW₁ => ⟨hf.1, hf.2, hp.2 (T.setVm vm₁) hT hW₁⟩)
  dsimp only [Pt.U, Pt.locs, Pt.cells, Pt.slots] at X' e1 e2 h1 h2 h3 st
  subst h1; subst h2; subst h3
  exact ⟨v, (T.setVm vm₁).calling g' mk As.toArray, t, U', L, hT, X', hL, e1, e2, hq, st⟩
/-- not caught here, past rows that name other classes: it goes on to the caller -/
theorem vx_outP {p : Program} {l : Launch} {e : Env} {R : Room} {s : State} {m : MethodId} {args : Array Value} {below : List Frame} {meth : Method} {c : Code} {H : Heap} {locs : List Loc} {cells slots : Nat} {free : Addr → Prop} {ls : Array Slot} {rest : List Value} {Qc : Array Value → State → Outcome → State → Prop} {XC : String → State → State → Prop}
    {pc : Nat} {own E : String} {ce : Cell} {q : Addr} {mc ms : Nat} (hown : s.vm.findClass own = some m.cls) (hlocks : meth.locks = false)
    (hpass : ∀ z ∈ c.exceptionTable.toList, covers z pc = false ∨ (z.catchType ≠ 0 ∧ ∃ nm : String, (Cond.classLink own z.catchType nm).before args s = true ∧ va_Nc E nm s)) (hcell : H[q]? = some ce) (hv : ce.vm = .none) (hcl : s.vm.findClass E = some ce.cls)
    (hx : ∀ t : State, t.heap = H → s.vm.Alike t.vm → XC E s t) (hf : ∀ z ∈ locs, free z.base) (hc : cells ≤ mc) (hs : slots ≤ ms) :
    vx_W p l e R s m args below meth c H locs cells slots (vx_MQ below Qc XC args s mc ms free) (F0 m pc ls rest) q := by
  intro T hT X
  have hpl : e.platform.magicAccessors = ({} : Platform).magicAccessors := by rw [X.admits.platform]
  obtain ⟨vm', hW', X', st⟩ := X.outThrough hlocks q (g := F0 m pc ls rest) rfl rfl rfl (cell := ce) (by rw [hT]; exact hcell) (by rw [hv]; rfl)
    (by obtain ⟨k9, h9, -⟩ := Vm.findClass_spec hcl; exact ⟨k9, h9⟩) (fun z hz => by
      rcases hpass z hz with h | ⟨hz0, nm, hl1, hn1⟩
      · exact Or.inl h
      · obtain ⟨c6, hc6, hcl6⟩ := Cond.classLink_spec hown hl1 e.platform hpl
        obtain ⟨a8, b8, h1, h2, h3⟩ := hn1
        cases Option.some.inj (h1.symm.trans hcl)
        cases Option.some.inj (h2.symm.trans hc6)
        exact Or.inr ⟨hz0, _, hcl6, h3⟩)
  obtain ⟨g₀, hfr⟩ := X'.frames_eq
  have hcell9 : ((T.setVm vm').setFrames (.throwing q :: below)).heap[q]? = some ce := by
    show T.heap[q]? = some ce
    rw [hT]; exact hcell
  have hend : Ended ((T.setVm vm').setFrames (.throwing q :: below)) below (.threw q) := State.frames_setFrames _ (State.cur_lt_of_frames hfr)
  refine ⟨(T.setVm vm').setFrames (.throwing q :: below), ?_, .threw q, X'.here.running, hend, Or.inr ⟨q, rfl, E, ce, locs, hx _ hT (X'.ends _).1.alike, hcell9, hv, hcl, (X'.ends _).1, (X'.ends _).2.mono hc hs, hf⟩⟩
  rw [X.pushThrowing_eq]
  exact st
/-- a thing of a world lies in the heap -/
theorem vx_lt {D : va_G} {cl : List vw_C} {ws : va_W} {H1 : Heap} (h : va_P D cl ws H1) {k : Nat} {q : Nat × va_E} (hk : ws[k]? = some q) : q.1 < H1.size := (h k q hk).lt
end VXS
/-! ===== END ===== -/
/-! ===== BEGIN methods with a table of their own: called by a name, returning or throwing ===== -/
section VXH
/-! vx_backW, vx_callVX, vx_callSX, vx_callVW, vx_runVW, vx_runVX, vx_runSX, vx_ofWH follow the same proofs as their sisters above (Free/Laws.lean, Shelf42/LK1.lean); vx_outP calls Shelf42/NT130.lean (outThrough). -/
section
variable {l : Launch} {R : Room} {p : Program} {e : Env} {below : List Frame} {s : State} {sargs : Array Value} {y : MethodName} {len W9 : Nat}
theorem vx_backW {ws : List Cond} {rm : Room} {Pc : Array Value → State → Prop} {Qc : Array Value → State → Outcome → State → Prop} {XC : String → State → State → Prop} {mc ms : Nat} {free : Addr → Prop} {bytes : ByteArray} {maxL : Nat} {ret : Option FieldType} {hh : List (Nat × Nat × Nat × Nat)}
    (hM : vx_Met l y ws rm Pc Qc XC mc ms free) (hblind : FrameBlind Pc) (hrc : rm.cells = mc) (hrs : rm.slots = ms)
    (hframes : rm.frames + 1 ≤ R.frames) (hlocals : W9 + (maxL + 11) + rm.locals ≤ R.locals)
    (hws : ∀ w ∈ ws, ∀ a' U, s.WarmedH U.vm → w.before a' U = true) (hcode : Cond.codeWith y bytes maxL ret hh ∈ ws) (hinit : ∀ a' U, s.WarmedH U.vm → (Cond.initialized y.cls).before a' U = true) :
    vx_Back l R p e below s sargs y len W9 (PreOf R mc ms Pc) (PostOf Qc mc ms free) (vx_Post XC mc ms free) := by
  intro m meth c A g ig mk a X hg hsize hdg hW hn hp
  have h1 : (headSpec ws rm).pre.before a A.U = true := atoms_intro fun w hw => hws w hw _ _ X.warmed
  have h2 : (Cond.codeWith y bytes maxL ret hh).before a A.U = true := hws _ hcode _ _ X.warmed
  have h3 : (Cond.initialized y.cls).before a A.U = true := hinit _ _ X.warmed
  have h4 : A.cells + (headSpec ws rm).room.cells ≤ R.cells := by rw [show (headSpec ws rm).room.cells = mc from hrc]; exact hp.1
  have h5 : A.slots + (headSpec ws rm).room.slots ≤ R.slots := by rw [show (headSpec ws rm).room.slots = ms from hrs]; exact hp.2.1
  have hPc : Pc a (A.U.calling g mk a) := hblind _ _ _ _ hp.2.2
  obtain ⟨U, Ls, c0, s0⟩ := A
  dsimp only [Pt.U, Pt.locs, Pt.cells, Pt.slots] at h1 h2 h3 h4 h5 X hn hPc ⊢
  obtain ⟨m9, methY, cY, hn9, hmY, hcY, -, hlY, -⟩ := Cond.codeWith_spec h2
  cases Option.some.inj (hn9.symm.trans hn)
  obtain ⟨kY, hkY, -⟩ := className_of_methodNamed hn
  have hinitY : kY.init = .initialized := Cond.initialized_spec (findClass_of_methodNamed hn) hkY h3
  have h : At U g.method c below := by rw [hg]; exact X.here
  have hlocals9 : W9 + (maxL + 11) + (headSpec ws rm).room.locals ≤ R.locals := hlocals
  have happ : (headSpec ws rm).appliesLoose y e.platform (U.calling g mk a) = true :=
    Spec.appliesLoose_calling (g := g) h hdg hn hkY hinitY
      (X.room_calling (g := g) (R' := (headSpec ws rm).room) hsize hmY hcY hframes (by rw [hlY]; omega) h4 h5) h1
  obtain ⟨mid, hmid⟩ := h.above
  have hfr : (U.setTop g).frames = (.java g :: mid) ++ below := by rw [State.frames_setTop' g h.top, hmid]; rfl
  obtain ⟨o, s₂, hsteps, -, hend, hq⟩ := Steps.callFree hM p X.admits X.cas X.clock (acts := []) hfr happ hPc trivial
  have hq' : vx_Q Qc XC mc ms free a (U.calling g mk a) o s₂ := hq
  rw [State.frames_setTop' g h.top] at hend
  obtain ⟨g₀, hg0⟩ := Option.isSome_iff_exists.mp h.top
  obtain ⟨r, hr⟩ := State.topJava?_eq_some.mp hg0
  have hr' : (({ U with heap := s₂.heap, slotsUsed := s₂.slotsUsed } : State).setVm s₂.vm).frames = .java g₀ :: r := hr
  rcases hq' with ⟨hqc, L, hfe, hL⟩ | ⟨q, rfl, E, ce, L, hx, hce, hcv, hcl, hW₂, hsm, hL⟩
  · obtain ⟨⟨v, rfl⟩, hW₂, e2, q2, q3, q4, q5, q6⟩ := id hfe
    have e3 : s₂ = ({ (U.calling g mk a).setFrames s₂.frames with heap := s₂.heap, slotsUsed := s₂.slotsUsed } : State).setVm s₂.vm := by
      have : s₂ = ({ s₂ with vm := (U.calling g mk a).vm } : State).setVm s₂.vm := rfl
      rw [e2] at this
      exact this
    obtain ⟨c₂, i₂, len₂, hc₂, hd₂, hf₂⟩ := hend
    have hW' : U.WarmedH s₂.vm := hW₂
    have hcc : c₂ = c := by
      have h1 : s₂.code? g.method = U.code? g.method := by
        rw [State.code?_eq, State.code?_eq, hW'.alike.method?]
      exact Option.some.inj (hc₂.symm.trans (h1.trans h.code))
    subst hcc
    have hlen : len₂ = len := by rw [hdg] at hd₂; cases hd₂; rfl
    subst hlen
    have hs₂ : s₂ = (({ U with heap := s₂.heap, slotsUsed := s₂.slotsUsed } : State).setVm s₂.vm).setTop { g with pc := g.pc + len₂, stack := v.toList ++ g.stack } := by
      refine e3.trans ?_
      rw [hf₂, State.calling_eq h.top, State.setFrames_setFrames, State.setTop_of_frames _ hr', hr]
      rfl
    have hsame : U.sameButNew ({ U with heap := s₂.heap, slotsUsed := s₂.slotsUsed } : State) L mc ms := by
      refine ⟨?_, q2, q3, q4, q5, q6⟩
      obtain ⟨t, ht, -⟩ := State.frames_cons hr
      show ({ U with heap := s₂.heap, slotsUsed := s₂.slotsUsed } : State) = { U.setFrames U.frames with heap := s₂.heap, slotsUsed := s₂.slotsUsed }
      rw [State.setFrames_self ht]
    subst hg
    refine Or.inl ⟨v, ⟨(({ U with heap := s₂.heap, slotsUsed := s₂.slotsUsed } : State).setVm s₂.vm), Ls ++ L, c0 + mc, s0 + ms⟩,
      ⟨X.admits, X.cas, X.clock, X.frames, X.room, X.hears, X.method, X.code, (X.here.setHeapUsed s₂.heap s₂.slotsUsed).setVm hW'.alike, X.tail, State.WarmedH.trans X.warmed hW', X.limits, X.bytes, X.same.trans (hsame.setVm s.vm)⟩,
      ⟨g, mk, s₂, L, rfl, rfl, hqc, rfl, hL, rfl, rfl⟩, ?_⟩
    show Steps p.tables e below _ ((({ U with heap := s₂.heap, slotsUsed := s₂.slotsUsed } : State).setVm s₂.vm).setTop { g with pc := g.pc + len₂, stack := v.toList ++ g.stack })
    rw [← hs₂]
    exact hsteps
  · obtain ⟨e2, q2, q3, q4, q5, q6⟩ := id hsm
    have e3 : s₂ = ({ (U.calling g mk a).setFrames s₂.frames with heap := s₂.heap, slotsUsed := s₂.slotsUsed } : State).setVm s₂.vm := by
      have : s₂ = ({ s₂ with vm := (U.calling g mk a).vm } : State).setVm s₂.vm := rfl
      rw [e2] at this
      exact this
    have hf₂ : s₂.frames = .throwing q :: .java g :: U.frames.tail := hend
    have hW' : U.WarmedH s₂.vm := hW₂
    have hs₂ : s₂ = ((({ U with heap := s₂.heap, slotsUsed := s₂.slotsUsed } : State).setVm s₂.vm).setTop g).pushFrame (.throwing q) := by
      refine e3.trans ?_
      rw [hf₂, State.calling_eq h.top, State.setFrames_setFrames, State.pushFrame, State.frames_setTop _ hr', State.setTop_of_frames _ hr', State.setFrames_setFrames, hr]
      rfl
    have hsame : U.sameButNew ({ U with heap := s₂.heap, slotsUsed := s₂.slotsUsed } : State) L mc ms := by
      refine ⟨?_, q2, q3, q4, q5, q6⟩
      obtain ⟨t, ht, -⟩ := State.frames_cons hr
      show ({ U with heap := s₂.heap, slotsUsed := s₂.slotsUsed } : State) = { U.setFrames U.frames with heap := s₂.heap, slotsUsed := s₂.slotsUsed }
      rw [State.setFrames_self ht]
    subst hg
    refine Or.inr ⟨q, ⟨(({ U with heap := s₂.heap, slotsUsed := s₂.slotsUsed } : State).setVm s₂.vm), Ls ++ L, c0 + mc, s0 + ms⟩,
      ⟨X.admits, X.cas, X.clock, X.frames, X.room, X.hears, X.method, X.code, (X.here.setHeapUsed s₂.heap s₂.slotsUsed).setVm hW'.alike, X.tail, State.WarmedH.trans X.warmed hW', X.limits, X.bytes, X.same.trans (hsame.setVm s.vm)⟩,
      ⟨g, mk, s₂, L, E, ce, rfl, rfl, hx, hce, hcv, hcl, rfl, hL, rfl, rfl⟩, ?_⟩
    show Steps p.tables e below _ (((({ U with heap := s₂.heap, slotsUsed := s₂.slotsUsed } : State).setVm s₂.vm).setTop g).pushFrame (.throwing q))
    rw [← hs₂]
    exact hsteps
end
variable {p : Program} {l : Launch} {e : Env} {R : Room} {s : State} {m : MethodId} {args : Array Value} {below : List Frame} {meth : Method} {c : Code} {T : State} {H : Heap} {locs : List Loc} {cells slots : Nat}
theorem vx_callVX (X : Stand p l e R s m args below meth c T locs cells slots) (hexec : p.tables.exec = Jvm.exec) {own C : String} {index : Nat} {y : MethodName} {bytes : ByteArray} {maxL : Nat} {ret : Option FieldType} {hh : List (Nat × Nat × Nat × Nat)}
    (hown : s.vm.findClass own = some m.cls) (hlink : (Cond.methodLink own index y).before args s = true) (hinst : (Cond.instanceMethod y).before args s = true) (hsel : (Cond.selects C y y).before args s = true)
    (hcode : (Cond.codeWith y bytes maxL ret hh).before args s = true) (hy : y.cls ≠ "java/lang/invoke/MethodHandle" ∧ y.cls ≠ "java/lang/invoke/VarHandle")
    {W9 : Nat} {Pre : Pt → Array Value → Prop} {Post : Pt → Array Value → Option Value → Pt → Prop} {PostX : Pt → Array Value → Addr → Pt → Prop} (hK : vx_Back l R p e below s args y 3 W9 Pre Post PostX)
    {b : Addr} {cellB : Cell} (hcell : T.heap[b]? = some cellB) (hobj : cellB.vm.isStatics = false) (hcls : s.vm.findClass C = some cellB.cls)
    {g : JFrame} (hg : g.method = m) (hsize : g.locals.size = c.maxLocals) {argsL rest : List Value} (hlen : ∀ sig, parseMethodDescriptor y.desc = some sig → argsL.length = sig.parameters.length)
    (hstack : g.stack = argsL.reverse ++ .ref b :: rest) (hW : 2 * g.monitorRoom + (rest.map fun v => v.category).sum ≤ W9) (hdg : decode c.code g.pc = .ok (.invokevirtual index, 3))
    (hpre : ∀ vm₁, s.WarmedH vm₁ → Pre ⟨T.setVm vm₁, locs, cells, slots⟩ (Value.ref b :: argsL).toArray) :
    (∃ (v : Option Value) (vm₁ : Vm) (B : Pt), s.WarmedH vm₁ ∧ Stand p l e R s m args below meth c B.U B.locs B.cells B.slots ∧ Post ⟨T.setVm vm₁, locs, cells, slots⟩ (Value.ref b :: argsL).toArray v B ∧
      ∀ target, Steps p.tables e below (B.U.setTop { g with pc := g.pc + 3, stack := v.toList ++ rest }) target → Steps p.tables e below (T.setTop g) target) ∨
    (∃ (q : Addr) (vm₁ : Vm) (B : Pt), s.WarmedH vm₁ ∧ Stand p l e R s m args below meth c B.U B.locs B.cells B.slots ∧ PostX ⟨T.setVm vm₁, locs, cells, slots⟩ (Value.ref b :: argsL).toArray q B ∧
      Steps p.tables e below (T.setTop g) ((B.U.setTop { g with stack := rest }).pushFrame (.throwing q))) := by
  obtain ⟨mk, methM, hnamed, hmethM, hstM, habM⟩ := Cond.instanceMethod_spec hinst
  obtain ⟨m8, methM', cM, hn8, hmethM', -, -, -, -, -, -, hsigM⟩ := Cond.codeWith_spec hcode
  cases Option.some.inj (hn8.symm.trans hnamed)
  cases hmethM.symm.trans hmethM'
  obtain ⟨c2, r2, m2, q1, q2, q3, q4, kP, hkP, hkPi⟩ := Cond.selects_spec hsel
  cases hcls.symm.trans q1
  cases (State.methodFound?_of_named hnamed hy).symm.trans q2
  cases hnamed.symm.trans q3
  have hselP : selectMethod e.platform s.vm cellB.cls mk = .method mk := by rw [Launch.admits_selectMethod X.admits]; exact q4
  obtain ⟨vm₁, X₁, hstep₁⟩ := X.invokevirtual hexec hown hlink hnamed hmethM hstM hkP hkPi hy (a := b) (cell := cellB) hcell
    (fun z h => by rw [h] at hobj; cases hobj) hselP hmethM habM hkP hkPi (g := g) hg (argsL := argsL) (rest := rest) (hlen _ hsigM) hstack hdg
  rcases hK m meth c ⟨T.setVm vm₁, locs, cells, slots⟩ { g with stack := rest } (.invokevirtual index) mk (Value.ref b :: argsL).toArray X₁ hg hsize hdg hW (X₁.named hnamed) (hpre vm₁ X₁.warmed) with ⟨v, B, X', hpost, hsteps⟩ | ⟨q, B, X', hpost, hsteps⟩
  · exact Or.inl ⟨v, vm₁, B, X₁.warmed, X', hpost, fun target h => hstep₁ _ fun acts => by rw [doInvoke_state]; exact hsteps.trans h⟩
  · exact Or.inr ⟨q, vm₁, B, X₁.warmed, X', hpost, hstep₁ _ fun acts => by rw [doInvoke_state]; exact hsteps⟩
theorem vx_callSX (X : Stand p l e R s m args below meth c T locs cells slots) (hexec : p.tables.exec = Jvm.exec) {own : String} {index : Nat} {y : MethodName} {bytes : ByteArray} {maxL : Nat} {ret : Option FieldType} {hh : List (Nat × Nat × Nat × Nat)}
    (hown : s.vm.findClass own = some m.cls) (hlink : (Cond.methodLink own index y).before args s = true) (hstat : (Cond.static y).before args s = true) (hinit : (Cond.initialized y.cls).before args s = true)
    (hcode : (Cond.codeWith y bytes maxL ret hh).before args s = true) (hy : y.cls ≠ "java/lang/invoke/MethodHandle" ∧ y.cls ≠ "java/lang/invoke/VarHandle")
    {W9 : Nat} {Pre : Pt → Array Value → Prop} {Post : Pt → Array Value → Option Value → Pt → Prop} {PostX : Pt → Array Value → Addr → Pt → Prop} (hK : vx_Back l R p e below s args y 3 W9 Pre Post PostX)
    {g : JFrame} (hg : g.method = m) (hsize : g.locals.size = c.maxLocals) {argsL rest : List Value} (hlen : ∀ sig, parseMethodDescriptor y.desc = some sig → argsL.length = sig.parameters.length)
    (hstack : g.stack = argsL.reverse ++ rest) (hW : 2 * g.monitorRoom + (rest.map fun v => v.category).sum ≤ W9) (hdg : decode c.code g.pc = .ok (.invokestatic index, 3))
    (hpre : ∀ vm₁, s.WarmedH vm₁ → Pre ⟨T.setVm vm₁, locs, cells, slots⟩ argsL.toArray) :
    (∃ (v : Option Value) (vm₁ : Vm) (B : Pt), s.WarmedH vm₁ ∧ Stand p l e R s m args below meth c B.U B.locs B.cells B.slots ∧ Post ⟨T.setVm vm₁, locs, cells, slots⟩ argsL.toArray v B ∧
      ∀ target, Steps p.tables e below (B.U.setTop { g with pc := g.pc + 3, stack := v.toList ++ rest }) target → Steps p.tables e below (T.setTop g) target) ∨
    (∃ (q : Addr) (vm₁ : Vm) (B : Pt), s.WarmedH vm₁ ∧ Stand p l e R s m args below meth c B.U B.locs B.cells B.slots ∧ PostX ⟨T.setVm vm₁, locs, cells, slots⟩ argsL.toArray q B ∧
      Steps p.tables e below (T.setTop g) ((B.U.setTop { g with stack := rest }).pushFrame (.throwing q))) := by
  obtain ⟨mk, methM, cM, hnamed, hmethM, -, -, -, -, -, -, hsigM⟩ := Cond.codeWith_spec hcode
  have hstatic : methM.isStatic = true := Cond.static_spec hnamed hmethM hstat
  obtain ⟨kP, hkP, -⟩ := className_of_methodNamed hnamed
  have hinitP : kP.init = .initialized := Cond.initialized_spec (findClass_of_methodNamed hnamed) hkP hinit
  obtain ⟨vm₁, X₁, hstep₁⟩ := X.invokestatic hexec hown hlink hnamed hmethM hstatic hkP hinitP hy (g := g) hg (argsL := argsL) (rest := rest) (hlen _ hsigM) hstack hdg
  rcases hK m meth c ⟨T.setVm vm₁, locs, cells, slots⟩ { g with stack := rest } (.invokestatic index) mk argsL.toArray X₁ hg hsize hdg hW (X₁.named hnamed) (hpre vm₁ X₁.warmed) with ⟨v, B, X', hpost, hsteps⟩ | ⟨q, B, X', hpost, hsteps⟩
  · exact Or.inl ⟨v, vm₁, B, X₁.warmed, X', hpost, fun target h => hstep₁ _ fun acts => by rw [doInvoke_state]; exact hsteps.trans h⟩
  · exact Or.inr ⟨q, vm₁, B, X₁.warmed, X', hpost, hstep₁ _ fun acts => by rw [doInvoke_state]; exact hsteps⟩
theorem vx_callVW (X : Stand p l e R s m args below meth c T locs cells slots) (hexec : p.tables.exec = Jvm.exec) {own C : String} {index : Nat} {y : MethodName} {bytes : ByteArray} {maxL : Nat} {ret : Option FieldType} {hh : List (Nat × Nat × Nat × Nat)}
    (hown : s.vm.findClass own = some m.cls) (hlink : (Cond.methodLink own index y).before args s = true) (hinst : (Cond.instanceMethod y).before args s = true) (hsel : (Cond.selects C y y).before args s = true)
    (hcode : (Cond.codeWith y bytes maxL ret hh).before args s = true) (hy : y.cls ≠ "java/lang/invoke/MethodHandle" ∧ y.cls ≠ "java/lang/invoke/VarHandle")
    {W9 : Nat} {Pre : Pt → Array Value → Prop} {Post : Pt → Array Value → Option Value → Pt → Prop} (hK : Back l R p e below s args y 3 W9 Pre Post)
    {b : Addr} {cellB : Cell} (hcell : T.heap[b]? = some cellB) (hobj : cellB.vm.isStatics = false) (hcls : s.vm.findClass C = some cellB.cls)
    {g : JFrame} (hg : g.method = m) (hsize : g.locals.size = c.maxLocals) {argsL rest : List Value} (hlen : ∀ sig, parseMethodDescriptor y.desc = some sig → argsL.length = sig.parameters.length)
    (hstack : g.stack = argsL.reverse ++ .ref b :: rest) (hW : 2 * g.monitorRoom + (rest.map fun v => v.category).sum ≤ W9) (hdg : decode c.code g.pc = .ok (.invokevirtual index, 3))
    (hpre : ∀ vm₁, s.WarmedH vm₁ → Pre ⟨T.setVm vm₁, locs, cells, slots⟩ (Value.ref b :: argsL).toArray) :
    ∃ (v : Option Value) (vm₁ : Vm) (B : Pt), s.WarmedH vm₁ ∧ Stand p l e R s m args below meth c B.U B.locs B.cells B.slots ∧ Post ⟨T.setVm vm₁, locs, cells, slots⟩ (Value.ref b :: argsL).toArray v B ∧
      ∀ target, Steps p.tables e below (B.U.setTop { g with pc := g.pc + 3, stack := v.toList ++ rest }) target → Steps p.tables e below (T.setTop g) target := by
  obtain ⟨mk, methM, hnamed, hmethM, hstM, habM⟩ := Cond.instanceMethod_spec hinst
  obtain ⟨m8, methM', cM, hn8, hmethM', -, -, -, -, -, -, hsigM⟩ := Cond.codeWith_spec hcode
  cases Option.some.inj (hn8.symm.trans hnamed)
  cases hmethM.symm.trans hmethM'
  obtain ⟨c2, r2, m2, q1, q2, q3, q4, kP, hkP, hkPi⟩ := Cond.selects_spec hsel
  cases hcls.symm.trans q1
  cases (State.methodFound?_of_named hnamed hy).symm.trans q2
  cases hnamed.symm.trans q3
  have hselP : selectMethod e.platform s.vm cellB.cls mk = .method mk := by rw [Launch.admits_selectMethod X.admits]; exact q4
  obtain ⟨vm₁, X₁, hstep₁⟩ := X.invokevirtual hexec hown hlink hnamed hmethM hstM hkP hkPi hy (a := b) (cell := cellB) hcell
    (fun z h => by rw [h] at hobj; cases hobj) hselP hmethM habM hkP hkPi (g := g) hg (argsL := argsL) (rest := rest) (hlen _ hsigM) hstack hdg
  obtain ⟨v, B, X', hpost, hsteps⟩ := hK m meth c ⟨T.setVm vm₁, locs, cells, slots⟩ { g with stack := rest } (.invokevirtual index) mk (Value.ref b :: argsL).toArray X₁ hg hsize hdg hW (X₁.named hnamed) (hpre vm₁ X₁.warmed)
  exact ⟨v, vm₁, B, X₁.warmed, X', hpost, fun target h => hstep₁ _ fun acts => by rw [doInvoke_state]; exact hsteps.trans h⟩
abbrev vx_CVW (R : Room) (s : State) (args : Array Value) (own C : String) (index : Nat) (y : MethodName) (bytes : ByteArray) (maxL : Nat) (ret : Option FieldType) (hh : List (Nat × Nat × Nat × Nat)) (ws : List Cond) (rm : Room) (mc ms n : Nat) : Prop :=
  (rm.cells = mc ∧ rm.slots = ms ∧ rm.frames + 1 ≤ R.frames ∧ 8 + (maxL + 11) + rm.locals ≤ R.locals ∧ (∀ w ∈ ws, ∀ (a' : Array Value) (U : State), s.WarmedH U.vm → w.before a' U = true) ∧ Cond.codeWith y bytes maxL ret hh ∈ ws) ∧
  (Cond.codeWith y bytes maxL ret hh).before args s = true ∧ (Cond.initialized y.cls).before args s = true ∧ (y.cls ≠ "java/lang/invoke/MethodHandle" ∧ y.cls ≠ "java/lang/invoke/VarHandle") ∧
  (∀ sig, parseMethodDescriptor y.desc = some sig → n = sig.parameters.length) ∧ (Cond.methodLink own index y).before args s = true ∧ (Cond.instanceMethod y).before args s = true ∧ (Cond.selects C y y).before args s = true
theorem vx_cwVW {own C : String} {index maxL mc ms : Nat} {y : MethodName} {bytes : ByteArray} {ret : Option FieldType} {hh : List (Nat × Nat × Nat × Nat)} {Ts ws ws' : List Cond} {rm : Room} (n : Nat) (ht : ∀ w ∈ Ts, w.before args s = true) (hT : GoodIn Ts (wsV own index C y ws)) (hw : ws = Cond.codeWith y bytes maxL ret hh :: ws') (hrc : rm.cells = mc) (hrs : rm.slots = ms)
    (hd : y.cls = C ∧ y.cls ≠ "java/lang/invoke/MethodHandle" ∧ y.cls ≠ "java/lang/invoke/VarHandle" ∧ (parseMethodDescriptor y.desc).map (fun d => d.parameters.length) = some n) (hR : rm.frames + 1 ≤ R.frames ∧ 8 + (maxL + 11) + rm.locals ≤ R.locals) :
    vx_CVW R s args own C index y bytes maxL ret hh ws rm mc ms n := by
  obtain ⟨hC, hd⟩ := hd
  subst hC
  have ok : ∀ w ∈ wsV own index y.cls y ws, w.before args s = true := fun w h => ht w (hT w h).1
  have hG : GoodIn Ts ws := fun w h => hT w (by unfold wsV; exact List.mem_append_right _ h)
  have hc : Cond.codeWith y bytes maxL ret hh ∈ ws := by rw [hw]; exact List.mem_cons_self
  refine ⟨⟨hrc, hrs, hR.1, hR.2, pay_in ht hG, hc⟩, ht _ (hG _ hc).1, ok _ (by simp [wsV]), ⟨hd.1, hd.2.1⟩, fun sig h => ?_, ok _ (by simp [wsV]), ok _ (by simp [wsV]), ok _ (by simp [wsV])⟩
  have h2 := hd.2.2
  rw [h] at h2
  exact (Option.some.inj h2).symm
theorem vx_runVW {y : MethodName} {bytes cc : ByteArray} {maxL nL mc ms n index : Nat} {ret : Option FieldType} {hh : List (Nat × Nat × Nat × Nat)} {ws : List Cond} {rm : Room} {Pc : Array Value → State → Prop} {Qc : Array Value → State → Outcome → State → Prop} {free : Addr → Prop} {Ts : List Cond} {own C : String} {b : Addr} {As rest : List Value} {g : JFrame}
    (S : CallFix p m c cc nL s args Ts own) (hM : Met l y ws rm Pc Qc mc ms free) (cw : vx_CVW R s args own C index y bytes maxL ret hh ws rm mc ms n) (hp : PreV s H C b Pc As)
    (hg : g.method = m) (hn : As.length = n) (hsize : g.locals.size = nL) (hstack : g.stack = As.reverse ++ .ref b :: rest) (hW : 2 * g.monitorRoom + (rest.map fun v => v.category).sum ≤ 8) (hdg : decode cc g.pc = .ok (.invokevirtual index, 3)) (hf : cells + mc ≤ R.cells ∧ slots + ms ≤ R.slots) :
    va_Run p l e R s m args below meth c H locs cells slots mc ms g rest (Qc (Value.ref b :: As).toArray) free := by
  obtain ⟨⟨hrc, hrs, hfr, hlo, hws, hcw⟩, hcode, hini, hy, hlen, hl, hin, hse⟩ := cw
  have hK : Back l R p e below s args y 3 8 (PreOf R mc ms Pc) (PostOf Qc mc ms free) := va_backW (hh := hh) (bytes := bytes) (maxL := maxL) (ret := ret) hM hp.1 hrc hrs hfr hlo hws hcw (fun a' U hW => word_at hW (Or.inl (by first | rfl | simp [Cond.onTables, Cond.keeps, Cond.steady])) hini)
  obtain ⟨hx, hb, hml, ho, -⟩ := S
  obtain ⟨-, ⟨cellB, hcB, hoB, hclB⟩, hPc⟩ := hp
  intro T hT X
  obtain ⟨v, vm₁, ⟨U', l2, c2, s2⟩, hW₁, X', ⟨g', mk, t, L, e1, e2, hq, h1, hL, h2, h3⟩, st⟩ := vx_callVW X hx (C := C) (hh := hh) (bytes := bytes) (maxL := maxL) (ret := ret) ho hl hin hse hcode hy hK (by rw [hT]; exact hcB) hoB hclB hg (hsize.trans hml.symm) (argsL := As) (rest := rest) (fun sig h => hn.trans (hlen sig h)) hstack hW (by rw [hb]; exact hdg)
    (fun vm₁ hW₁ => ⟨hf.1, hf.2, hPc (T.setVm vm₁) hT hW₁⟩)
  dsimp only [Pt.U, Pt.locs, Pt.cells, Pt.slots] at X' e1 e2 h1 h2 h3 st
  subst h1; subst h2; subst h3
  exact ⟨v, (T.setVm vm₁).calling g' mk (Value.ref b :: As).toArray, t, U', L, hT, X', hL, e1, e2, hq, st⟩
section
variable {y : MethodName} {bytes cc : ByteArray} {maxL nL mc ms n index : Nat} {ret : Option FieldType} {ws : List Cond} {rm : Room} {Pc : Array Value → State → Prop} {Qc : Array Value → State → Outcome → State → Prop} {XC : String → State → State → Prop} {free : Addr → Prop} {Ts : List Cond} {own C : String} {b : Addr} {As rest : List Value} {g : JFrame}
theorem vx_runVX {hh : List (Nat × Nat × Nat × Nat)} (S : CallFix p m c cc nL s args Ts own) (hM : vx_Met l y ws rm Pc Qc XC mc ms free) (cw : vx_CVW R s args own C index y bytes maxL ret hh ws rm mc ms n) (hp : PreV s H C b Pc As)
    (hg : g.method = m) (hn : As.length = n) (hsize : g.locals.size = nL) (hstack : g.stack = As.reverse ++ .ref b :: rest) (hW : 2 * g.monitorRoom + (rest.map fun v => v.category).sum ≤ 8) (hdg : decode cc g.pc = .ok (.invokevirtual index, 3)) (hf : cells + mc ≤ R.cells ∧ slots + ms ≤ R.slots) :
    vx_Run p l e R s m args below meth c H locs cells slots mc ms g rest (Qc (Value.ref b :: As).toArray) XC free := by
  obtain ⟨⟨hrc, hrs, hfr, hlo, hws, hcw⟩, hcode, hini, hy, hlen, hl, hin, hse⟩ := cw
  have hK : vx_Back l R p e below s args y 3 8 (PreOf R mc ms Pc) (PostOf Qc mc ms free) (vx_Post XC mc ms free) := vx_backW (hh := hh) (bytes := bytes) (maxL := maxL) (ret := ret) hM hp.1 hrc hrs hfr hlo hws hcw (fun a' U hW => word_at hW (Or.inl (by first | rfl | simp [Cond.onTables, Cond.keeps, Cond.steady])) hini)
  obtain ⟨hx, hb, hml, ho, -⟩ := S
  obtain ⟨-, ⟨cellB, hcB, hoB, hclB⟩, hPc⟩ := hp
  intro T hT X
  rcases vx_callVX X hx (C := C) (hh := hh) (bytes := bytes) (maxL := maxL) (ret := ret) ho hl hin hse hcode hy hK (by rw [hT]; exact hcB) hoB hclB hg (hsize.trans hml.symm) (argsL := As) (rest := rest) (fun sig h => hn.trans (hlen sig h)) hstack hW (by rw [hb]; exact hdg)
    (fun vm₁ hW₁ => ⟨hf.1, hf.2, hPc (T.setVm vm₁) hT hW₁⟩) with ⟨v, vm₁, ⟨U', l2, c2, s2⟩, hW₁, X', ⟨g', mk, t, L, e1, e2, hq, h1, hL, h2, h3⟩, st⟩ | ⟨q, vm₁, ⟨U', l2, c2, s2⟩, hW₁, X', ⟨g', mk, t, L, E, ce, e1, e2, hq, hce, hcv, hcl, h1, hL, h2, h3⟩, st⟩
  · dsimp only [Pt.U, Pt.locs, Pt.cells, Pt.slots] at X' e1 e2 h1 h2 h3 st
    subst h1; subst h2; subst h3
    exact Or.inl ⟨v, (T.setVm vm₁).calling g' mk (Value.ref b :: As).toArray, t, U', L, hT, X', hL, e1, e2, hq, st⟩
  · dsimp only [Pt.U, Pt.locs, Pt.cells, Pt.slots] at X' e1 e2 h1 h2 h3 st hcl
    subst h1; subst h2; subst h3
    exact Or.inr ⟨q, (T.setVm vm₁).calling g' mk (Value.ref b :: As).toArray, t, U', L, E, ce, hT, X', hL, e1, e2, hq, hce, hcv, vx_cls hW₁ hcl, st⟩
theorem vx_runSX {hh : List (Nat × Nat × Nat × Nat)} (S : CallFix p m c cc nL s args Ts own) (hM : vx_Met l y ws rm Pc Qc XC mc ms free) (cw : vx_CSW R s args own index y bytes maxL ret hh ws rm mc ms n) (hp : PreS s H Pc As)
    (hg : g.method = m) (hn : As.length = n) (hsize : g.locals.size = nL) (hstack : g.stack = As.reverse ++ rest) (hW : 2 * g.monitorRoom + (rest.map fun v => v.category).sum ≤ 8) (hdg : decode cc g.pc = .ok (.invokestatic index, 3)) (hf : cells + mc ≤ R.cells ∧ slots + ms ≤ R.slots) :
    vx_Run p l e R s m args below meth c H locs cells slots mc ms g rest (Qc As.toArray) XC free := by
  obtain ⟨⟨hrc, hrs, hfr, hlo, hws, hcw⟩, hcode, hini, hy, hlen, hl, hstt⟩ := cw
  have hK : vx_Back l R p e below s args y 3 8 (PreOf R mc ms Pc) (PostOf Qc mc ms free) (vx_Post XC mc ms free) := vx_backW (hh := hh) (bytes := bytes) (maxL := maxL) (ret := ret) hM hp.1 hrc hrs hfr hlo hws hcw (fun a' U hW => word_at hW (Or.inl (by first | rfl | simp [Cond.onTables, Cond.keeps, Cond.steady])) hini)
  obtain ⟨hx, hb, hml, ho, -⟩ := S
  intro T hT X
  rcases vx_callSX X hx (hh := hh) (bytes := bytes) (maxL := maxL) (ret := ret) ho hl hstt hini hcode hy hK hg (hsize.trans hml.symm) (argsL := As) (rest := rest) (fun sig h => hn.trans (hlen sig h)) hstack hW (by rw [hb]; exact hdg)
    (fun vm₁ hW₁ => ⟨hf.1, hf.2, hp.2 (T.setVm vm₁) hT hW₁⟩) with ⟨v, vm₁, ⟨U', l2, c2, s2⟩, hW₁, X', ⟨g', mk, t, L, e1, e2, hq, h1, hL, h2, h3⟩, st⟩ | ⟨q, vm₁, ⟨U', l2, c2, s2⟩, hW₁, X', ⟨g', mk, t, L, E, ce, e1, e2, hq, hce, hcv, hcl, h1, hL, h2, h3⟩, st⟩
  · dsimp only [Pt.U, Pt.locs, Pt.cells, Pt.slots] at X' e1 e2 h1 h2 h3 st
    subst h1; subst h2; subst h3
    exact Or.inl ⟨v, (T.setVm vm₁).calling g' mk As.toArray, t, U', L, hT, X', hL, e1, e2, hq, st⟩
  · dsimp only [Pt.U, Pt.locs, Pt.cells, Pt.slots] at X' e1 e2 h1 h2 h3 st hcl
    subst h1; subst h2; subst h3
    exact Or.inr ⟨q, (T.setVm vm₁).calling g' mk As.toArray, t, U', L, E, ce, hT, X', hL, e1, e2, hq, hce, hcv, vx_cls hW₁ hcl, st⟩
end
end VXH
theorem vx_ofWH {l : Launch} {y : MethodName} {ws ws' : List Cond} {rm : Room} {Pc : Array Value → State → Prop} {Qc : Array Value → State → Outcome → State → Prop} {XC : String → State → State → Prop} {mc ms : Nat} {free : Addr → Prop} {cc : ByteArray} {maxL : Nat} {ret : Option FieldType} {hh : List (Nat × Nat × Nat × Nat)}
    (hy : plainName y.cls = true) (hw : ws = Cond.codeWith y cc maxL ret hh :: ws')
    (body : ∀ p e s m args below meth c s₁, BodyLoose p l y (headSpec ws rm) cc maxL ret e s m args below meth c s₁ → c.maxLocals = maxL → Pc args s →
      W p l e (headSpec ws rm).room s m args below meth c s.heap [] 0 0 (vx_MQ below Qc XC args s mc ms free) (entryFrame m args maxL)) : vx_Met l y ws rm Pc Qc XC mc ms free := by
  refine MetFree.of_bodyS (code := cc) (maxLocals := maxL) (ret := ret) hy ?_ ?_
  · intro args s m h hn
    obtain ⟨m9, meth, c, hn9, h1, h2, h3, h4, -, h5, h6, -⟩ := Cond.codeWith_spec (atoms_spec (ws := ws) h _ (by rw [hw]; exact List.mem_cons_self))
    cases hn.symm.trans hn9
    exact ⟨meth, c, h1, h2, h3, h4, h5, h6⟩
  · intro p e s m args below meth c s₁ B hml hP _
    have hh0 : s₁.heap = s.heap := by rw [B.state]; rfl
    obtain ⟨t, a1, o, b1, b2, b3⟩ := body p e s m args below meth c s₁ B hml hP s₁ hh0 (Stand.of_body B)
    exact ⟨t, o, a1, b1, b2, b3⟩
/-! ===== END ===== -/
end
section
/-! WORLDS AS MAPS: an address holds an entry, or nothing is said of it; all that is spoken of lies from B on. -/
abbrev Wd : Type := Nat → Option va_E
def wset (w : Wd) (a : Nat) (x : va_E) : Wd := fun q => if q = a then some x else w q
theorem wset_at (w : Wd) (a : Nat) (x : va_E) : wset w a x a = some x := by simp [wset]
theorem wset_ne {w : Wd} {a b : Nat} {x : va_E} (h : b ≠ a) : wset w a x b = w b := by simp [wset, h]
theorem wset_wset (w : Wd) (a : Nat) (x y : va_E) : wset (wset w a x) a y = wset w a y := by
  funext q
  by_cases h : q = a <;> simp [wset, h]
theorem wset_self {w : Wd} {a : Nat} {x : va_E} (h : w a = some x) : wset w a x = w := by
  funext q
  by_cases hq : q = a
  · subst hq
    rw [wset_at, h]
  · rw [wset_ne hq]
theorem wset_comm {w : Wd} {a b : Nat} {x y : va_E} (h : a ≠ b) : wset (wset w a x) b y = wset (wset w b y) a x := by
  funext q
  by_cases h1 : q = a
  · subst h1
    rw [wset_ne h, wset_at, wset_at]
  · by_cases h2 : q = b
    · subst h2
      rw [wset_at, wset_ne h1, wset_at]
    · rw [wset_ne h2, wset_ne h1, wset_ne h1, wset_ne h2]
/-- the heap holds the map -/
def mw (B : Nat) (D : va_G) (cl : List vw_C) (w : Wd) (H : Heap) : Prop := B ≤ H.size ∧ ∀ (a : Nat) (x : va_E), w a = some x → B ≤ a ∧ va_at D cl (a, x) H
/-- .. and since H0 nothing below B has changed -/
def mS (B : Nat) (D : va_G) (cl : List vw_C) (H0 : Heap) (w : Wd) (H : Heap) (locs : List Loc) : Prop := mw B D cl w H ∧ va_S (fun q => B ≤ q) H0 H locs
/-- the nest's words, all of them -/
def mN (N : List Cond) (U : State) : Prop := ∀ w ∈ N, va_Nw w U
def nestWord : Cond → Bool
  | .fieldLinkNest _ _ _ _ _ _ => true
  | .methodLinkNest _ _ _ _ => true
  | .castable _ _ => true
  | .declares _ => true
  | _ => false
theorem mN.warm {N : List Cond} (hN : N.all nestWord = true) {s U : State} (hW : s.WarmedH U.vm) (h : mN N s) : mN N U := by
  intro w hw
  have h1 := List.all_eq_true.mp hN w hw
  have h2 := h w hw
  cases w <;> first | exact va_Nw.warmF hW h2 | exact va_Nw.warmM hW h2 | exact va_Nw.warmC hW h2 | exact va_Nw.warmD hW h2 | cases h1
theorem mN.same {N : List Cond} (hN : N.all nestWord = true) {s U : State} (hv : s.vm = U.vm) (h : mN N s) : mN N U := by
  intro w hw
  have h1 := List.all_eq_true.mp hN w hw
  have h2 := h w hw
  cases w <;> first | exact va_Nw.same rfl hv h2 | cases h1
/-- what a method is begun with: the map, the tables, the nest's words -/
def mP (B : Nat) (D : va_G) (cl : List vw_C) (tys : List (ClassId × FieldType)) (N : List Cond) (w : Wd) (U : State) : Prop := mw B D cl w U.heap ∧ va_K D cl tys U ∧ mN N U
/-- what it ends with -/
def mE (B : Nat) (D : va_G) (cl : List vw_C) (w : Wd) (U : State) : Prop := mw B D cl w U.heap
theorem mw.fresh {B : Nat} {D : va_G} {cl : List vw_C} {w : Wd} {H : Heap} (h : mw B D cl w H) : w H.size = none := by
  cases hq : w H.size with
  | none => rfl
  | some x => exact absurd (h.2 _ _ hq).2.lt (Nat.lt_irrefl _)
theorem mS.one {B : Nat} {D : va_G} {cl : List vw_C} {H0 : Heap} {w : Wd} {H : Heap} {locs : List Loc} {a : Nat} {x : va_E} (h : mS B D cl H0 w H locs) (ha : w a = some x) : va_P D cl [(a, x)] H := by
  intro k q hk
  match k, hk with
  | 0, hk => cases hk; exact (h.1.2 a x ha).2
  | k + 1, hk => simp at hk
theorem mS.put {B : Nat} {D : va_G} {cl : List vw_C} {H0 : Heap} {w : Wd} {H H1 : Heap} {locs : List Loc} {a i : Nat} {x0 x : va_E} (h : mS B D cl H0 w H locs) (ha : w a = some x0) (he : va_at D cl (a, x) H1) (z : H1.size = H.size) (oq : ∀ q : Nat, q ≠ a → H1[q]? = H[q]?) : mS B D cl H0 (wset w a x) H1 (locs ++ [⟨a, i⟩]) := by
  refine ⟨⟨by rw [z]; exact h.1.1, fun q y hq => ?_⟩, h.2.put z oq (h.1.2 a x0 ha).1⟩
  by_cases e : q = a
  · subst e
    rw [wset_at] at hq
    cases hq
    exact ⟨(h.1.2 q x0 ha).1, he⟩
  · rw [wset_ne e] at hq
    exact ⟨(h.1.2 q y hq).1, (h.1.2 q y hq).2.kept (oq q e)⟩
theorem mS.new {B : Nat} {D : va_G} {cl : List vw_C} {H0 : Heap} {w : Wd} {H H1 : Heap} {locs : List Loc} {x : va_E} (h : mS B D cl H0 w H locs) (he : va_at D cl (H.size, x) H1) (z : H1.size = H.size + 1) (oq : ∀ q : Nat, q < H.size → H1[q]? = H[q]?) : mS B D cl H0 (wset w H.size x) H1 locs := by
  have hB := h.1.1
  refine ⟨⟨by omega, fun q y hq => ?_⟩, Nat.le_trans h.2.1 (by omega), fun q h1 h2 => (oq q (Nat.lt_of_lt_of_le h1 h.2.1)).trans (h.2.2.1 q h1 h2), h.2.2.2⟩
  by_cases e : q = H.size
  · subst e
    rw [wset_at] at hq
    cases hq
    exact ⟨hB, he⟩
  · rw [wset_ne e] at hq
    exact ⟨(h.1.2 q y hq).1, (h.1.2 q y hq).2.kept (oq q (h.1.2 q y hq).2.lt)⟩
theorem mS.start {B : Nat} {D : va_G} {cl : List vw_C} {w : Wd} {H : Heap} (h : mw B D cl w H) : mS B D cl H w H [] := ⟨h, va_S.rf⟩
theorem mP.moved {B : Nat} {D : va_G} {cl : List vw_C} {tys : List (ClassId × FieldType)} {N : List Cond} (hN : N.all nestWord = true) {w : Wd} {s U : State} {H : Heap} (hK : va_K D cl tys s) (hn : mN N s) (h : mw B D cl w H) (hU : U.heap = H) (hW : s.WarmedH U.vm) : mP B D cl tys N w U := ⟨by rw [hU]; exact h, va_K.moved hW.alike hK, mN.warm hN hW hn⟩
theorem mP.blind {B : Nat} {D : va_G} {cl : List vw_C} {tys : List (ClassId × FieldType)} {N : List Cond} (hN : N.all nestWord = true) {w : Wd} {av : List Value} : FrameBlind (va_Pc av (mP B D cl tys N w)) := fun a U g mk q => by
  obtain ⟨q0, q1, q2, q3⟩ := q
  exact ⟨q0, q1, va_K.moved (u := U) (U := U.calling g mk a) (Vm.Alike.refl U.vm) q2, mN.same (s := U) (U := U.calling g mk a) hN rfl q3⟩
section MW
variable {p : Program} {l : Launch} {e : Env} {R : Room} {s : State} {m : MethodId} {args : Array Value} {below : List Frame} {meth : Method} {c : Code} {H : Heap} {locs : List Loc} {cells slots : Nat} {Q : State → Prop}
variable {cc : ByteArray} {pc : Nat} {ls : Array Slot} {rest : List Value} {D : va_G} {cl : List vw_C} {B : Nat} {a : Nat} {tys : List (ClassId × FieldType)} {w : Wd} {H0 : Heap}
theorem mPreS {N : List Cond} (hN : N.all nestWord = true) {av : List Value} (hK : va_K D cl tys s) (hn : mN N s) (hm : mS B D cl H0 w H locs) : PreS s H (va_Pc av (mP B D cl tys N w)) av :=
  ⟨mP.blind hN, fun U hU hW => ⟨rfl, mP.moved hN hK hn hm.1 hU hW⟩⟩
theorem mPreV {N : List Cond} (hN : N.all nestWord = true) {av : List Value} {ci : Nat} {q : vw_C} {fs : List Value} (hK : va_K D cl tys s) (hn : mN N s) (hm : mS B D cl H0 w H locs) (hc : cl[ci]? = some q) (he : w a = some (.inr (ci, fs))) : PreV s H q.1 a (va_Pc (.ref a :: av) (mP B D cl tys N w)) av :=
  ⟨mP.blind hN, va_recv hK (hm.one he) (q0 := 0) hc rfl, fun U hU hW => ⟨rfl, mP.moved hN hK hn hm.1 hU hW⟩⟩
theorem mget (hexec : p.tables.exec = Jvm.exec) (hb : c.code = cc) {own ref C : String} {T : u_T} {N ci index : Nat} {Ts : List Cond} (hts : ∀ w ∈ Ts, w.before args s = true) (hin : ∀ w ∈ u_ws C T N, w ∈ Ts) (hown : s.vm.findClass own = some m.cls) (hK : va_K D cl tys s) (hm : mS B D cl H0 w H locs) {fs : List Value} (he : w a = some (.inr (ci, fs))) (hc : cl[ci]? = some (C, T, N)) (k : Nat) (hk : k < N) (hlink : (Cond.fieldLink own index ref (T k).2.1 (T k).2.2.1).before args s = true) (hsame : ∀ x, s.fieldFound? (T k).1 (T k).2.1 (T k).2.2.1 = some x → s.fieldFound? ref (T k).2.1 (T k).2.2.1 = some x) {v : Value} (hv : fs[k]? = some v) (hdg : decode cc pc = .ok (.getfield index, 3))
    (kk : W p l e R s m args below meth c H locs cells slots Q (F0 m (pc + 3) ls (v :: rest))) : W p l e R s m args below meth c H locs cells slots Q (F0 m pc ls (.ref a :: rest)) :=
  va_get hexec hb hts hin hown hK (hm.one he) 0 rfl hc k hk hlink hsame hv hdg kk
theorem mgetN (hexec : p.tables.exec = Jvm.exec) (hb : c.code = cc) {own ref C host : String} {T : u_T} {N ci index : Nat} {Ts : List Cond} (hts : ∀ w ∈ Ts, w.before args s = true) (hin : ∀ w ∈ u_ws C T N, w ∈ Ts) (hown : s.vm.findClass own = some m.cls) (hK : va_K D cl tys s) (hm : mS B D cl H0 w H locs) {fs : List Value} (he : w a = some (.inr (ci, fs))) (hc : cl[ci]? = some (C, T, N)) (k : Nat) (hk : k < N) (hlink : (Cond.fieldLinkNest own index ref (T k).2.1 (T k).2.2.1 host).before args s = true) (hsame : ∀ x, s.fieldFound? (T k).1 (T k).2.1 (T k).2.2.1 = some x → s.fieldFound? ref (T k).2.1 (T k).2.2.1 = some x) {v : Value} (hv : fs[k]? = some v) (hdg : decode cc pc = .ok (.getfield index, 3))
    (kk : W p l e R s m args below meth c H locs cells slots Q (F0 m (pc + 3) ls (v :: rest))) : W p l e R s m args below meth c H locs cells slots Q (F0 m pc ls (.ref a :: rest)) :=
  va_getN hexec hb hts hin hown hK (hm.one he) 0 rfl hc k hk hlink hsame hv hdg kk
theorem mput (hexec : p.tables.exec = Jvm.exec) (hb : c.code = cc) {own ref C : String} {T : u_T} {N ci index : Nat} {Ts : List Cond} (hts : ∀ w ∈ Ts, w.before args s = true) (hin : ∀ w ∈ u_ws C T N, w ∈ Ts) (ty0 : Nat → FieldType) (hty : ∀ k, k < N → parseFieldDescriptor (T k).2.2.1 = some (ty0 k)) (hnm : ∀ a, a < N → ∀ b, b < N → a ≠ b → (T a).2.1 ≠ (T b).2.1) (hown : s.vm.findClass own = some m.cls) (hK : va_K D cl tys s) (hm : mS B D cl H0 w H locs) {fs : List Value} (he : w a = some (.inr (ci, fs))) (hc : cl[ci]? = some (C, T, N)) (k : Nat) (hk : k < N) (hlink : (Cond.fieldLink own index ref (T k).2.1 (T k).2.2.1).before args s = true) (hsame : ∀ x, s.fieldFound? (T k).1 (T k).2.1 (T k).2.2.1 = some x → s.fieldFound? ref (T k).2.1 (T k).2.2.1 = some x) (hfin : (T k).2.2.2 = false) {ty : FieldType} {v : Value} (hd : parseFieldDescriptor (T k).2.2.1 = some ty) (hn : narrow ty v = v) (hfit : fits ty v = true) (hl : k < fs.length)
    (hdg : decode cc pc = .ok (.putfield index, 3)) (kk : ∀ (H1 : Heap) (locs1 : List Loc), mS B D cl H0 (wset w a (.inr (ci, fs.set k v))) H1 locs1 → W p l e R s m args below meth c H1 locs1 cells slots Q (F0 m (pc + 3) ls rest)) : W p l e R s m args below meth c H locs cells slots Q (F0 m pc ls (v :: .ref a :: rest)) := by
  have hap := va_apart (own := own) hts hin ty0 hty hnm hK hc
  obtain ⟨r, h1, cell, q1, q2, q3, q4⟩ := (hm.1.2 a _ he).2
  have hr : r = (C, T, N) := Option.some.inj (h1.symm.trans hc)
  subst hr
  obtain ⟨hS, hfc, kC, hkC, hkind⟩ := hK.1 ci _ hc
  obtain ⟨cf, kf, fi, f, hi, hsl⟩ := hS k hk
  have hlay := hts _ (hin _ (u_in_lay hk))
  unfold u_lay at hlay
  rw [if_neg (by rw [hfin]; decide)] at hlay
  have hst := (u_facts hfc hkC (u_lays hts hin hk) hi).1
  have h6 := u_store hfc hkC hkind hlay hi hd hn hfit
  refine W.putK hexec hb (f := f) ⟨hown, hlink, ⟨_, _, _, hsame _ hi⟩, hst⟩ (by rw [q2]; exact h6) q1 q3 (by rw [hsl]; exact k2_hasslot (q4 k hk)) rfl rfl hdg fun H' e1 e2 e3 => ?_
  rw [hsl] at e1 ⊢
  exact kk H' _ (hm.put he ⟨_, hc, t_OB.to (V := updV (vp_V fs) k v) ⟨_, e1, q2, q3, t_set q4 hap hk v⟩ (fun j _ => vp_updV_set hl v j)⟩ e2 e3)
theorem mputN (hexec : p.tables.exec = Jvm.exec) (hb : c.code = cc) {own ref C host : String} {T : u_T} {N ci index : Nat} {Ts : List Cond} (hts : ∀ w ∈ Ts, w.before args s = true) (hin : ∀ w ∈ u_ws C T N, w ∈ Ts) (ty0 : Nat → FieldType) (hty : ∀ k, k < N → parseFieldDescriptor (T k).2.2.1 = some (ty0 k)) (hnm : ∀ a, a < N → ∀ b, b < N → a ≠ b → (T a).2.1 ≠ (T b).2.1) (hown : s.vm.findClass own = some m.cls) (hK : va_K D cl tys s) (hm : mS B D cl H0 w H locs) {fs : List Value} (he : w a = some (.inr (ci, fs))) (hc : cl[ci]? = some (C, T, N)) (k : Nat) (hk : k < N) (hlink : (Cond.fieldLinkNest own index ref (T k).2.1 (T k).2.2.1 host).before args s = true) (hsame : ∀ x, s.fieldFound? (T k).1 (T k).2.1 (T k).2.2.1 = some x → s.fieldFound? ref (T k).2.1 (T k).2.2.1 = some x) (hfin : (T k).2.2.2 = false) {ty : FieldType} {v : Value} (hd : parseFieldDescriptor (T k).2.2.1 = some ty) (hn : narrow ty v = v) (hfit : fits ty v = true) (hl : k < fs.length)
    (hdg : decode cc pc = .ok (.putfield index, 3)) (kk : ∀ (H1 : Heap) (locs1 : List Loc), mS B D cl H0 (wset w a (.inr (ci, fs.set k v))) H1 locs1 → W p l e R s m args below meth c H1 locs1 cells slots Q (F0 m (pc + 3) ls rest)) : W p l e R s m args below meth c H locs cells slots Q (F0 m pc ls (v :: .ref a :: rest)) := by
  have hap := va_apart (own := own) hts hin ty0 hty hnm hK hc
  obtain ⟨r, h1, cell, q1, q2, q3, q4⟩ := (hm.1.2 a _ he).2
  have hr : r = (C, T, N) := Option.some.inj (h1.symm.trans hc)
  subst hr
  obtain ⟨hS, hfc, kC, hkC, hkind⟩ := hK.1 ci _ hc
  obtain ⟨cf, kf, fi, f, hi, hsl⟩ := hS k hk
  have hlay := hts _ (hin _ (u_in_lay hk))
  unfold u_lay at hlay
  rw [if_neg (by rw [hfin]; decide)] at hlay
  have hst := (u_facts hfc hkC (u_lays hts hin hk) hi).1
  have h6 := u_store hfc hkC hkind hlay hi hd hn hfit
  refine va_WputK hexec hb (f := f) hown hlink (hsame _ hi) hst (by rw [q2]; exact h6) q1 q3 (by rw [hsl]; exact k2_hasslot (q4 k hk)) rfl rfl hdg fun H' e1 e2 e3 => ?_
  rw [hsl] at e1 ⊢
  exact kk H' _ (hm.put he ⟨_, hc, t_OB.to (V := updV (vp_V fs) k v) ⟨_, e1, q2, q3, t_set q4 hap hk v⟩ (fun j _ => vp_updV_set hl v j)⟩ e2 e3)
theorem mputF (hexec : p.tables.exec = Jvm.exec) (hb : c.code = cc) {own ref C : String} {T : u_T} {N ci index : Nat} {Ts : List Cond} (hts : ∀ w ∈ Ts, w.before args s = true) (hin : ∀ w ∈ u_ws C T N, w ∈ Ts) (ty0 : Nat → FieldType) (hty : ∀ k, k < N → parseFieldDescriptor (T k).2.2.1 = some (ty0 k)) (hnm : ∀ a, a < N → ∀ b, b < N → a ≠ b → (T a).2.1 ≠ (T b).2.1) (hown : s.vm.findClass own = some m.cls) (hK : va_K D cl tys s) (hm : mS B D cl H0 w H locs) {fs : List Value} (he : w a = some (.inr (ci, fs))) (hc : cl[ci]? = some (C, T, N)) (k : Nat) (hk : k < N) (hlink : (Cond.fieldLink own index ref (T k).2.1 (T k).2.2.1).before args s = true) (hsame : ∀ x, s.fieldFound? (T k).1 (T k).2.1 (T k).2.2.1 = some x → s.fieldFound? ref (T k).2.1 (T k).2.2.1 = some x) (hfin : (T k).2.2.2 = true) (hin2 : meth.name = "<init>") (hdecl : (T k).1 = own) {ty : FieldType} {v : Value} (hd : parseFieldDescriptor (T k).2.2.1 = some ty) (hn : narrow ty v = v) (hfit : fits ty v = true) (hl : k < fs.length)
    (hdg : decode cc pc = .ok (.putfield index, 3)) (kk : ∀ (H1 : Heap) (locs1 : List Loc), mS B D cl H0 (wset w a (.inr (ci, fs.set k v))) H1 locs1 → W p l e R s m args below meth c H1 locs1 cells slots Q (F0 m (pc + 3) ls rest)) : W p l e R s m args below meth c H locs cells slots Q (F0 m pc ls (v :: .ref a :: rest)) := by
  have hap := va_apart (own := own) hts hin ty0 hty hnm hK hc
  obtain ⟨r, h1, cell, q1, q2, q3, q4⟩ := (hm.1.2 a _ he).2
  have hr : r = (C, T, N) := Option.some.inj (h1.symm.trans hc)
  subst hr
  obtain ⟨hS, hfc, kC, hkC, hkind⟩ := hK.1 ci _ hc
  obtain ⟨cf, kf, fi, f, hi, hsl⟩ := hS k hk
  have hlay := hts _ (hin _ (u_in_lay hk))
  unfold u_lay at hlay
  rw [if_pos hfin] at hlay
  have hst := (u_facts hfc hkC (u_lays hts hin hk) hi).1
  have hcf : m.cls = cf := by
    obtain ⟨_, _, c', _, _, _, -, -, hf', -, -, -, hown2, -⟩ := Cond.laysFinal_spec hlay
    have e1 : c' = cf := by have := hi.symm.trans hf'; simp at this; exact this.1.symm
    rw [hdecl] at hown2
    rw [← e1]; exact Option.some.inj (hown.symm.trans hown2)
  have h6 := u_fits hfc hkC hkind (Or.inr hlay) hi hd hn hfit
  refine W.putFinK hexec hb hown hlink (hsame _ hi) hst hcf hin2 (by rw [q2]; exact h6) q1 q3 (by rw [hsl]; exact k2_hasslot (q4 k hk)) rfl rfl hdg fun H' e1 e2 e3 => ?_
  rw [hsl] at e1 ⊢
  exact kk H' _ (hm.put he ⟨_, hc, t_OB.to (V := updV (vp_V fs) k v) ⟨_, e1, q2, q3, t_set q4 hap hk v⟩ (fun j _ => vp_updV_set hl v j)⟩ e2 e3)
theorem miald (hexec : p.tables.exec = Jvm.exec) (hb : c.code = cc) (hK : va_K D cl tys s) (hm : mS B D cl H0 w H locs) (t0 : Nat) {cA : ClassId} {n : Nat} {f : Nat → Int32} (ha : w a = some (.inl (cA, n, .inl f))) (ht : tys[t0]? = some (cA, .int)) {i : Int32} (hin : vp_in i n) (hdg : decode cc pc = .ok (.iaload, 1))
    (kk : W p l e R s m args below meth c H locs cells slots Q (F0 m (pc + 1) ls (.int (f i.toNatClampNeg) :: rest))) : W p l e R s m args below meth c H locs cells slots Q (F0 m pc ls (.int i :: .ref a :: rest)) :=
  va_iald hexec hb hK (hm.one ha) 0 t0 rfl ht hin hdg kk
theorem miast (hexec : p.tables.exec = Jvm.exec) (hb : c.code = cc) (hK : va_K D cl tys s) (hm : mS B D cl H0 w H locs) (t0 : Nat) {cA : ClassId} {n : Nat} {f : Nat → Int32} (ha : w a = some (.inl (cA, n, .inl f))) (ht : tys[t0]? = some (cA, .int)) {i : Int32} {x : Int32} (hin : vp_in i n) (hdg : decode cc pc = .ok (.iastore, 1))
    (kk : ∀ (H1 : Heap) (locs1 : List Loc), mS B D cl H0 (wset w a (.inl (cA, n, .inl (upd f i.toNatClampNeg x)))) H1 locs1 → W p l e R s m args below meth c H1 locs1 cells slots Q (F0 m (pc + 1) ls rest)) : W p l e R s m args below meth c H locs cells slots Q (F0 m pc ls (.int x :: .int i :: .ref a :: rest)) := by
  refine W.iast hexec hb (hm.1.2 a _ ha).2 ((hK.2 t0 _ ht).1 n (fun j => .int (f j))) (fun q => by cases q) (by show ¬ (i < 0 ∨ (arrV _ _ _).slots.size ≤ _); rw [arrV_size]; exact hin) rfl rfl hdg fun H1 e z oq => ?_
  refine kk H1 _ (hm.put ha ?_ z oq)
  show H1[a]? = some (vp_cell _ _)
  rw [e]
  rw [vp_cell_i, vp_cell_i, arrV_store]
  congr 2
  funext q
  by_cases hq : q = i.toNatClampNeg
  · subst hq
    simp [updV, upd]
  · simp [updV, upd, hq]
theorem malen (hexec : p.tables.exec = Jvm.exec) (hb : c.code = cc) (hK : va_K D cl tys s) (hm : mS B D cl H0 w H locs) (t0 : Nat) {cA : ClassId} {x : vp_A} (ha : w a = some (.inl (cA, x))) {ty : FieldType} (ht : tys[t0]? = some (cA, ty)) {v : Int32} (hv : Int32.ofNat x.1 = v) (hdg : decode cc pc = .ok (.arraylength, 1))
    (kk : W p l e R s m args below meth c H locs cells slots Q (F0 m (pc + 1) ls (.int v :: rest))) : W p l e R s m args below meth c H locs cells slots Q (F0 m pc ls (.ref a :: rest)) :=
  va_alen hexec hb hK (hm.one ha) 0 t0 rfl ht hv hdg kk
theorem mnew (hexec : p.tables.exec = Jvm.exec) (hb : c.code = cc) {own C : String} {T : u_T} {N ci index : Nat} {Ts : List Cond} (hts : ∀ w ∈ Ts, w.before args s = true) (hin : ∀ w ∈ u_ws C T N, w ∈ Ts) (ty : Nat → FieldType) (hty : ∀ k, k < N → parseFieldDescriptor (T k).2.2.1 = some (ty k)) (hown : s.vm.findClass own = some m.cls) (hcl : (Cond.classLink own index C).before args s = true) (hinst : (Cond.instantiable C N).before args s = true) (hini : (Cond.initialized C).before args s = true)
    (hK : va_K D cl tys s) (hm : mS B D cl H0 w H locs) (hc : cl[ci]? = some (C, T, N)) {fs : List Value} (hfs : ∀ j, j < N → defaultValue (ty j) = vp_V fs j) (hcells : cells + 1 ≤ R.cells) (hslots : slots + N ≤ R.slots) (hdg : decode cc pc = .ok (.new index, 3))
    (kk : ∀ (q : Nat) (H1 : Heap), w q = none → mS B D cl H0 (wset w q (.inr (ci, fs))) H1 locs →
      W p l e R s m args below meth c H1 locs (cells + 1) (slots + N) Q (F0 m (pc + 3) ls (.ref q :: rest))) : W p l e R s m args below meth c H locs cells slots Q (F0 m pc ls rest) := by
  have hKn := hK.1 ci _ hc
  refine W.newcK hexec hb hown hcl hinst hini rfl hdg hcells hslots hKn.2.1 rfl fun H1 kC hkC e1 z1 o1 => ?_
  exact kk H.size H1 hm.1.fresh (hm.new ⟨_, hc, (u_born ty hts hin hKn hkC e1 hty).to hfs⟩ z1 o1)
theorem mnewa (hexec : p.tables.exec = Jvm.exec) (hb : c.code = cc) {atype : ArrayType} (harr : (Cond.arrayClass (newarray.typeOf atype)).before args s = true) {ty : FieldType} (hty : newarray.typeOf atype = ty) (hK : va_K D cl tys s) (hm : mS B D cl H0 w H locs) (t0 : Nat) {cI : ClassId} (ht : tys[t0]? = some (cI, ty)) (hpr : ∀ C, ty ≠ .object C)
    {n : Int32} {N' : Nat} {a0 : vp_A} (ha : ∀ cA : ClassId, vp_cell cA a0 = arrV cA N' (fun _ => defaultValue ty)) (hn : ¬ n < 0) (hN : n.toNatClampNeg = N') (hbytes : N' * componentBytes ty ≤ 536870912) (hcells : cells + 1 ≤ R.cells) (hslots : slots + N' ≤ R.slots) (hdg : decode cc pc = .ok (.newarray atype, 2))
    (kk : ∀ (q : Nat) (H1 : Heap), w q = none → mS B D cl H0 (wset w q (.inl (cI, a0))) H1 locs →
      W p l e R s m args below meth c H1 locs (cells + 1) (slots + N') Q (F0 m (pc + 2) ls (.ref q :: rest))) : W p l e R s m args below meth c H locs cells slots Q (F0 m pc ls (.int n :: rest)) := by
  subst hty
  refine va_newaK hexec hb harr rfl hdg rfl hn hN hbytes hcells hslots rfl fun H1 cA e1 z1 o1 hAr hNm => ?_
  have hRA := (hK.2 t0 _ ht).2
  have hc : cA = cI := by
    cases hq : newarray.typeOf atype with
    | object C => exact absurd hq (hpr C)
    | _ =>
      rw [hq] at hRA hNm
      exact Option.some.inj (hNm.symm.trans hRA)
  subst hc
  refine kk H.size H1 hm.1.fresh (hm.new ?_ z1 o1)
  show H1[H.size]? = some (vp_cell cA a0)
  rw [e1, ha cA]
theorem mloadR (hexec : p.tables.exec = Jvm.exec) (hb : c.code = cc) {k : Fin 4} {i : Nat} {r : Option Nat} (hdg : decode cc pc = .ok (.aload_n k, 1)) (hi : (k : Nat) = i) (hl : ls[i]? = some (.val (va_rf r)))
    (kk : W p l e R s m args below meth c H locs cells slots Q (F0 m (pc + 1) ls (va_rf r :: rest))) : W p l e R s m args below meth c H locs cells slots Q (F0 m pc ls rest) := by
  cases r with
  | none => exact lv_aload_nN hexec hb hdg hi hl kk
  | some x => exact lv_aload_n hexec hb hdg hi hl kk
theorem mloadR2 (hexec : p.tables.exec = Jvm.exec) (hb : c.code = cc) {i : Nat} {r : Option Nat} (hdg : decode cc pc = .ok (.aload i, 2)) (hl : ls[i]? = some (.val (va_rf r)))
    (kk : W p l e R s m args below meth c H locs cells slots Q (F0 m (pc + 2) ls (va_rf r :: rest))) : W p l e R s m args below meth c H locs cells slots Q (F0 m pc ls rest) := by
  cases r with
  | none => exact lv_aloadN hexec hb hdg hl kk
  | some x => exact lv_aload hexec hb hdg hl kk
end MW
section MC
variable {p : Program} {l : Launch} {e : Env} {R : Room} {s : State} {m : MethodId} {args : Array Value} {below : List Frame} {meth : Method} {c : Code} {H : Heap} {locs : List Loc} {cells slots : Nat} {Q : State → Prop}
variable {pc : Nat} {ls : Array Slot} {rest st0 : List Value} {a : Array Value} {H0 : Heap} {mc ms : Nat} {D : va_G} {cl : List vw_C} {B : Nat} {tys : List (ClassId × FieldType)} {w : Wd}
theorem mcalli {post : Int32 → Wd → Prop} (hr : va_Run p l e R s m args below meth c H locs cells slots mc ms (F0 m pc ls st0) rest (va_Qi post (mE B D cl) (fun q => B ≤ q) a) (fun q => B ≤ q)) (hm : mS B D cl H0 w H locs)
    (kk : ∀ (r : Int32) (w1 : Wd) (H1 : Heap) (locs1 : List Loc), post r w1 → mS B D cl H0 w1 H1 locs1 → W p l e R s m args below meth c H1 locs1 (cells + mc) (slots + ms) Q (F0 m (pc + 3) ls (.int r :: rest))) : W p l e R s m args below meth c H locs cells slots Q (F0 m pc ls st0) :=
  va_calli hr hm.2 (fun _ _ h => h) (fun _ h => h) fun r u t H1 locs1 ht _ hp hB _ _ hS => kk r u H1 locs1 hp ⟨by rw [← ht]; exact hB, hS⟩
theorem mcallv {post : Wd → Prop} (hr : va_Run p l e R s m args below meth c H locs cells slots mc ms (F0 m pc ls st0) rest (va_Qv post (mE B D cl) (fun q => B ≤ q) a) (fun q => B ≤ q)) (hm : mS B D cl H0 w H locs)
    (kk : ∀ (w1 : Wd) (H1 : Heap) (locs1 : List Loc), post w1 → mS B D cl H0 w1 H1 locs1 → W p l e R s m args below meth c H1 locs1 (cells + mc) (slots + ms) Q (F0 m (pc + 3) ls rest)) : W p l e R s m args below meth c H locs cells slots Q (F0 m pc ls st0) :=
  va_callv hr hm.2 (fun _ _ h => h) (fun _ h => h) fun u t H1 locs1 ht _ hp hB _ _ hS => kk u H1 locs1 hp ⟨by rw [← ht]; exact hB, hS⟩
theorem mcallq {post : Option Nat → Wd → Prop} (hr : va_Run p l e R s m args below meth c H locs cells slots mc ms (F0 m pc ls st0) rest (va_Qq post (mE B D cl) (fun q => B ≤ q) a) (fun q => B ≤ q)) (hm : mS B D cl H0 w H locs)
    (kk : ∀ (r : Option Nat) (w1 : Wd) (H1 : Heap) (locs1 : List Loc), post r w1 → mS B D cl H0 w1 H1 locs1 → W p l e R s m args below meth c H1 locs1 (cells + mc) (slots + ms) Q (F0 m (pc + 3) ls (va_rf r :: rest))) : W p l e R s m args below meth c H locs cells slots Q (F0 m pc ls st0) :=
  va_callq hr hm.2 (fun _ _ h => h) (fun _ h => h) fun r u t H1 locs1 ht _ hp hB _ _ hS => kk r u H1 locs1 hp ⟨by rw [← ht]; exact hB, hS⟩
end MC
/-! a method's beginning, its ends -/
theorem mMet {l : Launch} {y : MethodName} {ws ws' : List Cond} {rm : Room} {cc : ByteArray} {maxL : Nat} {ret : Option FieldType} {av : List Value} {B : Nat} {D : va_G} {cl : List vw_C} {tys : List (ClassId × FieldType)} {N : List Cond} {w : Wd} {Qc : Array Value → State → Outcome → State → Prop} {mc ms : Nat} {free : Addr → Prop}
    (hy : plainName y.cls = true) (hw : ws = Cond.code y cc maxL ret :: ws') (hav : (lg_sl av).length ≤ maxL)
    (body : ∀ (p : Program) (e : Env) (s : State) (m : MethodId) (below : List Frame) (meth : Method) (c : Code) (ls : Array Slot), p.tables.exec = Jvm.exec → c.code = cc → c.maxLocals = maxL → meth.sig.returnType = ret → meth.locks = false → meth.name = y.name → s.vm.findClass y.cls = some m.cls → (∀ w ∈ ws, w.before av.toArray s = true) → va_K D cl tys s → mN N s → mS B D cl s.heap w s.heap [] → lv_has ls maxL (lv_args 0 av) →
      W p l e rm s m av.toArray below meth c s.heap [] 0 0 (MQ below Qc av.toArray s mc ms free) (F0 m 0 ls [])) : Met l y ws rm (va_Pc av (mP B D cl tys N w)) Qc mc ms free := by
  refine Met.ofW (cc := cc) (maxL := maxL) (ret := ret) hy hw ?_
  intro p e s m args below meth c s₁ X hml hv
  obtain ⟨rfl, hm, hK, hn⟩ := hv
  rw [lg_entry_eq]
  exact body p e s m below meth c _ X.exec X.bytes hml X.returns X.notSynchronized (name_of_methodNamed X.named X.method).1 (findClass_of_methodNamed X.named) (atoms_spec (ws := ws) X.pre) hK hn (mS.start hm) (lv_entry av hav)
section MR
variable {p : Program} {l : Launch} {e : Env} {R : Room} {s : State} {m : MethodId} {args : Array Value} {below : List Frame} {meth : Method} {c : Code} {H : Heap} {locs : List Loc} {cells slots : Nat}
variable {cc : ByteArray} {pc : Nat} {ls : Array Slot} {D : va_G} {cl : List vw_C} {B : Nat} {tys : List (ClassId × FieldType)} {w : Wd}
theorem mreti {post : Int32 → Wd → Prop} {v : Int32} (hexec : p.tables.exec = Jvm.exec) (hb : c.code = cc) (hr : meth.sig.returnType = some .int) (hlocks : meth.locks = false) (hm : mS B D cl s.heap w H locs) (hp : post v w) (hdg : decode cc pc = .ok (.ireturn, 1)) : W p l e R s m args below meth c H locs cells slots (MQ below (va_Qi post (mE B D cl) (fun q => B ≤ q)) args s cells slots (fun q => B ≤ q)) (F0 m pc ls [.int v]) :=
  W.iret hexec hb hr (fun t ht hW => ⟨⟨v, w, rfl, hp, show mw B D cl w t.heap by rw [ht]; exact hm.1⟩, hm.2.F ht⟩) hm.2.2.2 hdg
theorem mretz {post : Int32 → Wd → Prop} {v : Int32} (hexec : p.tables.exec = Jvm.exec) (hb : c.code = cc) (hr : meth.sig.returnType = some .boolean) (hn : narrow .boolean (.int v) = .int v) (hlocks : meth.locks = false) (hm : mS B D cl s.heap w H locs) (hp : post v w) (hdg : decode cc pc = .ok (.ireturn, 1)) : W p l e R s m args below meth c H locs cells slots (MQ below (va_Qi post (mE B D cl) (fun q => B ≤ q)) args s cells slots (fun q => B ≤ q)) (F0 m pc ls [.int v]) :=
  W.zret hexec hb hr hn (fun t ht hW => ⟨⟨v, w, rfl, hp, show mw B D cl w t.heap by rw [ht]; exact hm.1⟩, hm.2.F ht⟩) hm.2.2.2 hdg
theorem mretv {post : Wd → Prop} (hexec : p.tables.exec = Jvm.exec) (hb : c.code = cc) (hr : meth.sig.returnType = none) (hlocks : meth.locks = false) (hm : mS B D cl s.heap w H locs) (hp : post w) (hdg : decode cc pc = .ok (.return_, 1)) : W p l e R s m args below meth c H locs cells slots (MQ below (va_Qv post (mE B D cl) (fun q => B ≤ q)) args s cells slots (fun q => B ≤ q)) (F0 m pc ls []) :=
  W.vret hexec hb hr (fun t ht hW => ⟨⟨w, rfl, hp, show mw B D cl w t.heap by rw [ht]; exact hm.1⟩, hm.2.F ht⟩) hm.2.2.2 hdg
theorem mretq {post : Option Nat → Wd → Prop} {r : Option Nat} {rt : FieldType} (hexec : p.tables.exec = Jvm.exec) (hb : c.code = cc) (hr : meth.sig.returnType = some rt) (hrt : (∃ n, rt = .object n) ∨ ∃ t, rt = .array t) (hlocks : meth.locks = false) (hm : mS B D cl s.heap w H locs) (hp : post r w) (hdg : decode cc pc = .ok (.areturn, 1)) : W p l e R s m args below meth c H locs cells slots (MQ below (va_Qq post (mE B D cl) (fun q => B ≤ q)) args s cells slots (fun q => B ≤ q)) (F0 m pc ls [va_rf r]) :=
  W.aret hexec hb hr hrt (va_rf_or r) (fun t ht hW => ⟨⟨r, w, rfl, hp, show mw B D cl w t.heap by rw [ht]; exact hm.1⟩, hm.2.F ht⟩) hm.2.2.2 hdg
end MR
end
section
/-! more of the maps: boolean and long arrays, references that may be null, contents that agree -/
section MW2
variable {p : Program} {l : Launch} {e : Env} {R : Room} {s : State} {m : MethodId} {args : Array Value} {below : List Frame} {meth : Method} {c : Code} {H : Heap} {locs : List Loc} {cells slots : Nat} {Q : State → Prop}
variable {cc : ByteArray} {pc : Nat} {ls : Array Slot} {rest : List Value} {D : va_G} {cl : List vw_C} {B : Nat} {a : Nat} {tys : List (ClassId × FieldType)} {w : Wd} {H0 : Heap}
theorem mbald (hexec : p.tables.exec = Jvm.exec) (hb : c.code = cc) (hK : va_K D cl tys s) (hm : mS B D cl H0 w H locs) (t0 : Nat) {cA : ClassId} {n : Nat} {f : Nat → Int32} (ha : w a = some (.inl (cA, n, .inl f))) (ht : tys[t0]? = some (cA, .boolean)) {i : Int32} (hin : vp_in i n) (hdg : decode cc pc = .ok (.baload, 1))
    (kk : W p l e R s m args below meth c H locs cells slots Q (F0 m (pc + 1) ls (.int (f i.toNatClampNeg) :: rest))) : W p l e R s m args below meth c H locs cells slots Q (F0 m pc ls (.int i :: .ref a :: rest)) :=
  va_zald hexec hb hK (hm.one ha) 0 t0 rfl ht hin hdg kk
theorem mlald (hexec : p.tables.exec = Jvm.exec) (hb : c.code = cc) (hK : va_K D cl tys s) (hm : mS B D cl H0 w H locs) (t0 : Nat) {cA : ClassId} {n : Nat} {f : Nat → Int64} (ha : w a = some (.inl (cA, n, .inr (.inl f)))) (ht : tys[t0]? = some (cA, .long)) {i : Int32} (hin : vp_in i n) (hdg : decode cc pc = .ok (.laload, 1))
    (kk : W p l e R s m args below meth c H locs cells slots Q (F0 m (pc + 1) ls (.long (f i.toNatClampNeg) :: rest))) : W p l e R s m args below meth c H locs cells slots Q (F0 m pc ls (.int i :: .ref a :: rest)) :=
  va_lald hexec hb hK (hm.one ha) 0 t0 rfl ht hin hdg kk
theorem mbast (hexec : p.tables.exec = Jvm.exec) (hb : c.code = cc) (hK : va_K D cl tys s) (hm : mS B D cl H0 w H locs) (t0 : Nat) {cA : ClassId} {n : Nat} {f : Nat → Int32} (ha : w a = some (.inl (cA, n, .inl f))) (ht : tys[t0]? = some (cA, .boolean)) {i : Int32} {x : Int32} (hin : vp_in i n) (hz : x = 0 ∨ x = 1) (hdg : decode cc pc = .ok (.bastore, 1))
    (kk : ∀ (H1 : Heap) (locs1 : List Loc), mS B D cl H0 (wset w a (.inl (cA, n, .inl (upd f i.toNatClampNeg x)))) H1 locs1 → W p l e R s m args below meth c H1 locs1 cells slots Q (F0 m (pc + 1) ls rest)) : W p l e R s m args below meth c H locs cells slots Q (F0 m pc ls (.int x :: .int i :: .ref a :: rest)) := by
  have hnar : narrow .boolean (.int x) = .int x := by rcases hz with rfl | rfl <;> decide +kernel
  refine W.zast hexec hb (hm.1.2 a _ ha).2 ((hK.2 t0 _ ht).1 n (fun j => .int (f j))) (fun q => by cases q) (by show ¬ (i < 0 ∨ (arrV _ _ _).slots.size ≤ _); rw [arrV_size]; exact hin) rfl rfl hdg fun H1 e z oq => ?_
  refine kk H1 _ (hm.put ha ?_ z oq)
  show H1[a]? = some (vp_cell _ _)
  rw [e]
  rw [hnar, vp_cell_i, vp_cell_i, arrV_store]
  congr 2
  funext q
  by_cases hq : q = i.toNatClampNeg
  · subst hq
    simp [updV, upd]
  · simp [updV, upd, hq]
theorem mlast (hexec : p.tables.exec = Jvm.exec) (hb : c.code = cc) (hK : va_K D cl tys s) (hm : mS B D cl H0 w H locs) (t0 : Nat) {cA : ClassId} {n : Nat} {f : Nat → Int64} (ha : w a = some (.inl (cA, n, .inr (.inl f)))) (ht : tys[t0]? = some (cA, .long)) {i : Int32} {x : Int64} (hin : vp_in i n) (hdg : decode cc pc = .ok (.lastore, 1))
    (kk : ∀ (H1 : Heap) (locs1 : List Loc), mS B D cl H0 (wset w a (.inl (cA, n, .inr (.inl (vp_updL f i.toNatClampNeg x))))) H1 locs1 → W p l e R s m args below meth c H1 locs1 cells slots Q (F0 m (pc + 1) ls rest)) : W p l e R s m args below meth c H locs cells slots Q (F0 m pc ls (.long x :: .int i :: .ref a :: rest)) := by
  refine W.last hexec hb (hm.1.2 a _ ha).2 ((hK.2 t0 _ ht).1 n (fun j => .long (f j))) (fun q => by cases q) (by show ¬ (i < 0 ∨ (arrV _ _ _).slots.size ≤ _); rw [arrV_size]; exact hin) rfl rfl hdg fun H1 e z oq => ?_
  refine kk H1 _ (hm.put ha ?_ z oq)
  show H1[a]? = some (vp_cell _ _)
  rw [e]
  rw [vp_cell_l, vp_cell_l, arrV_store]
  congr 2
  funext q
  by_cases hq : q = i.toNatClampNeg
  · subst hq
    simp [updV, vp_updL]
  · simp [updV, vp_updL, hq]
theorem mstoreR (hexec : p.tables.exec = Jvm.exec) (hb : c.code = cc) {k : Fin 4} {i nL : Nat} {r : Option Nat} {lv lv' : List (Nat × Value)} (hdg : decode cc pc = .ok (.astore_n k, 1)) (hi : (k : Nat) = i) (h : lv_has ls nL lv) (hn : i < nL) (hl : (i, va_rf r) :: lv.filter (fun q => !(q.1 == i) && !(q.1 + 1 == i && q.2.category == 2)) = lv')
    (kk : ∀ ls' : Array Slot, lv_has ls' nL lv' → W p l e R s m args below meth c H locs cells slots Q (F0 m (pc + 1) ls' rest)) : W p l e R s m args below meth c H locs cells slots Q (F0 m pc ls (va_rf r :: rest)) := by
  cases r with
  | none => exact lv_astore_nN hexec hb hdg hi h hn hl kk
  | some x => exact lv_astore_n hexec hb hdg hi h hn hl kk
theorem mstoreR2 (hexec : p.tables.exec = Jvm.exec) (hb : c.code = cc) {i nL : Nat} {r : Option Nat} {lv lv' : List (Nat × Value)} (hdg : decode cc pc = .ok (.astore i, 2)) (h : lv_has ls nL lv) (hn : i < nL) (hl : (i, va_rf r) :: lv.filter (fun q => !(q.1 == i) && !(q.1 + 1 == i && q.2.category == 2)) = lv')
    (kk : ∀ ls' : Array Slot, lv_has ls' nL lv' → W p l e R s m args below meth c H locs cells slots Q (F0 m (pc + 2) ls' rest)) : W p l e R s m args below meth c H locs cells slots Q (F0 m pc ls (va_rf r :: rest)) := by
  cases r with
  | none => exact lv_astoreN hexec hb hdg h hn hl kk
  | some x => exact lv_astore hexec hb hdg h hn hl kk
theorem mS.agree {cA : ClassId} {n : Nat} {f g : Nat → Int32} (hm : mS B D cl H0 (wset w a (.inl (cA, n, .inl f))) H locs) (h : ∀ j, j < n → f j = g j) : mS B D cl H0 (wset w a (.inl (cA, n, .inl g))) H locs := by
  have e : vp_cell cA (n, .inl f) = vp_cell cA (n, .inl g) := by
    rw [vp_cell_i, vp_cell_i]
    unfold arrV
    congr 1
    apply Array.ext
    · simp
    · intro j h1 h2
      simp at h1
      simp [h j h1]
  refine ⟨⟨hm.1.1, fun q x hq => ?_⟩, hm.2⟩
  by_cases hqa : q = a
  · subst hqa
    rw [wset_at] at hq
    cases hq
    have h1 := hm.1.2 q _ (wset_at w q _)
    refine ⟨h1.1, ?_⟩
    have h2 : H[q]? = some (vp_cell cA (n, .inl f)) := h1.2
    show H[q]? = some (vp_cell cA (n, .inl g))
    rw [h2, e]
  · rw [wset_ne hqa] at hq
    exact hm.1.2 q x (by rw [wset_ne hqa]; exact hq)
end MW2
end
section
/-! names by program (wip/whole/tools/names.py) out of the Statement: fields, methods, words by their places -/
def T_J : u_T := fun k => match k with
  | 0 => ("ChainPicker$Job", "number", "I", true)
  | 1 => ("ChainPicker$Job", "series", "I", true)
  | 2 => ("ChainPicker$Job", "level", "I", true)
  | 3 => ("ChainPicker$Job", "upgraded", "Z", true)
  | 4 => ("ChainPicker$Job", "base", "LChainPicker$Job;", true)
  | 5 => ("ChainPicker$Job", "began", "I", true)
  | 6 => ("ChainPicker$Job", "earlier", "LChainPicker$Job;", true)
  | 7 => ("ChainPicker$Job", "versions", "[I", true)
  | 8 => ("ChainPicker$Job", "ended", "I", false)
  | 9 => ("ChainPicker$Job", "state", "I", false)
  | 10 => ("ChainPicker$Job", "pruned", "Z", false)
  | _ => ("ChainPicker$Job", "standing", "I", false)
def t_J : Nat → FieldType := fun k => match k with
  | 0 => .int
  | 1 => .int
  | 2 => .int
  | 3 => .boolean
  | 4 => .object "ChainPicker$Job"
  | 5 => .int
  | 6 => .object "ChainPicker$Job"
  | 7 => .array .int
  | 8 => .int
  | 9 => .int
  | 10 => .boolean
  | _ => .int
theorem n_J : ∀ a, a < 12 → ∀ b, b < 12 → a ≠ b → (T_J a).2.1 ≠ (T_J b).2.1 := by decide +kernel
theorem t_J_ok : ∀ k, k < 12 → parseFieldDescriptor (T_J k).2.2.1 = some (t_J k) := by decide +kernel
def T_C : u_T := fun k => match k with
  | 0 => ("ChainPicker", "now", "I", false)
  | 1 => ("ChainPicker", "jobCount", "I", false)
  | _ => ("ChainPicker", "latest", "LChainPicker$Job;", false)
def t_C : Nat → FieldType := fun k => match k with
  | 0 => .int
  | 1 => .int
  | _ => .object "ChainPicker$Job"
theorem n_C : ∀ a, a < 3 → ∀ b, b < 3 → a ≠ b → (T_C a).2.1 ≠ (T_C b).2.1 := by decide +kernel
theorem t_C_ok : ∀ k, k < 3 → parseFieldDescriptor (T_C k).2.2.1 = some (t_C k) := by decide +kernel
def T_M : u_T := fun k => match k with
  | 0 => ("ChainPickerModel", "thrown", "I", false)
  | 1 => ("ChainPickerModel", "now", "I", false)
  | 2 => ("ChainPickerModel", "many", "I", false)
  | 3 => ("ChainPickerModel", "series", "[I", true)
  | 4 => ("ChainPickerModel", "level", "[I", true)
  | 5 => ("ChainPickerModel", "upgraded", "[Z", true)
  | 6 => ("ChainPickerModel", "base", "[I", true)
  | 7 => ("ChainPickerModel", "began", "[I", true)
  | 8 => ("ChainPickerModel", "ended", "[I", true)
  | 9 => ("ChainPickerModel", "state", "[I", true)
  | 10 => ("ChainPickerModel", "pruned", "[Z", true)
  | _ => ("ChainPickerModel", "told", "[I", true)
def t_M : Nat → FieldType := fun k => match k with
  | 0 => .int
  | 1 => .int
  | 2 => .int
  | 3 => .array .int
  | 4 => .array .int
  | 5 => .array .boolean
  | 6 => .array .int
  | 7 => .array .int
  | 8 => .array .int
  | 9 => .array .int
  | 10 => .array .boolean
  | _ => .array .int
theorem n_M : ∀ a, a < 12 → ∀ b, b < 12 → a ≠ b → (T_M a).2.1 ≠ (T_M b).2.1 := by decide +kernel
theorem t_M_ok : ∀ k, k < 12 → parseFieldDescriptor (T_M k).2.2.1 = some (t_M k) := by decide +kernel
abbrev CLS : List vw_C := [("ChainPicker$Job", T_J, 12), ("ChainPicker", T_C, 3), ("ChainPickerModel", T_M, 12)]
abbrev cC_init : ByteArray := prog_1_method_1_code
abbrev yC_init : MethodName := ⟨"ChainPicker", "<init>", "()V"⟩
abbrev cC_begin : ByteArray := prog_1_method_3_code
abbrev yC_begin : MethodName := ⟨"ChainPicker", "begin", "(II)I"⟩
abbrev cC_isSeries : ByteArray := prog_1_method_15_code
abbrev yC_isSeries : MethodName := ⟨"ChainPicker", "isSeries", "(I)Z"⟩
abbrev cC_isLevel : ByteArray := prog_1_method_16_code
abbrev yC_isLevel : MethodName := ⟨"ChainPicker", "isLevel", "(I)Z"⟩
abbrev cC_hasRunning : ByteArray := prog_1_method_20_code
abbrev yC_hasRunning : MethodName := ⟨"ChainPicker", "hasRunning", "(I)Z"⟩
abbrev cC_findBase : ByteArray := prog_1_method_21_code
abbrev yC_findBase : MethodName := ⟨"ChainPicker", "findBase", "(II)LChainPicker$Job;"⟩
abbrev cC_isUsable : ByteArray := prog_1_method_25_code
abbrev yC_isUsable : MethodName := ⟨"ChainPicker", "isUsable", "(LChainPicker$Job;)Z"⟩
abbrev cJ_init : ByteArray := prog_2_method_1_code
abbrev yJ_init : MethodName := ⟨"ChainPicker$Job", "<init>", "(IIILChainPicker$Job;ILChainPicker$Job;)V"⟩
abbrev cF_fill : ByteArray := prog_11_method_103_code
abbrev yF_fill : MethodName := ⟨"java/util/Arrays", "fill", "([II)V"⟩
abbrev cC_tell : ByteArray := prog_1_method_4_code
abbrev yC_tell : MethodName := ⟨"ChainPicker", "tell", "(III)Z"⟩
abbrev cC_findJob : ByteArray := prog_1_method_19_code
abbrev yC_findJob : MethodName := ⟨"ChainPicker", "findJob", "(I)LChainPicker$Job;"⟩
abbrev cC_isFile : ByteArray := prog_1_method_17_code
abbrev yC_isFile : MethodName := ⟨"ChainPicker", "isFile", "(I)Z"⟩
abbrev cC_isVersion : ByteArray := prog_1_method_18_code
abbrev yC_isVersion : MethodName := ⟨"ChainPicker", "isVersion", "(I)Z"⟩
abbrev cC_end : ByteArray := prog_1_method_5_code
abbrev yC_end : MethodName := ⟨"ChainPicker", "end", "(IZ)Z"⟩
abbrev cC_chain : ByteArray := prog_1_method_6_code
abbrev yC_chain : MethodName := ⟨"ChainPicker", "chain", "(II)I"⟩
abbrev cC_findHead : ByteArray := prog_1_method_22_code
abbrev yC_findHead : MethodName := ⟨"ChainPicker", "findHead", "(II)LChainPicker$Job;"⟩
abbrev cC_view : ByteArray := prog_1_method_8_code
abbrev yC_view : MethodName := ⟨"ChainPicker", "view", "(III)I"⟩
abbrev cC_versionIn : ByteArray := prog_1_method_24_code
abbrev yC_versionIn : MethodName := ⟨"ChainPicker", "versionIn", "(LChainPicker$Job;I)I"⟩
abbrev cC_findTeller : ByteArray := prog_1_method_23_code
abbrev yC_findTeller : MethodName := ⟨"ChainPicker", "findTeller", "(LChainPicker$Job;I)LChainPicker$Job;"⟩
abbrev cC_files : ByteArray := prog_1_method_9_code
abbrev yC_files : MethodName := ⟨"ChainPicker", "files", "(II)I"⟩
abbrev cC_source : ByteArray := prog_1_method_10_code
abbrev yC_source : MethodName := ⟨"ChainPicker", "source", "(III)I"⟩
abbrev cC_prune : ByteArray := prog_1_method_11_code
abbrev yC_prune : MethodName := ⟨"ChainPicker", "prune", "(I)Z"⟩
abbrev cC_isFree : ByteArray := prog_1_method_26_code
abbrev yC_isFree : MethodName := ⟨"ChainPicker", "isFree", "(LChainPicker$Job;)Z"⟩
abbrev cC_drop : ByteArray := prog_1_method_28_code
abbrev yC_drop : MethodName := ⟨"ChainPicker", "drop", "(LChainPicker$Job;)V"⟩
abbrev cC_job : ByteArray := prog_1_method_13_code
abbrev yC_job : MethodName := ⟨"ChainPicker", "job", "(II)I"⟩
abbrev cC_countTold : ByteArray := prog_1_method_29_code
abbrev yC_countTold : MethodName := ⟨"ChainPicker", "countTold", "(LChainPicker$Job;)I"⟩
abbrev cC_count : ByteArray := prog_1_method_14_code
abbrev yC_count : MethodName := ⟨"ChainPicker", "count", "(I)I"⟩
abbrev cC_countRunning : ByteArray := prog_1_method_30_code
abbrev yC_countRunning : MethodName := ⟨"ChainPicker", "countRunning", "()I"⟩
abbrev cC_countPruned : ByteArray := prog_1_method_31_code
abbrev yC_countPruned : MethodName := ⟨"ChainPicker", "countPruned", "()I"⟩
abbrev cL_pass : ByteArray := method_3_code
abbrev yL_pass : MethodName := ⟨"ChainPickerLaw", "pass", "(LChainPicker;I[J)I"⟩
abbrev cC_pass : ByteArray := prog_1_method_2_code
abbrev yC_pass : MethodName := ⟨"ChainPicker", "pass", "(I)I"⟩
abbrev cL_link : ByteArray := method_4_code
abbrev yL_link : MethodName := ⟨"ChainPickerLaw", "link", "(LChainPicker;III[J)I"⟩
abbrev cC_link : ByteArray := prog_1_method_7_code
abbrev yC_link : MethodName := ⟨"ChainPicker", "link", "(III)I"⟩
abbrev cL_expire : ByteArray := method_5_code
abbrev yL_expire : MethodName := ⟨"ChainPickerLaw", "expire", "(LChainPicker;I[J)I"⟩
abbrev cC_expire : ByteArray := prog_1_method_12_code
abbrev yC_expire : MethodName := ⟨"ChainPicker", "expire", "(I)I"⟩
abbrev cC_isOnlyGoodFull : ByteArray := prog_1_method_27_code
abbrev yC_isOnlyGoodFull : MethodName := ⟨"ChainPicker", "isOnlyGoodFull", "(LChainPicker$Job;)Z"⟩
abbrev cM_init : ByteArray := prog_4_method_1_code
abbrev yM_init : MethodName := ⟨"ChainPickerModel", "<init>", "()V"⟩
abbrev cM_thrown : ByteArray := prog_4_method_2_code
abbrev yM_thrown : MethodName := ⟨"ChainPickerModel", "thrown", "()I"⟩
abbrev cM_pass : ByteArray := prog_4_method_3_code
abbrev yM_pass : MethodName := ⟨"ChainPickerModel", "pass", "(I)I"⟩
abbrev cM_begin : ByteArray := prog_4_method_6_code
abbrev yM_begin : MethodName := ⟨"ChainPickerModel", "begin", "(II)I"⟩
abbrev cM_lastOne : ByteArray := prog_4_method_5_code
abbrev yM_lastOne : MethodName := ⟨"ChainPickerModel", "lastOne", "(II)I"⟩
abbrev cM_tell : ByteArray := prog_4_method_7_code
abbrev yM_tell : MethodName := ⟨"ChainPickerModel", "tell", "(III)Z"⟩
abbrev cM_isJob : ByteArray := prog_4_method_4_code
abbrev yM_isJob : MethodName := ⟨"ChainPickerModel", "isJob", "(I)Z"⟩
abbrev cM_end : ByteArray := prog_4_method_8_code
abbrev yM_end : MethodName := ⟨"ChainPickerModel", "end", "(IZ)Z"⟩
abbrev cM_chain : ByteArray := prog_4_method_10_code
abbrev yM_chain : MethodName := ⟨"ChainPickerModel", "chain", "(II)I"⟩
abbrev cM_head : ByteArray := prog_4_method_9_code
abbrev yM_head : MethodName := ⟨"ChainPickerModel", "head", "(II)I"⟩
abbrev cM_link : ByteArray := prog_4_method_11_code
abbrev yM_link : MethodName := ⟨"ChainPickerModel", "link", "(III)I"⟩
abbrev cM_view : ByteArray := prog_4_method_14_code
abbrev yM_view : MethodName := ⟨"ChainPickerModel", "view", "(III)I"⟩
abbrev cM_version : ByteArray := prog_4_method_13_code
abbrev yM_version : MethodName := ⟨"ChainPickerModel", "version", "(III)I"⟩
abbrev cM_teller : ByteArray := prog_4_method_12_code
abbrev yM_teller : MethodName := ⟨"ChainPickerModel", "teller", "(III)I"⟩
abbrev cM_files : ByteArray := prog_4_method_15_code
abbrev yM_files : MethodName := ⟨"ChainPickerModel", "files", "(II)I"⟩
abbrev cM_source : ByteArray := prog_4_method_16_code
abbrev yM_source : MethodName := ⟨"ChainPickerModel", "source", "(III)I"⟩
abbrev cM_prune : ByteArray := prog_4_method_20_code
abbrev yM_prune : MethodName := ⟨"ChainPickerModel", "prune", "(I)Z"⟩
abbrev cM_mayGo : ByteArray := prog_4_method_18_code
abbrev yM_mayGo : MethodName := ⟨"ChainPickerModel", "mayGo", "(I)Z"⟩
abbrev cM_standing : ByteArray := prog_4_method_17_code
abbrev yM_standing : MethodName := ⟨"ChainPickerModel", "standing", "(I)I"⟩
abbrev cM_drop : ByteArray := prog_4_method_19_code
abbrev yM_drop : MethodName := ⟨"ChainPickerModel", "drop", "(I)V"⟩
abbrev cM_expire : ByteArray := prog_4_method_22_code
abbrev yM_expire : MethodName := ⟨"ChainPickerModel", "expire", "(I)I"⟩
abbrev cM_isOnly : ByteArray := prog_4_method_21_code
abbrev yM_isOnly : MethodName := ⟨"ChainPickerModel", "isOnly", "(I)Z"⟩
abbrev cM_job : ByteArray := prog_4_method_23_code
abbrev yM_job : MethodName := ⟨"ChainPickerModel", "job", "(II)I"⟩
abbrev cM_count : ByteArray := prog_4_method_24_code
abbrev yM_count : MethodName := ⟨"ChainPickerModel", "count", "(I)I"⟩
abbrev cL_law : ByteArray := code
abbrev yL_law : MethodName := ⟨"ChainPickerLaw", "law", "([I)Z"⟩
/-- all words that every method may stand on -/
def BIG : List Cond := lw_tbl.filter goodWord
theorem inBIG {w : Cond} (h : w ∈ tables_1) (g : goodWord w = true) : w ∈ BIG := List.mem_filter.mpr ⟨List.mem_append_right _ h, g⟩
theorem inBIGs {w : Cond} (h : w ∈ k2_sels lw_privs) (g : goodWord w = true) : w ∈ BIG := List.mem_filter.mpr ⟨List.mem_append_left _ h, g⟩
theorem gBIG {a b : Cond} (h : b ∈ BIG) : GoodIn (a :: BIG) (b :: BIG) := by
  intro w hw
  have hb : w ∈ BIG := by
    rcases List.mem_cons.mp hw with rfl | h2
    · exact h
    · exact h2
  exact ⟨List.mem_cons_of_mem _ hb, good_of_word (List.mem_filter.mp hb).2⟩
theorem q_0 : Cond.initialized "ChainPickerLaw" ∈ BIG := inBIG (List.mem_of_getElem? (i := 0) (by decide +kernel)) (by decide +kernel)
theorem q_1 : Cond.initialized "ChainPicker" ∈ BIG := inBIG (List.mem_of_getElem? (i := 1) (by decide +kernel)) (by decide +kernel)
theorem q_2 : Cond.initialized "ChainPickerModel" ∈ BIG := inBIG (List.mem_of_getElem? (i := 2) (by decide +kernel)) (by decide +kernel)
theorem q_3 : Cond.initialized "java/lang/Throwable" ∈ BIG := inBIG (List.mem_of_getElem? (i := 3) (by decide +kernel)) (by decide +kernel)
theorem q_4 : Cond.initialized "java/lang/Exception" ∈ BIG := inBIG (List.mem_of_getElem? (i := 4) (by decide +kernel)) (by decide +kernel)
theorem q_5 : Cond.initialized "java/lang/RuntimeException" ∈ BIG := inBIG (List.mem_of_getElem? (i := 5) (by decide +kernel)) (by decide +kernel)
theorem q_6 : Cond.initialized "java/lang/IllegalArgumentException" ∈ BIG := inBIG (List.mem_of_getElem? (i := 6) (by decide +kernel)) (by decide +kernel)
theorem q_7 : Cond.initialized "ChainPicker$Job" ∈ BIG := inBIG (List.mem_of_getElem? (i := 7) (by decide +kernel)) (by decide +kernel)
theorem q_8 : Cond.initialized "java/util/Arrays" ∈ BIG := inBIG (List.mem_of_getElem? (i := 8) (by decide +kernel)) (by decide +kernel)
theorem q_9 : Cond.initialized "java/lang/IndexOutOfBoundsException" ∈ BIG := inBIG (List.mem_of_getElem? (i := 9) (by decide +kernel)) (by decide +kernel)
theorem q_10 : Cond.classLink "ChainPickerLaw" 8 "ChainPicker" ∈ BIG := inBIG (List.mem_of_getElem? (i := 10) (by decide +kernel)) (by decide +kernel)
theorem q_11 : Cond.instantiable "ChainPicker" 3 ∈ BIG := inBIG (List.mem_of_getElem? (i := 11) (by decide +kernel)) (by decide +kernel)
theorem q_12 : Cond.methodLink "ChainPickerLaw" 24 yC_init ∈ BIG := inBIG (List.mem_of_getElem? (i := 12) (by decide +kernel)) (by decide +kernel)
theorem q_13 : Cond.instanceMethod yC_init ∈ BIG := inBIG (List.mem_of_getElem? (i := 13) (by decide +kernel)) (by decide +kernel)
theorem q_14 : Cond.code yC_init prog_1_method_1_code 1 none ∈ BIG := inBIG (List.mem_of_getElem? (i := 14) (by decide +kernel)) (by decide +kernel)
theorem q_15 : Cond.methodLink "ChainPicker" 3 ⟨"java/lang/Object", "<init>", "()V"⟩ ∈ BIG := inBIG (List.mem_of_getElem? (i := 15) (by decide +kernel)) (by decide +kernel)
theorem q_16 : Cond.instanceMethod ⟨"java/lang/Object", "<init>", "()V"⟩ ∈ BIG := inBIG (List.mem_of_getElem? (i := 16) (by decide +kernel)) (by decide +kernel)
theorem q_17 : Cond.code ⟨"java/lang/Object", "<init>", "()V"⟩ object_method_1_code 1 none ∈ BIG := inBIG (List.mem_of_getElem? (i := 17) (by decide +kernel)) (by decide +kernel)
theorem q_18 : Cond.fieldLink "ChainPicker" 9 "ChainPicker" "now" "I" ∈ BIG := inBIG (List.mem_of_getElem? (i := 18) (by decide +kernel)) (by decide +kernel)
theorem q_19 : Cond.fieldLink "ChainPicker" 13 "ChainPicker" "jobCount" "I" ∈ BIG := inBIG (List.mem_of_getElem? (i := 19) (by decide +kernel)) (by decide +kernel)
theorem q_20 : Cond.fieldLink "ChainPicker" 16 "ChainPicker" "latest" "LChainPicker$Job;" ∈ BIG := inBIG (List.mem_of_getElem? (i := 20) (by decide +kernel)) (by decide +kernel)
theorem q_28 : Cond.methodLink "ChainPickerLaw" 38 yC_begin ∈ BIG := inBIG (List.mem_of_getElem? (i := 28) (by decide +kernel)) (by decide +kernel)
theorem q_29 : Cond.instanceMethod yC_begin ∈ BIG := inBIG (List.mem_of_getElem? (i := 29) (by decide +kernel)) (by decide +kernel)
theorem q_30 : Cond.selects "ChainPicker" yC_begin yC_begin ∈ BIG := inBIG (List.mem_of_getElem? (i := 30) (by decide +kernel)) (by decide +kernel)
theorem q_31 : Cond.code yC_begin prog_1_method_3_code 4 (some FieldType.int) ∈ BIG := inBIG (List.mem_of_getElem? (i := 31) (by decide +kernel)) (by decide +kernel)
theorem q_32 : Cond.methodLink "ChainPicker" 28 yC_isSeries ∈ BIG := inBIG (List.mem_of_getElem? (i := 32) (by decide +kernel)) (by decide +kernel)
theorem q_33 : Cond.static yC_isSeries ∈ BIG := inBIG (List.mem_of_getElem? (i := 33) (by decide +kernel)) (by decide +kernel)
theorem q_34 : Cond.code yC_isSeries prog_1_method_15_code 1 (some FieldType.boolean) ∈ BIG := inBIG (List.mem_of_getElem? (i := 34) (by decide +kernel)) (by decide +kernel)
theorem q_35 : Cond.methodLink "ChainPicker" 32 yC_isLevel ∈ BIG := inBIG (List.mem_of_getElem? (i := 35) (by decide +kernel)) (by decide +kernel)
theorem q_36 : Cond.static yC_isLevel ∈ BIG := inBIG (List.mem_of_getElem? (i := 36) (by decide +kernel)) (by decide +kernel)
theorem q_37 : Cond.code yC_isLevel prog_1_method_16_code 1 (some FieldType.boolean) ∈ BIG := inBIG (List.mem_of_getElem? (i := 37) (by decide +kernel)) (by decide +kernel)
theorem q_38 : Cond.methodLink "ChainPicker" 35 yC_hasRunning ∈ BIG := inBIG (List.mem_of_getElem? (i := 38) (by decide +kernel)) (by decide +kernel)
theorem q_40 : Cond.instanceMethod yC_hasRunning ∈ BIG := inBIG (List.mem_of_getElem? (i := 40) (by decide +kernel)) (by decide +kernel)
theorem q_41 : Cond.code yC_hasRunning prog_1_method_20_code 3 (some FieldType.boolean) ∈ BIG := inBIG (List.mem_of_getElem? (i := 41) (by decide +kernel)) (by decide +kernel)
theorem q_42 : Cond.methodLink "ChainPicker" 38 yC_findBase ∈ BIG := inBIG (List.mem_of_getElem? (i := 42) (by decide +kernel)) (by decide +kernel)
theorem q_44 : Cond.instanceMethod yC_findBase ∈ BIG := inBIG (List.mem_of_getElem? (i := 44) (by decide +kernel)) (by decide +kernel)
theorem q_45 : Cond.code yC_findBase prog_1_method_21_code 4 (some (FieldType.object "ChainPicker$Job")) ∈ BIG := inBIG (List.mem_of_getElem? (i := 45) (by decide +kernel)) (by decide +kernel)
theorem q_46 : Cond.methodLink "ChainPicker" 136 yC_isUsable ∈ BIG := inBIG (List.mem_of_getElem? (i := 46) (by decide +kernel)) (by decide +kernel)
theorem q_47 : Cond.static yC_isUsable ∈ BIG := inBIG (List.mem_of_getElem? (i := 47) (by decide +kernel)) (by decide +kernel)
theorem q_48 : Cond.code yC_isUsable prog_1_method_25_code 1 (some FieldType.boolean) ∈ BIG := inBIG (List.mem_of_getElem? (i := 48) (by decide +kernel)) (by decide +kernel)
theorem q_49 : Cond.classLink "ChainPicker" 43 "ChainPicker$Job" ∈ BIG := inBIG (List.mem_of_getElem? (i := 49) (by decide +kernel)) (by decide +kernel)
theorem q_50 : Cond.instantiable "ChainPicker$Job" 12 ∈ BIG := inBIG (List.mem_of_getElem? (i := 50) (by decide +kernel)) (by decide +kernel)
theorem q_52 : Cond.instanceMethod yJ_init ∈ BIG := inBIG (List.mem_of_getElem? (i := 52) (by decide +kernel)) (by decide +kernel)
theorem q_53 : Cond.code yJ_init prog_2_method_1_code 7 none ∈ BIG := inBIG (List.mem_of_getElem? (i := 53) (by decide +kernel)) (by decide +kernel)
theorem q_54 : Cond.methodLink "ChainPicker$Job" 3 ⟨"java/lang/Object", "<init>", "()V"⟩ ∈ BIG := inBIG (List.mem_of_getElem? (i := 54) (by decide +kernel)) (by decide +kernel)
theorem q_55 : Cond.methodLink "ChainPicker$Job" 39 yF_fill ∈ BIG := inBIG (List.mem_of_getElem? (i := 55) (by decide +kernel)) (by decide +kernel)
theorem q_56 : Cond.static yF_fill ∈ BIG := inBIG (List.mem_of_getElem? (i := 56) (by decide +kernel)) (by decide +kernel)
theorem q_57 : Cond.code yF_fill prog_11_method_103_code 4 none ∈ BIG := inBIG (List.mem_of_getElem? (i := 57) (by decide +kernel)) (by decide +kernel)
theorem q_58 : Cond.fieldLink "ChainPicker$Job" 9 "ChainPicker$Job" "number" "I" ∈ BIG := inBIG (List.mem_of_getElem? (i := 58) (by decide +kernel)) (by decide +kernel)
theorem q_60 : Cond.fieldLink "ChainPicker$Job" 15 "ChainPicker$Job" "series" "I" ∈ BIG := inBIG (List.mem_of_getElem? (i := 60) (by decide +kernel)) (by decide +kernel)
theorem q_62 : Cond.fieldLink "ChainPicker$Job" 18 "ChainPicker$Job" "level" "I" ∈ BIG := inBIG (List.mem_of_getElem? (i := 62) (by decide +kernel)) (by decide +kernel)
theorem q_64 : Cond.fieldLink "ChainPicker$Job" 21 "ChainPicker$Job" "upgraded" "Z" ∈ BIG := inBIG (List.mem_of_getElem? (i := 64) (by decide +kernel)) (by decide +kernel)
theorem q_66 : Cond.fieldLink "ChainPicker$Job" 25 "ChainPicker$Job" "base" "LChainPicker$Job;" ∈ BIG := inBIG (List.mem_of_getElem? (i := 66) (by decide +kernel)) (by decide +kernel)
theorem q_68 : Cond.fieldLink "ChainPicker$Job" 29 "ChainPicker$Job" "began" "I" ∈ BIG := inBIG (List.mem_of_getElem? (i := 68) (by decide +kernel)) (by decide +kernel)
theorem q_70 : Cond.fieldLink "ChainPicker$Job" 32 "ChainPicker$Job" "earlier" "LChainPicker$Job;" ∈ BIG := inBIG (List.mem_of_getElem? (i := 70) (by decide +kernel)) (by decide +kernel)
theorem q_72 : Cond.fieldLink "ChainPicker$Job" 35 "ChainPicker$Job" "versions" "[I" ∈ BIG := inBIG (List.mem_of_getElem? (i := 72) (by decide +kernel)) (by decide +kernel)
theorem q_74 : Cond.fieldLink "ChainPicker$Job" 45 "ChainPicker$Job" "ended" "I" ∈ BIG := inBIG (List.mem_of_getElem? (i := 74) (by decide +kernel)) (by decide +kernel)
theorem q_76 : Cond.fieldLink "ChainPicker$Job" 48 "ChainPicker$Job" "state" "I" ∈ BIG := inBIG (List.mem_of_getElem? (i := 76) (by decide +kernel)) (by decide +kernel)
theorem q_78 : Cond.fieldLink "ChainPicker$Job" 51 "ChainPicker$Job" "pruned" "Z" ∈ BIG := inBIG (List.mem_of_getElem? (i := 78) (by decide +kernel)) (by decide +kernel)
theorem q_80 : Cond.fieldLink "ChainPicker$Job" 54 "ChainPicker$Job" "standing" "I" ∈ BIG := inBIG (List.mem_of_getElem? (i := 80) (by decide +kernel)) (by decide +kernel)
theorem q_107 : Cond.arrayClass FieldType.int ∈ BIG := inBIG (List.mem_of_getElem? (i := 107) (by decide +kernel)) (by decide +kernel)
theorem q_108 : Cond.methodLink "ChainPickerLaw" 43 yC_tell ∈ BIG := inBIG (List.mem_of_getElem? (i := 108) (by decide +kernel)) (by decide +kernel)
theorem q_109 : Cond.instanceMethod yC_tell ∈ BIG := inBIG (List.mem_of_getElem? (i := 109) (by decide +kernel)) (by decide +kernel)
theorem q_110 : Cond.selects "ChainPicker" yC_tell yC_tell ∈ BIG := inBIG (List.mem_of_getElem? (i := 110) (by decide +kernel)) (by decide +kernel)
theorem q_111 : Cond.code yC_tell prog_1_method_4_code 6 (some FieldType.boolean) ∈ BIG := inBIG (List.mem_of_getElem? (i := 111) (by decide +kernel)) (by decide +kernel)
theorem q_112 : Cond.methodLink "ChainPicker" 53 yC_findJob ∈ BIG := inBIG (List.mem_of_getElem? (i := 112) (by decide +kernel)) (by decide +kernel)
theorem q_114 : Cond.instanceMethod yC_findJob ∈ BIG := inBIG (List.mem_of_getElem? (i := 114) (by decide +kernel)) (by decide +kernel)
theorem q_115 : Cond.code yC_findJob prog_1_method_19_code 3 (some (FieldType.object "ChainPicker$Job")) ∈ BIG := inBIG (List.mem_of_getElem? (i := 115) (by decide +kernel)) (by decide +kernel)
theorem q_116 : Cond.methodLink "ChainPicker" 60 yC_isFile ∈ BIG := inBIG (List.mem_of_getElem? (i := 116) (by decide +kernel)) (by decide +kernel)
theorem q_117 : Cond.static yC_isFile ∈ BIG := inBIG (List.mem_of_getElem? (i := 117) (by decide +kernel)) (by decide +kernel)
theorem q_118 : Cond.code yC_isFile prog_1_method_17_code 1 (some FieldType.boolean) ∈ BIG := inBIG (List.mem_of_getElem? (i := 118) (by decide +kernel)) (by decide +kernel)
theorem q_119 : Cond.methodLink "ChainPicker" 66 yC_isVersion ∈ BIG := inBIG (List.mem_of_getElem? (i := 119) (by decide +kernel)) (by decide +kernel)
theorem q_120 : Cond.static yC_isVersion ∈ BIG := inBIG (List.mem_of_getElem? (i := 120) (by decide +kernel)) (by decide +kernel)
theorem q_121 : Cond.code yC_isVersion prog_1_method_18_code 1 (some FieldType.boolean) ∈ BIG := inBIG (List.mem_of_getElem? (i := 121) (by decide +kernel)) (by decide +kernel)
theorem q_122 : Cond.constant "ChainPicker" 135 1000000 ∈ BIG := inBIG (List.mem_of_getElem? (i := 122) (by decide +kernel)) (by decide +kernel)
theorem q_123 : Cond.methodLink "ChainPickerLaw" 48 yC_end ∈ BIG := inBIG (List.mem_of_getElem? (i := 123) (by decide +kernel)) (by decide +kernel)
theorem q_124 : Cond.instanceMethod yC_end ∈ BIG := inBIG (List.mem_of_getElem? (i := 124) (by decide +kernel)) (by decide +kernel)
theorem q_125 : Cond.selects "ChainPicker" yC_end yC_end ∈ BIG := inBIG (List.mem_of_getElem? (i := 125) (by decide +kernel)) (by decide +kernel)
theorem q_126 : Cond.code yC_end prog_1_method_5_code 4 (some FieldType.boolean) ∈ BIG := inBIG (List.mem_of_getElem? (i := 126) (by decide +kernel)) (by decide +kernel)
theorem q_127 : Cond.methodLink "ChainPickerLaw" 53 yC_chain ∈ BIG := inBIG (List.mem_of_getElem? (i := 127) (by decide +kernel)) (by decide +kernel)
theorem q_128 : Cond.instanceMethod yC_chain ∈ BIG := inBIG (List.mem_of_getElem? (i := 128) (by decide +kernel)) (by decide +kernel)
theorem q_129 : Cond.selects "ChainPicker" yC_chain yC_chain ∈ BIG := inBIG (List.mem_of_getElem? (i := 129) (by decide +kernel)) (by decide +kernel)
theorem q_130 : Cond.code yC_chain prog_1_method_6_code 5 (some FieldType.int) ∈ BIG := inBIG (List.mem_of_getElem? (i := 130) (by decide +kernel)) (by decide +kernel)
theorem q_131 : Cond.methodLink "ChainPicker" 76 yC_findHead ∈ BIG := inBIG (List.mem_of_getElem? (i := 131) (by decide +kernel)) (by decide +kernel)
theorem q_133 : Cond.instanceMethod yC_findHead ∈ BIG := inBIG (List.mem_of_getElem? (i := 133) (by decide +kernel)) (by decide +kernel)
theorem q_134 : Cond.code yC_findHead prog_1_method_22_code 4 (some (FieldType.object "ChainPicker$Job")) ∈ BIG := inBIG (List.mem_of_getElem? (i := 134) (by decide +kernel)) (by decide +kernel)
theorem q_135 : Cond.methodLink "ChainPickerLaw" 61 yC_view ∈ BIG := inBIG (List.mem_of_getElem? (i := 135) (by decide +kernel)) (by decide +kernel)
theorem q_136 : Cond.instanceMethod yC_view ∈ BIG := inBIG (List.mem_of_getElem? (i := 136) (by decide +kernel)) (by decide +kernel)
theorem q_137 : Cond.selects "ChainPicker" yC_view yC_view ∈ BIG := inBIG (List.mem_of_getElem? (i := 137) (by decide +kernel)) (by decide +kernel)
theorem q_138 : Cond.code yC_view prog_1_method_8_code 4 (some FieldType.int) ∈ BIG := inBIG (List.mem_of_getElem? (i := 138) (by decide +kernel)) (by decide +kernel)
theorem q_139 : Cond.methodLink "ChainPicker" 87 yC_versionIn ∈ BIG := inBIG (List.mem_of_getElem? (i := 139) (by decide +kernel)) (by decide +kernel)
theorem q_140 : Cond.static yC_versionIn ∈ BIG := inBIG (List.mem_of_getElem? (i := 140) (by decide +kernel)) (by decide +kernel)
theorem q_141 : Cond.code yC_versionIn prog_1_method_24_code 3 (some FieldType.int) ∈ BIG := inBIG (List.mem_of_getElem? (i := 141) (by decide +kernel)) (by decide +kernel)
theorem q_142 : Cond.methodLink "ChainPicker" 91 yC_findTeller ∈ BIG := inBIG (List.mem_of_getElem? (i := 142) (by decide +kernel)) (by decide +kernel)
theorem q_143 : Cond.static yC_findTeller ∈ BIG := inBIG (List.mem_of_getElem? (i := 143) (by decide +kernel)) (by decide +kernel)
theorem q_144 : Cond.code yC_findTeller prog_1_method_23_code 3 (some (FieldType.object "ChainPicker$Job")) ∈ BIG := inBIG (List.mem_of_getElem? (i := 144) (by decide +kernel)) (by decide +kernel)
theorem q_145 : Cond.methodLink "ChainPickerLaw" 65 yC_files ∈ BIG := inBIG (List.mem_of_getElem? (i := 145) (by decide +kernel)) (by decide +kernel)
theorem q_146 : Cond.instanceMethod yC_files ∈ BIG := inBIG (List.mem_of_getElem? (i := 146) (by decide +kernel)) (by decide +kernel)
theorem q_147 : Cond.selects "ChainPicker" yC_files yC_files ∈ BIG := inBIG (List.mem_of_getElem? (i := 147) (by decide +kernel)) (by decide +kernel)
theorem q_148 : Cond.code yC_files prog_1_method_9_code 6 (some FieldType.int) ∈ BIG := inBIG (List.mem_of_getElem? (i := 148) (by decide +kernel)) (by decide +kernel)
theorem q_149 : Cond.methodLink "ChainPickerLaw" 69 yC_source ∈ BIG := inBIG (List.mem_of_getElem? (i := 149) (by decide +kernel)) (by decide +kernel)
theorem q_150 : Cond.instanceMethod yC_source ∈ BIG := inBIG (List.mem_of_getElem? (i := 150) (by decide +kernel)) (by decide +kernel)
theorem q_151 : Cond.selects "ChainPicker" yC_source yC_source ∈ BIG := inBIG (List.mem_of_getElem? (i := 151) (by decide +kernel)) (by decide +kernel)
theorem q_152 : Cond.code yC_source prog_1_method_10_code 5 (some FieldType.int) ∈ BIG := inBIG (List.mem_of_getElem? (i := 152) (by decide +kernel)) (by decide +kernel)
theorem q_153 : Cond.methodLink "ChainPickerLaw" 73 yC_prune ∈ BIG := inBIG (List.mem_of_getElem? (i := 153) (by decide +kernel)) (by decide +kernel)
theorem q_154 : Cond.instanceMethod yC_prune ∈ BIG := inBIG (List.mem_of_getElem? (i := 154) (by decide +kernel)) (by decide +kernel)
theorem q_155 : Cond.selects "ChainPicker" yC_prune yC_prune ∈ BIG := inBIG (List.mem_of_getElem? (i := 155) (by decide +kernel)) (by decide +kernel)
theorem q_156 : Cond.code yC_prune prog_1_method_11_code 3 (some FieldType.boolean) ∈ BIG := inBIG (List.mem_of_getElem? (i := 156) (by decide +kernel)) (by decide +kernel)
theorem q_157 : Cond.methodLink "ChainPicker" 95 yC_isFree ∈ BIG := inBIG (List.mem_of_getElem? (i := 157) (by decide +kernel)) (by decide +kernel)
theorem q_158 : Cond.static yC_isFree ∈ BIG := inBIG (List.mem_of_getElem? (i := 158) (by decide +kernel)) (by decide +kernel)
theorem q_159 : Cond.code yC_isFree prog_1_method_26_code 1 (some FieldType.boolean) ∈ BIG := inBIG (List.mem_of_getElem? (i := 159) (by decide +kernel)) (by decide +kernel)
theorem q_160 : Cond.methodLink "ChainPicker" 99 yC_drop ∈ BIG := inBIG (List.mem_of_getElem? (i := 160) (by decide +kernel)) (by decide +kernel)
theorem q_161 : Cond.static yC_drop ∈ BIG := inBIG (List.mem_of_getElem? (i := 161) (by decide +kernel)) (by decide +kernel)
theorem q_162 : Cond.code yC_drop prog_1_method_28_code 1 none ∈ BIG := inBIG (List.mem_of_getElem? (i := 162) (by decide +kernel)) (by decide +kernel)
theorem q_163 : Cond.methodLink "ChainPicker" 139 yF_fill ∈ BIG := inBIG (List.mem_of_getElem? (i := 163) (by decide +kernel)) (by decide +kernel)
theorem q_164 : Cond.methodLink "ChainPickerLaw" 81 yC_job ∈ BIG := inBIG (List.mem_of_getElem? (i := 164) (by decide +kernel)) (by decide +kernel)
theorem q_165 : Cond.instanceMethod yC_job ∈ BIG := inBIG (List.mem_of_getElem? (i := 165) (by decide +kernel)) (by decide +kernel)
theorem q_166 : Cond.selects "ChainPicker" yC_job yC_job ∈ BIG := inBIG (List.mem_of_getElem? (i := 166) (by decide +kernel)) (by decide +kernel)
theorem q_167 : Cond.code yC_job prog_1_method_13_code 4 (some FieldType.int) ∈ BIG := inBIG (List.mem_of_getElem? (i := 167) (by decide +kernel)) (by decide +kernel)
theorem q_168 : Cond.methodLink "ChainPicker" 124 yC_countTold ∈ BIG := inBIG (List.mem_of_getElem? (i := 168) (by decide +kernel)) (by decide +kernel)
theorem q_169 : Cond.static yC_countTold ∈ BIG := inBIG (List.mem_of_getElem? (i := 169) (by decide +kernel)) (by decide +kernel)
theorem q_170 : Cond.code yC_countTold prog_1_method_29_code 3 (some FieldType.int) ∈ BIG := inBIG (List.mem_of_getElem? (i := 170) (by decide +kernel)) (by decide +kernel)
theorem q_171 : Cond.methodLink "ChainPickerLaw" 85 yC_count ∈ BIG := inBIG (List.mem_of_getElem? (i := 171) (by decide +kernel)) (by decide +kernel)
theorem q_172 : Cond.instanceMethod yC_count ∈ BIG := inBIG (List.mem_of_getElem? (i := 172) (by decide +kernel)) (by decide +kernel)
theorem q_173 : Cond.selects "ChainPicker" yC_count yC_count ∈ BIG := inBIG (List.mem_of_getElem? (i := 173) (by decide +kernel)) (by decide +kernel)
theorem q_174 : Cond.code yC_count prog_1_method_14_code 2 (some FieldType.int) ∈ BIG := inBIG (List.mem_of_getElem? (i := 174) (by decide +kernel)) (by decide +kernel)
theorem q_175 : Cond.methodLink "ChainPicker" 128 yC_countRunning ∈ BIG := inBIG (List.mem_of_getElem? (i := 175) (by decide +kernel)) (by decide +kernel)
theorem q_177 : Cond.instanceMethod yC_countRunning ∈ BIG := inBIG (List.mem_of_getElem? (i := 177) (by decide +kernel)) (by decide +kernel)
theorem q_178 : Cond.code yC_countRunning prog_1_method_30_code 3 (some FieldType.int) ∈ BIG := inBIG (List.mem_of_getElem? (i := 178) (by decide +kernel)) (by decide +kernel)
theorem q_179 : Cond.methodLink "ChainPicker" 132 yC_countPruned ∈ BIG := inBIG (List.mem_of_getElem? (i := 179) (by decide +kernel)) (by decide +kernel)
theorem q_181 : Cond.instanceMethod yC_countPruned ∈ BIG := inBIG (List.mem_of_getElem? (i := 181) (by decide +kernel)) (by decide +kernel)
theorem q_182 : Cond.code yC_countPruned prog_1_method_31_code 3 (some FieldType.int) ∈ BIG := inBIG (List.mem_of_getElem? (i := 182) (by decide +kernel)) (by decide +kernel)
theorem q_183 : Cond.methodLink "ChainPickerLaw" 28 yL_pass ∈ BIG := inBIG (List.mem_of_getElem? (i := 183) (by decide +kernel)) (by decide +kernel)
theorem q_184 : Cond.static yL_pass ∈ BIG := inBIG (List.mem_of_getElem? (i := 184) (by decide +kernel)) (by decide +kernel)
theorem q_185 : Cond.codeWith yL_pass method_3_code 4 (some FieldType.int) [(0, 9, 12, 13)] ∈ BIG := inBIG (List.mem_of_getElem? (i := 185) (by decide +kernel)) (by decide +kernel)
theorem q_186 : Cond.classLink "ChainPickerLaw" 13 "java/lang/IllegalArgumentException" ∈ BIG := inBIG (List.mem_of_getElem? (i := 186) (by decide +kernel)) (by decide +kernel)
theorem q_187 : Cond.methodLink "ChainPickerLaw" 7 yC_pass ∈ BIG := inBIG (List.mem_of_getElem? (i := 187) (by decide +kernel)) (by decide +kernel)
theorem q_188 : Cond.instanceMethod yC_pass ∈ BIG := inBIG (List.mem_of_getElem? (i := 188) (by decide +kernel)) (by decide +kernel)
theorem q_189 : Cond.selects "ChainPicker" yC_pass yC_pass ∈ BIG := inBIG (List.mem_of_getElem? (i := 189) (by decide +kernel)) (by decide +kernel)
theorem q_190 : Cond.code yC_pass prog_1_method_2_code 2 (some FieldType.int) ∈ BIG := inBIG (List.mem_of_getElem? (i := 190) (by decide +kernel)) (by decide +kernel)
theorem q_191 : Cond.constant "ChainPicker" 20 1000000000 ∈ BIG := inBIG (List.mem_of_getElem? (i := 191) (by decide +kernel)) (by decide +kernel)
theorem q_192 : Cond.classLink "ChainPicker" 21 "java/lang/IllegalArgumentException" ∈ BIG := inBIG (List.mem_of_getElem? (i := 192) (by decide +kernel)) (by decide +kernel)
theorem q_193 : Cond.instantiable "java/lang/IllegalArgumentException" 6 ∈ BIG := inBIG (List.mem_of_getElem? (i := 193) (by decide +kernel)) (by decide +kernel)
theorem q_201 : Cond.selects "java/lang/IllegalArgumentException" ⟨"java/lang/Throwable", "fillInStackTrace", "(I)Ljava/lang/Throwable;"⟩ ⟨"java/lang/Throwable", "fillInStackTrace", "(I)Ljava/lang/Throwable;"⟩ ∈ BIG := inBIG (List.mem_of_getElem? (i := 201) (by decide +kernel)) (by decide +kernel)
theorem q_202 : Cond.selects "java/lang/IllegalArgumentException" ⟨"java/lang/Throwable", "fillInStackTrace", "()Ljava/lang/Throwable;"⟩ ⟨"java/lang/Throwable", "fillInStackTrace", "()Ljava/lang/Throwable;"⟩ ∈ BIG := inBIG (List.mem_of_getElem? (i := 202) (by decide +kernel)) (by decide +kernel)
theorem q_213 : Cond.fieldLink "java/lang/Throwable" 198 "java/lang/Throwable" "backtrace" "Ljava/lang/Object;" ∈ BIG := inBIG (List.mem_of_getElem? (i := 213) (by decide +kernel)) (by decide +kernel)
theorem q_215 : Cond.instanceMethod ⟨"java/lang/Throwable", "<init>", "()V"⟩ ∈ BIG := inBIG (List.mem_of_getElem? (i := 215) (by decide +kernel)) (by decide +kernel)
theorem q_216 : Cond.code ⟨"java/lang/Throwable", "<init>", "()V"⟩ prog_10_method_1_code 1 none ∈ BIG := inBIG (List.mem_of_getElem? (i := 216) (by decide +kernel)) (by decide +kernel)
theorem q_217 : Cond.methodLink "java/lang/Throwable" 1 ⟨"java/lang/Object", "<init>", "()V"⟩ ∈ BIG := inBIG (List.mem_of_getElem? (i := 217) (by decide +kernel)) (by decide +kernel)
theorem q_218 : Cond.fieldLink "java/lang/Throwable" 13 "java/lang/Throwable" "UNASSIGNED_STACK" "[Ljava/lang/StackTraceElement;" ∈ BIG := inBIG (List.mem_of_getElem? (i := 218) (by decide +kernel)) (by decide +kernel)
theorem q_220 : Cond.fieldLink "java/lang/Throwable" 20 "java/lang/Throwable" "SUPPRESSED_SENTINEL" "Ljava/util/List;" ∈ BIG := inBIG (List.mem_of_getElem? (i := 220) (by decide +kernel)) (by decide +kernel)
theorem q_222 : Cond.methodLink "java/lang/Throwable" 27 ⟨"java/lang/Throwable", "fillInStackTrace", "()Ljava/lang/Throwable;"⟩ ∈ BIG := inBIG (List.mem_of_getElem? (i := 222) (by decide +kernel)) (by decide +kernel)
theorem q_223 : Cond.instanceMethod ⟨"java/lang/Throwable", "fillInStackTrace", "()Ljava/lang/Throwable;"⟩ ∈ BIG := inBIG (List.mem_of_getElem? (i := 223) (by decide +kernel)) (by decide +kernel)
theorem q_225 : Cond.selects "java/lang/IndexOutOfBoundsException" ⟨"java/lang/Throwable", "fillInStackTrace", "()Ljava/lang/Throwable;"⟩ ⟨"java/lang/Throwable", "fillInStackTrace", "()Ljava/lang/Throwable;"⟩ ∈ BIG := inBIG (List.mem_of_getElem? (i := 225) (by decide +kernel)) (by decide +kernel)
theorem q_227 : Cond.methodLink "java/lang/Throwable" 202 ⟨"java/lang/Throwable", "fillInStackTrace", "(I)Ljava/lang/Throwable;"⟩ ∈ BIG := inBIG (List.mem_of_getElem? (i := 227) (by decide +kernel)) (by decide +kernel)
theorem q_229 : Cond.instanceMethod ⟨"java/lang/Throwable", "fillInStackTrace", "(I)Ljava/lang/Throwable;"⟩ ∈ BIG := inBIG (List.mem_of_getElem? (i := 229) (by decide +kernel)) (by decide +kernel)
theorem q_230 : Cond.instantiable "java/lang/Throwable" 6 ∈ BIG := inBIG (List.mem_of_getElem? (i := 230) (by decide +kernel)) (by decide +kernel)
theorem q_233 : Cond.methodLink "ChainPicker" 25 ⟨"java/lang/IllegalArgumentException", "<init>", "(Ljava/lang/String;)V"⟩ ∈ BIG := inBIG (List.mem_of_getElem? (i := 233) (by decide +kernel)) (by decide +kernel)
theorem q_234 : Cond.instanceMethod ⟨"java/lang/IllegalArgumentException", "<init>", "(Ljava/lang/String;)V"⟩ ∈ BIG := inBIG (List.mem_of_getElem? (i := 234) (by decide +kernel)) (by decide +kernel)
theorem q_235 : Cond.code ⟨"java/lang/IllegalArgumentException", "<init>", "(Ljava/lang/String;)V"⟩ prog_6_method_2_code 2 none ∈ BIG := inBIG (List.mem_of_getElem? (i := 235) (by decide +kernel)) (by decide +kernel)
theorem q_236 : Cond.methodLink "java/lang/IllegalArgumentException" 7 ⟨"java/lang/RuntimeException", "<init>", "(Ljava/lang/String;)V"⟩ ∈ BIG := inBIG (List.mem_of_getElem? (i := 236) (by decide +kernel)) (by decide +kernel)
theorem q_237 : Cond.instanceMethod ⟨"java/lang/RuntimeException", "<init>", "(Ljava/lang/String;)V"⟩ ∈ BIG := inBIG (List.mem_of_getElem? (i := 237) (by decide +kernel)) (by decide +kernel)
theorem q_238 : Cond.code ⟨"java/lang/RuntimeException", "<init>", "(Ljava/lang/String;)V"⟩ prog_8_method_2_code 2 none ∈ BIG := inBIG (List.mem_of_getElem? (i := 238) (by decide +kernel)) (by decide +kernel)
theorem q_239 : Cond.methodLink "java/lang/RuntimeException" 7 ⟨"java/lang/Exception", "<init>", "(Ljava/lang/String;)V"⟩ ∈ BIG := inBIG (List.mem_of_getElem? (i := 239) (by decide +kernel)) (by decide +kernel)
theorem q_240 : Cond.instanceMethod ⟨"java/lang/Exception", "<init>", "(Ljava/lang/String;)V"⟩ ∈ BIG := inBIG (List.mem_of_getElem? (i := 240) (by decide +kernel)) (by decide +kernel)
theorem q_241 : Cond.code ⟨"java/lang/Exception", "<init>", "(Ljava/lang/String;)V"⟩ prog_5_method_2_code 2 none ∈ BIG := inBIG (List.mem_of_getElem? (i := 241) (by decide +kernel)) (by decide +kernel)
theorem q_242 : Cond.methodLink "java/lang/Exception" 7 ⟨"java/lang/Throwable", "<init>", "(Ljava/lang/String;)V"⟩ ∈ BIG := inBIG (List.mem_of_getElem? (i := 242) (by decide +kernel)) (by decide +kernel)
theorem q_243 : Cond.instanceMethod ⟨"java/lang/Throwable", "<init>", "(Ljava/lang/String;)V"⟩ ∈ BIG := inBIG (List.mem_of_getElem? (i := 243) (by decide +kernel)) (by decide +kernel)
theorem q_244 : Cond.code ⟨"java/lang/Throwable", "<init>", "(Ljava/lang/String;)V"⟩ prog_10_method_2_code 2 none ∈ BIG := inBIG (List.mem_of_getElem? (i := 244) (by decide +kernel)) (by decide +kernel)
theorem q_245 : Cond.fieldLink "java/lang/Throwable" 198 "java/lang/Throwable" "backtrace" "Ljava/lang/Object;" ∈ BIG := inBIG (List.mem_of_getElem? (i := 245) (by decide +kernel)) (by decide +kernel)
theorem q_246 : Cond.fieldLink "java/lang/Throwable" 31 "java/lang/Throwable" "detailMessage" "Ljava/lang/String;" ∈ BIG := inBIG (List.mem_of_getElem? (i := 246) (by decide +kernel)) (by decide +kernel)
theorem q_247 : Cond.fieldLink "java/lang/Throwable" 7 "java/lang/Throwable" "cause" "Ljava/lang/Throwable;" ∈ BIG := inBIG (List.mem_of_getElem? (i := 247) (by decide +kernel)) (by decide +kernel)
theorem q_248 : Cond.fieldLink "java/lang/Throwable" 17 "java/lang/Throwable" "stackTrace" "[Ljava/lang/StackTraceElement;" ∈ BIG := inBIG (List.mem_of_getElem? (i := 248) (by decide +kernel)) (by decide +kernel)
theorem q_249 : Cond.fieldLink "java/lang/Throwable" 24 "java/lang/Throwable" "suppressedExceptions" "Ljava/util/List;" ∈ BIG := inBIG (List.mem_of_getElem? (i := 249) (by decide +kernel)) (by decide +kernel)
theorem q_258 : Cond.arrayClass FieldType.byte ∈ BIG := inBIG (List.mem_of_getElem? (i := 258) (by decide +kernel)) (by decide +kernel)
theorem q_259 : Cond.methodLink "ChainPickerLaw" 57 yL_link ∈ BIG := inBIG (List.mem_of_getElem? (i := 259) (by decide +kernel)) (by decide +kernel)
theorem q_260 : Cond.static yL_link ∈ BIG := inBIG (List.mem_of_getElem? (i := 260) (by decide +kernel)) (by decide +kernel)
theorem q_261 : Cond.codeWith yL_link method_4_code 6 (some FieldType.int) [(0, 12, 15, 19)] ∈ BIG := inBIG (List.mem_of_getElem? (i := 261) (by decide +kernel)) (by decide +kernel)
theorem q_262 : Cond.classLink "ChainPickerLaw" 19 "java/lang/IndexOutOfBoundsException" ∈ BIG := inBIG (List.mem_of_getElem? (i := 262) (by decide +kernel)) (by decide +kernel)
theorem q_263 : Cond.methodLink "ChainPickerLaw" 15 yC_link ∈ BIG := inBIG (List.mem_of_getElem? (i := 263) (by decide +kernel)) (by decide +kernel)
theorem q_264 : Cond.instanceMethod yC_link ∈ BIG := inBIG (List.mem_of_getElem? (i := 264) (by decide +kernel)) (by decide +kernel)
theorem q_265 : Cond.selects "ChainPicker" yC_link yC_link ∈ BIG := inBIG (List.mem_of_getElem? (i := 265) (by decide +kernel)) (by decide +kernel)
theorem q_266 : Cond.code yC_link prog_1_method_7_code 6 (some FieldType.int) ∈ BIG := inBIG (List.mem_of_getElem? (i := 266) (by decide +kernel)) (by decide +kernel)
theorem q_267 : Cond.classLink "ChainPicker" 82 "java/lang/IndexOutOfBoundsException" ∈ BIG := inBIG (List.mem_of_getElem? (i := 267) (by decide +kernel)) (by decide +kernel)
theorem q_268 : Cond.instantiable "java/lang/IndexOutOfBoundsException" 6 ∈ BIG := inBIG (List.mem_of_getElem? (i := 268) (by decide +kernel)) (by decide +kernel)
theorem q_270 : Cond.selects "java/lang/IndexOutOfBoundsException" ⟨"java/lang/Throwable", "fillInStackTrace", "(I)Ljava/lang/Throwable;"⟩ ⟨"java/lang/Throwable", "fillInStackTrace", "(I)Ljava/lang/Throwable;"⟩ ∈ BIG := inBIG (List.mem_of_getElem? (i := 270) (by decide +kernel)) (by decide +kernel)
theorem q_277 : Cond.methodLink "ChainPicker" 86 ⟨"java/lang/IndexOutOfBoundsException", "<init>", "(Ljava/lang/String;)V"⟩ ∈ BIG := inBIG (List.mem_of_getElem? (i := 277) (by decide +kernel)) (by decide +kernel)
theorem q_278 : Cond.instanceMethod ⟨"java/lang/IndexOutOfBoundsException", "<init>", "(Ljava/lang/String;)V"⟩ ∈ BIG := inBIG (List.mem_of_getElem? (i := 278) (by decide +kernel)) (by decide +kernel)
theorem q_279 : Cond.code ⟨"java/lang/IndexOutOfBoundsException", "<init>", "(Ljava/lang/String;)V"⟩ prog_7_method_2_code 2 none ∈ BIG := inBIG (List.mem_of_getElem? (i := 279) (by decide +kernel)) (by decide +kernel)
theorem q_280 : Cond.methodLink "java/lang/IndexOutOfBoundsException" 7 ⟨"java/lang/RuntimeException", "<init>", "(Ljava/lang/String;)V"⟩ ∈ BIG := inBIG (List.mem_of_getElem? (i := 280) (by decide +kernel)) (by decide +kernel)
theorem q_283 : Cond.methodLink "ChainPickerLaw" 78 yL_expire ∈ BIG := inBIG (List.mem_of_getElem? (i := 283) (by decide +kernel)) (by decide +kernel)
theorem q_284 : Cond.static yL_expire ∈ BIG := inBIG (List.mem_of_getElem? (i := 284) (by decide +kernel)) (by decide +kernel)
theorem q_285 : Cond.codeWith yL_expire method_5_code 4 (some FieldType.int) [(0, 9, 12, 13)] ∈ BIG := inBIG (List.mem_of_getElem? (i := 285) (by decide +kernel)) (by decide +kernel)
theorem q_286 : Cond.methodLink "ChainPickerLaw" 21 yC_expire ∈ BIG := inBIG (List.mem_of_getElem? (i := 286) (by decide +kernel)) (by decide +kernel)
theorem q_287 : Cond.instanceMethod yC_expire ∈ BIG := inBIG (List.mem_of_getElem? (i := 287) (by decide +kernel)) (by decide +kernel)
theorem q_288 : Cond.selects "ChainPicker" yC_expire yC_expire ∈ BIG := inBIG (List.mem_of_getElem? (i := 288) (by decide +kernel)) (by decide +kernel)
theorem q_289 : Cond.code yC_expire prog_1_method_12_code 4 (some FieldType.int) ∈ BIG := inBIG (List.mem_of_getElem? (i := 289) (by decide +kernel)) (by decide +kernel)
theorem q_291 : Cond.methodLink "ChainPicker" 105 yC_isOnlyGoodFull ∈ BIG := inBIG (List.mem_of_getElem? (i := 291) (by decide +kernel)) (by decide +kernel)
theorem q_293 : Cond.instanceMethod yC_isOnlyGoodFull ∈ BIG := inBIG (List.mem_of_getElem? (i := 293) (by decide +kernel)) (by decide +kernel)
theorem q_294 : Cond.code yC_isOnlyGoodFull prog_1_method_27_code 3 (some FieldType.boolean) ∈ BIG := inBIG (List.mem_of_getElem? (i := 294) (by decide +kernel)) (by decide +kernel)
theorem q_295 : Cond.classLink "ChainPickerLaw" 25 "ChainPickerModel" ∈ BIG := inBIG (List.mem_of_getElem? (i := 295) (by decide +kernel)) (by decide +kernel)
theorem q_296 : Cond.instantiable "ChainPickerModel" 12 ∈ BIG := inBIG (List.mem_of_getElem? (i := 296) (by decide +kernel)) (by decide +kernel)
theorem q_297 : Cond.methodLink "ChainPickerLaw" 27 yM_init ∈ BIG := inBIG (List.mem_of_getElem? (i := 297) (by decide +kernel)) (by decide +kernel)
theorem q_298 : Cond.instanceMethod yM_init ∈ BIG := inBIG (List.mem_of_getElem? (i := 298) (by decide +kernel)) (by decide +kernel)
theorem q_299 : Cond.code yM_init prog_4_method_1_code 1 none ∈ BIG := inBIG (List.mem_of_getElem? (i := 299) (by decide +kernel)) (by decide +kernel)
theorem q_300 : Cond.methodLink "ChainPickerModel" 1 ⟨"java/lang/Object", "<init>", "()V"⟩ ∈ BIG := inBIG (List.mem_of_getElem? (i := 300) (by decide +kernel)) (by decide +kernel)
theorem q_301 : Cond.fieldLink "ChainPickerModel" 38 "ChainPickerModel" "thrown" "I" ∈ BIG := inBIG (List.mem_of_getElem? (i := 301) (by decide +kernel)) (by decide +kernel)
theorem q_302 : Cond.fieldLink "ChainPickerModel" 43 "ChainPickerModel" "now" "I" ∈ BIG := inBIG (List.mem_of_getElem? (i := 302) (by decide +kernel)) (by decide +kernel)
theorem q_303 : Cond.fieldLink "ChainPickerModel" 46 "ChainPickerModel" "many" "I" ∈ BIG := inBIG (List.mem_of_getElem? (i := 303) (by decide +kernel)) (by decide +kernel)
theorem q_304 : Cond.fieldLink "ChainPickerModel" 7 "ChainPickerModel" "series" "[I" ∈ BIG := inBIG (List.mem_of_getElem? (i := 304) (by decide +kernel)) (by decide +kernel)
theorem q_305 : Cond.fieldLink "ChainPickerModel" 13 "ChainPickerModel" "level" "[I" ∈ BIG := inBIG (List.mem_of_getElem? (i := 305) (by decide +kernel)) (by decide +kernel)
theorem q_306 : Cond.fieldLink "ChainPickerModel" 16 "ChainPickerModel" "upgraded" "[Z" ∈ BIG := inBIG (List.mem_of_getElem? (i := 306) (by decide +kernel)) (by decide +kernel)
theorem q_307 : Cond.fieldLink "ChainPickerModel" 20 "ChainPickerModel" "base" "[I" ∈ BIG := inBIG (List.mem_of_getElem? (i := 307) (by decide +kernel)) (by decide +kernel)
theorem q_308 : Cond.fieldLink "ChainPickerModel" 23 "ChainPickerModel" "began" "[I" ∈ BIG := inBIG (List.mem_of_getElem? (i := 308) (by decide +kernel)) (by decide +kernel)
theorem q_309 : Cond.fieldLink "ChainPickerModel" 26 "ChainPickerModel" "ended" "[I" ∈ BIG := inBIG (List.mem_of_getElem? (i := 309) (by decide +kernel)) (by decide +kernel)
theorem q_310 : Cond.fieldLink "ChainPickerModel" 29 "ChainPickerModel" "state" "[I" ∈ BIG := inBIG (List.mem_of_getElem? (i := 310) (by decide +kernel)) (by decide +kernel)
theorem q_311 : Cond.fieldLink "ChainPickerModel" 32 "ChainPickerModel" "pruned" "[Z" ∈ BIG := inBIG (List.mem_of_getElem? (i := 311) (by decide +kernel)) (by decide +kernel)
theorem q_312 : Cond.fieldLink "ChainPickerModel" 35 "ChainPickerModel" "told" "[I" ∈ BIG := inBIG (List.mem_of_getElem? (i := 312) (by decide +kernel)) (by decide +kernel)
theorem q_338 : Cond.arrayClass FieldType.boolean ∈ BIG := inBIG (List.mem_of_getElem? (i := 338) (by decide +kernel)) (by decide +kernel)
theorem q_339 : Cond.methodLink "ChainPickerLaw" 34 yM_thrown ∈ BIG := inBIG (List.mem_of_getElem? (i := 339) (by decide +kernel)) (by decide +kernel)
theorem q_340 : Cond.instanceMethod yM_thrown ∈ BIG := inBIG (List.mem_of_getElem? (i := 340) (by decide +kernel)) (by decide +kernel)
theorem q_341 : Cond.selects "ChainPickerModel" yM_thrown yM_thrown ∈ BIG := inBIG (List.mem_of_getElem? (i := 341) (by decide +kernel)) (by decide +kernel)
theorem q_342 : Cond.code yM_thrown prog_4_method_2_code 1 (some FieldType.int) ∈ BIG := inBIG (List.mem_of_getElem? (i := 342) (by decide +kernel)) (by decide +kernel)
theorem q_343 : Cond.methodLink "ChainPickerLaw" 33 yM_pass ∈ BIG := inBIG (List.mem_of_getElem? (i := 343) (by decide +kernel)) (by decide +kernel)
theorem q_344 : Cond.instanceMethod yM_pass ∈ BIG := inBIG (List.mem_of_getElem? (i := 344) (by decide +kernel)) (by decide +kernel)
theorem q_345 : Cond.selects "ChainPickerModel" yM_pass yM_pass ∈ BIG := inBIG (List.mem_of_getElem? (i := 345) (by decide +kernel)) (by decide +kernel)
theorem q_346 : Cond.code yM_pass prog_4_method_3_code 2 (some FieldType.int) ∈ BIG := inBIG (List.mem_of_getElem? (i := 346) (by decide +kernel)) (by decide +kernel)
theorem q_347 : Cond.constant "ChainPickerModel" 42 1000000000 ∈ BIG := inBIG (List.mem_of_getElem? (i := 347) (by decide +kernel)) (by decide +kernel)
theorem q_348 : Cond.methodLink "ChainPickerLaw" 42 yM_begin ∈ BIG := inBIG (List.mem_of_getElem? (i := 348) (by decide +kernel)) (by decide +kernel)
theorem q_349 : Cond.instanceMethod yM_begin ∈ BIG := inBIG (List.mem_of_getElem? (i := 349) (by decide +kernel)) (by decide +kernel)
theorem q_350 : Cond.selects "ChainPickerModel" yM_begin yM_begin ∈ BIG := inBIG (List.mem_of_getElem? (i := 350) (by decide +kernel)) (by decide +kernel)
theorem q_351 : Cond.code yM_begin prog_4_method_6_code 5 (some FieldType.int) ∈ BIG := inBIG (List.mem_of_getElem? (i := 351) (by decide +kernel)) (by decide +kernel)
theorem q_352 : Cond.methodLink "ChainPickerModel" 49 yM_lastOne ∈ BIG := inBIG (List.mem_of_getElem? (i := 352) (by decide +kernel)) (by decide +kernel)
theorem q_354 : Cond.instanceMethod yM_lastOne ∈ BIG := inBIG (List.mem_of_getElem? (i := 354) (by decide +kernel)) (by decide +kernel)
theorem q_355 : Cond.code yM_lastOne prog_4_method_5_code 5 (some FieldType.int) ∈ BIG := inBIG (List.mem_of_getElem? (i := 355) (by decide +kernel)) (by decide +kernel)
theorem q_356 : Cond.methodLink "ChainPickerLaw" 47 yM_tell ∈ BIG := inBIG (List.mem_of_getElem? (i := 356) (by decide +kernel)) (by decide +kernel)
theorem q_357 : Cond.instanceMethod yM_tell ∈ BIG := inBIG (List.mem_of_getElem? (i := 357) (by decide +kernel)) (by decide +kernel)
theorem q_358 : Cond.selects "ChainPickerModel" yM_tell yM_tell ∈ BIG := inBIG (List.mem_of_getElem? (i := 358) (by decide +kernel)) (by decide +kernel)
theorem q_359 : Cond.code yM_tell prog_4_method_7_code 4 (some FieldType.boolean) ∈ BIG := inBIG (List.mem_of_getElem? (i := 359) (by decide +kernel)) (by decide +kernel)
theorem q_360 : Cond.methodLink "ChainPickerModel" 53 yM_isJob ∈ BIG := inBIG (List.mem_of_getElem? (i := 360) (by decide +kernel)) (by decide +kernel)
theorem q_362 : Cond.instanceMethod yM_isJob ∈ BIG := inBIG (List.mem_of_getElem? (i := 362) (by decide +kernel)) (by decide +kernel)
theorem q_363 : Cond.code yM_isJob prog_4_method_4_code 2 (some FieldType.boolean) ∈ BIG := inBIG (List.mem_of_getElem? (i := 363) (by decide +kernel)) (by decide +kernel)
theorem q_364 : Cond.constant "ChainPickerModel" 57 1000000 ∈ BIG := inBIG (List.mem_of_getElem? (i := 364) (by decide +kernel)) (by decide +kernel)
theorem q_365 : Cond.methodLink "ChainPickerLaw" 52 yM_end ∈ BIG := inBIG (List.mem_of_getElem? (i := 365) (by decide +kernel)) (by decide +kernel)
theorem q_366 : Cond.instanceMethod yM_end ∈ BIG := inBIG (List.mem_of_getElem? (i := 366) (by decide +kernel)) (by decide +kernel)
theorem q_367 : Cond.selects "ChainPickerModel" yM_end yM_end ∈ BIG := inBIG (List.mem_of_getElem? (i := 367) (by decide +kernel)) (by decide +kernel)
theorem q_368 : Cond.code yM_end prog_4_method_8_code 3 (some FieldType.boolean) ∈ BIG := inBIG (List.mem_of_getElem? (i := 368) (by decide +kernel)) (by decide +kernel)
theorem q_369 : Cond.methodLink "ChainPickerLaw" 56 yM_chain ∈ BIG := inBIG (List.mem_of_getElem? (i := 369) (by decide +kernel)) (by decide +kernel)
theorem q_370 : Cond.instanceMethod yM_chain ∈ BIG := inBIG (List.mem_of_getElem? (i := 370) (by decide +kernel)) (by decide +kernel)
theorem q_371 : Cond.selects "ChainPickerModel" yM_chain yM_chain ∈ BIG := inBIG (List.mem_of_getElem? (i := 371) (by decide +kernel)) (by decide +kernel)
theorem q_372 : Cond.code yM_chain prog_4_method_10_code 5 (some FieldType.int) ∈ BIG := inBIG (List.mem_of_getElem? (i := 372) (by decide +kernel)) (by decide +kernel)
theorem q_373 : Cond.methodLink "ChainPickerModel" 58 yM_head ∈ BIG := inBIG (List.mem_of_getElem? (i := 373) (by decide +kernel)) (by decide +kernel)
theorem q_375 : Cond.instanceMethod yM_head ∈ BIG := inBIG (List.mem_of_getElem? (i := 375) (by decide +kernel)) (by decide +kernel)
theorem q_376 : Cond.code yM_head prog_4_method_9_code 5 (some FieldType.int) ∈ BIG := inBIG (List.mem_of_getElem? (i := 376) (by decide +kernel)) (by decide +kernel)
theorem q_377 : Cond.methodLink "ChainPickerLaw" 60 yM_link ∈ BIG := inBIG (List.mem_of_getElem? (i := 377) (by decide +kernel)) (by decide +kernel)
theorem q_378 : Cond.instanceMethod yM_link ∈ BIG := inBIG (List.mem_of_getElem? (i := 378) (by decide +kernel)) (by decide +kernel)
theorem q_379 : Cond.selects "ChainPickerModel" yM_link yM_link ∈ BIG := inBIG (List.mem_of_getElem? (i := 379) (by decide +kernel)) (by decide +kernel)
theorem q_380 : Cond.code yM_link prog_4_method_11_code 6 (some FieldType.int) ∈ BIG := inBIG (List.mem_of_getElem? (i := 380) (by decide +kernel)) (by decide +kernel)
theorem q_381 : Cond.methodLink "ChainPickerLaw" 64 yM_view ∈ BIG := inBIG (List.mem_of_getElem? (i := 381) (by decide +kernel)) (by decide +kernel)
theorem q_382 : Cond.instanceMethod yM_view ∈ BIG := inBIG (List.mem_of_getElem? (i := 382) (by decide +kernel)) (by decide +kernel)
theorem q_383 : Cond.selects "ChainPickerModel" yM_view yM_view ∈ BIG := inBIG (List.mem_of_getElem? (i := 383) (by decide +kernel)) (by decide +kernel)
theorem q_384 : Cond.code yM_view prog_4_method_14_code 4 (some FieldType.int) ∈ BIG := inBIG (List.mem_of_getElem? (i := 384) (by decide +kernel)) (by decide +kernel)
theorem q_385 : Cond.methodLink "ChainPickerModel" 65 yM_version ∈ BIG := inBIG (List.mem_of_getElem? (i := 385) (by decide +kernel)) (by decide +kernel)
theorem q_387 : Cond.instanceMethod yM_version ∈ BIG := inBIG (List.mem_of_getElem? (i := 387) (by decide +kernel)) (by decide +kernel)
theorem q_388 : Cond.code yM_version prog_4_method_13_code 5 (some FieldType.int) ∈ BIG := inBIG (List.mem_of_getElem? (i := 388) (by decide +kernel)) (by decide +kernel)
theorem q_389 : Cond.methodLink "ChainPickerModel" 61 yM_teller ∈ BIG := inBIG (List.mem_of_getElem? (i := 389) (by decide +kernel)) (by decide +kernel)
theorem q_391 : Cond.instanceMethod yM_teller ∈ BIG := inBIG (List.mem_of_getElem? (i := 391) (by decide +kernel)) (by decide +kernel)
theorem q_392 : Cond.code yM_teller prog_4_method_12_code 5 (some FieldType.int) ∈ BIG := inBIG (List.mem_of_getElem? (i := 392) (by decide +kernel)) (by decide +kernel)
theorem q_393 : Cond.methodLink "ChainPickerLaw" 68 yM_files ∈ BIG := inBIG (List.mem_of_getElem? (i := 393) (by decide +kernel)) (by decide +kernel)
theorem q_394 : Cond.instanceMethod yM_files ∈ BIG := inBIG (List.mem_of_getElem? (i := 394) (by decide +kernel)) (by decide +kernel)
theorem q_395 : Cond.selects "ChainPickerModel" yM_files yM_files ∈ BIG := inBIG (List.mem_of_getElem? (i := 395) (by decide +kernel)) (by decide +kernel)
theorem q_396 : Cond.code yM_files prog_4_method_15_code 5 (some FieldType.int) ∈ BIG := inBIG (List.mem_of_getElem? (i := 396) (by decide +kernel)) (by decide +kernel)
theorem q_397 : Cond.methodLink "ChainPickerLaw" 72 yM_source ∈ BIG := inBIG (List.mem_of_getElem? (i := 397) (by decide +kernel)) (by decide +kernel)
theorem q_398 : Cond.instanceMethod yM_source ∈ BIG := inBIG (List.mem_of_getElem? (i := 398) (by decide +kernel)) (by decide +kernel)
theorem q_399 : Cond.selects "ChainPickerModel" yM_source yM_source ∈ BIG := inBIG (List.mem_of_getElem? (i := 399) (by decide +kernel)) (by decide +kernel)
theorem q_400 : Cond.code yM_source prog_4_method_16_code 4 (some FieldType.int) ∈ BIG := inBIG (List.mem_of_getElem? (i := 400) (by decide +kernel)) (by decide +kernel)
theorem q_401 : Cond.methodLink "ChainPickerLaw" 77 yM_prune ∈ BIG := inBIG (List.mem_of_getElem? (i := 401) (by decide +kernel)) (by decide +kernel)
theorem q_402 : Cond.instanceMethod yM_prune ∈ BIG := inBIG (List.mem_of_getElem? (i := 402) (by decide +kernel)) (by decide +kernel)
theorem q_403 : Cond.selects "ChainPickerModel" yM_prune yM_prune ∈ BIG := inBIG (List.mem_of_getElem? (i := 403) (by decide +kernel)) (by decide +kernel)
theorem q_404 : Cond.code yM_prune prog_4_method_20_code 2 (some FieldType.boolean) ∈ BIG := inBIG (List.mem_of_getElem? (i := 404) (by decide +kernel)) (by decide +kernel)
theorem q_405 : Cond.methodLink "ChainPickerModel" 72 yM_mayGo ∈ BIG := inBIG (List.mem_of_getElem? (i := 405) (by decide +kernel)) (by decide +kernel)
theorem q_407 : Cond.instanceMethod yM_mayGo ∈ BIG := inBIG (List.mem_of_getElem? (i := 407) (by decide +kernel)) (by decide +kernel)
theorem q_408 : Cond.code yM_mayGo prog_4_method_18_code 2 (some FieldType.boolean) ∈ BIG := inBIG (List.mem_of_getElem? (i := 408) (by decide +kernel)) (by decide +kernel)
theorem q_409 : Cond.methodLink "ChainPickerModel" 68 yM_standing ∈ BIG := inBIG (List.mem_of_getElem? (i := 409) (by decide +kernel)) (by decide +kernel)
theorem q_411 : Cond.instanceMethod yM_standing ∈ BIG := inBIG (List.mem_of_getElem? (i := 411) (by decide +kernel)) (by decide +kernel)
theorem q_412 : Cond.code yM_standing prog_4_method_17_code 4 (some FieldType.int) ∈ BIG := inBIG (List.mem_of_getElem? (i := 412) (by decide +kernel)) (by decide +kernel)
theorem q_413 : Cond.methodLink "ChainPickerModel" 75 yM_drop ∈ BIG := inBIG (List.mem_of_getElem? (i := 413) (by decide +kernel)) (by decide +kernel)
theorem q_415 : Cond.instanceMethod yM_drop ∈ BIG := inBIG (List.mem_of_getElem? (i := 415) (by decide +kernel)) (by decide +kernel)
theorem q_416 : Cond.code yM_drop prog_4_method_19_code 3 none ∈ BIG := inBIG (List.mem_of_getElem? (i := 416) (by decide +kernel)) (by decide +kernel)
theorem q_417 : Cond.methodLink "ChainPickerLaw" 80 yM_expire ∈ BIG := inBIG (List.mem_of_getElem? (i := 417) (by decide +kernel)) (by decide +kernel)
theorem q_418 : Cond.instanceMethod yM_expire ∈ BIG := inBIG (List.mem_of_getElem? (i := 418) (by decide +kernel)) (by decide +kernel)
theorem q_419 : Cond.selects "ChainPickerModel" yM_expire yM_expire ∈ BIG := inBIG (List.mem_of_getElem? (i := 419) (by decide +kernel)) (by decide +kernel)
theorem q_420 : Cond.code yM_expire prog_4_method_22_code 4 (some FieldType.int) ∈ BIG := inBIG (List.mem_of_getElem? (i := 420) (by decide +kernel)) (by decide +kernel)
theorem q_421 : Cond.methodLink "ChainPickerModel" 79 yM_isOnly ∈ BIG := inBIG (List.mem_of_getElem? (i := 421) (by decide +kernel)) (by decide +kernel)
theorem q_423 : Cond.instanceMethod yM_isOnly ∈ BIG := inBIG (List.mem_of_getElem? (i := 423) (by decide +kernel)) (by decide +kernel)
theorem q_424 : Cond.code yM_isOnly prog_4_method_21_code 3 (some FieldType.boolean) ∈ BIG := inBIG (List.mem_of_getElem? (i := 424) (by decide +kernel)) (by decide +kernel)
theorem q_425 : Cond.methodLink "ChainPickerLaw" 84 yM_job ∈ BIG := inBIG (List.mem_of_getElem? (i := 425) (by decide +kernel)) (by decide +kernel)
theorem q_426 : Cond.instanceMethod yM_job ∈ BIG := inBIG (List.mem_of_getElem? (i := 426) (by decide +kernel)) (by decide +kernel)
theorem q_427 : Cond.selects "ChainPickerModel" yM_job yM_job ∈ BIG := inBIG (List.mem_of_getElem? (i := 427) (by decide +kernel)) (by decide +kernel)
theorem q_428 : Cond.code yM_job prog_4_method_23_code 5 (some FieldType.int) ∈ BIG := inBIG (List.mem_of_getElem? (i := 428) (by decide +kernel)) (by decide +kernel)
theorem q_429 : Cond.methodLink "ChainPickerLaw" 88 yM_count ∈ BIG := inBIG (List.mem_of_getElem? (i := 429) (by decide +kernel)) (by decide +kernel)
theorem q_430 : Cond.instanceMethod yM_count ∈ BIG := inBIG (List.mem_of_getElem? (i := 430) (by decide +kernel)) (by decide +kernel)
theorem q_431 : Cond.selects "ChainPickerModel" yM_count yM_count ∈ BIG := inBIG (List.mem_of_getElem? (i := 431) (by decide +kernel)) (by decide +kernel)
theorem q_432 : Cond.code yM_count prog_4_method_24_code 5 (some FieldType.int) ∈ BIG := inBIG (List.mem_of_getElem? (i := 432) (by decide +kernel)) (by decide +kernel)
theorem q_433 : Cond.arrayClass FieldType.long ∈ BIG := inBIG (List.mem_of_getElem? (i := 433) (by decide +kernel)) (by decide +kernel)
theorem qs_0 : Cond.selects "ChainPicker" yC_hasRunning yC_hasRunning ∈ BIG := inBIGs (by decide +kernel) (by decide +kernel)
theorem qs_1 : Cond.selects "ChainPicker" yC_findBase yC_findBase ∈ BIG := inBIGs (by decide +kernel) (by decide +kernel)
theorem qs_2 : Cond.selects "ChainPicker" yC_findJob yC_findJob ∈ BIG := inBIGs (by decide +kernel) (by decide +kernel)
theorem qs_3 : Cond.selects "ChainPicker" yC_findHead yC_findHead ∈ BIG := inBIGs (by decide +kernel) (by decide +kernel)
theorem qs_4 : Cond.selects "ChainPicker" yC_countRunning yC_countRunning ∈ BIG := inBIGs (by decide +kernel) (by decide +kernel)
theorem qs_5 : Cond.selects "ChainPicker" yC_countPruned yC_countPruned ∈ BIG := inBIGs (by decide +kernel) (by decide +kernel)
theorem qs_7 : Cond.selects "ChainPicker" yC_isOnlyGoodFull yC_isOnlyGoodFull ∈ BIG := inBIGs (by decide +kernel) (by decide +kernel)
theorem qs_8 : Cond.selects "ChainPickerModel" yM_lastOne yM_lastOne ∈ BIG := inBIGs (by decide +kernel) (by decide +kernel)
theorem qs_9 : Cond.selects "ChainPickerModel" yM_isJob yM_isJob ∈ BIG := inBIGs (by decide +kernel) (by decide +kernel)
theorem qs_10 : Cond.selects "ChainPickerModel" yM_head yM_head ∈ BIG := inBIGs (by decide +kernel) (by decide +kernel)
theorem qs_11 : Cond.selects "ChainPickerModel" yM_version yM_version ∈ BIG := inBIGs (by decide +kernel) (by decide +kernel)
theorem qs_12 : Cond.selects "ChainPickerModel" yM_teller yM_teller ∈ BIG := inBIGs (by decide +kernel) (by decide +kernel)
theorem qs_13 : Cond.selects "ChainPickerModel" yM_mayGo yM_mayGo ∈ BIG := inBIGs (by decide +kernel) (by decide +kernel)
theorem qs_14 : Cond.selects "ChainPickerModel" yM_standing yM_standing ∈ BIG := inBIGs (by decide +kernel) (by decide +kernel)
theorem qs_15 : Cond.selects "ChainPickerModel" yM_drop yM_drop ∈ BIG := inBIGs (by decide +kernel) (by decide +kernel)
theorem qs_16 : Cond.selects "ChainPickerModel" yM_isOnly yM_isOnly ∈ BIG := inBIGs (by decide +kernel) (by decide +kernel)
abbrev NEST : List Cond := [Cond.methodLinkNest "ChainPicker" 47 yJ_init "ChainPicker", Cond.fieldLinkNest "ChainPicker" 50 "ChainPicker$Job" "number" "I" "ChainPicker", Cond.fieldLinkNest "ChainPicker" 111 "ChainPicker$Job" "series" "I" "ChainPicker", Cond.fieldLinkNest "ChainPicker" 63 "ChainPicker$Job" "level" "I" "ChainPicker", Cond.fieldLinkNest "ChainPicker" 114 "ChainPicker$Job" "upgraded" "Z" "ChainPicker", Cond.fieldLinkNest "ChainPicker" 79 "ChainPicker$Job" "base" "LChainPicker$Job;" "ChainPicker", Cond.fieldLinkNest "ChainPicker" 118 "ChainPicker$Job" "began" "I" "ChainPicker", Cond.fieldLinkNest "ChainPicker" 108 "ChainPicker$Job" "earlier" "LChainPicker$Job;" "ChainPicker", Cond.fieldLinkNest "ChainPicker" 69 "ChainPicker$Job" "versions" "[I" "ChainPicker", Cond.fieldLinkNest "ChainPicker" 73 "ChainPicker$Job" "ended" "I" "ChainPicker", Cond.fieldLinkNest "ChainPicker" 57 "ChainPicker$Job" "state" "I" "ChainPicker", Cond.fieldLinkNest "ChainPicker" 121 "ChainPicker$Job" "pruned" "Z" "ChainPicker", Cond.fieldLinkNest "ChainPicker" 42 "ChainPicker$Job" "standing" "I" "ChainPicker", Cond.castable "java/lang/IllegalArgumentException" "java/lang/IllegalArgumentException", Cond.declares ⟨"java/lang/RuntimeException", "<init>", "()V"⟩, Cond.declares ⟨"java/lang/RuntimeException", "<init>", "(Ljava/lang/String;)V"⟩, Cond.declares ⟨"java/lang/Exception", "<init>", "()V"⟩, Cond.declares ⟨"java/lang/Exception", "<init>", "(Ljava/lang/String;)V"⟩, Cond.declares ⟨"java/lang/Throwable", "<init>", "()V"⟩, Cond.declares ⟨"java/lang/Throwable", "<init>", "(Ljava/lang/String;)V"⟩, Cond.castable "java/lang/IndexOutOfBoundsException" "java/lang/IndexOutOfBoundsException"]
theorem NEST_ok : NEST.all nestWord = true := by decide +kernel
theorem NEST_in : ∀ w ∈ NEST, w ∈ lw_tbl := by decide +kernel
theorem i_J : ∀ w ∈ u_ws "ChainPicker$Job" T_J 12, w ∈ BIG := by decide +kernel
theorem i_C : ∀ w ∈ u_ws "ChainPicker" T_C 3, w ∈ BIG := by decide +kernel
theorem i_M : ∀ w ∈ u_ws "ChainPickerModel" T_M 12, w ∈ BIG := by decide +kernel
end
section
theorem dC_init_0 : decode cC_init 0 = .ok (.aload_n 0, 1) := by decide +kernel
theorem dC_init_1 : decode cC_init 1 = .ok (.invokespecial 3, 3) := by decide +kernel
theorem dC_init_4 : decode cC_init 4 = .ok (.aload_n 0, 1) := by decide +kernel
theorem dC_init_5 : decode cC_init 5 = .ok (.iconst 0, 1) := by decide +kernel
theorem dC_init_6 : decode cC_init 6 = .ok (.putfield 9, 3) := by decide +kernel
theorem dC_init_9 : decode cC_init 9 = .ok (.aload_n 0, 1) := by decide +kernel
theorem dC_init_10 : decode cC_init 10 = .ok (.iconst 0, 1) := by decide +kernel
theorem dC_init_11 : decode cC_init 11 = .ok (.putfield 13, 3) := by decide +kernel
theorem dC_init_14 : decode cC_init 14 = .ok (.aload_n 0, 1) := by decide +kernel
theorem dC_init_15 : decode cC_init 15 = .ok (.aconst_null, 1) := by decide +kernel
theorem dC_init_16 : decode cC_init 16 = .ok (.putfield 16, 3) := by decide +kernel
theorem dC_init_19 : decode cC_init 19 = .ok (.return_, 1) := by decide +kernel
theorem dC_begin_0 : decode cC_begin 0 = .ok (.iload_n 1, 1) := by decide +kernel
theorem dC_begin_1 : decode cC_begin 1 = .ok (.invokestatic 28, 3) := by decide +kernel
theorem dC_begin_4 : decode cC_begin 4 = .ok (.ifCond .eq 28, 3) := by decide +kernel
theorem dC_begin_7 : decode cC_begin 7 = .ok (.iload_n 2, 1) := by decide +kernel
theorem dC_begin_8 : decode cC_begin 8 = .ok (.invokestatic 32, 3) := by decide +kernel
theorem dC_begin_11 : decode cC_begin 11 = .ok (.ifCond .eq 21, 3) := by decide +kernel
theorem dC_begin_14 : decode cC_begin 14 = .ok (.aload_n 0, 1) := by decide +kernel
theorem dC_begin_15 : decode cC_begin 15 = .ok (.getfield 13, 3) := by decide +kernel
theorem dC_begin_18 : decode cC_begin 18 = .ok (.sipush 200, 3) := by decide +kernel
theorem dC_begin_21 : decode cC_begin 21 = .ok (.if_icmp .ge 11, 3) := by decide +kernel
theorem dC_begin_24 : decode cC_begin 24 = .ok (.aload_n 0, 1) := by decide +kernel
theorem dC_begin_25 : decode cC_begin 25 = .ok (.iload_n 1, 1) := by decide +kernel
theorem dC_begin_26 : decode cC_begin 26 = .ok (.invokevirtual 35, 3) := by decide +kernel
theorem dC_begin_29 : decode cC_begin 29 = .ok (.ifCond .eq 5, 3) := by decide +kernel
theorem dC_begin_32 : decode cC_begin 32 = .ok (.iconst (-1), 1) := by decide +kernel
theorem dC_begin_33 : decode cC_begin 33 = .ok (.ireturn, 1) := by decide +kernel
theorem dC_begin_34 : decode cC_begin 34 = .ok (.aload_n 0, 1) := by decide +kernel
theorem dC_begin_35 : decode cC_begin 35 = .ok (.iload_n 1, 1) := by decide +kernel
theorem dC_begin_36 : decode cC_begin 36 = .ok (.iload_n 2, 1) := by decide +kernel
theorem dC_begin_37 : decode cC_begin 37 = .ok (.invokevirtual 38, 3) := by decide +kernel
theorem dC_begin_40 : decode cC_begin 40 = .ok (.astore_n 3, 1) := by decide +kernel
theorem dC_begin_41 : decode cC_begin 41 = .ok (.aload_n 3, 1) := by decide +kernel
theorem dC_begin_42 : decode cC_begin 42 = .ok (.ifnull 13, 3) := by decide +kernel
theorem dC_begin_45 : decode cC_begin 45 = .ok (.aload_n 3, 1) := by decide +kernel
theorem dC_begin_46 : decode cC_begin 46 = .ok (.dup, 1) := by decide +kernel
theorem dC_begin_47 : decode cC_begin 47 = .ok (.getfield 42, 3) := by decide +kernel
theorem dC_begin_50 : decode cC_begin 50 = .ok (.iconst 1, 1) := by decide +kernel
theorem dC_begin_51 : decode cC_begin 51 = .ok (.iadd, 1) := by decide +kernel
theorem dC_begin_52 : decode cC_begin 52 = .ok (.putfield 42, 3) := by decide +kernel
theorem dC_begin_55 : decode cC_begin 55 = .ok (.aload_n 0, 1) := by decide +kernel
theorem dC_begin_56 : decode cC_begin 56 = .ok (.new 43, 3) := by decide +kernel
theorem dC_begin_59 : decode cC_begin 59 = .ok (.dup, 1) := by decide +kernel
theorem dC_begin_60 : decode cC_begin 60 = .ok (.aload_n 0, 1) := by decide +kernel
theorem dC_begin_61 : decode cC_begin 61 = .ok (.getfield 13, 3) := by decide +kernel
theorem dC_begin_64 : decode cC_begin 64 = .ok (.iload_n 1, 1) := by decide +kernel
theorem dC_begin_65 : decode cC_begin 65 = .ok (.iload_n 2, 1) := by decide +kernel
theorem dC_begin_66 : decode cC_begin 66 = .ok (.aload_n 3, 1) := by decide +kernel
theorem dC_begin_67 : decode cC_begin 67 = .ok (.aload_n 0, 1) := by decide +kernel
theorem dC_begin_68 : decode cC_begin 68 = .ok (.getfield 9, 3) := by decide +kernel
theorem dC_begin_71 : decode cC_begin 71 = .ok (.aload_n 0, 1) := by decide +kernel
theorem dC_begin_72 : decode cC_begin 72 = .ok (.getfield 16, 3) := by decide +kernel
theorem dC_begin_75 : decode cC_begin 75 = .ok (.invokespecial 47, 3) := by decide +kernel
theorem dC_begin_78 : decode cC_begin 78 = .ok (.putfield 16, 3) := by decide +kernel
theorem dC_begin_81 : decode cC_begin 81 = .ok (.aload_n 0, 1) := by decide +kernel
theorem dC_begin_82 : decode cC_begin 82 = .ok (.dup, 1) := by decide +kernel
theorem dC_begin_83 : decode cC_begin 83 = .ok (.getfield 13, 3) := by decide +kernel
theorem dC_begin_86 : decode cC_begin 86 = .ok (.iconst 1, 1) := by decide +kernel
theorem dC_begin_87 : decode cC_begin 87 = .ok (.iadd, 1) := by decide +kernel
theorem dC_begin_88 : decode cC_begin 88 = .ok (.putfield 13, 3) := by decide +kernel
theorem dC_begin_91 : decode cC_begin 91 = .ok (.aload_n 0, 1) := by decide +kernel
theorem dC_begin_92 : decode cC_begin 92 = .ok (.getfield 16, 3) := by decide +kernel
theorem dC_begin_95 : decode cC_begin 95 = .ok (.getfield 50, 3) := by decide +kernel
theorem dC_begin_98 : decode cC_begin 98 = .ok (.ireturn, 1) := by decide +kernel
theorem dC_isSeries_0 : decode cC_isSeries 0 = .ok (.iload_n 0, 1) := by decide +kernel
theorem dC_isSeries_1 : decode cC_isSeries 1 = .ok (.ifCond .lt 13, 3) := by decide +kernel
theorem dC_isSeries_4 : decode cC_isSeries 4 = .ok (.iload_n 0, 1) := by decide +kernel
theorem dC_isSeries_5 : decode cC_isSeries 5 = .ok (.bipush 8, 2) := by decide +kernel
theorem dC_isSeries_7 : decode cC_isSeries 7 = .ok (.if_icmp .ge 7, 3) := by decide +kernel
theorem dC_isSeries_10 : decode cC_isSeries 10 = .ok (.iconst 1, 1) := by decide +kernel
theorem dC_isSeries_11 : decode cC_isSeries 11 = .ok (.goto 4, 3) := by decide +kernel
theorem dC_isSeries_14 : decode cC_isSeries 14 = .ok (.iconst 0, 1) := by decide +kernel
theorem dC_isSeries_15 : decode cC_isSeries 15 = .ok (.ireturn, 1) := by decide +kernel
theorem dC_isLevel_0 : decode cC_isLevel 0 = .ok (.iload_n 0, 1) := by decide +kernel
theorem dC_isLevel_1 : decode cC_isLevel 1 = .ok (.ifCond .lt 12, 3) := by decide +kernel
theorem dC_isLevel_4 : decode cC_isLevel 4 = .ok (.iload_n 0, 1) := by decide +kernel
theorem dC_isLevel_5 : decode cC_isLevel 5 = .ok (.iconst 2, 1) := by decide +kernel
theorem dC_isLevel_6 : decode cC_isLevel 6 = .ok (.if_icmp .gt 7, 3) := by decide +kernel
theorem dC_isLevel_9 : decode cC_isLevel 9 = .ok (.iconst 1, 1) := by decide +kernel
theorem dC_isLevel_10 : decode cC_isLevel 10 = .ok (.goto 4, 3) := by decide +kernel
theorem dC_isLevel_13 : decode cC_isLevel 13 = .ok (.iconst 0, 1) := by decide +kernel
theorem dC_isLevel_14 : decode cC_isLevel 14 = .ok (.ireturn, 1) := by decide +kernel
theorem dC_hasRunning_0 : decode cC_hasRunning 0 = .ok (.aload_n 0, 1) := by decide +kernel
theorem dC_hasRunning_1 : decode cC_hasRunning 1 = .ok (.getfield 16, 3) := by decide +kernel
theorem dC_hasRunning_4 : decode cC_hasRunning 4 = .ok (.astore_n 2, 1) := by decide +kernel
theorem dC_hasRunning_5 : decode cC_hasRunning 5 = .ok (.aload_n 2, 1) := by decide +kernel
theorem dC_hasRunning_6 : decode cC_hasRunning 6 = .ok (.ifnull 28, 3) := by decide +kernel
theorem dC_hasRunning_9 : decode cC_hasRunning 9 = .ok (.aload_n 2, 1) := by decide +kernel
theorem dC_hasRunning_10 : decode cC_hasRunning 10 = .ok (.getfield 111, 3) := by decide +kernel
theorem dC_hasRunning_13 : decode cC_hasRunning 13 = .ok (.iload_n 1, 1) := by decide +kernel
theorem dC_hasRunning_14 : decode cC_hasRunning 14 = .ok (.if_icmp .ne 12, 3) := by decide +kernel
theorem dC_hasRunning_17 : decode cC_hasRunning 17 = .ok (.aload_n 2, 1) := by decide +kernel
theorem dC_hasRunning_18 : decode cC_hasRunning 18 = .ok (.getfield 57, 3) := by decide +kernel
theorem dC_hasRunning_21 : decode cC_hasRunning 21 = .ok (.ifCond .ne 5, 3) := by decide +kernel
theorem dC_hasRunning_24 : decode cC_hasRunning 24 = .ok (.iconst 1, 1) := by decide +kernel
theorem dC_hasRunning_25 : decode cC_hasRunning 25 = .ok (.ireturn, 1) := by decide +kernel
theorem dC_hasRunning_26 : decode cC_hasRunning 26 = .ok (.aload_n 2, 1) := by decide +kernel
theorem dC_hasRunning_27 : decode cC_hasRunning 27 = .ok (.getfield 108, 3) := by decide +kernel
theorem dC_hasRunning_30 : decode cC_hasRunning 30 = .ok (.astore_n 2, 1) := by decide +kernel
theorem dC_hasRunning_31 : decode cC_hasRunning 31 = .ok (.goto (-26), 3) := by decide +kernel
theorem dC_hasRunning_34 : decode cC_hasRunning 34 = .ok (.iconst 0, 1) := by decide +kernel
theorem dC_hasRunning_35 : decode cC_hasRunning 35 = .ok (.ireturn, 1) := by decide +kernel
theorem dC_findBase_0 : decode cC_findBase 0 = .ok (.iload_n 2, 1) := by decide +kernel
theorem dC_findBase_1 : decode cC_findBase 1 = .ok (.ifCond .ne 5, 3) := by decide +kernel
theorem dC_findBase_4 : decode cC_findBase 4 = .ok (.aconst_null, 1) := by decide +kernel
theorem dC_findBase_5 : decode cC_findBase 5 = .ok (.areturn, 1) := by decide +kernel
theorem dC_findBase_6 : decode cC_findBase 6 = .ok (.aload_n 0, 1) := by decide +kernel
theorem dC_findBase_7 : decode cC_findBase 7 = .ok (.getfield 16, 3) := by decide +kernel
theorem dC_findBase_10 : decode cC_findBase 10 = .ok (.astore_n 3, 1) := by decide +kernel
theorem dC_findBase_11 : decode cC_findBase 11 = .ok (.aload_n 3, 1) := by decide +kernel
theorem dC_findBase_12 : decode cC_findBase 12 = .ok (.ifnull 40, 3) := by decide +kernel
theorem dC_findBase_15 : decode cC_findBase 15 = .ok (.aload_n 3, 1) := by decide +kernel
theorem dC_findBase_16 : decode cC_findBase 16 = .ok (.getfield 111, 3) := by decide +kernel
theorem dC_findBase_19 : decode cC_findBase 19 = .ok (.iload_n 1, 1) := by decide +kernel
theorem dC_findBase_20 : decode cC_findBase 20 = .ok (.if_icmp .ne 24, 3) := by decide +kernel
theorem dC_findBase_23 : decode cC_findBase 23 = .ok (.aload_n 3, 1) := by decide +kernel
theorem dC_findBase_24 : decode cC_findBase 24 = .ok (.invokestatic 136, 3) := by decide +kernel
theorem dC_findBase_27 : decode cC_findBase 27 = .ok (.ifCond .eq 17, 3) := by decide +kernel
theorem dC_findBase_30 : decode cC_findBase 30 = .ok (.iload_n 2, 1) := by decide +kernel
theorem dC_findBase_31 : decode cC_findBase 31 = .ok (.iconst 2, 1) := by decide +kernel
theorem dC_findBase_32 : decode cC_findBase 32 = .ok (.if_icmp .eq 10, 3) := by decide +kernel
theorem dC_findBase_35 : decode cC_findBase 35 = .ok (.aload_n 3, 1) := by decide +kernel
theorem dC_findBase_36 : decode cC_findBase 36 = .ok (.getfield 63, 3) := by decide +kernel
theorem dC_findBase_39 : decode cC_findBase 39 = .ok (.ifCond .ne 5, 3) := by decide +kernel
theorem dC_findBase_42 : decode cC_findBase 42 = .ok (.aload_n 3, 1) := by decide +kernel
theorem dC_findBase_43 : decode cC_findBase 43 = .ok (.areturn, 1) := by decide +kernel
theorem dC_findBase_44 : decode cC_findBase 44 = .ok (.aload_n 3, 1) := by decide +kernel
theorem dC_findBase_45 : decode cC_findBase 45 = .ok (.getfield 108, 3) := by decide +kernel
theorem dC_findBase_48 : decode cC_findBase 48 = .ok (.astore_n 3, 1) := by decide +kernel
theorem dC_findBase_49 : decode cC_findBase 49 = .ok (.goto (-38), 3) := by decide +kernel
theorem dC_findBase_52 : decode cC_findBase 52 = .ok (.aconst_null, 1) := by decide +kernel
theorem dC_findBase_53 : decode cC_findBase 53 = .ok (.areturn, 1) := by decide +kernel
theorem dC_isUsable_0 : decode cC_isUsable 0 = .ok (.aload_n 0, 1) := by decide +kernel
theorem dC_isUsable_1 : decode cC_isUsable 1 = .ok (.getfield 57, 3) := by decide +kernel
theorem dC_isUsable_4 : decode cC_isUsable 4 = .ok (.iconst 1, 1) := by decide +kernel
theorem dC_isUsable_5 : decode cC_isUsable 5 = .ok (.if_icmp .ne 14, 3) := by decide +kernel
theorem dC_isUsable_8 : decode cC_isUsable 8 = .ok (.aload_n 0, 1) := by decide +kernel
theorem dC_isUsable_9 : decode cC_isUsable 9 = .ok (.getfield 121, 3) := by decide +kernel
theorem dC_isUsable_12 : decode cC_isUsable 12 = .ok (.ifCond .ne 7, 3) := by decide +kernel
theorem dC_isUsable_15 : decode cC_isUsable 15 = .ok (.iconst 1, 1) := by decide +kernel
theorem dC_isUsable_16 : decode cC_isUsable 16 = .ok (.goto 4, 3) := by decide +kernel
theorem dC_isUsable_19 : decode cC_isUsable 19 = .ok (.iconst 0, 1) := by decide +kernel
theorem dC_isUsable_20 : decode cC_isUsable 20 = .ok (.ireturn, 1) := by decide +kernel
theorem dJ_init_0 : decode cJ_init 0 = .ok (.aload_n 0, 1) := by decide +kernel
theorem dJ_init_1 : decode cJ_init 1 = .ok (.invokespecial 3, 3) := by decide +kernel
theorem dJ_init_4 : decode cJ_init 4 = .ok (.aload_n 0, 1) := by decide +kernel
theorem dJ_init_5 : decode cJ_init 5 = .ok (.iload_n 1, 1) := by decide +kernel
theorem dJ_init_6 : decode cJ_init 6 = .ok (.putfield 9, 3) := by decide +kernel
theorem dJ_init_9 : decode cJ_init 9 = .ok (.aload_n 0, 1) := by decide +kernel
theorem dJ_init_10 : decode cJ_init 10 = .ok (.iload_n 2, 1) := by decide +kernel
theorem dJ_init_11 : decode cJ_init 11 = .ok (.putfield 15, 3) := by decide +kernel
theorem dJ_init_14 : decode cJ_init 14 = .ok (.aload_n 0, 1) := by decide +kernel
theorem dJ_init_15 : decode cJ_init 15 = .ok (.aload 4, 2) := by decide +kernel
theorem dJ_init_17 : decode cJ_init 17 = .ok (.ifnonnull 7, 3) := by decide +kernel
theorem dJ_init_20 : decode cJ_init 20 = .ok (.iconst 0, 1) := by decide +kernel
theorem dJ_init_21 : decode cJ_init 21 = .ok (.goto 4, 3) := by decide +kernel
theorem dJ_init_24 : decode cJ_init 24 = .ok (.iload_n 3, 1) := by decide +kernel
theorem dJ_init_25 : decode cJ_init 25 = .ok (.putfield 18, 3) := by decide +kernel
theorem dJ_init_28 : decode cJ_init 28 = .ok (.aload_n 0, 1) := by decide +kernel
theorem dJ_init_29 : decode cJ_init 29 = .ok (.aload 4, 2) := by decide +kernel
theorem dJ_init_31 : decode cJ_init 31 = .ok (.ifnonnull 11, 3) := by decide +kernel
theorem dJ_init_34 : decode cJ_init 34 = .ok (.iload_n 3, 1) := by decide +kernel
theorem dJ_init_35 : decode cJ_init 35 = .ok (.ifCond .eq 7, 3) := by decide +kernel
theorem dJ_init_38 : decode cJ_init 38 = .ok (.iconst 1, 1) := by decide +kernel
theorem dJ_init_39 : decode cJ_init 39 = .ok (.goto 4, 3) := by decide +kernel
theorem dJ_init_42 : decode cJ_init 42 = .ok (.iconst 0, 1) := by decide +kernel
theorem dJ_init_43 : decode cJ_init 43 = .ok (.putfield 21, 3) := by decide +kernel
theorem dJ_init_46 : decode cJ_init 46 = .ok (.aload_n 0, 1) := by decide +kernel
theorem dJ_init_47 : decode cJ_init 47 = .ok (.aload 4, 2) := by decide +kernel
theorem dJ_init_49 : decode cJ_init 49 = .ok (.putfield 25, 3) := by decide +kernel
theorem dJ_init_52 : decode cJ_init 52 = .ok (.aload_n 0, 1) := by decide +kernel
theorem dJ_init_53 : decode cJ_init 53 = .ok (.iload 5, 2) := by decide +kernel
theorem dJ_init_55 : decode cJ_init 55 = .ok (.putfield 29, 3) := by decide +kernel
theorem dJ_init_58 : decode cJ_init 58 = .ok (.aload_n 0, 1) := by decide +kernel
theorem dJ_init_59 : decode cJ_init 59 = .ok (.aload 6, 2) := by decide +kernel
theorem dJ_init_61 : decode cJ_init 61 = .ok (.putfield 32, 3) := by decide +kernel
theorem dJ_init_64 : decode cJ_init 64 = .ok (.aload_n 0, 1) := by decide +kernel
theorem dJ_init_65 : decode cJ_init 65 = .ok (.bipush 50, 2) := by decide +kernel
theorem dJ_init_67 : decode cJ_init 67 = .ok (.newarray .int, 2) := by decide +kernel
theorem dJ_init_69 : decode cJ_init 69 = .ok (.putfield 35, 3) := by decide +kernel
theorem dJ_init_72 : decode cJ_init 72 = .ok (.aload_n 0, 1) := by decide +kernel
theorem dJ_init_73 : decode cJ_init 73 = .ok (.getfield 35, 3) := by decide +kernel
theorem dJ_init_76 : decode cJ_init 76 = .ok (.bipush (-2), 2) := by decide +kernel
theorem dJ_init_78 : decode cJ_init 78 = .ok (.invokestatic 39, 3) := by decide +kernel
theorem dJ_init_81 : decode cJ_init 81 = .ok (.aload_n 0, 1) := by decide +kernel
theorem dJ_init_82 : decode cJ_init 82 = .ok (.iconst (-1), 1) := by decide +kernel
theorem dJ_init_83 : decode cJ_init 83 = .ok (.putfield 45, 3) := by decide +kernel
theorem dJ_init_86 : decode cJ_init 86 = .ok (.aload_n 0, 1) := by decide +kernel
theorem dJ_init_87 : decode cJ_init 87 = .ok (.iconst 0, 1) := by decide +kernel
theorem dJ_init_88 : decode cJ_init 88 = .ok (.putfield 48, 3) := by decide +kernel
theorem dJ_init_91 : decode cJ_init 91 = .ok (.aload_n 0, 1) := by decide +kernel
theorem dJ_init_92 : decode cJ_init 92 = .ok (.iconst 0, 1) := by decide +kernel
theorem dJ_init_93 : decode cJ_init 93 = .ok (.putfield 51, 3) := by decide +kernel
theorem dJ_init_96 : decode cJ_init 96 = .ok (.aload_n 0, 1) := by decide +kernel
theorem dJ_init_97 : decode cJ_init 97 = .ok (.iconst 0, 1) := by decide +kernel
theorem dJ_init_98 : decode cJ_init 98 = .ok (.putfield 54, 3) := by decide +kernel
theorem dJ_init_101 : decode cJ_init 101 = .ok (.return_, 1) := by decide +kernel
theorem dF_fill_0 : decode cF_fill 0 = .ok (.iconst 0, 1) := by decide +kernel
theorem dF_fill_1 : decode cF_fill 1 = .ok (.istore_n 2, 1) := by decide +kernel
theorem dF_fill_2 : decode cF_fill 2 = .ok (.aload_n 0, 1) := by decide +kernel
theorem dF_fill_3 : decode cF_fill 3 = .ok (.arraylength, 1) := by decide +kernel
theorem dF_fill_4 : decode cF_fill 4 = .ok (.istore_n 3, 1) := by decide +kernel
theorem dF_fill_5 : decode cF_fill 5 = .ok (.iload_n 2, 1) := by decide +kernel
theorem dF_fill_6 : decode cF_fill 6 = .ok (.iload_n 3, 1) := by decide +kernel
theorem dF_fill_7 : decode cF_fill 7 = .ok (.if_icmp .ge 13, 3) := by decide +kernel
theorem dF_fill_10 : decode cF_fill 10 = .ok (.aload_n 0, 1) := by decide +kernel
theorem dF_fill_11 : decode cF_fill 11 = .ok (.iload_n 2, 1) := by decide +kernel
theorem dF_fill_12 : decode cF_fill 12 = .ok (.iload_n 1, 1) := by decide +kernel
theorem dF_fill_13 : decode cF_fill 13 = .ok (.iastore, 1) := by decide +kernel
theorem dF_fill_14 : decode cF_fill 14 = .ok (.iinc 2 1, 3) := by decide +kernel
theorem dF_fill_17 : decode cF_fill 17 = .ok (.goto (-12), 3) := by decide +kernel
theorem dF_fill_20 : decode cF_fill 20 = .ok (.return_, 1) := by decide +kernel
theorem dC_tell_0 : decode cC_tell 0 = .ok (.aload_n 0, 1) := by decide +kernel
theorem dC_tell_1 : decode cC_tell 1 = .ok (.iload_n 1, 1) := by decide +kernel
theorem dC_tell_2 : decode cC_tell 2 = .ok (.invokevirtual 53, 3) := by decide +kernel
theorem dC_tell_5 : decode cC_tell 5 = .ok (.astore 4, 2) := by decide +kernel
theorem dC_tell_7 : decode cC_tell 7 = .ok (.aload 4, 2) := by decide +kernel
theorem dC_tell_9 : decode cC_tell 9 = .ok (.ifnull 18, 3) := by decide +kernel
theorem dC_tell_12 : decode cC_tell 12 = .ok (.aload 4, 2) := by decide +kernel
theorem dC_tell_14 : decode cC_tell 14 = .ok (.getfield 57, 3) := by decide +kernel
theorem dC_tell_17 : decode cC_tell 17 = .ok (.ifCond .ne 10, 3) := by decide +kernel
theorem dC_tell_20 : decode cC_tell 20 = .ok (.iload_n 2, 1) := by decide +kernel
theorem dC_tell_21 : decode cC_tell 21 = .ok (.invokestatic 60, 3) := by decide +kernel
theorem dC_tell_24 : decode cC_tell 24 = .ok (.ifCond .ne 5, 3) := by decide +kernel
theorem dC_tell_27 : decode cC_tell 27 = .ok (.iconst 0, 1) := by decide +kernel
theorem dC_tell_28 : decode cC_tell 28 = .ok (.ireturn, 1) := by decide +kernel
theorem dC_tell_29 : decode cC_tell 29 = .ok (.iload_n 3, 1) := by decide +kernel
theorem dC_tell_30 : decode cC_tell 30 = .ok (.iconst (-1), 1) := by decide +kernel
theorem dC_tell_31 : decode cC_tell 31 = .ok (.if_icmp .ne 19, 3) := by decide +kernel
theorem dC_tell_34 : decode cC_tell 34 = .ok (.aload 4, 2) := by decide +kernel
theorem dC_tell_36 : decode cC_tell 36 = .ok (.getfield 63, 3) := by decide +kernel
theorem dC_tell_39 : decode cC_tell 39 = .ok (.ifCond .eq 7, 3) := by decide +kernel
theorem dC_tell_42 : decode cC_tell 42 = .ok (.iconst 1, 1) := by decide +kernel
theorem dC_tell_43 : decode cC_tell 43 = .ok (.goto 11, 3) := by decide +kernel
theorem dC_tell_46 : decode cC_tell 46 = .ok (.iconst 0, 1) := by decide +kernel
theorem dC_tell_47 : decode cC_tell 47 = .ok (.goto 7, 3) := by decide +kernel
theorem dC_tell_50 : decode cC_tell 50 = .ok (.iload_n 3, 1) := by decide +kernel
theorem dC_tell_51 : decode cC_tell 51 = .ok (.invokestatic 66, 3) := by decide +kernel
theorem dC_tell_54 : decode cC_tell 54 = .ok (.istore 5, 2) := by decide +kernel
theorem dC_tell_56 : decode cC_tell 56 = .ok (.iload 5, 2) := by decide +kernel
theorem dC_tell_58 : decode cC_tell 58 = .ok (.ifCond .eq 11, 3) := by decide +kernel
theorem dC_tell_61 : decode cC_tell 61 = .ok (.aload 4, 2) := by decide +kernel
theorem dC_tell_63 : decode cC_tell 63 = .ok (.getfield 69, 3) := by decide +kernel
theorem dC_tell_66 : decode cC_tell 66 = .ok (.iload_n 2, 1) := by decide +kernel
theorem dC_tell_67 : decode cC_tell 67 = .ok (.iload_n 3, 1) := by decide +kernel
theorem dC_tell_68 : decode cC_tell 68 = .ok (.iastore, 1) := by decide +kernel
theorem dC_tell_69 : decode cC_tell 69 = .ok (.iload 5, 2) := by decide +kernel
theorem dC_tell_71 : decode cC_tell 71 = .ok (.ireturn, 1) := by decide +kernel
theorem dC_findJob_0 : decode cC_findJob 0 = .ok (.aload_n 0, 1) := by decide +kernel
theorem dC_findJob_1 : decode cC_findJob 1 = .ok (.getfield 16, 3) := by decide +kernel
theorem dC_findJob_4 : decode cC_findJob 4 = .ok (.astore_n 2, 1) := by decide +kernel
theorem dC_findJob_5 : decode cC_findJob 5 = .ok (.aload_n 2, 1) := by decide +kernel
theorem dC_findJob_6 : decode cC_findJob 6 = .ok (.ifnull 21, 3) := by decide +kernel
theorem dC_findJob_9 : decode cC_findJob 9 = .ok (.aload_n 2, 1) := by decide +kernel
theorem dC_findJob_10 : decode cC_findJob 10 = .ok (.getfield 50, 3) := by decide +kernel
theorem dC_findJob_13 : decode cC_findJob 13 = .ok (.iload_n 1, 1) := by decide +kernel
theorem dC_findJob_14 : decode cC_findJob 14 = .ok (.if_icmp .ne 5, 3) := by decide +kernel
theorem dC_findJob_17 : decode cC_findJob 17 = .ok (.aload_n 2, 1) := by decide +kernel
theorem dC_findJob_18 : decode cC_findJob 18 = .ok (.areturn, 1) := by decide +kernel
theorem dC_findJob_19 : decode cC_findJob 19 = .ok (.aload_n 2, 1) := by decide +kernel
theorem dC_findJob_20 : decode cC_findJob 20 = .ok (.getfield 108, 3) := by decide +kernel
theorem dC_findJob_23 : decode cC_findJob 23 = .ok (.astore_n 2, 1) := by decide +kernel
theorem dC_findJob_24 : decode cC_findJob 24 = .ok (.goto (-19), 3) := by decide +kernel
theorem dC_findJob_27 : decode cC_findJob 27 = .ok (.aconst_null, 1) := by decide +kernel
theorem dC_findJob_28 : decode cC_findJob 28 = .ok (.areturn, 1) := by decide +kernel
theorem dC_isFile_0 : decode cC_isFile 0 = .ok (.iload_n 0, 1) := by decide +kernel
theorem dC_isFile_1 : decode cC_isFile 1 = .ok (.ifCond .lt 13, 3) := by decide +kernel
theorem dC_isFile_4 : decode cC_isFile 4 = .ok (.iload_n 0, 1) := by decide +kernel
theorem dC_isFile_5 : decode cC_isFile 5 = .ok (.bipush 50, 2) := by decide +kernel
theorem dC_isFile_7 : decode cC_isFile 7 = .ok (.if_icmp .ge 7, 3) := by decide +kernel
theorem dC_isFile_10 : decode cC_isFile 10 = .ok (.iconst 1, 1) := by decide +kernel
theorem dC_isFile_11 : decode cC_isFile 11 = .ok (.goto 4, 3) := by decide +kernel
theorem dC_isFile_14 : decode cC_isFile 14 = .ok (.iconst 0, 1) := by decide +kernel
theorem dC_isFile_15 : decode cC_isFile 15 = .ok (.ireturn, 1) := by decide +kernel
theorem dC_isVersion_0 : decode cC_isVersion 0 = .ok (.iload_n 0, 1) := by decide +kernel
theorem dC_isVersion_1 : decode cC_isVersion 1 = .ok (.ifCond .lt 13, 3) := by decide +kernel
theorem dC_isVersion_4 : decode cC_isVersion 4 = .ok (.iload_n 0, 1) := by decide +kernel
theorem dC_isVersion_5 : decode cC_isVersion 5 = .ok (.ldc 135, 2) := by decide +kernel
theorem dC_isVersion_7 : decode cC_isVersion 7 = .ok (.if_icmp .gt 7, 3) := by decide +kernel
theorem dC_isVersion_10 : decode cC_isVersion 10 = .ok (.iconst 1, 1) := by decide +kernel
theorem dC_isVersion_11 : decode cC_isVersion 11 = .ok (.goto 4, 3) := by decide +kernel
theorem dC_isVersion_14 : decode cC_isVersion 14 = .ok (.iconst 0, 1) := by decide +kernel
theorem dC_isVersion_15 : decode cC_isVersion 15 = .ok (.ireturn, 1) := by decide +kernel
theorem dC_end_0 : decode cC_end 0 = .ok (.aload_n 0, 1) := by decide +kernel
theorem dC_end_1 : decode cC_end 1 = .ok (.iload_n 1, 1) := by decide +kernel
theorem dC_end_2 : decode cC_end 2 = .ok (.invokevirtual 53, 3) := by decide +kernel
theorem dC_end_5 : decode cC_end 5 = .ok (.astore_n 3, 1) := by decide +kernel
theorem dC_end_6 : decode cC_end 6 = .ok (.aload_n 3, 1) := by decide +kernel
theorem dC_end_7 : decode cC_end 7 = .ok (.ifnull 10, 3) := by decide +kernel
theorem dC_end_10 : decode cC_end 10 = .ok (.aload_n 3, 1) := by decide +kernel
theorem dC_end_11 : decode cC_end 11 = .ok (.getfield 57, 3) := by decide +kernel
theorem dC_end_14 : decode cC_end 14 = .ok (.ifCond .eq 5, 3) := by decide +kernel
theorem dC_end_17 : decode cC_end 17 = .ok (.iconst 0, 1) := by decide +kernel
theorem dC_end_18 : decode cC_end 18 = .ok (.ireturn, 1) := by decide +kernel
theorem dC_end_19 : decode cC_end 19 = .ok (.aload_n 3, 1) := by decide +kernel
theorem dC_end_20 : decode cC_end 20 = .ok (.iload_n 2, 1) := by decide +kernel
theorem dC_end_21 : decode cC_end 21 = .ok (.ifCond .eq 7, 3) := by decide +kernel
theorem dC_end_24 : decode cC_end 24 = .ok (.iconst 1, 1) := by decide +kernel
theorem dC_end_25 : decode cC_end 25 = .ok (.goto 4, 3) := by decide +kernel
theorem dC_end_28 : decode cC_end 28 = .ok (.iconst 2, 1) := by decide +kernel
theorem dC_end_29 : decode cC_end 29 = .ok (.putfield 57, 3) := by decide +kernel
theorem dC_end_32 : decode cC_end 32 = .ok (.aload_n 3, 1) := by decide +kernel
theorem dC_end_33 : decode cC_end 33 = .ok (.aload_n 0, 1) := by decide +kernel
theorem dC_end_34 : decode cC_end 34 = .ok (.getfield 9, 3) := by decide +kernel
theorem dC_end_37 : decode cC_end 37 = .ok (.putfield 73, 3) := by decide +kernel
theorem dC_end_40 : decode cC_end 40 = .ok (.iconst 1, 1) := by decide +kernel
theorem dC_end_41 : decode cC_end 41 = .ok (.ireturn, 1) := by decide +kernel
theorem dC_chain_0 : decode cC_chain 0 = .ok (.iconst 0, 1) := by decide +kernel
theorem dC_chain_1 : decode cC_chain 1 = .ok (.istore_n 3, 1) := by decide +kernel
theorem dC_chain_2 : decode cC_chain 2 = .ok (.aload_n 0, 1) := by decide +kernel
theorem dC_chain_3 : decode cC_chain 3 = .ok (.iload_n 1, 1) := by decide +kernel
theorem dC_chain_4 : decode cC_chain 4 = .ok (.iload_n 2, 1) := by decide +kernel
theorem dC_chain_5 : decode cC_chain 5 = .ok (.invokevirtual 76, 3) := by decide +kernel
theorem dC_chain_8 : decode cC_chain 8 = .ok (.astore 4, 2) := by decide +kernel
theorem dC_chain_10 : decode cC_chain 10 = .ok (.aload 4, 2) := by decide +kernel
theorem dC_chain_12 : decode cC_chain 12 = .ok (.ifnull 16, 3) := by decide +kernel
theorem dC_chain_15 : decode cC_chain 15 = .ok (.iinc 3 1, 3) := by decide +kernel
theorem dC_chain_18 : decode cC_chain 18 = .ok (.aload 4, 2) := by decide +kernel
theorem dC_chain_20 : decode cC_chain 20 = .ok (.getfield 79, 3) := by decide +kernel
theorem dC_chain_23 : decode cC_chain 23 = .ok (.astore 4, 2) := by decide +kernel
theorem dC_chain_25 : decode cC_chain 25 = .ok (.goto (-15), 3) := by decide +kernel
theorem dC_chain_28 : decode cC_chain 28 = .ok (.iload_n 3, 1) := by decide +kernel
theorem dC_chain_29 : decode cC_chain 29 = .ok (.ireturn, 1) := by decide +kernel
theorem dC_findHead_0 : decode cC_findHead 0 = .ok (.aload_n 0, 1) := by decide +kernel
theorem dC_findHead_1 : decode cC_findHead 1 = .ok (.getfield 16, 3) := by decide +kernel
theorem dC_findHead_4 : decode cC_findHead 4 = .ok (.astore_n 3, 1) := by decide +kernel
theorem dC_findHead_5 : decode cC_findHead 5 = .ok (.aload_n 3, 1) := by decide +kernel
theorem dC_findHead_6 : decode cC_findHead 6 = .ok (.ifnull 36, 3) := by decide +kernel
theorem dC_findHead_9 : decode cC_findHead 9 = .ok (.aload_n 3, 1) := by decide +kernel
theorem dC_findHead_10 : decode cC_findHead 10 = .ok (.getfield 111, 3) := by decide +kernel
theorem dC_findHead_13 : decode cC_findHead 13 = .ok (.iload_n 1, 1) := by decide +kernel
theorem dC_findHead_14 : decode cC_findHead 14 = .ok (.if_icmp .ne 20, 3) := by decide +kernel
theorem dC_findHead_17 : decode cC_findHead 17 = .ok (.aload_n 3, 1) := by decide +kernel
theorem dC_findHead_18 : decode cC_findHead 18 = .ok (.invokestatic 136, 3) := by decide +kernel
theorem dC_findHead_21 : decode cC_findHead 21 = .ok (.ifCond .eq 13, 3) := by decide +kernel
theorem dC_findHead_24 : decode cC_findHead 24 = .ok (.aload_n 3, 1) := by decide +kernel
theorem dC_findHead_25 : decode cC_findHead 25 = .ok (.getfield 73, 3) := by decide +kernel
theorem dC_findHead_28 : decode cC_findHead 28 = .ok (.iload_n 2, 1) := by decide +kernel
theorem dC_findHead_29 : decode cC_findHead 29 = .ok (.if_icmp .gt 5, 3) := by decide +kernel
theorem dC_findHead_32 : decode cC_findHead 32 = .ok (.aload_n 3, 1) := by decide +kernel
theorem dC_findHead_33 : decode cC_findHead 33 = .ok (.areturn, 1) := by decide +kernel
theorem dC_findHead_34 : decode cC_findHead 34 = .ok (.aload_n 3, 1) := by decide +kernel
theorem dC_findHead_35 : decode cC_findHead 35 = .ok (.getfield 108, 3) := by decide +kernel
theorem dC_findHead_38 : decode cC_findHead 38 = .ok (.astore_n 3, 1) := by decide +kernel
theorem dC_findHead_39 : decode cC_findHead 39 = .ok (.goto (-34), 3) := by decide +kernel
theorem dC_findHead_42 : decode cC_findHead 42 = .ok (.aconst_null, 1) := by decide +kernel
theorem dC_findHead_43 : decode cC_findHead 43 = .ok (.areturn, 1) := by decide +kernel
theorem dC_view_0 : decode cC_view 0 = .ok (.aload_n 0, 1) := by decide +kernel
theorem dC_view_1 : decode cC_view 1 = .ok (.iload_n 1, 1) := by decide +kernel
theorem dC_view_2 : decode cC_view 2 = .ok (.iload_n 2, 1) := by decide +kernel
theorem dC_view_3 : decode cC_view 3 = .ok (.invokevirtual 76, 3) := by decide +kernel
theorem dC_view_6 : decode cC_view 6 = .ok (.iload_n 3, 1) := by decide +kernel
theorem dC_view_7 : decode cC_view 7 = .ok (.invokestatic 87, 3) := by decide +kernel
theorem dC_view_10 : decode cC_view 10 = .ok (.ireturn, 1) := by decide +kernel
theorem dC_versionIn_0 : decode cC_versionIn 0 = .ok (.aload_n 0, 1) := by decide +kernel
theorem dC_versionIn_1 : decode cC_versionIn 1 = .ok (.iload_n 1, 1) := by decide +kernel
theorem dC_versionIn_2 : decode cC_versionIn 2 = .ok (.invokestatic 91, 3) := by decide +kernel
theorem dC_versionIn_5 : decode cC_versionIn 5 = .ok (.astore_n 2, 1) := by decide +kernel
theorem dC_versionIn_6 : decode cC_versionIn 6 = .ok (.aload_n 2, 1) := by decide +kernel
theorem dC_versionIn_7 : decode cC_versionIn 7 = .ok (.ifnonnull 7, 3) := by decide +kernel
theorem dC_versionIn_10 : decode cC_versionIn 10 = .ok (.iconst (-1), 1) := by decide +kernel
theorem dC_versionIn_11 : decode cC_versionIn 11 = .ok (.goto 9, 3) := by decide +kernel
theorem dC_versionIn_14 : decode cC_versionIn 14 = .ok (.aload_n 2, 1) := by decide +kernel
theorem dC_versionIn_15 : decode cC_versionIn 15 = .ok (.getfield 69, 3) := by decide +kernel
theorem dC_versionIn_18 : decode cC_versionIn 18 = .ok (.iload_n 1, 1) := by decide +kernel
theorem dC_versionIn_19 : decode cC_versionIn 19 = .ok (.iaload, 1) := by decide +kernel
theorem dC_versionIn_20 : decode cC_versionIn 20 = .ok (.ireturn, 1) := by decide +kernel
theorem dC_findTeller_0 : decode cC_findTeller 0 = .ok (.iload_n 1, 1) := by decide +kernel
theorem dC_findTeller_1 : decode cC_findTeller 1 = .ok (.invokestatic 60, 3) := by decide +kernel
theorem dC_findTeller_4 : decode cC_findTeller 4 = .ok (.ifCond .ne 5, 3) := by decide +kernel
theorem dC_findTeller_7 : decode cC_findTeller 7 = .ok (.aconst_null, 1) := by decide +kernel
theorem dC_findTeller_8 : decode cC_findTeller 8 = .ok (.areturn, 1) := by decide +kernel
theorem dC_findTeller_9 : decode cC_findTeller 9 = .ok (.aload_n 0, 1) := by decide +kernel
theorem dC_findTeller_10 : decode cC_findTeller 10 = .ok (.astore_n 2, 1) := by decide +kernel
theorem dC_findTeller_11 : decode cC_findTeller 11 = .ok (.aload_n 2, 1) := by decide +kernel
theorem dC_findTeller_12 : decode cC_findTeller 12 = .ok (.ifnull 24, 3) := by decide +kernel
theorem dC_findTeller_15 : decode cC_findTeller 15 = .ok (.aload_n 2, 1) := by decide +kernel
theorem dC_findTeller_16 : decode cC_findTeller 16 = .ok (.getfield 69, 3) := by decide +kernel
theorem dC_findTeller_19 : decode cC_findTeller 19 = .ok (.iload_n 1, 1) := by decide +kernel
theorem dC_findTeller_20 : decode cC_findTeller 20 = .ok (.iaload, 1) := by decide +kernel
theorem dC_findTeller_21 : decode cC_findTeller 21 = .ok (.bipush (-2), 2) := by decide +kernel
theorem dC_findTeller_23 : decode cC_findTeller 23 = .ok (.if_icmp .eq 5, 3) := by decide +kernel
theorem dC_findTeller_26 : decode cC_findTeller 26 = .ok (.aload_n 2, 1) := by decide +kernel
theorem dC_findTeller_27 : decode cC_findTeller 27 = .ok (.areturn, 1) := by decide +kernel
theorem dC_findTeller_28 : decode cC_findTeller 28 = .ok (.aload_n 2, 1) := by decide +kernel
theorem dC_findTeller_29 : decode cC_findTeller 29 = .ok (.getfield 79, 3) := by decide +kernel
theorem dC_findTeller_32 : decode cC_findTeller 32 = .ok (.astore_n 2, 1) := by decide +kernel
theorem dC_findTeller_33 : decode cC_findTeller 33 = .ok (.goto (-22), 3) := by decide +kernel
theorem dC_findTeller_36 : decode cC_findTeller 36 = .ok (.aconst_null, 1) := by decide +kernel
theorem dC_findTeller_37 : decode cC_findTeller 37 = .ok (.areturn, 1) := by decide +kernel
theorem dC_files_0 : decode cC_files 0 = .ok (.aload_n 0, 1) := by decide +kernel
theorem dC_files_1 : decode cC_files 1 = .ok (.iload_n 1, 1) := by decide +kernel
theorem dC_files_2 : decode cC_files 2 = .ok (.iload_n 2, 1) := by decide +kernel
theorem dC_files_3 : decode cC_files 3 = .ok (.invokevirtual 76, 3) := by decide +kernel
theorem dC_files_6 : decode cC_files 6 = .ok (.astore_n 3, 1) := by decide +kernel
theorem dC_files_7 : decode cC_files 7 = .ok (.iconst 0, 1) := by decide +kernel
theorem dC_files_8 : decode cC_files 8 = .ok (.istore 4, 2) := by decide +kernel
theorem dC_files_10 : decode cC_files 10 = .ok (.iconst 0, 1) := by decide +kernel
theorem dC_files_11 : decode cC_files 11 = .ok (.istore 5, 2) := by decide +kernel
theorem dC_files_13 : decode cC_files 13 = .ok (.iload 5, 2) := by decide +kernel
theorem dC_files_15 : decode cC_files 15 = .ok (.bipush 50, 2) := by decide +kernel
theorem dC_files_17 : decode cC_files 17 = .ok (.if_icmp .ge 22, 3) := by decide +kernel
theorem dC_files_20 : decode cC_files 20 = .ok (.aload_n 3, 1) := by decide +kernel
theorem dC_files_21 : decode cC_files 21 = .ok (.iload 5, 2) := by decide +kernel
theorem dC_files_23 : decode cC_files 23 = .ok (.invokestatic 87, 3) := by decide +kernel
theorem dC_files_26 : decode cC_files 26 = .ok (.iconst (-1), 1) := by decide +kernel
theorem dC_files_27 : decode cC_files 27 = .ok (.if_icmp .eq 6, 3) := by decide +kernel
theorem dC_files_30 : decode cC_files 30 = .ok (.iinc 4 1, 3) := by decide +kernel
theorem dC_files_33 : decode cC_files 33 = .ok (.iinc 5 1, 3) := by decide +kernel
theorem dC_files_36 : decode cC_files 36 = .ok (.goto (-23), 3) := by decide +kernel
theorem dC_files_39 : decode cC_files 39 = .ok (.iload 4, 2) := by decide +kernel
theorem dC_files_41 : decode cC_files 41 = .ok (.ireturn, 1) := by decide +kernel
theorem dC_source_0 : decode cC_source 0 = .ok (.aload_n 0, 1) := by decide +kernel
theorem dC_source_1 : decode cC_source 1 = .ok (.iload_n 1, 1) := by decide +kernel
theorem dC_source_2 : decode cC_source 2 = .ok (.iload_n 2, 1) := by decide +kernel
theorem dC_source_3 : decode cC_source 3 = .ok (.invokevirtual 76, 3) := by decide +kernel
theorem dC_source_6 : decode cC_source 6 = .ok (.iload_n 3, 1) := by decide +kernel
theorem dC_source_7 : decode cC_source 7 = .ok (.invokestatic 91, 3) := by decide +kernel
theorem dC_source_10 : decode cC_source 10 = .ok (.astore 4, 2) := by decide +kernel
theorem dC_source_12 : decode cC_source 12 = .ok (.aload 4, 2) := by decide +kernel
theorem dC_source_14 : decode cC_source 14 = .ok (.ifnonnull 7, 3) := by decide +kernel
theorem dC_source_17 : decode cC_source 17 = .ok (.iconst (-1), 1) := by decide +kernel
theorem dC_source_18 : decode cC_source 18 = .ok (.goto 8, 3) := by decide +kernel
theorem dC_source_21 : decode cC_source 21 = .ok (.aload 4, 2) := by decide +kernel
theorem dC_source_23 : decode cC_source 23 = .ok (.getfield 50, 3) := by decide +kernel
theorem dC_source_26 : decode cC_source 26 = .ok (.ireturn, 1) := by decide +kernel
theorem dC_prune_0 : decode cC_prune 0 = .ok (.aload_n 0, 1) := by decide +kernel
theorem dC_prune_1 : decode cC_prune 1 = .ok (.iload_n 1, 1) := by decide +kernel
theorem dC_prune_2 : decode cC_prune 2 = .ok (.invokevirtual 53, 3) := by decide +kernel
theorem dC_prune_5 : decode cC_prune 5 = .ok (.astore_n 2, 1) := by decide +kernel
theorem dC_prune_6 : decode cC_prune 6 = .ok (.aload_n 2, 1) := by decide +kernel
theorem dC_prune_7 : decode cC_prune 7 = .ok (.ifnull 10, 3) := by decide +kernel
theorem dC_prune_10 : decode cC_prune 10 = .ok (.aload_n 2, 1) := by decide +kernel
theorem dC_prune_11 : decode cC_prune 11 = .ok (.invokestatic 95, 3) := by decide +kernel
theorem dC_prune_14 : decode cC_prune 14 = .ok (.ifCond .ne 5, 3) := by decide +kernel
theorem dC_prune_17 : decode cC_prune 17 = .ok (.iconst 0, 1) := by decide +kernel
theorem dC_prune_18 : decode cC_prune 18 = .ok (.ireturn, 1) := by decide +kernel
theorem dC_prune_19 : decode cC_prune 19 = .ok (.aload_n 2, 1) := by decide +kernel
theorem dC_prune_20 : decode cC_prune 20 = .ok (.invokestatic 99, 3) := by decide +kernel
theorem dC_prune_23 : decode cC_prune 23 = .ok (.iconst 1, 1) := by decide +kernel
theorem dC_prune_24 : decode cC_prune 24 = .ok (.ireturn, 1) := by decide +kernel
theorem dC_isFree_0 : decode cC_isFree 0 = .ok (.aload_n 0, 1) := by decide +kernel
theorem dC_isFree_1 : decode cC_isFree 1 = .ok (.getfield 57, 3) := by decide +kernel
theorem dC_isFree_4 : decode cC_isFree 4 = .ok (.ifCond .eq 21, 3) := by decide +kernel
theorem dC_isFree_7 : decode cC_isFree 7 = .ok (.aload_n 0, 1) := by decide +kernel
theorem dC_isFree_8 : decode cC_isFree 8 = .ok (.getfield 121, 3) := by decide +kernel
theorem dC_isFree_11 : decode cC_isFree 11 = .ok (.ifCond .ne 14, 3) := by decide +kernel
theorem dC_isFree_14 : decode cC_isFree 14 = .ok (.aload_n 0, 1) := by decide +kernel
theorem dC_isFree_15 : decode cC_isFree 15 = .ok (.getfield 42, 3) := by decide +kernel
theorem dC_isFree_18 : decode cC_isFree 18 = .ok (.ifCond .ne 7, 3) := by decide +kernel
theorem dC_isFree_21 : decode cC_isFree 21 = .ok (.iconst 1, 1) := by decide +kernel
theorem dC_isFree_22 : decode cC_isFree 22 = .ok (.goto 4, 3) := by decide +kernel
theorem dC_isFree_25 : decode cC_isFree 25 = .ok (.iconst 0, 1) := by decide +kernel
theorem dC_isFree_26 : decode cC_isFree 26 = .ok (.ireturn, 1) := by decide +kernel
theorem dC_drop_0 : decode cC_drop 0 = .ok (.aload_n 0, 1) := by decide +kernel
theorem dC_drop_1 : decode cC_drop 1 = .ok (.iconst 1, 1) := by decide +kernel
theorem dC_drop_2 : decode cC_drop 2 = .ok (.putfield 121, 3) := by decide +kernel
theorem dC_drop_5 : decode cC_drop 5 = .ok (.aload_n 0, 1) := by decide +kernel
theorem dC_drop_6 : decode cC_drop 6 = .ok (.getfield 69, 3) := by decide +kernel
theorem dC_drop_9 : decode cC_drop 9 = .ok (.bipush (-2), 2) := by decide +kernel
theorem dC_drop_11 : decode cC_drop 11 = .ok (.invokestatic 139, 3) := by decide +kernel
theorem dC_drop_14 : decode cC_drop 14 = .ok (.aload_n 0, 1) := by decide +kernel
theorem dC_drop_15 : decode cC_drop 15 = .ok (.getfield 79, 3) := by decide +kernel
theorem dC_drop_18 : decode cC_drop 18 = .ok (.ifnull 16, 3) := by decide +kernel
theorem dC_drop_21 : decode cC_drop 21 = .ok (.aload_n 0, 1) := by decide +kernel
theorem dC_drop_22 : decode cC_drop 22 = .ok (.getfield 79, 3) := by decide +kernel
theorem dC_drop_25 : decode cC_drop 25 = .ok (.dup, 1) := by decide +kernel
theorem dC_drop_26 : decode cC_drop 26 = .ok (.getfield 42, 3) := by decide +kernel
theorem dC_drop_29 : decode cC_drop 29 = .ok (.iconst 1, 1) := by decide +kernel
theorem dC_drop_30 : decode cC_drop 30 = .ok (.isub, 1) := by decide +kernel
theorem dC_drop_31 : decode cC_drop 31 = .ok (.putfield 42, 3) := by decide +kernel
theorem dC_drop_34 : decode cC_drop 34 = .ok (.return_, 1) := by decide +kernel
theorem dC_job_0 : decode cC_job 0 = .ok (.aload_n 0, 1) := by decide +kernel
theorem dC_job_1 : decode cC_job 1 = .ok (.iload_n 1, 1) := by decide +kernel
theorem dC_job_2 : decode cC_job 2 = .ok (.invokevirtual 53, 3) := by decide +kernel
theorem dC_job_5 : decode cC_job 5 = .ok (.astore_n 3, 1) := by decide +kernel
theorem dC_job_6 : decode cC_job 6 = .ok (.aload_n 3, 1) := by decide +kernel
theorem dC_job_7 : decode cC_job 7 = .ok (.ifnonnull 5, 3) := by decide +kernel
theorem dC_job_10 : decode cC_job 10 = .ok (.iconst (-1), 1) := by decide +kernel
theorem dC_job_11 : decode cC_job 11 = .ok (.ireturn, 1) := by decide +kernel
theorem dC_job_12 : decode cC_job 12 = .ok (.iload_n 2, 1) := by decide +kernel
theorem dC_job_13 : decode cC_job 13 = .ok (.tableswitch 158 0 10 #[59, 64, 69, 82, 101, 106, 111, 116, 129, 134, 153], 59) := by decide +kernel
theorem dC_job_72 : decode cC_job 72 = .ok (.aload_n 3, 1) := by decide +kernel
theorem dC_job_73 : decode cC_job 73 = .ok (.getfield 111, 3) := by decide +kernel
theorem dC_job_76 : decode cC_job 76 = .ok (.ireturn, 1) := by decide +kernel
theorem dC_job_77 : decode cC_job 77 = .ok (.aload_n 3, 1) := by decide +kernel
theorem dC_job_78 : decode cC_job 78 = .ok (.getfield 63, 3) := by decide +kernel
theorem dC_job_81 : decode cC_job 81 = .ok (.ireturn, 1) := by decide +kernel
theorem dC_job_82 : decode cC_job 82 = .ok (.aload_n 3, 1) := by decide +kernel
theorem dC_job_83 : decode cC_job 83 = .ok (.getfield 114, 3) := by decide +kernel
theorem dC_job_86 : decode cC_job 86 = .ok (.ifCond .eq 7, 3) := by decide +kernel
theorem dC_job_89 : decode cC_job 89 = .ok (.iconst 1, 1) := by decide +kernel
theorem dC_job_90 : decode cC_job 90 = .ok (.goto 4, 3) := by decide +kernel
theorem dC_job_93 : decode cC_job 93 = .ok (.iconst 0, 1) := by decide +kernel
theorem dC_job_94 : decode cC_job 94 = .ok (.ireturn, 1) := by decide +kernel
theorem dC_job_95 : decode cC_job 95 = .ok (.aload_n 3, 1) := by decide +kernel
theorem dC_job_96 : decode cC_job 96 = .ok (.getfield 79, 3) := by decide +kernel
theorem dC_job_99 : decode cC_job 99 = .ok (.ifnonnull 7, 3) := by decide +kernel
theorem dC_job_102 : decode cC_job 102 = .ok (.iconst (-1), 1) := by decide +kernel
theorem dC_job_103 : decode cC_job 103 = .ok (.goto 10, 3) := by decide +kernel
theorem dC_job_106 : decode cC_job 106 = .ok (.aload_n 3, 1) := by decide +kernel
theorem dC_job_107 : decode cC_job 107 = .ok (.getfield 79, 3) := by decide +kernel
theorem dC_job_110 : decode cC_job 110 = .ok (.getfield 50, 3) := by decide +kernel
theorem dC_job_113 : decode cC_job 113 = .ok (.ireturn, 1) := by decide +kernel
theorem dC_job_114 : decode cC_job 114 = .ok (.aload_n 3, 1) := by decide +kernel
theorem dC_job_115 : decode cC_job 115 = .ok (.getfield 118, 3) := by decide +kernel
theorem dC_job_118 : decode cC_job 118 = .ok (.ireturn, 1) := by decide +kernel
theorem dC_job_119 : decode cC_job 119 = .ok (.aload_n 3, 1) := by decide +kernel
theorem dC_job_120 : decode cC_job 120 = .ok (.getfield 73, 3) := by decide +kernel
theorem dC_job_123 : decode cC_job 123 = .ok (.ireturn, 1) := by decide +kernel
theorem dC_job_124 : decode cC_job 124 = .ok (.aload_n 3, 1) := by decide +kernel
theorem dC_job_125 : decode cC_job 125 = .ok (.getfield 57, 3) := by decide +kernel
theorem dC_job_128 : decode cC_job 128 = .ok (.ireturn, 1) := by decide +kernel
theorem dC_job_129 : decode cC_job 129 = .ok (.aload_n 3, 1) := by decide +kernel
theorem dC_job_130 : decode cC_job 130 = .ok (.getfield 121, 3) := by decide +kernel
theorem dC_job_133 : decode cC_job 133 = .ok (.ifCond .eq 7, 3) := by decide +kernel
theorem dC_job_136 : decode cC_job 136 = .ok (.iconst 1, 1) := by decide +kernel
theorem dC_job_137 : decode cC_job 137 = .ok (.goto 4, 3) := by decide +kernel
theorem dC_job_140 : decode cC_job 140 = .ok (.iconst 0, 1) := by decide +kernel
theorem dC_job_141 : decode cC_job 141 = .ok (.ireturn, 1) := by decide +kernel
theorem dC_job_142 : decode cC_job 142 = .ok (.aload_n 3, 1) := by decide +kernel
theorem dC_job_143 : decode cC_job 143 = .ok (.invokestatic 124, 3) := by decide +kernel
theorem dC_job_146 : decode cC_job 146 = .ok (.ireturn, 1) := by decide +kernel
theorem dC_job_147 : decode cC_job 147 = .ok (.aload_n 3, 1) := by decide +kernel
theorem dC_job_148 : decode cC_job 148 = .ok (.getfield 79, 3) := by decide +kernel
theorem dC_job_151 : decode cC_job 151 = .ok (.ifnonnull 7, 3) := by decide +kernel
theorem dC_job_154 : decode cC_job 154 = .ok (.iconst (-1), 1) := by decide +kernel
theorem dC_job_155 : decode cC_job 155 = .ok (.goto 10, 3) := by decide +kernel
theorem dC_job_158 : decode cC_job 158 = .ok (.aload_n 3, 1) := by decide +kernel
theorem dC_job_159 : decode cC_job 159 = .ok (.getfield 79, 3) := by decide +kernel
theorem dC_job_162 : decode cC_job 162 = .ok (.getfield 118, 3) := by decide +kernel
theorem dC_job_165 : decode cC_job 165 = .ok (.ireturn, 1) := by decide +kernel
theorem dC_job_166 : decode cC_job 166 = .ok (.aload_n 3, 1) := by decide +kernel
theorem dC_job_167 : decode cC_job 167 = .ok (.getfield 42, 3) := by decide +kernel
theorem dC_job_170 : decode cC_job 170 = .ok (.ireturn, 1) := by decide +kernel
theorem dC_job_171 : decode cC_job 171 = .ok (.iconst (-1), 1) := by decide +kernel
theorem dC_job_172 : decode cC_job 172 = .ok (.ireturn, 1) := by decide +kernel
theorem dC_countTold_0 : decode cC_countTold 0 = .ok (.iconst 0, 1) := by decide +kernel
theorem dC_countTold_1 : decode cC_countTold 1 = .ok (.istore_n 1, 1) := by decide +kernel
theorem dC_countTold_2 : decode cC_countTold 2 = .ok (.iconst 0, 1) := by decide +kernel
theorem dC_countTold_3 : decode cC_countTold 3 = .ok (.istore_n 2, 1) := by decide +kernel
theorem dC_countTold_4 : decode cC_countTold 4 = .ok (.iload_n 2, 1) := by decide +kernel
theorem dC_countTold_5 : decode cC_countTold 5 = .ok (.bipush 50, 2) := by decide +kernel
theorem dC_countTold_7 : decode cC_countTold 7 = .ok (.if_icmp .ge 23, 3) := by decide +kernel
theorem dC_countTold_10 : decode cC_countTold 10 = .ok (.aload_n 0, 1) := by decide +kernel
theorem dC_countTold_11 : decode cC_countTold 11 = .ok (.getfield 69, 3) := by decide +kernel
theorem dC_countTold_14 : decode cC_countTold 14 = .ok (.iload_n 2, 1) := by decide +kernel
theorem dC_countTold_15 : decode cC_countTold 15 = .ok (.iaload, 1) := by decide +kernel
theorem dC_countTold_16 : decode cC_countTold 16 = .ok (.bipush (-2), 2) := by decide +kernel
theorem dC_countTold_18 : decode cC_countTold 18 = .ok (.if_icmp .eq 6, 3) := by decide +kernel
theorem dC_countTold_21 : decode cC_countTold 21 = .ok (.iinc 1 1, 3) := by decide +kernel
theorem dC_countTold_24 : decode cC_countTold 24 = .ok (.iinc 2 1, 3) := by decide +kernel
theorem dC_countTold_27 : decode cC_countTold 27 = .ok (.goto (-23), 3) := by decide +kernel
theorem dC_countTold_30 : decode cC_countTold 30 = .ok (.iload_n 1, 1) := by decide +kernel
theorem dC_countTold_31 : decode cC_countTold 31 = .ok (.ireturn, 1) := by decide +kernel
theorem dC_count_0 : decode cC_count 0 = .ok (.iload_n 1, 1) := by decide +kernel
theorem dC_count_1 : decode cC_count 1 = .ok (.tableswitch 51 0 3 #[31, 36, 41, 46], 31) := by decide +kernel
theorem dC_count_32 : decode cC_count 32 = .ok (.aload_n 0, 1) := by decide +kernel
theorem dC_count_33 : decode cC_count 33 = .ok (.getfield 9, 3) := by decide +kernel
theorem dC_count_36 : decode cC_count 36 = .ok (.ireturn, 1) := by decide +kernel
theorem dC_count_37 : decode cC_count 37 = .ok (.aload_n 0, 1) := by decide +kernel
theorem dC_count_38 : decode cC_count 38 = .ok (.getfield 13, 3) := by decide +kernel
theorem dC_count_41 : decode cC_count 41 = .ok (.ireturn, 1) := by decide +kernel
theorem dC_count_42 : decode cC_count 42 = .ok (.aload_n 0, 1) := by decide +kernel
theorem dC_count_43 : decode cC_count 43 = .ok (.invokevirtual 128, 3) := by decide +kernel
theorem dC_count_46 : decode cC_count 46 = .ok (.ireturn, 1) := by decide +kernel
theorem dC_count_47 : decode cC_count 47 = .ok (.aload_n 0, 1) := by decide +kernel
theorem dC_count_48 : decode cC_count 48 = .ok (.invokevirtual 132, 3) := by decide +kernel
theorem dC_count_51 : decode cC_count 51 = .ok (.ireturn, 1) := by decide +kernel
theorem dC_count_52 : decode cC_count 52 = .ok (.iconst (-1), 1) := by decide +kernel
theorem dC_count_53 : decode cC_count 53 = .ok (.ireturn, 1) := by decide +kernel
theorem dC_countRunning_0 : decode cC_countRunning 0 = .ok (.iconst 0, 1) := by decide +kernel
theorem dC_countRunning_1 : decode cC_countRunning 1 = .ok (.istore_n 1, 1) := by decide +kernel
theorem dC_countRunning_2 : decode cC_countRunning 2 = .ok (.aload_n 0, 1) := by decide +kernel
theorem dC_countRunning_3 : decode cC_countRunning 3 = .ok (.getfield 16, 3) := by decide +kernel
theorem dC_countRunning_6 : decode cC_countRunning 6 = .ok (.astore_n 2, 1) := by decide +kernel
theorem dC_countRunning_7 : decode cC_countRunning 7 = .ok (.aload_n 2, 1) := by decide +kernel
theorem dC_countRunning_8 : decode cC_countRunning 8 = .ok (.ifnull 21, 3) := by decide +kernel
theorem dC_countRunning_11 : decode cC_countRunning 11 = .ok (.aload_n 2, 1) := by decide +kernel
theorem dC_countRunning_12 : decode cC_countRunning 12 = .ok (.getfield 57, 3) := by decide +kernel
theorem dC_countRunning_15 : decode cC_countRunning 15 = .ok (.ifCond .ne 6, 3) := by decide +kernel
theorem dC_countRunning_18 : decode cC_countRunning 18 = .ok (.iinc 1 1, 3) := by decide +kernel
theorem dC_countRunning_21 : decode cC_countRunning 21 = .ok (.aload_n 2, 1) := by decide +kernel
theorem dC_countRunning_22 : decode cC_countRunning 22 = .ok (.getfield 108, 3) := by decide +kernel
theorem dC_countRunning_25 : decode cC_countRunning 25 = .ok (.astore_n 2, 1) := by decide +kernel
theorem dC_countRunning_26 : decode cC_countRunning 26 = .ok (.goto (-19), 3) := by decide +kernel
theorem dC_countRunning_29 : decode cC_countRunning 29 = .ok (.iload_n 1, 1) := by decide +kernel
theorem dC_countRunning_30 : decode cC_countRunning 30 = .ok (.ireturn, 1) := by decide +kernel
theorem dC_countPruned_0 : decode cC_countPruned 0 = .ok (.iconst 0, 1) := by decide +kernel
theorem dC_countPruned_1 : decode cC_countPruned 1 = .ok (.istore_n 1, 1) := by decide +kernel
theorem dC_countPruned_2 : decode cC_countPruned 2 = .ok (.aload_n 0, 1) := by decide +kernel
theorem dC_countPruned_3 : decode cC_countPruned 3 = .ok (.getfield 16, 3) := by decide +kernel
theorem dC_countPruned_6 : decode cC_countPruned 6 = .ok (.astore_n 2, 1) := by decide +kernel
theorem dC_countPruned_7 : decode cC_countPruned 7 = .ok (.aload_n 2, 1) := by decide +kernel
theorem dC_countPruned_8 : decode cC_countPruned 8 = .ok (.ifnull 21, 3) := by decide +kernel
theorem dC_countPruned_11 : decode cC_countPruned 11 = .ok (.aload_n 2, 1) := by decide +kernel
theorem dC_countPruned_12 : decode cC_countPruned 12 = .ok (.getfield 121, 3) := by decide +kernel
theorem dC_countPruned_15 : decode cC_countPruned 15 = .ok (.ifCond .eq 6, 3) := by decide +kernel
theorem dC_countPruned_18 : decode cC_countPruned 18 = .ok (.iinc 1 1, 3) := by decide +kernel
theorem dC_countPruned_21 : decode cC_countPruned 21 = .ok (.aload_n 2, 1) := by decide +kernel
theorem dC_countPruned_22 : decode cC_countPruned 22 = .ok (.getfield 108, 3) := by decide +kernel
theorem dC_countPruned_25 : decode cC_countPruned 25 = .ok (.astore_n 2, 1) := by decide +kernel
theorem dC_countPruned_26 : decode cC_countPruned 26 = .ok (.goto (-19), 3) := by decide +kernel
theorem dC_countPruned_29 : decode cC_countPruned 29 = .ok (.iload_n 1, 1) := by decide +kernel
theorem dC_countPruned_30 : decode cC_countPruned 30 = .ok (.ireturn, 1) := by decide +kernel
theorem dC_pass_0 : decode cC_pass 0 = .ok (.iload_n 1, 1) := by decide +kernel
theorem dC_pass_1 : decode cC_pass 1 = .ok (.ifCond .lt 14, 3) := by decide +kernel
theorem dC_pass_4 : decode cC_pass 4 = .ok (.iload_n 1, 1) := by decide +kernel
theorem dC_pass_5 : decode cC_pass 5 = .ok (.ldc 20, 2) := by decide +kernel
theorem dC_pass_7 : decode cC_pass 7 = .ok (.aload_n 0, 1) := by decide +kernel
theorem dC_pass_8 : decode cC_pass 8 = .ok (.getfield 9, 3) := by decide +kernel
theorem dC_pass_11 : decode cC_pass 11 = .ok (.isub, 1) := by decide +kernel
theorem dC_pass_12 : decode cC_pass 12 = .ok (.if_icmp .le 13, 3) := by decide +kernel
theorem dC_pass_15 : decode cC_pass 15 = .ok (.new 21, 3) := by decide +kernel
theorem dC_pass_18 : decode cC_pass 18 = .ok (.dup, 1) := by decide +kernel
theorem dC_pass_19 : decode cC_pass 19 = .ok (.ldc 23, 2) := by decide +kernel
theorem dC_pass_21 : decode cC_pass 21 = .ok (.invokespecial 25, 3) := by decide +kernel
theorem dC_pass_24 : decode cC_pass 24 = .ok (.athrow, 1) := by decide +kernel
theorem dC_pass_25 : decode cC_pass 25 = .ok (.aload_n 0, 1) := by decide +kernel
theorem dC_pass_26 : decode cC_pass 26 = .ok (.dup, 1) := by decide +kernel
theorem dC_pass_27 : decode cC_pass 27 = .ok (.getfield 9, 3) := by decide +kernel
theorem dC_pass_30 : decode cC_pass 30 = .ok (.iload_n 1, 1) := by decide +kernel
theorem dC_pass_31 : decode cC_pass 31 = .ok (.iadd, 1) := by decide +kernel
theorem dC_pass_32 : decode cC_pass 32 = .ok (.putfield 9, 3) := by decide +kernel
theorem dC_pass_35 : decode cC_pass 35 = .ok (.aload_n 0, 1) := by decide +kernel
theorem dC_pass_36 : decode cC_pass 36 = .ok (.getfield 9, 3) := by decide +kernel
theorem dC_pass_39 : decode cC_pass 39 = .ok (.ireturn, 1) := by decide +kernel
theorem dC_link_0 : decode cC_link 0 = .ok (.iconst 0, 1) := by decide +kernel
theorem dC_link_1 : decode cC_link 1 = .ok (.istore 4, 2) := by decide +kernel
theorem dC_link_3 : decode cC_link 3 = .ok (.aload_n 0, 1) := by decide +kernel
theorem dC_link_4 : decode cC_link 4 = .ok (.iload_n 1, 1) := by decide +kernel
theorem dC_link_5 : decode cC_link 5 = .ok (.iload_n 2, 1) := by decide +kernel
theorem dC_link_6 : decode cC_link 6 = .ok (.invokevirtual 76, 3) := by decide +kernel
theorem dC_link_9 : decode cC_link 9 = .ok (.astore 5, 2) := by decide +kernel
theorem dC_link_11 : decode cC_link 11 = .ok (.aload 5, 2) := by decide +kernel
theorem dC_link_13 : decode cC_link 13 = .ok (.ifnull 28, 3) := by decide +kernel
theorem dC_link_16 : decode cC_link 16 = .ok (.iload 4, 2) := by decide +kernel
theorem dC_link_18 : decode cC_link 18 = .ok (.iload_n 3, 1) := by decide +kernel
theorem dC_link_19 : decode cC_link 19 = .ok (.if_icmp .ne 9, 3) := by decide +kernel
theorem dC_link_22 : decode cC_link 22 = .ok (.aload 5, 2) := by decide +kernel
theorem dC_link_24 : decode cC_link 24 = .ok (.getfield 50, 3) := by decide +kernel
theorem dC_link_27 : decode cC_link 27 = .ok (.ireturn, 1) := by decide +kernel
theorem dC_link_28 : decode cC_link 28 = .ok (.iinc 4 1, 3) := by decide +kernel
theorem dC_link_31 : decode cC_link 31 = .ok (.aload 5, 2) := by decide +kernel
theorem dC_link_33 : decode cC_link 33 = .ok (.getfield 79, 3) := by decide +kernel
theorem dC_link_36 : decode cC_link 36 = .ok (.astore 5, 2) := by decide +kernel
theorem dC_link_38 : decode cC_link 38 = .ok (.goto (-27), 3) := by decide +kernel
theorem dC_link_41 : decode cC_link 41 = .ok (.new 82, 3) := by decide +kernel
theorem dC_link_44 : decode cC_link 44 = .ok (.dup, 1) := by decide +kernel
theorem dC_link_45 : decode cC_link 45 = .ok (.ldc 84, 2) := by decide +kernel
theorem dC_link_47 : decode cC_link 47 = .ok (.invokespecial 86, 3) := by decide +kernel
theorem dC_link_50 : decode cC_link 50 = .ok (.athrow, 1) := by decide +kernel
theorem dC_expire_0 : decode cC_expire 0 = .ok (.iload_n 1, 1) := by decide +kernel
theorem dC_expire_1 : decode cC_expire 1 = .ok (.ifCond .ge 13, 3) := by decide +kernel
theorem dC_expire_4 : decode cC_expire 4 = .ok (.new 21, 3) := by decide +kernel
theorem dC_expire_7 : decode cC_expire 7 = .ok (.dup, 1) := by decide +kernel
theorem dC_expire_8 : decode cC_expire 8 = .ok (.ldc 103, 2) := by decide +kernel
theorem dC_expire_10 : decode cC_expire 10 = .ok (.invokespecial 25, 3) := by decide +kernel
theorem dC_expire_13 : decode cC_expire 13 = .ok (.athrow, 1) := by decide +kernel
theorem dC_expire_14 : decode cC_expire 14 = .ok (.iconst 0, 1) := by decide +kernel
theorem dC_expire_15 : decode cC_expire 15 = .ok (.istore_n 2, 1) := by decide +kernel
theorem dC_expire_16 : decode cC_expire 16 = .ok (.aload_n 0, 1) := by decide +kernel
theorem dC_expire_17 : decode cC_expire 17 = .ok (.getfield 16, 3) := by decide +kernel
theorem dC_expire_20 : decode cC_expire 20 = .ok (.astore_n 3, 1) := by decide +kernel
theorem dC_expire_21 : decode cC_expire 21 = .ok (.aload_n 3, 1) := by decide +kernel
theorem dC_expire_22 : decode cC_expire 22 = .ok (.ifnull 46, 3) := by decide +kernel
theorem dC_expire_25 : decode cC_expire 25 = .ok (.aload_n 3, 1) := by decide +kernel
theorem dC_expire_26 : decode cC_expire 26 = .ok (.invokestatic 95, 3) := by decide +kernel
theorem dC_expire_29 : decode cC_expire 29 = .ok (.ifCond .eq 31, 3) := by decide +kernel
theorem dC_expire_32 : decode cC_expire 32 = .ok (.aload_n 0, 1) := by decide +kernel
theorem dC_expire_33 : decode cC_expire 33 = .ok (.getfield 9, 3) := by decide +kernel
theorem dC_expire_36 : decode cC_expire 36 = .ok (.aload_n 3, 1) := by decide +kernel
theorem dC_expire_37 : decode cC_expire 37 = .ok (.getfield 73, 3) := by decide +kernel
theorem dC_expire_40 : decode cC_expire 40 = .ok (.isub, 1) := by decide +kernel
theorem dC_expire_41 : decode cC_expire 41 = .ok (.iload_n 1, 1) := by decide +kernel
theorem dC_expire_42 : decode cC_expire 42 = .ok (.if_icmp .le 18, 3) := by decide +kernel
theorem dC_expire_45 : decode cC_expire 45 = .ok (.aload_n 0, 1) := by decide +kernel
theorem dC_expire_46 : decode cC_expire 46 = .ok (.aload_n 3, 1) := by decide +kernel
theorem dC_expire_47 : decode cC_expire 47 = .ok (.invokevirtual 105, 3) := by decide +kernel
theorem dC_expire_50 : decode cC_expire 50 = .ok (.ifCond .ne 10, 3) := by decide +kernel
theorem dC_expire_53 : decode cC_expire 53 = .ok (.aload_n 3, 1) := by decide +kernel
theorem dC_expire_54 : decode cC_expire 54 = .ok (.invokestatic 99, 3) := by decide +kernel
theorem dC_expire_57 : decode cC_expire 57 = .ok (.iinc 2 1, 3) := by decide +kernel
theorem dC_expire_60 : decode cC_expire 60 = .ok (.aload_n 3, 1) := by decide +kernel
theorem dC_expire_61 : decode cC_expire 61 = .ok (.getfield 108, 3) := by decide +kernel
theorem dC_expire_64 : decode cC_expire 64 = .ok (.astore_n 3, 1) := by decide +kernel
theorem dC_expire_65 : decode cC_expire 65 = .ok (.goto (-44), 3) := by decide +kernel
theorem dC_expire_68 : decode cC_expire 68 = .ok (.iload_n 2, 1) := by decide +kernel
theorem dC_expire_69 : decode cC_expire 69 = .ok (.ireturn, 1) := by decide +kernel
theorem dC_isOnlyGoodFull_0 : decode cC_isOnlyGoodFull 0 = .ok (.aload_n 1, 1) := by decide +kernel
theorem dC_isOnlyGoodFull_1 : decode cC_isOnlyGoodFull 1 = .ok (.getfield 63, 3) := by decide +kernel
theorem dC_isOnlyGoodFull_4 : decode cC_isOnlyGoodFull 4 = .ok (.ifCond .ne 10, 3) := by decide +kernel
theorem dC_isOnlyGoodFull_7 : decode cC_isOnlyGoodFull 7 = .ok (.aload_n 1, 1) := by decide +kernel
theorem dC_isOnlyGoodFull_8 : decode cC_isOnlyGoodFull 8 = .ok (.invokestatic 136, 3) := by decide +kernel
theorem dC_isOnlyGoodFull_11 : decode cC_isOnlyGoodFull 11 = .ok (.ifCond .ne 5, 3) := by decide +kernel
theorem dC_isOnlyGoodFull_14 : decode cC_isOnlyGoodFull 14 = .ok (.iconst 0, 1) := by decide +kernel
theorem dC_isOnlyGoodFull_15 : decode cC_isOnlyGoodFull 15 = .ok (.ireturn, 1) := by decide +kernel
theorem dC_isOnlyGoodFull_16 : decode cC_isOnlyGoodFull 16 = .ok (.aload_n 0, 1) := by decide +kernel
theorem dC_isOnlyGoodFull_17 : decode cC_isOnlyGoodFull 17 = .ok (.getfield 16, 3) := by decide +kernel
theorem dC_isOnlyGoodFull_20 : decode cC_isOnlyGoodFull 20 = .ok (.astore_n 2, 1) := by decide +kernel
theorem dC_isOnlyGoodFull_21 : decode cC_isOnlyGoodFull 21 = .ok (.aload_n 2, 1) := by decide +kernel
theorem dC_isOnlyGoodFull_22 : decode cC_isOnlyGoodFull 22 = .ok (.ifnull 43, 3) := by decide +kernel
theorem dC_isOnlyGoodFull_25 : decode cC_isOnlyGoodFull 25 = .ok (.aload_n 2, 1) := by decide +kernel
theorem dC_isOnlyGoodFull_26 : decode cC_isOnlyGoodFull 26 = .ok (.aload_n 1, 1) := by decide +kernel
theorem dC_isOnlyGoodFull_27 : decode cC_isOnlyGoodFull 27 = .ok (.if_acmp .eq 30, 3) := by decide +kernel
theorem dC_isOnlyGoodFull_30 : decode cC_isOnlyGoodFull 30 = .ok (.aload_n 2, 1) := by decide +kernel
theorem dC_isOnlyGoodFull_31 : decode cC_isOnlyGoodFull 31 = .ok (.getfield 111, 3) := by decide +kernel
theorem dC_isOnlyGoodFull_34 : decode cC_isOnlyGoodFull 34 = .ok (.aload_n 1, 1) := by decide +kernel
theorem dC_isOnlyGoodFull_35 : decode cC_isOnlyGoodFull 35 = .ok (.getfield 111, 3) := by decide +kernel
theorem dC_isOnlyGoodFull_38 : decode cC_isOnlyGoodFull 38 = .ok (.if_icmp .ne 19, 3) := by decide +kernel
theorem dC_isOnlyGoodFull_41 : decode cC_isOnlyGoodFull 41 = .ok (.aload_n 2, 1) := by decide +kernel
theorem dC_isOnlyGoodFull_42 : decode cC_isOnlyGoodFull 42 = .ok (.getfield 63, 3) := by decide +kernel
theorem dC_isOnlyGoodFull_45 : decode cC_isOnlyGoodFull 45 = .ok (.ifCond .ne 12, 3) := by decide +kernel
theorem dC_isOnlyGoodFull_48 : decode cC_isOnlyGoodFull 48 = .ok (.aload_n 2, 1) := by decide +kernel
theorem dC_isOnlyGoodFull_49 : decode cC_isOnlyGoodFull 49 = .ok (.invokestatic 136, 3) := by decide +kernel
theorem dC_isOnlyGoodFull_52 : decode cC_isOnlyGoodFull 52 = .ok (.ifCond .eq 5, 3) := by decide +kernel
theorem dC_isOnlyGoodFull_55 : decode cC_isOnlyGoodFull 55 = .ok (.iconst 0, 1) := by decide +kernel
theorem dC_isOnlyGoodFull_56 : decode cC_isOnlyGoodFull 56 = .ok (.ireturn, 1) := by decide +kernel
theorem dC_isOnlyGoodFull_57 : decode cC_isOnlyGoodFull 57 = .ok (.aload_n 2, 1) := by decide +kernel
theorem dC_isOnlyGoodFull_58 : decode cC_isOnlyGoodFull 58 = .ok (.getfield 108, 3) := by decide +kernel
theorem dC_isOnlyGoodFull_61 : decode cC_isOnlyGoodFull 61 = .ok (.astore_n 2, 1) := by decide +kernel
theorem dC_isOnlyGoodFull_62 : decode cC_isOnlyGoodFull 62 = .ok (.goto (-41), 3) := by decide +kernel
theorem dC_isOnlyGoodFull_65 : decode cC_isOnlyGoodFull 65 = .ok (.iconst 1, 1) := by decide +kernel
theorem dC_isOnlyGoodFull_66 : decode cC_isOnlyGoodFull 66 = .ok (.ireturn, 1) := by decide +kernel
end
section
theorem dM_init_0 : decode cM_init 0 = .ok (.aload_n 0, 1) := by decide +kernel
theorem dM_init_1 : decode cM_init 1 = .ok (.invokespecial 1, 3) := by decide +kernel
theorem dM_init_4 : decode cM_init 4 = .ok (.aload_n 0, 1) := by decide +kernel
theorem dM_init_5 : decode cM_init 5 = .ok (.sipush 200, 3) := by decide +kernel
theorem dM_init_8 : decode cM_init 8 = .ok (.newarray .int, 2) := by decide +kernel
theorem dM_init_10 : decode cM_init 10 = .ok (.putfield 7, 3) := by decide +kernel
theorem dM_init_13 : decode cM_init 13 = .ok (.aload_n 0, 1) := by decide +kernel
theorem dM_init_14 : decode cM_init 14 = .ok (.sipush 200, 3) := by decide +kernel
theorem dM_init_17 : decode cM_init 17 = .ok (.newarray .int, 2) := by decide +kernel
theorem dM_init_19 : decode cM_init 19 = .ok (.putfield 13, 3) := by decide +kernel
theorem dM_init_22 : decode cM_init 22 = .ok (.aload_n 0, 1) := by decide +kernel
theorem dM_init_23 : decode cM_init 23 = .ok (.sipush 200, 3) := by decide +kernel
theorem dM_init_26 : decode cM_init 26 = .ok (.newarray .boolean, 2) := by decide +kernel
theorem dM_init_28 : decode cM_init 28 = .ok (.putfield 16, 3) := by decide +kernel
theorem dM_init_31 : decode cM_init 31 = .ok (.aload_n 0, 1) := by decide +kernel
theorem dM_init_32 : decode cM_init 32 = .ok (.sipush 200, 3) := by decide +kernel
theorem dM_init_35 : decode cM_init 35 = .ok (.newarray .int, 2) := by decide +kernel
theorem dM_init_37 : decode cM_init 37 = .ok (.putfield 20, 3) := by decide +kernel
theorem dM_init_40 : decode cM_init 40 = .ok (.aload_n 0, 1) := by decide +kernel
theorem dM_init_41 : decode cM_init 41 = .ok (.sipush 200, 3) := by decide +kernel
theorem dM_init_44 : decode cM_init 44 = .ok (.newarray .int, 2) := by decide +kernel
theorem dM_init_46 : decode cM_init 46 = .ok (.putfield 23, 3) := by decide +kernel
theorem dM_init_49 : decode cM_init 49 = .ok (.aload_n 0, 1) := by decide +kernel
theorem dM_init_50 : decode cM_init 50 = .ok (.sipush 200, 3) := by decide +kernel
theorem dM_init_53 : decode cM_init 53 = .ok (.newarray .int, 2) := by decide +kernel
theorem dM_init_55 : decode cM_init 55 = .ok (.putfield 26, 3) := by decide +kernel
theorem dM_init_58 : decode cM_init 58 = .ok (.aload_n 0, 1) := by decide +kernel
theorem dM_init_59 : decode cM_init 59 = .ok (.sipush 200, 3) := by decide +kernel
theorem dM_init_62 : decode cM_init 62 = .ok (.newarray .int, 2) := by decide +kernel
theorem dM_init_64 : decode cM_init 64 = .ok (.putfield 29, 3) := by decide +kernel
theorem dM_init_67 : decode cM_init 67 = .ok (.aload_n 0, 1) := by decide +kernel
theorem dM_init_68 : decode cM_init 68 = .ok (.sipush 200, 3) := by decide +kernel
theorem dM_init_71 : decode cM_init 71 = .ok (.newarray .boolean, 2) := by decide +kernel
theorem dM_init_73 : decode cM_init 73 = .ok (.putfield 32, 3) := by decide +kernel
theorem dM_init_76 : decode cM_init 76 = .ok (.aload_n 0, 1) := by decide +kernel
theorem dM_init_77 : decode cM_init 77 = .ok (.sipush 10000, 3) := by decide +kernel
theorem dM_init_80 : decode cM_init 80 = .ok (.newarray .int, 2) := by decide +kernel
theorem dM_init_82 : decode cM_init 82 = .ok (.putfield 35, 3) := by decide +kernel
theorem dM_init_85 : decode cM_init 85 = .ok (.return_, 1) := by decide +kernel
theorem dM_thrown_0 : decode cM_thrown 0 = .ok (.aload_n 0, 1) := by decide +kernel
theorem dM_thrown_1 : decode cM_thrown 1 = .ok (.getfield 38, 3) := by decide +kernel
theorem dM_thrown_4 : decode cM_thrown 4 = .ok (.ireturn, 1) := by decide +kernel
theorem dM_pass_0 : decode cM_pass 0 = .ok (.aload_n 0, 1) := by decide +kernel
theorem dM_pass_1 : decode cM_pass 1 = .ok (.iload_n 1, 1) := by decide +kernel
theorem dM_pass_2 : decode cM_pass 2 = .ok (.ifCond .lt 14, 3) := by decide +kernel
theorem dM_pass_5 : decode cM_pass 5 = .ok (.iload_n 1, 1) := by decide +kernel
theorem dM_pass_6 : decode cM_pass 6 = .ok (.ldc 42, 2) := by decide +kernel
theorem dM_pass_8 : decode cM_pass 8 = .ok (.aload_n 0, 1) := by decide +kernel
theorem dM_pass_9 : decode cM_pass 9 = .ok (.getfield 43, 3) := by decide +kernel
theorem dM_pass_12 : decode cM_pass 12 = .ok (.isub, 1) := by decide +kernel
theorem dM_pass_13 : decode cM_pass 13 = .ok (.if_icmp .le 7, 3) := by decide +kernel
theorem dM_pass_16 : decode cM_pass 16 = .ok (.iconst 1, 1) := by decide +kernel
theorem dM_pass_17 : decode cM_pass 17 = .ok (.goto 4, 3) := by decide +kernel
theorem dM_pass_20 : decode cM_pass 20 = .ok (.iconst 0, 1) := by decide +kernel
theorem dM_pass_21 : decode cM_pass 21 = .ok (.putfield 38, 3) := by decide +kernel
theorem dM_pass_24 : decode cM_pass 24 = .ok (.aload_n 0, 1) := by decide +kernel
theorem dM_pass_25 : decode cM_pass 25 = .ok (.getfield 38, 3) := by decide +kernel
theorem dM_pass_28 : decode cM_pass 28 = .ok (.ifCond .ne 13, 3) := by decide +kernel
theorem dM_pass_31 : decode cM_pass 31 = .ok (.aload_n 0, 1) := by decide +kernel
theorem dM_pass_32 : decode cM_pass 32 = .ok (.dup, 1) := by decide +kernel
theorem dM_pass_33 : decode cM_pass 33 = .ok (.getfield 43, 3) := by decide +kernel
theorem dM_pass_36 : decode cM_pass 36 = .ok (.iload_n 1, 1) := by decide +kernel
theorem dM_pass_37 : decode cM_pass 37 = .ok (.iadd, 1) := by decide +kernel
theorem dM_pass_38 : decode cM_pass 38 = .ok (.putfield 43, 3) := by decide +kernel
theorem dM_pass_41 : decode cM_pass 41 = .ok (.aload_n 0, 1) := by decide +kernel
theorem dM_pass_42 : decode cM_pass 42 = .ok (.getfield 38, 3) := by decide +kernel
theorem dM_pass_45 : decode cM_pass 45 = .ok (.ifCond .ne 10, 3) := by decide +kernel
theorem dM_pass_48 : decode cM_pass 48 = .ok (.aload_n 0, 1) := by decide +kernel
theorem dM_pass_49 : decode cM_pass 49 = .ok (.getfield 43, 3) := by decide +kernel
theorem dM_pass_52 : decode cM_pass 52 = .ok (.goto 4, 3) := by decide +kernel
theorem dM_pass_55 : decode cM_pass 55 = .ok (.iconst 0, 1) := by decide +kernel
theorem dM_pass_56 : decode cM_pass 56 = .ok (.ireturn, 1) := by decide +kernel
theorem dM_begin_0 : decode cM_begin 0 = .ok (.aload_n 0, 1) := by decide +kernel
theorem dM_begin_1 : decode cM_begin 1 = .ok (.iconst 0, 1) := by decide +kernel
theorem dM_begin_2 : decode cM_begin 2 = .ok (.putfield 38, 3) := by decide +kernel
theorem dM_begin_5 : decode cM_begin 5 = .ok (.iload_n 1, 1) := by decide +kernel
theorem dM_begin_6 : decode cM_begin 6 = .ok (.ifCond .lt 28, 3) := by decide +kernel
theorem dM_begin_9 : decode cM_begin 9 = .ok (.iload_n 1, 1) := by decide +kernel
theorem dM_begin_10 : decode cM_begin 10 = .ok (.bipush 8, 2) := by decide +kernel
theorem dM_begin_12 : decode cM_begin 12 = .ok (.if_icmp .ge 22, 3) := by decide +kernel
theorem dM_begin_15 : decode cM_begin 15 = .ok (.iload_n 2, 1) := by decide +kernel
theorem dM_begin_16 : decode cM_begin 16 = .ok (.ifCond .lt 18, 3) := by decide +kernel
theorem dM_begin_19 : decode cM_begin 19 = .ok (.iload_n 2, 1) := by decide +kernel
theorem dM_begin_20 : decode cM_begin 20 = .ok (.iconst 2, 1) := by decide +kernel
theorem dM_begin_21 : decode cM_begin 21 = .ok (.if_icmp .gt 13, 3) := by decide +kernel
theorem dM_begin_24 : decode cM_begin 24 = .ok (.aload_n 0, 1) := by decide +kernel
theorem dM_begin_25 : decode cM_begin 25 = .ok (.getfield 46, 3) := by decide +kernel
theorem dM_begin_28 : decode cM_begin 28 = .ok (.sipush 200, 3) := by decide +kernel
theorem dM_begin_31 : decode cM_begin 31 = .ok (.if_icmp .ne 5, 3) := by decide +kernel
theorem dM_begin_34 : decode cM_begin 34 = .ok (.iconst (-1), 1) := by decide +kernel
theorem dM_begin_35 : decode cM_begin 35 = .ok (.ireturn, 1) := by decide +kernel
theorem dM_begin_36 : decode cM_begin 36 = .ok (.iconst 0, 1) := by decide +kernel
theorem dM_begin_37 : decode cM_begin 37 = .ok (.istore_n 3, 1) := by decide +kernel
theorem dM_begin_38 : decode cM_begin 38 = .ok (.iload_n 3, 1) := by decide +kernel
theorem dM_begin_39 : decode cM_begin 39 = .ok (.aload_n 0, 1) := by decide +kernel
theorem dM_begin_40 : decode cM_begin 40 = .ok (.getfield 46, 3) := by decide +kernel
theorem dM_begin_43 : decode cM_begin 43 = .ok (.if_icmp .ge 30, 3) := by decide +kernel
theorem dM_begin_46 : decode cM_begin 46 = .ok (.aload_n 0, 1) := by decide +kernel
theorem dM_begin_47 : decode cM_begin 47 = .ok (.getfield 7, 3) := by decide +kernel
theorem dM_begin_50 : decode cM_begin 50 = .ok (.iload_n 3, 1) := by decide +kernel
theorem dM_begin_51 : decode cM_begin 51 = .ok (.iaload, 1) := by decide +kernel
theorem dM_begin_52 : decode cM_begin 52 = .ok (.iload_n 1, 1) := by decide +kernel
theorem dM_begin_53 : decode cM_begin 53 = .ok (.if_icmp .ne 14, 3) := by decide +kernel
theorem dM_begin_56 : decode cM_begin 56 = .ok (.aload_n 0, 1) := by decide +kernel
theorem dM_begin_57 : decode cM_begin 57 = .ok (.getfield 29, 3) := by decide +kernel
theorem dM_begin_60 : decode cM_begin 60 = .ok (.iload_n 3, 1) := by decide +kernel
theorem dM_begin_61 : decode cM_begin 61 = .ok (.iaload, 1) := by decide +kernel
theorem dM_begin_62 : decode cM_begin 62 = .ok (.ifCond .ne 5, 3) := by decide +kernel
theorem dM_begin_65 : decode cM_begin 65 = .ok (.iconst (-1), 1) := by decide +kernel
theorem dM_begin_66 : decode cM_begin 66 = .ok (.ireturn, 1) := by decide +kernel
theorem dM_begin_67 : decode cM_begin 67 = .ok (.iinc 3 1, 3) := by decide +kernel
theorem dM_begin_70 : decode cM_begin 70 = .ok (.goto (-32), 3) := by decide +kernel
theorem dM_begin_73 : decode cM_begin 73 = .ok (.iload_n 2, 1) := by decide +kernel
theorem dM_begin_74 : decode cM_begin 74 = .ok (.ifCond .ne 7, 3) := by decide +kernel
theorem dM_begin_77 : decode cM_begin 77 = .ok (.iconst (-1), 1) := by decide +kernel
theorem dM_begin_78 : decode cM_begin 78 = .ok (.goto 18, 3) := by decide +kernel
theorem dM_begin_81 : decode cM_begin 81 = .ok (.aload_n 0, 1) := by decide +kernel
theorem dM_begin_82 : decode cM_begin 82 = .ok (.iload_n 1, 1) := by decide +kernel
theorem dM_begin_83 : decode cM_begin 83 = .ok (.iload_n 2, 1) := by decide +kernel
theorem dM_begin_84 : decode cM_begin 84 = .ok (.iconst 1, 1) := by decide +kernel
theorem dM_begin_85 : decode cM_begin 85 = .ok (.if_icmp .ne 7, 3) := by decide +kernel
theorem dM_begin_88 : decode cM_begin 88 = .ok (.iconst 0, 1) := by decide +kernel
theorem dM_begin_89 : decode cM_begin 89 = .ok (.goto 4, 3) := by decide +kernel
theorem dM_begin_92 : decode cM_begin 92 = .ok (.iconst (-1), 1) := by decide +kernel
theorem dM_begin_93 : decode cM_begin 93 = .ok (.invokevirtual 49, 3) := by decide +kernel
theorem dM_begin_96 : decode cM_begin 96 = .ok (.istore_n 3, 1) := by decide +kernel
theorem dM_begin_97 : decode cM_begin 97 = .ok (.aload_n 0, 1) := by decide +kernel
theorem dM_begin_98 : decode cM_begin 98 = .ok (.getfield 7, 3) := by decide +kernel
theorem dM_begin_101 : decode cM_begin 101 = .ok (.aload_n 0, 1) := by decide +kernel
theorem dM_begin_102 : decode cM_begin 102 = .ok (.getfield 46, 3) := by decide +kernel
theorem dM_begin_105 : decode cM_begin 105 = .ok (.iload_n 1, 1) := by decide +kernel
theorem dM_begin_106 : decode cM_begin 106 = .ok (.iastore, 1) := by decide +kernel
theorem dM_begin_107 : decode cM_begin 107 = .ok (.aload_n 0, 1) := by decide +kernel
theorem dM_begin_108 : decode cM_begin 108 = .ok (.getfield 16, 3) := by decide +kernel
theorem dM_begin_111 : decode cM_begin 111 = .ok (.aload_n 0, 1) := by decide +kernel
theorem dM_begin_112 : decode cM_begin 112 = .ok (.getfield 46, 3) := by decide +kernel
theorem dM_begin_115 : decode cM_begin 115 = .ok (.iload_n 2, 1) := by decide +kernel
theorem dM_begin_116 : decode cM_begin 116 = .ok (.ifCond .le 11, 3) := by decide +kernel
theorem dM_begin_119 : decode cM_begin 119 = .ok (.iload_n 3, 1) := by decide +kernel
theorem dM_begin_120 : decode cM_begin 120 = .ok (.ifCond .ge 7, 3) := by decide +kernel
theorem dM_begin_123 : decode cM_begin 123 = .ok (.iconst 1, 1) := by decide +kernel
theorem dM_begin_124 : decode cM_begin 124 = .ok (.goto 4, 3) := by decide +kernel
theorem dM_begin_127 : decode cM_begin 127 = .ok (.iconst 0, 1) := by decide +kernel
theorem dM_begin_128 : decode cM_begin 128 = .ok (.bastore, 1) := by decide +kernel
theorem dM_begin_129 : decode cM_begin 129 = .ok (.aload_n 0, 1) := by decide +kernel
theorem dM_begin_130 : decode cM_begin 130 = .ok (.getfield 13, 3) := by decide +kernel
theorem dM_begin_133 : decode cM_begin 133 = .ok (.aload_n 0, 1) := by decide +kernel
theorem dM_begin_134 : decode cM_begin 134 = .ok (.getfield 46, 3) := by decide +kernel
theorem dM_begin_137 : decode cM_begin 137 = .ok (.iload_n 3, 1) := by decide +kernel
theorem dM_begin_138 : decode cM_begin 138 = .ok (.ifCond .ge 7, 3) := by decide +kernel
theorem dM_begin_141 : decode cM_begin 141 = .ok (.iconst 0, 1) := by decide +kernel
theorem dM_begin_142 : decode cM_begin 142 = .ok (.goto 4, 3) := by decide +kernel
theorem dM_begin_145 : decode cM_begin 145 = .ok (.iload_n 2, 1) := by decide +kernel
theorem dM_begin_146 : decode cM_begin 146 = .ok (.iastore, 1) := by decide +kernel
theorem dM_begin_147 : decode cM_begin 147 = .ok (.aload_n 0, 1) := by decide +kernel
theorem dM_begin_148 : decode cM_begin 148 = .ok (.getfield 20, 3) := by decide +kernel
theorem dM_begin_151 : decode cM_begin 151 = .ok (.aload_n 0, 1) := by decide +kernel
theorem dM_begin_152 : decode cM_begin 152 = .ok (.getfield 46, 3) := by decide +kernel
theorem dM_begin_155 : decode cM_begin 155 = .ok (.iload_n 3, 1) := by decide +kernel
theorem dM_begin_156 : decode cM_begin 156 = .ok (.iastore, 1) := by decide +kernel
theorem dM_begin_157 : decode cM_begin 157 = .ok (.aload_n 0, 1) := by decide +kernel
theorem dM_begin_158 : decode cM_begin 158 = .ok (.getfield 23, 3) := by decide +kernel
theorem dM_begin_161 : decode cM_begin 161 = .ok (.aload_n 0, 1) := by decide +kernel
theorem dM_begin_162 : decode cM_begin 162 = .ok (.getfield 46, 3) := by decide +kernel
theorem dM_begin_165 : decode cM_begin 165 = .ok (.aload_n 0, 1) := by decide +kernel
theorem dM_begin_166 : decode cM_begin 166 = .ok (.getfield 43, 3) := by decide +kernel
theorem dM_begin_169 : decode cM_begin 169 = .ok (.iastore, 1) := by decide +kernel
theorem dM_begin_170 : decode cM_begin 170 = .ok (.aload_n 0, 1) := by decide +kernel
theorem dM_begin_171 : decode cM_begin 171 = .ok (.getfield 26, 3) := by decide +kernel
theorem dM_begin_174 : decode cM_begin 174 = .ok (.aload_n 0, 1) := by decide +kernel
theorem dM_begin_175 : decode cM_begin 175 = .ok (.getfield 46, 3) := by decide +kernel
theorem dM_begin_178 : decode cM_begin 178 = .ok (.iconst (-1), 1) := by decide +kernel
theorem dM_begin_179 : decode cM_begin 179 = .ok (.iastore, 1) := by decide +kernel
theorem dM_begin_180 : decode cM_begin 180 = .ok (.aload_n 0, 1) := by decide +kernel
theorem dM_begin_181 : decode cM_begin 181 = .ok (.getfield 29, 3) := by decide +kernel
theorem dM_begin_184 : decode cM_begin 184 = .ok (.aload_n 0, 1) := by decide +kernel
theorem dM_begin_185 : decode cM_begin 185 = .ok (.getfield 46, 3) := by decide +kernel
theorem dM_begin_188 : decode cM_begin 188 = .ok (.iconst 0, 1) := by decide +kernel
theorem dM_begin_189 : decode cM_begin 189 = .ok (.iastore, 1) := by decide +kernel
theorem dM_begin_190 : decode cM_begin 190 = .ok (.aload_n 0, 1) := by decide +kernel
theorem dM_begin_191 : decode cM_begin 191 = .ok (.getfield 32, 3) := by decide +kernel
theorem dM_begin_194 : decode cM_begin 194 = .ok (.aload_n 0, 1) := by decide +kernel
theorem dM_begin_195 : decode cM_begin 195 = .ok (.getfield 46, 3) := by decide +kernel
theorem dM_begin_198 : decode cM_begin 198 = .ok (.iconst 0, 1) := by decide +kernel
theorem dM_begin_199 : decode cM_begin 199 = .ok (.bastore, 1) := by decide +kernel
theorem dM_begin_200 : decode cM_begin 200 = .ok (.iconst 0, 1) := by decide +kernel
theorem dM_begin_201 : decode cM_begin 201 = .ok (.istore 4, 2) := by decide +kernel
theorem dM_begin_203 : decode cM_begin 203 = .ok (.iload 4, 2) := by decide +kernel
theorem dM_begin_205 : decode cM_begin 205 = .ok (.bipush 50, 2) := by decide +kernel
theorem dM_begin_207 : decode cM_begin 207 = .ok (.if_icmp .ge 26, 3) := by decide +kernel
theorem dM_begin_210 : decode cM_begin 210 = .ok (.aload_n 0, 1) := by decide +kernel
theorem dM_begin_211 : decode cM_begin 211 = .ok (.getfield 35, 3) := by decide +kernel
theorem dM_begin_214 : decode cM_begin 214 = .ok (.bipush 50, 2) := by decide +kernel
theorem dM_begin_216 : decode cM_begin 216 = .ok (.aload_n 0, 1) := by decide +kernel
theorem dM_begin_217 : decode cM_begin 217 = .ok (.getfield 46, 3) := by decide +kernel
theorem dM_begin_220 : decode cM_begin 220 = .ok (.imul, 1) := by decide +kernel
theorem dM_begin_221 : decode cM_begin 221 = .ok (.iload 4, 2) := by decide +kernel
theorem dM_begin_223 : decode cM_begin 223 = .ok (.iadd, 1) := by decide +kernel
theorem dM_begin_224 : decode cM_begin 224 = .ok (.bipush (-2), 2) := by decide +kernel
theorem dM_begin_226 : decode cM_begin 226 = .ok (.iastore, 1) := by decide +kernel
theorem dM_begin_227 : decode cM_begin 227 = .ok (.iinc 4 1, 3) := by decide +kernel
theorem dM_begin_230 : decode cM_begin 230 = .ok (.goto (-27), 3) := by decide +kernel
theorem dM_begin_233 : decode cM_begin 233 = .ok (.aload_n 0, 1) := by decide +kernel
theorem dM_begin_234 : decode cM_begin 234 = .ok (.dup, 1) := by decide +kernel
theorem dM_begin_235 : decode cM_begin 235 = .ok (.getfield 46, 3) := by decide +kernel
theorem dM_begin_238 : decode cM_begin 238 = .ok (.iconst 1, 1) := by decide +kernel
theorem dM_begin_239 : decode cM_begin 239 = .ok (.iadd, 1) := by decide +kernel
theorem dM_begin_240 : decode cM_begin 240 = .ok (.putfield 46, 3) := by decide +kernel
theorem dM_begin_243 : decode cM_begin 243 = .ok (.aload_n 0, 1) := by decide +kernel
theorem dM_begin_244 : decode cM_begin 244 = .ok (.getfield 46, 3) := by decide +kernel
theorem dM_begin_247 : decode cM_begin 247 = .ok (.iconst 1, 1) := by decide +kernel
theorem dM_begin_248 : decode cM_begin 248 = .ok (.isub, 1) := by decide +kernel
theorem dM_begin_249 : decode cM_begin 249 = .ok (.ireturn, 1) := by decide +kernel
theorem dM_lastOne_0 : decode cM_lastOne 0 = .ok (.iconst (-1), 1) := by decide +kernel
theorem dM_lastOne_1 : decode cM_lastOne 1 = .ok (.istore_n 3, 1) := by decide +kernel
theorem dM_lastOne_2 : decode cM_lastOne 2 = .ok (.iconst 0, 1) := by decide +kernel
theorem dM_lastOne_3 : decode cM_lastOne 3 = .ok (.istore 4, 2) := by decide +kernel
theorem dM_lastOne_5 : decode cM_lastOne 5 = .ok (.iload 4, 2) := by decide +kernel
theorem dM_lastOne_7 : decode cM_lastOne 7 = .ok (.aload_n 0, 1) := by decide +kernel
theorem dM_lastOne_8 : decode cM_lastOne 8 = .ok (.getfield 46, 3) := by decide +kernel
theorem dM_lastOne_11 : decode cM_lastOne 11 = .ok (.if_icmp .ge 82, 3) := by decide +kernel
theorem dM_lastOne_14 : decode cM_lastOne 14 = .ok (.aload_n 0, 1) := by decide +kernel
theorem dM_lastOne_15 : decode cM_lastOne 15 = .ok (.getfield 7, 3) := by decide +kernel
theorem dM_lastOne_18 : decode cM_lastOne 18 = .ok (.iload 4, 2) := by decide +kernel
theorem dM_lastOne_20 : decode cM_lastOne 20 = .ok (.iaload, 1) := by decide +kernel
theorem dM_lastOne_21 : decode cM_lastOne 21 = .ok (.iload_n 1, 1) := by decide +kernel
theorem dM_lastOne_22 : decode cM_lastOne 22 = .ok (.if_icmp .ne 65, 3) := by decide +kernel
theorem dM_lastOne_25 : decode cM_lastOne 25 = .ok (.aload_n 0, 1) := by decide +kernel
theorem dM_lastOne_26 : decode cM_lastOne 26 = .ok (.getfield 29, 3) := by decide +kernel
theorem dM_lastOne_29 : decode cM_lastOne 29 = .ok (.iload 4, 2) := by decide +kernel
theorem dM_lastOne_31 : decode cM_lastOne 31 = .ok (.iaload, 1) := by decide +kernel
theorem dM_lastOne_32 : decode cM_lastOne 32 = .ok (.iconst 1, 1) := by decide +kernel
theorem dM_lastOne_33 : decode cM_lastOne 33 = .ok (.if_icmp .ne 54, 3) := by decide +kernel
theorem dM_lastOne_36 : decode cM_lastOne 36 = .ok (.aload_n 0, 1) := by decide +kernel
theorem dM_lastOne_37 : decode cM_lastOne 37 = .ok (.getfield 32, 3) := by decide +kernel
theorem dM_lastOne_40 : decode cM_lastOne 40 = .ok (.iload 4, 2) := by decide +kernel
theorem dM_lastOne_42 : decode cM_lastOne 42 = .ok (.baload, 1) := by decide +kernel
theorem dM_lastOne_43 : decode cM_lastOne 43 = .ok (.ifCond .ne 44, 3) := by decide +kernel
theorem dM_lastOne_46 : decode cM_lastOne 46 = .ok (.iload_n 2, 1) := by decide +kernel
theorem dM_lastOne_47 : decode cM_lastOne 47 = .ok (.ifCond .lt 17, 3) := by decide +kernel
theorem dM_lastOne_50 : decode cM_lastOne 50 = .ok (.aload_n 0, 1) := by decide +kernel
theorem dM_lastOne_51 : decode cM_lastOne 51 = .ok (.getfield 13, 3) := by decide +kernel
theorem dM_lastOne_54 : decode cM_lastOne 54 = .ok (.iload 4, 2) := by decide +kernel
theorem dM_lastOne_56 : decode cM_lastOne 56 = .ok (.iaload, 1) := by decide +kernel
theorem dM_lastOne_57 : decode cM_lastOne 57 = .ok (.iload_n 2, 1) := by decide +kernel
theorem dM_lastOne_58 : decode cM_lastOne 58 = .ok (.if_icmp .eq 6, 3) := by decide +kernel
theorem dM_lastOne_61 : decode cM_lastOne 61 = .ok (.goto 26, 3) := by decide +kernel
theorem dM_lastOne_64 : decode cM_lastOne 64 = .ok (.iload_n 3, 1) := by decide +kernel
theorem dM_lastOne_65 : decode cM_lastOne 65 = .ok (.ifCond .lt 19, 3) := by decide +kernel
theorem dM_lastOne_68 : decode cM_lastOne 68 = .ok (.aload_n 0, 1) := by decide +kernel
theorem dM_lastOne_69 : decode cM_lastOne 69 = .ok (.getfield 23, 3) := by decide +kernel
theorem dM_lastOne_72 : decode cM_lastOne 72 = .ok (.iload 4, 2) := by decide +kernel
theorem dM_lastOne_74 : decode cM_lastOne 74 = .ok (.iaload, 1) := by decide +kernel
theorem dM_lastOne_75 : decode cM_lastOne 75 = .ok (.aload_n 0, 1) := by decide +kernel
theorem dM_lastOne_76 : decode cM_lastOne 76 = .ok (.getfield 23, 3) := by decide +kernel
theorem dM_lastOne_79 : decode cM_lastOne 79 = .ok (.iload_n 3, 1) := by decide +kernel
theorem dM_lastOne_80 : decode cM_lastOne 80 = .ok (.iaload, 1) := by decide +kernel
theorem dM_lastOne_81 : decode cM_lastOne 81 = .ok (.if_icmp .lt 6, 3) := by decide +kernel
theorem dM_lastOne_84 : decode cM_lastOne 84 = .ok (.iload 4, 2) := by decide +kernel
theorem dM_lastOne_86 : decode cM_lastOne 86 = .ok (.istore_n 3, 1) := by decide +kernel
theorem dM_lastOne_87 : decode cM_lastOne 87 = .ok (.iinc 4 1, 3) := by decide +kernel
theorem dM_lastOne_90 : decode cM_lastOne 90 = .ok (.goto (-85), 3) := by decide +kernel
theorem dM_lastOne_93 : decode cM_lastOne 93 = .ok (.iload_n 3, 1) := by decide +kernel
theorem dM_lastOne_94 : decode cM_lastOne 94 = .ok (.ireturn, 1) := by decide +kernel
theorem dM_tell_0 : decode cM_tell 0 = .ok (.aload_n 0, 1) := by decide +kernel
theorem dM_tell_1 : decode cM_tell 1 = .ok (.iconst 0, 1) := by decide +kernel
theorem dM_tell_2 : decode cM_tell 2 = .ok (.putfield 38, 3) := by decide +kernel
theorem dM_tell_5 : decode cM_tell 5 = .ok (.aload_n 0, 1) := by decide +kernel
theorem dM_tell_6 : decode cM_tell 6 = .ok (.iload_n 1, 1) := by decide +kernel
theorem dM_tell_7 : decode cM_tell 7 = .ok (.invokevirtual 53, 3) := by decide +kernel
theorem dM_tell_10 : decode cM_tell 10 = .ok (.ifCond .eq 46, 3) := by decide +kernel
theorem dM_tell_13 : decode cM_tell 13 = .ok (.aload_n 0, 1) := by decide +kernel
theorem dM_tell_14 : decode cM_tell 14 = .ok (.getfield 29, 3) := by decide +kernel
theorem dM_tell_17 : decode cM_tell 17 = .ok (.iload_n 1, 1) := by decide +kernel
theorem dM_tell_18 : decode cM_tell 18 = .ok (.iaload, 1) := by decide +kernel
theorem dM_tell_19 : decode cM_tell 19 = .ok (.ifCond .ne 37, 3) := by decide +kernel
theorem dM_tell_22 : decode cM_tell 22 = .ok (.iload_n 2, 1) := by decide +kernel
theorem dM_tell_23 : decode cM_tell 23 = .ok (.ifCond .lt 33, 3) := by decide +kernel
theorem dM_tell_26 : decode cM_tell 26 = .ok (.iload_n 2, 1) := by decide +kernel
theorem dM_tell_27 : decode cM_tell 27 = .ok (.bipush 50, 2) := by decide +kernel
theorem dM_tell_29 : decode cM_tell 29 = .ok (.if_icmp .ge 27, 3) := by decide +kernel
theorem dM_tell_32 : decode cM_tell 32 = .ok (.iload_n 3, 1) := by decide +kernel
theorem dM_tell_33 : decode cM_tell 33 = .ok (.iconst (-1), 1) := by decide +kernel
theorem dM_tell_34 : decode cM_tell 34 = .ok (.if_icmp .lt 22, 3) := by decide +kernel
theorem dM_tell_37 : decode cM_tell 37 = .ok (.iload_n 3, 1) := by decide +kernel
theorem dM_tell_38 : decode cM_tell 38 = .ok (.ldc 57, 2) := by decide +kernel
theorem dM_tell_40 : decode cM_tell 40 = .ok (.if_icmp .gt 16, 3) := by decide +kernel
theorem dM_tell_43 : decode cM_tell 43 = .ok (.iload_n 3, 1) := by decide +kernel
theorem dM_tell_44 : decode cM_tell 44 = .ok (.ifCond .ge 14, 3) := by decide +kernel
theorem dM_tell_47 : decode cM_tell 47 = .ok (.aload_n 0, 1) := by decide +kernel
theorem dM_tell_48 : decode cM_tell 48 = .ok (.getfield 13, 3) := by decide +kernel
theorem dM_tell_51 : decode cM_tell 51 = .ok (.iload_n 1, 1) := by decide +kernel
theorem dM_tell_52 : decode cM_tell 52 = .ok (.iaload, 1) := by decide +kernel
theorem dM_tell_53 : decode cM_tell 53 = .ok (.ifCond .ne 5, 3) := by decide +kernel
theorem dM_tell_56 : decode cM_tell 56 = .ok (.iconst 0, 1) := by decide +kernel
theorem dM_tell_57 : decode cM_tell 57 = .ok (.ireturn, 1) := by decide +kernel
theorem dM_tell_58 : decode cM_tell 58 = .ok (.aload_n 0, 1) := by decide +kernel
theorem dM_tell_59 : decode cM_tell 59 = .ok (.getfield 35, 3) := by decide +kernel
theorem dM_tell_62 : decode cM_tell 62 = .ok (.bipush 50, 2) := by decide +kernel
theorem dM_tell_64 : decode cM_tell 64 = .ok (.iload_n 1, 1) := by decide +kernel
theorem dM_tell_65 : decode cM_tell 65 = .ok (.imul, 1) := by decide +kernel
theorem dM_tell_66 : decode cM_tell 66 = .ok (.iload_n 2, 1) := by decide +kernel
theorem dM_tell_67 : decode cM_tell 67 = .ok (.iadd, 1) := by decide +kernel
theorem dM_tell_68 : decode cM_tell 68 = .ok (.iload_n 3, 1) := by decide +kernel
theorem dM_tell_69 : decode cM_tell 69 = .ok (.iastore, 1) := by decide +kernel
theorem dM_tell_70 : decode cM_tell 70 = .ok (.iconst 1, 1) := by decide +kernel
theorem dM_tell_71 : decode cM_tell 71 = .ok (.ireturn, 1) := by decide +kernel
theorem dM_isJob_0 : decode cM_isJob 0 = .ok (.iload_n 1, 1) := by decide +kernel
theorem dM_isJob_1 : decode cM_isJob 1 = .ok (.ifCond .lt 15, 3) := by decide +kernel
theorem dM_isJob_4 : decode cM_isJob 4 = .ok (.iload_n 1, 1) := by decide +kernel
theorem dM_isJob_5 : decode cM_isJob 5 = .ok (.aload_n 0, 1) := by decide +kernel
theorem dM_isJob_6 : decode cM_isJob 6 = .ok (.getfield 46, 3) := by decide +kernel
theorem dM_isJob_9 : decode cM_isJob 9 = .ok (.if_icmp .ge 7, 3) := by decide +kernel
theorem dM_isJob_12 : decode cM_isJob 12 = .ok (.iconst 1, 1) := by decide +kernel
theorem dM_isJob_13 : decode cM_isJob 13 = .ok (.goto 4, 3) := by decide +kernel
theorem dM_isJob_16 : decode cM_isJob 16 = .ok (.iconst 0, 1) := by decide +kernel
theorem dM_isJob_17 : decode cM_isJob 17 = .ok (.ireturn, 1) := by decide +kernel
theorem dM_end_0 : decode cM_end 0 = .ok (.aload_n 0, 1) := by decide +kernel
theorem dM_end_1 : decode cM_end 1 = .ok (.iconst 0, 1) := by decide +kernel
theorem dM_end_2 : decode cM_end 2 = .ok (.putfield 38, 3) := by decide +kernel
theorem dM_end_5 : decode cM_end 5 = .ok (.aload_n 0, 1) := by decide +kernel
theorem dM_end_6 : decode cM_end 6 = .ok (.iload_n 1, 1) := by decide +kernel
theorem dM_end_7 : decode cM_end 7 = .ok (.invokevirtual 53, 3) := by decide +kernel
theorem dM_end_10 : decode cM_end 10 = .ok (.ifCond .eq 12, 3) := by decide +kernel
theorem dM_end_13 : decode cM_end 13 = .ok (.aload_n 0, 1) := by decide +kernel
theorem dM_end_14 : decode cM_end 14 = .ok (.getfield 29, 3) := by decide +kernel
theorem dM_end_17 : decode cM_end 17 = .ok (.iload_n 1, 1) := by decide +kernel
theorem dM_end_18 : decode cM_end 18 = .ok (.iaload, 1) := by decide +kernel
theorem dM_end_19 : decode cM_end 19 = .ok (.ifCond .eq 5, 3) := by decide +kernel
theorem dM_end_22 : decode cM_end 22 = .ok (.iconst 0, 1) := by decide +kernel
theorem dM_end_23 : decode cM_end 23 = .ok (.ireturn, 1) := by decide +kernel
theorem dM_end_24 : decode cM_end 24 = .ok (.aload_n 0, 1) := by decide +kernel
theorem dM_end_25 : decode cM_end 25 = .ok (.getfield 29, 3) := by decide +kernel
theorem dM_end_28 : decode cM_end 28 = .ok (.iload_n 1, 1) := by decide +kernel
theorem dM_end_29 : decode cM_end 29 = .ok (.iload_n 2, 1) := by decide +kernel
theorem dM_end_30 : decode cM_end 30 = .ok (.ifCond .eq 7, 3) := by decide +kernel
theorem dM_end_33 : decode cM_end 33 = .ok (.iconst 1, 1) := by decide +kernel
theorem dM_end_34 : decode cM_end 34 = .ok (.goto 4, 3) := by decide +kernel
theorem dM_end_37 : decode cM_end 37 = .ok (.iconst 2, 1) := by decide +kernel
theorem dM_end_38 : decode cM_end 38 = .ok (.iastore, 1) := by decide +kernel
theorem dM_end_39 : decode cM_end 39 = .ok (.aload_n 0, 1) := by decide +kernel
theorem dM_end_40 : decode cM_end 40 = .ok (.getfield 26, 3) := by decide +kernel
theorem dM_end_43 : decode cM_end 43 = .ok (.iload_n 1, 1) := by decide +kernel
theorem dM_end_44 : decode cM_end 44 = .ok (.aload_n 0, 1) := by decide +kernel
theorem dM_end_45 : decode cM_end 45 = .ok (.getfield 43, 3) := by decide +kernel
theorem dM_end_48 : decode cM_end 48 = .ok (.iastore, 1) := by decide +kernel
theorem dM_end_49 : decode cM_end 49 = .ok (.iconst 1, 1) := by decide +kernel
theorem dM_end_50 : decode cM_end 50 = .ok (.ireturn, 1) := by decide +kernel
theorem dM_chain_0 : decode cM_chain 0 = .ok (.aload_n 0, 1) := by decide +kernel
theorem dM_chain_1 : decode cM_chain 1 = .ok (.iconst 0, 1) := by decide +kernel
theorem dM_chain_2 : decode cM_chain 2 = .ok (.putfield 38, 3) := by decide +kernel
theorem dM_chain_5 : decode cM_chain 5 = .ok (.iconst 0, 1) := by decide +kernel
theorem dM_chain_6 : decode cM_chain 6 = .ok (.istore_n 3, 1) := by decide +kernel
theorem dM_chain_7 : decode cM_chain 7 = .ok (.aload_n 0, 1) := by decide +kernel
theorem dM_chain_8 : decode cM_chain 8 = .ok (.iload_n 1, 1) := by decide +kernel
theorem dM_chain_9 : decode cM_chain 9 = .ok (.iload_n 2, 1) := by decide +kernel
theorem dM_chain_10 : decode cM_chain 10 = .ok (.invokevirtual 58, 3) := by decide +kernel
theorem dM_chain_13 : decode cM_chain 13 = .ok (.istore 4, 2) := by decide +kernel
theorem dM_chain_15 : decode cM_chain 15 = .ok (.iload 4, 2) := by decide +kernel
theorem dM_chain_17 : decode cM_chain 17 = .ok (.ifCond .lt 18, 3) := by decide +kernel
theorem dM_chain_20 : decode cM_chain 20 = .ok (.iinc 3 1, 3) := by decide +kernel
theorem dM_chain_23 : decode cM_chain 23 = .ok (.aload_n 0, 1) := by decide +kernel
theorem dM_chain_24 : decode cM_chain 24 = .ok (.getfield 20, 3) := by decide +kernel
theorem dM_chain_27 : decode cM_chain 27 = .ok (.iload 4, 2) := by decide +kernel
theorem dM_chain_29 : decode cM_chain 29 = .ok (.iaload, 1) := by decide +kernel
theorem dM_chain_30 : decode cM_chain 30 = .ok (.istore 4, 2) := by decide +kernel
theorem dM_chain_32 : decode cM_chain 32 = .ok (.goto (-17), 3) := by decide +kernel
theorem dM_chain_35 : decode cM_chain 35 = .ok (.iload_n 3, 1) := by decide +kernel
theorem dM_chain_36 : decode cM_chain 36 = .ok (.ireturn, 1) := by decide +kernel
theorem dM_head_0 : decode cM_head 0 = .ok (.iconst (-1), 1) := by decide +kernel
theorem dM_head_1 : decode cM_head 1 = .ok (.istore_n 3, 1) := by decide +kernel
theorem dM_head_2 : decode cM_head 2 = .ok (.iconst 0, 1) := by decide +kernel
theorem dM_head_3 : decode cM_head 3 = .ok (.istore 4, 2) := by decide +kernel
theorem dM_head_5 : decode cM_head 5 = .ok (.iload 4, 2) := by decide +kernel
theorem dM_head_7 : decode cM_head 7 = .ok (.aload_n 0, 1) := by decide +kernel
theorem dM_head_8 : decode cM_head 8 = .ok (.getfield 46, 3) := by decide +kernel
theorem dM_head_11 : decode cM_head 11 = .ok (.if_icmp .ge 78, 3) := by decide +kernel
theorem dM_head_14 : decode cM_head 14 = .ok (.aload_n 0, 1) := by decide +kernel
theorem dM_head_15 : decode cM_head 15 = .ok (.getfield 7, 3) := by decide +kernel
theorem dM_head_18 : decode cM_head 18 = .ok (.iload 4, 2) := by decide +kernel
theorem dM_head_20 : decode cM_head 20 = .ok (.iaload, 1) := by decide +kernel
theorem dM_head_21 : decode cM_head 21 = .ok (.iload_n 1, 1) := by decide +kernel
theorem dM_head_22 : decode cM_head 22 = .ok (.if_icmp .ne 61, 3) := by decide +kernel
theorem dM_head_25 : decode cM_head 25 = .ok (.aload_n 0, 1) := by decide +kernel
theorem dM_head_26 : decode cM_head 26 = .ok (.getfield 29, 3) := by decide +kernel
theorem dM_head_29 : decode cM_head 29 = .ok (.iload 4, 2) := by decide +kernel
theorem dM_head_31 : decode cM_head 31 = .ok (.iaload, 1) := by decide +kernel
theorem dM_head_32 : decode cM_head 32 = .ok (.iconst 1, 1) := by decide +kernel
theorem dM_head_33 : decode cM_head 33 = .ok (.if_icmp .ne 50, 3) := by decide +kernel
theorem dM_head_36 : decode cM_head 36 = .ok (.aload_n 0, 1) := by decide +kernel
theorem dM_head_37 : decode cM_head 37 = .ok (.getfield 32, 3) := by decide +kernel
theorem dM_head_40 : decode cM_head 40 = .ok (.iload 4, 2) := by decide +kernel
theorem dM_head_42 : decode cM_head 42 = .ok (.baload, 1) := by decide +kernel
theorem dM_head_43 : decode cM_head 43 = .ok (.ifCond .ne 40, 3) := by decide +kernel
theorem dM_head_46 : decode cM_head 46 = .ok (.aload_n 0, 1) := by decide +kernel
theorem dM_head_47 : decode cM_head 47 = .ok (.getfield 26, 3) := by decide +kernel
theorem dM_head_50 : decode cM_head 50 = .ok (.iload 4, 2) := by decide +kernel
theorem dM_head_52 : decode cM_head 52 = .ok (.iaload, 1) := by decide +kernel
theorem dM_head_53 : decode cM_head 53 = .ok (.iload_n 2, 1) := by decide +kernel
theorem dM_head_54 : decode cM_head 54 = .ok (.if_icmp .le 6, 3) := by decide +kernel
theorem dM_head_57 : decode cM_head 57 = .ok (.goto 26, 3) := by decide +kernel
theorem dM_head_60 : decode cM_head 60 = .ok (.iload_n 3, 1) := by decide +kernel
theorem dM_head_61 : decode cM_head 61 = .ok (.ifCond .lt 19, 3) := by decide +kernel
theorem dM_head_64 : decode cM_head 64 = .ok (.aload_n 0, 1) := by decide +kernel
theorem dM_head_65 : decode cM_head 65 = .ok (.getfield 23, 3) := by decide +kernel
theorem dM_head_68 : decode cM_head 68 = .ok (.iload 4, 2) := by decide +kernel
theorem dM_head_70 : decode cM_head 70 = .ok (.iaload, 1) := by decide +kernel
theorem dM_head_71 : decode cM_head 71 = .ok (.aload_n 0, 1) := by decide +kernel
theorem dM_head_72 : decode cM_head 72 = .ok (.getfield 23, 3) := by decide +kernel
theorem dM_head_75 : decode cM_head 75 = .ok (.iload_n 3, 1) := by decide +kernel
theorem dM_head_76 : decode cM_head 76 = .ok (.iaload, 1) := by decide +kernel
theorem dM_head_77 : decode cM_head 77 = .ok (.if_icmp .lt 6, 3) := by decide +kernel
theorem dM_head_80 : decode cM_head 80 = .ok (.iload 4, 2) := by decide +kernel
theorem dM_head_82 : decode cM_head 82 = .ok (.istore_n 3, 1) := by decide +kernel
theorem dM_head_83 : decode cM_head 83 = .ok (.iinc 4 1, 3) := by decide +kernel
theorem dM_head_86 : decode cM_head 86 = .ok (.goto (-81), 3) := by decide +kernel
theorem dM_head_89 : decode cM_head 89 = .ok (.iload_n 3, 1) := by decide +kernel
theorem dM_head_90 : decode cM_head 90 = .ok (.ireturn, 1) := by decide +kernel
theorem dM_link_0 : decode cM_link 0 = .ok (.iconst 0, 1) := by decide +kernel
theorem dM_link_1 : decode cM_link 1 = .ok (.istore 4, 2) := by decide +kernel
theorem dM_link_3 : decode cM_link 3 = .ok (.iload_n 3, 1) := by decide +kernel
theorem dM_link_4 : decode cM_link 4 = .ok (.ifCond .ge 7, 3) := by decide +kernel
theorem dM_link_7 : decode cM_link 7 = .ok (.iconst (-1), 1) := by decide +kernel
theorem dM_link_8 : decode cM_link 8 = .ok (.goto 9, 3) := by decide +kernel
theorem dM_link_11 : decode cM_link 11 = .ok (.aload_n 0, 1) := by decide +kernel
theorem dM_link_12 : decode cM_link 12 = .ok (.iload_n 1, 1) := by decide +kernel
theorem dM_link_13 : decode cM_link 13 = .ok (.iload_n 2, 1) := by decide +kernel
theorem dM_link_14 : decode cM_link 14 = .ok (.invokevirtual 58, 3) := by decide +kernel
theorem dM_link_17 : decode cM_link 17 = .ok (.istore 5, 2) := by decide +kernel
theorem dM_link_19 : decode cM_link 19 = .ok (.iload 5, 2) := by decide +kernel
theorem dM_link_21 : decode cM_link 21 = .ok (.ifCond .lt 24, 3) := by decide +kernel
theorem dM_link_24 : decode cM_link 24 = .ok (.iload 4, 2) := by decide +kernel
theorem dM_link_26 : decode cM_link 26 = .ok (.iload_n 3, 1) := by decide +kernel
theorem dM_link_27 : decode cM_link 27 = .ok (.if_icmp .ge 18, 3) := by decide +kernel
theorem dM_link_30 : decode cM_link 30 = .ok (.aload_n 0, 1) := by decide +kernel
theorem dM_link_31 : decode cM_link 31 = .ok (.getfield 20, 3) := by decide +kernel
theorem dM_link_34 : decode cM_link 34 = .ok (.iload 5, 2) := by decide +kernel
theorem dM_link_36 : decode cM_link 36 = .ok (.iaload, 1) := by decide +kernel
theorem dM_link_37 : decode cM_link 37 = .ok (.istore 5, 2) := by decide +kernel
theorem dM_link_39 : decode cM_link 39 = .ok (.iinc 4 1, 3) := by decide +kernel
theorem dM_link_42 : decode cM_link 42 = .ok (.goto (-23), 3) := by decide +kernel
theorem dM_link_45 : decode cM_link 45 = .ok (.aload_n 0, 1) := by decide +kernel
theorem dM_link_46 : decode cM_link 46 = .ok (.iload 5, 2) := by decide +kernel
theorem dM_link_48 : decode cM_link 48 = .ok (.ifCond .ge 7, 3) := by decide +kernel
theorem dM_link_51 : decode cM_link 51 = .ok (.iconst 1, 1) := by decide +kernel
theorem dM_link_52 : decode cM_link 52 = .ok (.goto 4, 3) := by decide +kernel
theorem dM_link_55 : decode cM_link 55 = .ok (.iconst 0, 1) := by decide +kernel
theorem dM_link_56 : decode cM_link 56 = .ok (.putfield 38, 3) := by decide +kernel
theorem dM_link_59 : decode cM_link 59 = .ok (.iload 5, 2) := by decide +kernel
theorem dM_link_61 : decode cM_link 61 = .ok (.ifCond .ge 7, 3) := by decide +kernel
theorem dM_link_64 : decode cM_link 64 = .ok (.iconst 0, 1) := by decide +kernel
theorem dM_link_65 : decode cM_link 65 = .ok (.goto 5, 3) := by decide +kernel
theorem dM_link_68 : decode cM_link 68 = .ok (.iload 5, 2) := by decide +kernel
theorem dM_link_70 : decode cM_link 70 = .ok (.ireturn, 1) := by decide +kernel
theorem dM_view_0 : decode cM_view 0 = .ok (.aload_n 0, 1) := by decide +kernel
theorem dM_view_1 : decode cM_view 1 = .ok (.iconst 0, 1) := by decide +kernel
theorem dM_view_2 : decode cM_view 2 = .ok (.putfield 38, 3) := by decide +kernel
theorem dM_view_5 : decode cM_view 5 = .ok (.aload_n 0, 1) := by decide +kernel
theorem dM_view_6 : decode cM_view 6 = .ok (.iload_n 1, 1) := by decide +kernel
theorem dM_view_7 : decode cM_view 7 = .ok (.iload_n 2, 1) := by decide +kernel
theorem dM_view_8 : decode cM_view 8 = .ok (.iload_n 3, 1) := by decide +kernel
theorem dM_view_9 : decode cM_view 9 = .ok (.invokevirtual 65, 3) := by decide +kernel
theorem dM_view_12 : decode cM_view 12 = .ok (.ireturn, 1) := by decide +kernel
theorem dM_version_0 : decode cM_version 0 = .ok (.aload_n 0, 1) := by decide +kernel
theorem dM_version_1 : decode cM_version 1 = .ok (.iload_n 1, 1) := by decide +kernel
theorem dM_version_2 : decode cM_version 2 = .ok (.iload_n 2, 1) := by decide +kernel
theorem dM_version_3 : decode cM_version 3 = .ok (.iload_n 3, 1) := by decide +kernel
theorem dM_version_4 : decode cM_version 4 = .ok (.invokevirtual 61, 3) := by decide +kernel
theorem dM_version_7 : decode cM_version 7 = .ok (.istore 4, 2) := by decide +kernel
theorem dM_version_9 : decode cM_version 9 = .ok (.iload 4, 2) := by decide +kernel
theorem dM_version_11 : decode cM_version 11 = .ok (.ifCond .ge 7, 3) := by decide +kernel
theorem dM_version_14 : decode cM_version 14 = .ok (.iconst (-1), 1) := by decide +kernel
theorem dM_version_15 : decode cM_version 15 = .ok (.goto 15, 3) := by decide +kernel
theorem dM_version_18 : decode cM_version 18 = .ok (.aload_n 0, 1) := by decide +kernel
theorem dM_version_19 : decode cM_version 19 = .ok (.getfield 35, 3) := by decide +kernel
theorem dM_version_22 : decode cM_version 22 = .ok (.bipush 50, 2) := by decide +kernel
theorem dM_version_24 : decode cM_version 24 = .ok (.iload 4, 2) := by decide +kernel
theorem dM_version_26 : decode cM_version 26 = .ok (.imul, 1) := by decide +kernel
theorem dM_version_27 : decode cM_version 27 = .ok (.iload_n 3, 1) := by decide +kernel
theorem dM_version_28 : decode cM_version 28 = .ok (.iadd, 1) := by decide +kernel
theorem dM_version_29 : decode cM_version 29 = .ok (.iaload, 1) := by decide +kernel
theorem dM_version_30 : decode cM_version 30 = .ok (.ireturn, 1) := by decide +kernel
theorem dM_teller_0 : decode cM_teller 0 = .ok (.iload_n 3, 1) := by decide +kernel
theorem dM_teller_1 : decode cM_teller 1 = .ok (.ifCond .lt 9, 3) := by decide +kernel
theorem dM_teller_4 : decode cM_teller 4 = .ok (.iload_n 3, 1) := by decide +kernel
theorem dM_teller_5 : decode cM_teller 5 = .ok (.bipush 50, 2) := by decide +kernel
theorem dM_teller_7 : decode cM_teller 7 = .ok (.if_icmp .lt 5, 3) := by decide +kernel
theorem dM_teller_10 : decode cM_teller 10 = .ok (.iconst (-1), 1) := by decide +kernel
theorem dM_teller_11 : decode cM_teller 11 = .ok (.ireturn, 1) := by decide +kernel
theorem dM_teller_12 : decode cM_teller 12 = .ok (.aload_n 0, 1) := by decide +kernel
theorem dM_teller_13 : decode cM_teller 13 = .ok (.iload_n 1, 1) := by decide +kernel
theorem dM_teller_14 : decode cM_teller 14 = .ok (.iload_n 2, 1) := by decide +kernel
theorem dM_teller_15 : decode cM_teller 15 = .ok (.invokevirtual 58, 3) := by decide +kernel
theorem dM_teller_18 : decode cM_teller 18 = .ok (.istore 4, 2) := by decide +kernel
theorem dM_teller_20 : decode cM_teller 20 = .ok (.iload 4, 2) := by decide +kernel
theorem dM_teller_22 : decode cM_teller 22 = .ok (.ifCond .lt 32, 3) := by decide +kernel
theorem dM_teller_25 : decode cM_teller 25 = .ok (.aload_n 0, 1) := by decide +kernel
theorem dM_teller_26 : decode cM_teller 26 = .ok (.getfield 35, 3) := by decide +kernel
theorem dM_teller_29 : decode cM_teller 29 = .ok (.bipush 50, 2) := by decide +kernel
theorem dM_teller_31 : decode cM_teller 31 = .ok (.iload 4, 2) := by decide +kernel
theorem dM_teller_33 : decode cM_teller 33 = .ok (.imul, 1) := by decide +kernel
theorem dM_teller_34 : decode cM_teller 34 = .ok (.iload_n 3, 1) := by decide +kernel
theorem dM_teller_35 : decode cM_teller 35 = .ok (.iadd, 1) := by decide +kernel
theorem dM_teller_36 : decode cM_teller 36 = .ok (.iaload, 1) := by decide +kernel
theorem dM_teller_37 : decode cM_teller 37 = .ok (.bipush (-2), 2) := by decide +kernel
theorem dM_teller_39 : decode cM_teller 39 = .ok (.if_icmp .ne 15, 3) := by decide +kernel
theorem dM_teller_42 : decode cM_teller 42 = .ok (.aload_n 0, 1) := by decide +kernel
theorem dM_teller_43 : decode cM_teller 43 = .ok (.getfield 20, 3) := by decide +kernel
theorem dM_teller_46 : decode cM_teller 46 = .ok (.iload 4, 2) := by decide +kernel
theorem dM_teller_48 : decode cM_teller 48 = .ok (.iaload, 1) := by decide +kernel
theorem dM_teller_49 : decode cM_teller 49 = .ok (.istore 4, 2) := by decide +kernel
theorem dM_teller_51 : decode cM_teller 51 = .ok (.goto (-31), 3) := by decide +kernel
theorem dM_teller_54 : decode cM_teller 54 = .ok (.iload 4, 2) := by decide +kernel
theorem dM_teller_56 : decode cM_teller 56 = .ok (.ireturn, 1) := by decide +kernel
theorem dM_files_0 : decode cM_files 0 = .ok (.aload_n 0, 1) := by decide +kernel
theorem dM_files_1 : decode cM_files 1 = .ok (.iconst 0, 1) := by decide +kernel
theorem dM_files_2 : decode cM_files 2 = .ok (.putfield 38, 3) := by decide +kernel
theorem dM_files_5 : decode cM_files 5 = .ok (.iconst 0, 1) := by decide +kernel
theorem dM_files_6 : decode cM_files 6 = .ok (.istore_n 3, 1) := by decide +kernel
theorem dM_files_7 : decode cM_files 7 = .ok (.iconst 0, 1) := by decide +kernel
theorem dM_files_8 : decode cM_files 8 = .ok (.istore 4, 2) := by decide +kernel
theorem dM_files_10 : decode cM_files 10 = .ok (.iload 4, 2) := by decide +kernel
theorem dM_files_12 : decode cM_files 12 = .ok (.bipush 50, 2) := by decide +kernel
theorem dM_files_14 : decode cM_files 14 = .ok (.if_icmp .ge 28, 3) := by decide +kernel
theorem dM_files_17 : decode cM_files 17 = .ok (.iload_n 3, 1) := by decide +kernel
theorem dM_files_18 : decode cM_files 18 = .ok (.aload_n 0, 1) := by decide +kernel
theorem dM_files_19 : decode cM_files 19 = .ok (.iload_n 1, 1) := by decide +kernel
theorem dM_files_20 : decode cM_files 20 = .ok (.iload_n 2, 1) := by decide +kernel
theorem dM_files_21 : decode cM_files 21 = .ok (.iload 4, 2) := by decide +kernel
theorem dM_files_23 : decode cM_files 23 = .ok (.invokevirtual 65, 3) := by decide +kernel
theorem dM_files_26 : decode cM_files 26 = .ok (.ifCond .lt 7, 3) := by decide +kernel
theorem dM_files_29 : decode cM_files 29 = .ok (.iconst 1, 1) := by decide +kernel
theorem dM_files_30 : decode cM_files 30 = .ok (.goto 4, 3) := by decide +kernel
theorem dM_files_33 : decode cM_files 33 = .ok (.iconst 0, 1) := by decide +kernel
theorem dM_files_34 : decode cM_files 34 = .ok (.iadd, 1) := by decide +kernel
theorem dM_files_35 : decode cM_files 35 = .ok (.istore_n 3, 1) := by decide +kernel
theorem dM_files_36 : decode cM_files 36 = .ok (.iinc 4 1, 3) := by decide +kernel
theorem dM_files_39 : decode cM_files 39 = .ok (.goto (-29), 3) := by decide +kernel
theorem dM_files_42 : decode cM_files 42 = .ok (.iload_n 3, 1) := by decide +kernel
theorem dM_files_43 : decode cM_files 43 = .ok (.ireturn, 1) := by decide +kernel
theorem dM_source_0 : decode cM_source 0 = .ok (.aload_n 0, 1) := by decide +kernel
theorem dM_source_1 : decode cM_source 1 = .ok (.iconst 0, 1) := by decide +kernel
theorem dM_source_2 : decode cM_source 2 = .ok (.putfield 38, 3) := by decide +kernel
theorem dM_source_5 : decode cM_source 5 = .ok (.aload_n 0, 1) := by decide +kernel
theorem dM_source_6 : decode cM_source 6 = .ok (.iload_n 1, 1) := by decide +kernel
theorem dM_source_7 : decode cM_source 7 = .ok (.iload_n 2, 1) := by decide +kernel
theorem dM_source_8 : decode cM_source 8 = .ok (.iload_n 3, 1) := by decide +kernel
theorem dM_source_9 : decode cM_source 9 = .ok (.invokevirtual 61, 3) := by decide +kernel
theorem dM_source_12 : decode cM_source 12 = .ok (.ireturn, 1) := by decide +kernel
theorem dM_prune_0 : decode cM_prune 0 = .ok (.aload_n 0, 1) := by decide +kernel
theorem dM_prune_1 : decode cM_prune 1 = .ok (.iconst 0, 1) := by decide +kernel
theorem dM_prune_2 : decode cM_prune 2 = .ok (.putfield 38, 3) := by decide +kernel
theorem dM_prune_5 : decode cM_prune 5 = .ok (.aload_n 0, 1) := by decide +kernel
theorem dM_prune_6 : decode cM_prune 6 = .ok (.iload_n 1, 1) := by decide +kernel
theorem dM_prune_7 : decode cM_prune 7 = .ok (.invokevirtual 53, 3) := by decide +kernel
theorem dM_prune_10 : decode cM_prune 10 = .ok (.ifCond .eq 11, 3) := by decide +kernel
theorem dM_prune_13 : decode cM_prune 13 = .ok (.aload_n 0, 1) := by decide +kernel
theorem dM_prune_14 : decode cM_prune 14 = .ok (.iload_n 1, 1) := by decide +kernel
theorem dM_prune_15 : decode cM_prune 15 = .ok (.invokevirtual 72, 3) := by decide +kernel
theorem dM_prune_18 : decode cM_prune 18 = .ok (.ifCond .ne 5, 3) := by decide +kernel
theorem dM_prune_21 : decode cM_prune 21 = .ok (.iconst 0, 1) := by decide +kernel
theorem dM_prune_22 : decode cM_prune 22 = .ok (.ireturn, 1) := by decide +kernel
theorem dM_prune_23 : decode cM_prune 23 = .ok (.aload_n 0, 1) := by decide +kernel
theorem dM_prune_24 : decode cM_prune 24 = .ok (.iload_n 1, 1) := by decide +kernel
theorem dM_prune_25 : decode cM_prune 25 = .ok (.invokevirtual 75, 3) := by decide +kernel
theorem dM_prune_28 : decode cM_prune 28 = .ok (.iconst 1, 1) := by decide +kernel
theorem dM_prune_29 : decode cM_prune 29 = .ok (.ireturn, 1) := by decide +kernel
theorem dM_mayGo_0 : decode cM_mayGo 0 = .ok (.aload_n 0, 1) := by decide +kernel
theorem dM_mayGo_1 : decode cM_mayGo 1 = .ok (.getfield 29, 3) := by decide +kernel
theorem dM_mayGo_4 : decode cM_mayGo 4 = .ok (.iload_n 1, 1) := by decide +kernel
theorem dM_mayGo_5 : decode cM_mayGo 5 = .ok (.iaload, 1) := by decide +kernel
theorem dM_mayGo_6 : decode cM_mayGo 6 = .ok (.ifCond .eq 24, 3) := by decide +kernel
theorem dM_mayGo_9 : decode cM_mayGo 9 = .ok (.aload_n 0, 1) := by decide +kernel
theorem dM_mayGo_10 : decode cM_mayGo 10 = .ok (.getfield 32, 3) := by decide +kernel
theorem dM_mayGo_13 : decode cM_mayGo 13 = .ok (.iload_n 1, 1) := by decide +kernel
theorem dM_mayGo_14 : decode cM_mayGo 14 = .ok (.baload, 1) := by decide +kernel
theorem dM_mayGo_15 : decode cM_mayGo 15 = .ok (.ifCond .ne 15, 3) := by decide +kernel
theorem dM_mayGo_18 : decode cM_mayGo 18 = .ok (.aload_n 0, 1) := by decide +kernel
theorem dM_mayGo_19 : decode cM_mayGo 19 = .ok (.iload_n 1, 1) := by decide +kernel
theorem dM_mayGo_20 : decode cM_mayGo 20 = .ok (.invokevirtual 68, 3) := by decide +kernel
theorem dM_mayGo_23 : decode cM_mayGo 23 = .ok (.ifCond .ne 7, 3) := by decide +kernel
theorem dM_mayGo_26 : decode cM_mayGo 26 = .ok (.iconst 1, 1) := by decide +kernel
theorem dM_mayGo_27 : decode cM_mayGo 27 = .ok (.goto 4, 3) := by decide +kernel
theorem dM_mayGo_30 : decode cM_mayGo 30 = .ok (.iconst 0, 1) := by decide +kernel
theorem dM_mayGo_31 : decode cM_mayGo 31 = .ok (.ireturn, 1) := by decide +kernel
theorem dM_standing_0 : decode cM_standing 0 = .ok (.iconst 0, 1) := by decide +kernel
theorem dM_standing_1 : decode cM_standing 1 = .ok (.istore_n 2, 1) := by decide +kernel
theorem dM_standing_2 : decode cM_standing 2 = .ok (.iconst 0, 1) := by decide +kernel
theorem dM_standing_3 : decode cM_standing 3 = .ok (.istore_n 3, 1) := by decide +kernel
theorem dM_standing_4 : decode cM_standing 4 = .ok (.iload_n 3, 1) := by decide +kernel
theorem dM_standing_5 : decode cM_standing 5 = .ok (.aload_n 0, 1) := by decide +kernel
theorem dM_standing_6 : decode cM_standing 6 = .ok (.getfield 46, 3) := by decide +kernel
theorem dM_standing_9 : decode cM_standing 9 = .ok (.if_icmp .ge 36, 3) := by decide +kernel
theorem dM_standing_12 : decode cM_standing 12 = .ok (.iload_n 2, 1) := by decide +kernel
theorem dM_standing_13 : decode cM_standing 13 = .ok (.aload_n 0, 1) := by decide +kernel
theorem dM_standing_14 : decode cM_standing 14 = .ok (.getfield 20, 3) := by decide +kernel
theorem dM_standing_17 : decode cM_standing 17 = .ok (.iload_n 3, 1) := by decide +kernel
theorem dM_standing_18 : decode cM_standing 18 = .ok (.iaload, 1) := by decide +kernel
theorem dM_standing_19 : decode cM_standing 19 = .ok (.iload_n 1, 1) := by decide +kernel
theorem dM_standing_20 : decode cM_standing 20 = .ok (.if_icmp .ne 16, 3) := by decide +kernel
theorem dM_standing_23 : decode cM_standing 23 = .ok (.aload_n 0, 1) := by decide +kernel
theorem dM_standing_24 : decode cM_standing 24 = .ok (.getfield 32, 3) := by decide +kernel
theorem dM_standing_27 : decode cM_standing 27 = .ok (.iload_n 3, 1) := by decide +kernel
theorem dM_standing_28 : decode cM_standing 28 = .ok (.baload, 1) := by decide +kernel
theorem dM_standing_29 : decode cM_standing 29 = .ok (.ifCond .ne 7, 3) := by decide +kernel
theorem dM_standing_32 : decode cM_standing 32 = .ok (.iconst 1, 1) := by decide +kernel
theorem dM_standing_33 : decode cM_standing 33 = .ok (.goto 4, 3) := by decide +kernel
theorem dM_standing_36 : decode cM_standing 36 = .ok (.iconst 0, 1) := by decide +kernel
theorem dM_standing_37 : decode cM_standing 37 = .ok (.iadd, 1) := by decide +kernel
theorem dM_standing_38 : decode cM_standing 38 = .ok (.istore_n 2, 1) := by decide +kernel
theorem dM_standing_39 : decode cM_standing 39 = .ok (.iinc 3 1, 3) := by decide +kernel
theorem dM_standing_42 : decode cM_standing 42 = .ok (.goto (-38), 3) := by decide +kernel
theorem dM_standing_45 : decode cM_standing 45 = .ok (.iload_n 2, 1) := by decide +kernel
theorem dM_standing_46 : decode cM_standing 46 = .ok (.ireturn, 1) := by decide +kernel
theorem dM_drop_0 : decode cM_drop 0 = .ok (.aload_n 0, 1) := by decide +kernel
theorem dM_drop_1 : decode cM_drop 1 = .ok (.getfield 32, 3) := by decide +kernel
theorem dM_drop_4 : decode cM_drop 4 = .ok (.iload_n 1, 1) := by decide +kernel
theorem dM_drop_5 : decode cM_drop 5 = .ok (.iconst 1, 1) := by decide +kernel
theorem dM_drop_6 : decode cM_drop 6 = .ok (.bastore, 1) := by decide +kernel
theorem dM_drop_7 : decode cM_drop 7 = .ok (.iconst 0, 1) := by decide +kernel
theorem dM_drop_8 : decode cM_drop 8 = .ok (.istore_n 2, 1) := by decide +kernel
theorem dM_drop_9 : decode cM_drop 9 = .ok (.iload_n 2, 1) := by decide +kernel
theorem dM_drop_10 : decode cM_drop 10 = .ok (.bipush 50, 2) := by decide +kernel
theorem dM_drop_12 : decode cM_drop 12 = .ok (.if_icmp .ge 22, 3) := by decide +kernel
theorem dM_drop_15 : decode cM_drop 15 = .ok (.aload_n 0, 1) := by decide +kernel
theorem dM_drop_16 : decode cM_drop 16 = .ok (.getfield 35, 3) := by decide +kernel
theorem dM_drop_19 : decode cM_drop 19 = .ok (.bipush 50, 2) := by decide +kernel
theorem dM_drop_21 : decode cM_drop 21 = .ok (.iload_n 1, 1) := by decide +kernel
theorem dM_drop_22 : decode cM_drop 22 = .ok (.imul, 1) := by decide +kernel
theorem dM_drop_23 : decode cM_drop 23 = .ok (.iload_n 2, 1) := by decide +kernel
theorem dM_drop_24 : decode cM_drop 24 = .ok (.iadd, 1) := by decide +kernel
theorem dM_drop_25 : decode cM_drop 25 = .ok (.bipush (-2), 2) := by decide +kernel
theorem dM_drop_27 : decode cM_drop 27 = .ok (.iastore, 1) := by decide +kernel
theorem dM_drop_28 : decode cM_drop 28 = .ok (.iinc 2 1, 3) := by decide +kernel
theorem dM_drop_31 : decode cM_drop 31 = .ok (.goto (-22), 3) := by decide +kernel
theorem dM_drop_34 : decode cM_drop 34 = .ok (.return_, 1) := by decide +kernel
theorem dM_expire_0 : decode cM_expire 0 = .ok (.aload_n 0, 1) := by decide +kernel
theorem dM_expire_1 : decode cM_expire 1 = .ok (.iload_n 1, 1) := by decide +kernel
theorem dM_expire_2 : decode cM_expire 2 = .ok (.ifCond .ge 7, 3) := by decide +kernel
theorem dM_expire_5 : decode cM_expire 5 = .ok (.iconst 1, 1) := by decide +kernel
theorem dM_expire_6 : decode cM_expire 6 = .ok (.goto 4, 3) := by decide +kernel
theorem dM_expire_9 : decode cM_expire 9 = .ok (.iconst 0, 1) := by decide +kernel
theorem dM_expire_10 : decode cM_expire 10 = .ok (.putfield 38, 3) := by decide +kernel
theorem dM_expire_13 : decode cM_expire 13 = .ok (.iconst 0, 1) := by decide +kernel
theorem dM_expire_14 : decode cM_expire 14 = .ok (.istore_n 2, 1) := by decide +kernel
theorem dM_expire_15 : decode cM_expire 15 = .ok (.aload_n 0, 1) := by decide +kernel
theorem dM_expire_16 : decode cM_expire 16 = .ok (.getfield 46, 3) := by decide +kernel
theorem dM_expire_19 : decode cM_expire 19 = .ok (.iconst 1, 1) := by decide +kernel
theorem dM_expire_20 : decode cM_expire 20 = .ok (.isub, 1) := by decide +kernel
theorem dM_expire_21 : decode cM_expire 21 = .ok (.istore_n 3, 1) := by decide +kernel
theorem dM_expire_22 : decode cM_expire 22 = .ok (.iload_n 3, 1) := by decide +kernel
theorem dM_expire_23 : decode cM_expire 23 = .ok (.ifCond .lt 58, 3) := by decide +kernel
theorem dM_expire_26 : decode cM_expire 26 = .ok (.aload_n 0, 1) := by decide +kernel
theorem dM_expire_27 : decode cM_expire 27 = .ok (.getfield 38, 3) := by decide +kernel
theorem dM_expire_30 : decode cM_expire 30 = .ok (.ifCond .ne 51, 3) := by decide +kernel
theorem dM_expire_33 : decode cM_expire 33 = .ok (.aload_n 0, 1) := by decide +kernel
theorem dM_expire_34 : decode cM_expire 34 = .ok (.iload_n 3, 1) := by decide +kernel
theorem dM_expire_35 : decode cM_expire 35 = .ok (.invokevirtual 72, 3) := by decide +kernel
theorem dM_expire_38 : decode cM_expire 38 = .ok (.ifCond .eq 37, 3) := by decide +kernel
theorem dM_expire_41 : decode cM_expire 41 = .ok (.aload_n 0, 1) := by decide +kernel
theorem dM_expire_42 : decode cM_expire 42 = .ok (.getfield 43, 3) := by decide +kernel
theorem dM_expire_45 : decode cM_expire 45 = .ok (.aload_n 0, 1) := by decide +kernel
theorem dM_expire_46 : decode cM_expire 46 = .ok (.getfield 26, 3) := by decide +kernel
theorem dM_expire_49 : decode cM_expire 49 = .ok (.iload_n 3, 1) := by decide +kernel
theorem dM_expire_50 : decode cM_expire 50 = .ok (.iaload, 1) := by decide +kernel
theorem dM_expire_51 : decode cM_expire 51 = .ok (.isub, 1) := by decide +kernel
theorem dM_expire_52 : decode cM_expire 52 = .ok (.iload_n 1, 1) := by decide +kernel
theorem dM_expire_53 : decode cM_expire 53 = .ok (.if_icmp .le 22, 3) := by decide +kernel
theorem dM_expire_56 : decode cM_expire 56 = .ok (.aload_n 0, 1) := by decide +kernel
theorem dM_expire_57 : decode cM_expire 57 = .ok (.iload_n 3, 1) := by decide +kernel
theorem dM_expire_58 : decode cM_expire 58 = .ok (.invokevirtual 79, 3) := by decide +kernel
theorem dM_expire_61 : decode cM_expire 61 = .ok (.ifCond .eq 6, 3) := by decide +kernel
theorem dM_expire_64 : decode cM_expire 64 = .ok (.goto 11, 3) := by decide +kernel
theorem dM_expire_67 : decode cM_expire 67 = .ok (.aload_n 0, 1) := by decide +kernel
theorem dM_expire_68 : decode cM_expire 68 = .ok (.iload_n 3, 1) := by decide +kernel
theorem dM_expire_69 : decode cM_expire 69 = .ok (.invokevirtual 75, 3) := by decide +kernel
theorem dM_expire_72 : decode cM_expire 72 = .ok (.iinc 2 1, 3) := by decide +kernel
theorem dM_expire_75 : decode cM_expire 75 = .ok (.iinc 3 (-1), 3) := by decide +kernel
theorem dM_expire_78 : decode cM_expire 78 = .ok (.goto (-56), 3) := by decide +kernel
theorem dM_expire_81 : decode cM_expire 81 = .ok (.iload_n 2, 1) := by decide +kernel
theorem dM_expire_82 : decode cM_expire 82 = .ok (.ireturn, 1) := by decide +kernel
theorem dM_isOnly_0 : decode cM_isOnly 0 = .ok (.aload_n 0, 1) := by decide +kernel
theorem dM_isOnly_1 : decode cM_isOnly 1 = .ok (.getfield 29, 3) := by decide +kernel
theorem dM_isOnly_4 : decode cM_isOnly 4 = .ok (.iload_n 1, 1) := by decide +kernel
theorem dM_isOnly_5 : decode cM_isOnly 5 = .ok (.iaload, 1) := by decide +kernel
theorem dM_isOnly_6 : decode cM_isOnly 6 = .ok (.iconst 1, 1) := by decide +kernel
theorem dM_isOnly_7 : decode cM_isOnly 7 = .ok (.if_icmp .ne 12, 3) := by decide +kernel
theorem dM_isOnly_10 : decode cM_isOnly 10 = .ok (.aload_n 0, 1) := by decide +kernel
theorem dM_isOnly_11 : decode cM_isOnly 11 = .ok (.getfield 13, 3) := by decide +kernel
theorem dM_isOnly_14 : decode cM_isOnly 14 = .ok (.iload_n 1, 1) := by decide +kernel
theorem dM_isOnly_15 : decode cM_isOnly 15 = .ok (.iaload, 1) := by decide +kernel
theorem dM_isOnly_16 : decode cM_isOnly 16 = .ok (.ifCond .eq 5, 3) := by decide +kernel
theorem dM_isOnly_19 : decode cM_isOnly 19 = .ok (.iconst 0, 1) := by decide +kernel
theorem dM_isOnly_20 : decode cM_isOnly 20 = .ok (.ireturn, 1) := by decide +kernel
theorem dM_isOnly_21 : decode cM_isOnly 21 = .ok (.iconst 0, 1) := by decide +kernel
theorem dM_isOnly_22 : decode cM_isOnly 22 = .ok (.istore_n 2, 1) := by decide +kernel
theorem dM_isOnly_23 : decode cM_isOnly 23 = .ok (.iload_n 2, 1) := by decide +kernel
theorem dM_isOnly_24 : decode cM_isOnly 24 = .ok (.aload_n 0, 1) := by decide +kernel
theorem dM_isOnly_25 : decode cM_isOnly 25 = .ok (.getfield 46, 3) := by decide +kernel
theorem dM_isOnly_28 : decode cM_isOnly 28 = .ok (.if_icmp .ge 59, 3) := by decide +kernel
theorem dM_isOnly_31 : decode cM_isOnly 31 = .ok (.iload_n 2, 1) := by decide +kernel
theorem dM_isOnly_32 : decode cM_isOnly 32 = .ok (.iload_n 1, 1) := by decide +kernel
theorem dM_isOnly_33 : decode cM_isOnly 33 = .ok (.if_icmp .eq 48, 3) := by decide +kernel
theorem dM_isOnly_36 : decode cM_isOnly 36 = .ok (.aload_n 0, 1) := by decide +kernel
theorem dM_isOnly_37 : decode cM_isOnly 37 = .ok (.getfield 7, 3) := by decide +kernel
theorem dM_isOnly_40 : decode cM_isOnly 40 = .ok (.iload_n 2, 1) := by decide +kernel
theorem dM_isOnly_41 : decode cM_isOnly 41 = .ok (.iaload, 1) := by decide +kernel
theorem dM_isOnly_42 : decode cM_isOnly 42 = .ok (.aload_n 0, 1) := by decide +kernel
theorem dM_isOnly_43 : decode cM_isOnly 43 = .ok (.getfield 7, 3) := by decide +kernel
theorem dM_isOnly_46 : decode cM_isOnly 46 = .ok (.iload_n 1, 1) := by decide +kernel
theorem dM_isOnly_47 : decode cM_isOnly 47 = .ok (.iaload, 1) := by decide +kernel
theorem dM_isOnly_48 : decode cM_isOnly 48 = .ok (.if_icmp .ne 33, 3) := by decide +kernel
theorem dM_isOnly_51 : decode cM_isOnly 51 = .ok (.aload_n 0, 1) := by decide +kernel
theorem dM_isOnly_52 : decode cM_isOnly 52 = .ok (.getfield 29, 3) := by decide +kernel
theorem dM_isOnly_55 : decode cM_isOnly 55 = .ok (.iload_n 2, 1) := by decide +kernel
theorem dM_isOnly_56 : decode cM_isOnly 56 = .ok (.iaload, 1) := by decide +kernel
theorem dM_isOnly_57 : decode cM_isOnly 57 = .ok (.iconst 1, 1) := by decide +kernel
theorem dM_isOnly_58 : decode cM_isOnly 58 = .ok (.if_icmp .ne 23, 3) := by decide +kernel
theorem dM_isOnly_61 : decode cM_isOnly 61 = .ok (.aload_n 0, 1) := by decide +kernel
theorem dM_isOnly_62 : decode cM_isOnly 62 = .ok (.getfield 13, 3) := by decide +kernel
theorem dM_isOnly_65 : decode cM_isOnly 65 = .ok (.iload_n 2, 1) := by decide +kernel
theorem dM_isOnly_66 : decode cM_isOnly 66 = .ok (.iaload, 1) := by decide +kernel
theorem dM_isOnly_67 : decode cM_isOnly 67 = .ok (.ifCond .ne 14, 3) := by decide +kernel
theorem dM_isOnly_70 : decode cM_isOnly 70 = .ok (.aload_n 0, 1) := by decide +kernel
theorem dM_isOnly_71 : decode cM_isOnly 71 = .ok (.getfield 32, 3) := by decide +kernel
theorem dM_isOnly_74 : decode cM_isOnly 74 = .ok (.iload_n 2, 1) := by decide +kernel
theorem dM_isOnly_75 : decode cM_isOnly 75 = .ok (.baload, 1) := by decide +kernel
theorem dM_isOnly_76 : decode cM_isOnly 76 = .ok (.ifCond .ne 5, 3) := by decide +kernel
theorem dM_isOnly_79 : decode cM_isOnly 79 = .ok (.iconst 0, 1) := by decide +kernel
theorem dM_isOnly_80 : decode cM_isOnly 80 = .ok (.ireturn, 1) := by decide +kernel
theorem dM_isOnly_81 : decode cM_isOnly 81 = .ok (.iinc 2 1, 3) := by decide +kernel
theorem dM_isOnly_84 : decode cM_isOnly 84 = .ok (.goto (-61), 3) := by decide +kernel
theorem dM_isOnly_87 : decode cM_isOnly 87 = .ok (.iconst 1, 1) := by decide +kernel
theorem dM_isOnly_88 : decode cM_isOnly 88 = .ok (.ireturn, 1) := by decide +kernel
theorem dM_job_0 : decode cM_job 0 = .ok (.aload_n 0, 1) := by decide +kernel
theorem dM_job_1 : decode cM_job 1 = .ok (.iconst 0, 1) := by decide +kernel
theorem dM_job_2 : decode cM_job 2 = .ok (.putfield 38, 3) := by decide +kernel
theorem dM_job_5 : decode cM_job 5 = .ok (.aload_n 0, 1) := by decide +kernel
theorem dM_job_6 : decode cM_job 6 = .ok (.iload_n 1, 1) := by decide +kernel
theorem dM_job_7 : decode cM_job 7 = .ok (.invokevirtual 53, 3) := by decide +kernel
theorem dM_job_10 : decode cM_job 10 = .ok (.ifCond .ne 5, 3) := by decide +kernel
theorem dM_job_13 : decode cM_job 13 = .ok (.iconst (-1), 1) := by decide +kernel
theorem dM_job_14 : decode cM_job 14 = .ok (.ireturn, 1) := by decide +kernel
theorem dM_job_15 : decode cM_job 15 = .ok (.iload_n 2, 1) := by decide +kernel
theorem dM_job_16 : decode cM_job 16 = .ok (.tableswitch 208 0 10 #[60, 67, 74, 89, 96, 103, 110, 117, 132, 177, 202], 60) := by decide +kernel
theorem dM_job_76 : decode cM_job 76 = .ok (.aload_n 0, 1) := by decide +kernel
theorem dM_job_77 : decode cM_job 77 = .ok (.getfield 7, 3) := by decide +kernel
theorem dM_job_80 : decode cM_job 80 = .ok (.iload_n 1, 1) := by decide +kernel
theorem dM_job_81 : decode cM_job 81 = .ok (.iaload, 1) := by decide +kernel
theorem dM_job_82 : decode cM_job 82 = .ok (.ireturn, 1) := by decide +kernel
theorem dM_job_83 : decode cM_job 83 = .ok (.aload_n 0, 1) := by decide +kernel
theorem dM_job_84 : decode cM_job 84 = .ok (.getfield 13, 3) := by decide +kernel
theorem dM_job_87 : decode cM_job 87 = .ok (.iload_n 1, 1) := by decide +kernel
theorem dM_job_88 : decode cM_job 88 = .ok (.iaload, 1) := by decide +kernel
theorem dM_job_89 : decode cM_job 89 = .ok (.ireturn, 1) := by decide +kernel
theorem dM_job_90 : decode cM_job 90 = .ok (.aload_n 0, 1) := by decide +kernel
theorem dM_job_91 : decode cM_job 91 = .ok (.getfield 16, 3) := by decide +kernel
theorem dM_job_94 : decode cM_job 94 = .ok (.iload_n 1, 1) := by decide +kernel
theorem dM_job_95 : decode cM_job 95 = .ok (.baload, 1) := by decide +kernel
theorem dM_job_96 : decode cM_job 96 = .ok (.ifCond .eq 7, 3) := by decide +kernel
theorem dM_job_99 : decode cM_job 99 = .ok (.iconst 1, 1) := by decide +kernel
theorem dM_job_100 : decode cM_job 100 = .ok (.goto 4, 3) := by decide +kernel
theorem dM_job_103 : decode cM_job 103 = .ok (.iconst 0, 1) := by decide +kernel
theorem dM_job_104 : decode cM_job 104 = .ok (.ireturn, 1) := by decide +kernel
theorem dM_job_105 : decode cM_job 105 = .ok (.aload_n 0, 1) := by decide +kernel
theorem dM_job_106 : decode cM_job 106 = .ok (.getfield 20, 3) := by decide +kernel
theorem dM_job_109 : decode cM_job 109 = .ok (.iload_n 1, 1) := by decide +kernel
theorem dM_job_110 : decode cM_job 110 = .ok (.iaload, 1) := by decide +kernel
theorem dM_job_111 : decode cM_job 111 = .ok (.ireturn, 1) := by decide +kernel
theorem dM_job_112 : decode cM_job 112 = .ok (.aload_n 0, 1) := by decide +kernel
theorem dM_job_113 : decode cM_job 113 = .ok (.getfield 23, 3) := by decide +kernel
theorem dM_job_116 : decode cM_job 116 = .ok (.iload_n 1, 1) := by decide +kernel
theorem dM_job_117 : decode cM_job 117 = .ok (.iaload, 1) := by decide +kernel
theorem dM_job_118 : decode cM_job 118 = .ok (.ireturn, 1) := by decide +kernel
theorem dM_job_119 : decode cM_job 119 = .ok (.aload_n 0, 1) := by decide +kernel
theorem dM_job_120 : decode cM_job 120 = .ok (.getfield 26, 3) := by decide +kernel
theorem dM_job_123 : decode cM_job 123 = .ok (.iload_n 1, 1) := by decide +kernel
theorem dM_job_124 : decode cM_job 124 = .ok (.iaload, 1) := by decide +kernel
theorem dM_job_125 : decode cM_job 125 = .ok (.ireturn, 1) := by decide +kernel
theorem dM_job_126 : decode cM_job 126 = .ok (.aload_n 0, 1) := by decide +kernel
theorem dM_job_127 : decode cM_job 127 = .ok (.getfield 29, 3) := by decide +kernel
theorem dM_job_130 : decode cM_job 130 = .ok (.iload_n 1, 1) := by decide +kernel
theorem dM_job_131 : decode cM_job 131 = .ok (.iaload, 1) := by decide +kernel
theorem dM_job_132 : decode cM_job 132 = .ok (.ireturn, 1) := by decide +kernel
theorem dM_job_133 : decode cM_job 133 = .ok (.aload_n 0, 1) := by decide +kernel
theorem dM_job_134 : decode cM_job 134 = .ok (.getfield 32, 3) := by decide +kernel
theorem dM_job_137 : decode cM_job 137 = .ok (.iload_n 1, 1) := by decide +kernel
theorem dM_job_138 : decode cM_job 138 = .ok (.baload, 1) := by decide +kernel
theorem dM_job_139 : decode cM_job 139 = .ok (.ifCond .eq 7, 3) := by decide +kernel
theorem dM_job_142 : decode cM_job 142 = .ok (.iconst 1, 1) := by decide +kernel
theorem dM_job_143 : decode cM_job 143 = .ok (.goto 4, 3) := by decide +kernel
theorem dM_job_146 : decode cM_job 146 = .ok (.iconst 0, 1) := by decide +kernel
theorem dM_job_147 : decode cM_job 147 = .ok (.ireturn, 1) := by decide +kernel
theorem dM_job_148 : decode cM_job 148 = .ok (.iconst 0, 1) := by decide +kernel
theorem dM_job_149 : decode cM_job 149 = .ok (.istore_n 3, 1) := by decide +kernel
theorem dM_job_150 : decode cM_job 150 = .ok (.iconst 0, 1) := by decide +kernel
theorem dM_job_151 : decode cM_job 151 = .ok (.istore 4, 2) := by decide +kernel
theorem dM_job_153 : decode cM_job 153 = .ok (.iload 4, 2) := by decide +kernel
theorem dM_job_155 : decode cM_job 155 = .ok (.bipush 50, 2) := by decide +kernel
theorem dM_job_157 : decode cM_job 157 = .ok (.if_icmp .ge 34, 3) := by decide +kernel
theorem dM_job_160 : decode cM_job 160 = .ok (.iload_n 3, 1) := by decide +kernel
theorem dM_job_161 : decode cM_job 161 = .ok (.aload_n 0, 1) := by decide +kernel
theorem dM_job_162 : decode cM_job 162 = .ok (.getfield 35, 3) := by decide +kernel
theorem dM_job_165 : decode cM_job 165 = .ok (.bipush 50, 2) := by decide +kernel
theorem dM_job_167 : decode cM_job 167 = .ok (.iload_n 1, 1) := by decide +kernel
theorem dM_job_168 : decode cM_job 168 = .ok (.imul, 1) := by decide +kernel
theorem dM_job_169 : decode cM_job 169 = .ok (.iload 4, 2) := by decide +kernel
theorem dM_job_171 : decode cM_job 171 = .ok (.iadd, 1) := by decide +kernel
theorem dM_job_172 : decode cM_job 172 = .ok (.iaload, 1) := by decide +kernel
theorem dM_job_173 : decode cM_job 173 = .ok (.bipush (-2), 2) := by decide +kernel
theorem dM_job_175 : decode cM_job 175 = .ok (.if_icmp .eq 7, 3) := by decide +kernel
theorem dM_job_178 : decode cM_job 178 = .ok (.iconst 1, 1) := by decide +kernel
theorem dM_job_179 : decode cM_job 179 = .ok (.goto 4, 3) := by decide +kernel
theorem dM_job_182 : decode cM_job 182 = .ok (.iconst 0, 1) := by decide +kernel
theorem dM_job_183 : decode cM_job 183 = .ok (.iadd, 1) := by decide +kernel
theorem dM_job_184 : decode cM_job 184 = .ok (.istore_n 3, 1) := by decide +kernel
theorem dM_job_185 : decode cM_job 185 = .ok (.iinc 4 1, 3) := by decide +kernel
theorem dM_job_188 : decode cM_job 188 = .ok (.goto (-35), 3) := by decide +kernel
theorem dM_job_191 : decode cM_job 191 = .ok (.iload_n 3, 1) := by decide +kernel
theorem dM_job_192 : decode cM_job 192 = .ok (.ireturn, 1) := by decide +kernel
theorem dM_job_193 : decode cM_job 193 = .ok (.aload_n 0, 1) := by decide +kernel
theorem dM_job_194 : decode cM_job 194 = .ok (.getfield 20, 3) := by decide +kernel
theorem dM_job_197 : decode cM_job 197 = .ok (.iload_n 1, 1) := by decide +kernel
theorem dM_job_198 : decode cM_job 198 = .ok (.iaload, 1) := by decide +kernel
theorem dM_job_199 : decode cM_job 199 = .ok (.ifCond .ge 7, 3) := by decide +kernel
theorem dM_job_202 : decode cM_job 202 = .ok (.iconst (-1), 1) := by decide +kernel
theorem dM_job_203 : decode cM_job 203 = .ok (.goto 14, 3) := by decide +kernel
theorem dM_job_206 : decode cM_job 206 = .ok (.aload_n 0, 1) := by decide +kernel
theorem dM_job_207 : decode cM_job 207 = .ok (.getfield 23, 3) := by decide +kernel
theorem dM_job_210 : decode cM_job 210 = .ok (.aload_n 0, 1) := by decide +kernel
theorem dM_job_211 : decode cM_job 211 = .ok (.getfield 20, 3) := by decide +kernel
theorem dM_job_214 : decode cM_job 214 = .ok (.iload_n 1, 1) := by decide +kernel
theorem dM_job_215 : decode cM_job 215 = .ok (.iaload, 1) := by decide +kernel
theorem dM_job_216 : decode cM_job 216 = .ok (.iaload, 1) := by decide +kernel
theorem dM_job_217 : decode cM_job 217 = .ok (.ireturn, 1) := by decide +kernel
theorem dM_job_218 : decode cM_job 218 = .ok (.aload_n 0, 1) := by decide +kernel
theorem dM_job_219 : decode cM_job 219 = .ok (.iload_n 1, 1) := by decide +kernel
theorem dM_job_220 : decode cM_job 220 = .ok (.invokevirtual 68, 3) := by decide +kernel
theorem dM_job_223 : decode cM_job 223 = .ok (.ireturn, 1) := by decide +kernel
theorem dM_job_224 : decode cM_job 224 = .ok (.iconst (-1), 1) := by decide +kernel
theorem dM_job_225 : decode cM_job 225 = .ok (.ireturn, 1) := by decide +kernel
theorem dM_count_0 : decode cM_count 0 = .ok (.aload_n 0, 1) := by decide +kernel
theorem dM_count_1 : decode cM_count 1 = .ok (.iconst 0, 1) := by decide +kernel
theorem dM_count_2 : decode cM_count 2 = .ok (.putfield 38, 3) := by decide +kernel
theorem dM_count_5 : decode cM_count 5 = .ok (.iconst 0, 1) := by decide +kernel
theorem dM_count_6 : decode cM_count 6 = .ok (.istore_n 2, 1) := by decide +kernel
theorem dM_count_7 : decode cM_count 7 = .ok (.iconst 0, 1) := by decide +kernel
theorem dM_count_8 : decode cM_count 8 = .ok (.istore_n 3, 1) := by decide +kernel
theorem dM_count_9 : decode cM_count 9 = .ok (.iconst 0, 1) := by decide +kernel
theorem dM_count_10 : decode cM_count 10 = .ok (.istore 4, 2) := by decide +kernel
theorem dM_count_12 : decode cM_count 12 = .ok (.iload 4, 2) := by decide +kernel
theorem dM_count_14 : decode cM_count 14 = .ok (.aload_n 0, 1) := by decide +kernel
theorem dM_count_15 : decode cM_count 15 = .ok (.getfield 46, 3) := by decide +kernel
theorem dM_count_18 : decode cM_count 18 = .ok (.if_icmp .ge 45, 3) := by decide +kernel
theorem dM_count_21 : decode cM_count 21 = .ok (.iload_n 2, 1) := by decide +kernel
theorem dM_count_22 : decode cM_count 22 = .ok (.aload_n 0, 1) := by decide +kernel
theorem dM_count_23 : decode cM_count 23 = .ok (.getfield 29, 3) := by decide +kernel
theorem dM_count_26 : decode cM_count 26 = .ok (.iload 4, 2) := by decide +kernel
theorem dM_count_28 : decode cM_count 28 = .ok (.iaload, 1) := by decide +kernel
theorem dM_count_29 : decode cM_count 29 = .ok (.ifCond .ne 7, 3) := by decide +kernel
theorem dM_count_32 : decode cM_count 32 = .ok (.iconst 1, 1) := by decide +kernel
theorem dM_count_33 : decode cM_count 33 = .ok (.goto 4, 3) := by decide +kernel
theorem dM_count_36 : decode cM_count 36 = .ok (.iconst 0, 1) := by decide +kernel
theorem dM_count_37 : decode cM_count 37 = .ok (.iadd, 1) := by decide +kernel
theorem dM_count_38 : decode cM_count 38 = .ok (.istore_n 2, 1) := by decide +kernel
theorem dM_count_39 : decode cM_count 39 = .ok (.iload_n 3, 1) := by decide +kernel
theorem dM_count_40 : decode cM_count 40 = .ok (.aload_n 0, 1) := by decide +kernel
theorem dM_count_41 : decode cM_count 41 = .ok (.getfield 32, 3) := by decide +kernel
theorem dM_count_44 : decode cM_count 44 = .ok (.iload 4, 2) := by decide +kernel
theorem dM_count_46 : decode cM_count 46 = .ok (.baload, 1) := by decide +kernel
theorem dM_count_47 : decode cM_count 47 = .ok (.ifCond .eq 7, 3) := by decide +kernel
theorem dM_count_50 : decode cM_count 50 = .ok (.iconst 1, 1) := by decide +kernel
theorem dM_count_51 : decode cM_count 51 = .ok (.goto 4, 3) := by decide +kernel
theorem dM_count_54 : decode cM_count 54 = .ok (.iconst 0, 1) := by decide +kernel
theorem dM_count_55 : decode cM_count 55 = .ok (.iadd, 1) := by decide +kernel
theorem dM_count_56 : decode cM_count 56 = .ok (.istore_n 3, 1) := by decide +kernel
theorem dM_count_57 : decode cM_count 57 = .ok (.iinc 4 1, 3) := by decide +kernel
theorem dM_count_60 : decode cM_count 60 = .ok (.goto (-48), 3) := by decide +kernel
theorem dM_count_63 : decode cM_count 63 = .ok (.iload_n 1, 1) := by decide +kernel
theorem dM_count_64 : decode cM_count 64 = .ok (.ifCond .ne 10, 3) := by decide +kernel
theorem dM_count_67 : decode cM_count 67 = .ok (.aload_n 0, 1) := by decide +kernel
theorem dM_count_68 : decode cM_count 68 = .ok (.getfield 43, 3) := by decide +kernel
theorem dM_count_71 : decode cM_count 71 = .ok (.goto 34, 3) := by decide +kernel
theorem dM_count_74 : decode cM_count 74 = .ok (.iload_n 1, 1) := by decide +kernel
theorem dM_count_75 : decode cM_count 75 = .ok (.iconst 1, 1) := by decide +kernel
theorem dM_count_76 : decode cM_count 76 = .ok (.if_icmp .ne 10, 3) := by decide +kernel
theorem dM_count_79 : decode cM_count 79 = .ok (.aload_n 0, 1) := by decide +kernel
theorem dM_count_80 : decode cM_count 80 = .ok (.getfield 46, 3) := by decide +kernel
theorem dM_count_83 : decode cM_count 83 = .ok (.goto 22, 3) := by decide +kernel
theorem dM_count_86 : decode cM_count 86 = .ok (.iload_n 1, 1) := by decide +kernel
theorem dM_count_87 : decode cM_count 87 = .ok (.iconst 2, 1) := by decide +kernel
theorem dM_count_88 : decode cM_count 88 = .ok (.if_icmp .ne 7, 3) := by decide +kernel
theorem dM_count_91 : decode cM_count 91 = .ok (.iload_n 2, 1) := by decide +kernel
theorem dM_count_92 : decode cM_count 92 = .ok (.goto 13, 3) := by decide +kernel
theorem dM_count_95 : decode cM_count 95 = .ok (.iload_n 1, 1) := by decide +kernel
theorem dM_count_96 : decode cM_count 96 = .ok (.iconst 3, 1) := by decide +kernel
theorem dM_count_97 : decode cM_count 97 = .ok (.if_icmp .ne 7, 3) := by decide +kernel
theorem dM_count_100 : decode cM_count 100 = .ok (.iload_n 3, 1) := by decide +kernel
theorem dM_count_101 : decode cM_count 101 = .ok (.goto 4, 3) := by decide +kernel
theorem dM_count_104 : decode cM_count 104 = .ok (.iconst (-1), 1) := by decide +kernel
theorem dM_count_105 : decode cM_count 105 = .ok (.ireturn, 1) := by decide +kernel
end
section
theorem dL_pass_0 : decode cL_pass 0 = .ok (.aload_n 2, 1) := by decide +kernel
theorem dL_pass_1 : decode cL_pass 1 = .ok (.iconst 0, 1) := by decide +kernel
theorem dL_pass_2 : decode cL_pass 2 = .ok (.aload_n 0, 1) := by decide +kernel
theorem dL_pass_3 : decode cL_pass 3 = .ok (.iload_n 1, 1) := by decide +kernel
theorem dL_pass_4 : decode cL_pass 4 = .ok (.invokevirtual 7, 3) := by decide +kernel
theorem dL_pass_7 : decode cL_pass 7 = .ok (.i2l, 1) := by decide +kernel
theorem dL_pass_8 : decode cL_pass 8 = .ok (.lastore, 1) := by decide +kernel
theorem dL_pass_9 : decode cL_pass 9 = .ok (.goto 6, 3) := by decide +kernel
theorem dL_pass_12 : decode cL_pass 12 = .ok (.astore_n 3, 1) := by decide +kernel
theorem dL_pass_13 : decode cL_pass 13 = .ok (.iconst 1, 1) := by decide +kernel
theorem dL_pass_14 : decode cL_pass 14 = .ok (.ireturn, 1) := by decide +kernel
theorem dL_pass_15 : decode cL_pass 15 = .ok (.iconst 0, 1) := by decide +kernel
theorem dL_pass_16 : decode cL_pass 16 = .ok (.ireturn, 1) := by decide +kernel
theorem dL_link_0 : decode cL_link 0 = .ok (.aload 4, 2) := by decide +kernel
theorem dL_link_2 : decode cL_link 2 = .ok (.iconst 0, 1) := by decide +kernel
theorem dL_link_3 : decode cL_link 3 = .ok (.aload_n 0, 1) := by decide +kernel
theorem dL_link_4 : decode cL_link 4 = .ok (.iload_n 1, 1) := by decide +kernel
theorem dL_link_5 : decode cL_link 5 = .ok (.iload_n 2, 1) := by decide +kernel
theorem dL_link_6 : decode cL_link 6 = .ok (.iload_n 3, 1) := by decide +kernel
theorem dL_link_7 : decode cL_link 7 = .ok (.invokevirtual 15, 3) := by decide +kernel
theorem dL_link_10 : decode cL_link 10 = .ok (.i2l, 1) := by decide +kernel
theorem dL_link_11 : decode cL_link 11 = .ok (.lastore, 1) := by decide +kernel
theorem dL_link_12 : decode cL_link 12 = .ok (.goto 7, 3) := by decide +kernel
theorem dL_link_15 : decode cL_link 15 = .ok (.astore 5, 2) := by decide +kernel
theorem dL_link_17 : decode cL_link 17 = .ok (.iconst 1, 1) := by decide +kernel
theorem dL_link_18 : decode cL_link 18 = .ok (.ireturn, 1) := by decide +kernel
theorem dL_link_19 : decode cL_link 19 = .ok (.iconst 0, 1) := by decide +kernel
theorem dL_link_20 : decode cL_link 20 = .ok (.ireturn, 1) := by decide +kernel
theorem dL_expire_0 : decode cL_expire 0 = .ok (.aload_n 2, 1) := by decide +kernel
theorem dL_expire_1 : decode cL_expire 1 = .ok (.iconst 0, 1) := by decide +kernel
theorem dL_expire_2 : decode cL_expire 2 = .ok (.aload_n 0, 1) := by decide +kernel
theorem dL_expire_3 : decode cL_expire 3 = .ok (.iload_n 1, 1) := by decide +kernel
theorem dL_expire_4 : decode cL_expire 4 = .ok (.invokevirtual 21, 3) := by decide +kernel
theorem dL_expire_7 : decode cL_expire 7 = .ok (.i2l, 1) := by decide +kernel
theorem dL_expire_8 : decode cL_expire 8 = .ok (.lastore, 1) := by decide +kernel
theorem dL_expire_9 : decode cL_expire 9 = .ok (.goto 6, 3) := by decide +kernel
theorem dL_expire_12 : decode cL_expire 12 = .ok (.astore_n 3, 1) := by decide +kernel
theorem dL_expire_13 : decode cL_expire 13 = .ok (.iconst 1, 1) := by decide +kernel
theorem dL_expire_14 : decode cL_expire 14 = .ok (.ireturn, 1) := by decide +kernel
theorem dL_expire_15 : decode cL_expire 15 = .ok (.iconst 0, 1) := by decide +kernel
theorem dL_expire_16 : decode cL_expire 16 = .ok (.ireturn, 1) := by decide +kernel
end
section
/-! by program (wip/whole/tools/fields.py): a row for each field that each class reads or writes, rows of calls -/
abbrev TYS (cI cZ cL : ClassId) : List (ClassId × FieldType) := [(cI, .int), (cZ, .boolean), (cL, .long)]
/-- what a method knows of its surroundings -/
def ME (own : String) (y : Cond) (args : Array Value) (s : State) (m : MethodId) (D : va_G) (tys : List (ClassId × FieldType)) : Prop := s.vm.findClass own = some m.cls ∧ (∀ w ∈ y :: BIG, w.before args s = true) ∧ va_K D CLS tys s ∧ mN NEST s
section FLD
variable {p : Program} {l : Launch} {e : Env} {R : Room} {s : State} {m : MethodId} {args : Array Value} {below : List Frame} {meth : Method} {c : Code} {H : Heap} {locs : List Loc} {cells slots : Nat} {Q : State → Prop}
variable {cc : ByteArray} {pc : Nat} {ls : Array Slot} {rest : List Value} {D : va_G} {B : Nat} {a : Nat} {tys : List (ClassId × FieldType)} {w : Wd} {H0 : Heap} {yw : Cond} {fs : List Value} {v : Value}
theorem g_C_C_9 (hx : p.tables.exec = Jvm.exec) (hb : c.code = cc) (hE : ME "ChainPicker" yw args s m D tys) (hm : mS B D CLS H0 w H locs) (he : w a = some (.inr (1, fs))) (hv : fs[0]? = some v) (hdg : decode cc pc = .ok (.getfield 9, 3)) (kk : W p l e R s m args below meth c H locs cells slots Q (F0 m (pc + 3) ls (v :: rest))) : W p l e R s m args below meth c H locs cells slots Q (F0 m pc ls (.ref a :: rest)) :=
  mget (own := "ChainPicker") (ref := "ChainPicker") (C := "ChainPicker") (T := T_C) (N := 3) (ci := 1) hx hb hE.2.1 (fun w h => List.mem_cons_of_mem _ (i_C w h)) hE.1 hE.2.2.1 hm he rfl 0 (by decide) (hE.2.1 _ (List.mem_cons_of_mem _ q_18)) (fun _ h9 => h9) hv hdg kk
theorem p_C_C_9 {x : Int32} (hx : p.tables.exec = Jvm.exec) (hb : c.code = cc) (hE : ME "ChainPicker" yw args s m D tys) (hm : mS B D CLS H0 w H locs) (he : w a = some (.inr (1, fs))) (hl : 0 < fs.length) (hdg : decode cc pc = .ok (.putfield 9, 3)) (kk : ∀ (H1 : Heap) (locs1 : List Loc), mS B D CLS H0 (wset w a (.inr (1, fs.set 0 (.int x)))) H1 locs1 → W p l e R s m args below meth c H1 locs1 cells slots Q (F0 m (pc + 3) ls rest)) : W p l e R s m args below meth c H locs cells slots Q (F0 m pc ls (.int x :: .ref a :: rest)) := by
  exact mput (own := "ChainPicker") (ref := "ChainPicker") (C := "ChainPicker") (T := T_C) (N := 3) (ci := 1) hx hb hE.2.1 (fun w h => List.mem_cons_of_mem _ (i_C w h)) t_C t_C_ok n_C hE.1 hE.2.2.1 hm he rfl 0 (by decide) (hE.2.1 _ (List.mem_cons_of_mem _ q_18)) (fun _ h9 => h9) rfl (ty := .int) (by decide +kernel) rfl rfl hl hdg kk
theorem g_C_C_13 (hx : p.tables.exec = Jvm.exec) (hb : c.code = cc) (hE : ME "ChainPicker" yw args s m D tys) (hm : mS B D CLS H0 w H locs) (he : w a = some (.inr (1, fs))) (hv : fs[1]? = some v) (hdg : decode cc pc = .ok (.getfield 13, 3)) (kk : W p l e R s m args below meth c H locs cells slots Q (F0 m (pc + 3) ls (v :: rest))) : W p l e R s m args below meth c H locs cells slots Q (F0 m pc ls (.ref a :: rest)) :=
  mget (own := "ChainPicker") (ref := "ChainPicker") (C := "ChainPicker") (T := T_C) (N := 3) (ci := 1) hx hb hE.2.1 (fun w h => List.mem_cons_of_mem _ (i_C w h)) hE.1 hE.2.2.1 hm he rfl 1 (by decide) (hE.2.1 _ (List.mem_cons_of_mem _ q_19)) (fun _ h9 => h9) hv hdg kk
theorem p_C_C_13 {x : Int32} (hx : p.tables.exec = Jvm.exec) (hb : c.code = cc) (hE : ME "ChainPicker" yw args s m D tys) (hm : mS B D CLS H0 w H locs) (he : w a = some (.inr (1, fs))) (hl : 1 < fs.length) (hdg : decode cc pc = .ok (.putfield 13, 3)) (kk : ∀ (H1 : Heap) (locs1 : List Loc), mS B D CLS H0 (wset w a (.inr (1, fs.set 1 (.int x)))) H1 locs1 → W p l e R s m args below meth c H1 locs1 cells slots Q (F0 m (pc + 3) ls rest)) : W p l e R s m args below meth c H locs cells slots Q (F0 m pc ls (.int x :: .ref a :: rest)) := by
  exact mput (own := "ChainPicker") (ref := "ChainPicker") (C := "ChainPicker") (T := T_C) (N := 3) (ci := 1) hx hb hE.2.1 (fun w h => List.mem_cons_of_mem _ (i_C w h)) t_C t_C_ok n_C hE.1 hE.2.2.1 hm he rfl 1 (by decide) (hE.2.1 _ (List.mem_cons_of_mem _ q_19)) (fun _ h9 => h9) rfl (ty := .int) (by decide +kernel) rfl rfl hl hdg kk
theorem g_C_C_16 (hx : p.tables.exec = Jvm.exec) (hb : c.code = cc) (hE : ME "ChainPicker" yw args s m D tys) (hm : mS B D CLS H0 w H locs) (he : w a = some (.inr (1, fs))) (hv : fs[2]? = some v) (hdg : decode cc pc = .ok (.getfield 16, 3)) (kk : W p l e R s m args below meth c H locs cells slots Q (F0 m (pc + 3) ls (v :: rest))) : W p l e R s m args below meth c H locs cells slots Q (F0 m pc ls (.ref a :: rest)) :=
  mget (own := "ChainPicker") (ref := "ChainPicker") (C := "ChainPicker") (T := T_C) (N := 3) (ci := 1) hx hb hE.2.1 (fun w h => List.mem_cons_of_mem _ (i_C w h)) hE.1 hE.2.2.1 hm he rfl 2 (by decide) (hE.2.1 _ (List.mem_cons_of_mem _ q_20)) (fun _ h9 => h9) hv hdg kk
theorem p_C_C_16 {r : Option Nat} (hx : p.tables.exec = Jvm.exec) (hb : c.code = cc) (hE : ME "ChainPicker" yw args s m D tys) (hm : mS B D CLS H0 w H locs) (he : w a = some (.inr (1, fs))) (hl : 2 < fs.length) (hdg : decode cc pc = .ok (.putfield 16, 3)) (kk : ∀ (H1 : Heap) (locs1 : List Loc), mS B D CLS H0 (wset w a (.inr (1, fs.set 2 (va_rf r)))) H1 locs1 → W p l e R s m args below meth c H1 locs1 cells slots Q (F0 m (pc + 3) ls rest)) : W p l e R s m args below meth c H locs cells slots Q (F0 m pc ls (va_rf r :: .ref a :: rest)) := by
  have h1 : narrow (.object "ChainPicker$Job") (va_rf r) = va_rf r := by cases r <;> rfl
  have h2 : fits (.object "ChainPicker$Job") (va_rf r) = true := by cases r <;> rfl
  exact mput (own := "ChainPicker") (ref := "ChainPicker") (C := "ChainPicker") (T := T_C) (N := 3) (ci := 1) hx hb hE.2.1 (fun w h => List.mem_cons_of_mem _ (i_C w h)) t_C t_C_ok n_C hE.1 hE.2.2.1 hm he rfl 2 (by decide) (hE.2.1 _ (List.mem_cons_of_mem _ q_20)) (fun _ h9 => h9) rfl (ty := .object "ChainPicker$Job") (by decide +kernel) h1 h2 hl hdg kk
theorem g_C_J_42 (hx : p.tables.exec = Jvm.exec) (hb : c.code = cc) (hE : ME "ChainPicker" yw args s m D tys) (hm : mS B D CLS H0 w H locs) (he : w a = some (.inr (0, fs))) (hv : fs[11]? = some v) (hdg : decode cc pc = .ok (.getfield 42, 3)) (kk : W p l e R s m args below meth c H locs cells slots Q (F0 m (pc + 3) ls (v :: rest))) : W p l e R s m args below meth c H locs cells slots Q (F0 m pc ls (.ref a :: rest)) :=
  mgetN (host := "ChainPicker") (own := "ChainPicker") (ref := "ChainPicker$Job") (C := "ChainPicker$Job") (T := T_J) (N := 12) (ci := 0) hx hb hE.2.1 (fun w h => List.mem_cons_of_mem _ (i_J w h)) hE.1 hE.2.2.1 hm he rfl 11 (by decide) (va_Nw.use rfl (hE.2.2.2 _ (List.mem_of_getElem? (i := 12) rfl))) (fun _ h9 => h9) hv hdg kk
theorem p_C_J_42 {x : Int32} (hx : p.tables.exec = Jvm.exec) (hb : c.code = cc) (hE : ME "ChainPicker" yw args s m D tys) (hm : mS B D CLS H0 w H locs) (he : w a = some (.inr (0, fs))) (hl : 11 < fs.length) (hdg : decode cc pc = .ok (.putfield 42, 3)) (kk : ∀ (H1 : Heap) (locs1 : List Loc), mS B D CLS H0 (wset w a (.inr (0, fs.set 11 (.int x)))) H1 locs1 → W p l e R s m args below meth c H1 locs1 cells slots Q (F0 m (pc + 3) ls rest)) : W p l e R s m args below meth c H locs cells slots Q (F0 m pc ls (.int x :: .ref a :: rest)) := by
  exact mputN (host := "ChainPicker") (own := "ChainPicker") (ref := "ChainPicker$Job") (C := "ChainPicker$Job") (T := T_J) (N := 12) (ci := 0) hx hb hE.2.1 (fun w h => List.mem_cons_of_mem _ (i_J w h)) t_J t_J_ok n_J hE.1 hE.2.2.1 hm he rfl 11 (by decide) (va_Nw.use rfl (hE.2.2.2 _ (List.mem_of_getElem? (i := 12) rfl))) (fun _ h9 => h9) rfl (ty := .int) (by decide +kernel) rfl rfl hl hdg kk
theorem g_C_J_50 (hx : p.tables.exec = Jvm.exec) (hb : c.code = cc) (hE : ME "ChainPicker" yw args s m D tys) (hm : mS B D CLS H0 w H locs) (he : w a = some (.inr (0, fs))) (hv : fs[0]? = some v) (hdg : decode cc pc = .ok (.getfield 50, 3)) (kk : W p l e R s m args below meth c H locs cells slots Q (F0 m (pc + 3) ls (v :: rest))) : W p l e R s m args below meth c H locs cells slots Q (F0 m pc ls (.ref a :: rest)) :=
  mgetN (host := "ChainPicker") (own := "ChainPicker") (ref := "ChainPicker$Job") (C := "ChainPicker$Job") (T := T_J) (N := 12) (ci := 0) hx hb hE.2.1 (fun w h => List.mem_cons_of_mem _ (i_J w h)) hE.1 hE.2.2.1 hm he rfl 0 (by decide) (va_Nw.use rfl (hE.2.2.2 _ (List.mem_of_getElem? (i := 1) rfl))) (fun _ h9 => h9) hv hdg kk
theorem g_C_J_57 (hx : p.tables.exec = Jvm.exec) (hb : c.code = cc) (hE : ME "ChainPicker" yw args s m D tys) (hm : mS B D CLS H0 w H locs) (he : w a = some (.inr (0, fs))) (hv : fs[9]? = some v) (hdg : decode cc pc = .ok (.getfield 57, 3)) (kk : W p l e R s m args below meth c H locs cells slots Q (F0 m (pc + 3) ls (v :: rest))) : W p l e R s m args below meth c H locs cells slots Q (F0 m pc ls (.ref a :: rest)) :=
  mgetN (host := "ChainPicker") (own := "ChainPicker") (ref := "ChainPicker$Job") (C := "ChainPicker$Job") (T := T_J) (N := 12) (ci := 0) hx hb hE.2.1 (fun w h => List.mem_cons_of_mem _ (i_J w h)) hE.1 hE.2.2.1 hm he rfl 9 (by decide) (va_Nw.use rfl (hE.2.2.2 _ (List.mem_of_getElem? (i := 10) rfl))) (fun _ h9 => h9) hv hdg kk
theorem p_C_J_57 {x : Int32} (hx : p.tables.exec = Jvm.exec) (hb : c.code = cc) (hE : ME "ChainPicker" yw args s m D tys) (hm : mS B D CLS H0 w H locs) (he : w a = some (.inr (0, fs))) (hl : 9 < fs.length) (hdg : decode cc pc = .ok (.putfield 57, 3)) (kk : ∀ (H1 : Heap) (locs1 : List Loc), mS B D CLS H0 (wset w a (.inr (0, fs.set 9 (.int x)))) H1 locs1 → W p l e R s m args below meth c H1 locs1 cells slots Q (F0 m (pc + 3) ls rest)) : W p l e R s m args below meth c H locs cells slots Q (F0 m pc ls (.int x :: .ref a :: rest)) := by
  exact mputN (host := "ChainPicker") (own := "ChainPicker") (ref := "ChainPicker$Job") (C := "ChainPicker$Job") (T := T_J) (N := 12) (ci := 0) hx hb hE.2.1 (fun w h => List.mem_cons_of_mem _ (i_J w h)) t_J t_J_ok n_J hE.1 hE.2.2.1 hm he rfl 9 (by decide) (va_Nw.use rfl (hE.2.2.2 _ (List.mem_of_getElem? (i := 10) rfl))) (fun _ h9 => h9) rfl (ty := .int) (by decide +kernel) rfl rfl hl hdg kk
theorem g_C_J_63 (hx : p.tables.exec = Jvm.exec) (hb : c.code = cc) (hE : ME "ChainPicker" yw args s m D tys) (hm : mS B D CLS H0 w H locs) (he : w a = some (.inr (0, fs))) (hv : fs[2]? = some v) (hdg : decode cc pc = .ok (.getfield 63, 3)) (kk : W p l e R s m args below meth c H locs cells slots Q (F0 m (pc + 3) ls (v :: rest))) : W p l e R s m args below meth c H locs cells slots Q (F0 m pc ls (.ref a :: rest)) :=
  mgetN (host := "ChainPicker") (own := "ChainPicker") (ref := "ChainPicker$Job") (C := "ChainPicker$Job") (T := T_J) (N := 12) (ci := 0) hx hb hE.2.1 (fun w h => List.mem_cons_of_mem _ (i_J w h)) hE.1 hE.2.2.1 hm he rfl 2 (by decide) (va_Nw.use rfl (hE.2.2.2 _ (List.mem_of_getElem? (i := 3) rfl))) (fun _ h9 => h9) hv hdg kk
theorem g_C_J_69 (hx : p.tables.exec = Jvm.exec) (hb : c.code = cc) (hE : ME "ChainPicker" yw args s m D tys) (hm : mS B D CLS H0 w H locs) (he : w a = some (.inr (0, fs))) (hv : fs[7]? = some v) (hdg : decode cc pc = .ok (.getfield 69, 3)) (kk : W p l e R s m args below meth c H locs cells slots Q (F0 m (pc + 3) ls (v :: rest))) : W p l e R s m args below meth c H locs cells slots Q (F0 m pc ls (.ref a :: rest)) :=
  mgetN (host := "ChainPicker") (own := "ChainPicker") (ref := "ChainPicker$Job") (C := "ChainPicker$Job") (T := T_J) (N := 12) (ci := 0) hx hb hE.2.1 (fun w h => List.mem_cons_of_mem _ (i_J w h)) hE.1 hE.2.2.1 hm he rfl 7 (by decide) (va_Nw.use rfl (hE.2.2.2 _ (List.mem_of_getElem? (i := 8) rfl))) (fun _ h9 => h9) hv hdg kk
theorem g_C_J_73 (hx : p.tables.exec = Jvm.exec) (hb : c.code = cc) (hE : ME "ChainPicker" yw args s m D tys) (hm : mS B D CLS H0 w H locs) (he : w a = some (.inr (0, fs))) (hv : fs[8]? = some v) (hdg : decode cc pc = .ok (.getfield 73, 3)) (kk : W p l e R s m args below meth c H locs cells slots Q (F0 m (pc + 3) ls (v :: rest))) : W p l e R s m args below meth c H locs cells slots Q (F0 m pc ls (.ref a :: rest)) :=
  mgetN (host := "ChainPicker") (own := "ChainPicker") (ref := "ChainPicker$Job") (C := "ChainPicker$Job") (T := T_J) (N := 12) (ci := 0) hx hb hE.2.1 (fun w h => List.mem_cons_of_mem _ (i_J w h)) hE.1 hE.2.2.1 hm he rfl 8 (by decide) (va_Nw.use rfl (hE.2.2.2 _ (List.mem_of_getElem? (i := 9) rfl))) (fun _ h9 => h9) hv hdg kk
theorem p_C_J_73 {x : Int32} (hx : p.tables.exec = Jvm.exec) (hb : c.code = cc) (hE : ME "ChainPicker" yw args s m D tys) (hm : mS B D CLS H0 w H locs) (he : w a = some (.inr (0, fs))) (hl : 8 < fs.length) (hdg : decode cc pc = .ok (.putfield 73, 3)) (kk : ∀ (H1 : Heap) (locs1 : List Loc), mS B D CLS H0 (wset w a (.inr (0, fs.set 8 (.int x)))) H1 locs1 → W p l e R s m args below meth c H1 locs1 cells slots Q (F0 m (pc + 3) ls rest)) : W p l e R s m args below meth c H locs cells slots Q (F0 m pc ls (.int x :: .ref a :: rest)) := by
  exact mputN (host := "ChainPicker") (own := "ChainPicker") (ref := "ChainPicker$Job") (C := "ChainPicker$Job") (T := T_J) (N := 12) (ci := 0) hx hb hE.2.1 (fun w h => List.mem_cons_of_mem _ (i_J w h)) t_J t_J_ok n_J hE.1 hE.2.2.1 hm he rfl 8 (by decide) (va_Nw.use rfl (hE.2.2.2 _ (List.mem_of_getElem? (i := 9) rfl))) (fun _ h9 => h9) rfl (ty := .int) (by decide +kernel) rfl rfl hl hdg kk
theorem g_C_J_79 (hx : p.tables.exec = Jvm.exec) (hb : c.code = cc) (hE : ME "ChainPicker" yw args s m D tys) (hm : mS B D CLS H0 w H locs) (he : w a = some (.inr (0, fs))) (hv : fs[4]? = some v) (hdg : decode cc pc = .ok (.getfield 79, 3)) (kk : W p l e R s m args below meth c H locs cells slots Q (F0 m (pc + 3) ls (v :: rest))) : W p l e R s m args below meth c H locs cells slots Q (F0 m pc ls (.ref a :: rest)) :=
  mgetN (host := "ChainPicker") (own := "ChainPicker") (ref := "ChainPicker$Job") (C := "ChainPicker$Job") (T := T_J) (N := 12) (ci := 0) hx hb hE.2.1 (fun w h => List.mem_cons_of_mem _ (i_J w h)) hE.1 hE.2.2.1 hm he rfl 4 (by decide) (va_Nw.use rfl (hE.2.2.2 _ (List.mem_of_getElem? (i := 5) rfl))) (fun _ h9 => h9) hv hdg kk
theorem g_C_J_108 (hx : p.tables.exec = Jvm.exec) (hb : c.code = cc) (hE : ME "ChainPicker" yw args s m D tys) (hm : mS B D CLS H0 w H locs) (he : w a = some (.inr (0, fs))) (hv : fs[6]? = some v) (hdg : decode cc pc = .ok (.getfield 108, 3)) (kk : W p l e R s m args below meth c H locs cells slots Q (F0 m (pc + 3) ls (v :: rest))) : W p l e R s m args below meth c H locs cells slots Q (F0 m pc ls (.ref a :: rest)) :=
  mgetN (host := "ChainPicker") (own := "ChainPicker") (ref := "ChainPicker$Job") (C := "ChainPicker$Job") (T := T_J) (N := 12) (ci := 0) hx hb hE.2.1 (fun w h => List.mem_cons_of_mem _ (i_J w h)) hE.1 hE.2.2.1 hm he rfl 6 (by decide) (va_Nw.use rfl (hE.2.2.2 _ (List.mem_of_getElem? (i := 7) rfl))) (fun _ h9 => h9) hv hdg kk
theorem g_C_J_111 (hx : p.tables.exec = Jvm.exec) (hb : c.code = cc) (hE : ME "ChainPicker" yw args s m D tys) (hm : mS B D CLS H0 w H locs) (he : w a = some (.inr (0, fs))) (hv : fs[1]? = some v) (hdg : decode cc pc = .ok (.getfield 111, 3)) (kk : W p l e R s m args below meth c H locs cells slots Q (F0 m (pc + 3) ls (v :: rest))) : W p l e R s m args below meth c H locs cells slots Q (F0 m pc ls (.ref a :: rest)) :=
  mgetN (host := "ChainPicker") (own := "ChainPicker") (ref := "ChainPicker$Job") (C := "ChainPicker$Job") (T := T_J) (N := 12) (ci := 0) hx hb hE.2.1 (fun w h => List.mem_cons_of_mem _ (i_J w h)) hE.1 hE.2.2.1 hm he rfl 1 (by decide) (va_Nw.use rfl (hE.2.2.2 _ (List.mem_of_getElem? (i := 2) rfl))) (fun _ h9 => h9) hv hdg kk
theorem g_C_J_114 (hx : p.tables.exec = Jvm.exec) (hb : c.code = cc) (hE : ME "ChainPicker" yw args s m D tys) (hm : mS B D CLS H0 w H locs) (he : w a = some (.inr (0, fs))) (hv : fs[3]? = some v) (hdg : decode cc pc = .ok (.getfield 114, 3)) (kk : W p l e R s m args below meth c H locs cells slots Q (F0 m (pc + 3) ls (v :: rest))) : W p l e R s m args below meth c H locs cells slots Q (F0 m pc ls (.ref a :: rest)) :=
  mgetN (host := "ChainPicker") (own := "ChainPicker") (ref := "ChainPicker$Job") (C := "ChainPicker$Job") (T := T_J) (N := 12) (ci := 0) hx hb hE.2.1 (fun w h => List.mem_cons_of_mem _ (i_J w h)) hE.1 hE.2.2.1 hm he rfl 3 (by decide) (va_Nw.use rfl (hE.2.2.2 _ (List.mem_of_getElem? (i := 4) rfl))) (fun _ h9 => h9) hv hdg kk
theorem g_C_J_118 (hx : p.tables.exec = Jvm.exec) (hb : c.code = cc) (hE : ME "ChainPicker" yw args s m D tys) (hm : mS B D CLS H0 w H locs) (he : w a = some (.inr (0, fs))) (hv : fs[5]? = some v) (hdg : decode cc pc = .ok (.getfield 118, 3)) (kk : W p l e R s m args below meth c H locs cells slots Q (F0 m (pc + 3) ls (v :: rest))) : W p l e R s m args below meth c H locs cells slots Q (F0 m pc ls (.ref a :: rest)) :=
  mgetN (host := "ChainPicker") (own := "ChainPicker") (ref := "ChainPicker$Job") (C := "ChainPicker$Job") (T := T_J) (N := 12) (ci := 0) hx hb hE.2.1 (fun w h => List.mem_cons_of_mem _ (i_J w h)) hE.1 hE.2.2.1 hm he rfl 5 (by decide) (va_Nw.use rfl (hE.2.2.2 _ (List.mem_of_getElem? (i := 6) rfl))) (fun _ h9 => h9) hv hdg kk
theorem g_C_J_121 (hx : p.tables.exec = Jvm.exec) (hb : c.code = cc) (hE : ME "ChainPicker" yw args s m D tys) (hm : mS B D CLS H0 w H locs) (he : w a = some (.inr (0, fs))) (hv : fs[10]? = some v) (hdg : decode cc pc = .ok (.getfield 121, 3)) (kk : W p l e R s m args below meth c H locs cells slots Q (F0 m (pc + 3) ls (v :: rest))) : W p l e R s m args below meth c H locs cells slots Q (F0 m pc ls (.ref a :: rest)) :=
  mgetN (host := "ChainPicker") (own := "ChainPicker") (ref := "ChainPicker$Job") (C := "ChainPicker$Job") (T := T_J) (N := 12) (ci := 0) hx hb hE.2.1 (fun w h => List.mem_cons_of_mem _ (i_J w h)) hE.1 hE.2.2.1 hm he rfl 10 (by decide) (va_Nw.use rfl (hE.2.2.2 _ (List.mem_of_getElem? (i := 11) rfl))) (fun _ h9 => h9) hv hdg kk
theorem p_C_J_121 {x : Int32} (hx : p.tables.exec = Jvm.exec) (hb : c.code = cc) (hE : ME "ChainPicker" yw args s m D tys) (hm : mS B D CLS H0 w H locs) (he : w a = some (.inr (0, fs))) (hl : 10 < fs.length) (hz : x = 0 ∨ x = 1) (hdg : decode cc pc = .ok (.putfield 121, 3)) (kk : ∀ (H1 : Heap) (locs1 : List Loc), mS B D CLS H0 (wset w a (.inr (0, fs.set 10 (.int x)))) H1 locs1 → W p l e R s m args below meth c H1 locs1 cells slots Q (F0 m (pc + 3) ls rest)) : W p l e R s m args below meth c H locs cells slots Q (F0 m pc ls (.int x :: .ref a :: rest)) := by
  have h1 : narrow .boolean (.int x) = .int x := by rcases hz with rfl | rfl <;> decide +kernel
  have h2 : fits .boolean (.int x) = true := by rcases hz with rfl | rfl <;> decide +kernel
  exact mputN (host := "ChainPicker") (own := "ChainPicker") (ref := "ChainPicker$Job") (C := "ChainPicker$Job") (T := T_J) (N := 12) (ci := 0) hx hb hE.2.1 (fun w h => List.mem_cons_of_mem _ (i_J w h)) t_J t_J_ok n_J hE.1 hE.2.2.1 hm he rfl 10 (by decide) (va_Nw.use rfl (hE.2.2.2 _ (List.mem_of_getElem? (i := 11) rfl))) (fun _ h9 => h9) rfl (ty := .boolean) (by decide +kernel) h1 h2 hl hdg kk
theorem g_J_J_9 (hx : p.tables.exec = Jvm.exec) (hb : c.code = cc) (hE : ME "ChainPicker$Job" yw args s m D tys) (hm : mS B D CLS H0 w H locs) (he : w a = some (.inr (0, fs))) (hv : fs[0]? = some v) (hdg : decode cc pc = .ok (.getfield 9, 3)) (kk : W p l e R s m args below meth c H locs cells slots Q (F0 m (pc + 3) ls (v :: rest))) : W p l e R s m args below meth c H locs cells slots Q (F0 m pc ls (.ref a :: rest)) :=
  mget (own := "ChainPicker$Job") (ref := "ChainPicker$Job") (C := "ChainPicker$Job") (T := T_J) (N := 12) (ci := 0) hx hb hE.2.1 (fun w h => List.mem_cons_of_mem _ (i_J w h)) hE.1 hE.2.2.1 hm he rfl 0 (by decide) (hE.2.1 _ (List.mem_cons_of_mem _ q_58)) (fun _ h9 => h9) hv hdg kk
theorem p_J_J_9 {x : Int32} (hx : p.tables.exec = Jvm.exec) (hb : c.code = cc) (hE : ME "ChainPicker$Job" yw args s m D tys) (hm : mS B D CLS H0 w H locs) (he : w a = some (.inr (0, fs))) (hnm : meth.name = "<init>") (hl : 0 < fs.length) (hdg : decode cc pc = .ok (.putfield 9, 3)) (kk : ∀ (H1 : Heap) (locs1 : List Loc), mS B D CLS H0 (wset w a (.inr (0, fs.set 0 (.int x)))) H1 locs1 → W p l e R s m args below meth c H1 locs1 cells slots Q (F0 m (pc + 3) ls rest)) : W p l e R s m args below meth c H locs cells slots Q (F0 m pc ls (.int x :: .ref a :: rest)) := by
  exact mputF (own := "ChainPicker$Job") (ref := "ChainPicker$Job") (C := "ChainPicker$Job") (T := T_J) (N := 12) (ci := 0) hx hb hE.2.1 (fun w h => List.mem_cons_of_mem _ (i_J w h)) t_J t_J_ok n_J hE.1 hE.2.2.1 hm he rfl 0 (by decide) (hE.2.1 _ (List.mem_cons_of_mem _ q_58)) (fun _ h9 => h9) rfl hnm rfl (ty := .int) (by decide +kernel) rfl rfl hl hdg kk
theorem g_J_J_15 (hx : p.tables.exec = Jvm.exec) (hb : c.code = cc) (hE : ME "ChainPicker$Job" yw args s m D tys) (hm : mS B D CLS H0 w H locs) (he : w a = some (.inr (0, fs))) (hv : fs[1]? = some v) (hdg : decode cc pc = .ok (.getfield 15, 3)) (kk : W p l e R s m args below meth c H locs cells slots Q (F0 m (pc + 3) ls (v :: rest))) : W p l e R s m args below meth c H locs cells slots Q (F0 m pc ls (.ref a :: rest)) :=
  mget (own := "ChainPicker$Job") (ref := "ChainPicker$Job") (C := "ChainPicker$Job") (T := T_J) (N := 12) (ci := 0) hx hb hE.2.1 (fun w h => List.mem_cons_of_mem _ (i_J w h)) hE.1 hE.2.2.1 hm he rfl 1 (by decide) (hE.2.1 _ (List.mem_cons_of_mem _ q_60)) (fun _ h9 => h9) hv hdg kk
theorem p_J_J_15 {x : Int32} (hx : p.tables.exec = Jvm.exec) (hb : c.code = cc) (hE : ME "ChainPicker$Job" yw args s m D tys) (hm : mS B D CLS H0 w H locs) (he : w a = some (.inr (0, fs))) (hnm : meth.name = "<init>") (hl : 1 < fs.length) (hdg : decode cc pc = .ok (.putfield 15, 3)) (kk : ∀ (H1 : Heap) (locs1 : List Loc), mS B D CLS H0 (wset w a (.inr (0, fs.set 1 (.int x)))) H1 locs1 → W p l e R s m args below meth c H1 locs1 cells slots Q (F0 m (pc + 3) ls rest)) : W p l e R s m args below meth c H locs cells slots Q (F0 m pc ls (.int x :: .ref a :: rest)) := by
  exact mputF (own := "ChainPicker$Job") (ref := "ChainPicker$Job") (C := "ChainPicker$Job") (T := T_J) (N := 12) (ci := 0) hx hb hE.2.1 (fun w h => List.mem_cons_of_mem _ (i_J w h)) t_J t_J_ok n_J hE.1 hE.2.2.1 hm he rfl 1 (by decide) (hE.2.1 _ (List.mem_cons_of_mem _ q_60)) (fun _ h9 => h9) rfl hnm rfl (ty := .int) (by decide +kernel) rfl rfl hl hdg kk
theorem g_J_J_18 (hx : p.tables.exec = Jvm.exec) (hb : c.code = cc) (hE : ME "ChainPicker$Job" yw args s m D tys) (hm : mS B D CLS H0 w H locs) (he : w a = some (.inr (0, fs))) (hv : fs[2]? = some v) (hdg : decode cc pc = .ok (.getfield 18, 3)) (kk : W p l e R s m args below meth c H locs cells slots Q (F0 m (pc + 3) ls (v :: rest))) : W p l e R s m args below meth c H locs cells slots Q (F0 m pc ls (.ref a :: rest)) :=
  mget (own := "ChainPicker$Job") (ref := "ChainPicker$Job") (C := "ChainPicker$Job") (T := T_J) (N := 12) (ci := 0) hx hb hE.2.1 (fun w h => List.mem_cons_of_mem _ (i_J w h)) hE.1 hE.2.2.1 hm he rfl 2 (by decide) (hE.2.1 _ (List.mem_cons_of_mem _ q_62)) (fun _ h9 => h9) hv hdg kk
theorem p_J_J_18 {x : Int32} (hx : p.tables.exec = Jvm.exec) (hb : c.code = cc) (hE : ME "ChainPicker$Job" yw args s m D tys) (hm : mS B D CLS H0 w H locs) (he : w a = some (.inr (0, fs))) (hnm : meth.name = "<init>") (hl : 2 < fs.length) (hdg : decode cc pc = .ok (.putfield 18, 3)) (kk : ∀ (H1 : Heap) (locs1 : List Loc), mS B D CLS H0 (wset w a (.inr (0, fs.set 2 (.int x)))) H1 locs1 → W p l e R s m args below meth c H1 locs1 cells slots Q (F0 m (pc + 3) ls rest)) : W p l e R s m args below meth c H locs cells slots Q (F0 m pc ls (.int x :: .ref a :: rest)) := by
  exact mputF (own := "ChainPicker$Job") (ref := "ChainPicker$Job") (C := "ChainPicker$Job") (T := T_J) (N := 12) (ci := 0) hx hb hE.2.1 (fun w h => List.mem_cons_of_mem _ (i_J w h)) t_J t_J_ok n_J hE.1 hE.2.2.1 hm he rfl 2 (by decide) (hE.2.1 _ (List.mem_cons_of_mem _ q_62)) (fun _ h9 => h9) rfl hnm rfl (ty := .int) (by decide +kernel) rfl rfl hl hdg kk
theorem g_J_J_21 (hx : p.tables.exec = Jvm.exec) (hb : c.code = cc) (hE : ME "ChainPicker$Job" yw args s m D tys) (hm : mS B D CLS H0 w H locs) (he : w a = some (.inr (0, fs))) (hv : fs[3]? = some v) (hdg : decode cc pc = .ok (.getfield 21, 3)) (kk : W p l e R s m args below meth c H locs cells slots Q (F0 m (pc + 3) ls (v :: rest))) : W p l e R s m args below meth c H locs cells slots Q (F0 m pc ls (.ref a :: rest)) :=
  mget (own := "ChainPicker$Job") (ref := "ChainPicker$Job") (C := "ChainPicker$Job") (T := T_J) (N := 12) (ci := 0) hx hb hE.2.1 (fun w h => List.mem_cons_of_mem _ (i_J w h)) hE.1 hE.2.2.1 hm he rfl 3 (by decide) (hE.2.1 _ (List.mem_cons_of_mem _ q_64)) (fun _ h9 => h9) hv hdg kk
theorem p_J_J_21 {x : Int32} (hx : p.tables.exec = Jvm.exec) (hb : c.code = cc) (hE : ME "ChainPicker$Job" yw args s m D tys) (hm : mS B D CLS H0 w H locs) (he : w a = some (.inr (0, fs))) (hnm : meth.name = "<init>") (hl : 3 < fs.length) (hz : x = 0 ∨ x = 1) (hdg : decode cc pc = .ok (.putfield 21, 3)) (kk : ∀ (H1 : Heap) (locs1 : List Loc), mS B D CLS H0 (wset w a (.inr (0, fs.set 3 (.int x)))) H1 locs1 → W p l e R s m args below meth c H1 locs1 cells slots Q (F0 m (pc + 3) ls rest)) : W p l e R s m args below meth c H locs cells slots Q (F0 m pc ls (.int x :: .ref a :: rest)) := by
  have h1 : narrow .boolean (.int x) = .int x := by rcases hz with rfl | rfl <;> decide +kernel
  have h2 : fits .boolean (.int x) = true := by rcases hz with rfl | rfl <;> decide +kernel
  exact mputF (own := "ChainPicker$Job") (ref := "ChainPicker$Job") (C := "ChainPicker$Job") (T := T_J) (N := 12) (ci := 0) hx hb hE.2.1 (fun w h => List.mem_cons_of_mem _ (i_J w h)) t_J t_J_ok n_J hE.1 hE.2.2.1 hm he rfl 3 (by decide) (hE.2.1 _ (List.mem_cons_of_mem _ q_64)) (fun _ h9 => h9) rfl hnm rfl (ty := .boolean) (by decide +kernel) h1 h2 hl hdg kk
theorem g_J_J_25 (hx : p.tables.exec = Jvm.exec) (hb : c.code = cc) (hE : ME "ChainPicker$Job" yw args s m D tys) (hm : mS B D CLS H0 w H locs) (he : w a = some (.inr (0, fs))) (hv : fs[4]? = some v) (hdg : decode cc pc = .ok (.getfield 25, 3)) (kk : W p l e R s m args below meth c H locs cells slots Q (F0 m (pc + 3) ls (v :: rest))) : W p l e R s m args below meth c H locs cells slots Q (F0 m pc ls (.ref a :: rest)) :=
  mget (own := "ChainPicker$Job") (ref := "ChainPicker$Job") (C := "ChainPicker$Job") (T := T_J) (N := 12) (ci := 0) hx hb hE.2.1 (fun w h => List.mem_cons_of_mem _ (i_J w h)) hE.1 hE.2.2.1 hm he rfl 4 (by decide) (hE.2.1 _ (List.mem_cons_of_mem _ q_66)) (fun _ h9 => h9) hv hdg kk
theorem p_J_J_25 {r : Option Nat} (hx : p.tables.exec = Jvm.exec) (hb : c.code = cc) (hE : ME "ChainPicker$Job" yw args s m D tys) (hm : mS B D CLS H0 w H locs) (he : w a = some (.inr (0, fs))) (hnm : meth.name = "<init>") (hl : 4 < fs.length) (hdg : decode cc pc = .ok (.putfield 25, 3)) (kk : ∀ (H1 : Heap) (locs1 : List Loc), mS B D CLS H0 (wset w a (.inr (0, fs.set 4 (va_rf r)))) H1 locs1 → W p l e R s m args below meth c H1 locs1 cells slots Q (F0 m (pc + 3) ls rest)) : W p l e R s m args below meth c H locs cells slots Q (F0 m pc ls (va_rf r :: .ref a :: rest)) := by
  have h1 : narrow (.object "ChainPicker$Job") (va_rf r) = va_rf r := by cases r <;> rfl
  have h2 : fits (.object "ChainPicker$Job") (va_rf r) = true := by cases r <;> rfl
  exact mputF (own := "ChainPicker$Job") (ref := "ChainPicker$Job") (C := "ChainPicker$Job") (T := T_J) (N := 12) (ci := 0) hx hb hE.2.1 (fun w h => List.mem_cons_of_mem _ (i_J w h)) t_J t_J_ok n_J hE.1 hE.2.2.1 hm he rfl 4 (by decide) (hE.2.1 _ (List.mem_cons_of_mem _ q_66)) (fun _ h9 => h9) rfl hnm rfl (ty := .object "ChainPicker$Job") (by decide +kernel) h1 h2 hl hdg kk
theorem g_J_J_29 (hx : p.tables.exec = Jvm.exec) (hb : c.code = cc) (hE : ME "ChainPicker$Job" yw args s m D tys) (hm : mS B D CLS H0 w H locs) (he : w a = some (.inr (0, fs))) (hv : fs[5]? = some v) (hdg : decode cc pc = .ok (.getfield 29, 3)) (kk : W p l e R s m args below meth c H locs cells slots Q (F0 m (pc + 3) ls (v :: rest))) : W p l e R s m args below meth c H locs cells slots Q (F0 m pc ls (.ref a :: rest)) :=
  mget (own := "ChainPicker$Job") (ref := "ChainPicker$Job") (C := "ChainPicker$Job") (T := T_J) (N := 12) (ci := 0) hx hb hE.2.1 (fun w h => List.mem_cons_of_mem _ (i_J w h)) hE.1 hE.2.2.1 hm he rfl 5 (by decide) (hE.2.1 _ (List.mem_cons_of_mem _ q_68)) (fun _ h9 => h9) hv hdg kk
theorem p_J_J_29 {x : Int32} (hx : p.tables.exec = Jvm.exec) (hb : c.code = cc) (hE : ME "ChainPicker$Job" yw args s m D tys) (hm : mS B D CLS H0 w H locs) (he : w a = some (.inr (0, fs))) (hnm : meth.name = "<init>") (hl : 5 < fs.length) (hdg : decode cc pc = .ok (.putfield 29, 3)) (kk : ∀ (H1 : Heap) (locs1 : List Loc), mS B D CLS H0 (wset w a (.inr (0, fs.set 5 (.int x)))) H1 locs1 → W p l e R s m args below meth c H1 locs1 cells slots Q (F0 m (pc + 3) ls rest)) : W p l e R s m args below meth c H locs cells slots Q (F0 m pc ls (.int x :: .ref a :: rest)) := by
  exact mputF (own := "ChainPicker$Job") (ref := "ChainPicker$Job") (C := "ChainPicker$Job") (T := T_J) (N := 12) (ci := 0) hx hb hE.2.1 (fun w h => List.mem_cons_of_mem _ (i_J w h)) t_J t_J_ok n_J hE.1 hE.2.2.1 hm he rfl 5 (by decide) (hE.2.1 _ (List.mem_cons_of_mem _ q_68)) (fun _ h9 => h9) rfl hnm rfl (ty := .int) (by decide +kernel) rfl rfl hl hdg kk
theorem g_J_J_32 (hx : p.tables.exec = Jvm.exec) (hb : c.code = cc) (hE : ME "ChainPicker$Job" yw args s m D tys) (hm : mS B D CLS H0 w H locs) (he : w a = some (.inr (0, fs))) (hv : fs[6]? = some v) (hdg : decode cc pc = .ok (.getfield 32, 3)) (kk : W p l e R s m args below meth c H locs cells slots Q (F0 m (pc + 3) ls (v :: rest))) : W p l e R s m args below meth c H locs cells slots Q (F0 m pc ls (.ref a :: rest)) :=
  mget (own := "ChainPicker$Job") (ref := "ChainPicker$Job") (C := "ChainPicker$Job") (T := T_J) (N := 12) (ci := 0) hx hb hE.2.1 (fun w h => List.mem_cons_of_mem _ (i_J w h)) hE.1 hE.2.2.1 hm he rfl 6 (by decide) (hE.2.1 _ (List.mem_cons_of_mem _ q_70)) (fun _ h9 => h9) hv hdg kk
theorem p_J_J_32 {r : Option Nat} (hx : p.tables.exec = Jvm.exec) (hb : c.code = cc) (hE : ME "ChainPicker$Job" yw args s m D tys) (hm : mS B D CLS H0 w H locs) (he : w a = some (.inr (0, fs))) (hnm : meth.name = "<init>") (hl : 6 < fs.length) (hdg : decode cc pc = .ok (.putfield 32, 3)) (kk : ∀ (H1 : Heap) (locs1 : List Loc), mS B D CLS H0 (wset w a (.inr (0, fs.set 6 (va_rf r)))) H1 locs1 → W p l e R s m args below meth c H1 locs1 cells slots Q (F0 m (pc + 3) ls rest)) : W p l e R s m args below meth c H locs cells slots Q (F0 m pc ls (va_rf r :: .ref a :: rest)) := by
  have h1 : narrow (.object "ChainPicker$Job") (va_rf r) = va_rf r := by cases r <;> rfl
  have h2 : fits (.object "ChainPicker$Job") (va_rf r) = true := by cases r <;> rfl
  exact mputF (own := "ChainPicker$Job") (ref := "ChainPicker$Job") (C := "ChainPicker$Job") (T := T_J) (N := 12) (ci := 0) hx hb hE.2.1 (fun w h => List.mem_cons_of_mem _ (i_J w h)) t_J t_J_ok n_J hE.1 hE.2.2.1 hm he rfl 6 (by decide) (hE.2.1 _ (List.mem_cons_of_mem _ q_70)) (fun _ h9 => h9) rfl hnm rfl (ty := .object "ChainPicker$Job") (by decide +kernel) h1 h2 hl hdg kk
theorem g_J_J_35 (hx : p.tables.exec = Jvm.exec) (hb : c.code = cc) (hE : ME "ChainPicker$Job" yw args s m D tys) (hm : mS B D CLS H0 w H locs) (he : w a = some (.inr (0, fs))) (hv : fs[7]? = some v) (hdg : decode cc pc = .ok (.getfield 35, 3)) (kk : W p l e R s m args below meth c H locs cells slots Q (F0 m (pc + 3) ls (v :: rest))) : W p l e R s m args below meth c H locs cells slots Q (F0 m pc ls (.ref a :: rest)) :=
  mget (own := "ChainPicker$Job") (ref := "ChainPicker$Job") (C := "ChainPicker$Job") (T := T_J) (N := 12) (ci := 0) hx hb hE.2.1 (fun w h => List.mem_cons_of_mem _ (i_J w h)) hE.1 hE.2.2.1 hm he rfl 7 (by decide) (hE.2.1 _ (List.mem_cons_of_mem _ q_72)) (fun _ h9 => h9) hv hdg kk
theorem p_J_J_35 {r : Option Nat} (hx : p.tables.exec = Jvm.exec) (hb : c.code = cc) (hE : ME "ChainPicker$Job" yw args s m D tys) (hm : mS B D CLS H0 w H locs) (he : w a = some (.inr (0, fs))) (hnm : meth.name = "<init>") (hl : 7 < fs.length) (hdg : decode cc pc = .ok (.putfield 35, 3)) (kk : ∀ (H1 : Heap) (locs1 : List Loc), mS B D CLS H0 (wset w a (.inr (0, fs.set 7 (va_rf r)))) H1 locs1 → W p l e R s m args below meth c H1 locs1 cells slots Q (F0 m (pc + 3) ls rest)) : W p l e R s m args below meth c H locs cells slots Q (F0 m pc ls (va_rf r :: .ref a :: rest)) := by
  have h1 : narrow (.array .int) (va_rf r) = va_rf r := by cases r <;> rfl
  have h2 : fits (.array .int) (va_rf r) = true := by cases r <;> rfl
  exact mputF (own := "ChainPicker$Job") (ref := "ChainPicker$Job") (C := "ChainPicker$Job") (T := T_J) (N := 12) (ci := 0) hx hb hE.2.1 (fun w h => List.mem_cons_of_mem _ (i_J w h)) t_J t_J_ok n_J hE.1 hE.2.2.1 hm he rfl 7 (by decide) (hE.2.1 _ (List.mem_cons_of_mem _ q_72)) (fun _ h9 => h9) rfl hnm rfl (ty := .array .int) (by decide +kernel) h1 h2 hl hdg kk
theorem g_J_J_45 (hx : p.tables.exec = Jvm.exec) (hb : c.code = cc) (hE : ME "ChainPicker$Job" yw args s m D tys) (hm : mS B D CLS H0 w H locs) (he : w a = some (.inr (0, fs))) (hv : fs[8]? = some v) (hdg : decode cc pc = .ok (.getfield 45, 3)) (kk : W p l e R s m args below meth c H locs cells slots Q (F0 m (pc + 3) ls (v :: rest))) : W p l e R s m args below meth c H locs cells slots Q (F0 m pc ls (.ref a :: rest)) :=
  mget (own := "ChainPicker$Job") (ref := "ChainPicker$Job") (C := "ChainPicker$Job") (T := T_J) (N := 12) (ci := 0) hx hb hE.2.1 (fun w h => List.mem_cons_of_mem _ (i_J w h)) hE.1 hE.2.2.1 hm he rfl 8 (by decide) (hE.2.1 _ (List.mem_cons_of_mem _ q_74)) (fun _ h9 => h9) hv hdg kk
theorem p_J_J_45 {x : Int32} (hx : p.tables.exec = Jvm.exec) (hb : c.code = cc) (hE : ME "ChainPicker$Job" yw args s m D tys) (hm : mS B D CLS H0 w H locs) (he : w a = some (.inr (0, fs))) (hl : 8 < fs.length) (hdg : decode cc pc = .ok (.putfield 45, 3)) (kk : ∀ (H1 : Heap) (locs1 : List Loc), mS B D CLS H0 (wset w a (.inr (0, fs.set 8 (.int x)))) H1 locs1 → W p l e R s m args below meth c H1 locs1 cells slots Q (F0 m (pc + 3) ls rest)) : W p l e R s m args below meth c H locs cells slots Q (F0 m pc ls (.int x :: .ref a :: rest)) := by
  exact mput (own := "ChainPicker$Job") (ref := "ChainPicker$Job") (C := "ChainPicker$Job") (T := T_J) (N := 12) (ci := 0) hx hb hE.2.1 (fun w h => List.mem_cons_of_mem _ (i_J w h)) t_J t_J_ok n_J hE.1 hE.2.2.1 hm he rfl 8 (by decide) (hE.2.1 _ (List.mem_cons_of_mem _ q_74)) (fun _ h9 => h9) rfl (ty := .int) (by decide +kernel) rfl rfl hl hdg kk
theorem g_J_J_48 (hx : p.tables.exec = Jvm.exec) (hb : c.code = cc) (hE : ME "ChainPicker$Job" yw args s m D tys) (hm : mS B D CLS H0 w H locs) (he : w a = some (.inr (0, fs))) (hv : fs[9]? = some v) (hdg : decode cc pc = .ok (.getfield 48, 3)) (kk : W p l e R s m args below meth c H locs cells slots Q (F0 m (pc + 3) ls (v :: rest))) : W p l e R s m args below meth c H locs cells slots Q (F0 m pc ls (.ref a :: rest)) :=
  mget (own := "ChainPicker$Job") (ref := "ChainPicker$Job") (C := "ChainPicker$Job") (T := T_J) (N := 12) (ci := 0) hx hb hE.2.1 (fun w h => List.mem_cons_of_mem _ (i_J w h)) hE.1 hE.2.2.1 hm he rfl 9 (by decide) (hE.2.1 _ (List.mem_cons_of_mem _ q_76)) (fun _ h9 => h9) hv hdg kk
theorem p_J_J_48 {x : Int32} (hx : p.tables.exec = Jvm.exec) (hb : c.code = cc) (hE : ME "ChainPicker$Job" yw args s m D tys) (hm : mS B D CLS H0 w H locs) (he : w a = some (.inr (0, fs))) (hl : 9 < fs.length) (hdg : decode cc pc = .ok (.putfield 48, 3)) (kk : ∀ (H1 : Heap) (locs1 : List Loc), mS B D CLS H0 (wset w a (.inr (0, fs.set 9 (.int x)))) H1 locs1 → W p l e R s m args below meth c H1 locs1 cells slots Q (F0 m (pc + 3) ls rest)) : W p l e R s m args below meth c H locs cells slots Q (F0 m pc ls (.int x :: .ref a :: rest)) := by
  exact mput (own := "ChainPicker$Job") (ref := "ChainPicker$Job") (C := "ChainPicker$Job") (T := T_J) (N := 12) (ci := 0) hx hb hE.2.1 (fun w h => List.mem_cons_of_mem _ (i_J w h)) t_J t_J_ok n_J hE.1 hE.2.2.1 hm he rfl 9 (by decide) (hE.2.1 _ (List.mem_cons_of_mem _ q_76)) (fun _ h9 => h9) rfl (ty := .int) (by decide +kernel) rfl rfl hl hdg kk
theorem g_J_J_51 (hx : p.tables.exec = Jvm.exec) (hb : c.code = cc) (hE : ME "ChainPicker$Job" yw args s m D tys) (hm : mS B D CLS H0 w H locs) (he : w a = some (.inr (0, fs))) (hv : fs[10]? = some v) (hdg : decode cc pc = .ok (.getfield 51, 3)) (kk : W p l e R s m args below meth c H locs cells slots Q (F0 m (pc + 3) ls (v :: rest))) : W p l e R s m args below meth c H locs cells slots Q (F0 m pc ls (.ref a :: rest)) :=
  mget (own := "ChainPicker$Job") (ref := "ChainPicker$Job") (C := "ChainPicker$Job") (T := T_J) (N := 12) (ci := 0) hx hb hE.2.1 (fun w h => List.mem_cons_of_mem _ (i_J w h)) hE.1 hE.2.2.1 hm he rfl 10 (by decide) (hE.2.1 _ (List.mem_cons_of_mem _ q_78)) (fun _ h9 => h9) hv hdg kk
theorem p_J_J_51 {x : Int32} (hx : p.tables.exec = Jvm.exec) (hb : c.code = cc) (hE : ME "ChainPicker$Job" yw args s m D tys) (hm : mS B D CLS H0 w H locs) (he : w a = some (.inr (0, fs))) (hl : 10 < fs.length) (hz : x = 0 ∨ x = 1) (hdg : decode cc pc = .ok (.putfield 51, 3)) (kk : ∀ (H1 : Heap) (locs1 : List Loc), mS B D CLS H0 (wset w a (.inr (0, fs.set 10 (.int x)))) H1 locs1 → W p l e R s m args below meth c H1 locs1 cells slots Q (F0 m (pc + 3) ls rest)) : W p l e R s m args below meth c H locs cells slots Q (F0 m pc ls (.int x :: .ref a :: rest)) := by
  have h1 : narrow .boolean (.int x) = .int x := by rcases hz with rfl | rfl <;> decide +kernel
  have h2 : fits .boolean (.int x) = true := by rcases hz with rfl | rfl <;> decide +kernel
  exact mput (own := "ChainPicker$Job") (ref := "ChainPicker$Job") (C := "ChainPicker$Job") (T := T_J) (N := 12) (ci := 0) hx hb hE.2.1 (fun w h => List.mem_cons_of_mem _ (i_J w h)) t_J t_J_ok n_J hE.1 hE.2.2.1 hm he rfl 10 (by decide) (hE.2.1 _ (List.mem_cons_of_mem _ q_78)) (fun _ h9 => h9) rfl (ty := .boolean) (by decide +kernel) h1 h2 hl hdg kk
theorem g_J_J_54 (hx : p.tables.exec = Jvm.exec) (hb : c.code = cc) (hE : ME "ChainPicker$Job" yw args s m D tys) (hm : mS B D CLS H0 w H locs) (he : w a = some (.inr (0, fs))) (hv : fs[11]? = some v) (hdg : decode cc pc = .ok (.getfield 54, 3)) (kk : W p l e R s m args below meth c H locs cells slots Q (F0 m (pc + 3) ls (v :: rest))) : W p l e R s m args below meth c H locs cells slots Q (F0 m pc ls (.ref a :: rest)) :=
  mget (own := "ChainPicker$Job") (ref := "ChainPicker$Job") (C := "ChainPicker$Job") (T := T_J) (N := 12) (ci := 0) hx hb hE.2.1 (fun w h => List.mem_cons_of_mem _ (i_J w h)) hE.1 hE.2.2.1 hm he rfl 11 (by decide) (hE.2.1 _ (List.mem_cons_of_mem _ q_80)) (fun _ h9 => h9) hv hdg kk
theorem p_J_J_54 {x : Int32} (hx : p.tables.exec = Jvm.exec) (hb : c.code = cc) (hE : ME "ChainPicker$Job" yw args s m D tys) (hm : mS B D CLS H0 w H locs) (he : w a = some (.inr (0, fs))) (hl : 11 < fs.length) (hdg : decode cc pc = .ok (.putfield 54, 3)) (kk : ∀ (H1 : Heap) (locs1 : List Loc), mS B D CLS H0 (wset w a (.inr (0, fs.set 11 (.int x)))) H1 locs1 → W p l e R s m args below meth c H1 locs1 cells slots Q (F0 m (pc + 3) ls rest)) : W p l e R s m args below meth c H locs cells slots Q (F0 m pc ls (.int x :: .ref a :: rest)) := by
  exact mput (own := "ChainPicker$Job") (ref := "ChainPicker$Job") (C := "ChainPicker$Job") (T := T_J) (N := 12) (ci := 0) hx hb hE.2.1 (fun w h => List.mem_cons_of_mem _ (i_J w h)) t_J t_J_ok n_J hE.1 hE.2.2.1 hm he rfl 11 (by decide) (hE.2.1 _ (List.mem_cons_of_mem _ q_80)) (fun _ h9 => h9) rfl (ty := .int) (by decide +kernel) rfl rfl hl hdg kk
theorem g_M_M_7 (hx : p.tables.exec = Jvm.exec) (hb : c.code = cc) (hE : ME "ChainPickerModel" yw args s m D tys) (hm : mS B D CLS H0 w H locs) (he : w a = some (.inr (2, fs))) (hv : fs[3]? = some v) (hdg : decode cc pc = .ok (.getfield 7, 3)) (kk : W p l e R s m args below meth c H locs cells slots Q (F0 m (pc + 3) ls (v :: rest))) : W p l e R s m args below meth c H locs cells slots Q (F0 m pc ls (.ref a :: rest)) :=
  mget (own := "ChainPickerModel") (ref := "ChainPickerModel") (C := "ChainPickerModel") (T := T_M) (N := 12) (ci := 2) hx hb hE.2.1 (fun w h => List.mem_cons_of_mem _ (i_M w h)) hE.1 hE.2.2.1 hm he rfl 3 (by decide) (hE.2.1 _ (List.mem_cons_of_mem _ q_304)) (fun _ h9 => h9) hv hdg kk
theorem p_M_M_7 {r : Option Nat} (hx : p.tables.exec = Jvm.exec) (hb : c.code = cc) (hE : ME "ChainPickerModel" yw args s m D tys) (hm : mS B D CLS H0 w H locs) (he : w a = some (.inr (2, fs))) (hnm : meth.name = "<init>") (hl : 3 < fs.length) (hdg : decode cc pc = .ok (.putfield 7, 3)) (kk : ∀ (H1 : Heap) (locs1 : List Loc), mS B D CLS H0 (wset w a (.inr (2, fs.set 3 (va_rf r)))) H1 locs1 → W p l e R s m args below meth c H1 locs1 cells slots Q (F0 m (pc + 3) ls rest)) : W p l e R s m args below meth c H locs cells slots Q (F0 m pc ls (va_rf r :: .ref a :: rest)) := by
  have h1 : narrow (.array .int) (va_rf r) = va_rf r := by cases r <;> rfl
  have h2 : fits (.array .int) (va_rf r) = true := by cases r <;> rfl
  exact mputF (own := "ChainPickerModel") (ref := "ChainPickerModel") (C := "ChainPickerModel") (T := T_M) (N := 12) (ci := 2) hx hb hE.2.1 (fun w h => List.mem_cons_of_mem _ (i_M w h)) t_M t_M_ok n_M hE.1 hE.2.2.1 hm he rfl 3 (by decide) (hE.2.1 _ (List.mem_cons_of_mem _ q_304)) (fun _ h9 => h9) rfl hnm rfl (ty := .array .int) (by decide +kernel) h1 h2 hl hdg kk
theorem g_M_M_13 (hx : p.tables.exec = Jvm.exec) (hb : c.code = cc) (hE : ME "ChainPickerModel" yw args s m D tys) (hm : mS B D CLS H0 w H locs) (he : w a = some (.inr (2, fs))) (hv : fs[4]? = some v) (hdg : decode cc pc = .ok (.getfield 13, 3)) (kk : W p l e R s m args below meth c H locs cells slots Q (F0 m (pc + 3) ls (v :: rest))) : W p l e R s m args below meth c H locs cells slots Q (F0 m pc ls (.ref a :: rest)) :=
  mget (own := "ChainPickerModel") (ref := "ChainPickerModel") (C := "ChainPickerModel") (T := T_M) (N := 12) (ci := 2) hx hb hE.2.1 (fun w h => List.mem_cons_of_mem _ (i_M w h)) hE.1 hE.2.2.1 hm he rfl 4 (by decide) (hE.2.1 _ (List.mem_cons_of_mem _ q_305)) (fun _ h9 => h9) hv hdg kk
theorem p_M_M_13 {r : Option Nat} (hx : p.tables.exec = Jvm.exec) (hb : c.code = cc) (hE : ME "ChainPickerModel" yw args s m D tys) (hm : mS B D CLS H0 w H locs) (he : w a = some (.inr (2, fs))) (hnm : meth.name = "<init>") (hl : 4 < fs.length) (hdg : decode cc pc = .ok (.putfield 13, 3)) (kk : ∀ (H1 : Heap) (locs1 : List Loc), mS B D CLS H0 (wset w a (.inr (2, fs.set 4 (va_rf r)))) H1 locs1 → W p l e R s m args below meth c H1 locs1 cells slots Q (F0 m (pc + 3) ls rest)) : W p l e R s m args below meth c H locs cells slots Q (F0 m pc ls (va_rf r :: .ref a :: rest)) := by
  have h1 : narrow (.array .int) (va_rf r) = va_rf r := by cases r <;> rfl
  have h2 : fits (.array .int) (va_rf r) = true := by cases r <;> rfl
  exact mputF (own := "ChainPickerModel") (ref := "ChainPickerModel") (C := "ChainPickerModel") (T := T_M) (N := 12) (ci := 2) hx hb hE.2.1 (fun w h => List.mem_cons_of_mem _ (i_M w h)) t_M t_M_ok n_M hE.1 hE.2.2.1 hm he rfl 4 (by decide) (hE.2.1 _ (List.mem_cons_of_mem _ q_305)) (fun _ h9 => h9) rfl hnm rfl (ty := .array .int) (by decide +kernel) h1 h2 hl hdg kk
theorem g_M_M_16 (hx : p.tables.exec = Jvm.exec) (hb : c.code = cc) (hE : ME "ChainPickerModel" yw args s m D tys) (hm : mS B D CLS H0 w H locs) (he : w a = some (.inr (2, fs))) (hv : fs[5]? = some v) (hdg : decode cc pc = .ok (.getfield 16, 3)) (kk : W p l e R s m args below meth c H locs cells slots Q (F0 m (pc + 3) ls (v :: rest))) : W p l e R s m args below meth c H locs cells slots Q (F0 m pc ls (.ref a :: rest)) :=
  mget (own := "ChainPickerModel") (ref := "ChainPickerModel") (C := "ChainPickerModel") (T := T_M) (N := 12) (ci := 2) hx hb hE.2.1 (fun w h => List.mem_cons_of_mem _ (i_M w h)) hE.1 hE.2.2.1 hm he rfl 5 (by decide) (hE.2.1 _ (List.mem_cons_of_mem _ q_306)) (fun _ h9 => h9) hv hdg kk
theorem p_M_M_16 {r : Option Nat} (hx : p.tables.exec = Jvm.exec) (hb : c.code = cc) (hE : ME "ChainPickerModel" yw args s m D tys) (hm : mS B D CLS H0 w H locs) (he : w a = some (.inr (2, fs))) (hnm : meth.name = "<init>") (hl : 5 < fs.length) (hdg : decode cc pc = .ok (.putfield 16, 3)) (kk : ∀ (H1 : Heap) (locs1 : List Loc), mS B D CLS H0 (wset w a (.inr (2, fs.set 5 (va_rf r)))) H1 locs1 → W p l e R s m args below meth c H1 locs1 cells slots Q (F0 m (pc + 3) ls rest)) : W p l e R s m args below meth c H locs cells slots Q (F0 m pc ls (va_rf r :: .ref a :: rest)) := by
  have h1 : narrow (.array .boolean) (va_rf r) = va_rf r := by cases r <;> rfl
  have h2 : fits (.array .boolean) (va_rf r) = true := by cases r <;> rfl
  exact mputF (own := "ChainPickerModel") (ref := "ChainPickerModel") (C := "ChainPickerModel") (T := T_M) (N := 12) (ci := 2) hx hb hE.2.1 (fun w h => List.mem_cons_of_mem _ (i_M w h)) t_M t_M_ok n_M hE.1 hE.2.2.1 hm he rfl 5 (by decide) (hE.2.1 _ (List.mem_cons_of_mem _ q_306)) (fun _ h9 => h9) rfl hnm rfl (ty := .array .boolean) (by decide +kernel) h1 h2 hl hdg kk
theorem g_M_M_20 (hx : p.tables.exec = Jvm.exec) (hb : c.code = cc) (hE : ME "ChainPickerModel" yw args s m D tys) (hm : mS B D CLS H0 w H locs) (he : w a = some (.inr (2, fs))) (hv : fs[6]? = some v) (hdg : decode cc pc = .ok (.getfield 20, 3)) (kk : W p l e R s m args below meth c H locs cells slots Q (F0 m (pc + 3) ls (v :: rest))) : W p l e R s m args below meth c H locs cells slots Q (F0 m pc ls (.ref a :: rest)) :=
  mget (own := "ChainPickerModel") (ref := "ChainPickerModel") (C := "ChainPickerModel") (T := T_M) (N := 12) (ci := 2) hx hb hE.2.1 (fun w h => List.mem_cons_of_mem _ (i_M w h)) hE.1 hE.2.2.1 hm he rfl 6 (by decide) (hE.2.1 _ (List.mem_cons_of_mem _ q_307)) (fun _ h9 => h9) hv hdg kk
theorem p_M_M_20 {r : Option Nat} (hx : p.tables.exec = Jvm.exec) (hb : c.code = cc) (hE : ME "ChainPickerModel" yw args s m D tys) (hm : mS B D CLS H0 w H locs) (he : w a = some (.inr (2, fs))) (hnm : meth.name = "<init>") (hl : 6 < fs.length) (hdg : decode cc pc = .ok (.putfield 20, 3)) (kk : ∀ (H1 : Heap) (locs1 : List Loc), mS B D CLS H0 (wset w a (.inr (2, fs.set 6 (va_rf r)))) H1 locs1 → W p l e R s m args below meth c H1 locs1 cells slots Q (F0 m (pc + 3) ls rest)) : W p l e R s m args below meth c H locs cells slots Q (F0 m pc ls (va_rf r :: .ref a :: rest)) := by
  have h1 : narrow (.array .int) (va_rf r) = va_rf r := by cases r <;> rfl
  have h2 : fits (.array .int) (va_rf r) = true := by cases r <;> rfl
  exact mputF (own := "ChainPickerModel") (ref := "ChainPickerModel") (C := "ChainPickerModel") (T := T_M) (N := 12) (ci := 2) hx hb hE.2.1 (fun w h => List.mem_cons_of_mem _ (i_M w h)) t_M t_M_ok n_M hE.1 hE.2.2.1 hm he rfl 6 (by decide) (hE.2.1 _ (List.mem_cons_of_mem _ q_307)) (fun _ h9 => h9) rfl hnm rfl (ty := .array .int) (by decide +kernel) h1 h2 hl hdg kk
theorem g_M_M_23 (hx : p.tables.exec = Jvm.exec) (hb : c.code = cc) (hE : ME "ChainPickerModel" yw args s m D tys) (hm : mS B D CLS H0 w H locs) (he : w a = some (.inr (2, fs))) (hv : fs[7]? = some v) (hdg : decode cc pc = .ok (.getfield 23, 3)) (kk : W p l e R s m args below meth c H locs cells slots Q (F0 m (pc + 3) ls (v :: rest))) : W p l e R s m args below meth c H locs cells slots Q (F0 m pc ls (.ref a :: rest)) :=
  mget (own := "ChainPickerModel") (ref := "ChainPickerModel") (C := "ChainPickerModel") (T := T_M) (N := 12) (ci := 2) hx hb hE.2.1 (fun w h => List.mem_cons_of_mem _ (i_M w h)) hE.1 hE.2.2.1 hm he rfl 7 (by decide) (hE.2.1 _ (List.mem_cons_of_mem _ q_308)) (fun _ h9 => h9) hv hdg kk
theorem p_M_M_23 {r : Option Nat} (hx : p.tables.exec = Jvm.exec) (hb : c.code = cc) (hE : ME "ChainPickerModel" yw args s m D tys) (hm : mS B D CLS H0 w H locs) (he : w a = some (.inr (2, fs))) (hnm : meth.name = "<init>") (hl : 7 < fs.length) (hdg : decode cc pc = .ok (.putfield 23, 3)) (kk : ∀ (H1 : Heap) (locs1 : List Loc), mS B D CLS H0 (wset w a (.inr (2, fs.set 7 (va_rf r)))) H1 locs1 → W p l e R s m args below meth c H1 locs1 cells slots Q (F0 m (pc + 3) ls rest)) : W p l e R s m args below meth c H locs cells slots Q (F0 m pc ls (va_rf r :: .ref a :: rest)) := by
  have h1 : narrow (.array .int) (va_rf r) = va_rf r := by cases r <;> rfl
  have h2 : fits (.array .int) (va_rf r) = true := by cases r <;> rfl
  exact mputF (own := "ChainPickerModel") (ref := "ChainPickerModel") (C := "ChainPickerModel") (T := T_M) (N := 12) (ci := 2) hx hb hE.2.1 (fun w h => List.mem_cons_of_mem _ (i_M w h)) t_M t_M_ok n_M hE.1 hE.2.2.1 hm he rfl 7 (by decide) (hE.2.1 _ (List.mem_cons_of_mem _ q_308)) (fun _ h9 => h9) rfl hnm rfl (ty := .array .int) (by decide +kernel) h1 h2 hl hdg kk
theorem g_M_M_26 (hx : p.tables.exec = Jvm.exec) (hb : c.code = cc) (hE : ME "ChainPickerModel" yw args s m D tys) (hm : mS B D CLS H0 w H locs) (he : w a = some (.inr (2, fs))) (hv : fs[8]? = some v) (hdg : decode cc pc = .ok (.getfield 26, 3)) (kk : W p l e R s m args below meth c H locs cells slots Q (F0 m (pc + 3) ls (v :: rest))) : W p l e R s m args below meth c H locs cells slots Q (F0 m pc ls (.ref a :: rest)) :=
  mget (own := "ChainPickerModel") (ref := "ChainPickerModel") (C := "ChainPickerModel") (T := T_M) (N := 12) (ci := 2) hx hb hE.2.1 (fun w h => List.mem_cons_of_mem _ (i_M w h)) hE.1 hE.2.2.1 hm he rfl 8 (by decide) (hE.2.1 _ (List.mem_cons_of_mem _ q_309)) (fun _ h9 => h9) hv hdg kk
theorem p_M_M_26 {r : Option Nat} (hx : p.tables.exec = Jvm.exec) (hb : c.code = cc) (hE : ME "ChainPickerModel" yw args s m D tys) (hm : mS B D CLS H0 w H locs) (he : w a = some (.inr (2, fs))) (hnm : meth.name = "<init>") (hl : 8 < fs.length) (hdg : decode cc pc = .ok (.putfield 26, 3)) (kk : ∀ (H1 : Heap) (locs1 : List Loc), mS B D CLS H0 (wset w a (.inr (2, fs.set 8 (va_rf r)))) H1 locs1 → W p l e R s m args below meth c H1 locs1 cells slots Q (F0 m (pc + 3) ls rest)) : W p l e R s m args below meth c H locs cells slots Q (F0 m pc ls (va_rf r :: .ref a :: rest)) := by
  have h1 : narrow (.array .int) (va_rf r) = va_rf r := by cases r <;> rfl
  have h2 : fits (.array .int) (va_rf r) = true := by cases r <;> rfl
  exact mputF (own := "ChainPickerModel") (ref := "ChainPickerModel") (C := "ChainPickerModel") (T := T_M) (N := 12) (ci := 2) hx hb hE.2.1 (fun w h => List.mem_cons_of_mem _ (i_M w h)) t_M t_M_ok n_M hE.1 hE.2.2.1 hm he rfl 8 (by decide) (hE.2.1 _ (List.mem_cons_of_mem _ q_309)) (fun _ h9 => h9) rfl hnm rfl (ty := .array .int) (by decide +kernel) h1 h2 hl hdg kk
theorem g_M_M_29 (hx : p.tables.exec = Jvm.exec) (hb : c.code = cc) (hE : ME "ChainPickerModel" yw args s m D tys) (hm : mS B D CLS H0 w H locs) (he : w a = some (.inr (2, fs))) (hv : fs[9]? = some v) (hdg : decode cc pc = .ok (.getfield 29, 3)) (kk : W p l e R s m args below meth c H locs cells slots Q (F0 m (pc + 3) ls (v :: rest))) : W p l e R s m args below meth c H locs cells slots Q (F0 m pc ls (.ref a :: rest)) :=
  mget (own := "ChainPickerModel") (ref := "ChainPickerModel") (C := "ChainPickerModel") (T := T_M) (N := 12) (ci := 2) hx hb hE.2.1 (fun w h => List.mem_cons_of_mem _ (i_M w h)) hE.1 hE.2.2.1 hm he rfl 9 (by decide) (hE.2.1 _ (List.mem_cons_of_mem _ q_310)) (fun _ h9 => h9) hv hdg kk
theorem p_M_M_29 {r : Option Nat} (hx : p.tables.exec = Jvm.exec) (hb : c.code = cc) (hE : ME "ChainPickerModel" yw args s m D tys) (hm : mS B D CLS H0 w H locs) (he : w a = some (.inr (2, fs))) (hnm : meth.name = "<init>") (hl : 9 < fs.length) (hdg : decode cc pc = .ok (.putfield 29, 3)) (kk : ∀ (H1 : Heap) (locs1 : List Loc), mS B D CLS H0 (wset w a (.inr (2, fs.set 9 (va_rf r)))) H1 locs1 → W p l e R s m args below meth c H1 locs1 cells slots Q (F0 m (pc + 3) ls rest)) : W p l e R s m args below meth c H locs cells slots Q (F0 m pc ls (va_rf r :: .ref a :: rest)) := by
  have h1 : narrow (.array .int) (va_rf r) = va_rf r := by cases r <;> rfl
  have h2 : fits (.array .int) (va_rf r) = true := by cases r <;> rfl
  exact mputF (own := "ChainPickerModel") (ref := "ChainPickerModel") (C := "ChainPickerModel") (T := T_M) (N := 12) (ci := 2) hx hb hE.2.1 (fun w h => List.mem_cons_of_mem _ (i_M w h)) t_M t_M_ok n_M hE.1 hE.2.2.1 hm he rfl 9 (by decide) (hE.2.1 _ (List.mem_cons_of_mem _ q_310)) (fun _ h9 => h9) rfl hnm rfl (ty := .array .int) (by decide +kernel) h1 h2 hl hdg kk
theorem g_M_M_32 (hx : p.tables.exec = Jvm.exec) (hb : c.code = cc) (hE : ME "ChainPickerModel" yw args s m D tys) (hm : mS B D CLS H0 w H locs) (he : w a = some (.inr (2, fs))) (hv : fs[10]? = some v) (hdg : decode cc pc = .ok (.getfield 32, 3)) (kk : W p l e R s m args below meth c H locs cells slots Q (F0 m (pc + 3) ls (v :: rest))) : W p l e R s m args below meth c H locs cells slots Q (F0 m pc ls (.ref a :: rest)) :=
  mget (own := "ChainPickerModel") (ref := "ChainPickerModel") (C := "ChainPickerModel") (T := T_M) (N := 12) (ci := 2) hx hb hE.2.1 (fun w h => List.mem_cons_of_mem _ (i_M w h)) hE.1 hE.2.2.1 hm he rfl 10 (by decide) (hE.2.1 _ (List.mem_cons_of_mem _ q_311)) (fun _ h9 => h9) hv hdg kk
theorem p_M_M_32 {r : Option Nat} (hx : p.tables.exec = Jvm.exec) (hb : c.code = cc) (hE : ME "ChainPickerModel" yw args s m D tys) (hm : mS B D CLS H0 w H locs) (he : w a = some (.inr (2, fs))) (hnm : meth.name = "<init>") (hl : 10 < fs.length) (hdg : decode cc pc = .ok (.putfield 32, 3)) (kk : ∀ (H1 : Heap) (locs1 : List Loc), mS B D CLS H0 (wset w a (.inr (2, fs.set 10 (va_rf r)))) H1 locs1 → W p l e R s m args below meth c H1 locs1 cells slots Q (F0 m (pc + 3) ls rest)) : W p l e R s m args below meth c H locs cells slots Q (F0 m pc ls (va_rf r :: .ref a :: rest)) := by
  have h1 : narrow (.array .boolean) (va_rf r) = va_rf r := by cases r <;> rfl
  have h2 : fits (.array .boolean) (va_rf r) = true := by cases r <;> rfl
  exact mputF (own := "ChainPickerModel") (ref := "ChainPickerModel") (C := "ChainPickerModel") (T := T_M) (N := 12) (ci := 2) hx hb hE.2.1 (fun w h => List.mem_cons_of_mem _ (i_M w h)) t_M t_M_ok n_M hE.1 hE.2.2.1 hm he rfl 10 (by decide) (hE.2.1 _ (List.mem_cons_of_mem _ q_311)) (fun _ h9 => h9) rfl hnm rfl (ty := .array .boolean) (by decide +kernel) h1 h2 hl hdg kk
theorem g_M_M_35 (hx : p.tables.exec = Jvm.exec) (hb : c.code = cc) (hE : ME "ChainPickerModel" yw args s m D tys) (hm : mS B D CLS H0 w H locs) (he : w a = some (.inr (2, fs))) (hv : fs[11]? = some v) (hdg : decode cc pc = .ok (.getfield 35, 3)) (kk : W p l e R s m args below meth c H locs cells slots Q (F0 m (pc + 3) ls (v :: rest))) : W p l e R s m args below meth c H locs cells slots Q (F0 m pc ls (.ref a :: rest)) :=
  mget (own := "ChainPickerModel") (ref := "ChainPickerModel") (C := "ChainPickerModel") (T := T_M) (N := 12) (ci := 2) hx hb hE.2.1 (fun w h => List.mem_cons_of_mem _ (i_M w h)) hE.1 hE.2.2.1 hm he rfl 11 (by decide) (hE.2.1 _ (List.mem_cons_of_mem _ q_312)) (fun _ h9 => h9) hv hdg kk
theorem p_M_M_35 {r : Option Nat} (hx : p.tables.exec = Jvm.exec) (hb : c.code = cc) (hE : ME "ChainPickerModel" yw args s m D tys) (hm : mS B D CLS H0 w H locs) (he : w a = some (.inr (2, fs))) (hnm : meth.name = "<init>") (hl : 11 < fs.length) (hdg : decode cc pc = .ok (.putfield 35, 3)) (kk : ∀ (H1 : Heap) (locs1 : List Loc), mS B D CLS H0 (wset w a (.inr (2, fs.set 11 (va_rf r)))) H1 locs1 → W p l e R s m args below meth c H1 locs1 cells slots Q (F0 m (pc + 3) ls rest)) : W p l e R s m args below meth c H locs cells slots Q (F0 m pc ls (va_rf r :: .ref a :: rest)) := by
  have h1 : narrow (.array .int) (va_rf r) = va_rf r := by cases r <;> rfl
  have h2 : fits (.array .int) (va_rf r) = true := by cases r <;> rfl
  exact mputF (own := "ChainPickerModel") (ref := "ChainPickerModel") (C := "ChainPickerModel") (T := T_M) (N := 12) (ci := 2) hx hb hE.2.1 (fun w h => List.mem_cons_of_mem _ (i_M w h)) t_M t_M_ok n_M hE.1 hE.2.2.1 hm he rfl 11 (by decide) (hE.2.1 _ (List.mem_cons_of_mem _ q_312)) (fun _ h9 => h9) rfl hnm rfl (ty := .array .int) (by decide +kernel) h1 h2 hl hdg kk
theorem g_M_M_38 (hx : p.tables.exec = Jvm.exec) (hb : c.code = cc) (hE : ME "ChainPickerModel" yw args s m D tys) (hm : mS B D CLS H0 w H locs) (he : w a = some (.inr (2, fs))) (hv : fs[0]? = some v) (hdg : decode cc pc = .ok (.getfield 38, 3)) (kk : W p l e R s m args below meth c H locs cells slots Q (F0 m (pc + 3) ls (v :: rest))) : W p l e R s m args below meth c H locs cells slots Q (F0 m pc ls (.ref a :: rest)) :=
  mget (own := "ChainPickerModel") (ref := "ChainPickerModel") (C := "ChainPickerModel") (T := T_M) (N := 12) (ci := 2) hx hb hE.2.1 (fun w h => List.mem_cons_of_mem _ (i_M w h)) hE.1 hE.2.2.1 hm he rfl 0 (by decide) (hE.2.1 _ (List.mem_cons_of_mem _ q_301)) (fun _ h9 => h9) hv hdg kk
theorem p_M_M_38 {x : Int32} (hx : p.tables.exec = Jvm.exec) (hb : c.code = cc) (hE : ME "ChainPickerModel" yw args s m D tys) (hm : mS B D CLS H0 w H locs) (he : w a = some (.inr (2, fs))) (hl : 0 < fs.length) (hdg : decode cc pc = .ok (.putfield 38, 3)) (kk : ∀ (H1 : Heap) (locs1 : List Loc), mS B D CLS H0 (wset w a (.inr (2, fs.set 0 (.int x)))) H1 locs1 → W p l e R s m args below meth c H1 locs1 cells slots Q (F0 m (pc + 3) ls rest)) : W p l e R s m args below meth c H locs cells slots Q (F0 m pc ls (.int x :: .ref a :: rest)) := by
  exact mput (own := "ChainPickerModel") (ref := "ChainPickerModel") (C := "ChainPickerModel") (T := T_M) (N := 12) (ci := 2) hx hb hE.2.1 (fun w h => List.mem_cons_of_mem _ (i_M w h)) t_M t_M_ok n_M hE.1 hE.2.2.1 hm he rfl 0 (by decide) (hE.2.1 _ (List.mem_cons_of_mem _ q_301)) (fun _ h9 => h9) rfl (ty := .int) (by decide +kernel) rfl rfl hl hdg kk
theorem g_M_M_43 (hx : p.tables.exec = Jvm.exec) (hb : c.code = cc) (hE : ME "ChainPickerModel" yw args s m D tys) (hm : mS B D CLS H0 w H locs) (he : w a = some (.inr (2, fs))) (hv : fs[1]? = some v) (hdg : decode cc pc = .ok (.getfield 43, 3)) (kk : W p l e R s m args below meth c H locs cells slots Q (F0 m (pc + 3) ls (v :: rest))) : W p l e R s m args below meth c H locs cells slots Q (F0 m pc ls (.ref a :: rest)) :=
  mget (own := "ChainPickerModel") (ref := "ChainPickerModel") (C := "ChainPickerModel") (T := T_M) (N := 12) (ci := 2) hx hb hE.2.1 (fun w h => List.mem_cons_of_mem _ (i_M w h)) hE.1 hE.2.2.1 hm he rfl 1 (by decide) (hE.2.1 _ (List.mem_cons_of_mem _ q_302)) (fun _ h9 => h9) hv hdg kk
theorem p_M_M_43 {x : Int32} (hx : p.tables.exec = Jvm.exec) (hb : c.code = cc) (hE : ME "ChainPickerModel" yw args s m D tys) (hm : mS B D CLS H0 w H locs) (he : w a = some (.inr (2, fs))) (hl : 1 < fs.length) (hdg : decode cc pc = .ok (.putfield 43, 3)) (kk : ∀ (H1 : Heap) (locs1 : List Loc), mS B D CLS H0 (wset w a (.inr (2, fs.set 1 (.int x)))) H1 locs1 → W p l e R s m args below meth c H1 locs1 cells slots Q (F0 m (pc + 3) ls rest)) : W p l e R s m args below meth c H locs cells slots Q (F0 m pc ls (.int x :: .ref a :: rest)) := by
  exact mput (own := "ChainPickerModel") (ref := "ChainPickerModel") (C := "ChainPickerModel") (T := T_M) (N := 12) (ci := 2) hx hb hE.2.1 (fun w h => List.mem_cons_of_mem _ (i_M w h)) t_M t_M_ok n_M hE.1 hE.2.2.1 hm he rfl 1 (by decide) (hE.2.1 _ (List.mem_cons_of_mem _ q_302)) (fun _ h9 => h9) rfl (ty := .int) (by decide +kernel) rfl rfl hl hdg kk
theorem g_M_M_46 (hx : p.tables.exec = Jvm.exec) (hb : c.code = cc) (hE : ME "ChainPickerModel" yw args s m D tys) (hm : mS B D CLS H0 w H locs) (he : w a = some (.inr (2, fs))) (hv : fs[2]? = some v) (hdg : decode cc pc = .ok (.getfield 46, 3)) (kk : W p l e R s m args below meth c H locs cells slots Q (F0 m (pc + 3) ls (v :: rest))) : W p l e R s m args below meth c H locs cells slots Q (F0 m pc ls (.ref a :: rest)) :=
  mget (own := "ChainPickerModel") (ref := "ChainPickerModel") (C := "ChainPickerModel") (T := T_M) (N := 12) (ci := 2) hx hb hE.2.1 (fun w h => List.mem_cons_of_mem _ (i_M w h)) hE.1 hE.2.2.1 hm he rfl 2 (by decide) (hE.2.1 _ (List.mem_cons_of_mem _ q_303)) (fun _ h9 => h9) hv hdg kk
theorem p_M_M_46 {x : Int32} (hx : p.tables.exec = Jvm.exec) (hb : c.code = cc) (hE : ME "ChainPickerModel" yw args s m D tys) (hm : mS B D CLS H0 w H locs) (he : w a = some (.inr (2, fs))) (hl : 2 < fs.length) (hdg : decode cc pc = .ok (.putfield 46, 3)) (kk : ∀ (H1 : Heap) (locs1 : List Loc), mS B D CLS H0 (wset w a (.inr (2, fs.set 2 (.int x)))) H1 locs1 → W p l e R s m args below meth c H1 locs1 cells slots Q (F0 m (pc + 3) ls rest)) : W p l e R s m args below meth c H locs cells slots Q (F0 m pc ls (.int x :: .ref a :: rest)) := by
  exact mput (own := "ChainPickerModel") (ref := "ChainPickerModel") (C := "ChainPickerModel") (T := T_M) (N := 12) (ci := 2) hx hb hE.2.1 (fun w h => List.mem_cons_of_mem _ (i_M w h)) t_M t_M_ok n_M hE.1 hE.2.2.1 hm he rfl 2 (by decide) (hE.2.1 _ (List.mem_cons_of_mem _ q_303)) (fun _ h9 => h9) rfl (ty := .int) (by decide +kernel) rfl rfl hl hdg kk
end FLD
section CALLS
variable {p : Program} {l : Launch} {e : Env} {R : Room} {s : State} {m : MethodId} {args : Array Value} {below : List Frame} {meth : Method} {c : Code} {H : Heap} {locs : List Loc} {cells slots : Nat}
variable {cc : ByteArray} {pc : Nat} {ls : Array Slot} {D : va_G} {B : Nat} {tys : List (ClassId × FieldType)} {w : Wd} {H0 : Heap} {yw : Cond}
variable {y : MethodName} {bytes : ByteArray} {maxL nL mc ms n index : Nat} {ret : Option FieldType} {rm : Room} {Qc : Array Value → State → Outcome → State → Prop} {own C : String} {b : Addr} {As rest st0 : List Value}
theorem mcS (hx : p.tables.exec = Jvm.exec) (hb : c.code = cc) (hml : c.maxLocals = nL) (hE : ME own yw args s m D tys) (hM : Met l y (Cond.code y bytes maxL ret :: BIG) rm (va_Pc As (mP B D CLS tys NEST w)) Qc mc ms (fun q => B ≤ q))
    (q1 : Cond.methodLink own index y ∈ BIG) (q2 : Cond.static y ∈ BIG) (q3 : Cond.initialized y.cls ∈ BIG) (q4 : Cond.code y bytes maxL ret ∈ BIG) (hrc : rm.cells = mc) (hrs : rm.slots = ms)
    (hd : y.cls ≠ "java/lang/invoke/MethodHandle" ∧ y.cls ≠ "java/lang/invoke/VarHandle" ∧ (parseMethodDescriptor y.desc).map (fun d => d.parameters.length) = some n) (hR : rm.frames + 1 ≤ R.frames ∧ 8 + (maxL + 11) + rm.locals ≤ R.locals)
    (hn : As.length = n) (hls : ls.size = nL) (hm : mS B D CLS H0 w H locs) (hst : st0 = As.reverse ++ rest) (hW : (rest.map fun v => v.category).sum ≤ 8) (hdg : decode cc pc = .ok (.invokestatic index, 3)) (hf : cells + mc ≤ R.cells ∧ slots + ms ≤ R.slots) :
    va_Run p l e R s m args below meth c H locs cells slots mc ms (F0 m pc ls st0) rest (Qc As.toArray) (fun q => B ≤ q) :=
  va_runS ⟨hx, hb, hml, hE.1, hE.2.1⟩ hM ⟨callB_of n hE.2.1 (gBIG q4) rfl hrc hrs (hE.2.1 _ (List.mem_cons_of_mem _ q3)) (hE.2.1 _ (List.mem_cons_of_mem _ q1)) hd hR, hE.2.1 _ (List.mem_cons_of_mem _ q2)⟩ (mPreS NEST_ok hE.2.2.1 hE.2.2.2 hm) rfl hn hls hst (lv_room hW) hdg hf
theorem mcV {ci : Nat} {T : u_T} {N9 : Nat} {fs : List Value} (hx : p.tables.exec = Jvm.exec) (hb : c.code = cc) (hml : c.maxLocals = nL) (hE : ME own yw args s m D tys) (hM : Met l y (Cond.code y bytes maxL ret :: BIG) rm (va_Pc (.ref b :: As) (mP B D CLS tys NEST w)) Qc mc ms (fun q => B ≤ q))
    (q1 : Cond.methodLink own index y ∈ BIG) (q2 : Cond.instanceMethod y ∈ BIG) (q3 : Cond.selects C y y ∈ BIG) (q5 : Cond.initialized y.cls ∈ BIG) (q4 : Cond.code y bytes maxL ret ∈ BIG) (hrc : rm.cells = mc) (hrs : rm.slots = ms)
    (hd : y.cls ≠ "java/lang/invoke/MethodHandle" ∧ y.cls ≠ "java/lang/invoke/VarHandle" ∧ (parseMethodDescriptor y.desc).map (fun d => d.parameters.length) = some n) (hR : rm.frames + 1 ≤ R.frames ∧ 8 + (maxL + 11) + rm.locals ≤ R.locals)
    (hn : As.length = n) (hls : ls.size = nL) (hm : mS B D CLS H0 w H locs) (hc : CLS[ci]? = some (C, T, N9)) (he : w b = some (.inr (ci, fs))) (hst : st0 = As.reverse ++ .ref b :: rest) (hW : (rest.map fun v => v.category).sum ≤ 8) (hdg : decode cc pc = .ok (.invokevirtual index, 3)) (hf : cells + mc ≤ R.cells ∧ slots + ms ≤ R.slots) :
    va_Run p l e R s m args below meth c H locs cells slots mc ms (F0 m pc ls st0) rest (Qc (Value.ref b :: As).toArray) (fun q => B ≤ q) :=
  va_runV ⟨hx, hb, hml, hE.1, hE.2.1⟩ hM ⟨callB_of n hE.2.1 (gBIG q4) rfl hrc hrs (hE.2.1 _ (List.mem_cons_of_mem _ q5)) (hE.2.1 _ (List.mem_cons_of_mem _ q1)) hd hR, hE.2.1 _ (List.mem_cons_of_mem _ q2), hE.2.1 _ (List.mem_cons_of_mem _ q3)⟩ (mPreV NEST_ok hE.2.2.1 hE.2.2.2 hm hc he) rfl hn hls hst (lv_room hW) hdg hf
theorem mcI (hx : p.tables.exec = Jvm.exec) (hb : c.code = cc) (hml : c.maxLocals = nL) (hE : ME own yw args s m D tys) (hM : Met l y (Cond.code y bytes maxL none :: BIG) rm (va_Pc (.ref b :: As) (mP B D CLS tys NEST w)) Qc mc ms (fun q => B ≤ q))
    (q1 : Cond.methodLink own index y ∈ BIG) (q2 : Cond.instanceMethod y ∈ BIG) (q3 : Cond.initialized y.cls ∈ BIG) (q4 : Cond.code y bytes maxL none ∈ BIG) (hy : y.name = "<init>") (hrc : rm.cells = mc) (hrs : rm.slots = ms)
    (hd : y.cls ≠ "java/lang/invoke/MethodHandle" ∧ y.cls ≠ "java/lang/invoke/VarHandle" ∧ (parseMethodDescriptor y.desc).map (fun d => d.parameters.length) = some n) (hR : rm.frames + 1 ≤ R.frames ∧ 8 + (maxL + 11) + rm.locals ≤ R.locals)
    (hn : As.length = n) (hls : ls.size = nL) (hm : mS B D CLS H0 w H locs) (hst : st0 = As.reverse ++ .ref b :: rest) (hW : (rest.map fun v => v.category).sum ≤ 8) (hdg : decode cc pc = .ok (.invokespecial index, 3)) (hf : cells + mc ≤ R.cells ∧ slots + ms ≤ R.slots) :
    va_Run p l e R s m args below meth c H locs cells slots mc ms (F0 m pc ls st0) rest (Qc (Value.ref b :: As).toArray) (fun q => B ≤ q) :=
  va_runI ⟨hx, hb, hml, hE.1, hE.2.1⟩ hM ⟨callB_of n hE.2.1 (gBIG q4) rfl hrc hrs (hE.2.1 _ (List.mem_cons_of_mem _ q3)) (hE.2.1 _ (List.mem_cons_of_mem _ q1)) hd hR, hy, hE.2.1 _ (List.mem_cons_of_mem _ q2)⟩ (mPreS NEST_ok hE.2.2.1 hE.2.2.2 hm) rfl hn hls hst (lv_room hW) hdg hf
theorem mcIN {host : String} (hx : p.tables.exec = Jvm.exec) (hb : c.code = cc) (hml : c.maxLocals = nL) (hE : ME own yw args s m D tys) (hM : Met l y (Cond.code y bytes maxL none :: BIG) rm (va_Pc (.ref b :: As) (mP B D CLS tys NEST w)) Qc mc ms (fun q => B ≤ q))
    (q1 : Cond.methodLinkNest own index y host ∈ NEST) (q2 : Cond.instanceMethod y ∈ BIG) (q3 : Cond.initialized y.cls ∈ BIG) (q4 : Cond.code y bytes maxL none ∈ BIG) (hy : y.name = "<init>") (hrc : rm.cells = mc) (hrs : rm.slots = ms)
    (hd : y.cls ≠ "java/lang/invoke/MethodHandle" ∧ y.cls ≠ "java/lang/invoke/VarHandle" ∧ (parseMethodDescriptor y.desc).map (fun d => d.parameters.length) = some n) (hR : rm.frames + 1 ≤ R.frames ∧ 8 + (maxL + 11) + rm.locals ≤ R.locals)
    (hn : As.length = n) (hls : ls.size = nL) (hm : mS B D CLS H0 w H locs) (hst : st0 = As.reverse ++ .ref b :: rest) (hW : (rest.map fun v => v.category).sum ≤ 8) (hdg : decode cc pc = .ok (.invokespecial index, 3)) (hf : cells + mc ≤ R.cells ∧ slots + ms ≤ R.slots) :
    va_Run p l e R s m args below meth c H locs cells slots mc ms (F0 m pc ls st0) rest (Qc (Value.ref b :: As).toArray) (fun q => B ≤ q) :=
  va_runIN ⟨hx, hb, hml, hE.1, hE.2.1⟩ hM ⟨va_cnB n hE.2.1 (gBIG q4) rfl hrc hrs (hE.2.2.2 _ q1) (hE.2.1 _ (List.mem_cons_of_mem _ q3)) hd hR, hy, hE.2.1 _ (List.mem_cons_of_mem _ q2)⟩ (mPreS NEST_ok hE.2.2.1 hE.2.2.2 hm) rfl hn hls hst (lv_room hW) hdg hf
end CALLS
end
section
/-! arrays, at places that are known numbers -/
section MWE
variable {p : Program} {l : Launch} {e : Env} {R : Room} {s : State} {m : MethodId} {args : Array Value} {below : List Frame} {meth : Method} {c : Code} {H : Heap} {locs : List Loc} {cells slots : Nat} {Q : State → Prop}
variable {cc : ByteArray} {pc : Nat} {ls : Array Slot} {rest : List Value} {D : va_G} {cl : List vw_C} {B : Nat} {a : Nat} {tys : List (ClassId × FieldType)} {w : Wd} {H0 : Heap}
theorem ialdE (k : Nat) (hexec : p.tables.exec = Jvm.exec) (hb : c.code = cc) (hK : va_K D cl tys s) (hm : mS B D cl H0 w H locs) (t0 : Nat) {cA : ClassId} {n : Nat} {f : Nat → Int32} (ha : w a = some (.inl (cA, n, .inl f))) (ht : tys[t0]? = some (cA, .int)) {i : Int32} (hi : i = nI k) (hk : k < n) (hn : n < 2 ^ 31) (hdg : decode cc pc = .ok (.iaload, 1))
    (kk : W p l e R s m args below meth c H locs cells slots Q (F0 m (pc + 1) ls (.int (f k) :: rest))) : W p l e R s m args below meth c H locs cells slots Q (F0 m pc ls (.int i :: .ref a :: rest)) := by
  subst hi
  refine miald hexec hb hK hm t0 ha ht (vp_in_nI hk hn) hdg ?_
  rw [nI_clamp (by omega)]
  exact kk
theorem baldE (k : Nat) (hexec : p.tables.exec = Jvm.exec) (hb : c.code = cc) (hK : va_K D cl tys s) (hm : mS B D cl H0 w H locs) (t0 : Nat) {cA : ClassId} {n : Nat} {f : Nat → Int32} (ha : w a = some (.inl (cA, n, .inl f))) (ht : tys[t0]? = some (cA, .boolean)) {i : Int32} (hi : i = nI k) (hk : k < n) (hn : n < 2 ^ 31) (hdg : decode cc pc = .ok (.baload, 1))
    (kk : W p l e R s m args below meth c H locs cells slots Q (F0 m (pc + 1) ls (.int (f k) :: rest))) : W p l e R s m args below meth c H locs cells slots Q (F0 m pc ls (.int i :: .ref a :: rest)) := by
  subst hi
  refine mbald hexec hb hK hm t0 ha ht (vp_in_nI hk hn) hdg ?_
  rw [nI_clamp (by omega)]
  exact kk
theorem iastE (k : Nat) (hexec : p.tables.exec = Jvm.exec) (hb : c.code = cc) (hK : va_K D cl tys s) (hm : mS B D cl H0 w H locs) (t0 : Nat) {cA : ClassId} {n : Nat} {f : Nat → Int32} (ha : w a = some (.inl (cA, n, .inl f))) (ht : tys[t0]? = some (cA, .int)) {i x : Int32} (hi : i = nI k) (hk : k < n) (hn : n < 2 ^ 31) (hdg : decode cc pc = .ok (.iastore, 1))
    (kk : ∀ (H1 : Heap) (locs1 : List Loc), mS B D cl H0 (wset w a (.inl (cA, n, .inl (upd f k x)))) H1 locs1 → W p l e R s m args below meth c H1 locs1 cells slots Q (F0 m (pc + 1) ls rest)) : W p l e R s m args below meth c H locs cells slots Q (F0 m pc ls (.int x :: .int i :: .ref a :: rest)) := by
  subst hi
  refine miast hexec hb hK hm t0 ha ht (vp_in_nI hk hn) hdg (fun H1 locs1 h => ?_)
  rw [nI_clamp (by omega)] at h
  exact kk H1 locs1 h
theorem bastE (k : Nat) (hexec : p.tables.exec = Jvm.exec) (hb : c.code = cc) (hK : va_K D cl tys s) (hm : mS B D cl H0 w H locs) (t0 : Nat) {cA : ClassId} {n : Nat} {f : Nat → Int32} (ha : w a = some (.inl (cA, n, .inl f))) (ht : tys[t0]? = some (cA, .boolean)) {i x : Int32} (hi : i = nI k) (hk : k < n) (hn : n < 2 ^ 31) (hz : x = 0 ∨ x = 1) (hdg : decode cc pc = .ok (.bastore, 1))
    (kk : ∀ (H1 : Heap) (locs1 : List Loc), mS B D cl H0 (wset w a (.inl (cA, n, .inl (upd f k x)))) H1 locs1 → W p l e R s m args below meth c H1 locs1 cells slots Q (F0 m (pc + 1) ls rest)) : W p l e R s m args below meth c H locs cells slots Q (F0 m pc ls (.int x :: .int i :: .ref a :: rest)) := by
  subst hi
  refine mbast hexec hb hK hm t0 ha ht (vp_in_nI hk hn) hz hdg (fun H1 locs1 h => ?_)
  rw [nI_clamp (by omega)] at h
  exact kk H1 locs1 h
end MWE
end
section
/-! THE MODEL: what class and reference both hold -/
/-- series, level, upgraded, base, began, ended, state, pruned, versions -/
abbrev Jr : Type := Int32 × Int32 × Bool × Option Nat × Int32 × Int32 × Int32 × Bool × (Nat → Int32)
abbrev jSer (j : Jr) : Int32 := j.1
abbrev jLev (j : Jr) : Int32 := j.2.1
abbrev jUp (j : Jr) : Bool := j.2.2.1
abbrev jBs (j : Jr) : Option Nat := j.2.2.2.1
abbrev jBg (j : Jr) : Int32 := j.2.2.2.2.1
abbrev jEn (j : Jr) : Int32 := j.2.2.2.2.2.1
abbrev jSt (j : Jr) : Int32 := j.2.2.2.2.2.2.1
abbrev jPr (j : Jr) : Bool := j.2.2.2.2.2.2.2.1
abbrev jVr (j : Jr) : Nat → Int32 := j.2.2.2.2.2.2.2.2
def bI (b : Bool) : Int32 := if b = true then 1 else 0
theorem bI_t : bI true = 1 := rfl
theorem bI_f : bI false = 0 := rfl
theorem bI_0 {b : Bool} : bI b = 0 ↔ b = false := by cases b <;> simp [bI]
theorem bI_1 {b : Bool} : bI b = 1 ↔ b = true := by cases b <;> simp [bI]
theorem bI_01 (b : Bool) : bI b = 0 ∨ bI b = 1 := by cases b <;> simp [bI]
theorem bI_nar (b : Bool) : narrow .boolean (.int (bI b)) = .int (bI b) := by cases b <;> decide +kernel
theorem dec_0 {b : Bool} : decide (bI b = 0) = !b := by cases b <;> simp [bI]
/-- the last place below n of which p holds -/
def lastI (p : Nat → Bool) : Nat → Option Nat
  | 0 => none
  | k + 1 => if p k = true then some k else lastI p k
theorem lastI_t {p : Nat → Bool} {k : Nat} (h : p k = true) : lastI p (k + 1) = some k := by simp [lastI, h]
theorem lastI_f {p : Nat → Bool} {k : Nat} (h : p k = false) : lastI p (k + 1) = lastI p k := by simp [lastI, h]
theorem lastI_none {p : Nat → Bool} {n : Nat} : lastI p n = none ↔ ∀ j, j < n → p j = false := by
  induction n with
  | zero => simp [lastI]
  | succ k ih =>
    by_cases h : p k = true
    · rw [lastI_t h]
      constructor
      · intro q; cases q
      · intro q; have := q k (by omega); rw [h] at this; cases this
    · have h' : p k = false := by simpa using h
      rw [lastI_f h', ih]
      constructor
      · intro q j hj
        rcases Nat.lt_or_ge j k with h1 | h1
        · exact q j h1
        · rw [show j = k by omega]; exact h'
      · intro q j hj; exact q j (by omega)
theorem lastI_some {p : Nat → Bool} {n i : Nat} (h : lastI p n = some i) : i < n ∧ p i = true ∧ ∀ j, i < j → j < n → p j = false := by
  induction n with
  | zero => simp [lastI] at h
  | succ k ih =>
    by_cases hp : p k = true
    · rw [lastI_t hp] at h
      cases h
      exact ⟨by omega, hp, fun j h1 h2 => by omega⟩
    · have hp' : p k = false := by simpa using hp
      rw [lastI_f hp'] at h
      obtain ⟨h1, h2, h3⟩ := ih h
      refine ⟨by omega, h2, fun j h4 h5 => ?_⟩
      rcases Nat.lt_or_ge j k with h6 | h6
      · exact h3 j h4 h6
      · rw [show j = k by omega]; exact hp'
/-- how many places below n -/
def cnt (p : Nat → Bool) : Nat → Nat
  | 0 => 0
  | k + 1 => cnt p k + (if p k = true then 1 else 0)
theorem cnt_le (p : Nat → Bool) (n : Nat) : cnt p n ≤ n := by
  induction n with
  | zero => simp [cnt]
  | succ k ih => simp only [cnt]; split <;> omega
theorem cnt_ext {p q : Nat → Bool} {n : Nat} (h : ∀ k, k < n → p k = q k) : cnt p n = cnt q n := by
  induction n with
  | zero => rfl
  | succ k ih => simp only [cnt]; rw [ih (fun j hj => h j (by omega)), h k (by omega)]
theorem cnt_zero {p : Nat → Bool} {n : Nat} : cnt p n = 0 ↔ ∀ k, k < n → p k = false := by
  induction n with
  | zero => simp [cnt]
  | succ k ih =>
    simp only [cnt]
    constructor
    · intro h j hj
      by_cases hp : p k = true
      · rw [if_pos hp] at h; omega
      · rw [if_neg hp] at h
        rcases Nat.lt_or_ge j k with h1 | h1
        · exact ih.mp (by omega) j h1
        · rw [show j = k by omega]; simpa using hp
    · intro h
      rw [ih.mpr (fun j hj => h j (by omega)), h k (by omega)]
      simp
/-- one place changes from yes to no -/
theorem cnt_off {p q : Nat → Bool} {n i : Nat} (hi : i < n) (hp : p i = true) (hq : q i = false) (h : ∀ k, k < n → k ≠ i → p k = q k) : cnt p n = cnt q n + 1 := by
  induction n with
  | zero => omega
  | succ k ih =>
    simp only [cnt]
    by_cases hk : k = i
    · subst hk
      rw [hp, hq, cnt_ext (fun j hj => h j (by omega) (by omega))]
      simp
    · rw [ih (by omega) (fun j hj hn => h j (by omega) hn), h k (by omega) hk]
      omega
/-- the chain from a job on -/
def chn (J : Nat → Jr) : Nat → Option Nat → List Nat
  | 0, _ => []
  | _ + 1, none => []
  | f + 1, some i => i :: chn J f (jBs (J i))
def uz (j : Jr) : Bool := decide (jSt j = 1) && !jPr j
/-- how many jobs that aren't pruned stand on i -/
def sd (n : Nat) (J : Nat → Jr) (i : Nat) : Nat := cnt (fun k => decide (jBs (J k) = some i) && !jPr (J k)) n
def fr (n : Nat) (J : Nat → Jr) (i : Nat) : Bool := decide (jSt (J i) ≠ 0) && !jPr (J i) && decide (sd n J i = 0)
def fJ (n : Nat) (x : Int32) : Option Nat := lastI (fun k => decide (nI k = x)) n
def hRun (n : Nat) (J : Nat → Jr) (s : Int32) : Bool := (lastI (fun k => decide (jSer (J k) = s) && decide (jSt (J k) = 0)) n).isSome
def bOf (n : Nat) (J : Nat → Jr) (s l : Int32) : Option Nat := if l = 0 then none else lastI (fun k => decide (jSer (J k) = s) && uz (J k) && (decide (l = 2) || decide (jLev (J k) = 0))) n
def hd (n : Nat) (J : Nat → Jr) (s t : Int32) : Option Nat := lastI (fun k => decide (jSer (J k) = s) && uz (J k) && decide (jEn (J k) ≤ t)) n
def only (n : Nat) (J : Nat → Jr) (i : Nat) : Bool := decide (jLev (J i) = 0) && uz (J i) && (lastI (fun k => decide (k ≠ i) && decide (jSer (J k) = jSer (J i)) && decide (jLev (J k) = 0) && uz (J k)) n).isNone
def isF (x : Int32) : Bool := decide (0 ≤ x) && decide (x < 50)
def tlr (J : Nat → Jr) (f : Nat) (L : List Nat) : Option Nat := L.find? (fun j => decide (jVr (J j) f ≠ -2))
def tel (n : Nat) (J : Nat → Jr) (o : Option Nat) (x : Int32) : Option Nat := if isF x = true then tlr J x.toNatClampNeg (chn J n o) else none
def ver (n : Nat) (J : Nat → Jr) (o : Option Nat) (x : Int32) : Int32 := match tel n J o x with
  | none => -1
  | some j => jVr (J j) x.toNatClampNeg
def oI (o : Option Nat) : Int32 := match o with
  | none => -1
  | some k => nI k
def lk : List Nat → Int32 → Int32 → Option Nat
  | [], _, _ => none
  | j :: t, x, i => if x = i then some j else lk t (x + 1) i
/-- a change of one job -/
def upJ (J : Nat → Jr) (k : Nat) (j : Jr) : Nat → Jr := fun i => if i = k then j else J i
theorem upJ_at (J : Nat → Jr) (k : Nat) (j : Jr) : upJ J k j k = j := by simp [upJ]
theorem upJ_ne {J : Nat → Jr} {k i : Nat} {j : Jr} (h : i ≠ k) : upJ J k j i = J i := by simp [upJ, h]
def drJ (J : Nat → Jr) (k : Nat) : Nat → Jr := upJ J k (jSer (J k), jLev (J k), jUp (J k), jBs (J k), jBg (J k), jEn (J k), jSt (J k), true, fun _ => -2)
def enJ (J : Nat → Jr) (k : Nat) (t st : Int32) : Nat → Jr := upJ J k (jSer (J k), jLev (J k), jUp (J k), jBs (J k), jBg (J k), t, st, jPr (J k), jVr (J k))
def teJ (J : Nat → Jr) (k f : Nat) (v : Int32) : Nat → Jr := upJ J k (jSer (J k), jLev (J k), jUp (J k), jBs (J k), jBg (J k), jEn (J k), jSt (J k), jPr (J k), upd (jVr (J k)) f v)
def nwJ (s l : Int32) (b : Option Nat) (now : Int32) : Jr := (s, if b = none then 0 else l, decide (b = none) && decide (l ≠ 0), b, now, -1, 0, false, fun _ => -2)
/-- expire, from k - 1 down -/
def xp (n : Nat) (now age : Int32) : Nat → (Nat → Jr) → Int32 → (Nat → Jr) × Int32
  | 0, J, g => (J, g)
  | k + 1, J, g => if (fr n J k && decide (age < now - jEn (J k)) && !only n J k) = true then xp n now age k (drJ J k) (g + 1) else xp n now age k J g
theorem sd_drop {n : Nat} {J : Nat → Jr} {k i : Nat} (hk : k < n) (hp : jPr (J k) = false) : sd n J i = sd n (drJ J k) i + (if jBs (J k) = some i then 1 else 0) := by
  by_cases hb : jBs (J k) = some i
  · rw [if_pos hb]
    refine cnt_off hk (by simp [hb, hp]) (by simp [drJ, upJ]) fun j hj hn => ?_
    simp [drJ, upJ_ne hn]
  · rw [if_neg hb, Nat.add_zero]
    refine cnt_ext fun j hj => ?_
    by_cases hn : j = k
    · subst hn
      simp [drJ, upJ, hb]
    · simp [drJ, upJ_ne hn]
theorem sd_ext {n : Nat} {J J' : Nat → Jr} {i : Nat} (h : ∀ k, k < n → jBs (J k) = jBs (J' k) ∧ jPr (J k) = jPr (J' k)) : sd n J i = sd n J' i := by
  refine cnt_ext fun k hk => ?_
  rw [(h k hk).1, (h k hk).2]
theorem sd_new {n : Nat} {J : Nat → Jr} {j : Jr} {i : Nat} (hp : jPr j = false) : sd (n + 1) (upJ J n j) i = sd n J i + (if jBs j = some i then 1 else 0) := by
  have h1 : sd n (upJ J n j) i = sd n J i := sd_ext fun k hk => by rw [upJ_ne (by omega)]; exact ⟨rfl, rfl⟩
  have h2 : sd (n + 1) (upJ J n j) i = sd n (upJ J n j) i + (if (decide (jBs (upJ J n j n) = some i) && !jPr (upJ J n j n)) = true then 1 else 0) := rfl
  rw [h2, h1, upJ_at, hp]
  simp
theorem sd_le (n : Nat) (J : Nat → Jr) (i : Nat) : sd n J i ≤ n := cnt_le _ _
theorem sd_none {n i : Nat} {J : Nat → Jr} (hi : n ≤ i) (hb : ∀ k, k < n → ∀ b, jBs (J k) = some b → b < k) : sd n J i = 0 := by
  refine cnt_zero.mpr fun k hk => ?_
  cases h : jBs (J k) with
  | none => simp
  | some b =>
    have := hb k hk b h
    simp
    omega
/-! THE CLASS'S CELLS -/
def prv (ad : Nat → Nat) : Nat → Option Nat
  | 0 => none
  | k + 1 => some (ad k)
abbrev jL (ad va : Nat → Nat) (J : Nat → Jr) (st : Nat → Nat) (i : Nat) : List Value := [.int (nI i), .int (jSer (J i)), .int (jLev (J i)), .int (bI (jUp (J i))), va_rf ((jBs (J i)).map ad), .int (jBg (J i)), va_rf (prv ad i), .ref (va i), .int (jEn (J i)), .int (jSt (J i)), .int (bI (jPr (J i))), .int (nI (st i))]
/-- the picker at o, its jobs at ad, their versions at va -/
def cR (cI : ClassId) (o : Nat) (ad va : Nat → Nat) (now : Int32) (n : Nat) (J : Nat → Jr) (w : Wd) : Prop :=
  w o = some (.inr (1, [.int now, .int (nI n), va_rf (prv ad n)])) ∧ (∀ i, i < n → w (ad i) = some (.inr (0, jL ad va J (sd n J) i))) ∧ (∀ i, i < n → w (va i) = some (.inl (cI, 50, .inl (jVr (J i))))) ∧
  (∀ i j, i < n → j < n → ad i = ad j → i = j) ∧ (∀ i j, i < n → j < n → va i = va j → i = j) ∧ (∀ i, i < n → ∀ b, jBs (J i) = some b → b < i) ∧ n ≤ 200
/-- its footprint -/
def cF (o : Nat) (ad va : Nat → Nat) (n : Nat) (q : Nat) : Prop := q = o ∨ ∃ i, i < n ∧ (q = ad i ∨ q = va i)
end
section
theorem cntI_t {p : Nat → Bool} {k : Nat} {x y : Int32} (h : x + nI (cnt p (k + 1)) = y) (hp : p k = true) : x + 1 + nI (cnt p k) = y := by
  rw [← h]
  simp only [cnt, hp, if_true]
  rw [nI_succ, Int32.add_assoc, Int32.add_comm 1]
theorem cntI_f {p : Nat → Bool} {k : Nat} {x y : Int32} (h : x + nI (cnt p (k + 1)) = y) (hp : p k = false) : x + nI (cnt p k) = y := by
  rw [← h]
  simp [cnt, hp]
theorem cntI_0 {p : Nat → Bool} {x y : Int32} (h : x + nI (cnt p 0) = y) : x = y := by
  rw [← h]
  simp [cnt, nI_0]
theorem uz_r {j : Jr} {r : Int32} (h : r = bI (decide (jSt j = 1) && decide (bI (jPr j) = 0))) : r = bI (uz j) := by
  rw [h, dec_0]
  rfl
theorem nI_z {k : Nat} (h : k < 2 ^ 31) : decide (nI k = 0) = decide (k = 0) := by
  rw [← nI_0]
  simp only [nI_eq h (by omega : (0 : Nat) < 2 ^ 31)]
theorem fr_r {n : Nat} {J : Nat → Jr} {i : Nat} {r : Int32} (hn : n ≤ 200) (h : r = bI (decide (jSt (J i) ≠ 0) && decide (bI (jPr (J i)) = 0) && decide (nI (sd n J i) = 0))) : r = bI (fr n J i) := by
  rw [h, dec_0, nI_z (by have := sd_le n J i; omega)]
  rfl
theorem cntU_t {p : Nat → Bool} {i : Nat} {x : Int32} (h : x = nI (cnt p i)) (hp : p i = true) : x + 1 = nI (cnt p (i + 1)) := by
  rw [h]
  simp only [cnt, hp, if_true]
  rw [nI_succ]
theorem cntU_f {p : Nat → Bool} {i : Nat} {x : Int32} (h : x = nI (cnt p i)) (hp : p i = false) : x = nI (cnt p (i + 1)) := by
  rw [h]
  simp [cnt, hp]
theorem hd_lt {n : Nat} {J : Nat → Jr} {s t : Int32} : ∀ i, hd n J s t = some i → i < n := fun _ h => (lastI_some h).1
theorem bOf_lt {n : Nat} {J : Nat → Jr} {s l : Int32} : ∀ i, bOf n J s l = some i → i < n := fun i h => by
  unfold bOf at h
  split at h
  · cases h
  · exact (lastI_some h).1
theorem isF_of {x : Int32} (h : isF x = true) : ∃ k, k < 50 ∧ x = nI k ∧ x.toNatClampNeg = k := by
  simp only [isF, Bool.and_eq_true, decide_eq_true_eq] at h
  obtain ⟨j, hj, he⟩ := nI_of (x := x) (by rw [Int32.not_lt]; exact h.1)
  have h50 : (50 : Int32) = nI 50 := rfl
  have hlt := h.2
  rw [he, h50, nI_ltI hj (by omega)] at hlt
  exact ⟨j, hlt, he, by rw [he]; exact nI_clamp hj⟩
theorem tlr_c {J : Nat → Jr} {k i f : Nat} (h : jVr (J i) k = -2) : tlr J k (chn J (f + 1) (some i)) = tlr J k (chn J f (jBs (J i))) := by
  simp [tlr, chn, h]
theorem tlr_s {J : Nat → Jr} {k i f : Nat} (h : ¬ jVr (J i) k = -2) : tlr J k (chn J (f + 1) (some i)) = some i := by
  simp [tlr, chn, h]
theorem tlr_n {J : Nat → Jr} {k f : Nat} : tlr J k (chn J f none) = none := by
  cases f <;> rfl
theorem chn_n {J : Nat → Jr} {f : Nat} : chn J f none = [] := by
  cases f <;> rfl
theorem mem_chn {J : Nat → Jr} {n : Nat} (hb : ∀ i, i < n → ∀ b, jBs (J i) = some b → b < i) : ∀ (f : Nat) (o : Option Nat), (∀ i, o = some i → i < n) → ∀ j, j ∈ chn J f o → j < n := by
  intro f
  induction f with
  | zero => intro o _ j hj; simp [chn] at hj
  | succ f ih =>
    intro o ho j hj
    cases o with
    | none => simp [chn] at hj
    | some i =>
      simp only [chn, List.mem_cons] at hj
      rcases hj with rfl | hj
      · exact ho _ rfl
      · exact ih _ (fun b hbb => Nat.lt_trans (hb i (ho i rfl) b hbb) (ho i rfl)) j hj
theorem tel_lt {J : Nat → Jr} {n : Nat} (hb : ∀ i, i < n → ∀ b, jBs (J i) = some b → b < i) {o : Option Nat} {x : Int32} (ho : ∀ i, o = some i → i < n) {j : Nat} (h : tel n J o x = some j) : j < n ∧ isF x = true ∧ jVr (J j) x.toNatClampNeg ≠ -2 := by
  unfold tel at h
  split at h
  next hf =>
    have h1 := List.mem_of_find?_eq_some h
    have h2 := List.find?_some h
    exact ⟨mem_chn hb n o ho j h1, hf, by simpa using h2⟩
  next => cases h
theorem lenI {x y : Int32} {J : Nat → Jr} {f i : Nat} (h : x + nI (chn J (f + 1) (some i)).length = y) : x + 1 + nI (chn J f (jBs (J i))).length = y := by
  rw [← h]
  simp only [chn, List.length_cons]
  rw [nI_succ, Int32.add_assoc, Int32.add_comm 1]
theorem len0 {x y : Int32} {J : Nat → Jr} {f : Nat} (h : x + nI (chn J f none).length = y) : x = y := by
  rw [← h, chn_n]
  simp [nI_0]
theorem rf_cat (r : Option Nat) : (va_rf r).category = 1 := by cases r <;> rfl
theorem int_cat (x : Int32) : (Value.int x).category = 1 := rfl
theorem ref_cat (x : Nat) : (Value.ref x).category = 1 := rfl
end
section
/-! what the class's cells are to each other -/
section CREP
variable {cI : ClassId} {o : Nat} {ad va : Nat → Nat} {now : Int32} {n : Nat} {J : Nat → Jr} {w : Wd}
theorem cR.vaad (h : cR cI o ad va now n J w) {i j : Nat} (hi : i < n) (hj : j < n) : va i ≠ ad j := by
  intro e
  have h1 := h.2.2.1 i hi
  rw [e, h.2.1 j hj] at h1
  cases h1
theorem cR.vao (h : cR cI o ad va now n J w) {i : Nat} (hi : i < n) : va i ≠ o := by
  intro e
  have h1 := h.2.2.1 i hi
  rw [e, h.1] at h1
  cases h1
theorem cR.ado (h : cR cI o ad va now n J w) {i : Nat} (hi : i < n) : ad i ≠ o := by
  intro e
  have h1 := h.2.1 i hi
  rw [e, h.1] at h1
  cases h1
theorem cR.adad (h : cR cI o ad va now n J w) {i j : Nat} (hi : i < n) (hj : j < n) (hn : i ≠ j) : ad i ≠ ad j := fun e => hn (h.2.2.2.1 i j hi hj e)
theorem cR.vava (h : cR cI o ad va now n J w) {i j : Nat} (hi : i < n) (hj : j < n) (hn : i ≠ j) : va i ≠ va j := fun e => hn (h.2.2.2.2.1 i j hi hj e)
theorem cR.bs (h : cR cI o ad va now n J w) {i b : Nat} (hi : i < n) (hb : jBs (J i) = some b) : b < i := h.2.2.2.2.2.1 i hi b hb
theorem cR.n200 (h : cR cI o ad va now n J w) : n ≤ 200 := h.2.2.2.2.2.2
theorem cR.ne (h : cR cI o ad va now n J w) {q : Nat} (hq : cF o ad va n q) : w q ≠ none := by
  rcases hq with rfl | ⟨i, hi, rfl | rfl⟩
  · rw [h.1]; exact fun e => by cases e
  · rw [h.2.1 i hi]; exact fun e => by cases e
  · rw [h.2.2.1 i hi]; exact fun e => by cases e
/-- what a job holds, changed; none else -/
abbrev jX (ad va : Nat → Nat) (i : Nat) (s l : Int32) (u : Bool) (b : Option Nat) (bg en st : Int32) (pr : Int32) (sv : Int32) : List Value := [.int (nI i), .int s, .int l, .int (bI u), va_rf (b.map ad), .int bg, va_rf (prv ad i), .ref (va i), .int en, .int st, .int pr, .int sv]
theorem cR.drop0 (h : cR cI o ad va now n J w) {i : Nat} (hi : i < n) (hp : jPr (J i) = false) (hb : jBs (J i) = none) :
    cR cI o ad va now n (drJ J i) (wset (wset w (ad i) (.inr (0, [.int (nI i), .int (jSer (J i)), .int (jLev (J i)), .int (bI (jUp (J i))), va_rf ((jBs (J i)).map ad), .int (jBg (J i)), va_rf (prv ad i), .ref (va i), .int (jEn (J i)), .int (jSt (J i)), .int 1, .int (nI (sd n J i))]))) (va i) (.inl (cI, 50, .inl (fun _ => -2)))) := by
  have hs : ∀ k, sd n (drJ J i) k = sd n J k := fun k => by rw [sd_drop (i := k) hi hp, hb]; simp
  refine ⟨?_, fun k hk => ?_, fun k hk => ?_, h.2.2.2.1, h.2.2.2.2.1, fun k hk b hkb => ?_, h.n200⟩
  · rw [wset_ne (h.vao hi).symm, wset_ne (h.ado hi).symm]; exact h.1
  · rw [wset_ne (h.vaad hi hk).symm]
    by_cases hki : k = i
    · subst hki
      rw [wset_at]
      simp only [jL]
      rw [hs]
      simp [drJ, upJ, bI]
    · rw [wset_ne (h.adad hk hi hki), h.2.1 k hk]
      simp only [jL]
      rw [hs]
      simp [drJ, upJ, hki]
  · by_cases hki : k = i
    · subst hki
      rw [wset_at]
      simp [drJ, upJ]
    · rw [wset_ne (h.vava hk hi hki), wset_ne (h.vaad hk hi), h.2.2.1 k hk]
      simp [drJ, upJ, hki]
  · by_cases hki : k = i
    · subst hki
      simp only [drJ, upJ_at] at hkb
      exact h.bs hi hkb
    · simp only [drJ, upJ_ne hki] at hkb
      exact h.bs hk hkb
theorem cR.drop1 (h : cR cI o ad va now n J w) {i b : Nat} (hi : i < n) (hp : jPr (J i) = false) (hb : jBs (J i) = some b) :
    cR cI o ad va now n (drJ J i) (wset (wset (wset w (ad i) (.inr (0, [.int (nI i), .int (jSer (J i)), .int (jLev (J i)), .int (bI (jUp (J i))), va_rf ((jBs (J i)).map ad), .int (jBg (J i)), va_rf (prv ad i), .ref (va i), .int (jEn (J i)), .int (jSt (J i)), .int 1, .int (nI (sd n J i))]))) (va i) (.inl (cI, 50, .inl (fun _ => -2))))
      (ad b) (.inr (0, [.int (nI b), .int (jSer (J b)), .int (jLev (J b)), .int (bI (jUp (J b))), va_rf ((jBs (J b)).map ad), .int (jBg (J b)), va_rf (prv ad b), .ref (va b), .int (jEn (J b)), .int (jSt (J b)), .int (bI (jPr (J b))), .int (nI (sd n J b) - 1)]))) := by
  have hbi : b < i := h.bs hi hb
  have hbn : b < n := by omega
  have hne : b ≠ i := by omega
  have hs : ∀ k, sd n J k = sd n (drJ J i) k + (if b = k then 1 else 0) := fun k => by
    rw [sd_drop (i := k) hi hp, hb]
    simp
  refine ⟨?_, fun k hk => ?_, fun k hk => ?_, h.2.2.2.1, h.2.2.2.2.1, fun k hk b' hkb => ?_, h.n200⟩
  · rw [wset_ne (h.ado hbn).symm, wset_ne (h.vao hi).symm, wset_ne (h.ado hi).symm]; exact h.1
  · by_cases hkb : k = b
    · subst hkb
      rw [wset_at]
      have := hs k
      rw [if_pos rfl] at this
      rw [this, nI_pred]
      simp [drJ, upJ, hne]
    · rw [wset_ne (h.adad hk hbn hkb), wset_ne (h.vaad hi hk).symm]
      have hsk := hs k
      rw [if_neg (fun e => hkb e.symm), Nat.add_zero] at hsk
      by_cases hki : k = i
      · subst hki
        rw [wset_at]
        simp only [jL]
        rw [← hsk]
        simp [drJ, upJ, bI]
      · rw [wset_ne (h.adad hk hi hki), h.2.1 k hk]
        simp only [jL]
        rw [← hsk]
        simp [drJ, upJ, hki]
  · rw [wset_ne (h.vaad hk hbn)]
    by_cases hki : k = i
    · subst hki
      rw [wset_at]
      simp [drJ, upJ]
    · rw [wset_ne (h.vava hk hi hki), wset_ne (h.vaad hk hi), h.2.2.1 k hk]
      simp [drJ, upJ, hki]
  · by_cases hki : k = i
    · subst hki
      simp only [drJ, upJ_at] at hkb
      exact h.bs hi hkb
    · simp only [drJ, upJ_ne hki] at hkb
      exact h.bs hk hkb
/-- nothing but its own cells has changed -/
def cK (o : Nat) (ad va : Nat → Nat) (n : Nat) (w u : Wd) : Prop := ∀ q, ¬ cF o ad va n q → u q = w q
theorem cK.rf : cK o ad va n w w := fun _ _ => rfl
theorem cK.tr {u v : Wd} (h1 : cK o ad va n w u) (h2 : cK o ad va n u v) : cK o ad va n w v := fun q hq => (h2 q hq).trans (h1 q hq)
theorem cK.set {u : Wd} {a : Nat} {x : va_E} (h : cK o ad va n w u) (ha : cF o ad va n a) : cK o ad va n w (wset u a x) := fun q hq => by
  have hqa : q ≠ a := by
    intro e
    rw [e] at hq
    exact hq ha
  rw [wset_ne hqa]
  exact h q hq
theorem cF_o : cF o ad va n o := Or.inl rfl
theorem cF_ad {i : Nat} (hi : i < n) : cF o ad va n (ad i) := Or.inr ⟨i, hi, Or.inl rfl⟩
theorem cF_va {i : Nat} (hi : i < n) : cF o ad va n (va i) := Or.inr ⟨i, hi, Or.inr rfl⟩
end CREP
end
section
/-! the class's cells, changed by tell, end, begin -/
def upN (f : Nat → Nat) (k v : Nat) : Nat → Nat := fun i => if i = k then v else f i
theorem upN_at (f : Nat → Nat) (k v : Nat) : upN f k v k = v := by simp [upN]
theorem upN_ne {f : Nat → Nat} {k v i : Nat} (h : i ≠ k) : upN f k v i = f i := by simp [upN, h]
theorem wset_none {w : Wd} {a q : Nat} {x : va_E} (h : wset w a x q = none) : w q = none ∧ q ≠ a := by
  by_cases e : q = a
  · rw [e, wset_at] at h
    cases h
  · rw [wset_ne e] at h
    exact ⟨h, e⟩
theorem prv_upN {ad : Nat → Nat} {n q i : Nat} (h : i ≤ n) : prv (upN ad n q) i = prv ad i := by
  cases i with
  | zero => rfl
  | succ k => simp only [prv]; rw [upN_ne (by omega)]
theorem map_upN {ad : Nat → Nat} {n q : Nat} {o : Option Nat} (h : ∀ i, o = some i → i < n) : o.map (upN ad n q) = o.map ad := by
  cases o with
  | none => rfl
  | some i =>
    have := h i rfl
    simp only [Option.map_some]
    rw [upN_ne (by omega)]
section CREP2
variable {cI : ClassId} {o : Nat} {ad va : Nat → Nat} {now : Int32} {n : Nat} {J : Nat → Jr} {w : Wd}
theorem cR.tell (h : cR cI o ad va now n J w) {i k : Nat} (hi : i < n) (v : Int32) : cR cI o ad va now n (teJ J i k v) (wset w (va i) (.inl (cI, 50, .inl (upd (jVr (J i)) k v)))) := by
  have hs : ∀ x, sd n (teJ J i k v) x = sd n J x := fun x => sd_ext fun j hj => by
    by_cases hji : j = i
    · subst hji; simp [teJ, upJ]
    · simp [teJ, upJ, hji]
  refine ⟨?_, fun j hj => ?_, fun j hj => ?_, h.2.2.2.1, h.2.2.2.2.1, fun j hj b hjb => ?_, h.n200⟩
  · rw [wset_ne (h.vao hi).symm]; exact h.1
  · rw [wset_ne (h.vaad hi hj).symm, h.2.1 j hj]
    simp only [jL]
    rw [hs]
    by_cases hji : j = i
    · subst hji; simp [teJ, upJ]
    · simp [teJ, upJ, hji]
  · by_cases hji : j = i
    · subst hji
      rw [wset_at]
      simp [teJ, upJ]
    · rw [wset_ne (h.vava hj hi hji), h.2.2.1 j hj]
      simp [teJ, upJ, hji]
  · by_cases hji : j = i
    · subst hji
      simp only [teJ, upJ_at] at hjb
      exact h.bs hi hjb
    · simp only [teJ, upJ_ne hji] at hjb
      exact h.bs hj hjb
theorem cR.endj (h : cR cI o ad va now n J w) {i : Nat} (hi : i < n) (t st : Int32) : cR cI o ad va now n (enJ J i t st) (wset w (ad i) (.inr (0, [.int (nI i), .int (jSer (J i)), .int (jLev (J i)), .int (bI (jUp (J i))), va_rf ((jBs (J i)).map ad), .int (jBg (J i)), va_rf (prv ad i), .ref (va i), .int t, .int st, .int (bI (jPr (J i))), .int (nI (sd n J i))]))) := by
  have hs : ∀ x, sd n (enJ J i t st) x = sd n J x := fun x => sd_ext fun j hj => by
    by_cases hji : j = i
    · subst hji; simp [enJ, upJ]
    · simp [enJ, upJ, hji]
  refine ⟨?_, fun j hj => ?_, fun j hj => ?_, h.2.2.2.1, h.2.2.2.2.1, fun j hj b hjb => ?_, h.n200⟩
  · rw [wset_ne (h.ado hi).symm]; exact h.1
  · simp only [jL]
    rw [hs]
    by_cases hji : j = i
    · subst hji
      rw [wset_at]
      simp [enJ, upJ]
    · rw [wset_ne (h.adad hj hi hji), h.2.1 j hj]
      simp [enJ, upJ, hji]
  · rw [wset_ne (h.vaad hj hi), h.2.2.1 j hj]
    by_cases hji : j = i
    · subst hji; simp [enJ, upJ]
    · simp [enJ, upJ, hji]
  · by_cases hji : j = i
    · subst hji
      simp only [enJ, upJ_at] at hjb
      exact h.bs hi hjb
    · simp only [enJ, upJ_ne hji] at hjb
      exact h.bs hj hjb
theorem cR.pass (h : cR cI o ad va now n J w) (t : Int32) : cR cI o ad va t n J (wset w o (.inr (1, [.int t, .int (nI n), va_rf (prv ad n)]))) :=
  ⟨wset_at _ _ _, fun j hj => by rw [wset_ne (h.ado hj)]; exact h.2.1 j hj, fun j hj => by rw [wset_ne (h.vao hj)]; exact h.2.2.1 j hj, h.2.2.2⟩
theorem cR.beg (h : cR cI o ad va now n J w) (hn : n < 200) {q1 q2 : Nat} (h1 : w q1 = none) (h2 : w q2 = none) {s l : Int32} {b : Option Nat} (hb : ∀ i, b = some i → i < n) {u : Wd}
    (uo : u o = some (.inr (1, [.int now, .int (nI n + 1), .ref q1])))
    (u1 : u q1 = some (.inr (0, [.int (nI n), .int s, .int (if b = none then 0 else l), .int (bI (decide (b = none) && decide (l ≠ 0))), va_rf (b.map ad), .int now, va_rf (prv ad n), .ref q2, .int (-1), .int 0, .int 0, .int 0])))
    (u2 : u q2 = some (.inl (cI, 50, .inl (fun _ => -2))))
    (ua : ∀ i, i < n → u (ad i) = some (.inr (0, [.int (nI i), .int (jSer (J i)), .int (jLev (J i)), .int (bI (jUp (J i))), va_rf ((jBs (J i)).map ad), .int (jBg (J i)), va_rf (prv ad i), .ref (va i), .int (jEn (J i)), .int (jSt (J i)), .int (bI (jPr (J i))), .int (nI (sd n J i + (if b = some i then 1 else 0)))])))
    (uv : ∀ i, i < n → u (va i) = w (va i)) : cR cI o (upN ad n q1) (upN va n q2) now (n + 1) (upJ J n (nwJ s l b now)) u := by
  have hs : ∀ x, sd (n + 1) (upJ J n (nwJ s l b now)) x = sd n J x + (if b = some x then 1 else 0) := fun x => sd_new rfl
  have hs0 : sd (n + 1) (upJ J n (nwJ s l b now)) n = 0 := by
    rw [hs, sd_none (Nat.le_refl n) h.2.2.2.2.2.1, if_neg (fun e => by have := hb n e; omega)]
  have n1 : ∀ i, i < n → ad i ≠ q1 := fun i hi e => by have := h.2.1 i hi; rw [e, h1] at this; cases this
  have n2 : ∀ i, i < n → va i ≠ q2 := fun i hi e => by have := h.2.2.1 i hi; rw [e, h2] at this; cases this
  refine ⟨?_, fun i hi => ?_, fun i hi => ?_, fun i j hi hj e => ?_, fun i j hi hj e => ?_, fun i hi x hx => ?_, hn⟩
  · rw [uo, nI_1]
    simp only [prv, upN_at]
    rfl
  · by_cases hin : i = n
    · subst hin
      simp only [jL]
      rw [upN_at, u1, hs0, prv_upN (Nat.le_refl i), upN_at, upJ_at]
      simp only [nwJ]
      rw [map_upN hb, nI_0]
      rfl
    · have hi' : i < n := by omega
      simp only [jL]
      rw [upN_ne hin, ua i hi', hs, prv_upN (by omega), upN_ne hin, upJ_ne hin, map_upN (fun x hx => by have := h.bs hi' hx; omega)]
  · by_cases hin : i = n
    · subst hin
      rw [upN_at, u2, upJ_at]
      rfl
    · have hi' : i < n := by omega
      rw [upN_ne hin, uv i hi', h.2.2.1 i hi', upJ_ne hin]
  · by_cases hin : i = n
    · by_cases hjn : j = n
      · omega
      · rw [hin, upN_at, upN_ne hjn] at e
        exact absurd e.symm (n1 j (by omega))
    · by_cases hjn : j = n
      · rw [hjn, upN_at, upN_ne hin] at e
        exact absurd e (n1 i (by omega))
      · rw [upN_ne hin, upN_ne hjn] at e
        exact h.2.2.2.1 i j (by omega) (by omega) e
  · by_cases hin : i = n
    · by_cases hjn : j = n
      · omega
      · rw [hin, upN_at, upN_ne hjn] at e
        exact absurd e.symm (n2 j (by omega))
    · by_cases hjn : j = n
      · rw [hjn, upN_at, upN_ne hin] at e
        exact absurd e (n2 i (by omega))
      · rw [upN_ne hin, upN_ne hjn] at e
        exact h.2.2.2.2.1 i j (by omega) (by omega) e
  · by_cases hin : i = n
    · subst hin
      rw [upJ_at] at hx
      exact hb x hx
    · rw [upJ_ne hin] at hx
      exact h.bs (by omega) hx
end CREP2
/-! the model's calls -/
def tells (n : Nat) (J : Nat → Jr) (x f v : Int32) : Bool := match fJ n x with
  | none => false
  | some i => decide (jSt (J i) = 0) && isF f && (if v = -1 then decide (jLev (J i) ≠ 0) else decide (0 ≤ v) && decide (v ≤ 1000000))
def teN (n : Nat) (J : Nat → Jr) (x f v : Int32) : Nat → Jr := match fJ n x with
  | none => J
  | some i => if tells n J x f v = true then teJ J i f.toNatClampNeg v else J
def ends (n : Nat) (J : Nat → Jr) (x : Int32) : Bool := match fJ n x with
  | none => false
  | some i => decide (jSt (J i) = 0)
def enN (n : Nat) (J : Nat → Jr) (x g now : Int32) : Nat → Jr := match fJ n x with
  | none => J
  | some i => if jSt (J i) = 0 then enJ J i now (if g = 0 then 2 else 1) else J
def prs (n : Nat) (J : Nat → Jr) (x : Int32) : Bool := match fJ n x with
  | none => false
  | some i => fr n J i
def prN (n : Nat) (J : Nat → Jr) (x : Int32) : Nat → Jr := match fJ n x with
  | none => J
  | some i => if fr n J i = true then drJ J i else J
def bgs (n : Nat) (J : Nat → Jr) (s l : Int32) : Bool := decide (0 ≤ s) && decide (s < 8) && (decide (0 ≤ l) && decide (l ≤ 2)) && decide (n < 200) && !hRun n J s
def cntw (now : Int32) (n : Nat) (J : Nat → Jr) (x : Int32) : Int32 := if x = 0 then now else if x = 1 then nI n else if x = 2 then nI (cnt (fun j => decide (jSt (J j) = 0)) n) else if x = 3 then nI (cnt (fun j => jPr (J j)) n) else -1
def jobw (n : Nat) (J : Nat → Jr) (x y : Int32) : Int32 := match fJ n x with
  | none => -1
  | some i => if y = 0 then jSer (J i) else if y = 1 then jLev (J i) else if y = 2 then bI (jUp (J i)) else if y = 3 then oI (jBs (J i)) else if y = 4 then jBg (J i) else if y = 5 then jEn (J i) else if y = 6 then jSt (J i) else if y = 7 then bI (jPr (J i)) else if y = 8 then nI (cnt (fun j => decide (jVr (J i) j ≠ -2)) 50) else if y = 9 then (match jBs (J i) with | none => -1 | some b => jBg (J b)) else if y = 10 then nI (sd n J i) else -1
theorem fJ_lt {n : Nat} {x : Int32} {i : Nat} (h : fJ n x = some i) : i < n ∧ nI i = x := ⟨(lastI_some h).1, by simpa using (lastI_some h).2.1⟩
abbrev DEFJ : List Value := [.int 0, .int 0, .int 0, .int 0, va_rf none, .int 0, va_rf none, va_rf none, .int 0, .int 0, .int 0, .int 0]
theorem defJ : ∀ j, j < 12 → defaultValue (t_J j) = vp_V DEFJ j := by
  intro j hj
  match j, hj with
  | 0, _ => rfl
  | 1, _ => rfl
  | 2, _ => rfl
  | 3, _ => rfl
  | 4, _ => rfl
  | 5, _ => rfl
  | 6, _ => rfl
  | 7, _ => rfl
  | 8, _ => rfl
  | 9, _ => rfl
  | 10, _ => rfl
  | 11, _ => rfl
  | k + 12, h => omega
theorem fr_pr {n : Nat} {J : Nat → Jr} {i : Nat} (h : fr n J i = true) : jPr (J i) = false := by
  simp [fr] at h
  exact h.1.2
theorem nI_lt200 {n : Nat} (hn : n ≤ 200) (h : ¬ (200 : Int32) ≤ nI n) : n < 200 := by
  rcases Nat.lt_or_ge n 200 with h1 | h1
  · exact h1
  · exact absurd (nI_le (a := 200) (b := n) h1 (by omega)) h
end
section
set_option maxHeartbeats 4000000 in
set_option maxRecDepth 100000 in
theorem kC_isSeries (l : Launch) (B : Nat) (D : va_G) (cI cZ cL : ClassId) (w : Wd) (x : Int32) : Met l yC_isSeries (.code yC_isSeries cC_isSeries 1 (some .boolean) :: BIG) { frames := 0, cells := 0, slots := 0, locals := 0 } (va_Pc [.int (x)] (mP B D CLS (TYS cI cZ cL) NEST w)) (va_Qi (fun r u => r = bI (decide (0 ≤ x) && decide (x < 8)) ∧ u = w) (mE B D CLS) (fun q => B ≤ q)) 0 0 (fun q => B ≤ q) := by
  refine mMet (by decide) rfl (Nat.le_of_ble_eq_true rfl) ?_
  intro p e s m below meth c ls hx hb hml hr hlk hnm hown hts hK hN hm hl
  have hE : ME "ChainPicker" (.code yC_isSeries cC_isSeries 1 (some .boolean)) _ s m D (TYS cI cZ cL) := ⟨hown, hts, hK, hN⟩
  have hl : lv_has ls 1 [(0, .int (x))] := hl
  refine lv_iload_n hx hb dC_isSeries_0 rfl (lv_at hl 0 rfl) ?_
  refine lv_if_lt (tgt := 14) hx hb dC_isSeries_1 (by decide) (fun c_1 => ?_) (fun c_1 => ?_)
  · refine lv_iconst (v := 0) hx hb dC_isSeries_14 (by decide) ?_
    exact mretz hx hb hr (by decide +kernel) hlk hm ⟨by simp_all [bI, isF, ← Int32.not_lt], rfl⟩ dC_isSeries_15
  · refine lv_iload_n hx hb dC_isSeries_4 rfl (lv_at hl 0 rfl) ?_
    refine lv_bipush (v := 8) hx hb dC_isSeries_5 (by decide) ?_
    refine lv_icmp_ge (tgt := 14) hx hb dC_isSeries_7 (by decide) (fun c_7 => ?_) (fun c_7 => ?_)
    · refine lv_iconst (v := 0) hx hb dC_isSeries_14 (by decide) ?_
      exact mretz hx hb hr (by decide +kernel) hlk hm ⟨by simp_all [bI, isF, ← Int32.not_lt], rfl⟩ dC_isSeries_15
    · refine lv_iconst (v := 1) hx hb dC_isSeries_10 (by decide) ?_
      refine lv_goto (tgt := 15) hx hb dC_isSeries_11 (by decide) ?_
      exact mretz hx hb hr (by decide +kernel) hlk hm ⟨by simp_all [bI, isF, ← Int32.not_lt], rfl⟩ dC_isSeries_15
set_option maxHeartbeats 4000000 in
set_option maxRecDepth 100000 in
theorem kC_isLevel (l : Launch) (B : Nat) (D : va_G) (cI cZ cL : ClassId) (w : Wd) (x : Int32) : Met l yC_isLevel (.code yC_isLevel cC_isLevel 1 (some .boolean) :: BIG) { frames := 0, cells := 0, slots := 0, locals := 0 } (va_Pc [.int (x)] (mP B D CLS (TYS cI cZ cL) NEST w)) (va_Qi (fun r u => r = bI (decide (0 ≤ x) && decide (x ≤ 2)) ∧ u = w) (mE B D CLS) (fun q => B ≤ q)) 0 0 (fun q => B ≤ q) := by
  refine mMet (by decide) rfl (Nat.le_of_ble_eq_true rfl) ?_
  intro p e s m below meth c ls hx hb hml hr hlk hnm hown hts hK hN hm hl
  have hE : ME "ChainPicker" (.code yC_isLevel cC_isLevel 1 (some .boolean)) _ s m D (TYS cI cZ cL) := ⟨hown, hts, hK, hN⟩
  have hl : lv_has ls 1 [(0, .int (x))] := hl
  refine lv_iload_n hx hb dC_isLevel_0 rfl (lv_at hl 0 rfl) ?_
  refine lv_if_lt (tgt := 13) hx hb dC_isLevel_1 (by decide) (fun c_1 => ?_) (fun c_1 => ?_)
  · refine lv_iconst (v := 0) hx hb dC_isLevel_13 (by decide) ?_
    exact mretz hx hb hr (by decide +kernel) hlk hm ⟨by simp_all [bI, isF, ← Int32.not_lt], rfl⟩ dC_isLevel_14
  · refine lv_iload_n hx hb dC_isLevel_4 rfl (lv_at hl 0 rfl) ?_
    refine lv_iconst (v := 2) hx hb dC_isLevel_5 (by decide) ?_
    refine lv_icmp_gt (tgt := 13) hx hb dC_isLevel_6 (by decide) (fun c_6 => ?_) (fun c_6 => ?_)
    · refine lv_iconst (v := 0) hx hb dC_isLevel_13 (by decide) ?_
      exact mretz hx hb hr (by decide +kernel) hlk hm ⟨by simp_all [bI, isF, ← Int32.not_lt], rfl⟩ dC_isLevel_14
    · refine lv_iconst (v := 1) hx hb dC_isLevel_9 (by decide) ?_
      refine lv_goto (tgt := 14) hx hb dC_isLevel_10 (by decide) ?_
      exact mretz hx hb hr (by decide +kernel) hlk hm ⟨by simp_all [bI, isF, ← Int32.not_lt], rfl⟩ dC_isLevel_14
set_option maxHeartbeats 4000000 in
set_option maxRecDepth 100000 in
theorem kC_isFile (l : Launch) (B : Nat) (D : va_G) (cI cZ cL : ClassId) (w : Wd) (x : Int32) : Met l yC_isFile (.code yC_isFile cC_isFile 1 (some .boolean) :: BIG) { frames := 0, cells := 0, slots := 0, locals := 0 } (va_Pc [.int (x)] (mP B D CLS (TYS cI cZ cL) NEST w)) (va_Qi (fun r u => r = bI (isF x) ∧ u = w) (mE B D CLS) (fun q => B ≤ q)) 0 0 (fun q => B ≤ q) := by
  refine mMet (by decide) rfl (Nat.le_of_ble_eq_true rfl) ?_
  intro p e s m below meth c ls hx hb hml hr hlk hnm hown hts hK hN hm hl
  have hE : ME "ChainPicker" (.code yC_isFile cC_isFile 1 (some .boolean)) _ s m D (TYS cI cZ cL) := ⟨hown, hts, hK, hN⟩
  have hl : lv_has ls 1 [(0, .int (x))] := hl
  refine lv_iload_n hx hb dC_isFile_0 rfl (lv_at hl 0 rfl) ?_
  refine lv_if_lt (tgt := 14) hx hb dC_isFile_1 (by decide) (fun c_1 => ?_) (fun c_1 => ?_)
  · refine lv_iconst (v := 0) hx hb dC_isFile_14 (by decide) ?_
    exact mretz hx hb hr (by decide +kernel) hlk hm ⟨by simp_all [bI, isF, ← Int32.not_lt], rfl⟩ dC_isFile_15
  · refine lv_iload_n hx hb dC_isFile_4 rfl (lv_at hl 0 rfl) ?_
    refine lv_bipush (v := 50) hx hb dC_isFile_5 (by decide) ?_
    refine lv_icmp_ge (tgt := 14) hx hb dC_isFile_7 (by decide) (fun c_7 => ?_) (fun c_7 => ?_)
    · refine lv_iconst (v := 0) hx hb dC_isFile_14 (by decide) ?_
      exact mretz hx hb hr (by decide +kernel) hlk hm ⟨by simp_all [bI, isF, ← Int32.not_lt], rfl⟩ dC_isFile_15
    · refine lv_iconst (v := 1) hx hb dC_isFile_10 (by decide) ?_
      refine lv_goto (tgt := 15) hx hb dC_isFile_11 (by decide) ?_
      exact mretz hx hb hr (by decide +kernel) hlk hm ⟨by simp_all [bI, isF, ← Int32.not_lt], rfl⟩ dC_isFile_15
set_option maxHeartbeats 4000000 in
set_option maxRecDepth 100000 in
theorem kC_isVersion (l : Launch) (B : Nat) (D : va_G) (cI cZ cL : ClassId) (w : Wd) (x : Int32) : Met l yC_isVersion (.code yC_isVersion cC_isVersion 1 (some .boolean) :: BIG) { frames := 0, cells := 0, slots := 0, locals := 0 } (va_Pc [.int (x)] (mP B D CLS (TYS cI cZ cL) NEST w)) (va_Qi (fun r u => r = bI (decide (0 ≤ x) && decide (x ≤ 1000000)) ∧ u = w) (mE B D CLS) (fun q => B ≤ q)) 0 0 (fun q => B ≤ q) := by
  refine mMet (by decide) rfl (Nat.le_of_ble_eq_true rfl) ?_
  intro p e s m below meth c ls hx hb hml hr hlk hnm hown hts hK hN hm hl
  have hE : ME "ChainPicker" (.code yC_isVersion cC_isVersion 1 (some .boolean)) _ s m D (TYS cI cZ cL) := ⟨hown, hts, hK, hN⟩
  have hl : lv_has ls 1 [(0, .int (x))] := hl
  refine lv_iload_n hx hb dC_isVersion_0 rfl (lv_at hl 0 rfl) ?_
  refine lv_if_lt (tgt := 14) hx hb dC_isVersion_1 (by decide) (fun c_1 => ?_) (fun c_1 => ?_)
  · refine lv_iconst (v := 0) hx hb dC_isVersion_14 (by decide) ?_
    exact mretz hx hb hr (by decide +kernel) hlk hm ⟨by simp_all [bI, isF, ← Int32.not_lt], rfl⟩ dC_isVersion_15
  · refine lv_iload_n hx hb dC_isVersion_4 rfl (lv_at hl 0 rfl) ?_
    refine lv_ldc (v := 1000000) hx hb hE.1 (hE.2.1 _ (List.mem_cons_of_mem _ q_122)) dC_isVersion_5 ?_
    refine lv_icmp_gt (tgt := 14) hx hb dC_isVersion_7 (by decide) (fun c_7 => ?_) (fun c_7 => ?_)
    · refine lv_iconst (v := 0) hx hb dC_isVersion_14 (by decide) ?_
      exact mretz hx hb hr (by decide +kernel) hlk hm ⟨by simp_all [bI, isF, ← Int32.not_lt], rfl⟩ dC_isVersion_15
    · refine lv_iconst (v := 1) hx hb dC_isVersion_10 (by decide) ?_
      refine lv_goto (tgt := 15) hx hb dC_isVersion_11 (by decide) ?_
      exact mretz hx hb hr (by decide +kernel) hlk hm ⟨by simp_all [bI, isF, ← Int32.not_lt], rfl⟩ dC_isVersion_15
set_option maxHeartbeats 4000000 in
set_option maxRecDepth 100000 in
theorem kC_isUsable (l : Launch) (B : Nat) (D : va_G) (cI cZ cL : ClassId) (w : Wd) (a : Nat) (x0 x1 x2 x3 : Int32) (x4 : Option Nat) (x5 : Int32) (x6 : Option Nat) (x7 : Nat) (x8 x9 x10 x11 : Int32) (ha : w a = some (.inr (0, [.int (x0), .int (x1), .int (x2), .int (x3), va_rf (x4), .int (x5), va_rf (x6), .ref (x7), .int (x8), .int (x9), .int (x10), .int (x11)]))) : Met l yC_isUsable (.code yC_isUsable cC_isUsable 1 (some .boolean) :: BIG) { frames := 0, cells := 0, slots := 0, locals := 0 } (va_Pc [.ref (a)] (mP B D CLS (TYS cI cZ cL) NEST w)) (va_Qi (fun r u => r = bI (decide (x9 = 1) && decide (x10 = 0)) ∧ u = w) (mE B D CLS) (fun q => B ≤ q)) 0 0 (fun q => B ≤ q) := by
  refine mMet (by decide) rfl (Nat.le_of_ble_eq_true rfl) ?_
  intro p e s m below meth c ls hx hb hml hr hlk hnm hown hts hK hN hm hl
  have hE : ME "ChainPicker" (.code yC_isUsable cC_isUsable 1 (some .boolean)) _ s m D (TYS cI cZ cL) := ⟨hown, hts, hK, hN⟩
  have hl : lv_has ls 1 [(0, .ref (a))] := hl
  refine lv_aload_n hx hb dC_isUsable_0 rfl (lv_at hl 0 rfl) ?_
  refine g_C_J_57 (v := .int (x9)) hx hb hE hm ha rfl dC_isUsable_1 ?_
  refine lv_iconst (v := 1) hx hb dC_isUsable_4 (by decide) ?_
  refine lv_icmp_ne (tgt := 19) hx hb dC_isUsable_5 (by decide) (fun c_5 => ?_) (fun c_5 => ?_)
  · refine lv_iconst (v := 0) hx hb dC_isUsable_19 (by decide) ?_
    exact mretz hx hb hr (by decide +kernel) hlk hm ⟨by simp_all [bI], rfl⟩ dC_isUsable_20
  · refine lv_aload_n hx hb dC_isUsable_8 rfl (lv_at hl 0 rfl) ?_
    refine g_C_J_121 (v := .int (x10)) hx hb hE hm ha rfl dC_isUsable_9 ?_
    refine lv_if_ne (tgt := 19) hx hb dC_isUsable_12 (by decide) (fun c_12 => ?_) (fun c_12 => ?_)
    · refine lv_iconst (v := 0) hx hb dC_isUsable_19 (by decide) ?_
      exact mretz hx hb hr (by decide +kernel) hlk hm ⟨by simp_all [bI], rfl⟩ dC_isUsable_20
    · refine lv_iconst (v := 1) hx hb dC_isUsable_15 (by decide) ?_
      refine lv_goto (tgt := 20) hx hb dC_isUsable_16 (by decide) ?_
      exact mretz hx hb hr (by decide +kernel) hlk hm ⟨by simp_all [bI], rfl⟩ dC_isUsable_20
set_option maxHeartbeats 4000000 in
set_option maxRecDepth 100000 in
theorem kC_isFree (l : Launch) (B : Nat) (D : va_G) (cI cZ cL : ClassId) (w : Wd) (a : Nat) (x0 x1 x2 x3 : Int32) (x4 : Option Nat) (x5 : Int32) (x6 : Option Nat) (x7 : Nat) (x8 x9 x10 x11 : Int32) (ha : w a = some (.inr (0, [.int (x0), .int (x1), .int (x2), .int (x3), va_rf (x4), .int (x5), va_rf (x6), .ref (x7), .int (x8), .int (x9), .int (x10), .int (x11)]))) : Met l yC_isFree (.code yC_isFree cC_isFree 1 (some .boolean) :: BIG) { frames := 0, cells := 0, slots := 0, locals := 0 } (va_Pc [.ref (a)] (mP B D CLS (TYS cI cZ cL) NEST w)) (va_Qi (fun r u => r = bI (decide (x9 ≠ 0) && decide (x10 = 0) && decide (x11 = 0)) ∧ u = w) (mE B D CLS) (fun q => B ≤ q)) 0 0 (fun q => B ≤ q) := by
  refine mMet (by decide) rfl (Nat.le_of_ble_eq_true rfl) ?_
  intro p e s m below meth c ls hx hb hml hr hlk hnm hown hts hK hN hm hl
  have hE : ME "ChainPicker" (.code yC_isFree cC_isFree 1 (some .boolean)) _ s m D (TYS cI cZ cL) := ⟨hown, hts, hK, hN⟩
  have hl : lv_has ls 1 [(0, .ref (a))] := hl
  refine lv_aload_n hx hb dC_isFree_0 rfl (lv_at hl 0 rfl) ?_
  refine g_C_J_57 (v := .int (x9)) hx hb hE hm ha rfl dC_isFree_1 ?_
  refine lv_if_eq (tgt := 25) hx hb dC_isFree_4 (by decide) (fun c_4 => ?_) (fun c_4 => ?_)
  · refine lv_iconst (v := 0) hx hb dC_isFree_25 (by decide) ?_
    exact mretz hx hb hr (by decide +kernel) hlk hm ⟨by simp_all [bI], rfl⟩ dC_isFree_26
  · refine lv_aload_n hx hb dC_isFree_7 rfl (lv_at hl 0 rfl) ?_
    refine g_C_J_121 (v := .int (x10)) hx hb hE hm ha rfl dC_isFree_8 ?_
    refine lv_if_ne (tgt := 25) hx hb dC_isFree_11 (by decide) (fun c_11 => ?_) (fun c_11 => ?_)
    · refine lv_iconst (v := 0) hx hb dC_isFree_25 (by decide) ?_
      exact mretz hx hb hr (by decide +kernel) hlk hm ⟨by simp_all [bI], rfl⟩ dC_isFree_26
    · refine lv_aload_n hx hb dC_isFree_14 rfl (lv_at hl 0 rfl) ?_
      refine g_C_J_42 (v := .int (x11)) hx hb hE hm ha rfl dC_isFree_15 ?_
      refine lv_if_ne (tgt := 25) hx hb dC_isFree_18 (by decide) (fun c_18 => ?_) (fun c_18 => ?_)
      · refine lv_iconst (v := 0) hx hb dC_isFree_25 (by decide) ?_
        exact mretz hx hb hr (by decide +kernel) hlk hm ⟨by simp_all [bI], rfl⟩ dC_isFree_26
      · refine lv_iconst (v := 1) hx hb dC_isFree_21 (by decide) ?_
        refine lv_goto (tgt := 26) hx hb dC_isFree_22 (by decide) ?_
        exact mretz hx hb hr (by decide +kernel) hlk hm ⟨by simp_all [bI], rfl⟩ dC_isFree_26
end
section
set_option maxHeartbeats 4000000 in
set_option maxRecDepth 100000 in
theorem kC_findJob (l : Launch) (B : Nat) (D : va_G) (cI cZ cL : ClassId) (w : Wd) (o : Nat) (ad va : Nat → Nat) (now : Int32) (n : Nat) (J : Nat → Jr) (hR : cR cI o ad va now n J w) (x : Int32) : Met l yC_findJob (.code yC_findJob cC_findJob 3 (some (.object "ChainPicker$Job")) :: BIG) { frames := 0, cells := 0, slots := 0, locals := 0 } (va_Pc [.ref (o), .int (x)] (mP B D CLS (TYS cI cZ cL) NEST w)) (va_Qq (fun r u => r = (fJ n x).map ad ∧ u = w) (mE B D CLS) (fun q => B ≤ q)) 0 0 (fun q => B ≤ q) := by
  refine mMet (by decide) rfl (Nat.le_of_ble_eq_true rfl) ?_
  intro p e s m below meth c ls hx hb hml hr hlk hnm hown hts hK hN hm hl
  have hE : ME "ChainPicker" (.code yC_findJob cC_findJob 3 (some (.object "ChainPicker$Job"))) _ s m D (TYS cI cZ cL) := ⟨hown, hts, hK, hN⟩
  have hl : lv_has ls 3 [(0, .ref (o)), (1, .int (x))] := hl
  have loop : ∀ k, k ≤ n → lastI (fun j => decide (nI j = x)) n = lastI (fun j => decide (nI j = x)) k → ∀ (H : Heap) (locs : List Loc) (ls : Array Slot), mS B D CLS s.heap w H locs → lv_has ls 3 [(2, va_rf (prv ad k)), (0, .ref (o)), (1, .int (x))] → W p l e ({ frames := 0, cells := 0, slots := 0, locals := 0 }) s m [.ref (o), .int (x)].toArray below meth c H locs 0 0 (MQ below (va_Qq (fun r u => r = (fJ n x).map ad ∧ u = w) (mE B D CLS) (fun q => B ≤ q)) [.ref (o), .int (x)].toArray s 0 0 (fun q => B ≤ q)) (F0 m 5 ls []) := by
    intro k
    induction k with
    | zero =>
      intro hk heq H locs ls hm hl
      have hl : lv_has ls 3 [(2, .null), (0, .ref (o)), (1, .int (x))] := hl
      refine lv_aload_nN hx hb dC_findJob_5 rfl (lv_at hl 0 rfl) ?_
      refine lv_ifnullN (tgt := 27) hx hb dC_findJob_6 (by decide) ?_
      refine lv_null hx hb dC_findJob_27 ?_
      exact mretq (r := none) hx hb hr (Or.inl ⟨_, rfl⟩) hlk hm ⟨by rw [fJ, heq]; rfl, rfl⟩ dC_findJob_28
    | succ k ih =>
      intro hk heq H locs ls hm hl
      have hl : lv_has ls 3 [(2, .ref (ad k)), (0, .ref (o)), (1, .int (x))] := hl
      have hk1 : k < n := hk
      refine lv_aload_n hx hb dC_findJob_5 rfl (lv_at hl 0 rfl) ?_
      refine lv_ifnull hx hb dC_findJob_6 ?_
      refine lv_aload_n hx hb dC_findJob_9 rfl (lv_at hl 0 rfl) ?_
      refine g_C_J_50 (v := .int (nI k)) hx hb hE hm (hR.2.1 k hk1) rfl dC_findJob_10 ?_
      refine lv_iload_n hx hb dC_findJob_13 rfl (lv_at hl 2 rfl) ?_
      refine lv_icmp_ne (tgt := 19) hx hb dC_findJob_14 (by decide) (fun c_14 => ?_) (fun c_14 => ?_)
      · refine lv_aload_n hx hb dC_findJob_19 rfl (lv_at hl 0 rfl) ?_
        refine g_C_J_108 (v := va_rf (prv ad k)) hx hb hE hm (hR.2.1 k hk1) rfl dC_findJob_20 ?_
        refine mstoreR (lv' := [(2, va_rf (prv ad k)), (0, .ref (o)), (1, .int (x))]) hx hb dC_findJob_23 rfl hl (by decide) rfl (fun ls hl => ?_)
        refine lv_goto (tgt := 5) hx hb dC_findJob_24 (by decide) ?_
        exact ih (Nat.le_of_succ_le hk) (by rw [heq]; exact lastI_f (by simp [c_14, dec_0, bI_0, ← Int32.not_lt])) H locs ls hm (lv_sub hl [0, 1, 2] rfl)
      · refine lv_aload_n hx hb dC_findJob_17 rfl (lv_at hl 0 rfl) ?_
        exact mretq (r := some (ad k)) hx hb hr (Or.inl ⟨_, rfl⟩) hlk hm ⟨by rw [fJ, heq, lastI_t (by simp [c_14, dec_0, bI_0, ← Int32.not_lt])]; rfl, rfl⟩ dC_findJob_18
  refine lv_aload_n hx hb dC_findJob_0 rfl (lv_at hl 0 rfl) ?_
  refine g_C_C_16 (v := va_rf (prv ad n)) hx hb hE hm hR.1 rfl dC_findJob_1 ?_
  refine mstoreR (lv' := [(2, va_rf (prv ad n)), (0, .ref (o)), (1, .int (x))]) hx hb dC_findJob_4 rfl hl (by decide) rfl (fun ls hl => ?_)
  exact loop n (Nat.le_refl n) rfl _ _ ls hm hl
set_option maxHeartbeats 4000000 in
set_option maxRecDepth 100000 in
theorem kC_hasRunning (l : Launch) (B : Nat) (D : va_G) (cI cZ cL : ClassId) (w : Wd) (o : Nat) (ad va : Nat → Nat) (now : Int32) (n : Nat) (J : Nat → Jr) (hR : cR cI o ad va now n J w) (x : Int32) : Met l yC_hasRunning (.code yC_hasRunning cC_hasRunning 3 (some .boolean) :: BIG) { frames := 0, cells := 0, slots := 0, locals := 0 } (va_Pc [.ref (o), .int (x)] (mP B D CLS (TYS cI cZ cL) NEST w)) (va_Qi (fun r u => r = bI (hRun n J x) ∧ u = w) (mE B D CLS) (fun q => B ≤ q)) 0 0 (fun q => B ≤ q) := by
  refine mMet (by decide) rfl (Nat.le_of_ble_eq_true rfl) ?_
  intro p e s m below meth c ls hx hb hml hr hlk hnm hown hts hK hN hm hl
  have hE : ME "ChainPicker" (.code yC_hasRunning cC_hasRunning 3 (some .boolean)) _ s m D (TYS cI cZ cL) := ⟨hown, hts, hK, hN⟩
  have hl : lv_has ls 3 [(0, .ref (o)), (1, .int (x))] := hl
  have loop : ∀ k, k ≤ n → lastI (fun j => decide (jSer (J j) = x) && decide (jSt (J j) = 0)) n = lastI (fun j => decide (jSer (J j) = x) && decide (jSt (J j) = 0)) k → ∀ (H : Heap) (locs : List Loc) (ls : Array Slot), mS B D CLS s.heap w H locs → lv_has ls 3 [(2, va_rf (prv ad k)), (0, .ref (o)), (1, .int (x))] → W p l e ({ frames := 0, cells := 0, slots := 0, locals := 0 }) s m [.ref (o), .int (x)].toArray below meth c H locs 0 0 (MQ below (va_Qi (fun r u => r = bI (hRun n J x) ∧ u = w) (mE B D CLS) (fun q => B ≤ q)) [.ref (o), .int (x)].toArray s 0 0 (fun q => B ≤ q)) (F0 m 5 ls []) := by
    intro k
    induction k with
    | zero =>
      intro hk heq H locs ls hm hl
      have hl : lv_has ls 3 [(2, .null), (0, .ref (o)), (1, .int (x))] := hl
      refine lv_aload_nN hx hb dC_hasRunning_5 rfl (lv_at hl 0 rfl) ?_
      refine lv_ifnullN (tgt := 34) hx hb dC_hasRunning_6 (by decide) ?_
      refine lv_iconst (v := 0) hx hb dC_hasRunning_34 (by decide) ?_
      exact mretz hx hb hr (by decide +kernel) hlk hm ⟨by rw [hRun, heq]; rfl, rfl⟩ dC_hasRunning_35
    | succ k ih =>
      intro hk heq H locs ls hm hl
      have hl : lv_has ls 3 [(2, .ref (ad k)), (0, .ref (o)), (1, .int (x))] := hl
      have hk1 : k < n := hk
      refine lv_aload_n hx hb dC_hasRunning_5 rfl (lv_at hl 0 rfl) ?_
      refine lv_ifnull hx hb dC_hasRunning_6 ?_
      refine lv_aload_n hx hb dC_hasRunning_9 rfl (lv_at hl 0 rfl) ?_
      refine g_C_J_111 (v := .int (jSer (J k))) hx hb hE hm (hR.2.1 k hk1) rfl dC_hasRunning_10 ?_
      refine lv_iload_n hx hb dC_hasRunning_13 rfl (lv_at hl 2 rfl) ?_
      refine lv_icmp_ne (tgt := 26) hx hb dC_hasRunning_14 (by decide) (fun c_14 => ?_) (fun c_14 => ?_)
      · refine lv_aload_n hx hb dC_hasRunning_26 rfl (lv_at hl 0 rfl) ?_
        refine g_C_J_108 (v := va_rf (prv ad k)) hx hb hE hm (hR.2.1 k hk1) rfl dC_hasRunning_27 ?_
        refine mstoreR (lv' := [(2, va_rf (prv ad k)), (0, .ref (o)), (1, .int (x))]) hx hb dC_hasRunning_30 rfl hl (by decide) rfl (fun ls hl => ?_)
        refine lv_goto (tgt := 5) hx hb dC_hasRunning_31 (by decide) ?_
        exact ih (Nat.le_of_succ_le hk) (by rw [heq]; exact lastI_f (by simp [c_14, dec_0, bI_0, ← Int32.not_lt])) H locs ls hm (lv_sub hl [0, 1, 2] rfl)
      · refine lv_aload_n hx hb dC_hasRunning_17 rfl (lv_at hl 0 rfl) ?_
        refine g_C_J_57 (v := .int (jSt (J k))) hx hb hE hm (hR.2.1 k hk1) rfl dC_hasRunning_18 ?_
        refine lv_if_ne (tgt := 26) hx hb dC_hasRunning_21 (by decide) (fun c_21 => ?_) (fun c_21 => ?_)
        · refine lv_aload_n hx hb dC_hasRunning_26 rfl (lv_at hl 0 rfl) ?_
          refine g_C_J_108 (v := va_rf (prv ad k)) hx hb hE hm (hR.2.1 k hk1) rfl dC_hasRunning_27 ?_
          refine mstoreR (lv' := [(2, va_rf (prv ad k)), (0, .ref (o)), (1, .int (x))]) hx hb dC_hasRunning_30 rfl hl (by decide) rfl (fun ls hl => ?_)
          refine lv_goto (tgt := 5) hx hb dC_hasRunning_31 (by decide) ?_
          exact ih (Nat.le_of_succ_le hk) (by rw [heq]; exact lastI_f (by simp [c_14, c_21, dec_0, bI_0, ← Int32.not_lt])) H locs ls hm (lv_sub hl [0, 1, 2] rfl)
        · refine lv_iconst (v := 1) hx hb dC_hasRunning_24 (by decide) ?_
          exact mretz hx hb hr (by decide +kernel) hlk hm ⟨by rw [hRun, heq, lastI_t (by simp [c_14, c_21, dec_0, bI_0, ← Int32.not_lt])]; rfl, rfl⟩ dC_hasRunning_25
  refine lv_aload_n hx hb dC_hasRunning_0 rfl (lv_at hl 0 rfl) ?_
  refine g_C_C_16 (v := va_rf (prv ad n)) hx hb hE hm hR.1 rfl dC_hasRunning_1 ?_
  refine mstoreR (lv' := [(2, va_rf (prv ad n)), (0, .ref (o)), (1, .int (x))]) hx hb dC_hasRunning_4 rfl hl (by decide) rfl (fun ls hl => ?_)
  exact loop n (Nat.le_refl n) rfl _ _ ls hm hl
set_option maxHeartbeats 4000000 in
set_option maxRecDepth 100000 in
theorem kC_findHead (l : Launch) (B : Nat) (D : va_G) (cI cZ cL : ClassId) (w : Wd) (o : Nat) (ad va : Nat → Nat) (now : Int32) (n : Nat) (J : Nat → Jr) (hR : cR cI o ad va now n J w) (x : Int32) (t : Int32) : Met l yC_findHead (.code yC_findHead cC_findHead 4 (some (.object "ChainPicker$Job")) :: BIG) { frames := 1, cells := 0, slots := 0, locals := 20 } (va_Pc [.ref (o), .int (x), .int (t)] (mP B D CLS (TYS cI cZ cL) NEST w)) (va_Qq (fun r u => r = (hd n J x t).map ad ∧ u = w) (mE B D CLS) (fun q => B ≤ q)) 0 0 (fun q => B ≤ q) := by
  refine mMet (by decide) rfl (Nat.le_of_ble_eq_true rfl) ?_
  intro p e s m below meth c ls hx hb hml hr hlk hnm hown hts hK hN hm hl
  have hE : ME "ChainPicker" (.code yC_findHead cC_findHead 4 (some (.object "ChainPicker$Job"))) _ s m D (TYS cI cZ cL) := ⟨hown, hts, hK, hN⟩
  have hl : lv_has ls 4 [(0, .ref (o)), (1, .int (x)), (2, .int (t))] := hl
  have loop : ∀ k, k ≤ n → lastI (fun j => decide (jSer (J j) = x) && uz (J j) && decide (jEn (J j) ≤ t)) n = lastI (fun j => decide (jSer (J j) = x) && uz (J j) && decide (jEn (J j) ≤ t)) k → ∀ (H : Heap) (locs : List Loc) (ls : Array Slot), mS B D CLS s.heap w H locs → lv_has ls 4 [(3, va_rf (prv ad k)), (0, .ref (o)), (1, .int (x)), (2, .int (t))] → W p l e ({ frames := 1, cells := 0, slots := 0, locals := 20 }) s m [.ref (o), .int (x), .int (t)].toArray below meth c H locs 0 0 (MQ below (va_Qq (fun r u => r = (hd n J x t).map ad ∧ u = w) (mE B D CLS) (fun q => B ≤ q)) [.ref (o), .int (x), .int (t)].toArray s 0 0 (fun q => B ≤ q)) (F0 m 5 ls []) := by
    intro k
    induction k with
    | zero =>
      intro hk heq H locs ls hm hl
      have hl : lv_has ls 4 [(3, .null), (0, .ref (o)), (1, .int (x)), (2, .int (t))] := hl
      refine lv_aload_nN hx hb dC_findHead_5 rfl (lv_at hl 0 rfl) ?_
      refine lv_ifnullN (tgt := 42) hx hb dC_findHead_6 (by decide) ?_
      refine lv_null hx hb dC_findHead_42 ?_
      exact mretq (r := none) hx hb hr (Or.inl ⟨_, rfl⟩) hlk hm ⟨by rw [hd, heq]; rfl, rfl⟩ dC_findHead_43
    | succ k ih =>
      intro hk heq H locs ls hm hl
      have hl : lv_has ls 4 [(3, .ref (ad k)), (0, .ref (o)), (1, .int (x)), (2, .int (t))] := hl
      have hk1 : k < n := hk
      refine lv_aload_n hx hb dC_findHead_5 rfl (lv_at hl 0 rfl) ?_
      refine lv_ifnull hx hb dC_findHead_6 ?_
      refine lv_aload_n hx hb dC_findHead_9 rfl (lv_at hl 0 rfl) ?_
      refine g_C_J_111 (v := .int (jSer (J k))) hx hb hE hm (hR.2.1 k hk1) rfl dC_findHead_10 ?_
      refine lv_iload_n hx hb dC_findHead_13 rfl (lv_at hl 2 rfl) ?_
      refine lv_icmp_ne (tgt := 34) hx hb dC_findHead_14 (by decide) (fun c_14 => ?_) (fun c_14 => ?_)
      · refine lv_aload_n hx hb dC_findHead_34 rfl (lv_at hl 0 rfl) ?_
        refine g_C_J_108 (v := va_rf (prv ad k)) hx hb hE hm (hR.2.1 k hk1) rfl dC_findHead_35 ?_
        refine mstoreR (lv' := [(3, va_rf (prv ad k)), (0, .ref (o)), (1, .int (x)), (2, .int (t))]) hx hb dC_findHead_38 rfl hl (by decide) rfl (fun ls hl => ?_)
        refine lv_goto (tgt := 5) hx hb dC_findHead_39 (by decide) ?_
        exact ih (Nat.le_of_succ_le hk) (by rw [heq]; exact lastI_f (by simp [c_14, dec_0, bI_0, ← Int32.not_lt])) H locs ls hm (lv_sub hl [0, 1, 2, 3] rfl)
      · refine lv_aload_n hx hb dC_findHead_17 rfl (lv_at hl 0 rfl) ?_
        refine mcalli (mcS (n := 1) (As := [.ref (ad k)]) (rest := []) hx hb hml hE (kC_isUsable l B D cI cZ cL w (ad k) _ _ _ _ _ _ _ _ _ _ _ _ (hR.2.1 k hk1)) q_46 q_47 q_1 q_48 rfl rfl (by decide +kernel) ⟨Nat.le_of_ble_eq_true rfl, Nat.le_of_ble_eq_true rfl⟩ rfl hl.1 hm rfl (Nat.le_of_ble_eq_true rfl) dC_findHead_18 ⟨Nat.le_of_ble_eq_true rfl, Nat.le_of_ble_eq_true rfl⟩) hm (fun r1 u1 H locs hp1 hm => ?_)
        obtain ⟨hr1, hu1⟩ := hp1
        rw [hu1] at hm
        have hr1 := uz_r hr1
        refine lv_if_eq (tgt := 34) hx hb dC_findHead_21 (by decide) (fun c_21 => ?_) (fun c_21 => ?_)
        · rw [hr1, bI_0] at c_21
          refine lv_aload_n hx hb dC_findHead_34 rfl (lv_at hl 0 rfl) ?_
          refine g_C_J_108 (v := va_rf (prv ad k)) hx hb hE hm (hR.2.1 k hk1) rfl dC_findHead_35 ?_
          refine mstoreR (lv' := [(3, va_rf (prv ad k)), (0, .ref (o)), (1, .int (x)), (2, .int (t))]) hx hb dC_findHead_38 rfl hl (by decide) rfl (fun ls hl => ?_)
          refine lv_goto (tgt := 5) hx hb dC_findHead_39 (by decide) ?_
          exact ih (Nat.le_of_succ_le hk) (by rw [heq]; exact lastI_f (by simp [c_14, c_21, dec_0, bI_0, ← Int32.not_lt])) H locs ls hm (lv_sub hl [0, 1, 2, 3] rfl)
        · rw [hr1, bI_0] at c_21
          refine lv_aload_n hx hb dC_findHead_24 rfl (lv_at hl 0 rfl) ?_
          refine g_C_J_73 (v := .int (jEn (J k))) hx hb hE hm (hR.2.1 k hk1) rfl dC_findHead_25 ?_
          refine lv_iload_n hx hb dC_findHead_28 rfl (lv_at hl 3 rfl) ?_
          refine lv_icmp_gt (tgt := 34) hx hb dC_findHead_29 (by decide) (fun c_29 => ?_) (fun c_29 => ?_)
          · refine lv_aload_n hx hb dC_findHead_34 rfl (lv_at hl 0 rfl) ?_
            refine g_C_J_108 (v := va_rf (prv ad k)) hx hb hE hm (hR.2.1 k hk1) rfl dC_findHead_35 ?_
            refine mstoreR (lv' := [(3, va_rf (prv ad k)), (0, .ref (o)), (1, .int (x)), (2, .int (t))]) hx hb dC_findHead_38 rfl hl (by decide) rfl (fun ls hl => ?_)
            refine lv_goto (tgt := 5) hx hb dC_findHead_39 (by decide) ?_
            exact ih (Nat.le_of_succ_le hk) (by rw [heq]; exact lastI_f (by simp [c_14, c_21, c_29, dec_0, bI_0, ← Int32.not_lt])) H locs ls hm (lv_sub hl [0, 1, 2, 3] rfl)
          · refine lv_aload_n hx hb dC_findHead_32 rfl (lv_at hl 0 rfl) ?_
            exact mretq (r := some (ad k)) hx hb hr (Or.inl ⟨_, rfl⟩) hlk hm ⟨by rw [hd, heq, lastI_t (by simp [c_14, c_21, c_29, dec_0, bI_0, ← Int32.not_lt])]; rfl, rfl⟩ dC_findHead_33
  refine lv_aload_n hx hb dC_findHead_0 rfl (lv_at hl 0 rfl) ?_
  refine g_C_C_16 (v := va_rf (prv ad n)) hx hb hE hm hR.1 rfl dC_findHead_1 ?_
  refine mstoreR (lv' := [(3, va_rf (prv ad n)), (0, .ref (o)), (1, .int (x)), (2, .int (t))]) hx hb dC_findHead_4 rfl hl (by decide) rfl (fun ls hl => ?_)
  exact loop n (Nat.le_refl n) rfl _ _ ls hm hl
set_option maxHeartbeats 4000000 in
set_option maxRecDepth 100000 in
theorem kC_countRunning (l : Launch) (B : Nat) (D : va_G) (cI cZ cL : ClassId) (w : Wd) (o : Nat) (ad va : Nat → Nat) (now : Int32) (n : Nat) (J : Nat → Jr) (hR : cR cI o ad va now n J w) : Met l yC_countRunning (.code yC_countRunning cC_countRunning 3 (some .int) :: BIG) { frames := 0, cells := 0, slots := 0, locals := 0 } (va_Pc [.ref (o)] (mP B D CLS (TYS cI cZ cL) NEST w)) (va_Qi (fun r u => r = nI (cnt (fun j => decide (jSt (J j) = 0)) n) ∧ u = w) (mE B D CLS) (fun q => B ≤ q)) 0 0 (fun q => B ≤ q) := by
  refine mMet (by decide) rfl (Nat.le_of_ble_eq_true rfl) ?_
  intro p e s m below meth c ls hx hb hml hr hlk hnm hown hts hK hN hm hl
  have hE : ME "ChainPicker" (.code yC_countRunning cC_countRunning 3 (some .int)) _ s m D (TYS cI cZ cL) := ⟨hown, hts, hK, hN⟩
  have hl : lv_has ls 3 [(0, .ref (o))] := hl
  have loop : ∀ k, k ≤ n → ∀ (x : Int32), x + nI (cnt (fun j => decide (jSt (J j) = 0)) k) = nI (cnt (fun j => decide (jSt (J j) = 0)) n) → ∀ (H : Heap) (locs : List Loc) (ls : Array Slot), mS B D CLS s.heap w H locs → lv_has ls 3 [(2, va_rf (prv ad k)), (1, .int (x)), (0, .ref (o))] → W p l e ({ frames := 0, cells := 0, slots := 0, locals := 0 }) s m [.ref (o)].toArray below meth c H locs 0 0 (MQ below (va_Qi (fun r u => r = nI (cnt (fun j => decide (jSt (J j) = 0)) n) ∧ u = w) (mE B D CLS) (fun q => B ≤ q)) [.ref (o)].toArray s 0 0 (fun q => B ≤ q)) (F0 m 7 ls []) := by
    intro k
    induction k with
    | zero =>
      intro hk x hx0 H locs ls hm hl
      have hl : lv_has ls 3 [(2, .null), (1, .int (x)), (0, .ref (o))] := hl
      refine lv_aload_nN hx hb dC_countRunning_7 rfl (lv_at hl 0 rfl) ?_
      refine lv_ifnullN (tgt := 29) hx hb dC_countRunning_8 (by decide) ?_
      refine lv_iload_n hx hb dC_countRunning_29 rfl (lv_at hl 1 rfl) ?_
      exact mreti hx hb hr hlk hm ⟨cntI_0 hx0, rfl⟩ dC_countRunning_30
    | succ k ih =>
      intro hk x hx0 H locs ls hm hl
      have hl : lv_has ls 3 [(2, .ref (ad k)), (1, .int (x)), (0, .ref (o))] := hl
      have hk1 : k < n := hk
      refine lv_aload_n hx hb dC_countRunning_7 rfl (lv_at hl 0 rfl) ?_
      refine lv_ifnull hx hb dC_countRunning_8 ?_
      refine lv_aload_n hx hb dC_countRunning_11 rfl (lv_at hl 0 rfl) ?_
      refine g_C_J_57 (v := .int (jSt (J k))) hx hb hE hm (hR.2.1 k hk1) rfl dC_countRunning_12 ?_
      refine lv_if_ne (tgt := 21) hx hb dC_countRunning_15 (by decide) (fun c_15 => ?_) (fun c_15 => ?_)
      · refine lv_aload_n hx hb dC_countRunning_21 rfl (lv_at hl 0 rfl) ?_
        refine g_C_J_108 (v := va_rf (prv ad k)) hx hb hE hm (hR.2.1 k hk1) rfl dC_countRunning_22 ?_
        refine mstoreR (lv' := [(2, va_rf (prv ad k)), (1, .int (x)), (0, .ref (o))]) hx hb dC_countRunning_25 rfl hl (by decide) rfl (fun ls hl => ?_)
        refine lv_goto (tgt := 7) hx hb dC_countRunning_26 (by decide) ?_
        exact ih (Nat.le_of_succ_le hk) (x) (cntI_f hx0 (by simp [c_15, dec_0, bI_0, ← Int32.not_lt])) H locs ls hm (lv_sub hl [0, 1, 2] rfl)
      · refine lv_iinc (v := x + 1) (lv' := [(1, .int (x + 1)), (2, .ref (ad k)), (0, .ref (o))]) hx hb dC_countRunning_18 hl (k := 1) rfl rfl (by decide) rfl (fun ls hl => ?_)
        refine lv_aload_n hx hb dC_countRunning_21 rfl (lv_at hl 1 rfl) ?_
        refine g_C_J_108 (v := va_rf (prv ad k)) hx hb hE hm (hR.2.1 k hk1) rfl dC_countRunning_22 ?_
        refine mstoreR (lv' := [(2, va_rf (prv ad k)), (1, .int (x + 1)), (0, .ref (o))]) hx hb dC_countRunning_25 rfl hl (by decide) rfl (fun ls hl => ?_)
        refine lv_goto (tgt := 7) hx hb dC_countRunning_26 (by decide) ?_
        exact ih (Nat.le_of_succ_le hk) (x + 1) (cntI_t hx0 (by simp [c_15, dec_0, bI_0, ← Int32.not_lt])) H locs ls hm (lv_sub hl [0, 1, 2] rfl)
  refine lv_iconst (v := 0) hx hb dC_countRunning_0 (by decide) ?_
  refine lv_istore_n (lv' := [(1, .int (0)), (0, .ref (o))]) hx hb dC_countRunning_1 rfl hl (by decide) rfl (fun ls hl => ?_)
  refine lv_aload_n hx hb dC_countRunning_2 rfl (lv_at hl 1 rfl) ?_
  refine g_C_C_16 (v := va_rf (prv ad n)) hx hb hE hm hR.1 rfl dC_countRunning_3 ?_
  refine mstoreR (lv' := [(2, va_rf (prv ad n)), (1, .int (0)), (0, .ref (o))]) hx hb dC_countRunning_6 rfl hl (by decide) rfl (fun ls hl => ?_)
  exact loop n (Nat.le_refl n) 0 (by simp) _ _ ls hm hl
set_option maxHeartbeats 4000000 in
set_option maxRecDepth 100000 in
theorem kC_countPruned (l : Launch) (B : Nat) (D : va_G) (cI cZ cL : ClassId) (w : Wd) (o : Nat) (ad va : Nat → Nat) (now : Int32) (n : Nat) (J : Nat → Jr) (hR : cR cI o ad va now n J w) : Met l yC_countPruned (.code yC_countPruned cC_countPruned 3 (some .int) :: BIG) { frames := 0, cells := 0, slots := 0, locals := 0 } (va_Pc [.ref (o)] (mP B D CLS (TYS cI cZ cL) NEST w)) (va_Qi (fun r u => r = nI (cnt (fun j => jPr (J j)) n) ∧ u = w) (mE B D CLS) (fun q => B ≤ q)) 0 0 (fun q => B ≤ q) := by
  refine mMet (by decide) rfl (Nat.le_of_ble_eq_true rfl) ?_
  intro p e s m below meth c ls hx hb hml hr hlk hnm hown hts hK hN hm hl
  have hE : ME "ChainPicker" (.code yC_countPruned cC_countPruned 3 (some .int)) _ s m D (TYS cI cZ cL) := ⟨hown, hts, hK, hN⟩
  have hl : lv_has ls 3 [(0, .ref (o))] := hl
  have loop : ∀ k, k ≤ n → ∀ (x : Int32), x + nI (cnt (fun j => jPr (J j)) k) = nI (cnt (fun j => jPr (J j)) n) → ∀ (H : Heap) (locs : List Loc) (ls : Array Slot), mS B D CLS s.heap w H locs → lv_has ls 3 [(2, va_rf (prv ad k)), (1, .int (x)), (0, .ref (o))] → W p l e ({ frames := 0, cells := 0, slots := 0, locals := 0 }) s m [.ref (o)].toArray below meth c H locs 0 0 (MQ below (va_Qi (fun r u => r = nI (cnt (fun j => jPr (J j)) n) ∧ u = w) (mE B D CLS) (fun q => B ≤ q)) [.ref (o)].toArray s 0 0 (fun q => B ≤ q)) (F0 m 7 ls []) := by
    intro k
    induction k with
    | zero =>
      intro hk x hx0 H locs ls hm hl
      have hl : lv_has ls 3 [(2, .null), (1, .int (x)), (0, .ref (o))] := hl
      refine lv_aload_nN hx hb dC_countPruned_7 rfl (lv_at hl 0 rfl) ?_
      refine lv_ifnullN (tgt := 29) hx hb dC_countPruned_8 (by decide) ?_
      refine lv_iload_n hx hb dC_countPruned_29 rfl (lv_at hl 1 rfl) ?_
      exact mreti hx hb hr hlk hm ⟨cntI_0 hx0, rfl⟩ dC_countPruned_30
    | succ k ih =>
      intro hk x hx0 H locs ls hm hl
      have hl : lv_has ls 3 [(2, .ref (ad k)), (1, .int (x)), (0, .ref (o))] := hl
      have hk1 : k < n := hk
      refine lv_aload_n hx hb dC_countPruned_7 rfl (lv_at hl 0 rfl) ?_
      refine lv_ifnull hx hb dC_countPruned_8 ?_
      refine lv_aload_n hx hb dC_countPruned_11 rfl (lv_at hl 0 rfl) ?_
      refine g_C_J_121 (v := .int (bI (jPr (J k)))) hx hb hE hm (hR.2.1 k hk1) rfl dC_countPruned_12 ?_
      refine lv_if_eq (tgt := 21) hx hb dC_countPruned_15 (by decide) (fun c_15 => ?_) (fun c_15 => ?_)
      · rw [bI_0] at c_15
        refine lv_aload_n hx hb dC_countPruned_21 rfl (lv_at hl 0 rfl) ?_
        refine g_C_J_108 (v := va_rf (prv ad k)) hx hb hE hm (hR.2.1 k hk1) rfl dC_countPruned_22 ?_
        refine mstoreR (lv' := [(2, va_rf (prv ad k)), (1, .int (x)), (0, .ref (o))]) hx hb dC_countPruned_25 rfl hl (by decide) rfl (fun ls hl => ?_)
        refine lv_goto (tgt := 7) hx hb dC_countPruned_26 (by decide) ?_
        exact ih (Nat.le_of_succ_le hk) (x) (cntI_f hx0 (by simp [c_15, dec_0, bI_0, ← Int32.not_lt])) H locs ls hm (lv_sub hl [0, 1, 2] rfl)
      · rw [bI_0] at c_15
        refine lv_iinc (v := x + 1) (lv' := [(1, .int (x + 1)), (2, .ref (ad k)), (0, .ref (o))]) hx hb dC_countPruned_18 hl (k := 1) rfl rfl (by decide) rfl (fun ls hl => ?_)
        refine lv_aload_n hx hb dC_countPruned_21 rfl (lv_at hl 1 rfl) ?_
        refine g_C_J_108 (v := va_rf (prv ad k)) hx hb hE hm (hR.2.1 k hk1) rfl dC_countPruned_22 ?_
        refine mstoreR (lv' := [(2, va_rf (prv ad k)), (1, .int (x + 1)), (0, .ref (o))]) hx hb dC_countPruned_25 rfl hl (by decide) rfl (fun ls hl => ?_)
        refine lv_goto (tgt := 7) hx hb dC_countPruned_26 (by decide) ?_
        exact ih (Nat.le_of_succ_le hk) (x + 1) (cntI_t hx0 (by simp [c_15, dec_0, bI_0, ← Int32.not_lt])) H locs ls hm (lv_sub hl [0, 1, 2] rfl)
  refine lv_iconst (v := 0) hx hb dC_countPruned_0 (by decide) ?_
  refine lv_istore_n (lv' := [(1, .int (0)), (0, .ref (o))]) hx hb dC_countPruned_1 rfl hl (by decide) rfl (fun ls hl => ?_)
  refine lv_aload_n hx hb dC_countPruned_2 rfl (lv_at hl 1 rfl) ?_
  refine g_C_C_16 (v := va_rf (prv ad n)) hx hb hE hm hR.1 rfl dC_countPruned_3 ?_
  refine mstoreR (lv' := [(2, va_rf (prv ad n)), (1, .int (0)), (0, .ref (o))]) hx hb dC_countPruned_6 rfl hl (by decide) rfl (fun ls hl => ?_)
  exact loop n (Nat.le_refl n) 0 (by simp) _ _ ls hm hl
set_option maxHeartbeats 4000000 in
set_option maxRecDepth 100000 in
theorem kC_findBase (l : Launch) (B : Nat) (D : va_G) (cI cZ cL : ClassId) (w : Wd) (o : Nat) (ad va : Nat → Nat) (now : Int32) (n : Nat) (J : Nat → Jr) (hR : cR cI o ad va now n J w) (x : Int32) (v : Int32) : Met l yC_findBase (.code yC_findBase cC_findBase 4 (some (.object "ChainPicker$Job")) :: BIG) { frames := 1, cells := 0, slots := 0, locals := 20 } (va_Pc [.ref (o), .int (x), .int (v)] (mP B D CLS (TYS cI cZ cL) NEST w)) (va_Qq (fun r u => r = (bOf n J x v).map ad ∧ u = w) (mE B D CLS) (fun q => B ≤ q)) 0 0 (fun q => B ≤ q) := by
  refine mMet (by decide) rfl (Nat.le_of_ble_eq_true rfl) ?_
  intro p e s m below meth c ls hx hb hml hr hlk hnm hown hts hK hN hm hl
  have hE : ME "ChainPicker" (.code yC_findBase cC_findBase 4 (some (.object "ChainPicker$Job"))) _ s m D (TYS cI cZ cL) := ⟨hown, hts, hK, hN⟩
  have hl : lv_has ls 4 [(0, .ref (o)), (1, .int (x)), (2, .int (v))] := hl
  have loop : ¬ v = 0 → ∀ k, k ≤ n → lastI (fun j => decide (jSer (J j) = x) && uz (J j) && (decide (v = 2) || decide (jLev (J j) = 0))) n = lastI (fun j => decide (jSer (J j) = x) && uz (J j) && (decide (v = 2) || decide (jLev (J j) = 0))) k → ∀ (H : Heap) (locs : List Loc) (ls : Array Slot), mS B D CLS s.heap w H locs → lv_has ls 4 [(3, va_rf (prv ad k)), (0, .ref (o)), (1, .int (x)), (2, .int (v))] → W p l e ({ frames := 1, cells := 0, slots := 0, locals := 20 }) s m [.ref (o), .int (x), .int (v)].toArray below meth c H locs 0 0 (MQ below (va_Qq (fun r u => r = (bOf n J x v).map ad ∧ u = w) (mE B D CLS) (fun q => B ≤ q)) [.ref (o), .int (x), .int (v)].toArray s 0 0 (fun q => B ≤ q)) (F0 m 11 ls []) := by
    intro hv0 k
    induction k with
    | zero =>
      intro hk heq H locs ls hm hl
      have hl : lv_has ls 4 [(3, .null), (0, .ref (o)), (1, .int (x)), (2, .int (v))] := hl
      refine lv_aload_nN hx hb dC_findBase_11 rfl (lv_at hl 0 rfl) ?_
      refine lv_ifnullN (tgt := 52) hx hb dC_findBase_12 (by decide) ?_
      refine lv_null hx hb dC_findBase_52 ?_
      exact mretq (r := none) hx hb hr (Or.inl ⟨_, rfl⟩) hlk hm ⟨by rw [bOf, if_neg hv0, heq]; rfl, rfl⟩ dC_findBase_53
    | succ k ih =>
      intro hk heq H locs ls hm hl
      have hl : lv_has ls 4 [(3, .ref (ad k)), (0, .ref (o)), (1, .int (x)), (2, .int (v))] := hl
      have hk1 : k < n := hk
      refine lv_aload_n hx hb dC_findBase_11 rfl (lv_at hl 0 rfl) ?_
      refine lv_ifnull hx hb dC_findBase_12 ?_
      refine lv_aload_n hx hb dC_findBase_15 rfl (lv_at hl 0 rfl) ?_
      refine g_C_J_111 (v := .int (jSer (J k))) hx hb hE hm (hR.2.1 k hk1) rfl dC_findBase_16 ?_
      refine lv_iload_n hx hb dC_findBase_19 rfl (lv_at hl 2 rfl) ?_
      refine lv_icmp_ne (tgt := 44) hx hb dC_findBase_20 (by decide) (fun c_20 => ?_) (fun c_20 => ?_)
      · refine lv_aload_n hx hb dC_findBase_44 rfl (lv_at hl 0 rfl) ?_
        refine g_C_J_108 (v := va_rf (prv ad k)) hx hb hE hm (hR.2.1 k hk1) rfl dC_findBase_45 ?_
        refine mstoreR (lv' := [(3, va_rf (prv ad k)), (0, .ref (o)), (1, .int (x)), (2, .int (v))]) hx hb dC_findBase_48 rfl hl (by decide) rfl (fun ls hl => ?_)
        refine lv_goto (tgt := 11) hx hb dC_findBase_49 (by decide) ?_
        exact ih (Nat.le_of_succ_le hk) (by rw [heq]; exact lastI_f (by simp [c_20, dec_0, bI_0, ← Int32.not_lt])) H locs ls hm (lv_sub hl [0, 1, 2, 3] rfl)
      · refine lv_aload_n hx hb dC_findBase_23 rfl (lv_at hl 0 rfl) ?_
        refine mcalli (mcS (n := 1) (As := [.ref (ad k)]) (rest := []) hx hb hml hE (kC_isUsable l B D cI cZ cL w (ad k) _ _ _ _ _ _ _ _ _ _ _ _ (hR.2.1 k hk1)) q_46 q_47 q_1 q_48 rfl rfl (by decide +kernel) ⟨Nat.le_of_ble_eq_true rfl, Nat.le_of_ble_eq_true rfl⟩ rfl hl.1 hm rfl (Nat.le_of_ble_eq_true rfl) dC_findBase_24 ⟨Nat.le_of_ble_eq_true rfl, Nat.le_of_ble_eq_true rfl⟩) hm (fun r1 u1 H locs hp1 hm => ?_)
        obtain ⟨hr1, hu1⟩ := hp1
        rw [hu1] at hm
        have hr1 := uz_r hr1
        refine lv_if_eq (tgt := 44) hx hb dC_findBase_27 (by decide) (fun c_27 => ?_) (fun c_27 => ?_)
        · rw [hr1, bI_0] at c_27
          refine lv_aload_n hx hb dC_findBase_44 rfl (lv_at hl 0 rfl) ?_
          refine g_C_J_108 (v := va_rf (prv ad k)) hx hb hE hm (hR.2.1 k hk1) rfl dC_findBase_45 ?_
          refine mstoreR (lv' := [(3, va_rf (prv ad k)), (0, .ref (o)), (1, .int (x)), (2, .int (v))]) hx hb dC_findBase_48 rfl hl (by decide) rfl (fun ls hl => ?_)
          refine lv_goto (tgt := 11) hx hb dC_findBase_49 (by decide) ?_
          exact ih (Nat.le_of_succ_le hk) (by rw [heq]; exact lastI_f (by simp [c_20, c_27, dec_0, bI_0, ← Int32.not_lt])) H locs ls hm (lv_sub hl [0, 1, 2, 3] rfl)
        · rw [hr1, bI_0] at c_27
          refine lv_iload_n hx hb dC_findBase_30 rfl (lv_at hl 3 rfl) ?_
          refine lv_iconst (v := 2) hx hb dC_findBase_31 (by decide) ?_
          refine lv_icmp_eq (tgt := 42) hx hb dC_findBase_32 (by decide) (fun c_32 => ?_) (fun c_32 => ?_)
          · refine lv_aload_n hx hb dC_findBase_42 rfl (lv_at hl 0 rfl) ?_
            exact mretq (r := some (ad k)) hx hb hr (Or.inl ⟨_, rfl⟩) hlk hm ⟨by rw [bOf, if_neg hv0, heq, lastI_t (by simp [c_20, c_27, c_32, dec_0, bI_0, ← Int32.not_lt])]; rfl, rfl⟩ dC_findBase_43
          · refine lv_aload_n hx hb dC_findBase_35 rfl (lv_at hl 0 rfl) ?_
            refine g_C_J_63 (v := .int (jLev (J k))) hx hb hE hm (hR.2.1 k hk1) rfl dC_findBase_36 ?_
            refine lv_if_ne (tgt := 44) hx hb dC_findBase_39 (by decide) (fun c_39 => ?_) (fun c_39 => ?_)
            · refine lv_aload_n hx hb dC_findBase_44 rfl (lv_at hl 0 rfl) ?_
              refine g_C_J_108 (v := va_rf (prv ad k)) hx hb hE hm (hR.2.1 k hk1) rfl dC_findBase_45 ?_
              refine mstoreR (lv' := [(3, va_rf (prv ad k)), (0, .ref (o)), (1, .int (x)), (2, .int (v))]) hx hb dC_findBase_48 rfl hl (by decide) rfl (fun ls hl => ?_)
              refine lv_goto (tgt := 11) hx hb dC_findBase_49 (by decide) ?_
              exact ih (Nat.le_of_succ_le hk) (by rw [heq]; exact lastI_f (by simp [c_20, c_27, c_32, c_39, dec_0, bI_0, ← Int32.not_lt])) H locs ls hm (lv_sub hl [0, 1, 2, 3] rfl)
            · refine lv_aload_n hx hb dC_findBase_42 rfl (lv_at hl 0 rfl) ?_
              exact mretq (r := some (ad k)) hx hb hr (Or.inl ⟨_, rfl⟩) hlk hm ⟨by rw [bOf, if_neg hv0, heq, lastI_t (by simp [c_20, c_27, c_32, c_39, dec_0, bI_0, ← Int32.not_lt])]; rfl, rfl⟩ dC_findBase_43
  refine lv_iload_n hx hb dC_findBase_0 rfl (lv_at hl 2 rfl) ?_
  refine lv_if_ne (tgt := 6) hx hb dC_findBase_1 (by decide) (fun c_1 => ?_) (fun c_1 => ?_)
  · refine lv_aload_n hx hb dC_findBase_6 rfl (lv_at hl 0 rfl) ?_
    refine g_C_C_16 (v := va_rf (prv ad n)) hx hb hE hm hR.1 rfl dC_findBase_7 ?_
    refine mstoreR (lv' := [(3, va_rf (prv ad n)), (0, .ref (o)), (1, .int (x)), (2, .int (v))]) hx hb dC_findBase_10 rfl hl (by decide) rfl (fun ls hl => ?_)
    exact loop c_1 n (Nat.le_refl n) rfl _ _ ls hm hl
  · refine lv_null hx hb dC_findBase_4 ?_
    exact mretq (r := none) hx hb hr (Or.inl ⟨_, rfl⟩) hlk hm ⟨by simp [bOf, c_1, dec_0, bI_0, ← Int32.not_lt], rfl⟩ dC_findBase_5
set_option maxHeartbeats 4000000 in
set_option maxRecDepth 100000 in
theorem kC_isOnlyGoodFull (l : Launch) (B : Nat) (D : va_G) (cI cZ cL : ClassId) (w : Wd) (o : Nat) (ad va : Nat → Nat) (now : Int32) (n : Nat) (J : Nat → Jr) (hR : cR cI o ad va now n J w) (i : Nat) (hi : i < n) : Met l yC_isOnlyGoodFull (.code yC_isOnlyGoodFull cC_isOnlyGoodFull 3 (some .boolean) :: BIG) { frames := 1, cells := 0, slots := 0, locals := 20 } (va_Pc [.ref (o), .ref (ad i)] (mP B D CLS (TYS cI cZ cL) NEST w)) (va_Qi (fun r u => r = bI (only n J i) ∧ u = w) (mE B D CLS) (fun q => B ≤ q)) 0 0 (fun q => B ≤ q) := by
  refine mMet (by decide) rfl (Nat.le_of_ble_eq_true rfl) ?_
  intro p e s m below meth c ls hx hb hml hr hlk hnm hown hts hK hN hm hl
  have hE : ME "ChainPicker" (.code yC_isOnlyGoodFull cC_isOnlyGoodFull 3 (some .boolean)) _ s m D (TYS cI cZ cL) := ⟨hown, hts, hK, hN⟩
  have hl : lv_has ls 3 [(0, .ref (o)), (1, .ref (ad i))] := hl
  have loop : jLev (J i) = 0 → uz (J i) = true → ∀ k, k ≤ n → lastI (fun j => decide (j ≠ i) && decide (jSer (J j) = jSer (J i)) && decide (jLev (J j) = 0) && uz (J j)) n = lastI (fun j => decide (j ≠ i) && decide (jSer (J j) = jSer (J i)) && decide (jLev (J j) = 0) && uz (J j)) k → ∀ (H : Heap) (locs : List Loc) (ls : Array Slot), mS B D CLS s.heap w H locs → lv_has ls 3 [(2, va_rf (prv ad k)), (0, .ref (o)), (1, .ref (ad i))] → W p l e ({ frames := 1, cells := 0, slots := 0, locals := 20 }) s m [.ref (o), .ref (ad i)].toArray below meth c H locs 0 0 (MQ below (va_Qi (fun r u => r = bI (only n J i) ∧ u = w) (mE B D CLS) (fun q => B ≤ q)) [.ref (o), .ref (ad i)].toArray s 0 0 (fun q => B ≤ q)) (F0 m 21 ls []) := by
    intro hv0 hv1 k
    induction k with
    | zero =>
      intro hk heq H locs ls hm hl
      have hl : lv_has ls 3 [(2, .null), (0, .ref (o)), (1, .ref (ad i))] := hl
      refine lv_aload_nN hx hb dC_isOnlyGoodFull_21 rfl (lv_at hl 0 rfl) ?_
      refine lv_ifnullN (tgt := 65) hx hb dC_isOnlyGoodFull_22 (by decide) ?_
      refine lv_iconst (v := 1) hx hb dC_isOnlyGoodFull_65 (by decide) ?_
      exact mretz hx hb hr (by decide +kernel) hlk hm ⟨by rw [only, heq, hv1]; simp [hv0, lastI, bI], rfl⟩ dC_isOnlyGoodFull_66
    | succ k ih =>
      intro hk heq H locs ls hm hl
      have hl : lv_has ls 3 [(2, .ref (ad k)), (0, .ref (o)), (1, .ref (ad i))] := hl
      have hk1 : k < n := hk
      refine lv_aload_n hx hb dC_isOnlyGoodFull_21 rfl (lv_at hl 0 rfl) ?_
      refine lv_ifnull hx hb dC_isOnlyGoodFull_22 ?_
      refine lv_aload_n hx hb dC_isOnlyGoodFull_25 rfl (lv_at hl 0 rfl) ?_
      refine lv_aload_n hx hb dC_isOnlyGoodFull_26 rfl (lv_at hl 2 rfl) ?_
      refine lv_acmp_eq (rx := some (ad k)) (ry := some (ad i)) (tgt := 57) hx hb dC_isOnlyGoodFull_27 (by decide) (fun c_27 => ?_) (fun c_27 => ?_)
      · have c_27 : k = i := hR.2.2.2.1 k i hk1 hi (Option.some.inj c_27)
        refine lv_aload_n hx hb dC_isOnlyGoodFull_57 rfl (lv_at hl 0 rfl) ?_
        refine g_C_J_108 (v := va_rf (prv ad k)) hx hb hE hm (hR.2.1 k hk1) rfl dC_isOnlyGoodFull_58 ?_
        refine mstoreR (lv' := [(2, va_rf (prv ad k)), (0, .ref (o)), (1, .ref (ad i))]) hx hb dC_isOnlyGoodFull_61 rfl hl (by decide) rfl (fun ls hl => ?_)
        refine lv_goto (tgt := 21) hx hb dC_isOnlyGoodFull_62 (by decide) ?_
        exact ih (Nat.le_of_succ_le hk) (by rw [heq]; exact lastI_f (by simp [c_27, dec_0, bI_0, ← Int32.not_lt])) H locs ls hm (lv_sub hl [0, 1, 2] rfl)
      · have c_27 : ¬ k = i := fun h => c_27 (by rw [h])
        refine lv_aload_n hx hb dC_isOnlyGoodFull_30 rfl (lv_at hl 0 rfl) ?_
        refine g_C_J_111 (v := .int (jSer (J k))) hx hb hE hm (hR.2.1 k hk1) rfl dC_isOnlyGoodFull_31 ?_
        refine lv_aload_n hx hb dC_isOnlyGoodFull_34 rfl (lv_at hl 2 rfl) ?_
        refine g_C_J_111 (v := .int (jSer (J i))) hx hb hE hm (hR.2.1 i hi) rfl dC_isOnlyGoodFull_35 ?_
        refine lv_icmp_ne (tgt := 57) hx hb dC_isOnlyGoodFull_38 (by decide) (fun c_38 => ?_) (fun c_38 => ?_)
        · refine lv_aload_n hx hb dC_isOnlyGoodFull_57 rfl (lv_at hl 0 rfl) ?_
          refine g_C_J_108 (v := va_rf (prv ad k)) hx hb hE hm (hR.2.1 k hk1) rfl dC_isOnlyGoodFull_58 ?_
          refine mstoreR (lv' := [(2, va_rf (prv ad k)), (0, .ref (o)), (1, .ref (ad i))]) hx hb dC_isOnlyGoodFull_61 rfl hl (by decide) rfl (fun ls hl => ?_)
          refine lv_goto (tgt := 21) hx hb dC_isOnlyGoodFull_62 (by decide) ?_
          exact ih (Nat.le_of_succ_le hk) (by rw [heq]; exact lastI_f (by simp [c_27, c_38, dec_0, bI_0, ← Int32.not_lt])) H locs ls hm (lv_sub hl [0, 1, 2] rfl)
        · refine lv_aload_n hx hb dC_isOnlyGoodFull_41 rfl (lv_at hl 0 rfl) ?_
          refine g_C_J_63 (v := .int (jLev (J k))) hx hb hE hm (hR.2.1 k hk1) rfl dC_isOnlyGoodFull_42 ?_
          refine lv_if_ne (tgt := 57) hx hb dC_isOnlyGoodFull_45 (by decide) (fun c_45 => ?_) (fun c_45 => ?_)
          · refine lv_aload_n hx hb dC_isOnlyGoodFull_57 rfl (lv_at hl 0 rfl) ?_
            refine g_C_J_108 (v := va_rf (prv ad k)) hx hb hE hm (hR.2.1 k hk1) rfl dC_isOnlyGoodFull_58 ?_
            refine mstoreR (lv' := [(2, va_rf (prv ad k)), (0, .ref (o)), (1, .ref (ad i))]) hx hb dC_isOnlyGoodFull_61 rfl hl (by decide) rfl (fun ls hl => ?_)
            refine lv_goto (tgt := 21) hx hb dC_isOnlyGoodFull_62 (by decide) ?_
            exact ih (Nat.le_of_succ_le hk) (by rw [heq]; exact lastI_f (by simp [c_27, c_38, c_45, dec_0, bI_0, ← Int32.not_lt])) H locs ls hm (lv_sub hl [0, 1, 2] rfl)
          · refine lv_aload_n hx hb dC_isOnlyGoodFull_48 rfl (lv_at hl 0 rfl) ?_
            refine mcalli (mcS (n := 1) (As := [.ref (ad k)]) (rest := []) hx hb hml hE (kC_isUsable l B D cI cZ cL w (ad k) _ _ _ _ _ _ _ _ _ _ _ _ (hR.2.1 k hk1)) q_46 q_47 q_1 q_48 rfl rfl (by decide +kernel) ⟨Nat.le_of_ble_eq_true rfl, Nat.le_of_ble_eq_true rfl⟩ rfl hl.1 hm rfl (Nat.le_of_ble_eq_true rfl) dC_isOnlyGoodFull_49 ⟨Nat.le_of_ble_eq_true rfl, Nat.le_of_ble_eq_true rfl⟩) hm (fun r1 u1 H locs hp1 hm => ?_)
            obtain ⟨hr1, hu1⟩ := hp1
            rw [hu1] at hm
            have hr1 := uz_r hr1
            refine lv_if_eq (tgt := 57) hx hb dC_isOnlyGoodFull_52 (by decide) (fun c_52 => ?_) (fun c_52 => ?_)
            · rw [hr1, bI_0] at c_52
              refine lv_aload_n hx hb dC_isOnlyGoodFull_57 rfl (lv_at hl 0 rfl) ?_
              refine g_C_J_108 (v := va_rf (prv ad k)) hx hb hE hm (hR.2.1 k hk1) rfl dC_isOnlyGoodFull_58 ?_
              refine mstoreR (lv' := [(2, va_rf (prv ad k)), (0, .ref (o)), (1, .ref (ad i))]) hx hb dC_isOnlyGoodFull_61 rfl hl (by decide) rfl (fun ls hl => ?_)
              refine lv_goto (tgt := 21) hx hb dC_isOnlyGoodFull_62 (by decide) ?_
              exact ih (Nat.le_of_succ_le hk) (by rw [heq]; exact lastI_f (by simp [c_27, c_38, c_45, c_52, dec_0, bI_0, ← Int32.not_lt])) H locs ls hm (lv_sub hl [0, 1, 2] rfl)
            · rw [hr1, bI_0] at c_52
              refine lv_iconst (v := 0) hx hb dC_isOnlyGoodFull_55 (by decide) ?_
              exact mretz hx hb hr (by decide +kernel) hlk hm ⟨by rw [only, heq, lastI_t (by simp [c_27, c_38, c_45, c_52, dec_0, bI_0, ← Int32.not_lt])]; simp [bI], rfl⟩ dC_isOnlyGoodFull_56
  refine lv_aload_n hx hb dC_isOnlyGoodFull_0 rfl (lv_at hl 1 rfl) ?_
  refine g_C_J_63 (v := .int (jLev (J i))) hx hb hE hm (hR.2.1 i hi) rfl dC_isOnlyGoodFull_1 ?_
  refine lv_if_ne (tgt := 14) hx hb dC_isOnlyGoodFull_4 (by decide) (fun c_4 => ?_) (fun c_4 => ?_)
  · refine lv_iconst (v := 0) hx hb dC_isOnlyGoodFull_14 (by decide) ?_
    exact mretz hx hb hr (by decide +kernel) hlk hm ⟨by simp [only, bI, c_4, dec_0, bI_0, ← Int32.not_lt], rfl⟩ dC_isOnlyGoodFull_15
  · refine lv_aload_n hx hb dC_isOnlyGoodFull_7 rfl (lv_at hl 1 rfl) ?_
    refine mcalli (mcS (n := 1) (As := [.ref (ad i)]) (rest := []) hx hb hml hE (kC_isUsable l B D cI cZ cL w (ad i) _ _ _ _ _ _ _ _ _ _ _ _ (hR.2.1 i hi)) q_46 q_47 q_1 q_48 rfl rfl (by decide +kernel) ⟨Nat.le_of_ble_eq_true rfl, Nat.le_of_ble_eq_true rfl⟩ rfl hl.1 hm rfl (Nat.le_of_ble_eq_true rfl) dC_isOnlyGoodFull_8 ⟨Nat.le_of_ble_eq_true rfl, Nat.le_of_ble_eq_true rfl⟩) hm (fun r1 u1 H locs hp1 hm => ?_)
    obtain ⟨hr1, hu1⟩ := hp1
    rw [hu1] at hm
    have hr1 := uz_r hr1
    refine lv_if_ne (tgt := 16) hx hb dC_isOnlyGoodFull_11 (by decide) (fun c_11 => ?_) (fun c_11 => ?_)
    · rw [hr1, bI_0] at c_11
      refine lv_aload_n hx hb dC_isOnlyGoodFull_16 rfl (lv_at hl 0 rfl) ?_
      refine g_C_C_16 (v := va_rf (prv ad n)) hx hb hE hm hR.1 rfl dC_isOnlyGoodFull_17 ?_
      refine mstoreR (lv' := [(2, va_rf (prv ad n)), (0, .ref (o)), (1, .ref (ad i))]) hx hb dC_isOnlyGoodFull_20 rfl hl (by decide) rfl (fun ls hl => ?_)
      exact loop (by simpa using c_4) (by simpa using c_11) n (Nat.le_refl n) rfl _ _ ls hm hl
    · rw [hr1, bI_0] at c_11
      refine lv_iconst (v := 0) hx hb dC_isOnlyGoodFull_14 (by decide) ?_
      exact mretz hx hb hr (by decide +kernel) hlk hm ⟨by simp [only, bI, c_4, c_11, dec_0, bI_0, ← Int32.not_lt], rfl⟩ dC_isOnlyGoodFull_15
end
section
set_option maxHeartbeats 4000000 in
set_option maxRecDepth 100000 in
/-- Arrays.fill: the whole array holds v -/
theorem kF_fill (l : Launch) (B : Nat) (D : va_G) (cI cZ cL : ClassId) (w : Wd) (a : Nat) (v : Int32) (N : Nat) (f : Nat → Int32) (hNN : N < 2 ^ 31) (ha : w a = some (.inl (cI, N, .inl f))) : Met l yF_fill (.code yF_fill cF_fill 4 none :: BIG) { frames := 0, cells := 0, slots := 0, locals := 0 } (va_Pc [.ref (a), .int (v)] (mP B D CLS (TYS cI cZ cL) NEST w)) (va_Qv (fun u => u = wset w a (.inl (cI, N, .inl (fun _ => v)))) (mE B D CLS) (fun q => B ≤ q)) 0 0 (fun q => B ≤ q) := by
  refine mMet (by decide) rfl (Nat.le_of_ble_eq_true rfl) ?_
  intro p e s m below meth c ls hx hb hml hr hlk hnm hown hts hK hN hm hl
  have hE : ME "java/util/Arrays" (.code yF_fill cF_fill 4 none) _ s m D (TYS cI cZ cL) := ⟨hown, hts, hK, hN⟩
  have hl : lv_has ls 4 [(0, .ref (a)), (1, .int (v))] := hl
  refine lv_iconst (v := 0) hx hb dF_fill_0 (by decide) ?_
  refine lv_istore_n (lv' := [(2, .int 0), (0, .ref a), (1, .int v)]) hx hb dF_fill_1 rfl hl (by decide) rfl (fun ls hl => ?_)
  refine lv_aload_n hx hb dF_fill_2 rfl (lv_at hl 1 rfl) ?_
  refine malen (v := nI N) hx hb hE.2.2.1 hm 0 ha rfl rfl dF_fill_3 ?_
  refine lv_istore_n (lv' := [(3, .int (nI N)), (2, .int 0), (0, .ref a), (1, .int v)]) hx hb dF_fill_4 rfl hl (by decide) rfl (fun ls hl => ?_)
  have loop : ∀ (d i : Nat) (g : Nat → Int32), i + d = N → (∀ j, j < i → g j = v) → ∀ (u : Wd) (H : Heap) (locs : List Loc) (ls : Array Slot), u = wset w a (.inl (cI, N, .inl g)) → mS B D CLS s.heap u H locs → lv_has ls 4 [(2, .int (nI i)), (3, .int (nI N)), (0, .ref a), (1, .int v)] → W p l e { frames := 0, cells := 0, slots := 0, locals := 0 } s m [.ref a, .int v].toArray below meth c H locs 0 0 (MQ below (va_Qv (fun u => u = wset w a (.inl (cI, N, .inl (fun _ => v)))) (mE B D CLS) (fun q => B ≤ q)) [.ref a, .int v].toArray s 0 0 (fun q => B ≤ q)) (F0 m 5 ls []) := by
    intro d
    induction d with
    | zero =>
      intro i g hi hg u H locs ls hu hm hl
      refine lv_iload_n hx hb dF_fill_5 rfl (lv_at hl 0 rfl) ?_
      refine lv_iload_n hx hb dF_fill_6 rfl (lv_at hl 1 rfl) ?_
      refine lv_icmp_ge (tgt := 20) hx hb dF_fill_7 (by decide) (fun c_7 => ?_) (fun c_7 => ?_)
      · rw [hu] at hm
        have hm := hm.agree (g := fun _ => v) (fun j hj => hg j (by omega))
        exact mretv hx hb hr hlk hm rfl dF_fill_20
      · exact absurd (nI_le (by omega) (by omega)) c_7
    | succ d ih =>
      intro i g hi hg u H locs ls hu hm hl
      refine lv_iload_n hx hb dF_fill_5 rfl (lv_at hl 0 rfl) ?_
      refine lv_iload_n hx hb dF_fill_6 rfl (lv_at hl 1 rfl) ?_
      refine lv_icmp_ge (tgt := 20) hx hb dF_fill_7 (by decide) (fun c_7 => ?_) (fun c_7 => ?_)
      · exact absurd c_7 (nI_ge (by omega) (by omega))
      · refine lv_aload_n hx hb dF_fill_10 rfl (lv_at hl 2 rfl) ?_
        refine lv_iload_n hx hb dF_fill_11 rfl (lv_at hl 0 rfl) ?_
        refine lv_iload_n hx hb dF_fill_12 rfl (lv_at hl 3 rfl) ?_
        have hua : u a = some (.inl (cI, N, .inl g)) := by rw [hu]; exact wset_at _ _ _
        refine miast hx hb hE.2.2.1 hm 0 hua rfl (vp_in_nI (by omega) hNN) dF_fill_13 (fun H locs hm => ?_)
        refine lv_iinc (v := nI i + 1) (lv' := [(2, .int (nI i + 1)), (3, .int (nI N)), (0, .ref a), (1, .int v)]) hx hb dF_fill_14 hl (k := 0) rfl rfl (by decide) rfl (fun ls hl => ?_)
        refine lv_goto (tgt := 5) hx hb dF_fill_17 (by decide) ?_
        rw [nI_1] at hl
        refine ih (i + 1) (upd g i v) (by omega) (fun j hj => ?_) _ H locs ls ?_ hm hl
        · by_cases hji : j = i
          · simp [upd, hji]
          · simp [upd, hji]; exact hg j (by omega)
        · rw [hu, wset_wset, nI_clamp (by omega)]
  exact loop N 0 f (by omega) (fun j hj => by omega) w _ _ ls (wset_self ha).symm hm (by rw [nI_0]; exact lv_sub hl [1, 0, 2, 3] rfl)
set_option maxHeartbeats 4000000 in
set_option maxRecDepth 100000 in
/-- ChainPicker() -/
theorem kC_init (l : Launch) (B : Nat) (D : va_G) (cI cZ cL : ClassId) (w : Wd) (o : Nat) (x0 x1 : Int32) (x2 : Option Nat) (ho : w o = some (.inr (1, [.int x0, .int x1, va_rf x2]))) : Met l yC_init (.code yC_init cC_init 1 none :: BIG) { frames := 1, cells := 0, slots := 0, locals := 12 } (va_Pc [.ref (o)] (mP B D CLS (TYS cI cZ cL) NEST w)) (va_Qv (fun u => u = wset w o (.inr (1, [.int 0, .int 0, va_rf none]))) (mE B D CLS) (fun q => B ≤ q)) 0 0 (fun q => B ≤ q) := by
  refine mMet (by decide) rfl (Nat.le_of_ble_eq_true rfl) ?_
  intro p e s m below meth c ls hx hb hml hr hlk hnm hown hts hK hN hm hl
  have hE : ME "ChainPicker" (.code yC_init cC_init 1 none) _ s m D (TYS cI cZ cL) := ⟨hown, hts, hK, hN⟩
  have hl : lv_has ls 1 [(0, .ref (o))] := hl
  refine lv_aload_n hx hb dC_init_0 rfl (lv_at hl 0 rfl) ?_
  refine W.objInit hx hb hE.1 (hE.2.1 _ (List.mem_cons_of_mem _ q_15)) (hE.2.1 _ (List.mem_cons_of_mem _ q_16)) (hE.2.1 _ (List.mem_cons_of_mem _ q_17)) rfl (by rw [hml]; exact hl.1) rfl dC_init_1 (Nat.le_of_ble_eq_true rfl) (Nat.le_of_ble_eq_true rfl) ?_
  refine W.eq (g2 := F0 m 4 ls []) rfl ?_
  refine lv_aload_n hx hb dC_init_4 rfl (lv_at hl 0 rfl) ?_
  refine lv_iconst (v := 0) hx hb dC_init_5 (by decide) ?_
  refine p_C_C_9 (x := 0) hx hb hE hm ho (by simp) dC_init_6 (fun H locs hm => ?_)
  obtain ⟨w1, hhw1⟩ : ∃ z : Wd, z = wset w (o) (.inr (1, [.int (0), .int (x1), va_rf (x2)])) := ⟨_, rfl⟩
  have hm : mS B D CLS s.heap w1 H locs := by rw [hhw1]; exact hm
  have hw1 : w1 = wset (w) (o) (.inr (1, [.int (0), .int (x1), va_rf (x2)])) := by rw [hhw1]
  have fw1 : w1 (o) = some (.inr (1, [.int (0), .int (x1), va_rf (x2)])) := by rw [hhw1]; exact wset_at _ _ _
  refine lv_aload_n hx hb dC_init_9 rfl (lv_at hl 0 rfl) ?_
  refine lv_iconst (v := 0) hx hb dC_init_10 (by decide) ?_
  refine p_C_C_13 (x := 0) hx hb hE hm fw1 (by simp) dC_init_11 (fun H locs hm => ?_)
  obtain ⟨w2, hhw2⟩ : ∃ z : Wd, z = wset w1 (o) (.inr (1, [.int (0), .int (0), va_rf (x2)])) := ⟨_, rfl⟩
  have hm : mS B D CLS s.heap w2 H locs := by rw [hhw2]; exact hm
  have hw2 : w2 = wset (w) (o) (.inr (1, [.int (0), .int (0), va_rf (x2)])) := by rw [hhw2, hw1]; funext z; by_cases hz : z = o <;> simp [wset, hz]
  have fw2 : w2 (o) = some (.inr (1, [.int (0), .int (0), va_rf (x2)])) := by rw [hhw2]; exact wset_at _ _ _
  refine lv_aload_n hx hb dC_init_14 rfl (lv_at hl 0 rfl) ?_
  refine lv_null hx hb dC_init_15 ?_
  refine p_C_C_16 (r := none) hx hb hE hm fw2 (by simp) dC_init_16 (fun H locs hm => ?_)
  obtain ⟨w3, hhw3⟩ : ∃ z : Wd, z = wset w2 (o) (.inr (1, [.int (0), .int (0), va_rf (none)])) := ⟨_, rfl⟩
  have hm : mS B D CLS s.heap w3 H locs := by rw [hhw3]; exact hm
  have hw3 : w3 = wset (w) (o) (.inr (1, [.int (0), .int (0), va_rf (none)])) := by rw [hhw3, hw2]; funext z; by_cases hz : z = o <;> simp [wset, hz]
  have fw3 : w3 (o) = some (.inr (1, [.int (0), .int (0), va_rf (none)])) := by rw [hhw3]; exact wset_at _ _ _
  exact mretv hx hb hr hlk hm hw3 dC_init_19
set_option maxHeartbeats 4000000 in
set_option maxRecDepth 100000 in
theorem kC_countTold (l : Launch) (B : Nat) (D : va_G) (cI cZ cL : ClassId) (w : Wd) (a : Nat) (x0 x1 x2 x3 : Int32) (x4 : Option Nat) (x5 : Int32) (x6 : Option Nat) (x7 : Nat) (x8 x9 x10 x11 : Int32) (ha : w a = some (.inr (0, [.int (x0), .int (x1), .int (x2), .int (x3), va_rf (x4), .int (x5), va_rf (x6), .ref (x7), .int (x8), .int (x9), .int (x10), .int (x11)]))) (f : Nat → Int32) (hf : w x7 = some (.inl (cI, 50, .inl f))) : Met l yC_countTold (.code yC_countTold cC_countTold 3 (some .int) :: BIG) { frames := 0, cells := 0, slots := 0, locals := 0 } (va_Pc [.ref (a)] (mP B D CLS (TYS cI cZ cL) NEST w)) (va_Qi (fun r u => r = nI (cnt (fun j => decide (f j ≠ -2)) 50) ∧ u = w) (mE B D CLS) (fun q => B ≤ q)) 0 0 (fun q => B ≤ q) := by
  refine mMet (by decide) rfl (Nat.le_of_ble_eq_true rfl) ?_
  intro p e s m below meth c ls hx hb hml hr hlk hnm hown hts hK hN hm hl
  have hE : ME "ChainPicker" (.code yC_countTold cC_countTold 3 (some .int)) _ s m D (TYS cI cZ cL) := ⟨hown, hts, hK, hN⟩
  have hl : lv_has ls 3 [(0, .ref (a))] := hl
  have loop : ∀ (d i : Nat), i + d = 50 → ∀ (x : Int32), x = nI (cnt (fun j => decide (f j ≠ -2)) i) → ∀ (H : Heap) (locs : List Loc) (ls : Array Slot), mS B D CLS s.heap w H locs → lv_has ls 3 [(2, .int (nI i)), (1, .int (x)), (0, .ref (a))] → W p l e ({ frames := 0, cells := 0, slots := 0, locals := 0 }) s m [.ref (a)].toArray below meth c H locs 0 0 (MQ below (va_Qi (fun r u => r = nI (cnt (fun j => decide (f j ≠ -2)) 50) ∧ u = w) (mE B D CLS) (fun q => B ≤ q)) [.ref (a)].toArray s 0 0 (fun q => B ≤ q)) (F0 m 4 ls []) := by
    intro d
    induction d with
    | zero =>
      intro i hi x hx0 H locs ls hm hl
      refine lv_iload_n hx hb dC_countTold_4 rfl (lv_at hl 0 rfl) ?_
      refine lv_bipush (v := 50) hx hb dC_countTold_5 (by decide) ?_
      refine lv_icmp_ge (tgt := 30) hx hb dC_countTold_7 (by decide) (fun c_7 => ?_) (fun c_7 => ?_)
      · refine lv_iload_n hx hb dC_countTold_30 rfl (lv_at hl 1 rfl) ?_
        exact mreti hx hb hr hlk hm ⟨by rw [hx0, show i = 50 by omega], rfl⟩ dC_countTold_31
      · exact absurd (nI_le (a := 50) (b := i) (by omega) (by omega)) c_7
    | succ d ih =>
      intro i hi x hx0 H locs ls hm hl
      have hiN : i < 50 := by omega
      refine lv_iload_n hx hb dC_countTold_4 rfl (lv_at hl 0 rfl) ?_
      refine lv_bipush (v := 50) hx hb dC_countTold_5 (by decide) ?_
      refine lv_icmp_ge (tgt := 30) hx hb dC_countTold_7 (by decide) (fun c_7 => ?_) (fun c_7 => ?_)
      · exact absurd c_7 (nI_ge (a := i) (b := 50) (by omega) (by omega))
      · refine lv_aload_n hx hb dC_countTold_10 rfl (lv_at hl 2 rfl) ?_
        refine g_C_J_69 (v := .ref (x7)) hx hb hE hm ha rfl dC_countTold_11 ?_
        refine lv_iload_n hx hb dC_countTold_14 rfl (lv_at hl 0 rfl) ?_
        refine ialdE (i) hx hb hE.2.2.1 hm 0 hf rfl rfl (by omega) (by decide) dC_countTold_15 ?_
        refine lv_bipush (v := (-2)) hx hb dC_countTold_16 (by decide) ?_
        refine lv_icmp_eq (tgt := 24) hx hb dC_countTold_18 (by decide) (fun c_18 => ?_) (fun c_18 => ?_)
        · refine lv_iinc (v := nI i + 1) (lv' := [(2, .int (nI i + 1)), (1, .int (x)), (0, .ref (a))]) hx hb dC_countTold_24 hl (k := 0) rfl rfl (by decide) rfl (fun ls hl => ?_)
          refine lv_goto (tgt := 4) hx hb dC_countTold_27 (by decide) ?_
          rw [nI_1] at hl
          exact ih (i + 1) (by omega) (x) (cntU_f hx0 (by simp [c_7, c_18, dec_0, bI_0, ← Int32.not_lt])) H locs ls hm (lv_sub hl [0, 1, 2] rfl)
        · refine lv_iinc (v := x + 1) (lv' := [(1, .int (x + 1)), (2, .int (nI i)), (0, .ref (a))]) hx hb dC_countTold_21 hl (k := 1) rfl rfl (by decide) rfl (fun ls hl => ?_)
          refine lv_iinc (v := nI i + 1) (lv' := [(2, .int (nI i + 1)), (1, .int (x + 1)), (0, .ref (a))]) hx hb dC_countTold_24 hl (k := 1) rfl rfl (by decide) rfl (fun ls hl => ?_)
          refine lv_goto (tgt := 4) hx hb dC_countTold_27 (by decide) ?_
          rw [nI_1] at hl
          exact ih (i + 1) (by omega) (x + 1) (cntU_t hx0 (by simp [c_7, c_18, dec_0, bI_0, ← Int32.not_lt])) H locs ls hm (lv_sub hl [0, 1, 2] rfl)
  refine lv_iconst (v := 0) hx hb dC_countTold_0 (by decide) ?_
  refine lv_istore_n (lv' := [(1, .int (0)), (0, .ref (a))]) hx hb dC_countTold_1 rfl hl (by decide) rfl (fun ls hl => ?_)
  refine lv_iconst (v := 0) hx hb dC_countTold_2 (by decide) ?_
  refine lv_istore_n (lv' := [(2, .int (0)), (1, .int (0)), (0, .ref (a))]) hx hb dC_countTold_3 rfl hl (by decide) rfl (fun ls hl => ?_)
  exact loop 50 0 (by omega) 0 rfl _ _ ls hm (by rw [nI_0]; exact hl)
end
section
set_option maxHeartbeats 4000000 in
set_option maxRecDepth 100000 in
/-- drop(job): pruned, its versions gone, its base has one less -/
theorem kC_drop (l : Launch) (B : Nat) (D : va_G) (cI cZ cL : ClassId) (w : Wd) (o : Nat) (ad va : Nat → Nat) (now : Int32) (n : Nat) (J : Nat → Jr) (hR : cR cI o ad va now n J w) (i : Nat) (hi : i < n) (hp : jPr (J i) = false) : Met l yC_drop (.code yC_drop cC_drop 1 none :: BIG) { frames := 1, cells := 0, slots := 0, locals := 23 } (va_Pc [.ref (ad i)] (mP B D CLS (TYS cI cZ cL) NEST w)) (va_Qv (fun u => cR cI o ad va now n (drJ J i) u ∧ cK o ad va n w u) (mE B D CLS) (fun q => B ≤ q)) 0 0 (fun q => B ≤ q) := by
  cases hb0 : jBs (J i) with
  | none =>
    refine mMet (by decide) rfl (Nat.le_of_ble_eq_true rfl) ?_
    intro p e s m below meth c ls hx hb hml hr hlk hnm hown hts hK hN hm hl
    have hE : ME "ChainPicker" (.code yC_drop cC_drop 1 none) _ s m D (TYS cI cZ cL) := ⟨hown, hts, hK, hN⟩
    have hl : lv_has ls 1 [(0, .ref (ad i))] := hl
    have hA : w (ad i) = some (.inr (0, [.int (nI i), .int (jSer (J i)), .int (jLev (J i)), .int (bI (jUp (J i))), .null, .int (jBg (J i)), va_rf (prv ad i), .ref (va i), .int (jEn (J i)), .int (jSt (J i)), .int (bI (jPr (J i))), .int (nI (sd n J i))])) := by have h := hR.2.1 i hi; rw [jL, hb0] at h; exact h
    refine lv_aload_n hx hb dC_drop_0 rfl (lv_at hl 0 rfl) ?_
    refine lv_iconst (v := 1) hx hb dC_drop_1 (by decide) ?_
    refine p_C_J_121 (x := 1) hx hb hE hm hA (by simp) (by decide) dC_drop_2 (fun H locs hm => ?_)
    obtain ⟨w1, hhw1⟩ : ∃ z : Wd, z = wset w (ad i) (.inr (0, [.int (nI i), .int (jSer (J i)), .int (jLev (J i)), .int (bI (jUp (J i))), .null, .int (jBg (J i)), va_rf (prv ad i), .ref (va i), .int (jEn (J i)), .int (jSt (J i)), .int (1), .int (nI (sd n J i))])) := ⟨_, rfl⟩
    have hm : mS B D CLS s.heap w1 H locs := by rw [hhw1]; exact hm
    have hw1 : w1 = wset (w) (ad i) (.inr (0, [.int (nI i), .int (jSer (J i)), .int (jLev (J i)), .int (bI (jUp (J i))), .null, .int (jBg (J i)), va_rf (prv ad i), .ref (va i), .int (jEn (J i)), .int (jSt (J i)), .int (1), .int (nI (sd n J i))])) := by rw [hhw1]
    have fw1 : w1 (ad i) = some (.inr (0, [.int (nI i), .int (jSer (J i)), .int (jLev (J i)), .int (bI (jUp (J i))), .null, .int (jBg (J i)), va_rf (prv ad i), .ref (va i), .int (jEn (J i)), .int (jSt (J i)), .int (1), .int (nI (sd n J i))])) := by rw [hhw1]; exact wset_at _ _ _
    have fw1_1 := (show w1 (va i) = w (va i) by rw [hhw1]; exact wset_ne (hR.vaad hi hi)).trans (hR.2.2.1 i hi)
    refine lv_aload_n hx hb dC_drop_5 rfl (lv_at hl 0 rfl) ?_
    refine g_C_J_69 (v := .ref (va i)) hx hb hE hm fw1 rfl dC_drop_6 ?_
    refine lv_bipush (v := (-2)) hx hb dC_drop_9 (by decide) ?_
    refine mcallv (mcS (n := 2) (As := [.ref (va i), .int ((-2))]) (rest := []) hx hb hml hE (kF_fill l B D cI cZ cL w1 (va i) (-2) 50 (jVr (J i)) (by decide) fw1_1) q_163 q_56 q_8 q_57 rfl rfl (by decide +kernel) ⟨Nat.le_of_ble_eq_true rfl, Nat.le_of_ble_eq_true rfl⟩ rfl hl.1 hm rfl (Nat.le_of_ble_eq_true rfl) dC_drop_11 ⟨Nat.le_of_ble_eq_true rfl, Nat.le_of_ble_eq_true rfl⟩) hm (fun u2 H locs hp2 hm => ?_)
    rw [hp2] at hm
    obtain ⟨w2, hhw2⟩ : ∃ z : Wd, z = wset w1 (va i) (.inl (cI, 50, .inl (fun _ => -2))) := ⟨_, rfl⟩
    have hm : mS B D CLS s.heap w2 H locs := by rw [hhw2]; exact hm
    have hw2 : w2 = wset (wset (w) (ad i) (.inr (0, [.int (nI i), .int (jSer (J i)), .int (jLev (J i)), .int (bI (jUp (J i))), .null, .int (jBg (J i)), va_rf (prv ad i), .ref (va i), .int (jEn (J i)), .int (jSt (J i)), .int (1), .int (nI (sd n J i))]))) (va i) (.inl (cI, 50, .inl (fun _ => -2))) := by rw [hhw2, hw1]
    have fw2 : w2 (va i) = some (.inl (cI, 50, .inl (fun _ => -2))) := by rw [hhw2]; exact wset_at _ _ _
    have fw2_1 := (show w2 (ad i) = w1 (ad i) by rw [hhw2]; exact wset_ne (Ne.symm (hR.vaad hi hi))).trans fw1
    refine lv_aload_n hx hb dC_drop_14 rfl (lv_at hl 0 rfl) ?_
    refine g_C_J_79 (v := .null) hx hb hE hm fw2_1 rfl dC_drop_15 ?_
    refine lv_ifnullN (tgt := 34) hx hb dC_drop_18 (by decide) ?_
    exact mretv hx hb hr hlk hm (by rw [hw2]; have h := hR.drop0 hi hp hb0; rw [hb0] at h; exact ⟨h, (cK.rf.set (cF_ad hi)).set (cF_va hi)⟩) dC_drop_34
  | some b =>
    refine mMet (by decide) rfl (Nat.le_of_ble_eq_true rfl) ?_
    intro p e s m below meth c ls hx hb hml hr hlk hnm hown hts hK hN hm hl
    have hE : ME "ChainPicker" (.code yC_drop cC_drop 1 none) _ s m D (TYS cI cZ cL) := ⟨hown, hts, hK, hN⟩
    have hl : lv_has ls 1 [(0, .ref (ad i))] := hl
    have hbn : b < n := Nat.lt_trans (hR.bs hi hb0) hi
    have hbi : b ≠ i := Nat.ne_of_lt (hR.bs hi hb0)
    have hA : w (ad i) = some (.inr (0, [.int (nI i), .int (jSer (J i)), .int (jLev (J i)), .int (bI (jUp (J i))), .ref (ad b), .int (jBg (J i)), va_rf (prv ad i), .ref (va i), .int (jEn (J i)), .int (jSt (J i)), .int (bI (jPr (J i))), .int (nI (sd n J i))])) := by have h := hR.2.1 i hi; rw [jL, hb0] at h; exact h
    refine lv_aload_n hx hb dC_drop_0 rfl (lv_at hl 0 rfl) ?_
    refine lv_iconst (v := 1) hx hb dC_drop_1 (by decide) ?_
    refine p_C_J_121 (x := 1) hx hb hE hm hA (by simp) (by decide) dC_drop_2 (fun H locs hm => ?_)
    obtain ⟨w1, hhw1⟩ : ∃ z : Wd, z = wset w (ad i) (.inr (0, [.int (nI i), .int (jSer (J i)), .int (jLev (J i)), .int (bI (jUp (J i))), .ref (ad b), .int (jBg (J i)), va_rf (prv ad i), .ref (va i), .int (jEn (J i)), .int (jSt (J i)), .int (1), .int (nI (sd n J i))])) := ⟨_, rfl⟩
    have hm : mS B D CLS s.heap w1 H locs := by rw [hhw1]; exact hm
    have hw1 : w1 = wset (w) (ad i) (.inr (0, [.int (nI i), .int (jSer (J i)), .int (jLev (J i)), .int (bI (jUp (J i))), .ref (ad b), .int (jBg (J i)), va_rf (prv ad i), .ref (va i), .int (jEn (J i)), .int (jSt (J i)), .int (1), .int (nI (sd n J i))])) := by rw [hhw1]
    have fw1 : w1 (ad i) = some (.inr (0, [.int (nI i), .int (jSer (J i)), .int (jLev (J i)), .int (bI (jUp (J i))), .ref (ad b), .int (jBg (J i)), va_rf (prv ad i), .ref (va i), .int (jEn (J i)), .int (jSt (J i)), .int (1), .int (nI (sd n J i))])) := by rw [hhw1]; exact wset_at _ _ _
    have fw1_1 := (show w1 (va i) = w (va i) by rw [hhw1]; exact wset_ne (hR.vaad hi hi)).trans (hR.2.2.1 i hi)
    have fw1_2 := (show w1 (ad b) = w (ad b) by rw [hhw1]; exact wset_ne (hR.adad hbn hi hbi)).trans (hR.2.1 b hbn)
    refine lv_aload_n hx hb dC_drop_5 rfl (lv_at hl 0 rfl) ?_
    refine g_C_J_69 (v := .ref (va i)) hx hb hE hm fw1 rfl dC_drop_6 ?_
    refine lv_bipush (v := (-2)) hx hb dC_drop_9 (by decide) ?_
    refine mcallv (mcS (n := 2) (As := [.ref (va i), .int ((-2))]) (rest := []) hx hb hml hE (kF_fill l B D cI cZ cL w1 (va i) (-2) 50 (jVr (J i)) (by decide) fw1_1) q_163 q_56 q_8 q_57 rfl rfl (by decide +kernel) ⟨Nat.le_of_ble_eq_true rfl, Nat.le_of_ble_eq_true rfl⟩ rfl hl.1 hm rfl (Nat.le_of_ble_eq_true rfl) dC_drop_11 ⟨Nat.le_of_ble_eq_true rfl, Nat.le_of_ble_eq_true rfl⟩) hm (fun u2 H locs hp2 hm => ?_)
    rw [hp2] at hm
    obtain ⟨w2, hhw2⟩ : ∃ z : Wd, z = wset w1 (va i) (.inl (cI, 50, .inl (fun _ => -2))) := ⟨_, rfl⟩
    have hm : mS B D CLS s.heap w2 H locs := by rw [hhw2]; exact hm
    have hw2 : w2 = wset (wset (w) (ad i) (.inr (0, [.int (nI i), .int (jSer (J i)), .int (jLev (J i)), .int (bI (jUp (J i))), .ref (ad b), .int (jBg (J i)), va_rf (prv ad i), .ref (va i), .int (jEn (J i)), .int (jSt (J i)), .int (1), .int (nI (sd n J i))]))) (va i) (.inl (cI, 50, .inl (fun _ => -2))) := by rw [hhw2, hw1]
    have fw2 : w2 (va i) = some (.inl (cI, 50, .inl (fun _ => -2))) := by rw [hhw2]; exact wset_at _ _ _
    have fw2_1 := (show w2 (ad i) = w1 (ad i) by rw [hhw2]; exact wset_ne (Ne.symm (hR.vaad hi hi))).trans fw1
    have fw2_2 := (show w2 (ad b) = w1 (ad b) by rw [hhw2]; exact wset_ne (Ne.symm (hR.vaad hi hbn))).trans fw1_2
    refine lv_aload_n hx hb dC_drop_14 rfl (lv_at hl 0 rfl) ?_
    refine g_C_J_79 (v := .ref (ad b)) hx hb hE hm fw2_1 rfl dC_drop_15 ?_
    refine lv_ifnull hx hb dC_drop_18 ?_
    refine lv_aload_n hx hb dC_drop_21 rfl (lv_at hl 0 rfl) ?_
    refine g_C_J_79 (v := .ref (ad b)) hx hb hE hm fw2_1 rfl dC_drop_22 ?_
    refine lv_dup hx hb dC_drop_25 rfl ?_
    refine g_C_J_42 (v := .int (nI (sd n J b))) hx hb hE hm fw2_2 rfl dC_drop_26 ?_
    refine lv_iconst (v := 1) hx hb dC_drop_29 (by decide) ?_
    refine lv_isub hx hb dC_drop_30 ?_
    refine p_C_J_42 (x := (nI (sd n J b)) - (1)) hx hb hE hm fw2_2 (by simp) dC_drop_31 (fun H locs hm => ?_)
    obtain ⟨w3, hhw3⟩ : ∃ z : Wd, z = wset w2 (ad b) (.inr (0, [.int (nI b), .int (jSer (J b)), .int (jLev (J b)), .int (bI (jUp (J b))), va_rf ((jBs (J b)).map ad), .int (jBg (J b)), va_rf (prv ad b), .ref (va b), .int (jEn (J b)), .int (jSt (J b)), .int (bI (jPr (J b))), .int ((nI (sd n J b)) - (1))])) := ⟨_, rfl⟩
    have hm : mS B D CLS s.heap w3 H locs := by rw [hhw3]; exact hm
    have hw3 : w3 = wset (wset (wset (w) (ad i) (.inr (0, [.int (nI i), .int (jSer (J i)), .int (jLev (J i)), .int (bI (jUp (J i))), .ref (ad b), .int (jBg (J i)), va_rf (prv ad i), .ref (va i), .int (jEn (J i)), .int (jSt (J i)), .int (1), .int (nI (sd n J i))]))) (va i) (.inl (cI, 50, .inl (fun _ => -2)))) (ad b) (.inr (0, [.int (nI b), .int (jSer (J b)), .int (jLev (J b)), .int (bI (jUp (J b))), va_rf ((jBs (J b)).map ad), .int (jBg (J b)), va_rf (prv ad b), .ref (va b), .int (jEn (J b)), .int (jSt (J b)), .int (bI (jPr (J b))), .int ((nI (sd n J b)) - (1))])) := by rw [hhw3, hw2]
    have fw3 : w3 (ad b) = some (.inr (0, [.int (nI b), .int (jSer (J b)), .int (jLev (J b)), .int (bI (jUp (J b))), va_rf ((jBs (J b)).map ad), .int (jBg (J b)), va_rf (prv ad b), .ref (va b), .int (jEn (J b)), .int (jSt (J b)), .int (bI (jPr (J b))), .int ((nI (sd n J b)) - (1))])) := by rw [hhw3]; exact wset_at _ _ _
    have fw3_1 := (show w3 (va i) = w2 (va i) by rw [hhw3]; exact wset_ne (hR.vaad hi hbn)).trans fw2
    have fw3_2 := (show w3 (ad i) = w2 (ad i) by rw [hhw3]; exact wset_ne (Ne.symm (hR.adad hbn hi hbi))).trans fw2_1
    exact mretv hx hb hr hlk hm (by rw [hw3]; have h := hR.drop1 hi hp hb0; rw [hb0] at h; exact ⟨h, ((cK.rf.set (cF_ad hi)).set (cF_va hi)).set (cF_ad hbn)⟩) dC_drop_34
end
section
set_option maxHeartbeats 4000000 in
set_option maxRecDepth 100000 in
theorem kC_findTeller (l : Launch) (B : Nat) (D : va_G) (cI cZ cL : ClassId) (w : Wd) (o : Nat) (ad va : Nat → Nat) (now : Int32) (n : Nat) (J : Nat → Jr) (hR : cR cI o ad va now n J w) (h0 : Option Nat) (hh0 : ∀ i, h0 = some i → i < n) (x : Int32) : Met l yC_findTeller (.code yC_findTeller cC_findTeller 3 (some (.object "ChainPicker$Job")) :: BIG) { frames := 1, cells := 0, slots := 0, locals := 20 } (va_Pc [va_rf (h0.map ad), .int (x)] (mP B D CLS (TYS cI cZ cL) NEST w)) (va_Qq (fun r u => r = (tel n J h0 x).map ad ∧ u = w) (mE B D CLS) (fun q => B ≤ q)) 0 0 (fun q => B ≤ q) := by
  refine mMet (by decide) rfl (by simp [lg_sl, rf_cat, int_cat, ref_cat]) ?_
  intro p e s m below meth c ls hx hb hml hr hlk hnm hown hts hK hN hm hl
  have hE : ME "ChainPicker" (.code yC_findTeller cC_findTeller 3 (some (.object "ChainPicker$Job"))) _ s m D (TYS cI cZ cL) := ⟨hown, hts, hK, hN⟩
  have hl : lv_has ls 3 [(0, va_rf (h0.map ad)), (1, .int (x))] := by simpa [lv_args, rf_cat, int_cat, ref_cat] using hl
  refine lv_iload_n hx hb dC_findTeller_0 rfl (lv_at hl 1 rfl) ?_
  refine mcalli (mcS (n := 1) (As := [.int (x)]) (rest := []) hx hb hml hE (kC_isFile l B D cI cZ cL w x) q_116 q_117 q_1 q_118 rfl rfl (by decide +kernel) ⟨Nat.le_of_ble_eq_true rfl, Nat.le_of_ble_eq_true rfl⟩ rfl hl.1 hm rfl (Nat.le_of_ble_eq_true rfl) dC_findTeller_1 ⟨Nat.le_of_ble_eq_true rfl, Nat.le_of_ble_eq_true rfl⟩) hm (fun r1 u1 H locs hp1 hm => ?_)
  obtain ⟨hr1, hu1⟩ := hp1
  rw [hu1] at hm
  refine lv_if_ne (tgt := 9) hx hb dC_findTeller_4 (by decide) (fun c_4 => ?_) (fun c_4 => ?_)
  · rw [hr1, bI_0] at c_4
    refine mloadR hx hb dC_findTeller_9 rfl (lv_at hl 0 rfl) ?_
    refine mstoreR (lv' := [(2, va_rf (h0.map ad)), (0, va_rf (h0.map ad)), (1, .int (x))]) hx hb dC_findTeller_10 rfl hl (by decide) rfl (fun ls hl => ?_)
    obtain ⟨k, hk, hxk, hck⟩ := isF_of (x := x) (by simpa using c_4)
    have loop : ∀ (f : Nat) (h : Option Nat), (∀ i, h = some i → i < f ∧ i < n) → tlr J k (chn J n h0) = tlr J k (chn J f h) → ∀ (H : Heap) (locs : List Loc) (ls : Array Slot), mS B D CLS s.heap w H locs → lv_has ls 3 [(2, va_rf (h.map ad)), (0, va_rf (h0.map ad)), (1, .int (x))] → W p l e ({ frames := 1, cells := 0, slots := 0, locals := 20 }) s m [va_rf (h0.map ad), .int (x)].toArray below meth c H locs 0 0 (MQ below (va_Qq (fun r u => r = (tel n J h0 x).map ad ∧ u = w) (mE B D CLS) (fun q => B ≤ q)) [va_rf (h0.map ad), .int (x)].toArray s 0 0 (fun q => B ≤ q)) (F0 m 11 ls []) := by
      intro f
      induction f with
      | zero =>
        intro h hlt heq H locs ls hm hl
        cases h with
        | none =>
          have hl : lv_has ls 3 [(2, .null), (0, va_rf (h0.map ad)), (1, .int (x))] := hl
          refine lv_aload_nN hx hb dC_findTeller_11 rfl (lv_at hl 0 rfl) ?_
          refine lv_ifnullN (tgt := 36) hx hb dC_findTeller_12 (by decide) ?_
          refine lv_null hx hb dC_findTeller_36 ?_
          exact mretq (r := none) hx hb hr (Or.inl ⟨_, rfl⟩) hlk hm ⟨by rw [tel, if_pos (by simpa using c_4), hck, heq, tlr_n]; rfl, rfl⟩ dC_findTeller_37
        | some i => exact absurd (hlt i rfl).1 (Nat.not_lt_zero _)
      | succ f ih =>
        intro h hlt heq H locs ls hm hl
        cases h with
        | none =>
          have hl : lv_has ls 3 [(2, .null), (0, va_rf (h0.map ad)), (1, .int (x))] := hl
          refine lv_aload_nN hx hb dC_findTeller_11 rfl (lv_at hl 0 rfl) ?_
          refine lv_ifnullN (tgt := 36) hx hb dC_findTeller_12 (by decide) ?_
          refine lv_null hx hb dC_findTeller_36 ?_
          exact mretq (r := none) hx hb hr (Or.inl ⟨_, rfl⟩) hlk hm ⟨by rw [tel, if_pos (by simpa using c_4), hck, heq, tlr_n]; rfl, rfl⟩ dC_findTeller_37
        | some i =>
          have hin : i < n := (hlt i rfl).2
          have hl : lv_has ls 3 [(2, .ref (ad i)), (0, va_rf (h0.map ad)), (1, .int (x))] := hl
          refine lv_aload_n hx hb dC_findTeller_11 rfl (lv_at hl 0 rfl) ?_
          refine lv_ifnull hx hb dC_findTeller_12 ?_
          refine lv_aload_n hx hb dC_findTeller_15 rfl (lv_at hl 0 rfl) ?_
          refine g_C_J_69 (v := .ref (va i)) hx hb hE hm (hR.2.1 i hin) rfl dC_findTeller_16 ?_
          refine lv_iload_n hx hb dC_findTeller_19 rfl (lv_at hl 2 rfl) ?_
          refine ialdE (k) hx hb hE.2.2.1 hm 0 (hR.2.2.1 i hin) rfl hxk hk (by decide) dC_findTeller_20 ?_
          refine lv_bipush (v := (-2)) hx hb dC_findTeller_21 (by decide) ?_
          refine lv_icmp_eq (tgt := 28) hx hb dC_findTeller_23 (by decide) (fun c_23 => ?_) (fun c_23 => ?_)
          · refine lv_aload_n hx hb dC_findTeller_28 rfl (lv_at hl 0 rfl) ?_
            refine g_C_J_79 (v := va_rf ((jBs (J i)).map ad)) hx hb hE hm (hR.2.1 i hin) rfl dC_findTeller_29 ?_
            refine mstoreR (lv' := [(2, va_rf ((jBs (J i)).map ad)), (0, va_rf (h0.map ad)), (1, .int (x))]) hx hb dC_findTeller_32 rfl hl (by decide) rfl (fun ls hl => ?_)
            refine lv_goto (tgt := 11) hx hb dC_findTeller_33 (by decide) ?_
            exact ih (jBs (J i)) (fun b hb => ⟨Nat.lt_of_lt_of_le (hR.bs hin hb) (Nat.le_of_lt_succ (hlt i rfl).1), Nat.lt_trans (hR.bs hin hb) hin⟩) (by rw [heq, tlr_c c_23]) H locs ls hm (lv_sub hl [0, 1, 2] rfl)
          · refine lv_aload_n hx hb dC_findTeller_26 rfl (lv_at hl 0 rfl) ?_
            exact mretq (r := some (ad i)) hx hb hr (Or.inl ⟨_, rfl⟩) hlk hm ⟨by rw [tel, if_pos (by simpa using c_4), hck, heq, tlr_s c_23]; rfl, rfl⟩ dC_findTeller_27
    exact loop n h0 (fun i hi => ⟨hh0 i hi, hh0 i hi⟩) rfl _ _ ls hm (lv_sub hl [0, 1, 2] rfl)
  · rw [hr1, bI_0] at c_4
    refine lv_null hx hb dC_findTeller_7 ?_
    exact mretq (r := none) hx hb hr (Or.inl ⟨_, rfl⟩) hlk hm ⟨by rw [tel, if_neg (by simp [c_4, dec_0, bI_0, ← Int32.not_lt])]; rfl, rfl⟩ dC_findTeller_8
set_option maxHeartbeats 4000000 in
set_option maxRecDepth 100000 in
theorem kC_versionIn (l : Launch) (B : Nat) (D : va_G) (cI cZ cL : ClassId) (w : Wd) (o : Nat) (ad va : Nat → Nat) (now : Int32) (n : Nat) (J : Nat → Jr) (hR : cR cI o ad va now n J w) (h0 : Option Nat) (hh0 : ∀ i, h0 = some i → i < n) (x : Int32) : Met l yC_versionIn (.code yC_versionIn cC_versionIn 3 (some .int) :: BIG) { frames := 2, cells := 0, slots := 0, locals := 42 } (va_Pc [va_rf (h0.map ad), .int (x)] (mP B D CLS (TYS cI cZ cL) NEST w)) (va_Qi (fun r u => r = ver n J h0 x ∧ u = w) (mE B D CLS) (fun q => B ≤ q)) 0 0 (fun q => B ≤ q) := by
  refine mMet (by decide) rfl (by simp [lg_sl, rf_cat, int_cat, ref_cat]) ?_
  intro p e s m below meth c ls hx hb hml hr hlk hnm hown hts hK hN hm hl
  have hE : ME "ChainPicker" (.code yC_versionIn cC_versionIn 3 (some .int)) _ s m D (TYS cI cZ cL) := ⟨hown, hts, hK, hN⟩
  have hl : lv_has ls 3 [(0, va_rf (h0.map ad)), (1, .int (x))] := by simpa [lv_args, rf_cat, int_cat, ref_cat] using hl
  refine mloadR hx hb dC_versionIn_0 rfl (lv_at hl 0 rfl) ?_
  refine lv_iload_n hx hb dC_versionIn_1 rfl (lv_at hl 1 rfl) ?_
  refine mcallq (mcS (n := 2) (As := [va_rf (h0.map ad), .int (x)]) (rest := []) hx hb hml hE (kC_findTeller l B D cI cZ cL w o ad va now n J hR h0 hh0 x) q_142 q_143 q_1 q_144 rfl rfl (by decide +kernel) ⟨Nat.le_of_ble_eq_true rfl, Nat.le_of_ble_eq_true rfl⟩ rfl hl.1 hm rfl (Nat.le_of_ble_eq_true rfl) dC_versionIn_2 ⟨Nat.le_of_ble_eq_true rfl, Nat.le_of_ble_eq_true rfl⟩) hm (fun r1 u1 H locs hp1 hm => ?_)
  obtain ⟨hr1, hu1⟩ := hp1
  rw [hu1] at hm
  subst hr1
  cases ht : tel n J h0 x with
  | none =>
    show W _ _ _ _ _ _ _ _ _ _ _ _ _ _ _ (F0 m 5 ls [.null])
    refine lv_astore_nN (lv' := [(2, .null), (0, va_rf (h0.map ad)), (1, .int (x))]) hx hb dC_versionIn_5 rfl hl (by decide) rfl (fun ls hl => ?_)
    refine lv_aload_nN hx hb dC_versionIn_6 rfl (lv_at hl 0 rfl) ?_
    refine lv_ifnonnullN hx hb dC_versionIn_7 ?_
    refine lv_iconst (v := (-1)) hx hb dC_versionIn_10 (by decide) ?_
    refine lv_goto (tgt := 20) hx hb dC_versionIn_11 (by decide) ?_
    exact mreti hx hb hr hlk hm ⟨by simp only [ver, ht], rfl⟩ dC_versionIn_20
  | some j =>
    obtain ⟨hjn, hfx, -⟩ := tel_lt hR.2.2.2.2.2.1 hh0 ht
    obtain ⟨k, hk, hxk, hck⟩ := isF_of hfx
    show W _ _ _ _ _ _ _ _ _ _ _ _ _ _ _ (F0 m 5 ls [.ref (ad j)])
    refine lv_astore_n (lv' := [(2, .ref (ad j)), (0, va_rf (h0.map ad)), (1, .int (x))]) hx hb dC_versionIn_5 rfl hl (by decide) rfl (fun ls hl => ?_)
    refine lv_aload_n hx hb dC_versionIn_6 rfl (lv_at hl 0 rfl) ?_
    refine lv_ifnonnull (tgt := 14) hx hb dC_versionIn_7 (by decide) ?_
    refine lv_aload_n hx hb dC_versionIn_14 rfl (lv_at hl 0 rfl) ?_
    refine g_C_J_69 (v := .ref (va j)) hx hb hE hm (hR.2.1 j hjn) rfl dC_versionIn_15 ?_
    refine lv_iload_n hx hb dC_versionIn_18 rfl (lv_at hl 2 rfl) ?_
    refine ialdE (k) hx hb hE.2.2.1 hm 0 (hR.2.2.1 j hjn) rfl hxk hk (by decide) dC_versionIn_19 ?_
    exact mreti hx hb hr hlk hm ⟨by simp only [ver, ht]; rw [hck], rfl⟩ dC_versionIn_20
set_option maxHeartbeats 4000000 in
set_option maxRecDepth 100000 in
theorem kC_chain (l : Launch) (B : Nat) (D : va_G) (cI cZ cL : ClassId) (w : Wd) (o : Nat) (ad va : Nat → Nat) (now : Int32) (n : Nat) (J : Nat → Jr) (hR : cR cI o ad va now n J w) (x t : Int32) : Met l yC_chain (.code yC_chain cC_chain 5 (some .int) :: BIG) { frames := 2, cells := 0, slots := 0, locals := 43 } (va_Pc [.ref (o), .int (x), .int (t)] (mP B D CLS (TYS cI cZ cL) NEST w)) (va_Qi (fun r u => r = nI (chn J n (hd n J x t)).length ∧ u = w) (mE B D CLS) (fun q => B ≤ q)) 0 0 (fun q => B ≤ q) := by
  refine mMet (by decide) rfl (Nat.le_of_ble_eq_true rfl) ?_
  intro p e s m below meth c ls hx hb hml hr hlk hnm hown hts hK hN hm hl
  have hE : ME "ChainPicker" (.code yC_chain cC_chain 5 (some .int)) _ s m D (TYS cI cZ cL) := ⟨hown, hts, hK, hN⟩
  have hl : lv_has ls 5 [(0, .ref (o)), (1, .int (x)), (2, .int (t))] := hl
  have loop : ∀ (f : Nat) (h : Option Nat), (∀ i, h = some i → i < f ∧ i < n) → ∀ (y : Int32), y + nI (chn J f h).length = nI (chn J n (hd n J x t)).length → ∀ (H : Heap) (locs : List Loc) (ls : Array Slot), mS B D CLS s.heap w H locs → lv_has ls 5 [(4, va_rf (h.map ad)), (3, .int (y)), (0, .ref (o)), (1, .int (x)), (2, .int (t))] → W p l e ({ frames := 2, cells := 0, slots := 0, locals := 43 }) s m [.ref (o), .int (x), .int (t)].toArray below meth c H locs 0 0 (MQ below (va_Qi (fun r u => r = nI (chn J n (hd n J x t)).length ∧ u = w) (mE B D CLS) (fun q => B ≤ q)) [.ref (o), .int (x), .int (t)].toArray s 0 0 (fun q => B ≤ q)) (F0 m 10 ls []) := by
    intro f
    induction f with
    | zero =>
      intro h hlt y hy H locs ls hm hl
      cases h with
      | none =>
        have hl : lv_has ls 5 [(4, .null), (3, .int (y)), (0, .ref (o)), (1, .int (x)), (2, .int (t))] := hl
        refine lv_aloadN hx hb dC_chain_10 (lv_at hl 0 rfl) ?_
        refine lv_ifnullN (tgt := 28) hx hb dC_chain_12 (by decide) ?_
        refine lv_iload_n hx hb dC_chain_28 rfl (lv_at hl 1 rfl) ?_
        exact mreti hx hb hr hlk hm ⟨len0 hy, rfl⟩ dC_chain_29
      | some i => exact absurd (hlt i rfl).1 (Nat.not_lt_zero _)
    | succ f ih =>
      intro h hlt y hy H locs ls hm hl
      cases h with
      | none =>
        have hl : lv_has ls 5 [(4, .null), (3, .int (y)), (0, .ref (o)), (1, .int (x)), (2, .int (t))] := hl
        refine lv_aloadN hx hb dC_chain_10 (lv_at hl 0 rfl) ?_
        refine lv_ifnullN (tgt := 28) hx hb dC_chain_12 (by decide) ?_
        refine lv_iload_n hx hb dC_chain_28 rfl (lv_at hl 1 rfl) ?_
        exact mreti hx hb hr hlk hm ⟨len0 hy, rfl⟩ dC_chain_29
      | some i =>
        have hin : i < n := (hlt i rfl).2
        have hl : lv_has ls 5 [(4, .ref (ad i)), (3, .int (y)), (0, .ref (o)), (1, .int (x)), (2, .int (t))] := hl
        refine lv_aload hx hb dC_chain_10 (lv_at hl 0 rfl) ?_
        refine lv_ifnull hx hb dC_chain_12 ?_
        refine lv_iinc (v := y + 1) (lv' := [(3, .int (y + 1)), (4, .ref (ad i)), (0, .ref (o)), (1, .int (x)), (2, .int (t))]) hx hb dC_chain_15 hl (k := 1) rfl rfl (by decide) rfl (fun ls hl => ?_)
        refine lv_aload hx hb dC_chain_18 (lv_at hl 1 rfl) ?_
        refine g_C_J_79 (v := va_rf ((jBs (J i)).map ad)) hx hb hE hm (hR.2.1 i hin) rfl dC_chain_20 ?_
        refine mstoreR2 (lv' := [(4, va_rf ((jBs (J i)).map ad)), (3, .int (y + 1)), (0, .ref (o)), (1, .int (x)), (2, .int (t))]) hx hb dC_chain_23 hl (by decide) rfl (fun ls hl => ?_)
        refine lv_goto (tgt := 10) hx hb dC_chain_25 (by decide) ?_
        exact ih (jBs (J i)) (fun b hb => ⟨Nat.lt_of_lt_of_le (hR.bs hin hb) (Nat.le_of_lt_succ (hlt i rfl).1), Nat.lt_trans (hR.bs hin hb) hin⟩) (y + 1) (lenI hy) H locs ls hm (lv_sub hl [0, 1, 2, 3, 4] rfl)
  refine lv_iconst (v := 0) hx hb dC_chain_0 (by decide) ?_
  refine lv_istore_n (lv' := [(3, .int (0)), (0, .ref (o)), (1, .int (x)), (2, .int (t))]) hx hb dC_chain_1 rfl hl (by decide) rfl (fun ls hl => ?_)
  refine lv_aload_n hx hb dC_chain_2 rfl (lv_at hl 1 rfl) ?_
  refine lv_iload_n hx hb dC_chain_3 rfl (lv_at hl 2 rfl) ?_
  refine lv_iload_n hx hb dC_chain_4 rfl (lv_at hl 3 rfl) ?_
  refine mcallq (mcV (n := 2) (As := [.int (x), .int (t)]) (rest := []) hx hb hml hE (kC_findHead l B D cI cZ cL w o ad va now n J hR x t) q_131 q_133 qs_3 q_1 q_134 rfl rfl (by decide +kernel) ⟨Nat.le_of_ble_eq_true rfl, Nat.le_of_ble_eq_true rfl⟩ rfl hl.1 hm rfl hR.1 rfl (Nat.le_of_ble_eq_true rfl) dC_chain_5 ⟨Nat.le_of_ble_eq_true rfl, Nat.le_of_ble_eq_true rfl⟩) hm (fun r1 u1 H locs hp1 hm => ?_)
  obtain ⟨hr1, hu1⟩ := hp1
  rw [hu1] at hm
  refine mstoreR2 (lv' := [(4, va_rf (r1)), (3, .int (0)), (0, .ref (o)), (1, .int (x)), (2, .int (t))]) hx hb dC_chain_8 hl (by decide) rfl (fun ls hl => ?_)
  subst hr1
  exact loop n _ (fun i hi => ⟨hd_lt i hi, hd_lt i hi⟩) 0 (by simp) _ _ ls hm (lv_sub hl [0, 1, 2, 3, 4] rfl)
set_option maxHeartbeats 4000000 in
set_option maxRecDepth 100000 in
theorem kC_view (l : Launch) (B : Nat) (D : va_G) (cI cZ cL : ClassId) (w : Wd) (o : Nat) (ad va : Nat → Nat) (now : Int32) (n : Nat) (J : Nat → Jr) (hR : cR cI o ad va now n J w) (x t y : Int32) : Met l yC_view (.code yC_view cC_view 4 (some .int) :: BIG) { frames := 3, cells := 0, slots := 0, locals := 64 } (va_Pc [.ref (o), .int (x), .int (t), .int (y)] (mP B D CLS (TYS cI cZ cL) NEST w)) (va_Qi (fun r u => r = ver n J (hd n J x t) y ∧ u = w) (mE B D CLS) (fun q => B ≤ q)) 0 0 (fun q => B ≤ q) := by
  refine mMet (by decide) rfl (Nat.le_of_ble_eq_true rfl) ?_
  intro p e s m below meth c ls hx hb hml hr hlk hnm hown hts hK hN hm hl
  have hE : ME "ChainPicker" (.code yC_view cC_view 4 (some .int)) _ s m D (TYS cI cZ cL) := ⟨hown, hts, hK, hN⟩
  have hl : lv_has ls 4 [(0, .ref (o)), (1, .int (x)), (2, .int (t)), (3, .int (y))] := hl
  refine lv_aload_n hx hb dC_view_0 rfl (lv_at hl 0 rfl) ?_
  refine lv_iload_n hx hb dC_view_1 rfl (lv_at hl 1 rfl) ?_
  refine lv_iload_n hx hb dC_view_2 rfl (lv_at hl 2 rfl) ?_
  refine mcallq (mcV (n := 2) (As := [.int (x), .int (t)]) (rest := []) hx hb hml hE (kC_findHead l B D cI cZ cL w o ad va now n J hR x t) q_131 q_133 qs_3 q_1 q_134 rfl rfl (by decide +kernel) ⟨Nat.le_of_ble_eq_true rfl, Nat.le_of_ble_eq_true rfl⟩ rfl hl.1 hm rfl hR.1 rfl (Nat.le_of_ble_eq_true rfl) dC_view_3 ⟨Nat.le_of_ble_eq_true rfl, Nat.le_of_ble_eq_true rfl⟩) hm (fun r1 u1 H locs hp1 hm => ?_)
  obtain ⟨hr1, hu1⟩ := hp1
  rw [hu1] at hm
  subst hr1
  refine lv_iload_n hx hb dC_view_6 rfl (lv_at hl 3 rfl) ?_
  refine mcalli (mcS (n := 2) (As := [va_rf ((hd n J x t).map ad), .int (y)]) (rest := []) hx hb hml hE (kC_versionIn l B D cI cZ cL w o ad va now n J hR (hd n J x t) hd_lt y) q_139 q_140 q_1 q_141 rfl rfl (by decide +kernel) ⟨Nat.le_of_ble_eq_true rfl, Nat.le_of_ble_eq_true rfl⟩ rfl hl.1 hm rfl (Nat.le_of_ble_eq_true rfl) dC_view_7 ⟨Nat.le_of_ble_eq_true rfl, Nat.le_of_ble_eq_true rfl⟩) hm (fun r2 u2 H locs hp2 hm => ?_)
  obtain ⟨hr2, hu2⟩ := hp2
  rw [hu2] at hm
  exact mreti hx hb hr hlk hm ⟨hr2, rfl⟩ dC_view_10
set_option maxHeartbeats 4000000 in
set_option maxRecDepth 100000 in
theorem kC_source (l : Launch) (B : Nat) (D : va_G) (cI cZ cL : ClassId) (w : Wd) (o : Nat) (ad va : Nat → Nat) (now : Int32) (n : Nat) (J : Nat → Jr) (hR : cR cI o ad va now n J w) (x t y : Int32) : Met l yC_source (.code yC_source cC_source 5 (some .int) :: BIG) { frames := 2, cells := 0, slots := 0, locals := 43 } (va_Pc [.ref (o), .int (x), .int (t), .int (y)] (mP B D CLS (TYS cI cZ cL) NEST w)) (va_Qi (fun r u => r = oI (tel n J (hd n J x t) y) ∧ u = w) (mE B D CLS) (fun q => B ≤ q)) 0 0 (fun q => B ≤ q) := by
  refine mMet (by decide) rfl (Nat.le_of_ble_eq_true rfl) ?_
  intro p e s m below meth c ls hx hb hml hr hlk hnm hown hts hK hN hm hl
  have hE : ME "ChainPicker" (.code yC_source cC_source 5 (some .int)) _ s m D (TYS cI cZ cL) := ⟨hown, hts, hK, hN⟩
  have hl : lv_has ls 5 [(0, .ref (o)), (1, .int (x)), (2, .int (t)), (3, .int (y))] := hl
  refine lv_aload_n hx hb dC_source_0 rfl (lv_at hl 0 rfl) ?_
  refine lv_iload_n hx hb dC_source_1 rfl (lv_at hl 1 rfl) ?_
  refine lv_iload_n hx hb dC_source_2 rfl (lv_at hl 2 rfl) ?_
  refine mcallq (mcV (n := 2) (As := [.int (x), .int (t)]) (rest := []) hx hb hml hE (kC_findHead l B D cI cZ cL w o ad va now n J hR x t) q_131 q_133 qs_3 q_1 q_134 rfl rfl (by decide +kernel) ⟨Nat.le_of_ble_eq_true rfl, Nat.le_of_ble_eq_true rfl⟩ rfl hl.1 hm rfl hR.1 rfl (Nat.le_of_ble_eq_true rfl) dC_source_3 ⟨Nat.le_of_ble_eq_true rfl, Nat.le_of_ble_eq_true rfl⟩) hm (fun r1 u1 H locs hp1 hm => ?_)
  obtain ⟨hr1, hu1⟩ := hp1
  rw [hu1] at hm
  subst hr1
  refine lv_iload_n hx hb dC_source_6 rfl (lv_at hl 3 rfl) ?_
  refine mcallq (mcS (n := 2) (As := [va_rf ((hd n J x t).map ad), .int (y)]) (rest := []) hx hb hml hE (kC_findTeller l B D cI cZ cL w o ad va now n J hR (hd n J x t) hd_lt y) q_142 q_143 q_1 q_144 rfl rfl (by decide +kernel) ⟨Nat.le_of_ble_eq_true rfl, Nat.le_of_ble_eq_true rfl⟩ rfl hl.1 hm rfl (Nat.le_of_ble_eq_true rfl) dC_source_7 ⟨Nat.le_of_ble_eq_true rfl, Nat.le_of_ble_eq_true rfl⟩) hm (fun r2 u2 H locs hp2 hm => ?_)
  obtain ⟨hr2, hu2⟩ := hp2
  rw [hu2] at hm
  subst hr2
  cases ht : tel n J (hd n J x t) y with
  | none =>
    show W _ _ _ _ _ _ _ _ _ _ _ _ _ _ _ (F0 m 10 ls [.null])
    refine lv_astoreN (lv' := [(4, .null), (0, .ref (o)), (1, .int (x)), (2, .int (t)), (3, .int (y))]) hx hb dC_source_10 hl (by decide) rfl (fun ls hl => ?_)
    refine lv_aloadN hx hb dC_source_12 (lv_at hl 0 rfl) ?_
    refine lv_ifnonnullN hx hb dC_source_14 ?_
    refine lv_iconst (v := (-1)) hx hb dC_source_17 (by decide) ?_
    refine lv_goto (tgt := 26) hx hb dC_source_18 (by decide) ?_
    exact mreti hx hb hr hlk hm ⟨by simp only [oI, ht], rfl⟩ dC_source_26
  | some j =>
    obtain ⟨hjn, hfx, -⟩ := tel_lt hR.2.2.2.2.2.1 hd_lt ht
    show W _ _ _ _ _ _ _ _ _ _ _ _ _ _ _ (F0 m 10 ls [.ref (ad j)])
    refine lv_astore (lv' := [(4, .ref (ad j)), (0, .ref (o)), (1, .int (x)), (2, .int (t)), (3, .int (y))]) hx hb dC_source_10 hl (by decide) rfl (fun ls hl => ?_)
    refine lv_aload hx hb dC_source_12 (lv_at hl 0 rfl) ?_
    refine lv_ifnonnull (tgt := 21) hx hb dC_source_14 (by decide) ?_
    refine lv_aload hx hb dC_source_21 (lv_at hl 0 rfl) ?_
    refine g_C_J_50 (v := .int (nI j)) hx hb hE hm (hR.2.1 j hjn) rfl dC_source_23 ?_
    exact mreti hx hb hr hlk hm ⟨by simp only [oI, ht], rfl⟩ dC_source_26
set_option maxHeartbeats 4000000 in
set_option maxRecDepth 100000 in
theorem kC_files (l : Launch) (B : Nat) (D : va_G) (cI cZ cL : ClassId) (w : Wd) (o : Nat) (ad va : Nat → Nat) (now : Int32) (n : Nat) (J : Nat → Jr) (hR : cR cI o ad va now n J w) (x t : Int32) : Met l yC_files (.code yC_files cC_files 6 (some .int) :: BIG) { frames := 3, cells := 0, slots := 0, locals := 64 } (va_Pc [.ref (o), .int (x), .int (t)] (mP B D CLS (TYS cI cZ cL) NEST w)) (va_Qi (fun r u => r = nI (cnt (fun j => decide (ver n J (hd n J x t) (nI j) ≠ -1)) 50) ∧ u = w) (mE B D CLS) (fun q => B ≤ q)) 0 0 (fun q => B ≤ q) := by
  refine mMet (by decide) rfl (Nat.le_of_ble_eq_true rfl) ?_
  intro p e s m below meth c ls hx hb hml hr hlk hnm hown hts hK hN hm hl
  have hE : ME "ChainPicker" (.code yC_files cC_files 6 (some .int)) _ s m D (TYS cI cZ cL) := ⟨hown, hts, hK, hN⟩
  have hl : lv_has ls 6 [(0, .ref (o)), (1, .int (x)), (2, .int (t))] := hl
  have loop : ∀ (d i : Nat), i + d = 50 → ∀ (y : Int32), y = nI (cnt (fun j => decide (ver n J (hd n J x t) (nI j) ≠ -1)) i) → ∀ (H : Heap) (locs : List Loc) (ls : Array Slot), mS B D CLS s.heap w H locs → lv_has ls 6 [(5, .int (nI i)), (4, .int (y)), (3, va_rf ((hd n J x t).map ad)), (0, .ref (o)), (1, .int (x)), (2, .int (t))] → W p l e ({ frames := 3, cells := 0, slots := 0, locals := 64 }) s m [.ref (o), .int (x), .int (t)].toArray below meth c H locs 0 0 (MQ below (va_Qi (fun r u => r = nI (cnt (fun j => decide (ver n J (hd n J x t) (nI j) ≠ -1)) 50) ∧ u = w) (mE B D CLS) (fun q => B ≤ q)) [.ref (o), .int (x), .int (t)].toArray s 0 0 (fun q => B ≤ q)) (F0 m 13 ls []) := by
    intro d
    induction d with
    | zero =>
      intro i hi y hx0 H locs ls hm hl
      refine lv_iload hx hb dC_files_13 (lv_at hl 0 rfl) ?_
      refine lv_bipush (v := 50) hx hb dC_files_15 (by decide) ?_
      refine lv_icmp_ge (tgt := 39) hx hb dC_files_17 (by decide) (fun c_17 => ?_) (fun c_17 => ?_)
      · refine lv_iload hx hb dC_files_39 (lv_at hl 1 rfl) ?_
        exact mreti hx hb hr hlk hm ⟨by rw [hx0, show i = 50 by omega], rfl⟩ dC_files_41
      · exact absurd (nI_le (a := 50) (b := i) (by omega) (by omega)) c_17
    | succ d ih =>
      intro i hi y hx0 H locs ls hm hl
      have hiN : i < 50 := by omega
      refine lv_iload hx hb dC_files_13 (lv_at hl 0 rfl) ?_
      refine lv_bipush (v := 50) hx hb dC_files_15 (by decide) ?_
      refine lv_icmp_ge (tgt := 39) hx hb dC_files_17 (by decide) (fun c_17 => ?_) (fun c_17 => ?_)
      · exact absurd c_17 (nI_ge (a := i) (b := 50) (by omega) (by omega))
      · refine mloadR hx hb dC_files_20 rfl (lv_at hl 2 rfl) ?_
        refine lv_iload hx hb dC_files_21 (lv_at hl 0 rfl) ?_
        refine mcalli (mcS (n := 2) (As := [va_rf ((hd n J x t).map ad), .int (nI i)]) (rest := []) hx hb hml hE (kC_versionIn l B D cI cZ cL w o ad va now n J hR (hd n J x t) hd_lt (nI i)) q_139 q_140 q_1 q_141 rfl rfl (by decide +kernel) ⟨Nat.le_of_ble_eq_true rfl, Nat.le_of_ble_eq_true rfl⟩ rfl hl.1 hm rfl (Nat.le_of_ble_eq_true rfl) dC_files_23 ⟨Nat.le_of_ble_eq_true rfl, Nat.le_of_ble_eq_true rfl⟩) hm (fun r1 u1 H locs hp1 hm => ?_)
        obtain ⟨hr1, hu1⟩ := hp1
        rw [hu1] at hm
        refine lv_iconst (v := (-1)) hx hb dC_files_26 (by decide) ?_
        refine lv_icmp_eq (tgt := 33) hx hb dC_files_27 (by decide) (fun c_27 => ?_) (fun c_27 => ?_)
        · refine lv_iinc (v := nI i + 1) (lv' := [(5, .int (nI i + 1)), (4, .int (y)), (3, va_rf ((hd n J x t).map ad)), (0, .ref (o)), (1, .int (x)), (2, .int (t))]) hx hb dC_files_33 hl (k := 0) rfl rfl (by decide) rfl (fun ls hl => ?_)
          refine lv_goto (tgt := 13) hx hb dC_files_36 (by decide) ?_
          rw [nI_1] at hl
          exact ih (i + 1) (by omega) (y) (cntU_f hx0 (by rw [hr1] at c_27; simp [c_17, c_27, dec_0, bI_0, ← Int32.not_lt])) H locs ls hm (lv_sub hl [0, 1, 2, 3, 4, 5] rfl)
        · refine lv_iinc (v := y + 1) (lv' := [(4, .int (y + 1)), (5, .int (nI i)), (3, va_rf ((hd n J x t).map ad)), (0, .ref (o)), (1, .int (x)), (2, .int (t))]) hx hb dC_files_30 hl (k := 1) rfl rfl (by decide) (by simp [rf_cat]) (fun ls hl => ?_)
          refine lv_iinc (v := nI i + 1) (lv' := [(5, .int (nI i + 1)), (4, .int (y + 1)), (3, va_rf ((hd n J x t).map ad)), (0, .ref (o)), (1, .int (x)), (2, .int (t))]) hx hb dC_files_33 hl (k := 1) rfl rfl (by decide) rfl (fun ls hl => ?_)
          refine lv_goto (tgt := 13) hx hb dC_files_36 (by decide) ?_
          rw [nI_1] at hl
          exact ih (i + 1) (by omega) (y + 1) (cntU_t hx0 (by rw [hr1] at c_27; simp [c_17, c_27, dec_0, bI_0, ← Int32.not_lt])) H locs ls hm (lv_sub hl [0, 1, 2, 3, 4, 5] rfl)
  refine lv_aload_n hx hb dC_files_0 rfl (lv_at hl 0 rfl) ?_
  refine lv_iload_n hx hb dC_files_1 rfl (lv_at hl 1 rfl) ?_
  refine lv_iload_n hx hb dC_files_2 rfl (lv_at hl 2 rfl) ?_
  refine mcallq (mcV (n := 2) (As := [.int (x), .int (t)]) (rest := []) hx hb hml hE (kC_findHead l B D cI cZ cL w o ad va now n J hR x t) q_131 q_133 qs_3 q_1 q_134 rfl rfl (by decide +kernel) ⟨Nat.le_of_ble_eq_true rfl, Nat.le_of_ble_eq_true rfl⟩ rfl hl.1 hm rfl hR.1 rfl (Nat.le_of_ble_eq_true rfl) dC_files_3 ⟨Nat.le_of_ble_eq_true rfl, Nat.le_of_ble_eq_true rfl⟩) hm (fun r1 u1 H locs hp1 hm => ?_)
  obtain ⟨hr1, hu1⟩ := hp1
  rw [hu1] at hm
  subst hr1
  refine mstoreR (lv' := [(3, va_rf ((hd n J x t).map ad)), (0, .ref (o)), (1, .int (x)), (2, .int (t))]) hx hb dC_files_6 rfl hl (by decide) rfl (fun ls hl => ?_)
  refine lv_iconst (v := 0) hx hb dC_files_7 (by decide) ?_
  refine lv_istore (lv' := [(4, .int (0)), (3, va_rf ((hd n J x t).map ad)), (0, .ref (o)), (1, .int (x)), (2, .int (t))]) hx hb dC_files_8 hl (by decide) (by simp [rf_cat]) (fun ls hl => ?_)
  refine lv_iconst (v := 0) hx hb dC_files_10 (by decide) ?_
  refine lv_istore (lv' := [(5, .int (0)), (4, .int (0)), (3, va_rf ((hd n J x t).map ad)), (0, .ref (o)), (1, .int (x)), (2, .int (t))]) hx hb dC_files_11 hl (by decide) rfl (fun ls hl => ?_)
  exact loop 50 0 (by omega) 0 rfl _ _ ls hm (by rw [nI_0]; exact lv_sub hl [0, 1, 2, 3, 4, 5] rfl)
end
section
set_option maxHeartbeats 4000000 in
set_option maxRecDepth 100000 in
/-- tell -/
theorem kC_tell (l : Launch) (B : Nat) (D : va_G) (cI cZ cL : ClassId) (w : Wd) (o : Nat) (ad va : Nat → Nat) (now : Int32) (n : Nat) (J : Nat → Jr) (hR : cR cI o ad va now n J w) (x y v : Int32) : Met l yC_tell (.code yC_tell cC_tell 6 (some .boolean) :: BIG) { frames := 1, cells := 0, slots := 0, locals := 22 } (va_Pc [.ref (o), .int (x), .int (y), .int (v)] (mP B D CLS (TYS cI cZ cL) NEST w)) (va_Qi (fun r u => r = bI (tells n J x y v) ∧ cR cI o ad va now n (teN n J x y v) u ∧ cK o ad va n w u) (mE B D CLS) (fun q => B ≤ q)) 0 0 (fun q => B ≤ q) := by
  refine mMet (by decide) rfl (Nat.le_of_ble_eq_true rfl) ?_
  intro p e s m below meth c ls hx hb hml hr hlk hnm hown hts hK hN hm hl
  have hE : ME "ChainPicker" (.code yC_tell cC_tell 6 (some .boolean)) _ s m D (TYS cI cZ cL) := ⟨hown, hts, hK, hN⟩
  have hl : lv_has ls 6 [(0, .ref (o)), (1, .int (x)), (2, .int (y)), (3, .int (v))] := hl
  refine lv_aload_n hx hb dC_tell_0 rfl (lv_at hl 0 rfl) ?_
  refine lv_iload_n hx hb dC_tell_1 rfl (lv_at hl 1 rfl) ?_
  refine mcallq (mcV (n := 1) (As := [.int (x)]) (rest := []) hx hb hml hE (kC_findJob l B D cI cZ cL w o ad va now n J hR x) q_112 q_114 qs_2 q_1 q_115 rfl rfl (by decide +kernel) ⟨Nat.le_of_ble_eq_true rfl, Nat.le_of_ble_eq_true rfl⟩ rfl hl.1 hm rfl hR.1 rfl (Nat.le_of_ble_eq_true rfl) dC_tell_2 ⟨Nat.le_of_ble_eq_true rfl, Nat.le_of_ble_eq_true rfl⟩) hm (fun r1 u1 H locs hp1 hm => ?_)
  obtain ⟨hr1, hu1⟩ := hp1
  rw [hu1] at hm
  subst hr1
  cases ht : fJ n x with
  | none =>
    show W _ _ _ _ _ _ _ _ _ _ _ _ _ _ _ (F0 m 5 ls [.null])
    refine lv_astoreN (lv' := [(4, .null), (0, .ref (o)), (1, .int (x)), (2, .int (y)), (3, .int (v))]) hx hb dC_tell_5 hl (by decide) rfl (fun ls hl => ?_)
    refine lv_aloadN hx hb dC_tell_7 (lv_at hl 0 rfl) ?_
    refine lv_ifnullN (tgt := 27) hx hb dC_tell_9 (by decide) ?_
    refine lv_iconst (v := 0) hx hb dC_tell_27 (by decide) ?_
    have hT : tells n J x y v = false := by simp [tells, ht]
    exact mretz hx hb hr (by decide +kernel) hlk hm ⟨by rw [hT]; rfl, by simp only [teN, ht]; exact hR, cK.rf⟩ dC_tell_28
  | some j =>
    have hjn : j < n := (fJ_lt ht).1
    show W _ _ _ _ _ _ _ _ _ _ _ _ _ _ _ (F0 m 5 ls [.ref (ad j)])
    refine lv_astore (lv' := [(4, .ref (ad j)), (0, .ref (o)), (1, .int (x)), (2, .int (y)), (3, .int (v))]) hx hb dC_tell_5 hl (by decide) rfl (fun ls hl => ?_)
    refine lv_aload hx hb dC_tell_7 (lv_at hl 0 rfl) ?_
    refine lv_ifnull hx hb dC_tell_9 ?_
    refine lv_aload hx hb dC_tell_12 (lv_at hl 0 rfl) ?_
    refine g_C_J_57 (v := .int (jSt (J j))) hx hb hE hm (hR.2.1 j hjn) rfl dC_tell_14 ?_
    refine lv_if_ne (tgt := 27) hx hb dC_tell_17 (by decide) (fun c_17 => ?_) (fun c_17 => ?_)
    · refine lv_iconst (v := 0) hx hb dC_tell_27 (by decide) ?_
      have hT : tells n J x y v = false := by simp [tells, ht, c_17]
      exact mretz hx hb hr (by decide +kernel) hlk hm ⟨by rw [hT]; rfl, by simp only [teN, ht, hT]; exact hR, cK.rf⟩ dC_tell_28
    · refine lv_iload_n hx hb dC_tell_20 rfl (lv_at hl 3 rfl) ?_
      refine mcalli (mcS (n := 1) (As := [.int (y)]) (rest := []) hx hb hml hE (kC_isFile l B D cI cZ cL w y) q_116 q_117 q_1 q_118 rfl rfl (by decide +kernel) ⟨Nat.le_of_ble_eq_true rfl, Nat.le_of_ble_eq_true rfl⟩ rfl hl.1 hm rfl (Nat.le_of_ble_eq_true rfl) dC_tell_21 ⟨Nat.le_of_ble_eq_true rfl, Nat.le_of_ble_eq_true rfl⟩) hm (fun r2 u2 H locs hp2 hm => ?_)
      obtain ⟨hr2, hu2⟩ := hp2
      rw [hu2] at hm
      refine lv_if_ne (tgt := 29) hx hb dC_tell_24 (by decide) (fun c_24 => ?_) (fun c_24 => ?_)
      · rw [hr2, bI_0] at c_24
        obtain ⟨k, hk, hyk, hck⟩ := isF_of (x := y) (by simpa using c_24)
        refine lv_iload_n hx hb dC_tell_29 rfl (lv_at hl 4 rfl) ?_
        refine lv_iconst (v := (-1)) hx hb dC_tell_30 (by decide) ?_
        refine lv_icmp_ne (tgt := 50) hx hb dC_tell_31 (by decide) (fun c_31 => ?_) (fun c_31 => ?_)
        · refine lv_iload_n hx hb dC_tell_50 rfl (lv_at hl 4 rfl) ?_
          refine mcalli (mcS (n := 1) (As := [.int (v)]) (rest := []) hx hb hml hE (kC_isVersion l B D cI cZ cL w v) q_119 q_120 q_1 q_121 rfl rfl (by decide +kernel) ⟨Nat.le_of_ble_eq_true rfl, Nat.le_of_ble_eq_true rfl⟩ rfl hl.1 hm rfl (Nat.le_of_ble_eq_true rfl) dC_tell_51 ⟨Nat.le_of_ble_eq_true rfl, Nat.le_of_ble_eq_true rfl⟩) hm (fun r3 u3 H locs hp3 hm => ?_)
          obtain ⟨hr3, hu3⟩ := hp3
          rw [hu3] at hm
          refine lv_istore (lv' := [(5, .int (r3)), (4, .ref (ad j)), (0, .ref (o)), (1, .int (x)), (2, .int (y)), (3, .int (v))]) hx hb dC_tell_54 hl (by decide) rfl (fun ls hl => ?_)
          refine lv_iload hx hb dC_tell_56 (lv_at hl 0 rfl) ?_
          refine lv_if_eq (tgt := 69) hx hb dC_tell_58 (by decide) (fun c_58 => ?_) (fun c_58 => ?_)
          · rw [hr3, bI_0] at c_58
            refine lv_iload hx hb dC_tell_69 (lv_at hl 0 rfl) ?_
            have hT : tells n J x y v = false := by simp [tells, ht, c_17, c_24, c_31, c_58]
            exact mretz hx hb hr (by rw [hr3]; exact bI_nar _) hlk hm ⟨by rw [hr3, hT]; exact congrArg bI (by simpa using c_58), by simp only [teN, ht, hT]; exact hR, cK.rf⟩ dC_tell_71
          · rw [hr3, bI_0] at c_58
            refine lv_aload hx hb dC_tell_61 (lv_at hl 1 rfl) ?_
            refine g_C_J_69 (v := .ref (va j)) hx hb hE hm (hR.2.1 j hjn) rfl dC_tell_63 ?_
            refine lv_iload_n hx hb dC_tell_66 rfl (lv_at hl 4 rfl) ?_
            refine lv_iload_n hx hb dC_tell_67 rfl (lv_at hl 5 rfl) ?_
            refine iastE (k) hx hb hE.2.2.1 hm 0 (hR.2.2.1 j hjn) rfl hyk hk (by decide) dC_tell_68 (fun H locs hm => ?_)
            obtain ⟨w4, hhw4⟩ : ∃ z : Wd, z = wset w (va j) (.inl (cI, 50, .inl (upd (jVr (J j)) (k) (v)))) := ⟨_, rfl⟩
            have hm : mS B D CLS s.heap w4 H locs := by rw [hhw4]; exact hm
            have hw4 : w4 = wset (w) (va j) (.inl (cI, 50, .inl (upd (jVr (J j)) (k) (v)))) := by rw [hhw4]
            have fw4 : w4 (va j) = some (.inl (cI, 50, .inl (upd (jVr (J j)) (k) (v)))) := by rw [hhw4]; exact wset_at _ _ _
            refine lv_iload hx hb dC_tell_69 (lv_at hl 0 rfl) ?_
            have hT : tells n J x y v = true := by simp [tells, ht, c_17, c_24, c_31, c_58]
            exact mretz hx hb hr (by rw [hr3]; exact bI_nar _) hlk hm ⟨by rw [hr3, hT]; exact congrArg bI (by simpa using c_58), by rw [hw4]; simp only [teN, ht, hT, if_true, hck]; exact hR.tell hjn v, by rw [hw4]; exact cK.rf.set (cF_va hjn)⟩ dC_tell_71
        · refine lv_aload hx hb dC_tell_34 (lv_at hl 0 rfl) ?_
          refine g_C_J_63 (v := .int (jLev (J j))) hx hb hE hm (hR.2.1 j hjn) rfl dC_tell_36 ?_
          refine lv_if_eq (tgt := 46) hx hb dC_tell_39 (by decide) (fun c_39 => ?_) (fun c_39 => ?_)
          · refine lv_iconst (v := 0) hx hb dC_tell_46 (by decide) ?_
            refine lv_goto (tgt := 54) hx hb dC_tell_47 (by decide) ?_
            refine lv_istore (lv' := [(5, .int (0)), (4, .ref (ad j)), (0, .ref (o)), (1, .int (x)), (2, .int (y)), (3, .int (v))]) hx hb dC_tell_54 hl (by decide) rfl (fun ls hl => ?_)
            refine lv_iload hx hb dC_tell_56 (lv_at hl 0 rfl) ?_
            refine lv_if_eq (tgt := 69) hx hb dC_tell_58 (by decide) (fun c_58 => ?_) (fun c_58 => ?_)
            · refine lv_iload hx hb dC_tell_69 (lv_at hl 0 rfl) ?_
              have hT : tells n J x y v = false := by simp [tells, ht, c_17, c_24, c_31, c_39, c_58]
              exact mretz hx hb hr (by decide +kernel) hlk hm ⟨by rw [hT]; rfl, by simp only [teN, ht, hT]; exact hR, cK.rf⟩ dC_tell_71
            · exact absurd (by decide) c_58
          · refine lv_iconst (v := 1) hx hb dC_tell_42 (by decide) ?_
            refine lv_goto (tgt := 54) hx hb dC_tell_43 (by decide) ?_
            refine lv_istore (lv' := [(5, .int (1)), (4, .ref (ad j)), (0, .ref (o)), (1, .int (x)), (2, .int (y)), (3, .int (v))]) hx hb dC_tell_54 hl (by decide) rfl (fun ls hl => ?_)
            refine lv_iload hx hb dC_tell_56 (lv_at hl 0 rfl) ?_
            refine lv_if_eq (tgt := 69) hx hb dC_tell_58 (by decide) (fun c_58 => ?_) (fun c_58 => ?_)
            · exact absurd c_58 (by decide)
            · refine lv_aload hx hb dC_tell_61 (lv_at hl 1 rfl) ?_
              refine g_C_J_69 (v := .ref (va j)) hx hb hE hm (hR.2.1 j hjn) rfl dC_tell_63 ?_
              refine lv_iload_n hx hb dC_tell_66 rfl (lv_at hl 4 rfl) ?_
              refine lv_iload_n hx hb dC_tell_67 rfl (lv_at hl 5 rfl) ?_
              refine iastE (k) hx hb hE.2.2.1 hm 0 (hR.2.2.1 j hjn) rfl hyk hk (by decide) dC_tell_68 (fun H locs hm => ?_)
              obtain ⟨w5, hhw5⟩ : ∃ z : Wd, z = wset w (va j) (.inl (cI, 50, .inl (upd (jVr (J j)) (k) (v)))) := ⟨_, rfl⟩
              have hm : mS B D CLS s.heap w5 H locs := by rw [hhw5]; exact hm
              have hw5 : w5 = wset (w) (va j) (.inl (cI, 50, .inl (upd (jVr (J j)) (k) (v)))) := by rw [hhw5]
              have fw5 : w5 (va j) = some (.inl (cI, 50, .inl (upd (jVr (J j)) (k) (v)))) := by rw [hhw5]; exact wset_at _ _ _
              refine lv_iload hx hb dC_tell_69 (lv_at hl 0 rfl) ?_
              have hT : tells n J x y v = true := by simp [tells, ht, c_17, c_24, c_31, c_39, c_58]
              exact mretz hx hb hr (by decide +kernel) hlk hm ⟨by rw [hT]; rfl, by rw [hw5]; simp only [teN, ht, hT, if_true, hck]; exact hR.tell hjn v, by rw [hw5]; exact cK.rf.set (cF_va hjn)⟩ dC_tell_71
      · rw [hr2, bI_0] at c_24
        refine lv_iconst (v := 0) hx hb dC_tell_27 (by decide) ?_
        have hT : tells n J x y v = false := by simp [tells, ht, c_17, c_24]
        exact mretz hx hb hr (by decide +kernel) hlk hm ⟨by rw [hT]; rfl, by simp only [teN, ht, hT]; exact hR, cK.rf⟩ dC_tell_28
set_option maxHeartbeats 4000000 in
set_option maxRecDepth 100000 in
/-- end -/
theorem kC_end (l : Launch) (B : Nat) (D : va_G) (cI cZ cL : ClassId) (w : Wd) (o : Nat) (ad va : Nat → Nat) (now : Int32) (n : Nat) (J : Nat → Jr) (hR : cR cI o ad va now n J w) (x g : Int32) : Met l yC_end (.code yC_end cC_end 4 (some .boolean) :: BIG) { frames := 1, cells := 0, slots := 0, locals := 22 } (va_Pc [.ref (o), .int (x), .int (g)] (mP B D CLS (TYS cI cZ cL) NEST w)) (va_Qi (fun r u => r = bI (ends n J x) ∧ cR cI o ad va now n (enN n J x g now) u ∧ cK o ad va n w u) (mE B D CLS) (fun q => B ≤ q)) 0 0 (fun q => B ≤ q) := by
  refine mMet (by decide) rfl (Nat.le_of_ble_eq_true rfl) ?_
  intro p e s m below meth c ls hx hb hml hr hlk hnm hown hts hK hN hm hl
  have hE : ME "ChainPicker" (.code yC_end cC_end 4 (some .boolean)) _ s m D (TYS cI cZ cL) := ⟨hown, hts, hK, hN⟩
  have hl : lv_has ls 4 [(0, .ref (o)), (1, .int (x)), (2, .int (g))] := hl
  refine lv_aload_n hx hb dC_end_0 rfl (lv_at hl 0 rfl) ?_
  refine lv_iload_n hx hb dC_end_1 rfl (lv_at hl 1 rfl) ?_
  refine mcallq (mcV (n := 1) (As := [.int (x)]) (rest := []) hx hb hml hE (kC_findJob l B D cI cZ cL w o ad va now n J hR x) q_112 q_114 qs_2 q_1 q_115 rfl rfl (by decide +kernel) ⟨Nat.le_of_ble_eq_true rfl, Nat.le_of_ble_eq_true rfl⟩ rfl hl.1 hm rfl hR.1 rfl (Nat.le_of_ble_eq_true rfl) dC_end_2 ⟨Nat.le_of_ble_eq_true rfl, Nat.le_of_ble_eq_true rfl⟩) hm (fun r1 u1 H locs hp1 hm => ?_)
  obtain ⟨hr1, hu1⟩ := hp1
  rw [hu1] at hm
  subst hr1
  cases ht : fJ n x with
  | none =>
    show W _ _ _ _ _ _ _ _ _ _ _ _ _ _ _ (F0 m 5 ls [.null])
    refine lv_astore_nN (lv' := [(3, .null), (0, .ref (o)), (1, .int (x)), (2, .int (g))]) hx hb dC_end_5 rfl hl (by decide) rfl (fun ls hl => ?_)
    refine lv_aload_nN hx hb dC_end_6 rfl (lv_at hl 0 rfl) ?_
    refine lv_ifnullN (tgt := 17) hx hb dC_end_7 (by decide) ?_
    refine lv_iconst (v := 0) hx hb dC_end_17 (by decide) ?_
    exact mretz hx hb hr (by decide +kernel) hlk hm ⟨by simp [ends, ht, bI], by simp only [enN, ht]; exact hR, cK.rf⟩ dC_end_18
  | some j =>
    have hjn : j < n := (fJ_lt ht).1
    show W _ _ _ _ _ _ _ _ _ _ _ _ _ _ _ (F0 m 5 ls [.ref (ad j)])
    refine lv_astore_n (lv' := [(3, .ref (ad j)), (0, .ref (o)), (1, .int (x)), (2, .int (g))]) hx hb dC_end_5 rfl hl (by decide) rfl (fun ls hl => ?_)
    refine lv_aload_n hx hb dC_end_6 rfl (lv_at hl 0 rfl) ?_
    refine lv_ifnull hx hb dC_end_7 ?_
    refine lv_aload_n hx hb dC_end_10 rfl (lv_at hl 0 rfl) ?_
    refine g_C_J_57 (v := .int (jSt (J j))) hx hb hE hm (hR.2.1 j hjn) rfl dC_end_11 ?_
    refine lv_if_eq (tgt := 19) hx hb dC_end_14 (by decide) (fun c_14 => ?_) (fun c_14 => ?_)
    · refine lv_aload_n hx hb dC_end_19 rfl (lv_at hl 0 rfl) ?_
      refine lv_iload_n hx hb dC_end_20 rfl (lv_at hl 3 rfl) ?_
      refine lv_if_eq (tgt := 28) hx hb dC_end_21 (by decide) (fun c_21 => ?_) (fun c_21 => ?_)
      · refine lv_iconst (v := 2) hx hb dC_end_28 (by decide) ?_
        refine p_C_J_57 (x := 2) hx hb hE hm (hR.2.1 j hjn) (by simp) dC_end_29 (fun H locs hm => ?_)
        obtain ⟨w2, hhw2⟩ : ∃ z : Wd, z = wset w (ad j) (.inr (0, [.int (nI j), .int (jSer (J j)), .int (jLev (J j)), .int (bI (jUp (J j))), va_rf ((jBs (J j)).map ad), .int (jBg (J j)), va_rf (prv ad j), .ref (va j), .int (jEn (J j)), .int (2), .int (bI (jPr (J j))), .int (nI (sd n J j))])) := ⟨_, rfl⟩
        have hm : mS B D CLS s.heap w2 H locs := by rw [hhw2]; exact hm
        have hw2 : w2 = wset (w) (ad j) (.inr (0, [.int (nI j), .int (jSer (J j)), .int (jLev (J j)), .int (bI (jUp (J j))), va_rf ((jBs (J j)).map ad), .int (jBg (J j)), va_rf (prv ad j), .ref (va j), .int (jEn (J j)), .int (2), .int (bI (jPr (J j))), .int (nI (sd n J j))])) := by rw [hhw2]
        have fw2 : w2 (ad j) = some (.inr (0, [.int (nI j), .int (jSer (J j)), .int (jLev (J j)), .int (bI (jUp (J j))), va_rf ((jBs (J j)).map ad), .int (jBg (J j)), va_rf (prv ad j), .ref (va j), .int (jEn (J j)), .int (2), .int (bI (jPr (J j))), .int (nI (sd n J j))])) := by rw [hhw2]; exact wset_at _ _ _
        have fw2_1 := (show w2 (o) = w (o) by rw [hhw2]; exact wset_ne (Ne.symm (hR.ado hjn))).trans hR.1
        refine lv_aload_n hx hb dC_end_32 rfl (lv_at hl 0 rfl) ?_
        refine lv_aload_n hx hb dC_end_33 rfl (lv_at hl 1 rfl) ?_
        refine g_C_C_9 (v := .int (now)) hx hb hE hm fw2_1 rfl dC_end_34 ?_
        refine p_C_J_73 (x := now) hx hb hE hm fw2 (by simp) dC_end_37 (fun H locs hm => ?_)
        obtain ⟨w3, hhw3⟩ : ∃ z : Wd, z = wset w2 (ad j) (.inr (0, [.int (nI j), .int (jSer (J j)), .int (jLev (J j)), .int (bI (jUp (J j))), va_rf ((jBs (J j)).map ad), .int (jBg (J j)), va_rf (prv ad j), .ref (va j), .int (now), .int (2), .int (bI (jPr (J j))), .int (nI (sd n J j))])) := ⟨_, rfl⟩
        have hm : mS B D CLS s.heap w3 H locs := by rw [hhw3]; exact hm
        have hw3 : w3 = wset (w) (ad j) (.inr (0, [.int (nI j), .int (jSer (J j)), .int (jLev (J j)), .int (bI (jUp (J j))), va_rf ((jBs (J j)).map ad), .int (jBg (J j)), va_rf (prv ad j), .ref (va j), .int (now), .int (2), .int (bI (jPr (J j))), .int (nI (sd n J j))])) := by rw [hhw3, hw2]; funext z; by_cases hz : z = ad j <;> simp [wset, hz]
        have fw3 : w3 (ad j) = some (.inr (0, [.int (nI j), .int (jSer (J j)), .int (jLev (J j)), .int (bI (jUp (J j))), va_rf ((jBs (J j)).map ad), .int (jBg (J j)), va_rf (prv ad j), .ref (va j), .int (now), .int (2), .int (bI (jPr (J j))), .int (nI (sd n J j))])) := by rw [hhw3]; exact wset_at _ _ _
        have fw3_1 := (show w3 (o) = w2 (o) by rw [hhw3]; exact wset_ne (Ne.symm (hR.ado hjn))).trans fw2_1
        refine lv_iconst (v := 1) hx hb dC_end_40 (by decide) ?_
        exact mretz hx hb hr (by decide +kernel) hlk hm ⟨by simp [ends, ht, bI, c_14, c_21], by rw [hw3]; simp only [enN, ht, if_pos c_14, if_pos c_21]; exact hR.endj hjn _ _, by rw [hw3]; exact cK.rf.set (cF_ad hjn)⟩ dC_end_41
      · refine lv_iconst (v := 1) hx hb dC_end_24 (by decide) ?_
        refine lv_goto (tgt := 29) hx hb dC_end_25 (by decide) ?_
        refine p_C_J_57 (x := 1) hx hb hE hm (hR.2.1 j hjn) (by simp) dC_end_29 (fun H locs hm => ?_)
        obtain ⟨w4, hhw4⟩ : ∃ z : Wd, z = wset w (ad j) (.inr (0, [.int (nI j), .int (jSer (J j)), .int (jLev (J j)), .int (bI (jUp (J j))), va_rf ((jBs (J j)).map ad), .int (jBg (J j)), va_rf (prv ad j), .ref (va j), .int (jEn (J j)), .int (1), .int (bI (jPr (J j))), .int (nI (sd n J j))])) := ⟨_, rfl⟩
        have hm : mS B D CLS s.heap w4 H locs := by rw [hhw4]; exact hm
        have hw4 : w4 = wset (w) (ad j) (.inr (0, [.int (nI j), .int (jSer (J j)), .int (jLev (J j)), .int (bI (jUp (J j))), va_rf ((jBs (J j)).map ad), .int (jBg (J j)), va_rf (prv ad j), .ref (va j), .int (jEn (J j)), .int (1), .int (bI (jPr (J j))), .int (nI (sd n J j))])) := by rw [hhw4]
        have fw4 : w4 (ad j) = some (.inr (0, [.int (nI j), .int (jSer (J j)), .int (jLev (J j)), .int (bI (jUp (J j))), va_rf ((jBs (J j)).map ad), .int (jBg (J j)), va_rf (prv ad j), .ref (va j), .int (jEn (J j)), .int (1), .int (bI (jPr (J j))), .int (nI (sd n J j))])) := by rw [hhw4]; exact wset_at _ _ _
        have fw4_1 := (show w4 (o) = w (o) by rw [hhw4]; exact wset_ne (Ne.symm (hR.ado hjn))).trans hR.1
        refine lv_aload_n hx hb dC_end_32 rfl (lv_at hl 0 rfl) ?_
        refine lv_aload_n hx hb dC_end_33 rfl (lv_at hl 1 rfl) ?_
        refine g_C_C_9 (v := .int (now)) hx hb hE hm fw4_1 rfl dC_end_34 ?_
        refine p_C_J_73 (x := now) hx hb hE hm fw4 (by simp) dC_end_37 (fun H locs hm => ?_)
        obtain ⟨w5, hhw5⟩ : ∃ z : Wd, z = wset w4 (ad j) (.inr (0, [.int (nI j), .int (jSer (J j)), .int (jLev (J j)), .int (bI (jUp (J j))), va_rf ((jBs (J j)).map ad), .int (jBg (J j)), va_rf (prv ad j), .ref (va j), .int (now), .int (1), .int (bI (jPr (J j))), .int (nI (sd n J j))])) := ⟨_, rfl⟩
        have hm : mS B D CLS s.heap w5 H locs := by rw [hhw5]; exact hm
        have hw5 : w5 = wset (w) (ad j) (.inr (0, [.int (nI j), .int (jSer (J j)), .int (jLev (J j)), .int (bI (jUp (J j))), va_rf ((jBs (J j)).map ad), .int (jBg (J j)), va_rf (prv ad j), .ref (va j), .int (now), .int (1), .int (bI (jPr (J j))), .int (nI (sd n J j))])) := by rw [hhw5, hw4]; funext z; by_cases hz : z = ad j <;> simp [wset, hz]
        have fw5 : w5 (ad j) = some (.inr (0, [.int (nI j), .int (jSer (J j)), .int (jLev (J j)), .int (bI (jUp (J j))), va_rf ((jBs (J j)).map ad), .int (jBg (J j)), va_rf (prv ad j), .ref (va j), .int (now), .int (1), .int (bI (jPr (J j))), .int (nI (sd n J j))])) := by rw [hhw5]; exact wset_at _ _ _
        have fw5_1 := (show w5 (o) = w4 (o) by rw [hhw5]; exact wset_ne (Ne.symm (hR.ado hjn))).trans fw4_1
        refine lv_iconst (v := 1) hx hb dC_end_40 (by decide) ?_
        exact mretz hx hb hr (by decide +kernel) hlk hm ⟨by simp [ends, ht, bI, c_14, c_21], by rw [hw5]; simp only [enN, ht, if_pos c_14, if_neg c_21]; exact hR.endj hjn _ _, by rw [hw5]; exact cK.rf.set (cF_ad hjn)⟩ dC_end_41
    · refine lv_iconst (v := 0) hx hb dC_end_17 (by decide) ?_
      exact mretz hx hb hr (by decide +kernel) hlk hm ⟨by simp [ends, ht, bI, c_14], by simp only [enN, ht, if_neg c_14]; exact hR, cK.rf⟩ dC_end_18
set_option maxHeartbeats 4000000 in
set_option maxRecDepth 100000 in
/-- prune -/
theorem kC_prune (l : Launch) (B : Nat) (D : va_G) (cI cZ cL : ClassId) (w : Wd) (o : Nat) (ad va : Nat → Nat) (now : Int32) (n : Nat) (J : Nat → Jr) (hR : cR cI o ad va now n J w) (x : Int32) : Met l yC_prune (.code yC_prune cC_prune 3 (some .boolean) :: BIG) { frames := 2, cells := 0, slots := 0, locals := 43 } (va_Pc [.ref (o), .int (x)] (mP B D CLS (TYS cI cZ cL) NEST w)) (va_Qi (fun r u => r = bI (prs n J x) ∧ cR cI o ad va now n (prN n J x) u ∧ cK o ad va n w u) (mE B D CLS) (fun q => B ≤ q)) 0 0 (fun q => B ≤ q) := by
  refine mMet (by decide) rfl (Nat.le_of_ble_eq_true rfl) ?_
  intro p e s m below meth c ls hx hb hml hr hlk hnm hown hts hK hN hm hl
  have hE : ME "ChainPicker" (.code yC_prune cC_prune 3 (some .boolean)) _ s m D (TYS cI cZ cL) := ⟨hown, hts, hK, hN⟩
  have hl : lv_has ls 3 [(0, .ref (o)), (1, .int (x))] := hl
  refine lv_aload_n hx hb dC_prune_0 rfl (lv_at hl 0 rfl) ?_
  refine lv_iload_n hx hb dC_prune_1 rfl (lv_at hl 1 rfl) ?_
  refine mcallq (mcV (n := 1) (As := [.int (x)]) (rest := []) hx hb hml hE (kC_findJob l B D cI cZ cL w o ad va now n J hR x) q_112 q_114 qs_2 q_1 q_115 rfl rfl (by decide +kernel) ⟨Nat.le_of_ble_eq_true rfl, Nat.le_of_ble_eq_true rfl⟩ rfl hl.1 hm rfl hR.1 rfl (Nat.le_of_ble_eq_true rfl) dC_prune_2 ⟨Nat.le_of_ble_eq_true rfl, Nat.le_of_ble_eq_true rfl⟩) hm (fun r1 u1 H locs hp1 hm => ?_)
  obtain ⟨hr1, hu1⟩ := hp1
  rw [hu1] at hm
  subst hr1
  cases ht : fJ n x with
  | none =>
    show W _ _ _ _ _ _ _ _ _ _ _ _ _ _ _ (F0 m 5 ls [.null])
    refine lv_astore_nN (lv' := [(2, .null), (0, .ref (o)), (1, .int (x))]) hx hb dC_prune_5 rfl hl (by decide) rfl (fun ls hl => ?_)
    refine lv_aload_nN hx hb dC_prune_6 rfl (lv_at hl 0 rfl) ?_
    refine lv_ifnullN (tgt := 17) hx hb dC_prune_7 (by decide) ?_
    refine lv_iconst (v := 0) hx hb dC_prune_17 (by decide) ?_
    exact mretz hx hb hr (by decide +kernel) hlk hm ⟨by simp [prs, ht, bI], by simp only [prN, ht]; exact hR, cK.rf⟩ dC_prune_18
  | some j =>
    have hjn : j < n := (fJ_lt ht).1
    show W _ _ _ _ _ _ _ _ _ _ _ _ _ _ _ (F0 m 5 ls [.ref (ad j)])
    refine lv_astore_n (lv' := [(2, .ref (ad j)), (0, .ref (o)), (1, .int (x))]) hx hb dC_prune_5 rfl hl (by decide) rfl (fun ls hl => ?_)
    refine lv_aload_n hx hb dC_prune_6 rfl (lv_at hl 0 rfl) ?_
    refine lv_ifnull hx hb dC_prune_7 ?_
    refine lv_aload_n hx hb dC_prune_10 rfl (lv_at hl 0 rfl) ?_
    refine mcalli (mcS (n := 1) (As := [.ref (ad j)]) (rest := []) hx hb hml hE (kC_isFree l B D cI cZ cL w (ad j) _ _ _ _ _ _ _ _ _ _ _ _ (hR.2.1 j hjn)) q_157 q_158 q_1 q_159 rfl rfl (by decide +kernel) ⟨Nat.le_of_ble_eq_true rfl, Nat.le_of_ble_eq_true rfl⟩ rfl hl.1 hm rfl (Nat.le_of_ble_eq_true rfl) dC_prune_11 ⟨Nat.le_of_ble_eq_true rfl, Nat.le_of_ble_eq_true rfl⟩) hm (fun r2 u2 H locs hp2 hm => ?_)
    obtain ⟨hr2, hu2⟩ := hp2
    rw [hu2] at hm
    have hr2 := fr_r hR.n200 hr2
    refine lv_if_ne (tgt := 19) hx hb dC_prune_14 (by decide) (fun c_14 => ?_) (fun c_14 => ?_)
    · rw [hr2, bI_0] at c_14
      refine lv_aload_n hx hb dC_prune_19 rfl (lv_at hl 0 rfl) ?_
      refine mcallv (mcS (n := 1) (As := [.ref (ad j)]) (rest := []) hx hb hml hE (kC_drop l B D cI cZ cL w o ad va now n J hR j hjn (fr_pr (by simpa using c_14))) q_160 q_161 q_1 q_162 rfl rfl (by decide +kernel) ⟨Nat.le_of_ble_eq_true rfl, Nat.le_of_ble_eq_true rfl⟩ rfl hl.1 hm rfl (Nat.le_of_ble_eq_true rfl) dC_prune_20 ⟨Nat.le_of_ble_eq_true rfl, Nat.le_of_ble_eq_true rfl⟩) hm (fun u3 H locs hp3 hm => ?_)
      refine lv_iconst (v := 1) hx hb dC_prune_23 (by decide) ?_
      exact mretz hx hb hr (by decide +kernel) hlk hm ⟨by simp [prs, ht, bI, c_14], by simp [prN, ht, c_14]; exact hp3.1, hp3.2⟩ dC_prune_24
    · rw [hr2, bI_0] at c_14
      refine lv_iconst (v := 0) hx hb dC_prune_17 (by decide) ?_
      exact mretz hx hb hr (by decide +kernel) hlk hm ⟨by simp [prs, ht, bI, c_14], by simp [prN, ht, c_14]; exact hR, cK.rf⟩ dC_prune_18
set_option maxHeartbeats 4000000 in
set_option maxRecDepth 100000 in
/-- count -/
theorem kC_count (l : Launch) (B : Nat) (D : va_G) (cI cZ cL : ClassId) (w : Wd) (o : Nat) (ad va : Nat → Nat) (now : Int32) (n : Nat) (J : Nat → Jr) (hR : cR cI o ad va now n J w) (x : Int32) : Met l yC_count (.code yC_count cC_count 2 (some .int) :: BIG) { frames := 1, cells := 0, slots := 0, locals := 22 } (va_Pc [.ref (o), .int (x)] (mP B D CLS (TYS cI cZ cL) NEST w)) (va_Qi (fun r u => r = cntw now n J x ∧ u = w) (mE B D CLS) (fun q => B ≤ q)) 0 0 (fun q => B ≤ q) := by
  refine mMet (by decide) rfl (Nat.le_of_ble_eq_true rfl) ?_
  intro p e s m below meth c ls hx hb hml hr hlk hnm hown hts hK hN hm hl
  have hE : ME "ChainPicker" (.code yC_count cC_count 2 (some .int)) _ s m D (TYS cI cZ cL) := ⟨hown, hts, hK, hN⟩
  have hl : lv_has ls 2 [(0, .ref (o)), (1, .int (x))] := hl
  refine lv_iload_n hx hb dC_count_0 rfl (lv_at hl 1 rfl) ?_
  by_cases e_0 : x = 0
  · subst e_0
    refine lv_tableIn (off := 31) (tgt := 32) hx hb dC_count_1 (by decide) (by decide) (by decide) (by decide) ?_
    refine lv_aload_n hx hb dC_count_32 rfl (lv_at hl 0 rfl) ?_
    refine g_C_C_9 (v := .int (now)) hx hb hE hm hR.1 rfl dC_count_33 ?_
    exact mreti hx hb hr hlk hm ⟨by simp [cntw], rfl⟩ dC_count_36
  by_cases e_1 : x = 1
  · subst e_1
    refine lv_tableIn (off := 36) (tgt := 37) hx hb dC_count_1 (by decide) (by decide) (by decide) (by decide) ?_
    refine lv_aload_n hx hb dC_count_37 rfl (lv_at hl 0 rfl) ?_
    refine g_C_C_13 (v := .int (nI n)) hx hb hE hm hR.1 rfl dC_count_38 ?_
    exact mreti hx hb hr hlk hm ⟨by simp [cntw], rfl⟩ dC_count_41
  by_cases e_2 : x = 2
  · subst e_2
    refine lv_tableIn (off := 41) (tgt := 42) hx hb dC_count_1 (by decide) (by decide) (by decide) (by decide) ?_
    refine lv_aload_n hx hb dC_count_42 rfl (lv_at hl 0 rfl) ?_
    refine mcalli (mcV (n := 0) (As := []) (rest := []) hx hb hml hE (kC_countRunning l B D cI cZ cL w o ad va now n J hR) q_175 q_177 qs_4 q_1 q_178 rfl rfl (by decide +kernel) ⟨Nat.le_of_ble_eq_true rfl, Nat.le_of_ble_eq_true rfl⟩ rfl hl.1 hm rfl hR.1 rfl (Nat.le_of_ble_eq_true rfl) dC_count_43 ⟨Nat.le_of_ble_eq_true rfl, Nat.le_of_ble_eq_true rfl⟩) hm (fun r1 u1 H locs hp1 hm => ?_)
    obtain ⟨hr1, hu1⟩ := hp1
    rw [hu1] at hm
    exact mreti hx hb hr hlk hm ⟨by rw [hr1]; simp [cntw], rfl⟩ dC_count_46
  by_cases e_3 : x = 3
  · subst e_3
    refine lv_tableIn (off := 46) (tgt := 47) hx hb dC_count_1 (by decide) (by decide) (by decide) (by decide) ?_
    refine lv_aload_n hx hb dC_count_47 rfl (lv_at hl 0 rfl) ?_
    refine mcalli (mcV (n := 0) (As := []) (rest := []) hx hb hml hE (kC_countPruned l B D cI cZ cL w o ad va now n J hR) q_179 q_181 qs_5 q_1 q_182 rfl rfl (by decide +kernel) ⟨Nat.le_of_ble_eq_true rfl, Nat.le_of_ble_eq_true rfl⟩ rfl hl.1 hm rfl hR.1 rfl (Nat.le_of_ble_eq_true rfl) dC_count_48 ⟨Nat.le_of_ble_eq_true rfl, Nat.le_of_ble_eq_true rfl⟩) hm (fun r2 u2 H locs hp2 hm => ?_)
    obtain ⟨hr2, hu2⟩ := hp2
    rw [hu2] at hm
    exact mreti hx hb hr hlk hm ⟨by rw [hr2]; simp [cntw], rfl⟩ dC_count_51
  refine lv_tableOut (tgt := 52) hx hb dC_count_1 (by have z_0 := lv_neT (k := 0) (a := 0) e_0 (by decide); have z_1 := lv_neT (k := 1) (a := 1) e_1 (by decide); have z_2 := lv_neT (k := 2) (a := 2) e_2 (by decide); have z_3 := lv_neT (k := 3) (a := 3) e_3 (by decide); omega) (by decide) ?_
  refine lv_iconst (v := (-1)) hx hb dC_count_52 (by decide) ?_
  exact mreti hx hb hr hlk hm ⟨by simp [cntw, e_0, e_1, e_2, e_3], rfl⟩ dC_count_53
set_option maxHeartbeats 4000000 in
set_option maxRecDepth 100000 in
/-- job -/
theorem kC_job (l : Launch) (B : Nat) (D : va_G) (cI cZ cL : ClassId) (w : Wd) (o : Nat) (ad va : Nat → Nat) (now : Int32) (n : Nat) (J : Nat → Jr) (hR : cR cI o ad va now n J w) (x y : Int32) : Met l yC_job (.code yC_job cC_job 4 (some .int) :: BIG) { frames := 1, cells := 0, slots := 0, locals := 22 } (va_Pc [.ref (o), .int (x), .int (y)] (mP B D CLS (TYS cI cZ cL) NEST w)) (va_Qi (fun r u => r = jobw n J x y ∧ u = w) (mE B D CLS) (fun q => B ≤ q)) 0 0 (fun q => B ≤ q) := by
  refine mMet (by decide) rfl (Nat.le_of_ble_eq_true rfl) ?_
  intro p e s m below meth c ls hx hb hml hr hlk hnm hown hts hK hN hm hl
  have hE : ME "ChainPicker" (.code yC_job cC_job 4 (some .int)) _ s m D (TYS cI cZ cL) := ⟨hown, hts, hK, hN⟩
  have hl : lv_has ls 4 [(0, .ref (o)), (1, .int (x)), (2, .int (y))] := hl
  refine lv_aload_n hx hb dC_job_0 rfl (lv_at hl 0 rfl) ?_
  refine lv_iload_n hx hb dC_job_1 rfl (lv_at hl 1 rfl) ?_
  refine mcallq (mcV (n := 1) (As := [.int (x)]) (rest := []) hx hb hml hE (kC_findJob l B D cI cZ cL w o ad va now n J hR x) q_112 q_114 qs_2 q_1 q_115 rfl rfl (by decide +kernel) ⟨Nat.le_of_ble_eq_true rfl, Nat.le_of_ble_eq_true rfl⟩ rfl hl.1 hm rfl hR.1 rfl (Nat.le_of_ble_eq_true rfl) dC_job_2 ⟨Nat.le_of_ble_eq_true rfl, Nat.le_of_ble_eq_true rfl⟩) hm (fun r1 u1 H locs hp1 hm => ?_)
  obtain ⟨hr1, hu1⟩ := hp1
  rw [hu1] at hm
  subst hr1
  cases ht : fJ n x with
  | none =>
    show W _ _ _ _ _ _ _ _ _ _ _ _ _ _ _ (F0 m 5 ls [.null])
    refine lv_astore_nN (lv' := [(3, .null), (0, .ref (o)), (1, .int (x)), (2, .int (y))]) hx hb dC_job_5 rfl hl (by decide) rfl (fun ls hl => ?_)
    refine lv_aload_nN hx hb dC_job_6 rfl (lv_at hl 0 rfl) ?_
    refine lv_ifnonnullN hx hb dC_job_7 ?_
    refine lv_iconst (v := (-1)) hx hb dC_job_10 (by decide) ?_
    exact mreti hx hb hr hlk hm ⟨by simp [jobw, ht, oI, bI], rfl⟩ dC_job_11
  | some j =>
    have hjn : j < n := (fJ_lt ht).1
    cases hb0 : jBs (J j) with
    | none =>
      have hA : w (ad j) = some (.inr (0, [.int (nI j), .int (jSer (J j)), .int (jLev (J j)), .int (bI (jUp (J j))), .null, .int (jBg (J j)), va_rf (prv ad j), .ref (va j), .int (jEn (J j)), .int (jSt (J j)), .int (bI (jPr (J j))), .int (nI (sd n J j))])) := by have h := hR.2.1 j hjn; rw [jL, hb0] at h; exact h
      show W _ _ _ _ _ _ _ _ _ _ _ _ _ _ _ (F0 m 5 ls [.ref (ad j)])
      refine lv_astore_n (lv' := [(3, .ref (ad j)), (0, .ref (o)), (1, .int (x)), (2, .int (y))]) hx hb dC_job_5 rfl hl (by decide) rfl (fun ls hl => ?_)
      refine lv_aload_n hx hb dC_job_6 rfl (lv_at hl 0 rfl) ?_
      refine lv_ifnonnull (tgt := 12) hx hb dC_job_7 (by decide) ?_
      refine lv_iload_n hx hb dC_job_12 rfl (lv_at hl 3 rfl) ?_
      by_cases e_0 : y = 0
      · subst e_0
        refine lv_tableIn (off := 59) (tgt := 72) hx hb dC_job_13 (by decide) (by decide) (by decide) (by decide) ?_
        refine lv_aload_n hx hb dC_job_72 rfl (lv_at hl 0 rfl) ?_
        refine g_C_J_111 (v := .int (jSer (J j))) hx hb hE hm hA rfl dC_job_73 ?_
        exact mreti hx hb hr hlk hm ⟨by simp [jobw, ht, oI, bI, hb0], rfl⟩ dC_job_76
      by_cases e_1 : y = 1
      · subst e_1
        refine lv_tableIn (off := 64) (tgt := 77) hx hb dC_job_13 (by decide) (by decide) (by decide) (by decide) ?_
        refine lv_aload_n hx hb dC_job_77 rfl (lv_at hl 0 rfl) ?_
        refine g_C_J_63 (v := .int (jLev (J j))) hx hb hE hm hA rfl dC_job_78 ?_
        exact mreti hx hb hr hlk hm ⟨by simp [jobw, ht, oI, bI, hb0], rfl⟩ dC_job_81
      by_cases e_2 : y = 2
      · subst e_2
        refine lv_tableIn (off := 69) (tgt := 82) hx hb dC_job_13 (by decide) (by decide) (by decide) (by decide) ?_
        refine lv_aload_n hx hb dC_job_82 rfl (lv_at hl 0 rfl) ?_
        refine g_C_J_114 (v := .int (bI (jUp (J j)))) hx hb hE hm hA rfl dC_job_83 ?_
        refine lv_if_eq (tgt := 93) hx hb dC_job_86 (by decide) (fun c_86 => ?_) (fun c_86 => ?_)
        · rw [bI_0] at c_86
          refine lv_iconst (v := 0) hx hb dC_job_93 (by decide) ?_
          exact mreti hx hb hr hlk hm ⟨by simp [jobw, ht, oI, bI, hb0, c_86], rfl⟩ dC_job_94
        · rw [bI_0] at c_86
          refine lv_iconst (v := 1) hx hb dC_job_89 (by decide) ?_
          refine lv_goto (tgt := 94) hx hb dC_job_90 (by decide) ?_
          exact mreti hx hb hr hlk hm ⟨by simp [jobw, ht, oI, bI, hb0, c_86], rfl⟩ dC_job_94
      by_cases e_3 : y = 3
      · subst e_3
        refine lv_tableIn (off := 82) (tgt := 95) hx hb dC_job_13 (by decide) (by decide) (by decide) (by decide) ?_
        refine lv_aload_n hx hb dC_job_95 rfl (lv_at hl 0 rfl) ?_
        refine g_C_J_79 (v := .null) hx hb hE hm hA rfl dC_job_96 ?_
        refine lv_ifnonnullN hx hb dC_job_99 ?_
        refine lv_iconst (v := (-1)) hx hb dC_job_102 (by decide) ?_
        refine lv_goto (tgt := 113) hx hb dC_job_103 (by decide) ?_
        exact mreti hx hb hr hlk hm ⟨by simp [jobw, ht, oI, bI, hb0], rfl⟩ dC_job_113
      by_cases e_4 : y = 4
      · subst e_4
        refine lv_tableIn (off := 101) (tgt := 114) hx hb dC_job_13 (by decide) (by decide) (by decide) (by decide) ?_
        refine lv_aload_n hx hb dC_job_114 rfl (lv_at hl 0 rfl) ?_
        refine g_C_J_118 (v := .int (jBg (J j))) hx hb hE hm hA rfl dC_job_115 ?_
        exact mreti hx hb hr hlk hm ⟨by simp [jobw, ht, oI, bI, hb0], rfl⟩ dC_job_118
      by_cases e_5 : y = 5
      · subst e_5
        refine lv_tableIn (off := 106) (tgt := 119) hx hb dC_job_13 (by decide) (by decide) (by decide) (by decide) ?_
        refine lv_aload_n hx hb dC_job_119 rfl (lv_at hl 0 rfl) ?_
        refine g_C_J_73 (v := .int (jEn (J j))) hx hb hE hm hA rfl dC_job_120 ?_
        exact mreti hx hb hr hlk hm ⟨by simp [jobw, ht, oI, bI, hb0], rfl⟩ dC_job_123
      by_cases e_6 : y = 6
      · subst e_6
        refine lv_tableIn (off := 111) (tgt := 124) hx hb dC_job_13 (by decide) (by decide) (by decide) (by decide) ?_
        refine lv_aload_n hx hb dC_job_124 rfl (lv_at hl 0 rfl) ?_
        refine g_C_J_57 (v := .int (jSt (J j))) hx hb hE hm hA rfl dC_job_125 ?_
        exact mreti hx hb hr hlk hm ⟨by simp [jobw, ht, oI, bI, hb0], rfl⟩ dC_job_128
      by_cases e_7 : y = 7
      · subst e_7
        refine lv_tableIn (off := 116) (tgt := 129) hx hb dC_job_13 (by decide) (by decide) (by decide) (by decide) ?_
        refine lv_aload_n hx hb dC_job_129 rfl (lv_at hl 0 rfl) ?_
        refine g_C_J_121 (v := .int (bI (jPr (J j)))) hx hb hE hm hA rfl dC_job_130 ?_
        refine lv_if_eq (tgt := 140) hx hb dC_job_133 (by decide) (fun c_133 => ?_) (fun c_133 => ?_)
        · rw [bI_0] at c_133
          refine lv_iconst (v := 0) hx hb dC_job_140 (by decide) ?_
          exact mreti hx hb hr hlk hm ⟨by simp [jobw, ht, oI, bI, hb0, c_133], rfl⟩ dC_job_141
        · rw [bI_0] at c_133
          refine lv_iconst (v := 1) hx hb dC_job_136 (by decide) ?_
          refine lv_goto (tgt := 141) hx hb dC_job_137 (by decide) ?_
          exact mreti hx hb hr hlk hm ⟨by simp [jobw, ht, oI, bI, hb0, c_133], rfl⟩ dC_job_141
      by_cases e_8 : y = 8
      · subst e_8
        refine lv_tableIn (off := 129) (tgt := 142) hx hb dC_job_13 (by decide) (by decide) (by decide) (by decide) ?_
        refine lv_aload_n hx hb dC_job_142 rfl (lv_at hl 0 rfl) ?_
        refine mcalli (mcS (n := 1) (As := [.ref (ad j)]) (rest := []) hx hb hml hE (kC_countTold l B D cI cZ cL w (ad j) _ _ _ _ _ _ _ _ _ _ _ _ (hR.2.1 j hjn) (jVr (J j)) (hR.2.2.1 j hjn)) q_168 q_169 q_1 q_170 rfl rfl (by decide +kernel) ⟨Nat.le_of_ble_eq_true rfl, Nat.le_of_ble_eq_true rfl⟩ rfl hl.1 hm rfl (Nat.le_of_ble_eq_true rfl) dC_job_143 ⟨Nat.le_of_ble_eq_true rfl, Nat.le_of_ble_eq_true rfl⟩) hm (fun r2 u2 H locs hp2 hm => ?_)
        obtain ⟨hr2, hu2⟩ := hp2
        rw [hu2] at hm
        exact mreti hx hb hr hlk hm ⟨by rw [hr2]; simp [jobw, ht, oI, bI, hb0], rfl⟩ dC_job_146
      by_cases e_9 : y = 9
      · subst e_9
        refine lv_tableIn (off := 134) (tgt := 147) hx hb dC_job_13 (by decide) (by decide) (by decide) (by decide) ?_
        refine lv_aload_n hx hb dC_job_147 rfl (lv_at hl 0 rfl) ?_
        refine g_C_J_79 (v := .null) hx hb hE hm hA rfl dC_job_148 ?_
        refine lv_ifnonnullN hx hb dC_job_151 ?_
        refine lv_iconst (v := (-1)) hx hb dC_job_154 (by decide) ?_
        refine lv_goto (tgt := 165) hx hb dC_job_155 (by decide) ?_
        exact mreti hx hb hr hlk hm ⟨by simp [jobw, ht, oI, bI, hb0], rfl⟩ dC_job_165
      by_cases e_10 : y = 10
      · subst e_10
        refine lv_tableIn (off := 153) (tgt := 166) hx hb dC_job_13 (by decide) (by decide) (by decide) (by decide) ?_
        refine lv_aload_n hx hb dC_job_166 rfl (lv_at hl 0 rfl) ?_
        refine g_C_J_42 (v := .int (nI (sd n J j))) hx hb hE hm hA rfl dC_job_167 ?_
        exact mreti hx hb hr hlk hm ⟨by simp [jobw, ht, oI, bI, hb0], rfl⟩ dC_job_170
      refine lv_tableOut (tgt := 171) hx hb dC_job_13 (by have z_0 := lv_neT (k := 0) (a := 0) e_0 (by decide); have z_1 := lv_neT (k := 1) (a := 1) e_1 (by decide); have z_2 := lv_neT (k := 2) (a := 2) e_2 (by decide); have z_3 := lv_neT (k := 3) (a := 3) e_3 (by decide); have z_4 := lv_neT (k := 4) (a := 4) e_4 (by decide); have z_5 := lv_neT (k := 5) (a := 5) e_5 (by decide); have z_6 := lv_neT (k := 6) (a := 6) e_6 (by decide); have z_7 := lv_neT (k := 7) (a := 7) e_7 (by decide); have z_8 := lv_neT (k := 8) (a := 8) e_8 (by decide); have z_9 := lv_neT (k := 9) (a := 9) e_9 (by decide); have z_10 := lv_neT (k := 10) (a := 10) e_10 (by decide); omega) (by decide) ?_
      refine lv_iconst (v := (-1)) hx hb dC_job_171 (by decide) ?_
      exact mreti hx hb hr hlk hm ⟨by simp [jobw, ht, oI, bI, hb0, e_0, e_1, e_2, e_3, e_4, e_5, e_6, e_7, e_8, e_9, e_10], rfl⟩ dC_job_172
    | some b =>
      have hA : w (ad j) = some (.inr (0, [.int (nI j), .int (jSer (J j)), .int (jLev (J j)), .int (bI (jUp (J j))), .ref (ad b), .int (jBg (J j)), va_rf (prv ad j), .ref (va j), .int (jEn (J j)), .int (jSt (J j)), .int (bI (jPr (J j))), .int (nI (sd n J j))])) := by have h := hR.2.1 j hjn; rw [jL, hb0] at h; exact h
      have hbn : b < n := Nat.lt_trans (hR.bs hjn hb0) hjn
      show W _ _ _ _ _ _ _ _ _ _ _ _ _ _ _ (F0 m 5 ls [.ref (ad j)])
      refine lv_astore_n (lv' := [(3, .ref (ad j)), (0, .ref (o)), (1, .int (x)), (2, .int (y))]) hx hb dC_job_5 rfl hl (by decide) rfl (fun ls hl => ?_)
      refine lv_aload_n hx hb dC_job_6 rfl (lv_at hl 0 rfl) ?_
      refine lv_ifnonnull (tgt := 12) hx hb dC_job_7 (by decide) ?_
      refine lv_iload_n hx hb dC_job_12 rfl (lv_at hl 3 rfl) ?_
      by_cases e_0 : y = 0
      · subst e_0
        refine lv_tableIn (off := 59) (tgt := 72) hx hb dC_job_13 (by decide) (by decide) (by decide) (by decide) ?_
        refine lv_aload_n hx hb dC_job_72 rfl (lv_at hl 0 rfl) ?_
        refine g_C_J_111 (v := .int (jSer (J j))) hx hb hE hm hA rfl dC_job_73 ?_
        exact mreti hx hb hr hlk hm ⟨by simp [jobw, ht, oI, bI, hb0], rfl⟩ dC_job_76
      by_cases e_1 : y = 1
      · subst e_1
        refine lv_tableIn (off := 64) (tgt := 77) hx hb dC_job_13 (by decide) (by decide) (by decide) (by decide) ?_
        refine lv_aload_n hx hb dC_job_77 rfl (lv_at hl 0 rfl) ?_
        refine g_C_J_63 (v := .int (jLev (J j))) hx hb hE hm hA rfl dC_job_78 ?_
        exact mreti hx hb hr hlk hm ⟨by simp [jobw, ht, oI, bI, hb0], rfl⟩ dC_job_81
      by_cases e_2 : y = 2
      · subst e_2
        refine lv_tableIn (off := 69) (tgt := 82) hx hb dC_job_13 (by decide) (by decide) (by decide) (by decide) ?_
        refine lv_aload_n hx hb dC_job_82 rfl (lv_at hl 0 rfl) ?_
        refine g_C_J_114 (v := .int (bI (jUp (J j)))) hx hb hE hm hA rfl dC_job_83 ?_
        refine lv_if_eq (tgt := 93) hx hb dC_job_86 (by decide) (fun c_86 => ?_) (fun c_86 => ?_)
        · rw [bI_0] at c_86
          refine lv_iconst (v := 0) hx hb dC_job_93 (by decide) ?_
          exact mreti hx hb hr hlk hm ⟨by simp [jobw, ht, oI, bI, hb0, c_86], rfl⟩ dC_job_94
        · rw [bI_0] at c_86
          refine lv_iconst (v := 1) hx hb dC_job_89 (by decide) ?_
          refine lv_goto (tgt := 94) hx hb dC_job_90 (by decide) ?_
          exact mreti hx hb hr hlk hm ⟨by simp [jobw, ht, oI, bI, hb0, c_86], rfl⟩ dC_job_94
      by_cases e_3 : y = 3
      · subst e_3
        refine lv_tableIn (off := 82) (tgt := 95) hx hb dC_job_13 (by decide) (by decide) (by decide) (by decide) ?_
        refine lv_aload_n hx hb dC_job_95 rfl (lv_at hl 0 rfl) ?_
        refine g_C_J_79 (v := .ref (ad b)) hx hb hE hm hA rfl dC_job_96 ?_
        refine lv_ifnonnull (tgt := 106) hx hb dC_job_99 (by decide) ?_
        refine lv_aload_n hx hb dC_job_106 rfl (lv_at hl 0 rfl) ?_
        refine g_C_J_79 (v := .ref (ad b)) hx hb hE hm hA rfl dC_job_107 ?_
        refine g_C_J_50 (v := .int (nI b)) hx hb hE hm (hR.2.1 b hbn) rfl dC_job_110 ?_
        exact mreti hx hb hr hlk hm ⟨by simp [jobw, ht, oI, bI, hb0], rfl⟩ dC_job_113
      by_cases e_4 : y = 4
      · subst e_4
        refine lv_tableIn (off := 101) (tgt := 114) hx hb dC_job_13 (by decide) (by decide) (by decide) (by decide) ?_
        refine lv_aload_n hx hb dC_job_114 rfl (lv_at hl 0 rfl) ?_
        refine g_C_J_118 (v := .int (jBg (J j))) hx hb hE hm hA rfl dC_job_115 ?_
        exact mreti hx hb hr hlk hm ⟨by simp [jobw, ht, oI, bI, hb0], rfl⟩ dC_job_118
      by_cases e_5 : y = 5
      · subst e_5
        refine lv_tableIn (off := 106) (tgt := 119) hx hb dC_job_13 (by decide) (by decide) (by decide) (by decide) ?_
        refine lv_aload_n hx hb dC_job_119 rfl (lv_at hl 0 rfl) ?_
        refine g_C_J_73 (v := .int (jEn (J j))) hx hb hE hm hA rfl dC_job_120 ?_
        exact mreti hx hb hr hlk hm ⟨by simp [jobw, ht, oI, bI, hb0], rfl⟩ dC_job_123
      by_cases e_6 : y = 6
      · subst e_6
        refine lv_tableIn (off := 111) (tgt := 124) hx hb dC_job_13 (by decide) (by decide) (by decide) (by decide) ?_
        refine lv_aload_n hx hb dC_job_124 rfl (lv_at hl 0 rfl) ?_
        refine g_C_J_57 (v := .int (jSt (J j))) hx hb hE hm hA rfl dC_job_125 ?_
        exact mreti hx hb hr hlk hm ⟨by simp [jobw, ht, oI, bI, hb0], rfl⟩ dC_job_128
      by_cases e_7 : y = 7
      · subst e_7
        refine lv_tableIn (off := 116) (tgt := 129) hx hb dC_job_13 (by decide) (by decide) (by decide) (by decide) ?_
        refine lv_aload_n hx hb dC_job_129 rfl (lv_at hl 0 rfl) ?_
        refine g_C_J_121 (v := .int (bI (jPr (J j)))) hx hb hE hm hA rfl dC_job_130 ?_
        refine lv_if_eq (tgt := 140) hx hb dC_job_133 (by decide) (fun c_133 => ?_) (fun c_133 => ?_)
        · rw [bI_0] at c_133
          refine lv_iconst (v := 0) hx hb dC_job_140 (by decide) ?_
          exact mreti hx hb hr hlk hm ⟨by simp [jobw, ht, oI, bI, hb0, c_133], rfl⟩ dC_job_141
        · rw [bI_0] at c_133
          refine lv_iconst (v := 1) hx hb dC_job_136 (by decide) ?_
          refine lv_goto (tgt := 141) hx hb dC_job_137 (by decide) ?_
          exact mreti hx hb hr hlk hm ⟨by simp [jobw, ht, oI, bI, hb0, c_133], rfl⟩ dC_job_141
      by_cases e_8 : y = 8
      · subst e_8
        refine lv_tableIn (off := 129) (tgt := 142) hx hb dC_job_13 (by decide) (by decide) (by decide) (by decide) ?_
        refine lv_aload_n hx hb dC_job_142 rfl (lv_at hl 0 rfl) ?_
        refine mcalli (mcS (n := 1) (As := [.ref (ad j)]) (rest := []) hx hb hml hE (kC_countTold l B D cI cZ cL w (ad j) _ _ _ _ _ _ _ _ _ _ _ _ (hR.2.1 j hjn) (jVr (J j)) (hR.2.2.1 j hjn)) q_168 q_169 q_1 q_170 rfl rfl (by decide +kernel) ⟨Nat.le_of_ble_eq_true rfl, Nat.le_of_ble_eq_true rfl⟩ rfl hl.1 hm rfl (Nat.le_of_ble_eq_true rfl) dC_job_143 ⟨Nat.le_of_ble_eq_true rfl, Nat.le_of_ble_eq_true rfl⟩) hm (fun r3 u3 H locs hp3 hm => ?_)
        obtain ⟨hr3, hu3⟩ := hp3
        rw [hu3] at hm
        exact mreti hx hb hr hlk hm ⟨by rw [hr3]; simp [jobw, ht, oI, bI, hb0], rfl⟩ dC_job_146
      by_cases e_9 : y = 9
      · subst e_9
        refine lv_tableIn (off := 134) (tgt := 147) hx hb dC_job_13 (by decide) (by decide) (by decide) (by decide) ?_
        refine lv_aload_n hx hb dC_job_147 rfl (lv_at hl 0 rfl) ?_
        refine g_C_J_79 (v := .ref (ad b)) hx hb hE hm hA rfl dC_job_148 ?_
        refine lv_ifnonnull (tgt := 158) hx hb dC_job_151 (by decide) ?_
        refine lv_aload_n hx hb dC_job_158 rfl (lv_at hl 0 rfl) ?_
        refine g_C_J_79 (v := .ref (ad b)) hx hb hE hm hA rfl dC_job_159 ?_
        refine g_C_J_118 (v := .int (jBg (J b))) hx hb hE hm (hR.2.1 b hbn) rfl dC_job_162 ?_
        exact mreti hx hb hr hlk hm ⟨by simp [jobw, ht, oI, bI, hb0], rfl⟩ dC_job_165
      by_cases e_10 : y = 10
      · subst e_10
        refine lv_tableIn (off := 153) (tgt := 166) hx hb dC_job_13 (by decide) (by decide) (by decide) (by decide) ?_
        refine lv_aload_n hx hb dC_job_166 rfl (lv_at hl 0 rfl) ?_
        refine g_C_J_42 (v := .int (nI (sd n J j))) hx hb hE hm hA rfl dC_job_167 ?_
        exact mreti hx hb hr hlk hm ⟨by simp [jobw, ht, oI, bI, hb0], rfl⟩ dC_job_170
      refine lv_tableOut (tgt := 171) hx hb dC_job_13 (by have z_0 := lv_neT (k := 0) (a := 0) e_0 (by decide); have z_1 := lv_neT (k := 1) (a := 1) e_1 (by decide); have z_2 := lv_neT (k := 2) (a := 2) e_2 (by decide); have z_3 := lv_neT (k := 3) (a := 3) e_3 (by decide); have z_4 := lv_neT (k := 4) (a := 4) e_4 (by decide); have z_5 := lv_neT (k := 5) (a := 5) e_5 (by decide); have z_6 := lv_neT (k := 6) (a := 6) e_6 (by decide); have z_7 := lv_neT (k := 7) (a := 7) e_7 (by decide); have z_8 := lv_neT (k := 8) (a := 8) e_8 (by decide); have z_9 := lv_neT (k := 9) (a := 9) e_9 (by decide); have z_10 := lv_neT (k := 10) (a := 10) e_10 (by decide); omega) (by decide) ?_
      refine lv_iconst (v := (-1)) hx hb dC_job_171 (by decide) ?_
      exact mreti hx hb hr hlk hm ⟨by simp [jobw, ht, oI, bI, hb0, e_0, e_1, e_2, e_3, e_4, e_5, e_6, e_7, e_8, e_9, e_10], rfl⟩ dC_job_172
end
section
set_option maxHeartbeats 4000000 in
set_option maxRecDepth 100000 in
/-- Job(..) -/
theorem kJ_init (l : Launch) (B : Nat) (D : va_G) (cI cZ cL : ClassId) (w : Wd) (a : Nat) (nb s0 l0 : Int32) (b0 : Option Nat) (t0 : Int32) (er : Option Nat) (ha : w a = some (.inr (0, DEFJ))) : Met l yJ_init (.code yJ_init cJ_init 7 none :: BIG) { frames := 1, cells := 1, slots := 50, locals := 23 } (va_Pc [.ref (a), .int (nb), .int (s0), .int (l0), va_rf (b0), .int (t0), va_rf (er)] (mP B D CLS (TYS cI cZ cL) NEST w)) (va_Qv (fun u => ∃ q, w q = none ∧ u = wset (wset w q (.inl (cI, 50, .inl (fun _ => -2)))) a (.inr (0, [.int nb, .int s0, .int (if b0 = none then 0 else l0), .int (bI (decide (b0 = none) && decide (l0 ≠ 0))), va_rf b0, .int t0, va_rf er, .ref q, .int (-1), .int 0, .int 0, .int 0]))) (mE B D CLS) (fun q => B ≤ q)) 1 50 (fun q => B ≤ q) := by
  cases b0 with
  | none =>
    refine mMet (by decide) rfl (by simp [lg_sl, rf_cat, int_cat, ref_cat]) ?_
    intro p e s m below meth c ls hx hb hml hr hlk hnm hown hts hK hN hm hl
    have hE : ME "ChainPicker$Job" (.code yJ_init cJ_init 7 none) _ s m D (TYS cI cZ cL) := ⟨hown, hts, hK, hN⟩
    have hl : lv_has ls 7 [(0, .ref (a)), (1, .int (nb)), (2, .int (s0)), (3, .int (l0)), (4, va_rf (none)), (5, .int (t0)), (6, va_rf (er))] := by simpa [lv_args, rf_cat, int_cat, ref_cat] using hl
    have hl : lv_has ls 7 [(0, .ref (a)), (1, .int (nb)), (2, .int (s0)), (3, .int (l0)), (4, .null), (5, .int (t0)), (6, va_rf (er))] := hl
    refine lv_aload_n hx hb dJ_init_0 rfl (lv_at hl 0 rfl) ?_
    refine W.objInit hx hb hE.1 (hE.2.1 _ (List.mem_cons_of_mem _ q_54)) (hE.2.1 _ (List.mem_cons_of_mem _ q_16)) (hE.2.1 _ (List.mem_cons_of_mem _ q_17)) rfl (by rw [hml]; exact hl.1) rfl dJ_init_1 (Nat.le_of_ble_eq_true rfl) (Nat.le_of_ble_eq_true rfl) ?_
    refine W.eq (g2 := F0 m 4 ls []) rfl ?_
    refine lv_aload_n hx hb dJ_init_4 rfl (lv_at hl 0 rfl) ?_
    refine lv_iload_n hx hb dJ_init_5 rfl (lv_at hl 1 rfl) ?_
    refine p_J_J_9 (x := nb) hx hb hE hm ha hnm (by simp) dJ_init_6 (fun H locs hm => ?_)
    obtain ⟨w1, hhw1⟩ : ∃ z : Wd, z = wset w (a) (.inr (0, [.int (nb), .int (0), .int (0), .int (0), va_rf (none), .int (0), va_rf (none), va_rf (none), .int (0), .int (0), .int (0), .int (0)])) := ⟨_, rfl⟩
    have hm : mS B D CLS s.heap w1 H locs := by rw [hhw1]; exact hm
    have hw1 : w1 = wset (w) (a) (.inr (0, [.int (nb), .int (0), .int (0), .int (0), va_rf (none), .int (0), va_rf (none), va_rf (none), .int (0), .int (0), .int (0), .int (0)])) := by rw [hhw1]
    have fw1 : w1 (a) = some (.inr (0, [.int (nb), .int (0), .int (0), .int (0), va_rf (none), .int (0), va_rf (none), va_rf (none), .int (0), .int (0), .int (0), .int (0)])) := by rw [hhw1]; exact wset_at _ _ _
    refine lv_aload_n hx hb dJ_init_9 rfl (lv_at hl 0 rfl) ?_
    refine lv_iload_n hx hb dJ_init_10 rfl (lv_at hl 2 rfl) ?_
    refine p_J_J_15 (x := s0) hx hb hE hm fw1 hnm (by simp) dJ_init_11 (fun H locs hm => ?_)
    obtain ⟨w2, hhw2⟩ : ∃ z : Wd, z = wset w1 (a) (.inr (0, [.int (nb), .int (s0), .int (0), .int (0), va_rf (none), .int (0), va_rf (none), va_rf (none), .int (0), .int (0), .int (0), .int (0)])) := ⟨_, rfl⟩
    have hm : mS B D CLS s.heap w2 H locs := by rw [hhw2]; exact hm
    have hw2 : w2 = wset (w) (a) (.inr (0, [.int (nb), .int (s0), .int (0), .int (0), va_rf (none), .int (0), va_rf (none), va_rf (none), .int (0), .int (0), .int (0), .int (0)])) := by rw [hhw2, hw1]; funext z; by_cases hz : z = a <;> simp [wset, hz]
    have fw2 : w2 (a) = some (.inr (0, [.int (nb), .int (s0), .int (0), .int (0), va_rf (none), .int (0), va_rf (none), va_rf (none), .int (0), .int (0), .int (0), .int (0)])) := by rw [hhw2]; exact wset_at _ _ _
    refine lv_aload_n hx hb dJ_init_14 rfl (lv_at hl 0 rfl) ?_
    refine lv_aloadN hx hb dJ_init_15 (lv_at hl 4 rfl) ?_
    refine lv_ifnonnullN hx hb dJ_init_17 ?_
    refine lv_iconst (v := 0) hx hb dJ_init_20 (by decide) ?_
    refine lv_goto (tgt := 25) hx hb dJ_init_21 (by decide) ?_
    refine p_J_J_18 (x := 0) hx hb hE hm fw2 hnm (by simp) dJ_init_25 (fun H locs hm => ?_)
    obtain ⟨w3, hhw3⟩ : ∃ z : Wd, z = wset w2 (a) (.inr (0, [.int (nb), .int (s0), .int (0), .int (0), va_rf (none), .int (0), va_rf (none), va_rf (none), .int (0), .int (0), .int (0), .int (0)])) := ⟨_, rfl⟩
    have hm : mS B D CLS s.heap w3 H locs := by rw [hhw3]; exact hm
    have hw3 : w3 = wset (w) (a) (.inr (0, [.int (nb), .int (s0), .int (0), .int (0), va_rf (none), .int (0), va_rf (none), va_rf (none), .int (0), .int (0), .int (0), .int (0)])) := by rw [hhw3, hw2]; funext z; by_cases hz : z = a <;> simp [wset, hz]
    have fw3 : w3 (a) = some (.inr (0, [.int (nb), .int (s0), .int (0), .int (0), va_rf (none), .int (0), va_rf (none), va_rf (none), .int (0), .int (0), .int (0), .int (0)])) := by rw [hhw3]; exact wset_at _ _ _
    refine lv_aload_n hx hb dJ_init_28 rfl (lv_at hl 0 rfl) ?_
    refine lv_aloadN hx hb dJ_init_29 (lv_at hl 4 rfl) ?_
    refine lv_ifnonnullN hx hb dJ_init_31 ?_
    refine lv_iload_n hx hb dJ_init_34 rfl (lv_at hl 3 rfl) ?_
    refine lv_if_eq (tgt := 42) hx hb dJ_init_35 (by decide) (fun c_35 => ?_) (fun c_35 => ?_)
    · refine lv_iconst (v := 0) hx hb dJ_init_42 (by decide) ?_
      refine p_J_J_21 (x := 0) hx hb hE hm fw3 hnm (by simp) (by decide) dJ_init_43 (fun H locs hm => ?_)
      obtain ⟨w4, hhw4⟩ : ∃ z : Wd, z = wset w3 (a) (.inr (0, [.int (nb), .int (s0), .int (0), .int (0), va_rf (none), .int (0), va_rf (none), va_rf (none), .int (0), .int (0), .int (0), .int (0)])) := ⟨_, rfl⟩
      have hm : mS B D CLS s.heap w4 H locs := by rw [hhw4]; exact hm
      have hw4 : w4 = wset (w) (a) (.inr (0, [.int (nb), .int (s0), .int (0), .int (0), va_rf (none), .int (0), va_rf (none), va_rf (none), .int (0), .int (0), .int (0), .int (0)])) := by rw [hhw4, hw3]; funext z; by_cases hz : z = a <;> simp [wset, hz]
      have fw4 : w4 (a) = some (.inr (0, [.int (nb), .int (s0), .int (0), .int (0), va_rf (none), .int (0), va_rf (none), va_rf (none), .int (0), .int (0), .int (0), .int (0)])) := by rw [hhw4]; exact wset_at _ _ _
      refine lv_aload_n hx hb dJ_init_46 rfl (lv_at hl 0 rfl) ?_
      refine lv_aloadN hx hb dJ_init_47 (lv_at hl 4 rfl) ?_
      refine p_J_J_25 (r := none) hx hb hE hm fw4 hnm (by simp) dJ_init_49 (fun H locs hm => ?_)
      obtain ⟨w5, hhw5⟩ : ∃ z : Wd, z = wset w4 (a) (.inr (0, [.int (nb), .int (s0), .int (0), .int (0), va_rf (none), .int (0), va_rf (none), va_rf (none), .int (0), .int (0), .int (0), .int (0)])) := ⟨_, rfl⟩
      have hm : mS B D CLS s.heap w5 H locs := by rw [hhw5]; exact hm
      have hw5 : w5 = wset (w) (a) (.inr (0, [.int (nb), .int (s0), .int (0), .int (0), va_rf (none), .int (0), va_rf (none), va_rf (none), .int (0), .int (0), .int (0), .int (0)])) := by rw [hhw5, hw4]; funext z; by_cases hz : z = a <;> simp [wset, hz]
      have fw5 : w5 (a) = some (.inr (0, [.int (nb), .int (s0), .int (0), .int (0), va_rf (none), .int (0), va_rf (none), va_rf (none), .int (0), .int (0), .int (0), .int (0)])) := by rw [hhw5]; exact wset_at _ _ _
      refine lv_aload_n hx hb dJ_init_52 rfl (lv_at hl 0 rfl) ?_
      refine lv_iload hx hb dJ_init_53 (lv_at hl 5 rfl) ?_
      refine p_J_J_29 (x := t0) hx hb hE hm fw5 hnm (by simp) dJ_init_55 (fun H locs hm => ?_)
      obtain ⟨w6, hhw6⟩ : ∃ z : Wd, z = wset w5 (a) (.inr (0, [.int (nb), .int (s0), .int (0), .int (0), va_rf (none), .int (t0), va_rf (none), va_rf (none), .int (0), .int (0), .int (0), .int (0)])) := ⟨_, rfl⟩
      have hm : mS B D CLS s.heap w6 H locs := by rw [hhw6]; exact hm
      have hw6 : w6 = wset (w) (a) (.inr (0, [.int (nb), .int (s0), .int (0), .int (0), va_rf (none), .int (t0), va_rf (none), va_rf (none), .int (0), .int (0), .int (0), .int (0)])) := by rw [hhw6, hw5]; funext z; by_cases hz : z = a <;> simp [wset, hz]
      have fw6 : w6 (a) = some (.inr (0, [.int (nb), .int (s0), .int (0), .int (0), va_rf (none), .int (t0), va_rf (none), va_rf (none), .int (0), .int (0), .int (0), .int (0)])) := by rw [hhw6]; exact wset_at _ _ _
      refine lv_aload_n hx hb dJ_init_58 rfl (lv_at hl 0 rfl) ?_
      refine mloadR2 hx hb dJ_init_59 (lv_at hl 6 rfl) ?_
      refine p_J_J_32 (r := er) hx hb hE hm fw6 hnm (by simp) dJ_init_61 (fun H locs hm => ?_)
      obtain ⟨w7, hhw7⟩ : ∃ z : Wd, z = wset w6 (a) (.inr (0, [.int (nb), .int (s0), .int (0), .int (0), va_rf (none), .int (t0), va_rf (er), va_rf (none), .int (0), .int (0), .int (0), .int (0)])) := ⟨_, rfl⟩
      have hm : mS B D CLS s.heap w7 H locs := by rw [hhw7]; exact hm
      have hw7 : w7 = wset (w) (a) (.inr (0, [.int (nb), .int (s0), .int (0), .int (0), va_rf (none), .int (t0), va_rf (er), va_rf (none), .int (0), .int (0), .int (0), .int (0)])) := by rw [hhw7, hw6]; funext z; by_cases hz : z = a <;> simp [wset, hz]
      have fw7 : w7 (a) = some (.inr (0, [.int (nb), .int (s0), .int (0), .int (0), va_rf (none), .int (t0), va_rf (er), va_rf (none), .int (0), .int (0), .int (0), .int (0)])) := by rw [hhw7]; exact wset_at _ _ _
      refine lv_aload_n hx hb dJ_init_64 rfl (lv_at hl 0 rfl) ?_
      refine lv_bipush (v := 50) hx hb dJ_init_65 (by decide) ?_
      refine mnewa (atype := .int) (cI := cI) (ty := .int) (N' := 50) (a0 := (50, .inl (fun _ => 0))) hx hb (hE.2.1 _ (List.mem_cons_of_mem _ q_107)) rfl hE.2.2.1 hm 0 rfl (fun C h => by cases h) (fun _ => rfl) (by decide) (by decide) (by decide) (Nat.le_of_ble_eq_true rfl) (Nat.le_of_ble_eq_true rfl) dJ_init_67 (fun q8 H hq8 hm => ?_)
      have hfq8 : w q8 = none := by have h := hq8; rw [hw7] at h; exact (wset_none h).1
      have nq8_0 : a ≠ q8 := fun e => by have h := fw7; rw [e, hq8] at h; cases h
      obtain ⟨w8, hhw8⟩ : ∃ z : Wd, z = wset w7 (q8) (.inl (cI, 50, .inl (fun _ => 0))) := ⟨_, rfl⟩
      have hm : mS B D CLS s.heap w8 H locs := by rw [hhw8]; exact hm
      have hw8 : w8 = wset (wset (w) (a) (.inr (0, [.int (nb), .int (s0), .int (0), .int (0), va_rf (none), .int (t0), va_rf (er), va_rf (none), .int (0), .int (0), .int (0), .int (0)]))) (q8) (.inl (cI, 50, .inl (fun _ => 0))) := by rw [hhw8, hw7]
      have fw8 : w8 (q8) = some (.inl (cI, 50, .inl (fun _ => 0))) := by rw [hhw8]; exact wset_at _ _ _
      have fw8_1 := (show w8 (a) = w7 (a) by rw [hhw8]; exact wset_ne nq8_0).trans fw7
      refine p_J_J_35 (r := some (q8)) hx hb hE hm fw8_1 hnm (by simp) dJ_init_69 (fun H locs hm => ?_)
      obtain ⟨w9, hhw9⟩ : ∃ z : Wd, z = wset w8 (a) (.inr (0, [.int (nb), .int (s0), .int (0), .int (0), va_rf (none), .int (t0), va_rf (er), .ref (q8), .int (0), .int (0), .int (0), .int (0)])) := ⟨_, rfl⟩
      have hm : mS B D CLS s.heap w9 H locs := by rw [hhw9]; exact hm
      have hw9 : w9 = wset (wset (w) (q8) (.inl (cI, 50, .inl (fun _ => 0)))) (a) (.inr (0, [.int (nb), .int (s0), .int (0), .int (0), va_rf (none), .int (t0), va_rf (er), .ref (q8), .int (0), .int (0), .int (0), .int (0)])) := by rw [hhw9, hw8]; funext z; by_cases hz : z = a <;> simp [wset, hz]
      have fw9 : w9 (a) = some (.inr (0, [.int (nb), .int (s0), .int (0), .int (0), va_rf (none), .int (t0), va_rf (er), .ref (q8), .int (0), .int (0), .int (0), .int (0)])) := by rw [hhw9]; exact wset_at _ _ _
      have fw9_1 := (show w9 (q8) = w8 (q8) by rw [hhw9]; exact wset_ne (Ne.symm nq8_0)).trans fw8
      refine lv_aload_n hx hb dJ_init_72 rfl (lv_at hl 0 rfl) ?_
      refine g_J_J_35 (v := .ref (q8)) hx hb hE hm fw9 rfl dJ_init_73 ?_
      refine lv_bipush (v := (-2)) hx hb dJ_init_76 (by decide) ?_
      refine mcallv (mcS (n := 2) (As := [.ref (q8), .int ((-2))]) (rest := []) hx hb hml hE (kF_fill l B D cI cZ cL w9 (q8) (-2) 50 ((fun _ => 0)) (by decide) fw9_1) q_55 q_56 q_8 q_57 rfl rfl (by decide +kernel) ⟨Nat.le_of_ble_eq_true rfl, Nat.le_of_ble_eq_true rfl⟩ rfl hl.1 hm rfl (Nat.le_of_ble_eq_true rfl) dJ_init_78 ⟨Nat.le_of_ble_eq_true rfl, Nat.le_of_ble_eq_true rfl⟩) hm (fun u10 H locs hp10 hm => ?_)
      rw [hp10] at hm
      obtain ⟨w10, hhw10⟩ : ∃ z : Wd, z = wset w9 (q8) (.inl (cI, 50, .inl (fun _ => -2))) := ⟨_, rfl⟩
      have hm : mS B D CLS s.heap w10 H locs := by rw [hhw10]; exact hm
      have hw10 : w10 = wset (wset (w) (a) (.inr (0, [.int (nb), .int (s0), .int (0), .int (0), va_rf (none), .int (t0), va_rf (er), .ref (q8), .int (0), .int (0), .int (0), .int (0)]))) (q8) (.inl (cI, 50, .inl (fun _ => -2))) := by rw [hhw10, hw9]; funext z; by_cases hz : z = q8 <;> simp [wset, hz]
      have fw10 : w10 (q8) = some (.inl (cI, 50, .inl (fun _ => -2))) := by rw [hhw10]; exact wset_at _ _ _
      have fw10_1 := (show w10 (a) = w9 (a) by rw [hhw10]; exact wset_ne nq8_0).trans fw9
      refine lv_aload_n hx hb dJ_init_81 rfl (lv_at hl 0 rfl) ?_
      refine lv_iconst (v := (-1)) hx hb dJ_init_82 (by decide) ?_
      refine p_J_J_45 (x := (-1)) hx hb hE hm fw10_1 (by simp) dJ_init_83 (fun H locs hm => ?_)
      obtain ⟨w11, hhw11⟩ : ∃ z : Wd, z = wset w10 (a) (.inr (0, [.int (nb), .int (s0), .int (0), .int (0), va_rf (none), .int (t0), va_rf (er), .ref (q8), .int ((-1)), .int (0), .int (0), .int (0)])) := ⟨_, rfl⟩
      have hm : mS B D CLS s.heap w11 H locs := by rw [hhw11]; exact hm
      have hw11 : w11 = wset (wset (w) (q8) (.inl (cI, 50, .inl (fun _ => -2)))) (a) (.inr (0, [.int (nb), .int (s0), .int (0), .int (0), va_rf (none), .int (t0), va_rf (er), .ref (q8), .int ((-1)), .int (0), .int (0), .int (0)])) := by rw [hhw11, hw10]; funext z; by_cases hz : z = a <;> simp [wset, hz]
      have fw11 : w11 (a) = some (.inr (0, [.int (nb), .int (s0), .int (0), .int (0), va_rf (none), .int (t0), va_rf (er), .ref (q8), .int ((-1)), .int (0), .int (0), .int (0)])) := by rw [hhw11]; exact wset_at _ _ _
      have fw11_1 := (show w11 (q8) = w10 (q8) by rw [hhw11]; exact wset_ne (Ne.symm nq8_0)).trans fw10
      refine lv_aload_n hx hb dJ_init_86 rfl (lv_at hl 0 rfl) ?_
      refine lv_iconst (v := 0) hx hb dJ_init_87 (by decide) ?_
      refine p_J_J_48 (x := 0) hx hb hE hm fw11 (by simp) dJ_init_88 (fun H locs hm => ?_)
      obtain ⟨w12, hhw12⟩ : ∃ z : Wd, z = wset w11 (a) (.inr (0, [.int (nb), .int (s0), .int (0), .int (0), va_rf (none), .int (t0), va_rf (er), .ref (q8), .int ((-1)), .int (0), .int (0), .int (0)])) := ⟨_, rfl⟩
      have hm : mS B D CLS s.heap w12 H locs := by rw [hhw12]; exact hm
      have hw12 : w12 = wset (wset (w) (q8) (.inl (cI, 50, .inl (fun _ => -2)))) (a) (.inr (0, [.int (nb), .int (s0), .int (0), .int (0), va_rf (none), .int (t0), va_rf (er), .ref (q8), .int ((-1)), .int (0), .int (0), .int (0)])) := by rw [hhw12, hw11]; funext z; by_cases hz : z = a <;> simp [wset, hz]
      have fw12 : w12 (a) = some (.inr (0, [.int (nb), .int (s0), .int (0), .int (0), va_rf (none), .int (t0), va_rf (er), .ref (q8), .int ((-1)), .int (0), .int (0), .int (0)])) := by rw [hhw12]; exact wset_at _ _ _
      have fw12_1 := (show w12 (q8) = w11 (q8) by rw [hhw12]; exact wset_ne (Ne.symm nq8_0)).trans fw11_1
      refine lv_aload_n hx hb dJ_init_91 rfl (lv_at hl 0 rfl) ?_
      refine lv_iconst (v := 0) hx hb dJ_init_92 (by decide) ?_
      refine p_J_J_51 (x := 0) hx hb hE hm fw12 (by simp) (by decide) dJ_init_93 (fun H locs hm => ?_)
      obtain ⟨w13, hhw13⟩ : ∃ z : Wd, z = wset w12 (a) (.inr (0, [.int (nb), .int (s0), .int (0), .int (0), va_rf (none), .int (t0), va_rf (er), .ref (q8), .int ((-1)), .int (0), .int (0), .int (0)])) := ⟨_, rfl⟩
      have hm : mS B D CLS s.heap w13 H locs := by rw [hhw13]; exact hm
      have hw13 : w13 = wset (wset (w) (q8) (.inl (cI, 50, .inl (fun _ => -2)))) (a) (.inr (0, [.int (nb), .int (s0), .int (0), .int (0), va_rf (none), .int (t0), va_rf (er), .ref (q8), .int ((-1)), .int (0), .int (0), .int (0)])) := by rw [hhw13, hw12]; funext z; by_cases hz : z = a <;> simp [wset, hz]
      have fw13 : w13 (a) = some (.inr (0, [.int (nb), .int (s0), .int (0), .int (0), va_rf (none), .int (t0), va_rf (er), .ref (q8), .int ((-1)), .int (0), .int (0), .int (0)])) := by rw [hhw13]; exact wset_at _ _ _
      have fw13_1 := (show w13 (q8) = w12 (q8) by rw [hhw13]; exact wset_ne (Ne.symm nq8_0)).trans fw12_1
      refine lv_aload_n hx hb dJ_init_96 rfl (lv_at hl 0 rfl) ?_
      refine lv_iconst (v := 0) hx hb dJ_init_97 (by decide) ?_
      refine p_J_J_54 (x := 0) hx hb hE hm fw13 (by simp) dJ_init_98 (fun H locs hm => ?_)
      obtain ⟨w14, hhw14⟩ : ∃ z : Wd, z = wset w13 (a) (.inr (0, [.int (nb), .int (s0), .int (0), .int (0), va_rf (none), .int (t0), va_rf (er), .ref (q8), .int ((-1)), .int (0), .int (0), .int (0)])) := ⟨_, rfl⟩
      have hm : mS B D CLS s.heap w14 H locs := by rw [hhw14]; exact hm
      have hw14 : w14 = wset (wset (w) (q8) (.inl (cI, 50, .inl (fun _ => -2)))) (a) (.inr (0, [.int (nb), .int (s0), .int (0), .int (0), va_rf (none), .int (t0), va_rf (er), .ref (q8), .int ((-1)), .int (0), .int (0), .int (0)])) := by rw [hhw14, hw13]; funext z; by_cases hz : z = a <;> simp [wset, hz]
      have fw14 : w14 (a) = some (.inr (0, [.int (nb), .int (s0), .int (0), .int (0), va_rf (none), .int (t0), va_rf (er), .ref (q8), .int ((-1)), .int (0), .int (0), .int (0)])) := by rw [hhw14]; exact wset_at _ _ _
      have fw14_1 := (show w14 (q8) = w13 (q8) by rw [hhw14]; exact wset_ne (Ne.symm nq8_0)).trans fw13_1
      exact mretv hx hb hr hlk hm ⟨q8, hfq8, by rw [hw14]; simp [bI, va_rf, c_35]⟩ dJ_init_101
    · refine lv_iconst (v := 1) hx hb dJ_init_38 (by decide) ?_
      refine lv_goto (tgt := 43) hx hb dJ_init_39 (by decide) ?_
      refine p_J_J_21 (x := 1) hx hb hE hm fw3 hnm (by simp) (by decide) dJ_init_43 (fun H locs hm => ?_)
      obtain ⟨w15, hhw15⟩ : ∃ z : Wd, z = wset w3 (a) (.inr (0, [.int (nb), .int (s0), .int (0), .int (1), va_rf (none), .int (0), va_rf (none), va_rf (none), .int (0), .int (0), .int (0), .int (0)])) := ⟨_, rfl⟩
      have hm : mS B D CLS s.heap w15 H locs := by rw [hhw15]; exact hm
      have hw15 : w15 = wset (w) (a) (.inr (0, [.int (nb), .int (s0), .int (0), .int (1), va_rf (none), .int (0), va_rf (none), va_rf (none), .int (0), .int (0), .int (0), .int (0)])) := by rw [hhw15, hw3]; funext z; by_cases hz : z = a <;> simp [wset, hz]
      have fw15 : w15 (a) = some (.inr (0, [.int (nb), .int (s0), .int (0), .int (1), va_rf (none), .int (0), va_rf (none), va_rf (none), .int (0), .int (0), .int (0), .int (0)])) := by rw [hhw15]; exact wset_at _ _ _
      refine lv_aload_n hx hb dJ_init_46 rfl (lv_at hl 0 rfl) ?_
      refine lv_aloadN hx hb dJ_init_47 (lv_at hl 4 rfl) ?_
      refine p_J_J_25 (r := none) hx hb hE hm fw15 hnm (by simp) dJ_init_49 (fun H locs hm => ?_)
      obtain ⟨w16, hhw16⟩ : ∃ z : Wd, z = wset w15 (a) (.inr (0, [.int (nb), .int (s0), .int (0), .int (1), va_rf (none), .int (0), va_rf (none), va_rf (none), .int (0), .int (0), .int (0), .int (0)])) := ⟨_, rfl⟩
      have hm : mS B D CLS s.heap w16 H locs := by rw [hhw16]; exact hm
      have hw16 : w16 = wset (w) (a) (.inr (0, [.int (nb), .int (s0), .int (0), .int (1), va_rf (none), .int (0), va_rf (none), va_rf (none), .int (0), .int (0), .int (0), .int (0)])) := by rw [hhw16, hw15]; funext z; by_cases hz : z = a <;> simp [wset, hz]
      have fw16 : w16 (a) = some (.inr (0, [.int (nb), .int (s0), .int (0), .int (1), va_rf (none), .int (0), va_rf (none), va_rf (none), .int (0), .int (0), .int (0), .int (0)])) := by rw [hhw16]; exact wset_at _ _ _
      refine lv_aload_n hx hb dJ_init_52 rfl (lv_at hl 0 rfl) ?_
      refine lv_iload hx hb dJ_init_53 (lv_at hl 5 rfl) ?_
      refine p_J_J_29 (x := t0) hx hb hE hm fw16 hnm (by simp) dJ_init_55 (fun H locs hm => ?_)
      obtain ⟨w17, hhw17⟩ : ∃ z : Wd, z = wset w16 (a) (.inr (0, [.int (nb), .int (s0), .int (0), .int (1), va_rf (none), .int (t0), va_rf (none), va_rf (none), .int (0), .int (0), .int (0), .int (0)])) := ⟨_, rfl⟩
      have hm : mS B D CLS s.heap w17 H locs := by rw [hhw17]; exact hm
      have hw17 : w17 = wset (w) (a) (.inr (0, [.int (nb), .int (s0), .int (0), .int (1), va_rf (none), .int (t0), va_rf (none), va_rf (none), .int (0), .int (0), .int (0), .int (0)])) := by rw [hhw17, hw16]; funext z; by_cases hz : z = a <;> simp [wset, hz]
      have fw17 : w17 (a) = some (.inr (0, [.int (nb), .int (s0), .int (0), .int (1), va_rf (none), .int (t0), va_rf (none), va_rf (none), .int (0), .int (0), .int (0), .int (0)])) := by rw [hhw17]; exact wset_at _ _ _
      refine lv_aload_n hx hb dJ_init_58 rfl (lv_at hl 0 rfl) ?_
      refine mloadR2 hx hb dJ_init_59 (lv_at hl 6 rfl) ?_
      refine p_J_J_32 (r := er) hx hb hE hm fw17 hnm (by simp) dJ_init_61 (fun H locs hm => ?_)
      obtain ⟨w18, hhw18⟩ : ∃ z : Wd, z = wset w17 (a) (.inr (0, [.int (nb), .int (s0), .int (0), .int (1), va_rf (none), .int (t0), va_rf (er), va_rf (none), .int (0), .int (0), .int (0), .int (0)])) := ⟨_, rfl⟩
      have hm : mS B D CLS s.heap w18 H locs := by rw [hhw18]; exact hm
      have hw18 : w18 = wset (w) (a) (.inr (0, [.int (nb), .int (s0), .int (0), .int (1), va_rf (none), .int (t0), va_rf (er), va_rf (none), .int (0), .int (0), .int (0), .int (0)])) := by rw [hhw18, hw17]; funext z; by_cases hz : z = a <;> simp [wset, hz]
      have fw18 : w18 (a) = some (.inr (0, [.int (nb), .int (s0), .int (0), .int (1), va_rf (none), .int (t0), va_rf (er), va_rf (none), .int (0), .int (0), .int (0), .int (0)])) := by rw [hhw18]; exact wset_at _ _ _
      refine lv_aload_n hx hb dJ_init_64 rfl (lv_at hl 0 rfl) ?_
      refine lv_bipush (v := 50) hx hb dJ_init_65 (by decide) ?_
      refine mnewa (atype := .int) (cI := cI) (ty := .int) (N' := 50) (a0 := (50, .inl (fun _ => 0))) hx hb (hE.2.1 _ (List.mem_cons_of_mem _ q_107)) rfl hE.2.2.1 hm 0 rfl (fun C h => by cases h) (fun _ => rfl) (by decide) (by decide) (by decide) (Nat.le_of_ble_eq_true rfl) (Nat.le_of_ble_eq_true rfl) dJ_init_67 (fun q19 H hq19 hm => ?_)
      have hfq19 : w q19 = none := by have h := hq19; rw [hw18] at h; exact (wset_none h).1
      have nq19_0 : a ≠ q19 := fun e => by have h := fw18; rw [e, hq19] at h; cases h
      obtain ⟨w19, hhw19⟩ : ∃ z : Wd, z = wset w18 (q19) (.inl (cI, 50, .inl (fun _ => 0))) := ⟨_, rfl⟩
      have hm : mS B D CLS s.heap w19 H locs := by rw [hhw19]; exact hm
      have hw19 : w19 = wset (wset (w) (a) (.inr (0, [.int (nb), .int (s0), .int (0), .int (1), va_rf (none), .int (t0), va_rf (er), va_rf (none), .int (0), .int (0), .int (0), .int (0)]))) (q19) (.inl (cI, 50, .inl (fun _ => 0))) := by rw [hhw19, hw18]
      have fw19 : w19 (q19) = some (.inl (cI, 50, .inl (fun _ => 0))) := by rw [hhw19]; exact wset_at _ _ _
      have fw19_1 := (show w19 (a) = w18 (a) by rw [hhw19]; exact wset_ne nq19_0).trans fw18
      refine p_J_J_35 (r := some (q19)) hx hb hE hm fw19_1 hnm (by simp) dJ_init_69 (fun H locs hm => ?_)
      obtain ⟨w20, hhw20⟩ : ∃ z : Wd, z = wset w19 (a) (.inr (0, [.int (nb), .int (s0), .int (0), .int (1), va_rf (none), .int (t0), va_rf (er), .ref (q19), .int (0), .int (0), .int (0), .int (0)])) := ⟨_, rfl⟩
      have hm : mS B D CLS s.heap w20 H locs := by rw [hhw20]; exact hm
      have hw20 : w20 = wset (wset (w) (q19) (.inl (cI, 50, .inl (fun _ => 0)))) (a) (.inr (0, [.int (nb), .int (s0), .int (0), .int (1), va_rf (none), .int (t0), va_rf (er), .ref (q19), .int (0), .int (0), .int (0), .int (0)])) := by rw [hhw20, hw19]; funext z; by_cases hz : z = a <;> simp [wset, hz]
      have fw20 : w20 (a) = some (.inr (0, [.int (nb), .int (s0), .int (0), .int (1), va_rf (none), .int (t0), va_rf (er), .ref (q19), .int (0), .int (0), .int (0), .int (0)])) := by rw [hhw20]; exact wset_at _ _ _
      have fw20_1 := (show w20 (q19) = w19 (q19) by rw [hhw20]; exact wset_ne (Ne.symm nq19_0)).trans fw19
      refine lv_aload_n hx hb dJ_init_72 rfl (lv_at hl 0 rfl) ?_
      refine g_J_J_35 (v := .ref (q19)) hx hb hE hm fw20 rfl dJ_init_73 ?_
      refine lv_bipush (v := (-2)) hx hb dJ_init_76 (by decide) ?_
      refine mcallv (mcS (n := 2) (As := [.ref (q19), .int ((-2))]) (rest := []) hx hb hml hE (kF_fill l B D cI cZ cL w20 (q19) (-2) 50 ((fun _ => 0)) (by decide) fw20_1) q_55 q_56 q_8 q_57 rfl rfl (by decide +kernel) ⟨Nat.le_of_ble_eq_true rfl, Nat.le_of_ble_eq_true rfl⟩ rfl hl.1 hm rfl (Nat.le_of_ble_eq_true rfl) dJ_init_78 ⟨Nat.le_of_ble_eq_true rfl, Nat.le_of_ble_eq_true rfl⟩) hm (fun u21 H locs hp21 hm => ?_)
      rw [hp21] at hm
      obtain ⟨w21, hhw21⟩ : ∃ z : Wd, z = wset w20 (q19) (.inl (cI, 50, .inl (fun _ => -2))) := ⟨_, rfl⟩
      have hm : mS B D CLS s.heap w21 H locs := by rw [hhw21]; exact hm
      have hw21 : w21 = wset (wset (w) (a) (.inr (0, [.int (nb), .int (s0), .int (0), .int (1), va_rf (none), .int (t0), va_rf (er), .ref (q19), .int (0), .int (0), .int (0), .int (0)]))) (q19) (.inl (cI, 50, .inl (fun _ => -2))) := by rw [hhw21, hw20]; funext z; by_cases hz : z = q19 <;> simp [wset, hz]
      have fw21 : w21 (q19) = some (.inl (cI, 50, .inl (fun _ => -2))) := by rw [hhw21]; exact wset_at _ _ _
      have fw21_1 := (show w21 (a) = w20 (a) by rw [hhw21]; exact wset_ne nq19_0).trans fw20
      refine lv_aload_n hx hb dJ_init_81 rfl (lv_at hl 0 rfl) ?_
      refine lv_iconst (v := (-1)) hx hb dJ_init_82 (by decide) ?_
      refine p_J_J_45 (x := (-1)) hx hb hE hm fw21_1 (by simp) dJ_init_83 (fun H locs hm => ?_)
      obtain ⟨w22, hhw22⟩ : ∃ z : Wd, z = wset w21 (a) (.inr (0, [.int (nb), .int (s0), .int (0), .int (1), va_rf (none), .int (t0), va_rf (er), .ref (q19), .int ((-1)), .int (0), .int (0), .int (0)])) := ⟨_, rfl⟩
      have hm : mS B D CLS s.heap w22 H locs := by rw [hhw22]; exact hm
      have hw22 : w22 = wset (wset (w) (q19) (.inl (cI, 50, .inl (fun _ => -2)))) (a) (.inr (0, [.int (nb), .int (s0), .int (0), .int (1), va_rf (none), .int (t0), va_rf (er), .ref (q19), .int ((-1)), .int (0), .int (0), .int (0)])) := by rw [hhw22, hw21]; funext z; by_cases hz : z = a <;> simp [wset, hz]
      have fw22 : w22 (a) = some (.inr (0, [.int (nb), .int (s0), .int (0), .int (1), va_rf (none), .int (t0), va_rf (er), .ref (q19), .int ((-1)), .int (0), .int (0), .int (0)])) := by rw [hhw22]; exact wset_at _ _ _
      have fw22_1 := (show w22 (q19) = w21 (q19) by rw [hhw22]; exact wset_ne (Ne.symm nq19_0)).trans fw21
      refine lv_aload_n hx hb dJ_init_86 rfl (lv_at hl 0 rfl) ?_
      refine lv_iconst (v := 0) hx hb dJ_init_87 (by decide) ?_
      refine p_J_J_48 (x := 0) hx hb hE hm fw22 (by simp) dJ_init_88 (fun H locs hm => ?_)
      obtain ⟨w23, hhw23⟩ : ∃ z : Wd, z = wset w22 (a) (.inr (0, [.int (nb), .int (s0), .int (0), .int (1), va_rf (none), .int (t0), va_rf (er), .ref (q19), .int ((-1)), .int (0), .int (0), .int (0)])) := ⟨_, rfl⟩
      have hm : mS B D CLS s.heap w23 H locs := by rw [hhw23]; exact hm
      have hw23 : w23 = wset (wset (w) (q19) (.inl (cI, 50, .inl (fun _ => -2)))) (a) (.inr (0, [.int (nb), .int (s0), .int (0), .int (1), va_rf (none), .int (t0), va_rf (er), .ref (q19), .int ((-1)), .int (0), .int (0), .int (0)])) := by rw [hhw23, hw22]; funext z; by_cases hz : z = a <;> simp [wset, hz]
      have fw23 : w23 (a) = some (.inr (0, [.int (nb), .int (s0), .int (0), .int (1), va_rf (none), .int (t0), va_rf (er), .ref (q19), .int ((-1)), .int (0), .int (0), .int (0)])) := by rw [hhw23]; exact wset_at _ _ _
      have fw23_1 := (show w23 (q19) = w22 (q19) by rw [hhw23]; exact wset_ne (Ne.symm nq19_0)).trans fw22_1
      refine lv_aload_n hx hb dJ_init_91 rfl (lv_at hl 0 rfl) ?_
      refine lv_iconst (v := 0) hx hb dJ_init_92 (by decide) ?_
      refine p_J_J_51 (x := 0) hx hb hE hm fw23 (by simp) (by decide) dJ_init_93 (fun H locs hm => ?_)
      obtain ⟨w24, hhw24⟩ : ∃ z : Wd, z = wset w23 (a) (.inr (0, [.int (nb), .int (s0), .int (0), .int (1), va_rf (none), .int (t0), va_rf (er), .ref (q19), .int ((-1)), .int (0), .int (0), .int (0)])) := ⟨_, rfl⟩
      have hm : mS B D CLS s.heap w24 H locs := by rw [hhw24]; exact hm
      have hw24 : w24 = wset (wset (w) (q19) (.inl (cI, 50, .inl (fun _ => -2)))) (a) (.inr (0, [.int (nb), .int (s0), .int (0), .int (1), va_rf (none), .int (t0), va_rf (er), .ref (q19), .int ((-1)), .int (0), .int (0), .int (0)])) := by rw [hhw24, hw23]; funext z; by_cases hz : z = a <;> simp [wset, hz]
      have fw24 : w24 (a) = some (.inr (0, [.int (nb), .int (s0), .int (0), .int (1), va_rf (none), .int (t0), va_rf (er), .ref (q19), .int ((-1)), .int (0), .int (0), .int (0)])) := by rw [hhw24]; exact wset_at _ _ _
      have fw24_1 := (show w24 (q19) = w23 (q19) by rw [hhw24]; exact wset_ne (Ne.symm nq19_0)).trans fw23_1
      refine lv_aload_n hx hb dJ_init_96 rfl (lv_at hl 0 rfl) ?_
      refine lv_iconst (v := 0) hx hb dJ_init_97 (by decide) ?_
      refine p_J_J_54 (x := 0) hx hb hE hm fw24 (by simp) dJ_init_98 (fun H locs hm => ?_)
      obtain ⟨w25, hhw25⟩ : ∃ z : Wd, z = wset w24 (a) (.inr (0, [.int (nb), .int (s0), .int (0), .int (1), va_rf (none), .int (t0), va_rf (er), .ref (q19), .int ((-1)), .int (0), .int (0), .int (0)])) := ⟨_, rfl⟩
      have hm : mS B D CLS s.heap w25 H locs := by rw [hhw25]; exact hm
      have hw25 : w25 = wset (wset (w) (q19) (.inl (cI, 50, .inl (fun _ => -2)))) (a) (.inr (0, [.int (nb), .int (s0), .int (0), .int (1), va_rf (none), .int (t0), va_rf (er), .ref (q19), .int ((-1)), .int (0), .int (0), .int (0)])) := by rw [hhw25, hw24]; funext z; by_cases hz : z = a <;> simp [wset, hz]
      have fw25 : w25 (a) = some (.inr (0, [.int (nb), .int (s0), .int (0), .int (1), va_rf (none), .int (t0), va_rf (er), .ref (q19), .int ((-1)), .int (0), .int (0), .int (0)])) := by rw [hhw25]; exact wset_at _ _ _
      have fw25_1 := (show w25 (q19) = w24 (q19) by rw [hhw25]; exact wset_ne (Ne.symm nq19_0)).trans fw24_1
      exact mretv hx hb hr hlk hm ⟨q19, hfq19, by rw [hw25]; simp [bI, va_rf, c_35]⟩ dJ_init_101
  | some b1 =>
    refine mMet (by decide) rfl (by simp [lg_sl, rf_cat, int_cat, ref_cat]) ?_
    intro p e s m below meth c ls hx hb hml hr hlk hnm hown hts hK hN hm hl
    have hE : ME "ChainPicker$Job" (.code yJ_init cJ_init 7 none) _ s m D (TYS cI cZ cL) := ⟨hown, hts, hK, hN⟩
    have hl : lv_has ls 7 [(0, .ref (a)), (1, .int (nb)), (2, .int (s0)), (3, .int (l0)), (4, va_rf (some b1)), (5, .int (t0)), (6, va_rf (er))] := by simpa [lv_args, rf_cat, int_cat, ref_cat] using hl
    have hl : lv_has ls 7 [(0, .ref (a)), (1, .int (nb)), (2, .int (s0)), (3, .int (l0)), (4, .ref (b1)), (5, .int (t0)), (6, va_rf (er))] := hl
    refine lv_aload_n hx hb dJ_init_0 rfl (lv_at hl 0 rfl) ?_
    refine W.objInit hx hb hE.1 (hE.2.1 _ (List.mem_cons_of_mem _ q_54)) (hE.2.1 _ (List.mem_cons_of_mem _ q_16)) (hE.2.1 _ (List.mem_cons_of_mem _ q_17)) rfl (by rw [hml]; exact hl.1) rfl dJ_init_1 (Nat.le_of_ble_eq_true rfl) (Nat.le_of_ble_eq_true rfl) ?_
    refine W.eq (g2 := F0 m 4 ls []) rfl ?_
    refine lv_aload_n hx hb dJ_init_4 rfl (lv_at hl 0 rfl) ?_
    refine lv_iload_n hx hb dJ_init_5 rfl (lv_at hl 1 rfl) ?_
    refine p_J_J_9 (x := nb) hx hb hE hm ha hnm (by simp) dJ_init_6 (fun H locs hm => ?_)
    obtain ⟨w1, hhw1⟩ : ∃ z : Wd, z = wset w (a) (.inr (0, [.int (nb), .int (0), .int (0), .int (0), va_rf (none), .int (0), va_rf (none), va_rf (none), .int (0), .int (0), .int (0), .int (0)])) := ⟨_, rfl⟩
    have hm : mS B D CLS s.heap w1 H locs := by rw [hhw1]; exact hm
    have hw1 : w1 = wset (w) (a) (.inr (0, [.int (nb), .int (0), .int (0), .int (0), va_rf (none), .int (0), va_rf (none), va_rf (none), .int (0), .int (0), .int (0), .int (0)])) := by rw [hhw1]
    have fw1 : w1 (a) = some (.inr (0, [.int (nb), .int (0), .int (0), .int (0), va_rf (none), .int (0), va_rf (none), va_rf (none), .int (0), .int (0), .int (0), .int (0)])) := by rw [hhw1]; exact wset_at _ _ _
    refine lv_aload_n hx hb dJ_init_9 rfl (lv_at hl 0 rfl) ?_
    refine lv_iload_n hx hb dJ_init_10 rfl (lv_at hl 2 rfl) ?_
    refine p_J_J_15 (x := s0) hx hb hE hm fw1 hnm (by simp) dJ_init_11 (fun H locs hm => ?_)
    obtain ⟨w2, hhw2⟩ : ∃ z : Wd, z = wset w1 (a) (.inr (0, [.int (nb), .int (s0), .int (0), .int (0), va_rf (none), .int (0), va_rf (none), va_rf (none), .int (0), .int (0), .int (0), .int (0)])) := ⟨_, rfl⟩
    have hm : mS B D CLS s.heap w2 H locs := by rw [hhw2]; exact hm
    have hw2 : w2 = wset (w) (a) (.inr (0, [.int (nb), .int (s0), .int (0), .int (0), va_rf (none), .int (0), va_rf (none), va_rf (none), .int (0), .int (0), .int (0), .int (0)])) := by rw [hhw2, hw1]; funext z; by_cases hz : z = a <;> simp [wset, hz]
    have fw2 : w2 (a) = some (.inr (0, [.int (nb), .int (s0), .int (0), .int (0), va_rf (none), .int (0), va_rf (none), va_rf (none), .int (0), .int (0), .int (0), .int (0)])) := by rw [hhw2]; exact wset_at _ _ _
    refine lv_aload_n hx hb dJ_init_14 rfl (lv_at hl 0 rfl) ?_
    refine lv_aload hx hb dJ_init_15 (lv_at hl 4 rfl) ?_
    refine lv_ifnonnull (tgt := 24) hx hb dJ_init_17 (by decide) ?_
    refine lv_iload_n hx hb dJ_init_24 rfl (lv_at hl 3 rfl) ?_
    refine p_J_J_18 (x := l0) hx hb hE hm fw2 hnm (by simp) dJ_init_25 (fun H locs hm => ?_)
    obtain ⟨w3, hhw3⟩ : ∃ z : Wd, z = wset w2 (a) (.inr (0, [.int (nb), .int (s0), .int (l0), .int (0), va_rf (none), .int (0), va_rf (none), va_rf (none), .int (0), .int (0), .int (0), .int (0)])) := ⟨_, rfl⟩
    have hm : mS B D CLS s.heap w3 H locs := by rw [hhw3]; exact hm
    have hw3 : w3 = wset (w) (a) (.inr (0, [.int (nb), .int (s0), .int (l0), .int (0), va_rf (none), .int (0), va_rf (none), va_rf (none), .int (0), .int (0), .int (0), .int (0)])) := by rw [hhw3, hw2]; funext z; by_cases hz : z = a <;> simp [wset, hz]
    have fw3 : w3 (a) = some (.inr (0, [.int (nb), .int (s0), .int (l0), .int (0), va_rf (none), .int (0), va_rf (none), va_rf (none), .int (0), .int (0), .int (0), .int (0)])) := by rw [hhw3]; exact wset_at _ _ _
    refine lv_aload_n hx hb dJ_init_28 rfl (lv_at hl 0 rfl) ?_
    refine lv_aload hx hb dJ_init_29 (lv_at hl 4 rfl) ?_
    refine lv_ifnonnull (tgt := 42) hx hb dJ_init_31 (by decide) ?_
    refine lv_iconst (v := 0) hx hb dJ_init_42 (by decide) ?_
    refine p_J_J_21 (x := 0) hx hb hE hm fw3 hnm (by simp) (by decide) dJ_init_43 (fun H locs hm => ?_)
    obtain ⟨w4, hhw4⟩ : ∃ z : Wd, z = wset w3 (a) (.inr (0, [.int (nb), .int (s0), .int (l0), .int (0), va_rf (none), .int (0), va_rf (none), va_rf (none), .int (0), .int (0), .int (0), .int (0)])) := ⟨_, rfl⟩
    have hm : mS B D CLS s.heap w4 H locs := by rw [hhw4]; exact hm
    have hw4 : w4 = wset (w) (a) (.inr (0, [.int (nb), .int (s0), .int (l0), .int (0), va_rf (none), .int (0), va_rf (none), va_rf (none), .int (0), .int (0), .int (0), .int (0)])) := by rw [hhw4, hw3]; funext z; by_cases hz : z = a <;> simp [wset, hz]
    have fw4 : w4 (a) = some (.inr (0, [.int (nb), .int (s0), .int (l0), .int (0), va_rf (none), .int (0), va_rf (none), va_rf (none), .int (0), .int (0), .int (0), .int (0)])) := by rw [hhw4]; exact wset_at _ _ _
    refine lv_aload_n hx hb dJ_init_46 rfl (lv_at hl 0 rfl) ?_
    refine lv_aload hx hb dJ_init_47 (lv_at hl 4 rfl) ?_
    refine p_J_J_25 (r := some (b1)) hx hb hE hm fw4 hnm (by simp) dJ_init_49 (fun H locs hm => ?_)
    obtain ⟨w5, hhw5⟩ : ∃ z : Wd, z = wset w4 (a) (.inr (0, [.int (nb), .int (s0), .int (l0), .int (0), .ref (b1), .int (0), va_rf (none), va_rf (none), .int (0), .int (0), .int (0), .int (0)])) := ⟨_, rfl⟩
    have hm : mS B D CLS s.heap w5 H locs := by rw [hhw5]; exact hm
    have hw5 : w5 = wset (w) (a) (.inr (0, [.int (nb), .int (s0), .int (l0), .int (0), .ref (b1), .int (0), va_rf (none), va_rf (none), .int (0), .int (0), .int (0), .int (0)])) := by rw [hhw5, hw4]; funext z; by_cases hz : z = a <;> simp [wset, hz]
    have fw5 : w5 (a) = some (.inr (0, [.int (nb), .int (s0), .int (l0), .int (0), .ref (b1), .int (0), va_rf (none), va_rf (none), .int (0), .int (0), .int (0), .int (0)])) := by rw [hhw5]; exact wset_at _ _ _
    refine lv_aload_n hx hb dJ_init_52 rfl (lv_at hl 0 rfl) ?_
    refine lv_iload hx hb dJ_init_53 (lv_at hl 5 rfl) ?_
    refine p_J_J_29 (x := t0) hx hb hE hm fw5 hnm (by simp) dJ_init_55 (fun H locs hm => ?_)
    obtain ⟨w6, hhw6⟩ : ∃ z : Wd, z = wset w5 (a) (.inr (0, [.int (nb), .int (s0), .int (l0), .int (0), .ref (b1), .int (t0), va_rf (none), va_rf (none), .int (0), .int (0), .int (0), .int (0)])) := ⟨_, rfl⟩
    have hm : mS B D CLS s.heap w6 H locs := by rw [hhw6]; exact hm
    have hw6 : w6 = wset (w) (a) (.inr (0, [.int (nb), .int (s0), .int (l0), .int (0), .ref (b1), .int (t0), va_rf (none), va_rf (none), .int (0), .int (0), .int (0), .int (0)])) := by rw [hhw6, hw5]; funext z; by_cases hz : z = a <;> simp [wset, hz]
    have fw6 : w6 (a) = some (.inr (0, [.int (nb), .int (s0), .int (l0), .int (0), .ref (b1), .int (t0), va_rf (none), va_rf (none), .int (0), .int (0), .int (0), .int (0)])) := by rw [hhw6]; exact wset_at _ _ _
    refine lv_aload_n hx hb dJ_init_58 rfl (lv_at hl 0 rfl) ?_
    refine mloadR2 hx hb dJ_init_59 (lv_at hl 6 rfl) ?_
    refine p_J_J_32 (r := er) hx hb hE hm fw6 hnm (by simp) dJ_init_61 (fun H locs hm => ?_)
    obtain ⟨w7, hhw7⟩ : ∃ z : Wd, z = wset w6 (a) (.inr (0, [.int (nb), .int (s0), .int (l0), .int (0), .ref (b1), .int (t0), va_rf (er), va_rf (none), .int (0), .int (0), .int (0), .int (0)])) := ⟨_, rfl⟩
    have hm : mS B D CLS s.heap w7 H locs := by rw [hhw7]; exact hm
    have hw7 : w7 = wset (w) (a) (.inr (0, [.int (nb), .int (s0), .int (l0), .int (0), .ref (b1), .int (t0), va_rf (er), va_rf (none), .int (0), .int (0), .int (0), .int (0)])) := by rw [hhw7, hw6]; funext z; by_cases hz : z = a <;> simp [wset, hz]
    have fw7 : w7 (a) = some (.inr (0, [.int (nb), .int (s0), .int (l0), .int (0), .ref (b1), .int (t0), va_rf (er), va_rf (none), .int (0), .int (0), .int (0), .int (0)])) := by rw [hhw7]; exact wset_at _ _ _
    refine lv_aload_n hx hb dJ_init_64 rfl (lv_at hl 0 rfl) ?_
    refine lv_bipush (v := 50) hx hb dJ_init_65 (by decide) ?_
    refine mnewa (atype := .int) (cI := cI) (ty := .int) (N' := 50) (a0 := (50, .inl (fun _ => 0))) hx hb (hE.2.1 _ (List.mem_cons_of_mem _ q_107)) rfl hE.2.2.1 hm 0 rfl (fun C h => by cases h) (fun _ => rfl) (by decide) (by decide) (by decide) (Nat.le_of_ble_eq_true rfl) (Nat.le_of_ble_eq_true rfl) dJ_init_67 (fun q8 H hq8 hm => ?_)
    have hfq8 : w q8 = none := by have h := hq8; rw [hw7] at h; exact (wset_none h).1
    have nq8_0 : a ≠ q8 := fun e => by have h := fw7; rw [e, hq8] at h; cases h
    obtain ⟨w8, hhw8⟩ : ∃ z : Wd, z = wset w7 (q8) (.inl (cI, 50, .inl (fun _ => 0))) := ⟨_, rfl⟩
    have hm : mS B D CLS s.heap w8 H locs := by rw [hhw8]; exact hm
    have hw8 : w8 = wset (wset (w) (a) (.inr (0, [.int (nb), .int (s0), .int (l0), .int (0), .ref (b1), .int (t0), va_rf (er), va_rf (none), .int (0), .int (0), .int (0), .int (0)]))) (q8) (.inl (cI, 50, .inl (fun _ => 0))) := by rw [hhw8, hw7]
    have fw8 : w8 (q8) = some (.inl (cI, 50, .inl (fun _ => 0))) := by rw [hhw8]; exact wset_at _ _ _
    have fw8_1 := (show w8 (a) = w7 (a) by rw [hhw8]; exact wset_ne nq8_0).trans fw7
    refine p_J_J_35 (r := some (q8)) hx hb hE hm fw8_1 hnm (by simp) dJ_init_69 (fun H locs hm => ?_)
    obtain ⟨w9, hhw9⟩ : ∃ z : Wd, z = wset w8 (a) (.inr (0, [.int (nb), .int (s0), .int (l0), .int (0), .ref (b1), .int (t0), va_rf (er), .ref (q8), .int (0), .int (0), .int (0), .int (0)])) := ⟨_, rfl⟩
    have hm : mS B D CLS s.heap w9 H locs := by rw [hhw9]; exact hm
    have hw9 : w9 = wset (wset (w) (q8) (.inl (cI, 50, .inl (fun _ => 0)))) (a) (.inr (0, [.int (nb), .int (s0), .int (l0), .int (0), .ref (b1), .int (t0), va_rf (er), .ref (q8), .int (0), .int (0), .int (0), .int (0)])) := by rw [hhw9, hw8]; funext z; by_cases hz : z = a <;> simp [wset, hz]
    have fw9 : w9 (a) = some (.inr (0, [.int (nb), .int (s0), .int (l0), .int (0), .ref (b1), .int (t0), va_rf (er), .ref (q8), .int (0), .int (0), .int (0), .int (0)])) := by rw [hhw9]; exact wset_at _ _ _
    have fw9_1 := (show w9 (q8) = w8 (q8) by rw [hhw9]; exact wset_ne (Ne.symm nq8_0)).trans fw8
    refine lv_aload_n hx hb dJ_init_72 rfl (lv_at hl 0 rfl) ?_
    refine g_J_J_35 (v := .ref (q8)) hx hb hE hm fw9 rfl dJ_init_73 ?_
    refine lv_bipush (v := (-2)) hx hb dJ_init_76 (by decide) ?_
    refine mcallv (mcS (n := 2) (As := [.ref (q8), .int ((-2))]) (rest := []) hx hb hml hE (kF_fill l B D cI cZ cL w9 (q8) (-2) 50 ((fun _ => 0)) (by decide) fw9_1) q_55 q_56 q_8 q_57 rfl rfl (by decide +kernel) ⟨Nat.le_of_ble_eq_true rfl, Nat.le_of_ble_eq_true rfl⟩ rfl hl.1 hm rfl (Nat.le_of_ble_eq_true rfl) dJ_init_78 ⟨Nat.le_of_ble_eq_true rfl, Nat.le_of_ble_eq_true rfl⟩) hm (fun u10 H locs hp10 hm => ?_)
    rw [hp10] at hm
    obtain ⟨w10, hhw10⟩ : ∃ z : Wd, z = wset w9 (q8) (.inl (cI, 50, .inl (fun _ => -2))) := ⟨_, rfl⟩
    have hm : mS B D CLS s.heap w10 H locs := by rw [hhw10]; exact hm
    have hw10 : w10 = wset (wset (w) (a) (.inr (0, [.int (nb), .int (s0), .int (l0), .int (0), .ref (b1), .int (t0), va_rf (er), .ref (q8), .int (0), .int (0), .int (0), .int (0)]))) (q8) (.inl (cI, 50, .inl (fun _ => -2))) := by rw [hhw10, hw9]; funext z; by_cases hz : z = q8 <;> simp [wset, hz]
    have fw10 : w10 (q8) = some (.inl (cI, 50, .inl (fun _ => -2))) := by rw [hhw10]; exact wset_at _ _ _
    have fw10_1 := (show w10 (a) = w9 (a) by rw [hhw10]; exact wset_ne nq8_0).trans fw9
    refine lv_aload_n hx hb dJ_init_81 rfl (lv_at hl 0 rfl) ?_
    refine lv_iconst (v := (-1)) hx hb dJ_init_82 (by decide) ?_
    refine p_J_J_45 (x := (-1)) hx hb hE hm fw10_1 (by simp) dJ_init_83 (fun H locs hm => ?_)
    obtain ⟨w11, hhw11⟩ : ∃ z : Wd, z = wset w10 (a) (.inr (0, [.int (nb), .int (s0), .int (l0), .int (0), .ref (b1), .int (t0), va_rf (er), .ref (q8), .int ((-1)), .int (0), .int (0), .int (0)])) := ⟨_, rfl⟩
    have hm : mS B D CLS s.heap w11 H locs := by rw [hhw11]; exact hm
    have hw11 : w11 = wset (wset (w) (q8) (.inl (cI, 50, .inl (fun _ => -2)))) (a) (.inr (0, [.int (nb), .int (s0), .int (l0), .int (0), .ref (b1), .int (t0), va_rf (er), .ref (q8), .int ((-1)), .int (0), .int (0), .int (0)])) := by rw [hhw11, hw10]; funext z; by_cases hz : z = a <;> simp [wset, hz]
    have fw11 : w11 (a) = some (.inr (0, [.int (nb), .int (s0), .int (l0), .int (0), .ref (b1), .int (t0), va_rf (er), .ref (q8), .int ((-1)), .int (0), .int (0), .int (0)])) := by rw [hhw11]; exact wset_at _ _ _
    have fw11_1 := (show w11 (q8) = w10 (q8) by rw [hhw11]; exact wset_ne (Ne.symm nq8_0)).trans fw10
    refine lv_aload_n hx hb dJ_init_86 rfl (lv_at hl 0 rfl) ?_
    refine lv_iconst (v := 0) hx hb dJ_init_87 (by decide) ?_
    refine p_J_J_48 (x := 0) hx hb hE hm fw11 (by simp) dJ_init_88 (fun H locs hm => ?_)
    obtain ⟨w12, hhw12⟩ : ∃ z : Wd, z = wset w11 (a) (.inr (0, [.int (nb), .int (s0), .int (l0), .int (0), .ref (b1), .int (t0), va_rf (er), .ref (q8), .int ((-1)), .int (0), .int (0), .int (0)])) := ⟨_, rfl⟩
    have hm : mS B D CLS s.heap w12 H locs := by rw [hhw12]; exact hm
    have hw12 : w12 = wset (wset (w) (q8) (.inl (cI, 50, .inl (fun _ => -2)))) (a) (.inr (0, [.int (nb), .int (s0), .int (l0), .int (0), .ref (b1), .int (t0), va_rf (er), .ref (q8), .int ((-1)), .int (0), .int (0), .int (0)])) := by rw [hhw12, hw11]; funext z; by_cases hz : z = a <;> simp [wset, hz]
    have fw12 : w12 (a) = some (.inr (0, [.int (nb), .int (s0), .int (l0), .int (0), .ref (b1), .int (t0), va_rf (er), .ref (q8), .int ((-1)), .int (0), .int (0), .int (0)])) := by rw [hhw12]; exact wset_at _ _ _
    have fw12_1 := (show w12 (q8) = w11 (q8) by rw [hhw12]; exact wset_ne (Ne.symm nq8_0)).trans fw11_1
    refine lv_aload_n hx hb dJ_init_91 rfl (lv_at hl 0 rfl) ?_
    refine lv_iconst (v := 0) hx hb dJ_init_92 (by decide) ?_
    refine p_J_J_51 (x := 0) hx hb hE hm fw12 (by simp) (by decide) dJ_init_93 (fun H locs hm => ?_)
    obtain ⟨w13, hhw13⟩ : ∃ z : Wd, z = wset w12 (a) (.inr (0, [.int (nb), .int (s0), .int (l0), .int (0), .ref (b1), .int (t0), va_rf (er), .ref (q8), .int ((-1)), .int (0), .int (0), .int (0)])) := ⟨_, rfl⟩
    have hm : mS B D CLS s.heap w13 H locs := by rw [hhw13]; exact hm
    have hw13 : w13 = wset (wset (w) (q8) (.inl (cI, 50, .inl (fun _ => -2)))) (a) (.inr (0, [.int (nb), .int (s0), .int (l0), .int (0), .ref (b1), .int (t0), va_rf (er), .ref (q8), .int ((-1)), .int (0), .int (0), .int (0)])) := by rw [hhw13, hw12]; funext z; by_cases hz : z = a <;> simp [wset, hz]
    have fw13 : w13 (a) = some (.inr (0, [.int (nb), .int (s0), .int (l0), .int (0), .ref (b1), .int (t0), va_rf (er), .ref (q8), .int ((-1)), .int (0), .int (0), .int (0)])) := by rw [hhw13]; exact wset_at _ _ _
    have fw13_1 := (show w13 (q8) = w12 (q8) by rw [hhw13]; exact wset_ne (Ne.symm nq8_0)).trans fw12_1
    refine lv_aload_n hx hb dJ_init_96 rfl (lv_at hl 0 rfl) ?_
    refine lv_iconst (v := 0) hx hb dJ_init_97 (by decide) ?_
    refine p_J_J_54 (x := 0) hx hb hE hm fw13 (by simp) dJ_init_98 (fun H locs hm => ?_)
    obtain ⟨w14, hhw14⟩ : ∃ z : Wd, z = wset w13 (a) (.inr (0, [.int (nb), .int (s0), .int (l0), .int (0), .ref (b1), .int (t0), va_rf (er), .ref (q8), .int ((-1)), .int (0), .int (0), .int (0)])) := ⟨_, rfl⟩
    have hm : mS B D CLS s.heap w14 H locs := by rw [hhw14]; exact hm
    have hw14 : w14 = wset (wset (w) (q8) (.inl (cI, 50, .inl (fun _ => -2)))) (a) (.inr (0, [.int (nb), .int (s0), .int (l0), .int (0), .ref (b1), .int (t0), va_rf (er), .ref (q8), .int ((-1)), .int (0), .int (0), .int (0)])) := by rw [hhw14, hw13]; funext z; by_cases hz : z = a <;> simp [wset, hz]
    have fw14 : w14 (a) = some (.inr (0, [.int (nb), .int (s0), .int (l0), .int (0), .ref (b1), .int (t0), va_rf (er), .ref (q8), .int ((-1)), .int (0), .int (0), .int (0)])) := by rw [hhw14]; exact wset_at _ _ _
    have fw14_1 := (show w14 (q8) = w13 (q8) by rw [hhw14]; exact wset_ne (Ne.symm nq8_0)).trans fw13_1
    exact mretv hx hb hr hlk hm ⟨q8, hfq8, by rw [hw14]; simp [bI, va_rf]⟩ dJ_init_101
set_option maxHeartbeats 4000000 in
set_option maxRecDepth 100000 in
/-- begin -/
theorem kC_begin (l : Launch) (B : Nat) (D : va_G) (cI cZ cL : ClassId) (w : Wd) (o : Nat) (ad va : Nat → Nat) (now : Int32) (n : Nat) (J : Nat → Jr) (hR : cR cI o ad va now n J w) (x v : Int32) : Met l yC_begin (.code yC_begin cC_begin 4 (some .int) :: BIG) { frames := 2, cells := 2, slots := 62, locals := 49 } (va_Pc [.ref (o), .int (x), .int (v)] (mP B D CLS (TYS cI cZ cL) NEST w)) (va_Qi (fun r u => (bgs n J x v = false ∧ r = -1 ∧ u = w) ∨ (bgs n J x v = true ∧ r = nI n ∧ ∃ q1 q2, w q1 = none ∧ w q2 = none ∧ cR cI o (upN ad n q1) (upN va n q2) now (n + 1) (upJ J n (nwJ x v (bOf n J x v) now)) u ∧ ∀ q, ¬ cF o ad va n q → q ≠ q1 → q ≠ q2 → u q = w q)) (mE B D CLS) (fun q => B ≤ q)) 2 62 (fun q => B ≤ q) := by
  refine mMet (by decide) rfl (Nat.le_of_ble_eq_true rfl) ?_
  intro p e s m below meth c ls hx hb hml hr hlk hnm hown hts hK hN hm hl
  have hE : ME "ChainPicker" (.code yC_begin cC_begin 4 (some .int)) _ s m D (TYS cI cZ cL) := ⟨hown, hts, hK, hN⟩
  have hl : lv_has ls 4 [(0, .ref (o)), (1, .int (x)), (2, .int (v))] := hl
  refine lv_iload_n hx hb dC_begin_0 rfl (lv_at hl 1 rfl) ?_
  refine mcalli (mcS (n := 1) (As := [.int (x)]) (rest := []) hx hb hml hE (kC_isSeries l B D cI cZ cL w x) q_32 q_33 q_1 q_34 rfl rfl (by decide +kernel) ⟨Nat.le_of_ble_eq_true rfl, Nat.le_of_ble_eq_true rfl⟩ rfl hl.1 hm rfl (Nat.le_of_ble_eq_true rfl) dC_begin_1 ⟨Nat.le_of_ble_eq_true rfl, Nat.le_of_ble_eq_true rfl⟩) hm (fun r1 u1 H locs hp1 hm => ?_)
  obtain ⟨hr1, hu1⟩ := hp1
  rw [hu1] at hm
  refine lv_if_eq (tgt := 32) hx hb dC_begin_4 (by decide) (fun c_4 => ?_) (fun c_4 => ?_)
  · rw [hr1, bI_0] at c_4
    refine lv_iconst (v := (-1)) hx hb dC_begin_32 (by decide) ?_
    refine W.widen (k := 2) (n := 62) (Nat.le_of_ble_eq_true rfl) (Nat.le_of_ble_eq_true rfl) ?_
    exact mreti hx hb hr hlk hm (Or.inl ⟨by unfold bgs; rw [c_4]; simp, rfl, rfl⟩) dC_begin_33
  · rw [hr1, bI_0] at c_4
    refine lv_iload_n hx hb dC_begin_7 rfl (lv_at hl 2 rfl) ?_
    refine mcalli (mcS (n := 1) (As := [.int (v)]) (rest := []) hx hb hml hE (kC_isLevel l B D cI cZ cL w v) q_35 q_36 q_1 q_37 rfl rfl (by decide +kernel) ⟨Nat.le_of_ble_eq_true rfl, Nat.le_of_ble_eq_true rfl⟩ rfl hl.1 hm rfl (Nat.le_of_ble_eq_true rfl) dC_begin_8 ⟨Nat.le_of_ble_eq_true rfl, Nat.le_of_ble_eq_true rfl⟩) hm (fun r2 u2 H locs hp2 hm => ?_)
    obtain ⟨hr2, hu2⟩ := hp2
    rw [hu2] at hm
    refine lv_if_eq (tgt := 32) hx hb dC_begin_11 (by decide) (fun c_11 => ?_) (fun c_11 => ?_)
    · rw [hr2, bI_0] at c_11
      refine lv_iconst (v := (-1)) hx hb dC_begin_32 (by decide) ?_
      refine W.widen (k := 2) (n := 62) (Nat.le_of_ble_eq_true rfl) (Nat.le_of_ble_eq_true rfl) ?_
      exact mreti hx hb hr hlk hm (Or.inl ⟨by unfold bgs; rw [c_11]; simp, rfl, rfl⟩) dC_begin_33
    · rw [hr2, bI_0] at c_11
      refine lv_aload_n hx hb dC_begin_14 rfl (lv_at hl 0 rfl) ?_
      refine g_C_C_13 (v := .int (nI n)) hx hb hE hm hR.1 rfl dC_begin_15 ?_
      refine lv_sipush (v := 200) hx hb dC_begin_18 (by decide) ?_
      refine lv_icmp_ge (tgt := 32) hx hb dC_begin_21 (by decide) (fun c_21 => ?_) (fun c_21 => ?_)
      · refine lv_iconst (v := (-1)) hx hb dC_begin_32 (by decide) ?_
        refine W.widen (k := 2) (n := 62) (Nat.le_of_ble_eq_true rfl) (Nat.le_of_ble_eq_true rfl) ?_
        exact mreti hx hb hr hlk hm (Or.inl ⟨by have h : ¬ n < 200 := fun h => absurd c_21 (nI_ge (a := n) (b := 200) h (by omega)); unfold bgs; simp [h], rfl, rfl⟩) dC_begin_33
      · refine lv_aload_n hx hb dC_begin_24 rfl (lv_at hl 0 rfl) ?_
        refine lv_iload_n hx hb dC_begin_25 rfl (lv_at hl 1 rfl) ?_
        refine mcalli (mcV (n := 1) (As := [.int (x)]) (rest := []) hx hb hml hE (kC_hasRunning l B D cI cZ cL w o ad va now n J hR x) q_38 q_40 qs_0 q_1 q_41 rfl rfl (by decide +kernel) ⟨Nat.le_of_ble_eq_true rfl, Nat.le_of_ble_eq_true rfl⟩ rfl hl.1 hm rfl hR.1 rfl (Nat.le_of_ble_eq_true rfl) dC_begin_26 ⟨Nat.le_of_ble_eq_true rfl, Nat.le_of_ble_eq_true rfl⟩) hm (fun r3 u3 H locs hp3 hm => ?_)
        obtain ⟨hr3, hu3⟩ := hp3
        rw [hu3] at hm
        refine lv_if_eq (tgt := 34) hx hb dC_begin_29 (by decide) (fun c_29 => ?_) (fun c_29 => ?_)
        · rw [hr3, bI_0] at c_29
          refine lv_aload_n hx hb dC_begin_34 rfl (lv_at hl 0 rfl) ?_
          refine lv_iload_n hx hb dC_begin_35 rfl (lv_at hl 1 rfl) ?_
          refine lv_iload_n hx hb dC_begin_36 rfl (lv_at hl 2 rfl) ?_
          refine mcallq (mcV (n := 2) (As := [.int (x), .int (v)]) (rest := []) hx hb hml hE (kC_findBase l B D cI cZ cL w o ad va now n J hR x v) q_42 q_44 qs_1 q_1 q_45 rfl rfl (by decide +kernel) ⟨Nat.le_of_ble_eq_true rfl, Nat.le_of_ble_eq_true rfl⟩ rfl hl.1 hm rfl hR.1 rfl (Nat.le_of_ble_eq_true rfl) dC_begin_37 ⟨Nat.le_of_ble_eq_true rfl, Nat.le_of_ble_eq_true rfl⟩) hm (fun r4 u4 H locs hp4 hm => ?_)
          obtain ⟨hr4, hu4⟩ := hp4
          rw [hu4] at hm
          have hB : bgs n J x v = true := by
            have h1 : (decide (0 ≤ x) && decide (x < 8)) = true := by simpa using c_4
            have h2 : (decide (0 ≤ v) && decide (v ≤ 2)) = true := by simpa using c_11
            have h3 : n < 200 := nI_lt200 hR.n200 c_21
            unfold bgs; rw [h1, h2, c_29]; simp [h3]
          have h200 : n < 200 := nI_lt200 hR.n200 c_21
          subst hr4
          have hbl := bOf_lt (n := n) (J := J) (s := x) (l := v)
          cases ht : bOf n J x v with
          | none =>
            show W _ _ _ _ _ _ _ _ _ _ _ _ _ _ _ (F0 m 40 ls [.null])
            refine lv_astore_nN (lv' := [(3, .null), (0, .ref (o)), (1, .int (x)), (2, .int (v))]) hx hb dC_begin_40 rfl hl (by decide) rfl (fun ls hl => ?_)
            refine lv_aload_nN hx hb dC_begin_41 rfl (lv_at hl 0 rfl) ?_
            refine lv_ifnullN (tgt := 55) hx hb dC_begin_42 (by decide) ?_
            refine lv_aload_n hx hb dC_begin_55 rfl (lv_at hl 1 rfl) ?_
            refine mnew (C := "ChainPicker$Job") (T := T_J) (N := 12) (ci := 0) (fs := DEFJ) hx hb hE.2.1 (fun w h => List.mem_cons_of_mem _ (i_J w h)) t_J t_J_ok hE.1 (hE.2.1 _ (List.mem_cons_of_mem _ q_49)) (hE.2.1 _ (List.mem_cons_of_mem _ q_50)) (hE.2.1 _ (List.mem_cons_of_mem _ q_7)) hE.2.2.1 hm rfl defJ (Nat.le_of_ble_eq_true rfl) (Nat.le_of_ble_eq_true rfl) dC_begin_56 (fun q5 H hq5 hm => ?_)
            have hfq5 : w q5 = none := by have h := hq5; exact h
            have nq5_0 : o ≠ q5 := fun e => by have h := hR.1; rw [e, hq5] at h; cases h
            obtain ⟨w5, hhw5⟩ : ∃ z : Wd, z = wset w (q5) (.inr (0, DEFJ)) := ⟨_, rfl⟩
            have hm : mS B D CLS s.heap w5 H locs := by rw [hhw5]; exact hm
            have hw5 : w5 = wset (w) (q5) (.inr (0, DEFJ)) := by rw [hhw5]
            have fw5 : w5 (q5) = some (.inr (0, DEFJ)) := by rw [hhw5]; exact wset_at _ _ _
            have fw5_1 := (show w5 (o) = w (o) by rw [hhw5]; exact wset_ne nq5_0).trans hR.1
            refine lv_dup hx hb dC_begin_59 rfl ?_
            refine lv_aload_n hx hb dC_begin_60 rfl (lv_at hl 1 rfl) ?_
            refine g_C_C_13 (v := .int (nI n)) hx hb hE hm fw5_1 rfl dC_begin_61 ?_
            refine lv_iload_n hx hb dC_begin_64 rfl (lv_at hl 2 rfl) ?_
            refine lv_iload_n hx hb dC_begin_65 rfl (lv_at hl 3 rfl) ?_
            refine lv_aload_nN hx hb dC_begin_66 rfl (lv_at hl 0 rfl) ?_
            refine lv_aload_n hx hb dC_begin_67 rfl (lv_at hl 1 rfl) ?_
            refine g_C_C_9 (v := .int (now)) hx hb hE hm fw5_1 rfl dC_begin_68 ?_
            refine lv_aload_n hx hb dC_begin_71 rfl (lv_at hl 1 rfl) ?_
            refine g_C_C_16 (v := va_rf (prv ad n)) hx hb hE hm fw5_1 rfl dC_begin_72 ?_
            refine mcallv (mcIN (n := 6) (host := "ChainPicker") (As := [.int (nI n), .int (x), .int (v), .null, .int (now), va_rf (prv ad n)]) (rest := [.ref (q5), .ref (o)]) hx hb hml hE (kJ_init l B D cI cZ cL w5 q5 (nI n) (x) (v) (none : Option Nat) (now) (prv ad n) fw5) (List.mem_of_getElem? (i := 0) rfl) q_52 q_7 q_53 rfl rfl rfl (by decide +kernel) ⟨Nat.le_of_ble_eq_true rfl, Nat.le_of_ble_eq_true rfl⟩ rfl hl.1 hm rfl (Nat.le_of_ble_eq_true rfl) dC_begin_75 ⟨Nat.le_of_ble_eq_true rfl, Nat.le_of_ble_eq_true rfl⟩) hm (fun u9 H locs hp9 hm => ?_)
            obtain ⟨q2, hq2, hu9⟩ := hp9
            rw [hu9] at hm
            have m_0 : q5 ≠ q2 := fun e => by have h := fw5; rw [e, hq2] at h; cases h
            have m_1 : o ≠ q2 := fun e => by have h := fw5_1; rw [e, hq2] at h; cases h
            have hf2 : w q2 = none := by have h := hq2; rw [hw5] at h; exact (wset_none h).1
            obtain ⟨w6, hhw6⟩ : ∃ z : Wd, z = wset w5 (q2) (.inl (cI, 50, .inl (fun _ => -2))) := ⟨_, rfl⟩
            have hw6 : w6 = wset (wset (w) (q5) (.inr (0, DEFJ))) (q2) (.inl (cI, 50, .inl (fun _ => -2))) := by rw [hhw6, hw5]
            have fw6 : w6 (q2) = some (.inl (cI, 50, .inl (fun _ => -2))) := by rw [hhw6]; exact wset_at _ _ _
            have fw6_1 := (show w6 (q5) = w5 (q5) by rw [hhw6]; exact wset_ne m_0).trans fw5
            have fw6_2 := (show w6 (o) = w5 (o) by rw [hhw6]; exact wset_ne m_1).trans fw5_1
            obtain ⟨w7, hhw7⟩ : ∃ z : Wd, z = wset w6 (q5) (.inr (0, [.int (nI n), .int (x), .int (if (none : Option Nat) = none then 0 else (v)), .int (bI (decide ((none : Option Nat) = none) && decide ((v) ≠ 0))), va_rf ((none : Option Nat)), .int (now), va_rf ((prv ad n)), .ref (q2), .int ((-1)), .int (0), .int (0), .int (0)])) := ⟨_, rfl⟩
            have hm : mS B D CLS s.heap w7 H locs := by rw [hhw7, hhw6]; exact hm
            have hw7 : w7 = wset (wset (w) (q2) (.inl (cI, 50, .inl (fun _ => -2)))) (q5) (.inr (0, [.int (nI n), .int (x), .int (if (none : Option Nat) = none then 0 else (v)), .int (bI (decide ((none : Option Nat) = none) && decide ((v) ≠ 0))), va_rf ((none : Option Nat)), .int (now), va_rf ((prv ad n)), .ref (q2), .int ((-1)), .int (0), .int (0), .int (0)])) := by rw [hhw7, hw6]; funext z; by_cases hz : z = q5 <;> simp [wset, hz]
            have fw7 : w7 (q5) = some (.inr (0, [.int (nI n), .int (x), .int (if (none : Option Nat) = none then 0 else (v)), .int (bI (decide ((none : Option Nat) = none) && decide ((v) ≠ 0))), va_rf ((none : Option Nat)), .int (now), va_rf ((prv ad n)), .ref (q2), .int ((-1)), .int (0), .int (0), .int (0)])) := by rw [hhw7]; exact wset_at _ _ _
            have fw7_1 := (show w7 (q2) = w6 (q2) by rw [hhw7]; exact wset_ne (Ne.symm m_0)).trans fw6
            have fw7_2 := (show w7 (o) = w6 (o) by rw [hhw7]; exact wset_ne nq5_0).trans fw6_2
            refine p_C_C_16 (r := some (q5)) hx hb hE hm fw7_2 (by simp) dC_begin_78 (fun H locs hm => ?_)
            obtain ⟨w8, hhw8⟩ : ∃ z : Wd, z = wset w7 (o) (.inr (1, [.int (now), .int (nI n), .ref (q5)])) := ⟨_, rfl⟩
            have hm : mS B D CLS s.heap w8 H locs := by rw [hhw8]; exact hm
            have hw8 : w8 = wset (wset (wset (w) (q2) (.inl (cI, 50, .inl (fun _ => -2)))) (q5) (.inr (0, [.int (nI n), .int (x), .int (if (none : Option Nat) = none then 0 else (v)), .int (bI (decide ((none : Option Nat) = none) && decide ((v) ≠ 0))), va_rf ((none : Option Nat)), .int (now), va_rf ((prv ad n)), .ref (q2), .int ((-1)), .int (0), .int (0), .int (0)]))) (o) (.inr (1, [.int (now), .int (nI n), .ref (q5)])) := by rw [hhw8, hw7]
            have fw8 : w8 (o) = some (.inr (1, [.int (now), .int (nI n), .ref (q5)])) := by rw [hhw8]; exact wset_at _ _ _
            have fw8_1 := (show w8 (q5) = w7 (q5) by rw [hhw8]; exact wset_ne (Ne.symm nq5_0)).trans fw7
            have fw8_2 := (show w8 (q2) = w7 (q2) by rw [hhw8]; exact wset_ne (Ne.symm m_1)).trans fw7_1
            refine lv_aload_n hx hb dC_begin_81 rfl (lv_at hl 1 rfl) ?_
            refine lv_dup hx hb dC_begin_82 rfl ?_
            refine g_C_C_13 (v := .int (nI n)) hx hb hE hm fw8 rfl dC_begin_83 ?_
            refine lv_iconst (v := 1) hx hb dC_begin_86 (by decide) ?_
            refine lv_iadd hx hb dC_begin_87 ?_
            refine p_C_C_13 (x := (nI n) + (1)) hx hb hE hm fw8 (by simp) dC_begin_88 (fun H locs hm => ?_)
            obtain ⟨w9, hhw9⟩ : ∃ z : Wd, z = wset w8 (o) (.inr (1, [.int (now), .int ((nI n) + (1)), .ref (q5)])) := ⟨_, rfl⟩
            have hm : mS B D CLS s.heap w9 H locs := by rw [hhw9]; exact hm
            have hw9 : w9 = wset (wset (wset (w) (q2) (.inl (cI, 50, .inl (fun _ => -2)))) (q5) (.inr (0, [.int (nI n), .int (x), .int (if (none : Option Nat) = none then 0 else (v)), .int (bI (decide ((none : Option Nat) = none) && decide ((v) ≠ 0))), va_rf ((none : Option Nat)), .int (now), va_rf ((prv ad n)), .ref (q2), .int ((-1)), .int (0), .int (0), .int (0)]))) (o) (.inr (1, [.int (now), .int ((nI n) + (1)), .ref (q5)])) := by rw [hhw9, hw8]; funext z; by_cases hz : z = o <;> simp [wset, hz]
            have fw9 : w9 (o) = some (.inr (1, [.int (now), .int ((nI n) + (1)), .ref (q5)])) := by rw [hhw9]; exact wset_at _ _ _
            have fw9_1 := (show w9 (q5) = w8 (q5) by rw [hhw9]; exact wset_ne (Ne.symm nq5_0)).trans fw8_1
            have fw9_2 := (show w9 (q2) = w8 (q2) by rw [hhw9]; exact wset_ne (Ne.symm m_1)).trans fw8_2
            refine lv_aload_n hx hb dC_begin_91 rfl (lv_at hl 1 rfl) ?_
            refine g_C_C_16 (v := .ref (q5)) hx hb hE hm fw9 rfl dC_begin_92 ?_
            refine g_C_J_50 (v := .int (nI n)) hx hb hE hm fw9_1 rfl dC_begin_95 ?_
            have hC := hR.beg h200 hfq5 hf2 (s := x) (l := v) (b := none) (u := w9) (fun i hi => by cases hi) fw9 (by have h := fw9_1; simpa using h) fw9_2 (fun i hi => by rw [hw9, wset_ne (hR.ado hi), wset_ne (fun e => by have h := hR.2.1 i hi; rw [e, hfq5] at h; cases h), wset_ne (fun e => by have h := hR.2.1 i hi; rw [e, hf2] at h; cases h)]; rw [hR.2.1 i hi]; simp) (fun i hi => by rw [hw9, wset_ne (hR.vao hi), wset_ne (fun e => by have h := hR.2.2.1 i hi; rw [e, hfq5] at h; cases h), wset_ne (fun e => by have h := hR.2.2.1 i hi; rw [e, hf2] at h; cases h)])
            refine W.widen (k := 2) (n := 62) (Nat.le_of_ble_eq_true rfl) (Nat.le_of_ble_eq_true rfl) ?_
            exact mreti hx hb hr hlk hm (Or.inr ⟨hB, rfl, q5, q2, hfq5, hf2, hC, fun q hq g1 g2 => by rw [hw9, wset_ne (fun e => hq (by rw [e]; exact cF_o)), wset_ne g1, wset_ne g2]⟩) dC_begin_98
          | some b =>
            have hbn : b < n := hbl b ht
            show W _ _ _ _ _ _ _ _ _ _ _ _ _ _ _ (F0 m 40 ls [.ref (ad b)])
            refine lv_astore_n (lv' := [(3, .ref (ad b)), (0, .ref (o)), (1, .int (x)), (2, .int (v))]) hx hb dC_begin_40 rfl hl (by decide) rfl (fun ls hl => ?_)
            refine lv_aload_n hx hb dC_begin_41 rfl (lv_at hl 0 rfl) ?_
            refine lv_ifnull hx hb dC_begin_42 ?_
            refine lv_aload_n hx hb dC_begin_45 rfl (lv_at hl 0 rfl) ?_
            refine lv_dup hx hb dC_begin_46 rfl ?_
            refine g_C_J_42 (v := .int (nI (sd n J b))) hx hb hE hm (hR.2.1 b hbn) rfl dC_begin_47 ?_
            refine lv_iconst (v := 1) hx hb dC_begin_50 (by decide) ?_
            refine lv_iadd hx hb dC_begin_51 ?_
            refine p_C_J_42 (x := (nI (sd n J b)) + (1)) hx hb hE hm (hR.2.1 b hbn) (by simp) dC_begin_52 (fun H locs hm => ?_)
            obtain ⟨w10, hhw10⟩ : ∃ z : Wd, z = wset w (ad b) (.inr (0, [.int (nI b), .int (jSer (J b)), .int (jLev (J b)), .int (bI (jUp (J b))), va_rf ((jBs (J b)).map ad), .int (jBg (J b)), va_rf (prv ad b), .ref (va b), .int (jEn (J b)), .int (jSt (J b)), .int (bI (jPr (J b))), .int ((nI (sd n J b)) + (1))])) := ⟨_, rfl⟩
            have hm : mS B D CLS s.heap w10 H locs := by rw [hhw10]; exact hm
            have hw10 : w10 = wset (w) (ad b) (.inr (0, [.int (nI b), .int (jSer (J b)), .int (jLev (J b)), .int (bI (jUp (J b))), va_rf ((jBs (J b)).map ad), .int (jBg (J b)), va_rf (prv ad b), .ref (va b), .int (jEn (J b)), .int (jSt (J b)), .int (bI (jPr (J b))), .int ((nI (sd n J b)) + (1))])) := by rw [hhw10]
            have fw10 : w10 (ad b) = some (.inr (0, [.int (nI b), .int (jSer (J b)), .int (jLev (J b)), .int (bI (jUp (J b))), va_rf ((jBs (J b)).map ad), .int (jBg (J b)), va_rf (prv ad b), .ref (va b), .int (jEn (J b)), .int (jSt (J b)), .int (bI (jPr (J b))), .int ((nI (sd n J b)) + (1))])) := by rw [hhw10]; exact wset_at _ _ _
            have fw10_1 := (show w10 (o) = w (o) by rw [hhw10]; exact wset_ne (Ne.symm (hR.ado hbn))).trans hR.1
            refine lv_aload_n hx hb dC_begin_55 rfl (lv_at hl 1 rfl) ?_
            refine mnew (C := "ChainPicker$Job") (T := T_J) (N := 12) (ci := 0) (fs := DEFJ) hx hb hE.2.1 (fun w h => List.mem_cons_of_mem _ (i_J w h)) t_J t_J_ok hE.1 (hE.2.1 _ (List.mem_cons_of_mem _ q_49)) (hE.2.1 _ (List.mem_cons_of_mem _ q_50)) (hE.2.1 _ (List.mem_cons_of_mem _ q_7)) hE.2.2.1 hm rfl defJ (Nat.le_of_ble_eq_true rfl) (Nat.le_of_ble_eq_true rfl) dC_begin_56 (fun q11 H hq11 hm => ?_)
            have hfq11 : w q11 = none := by have h := hq11; rw [hw10] at h; have h := (wset_none h).1; exact h
            have nq11_0 : ad b ≠ q11 := fun e => by have h := fw10; rw [e, hq11] at h; cases h
            have nq11_1 : o ≠ q11 := fun e => by have h := fw10_1; rw [e, hq11] at h; cases h
            obtain ⟨w11, hhw11⟩ : ∃ z : Wd, z = wset w10 (q11) (.inr (0, DEFJ)) := ⟨_, rfl⟩
            have hm : mS B D CLS s.heap w11 H locs := by rw [hhw11]; exact hm
            have hw11 : w11 = wset (wset (w) (ad b) (.inr (0, [.int (nI b), .int (jSer (J b)), .int (jLev (J b)), .int (bI (jUp (J b))), va_rf ((jBs (J b)).map ad), .int (jBg (J b)), va_rf (prv ad b), .ref (va b), .int (jEn (J b)), .int (jSt (J b)), .int (bI (jPr (J b))), .int ((nI (sd n J b)) + (1))]))) (q11) (.inr (0, DEFJ)) := by rw [hhw11, hw10]
            have fw11 : w11 (q11) = some (.inr (0, DEFJ)) := by rw [hhw11]; exact wset_at _ _ _
            have fw11_1 := (show w11 (ad b) = w10 (ad b) by rw [hhw11]; exact wset_ne nq11_0).trans fw10
            have fw11_2 := (show w11 (o) = w10 (o) by rw [hhw11]; exact wset_ne nq11_1).trans fw10_1
            refine lv_dup hx hb dC_begin_59 rfl ?_
            refine lv_aload_n hx hb dC_begin_60 rfl (lv_at hl 1 rfl) ?_
            refine g_C_C_13 (v := .int (nI n)) hx hb hE hm fw11_2 rfl dC_begin_61 ?_
            refine lv_iload_n hx hb dC_begin_64 rfl (lv_at hl 2 rfl) ?_
            refine lv_iload_n hx hb dC_begin_65 rfl (lv_at hl 3 rfl) ?_
            refine lv_aload_n hx hb dC_begin_66 rfl (lv_at hl 0 rfl) ?_
            refine lv_aload_n hx hb dC_begin_67 rfl (lv_at hl 1 rfl) ?_
            refine g_C_C_9 (v := .int (now)) hx hb hE hm fw11_2 rfl dC_begin_68 ?_
            refine lv_aload_n hx hb dC_begin_71 rfl (lv_at hl 1 rfl) ?_
            refine g_C_C_16 (v := va_rf (prv ad n)) hx hb hE hm fw11_2 rfl dC_begin_72 ?_
            refine mcallv (mcIN (n := 6) (host := "ChainPicker") (As := [.int (nI n), .int (x), .int (v), .ref (ad b), .int (now), va_rf (prv ad n)]) (rest := [.ref (q11), .ref (o)]) hx hb hml hE (kJ_init l B D cI cZ cL w11 q11 (nI n) (x) (v) (some (ad b)) (now) (prv ad n) fw11) (List.mem_of_getElem? (i := 0) rfl) q_52 q_7 q_53 rfl rfl rfl (by decide +kernel) ⟨Nat.le_of_ble_eq_true rfl, Nat.le_of_ble_eq_true rfl⟩ rfl hl.1 hm rfl (Nat.le_of_ble_eq_true rfl) dC_begin_75 ⟨Nat.le_of_ble_eq_true rfl, Nat.le_of_ble_eq_true rfl⟩) hm (fun u9 H locs hp9 hm => ?_)
            obtain ⟨q2, hq2, hu9⟩ := hp9
            rw [hu9] at hm
            have m_0 : q11 ≠ q2 := fun e => by have h := fw11; rw [e, hq2] at h; cases h
            have m_1 : ad b ≠ q2 := fun e => by have h := fw11_1; rw [e, hq2] at h; cases h
            have m_2 : o ≠ q2 := fun e => by have h := fw11_2; rw [e, hq2] at h; cases h
            have hf2 : w q2 = none := by have h := hq2; rw [hw11] at h; exact (wset_none (wset_none h).1).1
            obtain ⟨w12, hhw12⟩ : ∃ z : Wd, z = wset w11 (q2) (.inl (cI, 50, .inl (fun _ => -2))) := ⟨_, rfl⟩
            have hw12 : w12 = wset (wset (wset (w) (ad b) (.inr (0, [.int (nI b), .int (jSer (J b)), .int (jLev (J b)), .int (bI (jUp (J b))), va_rf ((jBs (J b)).map ad), .int (jBg (J b)), va_rf (prv ad b), .ref (va b), .int (jEn (J b)), .int (jSt (J b)), .int (bI (jPr (J b))), .int ((nI (sd n J b)) + (1))]))) (q11) (.inr (0, DEFJ))) (q2) (.inl (cI, 50, .inl (fun _ => -2))) := by rw [hhw12, hw11]
            have fw12 : w12 (q2) = some (.inl (cI, 50, .inl (fun _ => -2))) := by rw [hhw12]; exact wset_at _ _ _
            have fw12_1 := (show w12 (q11) = w11 (q11) by rw [hhw12]; exact wset_ne m_0).trans fw11
            have fw12_2 := (show w12 (ad b) = w11 (ad b) by rw [hhw12]; exact wset_ne m_1).trans fw11_1
            have fw12_3 := (show w12 (o) = w11 (o) by rw [hhw12]; exact wset_ne m_2).trans fw11_2
            obtain ⟨w13, hhw13⟩ : ∃ z : Wd, z = wset w12 (q11) (.inr (0, [.int (nI n), .int (x), .int (if (some (ad b)) = none then 0 else (v)), .int (bI (decide ((some (ad b)) = none) && decide ((v) ≠ 0))), va_rf ((some (ad b))), .int (now), va_rf ((prv ad n)), .ref (q2), .int ((-1)), .int (0), .int (0), .int (0)])) := ⟨_, rfl⟩
            have hm : mS B D CLS s.heap w13 H locs := by rw [hhw13, hhw12]; exact hm
            have hw13 : w13 = wset (wset (wset (w) (ad b) (.inr (0, [.int (nI b), .int (jSer (J b)), .int (jLev (J b)), .int (bI (jUp (J b))), va_rf ((jBs (J b)).map ad), .int (jBg (J b)), va_rf (prv ad b), .ref (va b), .int (jEn (J b)), .int (jSt (J b)), .int (bI (jPr (J b))), .int ((nI (sd n J b)) + (1))]))) (q2) (.inl (cI, 50, .inl (fun _ => -2)))) (q11) (.inr (0, [.int (nI n), .int (x), .int (if (some (ad b)) = none then 0 else (v)), .int (bI (decide ((some (ad b)) = none) && decide ((v) ≠ 0))), va_rf ((some (ad b))), .int (now), va_rf ((prv ad n)), .ref (q2), .int ((-1)), .int (0), .int (0), .int (0)])) := by rw [hhw13, hw12]; funext z; by_cases hz : z = q11 <;> simp [wset, hz]
            have fw13 : w13 (q11) = some (.inr (0, [.int (nI n), .int (x), .int (if (some (ad b)) = none then 0 else (v)), .int (bI (decide ((some (ad b)) = none) && decide ((v) ≠ 0))), va_rf ((some (ad b))), .int (now), va_rf ((prv ad n)), .ref (q2), .int ((-1)), .int (0), .int (0), .int (0)])) := by rw [hhw13]; exact wset_at _ _ _
            have fw13_1 := (show w13 (q2) = w12 (q2) by rw [hhw13]; exact wset_ne (Ne.symm m_0)).trans fw12
            have fw13_2 := (show w13 (ad b) = w12 (ad b) by rw [hhw13]; exact wset_ne nq11_0).trans fw12_2
            have fw13_3 := (show w13 (o) = w12 (o) by rw [hhw13]; exact wset_ne nq11_1).trans fw12_3
            refine p_C_C_16 (r := some (q11)) hx hb hE hm fw13_3 (by simp) dC_begin_78 (fun H locs hm => ?_)
            obtain ⟨w14, hhw14⟩ : ∃ z : Wd, z = wset w13 (o) (.inr (1, [.int (now), .int (nI n), .ref (q11)])) := ⟨_, rfl⟩
            have hm : mS B D CLS s.heap w14 H locs := by rw [hhw14]; exact hm
            have hw14 : w14 = wset (wset (wset (wset (w) (ad b) (.inr (0, [.int (nI b), .int (jSer (J b)), .int (jLev (J b)), .int (bI (jUp (J b))), va_rf ((jBs (J b)).map ad), .int (jBg (J b)), va_rf (prv ad b), .ref (va b), .int (jEn (J b)), .int (jSt (J b)), .int (bI (jPr (J b))), .int ((nI (sd n J b)) + (1))]))) (q2) (.inl (cI, 50, .inl (fun _ => -2)))) (q11) (.inr (0, [.int (nI n), .int (x), .int (if (some (ad b)) = none then 0 else (v)), .int (bI (decide ((some (ad b)) = none) && decide ((v) ≠ 0))), va_rf ((some (ad b))), .int (now), va_rf ((prv ad n)), .ref (q2), .int ((-1)), .int (0), .int (0), .int (0)]))) (o) (.inr (1, [.int (now), .int (nI n), .ref (q11)])) := by rw [hhw14, hw13]
            have fw14 : w14 (o) = some (.inr (1, [.int (now), .int (nI n), .ref (q11)])) := by rw [hhw14]; exact wset_at _ _ _
            have fw14_1 := (show w14 (q11) = w13 (q11) by rw [hhw14]; exact wset_ne (Ne.symm nq11_1)).trans fw13
            have fw14_2 := (show w14 (q2) = w13 (q2) by rw [hhw14]; exact wset_ne (Ne.symm m_2)).trans fw13_1
            have fw14_3 := (show w14 (ad b) = w13 (ad b) by rw [hhw14]; exact wset_ne (Ne.symm (Ne.symm (hR.ado hbn)))).trans fw13_2
            refine lv_aload_n hx hb dC_begin_81 rfl (lv_at hl 1 rfl) ?_
            refine lv_dup hx hb dC_begin_82 rfl ?_
            refine g_C_C_13 (v := .int (nI n)) hx hb hE hm fw14 rfl dC_begin_83 ?_
            refine lv_iconst (v := 1) hx hb dC_begin_86 (by decide) ?_
            refine lv_iadd hx hb dC_begin_87 ?_
            refine p_C_C_13 (x := (nI n) + (1)) hx hb hE hm fw14 (by simp) dC_begin_88 (fun H locs hm => ?_)
            obtain ⟨w15, hhw15⟩ : ∃ z : Wd, z = wset w14 (o) (.inr (1, [.int (now), .int ((nI n) + (1)), .ref (q11)])) := ⟨_, rfl⟩
            have hm : mS B D CLS s.heap w15 H locs := by rw [hhw15]; exact hm
            have hw15 : w15 = wset (wset (wset (wset (w) (ad b) (.inr (0, [.int (nI b), .int (jSer (J b)), .int (jLev (J b)), .int (bI (jUp (J b))), va_rf ((jBs (J b)).map ad), .int (jBg (J b)), va_rf (prv ad b), .ref (va b), .int (jEn (J b)), .int (jSt (J b)), .int (bI (jPr (J b))), .int ((nI (sd n J b)) + (1))]))) (q2) (.inl (cI, 50, .inl (fun _ => -2)))) (q11) (.inr (0, [.int (nI n), .int (x), .int (if (some (ad b)) = none then 0 else (v)), .int (bI (decide ((some (ad b)) = none) && decide ((v) ≠ 0))), va_rf ((some (ad b))), .int (now), va_rf ((prv ad n)), .ref (q2), .int ((-1)), .int (0), .int (0), .int (0)]))) (o) (.inr (1, [.int (now), .int ((nI n) + (1)), .ref (q11)])) := by rw [hhw15, hw14]; funext z; by_cases hz : z = o <;> simp [wset, hz]
            have fw15 : w15 (o) = some (.inr (1, [.int (now), .int ((nI n) + (1)), .ref (q11)])) := by rw [hhw15]; exact wset_at _ _ _
            have fw15_1 := (show w15 (q11) = w14 (q11) by rw [hhw15]; exact wset_ne (Ne.symm nq11_1)).trans fw14_1
            have fw15_2 := (show w15 (q2) = w14 (q2) by rw [hhw15]; exact wset_ne (Ne.symm m_2)).trans fw14_2
            have fw15_3 := (show w15 (ad b) = w14 (ad b) by rw [hhw15]; exact wset_ne (Ne.symm (Ne.symm (hR.ado hbn)))).trans fw14_3
            refine lv_aload_n hx hb dC_begin_91 rfl (lv_at hl 1 rfl) ?_
            refine g_C_C_16 (v := .ref (q11)) hx hb hE hm fw15 rfl dC_begin_92 ?_
            refine g_C_J_50 (v := .int (nI n)) hx hb hE hm fw15_1 rfl dC_begin_95 ?_
            have hC := hR.beg h200 hfq11 hf2 (s := x) (l := v) (b := some b) (u := w15) (fun i hi => by cases hi; exact hbn) fw15 (by have h := fw15_1; simpa using h) fw15_2 (fun i hi => by rw [hw15, wset_ne (hR.ado hi), wset_ne (fun e => by have h := hR.2.1 i hi; rw [e, hfq11] at h; cases h), wset_ne (fun e => by have h := hR.2.1 i hi; rw [e, hf2] at h; cases h)]; by_cases hib : i = b; (· subst hib; rw [wset_at]; simp [nI_1]); (· rw [wset_ne (hR.adad hi hbn hib), hR.2.1 i hi]; simp [Ne.symm hib])) (fun i hi => by rw [hw15, wset_ne (hR.vao hi), wset_ne (fun e => by have h := hR.2.2.1 i hi; rw [e, hfq11] at h; cases h), wset_ne (fun e => by have h := hR.2.2.1 i hi; rw [e, hf2] at h; cases h), wset_ne (hR.vaad hi hbn)])
            refine W.widen (k := 2) (n := 62) (Nat.le_of_ble_eq_true rfl) (Nat.le_of_ble_eq_true rfl) ?_
            exact mreti hx hb hr hlk hm (Or.inr ⟨hB, rfl, q11, q2, hfq11, hf2, hC, fun q hq g1 g2 => by rw [hw15, wset_ne (fun e => hq (by rw [e]; exact cF_o)), wset_ne g1, wset_ne g2, wset_ne (fun e => hq (by rw [e]; exact cF_ad hbn))]⟩) dC_begin_98
        · rw [hr3, bI_0] at c_29
          refine lv_iconst (v := (-1)) hx hb dC_begin_32 (by decide) ?_
          refine W.widen (k := 2) (n := 62) (Nat.le_of_ble_eq_true rfl) (Nat.le_of_ble_eq_true rfl) ?_
          exact mreti hx hb hr hlk hm (Or.inl ⟨by unfold bgs; rw [show hRun n J x = true by simpa using c_29]; simp, rfl, rfl⟩) dC_begin_33
end
section
/-! throwing: what a thrower stands on, its beginning, its throw, its call -/
def mX (B : Nat) (sa : Nat → Nat) (U : State) : Prop := vk_R "ChainPicker" 23 "time can't go on by that" (sa 0) U ∧ vk_R "ChainPicker" 84 "the chain has no such job" (sa 1) U ∧ vk_R "ChainPicker" 103 "an age is not below 0" (sa 2) U ∧ vx_Zq Bundle.tN "UNASSIGNED_STACK" Bundle.steD (fun q => B ≤ q) U U.heap ∧ vx_Zq Bundle.tN "SUPPRESSED_SENTINEL" Bundle.listD (fun q => B ≤ q) U U.heap
def mPX (B : Nat) (D : va_G) (cl : List vw_C) (tys : List (ClassId × FieldType)) (N : List Cond) (sa : Nat → Nat) (w : Wd) (U : State) : Prop := mP B D cl tys N w U ∧ mX B sa U
theorem mX.blind {B : Nat} {sa : Nat → Nat} {U : State} (g : JFrame) (mk : MethodId) (a : Array Value) (h : mX B sa U) : mX B sa (U.calling g mk a) :=
  ⟨vk_R.same rfl h.1, vk_R.same rfl h.2.1, vk_R.same rfl h.2.2.1, vx_Zq.moved (u := U) (U := U.calling g mk a) (Vm.Alike.refl U.vm) h.2.2.2.1, vx_Zq.moved (u := U) (U := U.calling g mk a) (Vm.Alike.refl U.vm) h.2.2.2.2⟩
theorem mX.go {B : Nat} {sa : Nat → Nat} {s U : State} {H : Heap} {locs : List Loc} (h : mX B sa s) (hS : va_S (fun q => B ≤ q) s.heap H locs) (hU : U.heap = H) (hW : s.WarmedH U.vm) : mX B sa U :=
  ⟨vk_R.warm hW h.1, vk_R.warm hW h.2.1, vk_R.warm hW h.2.2.1, by rw [hU]; exact vx_Zq.moved hW.alike (h.2.2.2.1.kept hS.2.1), by rw [hU]; exact vx_Zq.moved hW.alike (h.2.2.2.2.kept hS.2.1)⟩
theorem mPX.blind {B : Nat} {D : va_G} {cl : List vw_C} {tys : List (ClassId × FieldType)} {N : List Cond} (hN : N.all nestWord = true) {sa : Nat → Nat} {w : Wd} {av : List Value} : FrameBlind (va_Pc av (mPX B D cl tys N sa w)) := fun a U g mk q => by
  obtain ⟨q0, q1, q2⟩ := q
  exact ⟨q0, (mP.blind hN (av := av) a U g mk ⟨q0, q1⟩).2, q2.blind g mk a⟩
theorem mw.kept {B : Nat} {D : va_G} {cl : List vw_C} {w : Wd} {H H1 : Heap} (h : mw B D cl w H) (hz : H.size ≤ H1.size) (hq : ∀ q : Nat, q < H.size → H1[q]? = H[q]?) : mw B D cl w H1 :=
  ⟨Nat.le_trans h.1 hz, fun a x ha => ⟨(h.2 a x ha).1, (h.2 a x ha).2.kept (hq a (h.2 a x ha).2.lt)⟩⟩
theorem mMetX {l : Launch} {y : MethodName} {ws ws' : List Cond} {rm : Room} {cc : ByteArray} {maxL : Nat} {ret : Option FieldType} {av : List Value} {B : Nat} {D : va_G} {cl : List vw_C} {tys : List (ClassId × FieldType)} {N : List Cond} {sa : Nat → Nat} {w : Wd} {Qc : Array Value → State → Outcome → State → Prop} {XC : String → State → State → Prop} {mc ms : Nat} {free : Addr → Prop}
    (hy : plainName y.cls = true) (hw : ws = Cond.code y cc maxL ret :: ws') (hav : (lg_sl av).length ≤ maxL)
    (body : ∀ (p : Program) (e : Env) (s : State) (m : MethodId) (below : List Frame) (meth : Method) (c : Code) (ls : Array Slot), p.tables.exec = Jvm.exec → c.code = cc → c.maxLocals = maxL → meth.sig.returnType = ret → meth.locks = false → meth.name = y.name → s.vm.findClass y.cls = some m.cls → (∀ w ∈ ws, w.before av.toArray s = true) → va_K D cl tys s → mN N s → mX B sa s → (∀ x ∈ c.exceptionTable.toList, False) → mS B D cl s.heap w s.heap [] → lv_has ls maxL (lv_args 0 av) →
      W p l e rm s m av.toArray below meth c s.heap [] 0 0 (vx_MQ below Qc XC av.toArray s mc ms free) (F0 m 0 ls [])) : vx_Met l y ws rm (va_Pc av (mPX B D cl tys N sa w)) Qc XC mc ms free := by
  refine vx_ofW (cc := cc) (maxL := maxL) (ret := ret) hy hw ?_
  intro p e s m args below meth c s₁ X hml hno hv
  obtain ⟨rfl, ⟨hm, hK, hn⟩, hX⟩ := hv
  rw [lg_entry_eq]
  exact body p e s m below meth c _ X.exec X.bytes hml X.returns X.notSynchronized (name_of_methodNamed X.named X.method).1 (findClass_of_methodNamed X.named) (atoms_spec (ws := ws) X.pre) hK hn hX hno (mS.start hm) (lv_entry av hav)
/-- a method with handlers, that throws nothing -/
theorem mMetH {l : Launch} {y : MethodName} {ws ws' : List Cond} {rm : Room} {cc : ByteArray} {maxL : Nat} {ret : Option FieldType} {hh : List (Nat × Nat × Nat × Nat)} {av : List Value} {B : Nat} {D : va_G} {cl : List vw_C} {tys : List (ClassId × FieldType)} {N : List Cond} {sa : Nat → Nat} {w : Wd} {Qc : Array Value → State → Outcome → State → Prop} {mc ms : Nat} {free : Addr → Prop}
    (hy : plainName y.cls = true) (hw : ws = Cond.codeWith y cc maxL ret hh :: ws') (hav : (lg_sl av).length ≤ maxL)
    (body : ∀ (p : Program) (e : Env) (s : State) (m : MethodId) (below : List Frame) (meth : Method) (c : Code) (ls : Array Slot), p.tables.exec = Jvm.exec → c.code = cc → c.maxLocals = maxL → meth.sig.returnType = ret → meth.locks = false → meth.name = y.name → s.vm.findClass y.cls = some m.cls → (∀ w ∈ ws, w.before av.toArray s = true) → va_K D cl tys s → mN N s → mX B sa s → c.exceptionTable.toList = tableOf hh → mS B D cl s.heap w s.heap [] → lv_has ls maxL (lv_args 0 av) →
      W p l e rm s m av.toArray below meth c s.heap [] 0 0 (MQ below Qc av.toArray s mc ms free) (F0 m 0 ls [])) : Met l y ws rm (va_Pc av (mPX B D cl tys N sa w)) Qc mc ms free := by
  refine va_MetW (cc := cc) (maxL := maxL) (ret := ret) (hh := hh) hy hw ?_
  intro p e s m args below meth c s₁ X hml hv
  obtain ⟨rfl, ⟨hm, hK, hn⟩, hX⟩ := hv
  rw [lg_entry_eq]
  exact body p e s m below meth c _ X.exec X.bytes hml X.returns X.notSynchronized (name_of_methodNamed X.named X.method).1 (findClass_of_methodNamed X.named) (atoms_spec (ws := ws) X.pre) hK hn hX (vx_table (x := y) X (atoms_spec (ws := ws) X.pre _ (by rw [hw]; exact List.mem_cons_self))) (mS.start hm) (lv_entry av hav)
/-- what is thrown: the class, and the world as it was -/
def mXC (B : Nat) (D : va_G) (cl : List vw_C) (E : String) (px : Wd → Prop) : String → State → State → Prop := vx_X px (fun E' u t => E' = E ∧ mw B D cl u t.heap) (fun q => B ≤ q)
abbrev nmE : List String := ["java/lang/RuntimeException", "java/lang/Exception"]
theorem at_iae : ∀ w ∈ (vx_atS "ChainPicker" 25 "java/lang/IllegalArgumentException" nmE).filter goodWord, w ∈ BIG := by decide +kernel
theorem at_ioe : ∀ w ∈ (vx_atS "ChainPicker" 86 "java/lang/IndexOutOfBoundsException" nmE).filter goodWord, w ∈ BIG := by decide +kernel
theorem nt_iae : ∀ w ∈ (vx_atS "ChainPicker" 25 "java/lang/IllegalArgumentException" nmE).filter (fun w => !goodWord w), w ∈ NEST := by decide +kernel
theorem nt_ioe : ∀ w ∈ (vx_atS "ChainPicker" 86 "java/lang/IndexOutOfBoundsException" nmE).filter (fun w => !goodWord w), w ∈ NEST := by decide +kernel
theorem ot_iae : ∀ w ∈ Cond.classLink "ChainPicker" 21 "java/lang/IllegalArgumentException" :: Cond.initialized "java/lang/IllegalArgumentException" :: vx_atS "ChainPicker" 25 "java/lang/IllegalArgumentException" nmE, vx_ot w = true := by decide +kernel
theorem ot_ioe : ∀ w ∈ Cond.classLink "ChainPicker" 82 "java/lang/IndexOutOfBoundsException" :: Cond.initialized "java/lang/IndexOutOfBoundsException" :: vx_atS "ChainPicker" 86 "java/lang/IndexOutOfBoundsException" nmE, vx_ot w = true := by decide +kernel
theorem NEST_on : ∀ w ∈ NEST, w.onTables = true := by decide +kernel
section MTH
variable {p : Program} {l : Launch} {e : Env} {R : Room} {s : State} {m : MethodId} {args : Array Value} {below : List Frame} {meth : Method} {c : Code} {H : Heap} {locs : List Loc} {cells slots : Nat}
variable {cc : ByteArray} {pc : Nat} {ls : Array Slot} {rest : List Value} {D : va_G} {B : Nat} {tys : List (ClassId × FieldType)} {w : Wd} {yw : Cond} {Qc : Array Value → State → Outcome → State → Prop}
theorem mthrow {cls text : String} {ik is ic sa1 : Nat} {sa : Nat → Nat} {px : Wd → Prop} (hl : l.stackTraces = false) (hx : p.tables.exec = Jvm.exec) (hb : c.code = cc) (hE : ME "ChainPicker" yw args s m D tys) (hX : mX B sa s) (hno : ∀ x ∈ c.exceptionTable.toList, False) (hlk : meth.locks = false)
    (hcls : Bundle.fit cls = true) (q1 : Cond.classLink "ChainPicker" ik cls ∈ BIG) (q2 : Cond.initialized cls ∈ BIG) (hstr : vk_R "ChainPicker" is text sa1 s) (a1 : ∀ w ∈ (vx_atS "ChainPicker" ic cls nmE).filter goodWord, w ∈ BIG) (a2 : ∀ w ∈ (vx_atS "ChainPicker" ic cls nmE).filter (fun w => !goodWord w), w ∈ NEST)
    (a3 : ∀ w ∈ Cond.classLink "ChainPicker" ik cls :: Cond.initialized cls :: vx_atS "ChainPicker" ic cls nmE, vx_ot w = true) (hm : mS B D CLS s.heap w H locs) (hls : ls.size = c.maxLocals) (hpx : px w)
    (d0 : decode cc pc = .ok (.new ik, 3)) (d3 : decode cc (pc + 3) = .ok (.dup, 1)) (d4 : decode cc (pc + 4) = .ok (.ldc is, 2)) (d6 : decode cc (pc + 6) = .ok (.invokespecial ic, 3)) (d9 : decode cc (pc + 9) = .ok (.athrow, 1))
    (hRf : 5 < R.frames) (hRl : (rest.map fun v => v.category).sum + 82 ≤ R.locals) (hRc : cells + 1 ≤ R.cells) (hRs : slots + 6 ≤ R.slots) :
    W p l e R s m args below meth c H locs cells slots (vx_MQ below Qc (mXC B D CLS cls px) args s (cells + 1) (slots + 6) (fun q => B ≤ q)) (F0 m pc ls rest) := by
  refine vx_throwS (names := nmE) (A := fun q => B ≤ q) hx hb hl hE.1 hcls (by decide +kernel) (hE.2.1 _ (List.mem_cons_of_mem _ q1)) (hE.2.1 _ (List.mem_cons_of_mem _ q2)) hstr (vx_hat (fun w hw => hE.2.1 w (List.mem_cons_of_mem _ (a1 w hw))) a2 (fun w hw => va_Nw.use (NEST_on w hw) (hE.2.2.2 w hw))) a3 hX.2.2.2.1 hX.2.2.2.2 hm.2 hls d0 d3 d4 d6 d9 (fun x h => (hno x h).elim) hRf hRl hRc hRs hlk ?_ hm.2.2.2 (Nat.le_refl _) (Nat.le_refl _)
  intro t _ hz hq
  exact ⟨w, hpx, ⟨rfl, hm.1.kept hz hq⟩, Nat.le_trans hm.2.1 hz, fun q h1 h2 => (hq q (Nat.lt_of_lt_of_le h1 hm.2.1)).trans (hm.2.2.1 q h1 h2)⟩
end MTH
section MXC
variable {p : Program} {l : Launch} {e : Env} {R : Room} {s : State} {m : MethodId} {args : Array Value} {below : List Frame} {meth : Method} {c : Code} {H : Heap} {locs : List Loc} {cells slots : Nat} {Q : State → Prop}
variable {cc : ByteArray} {pc : Nat} {ls : Array Slot} {D : va_G} {B : Nat} {tys : List (ClassId × FieldType)} {w : Wd} {yw : Cond}
variable {y : MethodName} {bytes : ByteArray} {maxL nL mc ms n index : Nat} {ret : Option FieldType} {rm : Room} {Qc : Array Value → State → Outcome → State → Prop} {XC : String → State → State → Prop} {own C : String} {b : Addr} {As rest st0 : List Value} {sa : Nat → Nat} {a : Array Value}
theorem mxV {ci : Nat} {T : u_T} {N9 : Nat} {fs : List Value} (hx : p.tables.exec = Jvm.exec) (hb : c.code = cc) (hml : c.maxLocals = nL) (hown : s.vm.findClass own = some m.cls) (hts : ∀ w ∈ yw :: BIG, w.before args s = true) (hK : va_K D CLS tys s) (hN : mN NEST s) (hX : mX B sa s) (hM : vx_Met l y (Cond.code y bytes maxL ret :: BIG) rm (va_Pc (.ref b :: As) (mPX B D CLS tys NEST sa w)) Qc XC mc ms (fun q => B ≤ q))
    (q1 : Cond.methodLink own index y ∈ BIG) (q2 : Cond.instanceMethod y ∈ BIG) (q3 : Cond.selects C y y ∈ BIG) (q5 : Cond.initialized y.cls ∈ BIG) (q4 : Cond.code y bytes maxL ret ∈ BIG) (hrc : rm.cells = mc) (hrs : rm.slots = ms)
    (hd : y.cls ≠ "java/lang/invoke/MethodHandle" ∧ y.cls ≠ "java/lang/invoke/VarHandle" ∧ (parseMethodDescriptor y.desc).map (fun d => d.parameters.length) = some n) (hR : rm.frames + 1 ≤ R.frames ∧ 8 + (maxL + 11) + rm.locals ≤ R.locals)
    (hn : As.length = n) (hls : ls.size = nL) (hm : mS B D CLS s.heap w H locs) (hc : CLS[ci]? = some (C, T, N9)) (he : w b = some (.inr (ci, fs))) (hst : st0 = As.reverse ++ .ref b :: rest) (hW : (rest.map fun v => v.category).sum ≤ 8) (hdg : decode cc pc = .ok (.invokevirtual index, 3)) (hf : cells + mc ≤ R.cells ∧ slots + ms ≤ R.slots) :
    vx_Run p l e R s m args below meth c H locs cells slots mc ms (F0 m pc ls st0) rest (Qc (Value.ref b :: As).toArray) XC (fun q => B ≤ q) :=
  vx_runV ⟨hx, hb, hml, hown, hts⟩ hM ⟨callB_of n hts (gBIG q4) rfl hrc hrs (hts _ (List.mem_cons_of_mem _ q5)) (hts _ (List.mem_cons_of_mem _ q1)) hd hR, hts _ (List.mem_cons_of_mem _ q2), hts _ (List.mem_cons_of_mem _ q3)⟩
    ⟨mPX.blind NEST_ok, va_recv hK (hm.one he) (q0 := 0) hc rfl, fun U hU hW => ⟨rfl, mP.moved NEST_ok hK hN hm.1 hU hW, hX.go hm.2 hU hW⟩⟩ rfl hn hls hst (lv_room hW) hdg hf
theorem mxcalli {post : Int32 → Wd → Prop} {px : Wd → Prop} {E : String} (hr : vx_Run p l e R s m args below meth c H locs cells slots mc ms (F0 m pc ls st0) rest (va_Qi post (mE B D CLS) (fun q => B ≤ q) a) (mXC B D CLS E px) (fun q => B ≤ q)) (hm : mS B D CLS s.heap w H locs)
    (kx : ∀ (ce : Cell) (q9 : Addr) (w1 : Wd) (H1 : Heap) (locs1 : List Loc), px w1 → mS B D CLS s.heap w1 H1 locs1 → H1[q9]? = some ce → ce.vm = .none → s.vm.findClass E = some ce.cls → vx_W p l e R s m args below meth c H1 locs1 (cells + mc) (slots + ms) Q (F0 m pc ls rest) q9)
    (kk : ∀ (r : Int32) (w1 : Wd) (H1 : Heap) (locs1 : List Loc), post r w1 → mS B D CLS s.heap w1 H1 locs1 → W p l e R s m args below meth c H1 locs1 (cells + mc) (slots + ms) Q (F0 m (pc + 3) ls (.int r :: rest))) : W p l e R s m args below meth c H locs cells slots Q (F0 m pc ls st0) := by
  refine vx_calli hr hm.2 (fun _ _ h => h) (fun _ h => h) (fun _ _ h => h) ?_ ?_
  · intro E' ce q9 u t H1 locs1 ht _ hp hB _ _ hS hce hv hcl
    obtain ⟨rfl, hB⟩ := hB
    exact kx ce q9 u H1 locs1 hp ⟨by rw [← ht]; exact hB, hS⟩ hce hv hcl
  · intro r u t H1 locs1 ht _ hp hB _ _ hS
    exact kk r u H1 locs1 hp ⟨by rw [← ht]; exact hB, hS⟩
end MXC
def pOk (now x : Int32) : Bool := !decide (x < 0) && !decide (1000000000 - now < x)
theorem lk_n {f : Nat} {J : Nat → Jr} {y i : Int32} : lk (chn J f none) y i = none := by rw [chn_n]; rfl
theorem lk_t {f j : Nat} {J : Nat → Jr} {y i : Int32} (h : y = i) : lk (chn J (f + 1) (some j)) y i = some j := by simp [chn, lk, h]
theorem lk_f {f j : Nat} {J : Nat → Jr} {y i : Int32} (h : ¬ y = i) : lk (chn J (f + 1) (some j)) y i = lk (chn J f (jBs (J j))) (y + 1) i := by simp [chn, lk, h]
theorem xp_t {n k : Nat} {now age g : Int32} {J : Nat → Jr} (h : (fr n J k && decide (age < now - jEn (J k)) && !only n J k) = true) : xp n now age (k + 1) J g = xp n now age k (drJ J k) (g + 1) := by simp only [xp]; rw [if_pos h]
theorem xp_f {n k : Nat} {now age g : Int32} {J : Nat → Jr} (h : (fr n J k && decide (age < now - jEn (J k)) && !only n J k) = false) : xp n now age (k + 1) J g = xp n now age k J g := by simp only [xp]; rw [h]; simp
end
section
set_option maxHeartbeats 4000000 in
set_option maxRecDepth 100000 in
/-- pass -/
theorem kC_pass (l : Launch) (hst : l.stackTraces = false) (B : Nat) (D : va_G) (cI cZ cL : ClassId) (sa : Nat → Nat) (w : Wd) (o : Nat) (ad va : Nat → Nat) (now : Int32) (n : Nat) (J : Nat → Jr) (hR : cR cI o ad va now n J w) (x : Int32) : vx_Met l yC_pass (.code yC_pass cC_pass 2 (some .int) :: BIG) { frames := 6, cells := 1, slots := 6, locals := 82 } (va_Pc [.ref (o), .int (x)] (mPX B D CLS (TYS cI cZ cL) NEST sa w)) (va_Qi (fun r u => pOk now x = true ∧ r = now + x ∧ cR cI o ad va (now + x) n J u ∧ cK o ad va n w u) (mE B D CLS) (fun q => B ≤ q)) (mXC B D CLS "java/lang/IllegalArgumentException" (fun u => pOk now x = false ∧ u = w)) 1 6 (fun q => B ≤ q) := by
  refine mMetX (by decide) rfl (Nat.le_of_ble_eq_true rfl) ?_
  intro p e s m below meth c ls hx hb hml hr hlk hnm hown hts hK hN hX hno hm hl
  have hE : ME "ChainPicker" (.code yC_pass cC_pass 2 (some .int)) _ s m D (TYS cI cZ cL) := ⟨hown, hts, hK, hN⟩
  have hl : lv_has ls 2 [(0, .ref (o)), (1, .int (x))] := hl
  refine lv_iload_n hx hb dC_pass_0 rfl (lv_at hl 1 rfl) ?_
  refine lv_if_lt (tgt := 15) hx hb dC_pass_1 (by decide) (fun c_1 => ?_) (fun c_1 => ?_)
  · exact mthrow (sa1 := sa 0) hst hx hb hE hX hno hlk (by decide +kernel) q_192 q_6 hX.1 at_iae nt_iae ot_iae hm (by rw [hml]; exact hl.1) ⟨by simp [pOk, c_1], rfl⟩ dC_pass_15 dC_pass_18 dC_pass_19 dC_pass_21 dC_pass_24 (Nat.le_of_ble_eq_true rfl) (Nat.le_of_ble_eq_true rfl) (Nat.le_of_ble_eq_true rfl) (Nat.le_of_ble_eq_true rfl)
  · refine lv_iload_n hx hb dC_pass_4 rfl (lv_at hl 1 rfl) ?_
    refine lv_ldc (v := 1000000000) hx hb hE.1 (hE.2.1 _ (List.mem_cons_of_mem _ q_191)) dC_pass_5 ?_
    refine lv_aload_n hx hb dC_pass_7 rfl (lv_at hl 0 rfl) ?_
    refine g_C_C_9 (v := .int (now)) hx hb hE hm hR.1 rfl dC_pass_8 ?_
    refine lv_isub hx hb dC_pass_11 ?_
    refine lv_icmp_le (tgt := 25) hx hb dC_pass_12 (by decide) (fun c_12 => ?_) (fun c_12 => ?_)
    · refine lv_aload_n hx hb dC_pass_25 rfl (lv_at hl 0 rfl) ?_
      refine lv_dup hx hb dC_pass_26 rfl ?_
      refine g_C_C_9 (v := .int (now)) hx hb hE hm hR.1 rfl dC_pass_27 ?_
      refine lv_iload_n hx hb dC_pass_30 rfl (lv_at hl 1 rfl) ?_
      refine lv_iadd hx hb dC_pass_31 ?_
      refine p_C_C_9 (x := (now) + (x)) hx hb hE hm hR.1 (by simp) dC_pass_32 (fun H locs hm => ?_)
      obtain ⟨w1, hhw1⟩ : ∃ z : Wd, z = wset w (o) (.inr (1, [.int ((now) + (x)), .int (nI n), va_rf (prv ad n)])) := ⟨_, rfl⟩
      have hm : mS B D CLS s.heap w1 H locs := by rw [hhw1]; exact hm
      have hw1 : w1 = wset (w) (o) (.inr (1, [.int ((now) + (x)), .int (nI n), va_rf (prv ad n)])) := by rw [hhw1]
      have fw1 : w1 (o) = some (.inr (1, [.int ((now) + (x)), .int (nI n), va_rf (prv ad n)])) := by rw [hhw1]; exact wset_at _ _ _
      refine lv_aload_n hx hb dC_pass_35 rfl (lv_at hl 0 rfl) ?_
      refine g_C_C_9 (v := .int ((now) + (x))) hx hb hE hm fw1 rfl dC_pass_36 ?_
      refine W.widen (k := 1) (n := 6) (Nat.le_of_ble_eq_true rfl) (Nat.le_of_ble_eq_true rfl) ?_
      exact vx_ret (mreti hx hb hr hlk hm ⟨by simp [pOk, c_1, Int32.not_lt.mpr c_12], rfl, by rw [hw1]; exact hR.pass _, by rw [hw1]; exact cK.rf.set cF_o⟩ dC_pass_39)
    · exact mthrow (sa1 := sa 0) hst hx hb hE hX hno hlk (by decide +kernel) q_192 q_6 hX.1 at_iae nt_iae ot_iae hm (by rw [hml]; exact hl.1) ⟨by simp [pOk, Int32.not_le.mp c_12], rfl⟩ dC_pass_15 dC_pass_18 dC_pass_19 dC_pass_21 dC_pass_24 (Nat.le_of_ble_eq_true rfl) (Nat.le_of_ble_eq_true rfl) (Nat.le_of_ble_eq_true rfl) (Nat.le_of_ble_eq_true rfl)
set_option maxHeartbeats 4000000 in
set_option maxRecDepth 100000 in
/-- link -/
theorem kC_link (l : Launch) (hst : l.stackTraces = false) (B : Nat) (D : va_G) (cI cZ cL : ClassId) (sa : Nat → Nat) (w : Wd) (o : Nat) (ad va : Nat → Nat) (now : Int32) (n : Nat) (J : Nat → Jr) (hR : cR cI o ad va now n J w) (x t z : Int32) : vx_Met l yC_link (.code yC_link cC_link 6 (some .int) :: BIG) { frames := 6, cells := 1, slots := 6, locals := 82 } (va_Pc [.ref (o), .int (x), .int (t), .int (z)] (mPX B D CLS (TYS cI cZ cL) NEST sa w)) (va_Qi (fun r u => (∃ j, lk (chn J n (hd n J x t)) 0 z = some j ∧ r = nI j) ∧ u = w) (mE B D CLS) (fun q => B ≤ q)) (mXC B D CLS "java/lang/IndexOutOfBoundsException" (fun u => lk (chn J n (hd n J x t)) 0 z = none ∧ u = w)) 1 6 (fun q => B ≤ q) := by
  refine mMetX (by decide) rfl (Nat.le_of_ble_eq_true rfl) ?_
  intro p e s m below meth c ls hx hb hml hr hlk hnm hown hts hK hN hX hno hm hl
  have hE : ME "ChainPicker" (.code yC_link cC_link 6 (some .int)) _ s m D (TYS cI cZ cL) := ⟨hown, hts, hK, hN⟩
  have hl : lv_has ls 6 [(0, .ref (o)), (1, .int (x)), (2, .int (t)), (3, .int (z))] := hl
  have loop : ∀ (f : Nat) (h : Option Nat), (∀ i, h = some i → i < f ∧ i < n) → ∀ (y : Int32), lk (chn J n (hd n J x t)) 0 z = lk (chn J f h) y z → ∀ (H : Heap) (locs : List Loc) (ls : Array Slot), mS B D CLS s.heap w H locs → lv_has ls 6 [(5, va_rf (h.map ad)), (4, .int (y)), (0, .ref (o)), (1, .int (x)), (2, .int (t)), (3, .int (z))] → W p l e ({ frames := 6, cells := 1, slots := 6, locals := 82 }) s m [.ref (o), .int (x), .int (t), .int (z)].toArray below meth c H locs 0 0 (vx_MQ below (va_Qi (fun r u => (∃ j, lk (chn J n (hd n J x t)) 0 z = some j ∧ r = nI j) ∧ u = w) (mE B D CLS) (fun q => B ≤ q)) (mXC B D CLS "java/lang/IndexOutOfBoundsException" (fun u => lk (chn J n (hd n J x t)) 0 z = none ∧ u = w)) [.ref (o), .int (x), .int (t), .int (z)].toArray s 1 6 (fun q => B ≤ q)) (F0 m 11 ls []) := by
    intro f
    induction f with
    | zero =>
      intro h hlt y heq H locs ls hm hl
      cases h with
      | none =>
        have hl : lv_has ls 6 [(5, .null), (4, .int (y)), (0, .ref (o)), (1, .int (x)), (2, .int (t)), (3, .int (z))] := hl
        refine lv_aloadN hx hb dC_link_11 (lv_at hl 0 rfl) ?_
        refine lv_ifnullN (tgt := 41) hx hb dC_link_13 (by decide) ?_
        exact mthrow (sa1 := sa 1) hst hx hb hE hX hno hlk (by decide +kernel) q_267 q_9 hX.2.1 at_ioe nt_ioe ot_ioe hm (by rw [hml]; exact hl.1) ⟨by rw [heq, lk_n], rfl⟩ dC_link_41 dC_link_44 dC_link_45 dC_link_47 dC_link_50 (Nat.le_of_ble_eq_true rfl) (Nat.le_of_ble_eq_true rfl) (Nat.le_of_ble_eq_true rfl) (Nat.le_of_ble_eq_true rfl)
      | some i => exact absurd (hlt i rfl).1 (Nat.not_lt_zero _)
    | succ f ih =>
      intro h hlt y heq H locs ls hm hl
      cases h with
      | none =>
        have hl : lv_has ls 6 [(5, .null), (4, .int (y)), (0, .ref (o)), (1, .int (x)), (2, .int (t)), (3, .int (z))] := hl
        refine lv_aloadN hx hb dC_link_11 (lv_at hl 0 rfl) ?_
        refine lv_ifnullN (tgt := 41) hx hb dC_link_13 (by decide) ?_
        exact mthrow (sa1 := sa 1) hst hx hb hE hX hno hlk (by decide +kernel) q_267 q_9 hX.2.1 at_ioe nt_ioe ot_ioe hm (by rw [hml]; exact hl.1) ⟨by rw [heq, lk_n], rfl⟩ dC_link_41 dC_link_44 dC_link_45 dC_link_47 dC_link_50 (Nat.le_of_ble_eq_true rfl) (Nat.le_of_ble_eq_true rfl) (Nat.le_of_ble_eq_true rfl) (Nat.le_of_ble_eq_true rfl)
      | some i =>
        have hin : i < n := (hlt i rfl).2
        have hl : lv_has ls 6 [(5, .ref (ad i)), (4, .int (y)), (0, .ref (o)), (1, .int (x)), (2, .int (t)), (3, .int (z))] := hl
        refine lv_aload hx hb dC_link_11 (lv_at hl 0 rfl) ?_
        refine lv_ifnull hx hb dC_link_13 ?_
        refine lv_iload hx hb dC_link_16 (lv_at hl 1 rfl) ?_
        refine lv_iload_n hx hb dC_link_18 rfl (lv_at hl 5 rfl) ?_
        refine lv_icmp_ne (tgt := 28) hx hb dC_link_19 (by decide) (fun c_19 => ?_) (fun c_19 => ?_)
        · refine lv_iinc (v := y + 1) (lv' := [(4, .int (y + 1)), (5, .ref (ad i)), (0, .ref (o)), (1, .int (x)), (2, .int (t)), (3, .int (z))]) hx hb dC_link_28 hl (k := 1) rfl rfl (by decide) rfl (fun ls hl => ?_)
          refine lv_aload hx hb dC_link_31 (lv_at hl 1 rfl) ?_
          refine g_C_J_79 (v := va_rf ((jBs (J i)).map ad)) hx hb hE hm (hR.2.1 i hin) rfl dC_link_33 ?_
          refine mstoreR2 (lv' := [(5, va_rf ((jBs (J i)).map ad)), (4, .int (y + 1)), (0, .ref (o)), (1, .int (x)), (2, .int (t)), (3, .int (z))]) hx hb dC_link_36 hl (by decide) rfl (fun ls hl => ?_)
          refine lv_goto (tgt := 11) hx hb dC_link_38 (by decide) ?_
          exact ih (jBs (J i)) (fun b hb => ⟨Nat.lt_of_lt_of_le (hR.bs hin hb) (Nat.le_of_lt_succ (hlt i rfl).1), Nat.lt_trans (hR.bs hin hb) hin⟩) (y + 1) (by rw [heq, lk_f c_19]) H locs ls hm (lv_sub hl [0, 1, 2, 3, 4, 5] rfl)
        · refine lv_aload hx hb dC_link_22 (lv_at hl 0 rfl) ?_
          refine g_C_J_50 (v := .int (nI i)) hx hb hE hm (hR.2.1 i hin) rfl dC_link_24 ?_
          refine W.widen (k := 1) (n := 6) (Nat.le_of_ble_eq_true rfl) (Nat.le_of_ble_eq_true rfl) ?_
          exact vx_ret (mreti hx hb hr hlk hm ⟨⟨i, by rw [heq, lk_t c_19], rfl⟩, rfl⟩ dC_link_27)
  refine lv_iconst (v := 0) hx hb dC_link_0 (by decide) ?_
  refine lv_istore (lv' := [(4, .int (0)), (0, .ref (o)), (1, .int (x)), (2, .int (t)), (3, .int (z))]) hx hb dC_link_1 hl (by decide) rfl (fun ls hl => ?_)
  refine lv_aload_n hx hb dC_link_3 rfl (lv_at hl 1 rfl) ?_
  refine lv_iload_n hx hb dC_link_4 rfl (lv_at hl 2 rfl) ?_
  refine lv_iload_n hx hb dC_link_5 rfl (lv_at hl 3 rfl) ?_
  refine mcallq (mcV (n := 2) (As := [.int (x), .int (t)]) (rest := []) hx hb hml hE (kC_findHead l B D cI cZ cL w o ad va now n J hR x t) q_131 q_133 qs_3 q_1 q_134 rfl rfl (by decide +kernel) ⟨Nat.le_of_ble_eq_true rfl, Nat.le_of_ble_eq_true rfl⟩ rfl hl.1 hm rfl hR.1 rfl (Nat.le_of_ble_eq_true rfl) dC_link_6 ⟨Nat.le_of_ble_eq_true rfl, Nat.le_of_ble_eq_true rfl⟩) hm (fun r1 u1 H locs hp1 hm => ?_)
  obtain ⟨hr1, hu1⟩ := hp1
  rw [hu1] at hm
  refine mstoreR2 (lv' := [(5, va_rf (r1)), (4, .int (0)), (0, .ref (o)), (1, .int (x)), (2, .int (t)), (3, .int (z))]) hx hb dC_link_9 hl (by decide) rfl (fun ls hl => ?_)
  subst hr1
  exact loop n _ (fun i hi => ⟨hd_lt i hi, hd_lt i hi⟩) 0 rfl _ _ ls hm (lv_sub hl [0, 1, 2, 3, 4, 5] rfl)
set_option maxHeartbeats 4000000 in
set_option maxRecDepth 100000 in
/-- expire -/
theorem kC_expire (l : Launch) (hst : l.stackTraces = false) (B : Nat) (D : va_G) (cI cZ cL : ClassId) (sa : Nat → Nat) (w : Wd) (o : Nat) (ad va : Nat → Nat) (now : Int32) (n : Nat) (J : Nat → Jr) (hR : cR cI o ad va now n J w) (x : Int32) : vx_Met l yC_expire (.code yC_expire cC_expire 4 (some .int) :: BIG) { frames := 6, cells := 1, slots := 6, locals := 82 } (va_Pc [.ref (o), .int (x)] (mPX B D CLS (TYS cI cZ cL) NEST sa w)) (va_Qi (fun r u => ¬ x < 0 ∧ r = (xp n now x n J 0).2 ∧ cR cI o ad va now n (xp n now x n J 0).1 u ∧ cK o ad va n w u) (mE B D CLS) (fun q => B ≤ q)) (mXC B D CLS "java/lang/IllegalArgumentException" (fun u => x < 0 ∧ u = w)) 1 6 (fun q => B ≤ q) := by
  refine mMetX (by decide) rfl (Nat.le_of_ble_eq_true rfl) ?_
  intro p e s m below meth c ls hx hb hml hr hlk hnm hown hts hK hN hX hno hm hl
  have hE : ME "ChainPicker" (.code yC_expire cC_expire 4 (some .int)) _ s m D (TYS cI cZ cL) := ⟨hown, hts, hK, hN⟩
  have hl : lv_has ls 4 [(0, .ref (o)), (1, .int (x))] := hl
  have loop : ¬ x < 0 → ∀ k, k ≤ n → ∀ (K : Nat → Jr) (g : Int32) (v : Wd), cR cI o ad va now n K v → cK o ad va n w v → xp n now x n J 0 = xp n now x k K g → ∀ (H : Heap) (locs : List Loc) (ls : Array Slot), mS B D CLS s.heap v H locs → lv_has ls 4 [(3, va_rf (prv ad k)), (2, .int (g)), (0, .ref (o)), (1, .int (x))] → W p l e ({ frames := 6, cells := 1, slots := 6, locals := 82 }) s m [.ref (o), .int (x)].toArray below meth c H locs 0 0 (vx_MQ below (va_Qi (fun r u => ¬ x < 0 ∧ r = (xp n now x n J 0).2 ∧ cR cI o ad va now n (xp n now x n J 0).1 u ∧ cK o ad va n w u) (mE B D CLS) (fun q => B ≤ q)) (mXC B D CLS "java/lang/IllegalArgumentException" (fun u => x < 0 ∧ u = w)) [.ref (o), .int (x)].toArray s 1 6 (fun q => B ≤ q)) (F0 m 21 ls []) := by
    intro hx0 k
    induction k with
    | zero =>
      intro hk K g v hK1 hK2 heq H locs ls hm hl
      have hl : lv_has ls 4 [(3, .null), (2, .int (g)), (0, .ref (o)), (1, .int (x))] := hl
      refine lv_aload_nN hx hb dC_expire_21 rfl (lv_at hl 0 rfl) ?_
      refine lv_ifnullN (tgt := 68) hx hb dC_expire_22 (by decide) ?_
      refine lv_iload_n hx hb dC_expire_68 rfl (lv_at hl 1 rfl) ?_
      refine W.widen (k := 1) (n := 6) (Nat.le_of_ble_eq_true rfl) (Nat.le_of_ble_eq_true rfl) ?_
      exact vx_ret (mreti hx hb hr hlk hm ⟨hx0, by rw [heq]; rfl, by rw [heq]; exact hK1, hK2⟩ dC_expire_69)
    | succ k ih =>
      intro hk K g v hK1 hK2 heq H locs ls hm hl
      have hl : lv_has ls 4 [(3, .ref (ad k)), (2, .int (g)), (0, .ref (o)), (1, .int (x))] := hl
      have hk1 : k < n := hk
      refine lv_aload_n hx hb dC_expire_21 rfl (lv_at hl 0 rfl) ?_
      refine lv_ifnull hx hb dC_expire_22 ?_
      refine lv_aload_n hx hb dC_expire_25 rfl (lv_at hl 0 rfl) ?_
      refine mcalli (mcS (n := 1) (As := [.ref (ad k)]) (rest := []) hx hb hml hE (kC_isFree l B D cI cZ cL v (ad k) _ _ _ _ _ _ _ _ _ _ _ _ (hK1.2.1 k hk1)) q_157 q_158 q_1 q_159 rfl rfl (by decide +kernel) ⟨Nat.le_of_ble_eq_true rfl, Nat.le_of_ble_eq_true rfl⟩ rfl hl.1 hm rfl (Nat.le_of_ble_eq_true rfl) dC_expire_26 ⟨Nat.le_of_ble_eq_true rfl, Nat.le_of_ble_eq_true rfl⟩) hm (fun r1 u1 H locs hp1 hm => ?_)
      obtain ⟨hr1, hu1⟩ := hp1
      rw [hu1] at hm
      have hr1 := fr_r hK1.n200 hr1
      refine lv_if_eq (tgt := 60) hx hb dC_expire_29 (by decide) (fun c_29 => ?_) (fun c_29 => ?_)
      · rw [hr1, bI_0] at c_29
        refine lv_aload_n hx hb dC_expire_60 rfl (lv_at hl 0 rfl) ?_
        refine g_C_J_108 (v := va_rf (prv ad k)) hx hb hE hm (hK1.2.1 k hk1) rfl dC_expire_61 ?_
        refine mstoreR (lv' := [(3, va_rf (prv ad k)), (2, .int (g)), (0, .ref (o)), (1, .int (x))]) hx hb dC_expire_64 rfl hl (by decide) rfl (fun ls hl => ?_)
        refine lv_goto (tgt := 21) hx hb dC_expire_65 (by decide) ?_
        exact ih (Nat.le_of_succ_le hk) K g v hK1 hK2 (by rw [heq, xp_f (by simp [c_29, ← Int32.not_le])]) H locs ls hm (lv_sub hl [0, 1, 2, 3] rfl)
      · rw [hr1, bI_0] at c_29
        refine lv_aload_n hx hb dC_expire_32 rfl (lv_at hl 2 rfl) ?_
        refine g_C_C_9 (v := .int (now)) hx hb hE hm hK1.1 rfl dC_expire_33 ?_
        refine lv_aload_n hx hb dC_expire_36 rfl (lv_at hl 0 rfl) ?_
        refine g_C_J_73 (v := .int (jEn (K k))) hx hb hE hm (hK1.2.1 k hk1) rfl dC_expire_37 ?_
        refine lv_isub hx hb dC_expire_40 ?_
        refine lv_iload_n hx hb dC_expire_41 rfl (lv_at hl 3 rfl) ?_
        refine lv_icmp_le (tgt := 60) hx hb dC_expire_42 (by decide) (fun c_42 => ?_) (fun c_42 => ?_)
        · refine lv_aload_n hx hb dC_expire_60 rfl (lv_at hl 0 rfl) ?_
          refine g_C_J_108 (v := va_rf (prv ad k)) hx hb hE hm (hK1.2.1 k hk1) rfl dC_expire_61 ?_
          refine mstoreR (lv' := [(3, va_rf (prv ad k)), (2, .int (g)), (0, .ref (o)), (1, .int (x))]) hx hb dC_expire_64 rfl hl (by decide) rfl (fun ls hl => ?_)
          refine lv_goto (tgt := 21) hx hb dC_expire_65 (by decide) ?_
          exact ih (Nat.le_of_succ_le hk) K g v hK1 hK2 (by rw [heq, xp_f (by simp [c_29, c_42, ← Int32.not_le])]) H locs ls hm (lv_sub hl [0, 1, 2, 3] rfl)
        · refine lv_aload_n hx hb dC_expire_45 rfl (lv_at hl 2 rfl) ?_
          refine lv_aload_n hx hb dC_expire_46 rfl (lv_at hl 0 rfl) ?_
          refine mcalli (mcV (n := 1) (As := [.ref (ad k)]) (rest := []) hx hb hml hE (kC_isOnlyGoodFull l B D cI cZ cL v o ad va now n K hK1 k hk1) q_291 q_293 qs_7 q_1 q_294 rfl rfl (by decide +kernel) ⟨Nat.le_of_ble_eq_true rfl, Nat.le_of_ble_eq_true rfl⟩ rfl hl.1 hm rfl hK1.1 rfl (Nat.le_of_ble_eq_true rfl) dC_expire_47 ⟨Nat.le_of_ble_eq_true rfl, Nat.le_of_ble_eq_true rfl⟩) hm (fun r2 u2 H locs hp2 hm => ?_)
          obtain ⟨hr2, hu2⟩ := hp2
          rw [hu2] at hm
          refine lv_if_ne (tgt := 60) hx hb dC_expire_50 (by decide) (fun c_50 => ?_) (fun c_50 => ?_)
          · rw [hr2, bI_0] at c_50
            refine lv_aload_n hx hb dC_expire_60 rfl (lv_at hl 0 rfl) ?_
            refine g_C_J_108 (v := va_rf (prv ad k)) hx hb hE hm (hK1.2.1 k hk1) rfl dC_expire_61 ?_
            refine mstoreR (lv' := [(3, va_rf (prv ad k)), (2, .int (g)), (0, .ref (o)), (1, .int (x))]) hx hb dC_expire_64 rfl hl (by decide) rfl (fun ls hl => ?_)
            refine lv_goto (tgt := 21) hx hb dC_expire_65 (by decide) ?_
            exact ih (Nat.le_of_succ_le hk) K g v hK1 hK2 (by rw [heq, xp_f (by simp [c_29, c_42, c_50, ← Int32.not_le])]) H locs ls hm (lv_sub hl [0, 1, 2, 3] rfl)
          · rw [hr2, bI_0] at c_50
            refine lv_aload_n hx hb dC_expire_53 rfl (lv_at hl 0 rfl) ?_
            refine mcallv (mcS (n := 1) (As := [.ref (ad k)]) (rest := []) hx hb hml hE (kC_drop l B D cI cZ cL v o ad va now n K hK1 k hk1 (fr_pr (by simpa using c_29))) q_160 q_161 q_1 q_162 rfl rfl (by decide +kernel) ⟨Nat.le_of_ble_eq_true rfl, Nat.le_of_ble_eq_true rfl⟩ rfl hl.1 hm rfl (Nat.le_of_ble_eq_true rfl) dC_expire_54 ⟨Nat.le_of_ble_eq_true rfl, Nat.le_of_ble_eq_true rfl⟩) hm (fun u3 H locs hp3 hm => ?_)
            refine lv_iinc (v := g + 1) (lv' := [(2, .int (g + 1)), (3, .ref (ad k)), (0, .ref (o)), (1, .int (x))]) hx hb dC_expire_57 hl (k := 1) rfl rfl (by decide) rfl (fun ls hl => ?_)
            refine lv_aload_n hx hb dC_expire_60 rfl (lv_at hl 1 rfl) ?_
            refine g_C_J_108 (v := va_rf (prv ad k)) hx hb hE hm (hp3.1.2.1 k hk1) rfl dC_expire_61 ?_
            refine mstoreR (lv' := [(3, va_rf (prv ad k)), (2, .int (g + 1)), (0, .ref (o)), (1, .int (x))]) hx hb dC_expire_64 rfl hl (by decide) rfl (fun ls hl => ?_)
            refine lv_goto (tgt := 21) hx hb dC_expire_65 (by decide) ?_
            exact ih (Nat.le_of_succ_le hk) (drJ K k) (g + 1) u3 hp3.1 (hK2.tr hp3.2) (by rw [heq, xp_t (by simp [c_29, c_42, c_50, ← Int32.not_le])]) H locs ls hm (lv_sub hl [0, 1, 2, 3] rfl)
  refine lv_iload_n hx hb dC_expire_0 rfl (lv_at hl 1 rfl) ?_
  refine lv_if_ge (tgt := 14) hx hb dC_expire_1 (by decide) (fun c_1 => ?_) (fun c_1 => ?_)
  · refine lv_iconst (v := 0) hx hb dC_expire_14 (by decide) ?_
    refine lv_istore_n (lv' := [(2, .int (0)), (0, .ref (o)), (1, .int (x))]) hx hb dC_expire_15 rfl hl (by decide) rfl (fun ls hl => ?_)
    refine lv_aload_n hx hb dC_expire_16 rfl (lv_at hl 1 rfl) ?_
    refine g_C_C_16 (v := va_rf (prv ad n)) hx hb hE hm hR.1 rfl dC_expire_17 ?_
    refine mstoreR (lv' := [(3, va_rf (prv ad n)), (2, .int (0)), (0, .ref (o)), (1, .int (x))]) hx hb dC_expire_20 rfl hl (by decide) rfl (fun ls hl => ?_)
    exact loop (by simpa using c_1) n (Nat.le_refl n) J 0 w hR cK.rf rfl _ _ ls hm (lv_sub hl [0, 1, 2, 3] rfl)
  · exact mthrow (sa1 := sa 2) hst hx hb hE hX hno hlk (by decide +kernel) q_192 q_6 hX.2.2.1 at_iae nt_iae ot_iae hm (by rw [hml]; exact hl.1) ⟨by simpa using c_1, rfl⟩ dC_expire_4 dC_expire_7 dC_expire_8 dC_expire_10 dC_expire_13 (Nat.le_of_ble_eq_true rfl) (Nat.le_of_ble_eq_true rfl) (Nat.le_of_ble_eq_true rfl) (Nat.le_of_ble_eq_true rfl)
end
section
/-! THE REFERENCE'S CELLS -/
def rT (cI cZ : ClassId) : Nat → ClassId
  | 2 => cZ
  | 7 => cZ
  | _ => cI
def rN : Nat → Nat
  | 8 => 10000
  | _ => 200
/-- what the arrays hold of the jobs -/
def gOk (g : Nat → Nat → Int32) (n : Nat) (J : Nat → Jr) : Prop := ∀ i, i < n → g 0 i = jSer (J i) ∧ g 1 i = jLev (J i) ∧ g 2 i = bI (jUp (J i)) ∧ g 3 i = oI (jBs (J i)) ∧ g 4 i = jBg (J i) ∧ g 5 i = jEn (J i) ∧ g 6 i = jSt (J i) ∧ g 7 i = bI (jPr (J i)) ∧ ∀ f, f < 50 → g 8 (50 * i + f) = jVr (J i) f
def rR (cI cZ : ClassId) (r : Nat) (as : Nat → Nat) (g : Nat → Nat → Int32) (thr now : Int32) (n : Nat) (J : Nat → Jr) (w : Wd) : Prop :=
  w r = some (.inr (2, [.int thr, .int now, .int (nI n), .ref (as 0), .ref (as 1), .ref (as 2), .ref (as 3), .ref (as 4), .ref (as 5), .ref (as 6), .ref (as 7), .ref (as 8)])) ∧ (∀ k, k < 9 → w (as k) = some (.inl (rT cI cZ k, rN k, .inl (g k)))) ∧ (∀ i j, i < 9 → j < 9 → as i = as j → i = j) ∧ n ≤ 200 ∧ gOk g n J ∧ ∀ i, i < n → ∀ b, jBs (J i) = some b → b < i
/-- began never falls; what is told is a version, gone, or nothing -/
def mW (now : Int32) (n : Nat) (J : Nat → Jr) : Prop := (∀ i j, i ≤ j → j < n → jBg (J i) ≤ jBg (J j)) ∧ (∀ i, i < n → jBg (J i) ≤ now) ∧ ∀ i, i < n → ∀ f, jVr (J i) f = -2 ∨ jVr (J i) f = -1 ∨ 0 ≤ jVr (J i) f
def rF (r : Nat) (as : Nat → Nat) (q : Nat) : Prop := q = r ∨ ∃ i, i < 9 ∧ q = as i
def rK (r : Nat) (as : Nat → Nat) (w u : Wd) : Prop := ∀ q, ¬ rF r as q → u q = w q
section RREP
variable {cI cZ : ClassId} {r : Nat} {as : Nat → Nat} {g : Nat → Nat → Int32} {thr now : Int32} {n : Nat} {J : Nat → Jr} {w : Wd}
theorem rR.a0 (h : rR cI cZ r as g thr now n J w) : w (as 0) = some (.inl (cI, 200, .inl (g 0))) := h.2.1 0 (by decide)
theorem rR.a1 (h : rR cI cZ r as g thr now n J w) : w (as 1) = some (.inl (cI, 200, .inl (g 1))) := h.2.1 1 (by decide)
theorem rR.a2 (h : rR cI cZ r as g thr now n J w) : w (as 2) = some (.inl (cZ, 200, .inl (g 2))) := h.2.1 2 (by decide)
theorem rR.a3 (h : rR cI cZ r as g thr now n J w) : w (as 3) = some (.inl (cI, 200, .inl (g 3))) := h.2.1 3 (by decide)
theorem rR.a4 (h : rR cI cZ r as g thr now n J w) : w (as 4) = some (.inl (cI, 200, .inl (g 4))) := h.2.1 4 (by decide)
theorem rR.a5 (h : rR cI cZ r as g thr now n J w) : w (as 5) = some (.inl (cI, 200, .inl (g 5))) := h.2.1 5 (by decide)
theorem rR.a6 (h : rR cI cZ r as g thr now n J w) : w (as 6) = some (.inl (cI, 200, .inl (g 6))) := h.2.1 6 (by decide)
theorem rR.a7 (h : rR cI cZ r as g thr now n J w) : w (as 7) = some (.inl (cZ, 200, .inl (g 7))) := h.2.1 7 (by decide)
theorem rR.a8 (h : rR cI cZ r as g thr now n J w) : w (as 8) = some (.inl (cI, 10000, .inl (g 8))) := h.2.1 8 (by decide)
theorem rR.g0 (h : rR cI cZ r as g thr now n J w) {i : Nat} (hi : i < n) : g 0 i = jSer (J i) := (h.2.2.2.2.1 i hi).1
theorem rR.g1 (h : rR cI cZ r as g thr now n J w) {i : Nat} (hi : i < n) : g 1 i = jLev (J i) := (h.2.2.2.2.1 i hi).2.1
theorem rR.g2 (h : rR cI cZ r as g thr now n J w) {i : Nat} (hi : i < n) : g 2 i = bI (jUp (J i)) := (h.2.2.2.2.1 i hi).2.2.1
theorem rR.g3 (h : rR cI cZ r as g thr now n J w) {i : Nat} (hi : i < n) : g 3 i = oI (jBs (J i)) := (h.2.2.2.2.1 i hi).2.2.2.1
theorem rR.g4 (h : rR cI cZ r as g thr now n J w) {i : Nat} (hi : i < n) : g 4 i = jBg (J i) := (h.2.2.2.2.1 i hi).2.2.2.2.1
theorem rR.g5 (h : rR cI cZ r as g thr now n J w) {i : Nat} (hi : i < n) : g 5 i = jEn (J i) := (h.2.2.2.2.1 i hi).2.2.2.2.2.1
theorem rR.g6 (h : rR cI cZ r as g thr now n J w) {i : Nat} (hi : i < n) : g 6 i = jSt (J i) := (h.2.2.2.2.1 i hi).2.2.2.2.2.2.1
theorem rR.g7 (h : rR cI cZ r as g thr now n J w) {i : Nat} (hi : i < n) : g 7 i = bI (jPr (J i)) := (h.2.2.2.2.1 i hi).2.2.2.2.2.2.2.1
theorem rR.g8 (h : rR cI cZ r as g thr now n J w) {i f : Nat} (hi : i < n) (hf : f < 50) : g 8 (50 * i + f) = jVr (J i) f := (h.2.2.2.2.1 i hi).2.2.2.2.2.2.2.2 f hf
theorem rR.n200 (h : rR cI cZ r as g thr now n J w) : n ≤ 200 := h.2.2.2.1
theorem rR.bs (h : rR cI cZ r as g thr now n J w) {i b : Nat} (hi : i < n) (hb : jBs (J i) = some b) : b < i := h.2.2.2.2.2 i hi b hb
theorem rR.ne (h : rR cI cZ r as g thr now n J w) {k : Nat} (hk : k < 9) : as k ≠ r := by
  intro e
  have h1 := h.2.1 k hk
  rw [e, h.1] at h1
  cases h1
theorem rR.nn (h : rR cI cZ r as g thr now n J w) {i j : Nat} (hi : i < 9) (hj : j < 9) (hn : i ≠ j) : as i ≠ as j := fun e => hn (h.2.2.1 i j hi hj e)
theorem rR.set (h : rR cI cZ r as g thr now n J w) (t nw : Int32) : rR cI cZ r as g t nw n J (wset w r (.inr (2, [.int t, .int nw, .int (nI n), .ref (as 0), .ref (as 1), .ref (as 2), .ref (as 3), .ref (as 4), .ref (as 5), .ref (as 6), .ref (as 7), .ref (as 8)]))) :=
  ⟨wset_at _ _ _, fun k hk => by rw [wset_ne (h.ne hk)]; exact h.2.1 k hk, h.2.2⟩
theorem rK.rf : rK r as w w := fun _ _ => rfl
theorem rK.tr {u v : Wd} (h1 : rK r as w u) (h2 : rK r as u v) : rK r as w v := fun q hq => (h2 q hq).trans (h1 q hq)
theorem rK.set {u : Wd} {a : Nat} {x : va_E} (h : rK r as w u) (ha : rF r as a) : rK r as w (wset u a x) := fun q hq => by
  have hqa : q ≠ a := by
    intro e
    rw [e] at hq
    exact hq ha
  rw [wset_ne hqa]
  exact h q hq
theorem rF_r : rF r as r := Or.inl rfl
theorem rF_a {k : Nat} (hk : k < 9) : rF r as (as k) := Or.inr ⟨k, hk, rfl⟩
end RREP
theorem oI_n {o : Option Nat} (h : ∀ i, o = some i → i < 2 ^ 31) : oI o < 0 ↔ o = none := by
  cases o with
  | none => simp [oI]
  | some i => simp only [oI]; constructor; (intro q; exact absurd q (nI_pos (h i rfl))); (intro q; cases q)
theorem fJ_iff {n : Nat} (hn : n ≤ 200) (x : Int32) : (fJ n x).isSome = (decide (0 ≤ x) && decide (x < nI n)) := by
  cases h : fJ n x with
  | none =>
    have h1 := lastI_none.mp h
    symm
    simp only [Option.isSome_none, Bool.and_eq_false_iff, decide_eq_false_iff_not]
    rcases pk_ix x (n := n) (by omega) with h2 | h2 | ⟨j, hj, rfl⟩
    · left; rw [Int32.not_le]; exact h2
    · right; rw [Int32.not_lt]; exact h2
    · have := h1 j hj; simp at this
  | some i =>
    obtain ⟨h1, h2⟩ := fJ_lt h
    rw [← h2]
    simp [nI_pos' (show i < 2 ^ 31 by omega), nI_lt h1 (show n < 2 ^ 31 by omega)]
theorem fJ_some {n : Nat} (hn : n ≤ 200) {i : Nat} (hi : i < n) : fJ n (nI i) = some i := by
  cases h : fJ n (nI i) with
  | none => have := lastI_none.mp h i hi; simp at this
  | some j =>
    obtain ⟨h1, h2⟩ := fJ_lt h
    rw [(nI_eq (by omega) (by omega)).mp h2]
theorem oI_eq {o : Option Nat} {i : Nat} (h : ∀ b, o = some b → b < 2 ^ 31) (hi : i < 2 ^ 31) : oI o = nI i ↔ o = some i := by
  cases o with
  | none =>
    simp only [oI]
    constructor
    · intro e
      have h1 := nI_pos hi
      rw [← e] at h1
      exact absurd (by decide) h1
    · intro e; cases e
  | some b =>
    simp only [oI]
    rw [nI_eq (h b rfl) hi]
    constructor
    · intro e; rw [e]
    · intro e; cases e; rfl
theorem nI_eq0 {k : Nat} (h : k < 2 ^ 31) : nI k = 0 ↔ k = 0 := by
  rw [← nI_0]
  exact nI_eq h (by omega)
theorem i50 {i k : Nat} {x : Int32} (hx : x = nI k) : (50 : Int32) * (nI i) + x = nI (50 * i + k) := by
  rw [hx, show (50 : Int32) = nI 50 from rfl, pk_mul, nI_add]
def lastP (J : Nat → Jr) (s l : Int32) : Nat → Bool := fun k => decide (jSer (J k) = s) && uz (J k) && (decide (l < 0) || decide (jLev (J k) = l))
def headP (J : Nat → Jr) (s t : Int32) : Nat → Bool := fun k => decide (jSer (J k) = s) && uz (J k) && decide (jEn (J k) ≤ t)
def onlyP (J : Nat → Jr) (i : Nat) : Nat → Bool := fun k => decide (k ≠ i) && decide (jSer (J k) = jSer (J i)) && decide (jLev (J k) = 0) && uz (J k)
def onlyR (n : Nat) (J : Nat → Jr) (i : Nat) : Bool := decide (jSt (J i) = 1) && decide (jLev (J i) = 0) && (lastI (onlyP J i) n).isNone
theorem onlyR_eq {n : Nat} {J : Nat → Jr} {i : Nat} (h : jPr (J i) = false) : onlyR n J i = only n J i := by
  unfold onlyR only
  rw [show uz (J i) = decide (jSt (J i) = 1) by simp [uz, h]]
  rw [Bool.and_comm (decide (jSt (J i) = 1))]
  rfl
theorem hd_eq {n : Nat} {J : Nat → Jr} {s t : Int32} : lastI (headP J s t) n = hd n J s t := rfl
theorem lastP_eq {n : Nat} {J : Nat → Jr} {s l : Int32} (hl : l = 1 ∨ l = 2) : lastI (lastP J s (if l = 1 then 0 else -1)) n = bOf n J s l := by
  unfold bOf
  rcases hl with rfl | rfl
  · rw [if_neg (show ¬ (1 : Int32) = 0 by decide), if_pos rfl]
    congr 1
  · rw [if_neg (show ¬ (2 : Int32) = 0 by decide), if_neg (show ¬ (2 : Int32) = 1 by decide)]
    congr 1
theorem lastI_fd {p : Nat → Bool} {n i : Nat} (hi : i < n) (h : p i = true) : (lastI p n).isNone = false := by
  cases hq : lastI p n with
  | none => have := lastI_none.mp hq i hi; rw [h] at this; cases this
  | some j => rfl
theorem chn_len (J : Nat → Jr) : ∀ (f : Nat) (o : Option Nat), (chn J f o).length ≤ f := by
  intro f
  induction f with
  | zero => intro o; simp [chn]
  | succ f ih =>
    intro o
    cases o with
    | none => simp [chn]
    | some i => simp only [chn, List.length_cons]; have := ih (jBs (J i)); omega
theorem lk_neg {z : Int32} (hz : z < 0) : ∀ (L : List Nat) (p : Nat), p + L.length < 2 ^ 31 → lk L (nI p) z = none := by
  intro L
  induction L with
  | nil => intro p _; rfl
  | cons j t ih =>
    intro p hp
    simp only [List.length_cons] at hp
    have hne : ¬ nI p = z := fun e => by rw [← e] at hz; exact nI_pos (by omega) hz
    simp only [lk]
    rw [if_neg hne, nI_1]
    exact ih (p + 1) (by omega)
theorem ver_neg {now : Int32} {n : Nat} {J : Nat → Jr} (hM : mW now n J) (hb : ∀ i, i < n → ∀ b, jBs (J i) = some b → b < i) {o : Option Nat} {x : Int32} (ho : ∀ i, o = some i → i < n) : ver n J o x < 0 ↔ ver n J o x = -1 := by
  unfold ver
  cases h : tel n J o x with
  | none => simp
  | some j =>
    obtain ⟨h1, -, h3⟩ := tel_lt hb ho h
    simp only
    rcases hM.2.2 j h1 x.toNatClampNeg with h2 | h2 | h2
    · exact absurd h2 h3
    · rw [h2]; decide
    · constructor
      · intro q; exact absurd h2 (by rw [Int32.not_le]; exact q)
      · intro q; rw [q] at h2; exact absurd h2 (by decide)
end
section
set_option maxHeartbeats 4000000 in
set_option maxRecDepth 100000 in
theorem kM_isJob (l : Launch) (B : Nat) (D : va_G) (cI cZ cL : ClassId) (w : Wd) (r : Nat) (as : Nat → Nat) (g : Nat → Nat → Int32) (thr now : Int32) (n : Nat) (J : Nat → Jr) (hR : rR cI cZ r as g thr now n J w) (x : Int32) : Met l yM_isJob (.code yM_isJob cM_isJob 2 (some .boolean) :: BIG) { frames := 0, cells := 0, slots := 0, locals := 0 } (va_Pc [.ref (r), .int (x)] (mP B D CLS (TYS cI cZ cL) NEST w)) (va_Qi (fun z u => z = bI ((fJ n x).isSome) ∧ u = w) (mE B D CLS) (fun q => B ≤ q)) 0 0 (fun q => B ≤ q) := by
  refine mMet (by decide) rfl (Nat.le_of_ble_eq_true rfl) ?_
  intro p e s m below meth c ls hx hb hml hr hlk hnm hown hts hK hN hm hl
  have hE : ME "ChainPickerModel" (.code yM_isJob cM_isJob 2 (some .boolean)) _ s m D (TYS cI cZ cL) := ⟨hown, hts, hK, hN⟩
  have hl : lv_has ls 2 [(0, .ref (r)), (1, .int (x))] := hl
  have hn200 := hR.n200
  refine lv_iload_n hx hb dM_isJob_0 rfl (lv_at hl 1 rfl) ?_
  refine lv_if_lt (tgt := 16) hx hb dM_isJob_1 (by decide) (fun c_1 => ?_) (fun c_1 => ?_)
  · refine lv_iconst (v := 0) hx hb dM_isJob_16 (by decide) ?_
    exact mretz hx hb hr (by decide +kernel) hlk hm ⟨by rw [fJ_iff hR.n200]; simp [bI, c_1, ← Int32.not_lt], rfl⟩ dM_isJob_17
  · refine lv_iload_n hx hb dM_isJob_4 rfl (lv_at hl 1 rfl) ?_
    refine lv_aload_n hx hb dM_isJob_5 rfl (lv_at hl 0 rfl) ?_
    refine g_M_M_46 (v := .int (nI n)) hx hb hE hm hR.1 rfl dM_isJob_6 ?_
    refine lv_icmp_ge (tgt := 16) hx hb dM_isJob_9 (by decide) (fun c_9 => ?_) (fun c_9 => ?_)
    · rw [← Int32.not_lt] at c_9
      refine lv_iconst (v := 0) hx hb dM_isJob_16 (by decide) ?_
      exact mretz hx hb hr (by decide +kernel) hlk hm ⟨by rw [fJ_iff hR.n200]; simp [bI, c_1, c_9, ← Int32.not_lt], rfl⟩ dM_isJob_17
    · rw [Int32.not_le] at c_9
      refine lv_iconst (v := 1) hx hb dM_isJob_12 (by decide) ?_
      refine lv_goto (tgt := 17) hx hb dM_isJob_13 (by decide) ?_
      exact mretz hx hb hr (by decide +kernel) hlk hm ⟨by rw [fJ_iff hR.n200]; simp [bI, c_1, c_9, ← Int32.not_lt], rfl⟩ dM_isJob_17
set_option maxHeartbeats 4000000 in
set_option maxRecDepth 100000 in
theorem kM_lastOne (l : Launch) (B : Nat) (D : va_G) (cI cZ cL : ClassId) (w : Wd) (r : Nat) (as : Nat → Nat) (g : Nat → Nat → Int32) (thr now : Int32) (n : Nat) (J : Nat → Jr) (hR : rR cI cZ r as g thr now n J w) (hM : mW now n J) (s0 l0 : Int32) : Met l yM_lastOne (.code yM_lastOne cM_lastOne 5 (some .int) :: BIG) { frames := 0, cells := 0, slots := 0, locals := 0 } (va_Pc [.ref (r), .int (s0), .int (l0)] (mP B D CLS (TYS cI cZ cL) NEST w)) (va_Qi (fun z u => z = oI (lastI (lastP J s0 l0) n) ∧ u = w) (mE B D CLS) (fun q => B ≤ q)) 0 0 (fun q => B ≤ q) := by
  refine mMet (by decide) rfl (Nat.le_of_ble_eq_true rfl) ?_
  intro p e s m below meth c ls hx hb hml hr hlk hnm hown hts hK hN hm hl
  have hE : ME "ChainPickerModel" (.code yM_lastOne cM_lastOne 5 (some .int)) _ s m D (TYS cI cZ cL) := ⟨hown, hts, hK, hN⟩
  have hl : lv_has ls 5 [(0, .ref (r)), (1, .int (s0)), (2, .int (l0))] := hl
  have hn200 := hR.n200
  have loop : ∀ (d i : Nat), i + d = n → ∀ (H : Heap) (locs : List Loc) (ls : Array Slot), mS B D CLS s.heap w H locs → lv_has ls 5 [(4, .int (nI i)), (3, .int (oI (lastI (lastP J s0 l0) i))), (0, .ref (r)), (1, .int (s0)), (2, .int (l0))] → W p l e ({ frames := 0, cells := 0, slots := 0, locals := 0 }) s m [.ref (r), .int (s0), .int (l0)].toArray below meth c H locs 0 0 (MQ below (va_Qi (fun z u => z = oI (lastI (lastP J s0 l0) n) ∧ u = w) (mE B D CLS) (fun q => B ≤ q)) [.ref (r), .int (s0), .int (l0)].toArray s 0 0 (fun q => B ≤ q)) (F0 m 5 ls []) := by
    intro d
    induction d with
    | zero =>
      intro i hi  H locs ls hm hl
      refine lv_iload hx hb dM_lastOne_5 (lv_at hl 0 rfl) ?_
      refine lv_aload_n hx hb dM_lastOne_7 rfl (lv_at hl 2 rfl) ?_
      refine g_M_M_46 (v := .int (nI n)) hx hb hE hm hR.1 rfl dM_lastOne_8 ?_
      refine lv_icmp_ge (tgt := 93) hx hb dM_lastOne_11 (by decide) (fun c_11 => ?_) (fun c_11 => ?_)
      · rw [← Int32.not_lt] at c_11
        refine lv_iload_n hx hb dM_lastOne_93 rfl (lv_at hl 1 rfl) ?_
        exact mreti hx hb hr hlk hm ⟨by rw [show i = n by omega], rfl⟩ dM_lastOne_94
      · exact absurd (nI_le (a := n) (b := i) (by omega) (by omega)) c_11
    | succ d ih =>
      intro i hi  H locs ls hm hl
      have hiN : i < n := by omega
      refine lv_iload hx hb dM_lastOne_5 (lv_at hl 0 rfl) ?_
      refine lv_aload_n hx hb dM_lastOne_7 rfl (lv_at hl 2 rfl) ?_
      refine g_M_M_46 (v := .int (nI n)) hx hb hE hm hR.1 rfl dM_lastOne_8 ?_
      refine lv_icmp_ge (tgt := 93) hx hb dM_lastOne_11 (by decide) (fun c_11 => ?_) (fun c_11 => ?_)
      · exact absurd c_11 (nI_ge (a := i) (b := n) (by omega) (by omega))
      · rw [Int32.not_le] at c_11
        refine lv_aload_n hx hb dM_lastOne_14 rfl (lv_at hl 2 rfl) ?_
        refine g_M_M_7 (v := .ref (as 0)) hx hb hE hm hR.1 rfl dM_lastOne_15 ?_
        refine lv_iload hx hb dM_lastOne_18 (lv_at hl 0 rfl) ?_
        refine ialdE (i) hx hb hE.2.2.1 hm 0 hR.a0 rfl rfl (by have := hR.n200; have := hiN; omega) (by decide) dM_lastOne_20 ?_
        rw [hR.g0 hiN]
        refine lv_iload_n hx hb dM_lastOne_21 rfl (lv_at hl 3 rfl) ?_
        refine lv_icmp_ne (tgt := 87) hx hb dM_lastOne_22 (by decide) (fun c_22 => ?_) (fun c_22 => ?_)
        · refine lv_iinc (v := nI i + 1) (lv' := [(4, .int (nI i + 1)), (3, .int (oI (lastI (lastP J s0 l0) i))), (0, .ref (r)), (1, .int (s0)), (2, .int (l0))]) hx hb dM_lastOne_87 hl (k := 0) rfl rfl (by decide) rfl (fun ls hl => ?_)
          refine lv_goto (tgt := 5) hx hb dM_lastOne_90 (by decide) ?_
          rw [nI_1] at hl
          exact ih (i + 1) (by omega) H locs ls hm (by rw [lastI_f (by simp [lastP, uz, c_11, c_22, ← Int32.not_lt])]; exact lv_sub hl [0, 1, 2, 3, 4] rfl)
        · refine lv_aload_n hx hb dM_lastOne_25 rfl (lv_at hl 2 rfl) ?_
          refine g_M_M_29 (v := .ref (as 6)) hx hb hE hm hR.1 rfl dM_lastOne_26 ?_
          refine lv_iload hx hb dM_lastOne_29 (lv_at hl 0 rfl) ?_
          refine ialdE (i) hx hb hE.2.2.1 hm 0 hR.a6 rfl rfl (by have := hR.n200; have := hiN; omega) (by decide) dM_lastOne_31 ?_
          rw [hR.g6 hiN]
          refine lv_iconst (v := 1) hx hb dM_lastOne_32 (by decide) ?_
          refine lv_icmp_ne (tgt := 87) hx hb dM_lastOne_33 (by decide) (fun c_33 => ?_) (fun c_33 => ?_)
          · refine lv_iinc (v := nI i + 1) (lv' := [(4, .int (nI i + 1)), (3, .int (oI (lastI (lastP J s0 l0) i))), (0, .ref (r)), (1, .int (s0)), (2, .int (l0))]) hx hb dM_lastOne_87 hl (k := 0) rfl rfl (by decide) rfl (fun ls hl => ?_)
            refine lv_goto (tgt := 5) hx hb dM_lastOne_90 (by decide) ?_
            rw [nI_1] at hl
            exact ih (i + 1) (by omega) H locs ls hm (by rw [lastI_f (by simp [lastP, uz, c_11, c_22, c_33, ← Int32.not_lt])]; exact lv_sub hl [0, 1, 2, 3, 4] rfl)
          · refine lv_aload_n hx hb dM_lastOne_36 rfl (lv_at hl 2 rfl) ?_
            refine g_M_M_32 (v := .ref (as 7)) hx hb hE hm hR.1 rfl dM_lastOne_37 ?_
            refine lv_iload hx hb dM_lastOne_40 (lv_at hl 0 rfl) ?_
            refine baldE (i) hx hb hE.2.2.1 hm 1 hR.a7 rfl rfl (by have := hR.n200; have := hiN; omega) (by decide) dM_lastOne_42 ?_
            rw [hR.g7 hiN]
            refine lv_if_ne (tgt := 87) hx hb dM_lastOne_43 (by decide) (fun c_43 => ?_) (fun c_43 => ?_)
            · rw [bI_0] at c_43
              refine lv_iinc (v := nI i + 1) (lv' := [(4, .int (nI i + 1)), (3, .int (oI (lastI (lastP J s0 l0) i))), (0, .ref (r)), (1, .int (s0)), (2, .int (l0))]) hx hb dM_lastOne_87 hl (k := 0) rfl rfl (by decide) rfl (fun ls hl => ?_)
              refine lv_goto (tgt := 5) hx hb dM_lastOne_90 (by decide) ?_
              rw [nI_1] at hl
              exact ih (i + 1) (by omega) H locs ls hm (by rw [lastI_f (by simp [lastP, uz, c_11, c_22, c_33, c_43, ← Int32.not_lt])]; exact lv_sub hl [0, 1, 2, 3, 4] rfl)
            · rw [bI_0] at c_43
              refine lv_iload_n hx hb dM_lastOne_46 rfl (lv_at hl 4 rfl) ?_
              refine lv_if_lt (tgt := 64) hx hb dM_lastOne_47 (by decide) (fun c_47 => ?_) (fun c_47 => ?_)
              · cases hbest : lastI (lastP J s0 l0) i with
                | none =>
                  rw [hbest] at hl
                  have hl : lv_has ls 5 [(4, .int (nI i)), (3, .int (-1)), (0, .ref (r)), (1, .int (s0)), (2, .int (l0))] := hl
                  refine lv_iload_n hx hb dM_lastOne_64 rfl (lv_at hl 1 rfl) ?_
                  refine lv_if_lt (tgt := 84) hx hb dM_lastOne_65 (by decide) (fun c_65 => ?_) (fun c_65 => ?_)
                  · refine lv_iload hx hb dM_lastOne_84 (lv_at hl 0 rfl) ?_
                    refine lv_istore_n (lv' := [(3, .int (nI i)), (4, .int (nI i)), (0, .ref (r)), (1, .int (s0)), (2, .int (l0))]) hx hb dM_lastOne_86 rfl hl (by decide) rfl (fun ls hl => ?_)
                    refine lv_iinc (v := nI i + 1) (lv' := [(4, .int (nI i + 1)), (3, .int (nI i)), (0, .ref (r)), (1, .int (s0)), (2, .int (l0))]) hx hb dM_lastOne_87 hl (k := 1) rfl rfl (by decide) rfl (fun ls hl => ?_)
                    refine lv_goto (tgt := 5) hx hb dM_lastOne_90 (by decide) ?_
                    rw [nI_1] at hl
                    exact ih (i + 1) (by omega) H locs ls hm (by rw [lastI_t (by simp [lastP, uz, c_11, c_22, c_33, c_43, c_47, ← Int32.not_lt])]; exact lv_sub hl [0, 1, 2, 3, 4] rfl)
                  · first | exact absurd c_65 (by decide) | exact absurd (by decide) c_65
                | some b =>
                  rw [hbest] at hl
                  have hl : lv_has ls 5 [(4, .int (nI i)), (3, .int (nI b)), (0, .ref (r)), (1, .int (s0)), (2, .int (l0))] := hl
                  have hbi : b < i := (lastI_some hbest).1
                  refine lv_iload_n hx hb dM_lastOne_64 rfl (lv_at hl 1 rfl) ?_
                  refine lv_if_lt (tgt := 84) hx hb dM_lastOne_65 (by decide) (fun c_65 => ?_) (fun c_65 => ?_)
                  · exact absurd c_65 (nI_pos (by have := hR.n200; omega))
                  · refine lv_aload_n hx hb dM_lastOne_68 rfl (lv_at hl 2 rfl) ?_
                    refine g_M_M_23 (v := .ref (as 4)) hx hb hE hm hR.1 rfl dM_lastOne_69 ?_
                    refine lv_iload hx hb dM_lastOne_72 (lv_at hl 0 rfl) ?_
                    refine ialdE (i) hx hb hE.2.2.1 hm 0 hR.a4 rfl rfl (by have := hR.n200; have := hiN; omega) (by decide) dM_lastOne_74 ?_
                    rw [hR.g4 hiN]
                    refine lv_aload_n hx hb dM_lastOne_75 rfl (lv_at hl 2 rfl) ?_
                    refine g_M_M_23 (v := .ref (as 4)) hx hb hE hm hR.1 rfl dM_lastOne_76 ?_
                    refine lv_iload_n hx hb dM_lastOne_79 rfl (lv_at hl 1 rfl) ?_
                    refine ialdE (b) hx hb hE.2.2.1 hm 0 hR.a4 rfl rfl (by have := hR.n200; have := (Nat.lt_trans hbi hiN); omega) (by decide) dM_lastOne_80 ?_
                    rw [hR.g4 (Nat.lt_trans hbi hiN)]
                    refine lv_icmp_lt (tgt := 87) hx hb dM_lastOne_81 (by decide) (fun c_81 => ?_) (fun c_81 => ?_)
                    · exact absurd c_81 (by rw [Int32.not_lt]; exact hM.1 b i (by omega) hiN)
                    · refine lv_iload hx hb dM_lastOne_84 (lv_at hl 0 rfl) ?_
                      refine lv_istore_n (lv' := [(3, .int (nI i)), (4, .int (nI i)), (0, .ref (r)), (1, .int (s0)), (2, .int (l0))]) hx hb dM_lastOne_86 rfl hl (by decide) rfl (fun ls hl => ?_)
                      refine lv_iinc (v := nI i + 1) (lv' := [(4, .int (nI i + 1)), (3, .int (nI i)), (0, .ref (r)), (1, .int (s0)), (2, .int (l0))]) hx hb dM_lastOne_87 hl (k := 1) rfl rfl (by decide) rfl (fun ls hl => ?_)
                      refine lv_goto (tgt := 5) hx hb dM_lastOne_90 (by decide) ?_
                      rw [nI_1] at hl
                      exact ih (i + 1) (by omega) H locs ls hm (by rw [lastI_t (by simp [lastP, uz, c_11, c_22, c_33, c_43, c_47, ← Int32.not_lt])]; exact lv_sub hl [0, 1, 2, 3, 4] rfl)
              · refine lv_aload_n hx hb dM_lastOne_50 rfl (lv_at hl 2 rfl) ?_
                refine g_M_M_13 (v := .ref (as 1)) hx hb hE hm hR.1 rfl dM_lastOne_51 ?_
                refine lv_iload hx hb dM_lastOne_54 (lv_at hl 0 rfl) ?_
                refine ialdE (i) hx hb hE.2.2.1 hm 0 hR.a1 rfl rfl (by have := hR.n200; have := hiN; omega) (by decide) dM_lastOne_56 ?_
                rw [hR.g1 hiN]
                refine lv_iload_n hx hb dM_lastOne_57 rfl (lv_at hl 4 rfl) ?_
                refine lv_icmp_eq (tgt := 64) hx hb dM_lastOne_58 (by decide) (fun c_58 => ?_) (fun c_58 => ?_)
                · cases hbest : lastI (lastP J s0 l0) i with
                  | none =>
                    rw [hbest] at hl
                    have hl : lv_has ls 5 [(4, .int (nI i)), (3, .int (-1)), (0, .ref (r)), (1, .int (s0)), (2, .int (l0))] := hl
                    refine lv_iload_n hx hb dM_lastOne_64 rfl (lv_at hl 1 rfl) ?_
                    refine lv_if_lt (tgt := 84) hx hb dM_lastOne_65 (by decide) (fun c_65 => ?_) (fun c_65 => ?_)
                    · refine lv_iload hx hb dM_lastOne_84 (lv_at hl 0 rfl) ?_
                      refine lv_istore_n (lv' := [(3, .int (nI i)), (4, .int (nI i)), (0, .ref (r)), (1, .int (s0)), (2, .int (l0))]) hx hb dM_lastOne_86 rfl hl (by decide) rfl (fun ls hl => ?_)
                      refine lv_iinc (v := nI i + 1) (lv' := [(4, .int (nI i + 1)), (3, .int (nI i)), (0, .ref (r)), (1, .int (s0)), (2, .int (l0))]) hx hb dM_lastOne_87 hl (k := 1) rfl rfl (by decide) rfl (fun ls hl => ?_)
                      refine lv_goto (tgt := 5) hx hb dM_lastOne_90 (by decide) ?_
                      rw [nI_1] at hl
                      exact ih (i + 1) (by omega) H locs ls hm (by rw [lastI_t (by simp [lastP, uz, c_11, c_22, c_33, c_43, c_47, c_58, ← Int32.not_lt])]; exact lv_sub hl [0, 1, 2, 3, 4] rfl)
                    · first | exact absurd c_65 (by decide) | exact absurd (by decide) c_65
                  | some b =>
                    rw [hbest] at hl
                    have hl : lv_has ls 5 [(4, .int (nI i)), (3, .int (nI b)), (0, .ref (r)), (1, .int (s0)), (2, .int (l0))] := hl
                    have hbi : b < i := (lastI_some hbest).1
                    refine lv_iload_n hx hb dM_lastOne_64 rfl (lv_at hl 1 rfl) ?_
                    refine lv_if_lt (tgt := 84) hx hb dM_lastOne_65 (by decide) (fun c_65 => ?_) (fun c_65 => ?_)
                    · exact absurd c_65 (nI_pos (by have := hR.n200; omega))
                    · refine lv_aload_n hx hb dM_lastOne_68 rfl (lv_at hl 2 rfl) ?_
                      refine g_M_M_23 (v := .ref (as 4)) hx hb hE hm hR.1 rfl dM_lastOne_69 ?_
                      refine lv_iload hx hb dM_lastOne_72 (lv_at hl 0 rfl) ?_
                      refine ialdE (i) hx hb hE.2.2.1 hm 0 hR.a4 rfl rfl (by have := hR.n200; have := hiN; omega) (by decide) dM_lastOne_74 ?_
                      rw [hR.g4 hiN]
                      refine lv_aload_n hx hb dM_lastOne_75 rfl (lv_at hl 2 rfl) ?_
                      refine g_M_M_23 (v := .ref (as 4)) hx hb hE hm hR.1 rfl dM_lastOne_76 ?_
                      refine lv_iload_n hx hb dM_lastOne_79 rfl (lv_at hl 1 rfl) ?_
                      refine ialdE (b) hx hb hE.2.2.1 hm 0 hR.a4 rfl rfl (by have := hR.n200; have := (Nat.lt_trans hbi hiN); omega) (by decide) dM_lastOne_80 ?_
                      rw [hR.g4 (Nat.lt_trans hbi hiN)]
                      refine lv_icmp_lt (tgt := 87) hx hb dM_lastOne_81 (by decide) (fun c_81 => ?_) (fun c_81 => ?_)
                      · exact absurd c_81 (by rw [Int32.not_lt]; exact hM.1 b i (by omega) hiN)
                      · refine lv_iload hx hb dM_lastOne_84 (lv_at hl 0 rfl) ?_
                        refine lv_istore_n (lv' := [(3, .int (nI i)), (4, .int (nI i)), (0, .ref (r)), (1, .int (s0)), (2, .int (l0))]) hx hb dM_lastOne_86 rfl hl (by decide) rfl (fun ls hl => ?_)
                        refine lv_iinc (v := nI i + 1) (lv' := [(4, .int (nI i + 1)), (3, .int (nI i)), (0, .ref (r)), (1, .int (s0)), (2, .int (l0))]) hx hb dM_lastOne_87 hl (k := 1) rfl rfl (by decide) rfl (fun ls hl => ?_)
                        refine lv_goto (tgt := 5) hx hb dM_lastOne_90 (by decide) ?_
                        rw [nI_1] at hl
                        exact ih (i + 1) (by omega) H locs ls hm (by rw [lastI_t (by simp [lastP, uz, c_11, c_22, c_33, c_43, c_47, c_58, ← Int32.not_lt])]; exact lv_sub hl [0, 1, 2, 3, 4] rfl)
                · refine lv_goto (tgt := 87) hx hb dM_lastOne_61 (by decide) ?_
                  refine lv_iinc (v := nI i + 1) (lv' := [(4, .int (nI i + 1)), (3, .int (oI (lastI (lastP J s0 l0) i))), (0, .ref (r)), (1, .int (s0)), (2, .int (l0))]) hx hb dM_lastOne_87 hl (k := 0) rfl rfl (by decide) rfl (fun ls hl => ?_)
                  refine lv_goto (tgt := 5) hx hb dM_lastOne_90 (by decide) ?_
                  rw [nI_1] at hl
                  exact ih (i + 1) (by omega) H locs ls hm (by rw [lastI_f (by simp [lastP, uz, c_11, c_22, c_33, c_43, c_47, c_58, ← Int32.not_lt])]; exact lv_sub hl [0, 1, 2, 3, 4] rfl)
  refine lv_iconst (v := (-1)) hx hb dM_lastOne_0 (by decide) ?_
  refine lv_istore_n (lv' := [(3, .int ((-1))), (0, .ref (r)), (1, .int (s0)), (2, .int (l0))]) hx hb dM_lastOne_1 rfl hl (by decide) rfl (fun ls hl => ?_)
  refine lv_iconst (v := 0) hx hb dM_lastOne_2 (by decide) ?_
  refine lv_istore (lv' := [(4, .int (0)), (3, .int ((-1))), (0, .ref (r)), (1, .int (s0)), (2, .int (l0))]) hx hb dM_lastOne_3 hl (by decide) rfl (fun ls hl => ?_)
  exact loop n 0 (by omega) _ _ ls hm (by rw [nI_0]; exact lv_sub hl [0, 1, 2, 3, 4] rfl)
set_option maxHeartbeats 4000000 in
set_option maxRecDepth 100000 in
theorem kM_head (l : Launch) (B : Nat) (D : va_G) (cI cZ cL : ClassId) (w : Wd) (r : Nat) (as : Nat → Nat) (g : Nat → Nat → Int32) (thr now : Int32) (n : Nat) (J : Nat → Jr) (hR : rR cI cZ r as g thr now n J w) (hM : mW now n J) (s0 t0 : Int32) : Met l yM_head (.code yM_head cM_head 5 (some .int) :: BIG) { frames := 0, cells := 0, slots := 0, locals := 0 } (va_Pc [.ref (r), .int (s0), .int (t0)] (mP B D CLS (TYS cI cZ cL) NEST w)) (va_Qi (fun z u => z = oI (lastI (headP J s0 t0) n) ∧ u = w) (mE B D CLS) (fun q => B ≤ q)) 0 0 (fun q => B ≤ q) := by
  refine mMet (by decide) rfl (Nat.le_of_ble_eq_true rfl) ?_
  intro p e s m below meth c ls hx hb hml hr hlk hnm hown hts hK hN hm hl
  have hE : ME "ChainPickerModel" (.code yM_head cM_head 5 (some .int)) _ s m D (TYS cI cZ cL) := ⟨hown, hts, hK, hN⟩
  have hl : lv_has ls 5 [(0, .ref (r)), (1, .int (s0)), (2, .int (t0))] := hl
  have hn200 := hR.n200
  have loop : ∀ (d i : Nat), i + d = n → ∀ (H : Heap) (locs : List Loc) (ls : Array Slot), mS B D CLS s.heap w H locs → lv_has ls 5 [(4, .int (nI i)), (3, .int (oI (lastI (headP J s0 t0) i))), (0, .ref (r)), (1, .int (s0)), (2, .int (t0))] → W p l e ({ frames := 0, cells := 0, slots := 0, locals := 0 }) s m [.ref (r), .int (s0), .int (t0)].toArray below meth c H locs 0 0 (MQ below (va_Qi (fun z u => z = oI (lastI (headP J s0 t0) n) ∧ u = w) (mE B D CLS) (fun q => B ≤ q)) [.ref (r), .int (s0), .int (t0)].toArray s 0 0 (fun q => B ≤ q)) (F0 m 5 ls []) := by
    intro d
    induction d with
    | zero =>
      intro i hi  H locs ls hm hl
      refine lv_iload hx hb dM_head_5 (lv_at hl 0 rfl) ?_
      refine lv_aload_n hx hb dM_head_7 rfl (lv_at hl 2 rfl) ?_
      refine g_M_M_46 (v := .int (nI n)) hx hb hE hm hR.1 rfl dM_head_8 ?_
      refine lv_icmp_ge (tgt := 89) hx hb dM_head_11 (by decide) (fun c_11 => ?_) (fun c_11 => ?_)
      · rw [← Int32.not_lt] at c_11
        refine lv_iload_n hx hb dM_head_89 rfl (lv_at hl 1 rfl) ?_
        exact mreti hx hb hr hlk hm ⟨by rw [show i = n by omega], rfl⟩ dM_head_90
      · exact absurd (nI_le (a := n) (b := i) (by omega) (by omega)) c_11
    | succ d ih =>
      intro i hi  H locs ls hm hl
      have hiN : i < n := by omega
      refine lv_iload hx hb dM_head_5 (lv_at hl 0 rfl) ?_
      refine lv_aload_n hx hb dM_head_7 rfl (lv_at hl 2 rfl) ?_
      refine g_M_M_46 (v := .int (nI n)) hx hb hE hm hR.1 rfl dM_head_8 ?_
      refine lv_icmp_ge (tgt := 89) hx hb dM_head_11 (by decide) (fun c_11 => ?_) (fun c_11 => ?_)
      · exact absurd c_11 (nI_ge (a := i) (b := n) (by omega) (by omega))
      · rw [Int32.not_le] at c_11
        refine lv_aload_n hx hb dM_head_14 rfl (lv_at hl 2 rfl) ?_
        refine g_M_M_7 (v := .ref (as 0)) hx hb hE hm hR.1 rfl dM_head_15 ?_
        refine lv_iload hx hb dM_head_18 (lv_at hl 0 rfl) ?_
        refine ialdE (i) hx hb hE.2.2.1 hm 0 hR.a0 rfl rfl (by have := hR.n200; have := hiN; omega) (by decide) dM_head_20 ?_
        rw [hR.g0 hiN]
        refine lv_iload_n hx hb dM_head_21 rfl (lv_at hl 3 rfl) ?_
        refine lv_icmp_ne (tgt := 83) hx hb dM_head_22 (by decide) (fun c_22 => ?_) (fun c_22 => ?_)
        · refine lv_iinc (v := nI i + 1) (lv' := [(4, .int (nI i + 1)), (3, .int (oI (lastI (headP J s0 t0) i))), (0, .ref (r)), (1, .int (s0)), (2, .int (t0))]) hx hb dM_head_83 hl (k := 0) rfl rfl (by decide) rfl (fun ls hl => ?_)
          refine lv_goto (tgt := 5) hx hb dM_head_86 (by decide) ?_
          rw [nI_1] at hl
          exact ih (i + 1) (by omega) H locs ls hm (by rw [lastI_f (by simp [headP, uz, c_11, c_22, ← Int32.not_lt])]; exact lv_sub hl [0, 1, 2, 3, 4] rfl)
        · refine lv_aload_n hx hb dM_head_25 rfl (lv_at hl 2 rfl) ?_
          refine g_M_M_29 (v := .ref (as 6)) hx hb hE hm hR.1 rfl dM_head_26 ?_
          refine lv_iload hx hb dM_head_29 (lv_at hl 0 rfl) ?_
          refine ialdE (i) hx hb hE.2.2.1 hm 0 hR.a6 rfl rfl (by have := hR.n200; have := hiN; omega) (by decide) dM_head_31 ?_
          rw [hR.g6 hiN]
          refine lv_iconst (v := 1) hx hb dM_head_32 (by decide) ?_
          refine lv_icmp_ne (tgt := 83) hx hb dM_head_33 (by decide) (fun c_33 => ?_) (fun c_33 => ?_)
          · refine lv_iinc (v := nI i + 1) (lv' := [(4, .int (nI i + 1)), (3, .int (oI (lastI (headP J s0 t0) i))), (0, .ref (r)), (1, .int (s0)), (2, .int (t0))]) hx hb dM_head_83 hl (k := 0) rfl rfl (by decide) rfl (fun ls hl => ?_)
            refine lv_goto (tgt := 5) hx hb dM_head_86 (by decide) ?_
            rw [nI_1] at hl
            exact ih (i + 1) (by omega) H locs ls hm (by rw [lastI_f (by simp [headP, uz, c_11, c_22, c_33, ← Int32.not_lt])]; exact lv_sub hl [0, 1, 2, 3, 4] rfl)
          · refine lv_aload_n hx hb dM_head_36 rfl (lv_at hl 2 rfl) ?_
            refine g_M_M_32 (v := .ref (as 7)) hx hb hE hm hR.1 rfl dM_head_37 ?_
            refine lv_iload hx hb dM_head_40 (lv_at hl 0 rfl) ?_
            refine baldE (i) hx hb hE.2.2.1 hm 1 hR.a7 rfl rfl (by have := hR.n200; have := hiN; omega) (by decide) dM_head_42 ?_
            rw [hR.g7 hiN]
            refine lv_if_ne (tgt := 83) hx hb dM_head_43 (by decide) (fun c_43 => ?_) (fun c_43 => ?_)
            · rw [bI_0] at c_43
              refine lv_iinc (v := nI i + 1) (lv' := [(4, .int (nI i + 1)), (3, .int (oI (lastI (headP J s0 t0) i))), (0, .ref (r)), (1, .int (s0)), (2, .int (t0))]) hx hb dM_head_83 hl (k := 0) rfl rfl (by decide) rfl (fun ls hl => ?_)
              refine lv_goto (tgt := 5) hx hb dM_head_86 (by decide) ?_
              rw [nI_1] at hl
              exact ih (i + 1) (by omega) H locs ls hm (by rw [lastI_f (by simp [headP, uz, c_11, c_22, c_33, c_43, ← Int32.not_lt])]; exact lv_sub hl [0, 1, 2, 3, 4] rfl)
            · rw [bI_0] at c_43
              refine lv_aload_n hx hb dM_head_46 rfl (lv_at hl 2 rfl) ?_
              refine g_M_M_26 (v := .ref (as 5)) hx hb hE hm hR.1 rfl dM_head_47 ?_
              refine lv_iload hx hb dM_head_50 (lv_at hl 0 rfl) ?_
              refine ialdE (i) hx hb hE.2.2.1 hm 0 hR.a5 rfl rfl (by have := hR.n200; have := hiN; omega) (by decide) dM_head_52 ?_
              rw [hR.g5 hiN]
              refine lv_iload_n hx hb dM_head_53 rfl (lv_at hl 4 rfl) ?_
              refine lv_icmp_le (tgt := 60) hx hb dM_head_54 (by decide) (fun c_54 => ?_) (fun c_54 => ?_)
              · rw [← Int32.not_lt] at c_54
                cases hbest : lastI (headP J s0 t0) i with
                | none =>
                  rw [hbest] at hl
                  have hl : lv_has ls 5 [(4, .int (nI i)), (3, .int (-1)), (0, .ref (r)), (1, .int (s0)), (2, .int (t0))] := hl
                  refine lv_iload_n hx hb dM_head_60 rfl (lv_at hl 1 rfl) ?_
                  refine lv_if_lt (tgt := 80) hx hb dM_head_61 (by decide) (fun c_61 => ?_) (fun c_61 => ?_)
                  · refine lv_iload hx hb dM_head_80 (lv_at hl 0 rfl) ?_
                    refine lv_istore_n (lv' := [(3, .int (nI i)), (4, .int (nI i)), (0, .ref (r)), (1, .int (s0)), (2, .int (t0))]) hx hb dM_head_82 rfl hl (by decide) rfl (fun ls hl => ?_)
                    refine lv_iinc (v := nI i + 1) (lv' := [(4, .int (nI i + 1)), (3, .int (nI i)), (0, .ref (r)), (1, .int (s0)), (2, .int (t0))]) hx hb dM_head_83 hl (k := 1) rfl rfl (by decide) rfl (fun ls hl => ?_)
                    refine lv_goto (tgt := 5) hx hb dM_head_86 (by decide) ?_
                    rw [nI_1] at hl
                    exact ih (i + 1) (by omega) H locs ls hm (by rw [lastI_t (by simp [headP, uz, c_11, c_22, c_33, c_43, c_54, ← Int32.not_lt])]; exact lv_sub hl [0, 1, 2, 3, 4] rfl)
                  · first | exact absurd c_61 (by decide) | exact absurd (by decide) c_61
                | some b =>
                  rw [hbest] at hl
                  have hl : lv_has ls 5 [(4, .int (nI i)), (3, .int (nI b)), (0, .ref (r)), (1, .int (s0)), (2, .int (t0))] := hl
                  have hbi : b < i := (lastI_some hbest).1
                  refine lv_iload_n hx hb dM_head_60 rfl (lv_at hl 1 rfl) ?_
                  refine lv_if_lt (tgt := 80) hx hb dM_head_61 (by decide) (fun c_61 => ?_) (fun c_61 => ?_)
                  · exact absurd c_61 (nI_pos (by have := hR.n200; omega))
                  · refine lv_aload_n hx hb dM_head_64 rfl (lv_at hl 2 rfl) ?_
                    refine g_M_M_23 (v := .ref (as 4)) hx hb hE hm hR.1 rfl dM_head_65 ?_
                    refine lv_iload hx hb dM_head_68 (lv_at hl 0 rfl) ?_
                    refine ialdE (i) hx hb hE.2.2.1 hm 0 hR.a4 rfl rfl (by have := hR.n200; have := hiN; omega) (by decide) dM_head_70 ?_
                    rw [hR.g4 hiN]
                    refine lv_aload_n hx hb dM_head_71 rfl (lv_at hl 2 rfl) ?_
                    refine g_M_M_23 (v := .ref (as 4)) hx hb hE hm hR.1 rfl dM_head_72 ?_
                    refine lv_iload_n hx hb dM_head_75 rfl (lv_at hl 1 rfl) ?_
                    refine ialdE (b) hx hb hE.2.2.1 hm 0 hR.a4 rfl rfl (by have := hR.n200; have := (Nat.lt_trans hbi hiN); omega) (by decide) dM_head_76 ?_
                    rw [hR.g4 (Nat.lt_trans hbi hiN)]
                    refine lv_icmp_lt (tgt := 83) hx hb dM_head_77 (by decide) (fun c_77 => ?_) (fun c_77 => ?_)
                    · exact absurd c_77 (by rw [Int32.not_lt]; exact hM.1 b i (by omega) hiN)
                    · refine lv_iload hx hb dM_head_80 (lv_at hl 0 rfl) ?_
                      refine lv_istore_n (lv' := [(3, .int (nI i)), (4, .int (nI i)), (0, .ref (r)), (1, .int (s0)), (2, .int (t0))]) hx hb dM_head_82 rfl hl (by decide) rfl (fun ls hl => ?_)
                      refine lv_iinc (v := nI i + 1) (lv' := [(4, .int (nI i + 1)), (3, .int (nI i)), (0, .ref (r)), (1, .int (s0)), (2, .int (t0))]) hx hb dM_head_83 hl (k := 1) rfl rfl (by decide) rfl (fun ls hl => ?_)
                      refine lv_goto (tgt := 5) hx hb dM_head_86 (by decide) ?_
                      rw [nI_1] at hl
                      exact ih (i + 1) (by omega) H locs ls hm (by rw [lastI_t (by simp [headP, uz, c_11, c_22, c_33, c_43, c_54, ← Int32.not_lt])]; exact lv_sub hl [0, 1, 2, 3, 4] rfl)
              · rw [Int32.not_le] at c_54
                refine lv_goto (tgt := 83) hx hb dM_head_57 (by decide) ?_
                refine lv_iinc (v := nI i + 1) (lv' := [(4, .int (nI i + 1)), (3, .int (oI (lastI (headP J s0 t0) i))), (0, .ref (r)), (1, .int (s0)), (2, .int (t0))]) hx hb dM_head_83 hl (k := 0) rfl rfl (by decide) rfl (fun ls hl => ?_)
                refine lv_goto (tgt := 5) hx hb dM_head_86 (by decide) ?_
                rw [nI_1] at hl
                exact ih (i + 1) (by omega) H locs ls hm (by rw [lastI_f (by simp [headP, uz, c_11, c_22, c_33, c_43, c_54, ← Int32.not_lt])]; exact lv_sub hl [0, 1, 2, 3, 4] rfl)
  refine lv_iconst (v := (-1)) hx hb dM_head_0 (by decide) ?_
  refine lv_istore_n (lv' := [(3, .int ((-1))), (0, .ref (r)), (1, .int (s0)), (2, .int (t0))]) hx hb dM_head_1 rfl hl (by decide) rfl (fun ls hl => ?_)
  refine lv_iconst (v := 0) hx hb dM_head_2 (by decide) ?_
  refine lv_istore (lv' := [(4, .int (0)), (3, .int ((-1))), (0, .ref (r)), (1, .int (s0)), (2, .int (t0))]) hx hb dM_head_3 hl (by decide) rfl (fun ls hl => ?_)
  exact loop n 0 (by omega) _ _ ls hm (by rw [nI_0]; exact lv_sub hl [0, 1, 2, 3, 4] rfl)
set_option maxHeartbeats 4000000 in
set_option maxRecDepth 100000 in
theorem kM_standing (l : Launch) (B : Nat) (D : va_G) (cI cZ cL : ClassId) (w : Wd) (r : Nat) (as : Nat → Nat) (g : Nat → Nat → Int32) (thr now : Int32) (n : Nat) (J : Nat → Jr) (hR : rR cI cZ r as g thr now n J w) (j : Nat) (hjn : j < n) : Met l yM_standing (.code yM_standing cM_standing 4 (some .int) :: BIG) { frames := 0, cells := 0, slots := 0, locals := 0 } (va_Pc [.ref (r), .int (nI j)] (mP B D CLS (TYS cI cZ cL) NEST w)) (va_Qi (fun z u => z = nI (sd n J j) ∧ u = w) (mE B D CLS) (fun q => B ≤ q)) 0 0 (fun q => B ≤ q) := by
  refine mMet (by decide) rfl (Nat.le_of_ble_eq_true rfl) ?_
  intro p e s m below meth c ls hx hb hml hr hlk hnm hown hts hK hN hm hl
  have hE : ME "ChainPickerModel" (.code yM_standing cM_standing 4 (some .int)) _ s m D (TYS cI cZ cL) := ⟨hown, hts, hK, hN⟩
  have hl : lv_has ls 4 [(0, .ref (r)), (1, .int (nI j))] := hl
  have hn200 := hR.n200
  have loop : ∀ (d i : Nat), i + d = n → ∀ (x : Int32), x = nI (cnt (fun k => decide (jBs (J k) = some j) && !jPr (J k)) i) → ∀ (H : Heap) (locs : List Loc) (ls : Array Slot), mS B D CLS s.heap w H locs → lv_has ls 4 [(3, .int (nI i)), (2, .int (x)), (0, .ref (r)), (1, .int (nI j))] → W p l e ({ frames := 0, cells := 0, slots := 0, locals := 0 }) s m [.ref (r), .int (nI j)].toArray below meth c H locs 0 0 (MQ below (va_Qi (fun z u => z = nI (sd n J j) ∧ u = w) (mE B D CLS) (fun q => B ≤ q)) [.ref (r), .int (nI j)].toArray s 0 0 (fun q => B ≤ q)) (F0 m 4 ls []) := by
    intro d
    induction d with
    | zero =>
      intro i hi x hx0 H locs ls hm hl
      refine lv_iload_n hx hb dM_standing_4 rfl (lv_at hl 0 rfl) ?_
      refine lv_aload_n hx hb dM_standing_5 rfl (lv_at hl 2 rfl) ?_
      refine g_M_M_46 (v := .int (nI n)) hx hb hE hm hR.1 rfl dM_standing_6 ?_
      refine lv_icmp_ge (tgt := 45) hx hb dM_standing_9 (by decide) (fun c_9 => ?_) (fun c_9 => ?_)
      · rw [← Int32.not_lt] at c_9
        refine lv_iload_n hx hb dM_standing_45 rfl (lv_at hl 1 rfl) ?_
        exact mreti hx hb hr hlk hm ⟨by rw [hx0, show i = n by omega]; rfl, rfl⟩ dM_standing_46
      · exact absurd (nI_le (a := n) (b := i) (by omega) (by omega)) c_9
    | succ d ih =>
      intro i hi x hx0 H locs ls hm hl
      have hiN : i < n := by omega
      refine lv_iload_n hx hb dM_standing_4 rfl (lv_at hl 0 rfl) ?_
      refine lv_aload_n hx hb dM_standing_5 rfl (lv_at hl 2 rfl) ?_
      refine g_M_M_46 (v := .int (nI n)) hx hb hE hm hR.1 rfl dM_standing_6 ?_
      refine lv_icmp_ge (tgt := 45) hx hb dM_standing_9 (by decide) (fun c_9 => ?_) (fun c_9 => ?_)
      · exact absurd c_9 (nI_ge (a := i) (b := n) (by omega) (by omega))
      · rw [Int32.not_le] at c_9
        refine lv_iload_n hx hb dM_standing_12 rfl (lv_at hl 1 rfl) ?_
        refine lv_aload_n hx hb dM_standing_13 rfl (lv_at hl 2 rfl) ?_
        refine g_M_M_20 (v := .ref (as 3)) hx hb hE hm hR.1 rfl dM_standing_14 ?_
        refine lv_iload_n hx hb dM_standing_17 rfl (lv_at hl 0 rfl) ?_
        refine ialdE (i) hx hb hE.2.2.1 hm 0 hR.a3 rfl rfl (by have := hR.n200; have := hiN; omega) (by decide) dM_standing_18 ?_
        rw [hR.g3 hiN]
        refine lv_iload_n hx hb dM_standing_19 rfl (lv_at hl 3 rfl) ?_
        refine lv_icmp_ne (tgt := 36) hx hb dM_standing_20 (by decide) (fun c_20 => ?_) (fun c_20 => ?_)
        · rw [oI_eq (fun b hb => by have := hR.bs hiN hb; omega) (by omega)] at c_20
          refine lv_iconst (v := 0) hx hb dM_standing_36 (by decide) ?_
          refine lv_iadd hx hb dM_standing_37 ?_
          refine lv_istore_n (lv' := [(2, .int ((x) + (0))), (3, .int (nI i)), (0, .ref (r)), (1, .int (nI j))]) hx hb dM_standing_38 rfl hl (by decide) rfl (fun ls hl => ?_)
          refine lv_iinc (v := nI i + 1) (lv' := [(3, .int (nI i + 1)), (2, .int ((x) + (0))), (0, .ref (r)), (1, .int (nI j))]) hx hb dM_standing_39 hl (k := 1) rfl rfl (by decide) rfl (fun ls hl => ?_)
          refine lv_goto (tgt := 4) hx hb dM_standing_42 (by decide) ?_
          rw [nI_1] at hl
          rw [Int32.add_zero] at hl
          exact ih (i + 1) (by omega) x (cntU_f hx0 (by simp [c_9, c_20])) H locs ls hm (lv_sub hl [0, 1, 2, 3] rfl)
        · rw [oI_eq (fun b hb => by have := hR.bs hiN hb; omega) (by omega)] at c_20
          refine lv_aload_n hx hb dM_standing_23 rfl (lv_at hl 2 rfl) ?_
          refine g_M_M_32 (v := .ref (as 7)) hx hb hE hm hR.1 rfl dM_standing_24 ?_
          refine lv_iload_n hx hb dM_standing_27 rfl (lv_at hl 0 rfl) ?_
          refine baldE (i) hx hb hE.2.2.1 hm 1 hR.a7 rfl rfl (by have := hR.n200; have := hiN; omega) (by decide) dM_standing_28 ?_
          rw [hR.g7 hiN]
          refine lv_if_ne (tgt := 36) hx hb dM_standing_29 (by decide) (fun c_29 => ?_) (fun c_29 => ?_)
          · rw [bI_0] at c_29
            refine lv_iconst (v := 0) hx hb dM_standing_36 (by decide) ?_
            refine lv_iadd hx hb dM_standing_37 ?_
            refine lv_istore_n (lv' := [(2, .int ((x) + (0))), (3, .int (nI i)), (0, .ref (r)), (1, .int (nI j))]) hx hb dM_standing_38 rfl hl (by decide) rfl (fun ls hl => ?_)
            refine lv_iinc (v := nI i + 1) (lv' := [(3, .int (nI i + 1)), (2, .int ((x) + (0))), (0, .ref (r)), (1, .int (nI j))]) hx hb dM_standing_39 hl (k := 1) rfl rfl (by decide) rfl (fun ls hl => ?_)
            refine lv_goto (tgt := 4) hx hb dM_standing_42 (by decide) ?_
            rw [nI_1] at hl
            rw [Int32.add_zero] at hl
            exact ih (i + 1) (by omega) x (cntU_f hx0 (by simp [c_9, c_20, c_29])) H locs ls hm (lv_sub hl [0, 1, 2, 3] rfl)
          · rw [bI_0] at c_29
            refine lv_iconst (v := 1) hx hb dM_standing_32 (by decide) ?_
            refine lv_goto (tgt := 37) hx hb dM_standing_33 (by decide) ?_
            refine lv_iadd hx hb dM_standing_37 ?_
            refine lv_istore_n (lv' := [(2, .int ((x) + (1))), (3, .int (nI i)), (0, .ref (r)), (1, .int (nI j))]) hx hb dM_standing_38 rfl hl (by decide) rfl (fun ls hl => ?_)
            refine lv_iinc (v := nI i + 1) (lv' := [(3, .int (nI i + 1)), (2, .int ((x) + (1))), (0, .ref (r)), (1, .int (nI j))]) hx hb dM_standing_39 hl (k := 1) rfl rfl (by decide) rfl (fun ls hl => ?_)
            refine lv_goto (tgt := 4) hx hb dM_standing_42 (by decide) ?_
            rw [nI_1] at hl
            exact ih (i + 1) (by omega) (x + 1) (cntU_t hx0 (by simp [c_9, c_20, c_29])) H locs ls hm (lv_sub hl [0, 1, 2, 3] rfl)
  refine lv_iconst (v := 0) hx hb dM_standing_0 (by decide) ?_
  refine lv_istore_n (lv' := [(2, .int (0)), (0, .ref (r)), (1, .int (nI j))]) hx hb dM_standing_1 rfl hl (by decide) rfl (fun ls hl => ?_)
  refine lv_iconst (v := 0) hx hb dM_standing_2 (by decide) ?_
  refine lv_istore_n (lv' := [(3, .int (0)), (2, .int (0)), (0, .ref (r)), (1, .int (nI j))]) hx hb dM_standing_3 rfl hl (by decide) rfl (fun ls hl => ?_)
  exact loop n 0 (by omega) 0 rfl _ _ ls hm (by rw [nI_0]; exact lv_sub hl [0, 1, 2, 3] rfl)
set_option maxHeartbeats 4000000 in
set_option maxRecDepth 100000 in
theorem kM_mayGo (l : Launch) (B : Nat) (D : va_G) (cI cZ cL : ClassId) (w : Wd) (r : Nat) (as : Nat → Nat) (g : Nat → Nat → Int32) (thr now : Int32) (n : Nat) (J : Nat → Jr) (hR : rR cI cZ r as g thr now n J w) (j : Nat) (hjn : j < n) : Met l yM_mayGo (.code yM_mayGo cM_mayGo 2 (some .boolean) :: BIG) { frames := 1, cells := 0, slots := 0, locals := 23 } (va_Pc [.ref (r), .int (nI j)] (mP B D CLS (TYS cI cZ cL) NEST w)) (va_Qi (fun z u => z = bI (fr n J j) ∧ u = w) (mE B D CLS) (fun q => B ≤ q)) 0 0 (fun q => B ≤ q) := by
  refine mMet (by decide) rfl (Nat.le_of_ble_eq_true rfl) ?_
  intro p e s m below meth c ls hx hb hml hr hlk hnm hown hts hK hN hm hl
  have hE : ME "ChainPickerModel" (.code yM_mayGo cM_mayGo 2 (some .boolean)) _ s m D (TYS cI cZ cL) := ⟨hown, hts, hK, hN⟩
  have hl : lv_has ls 2 [(0, .ref (r)), (1, .int (nI j))] := hl
  have hn200 := hR.n200
  refine lv_aload_n hx hb dM_mayGo_0 rfl (lv_at hl 0 rfl) ?_
  refine g_M_M_29 (v := .ref (as 6)) hx hb hE hm hR.1 rfl dM_mayGo_1 ?_
  refine lv_iload_n hx hb dM_mayGo_4 rfl (lv_at hl 1 rfl) ?_
  refine ialdE (j) hx hb hE.2.2.1 hm 0 hR.a6 rfl rfl (by have := hR.n200; have := hjn; omega) (by decide) dM_mayGo_5 ?_
  rw [hR.g6 hjn]
  refine lv_if_eq (tgt := 30) hx hb dM_mayGo_6 (by decide) (fun c_6 => ?_) (fun c_6 => ?_)
  · refine lv_iconst (v := 0) hx hb dM_mayGo_30 (by decide) ?_
    exact mretz hx hb hr (by decide +kernel) hlk hm ⟨by simp [fr, bI, c_6], rfl⟩ dM_mayGo_31
  · refine lv_aload_n hx hb dM_mayGo_9 rfl (lv_at hl 0 rfl) ?_
    refine g_M_M_32 (v := .ref (as 7)) hx hb hE hm hR.1 rfl dM_mayGo_10 ?_
    refine lv_iload_n hx hb dM_mayGo_13 rfl (lv_at hl 1 rfl) ?_
    refine baldE (j) hx hb hE.2.2.1 hm 1 hR.a7 rfl rfl (by have := hR.n200; have := hjn; omega) (by decide) dM_mayGo_14 ?_
    rw [hR.g7 hjn]
    refine lv_if_ne (tgt := 30) hx hb dM_mayGo_15 (by decide) (fun c_15 => ?_) (fun c_15 => ?_)
    · rw [bI_0] at c_15
      refine lv_iconst (v := 0) hx hb dM_mayGo_30 (by decide) ?_
      exact mretz hx hb hr (by decide +kernel) hlk hm ⟨by simp [fr, bI, c_6, c_15], rfl⟩ dM_mayGo_31
    · rw [bI_0] at c_15
      refine lv_aload_n hx hb dM_mayGo_18 rfl (lv_at hl 0 rfl) ?_
      refine lv_iload_n hx hb dM_mayGo_19 rfl (lv_at hl 1 rfl) ?_
      refine mcalli (mcV (n := 1) (As := [.int (nI j)]) (rest := []) hx hb hml hE (kM_standing l B D cI cZ cL w r as g thr now n J hR j hjn) q_409 q_411 qs_14 q_2 q_412 rfl rfl (by decide +kernel) ⟨Nat.le_of_ble_eq_true rfl, Nat.le_of_ble_eq_true rfl⟩ rfl hl.1 hm rfl hR.1 rfl (Nat.le_of_ble_eq_true rfl) dM_mayGo_20 ⟨Nat.le_of_ble_eq_true rfl, Nat.le_of_ble_eq_true rfl⟩) hm (fun r1 u1 H locs hp1 hm => ?_)
      obtain ⟨hr1, hu1⟩ := hp1
      rw [hu1] at hm
      refine lv_if_ne (tgt := 30) hx hb dM_mayGo_23 (by decide) (fun c_23 => ?_) (fun c_23 => ?_)
      · rw [hr1, nI_eq0 (by have := sd_le n J j; omega)] at c_23
        refine lv_iconst (v := 0) hx hb dM_mayGo_30 (by decide) ?_
        exact mretz hx hb hr (by decide +kernel) hlk hm ⟨by simp [fr, bI, c_6, c_15, c_23], rfl⟩ dM_mayGo_31
      · rw [hr1, nI_eq0 (by have := sd_le n J j; omega)] at c_23
        refine lv_iconst (v := 1) hx hb dM_mayGo_26 (by decide) ?_
        refine lv_goto (tgt := 31) hx hb dM_mayGo_27 (by decide) ?_
        exact mretz hx hb hr (by decide +kernel) hlk hm ⟨by simp [fr, bI, c_6, c_15, c_23], rfl⟩ dM_mayGo_31
set_option maxHeartbeats 4000000 in
set_option maxRecDepth 100000 in
theorem kM_isOnly (l : Launch) (B : Nat) (D : va_G) (cI cZ cL : ClassId) (w : Wd) (r : Nat) (as : Nat → Nat) (g : Nat → Nat → Int32) (thr now : Int32) (n : Nat) (J : Nat → Jr) (hR : rR cI cZ r as g thr now n J w) (j : Nat) (hjn : j < n) : Met l yM_isOnly (.code yM_isOnly cM_isOnly 3 (some .boolean) :: BIG) { frames := 0, cells := 0, slots := 0, locals := 0 } (va_Pc [.ref (r), .int (nI j)] (mP B D CLS (TYS cI cZ cL) NEST w)) (va_Qi (fun z u => z = bI (onlyR n J j) ∧ u = w) (mE B D CLS) (fun q => B ≤ q)) 0 0 (fun q => B ≤ q) := by
  refine mMet (by decide) rfl (Nat.le_of_ble_eq_true rfl) ?_
  intro p e s m below meth c ls hx hb hml hr hlk hnm hown hts hK hN hm hl
  have hE : ME "ChainPickerModel" (.code yM_isOnly cM_isOnly 3 (some .boolean)) _ s m D (TYS cI cZ cL) := ⟨hown, hts, hK, hN⟩
  have hl : lv_has ls 3 [(0, .ref (r)), (1, .int (nI j))] := hl
  have hn200 := hR.n200
  have loop : ∀ (d i : Nat), i + d = n → jSt (J j) = 1 → jLev (J j) = 0 → (∀ k, k < i → onlyP J j k = false) → ∀ (H : Heap) (locs : List Loc) (ls : Array Slot), mS B D CLS s.heap w H locs → lv_has ls 3 [(2, .int (nI i)), (0, .ref (r)), (1, .int (nI j))] → W p l e ({ frames := 0, cells := 0, slots := 0, locals := 0 }) s m [.ref (r), .int (nI j)].toArray below meth c H locs 0 0 (MQ below (va_Qi (fun z u => z = bI (onlyR n J j) ∧ u = w) (mE B D CLS) (fun q => B ≤ q)) [.ref (r), .int (nI j)].toArray s 0 0 (fun q => B ≤ q)) (F0 m 23 ls []) := by
    intro d
    induction d with
    | zero =>
      intro i hi h1 h2 hx0 H locs ls hm hl
      refine lv_iload_n hx hb dM_isOnly_23 rfl (lv_at hl 0 rfl) ?_
      refine lv_aload_n hx hb dM_isOnly_24 rfl (lv_at hl 1 rfl) ?_
      refine g_M_M_46 (v := .int (nI n)) hx hb hE hm hR.1 rfl dM_isOnly_25 ?_
      refine lv_icmp_ge (tgt := 87) hx hb dM_isOnly_28 (by decide) (fun c_28 => ?_) (fun c_28 => ?_)
      · rw [← Int32.not_lt] at c_28
        refine lv_iconst (v := 1) hx hb dM_isOnly_87 (by decide) ?_
        exact mretz hx hb hr (by decide +kernel) hlk hm ⟨by simp [onlyR, h1, h2, lastI_none.mpr (show ∀ k, k < n → onlyP J j k = false from fun k hk => hx0 k (by omega)), bI], rfl⟩ dM_isOnly_88
      · exact absurd (nI_le (a := n) (b := i) (by omega) (by omega)) c_28
    | succ d ih =>
      intro i hi h1 h2 hx0 H locs ls hm hl
      have hiN : i < n := by omega
      refine lv_iload_n hx hb dM_isOnly_23 rfl (lv_at hl 0 rfl) ?_
      refine lv_aload_n hx hb dM_isOnly_24 rfl (lv_at hl 1 rfl) ?_
      refine g_M_M_46 (v := .int (nI n)) hx hb hE hm hR.1 rfl dM_isOnly_25 ?_
      refine lv_icmp_ge (tgt := 87) hx hb dM_isOnly_28 (by decide) (fun c_28 => ?_) (fun c_28 => ?_)
      · exact absurd c_28 (nI_ge (a := i) (b := n) (by omega) (by omega))
      · rw [Int32.not_le] at c_28
        refine lv_iload_n hx hb dM_isOnly_31 rfl (lv_at hl 0 rfl) ?_
        refine lv_iload_n hx hb dM_isOnly_32 rfl (lv_at hl 2 rfl) ?_
        refine lv_icmp_eq (tgt := 81) hx hb dM_isOnly_33 (by decide) (fun c_33 => ?_) (fun c_33 => ?_)
        · rw [nI_eq (by omega) (by omega)] at c_33
          refine lv_iinc (v := nI i + 1) (lv' := [(2, .int (nI i + 1)), (0, .ref (r)), (1, .int (nI j))]) hx hb dM_isOnly_81 hl (k := 0) rfl rfl (by decide) rfl (fun ls hl => ?_)
          refine lv_goto (tgt := 23) hx hb dM_isOnly_84 (by decide) ?_
          rw [nI_1] at hl
          exact ih (i + 1) (by omega) h1 h2 (lt_s hx0 (by simp [onlyP, uz, c_28, c_33])) H locs ls hm (lv_sub hl [0, 1, 2] rfl)
        · rw [nI_eq (by omega) (by omega)] at c_33
          refine lv_aload_n hx hb dM_isOnly_36 rfl (lv_at hl 1 rfl) ?_
          refine g_M_M_7 (v := .ref (as 0)) hx hb hE hm hR.1 rfl dM_isOnly_37 ?_
          refine lv_iload_n hx hb dM_isOnly_40 rfl (lv_at hl 0 rfl) ?_
          refine ialdE (i) hx hb hE.2.2.1 hm 0 hR.a0 rfl rfl (by have := hR.n200; have := hiN; omega) (by decide) dM_isOnly_41 ?_
          rw [hR.g0 hiN]
          refine lv_aload_n hx hb dM_isOnly_42 rfl (lv_at hl 1 rfl) ?_
          refine g_M_M_7 (v := .ref (as 0)) hx hb hE hm hR.1 rfl dM_isOnly_43 ?_
          refine lv_iload_n hx hb dM_isOnly_46 rfl (lv_at hl 2 rfl) ?_
          refine ialdE (j) hx hb hE.2.2.1 hm 0 hR.a0 rfl rfl (by have := hR.n200; have := hjn; omega) (by decide) dM_isOnly_47 ?_
          rw [hR.g0 hjn]
          refine lv_icmp_ne (tgt := 81) hx hb dM_isOnly_48 (by decide) (fun c_48 => ?_) (fun c_48 => ?_)
          · refine lv_iinc (v := nI i + 1) (lv' := [(2, .int (nI i + 1)), (0, .ref (r)), (1, .int (nI j))]) hx hb dM_isOnly_81 hl (k := 0) rfl rfl (by decide) rfl (fun ls hl => ?_)
            refine lv_goto (tgt := 23) hx hb dM_isOnly_84 (by decide) ?_
            rw [nI_1] at hl
            exact ih (i + 1) (by omega) h1 h2 (lt_s hx0 (by simp [onlyP, uz, c_28, c_33, c_48])) H locs ls hm (lv_sub hl [0, 1, 2] rfl)
          · refine lv_aload_n hx hb dM_isOnly_51 rfl (lv_at hl 1 rfl) ?_
            refine g_M_M_29 (v := .ref (as 6)) hx hb hE hm hR.1 rfl dM_isOnly_52 ?_
            refine lv_iload_n hx hb dM_isOnly_55 rfl (lv_at hl 0 rfl) ?_
            refine ialdE (i) hx hb hE.2.2.1 hm 0 hR.a6 rfl rfl (by have := hR.n200; have := hiN; omega) (by decide) dM_isOnly_56 ?_
            rw [hR.g6 hiN]
            refine lv_iconst (v := 1) hx hb dM_isOnly_57 (by decide) ?_
            refine lv_icmp_ne (tgt := 81) hx hb dM_isOnly_58 (by decide) (fun c_58 => ?_) (fun c_58 => ?_)
            · refine lv_iinc (v := nI i + 1) (lv' := [(2, .int (nI i + 1)), (0, .ref (r)), (1, .int (nI j))]) hx hb dM_isOnly_81 hl (k := 0) rfl rfl (by decide) rfl (fun ls hl => ?_)
              refine lv_goto (tgt := 23) hx hb dM_isOnly_84 (by decide) ?_
              rw [nI_1] at hl
              exact ih (i + 1) (by omega) h1 h2 (lt_s hx0 (by simp [onlyP, uz, c_28, c_33, c_48, c_58])) H locs ls hm (lv_sub hl [0, 1, 2] rfl)
            · refine lv_aload_n hx hb dM_isOnly_61 rfl (lv_at hl 1 rfl) ?_
              refine g_M_M_13 (v := .ref (as 1)) hx hb hE hm hR.1 rfl dM_isOnly_62 ?_
              refine lv_iload_n hx hb dM_isOnly_65 rfl (lv_at hl 0 rfl) ?_
              refine ialdE (i) hx hb hE.2.2.1 hm 0 hR.a1 rfl rfl (by have := hR.n200; have := hiN; omega) (by decide) dM_isOnly_66 ?_
              rw [hR.g1 hiN]
              refine lv_if_ne (tgt := 81) hx hb dM_isOnly_67 (by decide) (fun c_67 => ?_) (fun c_67 => ?_)
              · refine lv_iinc (v := nI i + 1) (lv' := [(2, .int (nI i + 1)), (0, .ref (r)), (1, .int (nI j))]) hx hb dM_isOnly_81 hl (k := 0) rfl rfl (by decide) rfl (fun ls hl => ?_)
                refine lv_goto (tgt := 23) hx hb dM_isOnly_84 (by decide) ?_
                rw [nI_1] at hl
                exact ih (i + 1) (by omega) h1 h2 (lt_s hx0 (by simp [onlyP, uz, c_28, c_33, c_48, c_58, c_67])) H locs ls hm (lv_sub hl [0, 1, 2] rfl)
              · refine lv_aload_n hx hb dM_isOnly_70 rfl (lv_at hl 1 rfl) ?_
                refine g_M_M_32 (v := .ref (as 7)) hx hb hE hm hR.1 rfl dM_isOnly_71 ?_
                refine lv_iload_n hx hb dM_isOnly_74 rfl (lv_at hl 0 rfl) ?_
                refine baldE (i) hx hb hE.2.2.1 hm 1 hR.a7 rfl rfl (by have := hR.n200; have := hiN; omega) (by decide) dM_isOnly_75 ?_
                rw [hR.g7 hiN]
                refine lv_if_ne (tgt := 81) hx hb dM_isOnly_76 (by decide) (fun c_76 => ?_) (fun c_76 => ?_)
                · rw [bI_0] at c_76
                  refine lv_iinc (v := nI i + 1) (lv' := [(2, .int (nI i + 1)), (0, .ref (r)), (1, .int (nI j))]) hx hb dM_isOnly_81 hl (k := 0) rfl rfl (by decide) rfl (fun ls hl => ?_)
                  refine lv_goto (tgt := 23) hx hb dM_isOnly_84 (by decide) ?_
                  rw [nI_1] at hl
                  exact ih (i + 1) (by omega) h1 h2 (lt_s hx0 (by simp [onlyP, uz, c_28, c_33, c_48, c_58, c_67, c_76])) H locs ls hm (lv_sub hl [0, 1, 2] rfl)
                · rw [bI_0] at c_76
                  refine lv_iconst (v := 0) hx hb dM_isOnly_79 (by decide) ?_
                  exact mretz hx hb hr (by decide +kernel) hlk hm ⟨by rw [onlyR, show (lastI (onlyP J j) n).isNone = false from lastI_fd hiN (by simp [onlyP, uz, c_28, c_33, c_48, c_58, c_67, c_76])]; simp [bI], rfl⟩ dM_isOnly_80
  refine lv_aload_n hx hb dM_isOnly_0 rfl (lv_at hl 0 rfl) ?_
  refine g_M_M_29 (v := .ref (as 6)) hx hb hE hm hR.1 rfl dM_isOnly_1 ?_
  refine lv_iload_n hx hb dM_isOnly_4 rfl (lv_at hl 1 rfl) ?_
  refine ialdE (j) hx hb hE.2.2.1 hm 0 hR.a6 rfl rfl (by have := hR.n200; have := hjn; omega) (by decide) dM_isOnly_5 ?_
  rw [hR.g6 hjn]
  refine lv_iconst (v := 1) hx hb dM_isOnly_6 (by decide) ?_
  refine lv_icmp_ne (tgt := 19) hx hb dM_isOnly_7 (by decide) (fun c_7 => ?_) (fun c_7 => ?_)
  · refine lv_iconst (v := 0) hx hb dM_isOnly_19 (by decide) ?_
    exact mretz hx hb hr (by decide +kernel) hlk hm ⟨by simp [onlyR, bI, c_7], rfl⟩ dM_isOnly_20
  · refine lv_aload_n hx hb dM_isOnly_10 rfl (lv_at hl 0 rfl) ?_
    refine g_M_M_13 (v := .ref (as 1)) hx hb hE hm hR.1 rfl dM_isOnly_11 ?_
    refine lv_iload_n hx hb dM_isOnly_14 rfl (lv_at hl 1 rfl) ?_
    refine ialdE (j) hx hb hE.2.2.1 hm 0 hR.a1 rfl rfl (by have := hR.n200; have := hjn; omega) (by decide) dM_isOnly_15 ?_
    rw [hR.g1 hjn]
    refine lv_if_eq (tgt := 21) hx hb dM_isOnly_16 (by decide) (fun c_16 => ?_) (fun c_16 => ?_)
    · refine lv_iconst (v := 0) hx hb dM_isOnly_21 (by decide) ?_
      refine lv_istore_n (lv' := [(2, .int (0)), (0, .ref (r)), (1, .int (nI j))]) hx hb dM_isOnly_22 rfl hl (by decide) rfl (fun ls hl => ?_)
      exact loop n 0 (by omega) (by simpa using c_7) (by simpa using c_16) (fun k hk => absurd hk (Nat.not_lt_zero k)) _ _ ls hm (by rw [nI_0]; exact lv_sub hl [0, 1, 2] rfl)
    · refine lv_iconst (v := 0) hx hb dM_isOnly_19 (by decide) ?_
      exact mretz hx hb hr (by decide +kernel) hlk hm ⟨by simp [onlyR, bI, c_7, c_16], rfl⟩ dM_isOnly_20
end
section
set_option maxHeartbeats 4000000 in
set_option maxRecDepth 100000 in
theorem kM_teller (l : Launch) (B : Nat) (D : va_G) (cI cZ cL : ClassId) (w : Wd) (r : Nat) (as : Nat → Nat) (g : Nat → Nat → Int32) (thr now : Int32) (n : Nat) (J : Nat → Jr) (hR : rR cI cZ r as g thr now n J w) (hM : mW now n J) (x t y : Int32) : Met l yM_teller (.code yM_teller cM_teller 5 (some .int) :: BIG) { frames := 1, cells := 0, slots := 0, locals := 24 } (va_Pc [.ref (r), .int (x), .int (t), .int (y)] (mP B D CLS (TYS cI cZ cL) NEST w)) (va_Qi (fun z u => z = oI (tel n J (hd n J x t) y) ∧ u = w) (mE B D CLS) (fun q => B ≤ q)) 0 0 (fun q => B ≤ q) := by
  refine mMet (by decide) rfl (Nat.le_of_ble_eq_true rfl) ?_
  intro p e s m below meth c ls hx hb hml hr hlk hnm hown hts hK hN hm hl
  have hE : ME "ChainPickerModel" (.code yM_teller cM_teller 5 (some .int)) _ s m D (TYS cI cZ cL) := ⟨hown, hts, hK, hN⟩
  have hl : lv_has ls 5 [(0, .ref (r)), (1, .int (x)), (2, .int (t)), (3, .int (y))] := hl
  have hn200 := hR.n200
  refine lv_iload_n hx hb dM_teller_0 rfl (lv_at hl 3 rfl) ?_
  refine lv_if_lt (tgt := 10) hx hb dM_teller_1 (by decide) (fun c_1 => ?_) (fun c_1 => ?_)
  · refine lv_iconst (v := (-1)) hx hb dM_teller_10 (by decide) ?_
    exact mreti hx hb hr hlk hm ⟨by rw [tel, if_neg (by simp [isF, c_1, ← Int32.not_lt])]; rfl, rfl⟩ dM_teller_11
  · refine lv_iload_n hx hb dM_teller_4 rfl (lv_at hl 3 rfl) ?_
    refine lv_bipush (v := 50) hx hb dM_teller_5 (by decide) ?_
    refine lv_icmp_lt (tgt := 12) hx hb dM_teller_7 (by decide) (fun c_7 => ?_) (fun c_7 => ?_)
    · refine lv_aload_n hx hb dM_teller_12 rfl (lv_at hl 0 rfl) ?_
      refine lv_iload_n hx hb dM_teller_13 rfl (lv_at hl 1 rfl) ?_
      refine lv_iload_n hx hb dM_teller_14 rfl (lv_at hl 2 rfl) ?_
      refine mcalli (mcV (n := 2) (As := [.int (x), .int (t)]) (rest := []) hx hb hml hE (kM_head l B D cI cZ cL w r as g thr now n J hR hM x t) q_373 q_375 qs_10 q_2 q_376 rfl rfl (by decide +kernel) ⟨Nat.le_of_ble_eq_true rfl, Nat.le_of_ble_eq_true rfl⟩ rfl hl.1 hm rfl hR.1 rfl (Nat.le_of_ble_eq_true rfl) dM_teller_15 ⟨Nat.le_of_ble_eq_true rfl, Nat.le_of_ble_eq_true rfl⟩) hm (fun r1 u1 H locs hp1 hm => ?_)
      obtain ⟨hr1, hu1⟩ := hp1
      rw [hu1] at hm
      rw [hd_eq] at hr1
      subst hr1
      refine lv_istore (lv' := [(4, .int (oI (hd n J x t))), (0, .ref (r)), (1, .int (x)), (2, .int (t)), (3, .int (y))]) hx hb dM_teller_18 hl (by decide) rfl (fun ls hl => ?_)
      have hF : isF y = true := by simp [isF, c_1, c_7, ← Int32.not_lt]
      obtain ⟨k, hk, hyk, hck⟩ := isF_of hF
      have loop : ∀ (f : Nat) (h : Option Nat), (∀ i, h = some i → i < f ∧ i < n) → tlr J k (chn J n (hd n J x t)) = tlr J k (chn J f h) → ∀ (H : Heap) (locs : List Loc) (ls : Array Slot), mS B D CLS s.heap w H locs → lv_has ls 5 [(4, .int (oI h)), (0, .ref (r)), (1, .int (x)), (2, .int (t)), (3, .int (y))] → W p l e ({ frames := 1, cells := 0, slots := 0, locals := 24 }) s m [.ref (r), .int (x), .int (t), .int (y)].toArray below meth c H locs 0 0 (MQ below (va_Qi (fun z u => z = oI (tel n J (hd n J x t) y) ∧ u = w) (mE B D CLS) (fun q => B ≤ q)) [.ref (r), .int (x), .int (t), .int (y)].toArray s 0 0 (fun q => B ≤ q)) (F0 m 20 ls []) := by
        intro f
        induction f with
        | zero =>
          intro h hlt heq H locs ls hm hl
          cases h with
          | none =>
            have hl : lv_has ls 5 [(4, .int (-1)), (0, .ref (r)), (1, .int (x)), (2, .int (t)), (3, .int (y))] := hl
            refine lv_iload hx hb dM_teller_20 (lv_at hl 0 rfl) ?_
            refine lv_if_lt (tgt := 54) hx hb dM_teller_22 (by decide) (fun c_22 => ?_) (fun c_22 => ?_)
            · refine lv_iload hx hb dM_teller_54 (lv_at hl 0 rfl) ?_
              exact mreti hx hb hr hlk hm ⟨by rw [tel, if_pos hF, hck, heq, tlr_n]; rfl, rfl⟩ dM_teller_56
            · first | exact absurd c_22 (by decide) | exact absurd (by decide) c_22
          | some i => exact absurd (hlt i rfl).1 (Nat.not_lt_zero _)
        | succ f ih =>
          intro h hlt heq H locs ls hm hl
          cases h with
          | none =>
            have hl : lv_has ls 5 [(4, .int (-1)), (0, .ref (r)), (1, .int (x)), (2, .int (t)), (3, .int (y))] := hl
            refine lv_iload hx hb dM_teller_20 (lv_at hl 0 rfl) ?_
            refine lv_if_lt (tgt := 54) hx hb dM_teller_22 (by decide) (fun c_22 => ?_) (fun c_22 => ?_)
            · refine lv_iload hx hb dM_teller_54 (lv_at hl 0 rfl) ?_
              exact mreti hx hb hr hlk hm ⟨by rw [tel, if_pos hF, hck, heq, tlr_n]; rfl, rfl⟩ dM_teller_56
            · first | exact absurd c_22 (by decide) | exact absurd (by decide) c_22
          | some i =>
            have hiN : i < n := (hlt i rfl).2
            have hl : lv_has ls 5 [(4, .int (nI i)), (0, .ref (r)), (1, .int (x)), (2, .int (t)), (3, .int (y))] := hl
            refine lv_iload hx hb dM_teller_20 (lv_at hl 0 rfl) ?_
            refine lv_if_lt (tgt := 54) hx hb dM_teller_22 (by decide) (fun c_22 => ?_) (fun c_22 => ?_)
            · exact absurd c_22 (nI_pos (by omega))
            · refine lv_aload_n hx hb dM_teller_25 rfl (lv_at hl 1 rfl) ?_
              refine g_M_M_35 (v := .ref (as 8)) hx hb hE hm hR.1 rfl dM_teller_26 ?_
              refine lv_bipush (v := 50) hx hb dM_teller_29 (by decide) ?_
              refine lv_iload hx hb dM_teller_31 (lv_at hl 0 rfl) ?_
              refine lv_imul hx hb dM_teller_33 ?_
              refine lv_iload_n hx hb dM_teller_34 rfl (lv_at hl 4 rfl) ?_
              refine lv_iadd hx hb dM_teller_35 ?_
              refine ialdE (50 * i + k) hx hb hE.2.2.1 hm 0 hR.a8 rfl (i50 hyk) (by omega) (by decide) dM_teller_36 ?_
              rw [hR.g8 hiN hk]
              refine lv_bipush (v := (-2)) hx hb dM_teller_37 (by decide) ?_
              refine lv_icmp_ne (tgt := 54) hx hb dM_teller_39 (by decide) (fun c_39 => ?_) (fun c_39 => ?_)
              · refine lv_iload hx hb dM_teller_54 (lv_at hl 0 rfl) ?_
                exact mreti hx hb hr hlk hm ⟨by rw [tel, if_pos hF, hck, heq, tlr_s c_39]; rfl, rfl⟩ dM_teller_56
              · refine lv_aload_n hx hb dM_teller_42 rfl (lv_at hl 1 rfl) ?_
                refine g_M_M_20 (v := .ref (as 3)) hx hb hE hm hR.1 rfl dM_teller_43 ?_
                refine lv_iload hx hb dM_teller_46 (lv_at hl 0 rfl) ?_
                refine ialdE (i) hx hb hE.2.2.1 hm 0 hR.a3 rfl rfl (by have := hR.n200; have := hiN; omega) (by decide) dM_teller_48 ?_
                rw [hR.g3 hiN]
                refine lv_istore (lv' := [(4, .int (oI (jBs (J i)))), (0, .ref (r)), (1, .int (x)), (2, .int (t)), (3, .int (y))]) hx hb dM_teller_49 hl (by decide) rfl (fun ls hl => ?_)
                refine lv_goto (tgt := 20) hx hb dM_teller_51 (by decide) ?_
                exact ih (jBs (J i)) (fun b hb => ⟨Nat.lt_of_lt_of_le (hR.bs hiN hb) (Nat.le_of_lt_succ (hlt i rfl).1), Nat.lt_trans (hR.bs hiN hb) hiN⟩) (by rw [heq, tlr_c (by simpa using c_39)]) H locs ls hm (lv_sub hl [0, 1, 2, 3, 4] rfl)
      exact loop n _ (fun i hi => ⟨hd_lt i hi, hd_lt i hi⟩) rfl _ _ ls hm (lv_sub hl [0, 1, 2, 3, 4] rfl)
    · refine lv_iconst (v := (-1)) hx hb dM_teller_10 (by decide) ?_
      exact mreti hx hb hr hlk hm ⟨by rw [tel, if_neg (by simp [isF, c_1, c_7, ← Int32.not_lt])]; rfl, rfl⟩ dM_teller_11
set_option maxHeartbeats 4000000 in
set_option maxRecDepth 100000 in
theorem kM_version (l : Launch) (B : Nat) (D : va_G) (cI cZ cL : ClassId) (w : Wd) (r : Nat) (as : Nat → Nat) (g : Nat → Nat → Int32) (thr now : Int32) (n : Nat) (J : Nat → Jr) (hR : rR cI cZ r as g thr now n J w) (hM : mW now n J) (x t y : Int32) : Met l yM_version (.code yM_version cM_version 5 (some .int) :: BIG) { frames := 2, cells := 0, slots := 0, locals := 48 } (va_Pc [.ref (r), .int (x), .int (t), .int (y)] (mP B D CLS (TYS cI cZ cL) NEST w)) (va_Qi (fun z u => z = ver n J (hd n J x t) y ∧ u = w) (mE B D CLS) (fun q => B ≤ q)) 0 0 (fun q => B ≤ q) := by
  refine mMet (by decide) rfl (Nat.le_of_ble_eq_true rfl) ?_
  intro p e s m below meth c ls hx hb hml hr hlk hnm hown hts hK hN hm hl
  have hE : ME "ChainPickerModel" (.code yM_version cM_version 5 (some .int)) _ s m D (TYS cI cZ cL) := ⟨hown, hts, hK, hN⟩
  have hl : lv_has ls 5 [(0, .ref (r)), (1, .int (x)), (2, .int (t)), (3, .int (y))] := hl
  have hn200 := hR.n200
  refine lv_aload_n hx hb dM_version_0 rfl (lv_at hl 0 rfl) ?_
  refine lv_iload_n hx hb dM_version_1 rfl (lv_at hl 1 rfl) ?_
  refine lv_iload_n hx hb dM_version_2 rfl (lv_at hl 2 rfl) ?_
  refine lv_iload_n hx hb dM_version_3 rfl (lv_at hl 3 rfl) ?_
  refine mcalli (mcV (n := 3) (As := [.int (x), .int (t), .int (y)]) (rest := []) hx hb hml hE (kM_teller l B D cI cZ cL w r as g thr now n J hR hM x t y) q_389 q_391 qs_12 q_2 q_392 rfl rfl (by decide +kernel) ⟨Nat.le_of_ble_eq_true rfl, Nat.le_of_ble_eq_true rfl⟩ rfl hl.1 hm rfl hR.1 rfl (Nat.le_of_ble_eq_true rfl) dM_version_4 ⟨Nat.le_of_ble_eq_true rfl, Nat.le_of_ble_eq_true rfl⟩) hm (fun r1 u1 H locs hp1 hm => ?_)
  obtain ⟨hr1, hu1⟩ := hp1
  rw [hu1] at hm
  subst hr1
  cases ht : tel n J (hd n J x t) y with
  | none =>
    show W _ _ _ _ _ _ _ _ _ _ _ _ _ _ _ (F0 m 7 ls [.int (-1)])
    refine lv_istore (lv' := [(4, .int (-1)), (0, .ref (r)), (1, .int (x)), (2, .int (t)), (3, .int (y))]) hx hb dM_version_7 hl (by decide) rfl (fun ls hl => ?_)
    refine lv_iload hx hb dM_version_9 (lv_at hl 0 rfl) ?_
    refine lv_if_ge (tgt := 18) hx hb dM_version_11 (by decide) (fun c_11 => ?_) (fun c_11 => ?_)
    · first | exact absurd c_11 (by decide) | exact absurd (by decide) c_11
    · refine lv_iconst (v := (-1)) hx hb dM_version_14 (by decide) ?_
      refine lv_goto (tgt := 30) hx hb dM_version_15 (by decide) ?_
      exact mreti hx hb hr hlk hm ⟨by simp only [ver, ht], rfl⟩ dM_version_30
  | some j =>
    obtain ⟨hjn, hfx, -⟩ := tel_lt (fun i hi b hb => hR.bs hi hb) hd_lt ht
    obtain ⟨k, hk, hyk, hck⟩ := isF_of hfx
    show W _ _ _ _ _ _ _ _ _ _ _ _ _ _ _ (F0 m 7 ls [.int (nI j)])
    refine lv_istore (lv' := [(4, .int (nI j)), (0, .ref (r)), (1, .int (x)), (2, .int (t)), (3, .int (y))]) hx hb dM_version_7 hl (by decide) rfl (fun ls hl => ?_)
    refine lv_iload hx hb dM_version_9 (lv_at hl 0 rfl) ?_
    refine lv_if_ge (tgt := 18) hx hb dM_version_11 (by decide) (fun c_11 => ?_) (fun c_11 => ?_)
    · refine lv_aload_n hx hb dM_version_18 rfl (lv_at hl 1 rfl) ?_
      refine g_M_M_35 (v := .ref (as 8)) hx hb hE hm hR.1 rfl dM_version_19 ?_
      refine lv_bipush (v := 50) hx hb dM_version_22 (by decide) ?_
      refine lv_iload hx hb dM_version_24 (lv_at hl 0 rfl) ?_
      refine lv_imul hx hb dM_version_26 ?_
      refine lv_iload_n hx hb dM_version_27 rfl (lv_at hl 4 rfl) ?_
      refine lv_iadd hx hb dM_version_28 ?_
      refine ialdE (50 * j + k) hx hb hE.2.2.1 hm 0 hR.a8 rfl (i50 hyk) (by omega) (by decide) dM_version_29 ?_
      rw [hR.g8 hjn hk]
      exact mreti hx hb hr hlk hm ⟨by simp only [ver, ht]; rw [hck], rfl⟩ dM_version_30
    · exact absurd (nI_pos' (by omega)) c_11
set_option maxHeartbeats 4000000 in
set_option maxRecDepth 100000 in
theorem kM_view (l : Launch) (B : Nat) (D : va_G) (cI cZ cL : ClassId) (w : Wd) (r : Nat) (as : Nat → Nat) (g : Nat → Nat → Int32) (thr now : Int32) (n : Nat) (J : Nat → Jr) (hR : rR cI cZ r as g thr now n J w) (hM : mW now n J) (x t y : Int32) : Met l yM_view (.code yM_view cM_view 4 (some .int) :: BIG) { frames := 3, cells := 0, slots := 0, locals := 72 } (va_Pc [.ref (r), .int (x), .int (t), .int (y)] (mP B D CLS (TYS cI cZ cL) NEST w)) (va_Qi (fun z u => z = ver n J (hd n J x t) y ∧ rR cI cZ r as g 0 now n J u ∧ rK r as w u) (mE B D CLS) (fun q => B ≤ q)) 0 0 (fun q => B ≤ q) := by
  refine mMet (by decide) rfl (Nat.le_of_ble_eq_true rfl) ?_
  intro p e s m below meth c ls hx hb hml hr hlk hnm hown hts hK hN hm hl
  have hE : ME "ChainPickerModel" (.code yM_view cM_view 4 (some .int)) _ s m D (TYS cI cZ cL) := ⟨hown, hts, hK, hN⟩
  have hl : lv_has ls 4 [(0, .ref (r)), (1, .int (x)), (2, .int (t)), (3, .int (y))] := hl
  have hn200 := hR.n200
  refine lv_aload_n hx hb dM_view_0 rfl (lv_at hl 0 rfl) ?_
  refine lv_iconst (v := 0) hx hb dM_view_1 (by decide) ?_
  refine p_M_M_38 (x := 0) hx hb hE hm hR.1 (by simp) dM_view_2 (fun H locs hm => ?_)
  obtain ⟨w1, hhw1⟩ : ∃ z : Wd, z = wset w (r) (.inr (2, [.int (0), .int (now), .int (nI n), .ref (as 0), .ref (as 1), .ref (as 2), .ref (as 3), .ref (as 4), .ref (as 5), .ref (as 6), .ref (as 7), .ref (as 8)])) := ⟨_, rfl⟩
  have hm : mS B D CLS s.heap w1 H locs := by rw [hhw1]; exact hm
  have hw1 : w1 = wset (w) (r) (.inr (2, [.int (0), .int (now), .int (nI n), .ref (as 0), .ref (as 1), .ref (as 2), .ref (as 3), .ref (as 4), .ref (as 5), .ref (as 6), .ref (as 7), .ref (as 8)])) := by rw [hhw1]
  have fw1 : w1 (r) = some (.inr (2, [.int (0), .int (now), .int (nI n), .ref (as 0), .ref (as 1), .ref (as 2), .ref (as 3), .ref (as 4), .ref (as 5), .ref (as 6), .ref (as 7), .ref (as 8)])) := by rw [hhw1]; exact wset_at _ _ _
  have fw1_1 := (show w1 (as 0) = w (as 0) by rw [hhw1]; exact wset_ne (hR.ne (by decide : 0 < 9))).trans hR.a0
  have fw1_2 := (show w1 (as 1) = w (as 1) by rw [hhw1]; exact wset_ne (hR.ne (by decide : 1 < 9))).trans hR.a1
  have fw1_3 := (show w1 (as 2) = w (as 2) by rw [hhw1]; exact wset_ne (hR.ne (by decide : 2 < 9))).trans hR.a2
  have fw1_4 := (show w1 (as 3) = w (as 3) by rw [hhw1]; exact wset_ne (hR.ne (by decide : 3 < 9))).trans hR.a3
  have fw1_5 := (show w1 (as 4) = w (as 4) by rw [hhw1]; exact wset_ne (hR.ne (by decide : 4 < 9))).trans hR.a4
  have fw1_6 := (show w1 (as 5) = w (as 5) by rw [hhw1]; exact wset_ne (hR.ne (by decide : 5 < 9))).trans hR.a5
  have fw1_7 := (show w1 (as 6) = w (as 6) by rw [hhw1]; exact wset_ne (hR.ne (by decide : 6 < 9))).trans hR.a6
  have fw1_8 := (show w1 (as 7) = w (as 7) by rw [hhw1]; exact wset_ne (hR.ne (by decide : 7 < 9))).trans hR.a7
  have fw1_9 := (show w1 (as 8) = w (as 8) by rw [hhw1]; exact wset_ne (hR.ne (by decide : 8 < 9))).trans hR.a8
  have hR1 : rR cI cZ r as g 0 now n J w1 := by rw [hw1]; exact hR.set _ _
  have hK1 : rK r as w w1 := by rw [hw1]; exact rK.rf.set rF_r
  refine lv_aload_n hx hb dM_view_5 rfl (lv_at hl 0 rfl) ?_
  refine lv_iload_n hx hb dM_view_6 rfl (lv_at hl 1 rfl) ?_
  refine lv_iload_n hx hb dM_view_7 rfl (lv_at hl 2 rfl) ?_
  refine lv_iload_n hx hb dM_view_8 rfl (lv_at hl 3 rfl) ?_
  refine mcalli (mcV (n := 3) (As := [.int (x), .int (t), .int (y)]) (rest := []) hx hb hml hE (kM_version l B D cI cZ cL w1 r as g 0 now n J hR1 hM x t y) q_385 q_387 qs_11 q_2 q_388 rfl rfl (by decide +kernel) ⟨Nat.le_of_ble_eq_true rfl, Nat.le_of_ble_eq_true rfl⟩ rfl hl.1 hm rfl hR1.1 rfl (Nat.le_of_ble_eq_true rfl) dM_view_9 ⟨Nat.le_of_ble_eq_true rfl, Nat.le_of_ble_eq_true rfl⟩) hm (fun r2 u2 H locs hp2 hm => ?_)
  obtain ⟨hr2, hu2⟩ := hp2
  rw [hu2] at hm
  exact mreti hx hb hr hlk hm ⟨hr2, hR1, hK1⟩ dM_view_12
set_option maxHeartbeats 4000000 in
set_option maxRecDepth 100000 in
theorem kM_source (l : Launch) (B : Nat) (D : va_G) (cI cZ cL : ClassId) (w : Wd) (r : Nat) (as : Nat → Nat) (g : Nat → Nat → Int32) (thr now : Int32) (n : Nat) (J : Nat → Jr) (hR : rR cI cZ r as g thr now n J w) (hM : mW now n J) (x t y : Int32) : Met l yM_source (.code yM_source cM_source 4 (some .int) :: BIG) { frames := 2, cells := 0, slots := 0, locals := 48 } (va_Pc [.ref (r), .int (x), .int (t), .int (y)] (mP B D CLS (TYS cI cZ cL) NEST w)) (va_Qi (fun z u => z = oI (tel n J (hd n J x t) y) ∧ rR cI cZ r as g 0 now n J u ∧ rK r as w u) (mE B D CLS) (fun q => B ≤ q)) 0 0 (fun q => B ≤ q) := by
  refine mMet (by decide) rfl (Nat.le_of_ble_eq_true rfl) ?_
  intro p e s m below meth c ls hx hb hml hr hlk hnm hown hts hK hN hm hl
  have hE : ME "ChainPickerModel" (.code yM_source cM_source 4 (some .int)) _ s m D (TYS cI cZ cL) := ⟨hown, hts, hK, hN⟩
  have hl : lv_has ls 4 [(0, .ref (r)), (1, .int (x)), (2, .int (t)), (3, .int (y))] := hl
  have hn200 := hR.n200
  refine lv_aload_n hx hb dM_source_0 rfl (lv_at hl 0 rfl) ?_
  refine lv_iconst (v := 0) hx hb dM_source_1 (by decide) ?_
  refine p_M_M_38 (x := 0) hx hb hE hm hR.1 (by simp) dM_source_2 (fun H locs hm => ?_)
  obtain ⟨w1, hhw1⟩ : ∃ z : Wd, z = wset w (r) (.inr (2, [.int (0), .int (now), .int (nI n), .ref (as 0), .ref (as 1), .ref (as 2), .ref (as 3), .ref (as 4), .ref (as 5), .ref (as 6), .ref (as 7), .ref (as 8)])) := ⟨_, rfl⟩
  have hm : mS B D CLS s.heap w1 H locs := by rw [hhw1]; exact hm
  have hw1 : w1 = wset (w) (r) (.inr (2, [.int (0), .int (now), .int (nI n), .ref (as 0), .ref (as 1), .ref (as 2), .ref (as 3), .ref (as 4), .ref (as 5), .ref (as 6), .ref (as 7), .ref (as 8)])) := by rw [hhw1]
  have fw1 : w1 (r) = some (.inr (2, [.int (0), .int (now), .int (nI n), .ref (as 0), .ref (as 1), .ref (as 2), .ref (as 3), .ref (as 4), .ref (as 5), .ref (as 6), .ref (as 7), .ref (as 8)])) := by rw [hhw1]; exact wset_at _ _ _
  have fw1_1 := (show w1 (as 0) = w (as 0) by rw [hhw1]; exact wset_ne (hR.ne (by decide : 0 < 9))).trans hR.a0
  have fw1_2 := (show w1 (as 1) = w (as 1) by rw [hhw1]; exact wset_ne (hR.ne (by decide : 1 < 9))).trans hR.a1
  have fw1_3 := (show w1 (as 2) = w (as 2) by rw [hhw1]; exact wset_ne (hR.ne (by decide : 2 < 9))).trans hR.a2
  have fw1_4 := (show w1 (as 3) = w (as 3) by rw [hhw1]; exact wset_ne (hR.ne (by decide : 3 < 9))).trans hR.a3
  have fw1_5 := (show w1 (as 4) = w (as 4) by rw [hhw1]; exact wset_ne (hR.ne (by decide : 4 < 9))).trans hR.a4
  have fw1_6 := (show w1 (as 5) = w (as 5) by rw [hhw1]; exact wset_ne (hR.ne (by decide : 5 < 9))).trans hR.a5
  have fw1_7 := (show w1 (as 6) = w (as 6) by rw [hhw1]; exact wset_ne (hR.ne (by decide : 6 < 9))).trans hR.a6
  have fw1_8 := (show w1 (as 7) = w (as 7) by rw [hhw1]; exact wset_ne (hR.ne (by decide : 7 < 9))).trans hR.a7
  have fw1_9 := (show w1 (as 8) = w (as 8) by rw [hhw1]; exact wset_ne (hR.ne (by decide : 8 < 9))).trans hR.a8
  have hR1 : rR cI cZ r as g 0 now n J w1 := by rw [hw1]; exact hR.set _ _
  have hK1 : rK r as w w1 := by rw [hw1]; exact rK.rf.set rF_r
  refine lv_aload_n hx hb dM_source_5 rfl (lv_at hl 0 rfl) ?_
  refine lv_iload_n hx hb dM_source_6 rfl (lv_at hl 1 rfl) ?_
  refine lv_iload_n hx hb dM_source_7 rfl (lv_at hl 2 rfl) ?_
  refine lv_iload_n hx hb dM_source_8 rfl (lv_at hl 3 rfl) ?_
  refine mcalli (mcV (n := 3) (As := [.int (x), .int (t), .int (y)]) (rest := []) hx hb hml hE (kM_teller l B D cI cZ cL w1 r as g 0 now n J hR1 hM x t y) q_389 q_391 qs_12 q_2 q_392 rfl rfl (by decide +kernel) ⟨Nat.le_of_ble_eq_true rfl, Nat.le_of_ble_eq_true rfl⟩ rfl hl.1 hm rfl hR1.1 rfl (Nat.le_of_ble_eq_true rfl) dM_source_9 ⟨Nat.le_of_ble_eq_true rfl, Nat.le_of_ble_eq_true rfl⟩) hm (fun r2 u2 H locs hp2 hm => ?_)
  obtain ⟨hr2, hu2⟩ := hp2
  rw [hu2] at hm
  exact mreti hx hb hr hlk hm ⟨hr2, hR1, hK1⟩ dM_source_12
set_option maxHeartbeats 4000000 in
set_option maxRecDepth 100000 in
theorem kM_chain (l : Launch) (B : Nat) (D : va_G) (cI cZ cL : ClassId) (w : Wd) (r : Nat) (as : Nat → Nat) (g : Nat → Nat → Int32) (thr now : Int32) (n : Nat) (J : Nat → Jr) (hR : rR cI cZ r as g thr now n J w) (hM : mW now n J) (x t : Int32) : Met l yM_chain (.code yM_chain cM_chain 5 (some .int) :: BIG) { frames := 1, cells := 0, slots := 0, locals := 24 } (va_Pc [.ref (r), .int (x), .int (t)] (mP B D CLS (TYS cI cZ cL) NEST w)) (va_Qi (fun z u => z = nI (chn J n (hd n J x t)).length ∧ rR cI cZ r as g 0 now n J u ∧ rK r as w u) (mE B D CLS) (fun q => B ≤ q)) 0 0 (fun q => B ≤ q) := by
  refine mMet (by decide) rfl (Nat.le_of_ble_eq_true rfl) ?_
  intro p e s m below meth c ls hx hb hml hr hlk hnm hown hts hK hN hm hl
  have hE : ME "ChainPickerModel" (.code yM_chain cM_chain 5 (some .int)) _ s m D (TYS cI cZ cL) := ⟨hown, hts, hK, hN⟩
  have hl : lv_has ls 5 [(0, .ref (r)), (1, .int (x)), (2, .int (t))] := hl
  have hn200 := hR.n200
  refine lv_aload_n hx hb dM_chain_0 rfl (lv_at hl 0 rfl) ?_
  refine lv_iconst (v := 0) hx hb dM_chain_1 (by decide) ?_
  refine p_M_M_38 (x := 0) hx hb hE hm hR.1 (by simp) dM_chain_2 (fun H locs hm => ?_)
  obtain ⟨w1, hhw1⟩ : ∃ z : Wd, z = wset w (r) (.inr (2, [.int (0), .int (now), .int (nI n), .ref (as 0), .ref (as 1), .ref (as 2), .ref (as 3), .ref (as 4), .ref (as 5), .ref (as 6), .ref (as 7), .ref (as 8)])) := ⟨_, rfl⟩
  have hm : mS B D CLS s.heap w1 H locs := by rw [hhw1]; exact hm
  have hw1 : w1 = wset (w) (r) (.inr (2, [.int (0), .int (now), .int (nI n), .ref (as 0), .ref (as 1), .ref (as 2), .ref (as 3), .ref (as 4), .ref (as 5), .ref (as 6), .ref (as 7), .ref (as 8)])) := by rw [hhw1]
  have fw1 : w1 (r) = some (.inr (2, [.int (0), .int (now), .int (nI n), .ref (as 0), .ref (as 1), .ref (as 2), .ref (as 3), .ref (as 4), .ref (as 5), .ref (as 6), .ref (as 7), .ref (as 8)])) := by rw [hhw1]; exact wset_at _ _ _
  have fw1_1 := (show w1 (as 0) = w (as 0) by rw [hhw1]; exact wset_ne (hR.ne (by decide : 0 < 9))).trans hR.a0
  have fw1_2 := (show w1 (as 1) = w (as 1) by rw [hhw1]; exact wset_ne (hR.ne (by decide : 1 < 9))).trans hR.a1
  have fw1_3 := (show w1 (as 2) = w (as 2) by rw [hhw1]; exact wset_ne (hR.ne (by decide : 2 < 9))).trans hR.a2
  have fw1_4 := (show w1 (as 3) = w (as 3) by rw [hhw1]; exact wset_ne (hR.ne (by decide : 3 < 9))).trans hR.a3
  have fw1_5 := (show w1 (as 4) = w (as 4) by rw [hhw1]; exact wset_ne (hR.ne (by decide : 4 < 9))).trans hR.a4
  have fw1_6 := (show w1 (as 5) = w (as 5) by rw [hhw1]; exact wset_ne (hR.ne (by decide : 5 < 9))).trans hR.a5
  have fw1_7 := (show w1 (as 6) = w (as 6) by rw [hhw1]; exact wset_ne (hR.ne (by decide : 6 < 9))).trans hR.a6
  have fw1_8 := (show w1 (as 7) = w (as 7) by rw [hhw1]; exact wset_ne (hR.ne (by decide : 7 < 9))).trans hR.a7
  have fw1_9 := (show w1 (as 8) = w (as 8) by rw [hhw1]; exact wset_ne (hR.ne (by decide : 8 < 9))).trans hR.a8
  have hR1 : rR cI cZ r as g 0 now n J w1 := by rw [hw1]; exact hR.set _ _
  have hK1 : rK r as w w1 := by rw [hw1]; exact rK.rf.set rF_r
  refine lv_iconst (v := 0) hx hb dM_chain_5 (by decide) ?_
  refine lv_istore_n (lv' := [(3, .int (0)), (0, .ref (r)), (1, .int (x)), (2, .int (t))]) hx hb dM_chain_6 rfl hl (by decide) rfl (fun ls hl => ?_)
  refine lv_aload_n hx hb dM_chain_7 rfl (lv_at hl 1 rfl) ?_
  refine lv_iload_n hx hb dM_chain_8 rfl (lv_at hl 2 rfl) ?_
  refine lv_iload_n hx hb dM_chain_9 rfl (lv_at hl 3 rfl) ?_
  refine mcalli (mcV (n := 2) (As := [.int (x), .int (t)]) (rest := []) hx hb hml hE (kM_head l B D cI cZ cL w1 r as g 0 now n J hR1 hM x t) q_373 q_375 qs_10 q_2 q_376 rfl rfl (by decide +kernel) ⟨Nat.le_of_ble_eq_true rfl, Nat.le_of_ble_eq_true rfl⟩ rfl hl.1 hm rfl hR1.1 rfl (Nat.le_of_ble_eq_true rfl) dM_chain_10 ⟨Nat.le_of_ble_eq_true rfl, Nat.le_of_ble_eq_true rfl⟩) hm (fun r2 u2 H locs hp2 hm => ?_)
  obtain ⟨hr2, hu2⟩ := hp2
  rw [hu2] at hm
  rw [hd_eq] at hr2
  subst hr2
  refine lv_istore (lv' := [(4, .int (oI (hd n J x t))), (3, .int (0)), (0, .ref (r)), (1, .int (x)), (2, .int (t))]) hx hb dM_chain_13 hl (by decide) rfl (fun ls hl => ?_)
  have loop : ∀ (f : Nat) (h : Option Nat), (∀ i, h = some i → i < f ∧ i < n) → ∀ (y : Int32), y + nI (chn J f h).length = nI (chn J n (hd n J x t)).length → ∀ (H : Heap) (locs : List Loc) (ls : Array Slot), mS B D CLS s.heap w1 H locs → lv_has ls 5 [(4, .int (oI h)), (3, .int (y)), (0, .ref (r)), (1, .int (x)), (2, .int (t))] → W p l e ({ frames := 1, cells := 0, slots := 0, locals := 24 }) s m [.ref (r), .int (x), .int (t)].toArray below meth c H locs 0 0 (MQ below (va_Qi (fun z u => z = nI (chn J n (hd n J x t)).length ∧ rR cI cZ r as g 0 now n J u ∧ rK r as w u) (mE B D CLS) (fun q => B ≤ q)) [.ref (r), .int (x), .int (t)].toArray s 0 0 (fun q => B ≤ q)) (F0 m 15 ls []) := by
    intro f
    induction f with
    | zero =>
      intro h hlt y hy H locs ls hm hl
      cases h with
      | none =>
        have hl : lv_has ls 5 [(4, .int (-1)), (3, .int (y)), (0, .ref (r)), (1, .int (x)), (2, .int (t))] := hl
        refine lv_iload hx hb dM_chain_15 (lv_at hl 0 rfl) ?_
        refine lv_if_lt (tgt := 35) hx hb dM_chain_17 (by decide) (fun c_17 => ?_) (fun c_17 => ?_)
        · refine lv_iload_n hx hb dM_chain_35 rfl (lv_at hl 1 rfl) ?_
          exact mreti hx hb hr hlk hm ⟨len0 hy, hR1, hK1⟩ dM_chain_36
        · first | exact absurd c_17 (by decide) | exact absurd (by decide) c_17
      | some i => exact absurd (hlt i rfl).1 (Nat.not_lt_zero _)
    | succ f ih =>
      intro h hlt y hy H locs ls hm hl
      cases h with
      | none =>
        have hl : lv_has ls 5 [(4, .int (-1)), (3, .int (y)), (0, .ref (r)), (1, .int (x)), (2, .int (t))] := hl
        refine lv_iload hx hb dM_chain_15 (lv_at hl 0 rfl) ?_
        refine lv_if_lt (tgt := 35) hx hb dM_chain_17 (by decide) (fun c_17 => ?_) (fun c_17 => ?_)
        · refine lv_iload_n hx hb dM_chain_35 rfl (lv_at hl 1 rfl) ?_
          exact mreti hx hb hr hlk hm ⟨len0 hy, hR1, hK1⟩ dM_chain_36
        · first | exact absurd c_17 (by decide) | exact absurd (by decide) c_17
      | some i =>
        have hiN : i < n := (hlt i rfl).2
        have hl : lv_has ls 5 [(4, .int (nI i)), (3, .int (y)), (0, .ref (r)), (1, .int (x)), (2, .int (t))] := hl
        refine lv_iload hx hb dM_chain_15 (lv_at hl 0 rfl) ?_
        refine lv_if_lt (tgt := 35) hx hb dM_chain_17 (by decide) (fun c_17 => ?_) (fun c_17 => ?_)
        · exact absurd c_17 (nI_pos (by omega))
        · refine lv_iinc (v := y + 1) (lv' := [(3, .int (y + 1)), (4, .int (nI i)), (0, .ref (r)), (1, .int (x)), (2, .int (t))]) hx hb dM_chain_20 hl (k := 1) rfl rfl (by decide) rfl (fun ls hl => ?_)
          refine lv_aload_n hx hb dM_chain_23 rfl (lv_at hl 2 rfl) ?_
          refine g_M_M_20 (v := .ref (as 3)) hx hb hE hm hR1.1 rfl dM_chain_24 ?_
          refine lv_iload hx hb dM_chain_27 (lv_at hl 1 rfl) ?_
          refine ialdE (i) hx hb hE.2.2.1 hm 0 hR1.a3 rfl rfl (by have := hR.n200; have := hiN; omega) (by decide) dM_chain_29 ?_
          rw [hR1.g3 hiN]
          refine lv_istore (lv' := [(4, .int (oI (jBs (J i)))), (3, .int (y + 1)), (0, .ref (r)), (1, .int (x)), (2, .int (t))]) hx hb dM_chain_30 hl (by decide) rfl (fun ls hl => ?_)
          refine lv_goto (tgt := 15) hx hb dM_chain_32 (by decide) ?_
          exact ih (jBs (J i)) (fun b hb => ⟨Nat.lt_of_lt_of_le (hR.bs hiN hb) (Nat.le_of_lt_succ (hlt i rfl).1), Nat.lt_trans (hR.bs hiN hb) hiN⟩) (y + 1) (lenI hy) H locs ls hm (lv_sub hl [0, 1, 2, 3, 4] rfl)
  exact loop n _ (fun i hi => ⟨hd_lt i hi, hd_lt i hi⟩) 0 (by simp) _ _ ls hm (lv_sub hl [0, 1, 2, 3, 4] rfl)
end
section
set_option maxHeartbeats 4000000 in
set_option maxRecDepth 100000 in
theorem kM_thrown (l : Launch) (B : Nat) (D : va_G) (cI cZ cL : ClassId) (w : Wd) (r : Nat) (as : Nat → Nat) (g : Nat → Nat → Int32) (thr now : Int32) (n : Nat) (J : Nat → Jr) (hR : rR cI cZ r as g thr now n J w) : Met l yM_thrown (.code yM_thrown cM_thrown 1 (some .int) :: BIG) { frames := 0, cells := 0, slots := 0, locals := 0 } (va_Pc [.ref (r)] (mP B D CLS (TYS cI cZ cL) NEST w)) (va_Qi (fun z u => z = thr ∧ u = w) (mE B D CLS) (fun q => B ≤ q)) 0 0 (fun q => B ≤ q) := by
  refine mMet (by decide) rfl (Nat.le_of_ble_eq_true rfl) ?_
  intro p e s m below meth c ls hx hb hml hr hlk hnm hown hts hK hN hm hl
  have hE : ME "ChainPickerModel" (.code yM_thrown cM_thrown 1 (some .int)) _ s m D (TYS cI cZ cL) := ⟨hown, hts, hK, hN⟩
  have hl : lv_has ls 1 [(0, .ref (r))] := hl
  have hn200 := hR.n200
  refine lv_aload_n hx hb dM_thrown_0 rfl (lv_at hl 0 rfl) ?_
  refine g_M_M_38 (v := .int (thr)) hx hb hE hm hR.1 rfl dM_thrown_1 ?_
  exact mreti hx hb hr hlk hm ⟨rfl, rfl⟩ dM_thrown_4
set_option maxHeartbeats 4000000 in
set_option maxRecDepth 100000 in
theorem kM_pass (l : Launch) (B : Nat) (D : va_G) (cI cZ cL : ClassId) (w : Wd) (r : Nat) (as : Nat → Nat) (g : Nat → Nat → Int32) (thr now : Int32) (n : Nat) (J : Nat → Jr) (hR : rR cI cZ r as g thr now n J w) (x : Int32) : Met l yM_pass (.code yM_pass cM_pass 2 (some .int) :: BIG) { frames := 0, cells := 0, slots := 0, locals := 0 } (va_Pc [.ref (r), .int (x)] (mP B D CLS (TYS cI cZ cL) NEST w)) (va_Qi (fun z u => ((pOk now x = true ∧ z = now + x ∧ rR cI cZ r as g 0 (now + x) n J u) ∨ (pOk now x = false ∧ z = 0 ∧ rR cI cZ r as g 1 now n J u)) ∧ rK r as w u) (mE B D CLS) (fun q => B ≤ q)) 0 0 (fun q => B ≤ q) := by
  refine mMet (by decide) rfl (Nat.le_of_ble_eq_true rfl) ?_
  intro p e s m below meth c ls hx hb hml hr hlk hnm hown hts hK hN hm hl
  have hE : ME "ChainPickerModel" (.code yM_pass cM_pass 2 (some .int)) _ s m D (TYS cI cZ cL) := ⟨hown, hts, hK, hN⟩
  have hl : lv_has ls 2 [(0, .ref (r)), (1, .int (x))] := hl
  have hn200 := hR.n200
  refine lv_aload_n hx hb dM_pass_0 rfl (lv_at hl 0 rfl) ?_
  refine lv_iload_n hx hb dM_pass_1 rfl (lv_at hl 1 rfl) ?_
  refine lv_if_lt (tgt := 16) hx hb dM_pass_2 (by decide) (fun c_2 => ?_) (fun c_2 => ?_)
  · refine lv_iconst (v := 1) hx hb dM_pass_16 (by decide) ?_
    refine lv_goto (tgt := 21) hx hb dM_pass_17 (by decide) ?_
    refine p_M_M_38 (x := 1) hx hb hE hm hR.1 (by simp) dM_pass_21 (fun H locs hm => ?_)
    obtain ⟨w1, hhw1⟩ : ∃ z : Wd, z = wset w (r) (.inr (2, [.int (1), .int (now), .int (nI n), .ref (as 0), .ref (as 1), .ref (as 2), .ref (as 3), .ref (as 4), .ref (as 5), .ref (as 6), .ref (as 7), .ref (as 8)])) := ⟨_, rfl⟩
    have hm : mS B D CLS s.heap w1 H locs := by rw [hhw1]; exact hm
    have hw1 : w1 = wset (w) (r) (.inr (2, [.int (1), .int (now), .int (nI n), .ref (as 0), .ref (as 1), .ref (as 2), .ref (as 3), .ref (as 4), .ref (as 5), .ref (as 6), .ref (as 7), .ref (as 8)])) := by rw [hhw1]
    have fw1 : w1 (r) = some (.inr (2, [.int (1), .int (now), .int (nI n), .ref (as 0), .ref (as 1), .ref (as 2), .ref (as 3), .ref (as 4), .ref (as 5), .ref (as 6), .ref (as 7), .ref (as 8)])) := by rw [hhw1]; exact wset_at _ _ _
    have fw1_1 := (show w1 (as 0) = w (as 0) by rw [hhw1]; exact wset_ne (hR.ne (by decide : 0 < 9))).trans hR.a0
    have fw1_2 := (show w1 (as 1) = w (as 1) by rw [hhw1]; exact wset_ne (hR.ne (by decide : 1 < 9))).trans hR.a1
    have fw1_3 := (show w1 (as 2) = w (as 2) by rw [hhw1]; exact wset_ne (hR.ne (by decide : 2 < 9))).trans hR.a2
    have fw1_4 := (show w1 (as 3) = w (as 3) by rw [hhw1]; exact wset_ne (hR.ne (by decide : 3 < 9))).trans hR.a3
    have fw1_5 := (show w1 (as 4) = w (as 4) by rw [hhw1]; exact wset_ne (hR.ne (by decide : 4 < 9))).trans hR.a4
    have fw1_6 := (show w1 (as 5) = w (as 5) by rw [hhw1]; exact wset_ne (hR.ne (by decide : 5 < 9))).trans hR.a5
    have fw1_7 := (show w1 (as 6) = w (as 6) by rw [hhw1]; exact wset_ne (hR.ne (by decide : 6 < 9))).trans hR.a6
    have fw1_8 := (show w1 (as 7) = w (as 7) by rw [hhw1]; exact wset_ne (hR.ne (by decide : 7 < 9))).trans hR.a7
    have fw1_9 := (show w1 (as 8) = w (as 8) by rw [hhw1]; exact wset_ne (hR.ne (by decide : 8 < 9))).trans hR.a8
    refine lv_aload_n hx hb dM_pass_24 rfl (lv_at hl 0 rfl) ?_
    refine g_M_M_38 (v := .int (1)) hx hb hE hm fw1 rfl dM_pass_25 ?_
    refine lv_if_ne (tgt := 41) hx hb dM_pass_28 (by decide) (fun c_28 => ?_) (fun c_28 => ?_)
    · refine lv_aload_n hx hb dM_pass_41 rfl (lv_at hl 0 rfl) ?_
      refine g_M_M_38 (v := .int (1)) hx hb hE hm fw1 rfl dM_pass_42 ?_
      refine lv_if_ne (tgt := 55) hx hb dM_pass_45 (by decide) (fun c_45 => ?_) (fun c_45 => ?_)
      · refine lv_iconst (v := 0) hx hb dM_pass_55 (by decide) ?_
        exact mreti hx hb hr hlk hm ⟨Or.inr ⟨by simp [pOk, c_2], rfl, (by rw [hw1]; exact hR.set _ _)⟩, by rw [hw1]; exact rK.rf.set rF_r⟩ dM_pass_56
      · first | exact absurd c_45 (by decide) | exact absurd (by decide) c_45
    · first | exact absurd c_28 (by decide) | exact absurd (by decide) c_28
  · refine lv_iload_n hx hb dM_pass_5 rfl (lv_at hl 1 rfl) ?_
    refine lv_ldc (v := 1000000000) hx hb hE.1 (hE.2.1 _ (List.mem_cons_of_mem _ q_347)) dM_pass_6 ?_
    refine lv_aload_n hx hb dM_pass_8 rfl (lv_at hl 0 rfl) ?_
    refine g_M_M_43 (v := .int (now)) hx hb hE hm hR.1 rfl dM_pass_9 ?_
    refine lv_isub hx hb dM_pass_12 ?_
    refine lv_icmp_le (tgt := 20) hx hb dM_pass_13 (by decide) (fun c_13 => ?_) (fun c_13 => ?_)
    · rw [← Int32.not_lt] at c_13
      refine lv_iconst (v := 0) hx hb dM_pass_20 (by decide) ?_
      refine p_M_M_38 (x := 0) hx hb hE hm hR.1 (by simp) dM_pass_21 (fun H locs hm => ?_)
      obtain ⟨w2, hhw2⟩ : ∃ z : Wd, z = wset w (r) (.inr (2, [.int (0), .int (now), .int (nI n), .ref (as 0), .ref (as 1), .ref (as 2), .ref (as 3), .ref (as 4), .ref (as 5), .ref (as 6), .ref (as 7), .ref (as 8)])) := ⟨_, rfl⟩
      have hm : mS B D CLS s.heap w2 H locs := by rw [hhw2]; exact hm
      have hw2 : w2 = wset (w) (r) (.inr (2, [.int (0), .int (now), .int (nI n), .ref (as 0), .ref (as 1), .ref (as 2), .ref (as 3), .ref (as 4), .ref (as 5), .ref (as 6), .ref (as 7), .ref (as 8)])) := by rw [hhw2]
      have fw2 : w2 (r) = some (.inr (2, [.int (0), .int (now), .int (nI n), .ref (as 0), .ref (as 1), .ref (as 2), .ref (as 3), .ref (as 4), .ref (as 5), .ref (as 6), .ref (as 7), .ref (as 8)])) := by rw [hhw2]; exact wset_at _ _ _
      have fw2_1 := (show w2 (as 0) = w (as 0) by rw [hhw2]; exact wset_ne (hR.ne (by decide : 0 < 9))).trans hR.a0
      have fw2_2 := (show w2 (as 1) = w (as 1) by rw [hhw2]; exact wset_ne (hR.ne (by decide : 1 < 9))).trans hR.a1
      have fw2_3 := (show w2 (as 2) = w (as 2) by rw [hhw2]; exact wset_ne (hR.ne (by decide : 2 < 9))).trans hR.a2
      have fw2_4 := (show w2 (as 3) = w (as 3) by rw [hhw2]; exact wset_ne (hR.ne (by decide : 3 < 9))).trans hR.a3
      have fw2_5 := (show w2 (as 4) = w (as 4) by rw [hhw2]; exact wset_ne (hR.ne (by decide : 4 < 9))).trans hR.a4
      have fw2_6 := (show w2 (as 5) = w (as 5) by rw [hhw2]; exact wset_ne (hR.ne (by decide : 5 < 9))).trans hR.a5
      have fw2_7 := (show w2 (as 6) = w (as 6) by rw [hhw2]; exact wset_ne (hR.ne (by decide : 6 < 9))).trans hR.a6
      have fw2_8 := (show w2 (as 7) = w (as 7) by rw [hhw2]; exact wset_ne (hR.ne (by decide : 7 < 9))).trans hR.a7
      have fw2_9 := (show w2 (as 8) = w (as 8) by rw [hhw2]; exact wset_ne (hR.ne (by decide : 8 < 9))).trans hR.a8
      refine lv_aload_n hx hb dM_pass_24 rfl (lv_at hl 0 rfl) ?_
      refine g_M_M_38 (v := .int (0)) hx hb hE hm fw2 rfl dM_pass_25 ?_
      refine lv_if_ne (tgt := 41) hx hb dM_pass_28 (by decide) (fun c_28 => ?_) (fun c_28 => ?_)
      · first | exact absurd c_28 (by decide) | exact absurd (by decide) c_28
      · refine lv_aload_n hx hb dM_pass_31 rfl (lv_at hl 0 rfl) ?_
        refine lv_dup hx hb dM_pass_32 rfl ?_
        refine g_M_M_43 (v := .int (now)) hx hb hE hm fw2 rfl dM_pass_33 ?_
        refine lv_iload_n hx hb dM_pass_36 rfl (lv_at hl 1 rfl) ?_
        refine lv_iadd hx hb dM_pass_37 ?_
        refine p_M_M_43 (x := (now) + (x)) hx hb hE hm fw2 (by simp) dM_pass_38 (fun H locs hm => ?_)
        obtain ⟨w3, hhw3⟩ : ∃ z : Wd, z = wset w2 (r) (.inr (2, [.int (0), .int ((now) + (x)), .int (nI n), .ref (as 0), .ref (as 1), .ref (as 2), .ref (as 3), .ref (as 4), .ref (as 5), .ref (as 6), .ref (as 7), .ref (as 8)])) := ⟨_, rfl⟩
        have hm : mS B D CLS s.heap w3 H locs := by rw [hhw3]; exact hm
        have hw3 : w3 = wset (w) (r) (.inr (2, [.int (0), .int ((now) + (x)), .int (nI n), .ref (as 0), .ref (as 1), .ref (as 2), .ref (as 3), .ref (as 4), .ref (as 5), .ref (as 6), .ref (as 7), .ref (as 8)])) := by rw [hhw3, hw2]; funext z; by_cases hz : z = r <;> simp [wset, hz]
        have fw3 : w3 (r) = some (.inr (2, [.int (0), .int ((now) + (x)), .int (nI n), .ref (as 0), .ref (as 1), .ref (as 2), .ref (as 3), .ref (as 4), .ref (as 5), .ref (as 6), .ref (as 7), .ref (as 8)])) := by rw [hhw3]; exact wset_at _ _ _
        have fw3_1 := (show w3 (as 0) = w2 (as 0) by rw [hhw3]; exact wset_ne (hR.ne (by decide : 0 < 9))).trans fw2_1
        have fw3_2 := (show w3 (as 1) = w2 (as 1) by rw [hhw3]; exact wset_ne (hR.ne (by decide : 1 < 9))).trans fw2_2
        have fw3_3 := (show w3 (as 2) = w2 (as 2) by rw [hhw3]; exact wset_ne (hR.ne (by decide : 2 < 9))).trans fw2_3
        have fw3_4 := (show w3 (as 3) = w2 (as 3) by rw [hhw3]; exact wset_ne (hR.ne (by decide : 3 < 9))).trans fw2_4
        have fw3_5 := (show w3 (as 4) = w2 (as 4) by rw [hhw3]; exact wset_ne (hR.ne (by decide : 4 < 9))).trans fw2_5
        have fw3_6 := (show w3 (as 5) = w2 (as 5) by rw [hhw3]; exact wset_ne (hR.ne (by decide : 5 < 9))).trans fw2_6
        have fw3_7 := (show w3 (as 6) = w2 (as 6) by rw [hhw3]; exact wset_ne (hR.ne (by decide : 6 < 9))).trans fw2_7
        have fw3_8 := (show w3 (as 7) = w2 (as 7) by rw [hhw3]; exact wset_ne (hR.ne (by decide : 7 < 9))).trans fw2_8
        have fw3_9 := (show w3 (as 8) = w2 (as 8) by rw [hhw3]; exact wset_ne (hR.ne (by decide : 8 < 9))).trans fw2_9
        refine lv_aload_n hx hb dM_pass_41 rfl (lv_at hl 0 rfl) ?_
        refine g_M_M_38 (v := .int (0)) hx hb hE hm fw3 rfl dM_pass_42 ?_
        refine lv_if_ne (tgt := 55) hx hb dM_pass_45 (by decide) (fun c_45 => ?_) (fun c_45 => ?_)
        · first | exact absurd c_45 (by decide) | exact absurd (by decide) c_45
        · refine lv_aload_n hx hb dM_pass_48 rfl (lv_at hl 0 rfl) ?_
          refine g_M_M_43 (v := .int ((now) + (x))) hx hb hE hm fw3 rfl dM_pass_49 ?_
          refine lv_goto (tgt := 56) hx hb dM_pass_52 (by decide) ?_
          exact mreti hx hb hr hlk hm ⟨Or.inl ⟨by simp [pOk, c_2, c_13], rfl, (by rw [hw3]; exact hR.set _ _)⟩, by rw [hw3]; exact rK.rf.set rF_r⟩ dM_pass_56
    · rw [Int32.not_le] at c_13
      refine lv_iconst (v := 1) hx hb dM_pass_16 (by decide) ?_
      refine lv_goto (tgt := 21) hx hb dM_pass_17 (by decide) ?_
      refine p_M_M_38 (x := 1) hx hb hE hm hR.1 (by simp) dM_pass_21 (fun H locs hm => ?_)
      obtain ⟨w4, hhw4⟩ : ∃ z : Wd, z = wset w (r) (.inr (2, [.int (1), .int (now), .int (nI n), .ref (as 0), .ref (as 1), .ref (as 2), .ref (as 3), .ref (as 4), .ref (as 5), .ref (as 6), .ref (as 7), .ref (as 8)])) := ⟨_, rfl⟩
      have hm : mS B D CLS s.heap w4 H locs := by rw [hhw4]; exact hm
      have hw4 : w4 = wset (w) (r) (.inr (2, [.int (1), .int (now), .int (nI n), .ref (as 0), .ref (as 1), .ref (as 2), .ref (as 3), .ref (as 4), .ref (as 5), .ref (as 6), .ref (as 7), .ref (as 8)])) := by rw [hhw4]
      have fw4 : w4 (r) = some (.inr (2, [.int (1), .int (now), .int (nI n), .ref (as 0), .ref (as 1), .ref (as 2), .ref (as 3), .ref (as 4), .ref (as 5), .ref (as 6), .ref (as 7), .ref (as 8)])) := by rw [hhw4]; exact wset_at _ _ _
      have fw4_1 := (show w4 (as 0) = w (as 0) by rw [hhw4]; exact wset_ne (hR.ne (by decide : 0 < 9))).trans hR.a0
      have fw4_2 := (show w4 (as 1) = w (as 1) by rw [hhw4]; exact wset_ne (hR.ne (by decide : 1 < 9))).trans hR.a1
      have fw4_3 := (show w4 (as 2) = w (as 2) by rw [hhw4]; exact wset_ne (hR.ne (by decide : 2 < 9))).trans hR.a2
      have fw4_4 := (show w4 (as 3) = w (as 3) by rw [hhw4]; exact wset_ne (hR.ne (by decide : 3 < 9))).trans hR.a3
      have fw4_5 := (show w4 (as 4) = w (as 4) by rw [hhw4]; exact wset_ne (hR.ne (by decide : 4 < 9))).trans hR.a4
      have fw4_6 := (show w4 (as 5) = w (as 5) by rw [hhw4]; exact wset_ne (hR.ne (by decide : 5 < 9))).trans hR.a5
      have fw4_7 := (show w4 (as 6) = w (as 6) by rw [hhw4]; exact wset_ne (hR.ne (by decide : 6 < 9))).trans hR.a6
      have fw4_8 := (show w4 (as 7) = w (as 7) by rw [hhw4]; exact wset_ne (hR.ne (by decide : 7 < 9))).trans hR.a7
      have fw4_9 := (show w4 (as 8) = w (as 8) by rw [hhw4]; exact wset_ne (hR.ne (by decide : 8 < 9))).trans hR.a8
      refine lv_aload_n hx hb dM_pass_24 rfl (lv_at hl 0 rfl) ?_
      refine g_M_M_38 (v := .int (1)) hx hb hE hm fw4 rfl dM_pass_25 ?_
      refine lv_if_ne (tgt := 41) hx hb dM_pass_28 (by decide) (fun c_28 => ?_) (fun c_28 => ?_)
      · refine lv_aload_n hx hb dM_pass_41 rfl (lv_at hl 0 rfl) ?_
        refine g_M_M_38 (v := .int (1)) hx hb hE hm fw4 rfl dM_pass_42 ?_
        refine lv_if_ne (tgt := 55) hx hb dM_pass_45 (by decide) (fun c_45 => ?_) (fun c_45 => ?_)
        · refine lv_iconst (v := 0) hx hb dM_pass_55 (by decide) ?_
          exact mreti hx hb hr hlk hm ⟨Or.inr ⟨by simp [pOk, c_2, c_13], rfl, (by rw [hw4]; exact hR.set _ _)⟩, by rw [hw4]; exact rK.rf.set rF_r⟩ dM_pass_56
        · first | exact absurd c_45 (by decide) | exact absurd (by decide) c_45
      · first | exact absurd c_28 (by decide) | exact absurd (by decide) c_28
set_option maxHeartbeats 4000000 in
set_option maxRecDepth 100000 in
theorem kM_link (l : Launch) (B : Nat) (D : va_G) (cI cZ cL : ClassId) (w : Wd) (r : Nat) (as : Nat → Nat) (g : Nat → Nat → Int32) (thr now : Int32) (n : Nat) (J : Nat → Jr) (hR : rR cI cZ r as g thr now n J w) (hM : mW now n J) (x t z : Int32) : Met l yM_link (.code yM_link cM_link 6 (some .int) :: BIG) { frames := 1, cells := 0, slots := 0, locals := 24 } (va_Pc [.ref (r), .int (x), .int (t), .int (z)] (mP B D CLS (TYS cI cZ cL) NEST w)) (va_Qi (fun y u => ((∃ j, lk (chn J n (hd n J x t)) 0 z = some j ∧ y = nI j ∧ rR cI cZ r as g 0 now n J u) ∨ (lk (chn J n (hd n J x t)) 0 z = none ∧ y = 0 ∧ rR cI cZ r as g 1 now n J u)) ∧ rK r as w u) (mE B D CLS) (fun q => B ≤ q)) 0 0 (fun q => B ≤ q) := by
  refine mMet (by decide) rfl (Nat.le_of_ble_eq_true rfl) ?_
  intro p e s m below meth c ls hx hb hml hr hlk hnm hown hts hK hN hm hl
  have hE : ME "ChainPickerModel" (.code yM_link cM_link 6 (some .int)) _ s m D (TYS cI cZ cL) := ⟨hown, hts, hK, hN⟩
  have hl : lv_has ls 6 [(0, .ref (r)), (1, .int (x)), (2, .int (t)), (3, .int (z))] := hl
  have hn200 := hR.n200
  refine lv_iconst (v := 0) hx hb dM_link_0 (by decide) ?_
  refine lv_istore (lv' := [(4, .int (0)), (0, .ref (r)), (1, .int (x)), (2, .int (t)), (3, .int (z))]) hx hb dM_link_1 hl (by decide) rfl (fun ls hl => ?_)
  refine lv_iload_n hx hb dM_link_3 rfl (lv_at hl 4 rfl) ?_
  refine lv_if_ge (tgt := 11) hx hb dM_link_4 (by decide) (fun c_4 => ?_) (fun c_4 => ?_)
  · rw [← Int32.not_lt] at c_4
    refine lv_aload_n hx hb dM_link_11 rfl (lv_at hl 1 rfl) ?_
    refine lv_iload_n hx hb dM_link_12 rfl (lv_at hl 2 rfl) ?_
    refine lv_iload_n hx hb dM_link_13 rfl (lv_at hl 3 rfl) ?_
    refine mcalli (mcV (n := 2) (As := [.int (x), .int (t)]) (rest := []) hx hb hml hE (kM_head l B D cI cZ cL w r as g thr now n J hR hM x t) q_373 q_375 qs_10 q_2 q_376 rfl rfl (by decide +kernel) ⟨Nat.le_of_ble_eq_true rfl, Nat.le_of_ble_eq_true rfl⟩ rfl hl.1 hm rfl hR.1 rfl (Nat.le_of_ble_eq_true rfl) dM_link_14 ⟨Nat.le_of_ble_eq_true rfl, Nat.le_of_ble_eq_true rfl⟩) hm (fun r1 u1 H locs hp1 hm => ?_)
    obtain ⟨hr1, hu1⟩ := hp1
    rw [hu1] at hm
    rw [hd_eq] at hr1
    subst hr1
    refine lv_istore (lv' := [(5, .int (oI (hd n J x t))), (4, .int (0)), (0, .ref (r)), (1, .int (x)), (2, .int (t)), (3, .int (z))]) hx hb dM_link_17 hl (by decide) rfl (fun ls hl => ?_)
    obtain ⟨k, hk, hzk⟩ := nI_of (x := z) (by simpa using c_4)
    subst hzk
    have loop : ∀ (f : Nat) (h : Option Nat), (∀ i, h = some i → i < f ∧ i < n) → ∀ (p9 : Nat), p9 ≤ k → lk (chn J n (hd n J x t)) 0 (nI k) = lk (chn J f h) (nI p9) (nI k) → ∀ (H : Heap) (locs : List Loc) (ls : Array Slot), mS B D CLS s.heap w H locs → lv_has ls 6 [(5, .int (oI h)), (4, .int (nI p9)), (0, .ref (r)), (1, .int (x)), (2, .int (t)), (3, .int (nI k))] → W p l e ({ frames := 1, cells := 0, slots := 0, locals := 24 }) s m [.ref (r), .int (x), .int (t), .int (nI k)].toArray below meth c H locs 0 0 (MQ below (va_Qi (fun y u => ((∃ j, lk (chn J n (hd n J x t)) 0 (nI k) = some j ∧ y = nI j ∧ rR cI cZ r as g 0 now n J u) ∨ (lk (chn J n (hd n J x t)) 0 (nI k) = none ∧ y = 0 ∧ rR cI cZ r as g 1 now n J u)) ∧ rK r as w u) (mE B D CLS) (fun q => B ≤ q)) [.ref (r), .int (x), .int (t), .int (nI k)].toArray s 0 0 (fun q => B ≤ q)) (F0 m 19 ls []) := by
      intro f
      induction f with
      | zero =>
        intro h hlt p9 hp9 heq H locs ls hm hl
        cases h with
        | none =>
          have hl : lv_has ls 6 [(5, .int (-1)), (4, .int (nI p9)), (0, .ref (r)), (1, .int (x)), (2, .int (t)), (3, .int (nI k))] := hl
          refine lv_iload hx hb dM_link_19 (lv_at hl 0 rfl) ?_
          refine lv_if_lt (tgt := 45) hx hb dM_link_21 (by decide) (fun c_21 => ?_) (fun c_21 => ?_)
          · refine lv_aload_n hx hb dM_link_45 rfl (lv_at hl 2 rfl) ?_
            refine lv_iload hx hb dM_link_46 (lv_at hl 0 rfl) ?_
            refine lv_if_ge (tgt := 55) hx hb dM_link_48 (by decide) (fun c_48 => ?_) (fun c_48 => ?_)
            · first | exact absurd c_48 (by decide) | exact absurd (by decide) c_48
            · refine lv_iconst (v := 1) hx hb dM_link_51 (by decide) ?_
              refine lv_goto (tgt := 56) hx hb dM_link_52 (by decide) ?_
              refine p_M_M_38 (x := 1) hx hb hE hm hR.1 (by simp) dM_link_56 (fun H locs hm => ?_)
              obtain ⟨w1, hhw1⟩ : ∃ z : Wd, z = wset w (r) (.inr (2, [.int (1), .int (now), .int (nI n), .ref (as 0), .ref (as 1), .ref (as 2), .ref (as 3), .ref (as 4), .ref (as 5), .ref (as 6), .ref (as 7), .ref (as 8)])) := ⟨_, rfl⟩
              have hm : mS B D CLS s.heap w1 H locs := by rw [hhw1]; exact hm
              have hw1 : w1 = wset (w) (r) (.inr (2, [.int (1), .int (now), .int (nI n), .ref (as 0), .ref (as 1), .ref (as 2), .ref (as 3), .ref (as 4), .ref (as 5), .ref (as 6), .ref (as 7), .ref (as 8)])) := by rw [hhw1]
              have fw1 : w1 (r) = some (.inr (2, [.int (1), .int (now), .int (nI n), .ref (as 0), .ref (as 1), .ref (as 2), .ref (as 3), .ref (as 4), .ref (as 5), .ref (as 6), .ref (as 7), .ref (as 8)])) := by rw [hhw1]; exact wset_at _ _ _
              have fw1_1 := (show w1 (as 0) = w (as 0) by rw [hhw1]; exact wset_ne (hR.ne (by decide : 0 < 9))).trans hR.a0
              have fw1_2 := (show w1 (as 1) = w (as 1) by rw [hhw1]; exact wset_ne (hR.ne (by decide : 1 < 9))).trans hR.a1
              have fw1_3 := (show w1 (as 2) = w (as 2) by rw [hhw1]; exact wset_ne (hR.ne (by decide : 2 < 9))).trans hR.a2
              have fw1_4 := (show w1 (as 3) = w (as 3) by rw [hhw1]; exact wset_ne (hR.ne (by decide : 3 < 9))).trans hR.a3
              have fw1_5 := (show w1 (as 4) = w (as 4) by rw [hhw1]; exact wset_ne (hR.ne (by decide : 4 < 9))).trans hR.a4
              have fw1_6 := (show w1 (as 5) = w (as 5) by rw [hhw1]; exact wset_ne (hR.ne (by decide : 5 < 9))).trans hR.a5
              have fw1_7 := (show w1 (as 6) = w (as 6) by rw [hhw1]; exact wset_ne (hR.ne (by decide : 6 < 9))).trans hR.a6
              have fw1_8 := (show w1 (as 7) = w (as 7) by rw [hhw1]; exact wset_ne (hR.ne (by decide : 7 < 9))).trans hR.a7
              have fw1_9 := (show w1 (as 8) = w (as 8) by rw [hhw1]; exact wset_ne (hR.ne (by decide : 8 < 9))).trans hR.a8
              refine lv_iload hx hb dM_link_59 (lv_at hl 0 rfl) ?_
              refine lv_if_ge (tgt := 68) hx hb dM_link_61 (by decide) (fun c_61 => ?_) (fun c_61 => ?_)
              · first | exact absurd c_61 (by decide) | exact absurd (by decide) c_61
              · refine lv_iconst (v := 0) hx hb dM_link_64 (by decide) ?_
                refine lv_goto (tgt := 70) hx hb dM_link_65 (by decide) ?_
                exact mreti hx hb hr hlk hm ⟨Or.inr ⟨by rw [heq, lk_n], rfl, (by rw [hw1]; exact hR.set _ _)⟩, by rw [hw1]; exact rK.rf.set rF_r⟩ dM_link_70
          · first | exact absurd c_21 (by decide) | exact absurd (by decide) c_21
        | some i => exact absurd (hlt i rfl).1 (Nat.not_lt_zero _)
      | succ f ih =>
        intro h hlt p9 hp9 heq H locs ls hm hl
        cases h with
        | none =>
          have hl : lv_has ls 6 [(5, .int (-1)), (4, .int (nI p9)), (0, .ref (r)), (1, .int (x)), (2, .int (t)), (3, .int (nI k))] := hl
          refine lv_iload hx hb dM_link_19 (lv_at hl 0 rfl) ?_
          refine lv_if_lt (tgt := 45) hx hb dM_link_21 (by decide) (fun c_21 => ?_) (fun c_21 => ?_)
          · refine lv_aload_n hx hb dM_link_45 rfl (lv_at hl 2 rfl) ?_
            refine lv_iload hx hb dM_link_46 (lv_at hl 0 rfl) ?_
            refine lv_if_ge (tgt := 55) hx hb dM_link_48 (by decide) (fun c_48 => ?_) (fun c_48 => ?_)
            · first | exact absurd c_48 (by decide) | exact absurd (by decide) c_48
            · refine lv_iconst (v := 1) hx hb dM_link_51 (by decide) ?_
              refine lv_goto (tgt := 56) hx hb dM_link_52 (by decide) ?_
              refine p_M_M_38 (x := 1) hx hb hE hm hR.1 (by simp) dM_link_56 (fun H locs hm => ?_)
              obtain ⟨w1, hhw1⟩ : ∃ z : Wd, z = wset w (r) (.inr (2, [.int (1), .int (now), .int (nI n), .ref (as 0), .ref (as 1), .ref (as 2), .ref (as 3), .ref (as 4), .ref (as 5), .ref (as 6), .ref (as 7), .ref (as 8)])) := ⟨_, rfl⟩
              have hm : mS B D CLS s.heap w1 H locs := by rw [hhw1]; exact hm
              have hw1 : w1 = wset (w) (r) (.inr (2, [.int (1), .int (now), .int (nI n), .ref (as 0), .ref (as 1), .ref (as 2), .ref (as 3), .ref (as 4), .ref (as 5), .ref (as 6), .ref (as 7), .ref (as 8)])) := by rw [hhw1]
              have fw1 : w1 (r) = some (.inr (2, [.int (1), .int (now), .int (nI n), .ref (as 0), .ref (as 1), .ref (as 2), .ref (as 3), .ref (as 4), .ref (as 5), .ref (as 6), .ref (as 7), .ref (as 8)])) := by rw [hhw1]; exact wset_at _ _ _
              have fw1_1 := (show w1 (as 0) = w (as 0) by rw [hhw1]; exact wset_ne (hR.ne (by decide : 0 < 9))).trans hR.a0
              have fw1_2 := (show w1 (as 1) = w (as 1) by rw [hhw1]; exact wset_ne (hR.ne (by decide : 1 < 9))).trans hR.a1
              have fw1_3 := (show w1 (as 2) = w (as 2) by rw [hhw1]; exact wset_ne (hR.ne (by decide : 2 < 9))).trans hR.a2
              have fw1_4 := (show w1 (as 3) = w (as 3) by rw [hhw1]; exact wset_ne (hR.ne (by decide : 3 < 9))).trans hR.a3
              have fw1_5 := (show w1 (as 4) = w (as 4) by rw [hhw1]; exact wset_ne (hR.ne (by decide : 4 < 9))).trans hR.a4
              have fw1_6 := (show w1 (as 5) = w (as 5) by rw [hhw1]; exact wset_ne (hR.ne (by decide : 5 < 9))).trans hR.a5
              have fw1_7 := (show w1 (as 6) = w (as 6) by rw [hhw1]; exact wset_ne (hR.ne (by decide : 6 < 9))).trans hR.a6
              have fw1_8 := (show w1 (as 7) = w (as 7) by rw [hhw1]; exact wset_ne (hR.ne (by decide : 7 < 9))).trans hR.a7
              have fw1_9 := (show w1 (as 8) = w (as 8) by rw [hhw1]; exact wset_ne (hR.ne (by decide : 8 < 9))).trans hR.a8
              refine lv_iload hx hb dM_link_59 (lv_at hl 0 rfl) ?_
              refine lv_if_ge (tgt := 68) hx hb dM_link_61 (by decide) (fun c_61 => ?_) (fun c_61 => ?_)
              · first | exact absurd c_61 (by decide) | exact absurd (by decide) c_61
              · refine lv_iconst (v := 0) hx hb dM_link_64 (by decide) ?_
                refine lv_goto (tgt := 70) hx hb dM_link_65 (by decide) ?_
                exact mreti hx hb hr hlk hm ⟨Or.inr ⟨by rw [heq, lk_n], rfl, (by rw [hw1]; exact hR.set _ _)⟩, by rw [hw1]; exact rK.rf.set rF_r⟩ dM_link_70
          · first | exact absurd c_21 (by decide) | exact absurd (by decide) c_21
        | some i =>
          have hiN : i < n := (hlt i rfl).2
          have hl : lv_has ls 6 [(5, .int (nI i)), (4, .int (nI p9)), (0, .ref (r)), (1, .int (x)), (2, .int (t)), (3, .int (nI k))] := hl
          refine lv_iload hx hb dM_link_19 (lv_at hl 0 rfl) ?_
          refine lv_if_lt (tgt := 45) hx hb dM_link_21 (by decide) (fun c_21 => ?_) (fun c_21 => ?_)
          · exact absurd c_21 (nI_pos (by omega))
          · refine lv_iload hx hb dM_link_24 (lv_at hl 1 rfl) ?_
            refine lv_iload_n hx hb dM_link_26 rfl (lv_at hl 5 rfl) ?_
            refine lv_icmp_ge (tgt := 45) hx hb dM_link_27 (by decide) (fun c_27 => ?_) (fun c_27 => ?_)
            · rw [← Int32.not_lt] at c_27
              rw [nI_ltI (by omega) hk] at c_27
              have hpk : p9 = k := by omega
              refine lv_aload_n hx hb dM_link_45 rfl (lv_at hl 2 rfl) ?_
              refine lv_iload hx hb dM_link_46 (lv_at hl 0 rfl) ?_
              refine lv_if_ge (tgt := 55) hx hb dM_link_48 (by decide) (fun c_48 => ?_) (fun c_48 => ?_)
              · rw [← Int32.not_lt] at c_48
                refine lv_iconst (v := 0) hx hb dM_link_55 (by decide) ?_
                refine p_M_M_38 (x := 0) hx hb hE hm hR.1 (by simp) dM_link_56 (fun H locs hm => ?_)
                obtain ⟨w1, hhw1⟩ : ∃ z : Wd, z = wset w (r) (.inr (2, [.int (0), .int (now), .int (nI n), .ref (as 0), .ref (as 1), .ref (as 2), .ref (as 3), .ref (as 4), .ref (as 5), .ref (as 6), .ref (as 7), .ref (as 8)])) := ⟨_, rfl⟩
                have hm : mS B D CLS s.heap w1 H locs := by rw [hhw1]; exact hm
                have hw1 : w1 = wset (w) (r) (.inr (2, [.int (0), .int (now), .int (nI n), .ref (as 0), .ref (as 1), .ref (as 2), .ref (as 3), .ref (as 4), .ref (as 5), .ref (as 6), .ref (as 7), .ref (as 8)])) := by rw [hhw1]
                have fw1 : w1 (r) = some (.inr (2, [.int (0), .int (now), .int (nI n), .ref (as 0), .ref (as 1), .ref (as 2), .ref (as 3), .ref (as 4), .ref (as 5), .ref (as 6), .ref (as 7), .ref (as 8)])) := by rw [hhw1]; exact wset_at _ _ _
                have fw1_1 := (show w1 (as 0) = w (as 0) by rw [hhw1]; exact wset_ne (hR.ne (by decide : 0 < 9))).trans hR.a0
                have fw1_2 := (show w1 (as 1) = w (as 1) by rw [hhw1]; exact wset_ne (hR.ne (by decide : 1 < 9))).trans hR.a1
                have fw1_3 := (show w1 (as 2) = w (as 2) by rw [hhw1]; exact wset_ne (hR.ne (by decide : 2 < 9))).trans hR.a2
                have fw1_4 := (show w1 (as 3) = w (as 3) by rw [hhw1]; exact wset_ne (hR.ne (by decide : 3 < 9))).trans hR.a3
                have fw1_5 := (show w1 (as 4) = w (as 4) by rw [hhw1]; exact wset_ne (hR.ne (by decide : 4 < 9))).trans hR.a4
                have fw1_6 := (show w1 (as 5) = w (as 5) by rw [hhw1]; exact wset_ne (hR.ne (by decide : 5 < 9))).trans hR.a5
                have fw1_7 := (show w1 (as 6) = w (as 6) by rw [hhw1]; exact wset_ne (hR.ne (by decide : 6 < 9))).trans hR.a6
                have fw1_8 := (show w1 (as 7) = w (as 7) by rw [hhw1]; exact wset_ne (hR.ne (by decide : 7 < 9))).trans hR.a7
                have fw1_9 := (show w1 (as 8) = w (as 8) by rw [hhw1]; exact wset_ne (hR.ne (by decide : 8 < 9))).trans hR.a8
                refine lv_iload hx hb dM_link_59 (lv_at hl 0 rfl) ?_
                refine lv_if_ge (tgt := 68) hx hb dM_link_61 (by decide) (fun c_61 => ?_) (fun c_61 => ?_)
                · rw [← Int32.not_lt] at c_61
                  refine lv_iload hx hb dM_link_68 (lv_at hl 0 rfl) ?_
                  exact mreti hx hb hr hlk hm ⟨Or.inl ⟨i, by rw [heq, lk_t (by rw [hpk])], rfl, (by rw [hw1]; exact hR.set _ _)⟩, by rw [hw1]; exact rK.rf.set rF_r⟩ dM_link_70
                · exact absurd (nI_pos' (by omega)) c_61
              · exact absurd (nI_pos' (by omega)) c_48
            · rw [← Int32.not_lt, Classical.not_not, nI_ltI (by omega) hk] at c_27
              refine lv_aload_n hx hb dM_link_30 rfl (lv_at hl 2 rfl) ?_
              refine g_M_M_20 (v := .ref (as 3)) hx hb hE hm hR.1 rfl dM_link_31 ?_
              refine lv_iload hx hb dM_link_34 (lv_at hl 0 rfl) ?_
              refine ialdE (i) hx hb hE.2.2.1 hm 0 hR.a3 rfl rfl (by have := hR.n200; have := hiN; omega) (by decide) dM_link_36 ?_
              rw [hR.g3 hiN]
              refine lv_istore (lv' := [(5, .int (oI (jBs (J i)))), (4, .int (nI p9)), (0, .ref (r)), (1, .int (x)), (2, .int (t)), (3, .int (nI k))]) hx hb dM_link_37 hl (by decide) rfl (fun ls hl => ?_)
              refine lv_iinc (v := nI p9 + 1) (lv' := [(4, .int (nI p9 + 1)), (5, .int (oI (jBs (J i)))), (0, .ref (r)), (1, .int (x)), (2, .int (t)), (3, .int (nI k))]) hx hb dM_link_39 hl (k := 1) rfl rfl (by decide) rfl (fun ls hl => ?_)
              refine lv_goto (tgt := 19) hx hb dM_link_42 (by decide) ?_
              rw [nI_1] at hl
              exact ih (jBs (J i)) (fun b hb => ⟨Nat.lt_of_lt_of_le (hR.bs hiN hb) (Nat.le_of_lt_succ (hlt i rfl).1), Nat.lt_trans (hR.bs hiN hb) hiN⟩) (p9 + 1) (by omega) (by rw [heq, lk_f (fun e => by rw [nI_eq (by omega) hk] at e; omega), nI_1]) H locs ls hm (lv_sub hl [1, 0, 2, 3, 4, 5] rfl)
    exact loop n _ (fun i hi => ⟨hd_lt i hi, hd_lt i hi⟩) 0 (Nat.zero_le k) (by rw [nI_0]) _ _ ls hm (by rw [nI_0]; exact lv_sub hl [0, 1, 2, 3, 4, 5] rfl)
  · rw [Int32.not_le] at c_4
    refine lv_iconst (v := (-1)) hx hb dM_link_7 (by decide) ?_
    refine lv_goto (tgt := 17) hx hb dM_link_8 (by decide) ?_
    refine lv_istore (lv' := [(5, .int ((-1))), (4, .int (0)), (0, .ref (r)), (1, .int (x)), (2, .int (t)), (3, .int (z))]) hx hb dM_link_17 hl (by decide) rfl (fun ls hl => ?_)
    refine lv_iload hx hb dM_link_19 (lv_at hl 0 rfl) ?_
    refine lv_if_lt (tgt := 45) hx hb dM_link_21 (by decide) (fun c_21 => ?_) (fun c_21 => ?_)
    · refine lv_aload_n hx hb dM_link_45 rfl (lv_at hl 2 rfl) ?_
      refine lv_iload hx hb dM_link_46 (lv_at hl 0 rfl) ?_
      refine lv_if_ge (tgt := 55) hx hb dM_link_48 (by decide) (fun c_48 => ?_) (fun c_48 => ?_)
      · first | exact absurd c_48 (by decide) | exact absurd (by decide) c_48
      · refine lv_iconst (v := 1) hx hb dM_link_51 (by decide) ?_
        refine lv_goto (tgt := 56) hx hb dM_link_52 (by decide) ?_
        refine p_M_M_38 (x := 1) hx hb hE hm hR.1 (by simp) dM_link_56 (fun H locs hm => ?_)
        obtain ⟨w1, hhw1⟩ : ∃ z : Wd, z = wset w (r) (.inr (2, [.int (1), .int (now), .int (nI n), .ref (as 0), .ref (as 1), .ref (as 2), .ref (as 3), .ref (as 4), .ref (as 5), .ref (as 6), .ref (as 7), .ref (as 8)])) := ⟨_, rfl⟩
        have hm : mS B D CLS s.heap w1 H locs := by rw [hhw1]; exact hm
        have hw1 : w1 = wset (w) (r) (.inr (2, [.int (1), .int (now), .int (nI n), .ref (as 0), .ref (as 1), .ref (as 2), .ref (as 3), .ref (as 4), .ref (as 5), .ref (as 6), .ref (as 7), .ref (as 8)])) := by rw [hhw1]
        have fw1 : w1 (r) = some (.inr (2, [.int (1), .int (now), .int (nI n), .ref (as 0), .ref (as 1), .ref (as 2), .ref (as 3), .ref (as 4), .ref (as 5), .ref (as 6), .ref (as 7), .ref (as 8)])) := by rw [hhw1]; exact wset_at _ _ _
        have fw1_1 := (show w1 (as 0) = w (as 0) by rw [hhw1]; exact wset_ne (hR.ne (by decide : 0 < 9))).trans hR.a0
        have fw1_2 := (show w1 (as 1) = w (as 1) by rw [hhw1]; exact wset_ne (hR.ne (by decide : 1 < 9))).trans hR.a1
        have fw1_3 := (show w1 (as 2) = w (as 2) by rw [hhw1]; exact wset_ne (hR.ne (by decide : 2 < 9))).trans hR.a2
        have fw1_4 := (show w1 (as 3) = w (as 3) by rw [hhw1]; exact wset_ne (hR.ne (by decide : 3 < 9))).trans hR.a3
        have fw1_5 := (show w1 (as 4) = w (as 4) by rw [hhw1]; exact wset_ne (hR.ne (by decide : 4 < 9))).trans hR.a4
        have fw1_6 := (show w1 (as 5) = w (as 5) by rw [hhw1]; exact wset_ne (hR.ne (by decide : 5 < 9))).trans hR.a5
        have fw1_7 := (show w1 (as 6) = w (as 6) by rw [hhw1]; exact wset_ne (hR.ne (by decide : 6 < 9))).trans hR.a6
        have fw1_8 := (show w1 (as 7) = w (as 7) by rw [hhw1]; exact wset_ne (hR.ne (by decide : 7 < 9))).trans hR.a7
        have fw1_9 := (show w1 (as 8) = w (as 8) by rw [hhw1]; exact wset_ne (hR.ne (by decide : 8 < 9))).trans hR.a8
        refine lv_iload hx hb dM_link_59 (lv_at hl 0 rfl) ?_
        refine lv_if_ge (tgt := 68) hx hb dM_link_61 (by decide) (fun c_61 => ?_) (fun c_61 => ?_)
        · first | exact absurd c_61 (by decide) | exact absurd (by decide) c_61
        · refine lv_iconst (v := 0) hx hb dM_link_64 (by decide) ?_
          refine lv_goto (tgt := 70) hx hb dM_link_65 (by decide) ?_
          exact mreti hx hb hr hlk hm ⟨Or.inr ⟨by have h := lk_neg (z := z) (by simpa using c_4) (chn J n (hd n J x t)) 0 (by have := chn_len J n (hd n J x t); omega); rw [nI_0] at h; exact h, rfl, (by rw [hw1]; exact hR.set _ _)⟩, by rw [hw1]; exact rK.rf.set rF_r⟩ dM_link_70
    · first | exact absurd c_21 (by decide) | exact absurd (by decide) c_21
set_option maxHeartbeats 4000000 in
set_option maxRecDepth 100000 in
theorem kM_files (l : Launch) (B : Nat) (D : va_G) (cI cZ cL : ClassId) (w : Wd) (r : Nat) (as : Nat → Nat) (g : Nat → Nat → Int32) (thr now : Int32) (n : Nat) (J : Nat → Jr) (hR : rR cI cZ r as g thr now n J w) (hM : mW now n J) (x t : Int32) : Met l yM_files (.code yM_files cM_files 5 (some .int) :: BIG) { frames := 3, cells := 0, slots := 0, locals := 72 } (va_Pc [.ref (r), .int (x), .int (t)] (mP B D CLS (TYS cI cZ cL) NEST w)) (va_Qi (fun z u => z = nI (cnt (fun j => decide (ver n J (hd n J x t) (nI j) ≠ -1)) 50) ∧ rR cI cZ r as g 0 now n J u ∧ rK r as w u) (mE B D CLS) (fun q => B ≤ q)) 0 0 (fun q => B ≤ q) := by
  refine mMet (by decide) rfl (Nat.le_of_ble_eq_true rfl) ?_
  intro p e s m below meth c ls hx hb hml hr hlk hnm hown hts hK hN hm hl
  have hE : ME "ChainPickerModel" (.code yM_files cM_files 5 (some .int)) _ s m D (TYS cI cZ cL) := ⟨hown, hts, hK, hN⟩
  have hl : lv_has ls 5 [(0, .ref (r)), (1, .int (x)), (2, .int (t))] := hl
  have hn200 := hR.n200
  refine lv_aload_n hx hb dM_files_0 rfl (lv_at hl 0 rfl) ?_
  refine lv_iconst (v := 0) hx hb dM_files_1 (by decide) ?_
  refine p_M_M_38 (x := 0) hx hb hE hm hR.1 (by simp) dM_files_2 (fun H locs hm => ?_)
  obtain ⟨w1, hhw1⟩ : ∃ z : Wd, z = wset w (r) (.inr (2, [.int (0), .int (now), .int (nI n), .ref (as 0), .ref (as 1), .ref (as 2), .ref (as 3), .ref (as 4), .ref (as 5), .ref (as 6), .ref (as 7), .ref (as 8)])) := ⟨_, rfl⟩
  have hm : mS B D CLS s.heap w1 H locs := by rw [hhw1]; exact hm
  have hw1 : w1 = wset (w) (r) (.inr (2, [.int (0), .int (now), .int (nI n), .ref (as 0), .ref (as 1), .ref (as 2), .ref (as 3), .ref (as 4), .ref (as 5), .ref (as 6), .ref (as 7), .ref (as 8)])) := by rw [hhw1]
  have fw1 : w1 (r) = some (.inr (2, [.int (0), .int (now), .int (nI n), .ref (as 0), .ref (as 1), .ref (as 2), .ref (as 3), .ref (as 4), .ref (as 5), .ref (as 6), .ref (as 7), .ref (as 8)])) := by rw [hhw1]; exact wset_at _ _ _
  have fw1_1 := (show w1 (as 0) = w (as 0) by rw [hhw1]; exact wset_ne (hR.ne (by decide : 0 < 9))).trans hR.a0
  have fw1_2 := (show w1 (as 1) = w (as 1) by rw [hhw1]; exact wset_ne (hR.ne (by decide : 1 < 9))).trans hR.a1
  have fw1_3 := (show w1 (as 2) = w (as 2) by rw [hhw1]; exact wset_ne (hR.ne (by decide : 2 < 9))).trans hR.a2
  have fw1_4 := (show w1 (as 3) = w (as 3) by rw [hhw1]; exact wset_ne (hR.ne (by decide : 3 < 9))).trans hR.a3
  have fw1_5 := (show w1 (as 4) = w (as 4) by rw [hhw1]; exact wset_ne (hR.ne (by decide : 4 < 9))).trans hR.a4
  have fw1_6 := (show w1 (as 5) = w (as 5) by rw [hhw1]; exact wset_ne (hR.ne (by decide : 5 < 9))).trans hR.a5
  have fw1_7 := (show w1 (as 6) = w (as 6) by rw [hhw1]; exact wset_ne (hR.ne (by decide : 6 < 9))).trans hR.a6
  have fw1_8 := (show w1 (as 7) = w (as 7) by rw [hhw1]; exact wset_ne (hR.ne (by decide : 7 < 9))).trans hR.a7
  have fw1_9 := (show w1 (as 8) = w (as 8) by rw [hhw1]; exact wset_ne (hR.ne (by decide : 8 < 9))).trans hR.a8
  have hR1 : rR cI cZ r as g 0 now n J w1 := by rw [hw1]; exact hR.set _ _
  have hK1 : rK r as w w1 := by rw [hw1]; exact rK.rf.set rF_r
  refine lv_iconst (v := 0) hx hb dM_files_5 (by decide) ?_
  refine lv_istore_n (lv' := [(3, .int (0)), (0, .ref (r)), (1, .int (x)), (2, .int (t))]) hx hb dM_files_6 rfl hl (by decide) rfl (fun ls hl => ?_)
  refine lv_iconst (v := 0) hx hb dM_files_7 (by decide) ?_
  refine lv_istore (lv' := [(4, .int (0)), (3, .int (0)), (0, .ref (r)), (1, .int (x)), (2, .int (t))]) hx hb dM_files_8 hl (by decide) rfl (fun ls hl => ?_)
  have loop : ∀ (d i : Nat), i + d = 50 → ∀ (x9 : Int32), x9 = nI (cnt (fun j => decide (ver n J (hd n J x t) (nI j) ≠ -1)) i) → ∀ (H : Heap) (locs : List Loc) (ls : Array Slot), mS B D CLS s.heap w1 H locs → lv_has ls 5 [(4, .int (nI i)), (3, .int (x9)), (0, .ref (r)), (1, .int (x)), (2, .int (t))] → W p l e ({ frames := 3, cells := 0, slots := 0, locals := 72 }) s m [.ref (r), .int (x), .int (t)].toArray below meth c H locs 0 0 (MQ below (va_Qi (fun z u => z = nI (cnt (fun j => decide (ver n J (hd n J x t) (nI j) ≠ -1)) 50) ∧ rR cI cZ r as g 0 now n J u ∧ rK r as w u) (mE B D CLS) (fun q => B ≤ q)) [.ref (r), .int (x), .int (t)].toArray s 0 0 (fun q => B ≤ q)) (F0 m 10 ls []) := by
    intro d
    induction d with
    | zero =>
      intro i hi x9 hx0 H locs ls hm hl
      refine lv_iload hx hb dM_files_10 (lv_at hl 0 rfl) ?_
      refine lv_bipush (v := 50) hx hb dM_files_12 (by decide) ?_
      refine lv_icmp_ge (tgt := 42) hx hb dM_files_14 (by decide) (fun c_14 => ?_) (fun c_14 => ?_)
      · rw [← Int32.not_lt] at c_14
        refine lv_iload_n hx hb dM_files_42 rfl (lv_at hl 1 rfl) ?_
        exact mreti hx hb hr hlk hm ⟨by rw [hx0, show i = 50 by omega], hR1, hK1⟩ dM_files_43
      · exact absurd (nI_le (a := 50) (b := i) (by omega) (by omega)) c_14
    | succ d ih =>
      intro i hi x9 hx0 H locs ls hm hl
      have hiN : i < 50 := by omega
      refine lv_iload hx hb dM_files_10 (lv_at hl 0 rfl) ?_
      refine lv_bipush (v := 50) hx hb dM_files_12 (by decide) ?_
      refine lv_icmp_ge (tgt := 42) hx hb dM_files_14 (by decide) (fun c_14 => ?_) (fun c_14 => ?_)
      · exact absurd c_14 (nI_ge (a := i) (b := 50) (by omega) (by omega))
      · rw [Int32.not_le] at c_14
        refine lv_iload_n hx hb dM_files_17 rfl (lv_at hl 1 rfl) ?_
        refine lv_aload_n hx hb dM_files_18 rfl (lv_at hl 2 rfl) ?_
        refine lv_iload_n hx hb dM_files_19 rfl (lv_at hl 3 rfl) ?_
        refine lv_iload_n hx hb dM_files_20 rfl (lv_at hl 4 rfl) ?_
        refine lv_iload hx hb dM_files_21 (lv_at hl 0 rfl) ?_
        refine mcalli (mcV (n := 3) (As := [.int (x), .int (t), .int (nI i)]) (rest := [.int (x9)]) hx hb hml hE (kM_version l B D cI cZ cL w1 r as g 0 now n J hR1 hM x t (nI i)) q_385 q_387 qs_11 q_2 q_388 rfl rfl (by decide +kernel) ⟨Nat.le_of_ble_eq_true rfl, Nat.le_of_ble_eq_true rfl⟩ rfl hl.1 hm rfl hR1.1 rfl (Nat.le_of_ble_eq_true rfl) dM_files_23 ⟨Nat.le_of_ble_eq_true rfl, Nat.le_of_ble_eq_true rfl⟩) hm (fun r1 u1 H locs hp1 hm => ?_)
        obtain ⟨hr1, hu1⟩ := hp1
        rw [hu1] at hm
        refine lv_if_lt (tgt := 33) hx hb dM_files_26 (by decide) (fun c_26 => ?_) (fun c_26 => ?_)
        · rw [hr1, ver_neg hM (fun i hi b hb => hR.bs hi hb) hd_lt] at c_26
          refine lv_iconst (v := 0) hx hb dM_files_33 (by decide) ?_
          refine lv_iadd hx hb dM_files_34 ?_
          refine lv_istore_n (lv' := [(3, .int ((x9) + (0))), (4, .int (nI i)), (0, .ref (r)), (1, .int (x)), (2, .int (t))]) hx hb dM_files_35 rfl hl (by decide) rfl (fun ls hl => ?_)
          refine lv_iinc (v := nI i + 1) (lv' := [(4, .int (nI i + 1)), (3, .int ((x9) + (0))), (0, .ref (r)), (1, .int (x)), (2, .int (t))]) hx hb dM_files_36 hl (k := 1) rfl rfl (by decide) rfl (fun ls hl => ?_)
          refine lv_goto (tgt := 10) hx hb dM_files_39 (by decide) ?_
          rw [nI_1] at hl
          rw [Int32.add_zero] at hl
          exact ih (i + 1) (by omega) x9 (cntU_f hx0 (by simp [c_14, c_26])) H locs ls hm (lv_sub hl [0, 1, 2, 3, 4] rfl)
        · rw [hr1, ver_neg hM (fun i hi b hb => hR.bs hi hb) hd_lt] at c_26
          refine lv_iconst (v := 1) hx hb dM_files_29 (by decide) ?_
          refine lv_goto (tgt := 34) hx hb dM_files_30 (by decide) ?_
          refine lv_iadd hx hb dM_files_34 ?_
          refine lv_istore_n (lv' := [(3, .int ((x9) + (1))), (4, .int (nI i)), (0, .ref (r)), (1, .int (x)), (2, .int (t))]) hx hb dM_files_35 rfl hl (by decide) rfl (fun ls hl => ?_)
          refine lv_iinc (v := nI i + 1) (lv' := [(4, .int (nI i + 1)), (3, .int ((x9) + (1))), (0, .ref (r)), (1, .int (x)), (2, .int (t))]) hx hb dM_files_36 hl (k := 1) rfl rfl (by decide) rfl (fun ls hl => ?_)
          refine lv_goto (tgt := 10) hx hb dM_files_39 (by decide) ?_
          rw [nI_1] at hl
          exact ih (i + 1) (by omega) (x9 + 1) (cntU_t hx0 (by simp [c_14, c_26])) H locs ls hm (lv_sub hl [0, 1, 2, 3, 4] rfl)
  exact loop 50 0 (by omega) 0 rfl _ _ ls hm (by rw [nI_0]; exact lv_sub hl [0, 1, 2, 3, 4] rfl)
set_option maxHeartbeats 4000000 in
set_option maxRecDepth 100000 in
theorem kM_count (l : Launch) (B : Nat) (D : va_G) (cI cZ cL : ClassId) (w : Wd) (r : Nat) (as : Nat → Nat) (g : Nat → Nat → Int32) (thr now : Int32) (n : Nat) (J : Nat → Jr) (hR : rR cI cZ r as g thr now n J w) (x : Int32) : Met l yM_count (.code yM_count cM_count 5 (some .int) :: BIG) { frames := 0, cells := 0, slots := 0, locals := 0 } (va_Pc [.ref (r), .int (x)] (mP B D CLS (TYS cI cZ cL) NEST w)) (va_Qi (fun z u => z = cntw now n J x ∧ rR cI cZ r as g 0 now n J u ∧ rK r as w u) (mE B D CLS) (fun q => B ≤ q)) 0 0 (fun q => B ≤ q) := by
  refine mMet (by decide) rfl (Nat.le_of_ble_eq_true rfl) ?_
  intro p e s m below meth c ls hx hb hml hr hlk hnm hown hts hK hN hm hl
  have hE : ME "ChainPickerModel" (.code yM_count cM_count 5 (some .int)) _ s m D (TYS cI cZ cL) := ⟨hown, hts, hK, hN⟩
  have hl : lv_has ls 5 [(0, .ref (r)), (1, .int (x))] := hl
  have hn200 := hR.n200
  refine lv_aload_n hx hb dM_count_0 rfl (lv_at hl 0 rfl) ?_
  refine lv_iconst (v := 0) hx hb dM_count_1 (by decide) ?_
  refine p_M_M_38 (x := 0) hx hb hE hm hR.1 (by simp) dM_count_2 (fun H locs hm => ?_)
  obtain ⟨w1, hhw1⟩ : ∃ z : Wd, z = wset w (r) (.inr (2, [.int (0), .int (now), .int (nI n), .ref (as 0), .ref (as 1), .ref (as 2), .ref (as 3), .ref (as 4), .ref (as 5), .ref (as 6), .ref (as 7), .ref (as 8)])) := ⟨_, rfl⟩
  have hm : mS B D CLS s.heap w1 H locs := by rw [hhw1]; exact hm
  have hw1 : w1 = wset (w) (r) (.inr (2, [.int (0), .int (now), .int (nI n), .ref (as 0), .ref (as 1), .ref (as 2), .ref (as 3), .ref (as 4), .ref (as 5), .ref (as 6), .ref (as 7), .ref (as 8)])) := by rw [hhw1]
  have fw1 : w1 (r) = some (.inr (2, [.int (0), .int (now), .int (nI n), .ref (as 0), .ref (as 1), .ref (as 2), .ref (as 3), .ref (as 4), .ref (as 5), .ref (as 6), .ref (as 7), .ref (as 8)])) := by rw [hhw1]; exact wset_at _ _ _
  have fw1_1 := (show w1 (as 0) = w (as 0) by rw [hhw1]; exact wset_ne (hR.ne (by decide : 0 < 9))).trans hR.a0
  have fw1_2 := (show w1 (as 1) = w (as 1) by rw [hhw1]; exact wset_ne (hR.ne (by decide : 1 < 9))).trans hR.a1
  have fw1_3 := (show w1 (as 2) = w (as 2) by rw [hhw1]; exact wset_ne (hR.ne (by decide : 2 < 9))).trans hR.a2
  have fw1_4 := (show w1 (as 3) = w (as 3) by rw [hhw1]; exact wset_ne (hR.ne (by decide : 3 < 9))).trans hR.a3
  have fw1_5 := (show w1 (as 4) = w (as 4) by rw [hhw1]; exact wset_ne (hR.ne (by decide : 4 < 9))).trans hR.a4
  have fw1_6 := (show w1 (as 5) = w (as 5) by rw [hhw1]; exact wset_ne (hR.ne (by decide : 5 < 9))).trans hR.a5
  have fw1_7 := (show w1 (as 6) = w (as 6) by rw [hhw1]; exact wset_ne (hR.ne (by decide : 6 < 9))).trans hR.a6
  have fw1_8 := (show w1 (as 7) = w (as 7) by rw [hhw1]; exact wset_ne (hR.ne (by decide : 7 < 9))).trans hR.a7
  have fw1_9 := (show w1 (as 8) = w (as 8) by rw [hhw1]; exact wset_ne (hR.ne (by decide : 8 < 9))).trans hR.a8
  have hR1 : rR cI cZ r as g 0 now n J w1 := by rw [hw1]; exact hR.set _ _
  have hK1 : rK r as w w1 := by rw [hw1]; exact rK.rf.set rF_r
  refine lv_iconst (v := 0) hx hb dM_count_5 (by decide) ?_
  refine lv_istore_n (lv' := [(2, .int (0)), (0, .ref (r)), (1, .int (x))]) hx hb dM_count_6 rfl hl (by decide) rfl (fun ls hl => ?_)
  refine lv_iconst (v := 0) hx hb dM_count_7 (by decide) ?_
  refine lv_istore_n (lv' := [(3, .int (0)), (2, .int (0)), (0, .ref (r)), (1, .int (x))]) hx hb dM_count_8 rfl hl (by decide) rfl (fun ls hl => ?_)
  refine lv_iconst (v := 0) hx hb dM_count_9 (by decide) ?_
  refine lv_istore (lv' := [(4, .int (0)), (3, .int (0)), (2, .int (0)), (0, .ref (r)), (1, .int (x))]) hx hb dM_count_10 hl (by decide) rfl (fun ls hl => ?_)
  have loop : ∀ (d i : Nat), i + d = n → ∀ (x2 x3 : Int32), x2 = nI (cnt (fun j => decide (jSt (J j) = 0)) i) → x3 = nI (cnt (fun j => jPr (J j)) i) → ∀ (H : Heap) (locs : List Loc) (ls : Array Slot), mS B D CLS s.heap w1 H locs → lv_has ls 5 [(4, .int (nI i)), (3, .int (x3)), (2, .int (x2)), (0, .ref (r)), (1, .int (x))] → W p l e ({ frames := 0, cells := 0, slots := 0, locals := 0 }) s m [.ref (r), .int (x)].toArray below meth c H locs 0 0 (MQ below (va_Qi (fun z u => z = cntw now n J x ∧ rR cI cZ r as g 0 now n J u ∧ rK r as w u) (mE B D CLS) (fun q => B ≤ q)) [.ref (r), .int (x)].toArray s 0 0 (fun q => B ≤ q)) (F0 m 12 ls []) := by
    intro d
    induction d with
    | zero =>
      intro i hi x2 x3 h2 h3 H locs ls hm hl
      refine lv_iload hx hb dM_count_12 (lv_at hl 0 rfl) ?_
      refine lv_aload_n hx hb dM_count_14 rfl (lv_at hl 3 rfl) ?_
      refine g_M_M_46 (v := .int (nI n)) hx hb hE hm hR1.1 rfl dM_count_15 ?_
      refine lv_icmp_ge (tgt := 63) hx hb dM_count_18 (by decide) (fun c_18 => ?_) (fun c_18 => ?_)
      · rw [← Int32.not_lt] at c_18
        refine lv_iload_n hx hb dM_count_63 rfl (lv_at hl 4 rfl) ?_
        refine lv_if_ne (tgt := 74) hx hb dM_count_64 (by decide) (fun c_64 => ?_) (fun c_64 => ?_)
        · refine lv_iload_n hx hb dM_count_74 rfl (lv_at hl 4 rfl) ?_
          refine lv_iconst (v := 1) hx hb dM_count_75 (by decide) ?_
          refine lv_icmp_ne (tgt := 86) hx hb dM_count_76 (by decide) (fun c_76 => ?_) (fun c_76 => ?_)
          · refine lv_iload_n hx hb dM_count_86 rfl (lv_at hl 4 rfl) ?_
            refine lv_iconst (v := 2) hx hb dM_count_87 (by decide) ?_
            refine lv_icmp_ne (tgt := 95) hx hb dM_count_88 (by decide) (fun c_88 => ?_) (fun c_88 => ?_)
            · refine lv_iload_n hx hb dM_count_95 rfl (lv_at hl 4 rfl) ?_
              refine lv_iconst (v := 3) hx hb dM_count_96 (by decide) ?_
              refine lv_icmp_ne (tgt := 104) hx hb dM_count_97 (by decide) (fun c_97 => ?_) (fun c_97 => ?_)
              · refine lv_iconst (v := (-1)) hx hb dM_count_104 (by decide) ?_
                exact mreti hx hb hr hlk hm ⟨by rw [show i = n by omega] at h2 h3; simp [cntw, h2, h3, c_64, c_76, c_88, c_97], hR1, hK1⟩ dM_count_105
              · refine lv_iload_n hx hb dM_count_100 rfl (lv_at hl 1 rfl) ?_
                refine lv_goto (tgt := 105) hx hb dM_count_101 (by decide) ?_
                exact mreti hx hb hr hlk hm ⟨by rw [show i = n by omega] at h2 h3; simp [cntw, h2, h3, c_64, c_76, c_88, c_97], hR1, hK1⟩ dM_count_105
            · refine lv_iload_n hx hb dM_count_91 rfl (lv_at hl 2 rfl) ?_
              refine lv_goto (tgt := 105) hx hb dM_count_92 (by decide) ?_
              exact mreti hx hb hr hlk hm ⟨by rw [show i = n by omega] at h2 h3; simp [cntw, h2, h3, c_64, c_76, c_88], hR1, hK1⟩ dM_count_105
          · refine lv_aload_n hx hb dM_count_79 rfl (lv_at hl 3 rfl) ?_
            refine g_M_M_46 (v := .int (nI n)) hx hb hE hm hR1.1 rfl dM_count_80 ?_
            refine lv_goto (tgt := 105) hx hb dM_count_83 (by decide) ?_
            exact mreti hx hb hr hlk hm ⟨by rw [show i = n by omega] at h2 h3; simp [cntw, h2, h3, c_64, c_76], hR1, hK1⟩ dM_count_105
        · refine lv_aload_n hx hb dM_count_67 rfl (lv_at hl 3 rfl) ?_
          refine g_M_M_43 (v := .int (now)) hx hb hE hm hR1.1 rfl dM_count_68 ?_
          refine lv_goto (tgt := 105) hx hb dM_count_71 (by decide) ?_
          exact mreti hx hb hr hlk hm ⟨by rw [show i = n by omega] at h2 h3; simp [cntw, h2, h3, c_64], hR1, hK1⟩ dM_count_105
      · exact absurd (nI_le (a := n) (b := i) (by omega) (by omega)) c_18
    | succ d ih =>
      intro i hi x2 x3 h2 h3 H locs ls hm hl
      have hiN : i < n := by omega
      refine lv_iload hx hb dM_count_12 (lv_at hl 0 rfl) ?_
      refine lv_aload_n hx hb dM_count_14 rfl (lv_at hl 3 rfl) ?_
      refine g_M_M_46 (v := .int (nI n)) hx hb hE hm hR1.1 rfl dM_count_15 ?_
      refine lv_icmp_ge (tgt := 63) hx hb dM_count_18 (by decide) (fun c_18 => ?_) (fun c_18 => ?_)
      · exact absurd c_18 (nI_ge (a := i) (b := n) (by omega) (by omega))
      · rw [Int32.not_le] at c_18
        refine lv_iload_n hx hb dM_count_21 rfl (lv_at hl 2 rfl) ?_
        refine lv_aload_n hx hb dM_count_22 rfl (lv_at hl 3 rfl) ?_
        refine g_M_M_29 (v := .ref (as 6)) hx hb hE hm hR1.1 rfl dM_count_23 ?_
        refine lv_iload hx hb dM_count_26 (lv_at hl 0 rfl) ?_
        refine ialdE (i) hx hb hE.2.2.1 hm 0 hR1.a6 rfl rfl (by have := hR.n200; have := hiN; omega) (by decide) dM_count_28 ?_
        rw [hR1.g6 hiN]
        refine lv_if_ne (tgt := 36) hx hb dM_count_29 (by decide) (fun c_29 => ?_) (fun c_29 => ?_)
        · refine lv_iconst (v := 0) hx hb dM_count_36 (by decide) ?_
          refine lv_iadd hx hb dM_count_37 ?_
          refine lv_istore_n (lv' := [(2, .int ((x2) + (0))), (4, .int (nI i)), (3, .int (x3)), (0, .ref (r)), (1, .int (x))]) hx hb dM_count_38 rfl hl (by decide) rfl (fun ls hl => ?_)
          refine lv_iload_n hx hb dM_count_39 rfl (lv_at hl 2 rfl) ?_
          refine lv_aload_n hx hb dM_count_40 rfl (lv_at hl 3 rfl) ?_
          refine g_M_M_32 (v := .ref (as 7)) hx hb hE hm hR1.1 rfl dM_count_41 ?_
          refine lv_iload hx hb dM_count_44 (lv_at hl 1 rfl) ?_
          refine baldE (i) hx hb hE.2.2.1 hm 1 hR1.a7 rfl rfl (by have := hR.n200; have := hiN; omega) (by decide) dM_count_46 ?_
          rw [hR1.g7 hiN]
          refine lv_if_eq (tgt := 54) hx hb dM_count_47 (by decide) (fun c_47 => ?_) (fun c_47 => ?_)
          · rw [bI_0] at c_47
            refine lv_iconst (v := 0) hx hb dM_count_54 (by decide) ?_
            refine lv_iadd hx hb dM_count_55 ?_
            refine lv_istore_n (lv' := [(3, .int ((x3) + (0))), (2, .int ((x2) + (0))), (4, .int (nI i)), (0, .ref (r)), (1, .int (x))]) hx hb dM_count_56 rfl hl (by decide) rfl (fun ls hl => ?_)
            refine lv_iinc (v := nI i + 1) (lv' := [(4, .int (nI i + 1)), (3, .int ((x3) + (0))), (2, .int ((x2) + (0))), (0, .ref (r)), (1, .int (x))]) hx hb dM_count_57 hl (k := 2) rfl rfl (by decide) rfl (fun ls hl => ?_)
            refine lv_goto (tgt := 12) hx hb dM_count_60 (by decide) ?_
            rw [nI_1] at hl
            simp only [Int32.add_zero] at hl
            exact ih (i + 1) (by omega) (x2) (x3) (cntU_f h2 (by simp [c_18, c_29, c_47])) (cntU_f h3 (by simp [c_18, c_29, c_47])) H locs ls hm (lv_sub hl [0, 1, 2, 3, 4] rfl)
          · rw [bI_0] at c_47
            refine lv_iconst (v := 1) hx hb dM_count_50 (by decide) ?_
            refine lv_goto (tgt := 55) hx hb dM_count_51 (by decide) ?_
            refine lv_iadd hx hb dM_count_55 ?_
            refine lv_istore_n (lv' := [(3, .int ((x3) + (1))), (2, .int ((x2) + (0))), (4, .int (nI i)), (0, .ref (r)), (1, .int (x))]) hx hb dM_count_56 rfl hl (by decide) rfl (fun ls hl => ?_)
            refine lv_iinc (v := nI i + 1) (lv' := [(4, .int (nI i + 1)), (3, .int ((x3) + (1))), (2, .int ((x2) + (0))), (0, .ref (r)), (1, .int (x))]) hx hb dM_count_57 hl (k := 2) rfl rfl (by decide) rfl (fun ls hl => ?_)
            refine lv_goto (tgt := 12) hx hb dM_count_60 (by decide) ?_
            rw [nI_1] at hl
            simp only [Int32.add_zero] at hl
            exact ih (i + 1) (by omega) (x2) (x3 + 1) (cntU_f h2 (by simp [c_18, c_29, c_47])) (cntU_t h3 (by simp [c_18, c_29, c_47])) H locs ls hm (lv_sub hl [0, 1, 2, 3, 4] rfl)
        · refine lv_iconst (v := 1) hx hb dM_count_32 (by decide) ?_
          refine lv_goto (tgt := 37) hx hb dM_count_33 (by decide) ?_
          refine lv_iadd hx hb dM_count_37 ?_
          refine lv_istore_n (lv' := [(2, .int ((x2) + (1))), (4, .int (nI i)), (3, .int (x3)), (0, .ref (r)), (1, .int (x))]) hx hb dM_count_38 rfl hl (by decide) rfl (fun ls hl => ?_)
          refine lv_iload_n hx hb dM_count_39 rfl (lv_at hl 2 rfl) ?_
          refine lv_aload_n hx hb dM_count_40 rfl (lv_at hl 3 rfl) ?_
          refine g_M_M_32 (v := .ref (as 7)) hx hb hE hm hR1.1 rfl dM_count_41 ?_
          refine lv_iload hx hb dM_count_44 (lv_at hl 1 rfl) ?_
          refine baldE (i) hx hb hE.2.2.1 hm 1 hR1.a7 rfl rfl (by have := hR.n200; have := hiN; omega) (by decide) dM_count_46 ?_
          rw [hR1.g7 hiN]
          refine lv_if_eq (tgt := 54) hx hb dM_count_47 (by decide) (fun c_47 => ?_) (fun c_47 => ?_)
          · rw [bI_0] at c_47
            refine lv_iconst (v := 0) hx hb dM_count_54 (by decide) ?_
            refine lv_iadd hx hb dM_count_55 ?_
            refine lv_istore_n (lv' := [(3, .int ((x3) + (0))), (2, .int ((x2) + (1))), (4, .int (nI i)), (0, .ref (r)), (1, .int (x))]) hx hb dM_count_56 rfl hl (by decide) rfl (fun ls hl => ?_)
            refine lv_iinc (v := nI i + 1) (lv' := [(4, .int (nI i + 1)), (3, .int ((x3) + (0))), (2, .int ((x2) + (1))), (0, .ref (r)), (1, .int (x))]) hx hb dM_count_57 hl (k := 2) rfl rfl (by decide) rfl (fun ls hl => ?_)
            refine lv_goto (tgt := 12) hx hb dM_count_60 (by decide) ?_
            rw [nI_1] at hl
            simp only [Int32.add_zero] at hl
            exact ih (i + 1) (by omega) (x2 + 1) (x3) (cntU_t h2 (by simp [c_18, c_29, c_47])) (cntU_f h3 (by simp [c_18, c_29, c_47])) H locs ls hm (lv_sub hl [0, 1, 2, 3, 4] rfl)
          · rw [bI_0] at c_47
            refine lv_iconst (v := 1) hx hb dM_count_50 (by decide) ?_
            refine lv_goto (tgt := 55) hx hb dM_count_51 (by decide) ?_
            refine lv_iadd hx hb dM_count_55 ?_
            refine lv_istore_n (lv' := [(3, .int ((x3) + (1))), (2, .int ((x2) + (1))), (4, .int (nI i)), (0, .ref (r)), (1, .int (x))]) hx hb dM_count_56 rfl hl (by decide) rfl (fun ls hl => ?_)
            refine lv_iinc (v := nI i + 1) (lv' := [(4, .int (nI i + 1)), (3, .int ((x3) + (1))), (2, .int ((x2) + (1))), (0, .ref (r)), (1, .int (x))]) hx hb dM_count_57 hl (k := 2) rfl rfl (by decide) rfl (fun ls hl => ?_)
            refine lv_goto (tgt := 12) hx hb dM_count_60 (by decide) ?_
            rw [nI_1] at hl
            exact ih (i + 1) (by omega) (x2 + 1) (x3 + 1) (cntU_t h2 (by simp [c_18, c_29, c_47])) (cntU_t h3 (by simp [c_18, c_29, c_47])) H locs ls hm (lv_sub hl [0, 1, 2, 3, 4] rfl)
  exact loop n 0 (by omega) 0 0 rfl rfl _ _ ls hm (by rw [nI_0]; exact lv_sub hl [0, 1, 2, 3, 4] rfl)
set_option maxHeartbeats 4000000 in
set_option maxRecDepth 100000 in
theorem kM_job (l : Launch) (B : Nat) (D : va_G) (cI cZ cL : ClassId) (w : Wd) (r : Nat) (as : Nat → Nat) (g : Nat → Nat → Int32) (thr now : Int32) (n : Nat) (J : Nat → Jr) (hR : rR cI cZ r as g thr now n J w) (x y : Int32) : Met l yM_job (.code yM_job cM_job 5 (some .int) :: BIG) { frames := 1, cells := 0, slots := 0, locals := 23 } (va_Pc [.ref (r), .int (x), .int (y)] (mP B D CLS (TYS cI cZ cL) NEST w)) (va_Qi (fun z u => z = jobw n J x y ∧ rR cI cZ r as g 0 now n J u ∧ rK r as w u) (mE B D CLS) (fun q => B ≤ q)) 0 0 (fun q => B ≤ q) := by
  refine mMet (by decide) rfl (Nat.le_of_ble_eq_true rfl) ?_
  intro p e s m below meth c ls hx hb hml hr hlk hnm hown hts hK hN hm hl
  have hE : ME "ChainPickerModel" (.code yM_job cM_job 5 (some .int)) _ s m D (TYS cI cZ cL) := ⟨hown, hts, hK, hN⟩
  have hl : lv_has ls 5 [(0, .ref (r)), (1, .int (x)), (2, .int (y))] := hl
  have hn200 := hR.n200
  refine lv_aload_n hx hb dM_job_0 rfl (lv_at hl 0 rfl) ?_
  refine lv_iconst (v := 0) hx hb dM_job_1 (by decide) ?_
  refine p_M_M_38 (x := 0) hx hb hE hm hR.1 (by simp) dM_job_2 (fun H locs hm => ?_)
  obtain ⟨w1, hhw1⟩ : ∃ z : Wd, z = wset w (r) (.inr (2, [.int (0), .int (now), .int (nI n), .ref (as 0), .ref (as 1), .ref (as 2), .ref (as 3), .ref (as 4), .ref (as 5), .ref (as 6), .ref (as 7), .ref (as 8)])) := ⟨_, rfl⟩
  have hm : mS B D CLS s.heap w1 H locs := by rw [hhw1]; exact hm
  have hw1 : w1 = wset (w) (r) (.inr (2, [.int (0), .int (now), .int (nI n), .ref (as 0), .ref (as 1), .ref (as 2), .ref (as 3), .ref (as 4), .ref (as 5), .ref (as 6), .ref (as 7), .ref (as 8)])) := by rw [hhw1]
  have fw1 : w1 (r) = some (.inr (2, [.int (0), .int (now), .int (nI n), .ref (as 0), .ref (as 1), .ref (as 2), .ref (as 3), .ref (as 4), .ref (as 5), .ref (as 6), .ref (as 7), .ref (as 8)])) := by rw [hhw1]; exact wset_at _ _ _
  have fw1_1 := (show w1 (as 0) = w (as 0) by rw [hhw1]; exact wset_ne (hR.ne (by decide : 0 < 9))).trans hR.a0
  have fw1_2 := (show w1 (as 1) = w (as 1) by rw [hhw1]; exact wset_ne (hR.ne (by decide : 1 < 9))).trans hR.a1
  have fw1_3 := (show w1 (as 2) = w (as 2) by rw [hhw1]; exact wset_ne (hR.ne (by decide : 2 < 9))).trans hR.a2
  have fw1_4 := (show w1 (as 3) = w (as 3) by rw [hhw1]; exact wset_ne (hR.ne (by decide : 3 < 9))).trans hR.a3
  have fw1_5 := (show w1 (as 4) = w (as 4) by rw [hhw1]; exact wset_ne (hR.ne (by decide : 4 < 9))).trans hR.a4
  have fw1_6 := (show w1 (as 5) = w (as 5) by rw [hhw1]; exact wset_ne (hR.ne (by decide : 5 < 9))).trans hR.a5
  have fw1_7 := (show w1 (as 6) = w (as 6) by rw [hhw1]; exact wset_ne (hR.ne (by decide : 6 < 9))).trans hR.a6
  have fw1_8 := (show w1 (as 7) = w (as 7) by rw [hhw1]; exact wset_ne (hR.ne (by decide : 7 < 9))).trans hR.a7
  have fw1_9 := (show w1 (as 8) = w (as 8) by rw [hhw1]; exact wset_ne (hR.ne (by decide : 8 < 9))).trans hR.a8
  have hR1 : rR cI cZ r as g 0 now n J w1 := by rw [hw1]; exact hR.set _ _
  have hK1 : rK r as w w1 := by rw [hw1]; exact rK.rf.set rF_r
  refine lv_aload_n hx hb dM_job_5 rfl (lv_at hl 0 rfl) ?_
  refine lv_iload_n hx hb dM_job_6 rfl (lv_at hl 1 rfl) ?_
  refine mcalli (mcV (n := 1) (As := [.int (x)]) (rest := []) hx hb hml hE (kM_isJob l B D cI cZ cL w1 r as g 0 now n J hR1 x) q_360 q_362 qs_9 q_2 q_363 rfl rfl (by decide +kernel) ⟨Nat.le_of_ble_eq_true rfl, Nat.le_of_ble_eq_true rfl⟩ rfl hl.1 hm rfl hR1.1 rfl (Nat.le_of_ble_eq_true rfl) dM_job_7 ⟨Nat.le_of_ble_eq_true rfl, Nat.le_of_ble_eq_true rfl⟩) hm (fun r2 u2 H locs hp2 hm => ?_)
  obtain ⟨hr2, hu2⟩ := hp2
  rw [hu2] at hm
  cases ht : fJ n x with
  | none =>
    rw [ht] at hr2
    have hr2 : r2 = 0 := hr2
    subst hr2
    refine lv_if_ne (tgt := 15) hx hb dM_job_10 (by decide) (fun c_10 => ?_) (fun c_10 => ?_)
    · first | exact absurd c_10 (by decide) | exact absurd (by decide) c_10
    · refine lv_iconst (v := (-1)) hx hb dM_job_13 (by decide) ?_
      exact mreti hx hb hr hlk hm ⟨by simp [jobw, ht, bI], hR1, hK1⟩ dM_job_14
  | some j =>
    rw [ht] at hr2
    have hr2 : r2 = 1 := hr2
    subst hr2
    obtain ⟨hjn, hxj⟩ := fJ_lt ht
    subst hxj
    refine lv_if_ne (tgt := 15) hx hb dM_job_10 (by decide) (fun c_10 => ?_) (fun c_10 => ?_)
    · refine lv_iload_n hx hb dM_job_15 rfl (lv_at hl 2 rfl) ?_
      by_cases e_0 : y = 0
      · subst e_0
        refine lv_tableIn (off := 60) (tgt := 76) hx hb dM_job_16 (by decide) (by decide) (by decide) (by decide) ?_
        refine lv_aload_n hx hb dM_job_76 rfl (lv_at hl 0 rfl) ?_
        refine g_M_M_7 (v := .ref (as 0)) hx hb hE hm hR1.1 rfl dM_job_77 ?_
        refine lv_iload_n hx hb dM_job_80 rfl (lv_at hl 1 rfl) ?_
        refine ialdE (j) hx hb hE.2.2.1 hm 0 hR1.a0 rfl rfl (by have := hR.n200; have := hjn; omega) (by decide) dM_job_81 ?_
        rw [hR1.g0 hjn]
        exact mreti hx hb hr hlk hm ⟨by simp [jobw, ht, bI], hR1, hK1⟩ dM_job_82
      by_cases e_1 : y = 1
      · subst e_1
        refine lv_tableIn (off := 67) (tgt := 83) hx hb dM_job_16 (by decide) (by decide) (by decide) (by decide) ?_
        refine lv_aload_n hx hb dM_job_83 rfl (lv_at hl 0 rfl) ?_
        refine g_M_M_13 (v := .ref (as 1)) hx hb hE hm hR1.1 rfl dM_job_84 ?_
        refine lv_iload_n hx hb dM_job_87 rfl (lv_at hl 1 rfl) ?_
        refine ialdE (j) hx hb hE.2.2.1 hm 0 hR1.a1 rfl rfl (by have := hR.n200; have := hjn; omega) (by decide) dM_job_88 ?_
        rw [hR1.g1 hjn]
        exact mreti hx hb hr hlk hm ⟨by simp [jobw, ht, bI], hR1, hK1⟩ dM_job_89
      by_cases e_2 : y = 2
      · subst e_2
        refine lv_tableIn (off := 74) (tgt := 90) hx hb dM_job_16 (by decide) (by decide) (by decide) (by decide) ?_
        refine lv_aload_n hx hb dM_job_90 rfl (lv_at hl 0 rfl) ?_
        refine g_M_M_16 (v := .ref (as 2)) hx hb hE hm hR1.1 rfl dM_job_91 ?_
        refine lv_iload_n hx hb dM_job_94 rfl (lv_at hl 1 rfl) ?_
        refine baldE (j) hx hb hE.2.2.1 hm 1 hR1.a2 rfl rfl (by have := hR.n200; have := hjn; omega) (by decide) dM_job_95 ?_
        rw [hR1.g2 hjn]
        refine lv_if_eq (tgt := 103) hx hb dM_job_96 (by decide) (fun c_96 => ?_) (fun c_96 => ?_)
        · rw [bI_0] at c_96
          refine lv_iconst (v := 0) hx hb dM_job_103 (by decide) ?_
          exact mreti hx hb hr hlk hm ⟨by simp [jobw, ht, bI, c_96], hR1, hK1⟩ dM_job_104
        · rw [bI_0] at c_96
          refine lv_iconst (v := 1) hx hb dM_job_99 (by decide) ?_
          refine lv_goto (tgt := 104) hx hb dM_job_100 (by decide) ?_
          exact mreti hx hb hr hlk hm ⟨by simp [jobw, ht, bI, c_96], hR1, hK1⟩ dM_job_104
      by_cases e_3 : y = 3
      · subst e_3
        refine lv_tableIn (off := 89) (tgt := 105) hx hb dM_job_16 (by decide) (by decide) (by decide) (by decide) ?_
        refine lv_aload_n hx hb dM_job_105 rfl (lv_at hl 0 rfl) ?_
        refine g_M_M_20 (v := .ref (as 3)) hx hb hE hm hR1.1 rfl dM_job_106 ?_
        refine lv_iload_n hx hb dM_job_109 rfl (lv_at hl 1 rfl) ?_
        refine ialdE (j) hx hb hE.2.2.1 hm 0 hR1.a3 rfl rfl (by have := hR.n200; have := hjn; omega) (by decide) dM_job_110 ?_
        rw [hR1.g3 hjn]
        exact mreti hx hb hr hlk hm ⟨by simp [jobw, ht, bI], hR1, hK1⟩ dM_job_111
      by_cases e_4 : y = 4
      · subst e_4
        refine lv_tableIn (off := 96) (tgt := 112) hx hb dM_job_16 (by decide) (by decide) (by decide) (by decide) ?_
        refine lv_aload_n hx hb dM_job_112 rfl (lv_at hl 0 rfl) ?_
        refine g_M_M_23 (v := .ref (as 4)) hx hb hE hm hR1.1 rfl dM_job_113 ?_
        refine lv_iload_n hx hb dM_job_116 rfl (lv_at hl 1 rfl) ?_
        refine ialdE (j) hx hb hE.2.2.1 hm 0 hR1.a4 rfl rfl (by have := hR.n200; have := hjn; omega) (by decide) dM_job_117 ?_
        rw [hR1.g4 hjn]
        exact mreti hx hb hr hlk hm ⟨by simp [jobw, ht, bI], hR1, hK1⟩ dM_job_118
      by_cases e_5 : y = 5
      · subst e_5
        refine lv_tableIn (off := 103) (tgt := 119) hx hb dM_job_16 (by decide) (by decide) (by decide) (by decide) ?_
        refine lv_aload_n hx hb dM_job_119 rfl (lv_at hl 0 rfl) ?_
        refine g_M_M_26 (v := .ref (as 5)) hx hb hE hm hR1.1 rfl dM_job_120 ?_
        refine lv_iload_n hx hb dM_job_123 rfl (lv_at hl 1 rfl) ?_
        refine ialdE (j) hx hb hE.2.2.1 hm 0 hR1.a5 rfl rfl (by have := hR.n200; have := hjn; omega) (by decide) dM_job_124 ?_
        rw [hR1.g5 hjn]
        exact mreti hx hb hr hlk hm ⟨by simp [jobw, ht, bI], hR1, hK1⟩ dM_job_125
      by_cases e_6 : y = 6
      · subst e_6
        refine lv_tableIn (off := 110) (tgt := 126) hx hb dM_job_16 (by decide) (by decide) (by decide) (by decide) ?_
        refine lv_aload_n hx hb dM_job_126 rfl (lv_at hl 0 rfl) ?_
        refine g_M_M_29 (v := .ref (as 6)) hx hb hE hm hR1.1 rfl dM_job_127 ?_
        refine lv_iload_n hx hb dM_job_130 rfl (lv_at hl 1 rfl) ?_
        refine ialdE (j) hx hb hE.2.2.1 hm 0 hR1.a6 rfl rfl (by have := hR.n200; have := hjn; omega) (by decide) dM_job_131 ?_
        rw [hR1.g6 hjn]
        exact mreti hx hb hr hlk hm ⟨by simp [jobw, ht, bI], hR1, hK1⟩ dM_job_132
      by_cases e_7 : y = 7
      · subst e_7
        refine lv_tableIn (off := 117) (tgt := 133) hx hb dM_job_16 (by decide) (by decide) (by decide) (by decide) ?_
        refine lv_aload_n hx hb dM_job_133 rfl (lv_at hl 0 rfl) ?_
        refine g_M_M_32 (v := .ref (as 7)) hx hb hE hm hR1.1 rfl dM_job_134 ?_
        refine lv_iload_n hx hb dM_job_137 rfl (lv_at hl 1 rfl) ?_
        refine baldE (j) hx hb hE.2.2.1 hm 1 hR1.a7 rfl rfl (by have := hR.n200; have := hjn; omega) (by decide) dM_job_138 ?_
        rw [hR1.g7 hjn]
        refine lv_if_eq (tgt := 146) hx hb dM_job_139 (by decide) (fun c_139 => ?_) (fun c_139 => ?_)
        · rw [bI_0] at c_139
          refine lv_iconst (v := 0) hx hb dM_job_146 (by decide) ?_
          exact mreti hx hb hr hlk hm ⟨by simp [jobw, ht, bI, c_139], hR1, hK1⟩ dM_job_147
        · rw [bI_0] at c_139
          refine lv_iconst (v := 1) hx hb dM_job_142 (by decide) ?_
          refine lv_goto (tgt := 147) hx hb dM_job_143 (by decide) ?_
          exact mreti hx hb hr hlk hm ⟨by simp [jobw, ht, bI, c_139], hR1, hK1⟩ dM_job_147
      by_cases e_8 : y = 8
      · subst e_8
        refine lv_tableIn (off := 132) (tgt := 148) hx hb dM_job_16 (by decide) (by decide) (by decide) (by decide) ?_
        refine lv_iconst (v := 0) hx hb dM_job_148 (by decide) ?_
        refine lv_istore_n (lv' := [(3, .int (0)), (0, .ref (r)), (1, .int (nI j)), (2, .int (8))]) hx hb dM_job_149 rfl hl (by decide) rfl (fun ls hl => ?_)
        refine lv_iconst (v := 0) hx hb dM_job_150 (by decide) ?_
        refine lv_istore (lv' := [(4, .int (0)), (3, .int (0)), (0, .ref (r)), (1, .int (nI j)), (2, .int (8))]) hx hb dM_job_151 hl (by decide) rfl (fun ls hl => ?_)
        have loop : ∀ (d i : Nat), i + d = 50 → ∀ (x9 : Int32), x9 = nI (cnt (fun q => decide (jVr (J j) q ≠ -2)) i) → ∀ (H : Heap) (locs : List Loc) (ls : Array Slot), mS B D CLS s.heap w1 H locs → lv_has ls 5 [(4, .int (nI i)), (3, .int (x9)), (0, .ref (r)), (1, .int (nI j)), (2, .int (8))] → W p l e ({ frames := 1, cells := 0, slots := 0, locals := 23 }) s m [.ref (r), .int (nI j), .int (8)].toArray below meth c H locs 0 0 (MQ below (va_Qi (fun z u => z = jobw n J (nI j) 8 ∧ rR cI cZ r as g 0 now n J u ∧ rK r as w u) (mE B D CLS) (fun q => B ≤ q)) [.ref (r), .int (nI j), .int (8)].toArray s 0 0 (fun q => B ≤ q)) (F0 m 153 ls []) := by
          intro d
          induction d with
          | zero =>
            intro i hi x9 hx0 H locs ls hm hl
            refine lv_iload hx hb dM_job_153 (lv_at hl 0 rfl) ?_
            refine lv_bipush (v := 50) hx hb dM_job_155 (by decide) ?_
            refine lv_icmp_ge (tgt := 191) hx hb dM_job_157 (by decide) (fun c_157 => ?_) (fun c_157 => ?_)
            · rw [← Int32.not_lt] at c_157
              refine lv_iload_n hx hb dM_job_191 rfl (lv_at hl 1 rfl) ?_
              exact mreti hx hb hr hlk hm ⟨by rw [hx0, show i = 50 by omega]; simp [jobw, ht], hR1, hK1⟩ dM_job_192
            · exact absurd (nI_le (a := 50) (b := i) (by omega) (by omega)) c_157
          | succ d ih =>
            intro i hi x9 hx0 H locs ls hm hl
            have hiN : i < 50 := by omega
            refine lv_iload hx hb dM_job_153 (lv_at hl 0 rfl) ?_
            refine lv_bipush (v := 50) hx hb dM_job_155 (by decide) ?_
            refine lv_icmp_ge (tgt := 191) hx hb dM_job_157 (by decide) (fun c_157 => ?_) (fun c_157 => ?_)
            · exact absurd c_157 (nI_ge (a := i) (b := 50) (by omega) (by omega))
            · rw [Int32.not_le] at c_157
              refine lv_iload_n hx hb dM_job_160 rfl (lv_at hl 1 rfl) ?_
              refine lv_aload_n hx hb dM_job_161 rfl (lv_at hl 2 rfl) ?_
              refine g_M_M_35 (v := .ref (as 8)) hx hb hE hm hR1.1 rfl dM_job_162 ?_
              refine lv_bipush (v := 50) hx hb dM_job_165 (by decide) ?_
              refine lv_iload_n hx hb dM_job_167 rfl (lv_at hl 3 rfl) ?_
              refine lv_imul hx hb dM_job_168 ?_
              refine lv_iload hx hb dM_job_169 (lv_at hl 0 rfl) ?_
              refine lv_iadd hx hb dM_job_171 ?_
              refine ialdE (50 * j + i) hx hb hE.2.2.1 hm 0 hR1.a8 rfl (i50 rfl) (by omega) (by decide) dM_job_172 ?_
              rw [hR1.g8 hjn hiN]
              refine lv_bipush (v := (-2)) hx hb dM_job_173 (by decide) ?_
              refine lv_icmp_eq (tgt := 182) hx hb dM_job_175 (by decide) (fun c_175 => ?_) (fun c_175 => ?_)
              · refine lv_iconst (v := 0) hx hb dM_job_182 (by decide) ?_
                refine lv_iadd hx hb dM_job_183 ?_
                refine lv_istore_n (lv' := [(3, .int ((x9) + (0))), (4, .int (nI i)), (0, .ref (r)), (1, .int (nI j)), (2, .int (8))]) hx hb dM_job_184 rfl hl (by decide) rfl (fun ls hl => ?_)
                refine lv_iinc (v := nI i + 1) (lv' := [(4, .int (nI i + 1)), (3, .int ((x9) + (0))), (0, .ref (r)), (1, .int (nI j)), (2, .int (8))]) hx hb dM_job_185 hl (k := 1) rfl rfl (by decide) rfl (fun ls hl => ?_)
                refine lv_goto (tgt := 153) hx hb dM_job_188 (by decide) ?_
                rw [nI_1] at hl
                rw [Int32.add_zero] at hl
                exact ih (i + 1) (by omega) x9 (cntU_f hx0 (by simp [c_157, c_175])) H locs ls hm (lv_sub hl [0, 1, 2, 3, 4] rfl)
              · refine lv_iconst (v := 1) hx hb dM_job_178 (by decide) ?_
                refine lv_goto (tgt := 183) hx hb dM_job_179 (by decide) ?_
                refine lv_iadd hx hb dM_job_183 ?_
                refine lv_istore_n (lv' := [(3, .int ((x9) + (1))), (4, .int (nI i)), (0, .ref (r)), (1, .int (nI j)), (2, .int (8))]) hx hb dM_job_184 rfl hl (by decide) rfl (fun ls hl => ?_)
                refine lv_iinc (v := nI i + 1) (lv' := [(4, .int (nI i + 1)), (3, .int ((x9) + (1))), (0, .ref (r)), (1, .int (nI j)), (2, .int (8))]) hx hb dM_job_185 hl (k := 1) rfl rfl (by decide) rfl (fun ls hl => ?_)
                refine lv_goto (tgt := 153) hx hb dM_job_188 (by decide) ?_
                rw [nI_1] at hl
                exact ih (i + 1) (by omega) (x9 + 1) (cntU_t hx0 (by simp [c_157, c_175])) H locs ls hm (lv_sub hl [0, 1, 2, 3, 4] rfl)
        exact loop 50 0 (by omega) 0 rfl _ _ ls hm (by rw [nI_0]; exact lv_sub hl [0, 1, 2, 3, 4] rfl)
      by_cases e_9 : y = 9
      · subst e_9
        refine lv_tableIn (off := 177) (tgt := 193) hx hb dM_job_16 (by decide) (by decide) (by decide) (by decide) ?_
        cases hb0 : jBs (J j) with
        | none =>
          refine lv_aload_n hx hb dM_job_193 rfl (lv_at hl 0 rfl) ?_
          refine g_M_M_20 (v := .ref (as 3)) hx hb hE hm hR1.1 rfl dM_job_194 ?_
          refine lv_iload_n hx hb dM_job_197 rfl (lv_at hl 1 rfl) ?_
          refine ialdE (j) hx hb hE.2.2.1 hm 0 hR1.a3 rfl rfl (by have := hR.n200; have := hjn; omega) (by decide) dM_job_198 ?_
          rw [hR1.g3 hjn]
          rw [hb0]
          show W _ _ _ _ _ _ _ _ _ _ _ _ _ _ _ (F0 m 199 ls [.int (-1)])
          refine lv_if_ge (tgt := 206) hx hb dM_job_199 (by decide) (fun c_199 => ?_) (fun c_199 => ?_)
          · first | exact absurd c_199 (by decide) | exact absurd (by decide) c_199
          · refine lv_iconst (v := (-1)) hx hb dM_job_202 (by decide) ?_
            refine lv_goto (tgt := 217) hx hb dM_job_203 (by decide) ?_
            exact mreti hx hb hr hlk hm ⟨by simp [jobw, ht, bI, hb0], hR1, hK1⟩ dM_job_217
        | some b =>
          refine lv_aload_n hx hb dM_job_193 rfl (lv_at hl 0 rfl) ?_
          refine g_M_M_20 (v := .ref (as 3)) hx hb hE hm hR1.1 rfl dM_job_194 ?_
          refine lv_iload_n hx hb dM_job_197 rfl (lv_at hl 1 rfl) ?_
          refine ialdE (j) hx hb hE.2.2.1 hm 0 hR1.a3 rfl rfl (by have := hR.n200; have := hjn; omega) (by decide) dM_job_198 ?_
          rw [hR1.g3 hjn]
          rw [hb0]
          show W _ _ _ _ _ _ _ _ _ _ _ _ _ _ _ (F0 m 199 ls [.int (nI b)])
          refine lv_if_ge (tgt := 206) hx hb dM_job_199 (by decide) (fun c_199 => ?_) (fun c_199 => ?_)
          · refine lv_aload_n hx hb dM_job_206 rfl (lv_at hl 0 rfl) ?_
            refine g_M_M_23 (v := .ref (as 4)) hx hb hE hm hR1.1 rfl dM_job_207 ?_
            refine lv_aload_n hx hb dM_job_210 rfl (lv_at hl 0 rfl) ?_
            refine g_M_M_20 (v := .ref (as 3)) hx hb hE hm hR1.1 rfl dM_job_211 ?_
            refine lv_iload_n hx hb dM_job_214 rfl (lv_at hl 1 rfl) ?_
            refine ialdE (j) hx hb hE.2.2.1 hm 0 hR1.a3 rfl rfl (by have := hR.n200; have := hjn; omega) (by decide) dM_job_215 ?_
            rw [hR1.g3 hjn]
            rw [hb0]
            show W _ _ _ _ _ _ _ _ _ _ _ _ _ _ _ (F0 m 216 ls [.int (nI b), .ref (as 4)])
            refine ialdE (b) hx hb hE.2.2.1 hm 0 hR1.a4 rfl rfl (by have := hR.n200; have := (Nat.lt_trans (hR.bs hjn hb0) hjn); omega) (by decide) dM_job_216 ?_
            rw [hR1.g4 (Nat.lt_trans (hR.bs hjn hb0) hjn)]
            exact mreti hx hb hr hlk hm ⟨by simp [jobw, ht, bI, hb0], hR1, hK1⟩ dM_job_217
          · exact absurd (nI_pos' (by have := hR.bs hjn hb0; omega)) c_199
      by_cases e_10 : y = 10
      · subst e_10
        refine lv_tableIn (off := 202) (tgt := 218) hx hb dM_job_16 (by decide) (by decide) (by decide) (by decide) ?_
        refine lv_aload_n hx hb dM_job_218 rfl (lv_at hl 0 rfl) ?_
        refine lv_iload_n hx hb dM_job_219 rfl (lv_at hl 1 rfl) ?_
        refine mcalli (mcV (n := 1) (As := [.int (nI j)]) (rest := []) hx hb hml hE (kM_standing l B D cI cZ cL w1 r as g 0 now n J hR1 j hjn) q_409 q_411 qs_14 q_2 q_412 rfl rfl (by decide +kernel) ⟨Nat.le_of_ble_eq_true rfl, Nat.le_of_ble_eq_true rfl⟩ rfl hl.1 hm rfl hR1.1 rfl (Nat.le_of_ble_eq_true rfl) dM_job_220 ⟨Nat.le_of_ble_eq_true rfl, Nat.le_of_ble_eq_true rfl⟩) hm (fun r3 u3 H locs hp3 hm => ?_)
        obtain ⟨hr3, hu3⟩ := hp3
        rw [hu3] at hm
        exact mreti hx hb hr hlk hm ⟨by rw [hr3]; simp [jobw, ht], hR1, hK1⟩ dM_job_223
      refine lv_tableOut (tgt := 224) hx hb dM_job_16 (by have z_0 := lv_neT (k := 0) (a := 0) e_0 (by decide); have z_1 := lv_neT (k := 1) (a := 1) e_1 (by decide); have z_2 := lv_neT (k := 2) (a := 2) e_2 (by decide); have z_3 := lv_neT (k := 3) (a := 3) e_3 (by decide); have z_4 := lv_neT (k := 4) (a := 4) e_4 (by decide); have z_5 := lv_neT (k := 5) (a := 5) e_5 (by decide); have z_6 := lv_neT (k := 6) (a := 6) e_6 (by decide); have z_7 := lv_neT (k := 7) (a := 7) e_7 (by decide); have z_8 := lv_neT (k := 8) (a := 8) e_8 (by decide); have z_9 := lv_neT (k := 9) (a := 9) e_9 (by decide); have z_10 := lv_neT (k := 10) (a := 10) e_10 (by decide); omega) (by decide) ?_
      refine lv_iconst (v := (-1)) hx hb dM_job_224 (by decide) ?_
      exact mreti hx hb hr hlk hm ⟨by simp [jobw, ht, bI, e_0, e_1, e_2, e_3, e_4, e_5, e_6, e_7, e_8, e_9, e_10], hR1, hK1⟩ dM_job_225
    · first | exact absurd c_10 (by decide) | exact absurd (by decide) c_10
end
