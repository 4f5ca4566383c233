section
-- ===== PART A: goes FIRST, ahead of the names: the tables' words, and 'selects' of the private methods out of them =====
/-- a private method of a class that the tables say can be made, by its rows of tables_1 -/
def lw_okq (q : MethodName × Nat) : Prop := (q.1.cls ≠ "java/lang/invoke/MethodHandle" ∧ q.1.cls ≠ "java/lang/invoke/VarHandle") ∧ Cond.instantiable q.1.cls q.2 ∈ tables_1 ∧ Cond.privateMethod q.1 ∈ tables_1 ∧ Cond.instanceMethod q.1 ∈ tables_1
theorem lw_p0 : lw_okq (⟨"Ringtrack$Heads", "placeUnder", "(II)I"⟩, 9) := ⟨⟨by decide +kernel, by decide +kernel⟩, List.mem_of_getElem? (i := 103) (by decide +kernel), List.mem_of_getElem? (i := 182) (by decide +kernel), List.mem_of_getElem? (i := 183) (by decide +kernel)⟩
theorem lw_p1 : lw_okq (⟨"Ringtrack$Heads", "errorAt", "(I)I"⟩, 9) := ⟨⟨by decide +kernel, by decide +kernel⟩, List.mem_of_getElem? (i := 103) (by decide +kernel), List.mem_of_getElem? (i := 186) (by decide +kernel), List.mem_of_getElem? (i := 187) (by decide +kernel)⟩
theorem lw_p2 : lw_okq (⟨"java/lang/Throwable", "fillInStackTrace", "(I)Ljava/lang/Throwable;"⟩, 6) := ⟨⟨by decide +kernel, by decide +kernel⟩, List.mem_of_getElem? (i := 260) (by decide +kernel), List.mem_of_getElem? (i := 258) (by decide +kernel), List.mem_of_getElem? (i := 259) (by decide +kernel)⟩
theorem lw_p3 : lw_okq (⟨"Ringtrack", "typedIsRing", "()Z"⟩, 9) := ⟨⟨by decide +kernel, by decide +kernel⟩, List.mem_of_getElem? (i := 21) (by decide +kernel), List.mem_of_getElem? (i := 316) (by decide +kernel), List.mem_of_getElem? (i := 317) (by decide +kernel)⟩
theorem lw_p4 : lw_okq (⟨"Ringtrack", "keepCode", "([I)I"⟩, 9) := ⟨⟨by decide +kernel, by decide +kernel⟩, List.mem_of_getElem? (i := 21) (by decide +kernel), List.mem_of_getElem? (i := 353) (by decide +kernel), List.mem_of_getElem? (i := 354) (by decide +kernel)⟩
theorem lw_p5 : lw_okq (⟨"Ringtrack", "codeAt", "(I)LRingtrack$Code;"⟩, 9) := ⟨⟨by decide +kernel, by decide +kernel⟩, List.mem_of_getElem? (i := 21) (by decide +kernel), List.mem_of_getElem? (i := 395) (by decide +kernel), List.mem_of_getElem? (i := 396) (by decide +kernel)⟩
theorem lw_p6 : lw_okq (⟨"Ringtrack$Code", "mark", "(II)I"⟩, 3) := ⟨⟨by decide +kernel, by decide +kernel⟩, List.mem_of_getElem? (i := 356) (by decide +kernel), List.mem_of_getElem? (i := 475) (by decide +kernel), List.mem_of_getElem? (i := 476) (by decide +kernel)⟩
theorem lw_p7 : lw_okq (⟨"Ringtrack", "theDisc", "()LRingtrack$Disc;"⟩, 9) := ⟨⟨by decide +kernel, by decide +kernel⟩, List.mem_of_getElem? (i := 21) (by decide +kernel), List.mem_of_getElem? (i := 579) (by decide +kernel), List.mem_of_getElem? (i := 580) (by decide +kernel)⟩
theorem lw_p8 : lw_okq (⟨"Ringtrack$Reading", "isNear", "(III)Z"⟩, 5) := ⟨⟨by decide +kernel, by decide +kernel⟩, List.mem_of_getElem? (i := 494) (by decide +kernel), List.mem_of_getElem? (i := 606) (by decide +kernel), List.mem_of_getElem? (i := 607) (by decide +kernel)⟩
theorem lw_p9 : lw_okq (⟨"Ringtrack$Reading", "tell", "(CII)V"⟩, 5) := ⟨⟨by decide +kernel, by decide +kernel⟩, List.mem_of_getElem? (i := 494) (by decide +kernel), List.mem_of_getElem? (i := 618) (by decide +kernel), List.mem_of_getElem? (i := 619) (by decide +kernel)⟩
theorem lw_p10 : lw_okq (⟨"Ringtrack$Reading", "keepWay", "(I)V"⟩, 5) := ⟨⟨by decide +kernel, by decide +kernel⟩, List.mem_of_getElem? (i := 494) (by decide +kernel), List.mem_of_getElem? (i := 623) (by decide +kernel), List.mem_of_getElem? (i := 624) (by decide +kernel)⟩
theorem lw_p11 : lw_okq (⟨"Ringtrack$Code", "isFirstTrackMoved", "(I)Z"⟩, 3) := ⟨⟨by decide +kernel, by decide +kernel⟩, List.mem_of_getElem? (i := 356) (by decide +kernel), List.mem_of_getElem? (i := 655) (by decide +kernel), List.mem_of_getElem? (i := 656) (by decide +kernel)⟩
theorem lw_p12 : lw_okq (⟨"Ringtrack$Code", "isFirstTrackFrom", "(II)Z"⟩, 3) := ⟨⟨by decide +kernel, by decide +kernel⟩, List.mem_of_getElem? (i := 356) (by decide +kernel), List.mem_of_getElem? (i := 659) (by decide +kernel), List.mem_of_getElem? (i := 660) (by decide +kernel)⟩
def lw_privs_1 : List (MethodName × Nat) := [(⟨"Ringtrack$Heads", "placeUnder", "(II)I"⟩, 9), (⟨"Ringtrack$Heads", "errorAt", "(I)I"⟩, 9), (⟨"java/lang/Throwable", "fillInStackTrace", "(I)Ljava/lang/Throwable;"⟩, 6), (⟨"Ringtrack", "typedIsRing", "()Z"⟩, 9), (⟨"Ringtrack", "keepCode", "([I)I"⟩, 9), (⟨"Ringtrack", "codeAt", "(I)LRingtrack$Code;"⟩, 9), (⟨"Ringtrack$Code", "mark", "(II)I"⟩, 3), (⟨"Ringtrack", "theDisc", "()LRingtrack$Disc;"⟩, 9), (⟨"Ringtrack$Reading", "isNear", "(III)Z"⟩, 5), (⟨"Ringtrack$Reading", "tell", "(CII)V"⟩, 5), (⟨"Ringtrack$Reading", "keepWay", "(I)V"⟩, 5), (⟨"Ringtrack$Code", "isFirstTrackMoved", "(I)Z"⟩, 3), (⟨"Ringtrack$Code", "isFirstTrackFrom", "(II)Z"⟩, 3)]
theorem lw_r1 : ∀ q ∈ lw_privs_1, lw_okq q := List.forall_mem_cons.mpr ⟨lw_p0, List.forall_mem_cons.mpr ⟨lw_p1, List.forall_mem_cons.mpr ⟨lw_p2, List.forall_mem_cons.mpr ⟨lw_p3, List.forall_mem_cons.mpr ⟨lw_p4, List.forall_mem_cons.mpr ⟨lw_p5, List.forall_mem_cons.mpr ⟨lw_p6, List.forall_mem_cons.mpr ⟨lw_p7, List.forall_mem_cons.mpr ⟨lw_p8, List.forall_mem_cons.mpr ⟨lw_p9, List.forall_mem_cons.mpr ⟨lw_p10, List.forall_mem_cons.mpr ⟨lw_p11, List.forall_mem_cons.mpr ⟨lw_p12, fun _ h => absurd h List.not_mem_nil⟩⟩⟩⟩⟩⟩⟩⟩⟩⟩⟩⟩⟩
def lw_privs : List (MethodName × Nat) := lw_privs_1
def lw_tbl : List Cond := k2_sels lw_privs ++ tables_1
theorem lw_privs_ok : ∀ q ∈ lw_privs, lw_okq q := lw_r1
-- ===== end of PART A; then your names; then what follows =====
end
section
/-! ===== BEGIN words of one list among another's, by their places ===== -/
theorem goodIn_r {big : List Cond} (ws : List Cond) (ps : List Nat) (hp : ws = ps.filterMap (fun i => big[i]?)) (h : ws.all goodWord = true) : GoodIn big ws := by
  intro w hw
  have h1 := List.all_eq_true.mp h w hw
  rw [hp] at hw
  obtain ⟨i, -, hi⟩ := List.mem_filterMap.mp hw
  have hm : w ∈ big := by first | exact List.mem_of_getElem? hi | exact List.getElem?_mem hi
  exact ⟨hm, good_of_word h1⟩
theorem goodIn_app {big a b : List Cond} (ha : GoodIn big a) (hb : GoodIn big b) : GoodIn big (a ++ b) := fun w h => (List.mem_append.mp h).elim (ha w) (hb w)
theorem goodIn_ca {big a b : List Cond} {c : Cond} (ha : GoodIn big (c :: a)) (hb : GoodIn big b) : GoodIn big (c :: (a ++ b)) := fun w h => (List.mem_cons.mp h).elim (fun e => ha w (List.mem_cons.mpr (Or.inl e))) (fun h => (List.mem_append.mp h).elim (fun h => ha w (List.mem_cons.mpr (Or.inr h))) (hb w))
theorem goodIn_sub {big ws : List Cond} (hm : ∀ w ∈ ws, w ∈ big) (h : ws.all goodWord = true) : GoodIn big ws := fun w hw => ⟨hm w hw, good_of_word (List.all_eq_true.mp h w hw)⟩
/-! ===== END ===== -/

/-! ===== BEGIN exceptions that leave a method, and their catching by the caller (launches without stack traces) ===== -/
section VXA
/-! The laws vx_back, vx_callV, vx_callS, vx_callSW, vx_throw0, vx_throwS follow proofs of the library, with one case more: JvmDerived/Free/Laws.lean (Back.of_free), Shelf42/LK1.lean (callV, callS), Shelf/KitTraced.lean (throwNew0V, throwNewS). -/
/-- where a method has thrown q: the class by its name, the cell, what was written, the world -/
def vx_T (XC : String → State → State → Prop) (st : State) (q : Addr) (t : State) (mc ms : Nat) (free : Addr → Prop) : Prop :=
  ∃ (E : String) (ce : Cell) (L : List Loc), XC E st t ∧ t.heap[q]? = some ce ∧ ce.vm = .none ∧ st.vm.findClass E = some ce.cls ∧ st.WarmedH t.vm ∧ st.sameButNew ({ t with vm := st.vm } : State) L mc ms ∧ ∀ z ∈ L, free z.base
def vx_Q (Qc : Array Value → State → Outcome → State → Prop) (XC : String → State → State → Prop) (mc ms : Nat) (free : Addr → Prop) : Array Value → State → Outcome → State → Prop := fun a st o t =>
  (Qc a st o t ∧ ∃ L, FrameEnd st o t L mc ms ∧ ∀ q ∈ L, free q.base) ∨ ∃ q, o = .threw q ∧ vx_T XC st q t mc ms free
/-- a callee that returns or throws -/
def vx_Met (l : Launch) (y : MethodName) (ws : List Cond) (rm : Room) (Pc : Array Value → State → Prop) (Qc : Array Value → State → Outcome → State → Prop) (XC : String → State → State → Prop) (mc ms : Nat) (free : Addr → Prop) : Prop :=
  MetFree l y (headSpec ws rm) Pc (fun _ _ _ _ _ => True) (vx_Q Qc XC mc ms free)
def vx_Post (XC : String → State → State → Prop) (mc ms : Nat) (free : Addr → Prop) : Pt → Array Value → Addr → Pt → Prop := fun A a q B =>
  ∃ (g : JFrame) (mk : MethodId) (t : State) (L : List Loc) (E : String) (ce : Cell), B.U.heap = t.heap ∧ B.U.vm = t.vm ∧ XC E (A.U.calling g mk a) t ∧ t.heap[q]? = some ce ∧ ce.vm = .none ∧ A.U.vm.findClass E = some ce.cls ∧ B.locs = A.locs ++ L ∧ (∀ z ∈ L, free z.base) ∧ B.cells = A.cells + mc ∧ B.slots = A.slots + ms
def vx_Back (l : Launch) (R : Room) (p : Program) (e : Env) (below : List Frame) (s : State) (sargs : Array Value) (y : MethodName) (len W9 : Nat)
    (Pre : Pt → Array Value → Prop) (Post : Pt → Array Value → Option Value → Pt → Prop) (PostX : Pt → Array Value → Addr → Pt → Prop) : Prop :=
  ∀ (m : MethodId) (meth : Method) (c : Code) (A : Pt) (g : JFrame) (ig : Instr) (mk : MethodId) (a : Array Value),
    Stand p l e R s m sargs below meth c A.U A.locs A.cells A.slots → g.method = m → g.locals.size = c.maxLocals → decode c.code g.pc = .ok (ig, len) →
    2 * g.monitorRoom + (g.stack.map fun v => v.category).sum ≤ W9 → A.U.methodNamed? y = some mk → Pre A a →
    (∃ (v : Option Value) (B : Pt), Stand p l e R s m sargs below meth c B.U B.locs B.cells B.slots ∧ Post A a v B ∧
      Steps p.tables e below (doInvoke e (A.U.setTop g) [] mk a).1 (B.U.setTop { g with pc := g.pc + len, stack := v.toList ++ g.stack })) ∨
    (∃ (q : Addr) (B : Pt), Stand p l e R s m sargs below meth c B.U B.locs B.cells B.slots ∧ PostX A a q B ∧
      Steps p.tables e below (doInvoke e (A.U.setTop g) [] mk a).1 ((B.U.setTop g).pushFrame (.throwing q)))
section Payer
variable {l : Launch} {R : Room} {p : Program} {e : Env} {below : List Frame} {s : State} {sargs : Array Value} {y : MethodName} {len W9 : Nat}
theorem vx_back {ws : List Cond} {rm : Room} {Pc : Array Value → State → Prop} {Qc : Array Value → State → Outcome → State → Prop} {XC : String → State → State → Prop} {mc ms : Nat} {free : Addr → Prop} {bytes : ByteArray} {maxL : Nat} {ret : Option FieldType}
    (hM : vx_Met l y ws rm Pc Qc XC mc ms free) (hblind : FrameBlind Pc) (hrc : rm.cells = mc) (hrs : rm.slots = ms)
    (hframes : rm.frames + 1 ≤ R.frames) (hlocals : W9 + (maxL + 11) + rm.locals ≤ R.locals)
    (hws : ∀ w ∈ ws, ∀ a' U, s.WarmedH U.vm → w.before a' U = true) (hcode : Cond.code y bytes maxL ret ∈ ws) (hinit : ∀ a' U, s.WarmedH U.vm → (Cond.initialized y.cls).before a' U = true) :
    vx_Back l R p e below s sargs y len W9 (PreOf R mc ms Pc) (PostOf Qc mc ms free) (vx_Post XC mc ms free) := by
  intro m meth c A g ig mk a X hg hsize hdg hW hn hp
  have h1 : (headSpec ws rm).pre.before a A.U = true := atoms_intro fun w hw => hws w hw _ _ X.warmed
  have h2 : (Cond.code y bytes maxL ret).before a A.U = true := hws _ hcode _ _ X.warmed
  have h3 : (Cond.initialized y.cls).before a A.U = true := hinit _ _ X.warmed
  have h4 : A.cells + (headSpec ws rm).room.cells ≤ R.cells := by rw [show (headSpec ws rm).room.cells = mc from hrc]; exact hp.1
  have h5 : A.slots + (headSpec ws rm).room.slots ≤ R.slots := by rw [show (headSpec ws rm).room.slots = ms from hrs]; exact hp.2.1
  have hPc : Pc a (A.U.calling g mk a) := hblind _ _ _ _ hp.2.2
  obtain ⟨U, Ls, c0, s0⟩ := A
  dsimp only [Pt.U, Pt.locs, Pt.cells, Pt.slots] at h1 h2 h3 h4 h5 X hn hPc ⊢
  obtain ⟨methY, cY, hmY, hcY, -, hlY, -, -, -, -⟩ := Cond.code_spec hn h2
  obtain ⟨kY, hkY, -⟩ := className_of_methodNamed hn
  have hinitY : kY.init = .initialized := Cond.initialized_spec (findClass_of_methodNamed hn) hkY h3
  have h : At U g.method c below := by rw [hg]; exact X.here
  have hlocals9 : W9 + (maxL + 11) + (headSpec ws rm).room.locals ≤ R.locals := hlocals
  have happ : (headSpec ws rm).appliesLoose y e.platform (U.calling g mk a) = true :=
    Spec.appliesLoose_calling (g := g) h hdg hn hkY hinitY
      (X.room_calling (g := g) (R' := (headSpec ws rm).room) hsize hmY hcY hframes (by rw [hlY]; omega) h4 h5) h1
  obtain ⟨mid, hmid⟩ := h.above
  have hfr : (U.setTop g).frames = (.java g :: mid) ++ below := by rw [State.frames_setTop' g h.top, hmid]; rfl
  obtain ⟨o, s₂, hsteps, -, hend, hq⟩ := Steps.callFree hM p X.admits X.cas X.clock (acts := []) hfr happ hPc trivial
  have hq' : vx_Q Qc XC mc ms free a (U.calling g mk a) o s₂ := hq
  rw [State.frames_setTop' g h.top] at hend
  obtain ⟨g₀, hg0⟩ := Option.isSome_iff_exists.mp h.top
  obtain ⟨r, hr⟩ := State.topJava?_eq_some.mp hg0
  have hr' : (({ U with heap := s₂.heap, slotsUsed := s₂.slotsUsed } : State).setVm s₂.vm).frames = .java g₀ :: r := hr
  rcases hq' with ⟨hqc, L, hfe, hL⟩ | ⟨q, rfl, E, ce, L, hx, hce, hcv, hcl, hW₂, hsm, hL⟩
  · obtain ⟨⟨v, rfl⟩, hW₂, e2, q2, q3, q4, q5, q6⟩ := id hfe
    have e3 : s₂ = ({ (U.calling g mk a).setFrames s₂.frames with heap := s₂.heap, slotsUsed := s₂.slotsUsed } : State).setVm s₂.vm := by
      have : s₂ = ({ s₂ with vm := (U.calling g mk a).vm } : State).setVm s₂.vm := rfl
      rw [e2] at this
      exact this
    obtain ⟨c₂, i₂, len₂, hc₂, hd₂, hf₂⟩ := hend
    have hW' : U.WarmedH s₂.vm := hW₂
    have hcc : c₂ = c := by
      have h1 : s₂.code? g.method = U.code? g.method := by
        rw [State.code?_eq, State.code?_eq, hW'.alike.method?]
      exact Option.some.inj (hc₂.symm.trans (h1.trans h.code))
    subst hcc
    have hlen : len₂ = len := by rw [hdg] at hd₂; cases hd₂; rfl
    subst hlen
    have hs₂ : s₂ = (({ U with heap := s₂.heap, slotsUsed := s₂.slotsUsed } : State).setVm s₂.vm).setTop { g with pc := g.pc + len₂, stack := v.toList ++ g.stack } := by
      refine e3.trans ?_
      rw [hf₂, State.calling_eq h.top, State.setFrames_setFrames, State.setTop_of_frames _ hr', hr]
      rfl
    have hsame : U.sameButNew ({ U with heap := s₂.heap, slotsUsed := s₂.slotsUsed } : State) L mc ms := by
      refine ⟨?_, q2, q3, q4, q5, q6⟩
      obtain ⟨t, ht, -⟩ := State.frames_cons hr
      show ({ U with heap := s₂.heap, slotsUsed := s₂.slotsUsed } : State) = { U.setFrames U.frames with heap := s₂.heap, slotsUsed := s₂.slotsUsed }
      rw [State.setFrames_self ht]
    subst hg
    refine Or.inl ⟨v, ⟨(({ U with heap := s₂.heap, slotsUsed := s₂.slotsUsed } : State).setVm s₂.vm), Ls ++ L, c0 + mc, s0 + ms⟩,
      ⟨X.admits, X.cas, X.clock, X.frames, X.room, X.hears, X.method, X.code, (X.here.setHeapUsed s₂.heap s₂.slotsUsed).setVm hW'.alike, X.tail, State.WarmedH.trans X.warmed hW', X.limits, X.bytes, X.same.trans (hsame.setVm s.vm)⟩,
      ⟨g, mk, s₂, L, rfl, rfl, hqc, rfl, hL, rfl, rfl⟩, ?_⟩
    show Steps p.tables e below _ ((({ U with heap := s₂.heap, slotsUsed := s₂.slotsUsed } : State).setVm s₂.vm).setTop { g with pc := g.pc + len₂, stack := v.toList ++ g.stack })
    rw [← hs₂]
    exact hsteps
  · obtain ⟨e2, q2, q3, q4, q5, q6⟩ := id hsm
    have e3 : s₂ = ({ (U.calling g mk a).setFrames s₂.frames with heap := s₂.heap, slotsUsed := s₂.slotsUsed } : State).setVm s₂.vm := by
      have : s₂ = ({ s₂ with vm := (U.calling g mk a).vm } : State).setVm s₂.vm := rfl
      rw [e2] at this
      exact this
    have hf₂ : s₂.frames = .throwing q :: .java g :: U.frames.tail := hend
    have hW' : U.WarmedH s₂.vm := hW₂
    have hs₂ : s₂ = ((({ U with heap := s₂.heap, slotsUsed := s₂.slotsUsed } : State).setVm s₂.vm).setTop g).pushFrame (.throwing q) := by
      refine e3.trans ?_
      rw [hf₂, State.calling_eq h.top, State.setFrames_setFrames, State.pushFrame, State.frames_setTop _ hr', State.setTop_of_frames _ hr', State.setFrames_setFrames, hr]
      rfl
    have hsame : U.sameButNew ({ U with heap := s₂.heap, slotsUsed := s₂.slotsUsed } : State) L mc ms := by
      refine ⟨?_, q2, q3, q4, q5, q6⟩
      obtain ⟨t, ht, -⟩ := State.frames_cons hr
      show ({ U with heap := s₂.heap, slotsUsed := s₂.slotsUsed } : State) = { U.setFrames U.frames with heap := s₂.heap, slotsUsed := s₂.slotsUsed }
      rw [State.setFrames_self ht]
    subst hg
    refine Or.inr ⟨q, ⟨(({ U with heap := s₂.heap, slotsUsed := s₂.slotsUsed } : State).setVm s₂.vm), Ls ++ L, c0 + mc, s0 + ms⟩,
      ⟨X.admits, X.cas, X.clock, X.frames, X.room, X.hears, X.method, X.code, (X.here.setHeapUsed s₂.heap s₂.slotsUsed).setVm hW'.alike, X.tail, State.WarmedH.trans X.warmed hW', X.limits, X.bytes, X.same.trans (hsame.setVm s.vm)⟩,
      ⟨g, mk, s₂, L, E, ce, rfl, rfl, hx, hce, hcv, hcl, rfl, hL, rfl, rfl⟩, ?_⟩
    show Steps p.tables e below _ (((({ U with heap := s₂.heap, slotsUsed := s₂.slotsUsed } : State).setVm s₂.vm).setTop g).pushFrame (.throwing q))
    rw [← hs₂]
    exact hsteps
end Payer
section Calls
variable {p : Program} {l : Launch} {e : Env} {R : Room} {s : State} {m : MethodId} {args : Array Value} {below : List Frame} {meth : Method} {c : Code} {T : State} {locs : List Loc} {cells slots : Nat}
theorem vx_callV (X : Stand p l e R s m args below meth c T locs cells slots) (hexec : p.tables.exec = Jvm.exec) {own C : String} {index : Nat} {y : MethodName} {bytes : ByteArray} {maxL : Nat} {ret : Option FieldType}
    (hown : s.vm.findClass own = some m.cls) (hlink : (Cond.methodLink own index y).before args s = true) (hinst : (Cond.instanceMethod y).before args s = true) (hsel : (Cond.selects C y y).before args s = true)
    (hcode : (Cond.code y bytes maxL ret).before args s = true) (hy : y.cls ≠ "java/lang/invoke/MethodHandle" ∧ y.cls ≠ "java/lang/invoke/VarHandle")
    {W9 : Nat} {Pre : Pt → Array Value → Prop} {Post : Pt → Array Value → Option Value → Pt → Prop} {PostX : Pt → Array Value → Addr → Pt → Prop} (hK : vx_Back l R p e below s args y 3 W9 Pre Post PostX)
    {b : Addr} {cellB : Cell} (hcell : T.heap[b]? = some cellB) (hobj : cellB.vm.isStatics = false) (hcls : s.vm.findClass C = some cellB.cls)
    {g : JFrame} (hg : g.method = m) (hsize : g.locals.size = c.maxLocals) {argsL rest : List Value} (hlen : ∀ sig, parseMethodDescriptor y.desc = some sig → argsL.length = sig.parameters.length)
    (hstack : g.stack = argsL.reverse ++ .ref b :: rest) (hW : 2 * g.monitorRoom + (rest.map fun v => v.category).sum ≤ W9) (hdg : decode c.code g.pc = .ok (.invokevirtual index, 3))
    (hpre : ∀ vm₁, s.WarmedH vm₁ → Pre ⟨T.setVm vm₁, locs, cells, slots⟩ (Value.ref b :: argsL).toArray) :
    (∃ (v : Option Value) (vm₁ : Vm) (B : Pt), s.WarmedH vm₁ ∧ Stand p l e R s m args below meth c B.U B.locs B.cells B.slots ∧ Post ⟨T.setVm vm₁, locs, cells, slots⟩ (Value.ref b :: argsL).toArray v B ∧
      ∀ target, Steps p.tables e below (B.U.setTop { g with pc := g.pc + 3, stack := v.toList ++ rest }) target → Steps p.tables e below (T.setTop g) target) ∨
    (∃ (q : Addr) (vm₁ : Vm) (B : Pt), s.WarmedH vm₁ ∧ Stand p l e R s m args below meth c B.U B.locs B.cells B.slots ∧ PostX ⟨T.setVm vm₁, locs, cells, slots⟩ (Value.ref b :: argsL).toArray q B ∧
      Steps p.tables e below (T.setTop g) ((B.U.setTop { g with stack := rest }).pushFrame (.throwing q))) := by
  obtain ⟨mk, methM, hnamed, hmethM, hstM, habM⟩ := Cond.instanceMethod_spec hinst
  obtain ⟨methM', cM, hmethM', -, -, -, -, -, -, hsigM⟩ := Cond.code_spec hnamed hcode
  cases hmethM.symm.trans hmethM'
  obtain ⟨c2, r2, m2, q1, q2, q3, q4, kP, hkP, hkPi⟩ := Cond.selects_spec hsel
  cases hcls.symm.trans q1
  cases (State.methodFound?_of_named hnamed hy).symm.trans q2
  cases hnamed.symm.trans q3
  have hselP : selectMethod e.platform s.vm cellB.cls mk = .method mk := by rw [Launch.admits_selectMethod X.admits]; exact q4
  obtain ⟨vm₁, X₁, hstep₁⟩ := X.invokevirtual hexec hown hlink hnamed hmethM hstM hkP hkPi hy (a := b) (cell := cellB) hcell
    (fun z h => by rw [h] at hobj; cases hobj) hselP hmethM habM hkP hkPi (g := g) hg (argsL := argsL) (rest := rest) (hlen _ hsigM) hstack hdg
  rcases hK m meth c ⟨T.setVm vm₁, locs, cells, slots⟩ { g with stack := rest } (.invokevirtual index) mk (Value.ref b :: argsL).toArray X₁ hg hsize hdg hW (X₁.named hnamed) (hpre vm₁ X₁.warmed) with ⟨v, B, X', hpost, hsteps⟩ | ⟨q, B, X', hpost, hsteps⟩
  · exact Or.inl ⟨v, vm₁, B, X₁.warmed, X', hpost, fun target h => hstep₁ _ fun acts => by rw [doInvoke_state]; exact hsteps.trans h⟩
  · exact Or.inr ⟨q, vm₁, B, X₁.warmed, X', hpost, hstep₁ _ fun acts => by rw [doInvoke_state]; exact hsteps⟩
theorem vx_callS (X : Stand p l e R s m args below meth c T locs cells slots) (hexec : p.tables.exec = Jvm.exec) {own : String} {index : Nat} {y : MethodName} {bytes : ByteArray} {maxL : Nat} {ret : Option FieldType}
    (hown : s.vm.findClass own = some m.cls) (hlink : (Cond.methodLink own index y).before args s = true) (hstat : (Cond.static y).before args s = true) (hinit : (Cond.initialized y.cls).before args s = true)
    (hcode : (Cond.code y bytes maxL ret).before args s = true) (hy : y.cls ≠ "java/lang/invoke/MethodHandle" ∧ y.cls ≠ "java/lang/invoke/VarHandle")
    {W9 : Nat} {Pre : Pt → Array Value → Prop} {Post : Pt → Array Value → Option Value → Pt → Prop} {PostX : Pt → Array Value → Addr → Pt → Prop} (hK : vx_Back l R p e below s args y 3 W9 Pre Post PostX)
    {g : JFrame} (hg : g.method = m) (hsize : g.locals.size = c.maxLocals) {argsL rest : List Value} (hlen : ∀ sig, parseMethodDescriptor y.desc = some sig → argsL.length = sig.parameters.length)
    (hstack : g.stack = argsL.reverse ++ rest) (hW : 2 * g.monitorRoom + (rest.map fun v => v.category).sum ≤ W9) (hdg : decode c.code g.pc = .ok (.invokestatic index, 3))
    (hpre : ∀ vm₁, s.WarmedH vm₁ → Pre ⟨T.setVm vm₁, locs, cells, slots⟩ argsL.toArray) :
    (∃ (v : Option Value) (vm₁ : Vm) (B : Pt), s.WarmedH vm₁ ∧ Stand p l e R s m args below meth c B.U B.locs B.cells B.slots ∧ Post ⟨T.setVm vm₁, locs, cells, slots⟩ argsL.toArray v B ∧
      ∀ target, Steps p.tables e below (B.U.setTop { g with pc := g.pc + 3, stack := v.toList ++ rest }) target → Steps p.tables e below (T.setTop g) target) ∨
    (∃ (q : Addr) (vm₁ : Vm) (B : Pt), s.WarmedH vm₁ ∧ Stand p l e R s m args below meth c B.U B.locs B.cells B.slots ∧ PostX ⟨T.setVm vm₁, locs, cells, slots⟩ argsL.toArray q B ∧
      Steps p.tables e below (T.setTop g) ((B.U.setTop { g with stack := rest }).pushFrame (.throwing q))) := by
  obtain ⟨mk, hnamed⟩ := Cond.code_named hcode
  obtain ⟨methM, cM, hmethM, -, -, -, -, -, -, hsigM⟩ := Cond.code_spec hnamed hcode
  have hstatic : methM.isStatic = true := Cond.static_spec hnamed hmethM hstat
  obtain ⟨kP, hkP, -⟩ := className_of_methodNamed hnamed
  have hinitP : kP.init = .initialized := Cond.initialized_spec (findClass_of_methodNamed hnamed) hkP hinit
  obtain ⟨vm₁, X₁, hstep₁⟩ := X.invokestatic hexec hown hlink hnamed hmethM hstatic hkP hinitP hy (g := g) hg (argsL := argsL) (rest := rest) (hlen _ hsigM) hstack hdg
  rcases hK m meth c ⟨T.setVm vm₁, locs, cells, slots⟩ { g with stack := rest } (.invokestatic index) mk argsL.toArray X₁ hg hsize hdg hW (X₁.named hnamed) (hpre vm₁ X₁.warmed) with ⟨v, B, X', hpost, hsteps⟩ | ⟨q, B, X', hpost, hsteps⟩
  · exact Or.inl ⟨v, vm₁, B, X₁.warmed, X', hpost, fun target h => hstep₁ _ fun acts => by rw [doInvoke_state]; exact hsteps.trans h⟩
  · exact Or.inr ⟨q, vm₁, B, X₁.warmed, X', hpost, hstep₁ _ fun acts => by rw [doInvoke_state]; exact hsteps⟩
end Calls
theorem vx_cls {s : State} {T : State} {vm₁ : Vm} {E : String} {k : ClassId} (hW : s.WarmedH vm₁) (h : (T.setVm vm₁).vm.findClass E = some k) : s.vm.findClass E = some k := by
  have h1 : vm₁.findClass E = some k := h
  rw [hW.alike.findClass] at h1
  exact h1
/-- the method's frame g, with q thrown over it -/
def vx_W (p : Program) (l : Launch) (e : Env) (R : Room) (s : State) (m : MethodId) (args : Array Value) (below : List Frame) (meth : Method) (c : Code) (H : Heap) (locs : List Loc) (cells slots : Nat) (Q : State → Prop) (g : JFrame) (q : Addr) : Prop :=
  ∀ T : State, T.heap = H → Stand p l e R s m args below meth c T locs cells slots → ∃ t, Steps p.tables e below ((T.setTop g).pushFrame (.throwing q)) t ∧ Q t
def vx_Run (p : Program) (l : Launch) (e : Env) (R : Room) (s : State) (m : MethodId) (args : Array Value) (below : List Frame) (meth : Method) (c : Code) (H : Heap) (locs : List Loc) (cells slots mc ms : Nat) (g : JFrame) (rest : List Value) (Qa : State → Outcome → State → Prop) (XC : String → State → State → Prop) (free : Addr → Prop) : Prop :=
  ∀ T : State, T.heap = H → Stand p l e R s m args below meth c T locs cells slots →
    (∃ (v : Option Value) (st₀ t T' : State) (L : List Loc), st₀.heap = H ∧ Stand p l e R s m args below meth c T' (locs ++ L) (cells + mc) (slots + ms) ∧ (∀ q ∈ L, free q.base) ∧ T'.heap = t.heap ∧ T'.vm = t.vm ∧ Qa st₀ (.returned v) t ∧
      Goes p e below T g T' { g with pc := g.pc + 3, stack := v.toList ++ rest }) ∨
    (∃ (q : Addr) (st₀ t T' : State) (L : List Loc) (E : String) (ce : Cell), st₀.heap = H ∧ Stand p l e R s m args below meth c T' (locs ++ L) (cells + mc) (slots + ms) ∧ (∀ z ∈ L, free z.base) ∧ T'.heap = t.heap ∧ T'.vm = t.vm ∧ XC E st₀ t ∧ t.heap[q]? = some ce ∧ ce.vm = .none ∧ s.vm.findClass E = some ce.cls ∧
      Steps p.tables e below (T.setTop g) ((T'.setTop { g with stack := rest }).pushFrame (.throwing q)))
def vx_X {S : Type} (px : S → Prop) (B : String → S → State → Prop) (A : Nat → Prop) : String → State → State → Prop := fun E st t => ∃ u : S, px u ∧ B E u t ∧ va_F A st t
section Runs
variable {p : Program} {l : Launch} {e : Env} {R : Room} {s : State} {m : MethodId} {args : Array Value} {below : List Frame} {meth : Method} {c : Code} {H : Heap} {locs : List Loc} {cells slots : Nat}
variable {y : MethodName} {bytes cc : ByteArray} {maxL nL mc ms n index : Nat} {ret : Option FieldType} {ws : List Cond} {rm : Room} {Pc : Array Value → State → Prop} {Qc : Array Value → State → Outcome → State → Prop} {XC : String → State → State → Prop} {free : Addr → Prop} {Ts : List Cond} {own C : String} {b : Addr} {As rest : List Value} {g : JFrame}
theorem vx_callBack (cb : CallB R s args own index y bytes maxL ret ws rm mc ms n) (hM : vx_Met l y ws rm Pc Qc XC mc ms free) (hbl : FrameBlind Pc) : vx_Back l R p e below s args y 3 8 (PreOf R mc ms Pc) (PostOf Qc mc ms free) (vx_Post XC mc ms free) := by
  obtain ⟨hrc, hrs, hfr, hlo, hws, hcw, -, hini, -⟩ := cb
  exact vx_back (bytes := bytes) (maxL := maxL) (ret := ret) hM hbl hrc hrs hfr hlo hws hcw (fun a' U hW => word_at hW (Or.inl (by first | rfl | simp [Cond.onTables, Cond.keeps, Cond.steady])) hini)
theorem vx_runV (S : CallFix p m c cc nL s args Ts own) (hM : vx_Met l y ws rm Pc Qc XC mc ms free) (cw : CallW R s args own C index y bytes maxL ret ws rm mc ms n) (hp : PreV s H C b Pc As)
    (hg : g.method = m) (hn : As.length = n) (hsize : g.locals.size = nL) (hstack : g.stack = As.reverse ++ .ref b :: rest) (hW : 2 * g.monitorRoom + (rest.map fun v => v.category).sum ≤ 8) (hdg : decode cc g.pc = .ok (.invokevirtual index, 3)) (hf : cells + mc ≤ R.cells ∧ slots + ms ≤ R.slots) :
    vx_Run p l e R s m args below meth c H locs cells slots mc ms g rest (Qc (Value.ref b :: As).toArray) XC free := by
  have hK : vx_Back l R p e below s args y 3 8 (PreOf R mc ms Pc) (PostOf Qc mc ms free) (vx_Post XC mc ms free) := vx_callBack cw.1 hM hp.1
  obtain ⟨⟨-, -, -, -, -, -, hcode, -, hy, hlen, hl⟩, hin, hse⟩ := cw
  obtain ⟨hx, hb, hml, ho, -⟩ := S
  obtain ⟨-, ⟨cellB, hcB, hoB, hclB⟩, hPc⟩ := hp
  intro T hT X
  rcases vx_callV X hx (C := C) (bytes := bytes) (maxL := maxL) (ret := ret) ho hl hin hse hcode hy hK (by rw [hT]; exact hcB) hoB hclB hg (hsize.trans hml.symm) (argsL := As) (rest := rest) (fun sig h => hn.trans (hlen sig h)) hstack hW (by rw [hb]; exact hdg)
    (fun vm₁ hW₁ => ⟨hf.1, hf.2, hPc (T.setVm vm₁) hT hW₁⟩) with ⟨v, vm₁, ⟨U', l2, c2, s2⟩, hW₁, X', ⟨g', mk, t, L, e1, e2, hq, h1, hL, h2, h3⟩, st⟩ | ⟨q, vm₁, ⟨U', l2, c2, s2⟩, hW₁, X', ⟨g', mk, t, L, E, ce, e1, e2, hq, hce, hcv, hcl, h1, hL, h2, h3⟩, st⟩
  · dsimp only [Pt.U, Pt.locs, Pt.cells, Pt.slots] at X' e1 e2 h1 h2 h3 st
    subst h1; subst h2; subst h3
    exact Or.inl ⟨v, (T.setVm vm₁).calling g' mk (Value.ref b :: As).toArray, t, U', L, hT, X', hL, e1, e2, hq, st⟩
  · dsimp only [Pt.U, Pt.locs, Pt.cells, Pt.slots] at X' e1 e2 h1 h2 h3 st hcl
    subst h1; subst h2; subst h3
    exact Or.inr ⟨q, (T.setVm vm₁).calling g' mk (Value.ref b :: As).toArray, t, U', L, E, ce, hT, X', hL, e1, e2, hq, hce, hcv, vx_cls hW₁ hcl, st⟩
theorem vx_runS (S : CallFix p m c cc nL s args Ts own) (hM : vx_Met l y ws rm Pc Qc XC mc ms free) (cw : CallB R s args own index y bytes maxL ret ws rm mc ms n ∧ (Cond.static y).before args s = true) (hp : PreS s H Pc As)
    (hg : g.method = m) (hn : As.length = n) (hsize : g.locals.size = nL) (hstack : g.stack = As.reverse ++ rest) (hW : 2 * g.monitorRoom + (rest.map fun v => v.category).sum ≤ 8) (hdg : decode cc g.pc = .ok (.invokestatic index, 3)) (hf : cells + mc ≤ R.cells ∧ slots + ms ≤ R.slots) :
    vx_Run p l e R s m args below meth c H locs cells slots mc ms g rest (Qc As.toArray) XC free := by
  have hK : vx_Back l R p e below s args y 3 8 (PreOf R mc ms Pc) (PostOf Qc mc ms free) (vx_Post XC mc ms free) := vx_callBack cw.1 hM hp.1
  obtain ⟨⟨-, -, -, -, -, -, hcode, hini, hy, hlen, hl⟩, hstt⟩ := cw
  obtain ⟨hx, hb, hml, ho, -⟩ := S
  intro T hT X
  rcases vx_callS X hx (bytes := bytes) (maxL := maxL) (ret := ret) ho hl hstt hini hcode hy hK hg (hsize.trans hml.symm) (argsL := As) (rest := rest) (fun sig h => hn.trans (hlen sig h)) hstack hW (by rw [hb]; exact hdg)
    (fun vm₁ hW₁ => ⟨hf.1, hf.2, hp.2 (T.setVm vm₁) hT hW₁⟩) with ⟨v, vm₁, ⟨U', l2, c2, s2⟩, hW₁, X', ⟨g', mk, t, L, e1, e2, hq, h1, hL, h2, h3⟩, st⟩ | ⟨q, vm₁, ⟨U', l2, c2, s2⟩, hW₁, X', ⟨g', mk, t, L, E, ce, e1, e2, hq, hce, hcv, hcl, h1, hL, h2, h3⟩, st⟩
  · dsimp only [Pt.U, Pt.locs, Pt.cells, Pt.slots] at X' e1 e2 h1 h2 h3 st
    subst h1; subst h2; subst h3
    exact Or.inl ⟨v, (T.setVm vm₁).calling g' mk As.toArray, t, U', L, hT, X', hL, e1, e2, hq, st⟩
  · dsimp only [Pt.U, Pt.locs, Pt.cells, Pt.slots] at X' e1 e2 h1 h2 h3 st hcl
    subst h1; subst h2; subst h3
    exact Or.inr ⟨q, (T.setVm vm₁).calling g' mk As.toArray, t, U', L, E, ce, hT, X', hL, e1, e2, hq, hce, hcv, vx_cls hW₁ hcl, st⟩
end Runs
section Rows
variable {p : Program} {l : Launch} {e : Env} {R : Room} {s : State} {m : MethodId} {args : Array Value} {below : List Frame} {meth : Method} {c : Code} {H : Heap} {locs : List Loc} {cells slots : Nat} {Q : State → Prop}
variable {mc ms : Nat} {free : Addr → Prop} {A0 A1 : Nat → Prop} {H0 : Heap} {a : Array Value} {pc : Nat} {ls : Array Slot} {st0 rest : List Value}
theorem vx_keep {st₀ t T' : State} {L : List Loc} (h0 : st₀.heap = H) (e1 : T'.heap = t.heap) (hS : va_S A0 H0 H locs) (hA : ∀ q, q < H.size → A1 q → A0 q) (hf : ∀ q, free q → A0 q) (hL : ∀ q ∈ L, free q.base) (hF : va_F A1 st₀ t) :
    H.size ≤ T'.heap.size ∧ (∀ q : Nat, q < H.size → ¬ A1 q → T'.heap[q]? = H[q]?) ∧ va_S A0 H0 T'.heap (locs ++ L) := by
  obtain ⟨hz, hk⟩ := hF
  rw [h0] at hz hk
  exact ⟨by rw [e1]; exact hz, fun q h1 h2 => by rw [e1]; exact hk q h1 h2,
    ⟨Nat.le_trans hS.1 (by rw [e1]; exact hz), fun q h1 h2 => by rw [e1, hk q (Nat.lt_of_lt_of_le h1 hS.1) (fun z => h2 (hA q (Nat.lt_of_lt_of_le h1 hS.1) z))]; exact hS.2.1 q h1 h2, fun q hq => by
      rcases List.mem_append.mp hq with h | h
      · exact hS.2.2 q h
      · exact hf _ (hL q h)⟩⟩
theorem vx_calli {S SX : Type} {post : Int32 → S → Prop} {px : SX → Prop} {B : S → State → Prop} {BX : String → SX → State → Prop} {AX : Nat → Prop} (hr : vx_Run p l e R s m args below meth c H locs cells slots mc ms (F0 m pc ls st0) rest (va_Qi post B A1 a) (vx_X px BX AX) free) (hS : va_S A0 H0 H locs) (hA : ∀ q, q < H.size → A1 q → A0 q) (hf : ∀ q, free q → A0 q) (hAX : ∀ q, q < H.size → AX q → A0 q)
    (kx : ∀ (E : String) (ce : Cell) (q9 : Addr) (u : SX) (t : State) (H1 : Heap) (locs1 : List Loc), t.heap = H1 → s.vm.Alike t.vm → px u → BX E u t → H.size ≤ H1.size → (∀ q : Nat, q < H.size → ¬ AX q → H1[q]? = H[q]?) → va_S A0 H0 H1 locs1 → H1[q9]? = some ce → ce.vm = .none → s.vm.findClass E = some ce.cls → vx_W p l e R s m args below meth c H1 locs1 (cells + mc) (slots + ms) Q (F0 m pc ls rest) q9)
    (kk : ∀ (r : Int32) (u : S) (t : State) (H1 : Heap) (locs1 : List Loc), t.heap = H1 → s.vm.Alike t.vm → post r u → B u t → H.size ≤ H1.size → (∀ q : Nat, q < H.size → ¬ A1 q → H1[q]? = H[q]?) → va_S A0 H0 H1 locs1 → W p l e R s m args below meth c H1 locs1 (cells + mc) (slots + ms) Q (F0 m (pc + 3) ls (.int r :: rest))) : W p l e R s m args below meth c H locs cells slots Q (F0 m pc ls st0) := by
  intro T hT X
  rcases hr T hT X with ⟨v, st₀, t, T', L, h0, X', hL, e1, e2, ⟨⟨r, u, hv, hp, hb⟩, hF⟩, st⟩ | ⟨q, st₀, t, T', L, E, ce, h0, X', hL, e1, e2, ⟨u, hp, hb, hF⟩, hce, hcv, hcl, st⟩
  · cases hv
    obtain ⟨k1, k2, k3⟩ := vx_keep h0 e1 hS hA hf hL hF
    obtain ⟨t2, a1, b1⟩ := kk r u t T'.heap (locs ++ L) e1.symm (by rw [← e2]; exact X'.warmed.alike) hp hb k1 k2 k3 T' rfl X'
    exact ⟨t2, st t2 a1, b1⟩
  · obtain ⟨k1, k2, k3⟩ := vx_keep h0 e1 hS hAX hf hL hF
    obtain ⟨t2, a1, b1⟩ := kx E ce q u t T'.heap (locs ++ L) e1.symm (by rw [← e2]; exact X'.warmed.alike) hp hb k1 k2 k3 (by rw [e1]; exact hce) hcv hcl T' rfl X'
    exact ⟨t2, st.trans a1, b1⟩
theorem vx_calll {S SX : Type} {post : Int64 → S → Prop} {px : SX → Prop} {B : S → State → Prop} {BX : String → SX → State → Prop} {AX : Nat → Prop} (hr : vx_Run p l e R s m args below meth c H locs cells slots mc ms (F0 m pc ls st0) rest (va_Ql post B A1 a) (vx_X px BX AX) free) (hS : va_S A0 H0 H locs) (hA : ∀ q, q < H.size → A1 q → A0 q) (hf : ∀ q, free q → A0 q) (hAX : ∀ q, q < H.size → AX q → A0 q)
    (kx : ∀ (E : String) (ce : Cell) (q9 : Addr) (u : SX) (t : State) (H1 : Heap) (locs1 : List Loc), t.heap = H1 → s.vm.Alike t.vm → px u → BX E u t → H.size ≤ H1.size → (∀ q : Nat, q < H.size → ¬ AX q → H1[q]? = H[q]?) → va_S A0 H0 H1 locs1 → H1[q9]? = some ce → ce.vm = .none → s.vm.findClass E = some ce.cls → vx_W p l e R s m args below meth c H1 locs1 (cells + mc) (slots + ms) Q (F0 m pc ls rest) q9)
    (kk : ∀ (r : Int64) (u : S) (t : State) (H1 : Heap) (locs1 : List Loc), t.heap = H1 → s.vm.Alike t.vm → post r u → B u t → H.size ≤ H1.size → (∀ q : Nat, q < H.size → ¬ A1 q → H1[q]? = H[q]?) → va_S A0 H0 H1 locs1 → W p l e R s m args below meth c H1 locs1 (cells + mc) (slots + ms) Q (F0 m (pc + 3) ls (.long r :: rest))) : W p l e R s m args below meth c H locs cells slots Q (F0 m pc ls st0) := by
  intro T hT X
  rcases hr T hT X with ⟨v, st₀, t, T', L, h0, X', hL, e1, e2, ⟨⟨r, u, hv, hp, hb⟩, hF⟩, st⟩ | ⟨q, st₀, t, T', L, E, ce, h0, X', hL, e1, e2, ⟨u, hp, hb, hF⟩, hce, hcv, hcl, st⟩
  · cases hv
    obtain ⟨k1, k2, k3⟩ := vx_keep h0 e1 hS hA hf hL hF
    obtain ⟨t2, a1, b1⟩ := kk r u t T'.heap (locs ++ L) e1.symm (by rw [← e2]; exact X'.warmed.alike) hp hb k1 k2 k3 T' rfl X'
    exact ⟨t2, st t2 a1, b1⟩
  · obtain ⟨k1, k2, k3⟩ := vx_keep h0 e1 hS hAX hf hL hF
    obtain ⟨t2, a1, b1⟩ := kx E ce q u t T'.heap (locs ++ L) e1.symm (by rw [← e2]; exact X'.warmed.alike) hp hb k1 k2 k3 (by rw [e1]; exact hce) hcv hcl T' rfl X'
    exact ⟨t2, st.trans a1, b1⟩
theorem vx_callf {S SX : Type} {post : UInt32 → S → Prop} {px : SX → Prop} {B : S → State → Prop} {BX : String → SX → State → Prop} {AX : Nat → Prop} (hr : vx_Run p l e R s m args below meth c H locs cells slots mc ms (F0 m pc ls st0) rest (va_Qf post B A1 a) (vx_X px BX AX) free) (hS : va_S A0 H0 H locs) (hA : ∀ q, q < H.size → A1 q → A0 q) (hf : ∀ q, free q → A0 q) (hAX : ∀ q, q < H.size → AX q → A0 q)
    (kx : ∀ (E : String) (ce : Cell) (q9 : Addr) (u : SX) (t : State) (H1 : Heap) (locs1 : List Loc), t.heap = H1 → s.vm.Alike t.vm → px u → BX E u t → H.size ≤ H1.size → (∀ q : Nat, q < H.size → ¬ AX q → H1[q]? = H[q]?) → va_S A0 H0 H1 locs1 → H1[q9]? = some ce → ce.vm = .none → s.vm.findClass E = some ce.cls → vx_W p l e R s m args below meth c H1 locs1 (cells + mc) (slots + ms) Q (F0 m pc ls rest) q9)
    (kk : ∀ (r : UInt32) (u : S) (t : State) (H1 : Heap) (locs1 : List Loc), t.heap = H1 → s.vm.Alike t.vm → post r u → B u t → H.size ≤ H1.size → (∀ q : Nat, q < H.size → ¬ A1 q → H1[q]? = H[q]?) → va_S A0 H0 H1 locs1 → W p l e R s m args below meth c H1 locs1 (cells + mc) (slots + ms) Q (F0 m (pc + 3) ls (.float r :: rest))) : W p l e R s m args below meth c H locs cells slots Q (F0 m pc ls st0) := by
  intro T hT X
  rcases hr T hT X with ⟨v, st₀, t, T', L, h0, X', hL, e1, e2, ⟨⟨r, u, hv, hp, hb⟩, hF⟩, st⟩ | ⟨q, st₀, t, T', L, E, ce, h0, X', hL, e1, e2, ⟨u, hp, hb, hF⟩, hce, hcv, hcl, st⟩
  · cases hv
    obtain ⟨k1, k2, k3⟩ := vx_keep h0 e1 hS hA hf hL hF
    obtain ⟨t2, a1, b1⟩ := kk r u t T'.heap (locs ++ L) e1.symm (by rw [← e2]; exact X'.warmed.alike) hp hb k1 k2 k3 T' rfl X'
    exact ⟨t2, st t2 a1, b1⟩
  · obtain ⟨k1, k2, k3⟩ := vx_keep h0 e1 hS hAX hf hL hF
    obtain ⟨t2, a1, b1⟩ := kx E ce q u t T'.heap (locs ++ L) e1.symm (by rw [← e2]; exact X'.warmed.alike) hp hb k1 k2 k3 (by rw [e1]; exact hce) hcv hcl T' rfl X'
    exact ⟨t2, st.trans a1, b1⟩
theorem vx_calld {S SX : Type} {post : UInt64 → S → Prop} {px : SX → Prop} {B : S → State → Prop} {BX : String → SX → State → Prop} {AX : Nat → Prop} (hr : vx_Run p l e R s m args below meth c H locs cells slots mc ms (F0 m pc ls st0) rest (va_Qd post B A1 a) (vx_X px BX AX) free) (hS : va_S A0 H0 H locs) (hA : ∀ q, q < H.size → A1 q → A0 q) (hf : ∀ q, free q → A0 q) (hAX : ∀ q, q < H.size → AX q → A0 q)
    (kx : ∀ (E : String) (ce : Cell) (q9 : Addr) (u : SX) (t : State) (H1 : Heap) (locs1 : List Loc), t.heap = H1 → s.vm.Alike t.vm → px u → BX E u t → H.size ≤ H1.size → (∀ q : Nat, q < H.size → ¬ AX q → H1[q]? = H[q]?) → va_S A0 H0 H1 locs1 → H1[q9]? = some ce → ce.vm = .none → s.vm.findClass E = some ce.cls → vx_W p l e R s m args below meth c H1 locs1 (cells + mc) (slots + ms) Q (F0 m pc ls rest) q9)
    (kk : ∀ (r : UInt64) (u : S) (t : State) (H1 : Heap) (locs1 : List Loc), t.heap = H1 → s.vm.Alike t.vm → post r u → B u t → H.size ≤ H1.size → (∀ q : Nat, q < H.size → ¬ A1 q → H1[q]? = H[q]?) → va_S A0 H0 H1 locs1 → W p l e R s m args below meth c H1 locs1 (cells + mc) (slots + ms) Q (F0 m (pc + 3) ls (.double r :: rest))) : W p l e R s m args below meth c H locs cells slots Q (F0 m pc ls st0) := by
  intro T hT X
  rcases hr T hT X with ⟨v, st₀, t, T', L, h0, X', hL, e1, e2, ⟨⟨r, u, hv, hp, hb⟩, hF⟩, st⟩ | ⟨q, st₀, t, T', L, E, ce, h0, X', hL, e1, e2, ⟨u, hp, hb, hF⟩, hce, hcv, hcl, st⟩
  · cases hv
    obtain ⟨k1, k2, k3⟩ := vx_keep h0 e1 hS hA hf hL hF
    obtain ⟨t2, a1, b1⟩ := kk r u t T'.heap (locs ++ L) e1.symm (by rw [← e2]; exact X'.warmed.alike) hp hb k1 k2 k3 T' rfl X'
    exact ⟨t2, st t2 a1, b1⟩
  · obtain ⟨k1, k2, k3⟩ := vx_keep h0 e1 hS hAX hf hL hF
    obtain ⟨t2, a1, b1⟩ := kx E ce q u t T'.heap (locs ++ L) e1.symm (by rw [← e2]; exact X'.warmed.alike) hp hb k1 k2 k3 (by rw [e1]; exact hce) hcv hcl T' rfl X'
    exact ⟨t2, st.trans a1, b1⟩
theorem vx_callv {S SX : Type} {post : S → Prop} {px : SX → Prop} {B : S → State → Prop} {BX : String → SX → State → Prop} {AX : Nat → Prop} (hr : vx_Run p l e R s m args below meth c H locs cells slots mc ms (F0 m pc ls st0) rest (va_Qv post B A1 a) (vx_X px BX AX) free) (hS : va_S A0 H0 H locs) (hA : ∀ q, q < H.size → A1 q → A0 q) (hf : ∀ q, free q → A0 q) (hAX : ∀ q, q < H.size → AX q → A0 q)
    (kx : ∀ (E : String) (ce : Cell) (q9 : Addr) (u : SX) (t : State) (H1 : Heap) (locs1 : List Loc), t.heap = H1 → s.vm.Alike t.vm → px u → BX E u t → H.size ≤ H1.size → (∀ q : Nat, q < H.size → ¬ AX q → H1[q]? = H[q]?) → va_S A0 H0 H1 locs1 → H1[q9]? = some ce → ce.vm = .none → s.vm.findClass E = some ce.cls → vx_W p l e R s m args below meth c H1 locs1 (cells + mc) (slots + ms) Q (F0 m pc ls rest) q9)
    (kk : ∀ (u : S) (t : State) (H1 : Heap) (locs1 : List Loc), t.heap = H1 → s.vm.Alike t.vm → post u → B u t → H.size ≤ H1.size → (∀ q : Nat, q < H.size → ¬ A1 q → H1[q]? = H[q]?) → va_S A0 H0 H1 locs1 → W p l e R s m args below meth c H1 locs1 (cells + mc) (slots + ms) Q (F0 m (pc + 3) ls (rest))) : W p l e R s m args below meth c H locs cells slots Q (F0 m pc ls st0) := by
  intro T hT X
  rcases hr T hT X with ⟨v, st₀, t, T', L, h0, X', hL, e1, e2, ⟨⟨u, hv, hp, hb⟩, hF⟩, st⟩ | ⟨q, st₀, t, T', L, E, ce, h0, X', hL, e1, e2, ⟨u, hp, hb, hF⟩, hce, hcv, hcl, st⟩
  · cases hv
    obtain ⟨k1, k2, k3⟩ := vx_keep h0 e1 hS hA hf hL hF
    obtain ⟨t2, a1, b1⟩ := kk u t T'.heap (locs ++ L) e1.symm (by rw [← e2]; exact X'.warmed.alike) hp hb k1 k2 k3 T' rfl X'
    exact ⟨t2, st t2 a1, b1⟩
  · obtain ⟨k1, k2, k3⟩ := vx_keep h0 e1 hS hAX hf hL hF
    obtain ⟨t2, a1, b1⟩ := kx E ce q u t T'.heap (locs ++ L) e1.symm (by rw [← e2]; exact X'.warmed.alike) hp hb k1 k2 k3 (by rw [e1]; exact hce) hcv hcl T' rfl X'
    exact ⟨t2, st.trans a1, b1⟩
/-- caught by the row x of this method's table; the rows ahead don't take it -/
theorem vx_catch {own name : String} {E : String} {ce : Cell} {q : Addr} (hown : s.vm.findClass own = some m.cls) (pre : List ExceptionTableEntry) (x : ExceptionTableEntry) (suf : List ExceptionTableEntry) (hsplit : c.exceptionTable.toList = pre ++ x :: suf)
    (hpass : ∀ z ∈ pre, covers z pc = false ∨ (z.catchType ≠ 0 ∧ ∃ nm : String, (Cond.classLink own z.catchType nm).before args s = true ∧ va_Nc E nm s)) (hx : covers x pc = true) (h0 : x.catchType ≠ 0)
    (hlink : (Cond.classLink own x.catchType name).before args s = true) (hcast : (Cond.castable E name).before args s = true) (hcell : H[q]? = some ce) (hv : ce.vm = .none) (hcl : s.vm.findClass E = some ce.cls)
    (kk : W p l e R s m args below meth c H locs cells slots Q (F0 m x.handlerPc ls [.ref q])) : vx_W p l e R s m args below meth c H locs cells slots Q (F0 m pc ls rest) q := by
  intro T hT X
  have hpl : e.platform.magicAccessors = ({} : Platform).magicAccessors := by rw [X.admits.platform]
  obtain ⟨c3, c4, hc3, hc4, hasg⟩ := Cond.castable_spec hcast
  cases Option.some.inj (hc3.symm.trans hcl)
  obtain ⟨c5, hc5, hcl5⟩ := Cond.classLink_spec hown hlink e.platform hpl
  cases Option.some.inj (hc4.symm.trans hc5)
  obtain ⟨vm', X', st⟩ := X.thenCaughtThrough q (g := F0 m pc ls rest) rfl (Steps.refl _) (by rw [hT]; exact hcell) (by rw [hv]; rfl) (by obtain ⟨k9, h9, -⟩ := Vm.findClass_spec hcl; exact ⟨k9, h9⟩) pre x suf hsplit
    (fun z hz => by
      rcases hpass z hz with h | ⟨hz0, nm, hl1, hn1⟩
      · exact Or.inl h
      · obtain ⟨c6, hc6, hcl6⟩ := Cond.classLink_spec hown hl1 e.platform hpl
        obtain ⟨a8, b8, h1, h2, h3⟩ := hn1
        cases Option.some.inj (h1.symm.trans hcl)
        cases Option.some.inj (h2.symm.trans hc6)
        exact Or.inr ⟨hz0, _, hcl6, h3⟩) hx (Or.inr ⟨h0, c4, hcl5, hasg⟩)
  obtain ⟨t, a1, b1⟩ := kk (T.setVm vm') hT X'
  exact ⟨t, st.trans a1, b1⟩
end Rows
section Ends
variable {p : Program} {l : Launch} {e : Env} {R : Room} {s : State} {m : MethodId} {args : Array Value} {below : List Frame} {meth : Method} {c : Code} {H : Heap} {locs : List Loc} {cells slots : Nat} {Q : State → Prop}
variable {mc ms : Nat} {free : Addr → Prop} {A0 A1 : Nat → Prop} {H0 : Heap} {a : Array Value} {ls : Array Slot} {st0 rest : List Value}
variable {Qc : Array Value → State → Outcome → State → Prop} {XC : String → State → State → Prop}
/-- what a body that may throw owes at its end -/
def vx_MQ (below : List Frame) (Qc : Array Value → State → Outcome → State → Prop) (XC : String → State → State → Prop) (a : Array Value) (s : State) (mc ms : Nat) (free : Addr → Prop) : State → Prop := fun t =>
  ∃ o, t.status = .running ∧ Ended t below o ∧ vx_Q Qc XC mc ms free a s o t
theorem vx_ret {g : JFrame} {mc ms : Nat} (k : W p l e R s m args below meth c H locs cells slots (MQ below Qc args s mc ms free) g) : W p l e R s m args below meth c H locs cells slots (vx_MQ below Qc XC args s mc ms free) g := by
  intro T hT X
  obtain ⟨t, a1, o, b1, b2, b3, b4⟩ := k T hT X
  exact ⟨t, a1, o, b1, b2, Or.inl ⟨b3, b4⟩⟩
/-- not caught here: it goes on to the caller -/
theorem vx_widen {g : JFrame} {q : Addr} {k n : Nat} (h1 : cells ≤ k) (h2 : slots ≤ n) (kk : vx_W p l e R s m args below meth c H locs k n Q g q) : vx_W p l e R s m args below meth c H locs cells slots Q g q := fun T hT X => kk T hT (stand_widen X h1 h2)
theorem vx_out {pc : Nat} {E : String} {ce : Cell} {q : Addr} {mc ms : Nat} (hout : ∀ x ∈ c.exceptionTable.toList, covers x pc = false) (hlocks : meth.locks = false) (hcell : H[q]? = some ce) (hv : ce.vm = .none) (hcl : s.vm.findClass E = some ce.cls)
    (hx : ∀ t : State, t.heap = H → s.vm.Alike t.vm → XC E s t) (hf : ∀ z ∈ locs, free z.base) (hc : cells ≤ mc) (hs : slots ≤ ms) :
    vx_W p l e R s m args below meth c H locs cells slots (vx_MQ below Qc XC args s mc ms free) (F0 m pc ls rest) q := by
  intro T hT X
  obtain ⟨st1, hrun, hend, hW, hsm⟩ := X.leaveThrown q (g := F0 m pc ls rest) rfl rfl rfl hout hlocks
  have hcell9 : (T.setFrames (.throwing q :: below)).heap[q]? = some ce := by
    show T.heap[q]? = some ce
    rw [hT]; exact hcell
  exact ⟨_, st1, .threw q, hrun, hend, Or.inr ⟨q, rfl, E, ce, locs, hx _ hT hW.alike, hcell9, hv, hcl, hW, hsm.mono hc hs, hf⟩⟩
theorem vx_frame {U : State} {k n : Nat} (h : s.sameButNew ({ U with vm := s.vm } : State) locs k n) : s.heap.size ≤ U.heap.size ∧ ∀ q : Nat, q < s.heap.size → (∀ z ∈ locs, z.base ≠ q) → U.heap[q]? = s.heap[q]? := by
  obtain ⟨-, h2, -, -, -, h6⟩ := h
  refine ⟨h2, fun q hq hz => ?_⟩
  obtain ⟨c9, e1, e2, e3, e4⟩ := h6 q _ (Array.getElem?_eq_getElem hq)
  have hs : c9.slots = (s.heap[q]).slots := Array.ext_getElem? fun i => e4 i fun hm => hz _ hm rfl
  have h9 : c9 = s.heap[q] := by
    rw [hs] at e2
    exact e2
  have e5 : U.heap[q]? = some c9 := e1
  rw [e5, h9, Array.getElem?_eq_getElem hq]
/-- the words of a throw but the four that speak of the heap -/
def vx_no (w : Cond) : Bool := decide (w ≠ .isRef (.static Bundle.tN "UNASSIGNED_STACK" Bundle.steD)) && decide (w ≠ .isRef (.static Bundle.tN "SUPPRESSED_SENTINEL" Bundle.listD)) && decide (w ≠ .laysStatic Bundle.tN "UNASSIGNED_STACK" Bundle.steD) && decide (w ≠ .laysStatic Bundle.tN "SUPPRESSED_SENTINEL" Bundle.listD)
def vx_at0 (own : String) (ic : Nat) (X : String) (names : List String) : List Cond := (Bundle.ownAtoms0 own ic X names).filter vx_no
def vx_atS (own : String) (ic : Nat) (X : String) (names : List String) : List Cond := (Bundle.ownAtoms own ic X names).filter vx_no
/-- a word that the tables alone decide, or a good one -/
def vx_ot (w : Cond) : Bool := w.onTables || goodWord w
theorem vx_ot_at {args a' : Array Value} {s U : State} {w : Cond} (hW : s.WarmedH U.vm) (hvm : s.vm = U.vm) (hg : vx_ot w = true) (h : w.before args s = true) : w.before a' U = true := by
  simp only [vx_ot, Bool.or_eq_true] at hg
  rcases hg with hg | hg
  · exact va_tabs hg hvm h
  · exact word_at hW (good_of_word hg) h
/-- a list's words: the good ones out of the method's own list, the others by premises of their own -/
theorem vx_hat {args : Array Value} {s : State} {L B : List Cond} (h1 : ∀ w ∈ L.filter goodWord, w.before args s = true) (h2 : ∀ w ∈ L.filter (fun w => !goodWord w), w ∈ B) (h3 : ∀ w ∈ B, w.before args s = true) : ∀ w ∈ L, w.before args s = true := by
  intro w hw
  by_cases g : goodWord w = true
  · exact h1 w (List.mem_filter.mpr ⟨hw, g⟩)
  · refine h3 w (h2 w (List.mem_filter.mpr ⟨hw, ?_⟩))
    show (!goodWord w) = true
    cases hgw : goodWord w
    · rfl
    · exact absurd hgw g
theorem vx_c {args : Array Value} {s : State} {w : Cond} {B : List Cond} (h : w.before args s = true) (t : ∀ w ∈ B, w.before args s = true) : ∀ w' ∈ w :: B, w'.before args s = true := fun w' h' => (List.mem_cons.mp h').elim (fun e => by rw [e]; exact h) (t w')
theorem vx_n {args : Array Value} {s : State} : ∀ w ∈ ([] : List Cond), w.before args s = true := fun _ h => nomatch h
theorem vx_own {args : Array Value} {s : State} {L : List Cond} (h1 : ∀ w ∈ L.filter vx_no, w.before args s = true)
    (hU : (Cond.isRef (.static Bundle.tN "UNASSIGNED_STACK" Bundle.steD)).before args s = true) (hN : (Cond.isRef (.static Bundle.tN "SUPPRESSED_SENTINEL" Bundle.listD)).before args s = true)
    (lU : (Cond.laysStatic Bundle.tN "UNASSIGNED_STACK" Bundle.steD).before args s = true) (lN : (Cond.laysStatic Bundle.tN "SUPPRESSED_SENTINEL" Bundle.listD).before args s = true) : ∀ w ∈ L, w.before args s = true := by
  intro w hw
  by_cases e1 : w = .isRef (.static Bundle.tN "UNASSIGNED_STACK" Bundle.steD)
  · rw [e1]; exact hU
  · by_cases e2 : w = .isRef (.static Bundle.tN "SUPPRESSED_SENTINEL" Bundle.listD)
    · rw [e2]; exact hN
    · by_cases e3 : w = .laysStatic Bundle.tN "UNASSIGNED_STACK" Bundle.steD
      · rw [e3]; exact lU
      · by_cases e4 : w = .laysStatic Bundle.tN "SUPPRESSED_SENTINEL" Bundle.listD
        · rw [e4]; exact lN
        · exact h1 w (List.mem_filter.mpr ⟨hw, by unfold vx_no; rw [decide_eq_true e1, decide_eq_true e2, decide_eq_true e3, decide_eq_true e4]; rfl⟩)
/-- where a static field lies, its class's statics cell in H -/
def vx_L (C n d : String) (A : Nat → Prop) (U : State) (H : Heap) : Prop := ∃ (c : ClassId) (k : Class) (i : Nat) (f : Field) (a : Nat) (cell : Cell), U.vm.findClass C = some c ∧ U.fieldFound? C n d = some (c, k, i, f) ∧ f.isStatic = true ∧ k.statics = some a ∧ H[a]? = some cell ∧ cell.vm.isStatics = true ∧ cell.cls = c ∧ f.slot < cell.slots.size ∧ k.staticTypes[f.slot]? = some f.type ∧ ¬ A a
theorem vx_L.moved {C n d : String} {A : Nat → Prop} {u U : State} {H : Heap} (hvm : u.vm.Alike U.vm) (h : vx_L C n d A u H) : vx_L C n d A U H := by
  obtain ⟨c, k, i, f, a, cell, h1, h2, h3, h4, h5, h6, h7, h8, h9, h10⟩ := h
  obtain ⟨k', hi', he⟩ := State.fieldFound?_setVm hvm h2
  exact ⟨c, k', i, f, a, cell, by rw [hvm.findClass]; exact h1, hi', h3, by rw [he]; exact h4, h5, h6, h7, h8, by rw [he]; exact h9, h10⟩
theorem vx_L.kept {C n d : String} {A : Nat → Prop} {U : State} {H H1 : Heap} (h : vx_L C n d A U H) (hq : ∀ a : Nat, a < H.size → ¬ A a → H1[a]? = H[a]?) : vx_L C n d A U H1 := by
  obtain ⟨c, k, i, f, a, cell, h1, h2, h3, h4, h5, h6, h7, h8, h9, h10⟩ := h
  exact ⟨c, k, i, f, a, cell, h1, h2, h3, h4, by rw [hq a (Array.getElem?_eq_some_iff.mp h5).1 h10]; exact h5, h6, h7, h8, h9, h10⟩
theorem vx_L.narrow {C n d : String} {A B : Nat → Prop} {U : State} {H : Heap} (h : vx_L C n d A U H) (hAB : ∀ q, B q → A q) : vx_L C n d B U H := by
  obtain ⟨c, k, i, f, a, cell, h1, h2, h3, h4, h5, h6, h7, h8, h9, h10⟩ := h
  exact ⟨c, k, i, f, a, cell, h1, h2, h3, h4, h5, h6, h7, h8, h9, fun z => h10 (hAB _ z)⟩
theorem vx_L.word {C n d : String} {A : Nat → Prop} {s : State} {args : Array Value} (h : vx_L C n d A s s.heap) : (Cond.laysStatic C n d).before args s = true := by
  obtain ⟨c, k, i, f, a, cell, h1, h2, h3, h4, h5, h6, h7, h8, h9, -⟩ := h
  show (Cond.laysStatic C n d).holds args s none s [] = true
  exact Cond.laysStatic_of h1 h2 h3 h4 h5 h6 h7 h8 h9
/-- .. and what it holds: null or some reference -/
def vx_Zq (C n d : String) (A : Nat → Prop) (U : State) (H : Heap) : Prop := va_Zq C n d A U H ∧ vx_L C n d A U H
theorem vx_Zq.moved {C n d : String} {A : Nat → Prop} {u U : State} {H : Heap} (hvm : u.vm.Alike U.vm) (h : vx_Zq C n d A u H) : vx_Zq C n d A U H := ⟨va_Zq.moved hvm h.1, vx_L.moved hvm h.2⟩
theorem vx_Zq.kept {C n d : String} {A : Nat → Prop} {U : State} {H H1 : Heap} (h : vx_Zq C n d A U H) (hq : ∀ a : Nat, a < H.size → ¬ A a → H1[a]? = H[a]?) : vx_Zq C n d A U H1 := ⟨va_Zq.kept h.1 hq, vx_L.kept h.2 hq⟩
theorem vx_Zq.narrow {C n d : String} {A B : Nat → Prop} {U : State} {H : Heap} (h : vx_Zq C n d A U H) (hAB : ∀ q, B q → A q) : vx_Zq C n d B U H := ⟨va_Zq.narrow h.1 hAB, vx_L.narrow h.2 hAB⟩
theorem vx_Zqof {args : Array Value} {s : State} {C n d : String} {A : Nat → Prop} (hl : (Cond.laysStatic C n d).before args s = true) (hini : (Cond.initialized C).before args s = true) (h : (Cond.isRef (.static C n d)).before args s = true) (hA : ∀ a : Nat, a < s.heap.size → ¬ A a) : vx_Zq C n d A s s.heap := by
  refine ⟨va_Zqof hl hini h hA, ?_⟩
  obtain ⟨c, k, i, f, a, cell, h1, h2, h3, h4, h5, h6, h7, h8, h9⟩ := Cond.laysStatic_spec hl
  exact ⟨c, k, i, f, a, cell, h1, h2, h3, h4, h5, h6, h7, h8, h9, hA a (Array.getElem?_eq_some_iff.mp h5).1⟩
theorem vx_isRef {C n d : String} {v : Value} {A : Nat → Prop} {s : State} {args : Array Value} (h : va_Z C n d v A s s.heap) (hv : v.isRef = true) : (Cond.isRef (.static C n d)).before args s = true := by
  obtain ⟨cf, kf, fi, f, a, cell, h1, h2, h3, h4, h5, h6, h7, -⟩ := h
  have he : (Term.static C n d).eval args s none [] s = some v := by
    simp [Term.eval, State.fieldNamed?, h1, h2, h4, h5, h6, h7]
  simp only [Cond.before, Cond.holds, Cond.value, he]
  cases v <;> simp_all [Value.isRef]
theorem vx_isRefq {C n d : String} {A : Nat → Prop} {s : State} {args : Array Value} (h : va_Zq C n d A s s.heap) : (Cond.isRef (.static C n d)).before args s = true := by
  rcases h with h | ⟨t, h⟩
  · exact vx_isRef h rfl
  · exact vx_isRef h rfl
/-- the same frame, seen from here: as if the method were called anew in this heap -/
theorem vx_rebase {T : State} (X : Stand p l e R s m args below meth c T locs cells slots) {R' : Room} (hf : R'.frames ≤ R.frames) (hl : R'.locals ≤ R.locals) (hc : cells + R'.cells ≤ R.cells) (hs : slots + R'.slots ≤ R.slots) :
    Stand p l e R' ((T.setVm s.vm).setFrames (.invoking m args :: below)) m args below meth c T [] 0 0 := by
  have htop : (T.setVm s.vm).topJava?.isSome := X.here.top
  have hF : ((T.setVm s.vm).setFrames (.invoking m args :: below)).frames = .invoking m args :: below := State.frames_setFrames _ (State.cur_lt_of_top htop)
  obtain ⟨g₀, hg0⟩ := Option.isSome_iff_exists.mp htop
  obtain ⟨r, hr⟩ := State.topJava?_eq_some.mp hg0
  have hl9 : e.platform.stackLimits (T.setVm s.vm).me = e.platform.stackLimits s.me := X.limits
  have hb9 : (T.setVm s.vm).me.stackBytes = s.me.stackBytes := X.bytes
  refine ⟨X.admits, X.cas, X.clock, hF, ?_, X.hears, X.method, X.code, X.here, X.tail, X.warmed, ?_, ?_, ?_⟩
  · have h := X.room
    have hU : ((T.setVm s.vm).setFrames (.invoking m args :: below)).localsInUse = s.localsInUse := by
      rw [State.localsInUse_invoking hF (meth := meth) (c := c) X.method X.code, State.localsInUse_invoking X.frames X.method X.code]
    simp only [State.hasRoom, Bool.and_eq_true, decide_eq_true_eq] at h ⊢
    obtain ⟨⟨⟨⟨h1, h2, h3, h4, h5, h6⟩, h7⟩, h8⟩, h9⟩ := h
    rw [X.frames, List.length_cons] at h2 h3
    have q1 := X.heapSize
    have q2 := X.used
    simp only [hF, hU, List.length_cons, State.stackLimits_setFrames, State.stackBytes_setFrames, hl9, hb9]
    refine ⟨⟨⟨⟨by omega, by omega, by omega, by omega, by omega, h6⟩, ?_⟩, ?_⟩, X.book⟩
    · show T.heap.size + R'.cells ≤ e.platform.maxCells
      omega
    · show T.slotsUsed + R'.slots ≤ e.platform.maxSlots
      omega
  · rw [State.stackLimits_setFrames]; rfl
  · rw [State.stackBytes_setFrames]; rfl
  · refine ⟨?_, Nat.le_refl _, Nat.le_refl _, ?_, ?_, fun a c9 h9 => ⟨c9, h9, rfl, rfl, fun _ _ => rfl⟩⟩
    · obtain ⟨t, ht, -⟩ := State.frames_cons hr
      show T.setVm s.vm = { ((T.setVm s.vm).setFrames (.invoking m args :: below)).setFrames (T.setVm s.vm).frames with heap := T.heap, slotsUsed := T.slotsUsed }
      rw [State.setFrames_setFrames, State.setFrames_self ht]
      rfl
    · show T.slotsUsed = T.slotsUsed + ((T.heap.toList.drop T.heap.size).map (·.slots.size)).sum
      rw [List.drop_eq_nil_of_le (Nat.le_of_eq Array.length_toList)]
      rfl
    · show ((T.heap.toList.drop T.heap.size).map (·.slots.size)).sum ≤ 0
      rw [List.drop_eq_nil_of_le (Nat.le_of_eq Array.length_toList)]
      exact Nat.le_refl _
/-- 'throw new E()': new; dup; invokespecial; athrow -/
theorem vx_throw0 {cc : ByteArray} {pc : Nat} (hexec : p.tables.exec = Jvm.exec) (hb : c.code = cc) (hl : l.stackTraces = false) {own cls : String} {names : List String} {ik ic mc ms : Nat} {A : Nat → Prop}
    (hown : s.vm.findClass own = some m.cls) (hcls : Bundle.fit cls = true) (hnames : ∀ n ∈ names, Bundle.fit n = true)
    (hk : (Cond.classLink own ik cls).before args s = true) (hini : (Cond.initialized cls).before args s = true) (hat : ∀ w ∈ vx_at0 own ic cls names, w.before args s = true)
    (hgood : ∀ w ∈ Cond.classLink own ik cls :: Cond.initialized cls :: vx_at0 own ic cls names, vx_ot w = true)
    (hU : vx_Zq Bundle.tN "UNASSIGNED_STACK" Bundle.steD A s s.heap) (hN : vx_Zq Bundle.tN "SUPPRESSED_SENTINEL" Bundle.listD A s s.heap) (hS : va_S A s.heap H locs) (hsize : ls.size = c.maxLocals)
    (d0 : decode cc pc = .ok (.new ik, 3)) (d3 : decode cc (pc + 3) = .ok (.dup, 1)) (d4 : decode cc (pc + 4) = .ok (.invokespecial ic, 3)) (d7 : decode cc (pc + 7) = .ok (.athrow, 1))
    (hout : ∀ x ∈ c.exceptionTable.toList, covers x (pc + 7) = false)
    (hRframes : names.length + 3 < R.frames) (hRlocals : (rest.map fun v => v.category).sum + (13 * (names.length + 1) + 42) ≤ R.locals) (hRcells : cells + 1 ≤ R.cells) (hRslots : slots + 6 ≤ R.slots) (hlocks : meth.locks = false)
    (hx : ∀ t : State, s.vm.Alike t.vm → H.size ≤ t.heap.size → (∀ q : Nat, q < H.size → t.heap[q]? = H[q]?) → XC cls s t)
    (hf : ∀ z ∈ locs, free z.base) (hc : cells + 1 ≤ mc) (hs : slots + 6 ≤ ms) :
    W p l e R s m args below meth c H locs cells slots (vx_MQ below Qc XC args s mc ms free) (F0 m pc ls rest) := by
  intro T hT X
  have htr : e.platform.stackTraces = false := (show e.platform.stackTraces = l.stackTraces by rw [X.admits.platform]).trans hl
  have Y := vx_rebase X (R' := { frames := R.frames, locals := R.locals, cells := 1, slots := 6 }) (Nat.le_refl _) (Nat.le_refl _) hRcells hRslots
  obtain ⟨s', hA⟩ : ∃ z, z = (T.setVm s.vm).setFrames (.invoking m args :: below) := ⟨_, rfl⟩
  rw [← hA] at Y
  have hvm : s'.vm = s.vm := by rw [hA]; rfl
  have hhp : s'.heap = H := by rw [hA]; exact hT
  have hW0 : s.WarmedH s'.vm := by rw [hvm]; exact State.WarmedH.refl s
  have hat' : ∀ w ∈ vx_at0 own ic cls names, w.before args s' = true := fun w hw => vx_ot_at hW0 hvm.symm (hgood w (List.mem_cons_of_mem _ (List.mem_cons_of_mem _ hw))) (hat w hw)
  have hk' : (Cond.classLink own ik cls).before args s' = true := vx_ot_at hW0 hvm.symm (hgood _ List.mem_cons_self) hk
  have hini' : (Cond.initialized cls).before args s' = true := vx_ot_at hW0 hvm.symm (hgood _ (List.mem_cons_of_mem _ List.mem_cons_self)) hini
  have hU' : vx_Zq Bundle.tN "UNASSIGNED_STACK" Bundle.steD A s' s'.heap := by rw [hhp]; exact vx_Zq.moved hW0.alike (hU.kept hS.2.1)
  have hN' : vx_Zq Bundle.tN "SUPPRESSED_SENTINEL" Bundle.listD A s' s'.heap := by rw [hhp]; exact vx_Zq.moved hW0.alike (hN.kept hS.2.1)
  have h : ∀ w ∈ Bundle.ownAtoms0 own ic cls names, w.before args s' = true := vx_own hat' (vx_isRefq hU'.1) (vx_isRefq hN'.1) hU'.2.word hN'.2.word
  have hown' : s'.vm.findClass own = some m.cls := by rw [hvm]; exact hown
  have hins : (Cond.instantiable cls 6).before args s' = true := h _ (by simp [Bundle.ownAtoms0])
  obtain ⟨vm₁, cX, kX, hfX, hkX, -, -, X₁, st1⟩ := Y.newCold hexec (own := own) (C := cls) (index := ik) (n := 6) hown' hk' hins hini'
    (g := F0 m pc ls rest) rfl (by rw [hb]; exact d0) (Nat.le_refl _) (Nat.le_refl _)
  generalize hT1 : (T.setVm vm₁).pushCell { cls := cX, slots := kX.instanceTypes.map defaultValue, vm := .none } = T1 at X₁ st1
  have hcat : (Value.ref T.heap.size).category = 1 := rfl
  have hcellA : T1.heap[T.heap.size]? = some (freshCell cX kX) := by rw [← hT1]; exact State.heap_pushCell_size _ _
  have d3' : decode c.code (pc + 3) = .ok (.dup, 1) := by rw [hb]; exact d3
  obtain ⟨U, hsteps, hrun, hend, hW, hsame, ce, hce, hO⟩ := X₁.ctorThrow0 hexec htr (own := own) (cls := cls) (names := names) (ic := ic) hown' hcls hnames h (fun x hx => nomatch hx) hfX hkX hcellA (by rw [hhp, hT]; exact Nat.le_refl _)
    (g := { method := m, pc := pc + 4, locals := ls, stack := .ref T.heap.size :: .ref T.heap.size :: rest, locked := none }) rfl hsize rfl rfl (rest := rest) rfl
    (by rw [hb]; exact d4) (by rw [hb]; exact d7) hout hRframes (by simp only [List.map_cons, List.sum_cons, hcat]; omega) hlocks
  obtain ⟨f1, f2⟩ := vx_frame hsame
  rw [hhp] at f1 f2
  have hWs : s.WarmedH U.vm := State.WarmedH.trans hW0 hW
  have hcl : s.vm.findClass cls = some ce.cls := by
    have h9 := hO.cls
    rw [hvm] at h9
    exact h9
  have hall : s.sameButNew ({ U with vm := s.vm } : State) locs mc ms := by
    subst hA
    obtain ⟨e1, e2⟩ := hsame
    rw [State.setFrames_setFrames] at e1
    have h2 : (T.setVm s.vm).sameButNew ({ U with vm := s.vm } : State) [] (0 + 1) (0 + 6) := ⟨e1, e2⟩
    have h3 := X.same.trans h2
    rw [List.append_nil] at h3
    exact h3.mono hc hs
  refine ⟨U, ?_, .threw T.heap.size, hrun, hend, Or.inr ⟨T.heap.size, rfl, cls, ce, locs, hx U hWs.alike f1 (fun q hq => f2 q hq (fun z hz => nomatch hz)), hce, hO.vm, hcl, hWs, hall, hf⟩⟩
  refine st1 _ ?_
  show Steps p.tables e below (T1.setTop { method := m, pc := pc + 3, locals := ls, stack := .ref T.heap.size :: rest, locked := none }) _
  jvm_step X₁.here [X₁.here.top, hexec, d3', Value.category]
  exact hsteps
/-- 'throw new E("text")': new; dup; ldc; invokespecial; athrow -/
theorem vx_throwS {cc : ByteArray} {pc : Nat} (hexec : p.tables.exec = Jvm.exec) (hb : c.code = cc) (hl : l.stackTraces = false) {own cls text : String} {names : List String} {ik is ic mc ms sa : Nat} {A : Nat → Prop}
    (hown : s.vm.findClass own = some m.cls) (hcls : Bundle.fit cls = true) (hnames : ∀ n ∈ names, Bundle.fit n = true)
    (hk : (Cond.classLink own ik cls).before args s = true) (hini : (Cond.initialized cls).before args s = true) (hstr : vk_R own is text sa s) (hat : ∀ w ∈ vx_atS own ic cls names, w.before args s = true)
    (hgood : ∀ w ∈ Cond.classLink own ik cls :: Cond.initialized cls :: vx_atS own ic cls names, vx_ot w = true)
    (hU : vx_Zq Bundle.tN "UNASSIGNED_STACK" Bundle.steD A s s.heap) (hN : vx_Zq Bundle.tN "SUPPRESSED_SENTINEL" Bundle.listD A s s.heap) (hS : va_S A s.heap H locs) (hsize : ls.size = c.maxLocals)
    (d0 : decode cc pc = .ok (.new ik, 3)) (d3 : decode cc (pc + 3) = .ok (.dup, 1)) (d4 : decode cc (pc + 4) = .ok (.ldc is, 2)) (d6 : decode cc (pc + 6) = .ok (.invokespecial ic, 3)) (d9 : decode cc (pc + 9) = .ok (.athrow, 1))
    (hout : ∀ x ∈ c.exceptionTable.toList, covers x (pc + 9) = false)
    (hRframes : names.length + 3 < R.frames) (hRlocals : (rest.map fun v => v.category).sum + (13 * (names.length + 1) + 43) ≤ R.locals) (hRcells : cells + 1 ≤ R.cells) (hRslots : slots + 6 ≤ R.slots) (hlocks : meth.locks = false)
    (hx : ∀ t : State, s.vm.Alike t.vm → H.size ≤ t.heap.size → (∀ q : Nat, q < H.size → t.heap[q]? = H[q]?) → XC cls s t)
    (hf : ∀ z ∈ locs, free z.base) (hc : cells + 1 ≤ mc) (hs : slots + 6 ≤ ms) :
    W p l e R s m args below meth c H locs cells slots (vx_MQ below Qc XC args s mc ms free) (F0 m pc ls rest) := by
  intro T hT X
  have htr : e.platform.stackTraces = false := (show e.platform.stackTraces = l.stackTraces by rw [X.admits.platform]).trans hl
  have Y := vx_rebase X (R' := { frames := R.frames, locals := R.locals, cells := 1, slots := 6 }) (Nat.le_refl _) (Nat.le_refl _) hRcells hRslots
  obtain ⟨s', hA⟩ : ∃ z, z = (T.setVm s.vm).setFrames (.invoking m args :: below) := ⟨_, rfl⟩
  rw [← hA] at Y
  have hvm : s'.vm = s.vm := by rw [hA]; rfl
  have hhp : s'.heap = H := by rw [hA]; exact hT
  have hW0 : s.WarmedH s'.vm := by rw [hvm]; exact State.WarmedH.refl s
  have hat' : ∀ w ∈ vx_atS own ic cls names, w.before args s' = true := fun w hw => vx_ot_at hW0 hvm.symm (hgood w (List.mem_cons_of_mem _ (List.mem_cons_of_mem _ hw))) (hat w hw)
  have hk' : (Cond.classLink own ik cls).before args s' = true := vx_ot_at hW0 hvm.symm (hgood _ List.mem_cons_self) hk
  have hini' : (Cond.initialized cls).before args s' = true := vx_ot_at hW0 hvm.symm (hgood _ (List.mem_cons_of_mem _ List.mem_cons_self)) hini
  have hU' : vx_Zq Bundle.tN "UNASSIGNED_STACK" Bundle.steD A s' s'.heap := by rw [hhp]; exact vx_Zq.moved hW0.alike (hU.kept hS.2.1)
  have hN' : vx_Zq Bundle.tN "SUPPRESSED_SENTINEL" Bundle.listD A s' s'.heap := by rw [hhp]; exact vx_Zq.moved hW0.alike (hN.kept hS.2.1)
  have h : ∀ w ∈ Bundle.ownAtoms own ic cls names, w.before args s' = true := vx_own hat' (vx_isRefq hU'.1) (vx_isRefq hN'.1) hU'.2.word hN'.2.word
  have hown' : s'.vm.findClass own = some m.cls := by rw [hvm]; exact hown
  have hins : (Cond.instantiable cls 6).before args s' = true := h _ (by simp [Bundle.ownAtoms])
  obtain ⟨vm₁, cX, kX, hfX, hkX, -, -, X₁, st1⟩ := Y.newCold hexec (own := own) (C := cls) (index := ik) (n := 6) hown' hk' hins hini'
    (g := F0 m pc ls rest) rfl (by rw [hb]; exact d0) (Nat.le_refl _) (Nat.le_refl _)
  generalize hT1 : (T.setVm vm₁).pushCell { cls := cX, slots := kX.instanceTypes.map defaultValue, vm := .none } = T1 at X₁ st1
  have hcat : (Value.ref T.heap.size).category = 1 := rfl
  have hcellA : T1.heap[T.heap.size]? = some (freshCell cX kX) := by rw [← hT1]; exact State.heap_pushCell_size _ _
  have d3' : decode c.code (pc + 3) = .ok (.dup, 1) := by rw [hb]; exact d3
  have d4' : decode c.code (pc + 4) = .ok (.ldc is, 2) := by rw [hb]; exact d4
  have hstr' : vk_R own is text sa s' := vk_R.warm hW0 hstr
  obtain ⟨U, hsteps, hrun, hend, hW, hsame, ce, hce, hO⟩ := X₁.ctorThrowS hexec htr (own := own) (cls := cls) (names := names) (ic := ic) hown' hcls hnames h (fun x hx => nomatch hx) hfX hkX hcellA (by rw [hhp, hT]; exact Nat.le_refl _) (msg := .ref sa) rfl
    (g := { method := m, pc := pc + 6, locals := ls, stack := .ref sa :: .ref T.heap.size :: .ref T.heap.size :: rest, locked := none }) rfl hsize rfl rfl (rest := rest) rfl
    (by rw [hb]; exact d6) (by rw [hb]; exact d9) hout hRframes (by simp only [List.map_cons, List.sum_cons, hcat]; omega) hlocks
  obtain ⟨f1, f2⟩ := vx_frame hsame
  rw [hhp] at f1 f2
  have hWs : s.WarmedH U.vm := State.WarmedH.trans hW0 hW
  have hcl : s.vm.findClass cls = some ce.cls := by
    have h9 := hO.cls
    rw [hvm] at h9
    exact h9
  have hall : s.sameButNew ({ U with vm := s.vm } : State) locs mc ms := by
    subst hA
    obtain ⟨e1, e2⟩ := hsame
    rw [State.setFrames_setFrames] at e1
    have h2 : (T.setVm s.vm).sameButNew ({ U with vm := s.vm } : State) [] (0 + 1) (0 + 6) := ⟨e1, e2⟩
    have h3 := X.same.trans h2
    rw [List.append_nil] at h3
    exact h3.mono hc hs
  refine ⟨U, ?_, .threw T.heap.size, hrun, hend, Or.inr ⟨T.heap.size, rfl, cls, ce, locs, hx U hWs.alike f1 (fun q hq => f2 q hq (fun z hz => nomatch hz)), hce, hO.vm, hcl, hWs, hall, hf⟩⟩
  refine st1 _ ?_
  show Steps p.tables e below (T1.setTop { method := m, pc := pc + 3, locals := ls, stack := .ref T.heap.size :: rest, locked := none }) _
  jvm_step X₁.here [X₁.here.top, hexec, d3', Value.category]
  exact X₁.ldcString hexec (own := own) (text := text) (index := is) (a := sa) hown' hstr'.1 hstr'.2
    (g := { method := m, pc := pc + 4, locals := ls, stack := .ref T.heap.size :: .ref T.heap.size :: rest, locked := none }) rfl d4' _ hsteps
/-- 'throw new E("text")', the text by a wide index -/
theorem vx_throwSW {cc : ByteArray} {pc : Nat} (hexec : p.tables.exec = Jvm.exec) (hb : c.code = cc) (hl : l.stackTraces = false) {own cls text : String} {names : List String} {ik is ic mc ms sa : Nat} {A : Nat → Prop}
    (hown : s.vm.findClass own = some m.cls) (hcls : Bundle.fit cls = true) (hnames : ∀ n ∈ names, Bundle.fit n = true)
    (hk : (Cond.classLink own ik cls).before args s = true) (hini : (Cond.initialized cls).before args s = true) (hstr : vk_R own is text sa s) (hat : ∀ w ∈ vx_atS own ic cls names, w.before args s = true)
    (hgood : ∀ w ∈ Cond.classLink own ik cls :: Cond.initialized cls :: vx_atS own ic cls names, vx_ot w = true)
    (hU : vx_Zq Bundle.tN "UNASSIGNED_STACK" Bundle.steD A s s.heap) (hN : vx_Zq Bundle.tN "SUPPRESSED_SENTINEL" Bundle.listD A s s.heap) (hS : va_S A s.heap H locs) (hsize : ls.size = c.maxLocals)
    (d0 : decode cc pc = .ok (.new ik, 3)) (d3 : decode cc (pc + 3) = .ok (.dup, 1)) (d4 : decode cc (pc + 4) = .ok (.ldc_w is, 3)) (d7 : decode cc (pc + 7) = .ok (.invokespecial ic, 3)) (d10 : decode cc (pc + 10) = .ok (.athrow, 1))
    (hout : ∀ x ∈ c.exceptionTable.toList, covers x (pc + 10) = false)
    (hRframes : names.length + 3 < R.frames) (hRlocals : (rest.map fun v => v.category).sum + (13 * (names.length + 1) + 43) ≤ R.locals) (hRcells : cells + 1 ≤ R.cells) (hRslots : slots + 6 ≤ R.slots) (hlocks : meth.locks = false)
    (hx : ∀ t : State, s.vm.Alike t.vm → H.size ≤ t.heap.size → (∀ q : Nat, q < H.size → t.heap[q]? = H[q]?) → XC cls s t)
    (hf : ∀ z ∈ locs, free z.base) (hc : cells + 1 ≤ mc) (hs : slots + 6 ≤ ms) :
    W p l e R s m args below meth c H locs cells slots (vx_MQ below Qc XC args s mc ms free) (F0 m pc ls rest) := by
  intro T hT X
  have htr : e.platform.stackTraces = false := (show e.platform.stackTraces = l.stackTraces by rw [X.admits.platform]).trans hl
  have Y := vx_rebase X (R' := { frames := R.frames, locals := R.locals, cells := 1, slots := 6 }) (Nat.le_refl _) (Nat.le_refl _) hRcells hRslots
  obtain ⟨s', hA⟩ : ∃ z, z = (T.setVm s.vm).setFrames (.invoking m args :: below) := ⟨_, rfl⟩
  rw [← hA] at Y
  have hvm : s'.vm = s.vm := by rw [hA]; rfl
  have hhp : s'.heap = H := by rw [hA]; exact hT
  have hW0 : s.WarmedH s'.vm := by rw [hvm]; exact State.WarmedH.refl s
  have hat' : ∀ w ∈ vx_atS own ic cls names, w.before args s' = true := fun w hw => vx_ot_at hW0 hvm.symm (hgood w (List.mem_cons_of_mem _ (List.mem_cons_of_mem _ hw))) (hat w hw)
  have hk' : (Cond.classLink own ik cls).before args s' = true := vx_ot_at hW0 hvm.symm (hgood _ List.mem_cons_self) hk
  have hini' : (Cond.initialized cls).before args s' = true := vx_ot_at hW0 hvm.symm (hgood _ (List.mem_cons_of_mem _ List.mem_cons_self)) hini
  have hU' : vx_Zq Bundle.tN "UNASSIGNED_STACK" Bundle.steD A s' s'.heap := by rw [hhp]; exact vx_Zq.moved hW0.alike (hU.kept hS.2.1)
  have hN' : vx_Zq Bundle.tN "SUPPRESSED_SENTINEL" Bundle.listD A s' s'.heap := by rw [hhp]; exact vx_Zq.moved hW0.alike (hN.kept hS.2.1)
  have h : ∀ w ∈ Bundle.ownAtoms own ic cls names, w.before args s' = true := vx_own hat' (vx_isRefq hU'.1) (vx_isRefq hN'.1) hU'.2.word hN'.2.word
  have hown' : s'.vm.findClass own = some m.cls := by rw [hvm]; exact hown
  have hins : (Cond.instantiable cls 6).before args s' = true := h _ (by simp [Bundle.ownAtoms])
  obtain ⟨vm₁, cX, kX, hfX, hkX, -, -, X₁, st1⟩ := Y.newCold hexec (own := own) (C := cls) (index := ik) (n := 6) hown' hk' hins hini'
    (g := F0 m pc ls rest) rfl (by rw [hb]; exact d0) (Nat.le_refl _) (Nat.le_refl _)
  generalize hT1 : (T.setVm vm₁).pushCell { cls := cX, slots := kX.instanceTypes.map defaultValue, vm := .none } = T1 at X₁ st1
  have hcat : (Value.ref T.heap.size).category = 1 := rfl
  have hcellA : T1.heap[T.heap.size]? = some (freshCell cX kX) := by rw [← hT1]; exact State.heap_pushCell_size _ _
  have d3' : decode c.code (pc + 3) = .ok (.dup, 1) := by rw [hb]; exact d3
  have d4' : decode c.code (pc + 4) = .ok (.ldc_w is, 3) := by rw [hb]; exact d4
  have hstr' : vk_R own is text sa s' := vk_R.warm hW0 hstr
  obtain ⟨U, hsteps, hrun, hend, hW, hsame, ce, hce, hO⟩ := X₁.ctorThrowS hexec htr (own := own) (cls := cls) (names := names) (ic := ic) hown' hcls hnames h (fun x hx => nomatch hx) hfX hkX hcellA (by rw [hhp, hT]; exact Nat.le_refl _) (msg := .ref sa) rfl
    (g := { method := m, pc := pc + 7, locals := ls, stack := .ref sa :: .ref T.heap.size :: .ref T.heap.size :: rest, locked := none }) rfl hsize rfl rfl (rest := rest) rfl
    (by rw [hb]; exact d7) (by rw [hb]; exact d10) hout hRframes (by simp only [List.map_cons, List.sum_cons, hcat]; omega) hlocks
  obtain ⟨f1, f2⟩ := vx_frame hsame
  rw [hhp] at f1 f2
  have hWs : s.WarmedH U.vm := State.WarmedH.trans hW0 hW
  have hcl : s.vm.findClass cls = some ce.cls := by
    have h9 := hO.cls
    rw [hvm] at h9
    exact h9
  have hall : s.sameButNew ({ U with vm := s.vm } : State) locs mc ms := by
    subst hA
    obtain ⟨e1, e2⟩ := hsame
    rw [State.setFrames_setFrames] at e1
    have h2 : (T.setVm s.vm).sameButNew ({ U with vm := s.vm } : State) [] (0 + 1) (0 + 6) := ⟨e1, e2⟩
    have h3 := X.same.trans h2
    rw [List.append_nil] at h3
    exact h3.mono hc hs
  refine ⟨U, ?_, .threw T.heap.size, hrun, hend, Or.inr ⟨T.heap.size, rfl, cls, ce, locs, hx U hWs.alike f1 (fun q hq => f2 q hq (fun z hz => nomatch hz)), hce, hO.vm, hcl, hWs, hall, hf⟩⟩
  refine st1 _ ?_
  show Steps p.tables e below (T1.setTop { method := m, pc := pc + 3, locals := ls, stack := .ref T.heap.size :: rest, locked := none }) _
  jvm_step X₁.here [X₁.here.top, hexec, d3', Value.category]
  exact X₁.ldcStringW hexec (own := own) (text := text) (index := is) (a := sa) hown' hstr'.1 hstr'.2
    (g := { method := m, pc := pc + 4, locals := ls, stack := .ref T.heap.size :: .ref T.heap.size :: rest, locked := none }) rfl d4' _ hsteps
end Ends
section Bodies
variable {l : Launch}
theorem vx_ofW {y : MethodName} {ws ws' : List Cond} {rm : Room} {Pc : Array Value → State → Prop} {Qc : Array Value → State → Outcome → State → Prop} {XC : String → State → State → Prop} {mc ms : Nat} {free : Addr → Prop} {cc : ByteArray} {maxL : Nat} {ret : Option FieldType}
    (hy : plainName y.cls = true) (hw : ws = Cond.code y cc maxL ret :: ws')
    (body : ∀ p e s m args below meth c s₁, BodyLoose p l y (headSpec ws rm) cc maxL ret e s m args below meth c s₁ → c.maxLocals = maxL → (∀ x ∈ c.exceptionTable.toList, False) → Pc args s →
      W p l e (headSpec ws rm).room s m args below meth c s.heap [] 0 0 (vx_MQ below Qc XC args s mc ms free) (entryFrame m args maxL)) : vx_Met l y ws rm Pc Qc XC mc ms free := by
  refine MetFree.of_bodyS (code := cc) (maxLocals := maxL) (ret := ret) hy ?_ ?_
  · intro args s m h hn
    obtain ⟨meth, c, h1, h2, h3, h4, h5, h6, -, -⟩ := Cond.code_spec hn (atoms_spec (ws := ws) h _ (by rw [hw]; exact List.mem_cons_self))
    exact ⟨meth, c, h1, h2, h3, h4, h5, h6⟩
  · intro p e s m args below meth c s₁ B hml hP _
    have hh0 : s₁.heap = s.heap := by rw [B.state]; rfl
    have ht : ∀ x ∈ c.exceptionTable.toList, False := by
      obtain ⟨meth9, c9, h1, h2, -, -, -, -, h7, -⟩ := Cond.code_spec B.named (atoms_spec (ws := ws) B.pre _ (by rw [hw]; exact List.mem_cons_self))
      cases Option.some.inj (h1.symm.trans B.method)
      cases Option.some.inj (h2.symm.trans (Stand.of_body B).code)
      intro x hx
      rw [Array.isEmpty_iff.mp h7] at hx
      cases hx
    obtain ⟨t, a1, o, b1, b2, b3⟩ := body p e s m args below meth c s₁ B hml ht hP s₁ hh0 (Stand.of_body B)
    exact ⟨t, o, a1, b1, b2, b3⟩
/-- the table of a body with handlers -/
theorem vx_table {p : Program} {x y : MethodName} {S : Spec} {cc bytes : ByteArray} {maxL maxL' : Nat} {ret ret' : Option FieldType} {e : Env} {s s₁ : State} {m : MethodId} {args : Array Value} {below : List Frame} {meth : Method} {c : Code} {hh : List (Nat × Nat × Nat × Nat)}
    (B : BodyLoose p l y S cc maxL ret e s m args below meth c s₁) (h : (Cond.codeWith y bytes maxL' ret' hh).before args s = true) : c.exceptionTable.toList = tableOf hh := by
  obtain ⟨m9, meth9, c9, hn9, h1, h2, -, -, h6, -⟩ := Cond.codeWith_spec h
  cases Option.some.inj (hn9.symm.trans B.named)
  cases Option.some.inj (h1.symm.trans B.method)
  cases Option.some.inj (h2.symm.trans (Stand.of_body B).code)
  rw [← h6, table_eq]
end Bodies
end VXA
/-! ===== END ===== -/
/-! ===== BEGIN a static call of a method with an exception table ===== -/
section VXS
variable {p : Program} {l : Launch} {e : Env} {R : Room} {s : State} {m : MethodId} {args : Array Value} {below : List Frame} {meth : Method} {c : Code} {T : State} {H : Heap} {locs : List Loc} {cells slots : Nat}
abbrev vx_CSW (R : Room) (s : State) (args : Array Value) (own : String) (index : Nat) (y : MethodName) (bytes : ByteArray) (maxL : Nat) (ret : Option FieldType) (hh : List (Nat × Nat × Nat × Nat)) (ws : List Cond) (rm : Room) (mc ms n : Nat) : Prop :=
  (rm.cells = mc ∧ rm.slots = ms ∧ rm.frames + 1 ≤ R.frames ∧ 8 + (maxL + 11) + rm.locals ≤ R.locals ∧ (∀ w ∈ ws, ∀ (a' : Array Value) (U : State), s.WarmedH U.vm → w.before a' U = true) ∧ Cond.codeWith y bytes maxL ret hh ∈ ws) ∧
  (Cond.codeWith y bytes maxL ret hh).before args s = true ∧ (Cond.initialized y.cls).before args s = true ∧ (y.cls ≠ "java/lang/invoke/MethodHandle" ∧ y.cls ≠ "java/lang/invoke/VarHandle") ∧
  (∀ sig, parseMethodDescriptor y.desc = some sig → n = sig.parameters.length) ∧ (Cond.methodLink own index y).before args s = true ∧ (Cond.static y).before args s = true
theorem vx_cwSW {own : String} {index maxL mc ms : Nat} {y : MethodName} {bytes : ByteArray} {ret : Option FieldType} {hh : List (Nat × Nat × Nat × Nat)} {Ts ws ws' : List Cond} {rm : Room} (n : Nat) (ht : ∀ w ∈ Ts, w.before args s = true) (hT : GoodIn Ts (va_wsS own index y ws)) (hw : ws = Cond.codeWith y bytes maxL ret hh :: ws') (hrc : rm.cells = mc) (hrs : rm.slots = ms)
    (hd : y.cls ≠ "java/lang/invoke/MethodHandle" ∧ y.cls ≠ "java/lang/invoke/VarHandle" ∧ (parseMethodDescriptor y.desc).map (fun d => d.parameters.length) = some n) (hR : rm.frames + 1 ≤ R.frames ∧ 8 + (maxL + 11) + rm.locals ≤ R.locals) :
    vx_CSW R s args own index y bytes maxL ret hh ws rm mc ms n := by
  have ok : ∀ w ∈ va_wsS own index y ws, w.before args s = true := fun w h => ht w (hT w h).1
  have hG : GoodIn Ts ws := fun w h => hT w (by unfold va_wsS; exact List.mem_append_right _ h)
  have hc : Cond.codeWith y bytes maxL ret hh ∈ ws := by rw [hw]; exact List.mem_cons_self
  refine ⟨⟨hrc, hrs, hR.1, hR.2, pay_in ht hG, hc⟩, ht _ (hG _ hc).1, ok _ (by simp [va_wsS]), ⟨hd.1, hd.2.1⟩, fun sig h => ?_, ok _ (by simp [va_wsS]), ok _ (by simp [va_wsS])⟩
  have h2 := hd.2.2
  rw [h] at h2
  exact (Option.some.inj h2).symm
theorem vx_callSW (X : Stand p l e R s m args below meth c T locs cells slots) (hexec : p.tables.exec = Jvm.exec) {own : String} {index : Nat} {y : MethodName} {bytes : ByteArray} {maxL : Nat} {ret : Option FieldType} {hh : List (Nat × Nat × Nat × Nat)}
    (hown : s.vm.findClass own = some m.cls) (hlink : (Cond.methodLink own index y).before args s = true) (hstat : (Cond.static y).before args s = true) (hinit : (Cond.initialized y.cls).before args s = true)
    (hcode : (Cond.codeWith y bytes maxL ret hh).before args s = true) (hy : y.cls ≠ "java/lang/invoke/MethodHandle" ∧ y.cls ≠ "java/lang/invoke/VarHandle")
    {W9 : Nat} {Pre : Pt → Array Value → Prop} {Post : Pt → Array Value → Option Value → Pt → Prop} (hK : Back l R p e below s args y 3 W9 Pre Post)
    {g : JFrame} (hg : g.method = m) (hsize : g.locals.size = c.maxLocals) {argsL rest : List Value} (hlen : ∀ sig, parseMethodDescriptor y.desc = some sig → argsL.length = sig.parameters.length)
    (hstack : g.stack = argsL.reverse ++ rest) (hW : 2 * g.monitorRoom + (rest.map fun v => v.category).sum ≤ W9) (hdg : decode c.code g.pc = .ok (.invokestatic index, 3))
    (hpre : ∀ vm₁, s.WarmedH vm₁ → Pre ⟨T.setVm vm₁, locs, cells, slots⟩ argsL.toArray) :
    ∃ (v : Option Value) (vm₁ : Vm) (B : Pt), s.WarmedH vm₁ ∧ Stand p l e R s m args below meth c B.U B.locs B.cells B.slots ∧ Post ⟨T.setVm vm₁, locs, cells, slots⟩ argsL.toArray v B ∧
      ∀ target, Steps p.tables e below (B.U.setTop { g with pc := g.pc + 3, stack := v.toList ++ rest }) target → Steps p.tables e below (T.setTop g) target := by
  obtain ⟨mk, methM, cM, hnamed, hmethM, -, -, -, -, -, -, hsigM⟩ := Cond.codeWith_spec hcode
  have hstatic : methM.isStatic = true := Cond.static_spec hnamed hmethM hstat
  obtain ⟨kP, hkP, -⟩ := className_of_methodNamed hnamed
  have hinitP : kP.init = .initialized := Cond.initialized_spec (findClass_of_methodNamed hnamed) hkP hinit
  obtain ⟨vm₁, X₁, hstep₁⟩ := X.invokestatic hexec hown hlink hnamed hmethM hstatic hkP hinitP hy (g := g) hg (argsL := argsL) (rest := rest) (hlen _ hsigM) hstack hdg
  obtain ⟨v, B, X', hpost, hsteps⟩ := hK m meth c ⟨T.setVm vm₁, locs, cells, slots⟩ { g with stack := rest } (.invokestatic index) mk argsL.toArray X₁ hg hsize hdg hW (X₁.named hnamed) (hpre vm₁ X₁.warmed)
  exact ⟨v, vm₁, B, X₁.warmed, X', hpost, fun target h => hstep₁ _ fun acts => by rw [doInvoke_state]; exact hsteps.trans h⟩
theorem vx_runSW {y : MethodName} {bytes cc : ByteArray} {maxL nL mc ms n index : Nat} {ret : Option FieldType} {hh : List (Nat × Nat × Nat × Nat)} {ws : List Cond} {rm : Room} {Pc : Array Value → State → Prop} {Qc : Array Value → State → Outcome → State → Prop} {free : Addr → Prop} {Ts : List Cond} {own : String} {As rest : List Value} {g : JFrame}
    (S : CallFix p m c cc nL s args Ts own) (hM : Met l y ws rm Pc Qc mc ms free) (cw : vx_CSW R s args own index y bytes maxL ret hh ws rm mc ms n) (hp : PreS s H Pc As)
    (hg : g.method = m) (hn : As.length = n) (hsize : g.locals.size = nL) (hstack : g.stack = As.reverse ++ rest) (hW : 2 * g.monitorRoom + (rest.map fun v => v.category).sum ≤ 8) (hdg : decode cc g.pc = .ok (.invokestatic index, 3)) (hf : cells + mc ≤ R.cells ∧ slots + ms ≤ R.slots) :
    va_Run p l e R s m args below meth c H locs cells slots mc ms g rest (Qc As.toArray) (free) := by
  obtain ⟨⟨hrc, hrs, hfr, hlo, hws, hcw⟩, hcode, hini, hy, hlen, hl, hstt⟩ := cw
  have hK : Back l R p e below s args y 3 8 (PreOf R mc ms Pc) (PostOf Qc mc ms free) := va_backW (hh := hh) (bytes := bytes) (maxL := maxL) (ret := ret) hM hp.1 hrc hrs hfr hlo hws hcw (fun a' U hW => word_at hW (Or.inl (by first | rfl | simp [Cond.onTables, Cond.keeps, Cond.steady])) hini)
  obtain ⟨hx, hb, hml, ho, -⟩ := S
  intro T hT X
  obtain ⟨v, vm₁, ⟨U', l2, c2, s2⟩, hW₁, X', ⟨g', mk, t, L, e1, e2, hq, h1, hL, h2, h3⟩, st⟩ := vx_callSW X hx (hh := hh) (bytes := bytes) (maxL := maxL) (ret := ret) ho hl hstt hini hcode hy hK hg (hsize.trans hml.symm) (argsL := As) (rest := rest) (fun sig h => hn.trans (hlen sig h)) hstack hW (by rw [hb]; exact hdg)
    (fun vm₁ hW₁ => ⟨hf.1, hf.2, hp.2 (T.setVm vm₁) hT hW₁⟩)
  dsimp only [Pt.U, Pt.locs, Pt.cells, Pt.slots] at X' e1 e2 h1 h2 h3 st
  subst h1; subst h2; subst h3
  exact ⟨v, (T.setVm vm₁).calling g' mk As.toArray, t, U', L, hT, X', hL, e1, e2, hq, st⟩
/-- not caught here, past rows that name other classes: it goes on to the caller -/
theorem vx_outP {p : Program} {l : Launch} {e : Env} {R : Room} {s : State} {m : MethodId} {args : Array Value} {below : List Frame} {meth : Method} {c : Code} {H : Heap} {locs : List Loc} {cells slots : Nat} {free : Addr → Prop} {ls : Array Slot} {rest : List Value} {Qc : Array Value → State → Outcome → State → Prop} {XC : String → State → State → Prop}
    {pc : Nat} {own E : String} {ce : Cell} {q : Addr} {mc ms : Nat} (hown : s.vm.findClass own = some m.cls) (hlocks : meth.locks = false)
    (hpass : ∀ z ∈ c.exceptionTable.toList, covers z pc = false ∨ (z.catchType ≠ 0 ∧ ∃ nm : String, (Cond.classLink own z.catchType nm).before args s = true ∧ va_Nc E nm s)) (hcell : H[q]? = some ce) (hv : ce.vm = .none) (hcl : s.vm.findClass E = some ce.cls)
    (hx : ∀ t : State, t.heap = H → s.vm.Alike t.vm → XC E s t) (hf : ∀ z ∈ locs, free z.base) (hc : cells ≤ mc) (hs : slots ≤ ms) :
    vx_W p l e R s m args below meth c H locs cells slots (vx_MQ below Qc XC args s mc ms free) (F0 m pc ls rest) q := by
  intro T hT X
  have hpl : e.platform.magicAccessors = ({} : Platform).magicAccessors := by rw [X.admits.platform]
  obtain ⟨vm', hW', X', st⟩ := X.outThrough hlocks q (g := F0 m pc ls rest) rfl rfl rfl (cell := ce) (by rw [hT]; exact hcell) (by rw [hv]; rfl)
    (by obtain ⟨k9, h9, -⟩ := Vm.findClass_spec hcl; exact ⟨k9, h9⟩) (fun z hz => by
      rcases hpass z hz with h | ⟨hz0, nm, hl1, hn1⟩
      · exact Or.inl h
      · obtain ⟨c6, hc6, hcl6⟩ := Cond.classLink_spec hown hl1 e.platform hpl
        obtain ⟨a8, b8, h1, h2, h3⟩ := hn1
        cases Option.some.inj (h1.symm.trans hcl)
        cases Option.some.inj (h2.symm.trans hc6)
        exact Or.inr ⟨hz0, _, hcl6, h3⟩)
  obtain ⟨g₀, hfr⟩ := X'.frames_eq
  have hcell9 : ((T.setVm vm').setFrames (.throwing q :: below)).heap[q]? = some ce := by
    show T.heap[q]? = some ce
    rw [hT]; exact hcell
  have hend : Ended ((T.setVm vm').setFrames (.throwing q :: below)) below (.threw q) := State.frames_setFrames _ (State.cur_lt_of_frames hfr)
  refine ⟨(T.setVm vm').setFrames (.throwing q :: below), ?_, .threw q, X'.here.running, hend, Or.inr ⟨q, rfl, E, ce, locs, hx _ hT (X'.ends _).1.alike, hcell9, hv, hcl, (X'.ends _).1, (X'.ends _).2.mono hc hs, hf⟩⟩
  rw [X.pushThrowing_eq]
  exact st
/-- a thing of a world lies in the heap -/
theorem vx_lt {D : va_G} {cl : List vw_C} {ws : va_W} {H1 : Heap} (h : va_P D cl ws H1) {k : Nat} {q : Nat × va_E} (hk : ws[k]? = some q) : q.1 < H1.size := (h k q hk).lt
end VXS
/-! ===== END ===== -/
/-! ===== BEGIN methods with a table of their own: called by a name, returning or throwing ===== -/
section VXH
/-! vx_backW, vx_callVX, vx_callSX, vx_callVW, vx_runVW, vx_runVX, vx_runSX, vx_ofWH follow the same proofs as their sisters above (Free/Laws.lean, Shelf42/LK1.lean); vx_outP calls Shelf42/NT130.lean (outThrough). -/
section
variable {l : Launch} {R : Room} {p : Program} {e : Env} {below : List Frame} {s : State} {sargs : Array Value} {y : MethodName} {len W9 : Nat}
theorem vx_backW {ws : List Cond} {rm : Room} {Pc : Array Value → State → Prop} {Qc : Array Value → State → Outcome → State → Prop} {XC : String → State → State → Prop} {mc ms : Nat} {free : Addr → Prop} {bytes : ByteArray} {maxL : Nat} {ret : Option FieldType} {hh : List (Nat × Nat × Nat × Nat)}
    (hM : vx_Met l y ws rm Pc Qc XC mc ms free) (hblind : FrameBlind Pc) (hrc : rm.cells = mc) (hrs : rm.slots = ms)
    (hframes : rm.frames + 1 ≤ R.frames) (hlocals : W9 + (maxL + 11) + rm.locals ≤ R.locals)
    (hws : ∀ w ∈ ws, ∀ a' U, s.WarmedH U.vm → w.before a' U = true) (hcode : Cond.codeWith y bytes maxL ret hh ∈ ws) (hinit : ∀ a' U, s.WarmedH U.vm → (Cond.initialized y.cls).before a' U = true) :
    vx_Back l R p e below s sargs y len W9 (PreOf R mc ms Pc) (PostOf Qc mc ms free) (vx_Post XC mc ms free) := by
  intro m meth c A g ig mk a X hg hsize hdg hW hn hp
  have h1 : (headSpec ws rm).pre.before a A.U = true := atoms_intro fun w hw => hws w hw _ _ X.warmed
  have h2 : (Cond.codeWith y bytes maxL ret hh).before a A.U = true := hws _ hcode _ _ X.warmed
  have h3 : (Cond.initialized y.cls).before a A.U = true := hinit _ _ X.warmed
  have h4 : A.cells + (headSpec ws rm).room.cells ≤ R.cells := by rw [show (headSpec ws rm).room.cells = mc from hrc]; exact hp.1
  have h5 : A.slots + (headSpec ws rm).room.slots ≤ R.slots := by rw [show (headSpec ws rm).room.slots = ms from hrs]; exact hp.2.1
  have hPc : Pc a (A.U.calling g mk a) := hblind _ _ _ _ hp.2.2
  obtain ⟨U, Ls, c0, s0⟩ := A
  dsimp only [Pt.U, Pt.locs, Pt.cells, Pt.slots] at h1 h2 h3 h4 h5 X hn hPc ⊢
  obtain ⟨m9, methY, cY, hn9, hmY, hcY, -, hlY, -⟩ := Cond.codeWith_spec h2
  cases Option.some.inj (hn9.symm.trans hn)
  obtain ⟨kY, hkY, -⟩ := className_of_methodNamed hn
  have hinitY : kY.init = .initialized := Cond.initialized_spec (findClass_of_methodNamed hn) hkY h3
  have h : At U g.method c below := by rw [hg]; exact X.here
  have hlocals9 : W9 + (maxL + 11) + (headSpec ws rm).room.locals ≤ R.locals := hlocals
  have happ : (headSpec ws rm).appliesLoose y e.platform (U.calling g mk a) = true :=
    Spec.appliesLoose_calling (g := g) h hdg hn hkY hinitY
      (X.room_calling (g := g) (R' := (headSpec ws rm).room) hsize hmY hcY hframes (by rw [hlY]; omega) h4 h5) h1
  obtain ⟨mid, hmid⟩ := h.above
  have hfr : (U.setTop g).frames = (.java g :: mid) ++ below := by rw [State.frames_setTop' g h.top, hmid]; rfl
  obtain ⟨o, s₂, hsteps, -, hend, hq⟩ := Steps.callFree hM p X.admits X.cas X.clock (acts := []) hfr happ hPc trivial
  have hq' : vx_Q Qc XC mc ms free a (U.calling g mk a) o s₂ := hq
  rw [State.frames_setTop' g h.top] at hend
  obtain ⟨g₀, hg0⟩ := Option.isSome_iff_exists.mp h.top
  obtain ⟨r, hr⟩ := State.topJava?_eq_some.mp hg0
  have hr' : (({ U with heap := s₂.heap, slotsUsed := s₂.slotsUsed } : State).setVm s₂.vm).frames = .java g₀ :: r := hr
  rcases hq' with ⟨hqc, L, hfe, hL⟩ | ⟨q, rfl, E, ce, L, hx, hce, hcv, hcl, hW₂, hsm, hL⟩
  · obtain ⟨⟨v, rfl⟩, hW₂, e2, q2, q3, q4, q5, q6⟩ := id hfe
    have e3 : s₂ = ({ (U.calling g mk a).setFrames s₂.frames with heap := s₂.heap, slotsUsed := s₂.slotsUsed } : State).setVm s₂.vm := by
      have : s₂ = ({ s₂ with vm := (U.calling g mk a).vm } : State).setVm s₂.vm := rfl
      rw [e2] at this
      exact this
    obtain ⟨c₂, i₂, len₂, hc₂, hd₂, hf₂⟩ := hend
    have hW' : U.WarmedH s₂.vm := hW₂
    have hcc : c₂ = c := by
      have h1 : s₂.code? g.method = U.code? g.method := by
        rw [State.code?_eq, State.code?_eq, hW'.alike.method?]
      exact Option.some.inj (hc₂.symm.trans (h1.trans h.code))
    subst hcc
    have hlen : len₂ = len := by rw [hdg] at hd₂; cases hd₂; rfl
    subst hlen
    have hs₂ : s₂ = (({ U with heap := s₂.heap, slotsUsed := s₂.slotsUsed } : State).setVm s₂.vm).setTop { g with pc := g.pc + len₂, stack := v.toList ++ g.stack } := by
      refine e3.trans ?_
      rw [hf₂, State.calling_eq h.top, State.setFrames_setFrames, State.setTop_of_frames _ hr', hr]
      rfl
    have hsame : U.sameButNew ({ U with heap := s₂.heap, slotsUsed := s₂.slotsUsed } : State) L mc ms := by
      refine ⟨?_, q2, q3, q4, q5, q6⟩
      obtain ⟨t, ht, -⟩ := State.frames_cons hr
      show ({ U with heap := s₂.heap, slotsUsed := s₂.slotsUsed } : State) = { U.setFrames U.frames with heap := s₂.heap, slotsUsed := s₂.slotsUsed }
      rw [State.setFrames_self ht]
    subst hg
    refine Or.inl ⟨v, ⟨(({ U with heap := s₂.heap, slotsUsed := s₂.slotsUsed } : State).setVm s₂.vm), Ls ++ L, c0 + mc, s0 + ms⟩,
      ⟨X.admits, X.cas, X.clock, X.frames, X.room, X.hears, X.method, X.code, (X.here.setHeapUsed s₂.heap s₂.slotsUsed).setVm hW'.alike, X.tail, State.WarmedH.trans X.warmed hW', X.limits, X.bytes, X.same.trans (hsame.setVm s.vm)⟩,
      ⟨g, mk, s₂, L, rfl, rfl, hqc, rfl, hL, rfl, rfl⟩, ?_⟩
    show Steps p.tables e below _ ((({ U with heap := s₂.heap, slotsUsed := s₂.slotsUsed } : State).setVm s₂.vm).setTop { g with pc := g.pc + len₂, stack := v.toList ++ g.stack })
    rw [← hs₂]
    exact hsteps
  · obtain ⟨e2, q2, q3, q4, q5, q6⟩ := id hsm
    have e3 : s₂ = ({ (U.calling g mk a).setFrames s₂.frames with heap := s₂.heap, slotsUsed := s₂.slotsUsed } : State).setVm s₂.vm := by
      have : s₂ = ({ s₂ with vm := (U.calling g mk a).vm } : State).setVm s₂.vm := rfl
      rw [e2] at this
      exact this
    have hf₂ : s₂.frames = .throwing q :: .java g :: U.frames.tail := hend
    have hW' : U.WarmedH s₂.vm := hW₂
    have hs₂ : s₂ = ((({ U with heap := s₂.heap, slotsUsed := s₂.slotsUsed } : State).setVm s₂.vm).setTop g).pushFrame (.throwing q) := by
      refine e3.trans ?_
      rw [hf₂, State.calling_eq h.top, State.setFrames_setFrames, State.pushFrame, State.frames_setTop _ hr', State.setTop_of_frames _ hr', State.setFrames_setFrames, hr]
      rfl
    have hsame : U.sameButNew ({ U with heap := s₂.heap, slotsUsed := s₂.slotsUsed } : State) L mc ms := by
      refine ⟨?_, q2, q3, q4, q5, q6⟩
      obtain ⟨t, ht, -⟩ := State.frames_cons hr
      show ({ U with heap := s₂.heap, slotsUsed := s₂.slotsUsed } : State) = { U.setFrames U.frames with heap := s₂.heap, slotsUsed := s₂.slotsUsed }
      rw [State.setFrames_self ht]
    subst hg
    refine Or.inr ⟨q, ⟨(({ U with heap := s₂.heap, slotsUsed := s₂.slotsUsed } : State).setVm s₂.vm), Ls ++ L, c0 + mc, s0 + ms⟩,
      ⟨X.admits, X.cas, X.clock, X.frames, X.room, X.hears, X.method, X.code, (X.here.setHeapUsed s₂.heap s₂.slotsUsed).setVm hW'.alike, X.tail, State.WarmedH.trans X.warmed hW', X.limits, X.bytes, X.same.trans (hsame.setVm s.vm)⟩,
      ⟨g, mk, s₂, L, E, ce, rfl, rfl, hx, hce, hcv, hcl, rfl, hL, rfl, rfl⟩, ?_⟩
    show Steps p.tables e below _ (((({ U with heap := s₂.heap, slotsUsed := s₂.slotsUsed } : State).setVm s₂.vm).setTop g).pushFrame (.throwing q))
    rw [← hs₂]
    exact hsteps
end
variable {p : Program} {l : Launch} {e : Env} {R : Room} {s : State} {m : MethodId} {args : Array Value} {below : List Frame} {meth : Method} {c : Code} {T : State} {H : Heap} {locs : List Loc} {cells slots : Nat}
theorem vx_callVX (X : Stand p l e R s m args below meth c T locs cells slots) (hexec : p.tables.exec = Jvm.exec) {own C : String} {index : Nat} {y : MethodName} {bytes : ByteArray} {maxL : Nat} {ret : Option FieldType} {hh : List (Nat × Nat × Nat × Nat)}
    (hown : s.vm.findClass own = some m.cls) (hlink : (Cond.methodLink own index y).before args s = true) (hinst : (Cond.instanceMethod y).before args s = true) (hsel : (Cond.selects C y y).before args s = true)
    (hcode : (Cond.codeWith y bytes maxL ret hh).before args s = true) (hy : y.cls ≠ "java/lang/invoke/MethodHandle" ∧ y.cls ≠ "java/lang/invoke/VarHandle")
    {W9 : Nat} {Pre : Pt → Array Value → Prop} {Post : Pt → Array Value → Option Value → Pt → Prop} {PostX : Pt → Array Value → Addr → Pt → Prop} (hK : vx_Back l R p e below s args y 3 W9 Pre Post PostX)
    {b : Addr} {cellB : Cell} (hcell : T.heap[b]? = some cellB) (hobj : cellB.vm.isStatics = false) (hcls : s.vm.findClass C = some cellB.cls)
    {g : JFrame} (hg : g.method = m) (hsize : g.locals.size = c.maxLocals) {argsL rest : List Value} (hlen : ∀ sig, parseMethodDescriptor y.desc = some sig → argsL.length = sig.parameters.length)
    (hstack : g.stack = argsL.reverse ++ .ref b :: rest) (hW : 2 * g.monitorRoom + (rest.map fun v => v.category).sum ≤ W9) (hdg : decode c.code g.pc = .ok (.invokevirtual index, 3))
    (hpre : ∀ vm₁, s.WarmedH vm₁ → Pre ⟨T.setVm vm₁, locs, cells, slots⟩ (Value.ref b :: argsL).toArray) :
    (∃ (v : Option Value) (vm₁ : Vm) (B : Pt), s.WarmedH vm₁ ∧ Stand p l e R s m args below meth c B.U B.locs B.cells B.slots ∧ Post ⟨T.setVm vm₁, locs, cells, slots⟩ (Value.ref b :: argsL).toArray v B ∧
      ∀ target, Steps p.tables e below (B.U.setTop { g with pc := g.pc + 3, stack := v.toList ++ rest }) target → Steps p.tables e below (T.setTop g) target) ∨
    (∃ (q : Addr) (vm₁ : Vm) (B : Pt), s.WarmedH vm₁ ∧ Stand p l e R s m args below meth c B.U B.locs B.cells B.slots ∧ PostX ⟨T.setVm vm₁, locs, cells, slots⟩ (Value.ref b :: argsL).toArray q B ∧
      Steps p.tables e below (T.setTop g) ((B.U.setTop { g with stack := rest }).pushFrame (.throwing q))) := by
  obtain ⟨mk, methM, hnamed, hmethM, hstM, habM⟩ := Cond.instanceMethod_spec hinst
  obtain ⟨m8, methM', cM, hn8, hmethM', -, -, -, -, -, -, hsigM⟩ := Cond.codeWith_spec hcode
  cases Option.some.inj (hn8.symm.trans hnamed)
  cases hmethM.symm.trans hmethM'
  obtain ⟨c2, r2, m2, q1, q2, q3, q4, kP, hkP, hkPi⟩ := Cond.selects_spec hsel
  cases hcls.symm.trans q1
  cases (State.methodFound?_of_named hnamed hy).symm.trans q2
  cases hnamed.symm.trans q3
  have hselP : selectMethod e.platform s.vm cellB.cls mk = .method mk := by rw [Launch.admits_selectMethod X.admits]; exact q4
  obtain ⟨vm₁, X₁, hstep₁⟩ := X.invokevirtual hexec hown hlink hnamed hmethM hstM hkP hkPi hy (a := b) (cell := cellB) hcell
    (fun z h => by rw [h] at hobj; cases hobj) hselP hmethM habM hkP hkPi (g := g) hg (argsL := argsL) (rest := rest) (hlen _ hsigM) hstack hdg
  rcases hK m meth c ⟨T.setVm vm₁, locs, cells, slots⟩ { g with stack := rest } (.invokevirtual index) mk (Value.ref b :: argsL).toArray X₁ hg hsize hdg hW (X₁.named hnamed) (hpre vm₁ X₁.warmed) with ⟨v, B, X', hpost, hsteps⟩ | ⟨q, B, X', hpost, hsteps⟩
  · exact Or.inl ⟨v, vm₁, B, X₁.warmed, X', hpost, fun target h => hstep₁ _ fun acts => by rw [doInvoke_state]; exact hsteps.trans h⟩
  · exact Or.inr ⟨q, vm₁, B, X₁.warmed, X', hpost, hstep₁ _ fun acts => by rw [doInvoke_state]; exact hsteps⟩
theorem vx_callSX (X : Stand p l e R s m args below meth c T locs cells slots) (hexec : p.tables.exec = Jvm.exec) {own : String} {index : Nat} {y : MethodName} {bytes : ByteArray} {maxL : Nat} {ret : Option FieldType} {hh : List (Nat × Nat × Nat × Nat)}
    (hown : s.vm.findClass own = some m.cls) (hlink : (Cond.methodLink own index y).before args s = true) (hstat : (Cond.static y).before args s = true) (hinit : (Cond.initialized y.cls).before args s = true)
    (hcode : (Cond.codeWith y bytes maxL ret hh).before args s = true) (hy : y.cls ≠ "java/lang/invoke/MethodHandle" ∧ y.cls ≠ "java/lang/invoke/VarHandle")
    {W9 : Nat} {Pre : Pt → Array Value → Prop} {Post : Pt → Array Value → Option Value → Pt → Prop} {PostX : Pt → Array Value → Addr → Pt → Prop} (hK : vx_Back l R p e below s args y 3 W9 Pre Post PostX)
    {g : JFrame} (hg : g.method = m) (hsize : g.locals.size = c.maxLocals) {argsL rest : List Value} (hlen : ∀ sig, parseMethodDescriptor y.desc = some sig → argsL.length = sig.parameters.length)
    (hstack : g.stack = argsL.reverse ++ rest) (hW : 2 * g.monitorRoom + (rest.map fun v => v.category).sum ≤ W9) (hdg : decode c.code g.pc = .ok (.invokestatic index, 3))
    (hpre : ∀ vm₁, s.WarmedH vm₁ → Pre ⟨T.setVm vm₁, locs, cells, slots⟩ argsL.toArray) :
    (∃ (v : Option Value) (vm₁ : Vm) (B : Pt), s.WarmedH vm₁ ∧ Stand p l e R s m args below meth c B.U B.locs B.cells B.slots ∧ Post ⟨T.setVm vm₁, locs, cells, slots⟩ argsL.toArray v B ∧
      ∀ target, Steps p.tables e below (B.U.setTop { g with pc := g.pc + 3, stack := v.toList ++ rest }) target → Steps p.tables e below (T.setTop g) target) ∨
    (∃ (q : Addr) (vm₁ : Vm) (B : Pt), s.WarmedH vm₁ ∧ Stand p l e R s m args below meth c B.U B.locs B.cells B.slots ∧ PostX ⟨T.setVm vm₁, locs, cells, slots⟩ argsL.toArray q B ∧
      Steps p.tables e below (T.setTop g) ((B.U.setTop { g with stack := rest }).pushFrame (.throwing q))) := by
  obtain ⟨mk, methM, cM, hnamed, hmethM, -, -, -, -, -, -, hsigM⟩ := Cond.codeWith_spec hcode
  have hstatic : methM.isStatic = true := Cond.static_spec hnamed hmethM hstat
  obtain ⟨kP, hkP, -⟩ := className_of_methodNamed hnamed
  have hinitP : kP.init = .initialized := Cond.initialized_spec (findClass_of_methodNamed hnamed) hkP hinit
  obtain ⟨vm₁, X₁, hstep₁⟩ := X.invokestatic hexec hown hlink hnamed hmethM hstatic hkP hinitP hy (g := g) hg (argsL := argsL) (rest := rest) (hlen _ hsigM) hstack hdg
  rcases hK m meth c ⟨T.setVm vm₁, locs, cells, slots⟩ { g with stack := rest } (.invokestatic index) mk argsL.toArray X₁ hg hsize hdg hW (X₁.named hnamed) (hpre vm₁ X₁.warmed) with ⟨v, B, X', hpost, hsteps⟩ | ⟨q, B, X', hpost, hsteps⟩
  · exact Or.inl ⟨v, vm₁, B, X₁.warmed, X', hpost, fun target h => hstep₁ _ fun acts => by rw [doInvoke_state]; exact hsteps.trans h⟩
  · exact Or.inr ⟨q, vm₁, B, X₁.warmed, X', hpost, hstep₁ _ fun acts => by rw [doInvoke_state]; exact hsteps⟩
theorem vx_callVW (X : Stand p l e R s m args below meth c T locs cells slots) (hexec : p.tables.exec = Jvm.exec) {own C : String} {index : Nat} {y : MethodName} {bytes : ByteArray} {maxL : Nat} {ret : Option FieldType} {hh : List (Nat × Nat × Nat × Nat)}
    (hown : s.vm.findClass own = some m.cls) (hlink : (Cond.methodLink own index y).before args s = true) (hinst : (Cond.instanceMethod y).before args s = true) (hsel : (Cond.selects C y y).before args s = true)
    (hcode : (Cond.codeWith y bytes maxL ret hh).before args s = true) (hy : y.cls ≠ "java/lang/invoke/MethodHandle" ∧ y.cls ≠ "java/lang/invoke/VarHandle")
    {W9 : Nat} {Pre : Pt → Array Value → Prop} {Post : Pt → Array Value → Option Value → Pt → Prop} (hK : Back l R p e below s args y 3 W9 Pre Post)
    {b : Addr} {cellB : Cell} (hcell : T.heap[b]? = some cellB) (hobj : cellB.vm.isStatics = false) (hcls : s.vm.findClass C = some cellB.cls)
    {g : JFrame} (hg : g.method = m) (hsize : g.locals.size = c.maxLocals) {argsL rest : List Value} (hlen : ∀ sig, parseMethodDescriptor y.desc = some sig → argsL.length = sig.parameters.length)
    (hstack : g.stack = argsL.reverse ++ .ref b :: rest) (hW : 2 * g.monitorRoom + (rest.map fun v => v.category).sum ≤ W9) (hdg : decode c.code g.pc = .ok (.invokevirtual index, 3))
    (hpre : ∀ vm₁, s.WarmedH vm₁ → Pre ⟨T.setVm vm₁, locs, cells, slots⟩ (Value.ref b :: argsL).toArray) :
    ∃ (v : Option Value) (vm₁ : Vm) (B : Pt), s.WarmedH vm₁ ∧ Stand p l e R s m args below meth c B.U B.locs B.cells B.slots ∧ Post ⟨T.setVm vm₁, locs, cells, slots⟩ (Value.ref b :: argsL).toArray v B ∧
      ∀ target, Steps p.tables e below (B.U.setTop { g with pc := g.pc + 3, stack := v.toList ++ rest }) target → Steps p.tables e below (T.setTop g) target := by
  obtain ⟨mk, methM, hnamed, hmethM, hstM, habM⟩ := Cond.instanceMethod_spec hinst
  obtain ⟨m8, methM', cM, hn8, hmethM', -, -, -, -, -, -, hsigM⟩ := Cond.codeWith_spec hcode
  cases Option.some.inj (hn8.symm.trans hnamed)
  cases hmethM.symm.trans hmethM'
  obtain ⟨c2, r2, m2, q1, q2, q3, q4, kP, hkP, hkPi⟩ := Cond.selects_spec hsel
  cases hcls.symm.trans q1
  cases (State.methodFound?_of_named hnamed hy).symm.trans q2
  cases hnamed.symm.trans q3
  have hselP : selectMethod e.platform s.vm cellB.cls mk = .method mk := by rw [Launch.admits_selectMethod X.admits]; exact q4
  obtain ⟨vm₁, X₁, hstep₁⟩ := X.invokevirtual hexec hown hlink hnamed hmethM hstM hkP hkPi hy (a := b) (cell := cellB) hcell
    (fun z h => by rw [h] at hobj; cases hobj) hselP hmethM habM hkP hkPi (g := g) hg (argsL := argsL) (rest := rest) (hlen _ hsigM) hstack hdg
  obtain ⟨v, B, X', hpost, hsteps⟩ := hK m meth c ⟨T.setVm vm₁, locs, cells, slots⟩ { g with stack := rest } (.invokevirtual index) mk (Value.ref b :: argsL).toArray X₁ hg hsize hdg hW (X₁.named hnamed) (hpre vm₁ X₁.warmed)
  exact ⟨v, vm₁, B, X₁.warmed, X', hpost, fun target h => hstep₁ _ fun acts => by rw [doInvoke_state]; exact hsteps.trans h⟩
abbrev vx_CVW (R : Room) (s : State) (args : Array Value) (own C : String) (index : Nat) (y : MethodName) (bytes : ByteArray) (maxL : Nat) (ret : Option FieldType) (hh : List (Nat × Nat × Nat × Nat)) (ws : List Cond) (rm : Room) (mc ms n : Nat) : Prop :=
  (rm.cells = mc ∧ rm.slots = ms ∧ rm.frames + 1 ≤ R.frames ∧ 8 + (maxL + 11) + rm.locals ≤ R.locals ∧ (∀ w ∈ ws, ∀ (a' : Array Value) (U : State), s.WarmedH U.vm → w.before a' U = true) ∧ Cond.codeWith y bytes maxL ret hh ∈ ws) ∧
  (Cond.codeWith y bytes maxL ret hh).before args s = true ∧ (Cond.initialized y.cls).before args s = true ∧ (y.cls ≠ "java/lang/invoke/MethodHandle" ∧ y.cls ≠ "java/lang/invoke/VarHandle") ∧
  (∀ sig, parseMethodDescriptor y.desc = some sig → n = sig.parameters.length) ∧ (Cond.methodLink own index y).before args s = true ∧ (Cond.instanceMethod y).before args s = true ∧ (Cond.selects C y y).before args s = true
theorem vx_cwVW {own C : String} {index maxL mc ms : Nat} {y : MethodName} {bytes : ByteArray} {ret : Option FieldType} {hh : List (Nat × Nat × Nat × Nat)} {Ts ws ws' : List Cond} {rm : Room} (n : Nat) (ht : ∀ w ∈ Ts, w.before args s = true) (hT : GoodIn Ts (wsV own index C y ws)) (hw : ws = Cond.codeWith y bytes maxL ret hh :: ws') (hrc : rm.cells = mc) (hrs : rm.slots = ms)
    (hd : y.cls = C ∧ y.cls ≠ "java/lang/invoke/MethodHandle" ∧ y.cls ≠ "java/lang/invoke/VarHandle" ∧ (parseMethodDescriptor y.desc).map (fun d => d.parameters.length) = some n) (hR : rm.frames + 1 ≤ R.frames ∧ 8 + (maxL + 11) + rm.locals ≤ R.locals) :
    vx_CVW R s args own C index y bytes maxL ret hh ws rm mc ms n := by
  obtain ⟨hC, hd⟩ := hd
  subst hC
  have ok : ∀ w ∈ wsV own index y.cls y ws, w.before args s = true := fun w h => ht w (hT w h).1
  have hG : GoodIn Ts ws := fun w h => hT w (by unfold wsV; exact List.mem_append_right _ h)
  have hc : Cond.codeWith y bytes maxL ret hh ∈ ws := by rw [hw]; exact List.mem_cons_self
  refine ⟨⟨hrc, hrs, hR.1, hR.2, pay_in ht hG, hc⟩, ht _ (hG _ hc).1, ok _ (by simp [wsV]), ⟨hd.1, hd.2.1⟩, fun sig h => ?_, ok _ (by simp [wsV]), ok _ (by simp [wsV]), ok _ (by simp [wsV])⟩
  have h2 := hd.2.2
  rw [h] at h2
  exact (Option.some.inj h2).symm
theorem vx_runVW {y : MethodName} {bytes cc : ByteArray} {maxL nL mc ms n index : Nat} {ret : Option FieldType} {hh : List (Nat × Nat × Nat × Nat)} {ws : List Cond} {rm : Room} {Pc : Array Value → State → Prop} {Qc : Array Value → State → Outcome → State → Prop} {free : Addr → Prop} {Ts : List Cond} {own C : String} {b : Addr} {As rest : List Value} {g : JFrame}
    (S : CallFix p m c cc nL s args Ts own) (hM : Met l y ws rm Pc Qc mc ms free) (cw : vx_CVW R s args own C index y bytes maxL ret hh ws rm mc ms n) (hp : PreV s H C b Pc As)
    (hg : g.method = m) (hn : As.length = n) (hsize : g.locals.size = nL) (hstack : g.stack = As.reverse ++ .ref b :: rest) (hW : 2 * g.monitorRoom + (rest.map fun v => v.category).sum ≤ 8) (hdg : decode cc g.pc = .ok (.invokevirtual index, 3)) (hf : cells + mc ≤ R.cells ∧ slots + ms ≤ R.slots) :
    va_Run p l e R s m args below meth c H locs cells slots mc ms g rest (Qc (Value.ref b :: As).toArray) free := by
  obtain ⟨⟨hrc, hrs, hfr, hlo, hws, hcw⟩, hcode, hini, hy, hlen, hl, hin, hse⟩ := cw
  have hK : Back l R p e below s args y 3 8 (PreOf R mc ms Pc) (PostOf Qc mc ms free) := va_backW (hh := hh) (bytes := bytes) (maxL := maxL) (ret := ret) hM hp.1 hrc hrs hfr hlo hws hcw (fun a' U hW => word_at hW (Or.inl (by first | rfl | simp [Cond.onTables, Cond.keeps, Cond.steady])) hini)
  obtain ⟨hx, hb, hml, ho, -⟩ := S
  obtain ⟨-, ⟨cellB, hcB, hoB, hclB⟩, hPc⟩ := hp
  intro T hT X
  obtain ⟨v, vm₁, ⟨U', l2, c2, s2⟩, hW₁, X', ⟨g', mk, t, L, e1, e2, hq, h1, hL, h2, h3⟩, st⟩ := vx_callVW X hx (C := C) (hh := hh) (bytes := bytes) (maxL := maxL) (ret := ret) ho hl hin hse hcode hy hK (by rw [hT]; exact hcB) hoB hclB hg (hsize.trans hml.symm) (argsL := As) (rest := rest) (fun sig h => hn.trans (hlen sig h)) hstack hW (by rw [hb]; exact hdg)
    (fun vm₁ hW₁ => ⟨hf.1, hf.2, hPc (T.setVm vm₁) hT hW₁⟩)
  dsimp only [Pt.U, Pt.locs, Pt.cells, Pt.slots] at X' e1 e2 h1 h2 h3 st
  subst h1; subst h2; subst h3
  exact ⟨v, (T.setVm vm₁).calling g' mk (Value.ref b :: As).toArray, t, U', L, hT, X', hL, e1, e2, hq, st⟩
section
variable {y : MethodName} {bytes cc : ByteArray} {maxL nL mc ms n index : Nat} {ret : Option FieldType} {ws : List Cond} {rm : Room} {Pc : Array Value → State → Prop} {Qc : Array Value → State → Outcome → State → Prop} {XC : String → State → State → Prop} {free : Addr → Prop} {Ts : List Cond} {own C : String} {b : Addr} {As rest : List Value} {g : JFrame}
theorem vx_runVX {hh : List (Nat × Nat × Nat × Nat)} (S : CallFix p m c cc nL s args Ts own) (hM : vx_Met l y ws rm Pc Qc XC mc ms free) (cw : vx_CVW R s args own C index y bytes maxL ret hh ws rm mc ms n) (hp : PreV s H C b Pc As)
    (hg : g.method = m) (hn : As.length = n) (hsize : g.locals.size = nL) (hstack : g.stack = As.reverse ++ .ref b :: rest) (hW : 2 * g.monitorRoom + (rest.map fun v => v.category).sum ≤ 8) (hdg : decode cc g.pc = .ok (.invokevirtual index, 3)) (hf : cells + mc ≤ R.cells ∧ slots + ms ≤ R.slots) :
    vx_Run p l e R s m args below meth c H locs cells slots mc ms g rest (Qc (Value.ref b :: As).toArray) XC free := by
  obtain ⟨⟨hrc, hrs, hfr, hlo, hws, hcw⟩, hcode, hini, hy, hlen, hl, hin, hse⟩ := cw
  have hK : vx_Back l R p e below s args y 3 8 (PreOf R mc ms Pc) (PostOf Qc mc ms free) (vx_Post XC mc ms free) := vx_backW (hh := hh) (bytes := bytes) (maxL := maxL) (ret := ret) hM hp.1 hrc hrs hfr hlo hws hcw (fun a' U hW => word_at hW (Or.inl (by first | rfl | simp [Cond.onTables, Cond.keeps, Cond.steady])) hini)
  obtain ⟨hx, hb, hml, ho, -⟩ := S
  obtain ⟨-, ⟨cellB, hcB, hoB, hclB⟩, hPc⟩ := hp
  intro T hT X
  rcases vx_callVX X hx (C := C) (hh := hh) (bytes := bytes) (maxL := maxL) (ret := ret) ho hl hin hse hcode hy hK (by rw [hT]; exact hcB) hoB hclB hg (hsize.trans hml.symm) (argsL := As) (rest := rest) (fun sig h => hn.trans (hlen sig h)) hstack hW (by rw [hb]; exact hdg)
    (fun vm₁ hW₁ => ⟨hf.1, hf.2, hPc (T.setVm vm₁) hT hW₁⟩) with ⟨v, vm₁, ⟨U', l2, c2, s2⟩, hW₁, X', ⟨g', mk, t, L, e1, e2, hq, h1, hL, h2, h3⟩, st⟩ | ⟨q, vm₁, ⟨U', l2, c2, s2⟩, hW₁, X', ⟨g', mk, t, L, E, ce, e1, e2, hq, hce, hcv, hcl, h1, hL, h2, h3⟩, st⟩
  · dsimp only [Pt.U, Pt.locs, Pt.cells, Pt.slots] at X' e1 e2 h1 h2 h3 st
    subst h1; subst h2; subst h3
    exact Or.inl ⟨v, (T.setVm vm₁).calling g' mk (Value.ref b :: As).toArray, t, U', L, hT, X', hL, e1, e2, hq, st⟩
  · dsimp only [Pt.U, Pt.locs, Pt.cells, Pt.slots] at X' e1 e2 h1 h2 h3 st hcl
    subst h1; subst h2; subst h3
    exact Or.inr ⟨q, (T.setVm vm₁).calling g' mk (Value.ref b :: As).toArray, t, U', L, E, ce, hT, X', hL, e1, e2, hq, hce, hcv, vx_cls hW₁ hcl, st⟩
theorem vx_runSX {hh : List (Nat × Nat × Nat × Nat)} (S : CallFix p m c cc nL s args Ts own) (hM : vx_Met l y ws rm Pc Qc XC mc ms free) (cw : vx_CSW R s args own index y bytes maxL ret hh ws rm mc ms n) (hp : PreS s H Pc As)
    (hg : g.method = m) (hn : As.length = n) (hsize : g.locals.size = nL) (hstack : g.stack = As.reverse ++ rest) (hW : 2 * g.monitorRoom + (rest.map fun v => v.category).sum ≤ 8) (hdg : decode cc g.pc = .ok (.invokestatic index, 3)) (hf : cells + mc ≤ R.cells ∧ slots + ms ≤ R.slots) :
    vx_Run p l e R s m args below meth c H locs cells slots mc ms g rest (Qc As.toArray) XC free := by
  obtain ⟨⟨hrc, hrs, hfr, hlo, hws, hcw⟩, hcode, hini, hy, hlen, hl, hstt⟩ := cw
  have hK : vx_Back l R p e below s args y 3 8 (PreOf R mc ms Pc) (PostOf Qc mc ms free) (vx_Post XC mc ms free) := vx_backW (hh := hh) (bytes := bytes) (maxL := maxL) (ret := ret) hM hp.1 hrc hrs hfr hlo hws hcw (fun a' U hW => word_at hW (Or.inl (by first | rfl | simp [Cond.onTables, Cond.keeps, Cond.steady])) hini)
  obtain ⟨hx, hb, hml, ho, -⟩ := S
  intro T hT X
  rcases vx_callSX X hx (hh := hh) (bytes := bytes) (maxL := maxL) (ret := ret) ho hl hstt hini hcode hy hK hg (hsize.trans hml.symm) (argsL := As) (rest := rest) (fun sig h => hn.trans (hlen sig h)) hstack hW (by rw [hb]; exact hdg)
    (fun vm₁ hW₁ => ⟨hf.1, hf.2, hp.2 (T.setVm vm₁) hT hW₁⟩) with ⟨v, vm₁, ⟨U', l2, c2, s2⟩, hW₁, X', ⟨g', mk, t, L, e1, e2, hq, h1, hL, h2, h3⟩, st⟩ | ⟨q, vm₁, ⟨U', l2, c2, s2⟩, hW₁, X', ⟨g', mk, t, L, E, ce, e1, e2, hq, hce, hcv, hcl, h1, hL, h2, h3⟩, st⟩
  · dsimp only [Pt.U, Pt.locs, Pt.cells, Pt.slots] at X' e1 e2 h1 h2 h3 st
    subst h1; subst h2; subst h3
    exact Or.inl ⟨v, (T.setVm vm₁).calling g' mk As.toArray, t, U', L, hT, X', hL, e1, e2, hq, st⟩
  · dsimp only [Pt.U, Pt.locs, Pt.cells, Pt.slots] at X' e1 e2 h1 h2 h3 st hcl
    subst h1; subst h2; subst h3
    exact Or.inr ⟨q, (T.setVm vm₁).calling g' mk As.toArray, t, U', L, E, ce, hT, X', hL, e1, e2, hq, hce, hcv, vx_cls hW₁ hcl, st⟩
end
end VXH
theorem vx_ofWH {l : Launch} {y : MethodName} {ws ws' : List Cond} {rm : Room} {Pc : Array Value → State → Prop} {Qc : Array Value → State → Outcome → State → Prop} {XC : String → State → State → Prop} {mc ms : Nat} {free : Addr → Prop} {cc : ByteArray} {maxL : Nat} {ret : Option FieldType} {hh : List (Nat × Nat × Nat × Nat)}
    (hy : plainName y.cls = true) (hw : ws = Cond.codeWith y cc maxL ret hh :: ws')
    (body : ∀ p e s m args below meth c s₁, BodyLoose p l y (headSpec ws rm) cc maxL ret e s m args below meth c s₁ → c.maxLocals = maxL → Pc args s →
      W p l e (headSpec ws rm).room s m args below meth c s.heap [] 0 0 (vx_MQ below Qc XC args s mc ms free) (entryFrame m args maxL)) : vx_Met l y ws rm Pc Qc XC mc ms free := by
  refine MetFree.of_bodyS (code := cc) (maxLocals := maxL) (ret := ret) hy ?_ ?_
  · intro args s m h hn
    obtain ⟨m9, meth, c, hn9, h1, h2, h3, h4, -, h5, h6, -⟩ := Cond.codeWith_spec (atoms_spec (ws := ws) h _ (by rw [hw]; exact List.mem_cons_self))
    cases hn.symm.trans hn9
    exact ⟨meth, c, h1, h2, h3, h4, h5, h6⟩
  · intro p e s m args below meth c s₁ B hml hP _
    have hh0 : s₁.heap = s.heap := by rw [B.state]; rfl
    obtain ⟨t, a1, o, b1, b2, b3⟩ := body p e s m args below meth c s₁ B hml hP s₁ hh0 (Stand.of_body B)
    exact ⟨t, o, a1, b1, b2, b3⟩
/-! ===== END ===== -/
end
section
/-- the code of NoSuchElementException(String): its super's constructor by the entry 13 -/
def zNb : ByteArray := ⟨#[0x2a, 0x2b, 0xb7, 0x00, 0x0d, 0xb1]⟩
/-- the words of 'throw new NoSuchElementException("text")', as Bundle.ownAtoms has them for an entry 7 -/
def zNown (own : String) (ic : Nat) : List Cond := Bundle.throwableAtoms ++ Bundle.throwableSAtoms ++ (Bundle.passSAtoms "java/util/NoSuchElementException" "java/lang/RuntimeException" 13 zNb ++ Bundle.chainSAtoms "java/lang/RuntimeException" ["java/lang/Exception"]) ++ (Bundle.ownAtoms own ic "java/util/NoSuchElementException" []).drop (Bundle.throwableAtoms ++ Bundle.throwableSAtoms ++ Bundle.chainSAtoms "java/util/NoSuchElementException" []).length
def zNat (own : String) (ic : Nat) : List Cond := (zNown own ic).filter vx_no
end
section
/-! ===== BEGIN printed: names, fields, word lists, decode rows ===== -/
def RX0 : String := "Ringtrack$Code"
def TX0 : u_T := fun k => match k with
  | 0 => ("Ringtrack$Code", "words", "[I", true)
  | 1 => ("Ringtrack$Code", "tracks", "I", true)
  | _ => ("Ringtrack$Code", "places", "[I", true)
def tyX0 : Nat → FieldType := fun k => match k with
  | 0 => .array .int
  | 1 => .int
  | _ => .array .int
abbrev wsX00 : List Cond := u_ws RX0 TX0 3
theorem nmX0 : ∀ a, a < 3 → ∀ b, b < 3 → a ≠ b → (TX0 a).2.1 ≠ (TX0 b).2.1 := by decide +kernel
theorem tyX0_ok : ∀ k, k < 3 → parseFieldDescriptor (TX0 k).2.2.1 = some (tyX0 k) := by decide +kernel
abbrev cX0_init : ByteArray := prog_2_method_1_code
def yX0_init : MethodName := ⟨RX0, "<init>", "([I)V"⟩
abbrev cX0_hasPlace : ByteArray := prog_2_method_2_code
def yX0_hasPlace : MethodName := ⟨RX0, "hasPlace", "(I)Z"⟩
abbrev cX0_hasTrack : ByteArray := prog_2_method_3_code
def yX0_hasTrack : MethodName := ⟨RX0, "hasTrack", "(I)Z"⟩
abbrev cX0_wordAt : ByteArray := prog_2_method_4_code
def yX0_wordAt : MethodName := ⟨RX0, "wordAt", "(I)I"⟩
abbrev cX0_placeOf : ByteArray := prog_2_method_5_code
def yX0_placeOf : MethodName := ⟨RX0, "placeOf", "(I)I"⟩
abbrev cX0_mark : ByteArray := prog_2_method_6_code
def yX0_mark : MethodName := ⟨RX0, "mark", "(II)I"⟩
abbrev cX0_changesOf : ByteArray := prog_2_method_7_code
def yX0_changesOf : MethodName := ⟨RX0, "changesOf", "(I)I"⟩
abbrev cX0_changesEvenly : ByteArray := prog_2_method_8_code
def yX0_changesEvenly : MethodName := ⟨RX0, "changesEvenly", "()Z"⟩
abbrev cX0_repeatsFirstTrack : ByteArray := prog_2_method_9_code
def yX0_repeatsFirstTrack : MethodName := ⟨RX0, "repeatsFirstTrack", "()Z"⟩
abbrev cX0_isFirstTrackMoved : ByteArray := prog_2_method_10_code
def yX0_isFirstTrackMoved : MethodName := ⟨RX0, "isFirstTrackMoved", "(I)Z"⟩
abbrev cX0_isFirstTrackFrom : ByteArray := prog_2_method_11_code
def yX0_isFirstTrackFrom : MethodName := ⟨RX0, "isFirstTrackFrom", "(II)Z"⟩
def RX1 : String := "Ringtrack$Disc"
def TX1 : u_T := fun k => match k with
  | 0 => ("Ringtrack$Disc", "turn", "I", true)
  | 1 => ("Ringtrack$Disc", "heads", "LRingtrack$Heads;", true)
  | 2 => ("Ringtrack$Disc", "reading", "LRingtrack$Reading;", true)
  | 3 => ("Ringtrack$Disc", "gears", "LRingtrack$Gears;", true)
  | 4 => ("Ringtrack$Disc", "angle", "I", false)
  | 5 => ("Ringtrack$Disc", "rounds", "I", false)
  | 6 => ("Ringtrack$Disc", "isPowered", "Z", false)
  | _ => ("Ringtrack$Disc", "page", "[I", true)
def tyX1 : Nat → FieldType := fun k => match k with
  | 0 => .int
  | 1 => .object "Ringtrack$Heads"
  | 2 => .object "Ringtrack$Reading"
  | 3 => .object "Ringtrack$Gears"
  | 4 => .int
  | 5 => .int
  | 6 => .boolean
  | _ => .array .int
abbrev wsX10 : List Cond := u_ws RX1 TX1 8
theorem nmX1 : ∀ a, a < 8 → ∀ b, b < 8 → a ≠ b → (TX1 a).2.1 ≠ (TX1 b).2.1 := by decide +kernel
theorem tyX1_ok : ∀ k, k < 8 → parseFieldDescriptor (TX1 k).2.2.1 = some (tyX1 k) := by decide +kernel
abbrev cX1_init : ByteArray := prog_3_method_1_code
def yX1_init : MethodName := ⟨RX1, "<init>", "(LRingtrack$Code;I)V"⟩
abbrev cX1_advance : ByteArray := prog_3_method_2_code
def yX1_advance : MethodName := ⟨RX1, "advance", "(I)V"⟩
def RX2 : String := "Ringtrack$Frames"
def TX2 : u_T := fun k => match k with
  | 0 => ("Ringtrack$Frames", "count", "I", false)
  | 1 => ("Ringtrack$Frames", "underWay", "[I", true)
  | 2 => ("Ringtrack$Frames", "arrivedCount", "I", false)
  | 3 => ("Ringtrack$Frames", "takenCount", "I", false)
  | 4 => ("Ringtrack$Frames", "badCount", "I", false)
  | 5 => ("Ringtrack$Frames", "ticksLeft", "[I", true)
  | _ => ("Ringtrack$Frames", "arrived", "[I", true)
def tyX2 : Nat → FieldType := fun k => match k with
  | 0 => .int
  | 1 => .array .int
  | 2 => .int
  | 3 => .int
  | 4 => .int
  | 5 => .array .int
  | _ => .array .int
abbrev wsX20 : List Cond := u_ws RX2 TX2 7
theorem nmX2 : ∀ a, a < 7 → ∀ b, b < 7 → a ≠ b → (TX2 a).2.1 ≠ (TX2 b).2.1 := by decide +kernel
theorem tyX2_ok : ∀ k, k < 7 → parseFieldDescriptor (TX2 k).2.2.1 = some (tyX2 k) := by decide +kernel
abbrev cX2_init : ByteArray := prog_4_method_1_code
def yX2_init : MethodName := ⟨RX2, "<init>", "()V"⟩
abbrev cX2_clear : ByteArray := prog_4_method_2_code
def yX2_clear : MethodName := ⟨RX2, "clear", "()V"⟩
def RX3 : String := "Ringtrack$Gears"
def TX3 : u_T := fun k => match k with
  | 0 => ("Ringtrack$Gears", "count", "I", false)
  | 1 => ("Ringtrack$Gears", "slips", "[I", true)
  | _ => ("Ringtrack$Gears", "teeth", "[I", true)
def tyX3 : Nat → FieldType := fun k => match k with
  | 0 => .int
  | 1 => .array .int
  | _ => .array .int
abbrev wsX30 : List Cond := u_ws RX3 TX3 3
theorem nmX3 : ∀ a, a < 3 → ∀ b, b < 3 → a ≠ b → (TX3 a).2.1 ≠ (TX3 b).2.1 := by decide +kernel
theorem tyX3_ok : ∀ k, k < 3 → parseFieldDescriptor (TX3 k).2.2.1 = some (tyX3 k) := by decide +kernel
abbrev cX3_init : ByteArray := prog_5_method_1_code
def yX3_init : MethodName := ⟨RX3, "<init>", "()V"⟩
abbrev cX3_has : ByteArray := prog_5_method_2_code
def yX3_has : MethodName := ⟨RX3, "has", "(I)Z"⟩
abbrev cX3_toothOf : ByteArray := prog_5_method_4_code
def yX3_toothOf : MethodName := ⟨RX3, "toothOf", "(II)I"⟩
abbrev cX3_areInOrder : ByteArray := prog_5_method_7_code
def yX3_areInOrder : MethodName := ⟨RX3, "areInOrder", "(I)Z"⟩
def RX4 : String := "Ringtrack$Heads"
def TX4 : u_T := fun k => match k with
  | 0 => ("Ringtrack$Heads", "code", "LRingtrack$Code;", true)
  | 1 => ("Ringtrack$Heads", "off", "I", true)
  | 2 => ("Ringtrack$Heads", "turn", "I", true)
  | 3 => ("Ringtrack$Heads", "speckCount", "I", false)
  | 4 => ("Ringtrack$Heads", "speckPlaces", "[I", true)
  | 5 => ("Ringtrack$Heads", "speckTracks", "[I", true)
  | 6 => ("Ringtrack$Heads", "speckCreeps", "[I", true)
  | 7 => ("Ringtrack$Heads", "stuckAsZero", "[I", true)
  | _ => ("Ringtrack$Heads", "stuckAsOne", "[I", true)
def tyX4 : Nat → FieldType := fun k => match k with
  | 0 => .object "Ringtrack$Code"
  | 1 => .int
  | 2 => .int
  | 3 => .int
  | 4 => .array .int
  | 5 => .array .int
  | 6 => .array .int
  | 7 => .array .int
  | _ => .array .int
abbrev wsX40 : List Cond := u_ws RX4 TX4 9
theorem nmX4 : ∀ a, a < 9 → ∀ b, b < 9 → a ≠ b → (TX4 a).2.1 ≠ (TX4 b).2.1 := by decide +kernel
theorem tyX4_ok : ∀ k, k < 9 → parseFieldDescriptor (TX4 k).2.2.1 = some (tyX4 k) := by decide +kernel
abbrev cX4_init : ByteArray := prog_6_method_1_code
def yX4_init : MethodName := ⟨RX4, "<init>", "(LRingtrack$Code;I)V"⟩
abbrev cX4_creep : ByteArray := prog_6_method_3_code
def yX4_creep : MethodName := ⟨RX4, "creep", "(I)V"⟩
abbrev cX4_errorAt : ByteArray := prog_6_method_6_code
def yX4_errorAt : MethodName := ⟨RX4, "errorAt", "(I)I"⟩
abbrev cX4_placeUnder : ByteArray := prog_6_method_7_code
def yX4_placeUnder : MethodName := ⟨RX4, "placeUnder", "(II)I"⟩
abbrev cX4_wordUnder : ByteArray := prog_6_method_8_code
def yX4_wordUnder : MethodName := ⟨RX4, "wordUnder", "(II)I"⟩
abbrev cX4_estimateAt : ByteArray := prog_6_method_9_code
def yX4_estimateAt : MethodName := ⟨RX4, "estimateAt", "(II)I"⟩
abbrev cX4_middleOf : ByteArray := prog_6_method_10_code
def yX4_middleOf : MethodName := ⟨RX4, "middleOf", "(I)I"⟩
abbrev cX4_between : ByteArray := prog_6_method_11_code
def yX4_between : MethodName := ⟨RX4, "between", "(II)I"⟩
abbrev cX4_toldTogether : ByteArray := prog_6_method_12_code
def yX4_toldTogether : MethodName := ⟨RX4, "toldTogether", "(I)I"⟩
abbrev cX4_tellMiddles : ByteArray := prog_6_method_13_code
def yX4_tellMiddles : MethodName := ⟨RX4, "tellMiddles", "()Z"⟩
def RX5 : String := "Ringtrack$Reading"
def TX5 : u_T := fun k => match k with
  | 0 => ("Ringtrack$Reading", "state", "C", false)
  | 1 => ("Ringtrack$Reading", "told", "I", false)
  | 2 => ("Ringtrack$Reading", "rounds", "I", false)
  | 3 => ("Ringtrack$Reading", "ways", "[I", true)
  | _ => ("Ringtrack$Reading", "wayCount", "I", false)
def tyX5 : Nat → FieldType := fun k => match k with
  | 0 => .char
  | 1 => .int
  | 2 => .int
  | 3 => .array .int
  | _ => .int
abbrev wsX50 : List Cond := u_ws RX5 TX5 5
theorem nmX5 : ∀ a, a < 5 → ∀ b, b < 5 → a ≠ b → (TX5 a).2.1 ≠ (TX5 b).2.1 := by decide +kernel
theorem tyX5_ok : ∀ k, k < 5 → parseFieldDescriptor (TX5 k).2.2.1 = some (tyX5 k) := by decide +kernel
abbrev cX5_init : ByteArray := prog_7_method_1_code
def yX5_init : MethodName := ⟨RX5, "<init>", "()V"⟩
abbrev cX5_readAt : ByteArray := prog_7_method_3_code
def yX5_readAt : MethodName := ⟨RX5, "readAt", "(LRingtrack$Heads;III)V"⟩
abbrev cX5_isNear : ByteArray := prog_7_method_5_code
def yX5_isNear : MethodName := ⟨RX5, "isNear", "(III)Z"⟩
abbrev cX5_tell : ByteArray := prog_7_method_6_code
def yX5_tell : MethodName := ⟨RX5, "tell", "(CII)V"⟩
abbrev cX5_keepWay : ByteArray := prog_7_method_7_code
def yX5_keepWay : MethodName := ⟨RX5, "keepWay", "(I)V"⟩
def RX6 : String := "Ringtrack"
def TX6 : u_T := fun k => match k with
  | 0 => ("Ringtrack", "typed", "[I", true)
  | 1 => ("Ringtrack", "typedCount", "I", false)
  | 2 => ("Ringtrack", "codes", "[LRingtrack$Code;", true)
  | 3 => ("Ringtrack", "codeCount", "I", false)
  | 4 => ("Ringtrack", "disc", "LRingtrack$Disc;", false)
  | 5 => ("Ringtrack", "limit", "I", false)
  | 6 => ("Ringtrack", "tolerance", "I", false)
  | 7 => ("Ringtrack", "stopCount", "I", false)
  | _ => ("Ringtrack", "frames", "LRingtrack$Frames;", true)
def tyX6 : Nat → FieldType := fun k => match k with
  | 0 => .array .int
  | 1 => .int
  | 2 => .array (.object "Ringtrack$Code")
  | 3 => .int
  | 4 => .object "Ringtrack$Disc"
  | 5 => .int
  | 6 => .int
  | 7 => .int
  | _ => .object "Ringtrack$Frames"
abbrev wsX60 : List Cond := u_ws RX6 TX6 9
theorem nmX6 : ∀ a, a < 9 → ∀ b, b < 9 → a ≠ b → (TX6 a).2.1 ≠ (TX6 b).2.1 := by decide +kernel
theorem tyX6_ok : ∀ k, k < 9 → parseFieldDescriptor (TX6 k).2.2.1 = some (tyX6 k) := by decide +kernel
abbrev cX6_init : ByteArray := prog_1_method_1_code
def yX6_init : MethodName := ⟨RX6, "<init>", "()V"⟩
abbrev cX6_type : ByteArray := prog_1_method_2_code
def yX6_type : MethodName := ⟨RX6, "type", "(I)I"⟩
abbrev cX6_wipe : ByteArray := prog_1_method_3_code
def yX6_wipe : MethodName := ⟨RX6, "wipe", "()I"⟩
abbrev cX6_ring : ByteArray := prog_1_method_4_code
def yX6_ring : MethodName := ⟨RX6, "ring", "()I"⟩
abbrev cX6_reflected : ByteArray := prog_1_method_5_code
def yX6_reflected : MethodName := ⟨RX6, "reflected", "(I)I"⟩
abbrev cX6_words : ByteArray := prog_1_method_6_code
def yX6_words : MethodName := ⟨RX6, "words", "(I)I"⟩
abbrev cX6_tracks : ByteArray := prog_1_method_7_code
def yX6_tracks : MethodName := ⟨RX6, "tracks", "(I)I"⟩
abbrev cX6_word : ByteArray := prog_1_method_8_code
def yX6_word : MethodName := ⟨RX6, "word", "(II)I"⟩
abbrev cX6_place : ByteArray := prog_1_method_9_code
def yX6_place : MethodName := ⟨RX6, "place", "(II)I"⟩
abbrev cX6_changes : ByteArray := prog_1_method_10_code
def yX6_changes : MethodName := ⟨RX6, "changes", "(II)I"⟩
abbrev cX6_isBalanced : ByteArray := prog_1_method_11_code
def yX6_isBalanced : MethodName := ⟨RX6, "isBalanced", "(I)Z"⟩
abbrev cX6_isOneTrack : ByteArray := prog_1_method_12_code
def yX6_isOneTrack : MethodName := ⟨RX6, "isOneTrack", "(I)Z"⟩
abbrev cX6_setDisc : ByteArray := prog_1_method_13_code
def yX6_setDisc : MethodName := ⟨RX6, "setDisc", "(II)I"⟩
abbrev cX6_angle : ByteArray := prog_1_method_14_code
def yX6_angle : MethodName := ⟨RX6, "angle", "()I"⟩
abbrev cX6_turn : ByteArray := prog_1_method_21_code
def yX6_turn : MethodName := ⟨RX6, "turn", "(I)I"⟩
abbrev cX6_isSound : ByteArray := prog_1_method_51_code
def yX6_isSound : MethodName := ⟨RX6, "isSound", "()Z"⟩
abbrev cX6_isWithin : ByteArray := prog_1_method_52_code
def yX6_isWithin : MethodName := ⟨RX6, "isWithin", "(III)Z"⟩
abbrev cX6_isHead : ByteArray := prog_1_method_53_code
def yX6_isHead : MethodName := ⟨RX6, "isHead", "(I)Z"⟩
abbrev cX6_modulo : ByteArray := prog_1_method_55_code
def yX6_modulo : MethodName := ⟨RX6, "modulo", "(II)I"⟩
abbrev cX6_wayBetween : ByteArray := prog_1_method_56_code
def yX6_wayBetween : MethodName := ⟨RX6, "wayBetween", "(III)I"⟩
abbrev cX6_lengthBetween : ByteArray := prog_1_method_57_code
def yX6_lengthBetween : MethodName := ⟨RX6, "lengthBetween", "(III)I"⟩
abbrev cX6_isRing : ByteArray := prog_1_method_58_code
def yX6_isRing : MethodName := ⟨RX6, "isRing", "([II)Z"⟩
abbrev cX6_typedIsRing : ByteArray := prog_1_method_59_code
def yX6_typedIsRing : MethodName := ⟨RX6, "typedIsRing", "()Z"⟩
abbrev cX6_keepCode : ByteArray := prog_1_method_60_code
def yX6_keepCode : MethodName := ⟨RX6, "keepCode", "([I)I"⟩
abbrev cX6_codeAt : ByteArray := prog_1_method_61_code
def yX6_codeAt : MethodName := ⟨RX6, "codeAt", "(I)LRingtrack$Code;"⟩
abbrev cX6_theDisc : ByteArray := prog_1_method_62_code
def yX6_theDisc : MethodName := ⟨RX6, "theDisc", "()LRingtrack$Disc;"⟩
def RX7 : String := "RingtrackModel$Code"
def TX7 : u_T := fun k => match k with
  | _ => ("", "", "", false)
def tyX7 : Nat → FieldType := fun k => match k with
  | _ => .int
abbrev wsX70 : List Cond := u_ws RX7 TX7 0
theorem nmX7 : ∀ a, a < 0 → ∀ b, b < 0 → a ≠ b → (TX7 a).2.1 ≠ (TX7 b).2.1 := by decide +kernel
theorem tyX7_ok : ∀ k, k < 0 → parseFieldDescriptor (TX7 k).2.2.1 = some (tyX7 k) := by decide +kernel
def RX8 : String := "RingtrackModel$Disc"
def TX8 : u_T := fun k => match k with
  | _ => ("", "", "", false)
def tyX8 : Nat → FieldType := fun k => match k with
  | _ => .int
abbrev wsX80 : List Cond := u_ws RX8 TX8 0
theorem nmX8 : ∀ a, a < 0 → ∀ b, b < 0 → a ≠ b → (TX8 a).2.1 ≠ (TX8 b).2.1 := by decide +kernel
theorem tyX8_ok : ∀ k, k < 0 → parseFieldDescriptor (TX8 k).2.2.1 = some (tyX8 k) := by decide +kernel
def RX9 : String := "RingtrackModel"
def TX9 : u_T := fun k => match k with
  | _ => ("", "", "", false)
def tyX9 : Nat → FieldType := fun k => match k with
  | _ => .int
abbrev wsX90 : List Cond := u_ws RX9 TX9 0
theorem nmX9 : ∀ a, a < 0 → ∀ b, b < 0 → a ≠ b → (TX9 a).2.1 ≠ (TX9 b).2.1 := by decide +kernel
theorem tyX9_ok : ∀ k, k < 0 → parseFieldDescriptor (TX9 k).2.2.1 = some (tyX9 k) := by decide +kernel
def RJx145de : String := "java/io/Serializable"
def TJx145de : u_T := fun k => match k with
  | _ => ("", "", "", false)
def tyJx145de : Nat → FieldType := fun k => match k with
  | _ => .int
abbrev wsJx145de0 : List Cond := u_ws RJx145de TJx145de 0
theorem nmJx145de : ∀ a, a < 0 → ∀ b, b < 0 → a ≠ b → (TJx145de a).2.1 ≠ (TJx145de b).2.1 := by decide +kernel
theorem tyJx145de_ok : ∀ k, k < 0 → parseFieldDescriptor (TJx145de k).2.2.1 = some (tyJx145de k) := by decide +kernel
def RJx8e188 : String := "java/lang/Cloneable"
def TJx8e188 : u_T := fun k => match k with
  | _ => ("", "", "", false)
def tyJx8e188 : Nat → FieldType := fun k => match k with
  | _ => .int
abbrev wsJx8e1880 : List Cond := u_ws RJx8e188 TJx8e188 0
theorem nmJx8e188 : ∀ a, a < 0 → ∀ b, b < 0 → a ≠ b → (TJx8e188 a).2.1 ≠ (TJx8e188 b).2.1 := by decide +kernel
theorem tyJx8e188_ok : ∀ k, k < 0 → parseFieldDescriptor (TJx8e188 k).2.2.1 = some (tyJx8e188 k) := by decide +kernel
def RJ6 : String := "java/lang/Integer"
def TJ6 : u_T := fun k => match k with
  | _ => ("", "", "", false)
def tyJ6 : Nat → FieldType := fun k => match k with
  | _ => .int
abbrev wsJ60 : List Cond := u_ws RJ6 TJ6 0
theorem nmJ6 : ∀ a, a < 0 → ∀ b, b < 0 → a ≠ b → (TJ6 a).2.1 ≠ (TJ6 b).2.1 := by decide +kernel
theorem tyJ6_ok : ∀ k, k < 0 → parseFieldDescriptor (TJ6 k).2.2.1 = some (tyJ6 k) := by decide +kernel
abbrev cJ6_bitCount_0f7a4 : ByteArray := prog_18_method_49_code
def yJ6_bitCount_0f7a4 : MethodName := ⟨RJ6, "bitCount", "(I)I"⟩
def RJ9 : String := "java/lang/Math"
def TJ9 : u_T := fun k => match k with
  | _ => ("", "", "", false)
def tyJ9 : Nat → FieldType := fun k => match k with
  | _ => .int
abbrev wsJ90 : List Cond := u_ws RJ9 TJ9 0
theorem nmJ9 : ∀ a, a < 0 → ∀ b, b < 0 → a ≠ b → (TJ9 a).2.1 ≠ (TJ9 b).2.1 := by decide +kernel
theorem tyJ9_ok : ∀ k, k < 0 → parseFieldDescriptor (TJ9 k).2.2.1 = some (tyJ9 k) := by decide +kernel
abbrev cJ9_abs_0f7a4 : ByteArray := prog_19_method_59_code
def yJ9_abs_0f7a4 : MethodName := ⟨RJ9, "abs", "(I)I"⟩
abbrev cJ9_max_7cf53 : ByteArray := prog_19_method_65_code
def yJ9_max_7cf53 : MethodName := ⟨RJ9, "max", "(II)I"⟩
abbrev cJ9_min_7cf53 : ByteArray := prog_19_method_69_code
def yJ9_min_7cf53 : MethodName := ⟨RJ9, "min", "(II)I"⟩
def RJ0 : String := "java/lang/String"
def TJ0 : u_T := fun k => match k with
  | _ => ("", "", "", false)
def tyJ0 : Nat → FieldType := fun k => match k with
  | _ => .int
abbrev wsJ00 : List Cond := u_ws RJ0 TJ0 0
theorem nmJ0 : ∀ a, a < 0 → ∀ b, b < 0 → a ≠ b → (TJ0 a).2.1 ≠ (TJ0 b).2.1 := by decide +kernel
theorem tyJ0_ok : ∀ k, k < 0 → parseFieldDescriptor (TJ0 k).2.2.1 = some (tyJ0 k) := by decide +kernel
def RJ10 : String := "java/lang/System"
def TJ10 : u_T := fun k => match k with
  | _ => ("", "", "", false)
def tyJ10 : Nat → FieldType := fun k => match k with
  | _ => .int
abbrev wsJ100 : List Cond := u_ws RJ10 TJ10 0
theorem nmJ10 : ∀ a, a < 0 → ∀ b, b < 0 → a ≠ b → (TJ10 a).2.1 ≠ (TJ10 b).2.1 := by decide +kernel
theorem tyJ10_ok : ∀ k, k < 0 → parseFieldDescriptor (TJ10 k).2.2.1 = some (tyJ10 k) := by decide +kernel
def RJ7 : String := "java/util/Arrays"
def TJ7 : u_T := fun k => match k with
  | _ => ("", "", "", false)
def tyJ7 : Nat → FieldType := fun k => match k with
  | _ => .int
abbrev wsJ70 : List Cond := u_ws RJ7 TJ7 0
theorem nmJ7 : ∀ a, a < 0 → ∀ b, b < 0 → a ≠ b → (TJ7 a).2.1 ≠ (TJ7 b).2.1 := by decide +kernel
theorem tyJ7_ok : ∀ k, k < 0 → parseFieldDescriptor (TJ7 k).2.2.1 = some (tyJ7 k) := by decide +kernel
abbrev cJ7_fill_53178 : ByteArray := prog_25_method_103_code
def yJ7_fill_53178 : MethodName := ⟨RJ7, "fill", "([II)V"⟩
abbrev cJ7_copyOf_59c91 : ByteArray := prog_25_method_123_code
def yJ7_copyOf_59c91 : MethodName := ⟨RJ7, "copyOf", "([II)[I"⟩
def RL : String := "RingtrackLaw"
abbrev cL_cell : ByteArray := method_2_code
def yL_cell : MethodName := ⟨RL, "cell", "([II)I"⟩
abbrev cL_type : ByteArray := method_3_code
def yL_type : MethodName := ⟨RL, "type", "(LRingtrack;I)I"⟩
abbrev cL_ring : ByteArray := method_4_code
def yL_ring : MethodName := ⟨RL, "ring", "(LRingtrack;)I"⟩
abbrev cL_reflected : ByteArray := method_5_code
def yL_reflected : MethodName := ⟨RL, "reflected", "(LRingtrack;I)I"⟩
abbrev cL_words : ByteArray := method_6_code
def yL_words : MethodName := ⟨RL, "words", "(LRingtrack;I)I"⟩
abbrev cL_tracks : ByteArray := method_7_code
def yL_tracks : MethodName := ⟨RL, "tracks", "(LRingtrack;I)I"⟩
abbrev cL_word : ByteArray := method_8_code
def yL_word : MethodName := ⟨RL, "word", "(LRingtrack;II)I"⟩
abbrev cL_place : ByteArray := method_9_code
def yL_place : MethodName := ⟨RL, "place", "(LRingtrack;II)I"⟩
abbrev cL_changes : ByteArray := method_10_code
def yL_changes : MethodName := ⟨RL, "changes", "(LRingtrack;II)I"⟩
abbrev cL_setDisc : ByteArray := method_11_code
def yL_setDisc : MethodName := ⟨RL, "setDisc", "(LRingtrack;II)I"⟩
abbrev cL_angle : ByteArray := method_12_code
def yL_angle : MethodName := ⟨RL, "angle", "(LRingtrack;)I"⟩
abbrev cL_turn : ByteArray := method_13_code
def yL_turn : MethodName := ⟨RL, "turn", "(LRingtrack;I)I"⟩
abbrev cL_isBalanced : ByteArray := method_14_code
def yL_isBalanced : MethodName := ⟨RL, "isBalanced", "(LRingtrack;I)I"⟩
abbrev cL_isOneTrack : ByteArray := method_15_code
def yL_isOneTrack : MethodName := ⟨RL, "isOneTrack", "(LRingtrack;I)I"⟩
abbrev cL_in : ByteArray := method_16_code
def yL_in : MethodName := ⟨RL, "in", "([III)I"⟩
abbrev cL_law : ByteArray := code
def yL_law : MethodName := ⟨RL, "law", "([I)Z"⟩
def wsJ7_fill_53178 : List Cond := .code yJ7_fill_53178 cJ7_fill_53178 4 none :: ([])
def wsX0_init : List Cond := .code yX0_init cX0_init 6 none :: ([.methodLink RX0 3 objectInit, .instanceMethod objectInit, .code objectInit ⟨#[0xb1]⟩ 1 none, .arrayClass .int, .fieldLink RX0 9 "Ringtrack$Code" "places" "[I", .fieldLink RX0 15 "Ringtrack$Code" "words" "[I", .fieldLink RX0 24 "Ringtrack$Code" "tracks" "I", .methodLink RX0 18 yJ7_fill_53178, .static yJ7_fill_53178, .initialized RJ7, .code yJ7_fill_53178 cJ7_fill_53178 4 none] ++ wsX00)
def wsX0_hasPlace : List Cond := .code yX0_hasPlace cX0_hasPlace 2 (some .boolean) :: ([.fieldLink RX0 15 "Ringtrack$Code" "words" "[I"] ++ wsX00)
def wsX0_hasTrack : List Cond := .code yX0_hasTrack cX0_hasTrack 2 (some .boolean) :: ([.fieldLink RX0 24 "Ringtrack$Code" "tracks" "I"] ++ wsX00)
def wsX0_wordAt : List Cond := .code yX0_wordAt cX0_wordAt 2 (some .int) :: ([.fieldLink RX0 15 "Ringtrack$Code" "words" "[I", .methodLink RX0 28 yX0_hasPlace, .instanceMethod yX0_hasPlace, .selects RX0 yX0_hasPlace yX0_hasPlace, .initialized RX0, .code yX0_hasPlace cX0_hasPlace 2 (some .boolean)] ++ wsX00)
def wsX0_placeOf : List Cond := .code yX0_placeOf cX0_placeOf 2 (some .int) :: ([.fieldLink RX0 9 "Ringtrack$Code" "places" "[I"] ++ wsX00)
def wsX0_mark : List Cond := .code yX0_mark cX0_mark 3 (some .int) :: ([.methodLink RX0 32 yX0_wordAt, .instanceMethod yX0_wordAt, .selects RX0 yX0_wordAt yX0_wordAt, .initialized RX0, .code yX0_wordAt cX0_wordAt 2 (some .int), .fieldLink RX0 15 "Ringtrack$Code" "words" "[I", .methodLink RX0 28 yX0_hasPlace, .instanceMethod yX0_hasPlace, .selects RX0 yX0_hasPlace yX0_hasPlace, .code yX0_hasPlace cX0_hasPlace 2 (some .boolean)] ++ wsX00)
def wsX6_modulo : List Cond := .code yX6_modulo cX6_modulo 3 (some .int) :: ([])
def wsX0_changesOf : List Cond := .code yX0_changesOf cX0_changesOf 5 (some .int) :: ([.fieldLink RX0 15 "Ringtrack$Code" "words" "[I", .static yX6_modulo, .initialized RX6, .code yX6_modulo cX6_modulo 3 (some .int), .methodLink RX0 40 yX0_mark, .instanceMethod yX0_mark, .selects RX0 yX0_mark yX0_mark, .initialized RX0, .code yX0_mark cX0_mark 3 (some .int), .methodLink RX0 32 yX0_wordAt, .instanceMethod yX0_wordAt, .selects RX0 yX0_wordAt yX0_wordAt, .code yX0_wordAt cX0_wordAt 2 (some .int), .methodLink RX0 28 yX0_hasPlace, .instanceMethod yX0_hasPlace, .selects RX0 yX0_hasPlace yX0_hasPlace, .code yX0_hasPlace cX0_hasPlace 2 (some .boolean)] ++ wsX00)
def wsX0_changesEvenly_r1 : List Cond := [Cond.fieldLink RX0 15 "Ringtrack$Code" "words" "[I", Cond.fieldLink RX0 24 "Ringtrack$Code" "tracks" "I", Cond.methodLink RX0 46 Lib.Math.min.name, Cond.static Lib.Math.min.name, Cond.initialized "java/lang/Math", Cond.code Lib.Math.min.name Lib.Math.min.code 2 (some .int), Cond.methodLink RX0 51 Lib.Math.max.name, Cond.static Lib.Math.max.name, Cond.code Lib.Math.max.name Lib.Math.max.code 2 (some .int), Cond.methodLink RX0 43 yX0_changesOf, Cond.instanceMethod yX0_changesOf, Cond.selects RX0 yX0_changesOf yX0_changesOf, Cond.initialized RX0, Cond.code yX0_changesOf cX0_changesOf 5 (some .int), Cond.static yX6_modulo, Cond.initialized RX6, Cond.code yX6_modulo cX6_modulo 3 (some .int), Cond.methodLink RX0 40 yX0_mark, Cond.instanceMethod yX0_mark, Cond.selects RX0 yX0_mark yX0_mark, Cond.code yX0_mark cX0_mark 3 (some .int), Cond.methodLink RX0 32 yX0_wordAt, Cond.instanceMethod yX0_wordAt, Cond.selects RX0 yX0_wordAt yX0_wordAt]
def wsX0_changesEvenly_r2 : List Cond := [Cond.code yX0_wordAt cX0_wordAt 2 (some .int), Cond.methodLink RX0 28 yX0_hasPlace, Cond.instanceMethod yX0_hasPlace, Cond.selects RX0 yX0_hasPlace yX0_hasPlace, Cond.code yX0_hasPlace cX0_hasPlace 2 (some .boolean)]
def wsX0_changesEvenly : List Cond := .code yX0_changesEvenly cX0_changesEvenly 5 (some .boolean) :: ((wsX0_changesEvenly_r1 ++ wsX0_changesEvenly_r2) ++ wsX00)
def wsX0_isFirstTrackFrom : List Cond := .code yX0_isFirstTrackFrom cX0_isFirstTrackFrom 4 (some .boolean) :: ([.fieldLink RX0 15 "Ringtrack$Code" "words" "[I", .methodLink RX0 40 yX0_mark, .instanceMethod yX0_mark, .selects RX0 yX0_mark yX0_mark, .initialized RX0, .code yX0_mark cX0_mark 3 (some .int), .methodLink RX0 32 yX0_wordAt, .instanceMethod yX0_wordAt, .selects RX0 yX0_wordAt yX0_wordAt, .code yX0_wordAt cX0_wordAt 2 (some .int), .methodLink RX0 28 yX0_hasPlace, .instanceMethod yX0_hasPlace, .selects RX0 yX0_hasPlace yX0_hasPlace, .code yX0_hasPlace cX0_hasPlace 2 (some .boolean), .static yX6_modulo, .initialized RX6, .code yX6_modulo cX6_modulo 3 (some .int)] ++ wsX00)
def wsX0_isFirstTrackMoved : List Cond := .code yX0_isFirstTrackMoved cX0_isFirstTrackMoved 3 (some .boolean) :: ([.fieldLink RX0 15 "Ringtrack$Code" "words" "[I", .methodLink RX0 57 yX0_isFirstTrackFrom, .instanceMethod yX0_isFirstTrackFrom, .selects RX0 yX0_isFirstTrackFrom yX0_isFirstTrackFrom, .initialized RX0, .code yX0_isFirstTrackFrom cX0_isFirstTrackFrom 4 (some .boolean), .methodLink RX0 40 yX0_mark, .instanceMethod yX0_mark, .selects RX0 yX0_mark yX0_mark, .code yX0_mark cX0_mark 3 (some .int), .methodLink RX0 32 yX0_wordAt, .instanceMethod yX0_wordAt, .selects RX0 yX0_wordAt yX0_wordAt, .code yX0_wordAt cX0_wordAt 2 (some .int), .methodLink RX0 28 yX0_hasPlace, .instanceMethod yX0_hasPlace, .selects RX0 yX0_hasPlace yX0_hasPlace, .code yX0_hasPlace cX0_hasPlace 2 (some .boolean), .static yX6_modulo, .initialized RX6, .code yX6_modulo cX6_modulo 3 (some .int)] ++ wsX00)
def wsX0_repeatsFirstTrack_r1 : List Cond := [Cond.fieldLink RX0 24 "Ringtrack$Code" "tracks" "I", Cond.methodLink RX0 54 yX0_isFirstTrackMoved, Cond.instanceMethod yX0_isFirstTrackMoved, Cond.selects RX0 yX0_isFirstTrackMoved yX0_isFirstTrackMoved, Cond.initialized RX0, Cond.code yX0_isFirstTrackMoved cX0_isFirstTrackMoved 3 (some .boolean), Cond.fieldLink RX0 15 "Ringtrack$Code" "words" "[I", Cond.methodLink RX0 57 yX0_isFirstTrackFrom, Cond.instanceMethod yX0_isFirstTrackFrom, Cond.selects RX0 yX0_isFirstTrackFrom yX0_isFirstTrackFrom, Cond.code yX0_isFirstTrackFrom cX0_isFirstTrackFrom 4 (some .boolean), Cond.methodLink RX0 40 yX0_mark, Cond.instanceMethod yX0_mark, Cond.selects RX0 yX0_mark yX0_mark, Cond.code yX0_mark cX0_mark 3 (some .int), Cond.methodLink RX0 32 yX0_wordAt, Cond.instanceMethod yX0_wordAt, Cond.selects RX0 yX0_wordAt yX0_wordAt, Cond.code yX0_wordAt cX0_wordAt 2 (some .int), Cond.methodLink RX0 28 yX0_hasPlace, Cond.instanceMethod yX0_hasPlace, Cond.selects RX0 yX0_hasPlace yX0_hasPlace, Cond.code yX0_hasPlace cX0_hasPlace 2 (some .boolean), Cond.static yX6_modulo]
def wsX0_repeatsFirstTrack_r2 : List Cond := [Cond.initialized RX6, Cond.code yX6_modulo cX6_modulo 3 (some .int)]
def wsX0_repeatsFirstTrack : List Cond := .code yX0_repeatsFirstTrack cX0_repeatsFirstTrack 2 (some .boolean) :: ((wsX0_repeatsFirstTrack_r1 ++ wsX0_repeatsFirstTrack_r2) ++ wsX00)
def wsX5_init : List Cond := .code yX5_init cX5_init 1 none :: ([.methodLink RX5 3 objectInit, .instanceMethod objectInit, .code objectInit ⟨#[0xb1]⟩ 1 none, .fieldLink RX5 9 "Ringtrack$Reading" "state" "C", .arrayClass .int, .fieldLink RX5 15 "Ringtrack$Reading" "ways" "[I"] ++ wsX50)
def wsX3_init : List Cond := .code yX3_init cX3_init 1 none :: ([.methodLink RX3 3 objectInit, .instanceMethod objectInit, .code objectInit ⟨#[0xb1]⟩ 1 none, .arrayClass .int, .fieldLink RX3 9 "Ringtrack$Gears" "slips" "[I", .fieldLink RX3 15 "Ringtrack$Gears" "teeth" "[I"] ++ wsX30)
def wsX4_init : List Cond := .code yX4_init cX4_init 3 none :: ([.methodLink RX4 3 objectInit, .instanceMethod objectInit, .code objectInit ⟨#[0xb1]⟩ 1 none, .arrayClass .int, .fieldLink RX4 9 "Ringtrack$Heads" "speckPlaces" "[I", .fieldLink RX4 15 "Ringtrack$Heads" "speckTracks" "[I", .fieldLink RX4 18 "Ringtrack$Heads" "speckCreeps" "[I", .fieldLink RX4 21 "Ringtrack$Heads" "stuckAsZero" "[I", .fieldLink RX4 24 "Ringtrack$Heads" "stuckAsOne" "[I", .fieldLink RX4 27 "Ringtrack$Heads" "code" "LRingtrack$Code;", .fieldLink RX4 31 "Ringtrack$Heads" "off" "I", .fieldLink RX4 35 "Ringtrack$Code" "words" "[I", .fieldLink RX4 40 "Ringtrack$Heads" "turn" "I"] ++ wsX40 ++ wsX00)
def wsX1_init_r1 : List Cond := [Cond.methodLink RX1 3 objectInit, Cond.instanceMethod objectInit, Cond.code objectInit ⟨#[0xb1]⟩ 1 none, Cond.classLink RX1 9 RX5, Cond.instantiable RX5 5, Cond.initialized RX5, Cond.fieldLink RX1 12 "Ringtrack$Disc" "reading" "LRingtrack$Reading;", Cond.classLink RX1 18 RX3, Cond.instantiable RX3 3, Cond.initialized RX3, Cond.fieldLink RX1 21 "Ringtrack$Disc" "gears" "LRingtrack$Gears;", Cond.fieldLink RX1 25 "Ringtrack$Disc" "isPowered" "Z", Cond.classLink RX1 29 RX4, Cond.instantiable RX4 9, Cond.initialized RX4, Cond.fieldLink RX1 34 "Ringtrack$Disc" "heads" "LRingtrack$Heads;", Cond.fieldLink RX1 38 "Ringtrack$Heads" "turn" "I", Cond.fieldLink RX1 42 "Ringtrack$Disc" "turn" "I", Cond.fieldLink RX1 43 "Ringtrack$Code" "words" "[I", Cond.arrayClass .int, Cond.fieldLink RX1 49 "Ringtrack$Disc" "page" "[I", Cond.instanceMethod yX5_init, Cond.code yX5_init cX5_init 1 none, Cond.methodLink RX5 3 objectInit]
def wsX1_init_r2 : List Cond := [Cond.fieldLink RX5 9 "Ringtrack$Reading" "state" "C", Cond.fieldLink RX5 15 "Ringtrack$Reading" "ways" "[I", Cond.instanceMethod yX3_init, Cond.code yX3_init cX3_init 1 none, Cond.methodLink RX3 3 objectInit, Cond.fieldLink RX3 9 "Ringtrack$Gears" "slips" "[I", Cond.fieldLink RX3 15 "Ringtrack$Gears" "teeth" "[I", Cond.methodLink RX1 31 yX4_init, Cond.instanceMethod yX4_init, Cond.code yX4_init cX4_init 3 none, Cond.methodLink RX4 3 objectInit, Cond.fieldLink RX4 9 "Ringtrack$Heads" "speckPlaces" "[I", Cond.fieldLink RX4 15 "Ringtrack$Heads" "speckTracks" "[I", Cond.fieldLink RX4 18 "Ringtrack$Heads" "speckCreeps" "[I", Cond.fieldLink RX4 21 "Ringtrack$Heads" "stuckAsZero" "[I", Cond.fieldLink RX4 24 "Ringtrack$Heads" "stuckAsOne" "[I", Cond.fieldLink RX4 27 "Ringtrack$Heads" "code" "LRingtrack$Code;", Cond.fieldLink RX4 31 "Ringtrack$Heads" "off" "I", Cond.fieldLink RX4 35 "Ringtrack$Code" "words" "[I", Cond.fieldLink RX4 40 "Ringtrack$Heads" "turn" "I"]
def wsX1_init : List Cond := .code yX1_init cX1_init 3 none :: ((wsX1_init_r1 ++ wsX1_init_r2) ++ wsX50 ++ wsX10 ++ wsX30 ++ wsX40 ++ wsX00)
def wsX4_creep : List Cond := .code yX4_creep cX4_creep 3 none :: ([.fieldLink RX4 43 "Ringtrack$Heads" "speckCount" "I", .fieldLink RX4 9 "Ringtrack$Heads" "speckPlaces" "[I", .fieldLink RX4 18 "Ringtrack$Heads" "speckCreeps" "[I", .fieldLink RX4 27 "Ringtrack$Heads" "code" "LRingtrack$Code;", .fieldLink RX4 35 "Ringtrack$Code" "words" "[I", .static yX6_modulo, .initialized RX6, .code yX6_modulo cX6_modulo 3 (some .int)] ++ wsX40 ++ wsX00)
def wsX1_advance : List Cond := .code yX1_advance cX1_advance 4 none :: ([.fieldLink RX1 52 "Ringtrack$Disc" "angle" "I", .fieldLink RX1 42 "Ringtrack$Disc" "turn" "I", .fieldLink RX1 59 "Ringtrack$Disc" "rounds" "I", .fieldLink RX1 34 "Ringtrack$Disc" "heads" "LRingtrack$Heads;", .static yX6_modulo, .initialized RX6, .code yX6_modulo cX6_modulo 3 (some .int), .methodLink RX1 62 yX4_creep, .instanceMethod yX4_creep, .selects RX4 yX4_creep yX4_creep, .initialized RX4, .code yX4_creep cX4_creep 3 none, .fieldLink RX4 43 "Ringtrack$Heads" "speckCount" "I", .fieldLink RX4 9 "Ringtrack$Heads" "speckPlaces" "[I", .fieldLink RX4 18 "Ringtrack$Heads" "speckCreeps" "[I", .fieldLink RX4 27 "Ringtrack$Heads" "code" "LRingtrack$Code;", .fieldLink RX4 35 "Ringtrack$Code" "words" "[I"] ++ wsX10 ++ wsX40 ++ wsX00)
def wsX2_init : List Cond := .code yX2_init cX2_init 1 none :: ([.methodLink RX2 3 objectInit, .instanceMethod objectInit, .code objectInit ⟨#[0xb1]⟩ 1 none, .arrayClass .int, .fieldLink RX2 9 "Ringtrack$Frames" "underWay" "[I", .fieldLink RX2 15 "Ringtrack$Frames" "ticksLeft" "[I", .fieldLink RX2 18 "Ringtrack$Frames" "arrived" "[I"] ++ wsX20)
def wsX2_clear : List Cond := .code yX2_clear cX2_clear 1 none :: ([.fieldLink RX2 21 "Ringtrack$Frames" "count" "I", .fieldLink RX2 25 "Ringtrack$Frames" "arrivedCount" "I"] ++ wsX20)
def wsX6_isWithin : List Cond := .code yX6_isWithin cX6_isWithin 3 (some .boolean) :: ([])
def wsX3_has : List Cond := .code yX3_has cX3_has 2 (some .boolean) :: ([.fieldLink RX3 18 "Ringtrack$Gears" "count" "I", .static yX6_isWithin, .initialized RX6, .code yX6_isWithin cX6_isWithin 3 (some .boolean)] ++ wsX30)
def wsX3_toothOf : List Cond := .code yX3_toothOf cX3_toothOf 3 (some .int) :: ([.fieldLink RX3 9 "Ringtrack$Gears" "slips" "[I", .fieldLink RX3 15 "Ringtrack$Gears" "teeth" "[I", .methodLink RX3 26 yX3_has, .instanceMethod yX3_has, .selects RX3 yX3_has yX3_has, .initialized RX3, .code yX3_has cX3_has 2 (some .boolean), .fieldLink RX3 18 "Ringtrack$Gears" "count" "I", .static yX6_isWithin, .initialized RX6, .code yX6_isWithin cX6_isWithin 3 (some .boolean), .static yX6_modulo, .code yX6_modulo cX6_modulo 3 (some .int)] ++ wsX30)
def wsX3_areInOrder : List Cond := .code yX3_areInOrder cX3_areInOrder 3 (some .boolean) :: ([.fieldLink RX3 18 "Ringtrack$Gears" "count" "I", .fieldLink RX3 15 "Ringtrack$Gears" "teeth" "[I", .methodLink RX3 34 yX3_toothOf, .instanceMethod yX3_toothOf, .selects RX3 yX3_toothOf yX3_toothOf, .initialized RX3, .code yX3_toothOf cX3_toothOf 3 (some .int), .fieldLink RX3 9 "Ringtrack$Gears" "slips" "[I", .methodLink RX3 26 yX3_has, .instanceMethod yX3_has, .selects RX3 yX3_has yX3_has, .code yX3_has cX3_has 2 (some .boolean), .static yX6_isWithin, .initialized RX6, .code yX6_isWithin cX6_isWithin 3 (some .boolean), .static yX6_modulo, .code yX6_modulo cX6_modulo 3 (some .int)] ++ wsX30)
def wsX4_errorAt : List Cond := .code yX4_errorAt cX4_errorAt 7 (some .int) :: ([.fieldLink RX4 40 "Ringtrack$Heads" "turn" "I", .fieldLink RX4 31 "Ringtrack$Heads" "off" "I"] ++ wsX40)
def wsX4_placeUnder : List Cond := .code yX4_placeUnder cX4_placeUnder 5 (some .int) :: ([.fieldLink RX4 40 "Ringtrack$Heads" "turn" "I", .methodLink RX4 54 yX4_errorAt, .instanceMethod yX4_errorAt, .selects RX4 yX4_errorAt yX4_errorAt, .initialized RX4, .code yX4_errorAt cX4_errorAt 7 (some .int), .fieldLink RX4 31 "Ringtrack$Heads" "off" "I", .static yX6_modulo, .initialized RX6, .code yX6_modulo cX6_modulo 3 (some .int)] ++ wsX40)
def wsX6_isHead : List Cond := .code yX6_isHead cX6_isHead 1 (some .boolean) :: ([.methodLink RX6 33 yX6_isWithin, .static yX6_isWithin, .initialized RX6, .code yX6_isWithin cX6_isWithin 3 (some .boolean)])
def wsX4_wordUnder_r1 : List Cond := [Cond.fieldLink RX4 27 "Ringtrack$Heads" "code" "LRingtrack$Code;", Cond.fieldLink RX4 43 "Ringtrack$Heads" "speckCount" "I", Cond.fieldLink RX4 9 "Ringtrack$Heads" "speckPlaces" "[I", Cond.fieldLink RX4 15 "Ringtrack$Heads" "speckTracks" "[I", Cond.fieldLink RX4 21 "Ringtrack$Heads" "stuckAsZero" "[I", Cond.fieldLink RX4 24 "Ringtrack$Heads" "stuckAsOne" "[I", Cond.static yX6_isHead, Cond.initialized RX6, Cond.code yX6_isHead cX6_isHead 1 (some .boolean), Cond.methodLink RX6 33 yX6_isWithin, Cond.static yX6_isWithin, Cond.code yX6_isWithin cX6_isWithin 3 (some .boolean), Cond.methodLink RX4 58 yX4_placeUnder, Cond.instanceMethod yX4_placeUnder, Cond.selects RX4 yX4_placeUnder yX4_placeUnder, Cond.initialized RX4, Cond.code yX4_placeUnder cX4_placeUnder 5 (some .int), Cond.fieldLink RX4 40 "Ringtrack$Heads" "turn" "I", Cond.methodLink RX4 54 yX4_errorAt, Cond.instanceMethod yX4_errorAt, Cond.selects RX4 yX4_errorAt yX4_errorAt, Cond.code yX4_errorAt cX4_errorAt 7 (some .int), Cond.fieldLink RX4 31 "Ringtrack$Heads" "off" "I", Cond.static yX6_modulo]
def wsX4_wordUnder_r2 : List Cond := [Cond.code yX6_modulo cX6_modulo 3 (some .int), Cond.methodLink RX4 61 yX0_wordAt, Cond.instanceMethod yX0_wordAt, Cond.selects RX0 yX0_wordAt yX0_wordAt, Cond.initialized RX0, Cond.code yX0_wordAt cX0_wordAt 2 (some .int), Cond.fieldLink RX0 15 "Ringtrack$Code" "words" "[I", Cond.methodLink RX0 28 yX0_hasPlace, Cond.instanceMethod yX0_hasPlace, Cond.selects RX0 yX0_hasPlace yX0_hasPlace, Cond.code yX0_hasPlace cX0_hasPlace 2 (some .boolean)]
def wsX4_wordUnder : List Cond := .code yX4_wordUnder cX4_wordUnder 6 (some .int) :: ((wsX4_wordUnder_r1 ++ wsX4_wordUnder_r2) ++ wsX40 ++ wsX00)
def wsX4_middleOf : List Cond := .code yX4_middleOf cX4_middleOf 2 (some .int) :: ([])
def wsX4_estimateAt_r1 : List Cond := [Cond.fieldLink RX4 27 "Ringtrack$Heads" "code" "LRingtrack$Code;", Cond.fieldLink RX4 40 "Ringtrack$Heads" "turn" "I", Cond.methodLink RX4 64 yX4_wordUnder, Cond.instanceMethod yX4_wordUnder, Cond.selects RX4 yX4_wordUnder yX4_wordUnder, Cond.initialized RX4, Cond.code yX4_wordUnder cX4_wordUnder 6 (some .int), Cond.fieldLink RX4 43 "Ringtrack$Heads" "speckCount" "I", Cond.fieldLink RX4 9 "Ringtrack$Heads" "speckPlaces" "[I", Cond.fieldLink RX4 15 "Ringtrack$Heads" "speckTracks" "[I", Cond.fieldLink RX4 21 "Ringtrack$Heads" "stuckAsZero" "[I", Cond.fieldLink RX4 24 "Ringtrack$Heads" "stuckAsOne" "[I", Cond.static yX6_isHead, Cond.initialized RX6, Cond.code yX6_isHead cX6_isHead 1 (some .boolean), Cond.methodLink RX6 33 yX6_isWithin, Cond.static yX6_isWithin, Cond.code yX6_isWithin cX6_isWithin 3 (some .boolean), Cond.methodLink RX4 58 yX4_placeUnder, Cond.instanceMethod yX4_placeUnder, Cond.selects RX4 yX4_placeUnder yX4_placeUnder, Cond.code yX4_placeUnder cX4_placeUnder 5 (some .int), Cond.methodLink RX4 54 yX4_errorAt, Cond.instanceMethod yX4_errorAt]
def wsX4_estimateAt_r2 : List Cond := [Cond.selects RX4 yX4_errorAt yX4_errorAt, Cond.code yX4_errorAt cX4_errorAt 7 (some .int), Cond.fieldLink RX4 31 "Ringtrack$Heads" "off" "I", Cond.static yX6_modulo, Cond.code yX6_modulo cX6_modulo 3 (some .int), Cond.methodLink RX4 61 yX0_wordAt, Cond.instanceMethod yX0_wordAt, Cond.selects RX0 yX0_wordAt yX0_wordAt, Cond.initialized RX0, Cond.code yX0_wordAt cX0_wordAt 2 (some .int), Cond.fieldLink RX0 15 "Ringtrack$Code" "words" "[I", Cond.methodLink RX0 28 yX0_hasPlace, Cond.instanceMethod yX0_hasPlace, Cond.selects RX0 yX0_hasPlace yX0_hasPlace, Cond.code yX0_hasPlace cX0_hasPlace 2 (some .boolean), Cond.methodLink RX4 67 yX0_placeOf, Cond.instanceMethod yX0_placeOf, Cond.selects RX0 yX0_placeOf yX0_placeOf, Cond.code yX0_placeOf cX0_placeOf 2 (some .int), Cond.fieldLink RX0 9 "Ringtrack$Code" "places" "[I", Cond.methodLink RX4 70 yX4_middleOf, Cond.instanceMethod yX4_middleOf, Cond.selects RX4 yX4_middleOf yX4_middleOf, Cond.code yX4_middleOf cX4_middleOf 2 (some .int)]
def wsX4_estimateAt : List Cond := .code yX4_estimateAt cX4_estimateAt 5 (some .int) :: ((wsX4_estimateAt_r1 ++ wsX4_estimateAt_r2) ++ wsX40 ++ wsX00)
def wsX6_wayBetween : List Cond := .code yX6_wayBetween cX6_wayBetween 4 (some .int) :: ([.methodLink RX6 339 yX6_modulo, .static yX6_modulo, .initialized RX6, .code yX6_modulo cX6_modulo 3 (some .int)])
def wsX4_between : List Cond := .code yX4_between cX4_between 3 (some .int) :: ([.fieldLink RX4 40 "Ringtrack$Heads" "turn" "I", .static yX6_wayBetween, .initialized RX6, .code yX6_wayBetween cX6_wayBetween 4 (some .int), .methodLink RX6 339 yX6_modulo, .static yX6_modulo, .code yX6_modulo cX6_modulo 3 (some .int)] ++ wsX40)
def wsX4_toldTogether_r1 : List Cond := [Cond.methodLink RX4 77 yX4_estimateAt, Cond.instanceMethod yX4_estimateAt, Cond.selects RX4 yX4_estimateAt yX4_estimateAt, Cond.initialized RX4, Cond.code yX4_estimateAt cX4_estimateAt 5 (some .int), Cond.fieldLink RX4 27 "Ringtrack$Heads" "code" "LRingtrack$Code;", Cond.fieldLink RX4 40 "Ringtrack$Heads" "turn" "I", Cond.methodLink RX4 64 yX4_wordUnder, Cond.instanceMethod yX4_wordUnder, Cond.selects RX4 yX4_wordUnder yX4_wordUnder, Cond.code yX4_wordUnder cX4_wordUnder 6 (some .int), Cond.fieldLink RX4 43 "Ringtrack$Heads" "speckCount" "I", Cond.fieldLink RX4 9 "Ringtrack$Heads" "speckPlaces" "[I", Cond.fieldLink RX4 15 "Ringtrack$Heads" "speckTracks" "[I", Cond.fieldLink RX4 21 "Ringtrack$Heads" "stuckAsZero" "[I", Cond.fieldLink RX4 24 "Ringtrack$Heads" "stuckAsOne" "[I", Cond.static yX6_isHead, Cond.initialized RX6, Cond.code yX6_isHead cX6_isHead 1 (some .boolean), Cond.methodLink RX6 33 yX6_isWithin, Cond.static yX6_isWithin, Cond.code yX6_isWithin cX6_isWithin 3 (some .boolean), Cond.methodLink RX4 58 yX4_placeUnder, Cond.instanceMethod yX4_placeUnder]
def wsX4_toldTogether_r2 : List Cond := [Cond.selects RX4 yX4_placeUnder yX4_placeUnder, Cond.code yX4_placeUnder cX4_placeUnder 5 (some .int), Cond.methodLink RX4 54 yX4_errorAt, Cond.instanceMethod yX4_errorAt, Cond.selects RX4 yX4_errorAt yX4_errorAt, Cond.code yX4_errorAt cX4_errorAt 7 (some .int), Cond.fieldLink RX4 31 "Ringtrack$Heads" "off" "I", Cond.static yX6_modulo, Cond.code yX6_modulo cX6_modulo 3 (some .int), Cond.methodLink RX4 61 yX0_wordAt, Cond.instanceMethod yX0_wordAt, Cond.selects RX0 yX0_wordAt yX0_wordAt, Cond.initialized RX0, Cond.code yX0_wordAt cX0_wordAt 2 (some .int), Cond.fieldLink RX0 15 "Ringtrack$Code" "words" "[I", Cond.methodLink RX0 28 yX0_hasPlace, Cond.instanceMethod yX0_hasPlace, Cond.selects RX0 yX0_hasPlace yX0_hasPlace, Cond.code yX0_hasPlace cX0_hasPlace 2 (some .boolean), Cond.methodLink RX4 67 yX0_placeOf, Cond.instanceMethod yX0_placeOf, Cond.selects RX0 yX0_placeOf yX0_placeOf, Cond.code yX0_placeOf cX0_placeOf 2 (some .int), Cond.fieldLink RX0 9 "Ringtrack$Code" "places" "[I"]
def wsX4_toldTogether_r3 : List Cond := [Cond.methodLink RX4 70 yX4_middleOf, Cond.instanceMethod yX4_middleOf, Cond.selects RX4 yX4_middleOf yX4_middleOf, Cond.code yX4_middleOf cX4_middleOf 2 (some .int), Cond.methodLink RX4 80 yX4_between, Cond.instanceMethod yX4_between, Cond.selects RX4 yX4_between yX4_between, Cond.code yX4_between cX4_between 3 (some .int), Cond.static yX6_wayBetween, Cond.code yX6_wayBetween cX6_wayBetween 4 (some .int), Cond.methodLink RX6 339 yX6_modulo]
def wsX4_toldTogether : List Cond := .code yX4_toldTogether cX4_toldTogether 4 (some .int) :: ((wsX4_toldTogether_r1 ++ (wsX4_toldTogether_r2 ++ wsX4_toldTogether_r3)) ++ wsX40 ++ wsX00)
def wsX4_tellMiddles_r1 : List Cond := [Cond.fieldLink RX4 27 "Ringtrack$Heads" "code" "LRingtrack$Code;", Cond.fieldLink RX4 35 "Ringtrack$Code" "words" "[I", Cond.methodLink RX4 70 yX4_middleOf, Cond.instanceMethod yX4_middleOf, Cond.selects RX4 yX4_middleOf yX4_middleOf, Cond.initialized RX4, Cond.code yX4_middleOf cX4_middleOf 2 (some .int), Cond.methodLink RX4 83 yX4_toldTogether, Cond.instanceMethod yX4_toldTogether, Cond.selects RX4 yX4_toldTogether yX4_toldTogether, Cond.code yX4_toldTogether cX4_toldTogether 4 (some .int), Cond.methodLink RX4 77 yX4_estimateAt, Cond.instanceMethod yX4_estimateAt, Cond.selects RX4 yX4_estimateAt yX4_estimateAt, Cond.code yX4_estimateAt cX4_estimateAt 5 (some .int), Cond.fieldLink RX4 40 "Ringtrack$Heads" "turn" "I", Cond.methodLink RX4 64 yX4_wordUnder, Cond.instanceMethod yX4_wordUnder, Cond.selects RX4 yX4_wordUnder yX4_wordUnder, Cond.code yX4_wordUnder cX4_wordUnder 6 (some .int), Cond.fieldLink RX4 43 "Ringtrack$Heads" "speckCount" "I", Cond.fieldLink RX4 9 "Ringtrack$Heads" "speckPlaces" "[I", Cond.fieldLink RX4 15 "Ringtrack$Heads" "speckTracks" "[I", Cond.fieldLink RX4 21 "Ringtrack$Heads" "stuckAsZero" "[I"]
def wsX4_tellMiddles_r2 : List Cond := [Cond.fieldLink RX4 24 "Ringtrack$Heads" "stuckAsOne" "[I", Cond.static yX6_isHead, Cond.initialized RX6, Cond.code yX6_isHead cX6_isHead 1 (some .boolean), Cond.methodLink RX6 33 yX6_isWithin, Cond.static yX6_isWithin, Cond.code yX6_isWithin cX6_isWithin 3 (some .boolean), Cond.methodLink RX4 58 yX4_placeUnder, Cond.instanceMethod yX4_placeUnder, Cond.selects RX4 yX4_placeUnder yX4_placeUnder, Cond.code yX4_placeUnder cX4_placeUnder 5 (some .int), Cond.methodLink RX4 54 yX4_errorAt, Cond.instanceMethod yX4_errorAt, Cond.selects RX4 yX4_errorAt yX4_errorAt, Cond.code yX4_errorAt cX4_errorAt 7 (some .int), Cond.fieldLink RX4 31 "Ringtrack$Heads" "off" "I", Cond.static yX6_modulo, Cond.code yX6_modulo cX6_modulo 3 (some .int), Cond.methodLink RX4 61 yX0_wordAt, Cond.instanceMethod yX0_wordAt, Cond.selects RX0 yX0_wordAt yX0_wordAt, Cond.initialized RX0, Cond.code yX0_wordAt cX0_wordAt 2 (some .int), Cond.fieldLink RX0 15 "Ringtrack$Code" "words" "[I"]
def wsX4_tellMiddles_r3 : List Cond := [Cond.methodLink RX0 28 yX0_hasPlace, Cond.instanceMethod yX0_hasPlace, Cond.selects RX0 yX0_hasPlace yX0_hasPlace, Cond.code yX0_hasPlace cX0_hasPlace 2 (some .boolean), Cond.methodLink RX4 67 yX0_placeOf, Cond.instanceMethod yX0_placeOf, Cond.selects RX0 yX0_placeOf yX0_placeOf, Cond.code yX0_placeOf cX0_placeOf 2 (some .int), Cond.fieldLink RX0 9 "Ringtrack$Code" "places" "[I", Cond.methodLink RX4 80 yX4_between, Cond.instanceMethod yX4_between, Cond.selects RX4 yX4_between yX4_between, Cond.code yX4_between cX4_between 3 (some .int), Cond.static yX6_wayBetween, Cond.code yX6_wayBetween cX6_wayBetween 4 (some .int), Cond.methodLink RX6 339 yX6_modulo]
def wsX4_tellMiddles : List Cond := .code yX4_tellMiddles cX4_tellMiddles 2 (some .boolean) :: ((wsX4_tellMiddles_r1 ++ (wsX4_tellMiddles_r2 ++ wsX4_tellMiddles_r3)) ++ wsX40 ++ wsX00)
def wsX6_lengthBetween : List Cond := .code yX6_lengthBetween cX6_lengthBetween 3 (some .int) :: ([.methodLink RX6 374 Lib.Math.abs.name, .static Lib.Math.abs.name, .initialized "java/lang/Math", .code Lib.Math.abs.name Lib.Math.abs.code 1 (some .int), .methodLink RX6 370 yX6_wayBetween, .static yX6_wayBetween, .initialized RX6, .code yX6_wayBetween cX6_wayBetween 4 (some .int), .methodLink RX6 339 yX6_modulo, .static yX6_modulo, .code yX6_modulo cX6_modulo 3 (some .int)])
def wsX5_isNear : List Cond := .code yX5_isNear cX5_isNear 4 (some .boolean) :: ([.fieldLink RX5 19 "Ringtrack$Reading" "told" "I", .static yX6_lengthBetween, .initialized RX6, .code yX6_lengthBetween cX6_lengthBetween 3 (some .int), .methodLink RX6 374 Lib.Math.abs.name, .static Lib.Math.abs.name, .initialized "java/lang/Math", .code Lib.Math.abs.name Lib.Math.abs.code 1 (some .int), .methodLink RX6 370 yX6_wayBetween, .static yX6_wayBetween, .code yX6_wayBetween cX6_wayBetween 4 (some .int), .methodLink RX6 339 yX6_modulo, .static yX6_modulo, .code yX6_modulo cX6_modulo 3 (some .int)] ++ wsX50)
def wsX5_keepWay : List Cond := .code yX5_keepWay cX5_keepWay 2 none :: ([.fieldLink RX5 26 "Ringtrack$Reading" "wayCount" "I", .fieldLink RX5 15 "Ringtrack$Reading" "ways" "[I", .methodLink RX5 60 arraycopyName, .native arraycopyName, .static arraycopyName, .initialized "java/lang/System"] ++ wsX50)
def wsX5_tell : List Cond := .code yX5_tell cX5_tell 5 none :: ([.fieldLink RX5 19 "Ringtrack$Reading" "told" "I", .fieldLink RX5 23 "Ringtrack$Reading" "rounds" "I", .fieldLink RX5 9 "Ringtrack$Reading" "state" "C", .static yX6_wayBetween, .initialized RX6, .code yX6_wayBetween cX6_wayBetween 4 (some .int), .methodLink RX6 339 yX6_modulo, .static yX6_modulo, .code yX6_modulo cX6_modulo 3 (some .int), .methodLink RX5 56 yX5_keepWay, .instanceMethod yX5_keepWay, .selects RX5 yX5_keepWay yX5_keepWay, .initialized RX5, .code yX5_keepWay cX5_keepWay 2 none, .fieldLink RX5 26 "Ringtrack$Reading" "wayCount" "I", .fieldLink RX5 15 "Ringtrack$Reading" "ways" "[I", .methodLink RX5 60 arraycopyName, .native arraycopyName, .static arraycopyName, .initialized "java/lang/System"] ++ wsX50)
def wsX5_readAt_r1 : List Cond := [Cond.fieldLink RX5 35 "Ringtrack$Heads" "turn" "I", Cond.fieldLink RX5 9 "Ringtrack$Reading" "state" "C", Cond.methodLink RX5 29 yX4_estimateAt, Cond.instanceMethod yX4_estimateAt, Cond.selects RX4 yX4_estimateAt yX4_estimateAt, Cond.initialized RX4, Cond.code yX4_estimateAt cX4_estimateAt 5 (some .int), Cond.fieldLink RX4 27 "Ringtrack$Heads" "code" "LRingtrack$Code;", Cond.fieldLink RX4 40 "Ringtrack$Heads" "turn" "I", Cond.methodLink RX4 64 yX4_wordUnder, Cond.instanceMethod yX4_wordUnder, Cond.selects RX4 yX4_wordUnder yX4_wordUnder, Cond.code yX4_wordUnder cX4_wordUnder 6 (some .int), Cond.fieldLink RX4 43 "Ringtrack$Heads" "speckCount" "I", Cond.fieldLink RX4 9 "Ringtrack$Heads" "speckPlaces" "[I", Cond.fieldLink RX4 15 "Ringtrack$Heads" "speckTracks" "[I", Cond.fieldLink RX4 21 "Ringtrack$Heads" "stuckAsZero" "[I", Cond.fieldLink RX4 24 "Ringtrack$Heads" "stuckAsOne" "[I", Cond.static yX6_isHead, Cond.initialized RX6, Cond.code yX6_isHead cX6_isHead 1 (some .boolean), Cond.methodLink RX6 33 yX6_isWithin, Cond.static yX6_isWithin, Cond.code yX6_isWithin cX6_isWithin 3 (some .boolean)]
def wsX5_readAt_r2 : List Cond := [Cond.methodLink RX4 58 yX4_placeUnder, Cond.instanceMethod yX4_placeUnder, Cond.selects RX4 yX4_placeUnder yX4_placeUnder, Cond.code yX4_placeUnder cX4_placeUnder 5 (some .int), Cond.methodLink RX4 54 yX4_errorAt, Cond.instanceMethod yX4_errorAt, Cond.selects RX4 yX4_errorAt yX4_errorAt, Cond.code yX4_errorAt cX4_errorAt 7 (some .int), Cond.fieldLink RX4 31 "Ringtrack$Heads" "off" "I", Cond.static yX6_modulo, Cond.code yX6_modulo cX6_modulo 3 (some .int), Cond.methodLink RX4 61 yX0_wordAt, Cond.instanceMethod yX0_wordAt, Cond.selects RX0 yX0_wordAt yX0_wordAt, Cond.initialized RX0, Cond.code yX0_wordAt cX0_wordAt 2 (some .int), Cond.fieldLink RX0 15 "Ringtrack$Code" "words" "[I", Cond.methodLink RX0 28 yX0_hasPlace, Cond.instanceMethod yX0_hasPlace, Cond.selects RX0 yX0_hasPlace yX0_hasPlace, Cond.code yX0_hasPlace cX0_hasPlace 2 (some .boolean), Cond.methodLink RX4 67 yX0_placeOf, Cond.instanceMethod yX0_placeOf, Cond.selects RX0 yX0_placeOf yX0_placeOf]
def wsX5_readAt_r3 : List Cond := [Cond.code yX0_placeOf cX0_placeOf 2 (some .int), Cond.fieldLink RX0 9 "Ringtrack$Code" "places" "[I", Cond.methodLink RX4 70 yX4_middleOf, Cond.instanceMethod yX4_middleOf, Cond.selects RX4 yX4_middleOf yX4_middleOf, Cond.code yX4_middleOf cX4_middleOf 2 (some .int), Cond.methodLink RX5 38 yX5_isNear, Cond.instanceMethod yX5_isNear, Cond.selects RX5 yX5_isNear yX5_isNear, Cond.initialized RX5, Cond.code yX5_isNear cX5_isNear 4 (some .boolean), Cond.fieldLink RX5 19 "Ringtrack$Reading" "told" "I", Cond.static yX6_lengthBetween, Cond.code yX6_lengthBetween cX6_lengthBetween 3 (some .int), Cond.methodLink RX6 374 Lib.Math.abs.name, Cond.static Lib.Math.abs.name, Cond.initialized "java/lang/Math", Cond.code Lib.Math.abs.name Lib.Math.abs.code 1 (some .int), Cond.methodLink RX6 370 yX6_wayBetween, Cond.static yX6_wayBetween, Cond.code yX6_wayBetween cX6_wayBetween 4 (some .int), Cond.methodLink RX6 339 yX6_modulo, Cond.methodLink RX5 46 yX4_between, Cond.instanceMethod yX4_between]
def wsX5_readAt_r4 : List Cond := [Cond.selects RX4 yX4_between yX4_between, Cond.code yX4_between cX4_between 3 (some .int), Cond.methodLink RX5 49 yX5_tell, Cond.instanceMethod yX5_tell, Cond.selects RX5 yX5_tell yX5_tell, Cond.code yX5_tell cX5_tell 5 none, Cond.fieldLink RX5 23 "Ringtrack$Reading" "rounds" "I", Cond.methodLink RX5 56 yX5_keepWay, Cond.instanceMethod yX5_keepWay, Cond.selects RX5 yX5_keepWay yX5_keepWay, Cond.code yX5_keepWay cX5_keepWay 2 none, Cond.fieldLink RX5 26 "Ringtrack$Reading" "wayCount" "I", Cond.fieldLink RX5 15 "Ringtrack$Reading" "ways" "[I", Cond.methodLink RX5 60 arraycopyName, Cond.native arraycopyName, Cond.static arraycopyName, Cond.initialized "java/lang/System"]
def wsX5_readAt : List Cond := .code yX5_readAt cX5_readAt 9 none :: ((wsX5_readAt_r1 ++ (wsX5_readAt_r2 ++ (wsX5_readAt_r3 ++ wsX5_readAt_r4))) ++ wsX40 ++ wsX50 ++ wsX00)
def wsX6_init : List Cond := .code yX6_init cX6_init 1 none :: ([.methodLink RX6 1 objectInit, .instanceMethod objectInit, .code objectInit ⟨#[0xb1]⟩ 1 none, .arrayClass .int, .fieldLink RX6 9 "Ringtrack" "typed" "[I", .classLink RX6 13 RX0, .fieldLink RX6 15 "Ringtrack" "codes" "[LRingtrack$Code;", .fieldLink RX6 19 "Ringtrack" "limit" "I", .fieldLink RX6 23 "Ringtrack" "tolerance" "I", .classLink RX6 26 RX2, .instantiable RX2 7, .initialized RX2, .fieldLink RX6 29 "Ringtrack" "frames" "LRingtrack$Frames;", .instanceMethod yX2_init, .code yX2_init cX2_init 1 none, .methodLink RX2 3 objectInit, .fieldLink RX2 9 "Ringtrack$Frames" "underWay" "[I", .fieldLink RX2 15 "Ringtrack$Frames" "ticksLeft" "[I", .fieldLink RX2 18 "Ringtrack$Frames" "arrived" "[I"] ++ wsX60 ++ wsX20)
def wsX6_type : List Cond := .code yX6_type cX6_type 2 (some .int) :: ([.classLink RX6 37 "java/lang/IllegalArgumentException", .initialized "java/lang/IllegalArgumentException", .classLink RX6 47 "java/lang/IllegalStateException", .initialized "java/lang/IllegalStateException", .fieldLink RX6 44 "Ringtrack" "typedCount" "I", .fieldLink RX6 9 "Ringtrack" "typed" "[I", .methodLink RX6 33 yX6_isWithin, .static yX6_isWithin, .initialized RX6, .code yX6_isWithin cX6_isWithin 3 (some .boolean)] ++ wsX60 ++ (vx_atS RX6 41 "java/lang/IllegalArgumentException" ["java/lang/RuntimeException", "java/lang/Exception"]).filter goodWord ++ (vx_atS RX6 51 "java/lang/IllegalStateException" ["java/lang/RuntimeException", "java/lang/Exception"]).filter goodWord)
def wsX6_wipe : List Cond := .code yX6_wipe cX6_wipe 2 (some .int) :: ([.fieldLink RX6 44 "Ringtrack" "typedCount" "I"] ++ wsX60)
def wsJ6_bitCount_0f7a4 : List Cond := .code yJ6_bitCount_0f7a4 cJ6_bitCount_0f7a4 1 (some .int) :: ([.constant RJ6 265 (1431655765), .constant RJ6 266 (858993459), .constant RJ6 267 (252645135)])
def wsX6_isRing : List Cond := .code yX6_isRing cX6_isRing 4 (some .boolean) :: ([.methodLink RX6 379 yJ6_bitCount_0f7a4, .static yJ6_bitCount_0f7a4, .initialized RJ6, .code yJ6_bitCount_0f7a4 cJ6_bitCount_0f7a4 1 (some .int), .constant RJ6 265 (1431655765), .constant RJ6 266 (858993459), .constant RJ6 267 (252645135)])
def wsX6_typedIsRing : List Cond := .code yX6_typedIsRing cX6_typedIsRing 3 (some .boolean) :: ([.fieldLink RX6 44 "Ringtrack" "typedCount" "I", .fieldLink RX6 9 "Ringtrack" "typed" "[I", .methodLink RX6 360 yX6_isRing, .static yX6_isRing, .initialized RX6, .code yX6_isRing cX6_isRing 4 (some .boolean), .methodLink RX6 379 yJ6_bitCount_0f7a4, .static yJ6_bitCount_0f7a4, .initialized RJ6, .code yJ6_bitCount_0f7a4 cJ6_bitCount_0f7a4 1 (some .int), .constant RJ6 265 (1431655765), .constant RJ6 266 (858993459), .constant RJ6 267 (252645135)] ++ wsX60)
def wsJ7_copyOf_59c91 : List Cond := .code yJ7_copyOf_59c91 cJ7_copyOf_59c91 3 (some (.array .int)) :: ([.methodLink RJ7 316 ⟨"[I", "clone", "()Ljava/lang/Object;"⟩, .sameMethod "[I" "java/lang/Object" "clone" "()Ljava/lang/Object;", .native ⟨"java/lang/Object", "clone", "()Ljava/lang/Object;"⟩, .instanceMethod ⟨"java/lang/Object", "clone", "()Ljava/lang/Object;"⟩, .selects "[I" ⟨"[I", "clone", "()Ljava/lang/Object;"⟩ ⟨"java/lang/Object", "clone", "()Ljava/lang/Object;"⟩, .classLink RJ7 317 "[I", .arrayClass .int, .methodLink RJ7 304 Lib.Math.min.name, .static Lib.Math.min.name, .initialized "java/lang/Math", .code Lib.Math.min.name Lib.Math.min.code 2 (some .int), .methodLink RJ7 150 arraycopyName, .native arraycopyName, .static arraycopyName, .initialized "java/lang/System"])
def wsX6_keepCode : List Cond := .code yX6_keepCode cX6_keepCode 3 (some .int) :: ([.fieldLink RX6 61 "Ringtrack" "codeCount" "I", .fieldLink RX6 15 "Ringtrack" "codes" "[LRingtrack$Code;", .classLink RX6 13 RX0, .instantiable RX0 3, .initialized RX0, .methodLink RX6 384 yX0_init, .instanceMethod yX0_init, .code yX0_init cX0_init 6 none, .methodLink RX0 3 objectInit, .instanceMethod objectInit, .code objectInit ⟨#[0xb1]⟩ 1 none, .arrayClass .int, .fieldLink RX0 9 "Ringtrack$Code" "places" "[I", .fieldLink RX0 15 "Ringtrack$Code" "words" "[I", .fieldLink RX0 24 "Ringtrack$Code" "tracks" "I", .methodLink RX0 18 yJ7_fill_53178, .static yJ7_fill_53178, .initialized RJ7, .code yJ7_fill_53178 cJ7_fill_53178 4 none] ++ wsX60 ++ wsX00)
def wsX6_ring_r1 : List Cond := [Cond.classLink RX6 56 "java/lang/UnsupportedOperationException", Cond.initialized "java/lang/UnsupportedOperationException", Cond.classLink RX6 47 "java/lang/IllegalStateException", Cond.initialized "java/lang/IllegalStateException", Cond.fieldLink RX6 61 "Ringtrack" "codeCount" "I", Cond.fieldLink RX6 15 "Ringtrack" "codes" "[LRingtrack$Code;", Cond.fieldLink RX6 9 "Ringtrack" "typed" "[I", Cond.fieldLink RX6 44 "Ringtrack" "typedCount" "I", Cond.methodLink RX6 52 yX6_typedIsRing, Cond.instanceMethod yX6_typedIsRing, Cond.selects RX6 yX6_typedIsRing yX6_typedIsRing, Cond.initialized RX6, Cond.code yX6_typedIsRing cX6_typedIsRing 3 (some .boolean), Cond.methodLink RX6 360 yX6_isRing, Cond.static yX6_isRing, Cond.code yX6_isRing cX6_isRing 4 (some .boolean), Cond.methodLink RX6 379 yJ6_bitCount_0f7a4, Cond.static yJ6_bitCount_0f7a4, Cond.initialized RJ6, Cond.code yJ6_bitCount_0f7a4 cJ6_bitCount_0f7a4 1 (some .int), Cond.constant RJ6 265 (1431655765), Cond.constant RJ6 266 (858993459), Cond.constant RJ6 267 (252645135), Cond.methodLink RX6 66 yJ7_copyOf_59c91]
def wsX6_ring_r2 : List Cond := [Cond.static yJ7_copyOf_59c91, Cond.initialized RJ7, Cond.code yJ7_copyOf_59c91 cJ7_copyOf_59c91 3 (some (.array .int)), Cond.methodLink RJ7 316 ⟨"[I", "clone", "()Ljava/lang/Object;"⟩, Cond.sameMethod "[I" "java/lang/Object" "clone" "()Ljava/lang/Object;", Cond.native ⟨"java/lang/Object", "clone", "()Ljava/lang/Object;"⟩, Cond.instanceMethod ⟨"java/lang/Object", "clone", "()Ljava/lang/Object;"⟩, Cond.selects "[I" ⟨"[I", "clone", "()Ljava/lang/Object;"⟩ ⟨"java/lang/Object", "clone", "()Ljava/lang/Object;"⟩, Cond.classLink RJ7 317 "[I", Cond.arrayClass .int, Cond.methodLink RJ7 304 Lib.Math.min.name, Cond.static Lib.Math.min.name, Cond.initialized "java/lang/Math", Cond.code Lib.Math.min.name Lib.Math.min.code 2 (some .int), Cond.methodLink RJ7 150 arraycopyName, Cond.native arraycopyName, Cond.static arraycopyName, Cond.initialized "java/lang/System", Cond.methodLink RX6 72 yX6_keepCode, Cond.instanceMethod yX6_keepCode, Cond.selects RX6 yX6_keepCode yX6_keepCode, Cond.code yX6_keepCode cX6_keepCode 3 (some .int), Cond.classLink RX6 13 RX0, Cond.instantiable RX0 3]
def wsX6_ring_r3 : List Cond := [Cond.initialized RX0, Cond.methodLink RX6 384 yX0_init, Cond.instanceMethod yX0_init, Cond.code yX0_init cX0_init 6 none, Cond.methodLink RX0 3 objectInit, Cond.instanceMethod objectInit, Cond.code objectInit ⟨#[0xb1]⟩ 1 none, Cond.fieldLink RX0 9 "Ringtrack$Code" "places" "[I", Cond.fieldLink RX0 15 "Ringtrack$Code" "words" "[I", Cond.fieldLink RX0 24 "Ringtrack$Code" "tracks" "I", Cond.methodLink RX0 18 yJ7_fill_53178, Cond.static yJ7_fill_53178, Cond.code yJ7_fill_53178 cJ7_fill_53178 4 none]
def wsX6_ring : List Cond := .code yX6_ring cX6_ring 2 (some .int) :: ((wsX6_ring_r1 ++ (wsX6_ring_r2 ++ wsX6_ring_r3)) ++ wsX60 ++ wsX00 ++ (vx_atS RX6 60 "java/lang/UnsupportedOperationException" ["java/lang/RuntimeException", "java/lang/Exception"]).filter goodWord ++ (vx_atS RX6 51 "java/lang/IllegalStateException" ["java/lang/RuntimeException", "java/lang/Exception"]).filter goodWord)
def wsX6_reflected_r1 : List Cond := [Cond.classLink RX6 37 "java/lang/IllegalArgumentException", Cond.initialized "java/lang/IllegalArgumentException", Cond.classLink RX6 47 "java/lang/IllegalStateException", Cond.initialized "java/lang/IllegalStateException", Cond.fieldLink RX6 61 "Ringtrack" "codeCount" "I", Cond.fieldLink RX6 15 "Ringtrack" "codes" "[LRingtrack$Code;", Cond.arrayClass .int, Cond.methodLink RX6 33 yX6_isWithin, Cond.static yX6_isWithin, Cond.initialized RX6, Cond.code yX6_isWithin cX6_isWithin 3 (some .boolean), Cond.methodLink RX6 72 yX6_keepCode, Cond.instanceMethod yX6_keepCode, Cond.selects RX6 yX6_keepCode yX6_keepCode, Cond.code yX6_keepCode cX6_keepCode 3 (some .int), Cond.classLink RX6 13 RX0, Cond.instantiable RX0 3, Cond.initialized RX0, Cond.methodLink RX6 384 yX0_init, Cond.instanceMethod yX0_init, Cond.code yX0_init cX0_init 6 none, Cond.methodLink RX0 3 objectInit, Cond.instanceMethod objectInit, Cond.code objectInit ⟨#[0xb1]⟩ 1 none]
def wsX6_reflected_r2 : List Cond := [Cond.fieldLink RX0 9 "Ringtrack$Code" "places" "[I", Cond.fieldLink RX0 15 "Ringtrack$Code" "words" "[I", Cond.fieldLink RX0 24 "Ringtrack$Code" "tracks" "I", Cond.methodLink RX0 18 yJ7_fill_53178, Cond.static yJ7_fill_53178, Cond.initialized RJ7, Cond.code yJ7_fill_53178 cJ7_fill_53178 4 none]
def wsX6_reflected : List Cond := .code yX6_reflected cX6_reflected 4 (some .int) :: ((wsX6_reflected_r1 ++ wsX6_reflected_r2) ++ wsX60 ++ wsX00 ++ (vx_atS RX6 41 "java/lang/IllegalArgumentException" ["java/lang/RuntimeException", "java/lang/Exception"]).filter goodWord ++ (vx_atS RX6 51 "java/lang/IllegalStateException" ["java/lang/RuntimeException", "java/lang/Exception"]).filter goodWord)
def wsX6_codeAt : List Cond := .code yX6_codeAt cX6_codeAt 3 (some (.object "Ringtrack$Code")) :: ([.classLink RX6 271 "java/lang/IndexOutOfBoundsException", .initialized "java/lang/IndexOutOfBoundsException", .fieldLink RX6 61 "Ringtrack" "codeCount" "I", .fieldLink RX6 15 "Ringtrack" "codes" "[LRingtrack$Code;", .methodLink RX6 33 yX6_isWithin, .static yX6_isWithin, .initialized RX6, .code yX6_isWithin cX6_isWithin 3 (some .boolean)] ++ wsX60 ++ (vx_atS RX6 275 "java/lang/IndexOutOfBoundsException" ["java/lang/RuntimeException", "java/lang/Exception"]).filter goodWord)
def wsX6_words : List Cond := .code yX6_words cX6_words 2 (some .int) :: ([.fieldLink RX6 82 "Ringtrack$Code" "words" "[I", .methodLink RX6 78 yX6_codeAt, .instanceMethod yX6_codeAt, .selects RX6 yX6_codeAt yX6_codeAt, .initialized RX6, .code yX6_codeAt cX6_codeAt 3 (some (.object "Ringtrack$Code")), .classLink RX6 271 "java/lang/IndexOutOfBoundsException", .initialized "java/lang/IndexOutOfBoundsException", .fieldLink RX6 61 "Ringtrack" "codeCount" "I", .fieldLink RX6 15 "Ringtrack" "codes" "[LRingtrack$Code;", .methodLink RX6 33 yX6_isWithin, .static yX6_isWithin, .code yX6_isWithin cX6_isWithin 3 (some .boolean)] ++ wsX00 ++ wsX60 ++ (vx_atS RX6 275 "java/lang/IndexOutOfBoundsException" ["java/lang/RuntimeException", "java/lang/Exception"]).filter goodWord)
def wsX6_tracks : List Cond := .code yX6_tracks cX6_tracks 2 (some .int) :: ([.fieldLink RX6 85 "Ringtrack$Code" "tracks" "I", .methodLink RX6 78 yX6_codeAt, .instanceMethod yX6_codeAt, .selects RX6 yX6_codeAt yX6_codeAt, .initialized RX6, .code yX6_codeAt cX6_codeAt 3 (some (.object "Ringtrack$Code")), .classLink RX6 271 "java/lang/IndexOutOfBoundsException", .initialized "java/lang/IndexOutOfBoundsException", .fieldLink RX6 61 "Ringtrack" "codeCount" "I", .fieldLink RX6 15 "Ringtrack" "codes" "[LRingtrack$Code;", .methodLink RX6 33 yX6_isWithin, .static yX6_isWithin, .code yX6_isWithin cX6_isWithin 3 (some .boolean)] ++ wsX00 ++ wsX60 ++ (vx_atS RX6 275 "java/lang/IndexOutOfBoundsException" ["java/lang/RuntimeException", "java/lang/Exception"]).filter goodWord)
def wsX6_word_r1 : List Cond := [Cond.classLink RX6 37 "java/lang/IllegalArgumentException", Cond.initialized "java/lang/IllegalArgumentException", Cond.methodLink RX6 78 yX6_codeAt, Cond.instanceMethod yX6_codeAt, Cond.selects RX6 yX6_codeAt yX6_codeAt, Cond.initialized RX6, Cond.code yX6_codeAt cX6_codeAt 3 (some (.object "Ringtrack$Code")), Cond.classLink RX6 271 "java/lang/IndexOutOfBoundsException", Cond.initialized "java/lang/IndexOutOfBoundsException", Cond.fieldLink RX6 61 "Ringtrack" "codeCount" "I", Cond.fieldLink RX6 15 "Ringtrack" "codes" "[LRingtrack$Code;", Cond.methodLink RX6 33 yX6_isWithin, Cond.static yX6_isWithin, Cond.code yX6_isWithin cX6_isWithin 3 (some .boolean), Cond.methodLink RX6 88 yX0_hasPlace, Cond.instanceMethod yX0_hasPlace, Cond.selects RX0 yX0_hasPlace yX0_hasPlace, Cond.initialized RX0, Cond.code yX0_hasPlace cX0_hasPlace 2 (some .boolean), Cond.fieldLink RX0 15 "Ringtrack$Code" "words" "[I", Cond.methodLink RX6 94 yX0_wordAt, Cond.instanceMethod yX0_wordAt, Cond.selects RX0 yX0_wordAt yX0_wordAt, Cond.code yX0_wordAt cX0_wordAt 2 (some .int)]
def wsX6_word_r2 : List Cond := [Cond.methodLink RX0 28 yX0_hasPlace]
def wsX6_word : List Cond := .code yX6_word cX6_word 4 (some .int) :: ((wsX6_word_r1 ++ wsX6_word_r2) ++ wsX60 ++ wsX00 ++ (vx_atS RX6 41 "java/lang/IllegalArgumentException" ["java/lang/RuntimeException", "java/lang/Exception"]).filter goodWord ++ (vx_atS RX6 275 "java/lang/IndexOutOfBoundsException" ["java/lang/RuntimeException", "java/lang/Exception"]).filter goodWord)
def wsX6_place : List Cond := .code yX6_place cX6_place 5 (some .int) :: ([.classLink RX6 37 "java/lang/IllegalArgumentException", .initialized "java/lang/IllegalArgumentException", .classLink RX6 101 "java/util/NoSuchElementException", .initialized "java/util/NoSuchElementException", .methodLink RX6 78 yX6_codeAt, .instanceMethod yX6_codeAt, .selects RX6 yX6_codeAt yX6_codeAt, .initialized RX6, .code yX6_codeAt cX6_codeAt 3 (some (.object "Ringtrack$Code")), .classLink RX6 271 "java/lang/IndexOutOfBoundsException", .initialized "java/lang/IndexOutOfBoundsException", .fieldLink RX6 61 "Ringtrack" "codeCount" "I", .fieldLink RX6 15 "Ringtrack" "codes" "[LRingtrack$Code;", .methodLink RX6 33 yX6_isWithin, .static yX6_isWithin, .code yX6_isWithin cX6_isWithin 3 (some .boolean), .methodLink RX6 98 yX0_placeOf, .instanceMethod yX0_placeOf, .selects RX0 yX0_placeOf yX0_placeOf, .initialized RX0, .code yX0_placeOf cX0_placeOf 2 (some .int), .fieldLink RX0 9 "Ringtrack$Code" "places" "[I"] ++ wsX60 ++ wsX00 ++ (vx_atS RX6 41 "java/lang/IllegalArgumentException" ["java/lang/RuntimeException", "java/lang/Exception"]).filter goodWord ++ (zNat RX6 105).filter goodWord ++ (vx_atS RX6 275 "java/lang/IndexOutOfBoundsException" ["java/lang/RuntimeException", "java/lang/Exception"]).filter goodWord)
def wsX6_changes_r1 : List Cond := [Cond.classLink RX6 37 "java/lang/IllegalArgumentException", Cond.initialized "java/lang/IllegalArgumentException", Cond.methodLink RX6 78 yX6_codeAt, Cond.instanceMethod yX6_codeAt, Cond.selects RX6 yX6_codeAt yX6_codeAt, Cond.initialized RX6, Cond.code yX6_codeAt cX6_codeAt 3 (some (.object "Ringtrack$Code")), Cond.classLink RX6 271 "java/lang/IndexOutOfBoundsException", Cond.initialized "java/lang/IndexOutOfBoundsException", Cond.fieldLink RX6 61 "Ringtrack" "codeCount" "I", Cond.fieldLink RX6 15 "Ringtrack" "codes" "[LRingtrack$Code;", Cond.methodLink RX6 33 yX6_isWithin, Cond.static yX6_isWithin, Cond.code yX6_isWithin cX6_isWithin 3 (some .boolean), Cond.methodLink RX6 106 yX0_hasTrack, Cond.instanceMethod yX0_hasTrack, Cond.selects RX0 yX0_hasTrack yX0_hasTrack, Cond.initialized RX0, Cond.code yX0_hasTrack cX0_hasTrack 2 (some .boolean), Cond.fieldLink RX0 24 "Ringtrack$Code" "tracks" "I", Cond.methodLink RX6 111 yX0_changesOf, Cond.instanceMethod yX0_changesOf, Cond.selects RX0 yX0_changesOf yX0_changesOf, Cond.code yX0_changesOf cX0_changesOf 5 (some .int)]
def wsX6_changes_r2 : List Cond := [Cond.fieldLink RX0 15 "Ringtrack$Code" "words" "[I", Cond.static yX6_modulo, Cond.code yX6_modulo cX6_modulo 3 (some .int), Cond.methodLink RX0 40 yX0_mark, Cond.instanceMethod yX0_mark, Cond.selects RX0 yX0_mark yX0_mark, Cond.code yX0_mark cX0_mark 3 (some .int), Cond.methodLink RX0 32 yX0_wordAt, Cond.instanceMethod yX0_wordAt, Cond.selects RX0 yX0_wordAt yX0_wordAt, Cond.code yX0_wordAt cX0_wordAt 2 (some .int), Cond.methodLink RX0 28 yX0_hasPlace, Cond.instanceMethod yX0_hasPlace, Cond.selects RX0 yX0_hasPlace yX0_hasPlace, Cond.code yX0_hasPlace cX0_hasPlace 2 (some .boolean)]
def wsX6_changes : List Cond := .code yX6_changes cX6_changes 4 (some .int) :: ((wsX6_changes_r1 ++ wsX6_changes_r2) ++ wsX60 ++ wsX00 ++ (vx_atS RX6 41 "java/lang/IllegalArgumentException" ["java/lang/RuntimeException", "java/lang/Exception"]).filter goodWord ++ (vx_atS RX6 275 "java/lang/IndexOutOfBoundsException" ["java/lang/RuntimeException", "java/lang/Exception"]).filter goodWord)
def wsX6_isBalanced_r1 : List Cond := [Cond.methodLink RX6 78 yX6_codeAt, Cond.instanceMethod yX6_codeAt, Cond.selects RX6 yX6_codeAt yX6_codeAt, Cond.initialized RX6, Cond.code yX6_codeAt cX6_codeAt 3 (some (.object "Ringtrack$Code")), Cond.classLink RX6 271 "java/lang/IndexOutOfBoundsException", Cond.initialized "java/lang/IndexOutOfBoundsException", Cond.fieldLink RX6 61 "Ringtrack" "codeCount" "I", Cond.fieldLink RX6 15 "Ringtrack" "codes" "[LRingtrack$Code;", Cond.methodLink RX6 33 yX6_isWithin, Cond.static yX6_isWithin, Cond.code yX6_isWithin cX6_isWithin 3 (some .boolean), Cond.methodLink RX6 114 yX0_changesEvenly, Cond.instanceMethod yX0_changesEvenly, Cond.selects RX0 yX0_changesEvenly yX0_changesEvenly, Cond.initialized RX0, Cond.code yX0_changesEvenly cX0_changesEvenly 5 (some .boolean), Cond.fieldLink RX0 15 "Ringtrack$Code" "words" "[I", Cond.fieldLink RX0 24 "Ringtrack$Code" "tracks" "I", Cond.methodLink RX0 46 Lib.Math.min.name, Cond.static Lib.Math.min.name, Cond.initialized "java/lang/Math", Cond.code Lib.Math.min.name Lib.Math.min.code 2 (some .int), Cond.methodLink RX0 51 Lib.Math.max.name]
def wsX6_isBalanced_r2 : List Cond := [Cond.static Lib.Math.max.name, Cond.code Lib.Math.max.name Lib.Math.max.code 2 (some .int), Cond.methodLink RX0 43 yX0_changesOf, Cond.instanceMethod yX0_changesOf, Cond.selects RX0 yX0_changesOf yX0_changesOf, Cond.code yX0_changesOf cX0_changesOf 5 (some .int), Cond.static yX6_modulo, Cond.code yX6_modulo cX6_modulo 3 (some .int), Cond.methodLink RX0 40 yX0_mark, Cond.instanceMethod yX0_mark, Cond.selects RX0 yX0_mark yX0_mark, Cond.code yX0_mark cX0_mark 3 (some .int), Cond.methodLink RX0 32 yX0_wordAt, Cond.instanceMethod yX0_wordAt, Cond.selects RX0 yX0_wordAt yX0_wordAt, Cond.code yX0_wordAt cX0_wordAt 2 (some .int), Cond.methodLink RX0 28 yX0_hasPlace, Cond.instanceMethod yX0_hasPlace, Cond.selects RX0 yX0_hasPlace yX0_hasPlace, Cond.code yX0_hasPlace cX0_hasPlace 2 (some .boolean)]
def wsX6_isBalanced : List Cond := .code yX6_isBalanced cX6_isBalanced 2 (some .boolean) :: ((wsX6_isBalanced_r1 ++ wsX6_isBalanced_r2) ++ wsX60 ++ wsX00 ++ (vx_atS RX6 275 "java/lang/IndexOutOfBoundsException" ["java/lang/RuntimeException", "java/lang/Exception"]).filter goodWord)
def wsX6_isOneTrack_r1 : List Cond := [Cond.methodLink RX6 78 yX6_codeAt, Cond.instanceMethod yX6_codeAt, Cond.selects RX6 yX6_codeAt yX6_codeAt, Cond.initialized RX6, Cond.code yX6_codeAt cX6_codeAt 3 (some (.object "Ringtrack$Code")), Cond.classLink RX6 271 "java/lang/IndexOutOfBoundsException", Cond.initialized "java/lang/IndexOutOfBoundsException", Cond.fieldLink RX6 61 "Ringtrack" "codeCount" "I", Cond.fieldLink RX6 15 "Ringtrack" "codes" "[LRingtrack$Code;", Cond.methodLink RX6 33 yX6_isWithin, Cond.static yX6_isWithin, Cond.code yX6_isWithin cX6_isWithin 3 (some .boolean), Cond.methodLink RX6 117 yX0_repeatsFirstTrack, Cond.instanceMethod yX0_repeatsFirstTrack, Cond.selects RX0 yX0_repeatsFirstTrack yX0_repeatsFirstTrack, Cond.initialized RX0, Cond.code yX0_repeatsFirstTrack cX0_repeatsFirstTrack 2 (some .boolean), Cond.fieldLink RX0 24 "Ringtrack$Code" "tracks" "I", Cond.methodLink RX0 54 yX0_isFirstTrackMoved, Cond.instanceMethod yX0_isFirstTrackMoved, Cond.selects RX0 yX0_isFirstTrackMoved yX0_isFirstTrackMoved, Cond.code yX0_isFirstTrackMoved cX0_isFirstTrackMoved 3 (some .boolean), Cond.fieldLink RX0 15 "Ringtrack$Code" "words" "[I", Cond.methodLink RX0 57 yX0_isFirstTrackFrom]
def wsX6_isOneTrack_r2 : List Cond := [Cond.instanceMethod yX0_isFirstTrackFrom, Cond.selects RX0 yX0_isFirstTrackFrom yX0_isFirstTrackFrom, Cond.code yX0_isFirstTrackFrom cX0_isFirstTrackFrom 4 (some .boolean), Cond.methodLink RX0 40 yX0_mark, Cond.instanceMethod yX0_mark, Cond.selects RX0 yX0_mark yX0_mark, Cond.code yX0_mark cX0_mark 3 (some .int), Cond.methodLink RX0 32 yX0_wordAt, Cond.instanceMethod yX0_wordAt, Cond.selects RX0 yX0_wordAt yX0_wordAt, Cond.code yX0_wordAt cX0_wordAt 2 (some .int), Cond.methodLink RX0 28 yX0_hasPlace, Cond.instanceMethod yX0_hasPlace, Cond.selects RX0 yX0_hasPlace yX0_hasPlace, Cond.code yX0_hasPlace cX0_hasPlace 2 (some .boolean), Cond.static yX6_modulo, Cond.code yX6_modulo cX6_modulo 3 (some .int)]
def wsX6_isOneTrack : List Cond := .code yX6_isOneTrack cX6_isOneTrack 2 (some .boolean) :: ((wsX6_isOneTrack_r1 ++ wsX6_isOneTrack_r2) ++ wsX60 ++ wsX00 ++ (vx_atS RX6 275 "java/lang/IndexOutOfBoundsException" ["java/lang/RuntimeException", "java/lang/Exception"]).filter goodWord)
def wsX6_setDisc_r1 : List Cond := [Cond.classLink RX6 37 "java/lang/IllegalArgumentException", Cond.initialized "java/lang/IllegalArgumentException", Cond.classLink RX6 122 RX1, Cond.instantiable RX1 8, Cond.initialized RX1, Cond.fieldLink RX6 127 "Ringtrack" "disc" "LRingtrack$Disc;", Cond.fieldLink RX6 29 "Ringtrack" "frames" "LRingtrack$Frames;", Cond.fieldLink RX6 134 "Ringtrack$Disc" "turn" "I", Cond.methodLink RX6 78 yX6_codeAt, Cond.instanceMethod yX6_codeAt, Cond.selects RX6 yX6_codeAt yX6_codeAt, Cond.initialized RX6, Cond.code yX6_codeAt cX6_codeAt 3 (some (.object "Ringtrack$Code")), Cond.classLink RX6 271 "java/lang/IndexOutOfBoundsException", Cond.initialized "java/lang/IndexOutOfBoundsException", Cond.fieldLink RX6 61 "Ringtrack" "codeCount" "I", Cond.fieldLink RX6 15 "Ringtrack" "codes" "[LRingtrack$Code;", Cond.methodLink RX6 33 yX6_isWithin, Cond.static yX6_isWithin, Cond.code yX6_isWithin cX6_isWithin 3 (some .boolean), Cond.methodLink RX6 124 yX1_init, Cond.instanceMethod yX1_init, Cond.code yX1_init cX1_init 3 none, Cond.methodLink RX1 3 objectInit]
def wsX6_setDisc_r2 : List Cond := [Cond.instanceMethod objectInit, Cond.code objectInit ⟨#[0xb1]⟩ 1 none, Cond.classLink RX1 9 RX5, Cond.instantiable RX5 5, Cond.initialized RX5, Cond.fieldLink RX1 12 "Ringtrack$Disc" "reading" "LRingtrack$Reading;", Cond.classLink RX1 18 RX3, Cond.instantiable RX3 3, Cond.initialized RX3, Cond.fieldLink RX1 21 "Ringtrack$Disc" "gears" "LRingtrack$Gears;", Cond.fieldLink RX1 25 "Ringtrack$Disc" "isPowered" "Z", Cond.classLink RX1 29 RX4, Cond.instantiable RX4 9, Cond.initialized RX4, Cond.fieldLink RX1 34 "Ringtrack$Disc" "heads" "LRingtrack$Heads;", Cond.fieldLink RX1 38 "Ringtrack$Heads" "turn" "I", Cond.fieldLink RX1 42 "Ringtrack$Disc" "turn" "I", Cond.fieldLink RX1 43 "Ringtrack$Code" "words" "[I", Cond.arrayClass .int, Cond.fieldLink RX1 49 "Ringtrack$Disc" "page" "[I", Cond.instanceMethod yX5_init, Cond.code yX5_init cX5_init 1 none, Cond.methodLink RX5 3 objectInit, Cond.fieldLink RX5 9 "Ringtrack$Reading" "state" "C"]
def wsX6_setDisc_r3 : List Cond := [Cond.fieldLink RX5 15 "Ringtrack$Reading" "ways" "[I", Cond.instanceMethod yX3_init, Cond.code yX3_init cX3_init 1 none, Cond.methodLink RX3 3 objectInit, Cond.fieldLink RX3 9 "Ringtrack$Gears" "slips" "[I", Cond.fieldLink RX3 15 "Ringtrack$Gears" "teeth" "[I", Cond.methodLink RX1 31 yX4_init, Cond.instanceMethod yX4_init, Cond.code yX4_init cX4_init 3 none, Cond.methodLink RX4 3 objectInit, Cond.fieldLink RX4 9 "Ringtrack$Heads" "speckPlaces" "[I", Cond.fieldLink RX4 15 "Ringtrack$Heads" "speckTracks" "[I", Cond.fieldLink RX4 18 "Ringtrack$Heads" "speckCreeps" "[I", Cond.fieldLink RX4 21 "Ringtrack$Heads" "stuckAsZero" "[I", Cond.fieldLink RX4 24 "Ringtrack$Heads" "stuckAsOne" "[I", Cond.fieldLink RX4 27 "Ringtrack$Heads" "code" "LRingtrack$Code;", Cond.fieldLink RX4 31 "Ringtrack$Heads" "off" "I", Cond.fieldLink RX4 35 "Ringtrack$Code" "words" "[I", Cond.fieldLink RX4 40 "Ringtrack$Heads" "turn" "I", Cond.methodLink RX6 131 yX2_clear, Cond.instanceMethod yX2_clear, Cond.selects RX2 yX2_clear yX2_clear, Cond.initialized RX2, Cond.code yX2_clear cX2_clear 1 none]
def wsX6_setDisc_r4 : List Cond := [Cond.fieldLink RX2 21 "Ringtrack$Frames" "count" "I", Cond.fieldLink RX2 25 "Ringtrack$Frames" "arrivedCount" "I"]
def wsX6_setDisc : List Cond := .code yX6_setDisc cX6_setDisc 4 (some .int) :: ((wsX6_setDisc_r1 ++ (wsX6_setDisc_r2 ++ (wsX6_setDisc_r3 ++ wsX6_setDisc_r4))) ++ wsX10 ++ wsX60 ++ wsX50 ++ wsX30 ++ wsX40 ++ wsX00 ++ wsX20 ++ (vx_atS RX6 41 "java/lang/IllegalArgumentException" ["java/lang/RuntimeException", "java/lang/Exception"]).filter goodWord ++ (vx_atS RX6 275 "java/lang/IndexOutOfBoundsException" ["java/lang/RuntimeException", "java/lang/Exception"]).filter goodWord)
def wsX6_theDisc : List Cond := .code yX6_theDisc cX6_theDisc 2 (some (.object "Ringtrack$Disc")) :: ([.classLink RX6 56 "java/lang/UnsupportedOperationException", .initialized "java/lang/UnsupportedOperationException", .fieldLink RX6 127 "Ringtrack" "disc" "LRingtrack$Disc;"] ++ wsX60 ++ (vx_atS RX6 60 "java/lang/UnsupportedOperationException" ["java/lang/RuntimeException", "java/lang/Exception"]).filter goodWord)
def wsX6_angle : List Cond := .code yX6_angle cX6_angle 1 (some .int) :: ([.fieldLink RX6 141 "Ringtrack$Disc" "angle" "I", .methodLink RX6 137 yX6_theDisc, .instanceMethod yX6_theDisc, .selects RX6 yX6_theDisc yX6_theDisc, .initialized RX6, .code yX6_theDisc cX6_theDisc 2 (some (.object "Ringtrack$Disc")), .classLink RX6 56 "java/lang/UnsupportedOperationException", .initialized "java/lang/UnsupportedOperationException", .fieldLink RX6 127 "Ringtrack" "disc" "LRingtrack$Disc;"] ++ wsX10 ++ wsX60 ++ (vx_atS RX6 60 "java/lang/UnsupportedOperationException" ["java/lang/RuntimeException", "java/lang/Exception"]).filter goodWord)
def wsX6_turn_r1 : List Cond := [Cond.classLink RX6 37 "java/lang/IllegalArgumentException", Cond.initialized "java/lang/IllegalArgumentException", Cond.fieldLink RX6 196 "Ringtrack$Disc" "reading" "LRingtrack$Reading;", Cond.fieldLink RX6 200 "Ringtrack$Disc" "isPowered" "Z", Cond.fieldLink RX6 204 "Ringtrack$Reading" "state" "C", Cond.fieldLink RX6 147 "Ringtrack$Disc" "heads" "LRingtrack$Heads;", Cond.fieldLink RX6 141 "Ringtrack$Disc" "angle" "I", Cond.fieldLink RX6 19 "Ringtrack" "limit" "I", Cond.fieldLink RX6 23 "Ringtrack" "tolerance" "I", Cond.fieldLink RX6 214 "Ringtrack" "stopCount" "I", Cond.methodLink RX6 137 yX6_theDisc, Cond.instanceMethod yX6_theDisc, Cond.selects RX6 yX6_theDisc yX6_theDisc, Cond.initialized RX6, Cond.code yX6_theDisc cX6_theDisc 2 (some (.object "Ringtrack$Disc")), Cond.classLink RX6 56 "java/lang/UnsupportedOperationException", Cond.initialized "java/lang/UnsupportedOperationException", Cond.fieldLink RX6 127 "Ringtrack" "disc" "LRingtrack$Disc;", Cond.methodLink RX6 33 yX6_isWithin, Cond.static yX6_isWithin, Cond.code yX6_isWithin cX6_isWithin 3 (some .boolean), Cond.methodLink RX6 192 yX1_advance, Cond.instanceMethod yX1_advance, Cond.selects RX1 yX1_advance yX1_advance]
def wsX6_turn_r2 : List Cond := [Cond.initialized RX1, Cond.code yX1_advance cX1_advance 4 none, Cond.fieldLink RX1 52 "Ringtrack$Disc" "angle" "I", Cond.fieldLink RX1 42 "Ringtrack$Disc" "turn" "I", Cond.fieldLink RX1 59 "Ringtrack$Disc" "rounds" "I", Cond.fieldLink RX1 34 "Ringtrack$Disc" "heads" "LRingtrack$Heads;", Cond.static yX6_modulo, Cond.code yX6_modulo cX6_modulo 3 (some .int), Cond.methodLink RX1 62 yX4_creep, Cond.instanceMethod yX4_creep, Cond.selects RX4 yX4_creep yX4_creep, Cond.initialized RX4, Cond.code yX4_creep cX4_creep 3 none, Cond.fieldLink RX4 43 "Ringtrack$Heads" "speckCount" "I", Cond.fieldLink RX4 9 "Ringtrack$Heads" "speckPlaces" "[I", Cond.fieldLink RX4 18 "Ringtrack$Heads" "speckCreeps" "[I", Cond.fieldLink RX4 27 "Ringtrack$Heads" "code" "LRingtrack$Code;", Cond.fieldLink RX4 35 "Ringtrack$Code" "words" "[I", Cond.methodLink RX6 210 yX5_readAt, Cond.instanceMethod yX5_readAt, Cond.selects RX5 yX5_readAt yX5_readAt, Cond.initialized RX5, Cond.code yX5_readAt cX5_readAt 9 none, Cond.fieldLink RX5 35 "Ringtrack$Heads" "turn" "I"]
def wsX6_turn_r3 : List Cond := [Cond.fieldLink RX5 9 "Ringtrack$Reading" "state" "C", Cond.methodLink RX5 29 yX4_estimateAt, Cond.instanceMethod yX4_estimateAt, Cond.selects RX4 yX4_estimateAt yX4_estimateAt, Cond.code yX4_estimateAt cX4_estimateAt 5 (some .int), Cond.fieldLink RX4 40 "Ringtrack$Heads" "turn" "I", Cond.methodLink RX4 64 yX4_wordUnder, Cond.instanceMethod yX4_wordUnder, Cond.selects RX4 yX4_wordUnder yX4_wordUnder, Cond.code yX4_wordUnder cX4_wordUnder 6 (some .int), Cond.fieldLink RX4 15 "Ringtrack$Heads" "speckTracks" "[I", Cond.fieldLink RX4 21 "Ringtrack$Heads" "stuckAsZero" "[I", Cond.fieldLink RX4 24 "Ringtrack$Heads" "stuckAsOne" "[I", Cond.static yX6_isHead, Cond.code yX6_isHead cX6_isHead 1 (some .boolean), Cond.methodLink RX4 58 yX4_placeUnder, Cond.instanceMethod yX4_placeUnder, Cond.selects RX4 yX4_placeUnder yX4_placeUnder, Cond.code yX4_placeUnder cX4_placeUnder 5 (some .int), Cond.methodLink RX4 54 yX4_errorAt, Cond.instanceMethod yX4_errorAt, Cond.selects RX4 yX4_errorAt yX4_errorAt, Cond.code yX4_errorAt cX4_errorAt 7 (some .int), Cond.fieldLink RX4 31 "Ringtrack$Heads" "off" "I"]
def wsX6_turn_r4 : List Cond := [Cond.methodLink RX4 61 yX0_wordAt, Cond.instanceMethod yX0_wordAt, Cond.selects RX0 yX0_wordAt yX0_wordAt, Cond.initialized RX0, Cond.code yX0_wordAt cX0_wordAt 2 (some .int), Cond.fieldLink RX0 15 "Ringtrack$Code" "words" "[I", Cond.methodLink RX0 28 yX0_hasPlace, Cond.instanceMethod yX0_hasPlace, Cond.selects RX0 yX0_hasPlace yX0_hasPlace, Cond.code yX0_hasPlace cX0_hasPlace 2 (some .boolean), Cond.methodLink RX4 67 yX0_placeOf, Cond.instanceMethod yX0_placeOf, Cond.selects RX0 yX0_placeOf yX0_placeOf, Cond.code yX0_placeOf cX0_placeOf 2 (some .int), Cond.fieldLink RX0 9 "Ringtrack$Code" "places" "[I", Cond.methodLink RX4 70 yX4_middleOf, Cond.instanceMethod yX4_middleOf, Cond.selects RX4 yX4_middleOf yX4_middleOf, Cond.code yX4_middleOf cX4_middleOf 2 (some .int), Cond.methodLink RX5 38 yX5_isNear, Cond.instanceMethod yX5_isNear, Cond.selects RX5 yX5_isNear yX5_isNear, Cond.code yX5_isNear cX5_isNear 4 (some .boolean), Cond.fieldLink RX5 19 "Ringtrack$Reading" "told" "I"]
def wsX6_turn_r5 : List Cond := [Cond.static yX6_lengthBetween, Cond.code yX6_lengthBetween cX6_lengthBetween 3 (some .int), Cond.methodLink RX6 374 Lib.Math.abs.name, Cond.static Lib.Math.abs.name, Cond.initialized "java/lang/Math", Cond.code Lib.Math.abs.name Lib.Math.abs.code 1 (some .int), Cond.methodLink RX6 370 yX6_wayBetween, Cond.static yX6_wayBetween, Cond.code yX6_wayBetween cX6_wayBetween 4 (some .int), Cond.methodLink RX6 339 yX6_modulo, Cond.methodLink RX5 46 yX4_between, Cond.instanceMethod yX4_between, Cond.selects RX4 yX4_between yX4_between, Cond.code yX4_between cX4_between 3 (some .int), Cond.methodLink RX5 49 yX5_tell, Cond.instanceMethod yX5_tell, Cond.selects RX5 yX5_tell yX5_tell, Cond.code yX5_tell cX5_tell 5 none, Cond.fieldLink RX5 23 "Ringtrack$Reading" "rounds" "I", Cond.methodLink RX5 56 yX5_keepWay, Cond.instanceMethod yX5_keepWay, Cond.selects RX5 yX5_keepWay yX5_keepWay, Cond.code yX5_keepWay cX5_keepWay 2 none, Cond.fieldLink RX5 26 "Ringtrack$Reading" "wayCount" "I"]
def wsX6_turn_r6 : List Cond := [Cond.fieldLink RX5 15 "Ringtrack$Reading" "ways" "[I", Cond.methodLink RX5 60 arraycopyName, Cond.native arraycopyName, Cond.static arraycopyName, Cond.initialized "java/lang/System"]
def wsX6_turn : List Cond := .code yX6_turn cX6_turn 4 (some .int) :: ((wsX6_turn_r1 ++ (wsX6_turn_r2 ++ (wsX6_turn_r3 ++ (wsX6_turn_r4 ++ (wsX6_turn_r5 ++ wsX6_turn_r6))))) ++ wsX10 ++ wsX50 ++ wsX60 ++ wsX40 ++ wsX00 ++ (vx_atS RX6 41 "java/lang/IllegalArgumentException" ["java/lang/RuntimeException", "java/lang/Exception"]).filter goodWord ++ (vx_atS RX6 60 "java/lang/UnsupportedOperationException" ["java/lang/RuntimeException", "java/lang/Exception"]).filter goodWord)
def wsX6_isSound_r1 : List Cond := [Cond.fieldLink RX6 61 "Ringtrack" "codeCount" "I", Cond.fieldLink RX6 15 "Ringtrack" "codes" "[LRingtrack$Code;", Cond.fieldLink RX6 82 "Ringtrack$Code" "words" "[I", Cond.fieldLink RX6 127 "Ringtrack" "disc" "LRingtrack$Disc;", Cond.classLink RX6 152 RX4, Cond.instantiable RX4 9, Cond.initialized RX4, Cond.fieldLink RX6 147 "Ringtrack$Disc" "heads" "LRingtrack$Heads;", Cond.fieldLink RX6 151 "Ringtrack$Heads" "code" "LRingtrack$Code;", Cond.fieldLink RX6 196 "Ringtrack$Disc" "reading" "LRingtrack$Reading;", Cond.fieldLink RX6 221 "Ringtrack$Reading" "told" "I", Cond.fieldLink RX6 134 "Ringtrack$Disc" "turn" "I", Cond.fieldLink RX6 252 "Ringtrack$Disc" "gears" "LRingtrack$Gears;", Cond.fieldLink RX6 144 "Ringtrack$Disc" "rounds" "I", Cond.methodLink RX6 360 yX6_isRing, Cond.static yX6_isRing, Cond.initialized RX6, Cond.code yX6_isRing cX6_isRing 4 (some .boolean), Cond.methodLink RX6 379 yJ6_bitCount_0f7a4, Cond.static yJ6_bitCount_0f7a4, Cond.initialized RJ6, Cond.code yJ6_bitCount_0f7a4 cJ6_bitCount_0f7a4 1 (some .int), Cond.constant RJ6 265 (1431655765), Cond.constant RJ6 266 (858993459)]
def wsX6_isSound_r2 : List Cond := [Cond.constant RJ6 267 (252645135), Cond.methodLink RX6 345 yX4_init, Cond.instanceMethod yX4_init, Cond.code yX4_init cX4_init 3 none, Cond.methodLink RX4 3 objectInit, Cond.instanceMethod objectInit, Cond.code objectInit ⟨#[0xb1]⟩ 1 none, Cond.arrayClass .int, Cond.fieldLink RX4 9 "Ringtrack$Heads" "speckPlaces" "[I", Cond.fieldLink RX4 15 "Ringtrack$Heads" "speckTracks" "[I", Cond.fieldLink RX4 18 "Ringtrack$Heads" "speckCreeps" "[I", Cond.fieldLink RX4 21 "Ringtrack$Heads" "stuckAsZero" "[I", Cond.fieldLink RX4 24 "Ringtrack$Heads" "stuckAsOne" "[I", Cond.fieldLink RX4 27 "Ringtrack$Heads" "code" "LRingtrack$Code;", Cond.fieldLink RX4 31 "Ringtrack$Heads" "off" "I", Cond.fieldLink RX4 35 "Ringtrack$Code" "words" "[I", Cond.fieldLink RX4 40 "Ringtrack$Heads" "turn" "I", Cond.methodLink RX6 33 yX6_isWithin, Cond.static yX6_isWithin, Cond.code yX6_isWithin cX6_isWithin 3 (some .boolean), Cond.methodLink RX6 364 yX3_areInOrder, Cond.instanceMethod yX3_areInOrder, Cond.selects RX3 yX3_areInOrder yX3_areInOrder, Cond.initialized RX3]
def wsX6_isSound_r3 : List Cond := [Cond.code yX3_areInOrder cX3_areInOrder 3 (some .boolean), Cond.fieldLink RX3 18 "Ringtrack$Gears" "count" "I", Cond.fieldLink RX3 15 "Ringtrack$Gears" "teeth" "[I", Cond.methodLink RX3 34 yX3_toothOf, Cond.instanceMethod yX3_toothOf, Cond.selects RX3 yX3_toothOf yX3_toothOf, Cond.code yX3_toothOf cX3_toothOf 3 (some .int), Cond.fieldLink RX3 9 "Ringtrack$Gears" "slips" "[I", Cond.methodLink RX3 26 yX3_has, Cond.instanceMethod yX3_has, Cond.selects RX3 yX3_has yX3_has, Cond.code yX3_has cX3_has 2 (some .boolean), Cond.static yX6_modulo, Cond.code yX6_modulo cX6_modulo 3 (some .int), Cond.methodLink RX6 367 yX4_tellMiddles, Cond.instanceMethod yX4_tellMiddles, Cond.selects RX4 yX4_tellMiddles yX4_tellMiddles, Cond.code yX4_tellMiddles cX4_tellMiddles 2 (some .boolean), Cond.methodLink RX4 70 yX4_middleOf, Cond.instanceMethod yX4_middleOf, Cond.selects RX4 yX4_middleOf yX4_middleOf, Cond.code yX4_middleOf cX4_middleOf 2 (some .int), Cond.methodLink RX4 83 yX4_toldTogether, Cond.instanceMethod yX4_toldTogether]
def wsX6_isSound_r4 : List Cond := [Cond.selects RX4 yX4_toldTogether yX4_toldTogether, Cond.code yX4_toldTogether cX4_toldTogether 4 (some .int), Cond.methodLink RX4 77 yX4_estimateAt, Cond.instanceMethod yX4_estimateAt, Cond.selects RX4 yX4_estimateAt yX4_estimateAt, Cond.code yX4_estimateAt cX4_estimateAt 5 (some .int), Cond.methodLink RX4 64 yX4_wordUnder, Cond.instanceMethod yX4_wordUnder, Cond.selects RX4 yX4_wordUnder yX4_wordUnder, Cond.code yX4_wordUnder cX4_wordUnder 6 (some .int), Cond.fieldLink RX4 43 "Ringtrack$Heads" "speckCount" "I", Cond.static yX6_isHead, Cond.code yX6_isHead cX6_isHead 1 (some .boolean), Cond.methodLink RX4 58 yX4_placeUnder, Cond.instanceMethod yX4_placeUnder, Cond.selects RX4 yX4_placeUnder yX4_placeUnder, Cond.code yX4_placeUnder cX4_placeUnder 5 (some .int), Cond.methodLink RX4 54 yX4_errorAt, Cond.instanceMethod yX4_errorAt, Cond.selects RX4 yX4_errorAt yX4_errorAt, Cond.code yX4_errorAt cX4_errorAt 7 (some .int), Cond.methodLink RX4 61 yX0_wordAt, Cond.instanceMethod yX0_wordAt, Cond.selects RX0 yX0_wordAt yX0_wordAt]
def wsX6_isSound_r5 : List Cond := [Cond.initialized RX0, Cond.code yX0_wordAt cX0_wordAt 2 (some .int), Cond.fieldLink RX0 15 "Ringtrack$Code" "words" "[I", Cond.methodLink RX0 28 yX0_hasPlace, Cond.instanceMethod yX0_hasPlace, Cond.selects RX0 yX0_hasPlace yX0_hasPlace, Cond.code yX0_hasPlace cX0_hasPlace 2 (some .boolean), Cond.methodLink RX4 67 yX0_placeOf, Cond.instanceMethod yX0_placeOf, Cond.selects RX0 yX0_placeOf yX0_placeOf, Cond.code yX0_placeOf cX0_placeOf 2 (some .int), Cond.fieldLink RX0 9 "Ringtrack$Code" "places" "[I", Cond.methodLink RX4 80 yX4_between, Cond.instanceMethod yX4_between, Cond.selects RX4 yX4_between yX4_between, Cond.code yX4_between cX4_between 3 (some .int), Cond.static yX6_wayBetween, Cond.code yX6_wayBetween cX6_wayBetween 4 (some .int), Cond.methodLink RX6 339 yX6_modulo]
def wsX6_isSound : List Cond := .code yX6_isSound cX6_isSound 3 (some .boolean) :: ((wsX6_isSound_r1 ++ (wsX6_isSound_r2 ++ (wsX6_isSound_r3 ++ (wsX6_isSound_r4 ++ wsX6_isSound_r5)))) ++ wsX60 ++ wsX00 ++ wsX40 ++ wsX10 ++ wsX50 ++ wsX30)
def wsJ9_abs_0f7a4 : List Cond := .code yJ9_abs_0f7a4 cJ9_abs_0f7a4 1 (some .int) :: ([])
def wsJ9_max_7cf53 : List Cond := .code yJ9_max_7cf53 cJ9_max_7cf53 2 (some .int) :: ([])
def wsJ9_min_7cf53 : List Cond := .code yJ9_min_7cf53 cJ9_min_7cf53 2 (some .int) :: ([])
def wsL_cell : List Cond := .code yL_cell cL_cell 3 (some .int) :: ([.constant RL 7 (69069), .constant RL 8 (1103515245)])
def wsL_type : List Cond := .codeWith yL_type cL_type 3 (some .int) [(0, 5, 6, 15), (0, 5, 10, 18)] :: ([.classLink RL 15 "java/lang/IllegalArgumentException", .classLink RL 18 "java/lang/IllegalStateException", .constant RL 17 (-900001), .constant RL 20 (-900002), .methodLink RL 9 yX6_type, .instanceMethod yX6_type, .selects RX6 yX6_type yX6_type, .initialized RX6, .code yX6_type cX6_type 2 (some .int), .classLink RX6 37 "java/lang/IllegalArgumentException", .initialized "java/lang/IllegalArgumentException", .classLink RX6 47 "java/lang/IllegalStateException", .initialized "java/lang/IllegalStateException", .fieldLink RX6 44 "Ringtrack" "typedCount" "I", .fieldLink RX6 9 "Ringtrack" "typed" "[I", .methodLink RX6 33 yX6_isWithin, .static yX6_isWithin, .code yX6_isWithin cX6_isWithin 3 (some .boolean)] ++ wsX60 ++ (vx_atS RX6 41 "java/lang/IllegalArgumentException" ["java/lang/RuntimeException", "java/lang/Exception"]).filter goodWord ++ (vx_atS RX6 51 "java/lang/IllegalStateException" ["java/lang/RuntimeException", "java/lang/Exception"]).filter goodWord)
def wsL_ring_r1 : List Cond := [Cond.classLink RL 25 "java/lang/UnsupportedOperationException", Cond.classLink RL 18 "java/lang/IllegalStateException", Cond.constant RL 17 (-900001), Cond.constant RL 20 (-900002), Cond.methodLink RL 21 yX6_ring, Cond.instanceMethod yX6_ring, Cond.selects RX6 yX6_ring yX6_ring, Cond.initialized RX6, Cond.code yX6_ring cX6_ring 2 (some .int), Cond.classLink RX6 56 "java/lang/UnsupportedOperationException", Cond.initialized "java/lang/UnsupportedOperationException", Cond.classLink RX6 47 "java/lang/IllegalStateException", Cond.initialized "java/lang/IllegalStateException", Cond.fieldLink RX6 61 "Ringtrack" "codeCount" "I", Cond.fieldLink RX6 15 "Ringtrack" "codes" "[LRingtrack$Code;", Cond.fieldLink RX6 9 "Ringtrack" "typed" "[I", Cond.fieldLink RX6 44 "Ringtrack" "typedCount" "I", Cond.methodLink RX6 52 yX6_typedIsRing, Cond.instanceMethod yX6_typedIsRing, Cond.selects RX6 yX6_typedIsRing yX6_typedIsRing, Cond.code yX6_typedIsRing cX6_typedIsRing 3 (some .boolean), Cond.methodLink RX6 360 yX6_isRing, Cond.static yX6_isRing, Cond.code yX6_isRing cX6_isRing 4 (some .boolean)]
def wsL_ring_r2 : List Cond := [Cond.methodLink RX6 379 yJ6_bitCount_0f7a4, Cond.static yJ6_bitCount_0f7a4, Cond.initialized RJ6, Cond.code yJ6_bitCount_0f7a4 cJ6_bitCount_0f7a4 1 (some .int), Cond.constant RJ6 265 (1431655765), Cond.constant RJ6 266 (858993459), Cond.constant RJ6 267 (252645135), Cond.methodLink RX6 66 yJ7_copyOf_59c91, Cond.static yJ7_copyOf_59c91, Cond.initialized RJ7, Cond.code yJ7_copyOf_59c91 cJ7_copyOf_59c91 3 (some (.array .int)), Cond.methodLink RJ7 316 ⟨"[I", "clone", "()Ljava/lang/Object;"⟩, Cond.sameMethod "[I" "java/lang/Object" "clone" "()Ljava/lang/Object;", Cond.native ⟨"java/lang/Object", "clone", "()Ljava/lang/Object;"⟩, Cond.instanceMethod ⟨"java/lang/Object", "clone", "()Ljava/lang/Object;"⟩, Cond.selects "[I" ⟨"[I", "clone", "()Ljava/lang/Object;"⟩ ⟨"java/lang/Object", "clone", "()Ljava/lang/Object;"⟩, Cond.classLink RJ7 317 "[I", Cond.arrayClass .int, Cond.methodLink RJ7 304 Lib.Math.min.name, Cond.static Lib.Math.min.name, Cond.initialized "java/lang/Math", Cond.code Lib.Math.min.name Lib.Math.min.code 2 (some .int), Cond.methodLink RJ7 150 arraycopyName, Cond.native arraycopyName]
def wsL_ring_r3 : List Cond := [Cond.static arraycopyName, Cond.initialized "java/lang/System", Cond.methodLink RX6 72 yX6_keepCode, Cond.instanceMethod yX6_keepCode, Cond.selects RX6 yX6_keepCode yX6_keepCode, Cond.code yX6_keepCode cX6_keepCode 3 (some .int), Cond.classLink RX6 13 RX0, Cond.instantiable RX0 3, Cond.initialized RX0, Cond.methodLink RX6 384 yX0_init, Cond.instanceMethod yX0_init, Cond.code yX0_init cX0_init 6 none, Cond.methodLink RX0 3 objectInit, Cond.instanceMethod objectInit, Cond.code objectInit ⟨#[0xb1]⟩ 1 none, Cond.fieldLink RX0 9 "Ringtrack$Code" "places" "[I", Cond.fieldLink RX0 15 "Ringtrack$Code" "words" "[I", Cond.fieldLink RX0 24 "Ringtrack$Code" "tracks" "I", Cond.methodLink RX0 18 yJ7_fill_53178, Cond.static yJ7_fill_53178, Cond.code yJ7_fill_53178 cJ7_fill_53178 4 none]
def wsL_ring : List Cond := .codeWith yL_ring cL_ring 2 (some .int) [(0, 4, 5, 25), (0, 4, 9, 18)] :: ((wsL_ring_r1 ++ (wsL_ring_r2 ++ wsL_ring_r3)) ++ wsX60 ++ wsX00 ++ (vx_atS RX6 60 "java/lang/UnsupportedOperationException" ["java/lang/RuntimeException", "java/lang/Exception"]).filter goodWord ++ (vx_atS RX6 51 "java/lang/IllegalStateException" ["java/lang/RuntimeException", "java/lang/Exception"]).filter goodWord)
def wsL_reflected_r1 : List Cond := [Cond.classLink RL 15 "java/lang/IllegalArgumentException", Cond.classLink RL 18 "java/lang/IllegalStateException", Cond.constant RL 17 (-900001), Cond.constant RL 20 (-900002), Cond.methodLink RL 27 yX6_reflected, Cond.instanceMethod yX6_reflected, Cond.selects RX6 yX6_reflected yX6_reflected, Cond.initialized RX6, Cond.code yX6_reflected cX6_reflected 4 (some .int), Cond.classLink RX6 37 "java/lang/IllegalArgumentException", Cond.initialized "java/lang/IllegalArgumentException", Cond.classLink RX6 47 "java/lang/IllegalStateException", Cond.initialized "java/lang/IllegalStateException", Cond.fieldLink RX6 61 "Ringtrack" "codeCount" "I", Cond.fieldLink RX6 15 "Ringtrack" "codes" "[LRingtrack$Code;", Cond.arrayClass .int, Cond.methodLink RX6 33 yX6_isWithin, Cond.static yX6_isWithin, Cond.code yX6_isWithin cX6_isWithin 3 (some .boolean), Cond.methodLink RX6 72 yX6_keepCode, Cond.instanceMethod yX6_keepCode, Cond.selects RX6 yX6_keepCode yX6_keepCode, Cond.code yX6_keepCode cX6_keepCode 3 (some .int), Cond.classLink RX6 13 RX0]
def wsL_reflected_r2 : List Cond := [Cond.instantiable RX0 3, Cond.initialized RX0, Cond.methodLink RX6 384 yX0_init, Cond.instanceMethod yX0_init, Cond.code yX0_init cX0_init 6 none, Cond.methodLink RX0 3 objectInit, Cond.instanceMethod objectInit, Cond.code objectInit ⟨#[0xb1]⟩ 1 none, Cond.fieldLink RX0 9 "Ringtrack$Code" "places" "[I", Cond.fieldLink RX0 15 "Ringtrack$Code" "words" "[I", Cond.fieldLink RX0 24 "Ringtrack$Code" "tracks" "I", Cond.methodLink RX0 18 yJ7_fill_53178, Cond.static yJ7_fill_53178, Cond.initialized RJ7, Cond.code yJ7_fill_53178 cJ7_fill_53178 4 none]
def wsL_reflected : List Cond := .codeWith yL_reflected cL_reflected 3 (some .int) [(0, 5, 6, 15), (0, 5, 10, 18)] :: ((wsL_reflected_r1 ++ wsL_reflected_r2) ++ wsX60 ++ wsX00 ++ (vx_atS RX6 41 "java/lang/IllegalArgumentException" ["java/lang/RuntimeException", "java/lang/Exception"]).filter goodWord ++ (vx_atS RX6 51 "java/lang/IllegalStateException" ["java/lang/RuntimeException", "java/lang/Exception"]).filter goodWord)
def wsL_words : List Cond := .codeWith yL_words cL_words 3 (some .int) [(0, 5, 6, 33)] :: ([.classLink RL 33 "java/lang/IndexOutOfBoundsException", .constant RL 17 (-900001), .methodLink RL 30 yX6_words, .instanceMethod yX6_words, .selects RX6 yX6_words yX6_words, .initialized RX6, .code yX6_words cX6_words 2 (some .int), .fieldLink RX6 82 "Ringtrack$Code" "words" "[I", .methodLink RX6 78 yX6_codeAt, .instanceMethod yX6_codeAt, .selects RX6 yX6_codeAt yX6_codeAt, .code yX6_codeAt cX6_codeAt 3 (some (.object "Ringtrack$Code")), .classLink RX6 271 "java/lang/IndexOutOfBoundsException", .initialized "java/lang/IndexOutOfBoundsException", .fieldLink RX6 61 "Ringtrack" "codeCount" "I", .fieldLink RX6 15 "Ringtrack" "codes" "[LRingtrack$Code;", .methodLink RX6 33 yX6_isWithin, .static yX6_isWithin, .code yX6_isWithin cX6_isWithin 3 (some .boolean)] ++ wsX00 ++ wsX60 ++ (vx_atS RX6 275 "java/lang/IndexOutOfBoundsException" ["java/lang/RuntimeException", "java/lang/Exception"]).filter goodWord)
def wsL_tracks : List Cond := .codeWith yL_tracks cL_tracks 3 (some .int) [(0, 5, 6, 33)] :: ([.classLink RL 33 "java/lang/IndexOutOfBoundsException", .constant RL 17 (-900001), .methodLink RL 35 yX6_tracks, .instanceMethod yX6_tracks, .selects RX6 yX6_tracks yX6_tracks, .initialized RX6, .code yX6_tracks cX6_tracks 2 (some .int), .fieldLink RX6 85 "Ringtrack$Code" "tracks" "I", .methodLink RX6 78 yX6_codeAt, .instanceMethod yX6_codeAt, .selects RX6 yX6_codeAt yX6_codeAt, .code yX6_codeAt cX6_codeAt 3 (some (.object "Ringtrack$Code")), .classLink RX6 271 "java/lang/IndexOutOfBoundsException", .initialized "java/lang/IndexOutOfBoundsException", .fieldLink RX6 61 "Ringtrack" "codeCount" "I", .fieldLink RX6 15 "Ringtrack" "codes" "[LRingtrack$Code;", .methodLink RX6 33 yX6_isWithin, .static yX6_isWithin, .code yX6_isWithin cX6_isWithin 3 (some .boolean)] ++ wsX00 ++ wsX60 ++ (vx_atS RX6 275 "java/lang/IndexOutOfBoundsException" ["java/lang/RuntimeException", "java/lang/Exception"]).filter goodWord)
def wsL_word_r1 : List Cond := [Cond.classLink RL 33 "java/lang/IndexOutOfBoundsException", Cond.classLink RL 15 "java/lang/IllegalArgumentException", Cond.constant RL 17 (-900001), Cond.constant RL 20 (-900002), Cond.methodLink RL 38 yX6_word, Cond.instanceMethod yX6_word, Cond.selects RX6 yX6_word yX6_word, Cond.initialized RX6, Cond.code yX6_word cX6_word 4 (some .int), Cond.classLink RX6 37 "java/lang/IllegalArgumentException", Cond.initialized "java/lang/IllegalArgumentException", Cond.methodLink RX6 78 yX6_codeAt, Cond.instanceMethod yX6_codeAt, Cond.selects RX6 yX6_codeAt yX6_codeAt, Cond.code yX6_codeAt cX6_codeAt 3 (some (.object "Ringtrack$Code")), Cond.classLink RX6 271 "java/lang/IndexOutOfBoundsException", Cond.initialized "java/lang/IndexOutOfBoundsException", Cond.fieldLink RX6 61 "Ringtrack" "codeCount" "I", Cond.fieldLink RX6 15 "Ringtrack" "codes" "[LRingtrack$Code;", Cond.methodLink RX6 33 yX6_isWithin, Cond.static yX6_isWithin, Cond.code yX6_isWithin cX6_isWithin 3 (some .boolean), Cond.methodLink RX6 88 yX0_hasPlace, Cond.instanceMethod yX0_hasPlace]
def wsL_word_r2 : List Cond := [Cond.selects RX0 yX0_hasPlace yX0_hasPlace, Cond.initialized RX0, Cond.code yX0_hasPlace cX0_hasPlace 2 (some .boolean), Cond.fieldLink RX0 15 "Ringtrack$Code" "words" "[I", Cond.methodLink RX6 94 yX0_wordAt, Cond.instanceMethod yX0_wordAt, Cond.selects RX0 yX0_wordAt yX0_wordAt, Cond.code yX0_wordAt cX0_wordAt 2 (some .int), Cond.methodLink RX0 28 yX0_hasPlace]
def wsL_word : List Cond := .codeWith yL_word cL_word 4 (some .int) [(0, 6, 7, 33), (0, 6, 11, 15)] :: ((wsL_word_r1 ++ wsL_word_r2) ++ wsX60 ++ wsX00 ++ (vx_atS RX6 41 "java/lang/IllegalArgumentException" ["java/lang/RuntimeException", "java/lang/Exception"]).filter goodWord ++ (vx_atS RX6 275 "java/lang/IndexOutOfBoundsException" ["java/lang/RuntimeException", "java/lang/Exception"]).filter goodWord)
def wsL_place_r1 : List Cond := [Cond.classLink RL 33 "java/lang/IndexOutOfBoundsException", Cond.classLink RL 15 "java/lang/IllegalArgumentException", Cond.classLink RL 45 "java/util/NoSuchElementException", Cond.constant RL 17 (-900001), Cond.constant RL 20 (-900002), Cond.constant RL 47 (-900003), Cond.methodLink RL 42 yX6_place, Cond.instanceMethod yX6_place, Cond.selects RX6 yX6_place yX6_place, Cond.initialized RX6, Cond.code yX6_place cX6_place 5 (some .int), Cond.classLink RX6 37 "java/lang/IllegalArgumentException", Cond.initialized "java/lang/IllegalArgumentException", Cond.classLink RX6 101 "java/util/NoSuchElementException", Cond.initialized "java/util/NoSuchElementException", Cond.methodLink RX6 78 yX6_codeAt, Cond.instanceMethod yX6_codeAt, Cond.selects RX6 yX6_codeAt yX6_codeAt, Cond.code yX6_codeAt cX6_codeAt 3 (some (.object "Ringtrack$Code")), Cond.classLink RX6 271 "java/lang/IndexOutOfBoundsException", Cond.initialized "java/lang/IndexOutOfBoundsException", Cond.fieldLink RX6 61 "Ringtrack" "codeCount" "I", Cond.fieldLink RX6 15 "Ringtrack" "codes" "[LRingtrack$Code;", Cond.methodLink RX6 33 yX6_isWithin]
def wsL_place_r2 : List Cond := [Cond.static yX6_isWithin, Cond.code yX6_isWithin cX6_isWithin 3 (some .boolean), Cond.methodLink RX6 98 yX0_placeOf, Cond.instanceMethod yX0_placeOf, Cond.selects RX0 yX0_placeOf yX0_placeOf, Cond.initialized RX0, Cond.code yX0_placeOf cX0_placeOf 2 (some .int), Cond.fieldLink RX0 9 "Ringtrack$Code" "places" "[I"]
def wsL_place : List Cond := .codeWith yL_place cL_place 4 (some .int) [(0, 6, 7, 33), (0, 6, 11, 15), (0, 6, 15, 45)] :: ((wsL_place_r1 ++ wsL_place_r2) ++ wsX60 ++ wsX00 ++ (vx_atS RX6 41 "java/lang/IllegalArgumentException" ["java/lang/RuntimeException", "java/lang/Exception"]).filter goodWord ++ (zNat RX6 105).filter goodWord ++ (vx_atS RX6 275 "java/lang/IndexOutOfBoundsException" ["java/lang/RuntimeException", "java/lang/Exception"]).filter goodWord)
def wsL_changes_r1 : List Cond := [Cond.classLink RL 33 "java/lang/IndexOutOfBoundsException", Cond.classLink RL 15 "java/lang/IllegalArgumentException", Cond.constant RL 17 (-900001), Cond.constant RL 20 (-900002), Cond.methodLink RL 48 yX6_changes, Cond.instanceMethod yX6_changes, Cond.selects RX6 yX6_changes yX6_changes, Cond.initialized RX6, Cond.code yX6_changes cX6_changes 4 (some .int), Cond.classLink RX6 37 "java/lang/IllegalArgumentException", Cond.initialized "java/lang/IllegalArgumentException", Cond.methodLink RX6 78 yX6_codeAt, Cond.instanceMethod yX6_codeAt, Cond.selects RX6 yX6_codeAt yX6_codeAt, Cond.code yX6_codeAt cX6_codeAt 3 (some (.object "Ringtrack$Code")), Cond.classLink RX6 271 "java/lang/IndexOutOfBoundsException", Cond.initialized "java/lang/IndexOutOfBoundsException", Cond.fieldLink RX6 61 "Ringtrack" "codeCount" "I", Cond.fieldLink RX6 15 "Ringtrack" "codes" "[LRingtrack$Code;", Cond.methodLink RX6 33 yX6_isWithin, Cond.static yX6_isWithin, Cond.code yX6_isWithin cX6_isWithin 3 (some .boolean), Cond.methodLink RX6 106 yX0_hasTrack, Cond.instanceMethod yX0_hasTrack]
def wsL_changes_r2 : List Cond := [Cond.selects RX0 yX0_hasTrack yX0_hasTrack, Cond.initialized RX0, Cond.code yX0_hasTrack cX0_hasTrack 2 (some .boolean), Cond.fieldLink RX0 24 "Ringtrack$Code" "tracks" "I", Cond.methodLink RX6 111 yX0_changesOf, Cond.instanceMethod yX0_changesOf, Cond.selects RX0 yX0_changesOf yX0_changesOf, Cond.code yX0_changesOf cX0_changesOf 5 (some .int), Cond.fieldLink RX0 15 "Ringtrack$Code" "words" "[I", Cond.static yX6_modulo, Cond.code yX6_modulo cX6_modulo 3 (some .int), Cond.methodLink RX0 40 yX0_mark, Cond.instanceMethod yX0_mark, Cond.selects RX0 yX0_mark yX0_mark, Cond.code yX0_mark cX0_mark 3 (some .int), Cond.methodLink RX0 32 yX0_wordAt, Cond.instanceMethod yX0_wordAt, Cond.selects RX0 yX0_wordAt yX0_wordAt, Cond.code yX0_wordAt cX0_wordAt 2 (some .int), Cond.methodLink RX0 28 yX0_hasPlace, Cond.instanceMethod yX0_hasPlace, Cond.selects RX0 yX0_hasPlace yX0_hasPlace, Cond.code yX0_hasPlace cX0_hasPlace 2 (some .boolean)]
def wsL_changes : List Cond := .codeWith yL_changes cL_changes 4 (some .int) [(0, 6, 7, 33), (0, 6, 11, 15)] :: ((wsL_changes_r1 ++ wsL_changes_r2) ++ wsX60 ++ wsX00 ++ (vx_atS RX6 41 "java/lang/IllegalArgumentException" ["java/lang/RuntimeException", "java/lang/Exception"]).filter goodWord ++ (vx_atS RX6 275 "java/lang/IndexOutOfBoundsException" ["java/lang/RuntimeException", "java/lang/Exception"]).filter goodWord)
def wsL_setDisc_r1 : List Cond := [Cond.classLink RL 33 "java/lang/IndexOutOfBoundsException", Cond.classLink RL 15 "java/lang/IllegalArgumentException", Cond.constant RL 17 (-900001), Cond.constant RL 20 (-900002), Cond.methodLink RL 51 yX6_setDisc, Cond.instanceMethod yX6_setDisc, Cond.selects RX6 yX6_setDisc yX6_setDisc, Cond.initialized RX6, Cond.code yX6_setDisc cX6_setDisc 4 (some .int), Cond.classLink RX6 37 "java/lang/IllegalArgumentException", Cond.initialized "java/lang/IllegalArgumentException", Cond.classLink RX6 122 RX1, Cond.instantiable RX1 8, Cond.initialized RX1, Cond.fieldLink RX6 127 "Ringtrack" "disc" "LRingtrack$Disc;", Cond.fieldLink RX6 29 "Ringtrack" "frames" "LRingtrack$Frames;", Cond.fieldLink RX6 134 "Ringtrack$Disc" "turn" "I", Cond.methodLink RX6 78 yX6_codeAt, Cond.instanceMethod yX6_codeAt, Cond.selects RX6 yX6_codeAt yX6_codeAt, Cond.code yX6_codeAt cX6_codeAt 3 (some (.object "Ringtrack$Code")), Cond.classLink RX6 271 "java/lang/IndexOutOfBoundsException", Cond.initialized "java/lang/IndexOutOfBoundsException", Cond.fieldLink RX6 61 "Ringtrack" "codeCount" "I"]
def wsL_setDisc_r2 : List Cond := [Cond.fieldLink RX6 15 "Ringtrack" "codes" "[LRingtrack$Code;", Cond.methodLink RX6 33 yX6_isWithin, Cond.static yX6_isWithin, Cond.code yX6_isWithin cX6_isWithin 3 (some .boolean), Cond.methodLink RX6 124 yX1_init, Cond.instanceMethod yX1_init, Cond.code yX1_init cX1_init 3 none, Cond.methodLink RX1 3 objectInit, Cond.instanceMethod objectInit, Cond.code objectInit ⟨#[0xb1]⟩ 1 none, Cond.classLink RX1 9 RX5, Cond.instantiable RX5 5, Cond.initialized RX5, Cond.fieldLink RX1 12 "Ringtrack$Disc" "reading" "LRingtrack$Reading;", Cond.classLink RX1 18 RX3, Cond.instantiable RX3 3, Cond.initialized RX3, Cond.fieldLink RX1 21 "Ringtrack$Disc" "gears" "LRingtrack$Gears;", Cond.fieldLink RX1 25 "Ringtrack$Disc" "isPowered" "Z", Cond.classLink RX1 29 RX4, Cond.instantiable RX4 9, Cond.initialized RX4, Cond.fieldLink RX1 34 "Ringtrack$Disc" "heads" "LRingtrack$Heads;", Cond.fieldLink RX1 38 "Ringtrack$Heads" "turn" "I"]
def wsL_setDisc_r3 : List Cond := [Cond.fieldLink RX1 42 "Ringtrack$Disc" "turn" "I", Cond.fieldLink RX1 43 "Ringtrack$Code" "words" "[I", Cond.arrayClass .int, Cond.fieldLink RX1 49 "Ringtrack$Disc" "page" "[I", Cond.instanceMethod yX5_init, Cond.code yX5_init cX5_init 1 none, Cond.methodLink RX5 3 objectInit, Cond.fieldLink RX5 9 "Ringtrack$Reading" "state" "C", Cond.fieldLink RX5 15 "Ringtrack$Reading" "ways" "[I", Cond.instanceMethod yX3_init, Cond.code yX3_init cX3_init 1 none, Cond.methodLink RX3 3 objectInit, Cond.fieldLink RX3 9 "Ringtrack$Gears" "slips" "[I", Cond.fieldLink RX3 15 "Ringtrack$Gears" "teeth" "[I", Cond.methodLink RX1 31 yX4_init, Cond.instanceMethod yX4_init, Cond.code yX4_init cX4_init 3 none, Cond.methodLink RX4 3 objectInit, Cond.fieldLink RX4 9 "Ringtrack$Heads" "speckPlaces" "[I", Cond.fieldLink RX4 15 "Ringtrack$Heads" "speckTracks" "[I", Cond.fieldLink RX4 18 "Ringtrack$Heads" "speckCreeps" "[I", Cond.fieldLink RX4 21 "Ringtrack$Heads" "stuckAsZero" "[I", Cond.fieldLink RX4 24 "Ringtrack$Heads" "stuckAsOne" "[I", Cond.fieldLink RX4 27 "Ringtrack$Heads" "code" "LRingtrack$Code;"]
def wsL_setDisc_r4 : List Cond := [Cond.fieldLink RX4 31 "Ringtrack$Heads" "off" "I", Cond.fieldLink RX4 35 "Ringtrack$Code" "words" "[I", Cond.fieldLink RX4 40 "Ringtrack$Heads" "turn" "I", Cond.methodLink RX6 131 yX2_clear, Cond.instanceMethod yX2_clear, Cond.selects RX2 yX2_clear yX2_clear, Cond.initialized RX2, Cond.code yX2_clear cX2_clear 1 none, Cond.fieldLink RX2 21 "Ringtrack$Frames" "count" "I", Cond.fieldLink RX2 25 "Ringtrack$Frames" "arrivedCount" "I"]
def wsL_setDisc : List Cond := .codeWith yL_setDisc cL_setDisc 4 (some .int) [(0, 6, 7, 33), (0, 6, 11, 15)] :: ((wsL_setDisc_r1 ++ (wsL_setDisc_r2 ++ (wsL_setDisc_r3 ++ wsL_setDisc_r4))) ++ wsX10 ++ wsX60 ++ wsX50 ++ wsX30 ++ wsX40 ++ wsX00 ++ wsX20 ++ (vx_atS RX6 41 "java/lang/IllegalArgumentException" ["java/lang/RuntimeException", "java/lang/Exception"]).filter goodWord ++ (vx_atS RX6 275 "java/lang/IndexOutOfBoundsException" ["java/lang/RuntimeException", "java/lang/Exception"]).filter goodWord)
def wsL_angle : List Cond := .codeWith yL_angle cL_angle 2 (some .int) [(0, 4, 5, 25)] :: ([.classLink RL 25 "java/lang/UnsupportedOperationException", .constant RL 17 (-900001), .methodLink RL 54 yX6_angle, .instanceMethod yX6_angle, .selects RX6 yX6_angle yX6_angle, .initialized RX6, .code yX6_angle cX6_angle 1 (some .int), .fieldLink RX6 141 "Ringtrack$Disc" "angle" "I", .methodLink RX6 137 yX6_theDisc, .instanceMethod yX6_theDisc, .selects RX6 yX6_theDisc yX6_theDisc, .code yX6_theDisc cX6_theDisc 2 (some (.object "Ringtrack$Disc")), .classLink RX6 56 "java/lang/UnsupportedOperationException", .initialized "java/lang/UnsupportedOperationException", .fieldLink RX6 127 "Ringtrack" "disc" "LRingtrack$Disc;"] ++ wsX10 ++ wsX60 ++ (vx_atS RX6 60 "java/lang/UnsupportedOperationException" ["java/lang/RuntimeException", "java/lang/Exception"]).filter goodWord)
def wsL_turn_r1 : List Cond := [Cond.classLink RL 25 "java/lang/UnsupportedOperationException", Cond.classLink RL 15 "java/lang/IllegalArgumentException", Cond.constant RL 17 (-900001), Cond.constant RL 20 (-900002), Cond.methodLink RL 57 yX6_turn, Cond.instanceMethod yX6_turn, Cond.selects RX6 yX6_turn yX6_turn, Cond.initialized RX6, Cond.code yX6_turn cX6_turn 4 (some .int), Cond.classLink RX6 37 "java/lang/IllegalArgumentException", Cond.initialized "java/lang/IllegalArgumentException", Cond.fieldLink RX6 196 "Ringtrack$Disc" "reading" "LRingtrack$Reading;", Cond.fieldLink RX6 200 "Ringtrack$Disc" "isPowered" "Z", Cond.fieldLink RX6 204 "Ringtrack$Reading" "state" "C", Cond.fieldLink RX6 147 "Ringtrack$Disc" "heads" "LRingtrack$Heads;", Cond.fieldLink RX6 141 "Ringtrack$Disc" "angle" "I", Cond.fieldLink RX6 19 "Ringtrack" "limit" "I", Cond.fieldLink RX6 23 "Ringtrack" "tolerance" "I", Cond.fieldLink RX6 214 "Ringtrack" "stopCount" "I", Cond.methodLink RX6 137 yX6_theDisc, Cond.instanceMethod yX6_theDisc, Cond.selects RX6 yX6_theDisc yX6_theDisc, Cond.code yX6_theDisc cX6_theDisc 2 (some (.object "Ringtrack$Disc")), Cond.classLink RX6 56 "java/lang/UnsupportedOperationException"]
def wsL_turn_r2 : List Cond := [Cond.initialized "java/lang/UnsupportedOperationException", Cond.fieldLink RX6 127 "Ringtrack" "disc" "LRingtrack$Disc;", Cond.methodLink RX6 33 yX6_isWithin, Cond.static yX6_isWithin, Cond.code yX6_isWithin cX6_isWithin 3 (some .boolean), Cond.methodLink RX6 192 yX1_advance, Cond.instanceMethod yX1_advance, Cond.selects RX1 yX1_advance yX1_advance, Cond.initialized RX1, Cond.code yX1_advance cX1_advance 4 none, Cond.fieldLink RX1 52 "Ringtrack$Disc" "angle" "I", Cond.fieldLink RX1 42 "Ringtrack$Disc" "turn" "I", Cond.fieldLink RX1 59 "Ringtrack$Disc" "rounds" "I", Cond.fieldLink RX1 34 "Ringtrack$Disc" "heads" "LRingtrack$Heads;", Cond.static yX6_modulo, Cond.code yX6_modulo cX6_modulo 3 (some .int), Cond.methodLink RX1 62 yX4_creep, Cond.instanceMethod yX4_creep, Cond.selects RX4 yX4_creep yX4_creep, Cond.initialized RX4, Cond.code yX4_creep cX4_creep 3 none, Cond.fieldLink RX4 43 "Ringtrack$Heads" "speckCount" "I", Cond.fieldLink RX4 9 "Ringtrack$Heads" "speckPlaces" "[I", Cond.fieldLink RX4 18 "Ringtrack$Heads" "speckCreeps" "[I"]
def wsL_turn_r3 : List Cond := [Cond.fieldLink RX4 27 "Ringtrack$Heads" "code" "LRingtrack$Code;", Cond.fieldLink RX4 35 "Ringtrack$Code" "words" "[I", Cond.methodLink RX6 210 yX5_readAt, Cond.instanceMethod yX5_readAt, Cond.selects RX5 yX5_readAt yX5_readAt, Cond.initialized RX5, Cond.code yX5_readAt cX5_readAt 9 none, Cond.fieldLink RX5 35 "Ringtrack$Heads" "turn" "I", Cond.fieldLink RX5 9 "Ringtrack$Reading" "state" "C", Cond.methodLink RX5 29 yX4_estimateAt, Cond.instanceMethod yX4_estimateAt, Cond.selects RX4 yX4_estimateAt yX4_estimateAt, Cond.code yX4_estimateAt cX4_estimateAt 5 (some .int), Cond.fieldLink RX4 40 "Ringtrack$Heads" "turn" "I", Cond.methodLink RX4 64 yX4_wordUnder, Cond.instanceMethod yX4_wordUnder, Cond.selects RX4 yX4_wordUnder yX4_wordUnder, Cond.code yX4_wordUnder cX4_wordUnder 6 (some .int), Cond.fieldLink RX4 15 "Ringtrack$Heads" "speckTracks" "[I", Cond.fieldLink RX4 21 "Ringtrack$Heads" "stuckAsZero" "[I", Cond.fieldLink RX4 24 "Ringtrack$Heads" "stuckAsOne" "[I", Cond.static yX6_isHead, Cond.code yX6_isHead cX6_isHead 1 (some .boolean), Cond.methodLink RX4 58 yX4_placeUnder]
def wsL_turn_r4 : List Cond := [Cond.instanceMethod yX4_placeUnder, Cond.selects RX4 yX4_placeUnder yX4_placeUnder, Cond.code yX4_placeUnder cX4_placeUnder 5 (some .int), Cond.methodLink RX4 54 yX4_errorAt, Cond.instanceMethod yX4_errorAt, Cond.selects RX4 yX4_errorAt yX4_errorAt, Cond.code yX4_errorAt cX4_errorAt 7 (some .int), Cond.fieldLink RX4 31 "Ringtrack$Heads" "off" "I", Cond.methodLink RX4 61 yX0_wordAt, Cond.instanceMethod yX0_wordAt, Cond.selects RX0 yX0_wordAt yX0_wordAt, Cond.initialized RX0, Cond.code yX0_wordAt cX0_wordAt 2 (some .int), Cond.fieldLink RX0 15 "Ringtrack$Code" "words" "[I", Cond.methodLink RX0 28 yX0_hasPlace, Cond.instanceMethod yX0_hasPlace, Cond.selects RX0 yX0_hasPlace yX0_hasPlace, Cond.code yX0_hasPlace cX0_hasPlace 2 (some .boolean), Cond.methodLink RX4 67 yX0_placeOf, Cond.instanceMethod yX0_placeOf, Cond.selects RX0 yX0_placeOf yX0_placeOf, Cond.code yX0_placeOf cX0_placeOf 2 (some .int), Cond.fieldLink RX0 9 "Ringtrack$Code" "places" "[I", Cond.methodLink RX4 70 yX4_middleOf]
def wsL_turn_r5 : List Cond := [Cond.instanceMethod yX4_middleOf, Cond.selects RX4 yX4_middleOf yX4_middleOf, Cond.code yX4_middleOf cX4_middleOf 2 (some .int), Cond.methodLink RX5 38 yX5_isNear, Cond.instanceMethod yX5_isNear, Cond.selects RX5 yX5_isNear yX5_isNear, Cond.code yX5_isNear cX5_isNear 4 (some .boolean), Cond.fieldLink RX5 19 "Ringtrack$Reading" "told" "I", Cond.static yX6_lengthBetween, Cond.code yX6_lengthBetween cX6_lengthBetween 3 (some .int), Cond.methodLink RX6 374 Lib.Math.abs.name, Cond.static Lib.Math.abs.name, Cond.initialized "java/lang/Math", Cond.code Lib.Math.abs.name Lib.Math.abs.code 1 (some .int), Cond.methodLink RX6 370 yX6_wayBetween, Cond.static yX6_wayBetween, Cond.code yX6_wayBetween cX6_wayBetween 4 (some .int), Cond.methodLink RX6 339 yX6_modulo, Cond.methodLink RX5 46 yX4_between, Cond.instanceMethod yX4_between, Cond.selects RX4 yX4_between yX4_between, Cond.code yX4_between cX4_between 3 (some .int), Cond.methodLink RX5 49 yX5_tell, Cond.instanceMethod yX5_tell]
def wsL_turn_r6 : List Cond := [Cond.selects RX5 yX5_tell yX5_tell, Cond.code yX5_tell cX5_tell 5 none, Cond.fieldLink RX5 23 "Ringtrack$Reading" "rounds" "I", Cond.methodLink RX5 56 yX5_keepWay, Cond.instanceMethod yX5_keepWay, Cond.selects RX5 yX5_keepWay yX5_keepWay, Cond.code yX5_keepWay cX5_keepWay 2 none, Cond.fieldLink RX5 26 "Ringtrack$Reading" "wayCount" "I", Cond.fieldLink RX5 15 "Ringtrack$Reading" "ways" "[I", Cond.methodLink RX5 60 arraycopyName, Cond.native arraycopyName, Cond.static arraycopyName, Cond.initialized "java/lang/System"]
def wsL_turn : List Cond := .codeWith yL_turn cL_turn 3 (some .int) [(0, 5, 6, 25), (0, 5, 10, 15)] :: ((wsL_turn_r1 ++ (wsL_turn_r2 ++ (wsL_turn_r3 ++ (wsL_turn_r4 ++ (wsL_turn_r5 ++ wsL_turn_r6))))) ++ wsX10 ++ wsX50 ++ wsX60 ++ wsX40 ++ wsX00 ++ (vx_atS RX6 41 "java/lang/IllegalArgumentException" ["java/lang/RuntimeException", "java/lang/Exception"]).filter goodWord ++ (vx_atS RX6 60 "java/lang/UnsupportedOperationException" ["java/lang/RuntimeException", "java/lang/Exception"]).filter goodWord)
def wsL_isBalanced_r1 : List Cond := [Cond.classLink RL 33 "java/lang/IndexOutOfBoundsException", Cond.constant RL 17 (-900001), Cond.methodLink RL 60 yX6_isBalanced, Cond.instanceMethod yX6_isBalanced, Cond.selects RX6 yX6_isBalanced yX6_isBalanced, Cond.initialized RX6, Cond.code yX6_isBalanced cX6_isBalanced 2 (some .boolean), Cond.methodLink RX6 78 yX6_codeAt, Cond.instanceMethod yX6_codeAt, Cond.selects RX6 yX6_codeAt yX6_codeAt, Cond.code yX6_codeAt cX6_codeAt 3 (some (.object "Ringtrack$Code")), Cond.classLink RX6 271 "java/lang/IndexOutOfBoundsException", Cond.initialized "java/lang/IndexOutOfBoundsException", Cond.fieldLink RX6 61 "Ringtrack" "codeCount" "I", Cond.fieldLink RX6 15 "Ringtrack" "codes" "[LRingtrack$Code;", Cond.methodLink RX6 33 yX6_isWithin, Cond.static yX6_isWithin, Cond.code yX6_isWithin cX6_isWithin 3 (some .boolean), Cond.methodLink RX6 114 yX0_changesEvenly, Cond.instanceMethod yX0_changesEvenly, Cond.selects RX0 yX0_changesEvenly yX0_changesEvenly, Cond.initialized RX0, Cond.code yX0_changesEvenly cX0_changesEvenly 5 (some .boolean), Cond.fieldLink RX0 15 "Ringtrack$Code" "words" "[I"]
def wsL_isBalanced_r2 : List Cond := [Cond.fieldLink RX0 24 "Ringtrack$Code" "tracks" "I", Cond.methodLink RX0 46 Lib.Math.min.name, Cond.static Lib.Math.min.name, Cond.initialized "java/lang/Math", Cond.code Lib.Math.min.name Lib.Math.min.code 2 (some .int), Cond.methodLink RX0 51 Lib.Math.max.name, Cond.static Lib.Math.max.name, Cond.code Lib.Math.max.name Lib.Math.max.code 2 (some .int), Cond.methodLink RX0 43 yX0_changesOf, Cond.instanceMethod yX0_changesOf, Cond.selects RX0 yX0_changesOf yX0_changesOf, Cond.code yX0_changesOf cX0_changesOf 5 (some .int), Cond.static yX6_modulo, Cond.code yX6_modulo cX6_modulo 3 (some .int), Cond.methodLink RX0 40 yX0_mark, Cond.instanceMethod yX0_mark, Cond.selects RX0 yX0_mark yX0_mark, Cond.code yX0_mark cX0_mark 3 (some .int), Cond.methodLink RX0 32 yX0_wordAt, Cond.instanceMethod yX0_wordAt, Cond.selects RX0 yX0_wordAt yX0_wordAt, Cond.code yX0_wordAt cX0_wordAt 2 (some .int), Cond.methodLink RX0 28 yX0_hasPlace, Cond.instanceMethod yX0_hasPlace]
def wsL_isBalanced_r3 : List Cond := [Cond.selects RX0 yX0_hasPlace yX0_hasPlace, Cond.code yX0_hasPlace cX0_hasPlace 2 (some .boolean)]
def wsL_isBalanced : List Cond := .codeWith yL_isBalanced cL_isBalanced 3 (some .int) [(0, 13, 14, 33)] :: ((wsL_isBalanced_r1 ++ (wsL_isBalanced_r2 ++ wsL_isBalanced_r3)) ++ wsX60 ++ wsX00 ++ (vx_atS RX6 275 "java/lang/IndexOutOfBoundsException" ["java/lang/RuntimeException", "java/lang/Exception"]).filter goodWord)
def wsL_isOneTrack_r1 : List Cond := [Cond.classLink RL 33 "java/lang/IndexOutOfBoundsException", Cond.constant RL 17 (-900001), Cond.methodLink RL 64 yX6_isOneTrack, Cond.instanceMethod yX6_isOneTrack, Cond.selects RX6 yX6_isOneTrack yX6_isOneTrack, Cond.initialized RX6, Cond.code yX6_isOneTrack cX6_isOneTrack 2 (some .boolean), Cond.methodLink RX6 78 yX6_codeAt, Cond.instanceMethod yX6_codeAt, Cond.selects RX6 yX6_codeAt yX6_codeAt, Cond.code yX6_codeAt cX6_codeAt 3 (some (.object "Ringtrack$Code")), Cond.classLink RX6 271 "java/lang/IndexOutOfBoundsException", Cond.initialized "java/lang/IndexOutOfBoundsException", Cond.fieldLink RX6 61 "Ringtrack" "codeCount" "I", Cond.fieldLink RX6 15 "Ringtrack" "codes" "[LRingtrack$Code;", Cond.methodLink RX6 33 yX6_isWithin, Cond.static yX6_isWithin, Cond.code yX6_isWithin cX6_isWithin 3 (some .boolean), Cond.methodLink RX6 117 yX0_repeatsFirstTrack, Cond.instanceMethod yX0_repeatsFirstTrack, Cond.selects RX0 yX0_repeatsFirstTrack yX0_repeatsFirstTrack, Cond.initialized RX0, Cond.code yX0_repeatsFirstTrack cX0_repeatsFirstTrack 2 (some .boolean), Cond.fieldLink RX0 24 "Ringtrack$Code" "tracks" "I"]
def wsL_isOneTrack_r2 : List Cond := [Cond.methodLink RX0 54 yX0_isFirstTrackMoved, Cond.instanceMethod yX0_isFirstTrackMoved, Cond.selects RX0 yX0_isFirstTrackMoved yX0_isFirstTrackMoved, Cond.code yX0_isFirstTrackMoved cX0_isFirstTrackMoved 3 (some .boolean), Cond.fieldLink RX0 15 "Ringtrack$Code" "words" "[I", Cond.methodLink RX0 57 yX0_isFirstTrackFrom, Cond.instanceMethod yX0_isFirstTrackFrom, Cond.selects RX0 yX0_isFirstTrackFrom yX0_isFirstTrackFrom, Cond.code yX0_isFirstTrackFrom cX0_isFirstTrackFrom 4 (some .boolean), Cond.methodLink RX0 40 yX0_mark, Cond.instanceMethod yX0_mark, Cond.selects RX0 yX0_mark yX0_mark, Cond.code yX0_mark cX0_mark 3 (some .int), Cond.methodLink RX0 32 yX0_wordAt, Cond.instanceMethod yX0_wordAt, Cond.selects RX0 yX0_wordAt yX0_wordAt, Cond.code yX0_wordAt cX0_wordAt 2 (some .int), Cond.methodLink RX0 28 yX0_hasPlace, Cond.instanceMethod yX0_hasPlace, Cond.selects RX0 yX0_hasPlace yX0_hasPlace, Cond.code yX0_hasPlace cX0_hasPlace 2 (some .boolean), Cond.static yX6_modulo, Cond.code yX6_modulo cX6_modulo 3 (some .int)]
def wsL_isOneTrack : List Cond := .codeWith yL_isOneTrack cL_isOneTrack 3 (some .int) [(0, 13, 14, 33)] :: ((wsL_isOneTrack_r1 ++ wsL_isOneTrack_r2) ++ wsX60 ++ wsX00 ++ (vx_atS RX6 275 "java/lang/IndexOutOfBoundsException" ["java/lang/RuntimeException", "java/lang/Exception"]).filter goodWord)
def wsL_in : List Cond := .code yL_in cL_in 3 (some .int) :: ([.constant RL 73 (2147483647), .methodLink RL 67 yL_cell, .static yL_cell, .initialized RL, .code yL_cell cL_cell 3 (some .int), .constant RL 7 (69069), .constant RL 8 (1103515245)])
def wsL_law0_r1 : List Cond := [Cond.classLink RL 10 RX6, Cond.instantiable RX6 9, Cond.initialized RX6, Cond.constant RL 17 (-900001), Cond.arrayClass .int, Cond.constant RL 20 (-900002), Cond.constant RL 47 (-900003), Cond.methodLink RL 74 yX6_init, Cond.instanceMethod yX6_init, Cond.code yX6_init cX6_init 1 none, Cond.methodLink RX6 1 objectInit, Cond.instanceMethod objectInit, Cond.code objectInit ⟨#[0xb1]⟩ 1 none, Cond.fieldLink RX6 9 "Ringtrack" "typed" "[I", Cond.classLink RX6 13 RX0, Cond.fieldLink RX6 15 "Ringtrack" "codes" "[LRingtrack$Code;", Cond.fieldLink RX6 19 "Ringtrack" "limit" "I", Cond.fieldLink RX6 23 "Ringtrack" "tolerance" "I", Cond.classLink RX6 26 RX2, Cond.instantiable RX2 7, Cond.initialized RX2, Cond.fieldLink RX6 29 "Ringtrack" "frames" "LRingtrack$Frames;", Cond.instanceMethod yX2_init, Cond.code yX2_init cX2_init 1 none]
def wsL_law0_r2 : List Cond := [Cond.methodLink RX2 3 objectInit, Cond.fieldLink RX2 9 "Ringtrack$Frames" "underWay" "[I", Cond.fieldLink RX2 15 "Ringtrack$Frames" "ticksLeft" "[I", Cond.fieldLink RX2 18 "Ringtrack$Frames" "arrived" "[I", Cond.methodLink RL 75 yL_ring, Cond.static yL_ring, Cond.initialized RL, Cond.codeWith yL_ring cL_ring 2 (some .int) [(0, 4, 5, 25), (0, 4, 9, 18)], Cond.classLink RL 25 "java/lang/UnsupportedOperationException", Cond.classLink RL 18 "java/lang/IllegalStateException", Cond.methodLink RL 21 yX6_ring, Cond.instanceMethod yX6_ring, Cond.selects RX6 yX6_ring yX6_ring, Cond.code yX6_ring cX6_ring 2 (some .int), Cond.classLink RX6 56 "java/lang/UnsupportedOperationException", Cond.initialized "java/lang/UnsupportedOperationException", Cond.classLink RX6 47 "java/lang/IllegalStateException", Cond.initialized "java/lang/IllegalStateException", Cond.fieldLink RX6 61 "Ringtrack" "codeCount" "I", Cond.fieldLink RX6 44 "Ringtrack" "typedCount" "I", Cond.methodLink RX6 52 yX6_typedIsRing, Cond.instanceMethod yX6_typedIsRing, Cond.selects RX6 yX6_typedIsRing yX6_typedIsRing, Cond.code yX6_typedIsRing cX6_typedIsRing 3 (some .boolean)]
def wsL_law0_r3 : List Cond := [Cond.methodLink RX6 360 yX6_isRing, Cond.static yX6_isRing, Cond.code yX6_isRing cX6_isRing 4 (some .boolean), Cond.methodLink RX6 379 yJ6_bitCount_0f7a4, Cond.static yJ6_bitCount_0f7a4, Cond.initialized RJ6, Cond.code yJ6_bitCount_0f7a4 cJ6_bitCount_0f7a4 1 (some .int), Cond.constant RJ6 265 (1431655765), Cond.constant RJ6 266 (858993459), Cond.constant RJ6 267 (252645135), Cond.methodLink RX6 66 yJ7_copyOf_59c91, Cond.static yJ7_copyOf_59c91, Cond.initialized RJ7, Cond.code yJ7_copyOf_59c91 cJ7_copyOf_59c91 3 (some (.array .int)), Cond.methodLink RJ7 316 ⟨"[I", "clone", "()Ljava/lang/Object;"⟩, Cond.sameMethod "[I" "java/lang/Object" "clone" "()Ljava/lang/Object;", Cond.native ⟨"java/lang/Object", "clone", "()Ljava/lang/Object;"⟩, Cond.instanceMethod ⟨"java/lang/Object", "clone", "()Ljava/lang/Object;"⟩, Cond.selects "[I" ⟨"[I", "clone", "()Ljava/lang/Object;"⟩ ⟨"java/lang/Object", "clone", "()Ljava/lang/Object;"⟩, Cond.classLink RJ7 317 "[I", Cond.methodLink RJ7 304 Lib.Math.min.name, Cond.static Lib.Math.min.name, Cond.initialized "java/lang/Math", Cond.code Lib.Math.min.name Lib.Math.min.code 2 (some .int)]
def wsL_law0_r4 : List Cond := [Cond.methodLink RJ7 150 arraycopyName, Cond.native arraycopyName, Cond.static arraycopyName, Cond.initialized "java/lang/System", Cond.methodLink RX6 72 yX6_keepCode, Cond.instanceMethod yX6_keepCode, Cond.selects RX6 yX6_keepCode yX6_keepCode, Cond.code yX6_keepCode cX6_keepCode 3 (some .int), Cond.instantiable RX0 3, Cond.initialized RX0, Cond.methodLink RX6 384 yX0_init, Cond.instanceMethod yX0_init, Cond.code yX0_init cX0_init 6 none, Cond.methodLink RX0 3 objectInit, Cond.fieldLink RX0 9 "Ringtrack$Code" "places" "[I", Cond.fieldLink RX0 15 "Ringtrack$Code" "words" "[I", Cond.fieldLink RX0 24 "Ringtrack$Code" "tracks" "I", Cond.methodLink RX0 18 yJ7_fill_53178, Cond.static yJ7_fill_53178, Cond.code yJ7_fill_53178 cJ7_fill_53178 4 none, Cond.methodLink RL 78 yL_type, Cond.static yL_type, Cond.codeWith yL_type cL_type 3 (some .int) [(0, 5, 6, 15), (0, 5, 10, 18)], Cond.classLink RL 15 "java/lang/IllegalArgumentException"]
def wsL_law0_r5 : List Cond := [Cond.methodLink RL 9 yX6_type, Cond.instanceMethod yX6_type, Cond.selects RX6 yX6_type yX6_type, Cond.code yX6_type cX6_type 2 (some .int), Cond.classLink RX6 37 "java/lang/IllegalArgumentException", Cond.initialized "java/lang/IllegalArgumentException", Cond.methodLink RX6 33 yX6_isWithin, Cond.static yX6_isWithin, Cond.code yX6_isWithin cX6_isWithin 3 (some .boolean), Cond.methodLink RL 81 yL_reflected, Cond.static yL_reflected, Cond.codeWith yL_reflected cL_reflected 3 (some .int) [(0, 5, 6, 15), (0, 5, 10, 18)], Cond.methodLink RL 27 yX6_reflected, Cond.instanceMethod yX6_reflected, Cond.selects RX6 yX6_reflected yX6_reflected, Cond.code yX6_reflected cX6_reflected 4 (some .int), Cond.methodLink RL 83 yL_words, Cond.static yL_words, Cond.codeWith yL_words cL_words 3 (some .int) [(0, 5, 6, 33)], Cond.classLink RL 33 "java/lang/IndexOutOfBoundsException", Cond.methodLink RL 30 yX6_words, Cond.instanceMethod yX6_words, Cond.selects RX6 yX6_words yX6_words, Cond.code yX6_words cX6_words 2 (some .int)]
def wsL_law0_r6 : List Cond := [Cond.fieldLink RX6 82 "Ringtrack$Code" "words" "[I", Cond.methodLink RX6 78 yX6_codeAt, Cond.instanceMethod yX6_codeAt, Cond.selects RX6 yX6_codeAt yX6_codeAt, Cond.code yX6_codeAt cX6_codeAt 3 (some (.object "Ringtrack$Code")), Cond.classLink RX6 271 "java/lang/IndexOutOfBoundsException", Cond.initialized "java/lang/IndexOutOfBoundsException", Cond.methodLink RL 85 yL_angle, Cond.static yL_angle, Cond.codeWith yL_angle cL_angle 2 (some .int) [(0, 4, 5, 25)], Cond.methodLink RL 54 yX6_angle, Cond.instanceMethod yX6_angle, Cond.selects RX6 yX6_angle yX6_angle, Cond.code yX6_angle cX6_angle 1 (some .int), Cond.fieldLink RX6 141 "Ringtrack$Disc" "angle" "I", Cond.methodLink RX6 137 yX6_theDisc, Cond.instanceMethod yX6_theDisc, Cond.selects RX6 yX6_theDisc yX6_theDisc, Cond.code yX6_theDisc cX6_theDisc 2 (some (.object "Ringtrack$Disc")), Cond.fieldLink RX6 127 "Ringtrack" "disc" "LRingtrack$Disc;", Cond.methodLink RL 87 yL_turn, Cond.static yL_turn, Cond.codeWith yL_turn cL_turn 3 (some .int) [(0, 5, 6, 25), (0, 5, 10, 15)], Cond.methodLink RL 57 yX6_turn]
def wsL_law0_r7 : List Cond := [Cond.instanceMethod yX6_turn, Cond.selects RX6 yX6_turn yX6_turn, Cond.code yX6_turn cX6_turn 4 (some .int), Cond.fieldLink RX6 196 "Ringtrack$Disc" "reading" "LRingtrack$Reading;", Cond.fieldLink RX6 200 "Ringtrack$Disc" "isPowered" "Z", Cond.fieldLink RX6 204 "Ringtrack$Reading" "state" "C", Cond.fieldLink RX6 147 "Ringtrack$Disc" "heads" "LRingtrack$Heads;", Cond.fieldLink RX6 214 "Ringtrack" "stopCount" "I", Cond.methodLink RX6 192 yX1_advance, Cond.instanceMethod yX1_advance, Cond.selects RX1 yX1_advance yX1_advance, Cond.initialized RX1, Cond.code yX1_advance cX1_advance 4 none, Cond.fieldLink RX1 52 "Ringtrack$Disc" "angle" "I", Cond.fieldLink RX1 42 "Ringtrack$Disc" "turn" "I", Cond.fieldLink RX1 59 "Ringtrack$Disc" "rounds" "I", Cond.fieldLink RX1 34 "Ringtrack$Disc" "heads" "LRingtrack$Heads;", Cond.static yX6_modulo, Cond.code yX6_modulo cX6_modulo 3 (some .int), Cond.methodLink RX1 62 yX4_creep, Cond.instanceMethod yX4_creep, Cond.selects RX4 yX4_creep yX4_creep, Cond.initialized RX4, Cond.code yX4_creep cX4_creep 3 none]
def wsL_law0_r8 : List Cond := [Cond.fieldLink RX4 43 "Ringtrack$Heads" "speckCount" "I", Cond.fieldLink RX4 9 "Ringtrack$Heads" "speckPlaces" "[I", Cond.fieldLink RX4 18 "Ringtrack$Heads" "speckCreeps" "[I", Cond.fieldLink RX4 27 "Ringtrack$Heads" "code" "LRingtrack$Code;", Cond.fieldLink RX4 35 "Ringtrack$Code" "words" "[I", Cond.methodLink RX6 210 yX5_readAt, Cond.instanceMethod yX5_readAt, Cond.selects RX5 yX5_readAt yX5_readAt, Cond.initialized RX5, Cond.code yX5_readAt cX5_readAt 9 none, Cond.fieldLink RX5 35 "Ringtrack$Heads" "turn" "I", Cond.fieldLink RX5 9 "Ringtrack$Reading" "state" "C", Cond.methodLink RX5 29 yX4_estimateAt, Cond.instanceMethod yX4_estimateAt, Cond.selects RX4 yX4_estimateAt yX4_estimateAt, Cond.code yX4_estimateAt cX4_estimateAt 5 (some .int), Cond.fieldLink RX4 40 "Ringtrack$Heads" "turn" "I", Cond.methodLink RX4 64 yX4_wordUnder, Cond.instanceMethod yX4_wordUnder, Cond.selects RX4 yX4_wordUnder yX4_wordUnder, Cond.code yX4_wordUnder cX4_wordUnder 6 (some .int), Cond.fieldLink RX4 15 "Ringtrack$Heads" "speckTracks" "[I", Cond.fieldLink RX4 21 "Ringtrack$Heads" "stuckAsZero" "[I", Cond.fieldLink RX4 24 "Ringtrack$Heads" "stuckAsOne" "[I"]
def wsL_law0_r9 : List Cond := [Cond.static yX6_isHead, Cond.code yX6_isHead cX6_isHead 1 (some .boolean), Cond.methodLink RX4 58 yX4_placeUnder, Cond.instanceMethod yX4_placeUnder, Cond.selects RX4 yX4_placeUnder yX4_placeUnder, Cond.code yX4_placeUnder cX4_placeUnder 5 (some .int), Cond.methodLink RX4 54 yX4_errorAt, Cond.instanceMethod yX4_errorAt, Cond.selects RX4 yX4_errorAt yX4_errorAt, Cond.code yX4_errorAt cX4_errorAt 7 (some .int), Cond.fieldLink RX4 31 "Ringtrack$Heads" "off" "I", Cond.methodLink RX4 61 yX0_wordAt, Cond.instanceMethod yX0_wordAt, Cond.selects RX0 yX0_wordAt yX0_wordAt, Cond.code yX0_wordAt cX0_wordAt 2 (some .int), Cond.methodLink RX0 28 yX0_hasPlace, Cond.instanceMethod yX0_hasPlace, Cond.selects RX0 yX0_hasPlace yX0_hasPlace, Cond.code yX0_hasPlace cX0_hasPlace 2 (some .boolean), Cond.methodLink RX4 67 yX0_placeOf, Cond.instanceMethod yX0_placeOf, Cond.selects RX0 yX0_placeOf yX0_placeOf, Cond.code yX0_placeOf cX0_placeOf 2 (some .int), Cond.methodLink RX4 70 yX4_middleOf]
def wsL_law0_r10 : List Cond := [Cond.instanceMethod yX4_middleOf, Cond.selects RX4 yX4_middleOf yX4_middleOf, Cond.code yX4_middleOf cX4_middleOf 2 (some .int), Cond.methodLink RX5 38 yX5_isNear, Cond.instanceMethod yX5_isNear, Cond.selects RX5 yX5_isNear yX5_isNear, Cond.code yX5_isNear cX5_isNear 4 (some .boolean), Cond.fieldLink RX5 19 "Ringtrack$Reading" "told" "I", Cond.static yX6_lengthBetween, Cond.code yX6_lengthBetween cX6_lengthBetween 3 (some .int), Cond.methodLink RX6 374 Lib.Math.abs.name, Cond.static Lib.Math.abs.name, Cond.code Lib.Math.abs.name Lib.Math.abs.code 1 (some .int), Cond.methodLink RX6 370 yX6_wayBetween, Cond.static yX6_wayBetween, Cond.code yX6_wayBetween cX6_wayBetween 4 (some .int), Cond.methodLink RX6 339 yX6_modulo, Cond.methodLink RX5 46 yX4_between, Cond.instanceMethod yX4_between, Cond.selects RX4 yX4_between yX4_between, Cond.code yX4_between cX4_between 3 (some .int), Cond.methodLink RX5 49 yX5_tell, Cond.instanceMethod yX5_tell, Cond.selects RX5 yX5_tell yX5_tell]
def wsL_law0_r11 : List Cond := [Cond.code yX5_tell cX5_tell 5 none, Cond.fieldLink RX5 23 "Ringtrack$Reading" "rounds" "I", Cond.methodLink RX5 56 yX5_keepWay, Cond.instanceMethod yX5_keepWay, Cond.selects RX5 yX5_keepWay yX5_keepWay, Cond.code yX5_keepWay cX5_keepWay 2 none, Cond.fieldLink RX5 26 "Ringtrack$Reading" "wayCount" "I", Cond.fieldLink RX5 15 "Ringtrack$Reading" "ways" "[I", Cond.methodLink RX5 60 arraycopyName, Cond.methodLink RL 89 yL_in, Cond.static yL_in, Cond.code yL_in cL_in 3 (some .int), Cond.constant RL 73 (2147483647), Cond.methodLink RL 67 yL_cell, Cond.static yL_cell, Cond.code yL_cell cL_cell 3 (some .int), Cond.constant RL 7 (69069), Cond.constant RL 8 (1103515245), Cond.methodLink RL 93 yX6_wipe, Cond.instanceMethod yX6_wipe, Cond.selects RX6 yX6_wipe yX6_wipe, Cond.code yX6_wipe cX6_wipe 2 (some .int), Cond.methodLink RL 96 yL_tracks, Cond.static yL_tracks]
def wsL_law0_r12 : List Cond := [Cond.codeWith yL_tracks cL_tracks 3 (some .int) [(0, 5, 6, 33)], Cond.methodLink RL 35 yX6_tracks, Cond.instanceMethod yX6_tracks, Cond.selects RX6 yX6_tracks yX6_tracks, Cond.code yX6_tracks cX6_tracks 2 (some .int), Cond.fieldLink RX6 85 "Ringtrack$Code" "tracks" "I", Cond.methodLink RL 98 yL_changes, Cond.static yL_changes, Cond.codeWith yL_changes cL_changes 4 (some .int) [(0, 6, 7, 33), (0, 6, 11, 15)], Cond.methodLink RL 48 yX6_changes, Cond.instanceMethod yX6_changes, Cond.selects RX6 yX6_changes yX6_changes, Cond.code yX6_changes cX6_changes 4 (some .int), Cond.methodLink RX6 106 yX0_hasTrack, Cond.instanceMethod yX0_hasTrack, Cond.selects RX0 yX0_hasTrack yX0_hasTrack, Cond.code yX0_hasTrack cX0_hasTrack 2 (some .boolean), Cond.methodLink RX6 111 yX0_changesOf, Cond.instanceMethod yX0_changesOf, Cond.selects RX0 yX0_changesOf yX0_changesOf, Cond.code yX0_changesOf cX0_changesOf 5 (some .int), Cond.methodLink RX0 40 yX0_mark, Cond.instanceMethod yX0_mark, Cond.selects RX0 yX0_mark yX0_mark]
def wsL_law0_r13 : List Cond := [Cond.code yX0_mark cX0_mark 3 (some .int), Cond.methodLink RX0 32 yX0_wordAt, Cond.methodLink RL 101 yL_isBalanced, Cond.static yL_isBalanced, Cond.codeWith yL_isBalanced cL_isBalanced 3 (some .int) [(0, 13, 14, 33)], Cond.methodLink RL 60 yX6_isBalanced, Cond.instanceMethod yX6_isBalanced, Cond.selects RX6 yX6_isBalanced yX6_isBalanced, Cond.code yX6_isBalanced cX6_isBalanced 2 (some .boolean), Cond.methodLink RX6 114 yX0_changesEvenly, Cond.instanceMethod yX0_changesEvenly, Cond.selects RX0 yX0_changesEvenly yX0_changesEvenly, Cond.code yX0_changesEvenly cX0_changesEvenly 5 (some .boolean), Cond.methodLink RX0 46 Lib.Math.min.name, Cond.methodLink RX0 51 Lib.Math.max.name, Cond.static Lib.Math.max.name, Cond.code Lib.Math.max.name Lib.Math.max.code 2 (some .int), Cond.methodLink RX0 43 yX0_changesOf, Cond.methodLink RL 103 yL_isOneTrack, Cond.static yL_isOneTrack, Cond.codeWith yL_isOneTrack cL_isOneTrack 3 (some .int) [(0, 13, 14, 33)], Cond.methodLink RL 64 yX6_isOneTrack, Cond.instanceMethod yX6_isOneTrack, Cond.selects RX6 yX6_isOneTrack yX6_isOneTrack]
def wsL_law0_r14 : List Cond := [Cond.code yX6_isOneTrack cX6_isOneTrack 2 (some .boolean), Cond.methodLink RX6 117 yX0_repeatsFirstTrack, Cond.instanceMethod yX0_repeatsFirstTrack, Cond.selects RX0 yX0_repeatsFirstTrack yX0_repeatsFirstTrack, Cond.code yX0_repeatsFirstTrack cX0_repeatsFirstTrack 2 (some .boolean), Cond.methodLink RX0 54 yX0_isFirstTrackMoved, Cond.instanceMethod yX0_isFirstTrackMoved, Cond.selects RX0 yX0_isFirstTrackMoved yX0_isFirstTrackMoved, Cond.code yX0_isFirstTrackMoved cX0_isFirstTrackMoved 3 (some .boolean), Cond.methodLink RX0 57 yX0_isFirstTrackFrom, Cond.instanceMethod yX0_isFirstTrackFrom, Cond.selects RX0 yX0_isFirstTrackFrom yX0_isFirstTrackFrom, Cond.code yX0_isFirstTrackFrom cX0_isFirstTrackFrom 4 (some .boolean), Cond.methodLink RL 105 yL_place, Cond.static yL_place, Cond.codeWith yL_place cL_place 4 (some .int) [(0, 6, 7, 33), (0, 6, 11, 15), (0, 6, 15, 45)], Cond.classLink RL 45 "java/util/NoSuchElementException", Cond.methodLink RL 42 yX6_place, Cond.instanceMethod yX6_place, Cond.selects RX6 yX6_place yX6_place, Cond.code yX6_place cX6_place 5 (some .int), Cond.classLink RX6 101 "java/util/NoSuchElementException", Cond.initialized "java/util/NoSuchElementException", Cond.methodLink RX6 98 yX0_placeOf]
def wsL_law0_r15 : List Cond := [Cond.methodLink RL 107 yL_word, Cond.static yL_word, Cond.codeWith yL_word cL_word 4 (some .int) [(0, 6, 7, 33), (0, 6, 11, 15)], Cond.methodLink RL 38 yX6_word, Cond.instanceMethod yX6_word, Cond.selects RX6 yX6_word yX6_word, Cond.code yX6_word cX6_word 4 (some .int), Cond.methodLink RX6 88 yX0_hasPlace, Cond.methodLink RX6 94 yX0_wordAt, Cond.methodLink RL 109 yL_setDisc, Cond.static yL_setDisc, Cond.codeWith yL_setDisc cL_setDisc 4 (some .int) [(0, 6, 7, 33), (0, 6, 11, 15)], Cond.methodLink RL 51 yX6_setDisc, Cond.instanceMethod yX6_setDisc, Cond.selects RX6 yX6_setDisc yX6_setDisc, Cond.code yX6_setDisc cX6_setDisc 4 (some .int), Cond.classLink RX6 122 RX1, Cond.instantiable RX1 8, Cond.fieldLink RX6 134 "Ringtrack$Disc" "turn" "I", Cond.methodLink RX6 124 yX1_init, Cond.instanceMethod yX1_init, Cond.code yX1_init cX1_init 3 none, Cond.methodLink RX1 3 objectInit, Cond.classLink RX1 9 RX5]
def wsL_law0_r16 : List Cond := [Cond.instantiable RX5 5, Cond.fieldLink RX1 12 "Ringtrack$Disc" "reading" "LRingtrack$Reading;", Cond.classLink RX1 18 RX3, Cond.instantiable RX3 3, Cond.initialized RX3, Cond.fieldLink RX1 21 "Ringtrack$Disc" "gears" "LRingtrack$Gears;", Cond.fieldLink RX1 25 "Ringtrack$Disc" "isPowered" "Z", Cond.classLink RX1 29 RX4, Cond.instantiable RX4 9, Cond.fieldLink RX1 38 "Ringtrack$Heads" "turn" "I", Cond.fieldLink RX1 43 "Ringtrack$Code" "words" "[I", Cond.fieldLink RX1 49 "Ringtrack$Disc" "page" "[I", Cond.instanceMethod yX5_init, Cond.code yX5_init cX5_init 1 none, Cond.methodLink RX5 3 objectInit, Cond.instanceMethod yX3_init, Cond.code yX3_init cX3_init 1 none, Cond.methodLink RX3 3 objectInit, Cond.fieldLink RX3 9 "Ringtrack$Gears" "slips" "[I", Cond.fieldLink RX3 15 "Ringtrack$Gears" "teeth" "[I", Cond.methodLink RX1 31 yX4_init, Cond.instanceMethod yX4_init, Cond.code yX4_init cX4_init 3 none, Cond.methodLink RX4 3 objectInit]
def wsL_law0_r17 : List Cond := [Cond.methodLink RX6 131 yX2_clear, Cond.instanceMethod yX2_clear, Cond.selects RX2 yX2_clear yX2_clear, Cond.code yX2_clear cX2_clear 1 none, Cond.fieldLink RX2 21 "Ringtrack$Frames" "count" "I", Cond.fieldLink RX2 25 "Ringtrack$Frames" "arrivedCount" "I", Cond.methodLink RL 111 yX6_isSound, Cond.instanceMethod yX6_isSound, Cond.selects RX6 yX6_isSound yX6_isSound, Cond.code yX6_isSound cX6_isSound 3 (some .boolean), Cond.classLink RX6 152 RX4, Cond.fieldLink RX6 151 "Ringtrack$Heads" "code" "LRingtrack$Code;", Cond.fieldLink RX6 221 "Ringtrack$Reading" "told" "I", Cond.fieldLink RX6 252 "Ringtrack$Disc" "gears" "LRingtrack$Gears;", Cond.fieldLink RX6 144 "Ringtrack$Disc" "rounds" "I", Cond.methodLink RX6 345 yX4_init, Cond.methodLink RX6 364 yX3_areInOrder, Cond.instanceMethod yX3_areInOrder, Cond.selects RX3 yX3_areInOrder yX3_areInOrder, Cond.code yX3_areInOrder cX3_areInOrder 3 (some .boolean), Cond.fieldLink RX3 18 "Ringtrack$Gears" "count" "I", Cond.methodLink RX3 34 yX3_toothOf, Cond.instanceMethod yX3_toothOf, Cond.selects RX3 yX3_toothOf yX3_toothOf]
def wsL_law0_r18 : List Cond := [Cond.code yX3_toothOf cX3_toothOf 3 (some .int), Cond.methodLink RX3 26 yX3_has, Cond.instanceMethod yX3_has, Cond.selects RX3 yX3_has yX3_has, Cond.code yX3_has cX3_has 2 (some .boolean), Cond.methodLink RX6 367 yX4_tellMiddles, Cond.instanceMethod yX4_tellMiddles, Cond.selects RX4 yX4_tellMiddles yX4_tellMiddles, Cond.code yX4_tellMiddles cX4_tellMiddles 2 (some .boolean), Cond.methodLink RX4 83 yX4_toldTogether, Cond.instanceMethod yX4_toldTogether, Cond.selects RX4 yX4_toldTogether yX4_toldTogether, Cond.code yX4_toldTogether cX4_toldTogether 4 (some .int), Cond.methodLink RX4 77 yX4_estimateAt, Cond.methodLink RX4 80 yX4_between]
def wsL_law0 : List Cond := (wsL_law0_r1 ++ (wsL_law0_r2 ++ (wsL_law0_r3 ++ (wsL_law0_r4 ++ (wsL_law0_r5 ++ (wsL_law0_r6 ++ (wsL_law0_r7 ++ (wsL_law0_r8 ++ (wsL_law0_r9 ++ (wsL_law0_r10 ++ (wsL_law0_r11 ++ (wsL_law0_r12 ++ (wsL_law0_r13 ++ (wsL_law0_r14 ++ (wsL_law0_r15 ++ (wsL_law0_r16 ++ (wsL_law0_r17 ++ wsL_law0_r18))))))))))))))))) ++ wsX60 ++ wsX20 ++ wsX00 ++ wsX10 ++ wsX50 ++ wsX40 ++ wsX30 ++ ([] : List Cond)
def wsL_law : List Cond := wsL_law0 ++ (vx_atS RX6 60 "java/lang/UnsupportedOperationException" ["java/lang/RuntimeException", "java/lang/Exception"]).filter goodWord ++ (vx_atS RX6 51 "java/lang/IllegalStateException" ["java/lang/RuntimeException", "java/lang/Exception"]).filter goodWord ++ (vx_atS RX6 41 "java/lang/IllegalArgumentException" ["java/lang/RuntimeException", "java/lang/Exception"]).filter goodWord ++ (vx_atS RX6 275 "java/lang/IndexOutOfBoundsException" ["java/lang/RuntimeException", "java/lang/Exception"]).filter goodWord ++ (zNat RX6 105).filter goodWord
end
section
set_option maxRecDepth 20000 in
theorem zin_1 : ∀ w ∈ wsL_law0_r1, w ∈ lw_tbl := fun w h => (goodIn_p wsL_law0_r1 [37, 40, 47] (by decide +kernel) (by decide +kernel) w h).1
set_option maxRecDepth 20000 in
theorem zin_2 : ∀ w ∈ wsL_law0_r2, w ∈ lw_tbl := fun w h => (goodIn_p wsL_law0_r2 [327, 331] (by decide +kernel) (by decide +kernel) w h).1
set_option maxRecDepth 20000 in
theorem zin_3 : ∀ w ∈ wsL_law0_r3, w ∈ lw_tbl := fun w h => (goodIn_p wsL_law0_r3 [108, 111, 351, 361] (by decide +kernel) (by decide +kernel) w h).1
end
section
set_option maxRecDepth 20000 in
theorem zin_4 : ∀ w ∈ wsL_law0_r4, w ∈ lw_tbl := fun w h => (goodIn_p wsL_law0_r4 [368, 372, 376] (by decide +kernel) (by decide +kernel) w h).1
set_option maxRecDepth 20000 in
theorem zin_5 : ∀ w ∈ wsL_law0_r5, w ∈ lw_tbl := fun w h => (goodIn_p wsL_law0_r5 [231, 154, 397, 406] (by decide +kernel) (by decide +kernel) w h).1
set_option maxRecDepth 20000 in
theorem zin_6 : ∀ w ∈ wsL_law0_r6, w ∈ lw_tbl := fun w h => (goodIn_p wsL_law0_r6 [410, 590, 594] (by decide +kernel) (by decide +kernel) w h).1
end
section
set_option maxRecDepth 20000 in
theorem zin_7 : ∀ w ∈ wsL_law0_r7, w ∈ lw_tbl := fun w h => (goodIn_p wsL_law0_r7 [602, 607, 170, 612] (by decide +kernel) (by decide +kernel) w h).1
set_option maxRecDepth 20000 in
theorem zin_8 : ∀ w ∈ wsL_law0_r8, w ∈ lw_tbl := fun w h => (goodIn_p wsL_law0_r8 [616, 186, 190] (by decide +kernel) (by decide +kernel) w h).1
set_option maxRecDepth 20000 in
theorem zin_9 : ∀ w ∈ wsL_law0_r9, w ∈ lw_tbl := fun w h => (goodIn_p wsL_law0_r9 [193, 197, 201, 206, 210, 214] (by decide +kernel) (by decide +kernel) w h).1
end
section
set_option maxRecDepth 20000 in
theorem zin_10 : ∀ w ∈ wsL_law0_r10, w ∈ lw_tbl := fun w h => (goodIn_p wsL_law0_r10 [178, 621, 624, 628, 221, 218] (by decide +kernel) (by decide +kernel) w h).1
set_option maxRecDepth 20000 in
theorem zin_11 : ∀ w ∈ wsL_law0_r11, w ∈ lw_tbl := fun w h => (goodIn_p wsL_law0_r11 [633, 638, 677, 680, 101] (by decide +kernel) (by decide +kernel) w h).1
set_option maxRecDepth 20000 in
theorem zin_12 : ∀ w ∈ wsL_law0_r12, w ∈ lw_tbl := fun w h => (goodIn_p wsL_law0_r12 [433, 476, 480, 485] (by decide +kernel) (by decide +kernel) w h).1
end
section
set_option maxRecDepth 20000 in
theorem zin_13 : ∀ w ∈ wsL_law0_r13, w ∈ lw_tbl := fun w h => (goodIn_p wsL_law0_r13 [490, 646, 650, 655] (by decide +kernel) (by decide +kernel) w h).1
set_option maxRecDepth 20000 in
theorem zin_14 : ∀ w ∈ wsL_law0_r14, w ∈ lw_tbl := fun w h => (goodIn_p wsL_law0_r14 [662, 666, 670, 674, 451] (by decide +kernel) (by decide +kernel) w h).1
set_option maxRecDepth 20000 in
theorem zin_15 : ∀ w ∈ wsL_law0_r15, w ∈ lw_tbl := fun w h => (goodIn_p wsL_law0_r15 [440, 498, 504] (by decide +kernel) (by decide +kernel) w h).1
end
section
set_option maxRecDepth 20000 in
theorem zin_16 : ∀ w ∈ wsL_law0_r16, w ∈ lw_tbl := fun w h => (goodIn_p wsL_law0_r16 [510, 534, 119] (by decide +kernel) (by decide +kernel) w h).1
set_option maxRecDepth 20000 in
theorem zin_17 : ∀ w ∈ wsL_law0_r17, w ∈ lw_tbl := fun w h => (goodIn_p wsL_law0_r17 [583, 105, 158] (by decide +kernel) (by decide +kernel) w h).1
set_option maxRecDepth 20000 in
theorem zin_18 : ∀ w ∈ wsL_law0_r18, w ∈ lw_tbl := fun w h => (goodIn_p wsL_law0_r18 [162, 166, 174, 182] (by decide +kernel) (by decide +kernel) w h).1
end
section
theorem wsL_law_x0 : ∀ w ∈ (vx_atS RX6 60 "java/lang/UnsupportedOperationException" ["java/lang/RuntimeException", "java/lang/Exception"]).filter goodWord, w ∈ lw_tbl := by decide +kernel
theorem wsL_law_x1 : ∀ w ∈ (vx_atS RX6 51 "java/lang/IllegalStateException" ["java/lang/RuntimeException", "java/lang/Exception"]).filter goodWord, w ∈ lw_tbl := by decide +kernel
theorem wsL_law_x2 : ∀ w ∈ (vx_atS RX6 41 "java/lang/IllegalArgumentException" ["java/lang/RuntimeException", "java/lang/Exception"]).filter goodWord, w ∈ lw_tbl := by decide +kernel
theorem wsL_law_x3 : ∀ w ∈ (vx_atS RX6 275 "java/lang/IndexOutOfBoundsException" ["java/lang/RuntimeException", "java/lang/Exception"]).filter goodWord, w ∈ lw_tbl := by decide +kernel
theorem wsL_law_x4 : ∀ w ∈ (zNat RX6 105).filter goodWord, w ∈ lw_tbl := by decide +kernel
end
section
theorem zinX6 : ∀ w ∈ wsX60, w ∈ lw_tbl := by decide +kernel
theorem zinX2 : ∀ w ∈ wsX20, w ∈ lw_tbl := by decide +kernel
theorem zinX0 : ∀ w ∈ wsX00, w ∈ lw_tbl := by decide +kernel
theorem zinX1 : ∀ w ∈ wsX10, w ∈ lw_tbl := by decide +kernel
theorem zinX5 : ∀ w ∈ wsX50, w ∈ lw_tbl := by decide +kernel
theorem zinX4 : ∀ w ∈ wsX40, w ∈ lw_tbl := by decide +kernel
theorem zinX3 : ∀ w ∈ wsX30, w ∈ lw_tbl := by decide +kernel
theorem wsL_law_in0 : ∀ w ∈ wsL_law0, w ∈ lw_tbl := fun w => (fun h => (List.mem_append.mp h).elim (fun h => (List.mem_append.mp h).elim (fun h => (List.mem_append.mp h).elim (fun h => (List.mem_append.mp h).elim (fun h => (List.mem_append.mp h).elim (fun h => (List.mem_append.mp h).elim (fun h => (List.mem_append.mp h).elim (fun h => (List.mem_append.mp h).elim (fun h => (List.mem_append.mp h).elim (fun h => zin_1 w h) (fun h => (List.mem_append.mp h).elim (fun h => zin_2 w h) (fun h => (List.mem_append.mp h).elim (fun h => zin_3 w h) (fun h => (List.mem_append.mp h).elim (fun h => zin_4 w h) (fun h => (List.mem_append.mp h).elim (fun h => zin_5 w h) (fun h => (List.mem_append.mp h).elim (fun h => zin_6 w h) (fun h => (List.mem_append.mp h).elim (fun h => zin_7 w h) (fun h => (List.mem_append.mp h).elim (fun h => zin_8 w h) (fun h => (List.mem_append.mp h).elim (fun h => zin_9 w h) (fun h => (List.mem_append.mp h).elim (fun h => zin_10 w h) (fun h => (List.mem_append.mp h).elim (fun h => zin_11 w h) (fun h => (List.mem_append.mp h).elim (fun h => zin_12 w h) (fun h => (List.mem_append.mp h).elim (fun h => zin_13 w h) (fun h => (List.mem_append.mp h).elim (fun h => zin_14 w h) (fun h => (List.mem_append.mp h).elim (fun h => zin_15 w h) (fun h => (List.mem_append.mp h).elim (fun h => zin_16 w h) (fun h => (List.mem_append.mp h).elim (fun h => zin_17 w h) (fun h => zin_18 w h)))))))))))))))))) (fun h => zinX6 w h)) (fun h => zinX2 w h)) (fun h => zinX0 w h)) (fun h => zinX1 w h)) (fun h => zinX5 w h)) (fun h => zinX4 w h)) (fun h => zinX3 w h)) (fun h => nomatch h))
theorem wsL_law_in : ∀ w ∈ wsL_law, w ∈ lw_tbl := fun w h => (List.mem_append.mp h).elim (fun h => (List.mem_append.mp h).elim (fun h => (List.mem_append.mp h).elim (fun h => (List.mem_append.mp h).elim (fun h => (List.mem_append.mp h).elim (fun h => wsL_law_in0 w h) (fun h => wsL_law_x0 w h)) (fun h => wsL_law_x1 w h)) (fun h => wsL_law_x2 w h)) (fun h => wsL_law_x3 w h)) (fun h => wsL_law_x4 w h)
theorem inlX0 : ∀ w ∈ wsX00, w ∈ wsL_law := fun _ h => List.mem_append_left _ (List.mem_append_left _ (List.mem_append_left _ (List.mem_append_left _ (List.mem_append_left _ (List.mem_append_left _ (List.mem_append_left _ (List.mem_append_left _ (List.mem_append_left _ (List.mem_append_left _ (List.mem_append_right _ h))))))))))
theorem inX0 : ∀ w ∈ wsX00, w ∈ lw_tbl := fun w h => wsL_law_in w (inlX0 w h)
theorem inlX1 : ∀ w ∈ wsX10, w ∈ wsL_law := fun _ h => List.mem_append_left _ (List.mem_append_left _ (List.mem_append_left _ (List.mem_append_left _ (List.mem_append_left _ (List.mem_append_left _ (List.mem_append_left _ (List.mem_append_left _ (List.mem_append_left _ (List.mem_append_right _ h)))))))))
theorem inX1 : ∀ w ∈ wsX10, w ∈ lw_tbl := fun w h => wsL_law_in w (inlX1 w h)
theorem inlX2 : ∀ w ∈ wsX20, w ∈ wsL_law := fun _ h => List.mem_append_left _ (List.mem_append_left _ (List.mem_append_left _ (List.mem_append_left _ (List.mem_append_left _ (List.mem_append_left _ (List.mem_append_left _ (List.mem_append_left _ (List.mem_append_left _ (List.mem_append_left _ (List.mem_append_left _ (List.mem_append_right _ h)))))))))))
theorem inX2 : ∀ w ∈ wsX20, w ∈ lw_tbl := fun w h => wsL_law_in w (inlX2 w h)
theorem inlX3 : ∀ w ∈ wsX30, w ∈ wsL_law := fun _ h => List.mem_append_left _ (List.mem_append_left _ (List.mem_append_left _ (List.mem_append_left _ (List.mem_append_left _ (List.mem_append_left _ (List.mem_append_right _ h))))))
theorem inX3 : ∀ w ∈ wsX30, w ∈ lw_tbl := fun w h => wsL_law_in w (inlX3 w h)
theorem inlX4 : ∀ w ∈ wsX40, w ∈ wsL_law := fun _ h => List.mem_append_left _ (List.mem_append_left _ (List.mem_append_left _ (List.mem_append_left _ (List.mem_append_left _ (List.mem_append_left _ (List.mem_append_left _ (List.mem_append_right _ h)))))))
theorem inX4 : ∀ w ∈ wsX40, w ∈ lw_tbl := fun w h => wsL_law_in w (inlX4 w h)
theorem inlX5 : ∀ w ∈ wsX50, w ∈ wsL_law := fun _ h => List.mem_append_left _ (List.mem_append_left _ (List.mem_append_left _ (List.mem_append_left _ (List.mem_append_left _ (List.mem_append_left _ (List.mem_append_left _ (List.mem_append_left _ (List.mem_append_right _ h))))))))
theorem inX5 : ∀ w ∈ wsX50, w ∈ lw_tbl := fun w h => wsL_law_in w (inlX5 w h)
theorem inlX6 : ∀ w ∈ wsX60, w ∈ wsL_law := fun _ h => List.mem_append_left _ (List.mem_append_left _ (List.mem_append_left _ (List.mem_append_left _ (List.mem_append_left _ (List.mem_append_left _ (List.mem_append_left _ (List.mem_append_left _ (List.mem_append_left _ (List.mem_append_left _ (List.mem_append_left _ (List.mem_append_left _ (List.mem_append_right _ h))))))))))))
theorem inX6 : ∀ w ∈ wsX60, w ∈ lw_tbl := fun w h => wsL_law_in w (inlX6 w h)
end
section
theorem inX7 : ∀ w ∈ wsX70, w ∈ lw_tbl := by decide +kernel
theorem inX8 : ∀ w ∈ wsX80, w ∈ lw_tbl := by decide +kernel
theorem inX9 : ∀ w ∈ wsX90, w ∈ lw_tbl := by decide +kernel
theorem inJx145de : ∀ w ∈ wsJx145de0, w ∈ lw_tbl := by decide +kernel
theorem inJx8e188 : ∀ w ∈ wsJx8e1880, w ∈ lw_tbl := by decide +kernel
theorem inJ6 : ∀ w ∈ wsJ60, w ∈ lw_tbl := by decide +kernel
theorem inJ9 : ∀ w ∈ wsJ90, w ∈ lw_tbl := by decide +kernel
theorem inJ0 : ∀ w ∈ wsJ00, w ∈ lw_tbl := by decide +kernel
theorem inJ10 : ∀ w ∈ wsJ100, w ∈ lw_tbl := by decide +kernel
theorem inJ7 : ∀ w ∈ wsJ70, w ∈ lw_tbl := by decide +kernel
set_option maxRecDepth 20000 in
theorem ggX0_init_J7_fill_53178 : GoodIn wsX0_init wsJ7_fill_53178 := goodIn_r _ [11] (by decide +kernel) (by decide +kernel)
set_option maxRecDepth 20000 in
theorem gX0_init_J7_fill_53178 : GoodIn wsX0_init (va_wsS RX0 18 yJ7_fill_53178 wsJ7_fill_53178) := goodIn_app (goodIn_of _ (by decide +kernel)) ggX0_init_J7_fill_53178
theorem dX0_init_0 : decode cX0_init 0 = .ok (.aload_n 0, 1) := by decide +kernel
theorem dX0_init_1 : decode cX0_init 1 = .ok (.invokespecial 3, 3) := by decide +kernel
theorem dX0_init_4 : decode cX0_init 4 = .ok (.aload_n 0, 1) := by decide +kernel
theorem dX0_init_5 : decode cX0_init 5 = .ok (.sipush 256, 3) := by decide +kernel
theorem dX0_init_8 : decode cX0_init 8 = .ok (.newarray .int, 2) := by decide +kernel
theorem dX0_init_10 : decode cX0_init 10 = .ok (.putfield 9, 3) := by decide +kernel
theorem dX0_init_13 : decode cX0_init 13 = .ok (.aload_n 0, 1) := by decide +kernel
theorem dX0_init_14 : decode cX0_init 14 = .ok (.aload_n 1, 1) := by decide +kernel
theorem dX0_init_15 : decode cX0_init 15 = .ok (.putfield 15, 3) := by decide +kernel
theorem dX0_init_18 : decode cX0_init 18 = .ok (.aload_n 0, 1) := by decide +kernel
theorem dX0_init_19 : decode cX0_init 19 = .ok (.getfield 9, 3) := by decide +kernel
theorem dX0_init_22 : decode cX0_init 22 = .ok (.iconst (-1), 1) := by decide +kernel
theorem dX0_init_23 : decode cX0_init 23 = .ok (.invokestatic 18, 3) := by decide +kernel
theorem dX0_init_26 : decode cX0_init 26 = .ok (.iconst (-1), 1) := by decide +kernel
theorem dX0_init_27 : decode cX0_init 27 = .ok (.istore_n 2, 1) := by decide +kernel
theorem dX0_init_28 : decode cX0_init 28 = .ok (.iconst 0, 1) := by decide +kernel
theorem dX0_init_29 : decode cX0_init 29 = .ok (.istore_n 3, 1) := by decide +kernel
theorem dX0_init_30 : decode cX0_init 30 = .ok (.iload_n 3, 1) := by decide +kernel
theorem dX0_init_31 : decode cX0_init 31 = .ok (.aload_n 1, 1) := by decide +kernel
theorem dX0_init_32 : decode cX0_init 32 = .ok (.arraylength, 1) := by decide +kernel
theorem dX0_init_33 : decode cX0_init 33 = .ok (.if_icmp .ge 62, 3) := by decide +kernel
theorem dX0_init_36 : decode cX0_init 36 = .ok (.aload_n 1, 1) := by decide +kernel
theorem dX0_init_37 : decode cX0_init 37 = .ok (.iload_n 3, 1) := by decide +kernel
theorem dX0_init_38 : decode cX0_init 38 = .ok (.iaload, 1) := by decide +kernel
theorem dX0_init_39 : decode cX0_init 39 = .ok (.sipush 255, 3) := by decide +kernel
theorem dX0_init_42 : decode cX0_init 42 = .ok (.iand, 1) := by decide +kernel
theorem dX0_init_43 : decode cX0_init 43 = .ok (.istore 4, 2) := by decide +kernel
theorem dX0_init_45 : decode cX0_init 45 = .ok (.aload_n 0, 1) := by decide +kernel
theorem dX0_init_46 : decode cX0_init 46 = .ok (.getfield 9, 3) := by decide +kernel
theorem dX0_init_49 : decode cX0_init 49 = .ok (.iload 4, 2) := by decide +kernel
theorem dX0_init_51 : decode cX0_init 51 = .ok (.iload_n 3, 1) := by decide +kernel
theorem dX0_init_52 : decode cX0_init 52 = .ok (.iastore, 1) := by decide +kernel
theorem dX0_init_53 : decode cX0_init 53 = .ok (.iconst 0, 1) := by decide +kernel
theorem dX0_init_54 : decode cX0_init 54 = .ok (.istore 5, 2) := by decide +kernel
theorem dX0_init_56 : decode cX0_init 56 = .ok (.iload 5, 2) := by decide +kernel
theorem dX0_init_58 : decode cX0_init 58 = .ok (.bipush 8, 2) := by decide +kernel
theorem dX0_init_60 : decode cX0_init 60 = .ok (.if_icmp .ge 29, 3) := by decide +kernel
theorem dX0_init_63 : decode cX0_init 63 = .ok (.iload 4, 2) := by decide +kernel
theorem dX0_init_65 : decode cX0_init 65 = .ok (.iload 5, 2) := by decide +kernel
theorem dX0_init_67 : decode cX0_init 67 = .ok (.ishr, 1) := by decide +kernel
theorem dX0_init_68 : decode cX0_init 68 = .ok (.iconst 1, 1) := by decide +kernel
theorem dX0_init_69 : decode cX0_init 69 = .ok (.iand, 1) := by decide +kernel
theorem dX0_init_70 : decode cX0_init 70 = .ok (.iconst 1, 1) := by decide +kernel
theorem dX0_init_71 : decode cX0_init 71 = .ok (.if_icmp .ne 12, 3) := by decide +kernel
theorem dX0_init_74 : decode cX0_init 74 = .ok (.iload 5, 2) := by decide +kernel
theorem dX0_init_76 : decode cX0_init 76 = .ok (.iload_n 2, 1) := by decide +kernel
theorem dX0_init_77 : decode cX0_init 77 = .ok (.if_icmp .le 6, 3) := by decide +kernel
theorem dX0_init_80 : decode cX0_init 80 = .ok (.iload 5, 2) := by decide +kernel
theorem dX0_init_82 : decode cX0_init 82 = .ok (.istore_n 2, 1) := by decide +kernel
theorem dX0_init_83 : decode cX0_init 83 = .ok (.iinc 5 1, 3) := by decide +kernel
theorem dX0_init_86 : decode cX0_init 86 = .ok (.goto (-30), 3) := by decide +kernel
theorem dX0_init_89 : decode cX0_init 89 = .ok (.iinc 3 1, 3) := by decide +kernel
theorem dX0_init_92 : decode cX0_init 92 = .ok (.goto (-62), 3) := by decide +kernel
theorem dX0_init_95 : decode cX0_init 95 = .ok (.aload_n 0, 1) := by decide +kernel
theorem dX0_init_96 : decode cX0_init 96 = .ok (.iload_n 2, 1) := by decide +kernel
theorem dX0_init_97 : decode cX0_init 97 = .ok (.iconst 1, 1) := by decide +kernel
theorem dX0_init_98 : decode cX0_init 98 = .ok (.iadd, 1) := by decide +kernel
theorem dX0_init_99 : decode cX0_init 99 = .ok (.putfield 24, 3) := by decide +kernel
theorem dX0_init_102 : decode cX0_init 102 = .ok (.return_, 1) := by decide +kernel
theorem dX0_hasPlace_0 : decode cX0_hasPlace 0 = .ok (.iload_n 1, 1) := by decide +kernel
theorem dX0_hasPlace_1 : decode cX0_hasPlace 1 = .ok (.ifCond .lt 16, 3) := by decide +kernel
theorem dX0_hasPlace_4 : decode cX0_hasPlace 4 = .ok (.iload_n 1, 1) := by decide +kernel
theorem dX0_hasPlace_5 : decode cX0_hasPlace 5 = .ok (.aload_n 0, 1) := by decide +kernel
theorem dX0_hasPlace_6 : decode cX0_hasPlace 6 = .ok (.getfield 15, 3) := by decide +kernel
theorem dX0_hasPlace_9 : decode cX0_hasPlace 9 = .ok (.arraylength, 1) := by decide +kernel
theorem dX0_hasPlace_10 : decode cX0_hasPlace 10 = .ok (.if_icmp .ge 7, 3) := by decide +kernel
theorem dX0_hasPlace_13 : decode cX0_hasPlace 13 = .ok (.iconst 1, 1) := by decide +kernel
theorem dX0_hasPlace_14 : decode cX0_hasPlace 14 = .ok (.goto 4, 3) := by decide +kernel
theorem dX0_hasPlace_17 : decode cX0_hasPlace 17 = .ok (.iconst 0, 1) := by decide +kernel
theorem dX0_hasPlace_18 : decode cX0_hasPlace 18 = .ok (.ireturn, 1) := by decide +kernel
theorem dX0_hasTrack_0 : decode cX0_hasTrack 0 = .ok (.iload_n 1, 1) := by decide +kernel
theorem dX0_hasTrack_1 : decode cX0_hasTrack 1 = .ok (.ifCond .lt 15, 3) := by decide +kernel
theorem dX0_hasTrack_4 : decode cX0_hasTrack 4 = .ok (.iload_n 1, 1) := by decide +kernel
theorem dX0_hasTrack_5 : decode cX0_hasTrack 5 = .ok (.aload_n 0, 1) := by decide +kernel
theorem dX0_hasTrack_6 : decode cX0_hasTrack 6 = .ok (.getfield 24, 3) := by decide +kernel
theorem dX0_hasTrack_9 : decode cX0_hasTrack 9 = .ok (.if_icmp .ge 7, 3) := by decide +kernel
theorem dX0_hasTrack_12 : decode cX0_hasTrack 12 = .ok (.iconst 1, 1) := by decide +kernel
theorem dX0_hasTrack_13 : decode cX0_hasTrack 13 = .ok (.goto 4, 3) := by decide +kernel
theorem dX0_hasTrack_16 : decode cX0_hasTrack 16 = .ok (.iconst 0, 1) := by decide +kernel
theorem dX0_hasTrack_17 : decode cX0_hasTrack 17 = .ok (.ireturn, 1) := by decide +kernel
set_option maxRecDepth 20000 in
theorem ggX0_wordAt_X0_hasPlace : GoodIn wsX0_wordAt wsX0_hasPlace := goodIn_r _ [6, 1, 7, 8, 9] (by decide +kernel) (by decide +kernel)
set_option maxRecDepth 20000 in
theorem gX0_wordAt_X0_hasPlace : GoodIn wsX0_wordAt (wsV RX0 28 RX0 yX0_hasPlace wsX0_hasPlace) := goodIn_app (goodIn_of _ (by decide +kernel)) ggX0_wordAt_X0_hasPlace
theorem dX0_wordAt_0 : decode cX0_wordAt 0 = .ok (.aload_n 0, 1) := by decide +kernel
theorem dX0_wordAt_1 : decode cX0_wordAt 1 = .ok (.iload_n 1, 1) := by decide +kernel
theorem dX0_wordAt_2 : decode cX0_wordAt 2 = .ok (.invokevirtual 28, 3) := by decide +kernel
theorem dX0_wordAt_5 : decode cX0_wordAt 5 = .ok (.ifCond .eq 12, 3) := by decide +kernel
theorem dX0_wordAt_8 : decode cX0_wordAt 8 = .ok (.aload_n 0, 1) := by decide +kernel
theorem dX0_wordAt_9 : decode cX0_wordAt 9 = .ok (.getfield 15, 3) := by decide +kernel
theorem dX0_wordAt_12 : decode cX0_wordAt 12 = .ok (.iload_n 1, 1) := by decide +kernel
theorem dX0_wordAt_13 : decode cX0_wordAt 13 = .ok (.iaload, 1) := by decide +kernel
theorem dX0_wordAt_14 : decode cX0_wordAt 14 = .ok (.goto 4, 3) := by decide +kernel
theorem dX0_wordAt_17 : decode cX0_wordAt 17 = .ok (.iconst 0, 1) := by decide +kernel
theorem dX0_wordAt_18 : decode cX0_wordAt 18 = .ok (.ireturn, 1) := by decide +kernel
theorem dX0_placeOf_0 : decode cX0_placeOf 0 = .ok (.iload_n 1, 1) := by decide +kernel
theorem dX0_placeOf_1 : decode cX0_placeOf 1 = .ok (.ifCond .lt 21, 3) := by decide +kernel
theorem dX0_placeOf_4 : decode cX0_placeOf 4 = .ok (.iload_n 1, 1) := by decide +kernel
theorem dX0_placeOf_5 : decode cX0_placeOf 5 = .ok (.aload_n 0, 1) := by decide +kernel
theorem dX0_placeOf_6 : decode cX0_placeOf 6 = .ok (.getfield 9, 3) := by decide +kernel
theorem dX0_placeOf_9 : decode cX0_placeOf 9 = .ok (.arraylength, 1) := by decide +kernel
theorem dX0_placeOf_10 : decode cX0_placeOf 10 = .ok (.if_icmp .ge 12, 3) := by decide +kernel
theorem dX0_placeOf_13 : decode cX0_placeOf 13 = .ok (.aload_n 0, 1) := by decide +kernel
theorem dX0_placeOf_14 : decode cX0_placeOf 14 = .ok (.getfield 9, 3) := by decide +kernel
theorem dX0_placeOf_17 : decode cX0_placeOf 17 = .ok (.iload_n 1, 1) := by decide +kernel
theorem dX0_placeOf_18 : decode cX0_placeOf 18 = .ok (.iaload, 1) := by decide +kernel
theorem dX0_placeOf_19 : decode cX0_placeOf 19 = .ok (.goto 4, 3) := by decide +kernel
theorem dX0_placeOf_22 : decode cX0_placeOf 22 = .ok (.iconst (-1), 1) := by decide +kernel
theorem dX0_placeOf_23 : decode cX0_placeOf 23 = .ok (.ireturn, 1) := by decide +kernel
set_option maxRecDepth 20000 in
theorem ggX0_mark_X0_wordAt : GoodIn wsX0_mark wsX0_wordAt := goodIn_r _ [5, 6, 7, 8, 9, 4, 10, 11, 12, 13] (by decide +kernel) (by decide +kernel)
set_option maxRecDepth 20000 in
theorem gX0_mark_X0_wordAt : GoodIn wsX0_mark (wsV RX0 32 RX0 yX0_wordAt wsX0_wordAt) := goodIn_app (goodIn_of _ (by decide +kernel)) ggX0_mark_X0_wordAt
theorem dX0_mark_0 : decode cX0_mark 0 = .ok (.aload_n 0, 1) := by decide +kernel
theorem dX0_mark_1 : decode cX0_mark 1 = .ok (.iload_n 1, 1) := by decide +kernel
theorem dX0_mark_2 : decode cX0_mark 2 = .ok (.invokevirtual 32, 3) := by decide +kernel
theorem dX0_mark_5 : decode cX0_mark 5 = .ok (.iload_n 2, 1) := by decide +kernel
theorem dX0_mark_6 : decode cX0_mark 6 = .ok (.ishr, 1) := by decide +kernel
theorem dX0_mark_7 : decode cX0_mark 7 = .ok (.iconst 1, 1) := by decide +kernel
theorem dX0_mark_8 : decode cX0_mark 8 = .ok (.iand, 1) := by decide +kernel
theorem dX0_mark_9 : decode cX0_mark 9 = .ok (.ireturn, 1) := by decide +kernel
set_option maxRecDepth 20000 in
theorem ggX0_changesOf_X6_modulo : GoodIn wsX0_changesOf wsX6_modulo := goodIn_r _ [4] (by decide +kernel) (by decide +kernel)
set_option maxRecDepth 20000 in
theorem gX0_changesOf_X6_modulo_n36 : GoodIn wsX0_changesOf (wsX6_modulo) := ggX0_changesOf_X6_modulo
set_option maxRecDepth 20000 in
theorem ggX0_changesOf_X0_mark : GoodIn wsX0_changesOf wsX0_mark := goodIn_r _ [9, 10, 11, 12, 8, 13, 1, 14, 15, 16, 17, 18, 19, 20] (by decide +kernel) (by decide +kernel)
set_option maxRecDepth 20000 in
theorem gX0_changesOf_X0_mark : GoodIn wsX0_changesOf (wsV RX0 40 RX0 yX0_mark wsX0_mark) := goodIn_app (goodIn_of _ (by decide +kernel)) ggX0_changesOf_X0_mark
theorem dX0_changesOf_0 : decode cX0_changesOf 0 = .ok (.iconst 0, 1) := by decide +kernel
theorem dX0_changesOf_1 : decode cX0_changesOf 1 = .ok (.istore_n 2, 1) := by decide +kernel
theorem dX0_changesOf_2 : decode cX0_changesOf 2 = .ok (.iconst 0, 1) := by decide +kernel
theorem dX0_changesOf_3 : decode cX0_changesOf 3 = .ok (.istore_n 3, 1) := by decide +kernel
theorem dX0_changesOf_4 : decode cX0_changesOf 4 = .ok (.iload_n 3, 1) := by decide +kernel
theorem dX0_changesOf_5 : decode cX0_changesOf 5 = .ok (.aload_n 0, 1) := by decide +kernel
theorem dX0_changesOf_6 : decode cX0_changesOf 6 = .ok (.getfield 15, 3) := by decide +kernel
theorem dX0_changesOf_9 : decode cX0_changesOf 9 = .ok (.arraylength, 1) := by decide +kernel
theorem dX0_changesOf_10 : decode cX0_changesOf 10 = .ok (.if_icmp .ge 41, 3) := by decide +kernel
theorem dX0_changesOf_13 : decode cX0_changesOf 13 = .ok (.iload_n 3, 1) := by decide +kernel
theorem dX0_changesOf_14 : decode cX0_changesOf 14 = .ok (.iconst 1, 1) := by decide +kernel
theorem dX0_changesOf_15 : decode cX0_changesOf 15 = .ok (.iadd, 1) := by decide +kernel
theorem dX0_changesOf_16 : decode cX0_changesOf 16 = .ok (.aload_n 0, 1) := by decide +kernel
theorem dX0_changesOf_17 : decode cX0_changesOf 17 = .ok (.getfield 15, 3) := by decide +kernel
theorem dX0_changesOf_20 : decode cX0_changesOf 20 = .ok (.arraylength, 1) := by decide +kernel
theorem dX0_changesOf_21 : decode cX0_changesOf 21 = .ok (.invokestatic 36, 3) := by decide +kernel
theorem dX0_changesOf_24 : decode cX0_changesOf 24 = .ok (.istore 4, 2) := by decide +kernel
theorem dX0_changesOf_26 : decode cX0_changesOf 26 = .ok (.aload_n 0, 1) := by decide +kernel
theorem dX0_changesOf_27 : decode cX0_changesOf 27 = .ok (.iload_n 3, 1) := by decide +kernel
theorem dX0_changesOf_28 : decode cX0_changesOf 28 = .ok (.iload_n 1, 1) := by decide +kernel
theorem dX0_changesOf_29 : decode cX0_changesOf 29 = .ok (.invokevirtual 40, 3) := by decide +kernel
theorem dX0_changesOf_32 : decode cX0_changesOf 32 = .ok (.aload_n 0, 1) := by decide +kernel
theorem dX0_changesOf_33 : decode cX0_changesOf 33 = .ok (.iload 4, 2) := by decide +kernel
theorem dX0_changesOf_35 : decode cX0_changesOf 35 = .ok (.iload_n 1, 1) := by decide +kernel
theorem dX0_changesOf_36 : decode cX0_changesOf 36 = .ok (.invokevirtual 40, 3) := by decide +kernel
theorem dX0_changesOf_39 : decode cX0_changesOf 39 = .ok (.if_icmp .eq 6, 3) := by decide +kernel
theorem dX0_changesOf_42 : decode cX0_changesOf 42 = .ok (.iinc 2 1, 3) := by decide +kernel
theorem dX0_changesOf_45 : decode cX0_changesOf 45 = .ok (.iinc 3 1, 3) := by decide +kernel
theorem dX0_changesOf_48 : decode cX0_changesOf 48 = .ok (.goto (-44), 3) := by decide +kernel
theorem dX0_changesOf_51 : decode cX0_changesOf 51 = .ok (.iload_n 2, 1) := by decide +kernel
theorem dX0_changesOf_52 : decode cX0_changesOf 52 = .ok (.ireturn, 1) := by decide +kernel
set_option maxRecDepth 20000 in
theorem ggX0_changesEvenly_X0_changesOf : GoodIn wsX0_changesEvenly wsX0_changesOf := goodIn_r _ [14, 1, 15, 16, 17, 18, 19, 20, 13, 21, 22, 23, 24, 25, 26, 27, 28, 29, 30, 31, 32] (by decide +kernel) (by decide +kernel)
set_option maxRecDepth 20000 in
theorem gX0_changesEvenly_X0_changesOf : GoodIn wsX0_changesEvenly (wsV RX0 43 RX0 yX0_changesOf wsX0_changesOf) := goodIn_app (goodIn_of _ (by decide +kernel)) ggX0_changesEvenly_X0_changesOf
theorem dX0_changesEvenly_0 : decode cX0_changesEvenly 0 = .ok (.aload_n 0, 1) := by decide +kernel
theorem dX0_changesEvenly_1 : decode cX0_changesEvenly 1 = .ok (.getfield 15, 3) := by decide +kernel
theorem dX0_changesEvenly_4 : decode cX0_changesEvenly 4 = .ok (.arraylength, 1) := by decide +kernel
theorem dX0_changesEvenly_5 : decode cX0_changesEvenly 5 = .ok (.istore_n 1, 1) := by decide +kernel
theorem dX0_changesEvenly_6 : decode cX0_changesEvenly 6 = .ok (.iconst 0, 1) := by decide +kernel
theorem dX0_changesEvenly_7 : decode cX0_changesEvenly 7 = .ok (.istore_n 2, 1) := by decide +kernel
theorem dX0_changesEvenly_8 : decode cX0_changesEvenly 8 = .ok (.iconst 0, 1) := by decide +kernel
theorem dX0_changesEvenly_9 : decode cX0_changesEvenly 9 = .ok (.istore_n 3, 1) := by decide +kernel
theorem dX0_changesEvenly_10 : decode cX0_changesEvenly 10 = .ok (.iload_n 3, 1) := by decide +kernel
theorem dX0_changesEvenly_11 : decode cX0_changesEvenly 11 = .ok (.aload_n 0, 1) := by decide +kernel
theorem dX0_changesEvenly_12 : decode cX0_changesEvenly 12 = .ok (.getfield 24, 3) := by decide +kernel
theorem dX0_changesEvenly_15 : decode cX0_changesEvenly 15 = .ok (.if_icmp .ge 30, 3) := by decide +kernel
theorem dX0_changesEvenly_18 : decode cX0_changesEvenly 18 = .ok (.aload_n 0, 1) := by decide +kernel
theorem dX0_changesEvenly_19 : decode cX0_changesEvenly 19 = .ok (.iload_n 3, 1) := by decide +kernel
theorem dX0_changesEvenly_20 : decode cX0_changesEvenly 20 = .ok (.invokevirtual 43, 3) := by decide +kernel
theorem dX0_changesEvenly_23 : decode cX0_changesEvenly 23 = .ok (.istore 4, 2) := by decide +kernel
theorem dX0_changesEvenly_25 : decode cX0_changesEvenly 25 = .ok (.iload_n 1, 1) := by decide +kernel
theorem dX0_changesEvenly_26 : decode cX0_changesEvenly 26 = .ok (.iload 4, 2) := by decide +kernel
theorem dX0_changesEvenly_28 : decode cX0_changesEvenly 28 = .ok (.invokestatic 46, 3) := by decide +kernel
theorem dX0_changesEvenly_31 : decode cX0_changesEvenly 31 = .ok (.istore_n 1, 1) := by decide +kernel
theorem dX0_changesEvenly_32 : decode cX0_changesEvenly 32 = .ok (.iload_n 2, 1) := by decide +kernel
theorem dX0_changesEvenly_33 : decode cX0_changesEvenly 33 = .ok (.iload 4, 2) := by decide +kernel
theorem dX0_changesEvenly_35 : decode cX0_changesEvenly 35 = .ok (.invokestatic 51, 3) := by decide +kernel
theorem dX0_changesEvenly_38 : decode cX0_changesEvenly 38 = .ok (.istore_n 2, 1) := by decide +kernel
theorem dX0_changesEvenly_39 : decode cX0_changesEvenly 39 = .ok (.iinc 3 1, 3) := by decide +kernel
theorem dX0_changesEvenly_42 : decode cX0_changesEvenly 42 = .ok (.goto (-32), 3) := by decide +kernel
theorem dX0_changesEvenly_45 : decode cX0_changesEvenly 45 = .ok (.iload_n 2, 1) := by decide +kernel
theorem dX0_changesEvenly_46 : decode cX0_changesEvenly 46 = .ok (.iload_n 1, 1) := by decide +kernel
theorem dX0_changesEvenly_47 : decode cX0_changesEvenly 47 = .ok (.isub, 1) := by decide +kernel
theorem dX0_changesEvenly_48 : decode cX0_changesEvenly 48 = .ok (.iconst 2, 1) := by decide +kernel
theorem dX0_changesEvenly_49 : decode cX0_changesEvenly 49 = .ok (.if_icmp .gt 7, 3) := by decide +kernel
theorem dX0_changesEvenly_52 : decode cX0_changesEvenly 52 = .ok (.iconst 1, 1) := by decide +kernel
theorem dX0_changesEvenly_53 : decode cX0_changesEvenly 53 = .ok (.goto 4, 3) := by decide +kernel
theorem dX0_changesEvenly_56 : decode cX0_changesEvenly 56 = .ok (.iconst 0, 1) := by decide +kernel
theorem dX0_changesEvenly_57 : decode cX0_changesEvenly 57 = .ok (.ireturn, 1) := by decide +kernel
set_option maxRecDepth 20000 in
theorem ggX0_repeatsFirstTrack_X0_isFirstTrackMoved : GoodIn wsX0_repeatsFirstTrack wsX0_isFirstTrackMoved := goodIn_r _ [6, 7, 8, 9, 10, 5, 11, 12, 13, 14, 15, 16, 17, 18, 19, 20, 21, 22, 23, 24, 25, 26, 27, 28, 29] (by decide +kernel) (by decide +kernel)
set_option maxRecDepth 20000 in
theorem gX0_repeatsFirstTrack_X0_isFirstTrackMoved : GoodIn wsX0_repeatsFirstTrack (wsV RX0 54 RX0 yX0_isFirstTrackMoved wsX0_isFirstTrackMoved) := goodIn_app (goodIn_of _ (by decide +kernel)) ggX0_repeatsFirstTrack_X0_isFirstTrackMoved
theorem dX0_repeatsFirstTrack_0 : decode cX0_repeatsFirstTrack 0 = .ok (.iconst 1, 1) := by decide +kernel
theorem dX0_repeatsFirstTrack_1 : decode cX0_repeatsFirstTrack 1 = .ok (.istore_n 1, 1) := by decide +kernel
theorem dX0_repeatsFirstTrack_2 : decode cX0_repeatsFirstTrack 2 = .ok (.iload_n 1, 1) := by decide +kernel
theorem dX0_repeatsFirstTrack_3 : decode cX0_repeatsFirstTrack 3 = .ok (.aload_n 0, 1) := by decide +kernel
theorem dX0_repeatsFirstTrack_4 : decode cX0_repeatsFirstTrack 4 = .ok (.getfield 24, 3) := by decide +kernel
theorem dX0_repeatsFirstTrack_7 : decode cX0_repeatsFirstTrack 7 = .ok (.if_icmp .ge 19, 3) := by decide +kernel
theorem dX0_repeatsFirstTrack_10 : decode cX0_repeatsFirstTrack 10 = .ok (.aload_n 0, 1) := by decide +kernel
theorem dX0_repeatsFirstTrack_11 : decode cX0_repeatsFirstTrack 11 = .ok (.iload_n 1, 1) := by decide +kernel
theorem dX0_repeatsFirstTrack_12 : decode cX0_repeatsFirstTrack 12 = .ok (.invokevirtual 54, 3) := by decide +kernel
theorem dX0_repeatsFirstTrack_15 : decode cX0_repeatsFirstTrack 15 = .ok (.ifCond .ne 5, 3) := by decide +kernel
theorem dX0_repeatsFirstTrack_18 : decode cX0_repeatsFirstTrack 18 = .ok (.iconst 0, 1) := by decide +kernel
theorem dX0_repeatsFirstTrack_19 : decode cX0_repeatsFirstTrack 19 = .ok (.ireturn, 1) := by decide +kernel
theorem dX0_repeatsFirstTrack_20 : decode cX0_repeatsFirstTrack 20 = .ok (.iinc 1 1, 3) := by decide +kernel
theorem dX0_repeatsFirstTrack_23 : decode cX0_repeatsFirstTrack 23 = .ok (.goto (-21), 3) := by decide +kernel
theorem dX0_repeatsFirstTrack_26 : decode cX0_repeatsFirstTrack 26 = .ok (.iconst 1, 1) := by decide +kernel
theorem dX0_repeatsFirstTrack_27 : decode cX0_repeatsFirstTrack 27 = .ok (.ireturn, 1) := by decide +kernel
set_option maxRecDepth 20000 in
theorem ggX0_isFirstTrackMoved_X0_isFirstTrackFrom : GoodIn wsX0_isFirstTrackMoved wsX0_isFirstTrackFrom := goodIn_r _ [6, 1, 7, 8, 9, 5, 10, 11, 12, 13, 14, 15, 16, 17, 18, 19, 20, 21, 22, 23, 24] (by decide +kernel) (by decide +kernel)
set_option maxRecDepth 20000 in
theorem gX0_isFirstTrackMoved_X0_isFirstTrackFrom : GoodIn wsX0_isFirstTrackMoved (wsV RX0 57 RX0 yX0_isFirstTrackFrom wsX0_isFirstTrackFrom) := goodIn_app (goodIn_of _ (by decide +kernel)) ggX0_isFirstTrackMoved_X0_isFirstTrackFrom
theorem dX0_isFirstTrackMoved_0 : decode cX0_isFirstTrackMoved 0 = .ok (.iconst 0, 1) := by decide +kernel
theorem dX0_isFirstTrackMoved_1 : decode cX0_isFirstTrackMoved 1 = .ok (.istore_n 2, 1) := by decide +kernel
theorem dX0_isFirstTrackMoved_2 : decode cX0_isFirstTrackMoved 2 = .ok (.iload_n 2, 1) := by decide +kernel
theorem dX0_isFirstTrackMoved_3 : decode cX0_isFirstTrackMoved 3 = .ok (.aload_n 0, 1) := by decide +kernel
theorem dX0_isFirstTrackMoved_4 : decode cX0_isFirstTrackMoved 4 = .ok (.getfield 15, 3) := by decide +kernel
theorem dX0_isFirstTrackMoved_7 : decode cX0_isFirstTrackMoved 7 = .ok (.arraylength, 1) := by decide +kernel
theorem dX0_isFirstTrackMoved_8 : decode cX0_isFirstTrackMoved 8 = .ok (.if_icmp .ge 20, 3) := by decide +kernel
theorem dX0_isFirstTrackMoved_11 : decode cX0_isFirstTrackMoved 11 = .ok (.aload_n 0, 1) := by decide +kernel
theorem dX0_isFirstTrackMoved_12 : decode cX0_isFirstTrackMoved 12 = .ok (.iload_n 1, 1) := by decide +kernel
theorem dX0_isFirstTrackMoved_13 : decode cX0_isFirstTrackMoved 13 = .ok (.iload_n 2, 1) := by decide +kernel
theorem dX0_isFirstTrackMoved_14 : decode cX0_isFirstTrackMoved 14 = .ok (.invokevirtual 57, 3) := by decide +kernel
theorem dX0_isFirstTrackMoved_17 : decode cX0_isFirstTrackMoved 17 = .ok (.ifCond .eq 5, 3) := by decide +kernel
theorem dX0_isFirstTrackMoved_20 : decode cX0_isFirstTrackMoved 20 = .ok (.iconst 1, 1) := by decide +kernel
theorem dX0_isFirstTrackMoved_21 : decode cX0_isFirstTrackMoved 21 = .ok (.ireturn, 1) := by decide +kernel
theorem dX0_isFirstTrackMoved_22 : decode cX0_isFirstTrackMoved 22 = .ok (.iinc 2 1, 3) := by decide +kernel
theorem dX0_isFirstTrackMoved_25 : decode cX0_isFirstTrackMoved 25 = .ok (.goto (-23), 3) := by decide +kernel
theorem dX0_isFirstTrackMoved_28 : decode cX0_isFirstTrackMoved 28 = .ok (.iconst 0, 1) := by decide +kernel
theorem dX0_isFirstTrackMoved_29 : decode cX0_isFirstTrackMoved 29 = .ok (.ireturn, 1) := by decide +kernel
set_option maxRecDepth 20000 in
theorem ggX0_isFirstTrackFrom_X0_mark : GoodIn wsX0_isFirstTrackFrom wsX0_mark := goodIn_r _ [6, 7, 8, 9, 5, 10, 1, 11, 12, 13, 14, 18, 19, 20] (by decide +kernel) (by decide +kernel)
set_option maxRecDepth 20000 in
theorem gX0_isFirstTrackFrom_X0_mark : GoodIn wsX0_isFirstTrackFrom (wsV RX0 40 RX0 yX0_mark wsX0_mark) := goodIn_app (goodIn_of _ (by decide +kernel)) ggX0_isFirstTrackFrom_X0_mark
set_option maxRecDepth 20000 in
theorem ggX0_isFirstTrackFrom_X6_modulo : GoodIn wsX0_isFirstTrackFrom wsX6_modulo := goodIn_r _ [17] (by decide +kernel) (by decide +kernel)
set_option maxRecDepth 20000 in
theorem gX0_isFirstTrackFrom_X6_modulo_n36 : GoodIn wsX0_isFirstTrackFrom (wsX6_modulo) := ggX0_isFirstTrackFrom_X6_modulo
theorem dX0_isFirstTrackFrom_0 : decode cX0_isFirstTrackFrom 0 = .ok (.iconst 0, 1) := by decide +kernel
theorem dX0_isFirstTrackFrom_1 : decode cX0_isFirstTrackFrom 1 = .ok (.istore_n 3, 1) := by decide +kernel
theorem dX0_isFirstTrackFrom_2 : decode cX0_isFirstTrackFrom 2 = .ok (.iload_n 3, 1) := by decide +kernel
theorem dX0_isFirstTrackFrom_3 : decode cX0_isFirstTrackFrom 3 = .ok (.aload_n 0, 1) := by decide +kernel
theorem dX0_isFirstTrackFrom_4 : decode cX0_isFirstTrackFrom 4 = .ok (.getfield 15, 3) := by decide +kernel
theorem dX0_isFirstTrackFrom_7 : decode cX0_isFirstTrackFrom 7 = .ok (.arraylength, 1) := by decide +kernel
theorem dX0_isFirstTrackFrom_8 : decode cX0_isFirstTrackFrom 8 = .ok (.if_icmp .ge 36, 3) := by decide +kernel
theorem dX0_isFirstTrackFrom_11 : decode cX0_isFirstTrackFrom 11 = .ok (.aload_n 0, 1) := by decide +kernel
theorem dX0_isFirstTrackFrom_12 : decode cX0_isFirstTrackFrom 12 = .ok (.iload_n 3, 1) := by decide +kernel
theorem dX0_isFirstTrackFrom_13 : decode cX0_isFirstTrackFrom 13 = .ok (.iload_n 1, 1) := by decide +kernel
theorem dX0_isFirstTrackFrom_14 : decode cX0_isFirstTrackFrom 14 = .ok (.invokevirtual 40, 3) := by decide +kernel
theorem dX0_isFirstTrackFrom_17 : decode cX0_isFirstTrackFrom 17 = .ok (.aload_n 0, 1) := by decide +kernel
theorem dX0_isFirstTrackFrom_18 : decode cX0_isFirstTrackFrom 18 = .ok (.iload_n 3, 1) := by decide +kernel
theorem dX0_isFirstTrackFrom_19 : decode cX0_isFirstTrackFrom 19 = .ok (.iload_n 2, 1) := by decide +kernel
theorem dX0_isFirstTrackFrom_20 : decode cX0_isFirstTrackFrom 20 = .ok (.iadd, 1) := by decide +kernel
theorem dX0_isFirstTrackFrom_21 : decode cX0_isFirstTrackFrom 21 = .ok (.aload_n 0, 1) := by decide +kernel
theorem dX0_isFirstTrackFrom_22 : decode cX0_isFirstTrackFrom 22 = .ok (.getfield 15, 3) := by decide +kernel
theorem dX0_isFirstTrackFrom_25 : decode cX0_isFirstTrackFrom 25 = .ok (.arraylength, 1) := by decide +kernel
theorem dX0_isFirstTrackFrom_26 : decode cX0_isFirstTrackFrom 26 = .ok (.invokestatic 36, 3) := by decide +kernel
theorem dX0_isFirstTrackFrom_29 : decode cX0_isFirstTrackFrom 29 = .ok (.iconst 0, 1) := by decide +kernel
theorem dX0_isFirstTrackFrom_30 : decode cX0_isFirstTrackFrom 30 = .ok (.invokevirtual 40, 3) := by decide +kernel
theorem dX0_isFirstTrackFrom_33 : decode cX0_isFirstTrackFrom 33 = .ok (.if_icmp .eq 5, 3) := by decide +kernel
theorem dX0_isFirstTrackFrom_36 : decode cX0_isFirstTrackFrom 36 = .ok (.iconst 0, 1) := by decide +kernel
theorem dX0_isFirstTrackFrom_37 : decode cX0_isFirstTrackFrom 37 = .ok (.ireturn, 1) := by decide +kernel
theorem dX0_isFirstTrackFrom_38 : decode cX0_isFirstTrackFrom 38 = .ok (.iinc 3 1, 3) := by decide +kernel
theorem dX0_isFirstTrackFrom_41 : decode cX0_isFirstTrackFrom 41 = .ok (.goto (-39), 3) := by decide +kernel
theorem dX0_isFirstTrackFrom_44 : decode cX0_isFirstTrackFrom 44 = .ok (.iconst 1, 1) := by decide +kernel
theorem dX0_isFirstTrackFrom_45 : decode cX0_isFirstTrackFrom 45 = .ok (.ireturn, 1) := by decide +kernel
theorem dX2_init_0 : decode cX2_init 0 = .ok (.aload_n 0, 1) := by decide +kernel
theorem dX2_init_1 : decode cX2_init 1 = .ok (.invokespecial 3, 3) := by decide +kernel
theorem dX2_init_4 : decode cX2_init 4 = .ok (.aload_n 0, 1) := by decide +kernel
theorem dX2_init_5 : decode cX2_init 5 = .ok (.bipush 9, 2) := by decide +kernel
theorem dX2_init_7 : decode cX2_init 7 = .ok (.newarray .int, 2) := by decide +kernel
theorem dX2_init_9 : decode cX2_init 9 = .ok (.putfield 9, 3) := by decide +kernel
theorem dX2_init_12 : decode cX2_init 12 = .ok (.aload_n 0, 1) := by decide +kernel
theorem dX2_init_13 : decode cX2_init 13 = .ok (.bipush 9, 2) := by decide +kernel
theorem dX2_init_15 : decode cX2_init 15 = .ok (.newarray .int, 2) := by decide +kernel
theorem dX2_init_17 : decode cX2_init 17 = .ok (.putfield 15, 3) := by decide +kernel
theorem dX2_init_20 : decode cX2_init 20 = .ok (.aload_n 0, 1) := by decide +kernel
theorem dX2_init_21 : decode cX2_init 21 = .ok (.sipush 512, 3) := by decide +kernel
theorem dX2_init_24 : decode cX2_init 24 = .ok (.newarray .int, 2) := by decide +kernel
theorem dX2_init_26 : decode cX2_init 26 = .ok (.putfield 18, 3) := by decide +kernel
theorem dX2_init_29 : decode cX2_init 29 = .ok (.return_, 1) := by decide +kernel
theorem dX2_clear_0 : decode cX2_clear 0 = .ok (.aload_n 0, 1) := by decide +kernel
theorem dX2_clear_1 : decode cX2_clear 1 = .ok (.iconst 0, 1) := by decide +kernel
theorem dX2_clear_2 : decode cX2_clear 2 = .ok (.putfield 21, 3) := by decide +kernel
theorem dX2_clear_5 : decode cX2_clear 5 = .ok (.aload_n 0, 1) := by decide +kernel
theorem dX2_clear_6 : decode cX2_clear 6 = .ok (.iconst 0, 1) := by decide +kernel
theorem dX2_clear_7 : decode cX2_clear 7 = .ok (.putfield 25, 3) := by decide +kernel
theorem dX2_clear_10 : decode cX2_clear 10 = .ok (.return_, 1) := by decide +kernel
set_option maxRecDepth 20000 in
theorem ggX6_init_X2_init : GoodIn wsX6_init wsX2_init := goodIn_r _ [15, 16, 2, 3, 4, 17, 18, 19, 29, 30, 31, 32, 33, 34, 35] (by decide +kernel) (by decide +kernel)
set_option maxRecDepth 20000 in
theorem gX6_init_X2_init_n28 : GoodIn wsX6_init (wsX2_init) := ggX6_init_X2_init
theorem dX6_init_0 : decode cX6_init 0 = .ok (.aload_n 0, 1) := by decide +kernel
theorem dX6_init_1 : decode cX6_init 1 = .ok (.invokespecial 1, 3) := by decide +kernel
theorem dX6_init_4 : decode cX6_init 4 = .ok (.aload_n 0, 1) := by decide +kernel
theorem dX6_init_5 : decode cX6_init 5 = .ok (.bipush 64, 2) := by decide +kernel
theorem dX6_init_7 : decode cX6_init 7 = .ok (.newarray .int, 2) := by decide +kernel
theorem dX6_init_9 : decode cX6_init 9 = .ok (.putfield 9, 3) := by decide +kernel
theorem dX6_init_12 : decode cX6_init 12 = .ok (.aload_n 0, 1) := by decide +kernel
theorem dX6_init_13 : decode cX6_init 13 = .ok (.iconst 4, 1) := by decide +kernel
theorem dX6_init_14 : decode cX6_init 14 = .ok (.anewarray 13, 3) := by decide +kernel
theorem dX6_init_17 : decode cX6_init 17 = .ok (.putfield 15, 3) := by decide +kernel
theorem dX6_init_20 : decode cX6_init 20 = .ok (.aload_n 0, 1) := by decide +kernel
theorem dX6_init_21 : decode cX6_init 21 = .ok (.bipush 40, 2) := by decide +kernel
theorem dX6_init_23 : decode cX6_init 23 = .ok (.putfield 19, 3) := by decide +kernel
theorem dX6_init_26 : decode cX6_init 26 = .ok (.aload_n 0, 1) := by decide +kernel
theorem dX6_init_27 : decode cX6_init 27 = .ok (.bipush 48, 2) := by decide +kernel
theorem dX6_init_29 : decode cX6_init 29 = .ok (.putfield 23, 3) := by decide +kernel
theorem dX6_init_32 : decode cX6_init 32 = .ok (.aload_n 0, 1) := by decide +kernel
theorem dX6_init_33 : decode cX6_init 33 = .ok (.new 26, 3) := by decide +kernel
theorem dX6_init_36 : decode cX6_init 36 = .ok (.dup, 1) := by decide +kernel
theorem dX6_init_37 : decode cX6_init 37 = .ok (.invokespecial 28, 3) := by decide +kernel
theorem dX6_init_40 : decode cX6_init 40 = .ok (.putfield 29, 3) := by decide +kernel
theorem dX6_init_43 : decode cX6_init 43 = .ok (.return_, 1) := by decide +kernel
set_option maxRecDepth 20000 in
theorem ggX6_type_X6_isWithin : GoodIn wsX6_type wsX6_isWithin := goodIn_r _ [10] (by decide +kernel) (by decide +kernel)
set_option maxRecDepth 20000 in
theorem gX6_type_X6_isWithin : GoodIn wsX6_type (va_wsS RX6 33 yX6_isWithin wsX6_isWithin) := goodIn_app (goodIn_of _ (by decide +kernel)) ggX6_type_X6_isWithin
theorem dX6_type_0 : decode cX6_type 0 = .ok (.iload_n 1, 1) := by decide +kernel
theorem dX6_type_1 : decode cX6_type 1 = .ok (.iconst 0, 1) := by decide +kernel
theorem dX6_type_2 : decode cX6_type 2 = .ok (.sipush 255, 3) := by decide +kernel
theorem dX6_type_5 : decode cX6_type 5 = .ok (.invokestatic 33, 3) := by decide +kernel
theorem dX6_type_8 : decode cX6_type 8 = .ok (.ifCond .ne 13, 3) := by decide +kernel
theorem dX6_type_11 : decode cX6_type 11 = .ok (.new 37, 3) := by decide +kernel
theorem dX6_type_14 : decode cX6_type 14 = .ok (.dup, 1) := by decide +kernel
theorem dX6_type_15 : decode cX6_type 15 = .ok (.ldc 39, 2) := by decide +kernel
theorem dX6_type_17 : decode cX6_type 17 = .ok (.invokespecial 41, 3) := by decide +kernel
theorem dX6_type_20 : decode cX6_type 20 = .ok (.athrow, 1) := by decide +kernel
theorem dX6_type_21 : decode cX6_type 21 = .ok (.aload_n 0, 1) := by decide +kernel
theorem dX6_type_22 : decode cX6_type 22 = .ok (.getfield 44, 3) := by decide +kernel
theorem dX6_type_25 : decode cX6_type 25 = .ok (.aload_n 0, 1) := by decide +kernel
theorem dX6_type_26 : decode cX6_type 26 = .ok (.getfield 9, 3) := by decide +kernel
theorem dX6_type_29 : decode cX6_type 29 = .ok (.arraylength, 1) := by decide +kernel
theorem dX6_type_30 : decode cX6_type 30 = .ok (.if_icmp .lt 13, 3) := by decide +kernel
theorem dX6_type_33 : decode cX6_type 33 = .ok (.new 47, 3) := by decide +kernel
theorem dX6_type_36 : decode cX6_type 36 = .ok (.dup, 1) := by decide +kernel
theorem dX6_type_37 : decode cX6_type 37 = .ok (.ldc 49, 2) := by decide +kernel
theorem dX6_type_39 : decode cX6_type 39 = .ok (.invokespecial 51, 3) := by decide +kernel
theorem dX6_type_42 : decode cX6_type 42 = .ok (.athrow, 1) := by decide +kernel
theorem dX6_type_43 : decode cX6_type 43 = .ok (.aload_n 0, 1) := by decide +kernel
theorem dX6_type_44 : decode cX6_type 44 = .ok (.getfield 9, 3) := by decide +kernel
theorem dX6_type_47 : decode cX6_type 47 = .ok (.aload_n 0, 1) := by decide +kernel
theorem dX6_type_48 : decode cX6_type 48 = .ok (.getfield 44, 3) := by decide +kernel
theorem dX6_type_51 : decode cX6_type 51 = .ok (.iload_n 1, 1) := by decide +kernel
theorem dX6_type_52 : decode cX6_type 52 = .ok (.iastore, 1) := by decide +kernel
theorem dX6_type_53 : decode cX6_type 53 = .ok (.aload_n 0, 1) := by decide +kernel
theorem dX6_type_54 : decode cX6_type 54 = .ok (.dup, 1) := by decide +kernel
theorem dX6_type_55 : decode cX6_type 55 = .ok (.getfield 44, 3) := by decide +kernel
theorem dX6_type_58 : decode cX6_type 58 = .ok (.iconst 1, 1) := by decide +kernel
theorem dX6_type_59 : decode cX6_type 59 = .ok (.iadd, 1) := by decide +kernel
theorem dX6_type_60 : decode cX6_type 60 = .ok (.putfield 44, 3) := by decide +kernel
theorem dX6_type_63 : decode cX6_type 63 = .ok (.aload_n 0, 1) := by decide +kernel
theorem dX6_type_64 : decode cX6_type 64 = .ok (.getfield 44, 3) := by decide +kernel
theorem dX6_type_67 : decode cX6_type 67 = .ok (.ireturn, 1) := by decide +kernel
theorem dX6_wipe_0 : decode cX6_wipe 0 = .ok (.aload_n 0, 1) := by decide +kernel
theorem dX6_wipe_1 : decode cX6_wipe 1 = .ok (.getfield 44, 3) := by decide +kernel
theorem dX6_wipe_4 : decode cX6_wipe 4 = .ok (.istore_n 1, 1) := by decide +kernel
theorem dX6_wipe_5 : decode cX6_wipe 5 = .ok (.aload_n 0, 1) := by decide +kernel
theorem dX6_wipe_6 : decode cX6_wipe 6 = .ok (.iconst 0, 1) := by decide +kernel
theorem dX6_wipe_7 : decode cX6_wipe 7 = .ok (.putfield 44, 3) := by decide +kernel
theorem dX6_wipe_10 : decode cX6_wipe 10 = .ok (.iload_n 1, 1) := by decide +kernel
theorem dX6_wipe_11 : decode cX6_wipe 11 = .ok (.ireturn, 1) := by decide +kernel
set_option maxRecDepth 20000 in
theorem ggX6_ring_X6_typedIsRing : GoodIn wsX6_ring wsX6_typedIsRing := goodIn_r _ [13, 8, 7, 14, 15, 12, 16, 17, 18, 19, 20, 21, 22, 23, 62, 63, 64, 65, 66, 67, 68, 69, 70] (by decide +kernel) (by decide +kernel)
set_option maxRecDepth 20000 in
theorem gX6_ring_X6_typedIsRing : GoodIn wsX6_ring (wsV RX6 52 RX6 yX6_typedIsRing wsX6_typedIsRing) := goodIn_app (goodIn_of _ (by decide +kernel)) ggX6_ring_X6_typedIsRing
set_option maxRecDepth 20000 in
theorem ggX6_ring_J7_copyOf_59c91 : GoodIn wsX6_ring wsJ7_copyOf_59c91 := goodIn_r _ [27, 28, 29, 30, 31, 32, 33, 34, 35, 36, 37, 38, 39, 40, 41, 42] (by decide +kernel) (by decide +kernel)
set_option maxRecDepth 20000 in
theorem gX6_ring_J7_copyOf_59c91 : GoodIn wsX6_ring (va_wsS RX6 66 yJ7_copyOf_59c91 wsJ7_copyOf_59c91) := goodIn_app (goodIn_of _ (by decide +kernel)) ggX6_ring_J7_copyOf_59c91
set_option maxRecDepth 20000 in
theorem ggX6_ring_X6_keepCode : GoodIn wsX6_ring wsX6_keepCode := goodIn_r _ [46, 5, 6, 47, 48, 49, 50, 51, 52, 53, 54, 55, 34, 56, 57, 58, 59, 60, 26, 61, 62, 63, 64, 65, 66, 67, 68, 69, 70, 71, 72, 73] (by decide +kernel) (by decide +kernel)
set_option maxRecDepth 20000 in
theorem gX6_ring_X6_keepCode : GoodIn wsX6_ring (wsV RX6 72 RX6 yX6_keepCode wsX6_keepCode) := goodIn_app (goodIn_of _ (by decide +kernel)) ggX6_ring_X6_keepCode
theorem dX6_ring_0 : decode cX6_ring 0 = .ok (.aload_n 0, 1) := by decide +kernel
theorem dX6_ring_1 : decode cX6_ring 1 = .ok (.invokevirtual 52, 3) := by decide +kernel
theorem dX6_ring_4 : decode cX6_ring 4 = .ok (.ifCond .ne 13, 3) := by decide +kernel
theorem dX6_ring_7 : decode cX6_ring 7 = .ok (.new 56, 3) := by decide +kernel
theorem dX6_ring_10 : decode cX6_ring 10 = .ok (.dup, 1) := by decide +kernel
theorem dX6_ring_11 : decode cX6_ring 11 = .ok (.ldc 58, 2) := by decide +kernel
theorem dX6_ring_13 : decode cX6_ring 13 = .ok (.invokespecial 60, 3) := by decide +kernel
theorem dX6_ring_16 : decode cX6_ring 16 = .ok (.athrow, 1) := by decide +kernel
theorem dX6_ring_17 : decode cX6_ring 17 = .ok (.aload_n 0, 1) := by decide +kernel
theorem dX6_ring_18 : decode cX6_ring 18 = .ok (.getfield 61, 3) := by decide +kernel
theorem dX6_ring_21 : decode cX6_ring 21 = .ok (.aload_n 0, 1) := by decide +kernel
theorem dX6_ring_22 : decode cX6_ring 22 = .ok (.getfield 15, 3) := by decide +kernel
theorem dX6_ring_25 : decode cX6_ring 25 = .ok (.arraylength, 1) := by decide +kernel
theorem dX6_ring_26 : decode cX6_ring 26 = .ok (.if_icmp .lt 13, 3) := by decide +kernel
theorem dX6_ring_29 : decode cX6_ring 29 = .ok (.new 47, 3) := by decide +kernel
theorem dX6_ring_32 : decode cX6_ring 32 = .ok (.dup, 1) := by decide +kernel
theorem dX6_ring_33 : decode cX6_ring 33 = .ok (.ldc 64, 2) := by decide +kernel
theorem dX6_ring_35 : decode cX6_ring 35 = .ok (.invokespecial 51, 3) := by decide +kernel
theorem dX6_ring_38 : decode cX6_ring 38 = .ok (.athrow, 1) := by decide +kernel
theorem dX6_ring_39 : decode cX6_ring 39 = .ok (.aload_n 0, 1) := by decide +kernel
theorem dX6_ring_40 : decode cX6_ring 40 = .ok (.getfield 9, 3) := by decide +kernel
theorem dX6_ring_43 : decode cX6_ring 43 = .ok (.aload_n 0, 1) := by decide +kernel
theorem dX6_ring_44 : decode cX6_ring 44 = .ok (.getfield 44, 3) := by decide +kernel
theorem dX6_ring_47 : decode cX6_ring 47 = .ok (.invokestatic 66, 3) := by decide +kernel
theorem dX6_ring_50 : decode cX6_ring 50 = .ok (.astore_n 1, 1) := by decide +kernel
theorem dX6_ring_51 : decode cX6_ring 51 = .ok (.aload_n 0, 1) := by decide +kernel
theorem dX6_ring_52 : decode cX6_ring 52 = .ok (.iconst 0, 1) := by decide +kernel
theorem dX6_ring_53 : decode cX6_ring 53 = .ok (.putfield 44, 3) := by decide +kernel
theorem dX6_ring_56 : decode cX6_ring 56 = .ok (.aload_n 0, 1) := by decide +kernel
theorem dX6_ring_57 : decode cX6_ring 57 = .ok (.aload_n 1, 1) := by decide +kernel
theorem dX6_ring_58 : decode cX6_ring 58 = .ok (.invokevirtual 72, 3) := by decide +kernel
theorem dX6_ring_61 : decode cX6_ring 61 = .ok (.ireturn, 1) := by decide +kernel
set_option maxRecDepth 20000 in
theorem ggX6_reflected_X6_isWithin : GoodIn wsX6_reflected wsX6_isWithin := goodIn_r _ [11] (by decide +kernel) (by decide +kernel)
set_option maxRecDepth 20000 in
theorem gX6_reflected_X6_isWithin : GoodIn wsX6_reflected (va_wsS RX6 33 yX6_isWithin wsX6_isWithin) := goodIn_app (goodIn_of _ (by decide +kernel)) ggX6_reflected_X6_isWithin
set_option maxRecDepth 20000 in
theorem ggX6_reflected_X6_keepCode : GoodIn wsX6_reflected wsX6_keepCode := goodIn_r _ [15, 5, 6, 16, 17, 18, 19, 20, 21, 22, 23, 24, 7, 25, 26, 27, 28, 29, 30, 31, 32, 33, 34, 35, 36, 37, 38, 39, 40, 41, 42, 43] (by decide +kernel) (by decide +kernel)
set_option maxRecDepth 20000 in
theorem gX6_reflected_X6_keepCode : GoodIn wsX6_reflected (wsV RX6 72 RX6 yX6_keepCode wsX6_keepCode) := goodIn_app (goodIn_of _ (by decide +kernel)) ggX6_reflected_X6_keepCode
theorem dX6_reflected_0 : decode cX6_reflected 0 = .ok (.iload_n 1, 1) := by decide +kernel
theorem dX6_reflected_1 : decode cX6_reflected 1 = .ok (.iconst 2, 1) := by decide +kernel
theorem dX6_reflected_2 : decode cX6_reflected 2 = .ok (.bipush 6, 2) := by decide +kernel
theorem dX6_reflected_4 : decode cX6_reflected 4 = .ok (.invokestatic 33, 3) := by decide +kernel
theorem dX6_reflected_7 : decode cX6_reflected 7 = .ok (.ifCond .ne 13, 3) := by decide +kernel
theorem dX6_reflected_10 : decode cX6_reflected 10 = .ok (.new 37, 3) := by decide +kernel
theorem dX6_reflected_13 : decode cX6_reflected 13 = .ok (.dup, 1) := by decide +kernel
theorem dX6_reflected_14 : decode cX6_reflected 14 = .ok (.ldc 76, 2) := by decide +kernel
theorem dX6_reflected_16 : decode cX6_reflected 16 = .ok (.invokespecial 41, 3) := by decide +kernel
theorem dX6_reflected_19 : decode cX6_reflected 19 = .ok (.athrow, 1) := by decide +kernel
theorem dX6_reflected_20 : decode cX6_reflected 20 = .ok (.aload_n 0, 1) := by decide +kernel
theorem dX6_reflected_21 : decode cX6_reflected 21 = .ok (.getfield 61, 3) := by decide +kernel
theorem dX6_reflected_24 : decode cX6_reflected 24 = .ok (.aload_n 0, 1) := by decide +kernel
theorem dX6_reflected_25 : decode cX6_reflected 25 = .ok (.getfield 15, 3) := by decide +kernel
theorem dX6_reflected_28 : decode cX6_reflected 28 = .ok (.arraylength, 1) := by decide +kernel
theorem dX6_reflected_29 : decode cX6_reflected 29 = .ok (.if_icmp .lt 13, 3) := by decide +kernel
theorem dX6_reflected_32 : decode cX6_reflected 32 = .ok (.new 47, 3) := by decide +kernel
theorem dX6_reflected_35 : decode cX6_reflected 35 = .ok (.dup, 1) := by decide +kernel
theorem dX6_reflected_36 : decode cX6_reflected 36 = .ok (.ldc 64, 2) := by decide +kernel
theorem dX6_reflected_38 : decode cX6_reflected 38 = .ok (.invokespecial 51, 3) := by decide +kernel
theorem dX6_reflected_41 : decode cX6_reflected 41 = .ok (.athrow, 1) := by decide +kernel
theorem dX6_reflected_42 : decode cX6_reflected 42 = .ok (.iconst 1, 1) := by decide +kernel
theorem dX6_reflected_43 : decode cX6_reflected 43 = .ok (.iload_n 1, 1) := by decide +kernel
theorem dX6_reflected_44 : decode cX6_reflected 44 = .ok (.ishl, 1) := by decide +kernel
theorem dX6_reflected_45 : decode cX6_reflected 45 = .ok (.newarray .int, 2) := by decide +kernel
theorem dX6_reflected_47 : decode cX6_reflected 47 = .ok (.astore_n 2, 1) := by decide +kernel
theorem dX6_reflected_48 : decode cX6_reflected 48 = .ok (.iconst 0, 1) := by decide +kernel
theorem dX6_reflected_49 : decode cX6_reflected 49 = .ok (.istore_n 3, 1) := by decide +kernel
theorem dX6_reflected_50 : decode cX6_reflected 50 = .ok (.iload_n 3, 1) := by decide +kernel
theorem dX6_reflected_51 : decode cX6_reflected 51 = .ok (.aload_n 2, 1) := by decide +kernel
theorem dX6_reflected_52 : decode cX6_reflected 52 = .ok (.arraylength, 1) := by decide +kernel
theorem dX6_reflected_53 : decode cX6_reflected 53 = .ok (.if_icmp .ge 17, 3) := by decide +kernel
theorem dX6_reflected_56 : decode cX6_reflected 56 = .ok (.aload_n 2, 1) := by decide +kernel
theorem dX6_reflected_57 : decode cX6_reflected 57 = .ok (.iload_n 3, 1) := by decide +kernel
theorem dX6_reflected_58 : decode cX6_reflected 58 = .ok (.iload_n 3, 1) := by decide +kernel
theorem dX6_reflected_59 : decode cX6_reflected 59 = .ok (.iload_n 3, 1) := by decide +kernel
theorem dX6_reflected_60 : decode cX6_reflected 60 = .ok (.iconst 2, 1) := by decide +kernel
theorem dX6_reflected_61 : decode cX6_reflected 61 = .ok (.idiv, 1) := by decide +kernel
theorem dX6_reflected_62 : decode cX6_reflected 62 = .ok (.ixor, 1) := by decide +kernel
theorem dX6_reflected_63 : decode cX6_reflected 63 = .ok (.iastore, 1) := by decide +kernel
theorem dX6_reflected_64 : decode cX6_reflected 64 = .ok (.iinc 3 1, 3) := by decide +kernel
theorem dX6_reflected_67 : decode cX6_reflected 67 = .ok (.goto (-17), 3) := by decide +kernel
theorem dX6_reflected_70 : decode cX6_reflected 70 = .ok (.aload_n 0, 1) := by decide +kernel
theorem dX6_reflected_71 : decode cX6_reflected 71 = .ok (.aload_n 2, 1) := by decide +kernel
theorem dX6_reflected_72 : decode cX6_reflected 72 = .ok (.invokevirtual 72, 3) := by decide +kernel
theorem dX6_reflected_75 : decode cX6_reflected 75 = .ok (.ireturn, 1) := by decide +kernel
set_option maxRecDepth 20000 in
theorem ggX6_words_X6_codeAt : GoodIn wsX6_words wsX6_codeAt := goodIn_ca (goodIn_r _ [6, 7, 8, 9, 10, 11, 12, 5, 13, 17, 18, 19, 20, 21, 22, 23, 24, 25] (by decide +kernel) (by decide +kernel)) (goodIn_sub (fun _ h => List.mem_cons_of_mem _ (List.mem_append_right _ h)) (by decide +kernel))
set_option maxRecDepth 20000 in
theorem gX6_words_X6_codeAt : GoodIn wsX6_words (wsV RX6 78 RX6 yX6_codeAt wsX6_codeAt) := goodIn_app (goodIn_of _ (by decide +kernel)) ggX6_words_X6_codeAt
theorem dX6_words_0 : decode cX6_words 0 = .ok (.aload_n 0, 1) := by decide +kernel
theorem dX6_words_1 : decode cX6_words 1 = .ok (.iload_n 1, 1) := by decide +kernel
theorem dX6_words_2 : decode cX6_words 2 = .ok (.invokevirtual 78, 3) := by decide +kernel
theorem dX6_words_5 : decode cX6_words 5 = .ok (.getfield 82, 3) := by decide +kernel
theorem dX6_words_8 : decode cX6_words 8 = .ok (.arraylength, 1) := by decide +kernel
theorem dX6_words_9 : decode cX6_words 9 = .ok (.ireturn, 1) := by decide +kernel
set_option maxRecDepth 20000 in
theorem ggX6_tracks_X6_codeAt : GoodIn wsX6_tracks wsX6_codeAt := goodIn_ca (goodIn_r _ [6, 7, 8, 9, 10, 11, 12, 5, 13, 17, 18, 19, 20, 21, 22, 23, 24, 25] (by decide +kernel) (by decide +kernel)) (goodIn_sub (fun _ h => List.mem_cons_of_mem _ (List.mem_append_right _ h)) (by decide +kernel))
set_option maxRecDepth 20000 in
theorem gX6_tracks_X6_codeAt : GoodIn wsX6_tracks (wsV RX6 78 RX6 yX6_codeAt wsX6_codeAt) := goodIn_app (goodIn_of _ (by decide +kernel)) ggX6_tracks_X6_codeAt
theorem dX6_tracks_0 : decode cX6_tracks 0 = .ok (.aload_n 0, 1) := by decide +kernel
theorem dX6_tracks_1 : decode cX6_tracks 1 = .ok (.iload_n 1, 1) := by decide +kernel
theorem dX6_tracks_2 : decode cX6_tracks 2 = .ok (.invokevirtual 78, 3) := by decide +kernel
theorem dX6_tracks_5 : decode cX6_tracks 5 = .ok (.getfield 85, 3) := by decide +kernel
theorem dX6_tracks_8 : decode cX6_tracks 8 = .ok (.ireturn, 1) := by decide +kernel
set_option maxRecDepth 20000 in
theorem ggX6_word_X6_codeAt : GoodIn wsX6_word wsX6_codeAt := goodIn_ca (goodIn_r _ [7, 8, 9, 10, 11, 12, 13, 6, 14, 26, 27, 28, 29, 30, 31, 32, 33, 34] (by decide +kernel) (by decide +kernel)) (goodIn_sub (fun _ h => List.mem_cons_of_mem _ (List.mem_append_right _ h)) (by decide +kernel))
set_option maxRecDepth 20000 in
theorem gX6_word_X6_codeAt : GoodIn wsX6_word (wsV RX6 78 RX6 yX6_codeAt wsX6_codeAt) := goodIn_app (goodIn_of _ (by decide +kernel)) ggX6_word_X6_codeAt
set_option maxRecDepth 20000 in
theorem ggX6_word_X0_hasPlace : GoodIn wsX6_word wsX0_hasPlace := goodIn_r _ [19, 20, 35, 36, 37] (by decide +kernel) (by decide +kernel)
set_option maxRecDepth 20000 in
theorem gX6_word_X0_hasPlace : GoodIn wsX6_word (wsV RX6 88 RX0 yX0_hasPlace wsX0_hasPlace) := goodIn_app (goodIn_of _ (by decide +kernel)) ggX6_word_X0_hasPlace
set_option maxRecDepth 20000 in
theorem ggX6_word_X0_wordAt : GoodIn wsX6_word wsX0_wordAt := goodIn_r _ [24, 20, 25, 16, 17, 18, 19, 35, 36, 37] (by decide +kernel) (by decide +kernel)
set_option maxRecDepth 20000 in
theorem gX6_word_X0_wordAt : GoodIn wsX6_word (wsV RX6 94 RX0 yX0_wordAt wsX0_wordAt) := goodIn_app (goodIn_of _ (by decide +kernel)) ggX6_word_X0_wordAt
theorem dX6_word_0 : decode cX6_word 0 = .ok (.aload_n 0, 1) := by decide +kernel
theorem dX6_word_1 : decode cX6_word 1 = .ok (.iload_n 1, 1) := by decide +kernel
theorem dX6_word_2 : decode cX6_word 2 = .ok (.invokevirtual 78, 3) := by decide +kernel
theorem dX6_word_5 : decode cX6_word 5 = .ok (.astore_n 3, 1) := by decide +kernel
theorem dX6_word_6 : decode cX6_word 6 = .ok (.aload_n 3, 1) := by decide +kernel
theorem dX6_word_7 : decode cX6_word 7 = .ok (.iload_n 2, 1) := by decide +kernel
theorem dX6_word_8 : decode cX6_word 8 = .ok (.invokevirtual 88, 3) := by decide +kernel
theorem dX6_word_11 : decode cX6_word 11 = .ok (.ifCond .ne 13, 3) := by decide +kernel
theorem dX6_word_14 : decode cX6_word 14 = .ok (.new 37, 3) := by decide +kernel
theorem dX6_word_17 : decode cX6_word 17 = .ok (.dup, 1) := by decide +kernel
theorem dX6_word_18 : decode cX6_word 18 = .ok (.ldc 92, 2) := by decide +kernel
theorem dX6_word_20 : decode cX6_word 20 = .ok (.invokespecial 41, 3) := by decide +kernel
theorem dX6_word_23 : decode cX6_word 23 = .ok (.athrow, 1) := by decide +kernel
theorem dX6_word_24 : decode cX6_word 24 = .ok (.aload_n 3, 1) := by decide +kernel
theorem dX6_word_25 : decode cX6_word 25 = .ok (.iload_n 2, 1) := by decide +kernel
theorem dX6_word_26 : decode cX6_word 26 = .ok (.invokevirtual 94, 3) := by decide +kernel
theorem dX6_word_29 : decode cX6_word 29 = .ok (.ireturn, 1) := by decide +kernel
set_option maxRecDepth 20000 in
theorem ggX6_place_X6_codeAt : GoodIn wsX6_place wsX6_codeAt := goodIn_ca (goodIn_r _ [9, 10, 11, 12, 13, 14, 15, 8, 16, 23, 24, 25, 26, 27, 28, 29, 30, 31] (by decide +kernel) (by decide +kernel)) (goodIn_sub (fun _ h => List.mem_cons_of_mem _ (List.mem_append_right _ h)) (by decide +kernel))
set_option maxRecDepth 20000 in
theorem gX6_place_X6_codeAt : GoodIn wsX6_place (wsV RX6 78 RX6 yX6_codeAt wsX6_codeAt) := goodIn_app (goodIn_of _ (by decide +kernel)) ggX6_place_X6_codeAt
set_option maxRecDepth 20000 in
theorem ggX6_place_X6_isWithin : GoodIn wsX6_place wsX6_isWithin := goodIn_r _ [16] (by decide +kernel) (by decide +kernel)
set_option maxRecDepth 20000 in
theorem gX6_place_X6_isWithin : GoodIn wsX6_place (va_wsS RX6 33 yX6_isWithin wsX6_isWithin) := goodIn_app (goodIn_of _ (by decide +kernel)) ggX6_place_X6_isWithin
set_option maxRecDepth 20000 in
theorem ggX6_place_X0_placeOf : GoodIn wsX6_place wsX0_placeOf := goodIn_r _ [21, 22, 32, 33, 34] (by decide +kernel) (by decide +kernel)
set_option maxRecDepth 20000 in
theorem gX6_place_X0_placeOf : GoodIn wsX6_place (wsV RX6 98 RX0 yX0_placeOf wsX0_placeOf) := goodIn_app (goodIn_of _ (by decide +kernel)) ggX6_place_X0_placeOf
theorem dX6_place_0 : decode cX6_place 0 = .ok (.aload_n 0, 1) := by decide +kernel
theorem dX6_place_1 : decode cX6_place 1 = .ok (.iload_n 1, 1) := by decide +kernel
theorem dX6_place_2 : decode cX6_place 2 = .ok (.invokevirtual 78, 3) := by decide +kernel
theorem dX6_place_5 : decode cX6_place 5 = .ok (.astore_n 3, 1) := by decide +kernel
theorem dX6_place_6 : decode cX6_place 6 = .ok (.iload_n 2, 1) := by decide +kernel
theorem dX6_place_7 : decode cX6_place 7 = .ok (.iconst 0, 1) := by decide +kernel
theorem dX6_place_8 : decode cX6_place 8 = .ok (.sipush 255, 3) := by decide +kernel
theorem dX6_place_11 : decode cX6_place 11 = .ok (.invokestatic 33, 3) := by decide +kernel
theorem dX6_place_14 : decode cX6_place 14 = .ok (.ifCond .ne 13, 3) := by decide +kernel
theorem dX6_place_17 : decode cX6_place 17 = .ok (.new 37, 3) := by decide +kernel
theorem dX6_place_20 : decode cX6_place 20 = .ok (.dup, 1) := by decide +kernel
theorem dX6_place_21 : decode cX6_place 21 = .ok (.ldc 39, 2) := by decide +kernel
theorem dX6_place_23 : decode cX6_place 23 = .ok (.invokespecial 41, 3) := by decide +kernel
theorem dX6_place_26 : decode cX6_place 26 = .ok (.athrow, 1) := by decide +kernel
theorem dX6_place_27 : decode cX6_place 27 = .ok (.aload_n 3, 1) := by decide +kernel
theorem dX6_place_28 : decode cX6_place 28 = .ok (.iload_n 2, 1) := by decide +kernel
theorem dX6_place_29 : decode cX6_place 29 = .ok (.invokevirtual 98, 3) := by decide +kernel
theorem dX6_place_32 : decode cX6_place 32 = .ok (.istore 4, 2) := by decide +kernel
theorem dX6_place_34 : decode cX6_place 34 = .ok (.iload 4, 2) := by decide +kernel
theorem dX6_place_36 : decode cX6_place 36 = .ok (.iconst (-1), 1) := by decide +kernel
theorem dX6_place_37 : decode cX6_place 37 = .ok (.if_icmp .ne 13, 3) := by decide +kernel
theorem dX6_place_40 : decode cX6_place 40 = .ok (.new 101, 3) := by decide +kernel
theorem dX6_place_43 : decode cX6_place 43 = .ok (.dup, 1) := by decide +kernel
theorem dX6_place_44 : decode cX6_place 44 = .ok (.ldc 103, 2) := by decide +kernel
theorem dX6_place_46 : decode cX6_place 46 = .ok (.invokespecial 105, 3) := by decide +kernel
theorem dX6_place_49 : decode cX6_place 49 = .ok (.athrow, 1) := by decide +kernel
theorem dX6_place_50 : decode cX6_place 50 = .ok (.iload 4, 2) := by decide +kernel
theorem dX6_place_52 : decode cX6_place 52 = .ok (.ireturn, 1) := by decide +kernel
set_option maxRecDepth 20000 in
theorem ggX6_changes_X6_codeAt : GoodIn wsX6_changes wsX6_codeAt := goodIn_ca (goodIn_r _ [7, 8, 9, 10, 11, 12, 13, 6, 14, 40, 41, 42, 43, 44, 45, 46, 47, 48] (by decide +kernel) (by decide +kernel)) (goodIn_sub (fun _ h => List.mem_cons_of_mem _ (List.mem_append_right _ h)) (by decide +kernel))
set_option maxRecDepth 20000 in
theorem gX6_changes_X6_codeAt : GoodIn wsX6_changes (wsV RX6 78 RX6 yX6_codeAt wsX6_codeAt) := goodIn_app (goodIn_of _ (by decide +kernel)) ggX6_changes_X6_codeAt
set_option maxRecDepth 20000 in
theorem ggX6_changes_X0_hasTrack : GoodIn wsX6_changes wsX0_hasTrack := goodIn_r _ [19, 20, 49, 50, 51] (by decide +kernel) (by decide +kernel)
set_option maxRecDepth 20000 in
theorem gX6_changes_X0_hasTrack : GoodIn wsX6_changes (wsV RX6 106 RX0 yX0_hasTrack wsX0_hasTrack) := goodIn_app (goodIn_of _ (by decide +kernel)) ggX6_changes_X0_hasTrack
set_option maxRecDepth 20000 in
theorem ggX6_changes_X0_changesOf : GoodIn wsX6_changes wsX0_changesOf := goodIn_r _ [24, 25, 26, 6, 27, 28, 29, 30, 18, 31, 32, 33, 34, 35, 36, 37, 38, 39, 49, 50, 51] (by decide +kernel) (by decide +kernel)
set_option maxRecDepth 20000 in
theorem gX6_changes_X0_changesOf : GoodIn wsX6_changes (wsV RX6 111 RX0 yX0_changesOf wsX0_changesOf) := goodIn_app (goodIn_of _ (by decide +kernel)) ggX6_changes_X0_changesOf
theorem dX6_changes_0 : decode cX6_changes 0 = .ok (.aload_n 0, 1) := by decide +kernel
theorem dX6_changes_1 : decode cX6_changes 1 = .ok (.iload_n 1, 1) := by decide +kernel
theorem dX6_changes_2 : decode cX6_changes 2 = .ok (.invokevirtual 78, 3) := by decide +kernel
theorem dX6_changes_5 : decode cX6_changes 5 = .ok (.astore_n 3, 1) := by decide +kernel
theorem dX6_changes_6 : decode cX6_changes 6 = .ok (.aload_n 3, 1) := by decide +kernel
theorem dX6_changes_7 : decode cX6_changes 7 = .ok (.iload_n 2, 1) := by decide +kernel
theorem dX6_changes_8 : decode cX6_changes 8 = .ok (.invokevirtual 106, 3) := by decide +kernel
theorem dX6_changes_11 : decode cX6_changes 11 = .ok (.ifCond .ne 13, 3) := by decide +kernel
theorem dX6_changes_14 : decode cX6_changes 14 = .ok (.new 37, 3) := by decide +kernel
theorem dX6_changes_17 : decode cX6_changes 17 = .ok (.dup, 1) := by decide +kernel
theorem dX6_changes_18 : decode cX6_changes 18 = .ok (.ldc 109, 2) := by decide +kernel
theorem dX6_changes_20 : decode cX6_changes 20 = .ok (.invokespecial 41, 3) := by decide +kernel
theorem dX6_changes_23 : decode cX6_changes 23 = .ok (.athrow, 1) := by decide +kernel
theorem dX6_changes_24 : decode cX6_changes 24 = .ok (.aload_n 3, 1) := by decide +kernel
theorem dX6_changes_25 : decode cX6_changes 25 = .ok (.iload_n 2, 1) := by decide +kernel
theorem dX6_changes_26 : decode cX6_changes 26 = .ok (.invokevirtual 111, 3) := by decide +kernel
theorem dX6_changes_29 : decode cX6_changes 29 = .ok (.ireturn, 1) := by decide +kernel
set_option maxRecDepth 20000 in
theorem ggX6_isBalanced_X6_codeAt : GoodIn wsX6_isBalanced wsX6_codeAt := goodIn_ca (goodIn_r _ [5, 6, 7, 8, 9, 10, 11, 4, 12, 45, 46, 47, 48, 49, 50, 51, 52, 53] (by decide +kernel) (by decide +kernel)) (goodIn_sub (fun _ h => List.mem_cons_of_mem _ (List.mem_append_right _ h)) (by decide +kernel))
set_option maxRecDepth 20000 in
theorem gX6_isBalanced_X6_codeAt : GoodIn wsX6_isBalanced (wsV RX6 78 RX6 yX6_codeAt wsX6_codeAt) := goodIn_app (goodIn_of _ (by decide +kernel)) ggX6_isBalanced_X6_codeAt
set_option maxRecDepth 20000 in
theorem ggX6_isBalanced_X0_changesEvenly : GoodIn wsX6_isBalanced wsX0_changesEvenly := goodIn_r _ [17, 18, 19, 20, 21, 22, 23, 24, 25, 26, 27, 28, 29, 16, 30, 31, 4, 32, 33, 34, 35, 36, 37, 38, 39, 40, 41, 42, 43, 44, 54, 55, 56] (by decide +kernel) (by decide +kernel)
set_option maxRecDepth 20000 in
theorem gX6_isBalanced_X0_changesEvenly : GoodIn wsX6_isBalanced (wsV RX6 114 RX0 yX0_changesEvenly wsX0_changesEvenly) := goodIn_app (goodIn_of _ (by decide +kernel)) ggX6_isBalanced_X0_changesEvenly
theorem dX6_isBalanced_0 : decode cX6_isBalanced 0 = .ok (.aload_n 0, 1) := by decide +kernel
theorem dX6_isBalanced_1 : decode cX6_isBalanced 1 = .ok (.iload_n 1, 1) := by decide +kernel
theorem dX6_isBalanced_2 : decode cX6_isBalanced 2 = .ok (.invokevirtual 78, 3) := by decide +kernel
theorem dX6_isBalanced_5 : decode cX6_isBalanced 5 = .ok (.invokevirtual 114, 3) := by decide +kernel
theorem dX6_isBalanced_8 : decode cX6_isBalanced 8 = .ok (.ireturn, 1) := by decide +kernel
set_option maxRecDepth 20000 in
theorem ggX6_isOneTrack_X6_codeAt : GoodIn wsX6_isOneTrack wsX6_codeAt := goodIn_ca (goodIn_r _ [5, 6, 7, 8, 9, 10, 11, 4, 12, 42, 43, 44, 45, 46, 47, 48, 49, 50] (by decide +kernel) (by decide +kernel)) (goodIn_sub (fun _ h => List.mem_cons_of_mem _ (List.mem_append_right _ h)) (by decide +kernel))
set_option maxRecDepth 20000 in
theorem gX6_isOneTrack_X6_codeAt : GoodIn wsX6_isOneTrack (wsV RX6 78 RX6 yX6_codeAt wsX6_codeAt) := goodIn_app (goodIn_of _ (by decide +kernel)) ggX6_isOneTrack_X6_codeAt
set_option maxRecDepth 20000 in
theorem ggX6_isOneTrack_X0_repeatsFirstTrack : GoodIn wsX6_isOneTrack wsX0_repeatsFirstTrack := goodIn_r _ [17, 18, 19, 20, 21, 16, 22, 23, 24, 25, 26, 27, 28, 29, 30, 31, 32, 33, 34, 35, 36, 37, 38, 39, 40, 4, 41, 51, 52, 53] (by decide +kernel) (by decide +kernel)
set_option maxRecDepth 20000 in
theorem gX6_isOneTrack_X0_repeatsFirstTrack : GoodIn wsX6_isOneTrack (wsV RX6 117 RX0 yX0_repeatsFirstTrack wsX0_repeatsFirstTrack) := goodIn_app (goodIn_of _ (by decide +kernel)) ggX6_isOneTrack_X0_repeatsFirstTrack
theorem dX6_isOneTrack_0 : decode cX6_isOneTrack 0 = .ok (.aload_n 0, 1) := by decide +kernel
theorem dX6_isOneTrack_1 : decode cX6_isOneTrack 1 = .ok (.iload_n 1, 1) := by decide +kernel
theorem dX6_isOneTrack_2 : decode cX6_isOneTrack 2 = .ok (.invokevirtual 78, 3) := by decide +kernel
theorem dX6_isOneTrack_5 : decode cX6_isOneTrack 5 = .ok (.invokevirtual 117, 3) := by decide +kernel
theorem dX6_isOneTrack_8 : decode cX6_isOneTrack 8 = .ok (.ireturn, 1) := by decide +kernel
set_option maxRecDepth 20000 in
theorem ggX6_setDisc_X6_codeAt : GoodIn wsX6_setDisc wsX6_codeAt := goodIn_ca (goodIn_r _ [13, 14, 15, 16, 17, 18, 19, 12, 20, 83, 84, 85, 86, 87, 88, 89, 90, 91] (by decide +kernel) (by decide +kernel)) (goodIn_sub (fun _ h => List.mem_cons_of_mem _ (List.mem_append_right _ h)) (by decide +kernel))
set_option maxRecDepth 20000 in
theorem gX6_setDisc_X6_codeAt : GoodIn wsX6_setDisc (wsV RX6 78 RX6 yX6_codeAt wsX6_codeAt) := goodIn_app (goodIn_of _ (by decide +kernel)) ggX6_setDisc_X6_codeAt
set_option maxRecDepth 20000 in
theorem ggX6_setDisc_X6_isWithin : GoodIn wsX6_setDisc wsX6_isWithin := goodIn_r _ [20] (by decide +kernel) (by decide +kernel)
set_option maxRecDepth 20000 in
theorem gX6_setDisc_X6_isWithin : GoodIn wsX6_setDisc (va_wsS RX6 33 yX6_isWithin wsX6_isWithin) := goodIn_app (goodIn_of _ (by decide +kernel)) ggX6_setDisc_X6_isWithin
set_option maxRecDepth 20000 in
theorem ggX6_setDisc_X1_init : GoodIn wsX6_setDisc wsX1_init := goodIn_r _ [23, 24, 25, 26, 27, 28, 29, 30, 31, 32, 33, 34, 35, 36, 37, 38, 39, 40, 41, 42, 43, 44, 45, 46, 47, 48, 49, 50, 51, 52, 53, 54, 55, 56, 57, 58, 59, 60, 61, 62, 63, 64, 65, 66, 67, 92, 93, 94, 95, 96, 75, 76, 77, 78, 79, 80, 81, 82, 97, 98, 99, 100, 101, 102, 103, 104, 105, 106, 107, 108, 109, 110, 111] (by decide +kernel) (by decide +kernel)
set_option maxRecDepth 20000 in
theorem gX6_setDisc_X1_init : GoodIn wsX6_setDisc (wsX1_init) := ggX6_setDisc_X1_init
set_option maxRecDepth 20000 in
theorem ggX6_setDisc_X2_clear : GoodIn wsX6_setDisc wsX2_clear := goodIn_r _ [72, 73, 74, 112, 113, 114, 115, 116, 117, 118] (by decide +kernel) (by decide +kernel)
set_option maxRecDepth 20000 in
theorem gX6_setDisc_X2_clear : GoodIn wsX6_setDisc (wsV RX6 131 RX2 yX2_clear wsX2_clear) := goodIn_app (goodIn_of _ (by decide +kernel)) ggX6_setDisc_X2_clear
theorem dX6_setDisc_0 : decode cX6_setDisc 0 = .ok (.aload_n 0, 1) := by decide +kernel
theorem dX6_setDisc_1 : decode cX6_setDisc 1 = .ok (.iload_n 1, 1) := by decide +kernel
theorem dX6_setDisc_2 : decode cX6_setDisc 2 = .ok (.invokevirtual 78, 3) := by decide +kernel
theorem dX6_setDisc_5 : decode cX6_setDisc 5 = .ok (.astore_n 3, 1) := by decide +kernel
theorem dX6_setDisc_6 : decode cX6_setDisc 6 = .ok (.iload_n 2, 1) := by decide +kernel
theorem dX6_setDisc_7 : decode cX6_setDisc 7 = .ok (.iconst 0, 1) := by decide +kernel
theorem dX6_setDisc_8 : decode cX6_setDisc 8 = .ok (.bipush 40, 2) := by decide +kernel
theorem dX6_setDisc_10 : decode cX6_setDisc 10 = .ok (.invokestatic 33, 3) := by decide +kernel
theorem dX6_setDisc_13 : decode cX6_setDisc 13 = .ok (.ifCond .ne 13, 3) := by decide +kernel
theorem dX6_setDisc_16 : decode cX6_setDisc 16 = .ok (.new 37, 3) := by decide +kernel
theorem dX6_setDisc_19 : decode cX6_setDisc 19 = .ok (.dup, 1) := by decide +kernel
theorem dX6_setDisc_20 : decode cX6_setDisc 20 = .ok (.ldc 120, 2) := by decide +kernel
theorem dX6_setDisc_22 : decode cX6_setDisc 22 = .ok (.invokespecial 41, 3) := by decide +kernel
theorem dX6_setDisc_25 : decode cX6_setDisc 25 = .ok (.athrow, 1) := by decide +kernel
theorem dX6_setDisc_26 : decode cX6_setDisc 26 = .ok (.aload_n 0, 1) := by decide +kernel
theorem dX6_setDisc_27 : decode cX6_setDisc 27 = .ok (.new 122, 3) := by decide +kernel
theorem dX6_setDisc_30 : decode cX6_setDisc 30 = .ok (.dup, 1) := by decide +kernel
theorem dX6_setDisc_31 : decode cX6_setDisc 31 = .ok (.aload_n 3, 1) := by decide +kernel
theorem dX6_setDisc_32 : decode cX6_setDisc 32 = .ok (.iload_n 2, 1) := by decide +kernel
theorem dX6_setDisc_33 : decode cX6_setDisc 33 = .ok (.invokespecial 124, 3) := by decide +kernel
theorem dX6_setDisc_36 : decode cX6_setDisc 36 = .ok (.putfield 127, 3) := by decide +kernel
theorem dX6_setDisc_39 : decode cX6_setDisc 39 = .ok (.aload_n 0, 1) := by decide +kernel
theorem dX6_setDisc_40 : decode cX6_setDisc 40 = .ok (.getfield 29, 3) := by decide +kernel
theorem dX6_setDisc_43 : decode cX6_setDisc 43 = .ok (.invokevirtual 131, 3) := by decide +kernel
theorem dX6_setDisc_46 : decode cX6_setDisc 46 = .ok (.aload_n 0, 1) := by decide +kernel
theorem dX6_setDisc_47 : decode cX6_setDisc 47 = .ok (.getfield 127, 3) := by decide +kernel
theorem dX6_setDisc_50 : decode cX6_setDisc 50 = .ok (.getfield 134, 3) := by decide +kernel
theorem dX6_setDisc_53 : decode cX6_setDisc 53 = .ok (.ireturn, 1) := by decide +kernel
set_option maxRecDepth 20000 in
theorem ggX6_angle_X6_theDisc : GoodIn wsX6_angle wsX6_theDisc := goodIn_ca (goodIn_r _ [6, 7, 8, 9, 18, 19, 20, 21, 22, 23, 24, 25, 26] (by decide +kernel) (by decide +kernel)) (goodIn_sub (fun _ h => List.mem_cons_of_mem _ (List.mem_append_right _ h)) (by decide +kernel))
set_option maxRecDepth 20000 in
theorem gX6_angle_X6_theDisc : GoodIn wsX6_angle (wsV RX6 137 RX6 yX6_theDisc wsX6_theDisc) := goodIn_app (goodIn_of _ (by decide +kernel)) ggX6_angle_X6_theDisc
theorem dX6_angle_0 : decode cX6_angle 0 = .ok (.aload_n 0, 1) := by decide +kernel
theorem dX6_angle_1 : decode cX6_angle 1 = .ok (.invokevirtual 137, 3) := by decide +kernel
theorem dX6_angle_4 : decode cX6_angle 4 = .ok (.getfield 141, 3) := by decide +kernel
theorem dX6_angle_7 : decode cX6_angle 7 = .ok (.ireturn, 1) := by decide +kernel
set_option maxRecDepth 20000 in
theorem ggX6_turn_X6_theDisc : GoodIn wsX6_turn wsX6_theDisc := goodIn_ca (goodIn_r _ [15, 16, 17, 18, 139, 140, 141, 142, 143, 144, 145, 146, 147] (by decide +kernel) (by decide +kernel)) (goodIn_sub (fun _ h => List.mem_cons_of_mem _ (List.mem_append_right _ h)) (by decide +kernel))
set_option maxRecDepth 20000 in
theorem gX6_turn_X6_theDisc : GoodIn wsX6_turn (wsV RX6 137 RX6 yX6_theDisc wsX6_theDisc) := goodIn_app (goodIn_of _ (by decide +kernel)) ggX6_turn_X6_theDisc
set_option maxRecDepth 20000 in
theorem ggX6_turn_X6_isWithin : GoodIn wsX6_turn wsX6_isWithin := goodIn_r _ [21] (by decide +kernel) (by decide +kernel)
set_option maxRecDepth 20000 in
theorem gX6_turn_X6_isWithin : GoodIn wsX6_turn (va_wsS RX6 33 yX6_isWithin wsX6_isWithin) := goodIn_app (goodIn_of _ (by decide +kernel)) ggX6_turn_X6_isWithin
set_option maxRecDepth 20000 in
theorem ggX6_turn_X1_advance : GoodIn wsX6_turn wsX1_advance := goodIn_r _ [26, 27, 28, 29, 30, 31, 14, 32, 33, 34, 35, 36, 37, 38, 39, 40, 41, 42, 126, 127, 128, 129, 130, 131, 132, 133, 148, 149, 150, 151, 152, 153, 154, 155, 156, 157, 158, 159] (by decide +kernel) (by decide +kernel)
set_option maxRecDepth 20000 in
theorem gX6_turn_X1_advance : GoodIn wsX6_turn (wsV RX6 192 RX1 yX1_advance wsX1_advance) := goodIn_app (goodIn_of _ (by decide +kernel)) ggX6_turn_X1_advance
set_option maxRecDepth 20000 in
theorem ggX6_turn_X5_readAt : GoodIn wsX6_turn wsX5_readAt := goodIn_r _ [47, 48, 49, 50, 51, 52, 36, 53, 41, 54, 55, 56, 57, 58, 38, 39, 59, 60, 61, 62, 14, 63, 19, 20, 21, 64, 65, 66, 67, 68, 69, 70, 71, 72, 31, 32, 73, 74, 75, 76, 77, 78, 79, 80, 81, 82, 83, 84, 85, 86, 87, 88, 89, 90, 91, 92, 93, 94, 46, 95, 96, 97, 98, 99, 100, 101, 102, 103, 104, 105, 106, 107, 108, 109, 110, 111, 112, 113, 114, 115, 116, 117, 118, 119, 120, 121, 122, 123, 124, 125, 148, 149, 150, 151, 152, 153, 154, 155, 156, 134, 135, 136, 137, 138, 157, 158, 159] (by decide +kernel) (by decide +kernel)
set_option maxRecDepth 20000 in
theorem gX6_turn_X5_readAt : GoodIn wsX6_turn (wsV RX6 210 RX5 yX5_readAt wsX5_readAt) := goodIn_app (goodIn_of _ (by decide +kernel)) ggX6_turn_X5_readAt
theorem dX6_turn_0 : decode cX6_turn 0 = .ok (.aload_n 0, 1) := by decide +kernel
theorem dX6_turn_1 : decode cX6_turn 1 = .ok (.invokevirtual 137, 3) := by decide +kernel
theorem dX6_turn_4 : decode cX6_turn 4 = .ok (.astore_n 2, 1) := by decide +kernel
theorem dX6_turn_5 : decode cX6_turn 5 = .ok (.iload_n 1, 1) := by decide +kernel
theorem dX6_turn_6 : decode cX6_turn 6 = .ok (.sipush (-500), 3) := by decide +kernel
theorem dX6_turn_9 : decode cX6_turn 9 = .ok (.sipush 500, 3) := by decide +kernel
theorem dX6_turn_12 : decode cX6_turn 12 = .ok (.invokestatic 33, 3) := by decide +kernel
theorem dX6_turn_15 : decode cX6_turn 15 = .ok (.ifCond .ne 13, 3) := by decide +kernel
theorem dX6_turn_18 : decode cX6_turn 18 = .ok (.new 37, 3) := by decide +kernel
theorem dX6_turn_21 : decode cX6_turn 21 = .ok (.dup, 1) := by decide +kernel
theorem dX6_turn_22 : decode cX6_turn 22 = .ok (.ldc 190, 2) := by decide +kernel
theorem dX6_turn_24 : decode cX6_turn 24 = .ok (.invokespecial 41, 3) := by decide +kernel
theorem dX6_turn_27 : decode cX6_turn 27 = .ok (.athrow, 1) := by decide +kernel
theorem dX6_turn_28 : decode cX6_turn 28 = .ok (.aload_n 2, 1) := by decide +kernel
theorem dX6_turn_29 : decode cX6_turn 29 = .ok (.iload_n 1, 1) := by decide +kernel
theorem dX6_turn_30 : decode cX6_turn 30 = .ok (.invokevirtual 192, 3) := by decide +kernel
theorem dX6_turn_33 : decode cX6_turn 33 = .ok (.aload_n 2, 1) := by decide +kernel
theorem dX6_turn_34 : decode cX6_turn 34 = .ok (.getfield 196, 3) := by decide +kernel
theorem dX6_turn_37 : decode cX6_turn 37 = .ok (.astore_n 3, 1) := by decide +kernel
theorem dX6_turn_38 : decode cX6_turn 38 = .ok (.aload_n 2, 1) := by decide +kernel
theorem dX6_turn_39 : decode cX6_turn 39 = .ok (.getfield 200, 3) := by decide +kernel
theorem dX6_turn_42 : decode cX6_turn 42 = .ok (.ifCond .eq 51, 3) := by decide +kernel
theorem dX6_turn_45 : decode cX6_turn 45 = .ok (.aload_n 3, 1) := by decide +kernel
theorem dX6_turn_46 : decode cX6_turn 46 = .ok (.getfield 204, 3) := by decide +kernel
theorem dX6_turn_49 : decode cX6_turn 49 = .ok (.bipush 115, 2) := by decide +kernel
theorem dX6_turn_51 : decode cX6_turn 51 = .ok (.if_icmp .eq 42, 3) := by decide +kernel
theorem dX6_turn_54 : decode cX6_turn 54 = .ok (.aload_n 3, 1) := by decide +kernel
theorem dX6_turn_55 : decode cX6_turn 55 = .ok (.aload_n 2, 1) := by decide +kernel
theorem dX6_turn_56 : decode cX6_turn 56 = .ok (.getfield 147, 3) := by decide +kernel
theorem dX6_turn_59 : decode cX6_turn 59 = .ok (.aload_n 2, 1) := by decide +kernel
theorem dX6_turn_60 : decode cX6_turn 60 = .ok (.getfield 141, 3) := by decide +kernel
theorem dX6_turn_63 : decode cX6_turn 63 = .ok (.aload_n 0, 1) := by decide +kernel
theorem dX6_turn_64 : decode cX6_turn 64 = .ok (.getfield 19, 3) := by decide +kernel
theorem dX6_turn_67 : decode cX6_turn 67 = .ok (.aload_n 0, 1) := by decide +kernel
theorem dX6_turn_68 : decode cX6_turn 68 = .ok (.getfield 23, 3) := by decide +kernel
theorem dX6_turn_71 : decode cX6_turn 71 = .ok (.invokevirtual 210, 3) := by decide +kernel
theorem dX6_turn_74 : decode cX6_turn 74 = .ok (.aload_n 3, 1) := by decide +kernel
theorem dX6_turn_75 : decode cX6_turn 75 = .ok (.getfield 204, 3) := by decide +kernel
theorem dX6_turn_78 : decode cX6_turn 78 = .ok (.bipush 115, 2) := by decide +kernel
theorem dX6_turn_80 : decode cX6_turn 80 = .ok (.if_icmp .ne 13, 3) := by decide +kernel
theorem dX6_turn_83 : decode cX6_turn 83 = .ok (.aload_n 0, 1) := by decide +kernel
theorem dX6_turn_84 : decode cX6_turn 84 = .ok (.dup, 1) := by decide +kernel
theorem dX6_turn_85 : decode cX6_turn 85 = .ok (.getfield 214, 3) := by decide +kernel
theorem dX6_turn_88 : decode cX6_turn 88 = .ok (.iconst 1, 1) := by decide +kernel
theorem dX6_turn_89 : decode cX6_turn 89 = .ok (.iadd, 1) := by decide +kernel
theorem dX6_turn_90 : decode cX6_turn 90 = .ok (.putfield 214, 3) := by decide +kernel
theorem dX6_turn_93 : decode cX6_turn 93 = .ok (.aload_n 2, 1) := by decide +kernel
theorem dX6_turn_94 : decode cX6_turn 94 = .ok (.getfield 141, 3) := by decide +kernel
theorem dX6_turn_97 : decode cX6_turn 97 = .ok (.ireturn, 1) := by decide +kernel
set_option maxRecDepth 20000 in
theorem ggX6_isSound_X6_isRing : GoodIn wsX6_isSound wsX6_isRing := goodIn_r _ [18, 19, 20, 21, 22, 23, 24, 25] (by decide +kernel) (by decide +kernel)
set_option maxRecDepth 20000 in
theorem gX6_isSound_X6_isRing : GoodIn wsX6_isSound (va_wsS RX6 360 yX6_isRing wsX6_isRing) := goodIn_app (goodIn_of _ (by decide +kernel)) ggX6_isSound_X6_isRing
set_option maxRecDepth 20000 in
theorem ggX6_isSound_X4_init : GoodIn wsX6_isSound wsX4_init := goodIn_r _ [28, 29, 30, 31, 32, 33, 34, 35, 36, 37, 38, 39, 40, 41, 128, 129, 130, 131, 132, 133, 134, 135, 136, 125, 126, 127] (by decide +kernel) (by decide +kernel)
set_option maxRecDepth 20000 in
theorem gX6_isSound_X4_init : GoodIn wsX6_isSound (wsX4_init) := ggX6_isSound_X4_init
set_option maxRecDepth 20000 in
theorem ggX6_isSound_X6_isWithin : GoodIn wsX6_isSound wsX6_isWithin := goodIn_r _ [44] (by decide +kernel) (by decide +kernel)
set_option maxRecDepth 20000 in
theorem gX6_isSound_X6_isWithin : GoodIn wsX6_isSound (va_wsS RX6 33 yX6_isWithin wsX6_isWithin) := goodIn_app (goodIn_of _ (by decide +kernel)) ggX6_isSound_X6_isWithin
set_option maxRecDepth 20000 in
theorem ggX6_isSound_X3_areInOrder : GoodIn wsX6_isSound wsX3_areInOrder := goodIn_r _ [49, 50, 51, 52, 53, 54, 48, 55, 56, 57, 58, 59, 60, 43, 17, 44, 61, 62, 150, 151, 152] (by decide +kernel) (by decide +kernel)
set_option maxRecDepth 20000 in
theorem gX6_isSound_X3_areInOrder : GoodIn wsX6_isSound (wsV RX6 364 RX3 yX3_areInOrder wsX3_areInOrder) := goodIn_app (goodIn_of _ (by decide +kernel)) ggX6_isSound_X3_areInOrder
set_option maxRecDepth 20000 in
theorem ggX6_isSound_X4_tellMiddles : GoodIn wsX6_isSound wsX4_tellMiddles := goodIn_r _ [66, 38, 40, 67, 68, 69, 7, 70, 71, 72, 73, 74, 75, 76, 77, 78, 41, 79, 80, 81, 82, 83, 33, 34, 36, 37, 84, 17, 85, 42, 43, 44, 86, 87, 88, 89, 90, 91, 92, 93, 39, 61, 62, 94, 95, 96, 97, 98, 99, 100, 101, 102, 103, 104, 105, 106, 107, 108, 109, 110, 111, 112, 113, 114, 115, 128, 129, 130, 131, 132, 133, 134, 135, 136, 125, 126, 127] (by decide +kernel) (by decide +kernel)
set_option maxRecDepth 20000 in
theorem gX6_isSound_X4_tellMiddles : GoodIn wsX6_isSound (wsV RX6 367 RX4 yX4_tellMiddles wsX4_tellMiddles) := goodIn_app (goodIn_of _ (by decide +kernel)) ggX6_isSound_X4_tellMiddles
theorem dX6_isSound_0 : decode cX6_isSound 0 = .ok (.iconst 0, 1) := by decide +kernel
theorem dX6_isSound_1 : decode cX6_isSound 1 = .ok (.istore_n 1, 1) := by decide +kernel
theorem dX6_isSound_2 : decode cX6_isSound 2 = .ok (.iload_n 1, 1) := by decide +kernel
theorem dX6_isSound_3 : decode cX6_isSound 3 = .ok (.aload_n 0, 1) := by decide +kernel
theorem dX6_isSound_4 : decode cX6_isSound 4 = .ok (.getfield 61, 3) := by decide +kernel
theorem dX6_isSound_7 : decode cX6_isSound 7 = .ok (.if_icmp .ge 37, 3) := by decide +kernel
theorem dX6_isSound_10 : decode cX6_isSound 10 = .ok (.aload_n 0, 1) := by decide +kernel
theorem dX6_isSound_11 : decode cX6_isSound 11 = .ok (.getfield 15, 3) := by decide +kernel
theorem dX6_isSound_14 : decode cX6_isSound 14 = .ok (.iload_n 1, 1) := by decide +kernel
theorem dX6_isSound_15 : decode cX6_isSound 15 = .ok (.aaload, 1) := by decide +kernel
theorem dX6_isSound_16 : decode cX6_isSound 16 = .ok (.astore_n 2, 1) := by decide +kernel
theorem dX6_isSound_17 : decode cX6_isSound 17 = .ok (.aload_n 2, 1) := by decide +kernel
theorem dX6_isSound_18 : decode cX6_isSound 18 = .ok (.ifnull 20, 3) := by decide +kernel
theorem dX6_isSound_21 : decode cX6_isSound 21 = .ok (.aload_n 2, 1) := by decide +kernel
theorem dX6_isSound_22 : decode cX6_isSound 22 = .ok (.getfield 82, 3) := by decide +kernel
theorem dX6_isSound_25 : decode cX6_isSound 25 = .ok (.aload_n 2, 1) := by decide +kernel
theorem dX6_isSound_26 : decode cX6_isSound 26 = .ok (.getfield 82, 3) := by decide +kernel
theorem dX6_isSound_29 : decode cX6_isSound 29 = .ok (.arraylength, 1) := by decide +kernel
theorem dX6_isSound_30 : decode cX6_isSound 30 = .ok (.invokestatic 360, 3) := by decide +kernel
theorem dX6_isSound_33 : decode cX6_isSound 33 = .ok (.ifCond .ne 5, 3) := by decide +kernel
theorem dX6_isSound_36 : decode cX6_isSound 36 = .ok (.iconst 0, 1) := by decide +kernel
theorem dX6_isSound_37 : decode cX6_isSound 37 = .ok (.ireturn, 1) := by decide +kernel
theorem dX6_isSound_38 : decode cX6_isSound 38 = .ok (.iinc 1 1, 3) := by decide +kernel
theorem dX6_isSound_41 : decode cX6_isSound 41 = .ok (.goto (-39), 3) := by decide +kernel
theorem dX6_isSound_44 : decode cX6_isSound 44 = .ok (.aload_n 0, 1) := by decide +kernel
theorem dX6_isSound_45 : decode cX6_isSound 45 = .ok (.getfield 127, 3) := by decide +kernel
theorem dX6_isSound_48 : decode cX6_isSound 48 = .ok (.astore_n 1, 1) := by decide +kernel
theorem dX6_isSound_49 : decode cX6_isSound 49 = .ok (.aload_n 1, 1) := by decide +kernel
theorem dX6_isSound_50 : decode cX6_isSound 50 = .ok (.ifnonnull 5, 3) := by decide +kernel
theorem dX6_isSound_53 : decode cX6_isSound 53 = .ok (.iconst 1, 1) := by decide +kernel
theorem dX6_isSound_54 : decode cX6_isSound 54 = .ok (.ireturn, 1) := by decide +kernel
theorem dX6_isSound_55 : decode cX6_isSound 55 = .ok (.new 152, 3) := by decide +kernel
theorem dX6_isSound_58 : decode cX6_isSound 58 = .ok (.dup, 1) := by decide +kernel
theorem dX6_isSound_59 : decode cX6_isSound 59 = .ok (.aload_n 1, 1) := by decide +kernel
theorem dX6_isSound_60 : decode cX6_isSound 60 = .ok (.getfield 147, 3) := by decide +kernel
theorem dX6_isSound_63 : decode cX6_isSound 63 = .ok (.getfield 151, 3) := by decide +kernel
theorem dX6_isSound_66 : decode cX6_isSound 66 = .ok (.iconst 0, 1) := by decide +kernel
theorem dX6_isSound_67 : decode cX6_isSound 67 = .ok (.invokespecial 345, 3) := by decide +kernel
theorem dX6_isSound_70 : decode cX6_isSound 70 = .ok (.astore_n 2, 1) := by decide +kernel
theorem dX6_isSound_71 : decode cX6_isSound 71 = .ok (.aload_n 1, 1) := by decide +kernel
theorem dX6_isSound_72 : decode cX6_isSound 72 = .ok (.getfield 196, 3) := by decide +kernel
theorem dX6_isSound_75 : decode cX6_isSound 75 = .ok (.getfield 221, 3) := by decide +kernel
theorem dX6_isSound_78 : decode cX6_isSound 78 = .ok (.iconst 0, 1) := by decide +kernel
theorem dX6_isSound_79 : decode cX6_isSound 79 = .ok (.aload_n 1, 1) := by decide +kernel
theorem dX6_isSound_80 : decode cX6_isSound 80 = .ok (.getfield 134, 3) := by decide +kernel
theorem dX6_isSound_83 : decode cX6_isSound 83 = .ok (.iconst 1, 1) := by decide +kernel
theorem dX6_isSound_84 : decode cX6_isSound 84 = .ok (.isub, 1) := by decide +kernel
theorem dX6_isSound_85 : decode cX6_isSound 85 = .ok (.invokestatic 33, 3) := by decide +kernel
theorem dX6_isSound_88 : decode cX6_isSound 88 = .ok (.ifCond .eq 28, 3) := by decide +kernel
theorem dX6_isSound_91 : decode cX6_isSound 91 = .ok (.aload_n 1, 1) := by decide +kernel
theorem dX6_isSound_92 : decode cX6_isSound 92 = .ok (.getfield 252, 3) := by decide +kernel
theorem dX6_isSound_95 : decode cX6_isSound 95 = .ok (.aload_n 1, 1) := by decide +kernel
theorem dX6_isSound_96 : decode cX6_isSound 96 = .ok (.getfield 144, 3) := by decide +kernel
theorem dX6_isSound_99 : decode cX6_isSound 99 = .ok (.invokevirtual 364, 3) := by decide +kernel
theorem dX6_isSound_102 : decode cX6_isSound 102 = .ok (.ifCond .eq 14, 3) := by decide +kernel
theorem dX6_isSound_105 : decode cX6_isSound 105 = .ok (.aload_n 2, 1) := by decide +kernel
theorem dX6_isSound_106 : decode cX6_isSound 106 = .ok (.invokevirtual 367, 3) := by decide +kernel
theorem dX6_isSound_109 : decode cX6_isSound 109 = .ok (.ifCond .eq 7, 3) := by decide +kernel
theorem dX6_isSound_112 : decode cX6_isSound 112 = .ok (.iconst 1, 1) := by decide +kernel
theorem dX6_isSound_113 : decode cX6_isSound 113 = .ok (.goto 4, 3) := by decide +kernel
theorem dX6_isSound_116 : decode cX6_isSound 116 = .ok (.iconst 0, 1) := by decide +kernel
theorem dX6_isSound_117 : decode cX6_isSound 117 = .ok (.ireturn, 1) := by decide +kernel
theorem dX6_isWithin_0 : decode cX6_isWithin 0 = .ok (.iload_n 0, 1) := by decide +kernel
theorem dX6_isWithin_1 : decode cX6_isWithin 1 = .ok (.iload_n 1, 1) := by decide +kernel
theorem dX6_isWithin_2 : decode cX6_isWithin 2 = .ok (.if_icmp .lt 12, 3) := by decide +kernel
theorem dX6_isWithin_5 : decode cX6_isWithin 5 = .ok (.iload_n 0, 1) := by decide +kernel
theorem dX6_isWithin_6 : decode cX6_isWithin 6 = .ok (.iload_n 2, 1) := by decide +kernel
theorem dX6_isWithin_7 : decode cX6_isWithin 7 = .ok (.if_icmp .gt 7, 3) := by decide +kernel
theorem dX6_isWithin_10 : decode cX6_isWithin 10 = .ok (.iconst 1, 1) := by decide +kernel
theorem dX6_isWithin_11 : decode cX6_isWithin 11 = .ok (.goto 4, 3) := by decide +kernel
theorem dX6_isWithin_14 : decode cX6_isWithin 14 = .ok (.iconst 0, 1) := by decide +kernel
theorem dX6_isWithin_15 : decode cX6_isWithin 15 = .ok (.ireturn, 1) := by decide +kernel
theorem dX6_modulo_0 : decode cX6_modulo 0 = .ok (.iload_n 1, 1) := by decide +kernel
theorem dX6_modulo_1 : decode cX6_modulo 1 = .ok (.ifCond .gt 5, 3) := by decide +kernel
theorem dX6_modulo_4 : decode cX6_modulo 4 = .ok (.iconst 0, 1) := by decide +kernel
theorem dX6_modulo_5 : decode cX6_modulo 5 = .ok (.ireturn, 1) := by decide +kernel
theorem dX6_modulo_6 : decode cX6_modulo 6 = .ok (.iload_n 0, 1) := by decide +kernel
theorem dX6_modulo_7 : decode cX6_modulo 7 = .ok (.iload_n 1, 1) := by decide +kernel
theorem dX6_modulo_8 : decode cX6_modulo 8 = .ok (.irem, 1) := by decide +kernel
theorem dX6_modulo_9 : decode cX6_modulo 9 = .ok (.istore_n 2, 1) := by decide +kernel
theorem dX6_modulo_10 : decode cX6_modulo 10 = .ok (.iload_n 2, 1) := by decide +kernel
theorem dX6_modulo_11 : decode cX6_modulo 11 = .ok (.ifCond .ge 9, 3) := by decide +kernel
theorem dX6_modulo_14 : decode cX6_modulo 14 = .ok (.iload_n 2, 1) := by decide +kernel
theorem dX6_modulo_15 : decode cX6_modulo 15 = .ok (.iload_n 1, 1) := by decide +kernel
theorem dX6_modulo_16 : decode cX6_modulo 16 = .ok (.iadd, 1) := by decide +kernel
theorem dX6_modulo_17 : decode cX6_modulo 17 = .ok (.goto 4, 3) := by decide +kernel
theorem dX6_modulo_20 : decode cX6_modulo 20 = .ok (.iload_n 2, 1) := by decide +kernel
theorem dX6_modulo_21 : decode cX6_modulo 21 = .ok (.ireturn, 1) := by decide +kernel
set_option maxRecDepth 20000 in
theorem ggX6_isRing_J6_bitCount_0f7a4 : GoodIn wsX6_isRing wsJ6_bitCount_0f7a4 := goodIn_r _ [4, 5, 6, 7] (by decide +kernel) (by decide +kernel)
set_option maxRecDepth 20000 in
theorem gX6_isRing_J6_bitCount_0f7a4 : GoodIn wsX6_isRing (va_wsS RX6 379 yJ6_bitCount_0f7a4 wsJ6_bitCount_0f7a4) := goodIn_app (goodIn_of _ (by decide +kernel)) ggX6_isRing_J6_bitCount_0f7a4
theorem dX6_isRing_0 : decode cX6_isRing 0 = .ok (.iconst 0, 1) := by decide +kernel
theorem dX6_isRing_1 : decode cX6_isRing 1 = .ok (.istore_n 2, 1) := by decide +kernel
theorem dX6_isRing_2 : decode cX6_isRing 2 = .ok (.iload_n 2, 1) := by decide +kernel
theorem dX6_isRing_3 : decode cX6_isRing 3 = .ok (.iload_n 1, 1) := by decide +kernel
theorem dX6_isRing_4 : decode cX6_isRing 4 = .ok (.if_icmp .ge 54, 3) := by decide +kernel
theorem dX6_isRing_7 : decode cX6_isRing 7 = .ok (.iload_n 2, 1) := by decide +kernel
theorem dX6_isRing_8 : decode cX6_isRing 8 = .ok (.aload_n 0, 1) := by decide +kernel
theorem dX6_isRing_9 : decode cX6_isRing 9 = .ok (.arraylength, 1) := by decide +kernel
theorem dX6_isRing_10 : decode cX6_isRing 10 = .ok (.if_icmp .ge 48, 3) := by decide +kernel
theorem dX6_isRing_13 : decode cX6_isRing 13 = .ok (.iload_n 2, 1) := by decide +kernel
theorem dX6_isRing_14 : decode cX6_isRing 14 = .ok (.iconst 1, 1) := by decide +kernel
theorem dX6_isRing_15 : decode cX6_isRing 15 = .ok (.iadd, 1) := by decide +kernel
theorem dX6_isRing_16 : decode cX6_isRing 16 = .ok (.iload_n 1, 1) := by decide +kernel
theorem dX6_isRing_17 : decode cX6_isRing 17 = .ok (.if_icmp .ge 17, 3) := by decide +kernel
theorem dX6_isRing_20 : decode cX6_isRing 20 = .ok (.iload_n 2, 1) := by decide +kernel
theorem dX6_isRing_21 : decode cX6_isRing 21 = .ok (.iconst 1, 1) := by decide +kernel
theorem dX6_isRing_22 : decode cX6_isRing 22 = .ok (.iadd, 1) := by decide +kernel
theorem dX6_isRing_23 : decode cX6_isRing 23 = .ok (.aload_n 0, 1) := by decide +kernel
theorem dX6_isRing_24 : decode cX6_isRing 24 = .ok (.arraylength, 1) := by decide +kernel
theorem dX6_isRing_25 : decode cX6_isRing 25 = .ok (.if_icmp .ge 9, 3) := by decide +kernel
theorem dX6_isRing_28 : decode cX6_isRing 28 = .ok (.iload_n 2, 1) := by decide +kernel
theorem dX6_isRing_29 : decode cX6_isRing 29 = .ok (.iconst 1, 1) := by decide +kernel
theorem dX6_isRing_30 : decode cX6_isRing 30 = .ok (.iadd, 1) := by decide +kernel
theorem dX6_isRing_31 : decode cX6_isRing 31 = .ok (.goto 4, 3) := by decide +kernel
theorem dX6_isRing_34 : decode cX6_isRing 34 = .ok (.iconst 0, 1) := by decide +kernel
theorem dX6_isRing_35 : decode cX6_isRing 35 = .ok (.istore_n 3, 1) := by decide +kernel
theorem dX6_isRing_36 : decode cX6_isRing 36 = .ok (.aload_n 0, 1) := by decide +kernel
theorem dX6_isRing_37 : decode cX6_isRing 37 = .ok (.iload_n 2, 1) := by decide +kernel
theorem dX6_isRing_38 : decode cX6_isRing 38 = .ok (.iaload, 1) := by decide +kernel
theorem dX6_isRing_39 : decode cX6_isRing 39 = .ok (.aload_n 0, 1) := by decide +kernel
theorem dX6_isRing_40 : decode cX6_isRing 40 = .ok (.iload_n 3, 1) := by decide +kernel
theorem dX6_isRing_41 : decode cX6_isRing 41 = .ok (.iaload, 1) := by decide +kernel
theorem dX6_isRing_42 : decode cX6_isRing 42 = .ok (.ixor, 1) := by decide +kernel
theorem dX6_isRing_43 : decode cX6_isRing 43 = .ok (.invokestatic 379, 3) := by decide +kernel
theorem dX6_isRing_46 : decode cX6_isRing 46 = .ok (.iconst 1, 1) := by decide +kernel
theorem dX6_isRing_47 : decode cX6_isRing 47 = .ok (.if_icmp .eq 5, 3) := by decide +kernel
theorem dX6_isRing_50 : decode cX6_isRing 50 = .ok (.iconst 0, 1) := by decide +kernel
theorem dX6_isRing_51 : decode cX6_isRing 51 = .ok (.ireturn, 1) := by decide +kernel
theorem dX6_isRing_52 : decode cX6_isRing 52 = .ok (.iinc 2 1, 3) := by decide +kernel
theorem dX6_isRing_55 : decode cX6_isRing 55 = .ok (.goto (-53), 3) := by decide +kernel
theorem dX6_isRing_58 : decode cX6_isRing 58 = .ok (.iconst 1, 1) := by decide +kernel
theorem dX6_isRing_59 : decode cX6_isRing 59 = .ok (.ireturn, 1) := by decide +kernel
set_option maxRecDepth 20000 in
theorem ggX6_typedIsRing_X6_isRing : GoodIn wsX6_typedIsRing wsX6_isRing := goodIn_r _ [6, 7, 8, 9, 10, 11, 12, 13] (by decide +kernel) (by decide +kernel)
set_option maxRecDepth 20000 in
theorem gX6_typedIsRing_X6_isRing : GoodIn wsX6_typedIsRing (va_wsS RX6 360 yX6_isRing wsX6_isRing) := goodIn_app (goodIn_of _ (by decide +kernel)) ggX6_typedIsRing_X6_isRing
theorem dX6_typedIsRing_0 : decode cX6_typedIsRing 0 = .ok (.aload_n 0, 1) := by decide +kernel
theorem dX6_typedIsRing_1 : decode cX6_typedIsRing 1 = .ok (.getfield 44, 3) := by decide +kernel
theorem dX6_typedIsRing_4 : decode cX6_typedIsRing 4 = .ok (.iconst 4, 1) := by decide +kernel
theorem dX6_typedIsRing_5 : decode cX6_typedIsRing 5 = .ok (.if_icmp .lt 17, 3) := by decide +kernel
theorem dX6_typedIsRing_8 : decode cX6_typedIsRing 8 = .ok (.aload_n 0, 1) := by decide +kernel
theorem dX6_typedIsRing_9 : decode cX6_typedIsRing 9 = .ok (.getfield 9, 3) := by decide +kernel
theorem dX6_typedIsRing_12 : decode cX6_typedIsRing 12 = .ok (.aload_n 0, 1) := by decide +kernel
theorem dX6_typedIsRing_13 : decode cX6_typedIsRing 13 = .ok (.getfield 44, 3) := by decide +kernel
theorem dX6_typedIsRing_16 : decode cX6_typedIsRing 16 = .ok (.invokestatic 360, 3) := by decide +kernel
theorem dX6_typedIsRing_19 : decode cX6_typedIsRing 19 = .ok (.ifCond .ne 5, 3) := by decide +kernel
theorem dX6_typedIsRing_22 : decode cX6_typedIsRing 22 = .ok (.iconst 0, 1) := by decide +kernel
theorem dX6_typedIsRing_23 : decode cX6_typedIsRing 23 = .ok (.ireturn, 1) := by decide +kernel
theorem dX6_typedIsRing_24 : decode cX6_typedIsRing 24 = .ok (.iconst 0, 1) := by decide +kernel
theorem dX6_typedIsRing_25 : decode cX6_typedIsRing 25 = .ok (.istore_n 1, 1) := by decide +kernel
theorem dX6_typedIsRing_26 : decode cX6_typedIsRing 26 = .ok (.iload_n 1, 1) := by decide +kernel
theorem dX6_typedIsRing_27 : decode cX6_typedIsRing 27 = .ok (.aload_n 0, 1) := by decide +kernel
theorem dX6_typedIsRing_28 : decode cX6_typedIsRing 28 = .ok (.getfield 44, 3) := by decide +kernel
theorem dX6_typedIsRing_31 : decode cX6_typedIsRing 31 = .ok (.if_icmp .ge 44, 3) := by decide +kernel
theorem dX6_typedIsRing_34 : decode cX6_typedIsRing 34 = .ok (.iload_n 1, 1) := by decide +kernel
theorem dX6_typedIsRing_35 : decode cX6_typedIsRing 35 = .ok (.iconst 1, 1) := by decide +kernel
theorem dX6_typedIsRing_36 : decode cX6_typedIsRing 36 = .ok (.iadd, 1) := by decide +kernel
theorem dX6_typedIsRing_37 : decode cX6_typedIsRing 37 = .ok (.istore_n 2, 1) := by decide +kernel
theorem dX6_typedIsRing_38 : decode cX6_typedIsRing 38 = .ok (.iload_n 2, 1) := by decide +kernel
theorem dX6_typedIsRing_39 : decode cX6_typedIsRing 39 = .ok (.aload_n 0, 1) := by decide +kernel
theorem dX6_typedIsRing_40 : decode cX6_typedIsRing 40 = .ok (.getfield 44, 3) := by decide +kernel
theorem dX6_typedIsRing_43 : decode cX6_typedIsRing 43 = .ok (.if_icmp .ge 26, 3) := by decide +kernel
theorem dX6_typedIsRing_46 : decode cX6_typedIsRing 46 = .ok (.aload_n 0, 1) := by decide +kernel
theorem dX6_typedIsRing_47 : decode cX6_typedIsRing 47 = .ok (.getfield 9, 3) := by decide +kernel
theorem dX6_typedIsRing_50 : decode cX6_typedIsRing 50 = .ok (.iload_n 1, 1) := by decide +kernel
theorem dX6_typedIsRing_51 : decode cX6_typedIsRing 51 = .ok (.iaload, 1) := by decide +kernel
theorem dX6_typedIsRing_52 : decode cX6_typedIsRing 52 = .ok (.aload_n 0, 1) := by decide +kernel
theorem dX6_typedIsRing_53 : decode cX6_typedIsRing 53 = .ok (.getfield 9, 3) := by decide +kernel
theorem dX6_typedIsRing_56 : decode cX6_typedIsRing 56 = .ok (.iload_n 2, 1) := by decide +kernel
theorem dX6_typedIsRing_57 : decode cX6_typedIsRing 57 = .ok (.iaload, 1) := by decide +kernel
theorem dX6_typedIsRing_58 : decode cX6_typedIsRing 58 = .ok (.if_icmp .ne 5, 3) := by decide +kernel
theorem dX6_typedIsRing_61 : decode cX6_typedIsRing 61 = .ok (.iconst 0, 1) := by decide +kernel
theorem dX6_typedIsRing_62 : decode cX6_typedIsRing 62 = .ok (.ireturn, 1) := by decide +kernel
theorem dX6_typedIsRing_63 : decode cX6_typedIsRing 63 = .ok (.iinc 2 1, 3) := by decide +kernel
theorem dX6_typedIsRing_66 : decode cX6_typedIsRing 66 = .ok (.goto (-28), 3) := by decide +kernel
theorem dX6_typedIsRing_69 : decode cX6_typedIsRing 69 = .ok (.iinc 1 1, 3) := by decide +kernel
theorem dX6_typedIsRing_72 : decode cX6_typedIsRing 72 = .ok (.goto (-46), 3) := by decide +kernel
theorem dX6_typedIsRing_75 : decode cX6_typedIsRing 75 = .ok (.iconst 1, 1) := by decide +kernel
theorem dX6_typedIsRing_76 : decode cX6_typedIsRing 76 = .ok (.ireturn, 1) := by decide +kernel
set_option maxRecDepth 20000 in
theorem ggX6_keepCode_X0_init : GoodIn wsX6_keepCode wsX0_init := goodIn_r _ [8, 9, 10, 11, 12, 13, 14, 15, 16, 17, 18, 19, 29, 30, 31] (by decide +kernel) (by decide +kernel)
set_option maxRecDepth 20000 in
theorem gX6_keepCode_X0_init : GoodIn wsX6_keepCode (wsX0_init) := ggX6_keepCode_X0_init
theorem dX6_keepCode_0 : decode cX6_keepCode 0 = .ok (.aload_n 0, 1) := by decide +kernel
theorem dX6_keepCode_1 : decode cX6_keepCode 1 = .ok (.getfield 61, 3) := by decide +kernel
theorem dX6_keepCode_4 : decode cX6_keepCode 4 = .ok (.istore_n 2, 1) := by decide +kernel
theorem dX6_keepCode_5 : decode cX6_keepCode 5 = .ok (.iload_n 2, 1) := by decide +kernel
theorem dX6_keepCode_6 : decode cX6_keepCode 6 = .ok (.aload_n 0, 1) := by decide +kernel
theorem dX6_keepCode_7 : decode cX6_keepCode 7 = .ok (.getfield 15, 3) := by decide +kernel
theorem dX6_keepCode_10 : decode cX6_keepCode 10 = .ok (.arraylength, 1) := by decide +kernel
theorem dX6_keepCode_11 : decode cX6_keepCode 11 = .ok (.if_icmp .ge 27, 3) := by decide +kernel
theorem dX6_keepCode_14 : decode cX6_keepCode 14 = .ok (.aload_n 0, 1) := by decide +kernel
theorem dX6_keepCode_15 : decode cX6_keepCode 15 = .ok (.getfield 15, 3) := by decide +kernel
theorem dX6_keepCode_18 : decode cX6_keepCode 18 = .ok (.iload_n 2, 1) := by decide +kernel
theorem dX6_keepCode_19 : decode cX6_keepCode 19 = .ok (.new 13, 3) := by decide +kernel
theorem dX6_keepCode_22 : decode cX6_keepCode 22 = .ok (.dup, 1) := by decide +kernel
theorem dX6_keepCode_23 : decode cX6_keepCode 23 = .ok (.aload_n 1, 1) := by decide +kernel
theorem dX6_keepCode_24 : decode cX6_keepCode 24 = .ok (.invokespecial 384, 3) := by decide +kernel
theorem dX6_keepCode_27 : decode cX6_keepCode 27 = .ok (.aastore, 1) := by decide +kernel
theorem dX6_keepCode_28 : decode cX6_keepCode 28 = .ok (.aload_n 0, 1) := by decide +kernel
theorem dX6_keepCode_29 : decode cX6_keepCode 29 = .ok (.dup, 1) := by decide +kernel
theorem dX6_keepCode_30 : decode cX6_keepCode 30 = .ok (.getfield 61, 3) := by decide +kernel
theorem dX6_keepCode_33 : decode cX6_keepCode 33 = .ok (.iconst 1, 1) := by decide +kernel
theorem dX6_keepCode_34 : decode cX6_keepCode 34 = .ok (.iadd, 1) := by decide +kernel
theorem dX6_keepCode_35 : decode cX6_keepCode 35 = .ok (.putfield 61, 3) := by decide +kernel
theorem dX6_keepCode_38 : decode cX6_keepCode 38 = .ok (.iload_n 2, 1) := by decide +kernel
theorem dX6_keepCode_39 : decode cX6_keepCode 39 = .ok (.ireturn, 1) := by decide +kernel
set_option maxRecDepth 20000 in
theorem ggX6_codeAt_X6_isWithin : GoodIn wsX6_codeAt wsX6_isWithin := goodIn_r _ [8] (by decide +kernel) (by decide +kernel)
set_option maxRecDepth 20000 in
theorem gX6_codeAt_X6_isWithin : GoodIn wsX6_codeAt (va_wsS RX6 33 yX6_isWithin wsX6_isWithin) := goodIn_app (goodIn_of _ (by decide +kernel)) ggX6_codeAt_X6_isWithin
theorem dX6_codeAt_0 : decode cX6_codeAt 0 = .ok (.iload_n 1, 1) := by decide +kernel
theorem dX6_codeAt_1 : decode cX6_codeAt 1 = .ok (.iconst 0, 1) := by decide +kernel
theorem dX6_codeAt_2 : decode cX6_codeAt 2 = .ok (.aload_n 0, 1) := by decide +kernel
theorem dX6_codeAt_3 : decode cX6_codeAt 3 = .ok (.getfield 61, 3) := by decide +kernel
theorem dX6_codeAt_6 : decode cX6_codeAt 6 = .ok (.iconst 1, 1) := by decide +kernel
theorem dX6_codeAt_7 : decode cX6_codeAt 7 = .ok (.isub, 1) := by decide +kernel
theorem dX6_codeAt_8 : decode cX6_codeAt 8 = .ok (.invokestatic 33, 3) := by decide +kernel
theorem dX6_codeAt_11 : decode cX6_codeAt 11 = .ok (.ifCond .eq 12, 3) := by decide +kernel
theorem dX6_codeAt_14 : decode cX6_codeAt 14 = .ok (.aload_n 0, 1) := by decide +kernel
theorem dX6_codeAt_15 : decode cX6_codeAt 15 = .ok (.getfield 15, 3) := by decide +kernel
theorem dX6_codeAt_18 : decode cX6_codeAt 18 = .ok (.iload_n 1, 1) := by decide +kernel
theorem dX6_codeAt_19 : decode cX6_codeAt 19 = .ok (.aaload, 1) := by decide +kernel
theorem dX6_codeAt_20 : decode cX6_codeAt 20 = .ok (.goto 4, 3) := by decide +kernel
theorem dX6_codeAt_23 : decode cX6_codeAt 23 = .ok (.aconst_null, 1) := by decide +kernel
theorem dX6_codeAt_24 : decode cX6_codeAt 24 = .ok (.astore_n 2, 1) := by decide +kernel
theorem dX6_codeAt_25 : decode cX6_codeAt 25 = .ok (.aload_n 2, 1) := by decide +kernel
theorem dX6_codeAt_26 : decode cX6_codeAt 26 = .ok (.ifnonnull 14, 3) := by decide +kernel
theorem dX6_codeAt_29 : decode cX6_codeAt 29 = .ok (.new 271, 3) := by decide +kernel
theorem dX6_codeAt_32 : decode cX6_codeAt 32 = .ok (.dup, 1) := by decide +kernel
theorem dX6_codeAt_33 : decode cX6_codeAt 33 = .ok (.ldc_w 387, 3) := by decide +kernel
theorem dX6_codeAt_36 : decode cX6_codeAt 36 = .ok (.invokespecial 275, 3) := by decide +kernel
theorem dX6_codeAt_39 : decode cX6_codeAt 39 = .ok (.athrow, 1) := by decide +kernel
theorem dX6_codeAt_40 : decode cX6_codeAt 40 = .ok (.aload_n 2, 1) := by decide +kernel
theorem dX6_codeAt_41 : decode cX6_codeAt 41 = .ok (.areturn, 1) := by decide +kernel
theorem dX6_theDisc_0 : decode cX6_theDisc 0 = .ok (.aload_n 0, 1) := by decide +kernel
theorem dX6_theDisc_1 : decode cX6_theDisc 1 = .ok (.getfield 127, 3) := by decide +kernel
theorem dX6_theDisc_4 : decode cX6_theDisc 4 = .ok (.astore_n 1, 1) := by decide +kernel
theorem dX6_theDisc_5 : decode cX6_theDisc 5 = .ok (.aload_n 1, 1) := by decide +kernel
theorem dX6_theDisc_6 : decode cX6_theDisc 6 = .ok (.ifnonnull 14, 3) := by decide +kernel
theorem dX6_theDisc_9 : decode cX6_theDisc 9 = .ok (.new 56, 3) := by decide +kernel
theorem dX6_theDisc_12 : decode cX6_theDisc 12 = .ok (.dup, 1) := by decide +kernel
theorem dX6_theDisc_13 : decode cX6_theDisc 13 = .ok (.ldc_w 389, 3) := by decide +kernel
theorem dX6_theDisc_16 : decode cX6_theDisc 16 = .ok (.invokespecial 60, 3) := by decide +kernel
theorem dX6_theDisc_19 : decode cX6_theDisc 19 = .ok (.athrow, 1) := by decide +kernel
theorem dX6_theDisc_20 : decode cX6_theDisc 20 = .ok (.aload_n 1, 1) := by decide +kernel
theorem dX6_theDisc_21 : decode cX6_theDisc 21 = .ok (.areturn, 1) := by decide +kernel
theorem dJ6_bitCount_0f7a4_0 : decode cJ6_bitCount_0f7a4 0 = .ok (.iload_n 0, 1) := by decide +kernel
theorem dJ6_bitCount_0f7a4_1 : decode cJ6_bitCount_0f7a4 1 = .ok (.iload_n 0, 1) := by decide +kernel
theorem dJ6_bitCount_0f7a4_2 : decode cJ6_bitCount_0f7a4 2 = .ok (.iconst 1, 1) := by decide +kernel
theorem dJ6_bitCount_0f7a4_3 : decode cJ6_bitCount_0f7a4 3 = .ok (.iushr, 1) := by decide +kernel
theorem dJ6_bitCount_0f7a4_4 : decode cJ6_bitCount_0f7a4 4 = .ok (.ldc_w 265, 3) := by decide +kernel
theorem dJ6_bitCount_0f7a4_7 : decode cJ6_bitCount_0f7a4 7 = .ok (.iand, 1) := by decide +kernel
theorem dJ6_bitCount_0f7a4_8 : decode cJ6_bitCount_0f7a4 8 = .ok (.isub, 1) := by decide +kernel
theorem dJ6_bitCount_0f7a4_9 : decode cJ6_bitCount_0f7a4 9 = .ok (.istore_n 0, 1) := by decide +kernel
theorem dJ6_bitCount_0f7a4_10 : decode cJ6_bitCount_0f7a4 10 = .ok (.iload_n 0, 1) := by decide +kernel
theorem dJ6_bitCount_0f7a4_11 : decode cJ6_bitCount_0f7a4 11 = .ok (.ldc_w 266, 3) := by decide +kernel
theorem dJ6_bitCount_0f7a4_14 : decode cJ6_bitCount_0f7a4 14 = .ok (.iand, 1) := by decide +kernel
theorem dJ6_bitCount_0f7a4_15 : decode cJ6_bitCount_0f7a4 15 = .ok (.iload_n 0, 1) := by decide +kernel
theorem dJ6_bitCount_0f7a4_16 : decode cJ6_bitCount_0f7a4 16 = .ok (.iconst 2, 1) := by decide +kernel
theorem dJ6_bitCount_0f7a4_17 : decode cJ6_bitCount_0f7a4 17 = .ok (.iushr, 1) := by decide +kernel
theorem dJ6_bitCount_0f7a4_18 : decode cJ6_bitCount_0f7a4 18 = .ok (.ldc_w 266, 3) := by decide +kernel
theorem dJ6_bitCount_0f7a4_21 : decode cJ6_bitCount_0f7a4 21 = .ok (.iand, 1) := by decide +kernel
theorem dJ6_bitCount_0f7a4_22 : decode cJ6_bitCount_0f7a4 22 = .ok (.iadd, 1) := by decide +kernel
theorem dJ6_bitCount_0f7a4_23 : decode cJ6_bitCount_0f7a4 23 = .ok (.istore_n 0, 1) := by decide +kernel
theorem dJ6_bitCount_0f7a4_24 : decode cJ6_bitCount_0f7a4 24 = .ok (.iload_n 0, 1) := by decide +kernel
theorem dJ6_bitCount_0f7a4_25 : decode cJ6_bitCount_0f7a4 25 = .ok (.iload_n 0, 1) := by decide +kernel
theorem dJ6_bitCount_0f7a4_26 : decode cJ6_bitCount_0f7a4 26 = .ok (.iconst 4, 1) := by decide +kernel
theorem dJ6_bitCount_0f7a4_27 : decode cJ6_bitCount_0f7a4 27 = .ok (.iushr, 1) := by decide +kernel
theorem dJ6_bitCount_0f7a4_28 : decode cJ6_bitCount_0f7a4 28 = .ok (.iadd, 1) := by decide +kernel
theorem dJ6_bitCount_0f7a4_29 : decode cJ6_bitCount_0f7a4 29 = .ok (.ldc_w 267, 3) := by decide +kernel
theorem dJ6_bitCount_0f7a4_32 : decode cJ6_bitCount_0f7a4 32 = .ok (.iand, 1) := by decide +kernel
theorem dJ6_bitCount_0f7a4_33 : decode cJ6_bitCount_0f7a4 33 = .ok (.istore_n 0, 1) := by decide +kernel
theorem dJ6_bitCount_0f7a4_34 : decode cJ6_bitCount_0f7a4 34 = .ok (.iload_n 0, 1) := by decide +kernel
theorem dJ6_bitCount_0f7a4_35 : decode cJ6_bitCount_0f7a4 35 = .ok (.iload_n 0, 1) := by decide +kernel
theorem dJ6_bitCount_0f7a4_36 : decode cJ6_bitCount_0f7a4 36 = .ok (.bipush 8, 2) := by decide +kernel
theorem dJ6_bitCount_0f7a4_38 : decode cJ6_bitCount_0f7a4 38 = .ok (.iushr, 1) := by decide +kernel
theorem dJ6_bitCount_0f7a4_39 : decode cJ6_bitCount_0f7a4 39 = .ok (.iadd, 1) := by decide +kernel
theorem dJ6_bitCount_0f7a4_40 : decode cJ6_bitCount_0f7a4 40 = .ok (.istore_n 0, 1) := by decide +kernel
theorem dJ6_bitCount_0f7a4_41 : decode cJ6_bitCount_0f7a4 41 = .ok (.iload_n 0, 1) := by decide +kernel
theorem dJ6_bitCount_0f7a4_42 : decode cJ6_bitCount_0f7a4 42 = .ok (.iload_n 0, 1) := by decide +kernel
theorem dJ6_bitCount_0f7a4_43 : decode cJ6_bitCount_0f7a4 43 = .ok (.bipush 16, 2) := by decide +kernel
theorem dJ6_bitCount_0f7a4_45 : decode cJ6_bitCount_0f7a4 45 = .ok (.iushr, 1) := by decide +kernel
theorem dJ6_bitCount_0f7a4_46 : decode cJ6_bitCount_0f7a4 46 = .ok (.iadd, 1) := by decide +kernel
theorem dJ6_bitCount_0f7a4_47 : decode cJ6_bitCount_0f7a4 47 = .ok (.istore_n 0, 1) := by decide +kernel
theorem dJ6_bitCount_0f7a4_48 : decode cJ6_bitCount_0f7a4 48 = .ok (.iload_n 0, 1) := by decide +kernel
theorem dJ6_bitCount_0f7a4_49 : decode cJ6_bitCount_0f7a4 49 = .ok (.bipush 63, 2) := by decide +kernel
theorem dJ6_bitCount_0f7a4_51 : decode cJ6_bitCount_0f7a4 51 = .ok (.iand, 1) := by decide +kernel
theorem dJ6_bitCount_0f7a4_52 : decode cJ6_bitCount_0f7a4 52 = .ok (.ireturn, 1) := by decide +kernel
theorem dJ9_abs_0f7a4_0 : decode cJ9_abs_0f7a4 0 = .ok (.iload_n 0, 1) := by decide +kernel
theorem dJ9_abs_0f7a4_1 : decode cJ9_abs_0f7a4 1 = .ok (.ifCond .ge 8, 3) := by decide +kernel
theorem dJ9_abs_0f7a4_4 : decode cJ9_abs_0f7a4 4 = .ok (.iload_n 0, 1) := by decide +kernel
theorem dJ9_abs_0f7a4_5 : decode cJ9_abs_0f7a4 5 = .ok (.ineg, 1) := by decide +kernel
theorem dJ9_abs_0f7a4_6 : decode cJ9_abs_0f7a4 6 = .ok (.goto 4, 3) := by decide +kernel
theorem dJ9_abs_0f7a4_9 : decode cJ9_abs_0f7a4 9 = .ok (.iload_n 0, 1) := by decide +kernel
theorem dJ9_abs_0f7a4_10 : decode cJ9_abs_0f7a4 10 = .ok (.ireturn, 1) := by decide +kernel
theorem dJ9_max_7cf53_0 : decode cJ9_max_7cf53 0 = .ok (.iload_n 0, 1) := by decide +kernel
theorem dJ9_max_7cf53_1 : decode cJ9_max_7cf53 1 = .ok (.iload_n 1, 1) := by decide +kernel
theorem dJ9_max_7cf53_2 : decode cJ9_max_7cf53 2 = .ok (.if_icmp .lt 7, 3) := by decide +kernel
theorem dJ9_max_7cf53_5 : decode cJ9_max_7cf53 5 = .ok (.iload_n 0, 1) := by decide +kernel
theorem dJ9_max_7cf53_6 : decode cJ9_max_7cf53 6 = .ok (.goto 4, 3) := by decide +kernel
theorem dJ9_max_7cf53_9 : decode cJ9_max_7cf53 9 = .ok (.iload_n 1, 1) := by decide +kernel
theorem dJ9_max_7cf53_10 : decode cJ9_max_7cf53 10 = .ok (.ireturn, 1) := by decide +kernel
theorem dJ9_min_7cf53_0 : decode cJ9_min_7cf53 0 = .ok (.iload_n 0, 1) := by decide +kernel
theorem dJ9_min_7cf53_1 : decode cJ9_min_7cf53 1 = .ok (.iload_n 1, 1) := by decide +kernel
theorem dJ9_min_7cf53_2 : decode cJ9_min_7cf53 2 = .ok (.if_icmp .gt 7, 3) := by decide +kernel
theorem dJ9_min_7cf53_5 : decode cJ9_min_7cf53 5 = .ok (.iload_n 0, 1) := by decide +kernel
theorem dJ9_min_7cf53_6 : decode cJ9_min_7cf53 6 = .ok (.goto 4, 3) := by decide +kernel
theorem dJ9_min_7cf53_9 : decode cJ9_min_7cf53 9 = .ok (.iload_n 1, 1) := by decide +kernel
theorem dJ9_min_7cf53_10 : decode cJ9_min_7cf53 10 = .ok (.ireturn, 1) := by decide +kernel
theorem dJ7_fill_53178_0 : decode cJ7_fill_53178 0 = .ok (.iconst 0, 1) := by decide +kernel
theorem dJ7_fill_53178_1 : decode cJ7_fill_53178 1 = .ok (.istore_n 2, 1) := by decide +kernel
theorem dJ7_fill_53178_2 : decode cJ7_fill_53178 2 = .ok (.aload_n 0, 1) := by decide +kernel
theorem dJ7_fill_53178_3 : decode cJ7_fill_53178 3 = .ok (.arraylength, 1) := by decide +kernel
theorem dJ7_fill_53178_4 : decode cJ7_fill_53178 4 = .ok (.istore_n 3, 1) := by decide +kernel
theorem dJ7_fill_53178_5 : decode cJ7_fill_53178 5 = .ok (.iload_n 2, 1) := by decide +kernel
theorem dJ7_fill_53178_6 : decode cJ7_fill_53178 6 = .ok (.iload_n 3, 1) := by decide +kernel
theorem dJ7_fill_53178_7 : decode cJ7_fill_53178 7 = .ok (.if_icmp .ge 13, 3) := by decide +kernel
theorem dJ7_fill_53178_10 : decode cJ7_fill_53178 10 = .ok (.aload_n 0, 1) := by decide +kernel
theorem dJ7_fill_53178_11 : decode cJ7_fill_53178 11 = .ok (.iload_n 2, 1) := by decide +kernel
theorem dJ7_fill_53178_12 : decode cJ7_fill_53178 12 = .ok (.iload_n 1, 1) := by decide +kernel
theorem dJ7_fill_53178_13 : decode cJ7_fill_53178 13 = .ok (.iastore, 1) := by decide +kernel
theorem dJ7_fill_53178_14 : decode cJ7_fill_53178 14 = .ok (.iinc 2 1, 3) := by decide +kernel
theorem dJ7_fill_53178_17 : decode cJ7_fill_53178 17 = .ok (.goto (-12), 3) := by decide +kernel
theorem dJ7_fill_53178_20 : decode cJ7_fill_53178 20 = .ok (.return_, 1) := by decide +kernel
theorem dJ7_copyOf_59c91_0 : decode cJ7_copyOf_59c91 0 = .ok (.iload_n 1, 1) := by decide +kernel
theorem dJ7_copyOf_59c91_1 : decode cJ7_copyOf_59c91 1 = .ok (.aload_n 0, 1) := by decide +kernel
theorem dJ7_copyOf_59c91_2 : decode cJ7_copyOf_59c91 2 = .ok (.arraylength, 1) := by decide +kernel
theorem dJ7_copyOf_59c91_3 : decode cJ7_copyOf_59c91 3 = .ok (.if_icmp .ne 11, 3) := by decide +kernel
theorem dJ7_copyOf_59c91_6 : decode cJ7_copyOf_59c91 6 = .ok (.aload_n 0, 1) := by decide +kernel
theorem dJ7_copyOf_59c91_7 : decode cJ7_copyOf_59c91 7 = .ok (.invokevirtual 316, 3) := by decide +kernel
theorem dJ7_copyOf_59c91_10 : decode cJ7_copyOf_59c91 10 = .ok (.checkcast 317, 3) := by decide +kernel
theorem dJ7_copyOf_59c91_13 : decode cJ7_copyOf_59c91 13 = .ok (.areturn, 1) := by decide +kernel
theorem dJ7_copyOf_59c91_14 : decode cJ7_copyOf_59c91 14 = .ok (.iload_n 1, 1) := by decide +kernel
theorem dJ7_copyOf_59c91_15 : decode cJ7_copyOf_59c91 15 = .ok (.newarray .int, 2) := by decide +kernel
theorem dJ7_copyOf_59c91_17 : decode cJ7_copyOf_59c91 17 = .ok (.astore_n 2, 1) := by decide +kernel
theorem dJ7_copyOf_59c91_18 : decode cJ7_copyOf_59c91 18 = .ok (.aload_n 0, 1) := by decide +kernel
theorem dJ7_copyOf_59c91_19 : decode cJ7_copyOf_59c91 19 = .ok (.iconst 0, 1) := by decide +kernel
theorem dJ7_copyOf_59c91_20 : decode cJ7_copyOf_59c91 20 = .ok (.aload_n 2, 1) := by decide +kernel
theorem dJ7_copyOf_59c91_21 : decode cJ7_copyOf_59c91 21 = .ok (.iconst 0, 1) := by decide +kernel
theorem dJ7_copyOf_59c91_22 : decode cJ7_copyOf_59c91 22 = .ok (.aload_n 0, 1) := by decide +kernel
theorem dJ7_copyOf_59c91_23 : decode cJ7_copyOf_59c91 23 = .ok (.arraylength, 1) := by decide +kernel
theorem dJ7_copyOf_59c91_24 : decode cJ7_copyOf_59c91 24 = .ok (.iload_n 1, 1) := by decide +kernel
theorem dJ7_copyOf_59c91_25 : decode cJ7_copyOf_59c91 25 = .ok (.invokestatic 304, 3) := by decide +kernel
theorem dJ7_copyOf_59c91_28 : decode cJ7_copyOf_59c91 28 = .ok (.invokestatic 150, 3) := by decide +kernel
theorem dJ7_copyOf_59c91_31 : decode cJ7_copyOf_59c91 31 = .ok (.aload_n 2, 1) := by decide +kernel
theorem dJ7_copyOf_59c91_32 : decode cJ7_copyOf_59c91 32 = .ok (.areturn, 1) := by decide +kernel
theorem dL_cell_0 : decode cL_cell 0 = .ok (.ldc 7, 2) := by decide +kernel
theorem dL_cell_2 : decode cL_cell 2 = .ok (.iload_n 1, 1) := by decide +kernel
theorem dL_cell_3 : decode cL_cell 3 = .ok (.aload_n 0, 1) := by decide +kernel
theorem dL_cell_4 : decode cL_cell 4 = .ok (.arraylength, 1) := by decide +kernel
theorem dL_cell_5 : decode cL_cell 5 = .ok (.if_icmp .ge 9, 3) := by decide +kernel
theorem dL_cell_8 : decode cL_cell 8 = .ok (.aload_n 0, 1) := by decide +kernel
theorem dL_cell_9 : decode cL_cell 9 = .ok (.iload_n 1, 1) := by decide +kernel
theorem dL_cell_10 : decode cL_cell 10 = .ok (.iaload, 1) := by decide +kernel
theorem dL_cell_11 : decode cL_cell 11 = .ok (.goto 4, 3) := by decide +kernel
theorem dL_cell_14 : decode cL_cell 14 = .ok (.iconst 0, 1) := by decide +kernel
theorem dL_cell_15 : decode cL_cell 15 = .ok (.sipush 1009, 3) := by decide +kernel
theorem dL_cell_18 : decode cL_cell 18 = .ok (.iload_n 1, 1) := by decide +kernel
theorem dL_cell_19 : decode cL_cell 19 = .ok (.imul, 1) := by decide +kernel
theorem dL_cell_20 : decode cL_cell 20 = .ok (.iadd, 1) := by decide +kernel
theorem dL_cell_21 : decode cL_cell 21 = .ok (.imul, 1) := by decide +kernel
theorem dL_cell_22 : decode cL_cell 22 = .ok (.sipush 12345, 3) := by decide +kernel
theorem dL_cell_25 : decode cL_cell 25 = .ok (.iadd, 1) := by decide +kernel
theorem dL_cell_26 : decode cL_cell 26 = .ok (.istore_n 2, 1) := by decide +kernel
theorem dL_cell_27 : decode cL_cell 27 = .ok (.iload_n 2, 1) := by decide +kernel
theorem dL_cell_28 : decode cL_cell 28 = .ok (.iload_n 2, 1) := by decide +kernel
theorem dL_cell_29 : decode cL_cell 29 = .ok (.bipush 13, 2) := by decide +kernel
theorem dL_cell_31 : decode cL_cell 31 = .ok (.iushr, 1) := by decide +kernel
theorem dL_cell_32 : decode cL_cell 32 = .ok (.ixor, 1) := by decide +kernel
theorem dL_cell_33 : decode cL_cell 33 = .ok (.ldc 8, 2) := by decide +kernel
theorem dL_cell_35 : decode cL_cell 35 = .ok (.imul, 1) := by decide +kernel
theorem dL_cell_36 : decode cL_cell 36 = .ok (.istore_n 2, 1) := by decide +kernel
theorem dL_cell_37 : decode cL_cell 37 = .ok (.iload_n 2, 1) := by decide +kernel
theorem dL_cell_38 : decode cL_cell 38 = .ok (.iload_n 2, 1) := by decide +kernel
theorem dL_cell_39 : decode cL_cell 39 = .ok (.bipush 16, 2) := by decide +kernel
theorem dL_cell_41 : decode cL_cell 41 = .ok (.iushr, 1) := by decide +kernel
theorem dL_cell_42 : decode cL_cell 42 = .ok (.ixor, 1) := by decide +kernel
theorem dL_cell_43 : decode cL_cell 43 = .ok (.ireturn, 1) := by decide +kernel
set_option maxRecDepth 20000 in
theorem ggL_type_X6_type : GoodIn wsL_type wsX6_type := goodIn_ca (goodIn_ca (goodIn_r _ [9, 10, 11, 12, 13, 14, 15, 16, 17, 8, 18, 19, 20, 21, 22, 23, 24, 25, 26, 27] (by decide +kernel) (by decide +kernel)) (goodIn_sub (fun _ h => List.mem_cons_of_mem _ (List.mem_append_left _ (List.mem_append_right _ h))) (by decide +kernel))) (goodIn_sub (fun _ h => List.mem_cons_of_mem _ (List.mem_append_right _ h)) (by decide +kernel))
set_option maxRecDepth 20000 in
theorem gL_type_X6_type : GoodIn wsL_type (wsV RL 9 RX6 yX6_type wsX6_type) := goodIn_app (goodIn_of _ (by decide +kernel)) ggL_type_X6_type
theorem dL_type_0 : decode cL_type 0 = .ok (.aload_n 0, 1) := by decide +kernel
theorem dL_type_1 : decode cL_type 1 = .ok (.iload_n 1, 1) := by decide +kernel
theorem dL_type_2 : decode cL_type 2 = .ok (.invokevirtual 9, 3) := by decide +kernel
theorem dL_type_5 : decode cL_type 5 = .ok (.ireturn, 1) := by decide +kernel
theorem dL_type_6 : decode cL_type 6 = .ok (.astore_n 2, 1) := by decide +kernel
theorem dL_type_7 : decode cL_type 7 = .ok (.ldc 17, 2) := by decide +kernel
theorem dL_type_9 : decode cL_type 9 = .ok (.ireturn, 1) := by decide +kernel
theorem dL_type_10 : decode cL_type 10 = .ok (.astore_n 2, 1) := by decide +kernel
theorem dL_type_11 : decode cL_type 11 = .ok (.ldc 20, 2) := by decide +kernel
theorem dL_type_13 : decode cL_type 13 = .ok (.ireturn, 1) := by decide +kernel
set_option maxRecDepth 20000 in
theorem ggL_ring_X6_ring : GoodIn wsL_ring wsX6_ring := goodIn_ca (goodIn_ca (goodIn_r _ [9, 10, 11, 12, 13, 14, 15, 16, 17, 18, 19, 20, 8, 21, 22, 23, 24, 25, 26, 27, 28, 29, 30, 31, 32, 33, 34, 35, 36, 37, 38, 39, 40, 41, 42, 43, 44, 45, 46, 47, 48, 49, 50, 51, 52, 53, 54, 55, 56, 57, 58, 59, 60, 61, 62, 63, 64, 65, 66, 67, 68, 69, 70, 71, 72, 73, 74, 75, 76, 77, 78, 79, 80, 81] (by decide +kernel) (by decide +kernel)) (goodIn_sub (fun _ h => List.mem_cons_of_mem _ (List.mem_append_left _ (List.mem_append_right _ h))) (by decide +kernel))) (goodIn_sub (fun _ h => List.mem_cons_of_mem _ (List.mem_append_right _ h)) (by decide +kernel))
set_option maxRecDepth 20000 in
theorem gL_ring_X6_ring : GoodIn wsL_ring (wsV RL 21 RX6 yX6_ring wsX6_ring) := goodIn_app (goodIn_of _ (by decide +kernel)) ggL_ring_X6_ring
theorem dL_ring_0 : decode cL_ring 0 = .ok (.aload_n 0, 1) := by decide +kernel
theorem dL_ring_1 : decode cL_ring 1 = .ok (.invokevirtual 21, 3) := by decide +kernel
theorem dL_ring_4 : decode cL_ring 4 = .ok (.ireturn, 1) := by decide +kernel
theorem dL_ring_5 : decode cL_ring 5 = .ok (.astore_n 1, 1) := by decide +kernel
theorem dL_ring_6 : decode cL_ring 6 = .ok (.ldc 17, 2) := by decide +kernel
theorem dL_ring_8 : decode cL_ring 8 = .ok (.ireturn, 1) := by decide +kernel
theorem dL_ring_9 : decode cL_ring 9 = .ok (.astore_n 1, 1) := by decide +kernel
theorem dL_ring_10 : decode cL_ring 10 = .ok (.ldc 20, 2) := by decide +kernel
theorem dL_ring_12 : decode cL_ring 12 = .ok (.ireturn, 1) := by decide +kernel
set_option maxRecDepth 20000 in
theorem ggL_reflected_X6_reflected : GoodIn wsL_reflected wsX6_reflected := goodIn_ca (goodIn_ca (goodIn_r _ [9, 10, 11, 12, 13, 14, 15, 16, 17, 18, 8, 19, 20, 21, 22, 23, 24, 25, 26, 27, 28, 29, 30, 31, 32, 33, 34, 35, 36, 37, 38, 39, 40, 41, 42, 43, 44, 45, 46, 47, 48, 49, 50, 51] (by decide +kernel) (by decide +kernel)) (goodIn_sub (fun _ h => List.mem_cons_of_mem _ (List.mem_append_left _ (List.mem_append_right _ h))) (by decide +kernel))) (goodIn_sub (fun _ h => List.mem_cons_of_mem _ (List.mem_append_right _ h)) (by decide +kernel))
set_option maxRecDepth 20000 in
theorem gL_reflected_X6_reflected : GoodIn wsL_reflected (wsV RL 27 RX6 yX6_reflected wsX6_reflected) := goodIn_app (goodIn_of _ (by decide +kernel)) ggL_reflected_X6_reflected
theorem dL_reflected_0 : decode cL_reflected 0 = .ok (.aload_n 0, 1) := by decide +kernel
theorem dL_reflected_1 : decode cL_reflected 1 = .ok (.iload_n 1, 1) := by decide +kernel
theorem dL_reflected_2 : decode cL_reflected 2 = .ok (.invokevirtual 27, 3) := by decide +kernel
theorem dL_reflected_5 : decode cL_reflected 5 = .ok (.ireturn, 1) := by decide +kernel
theorem dL_reflected_6 : decode cL_reflected 6 = .ok (.astore_n 2, 1) := by decide +kernel
theorem dL_reflected_7 : decode cL_reflected 7 = .ok (.ldc 17, 2) := by decide +kernel
theorem dL_reflected_9 : decode cL_reflected 9 = .ok (.ireturn, 1) := by decide +kernel
theorem dL_reflected_10 : decode cL_reflected 10 = .ok (.astore_n 2, 1) := by decide +kernel
theorem dL_reflected_11 : decode cL_reflected 11 = .ok (.ldc 20, 2) := by decide +kernel
theorem dL_reflected_13 : decode cL_reflected 13 = .ok (.ireturn, 1) := by decide +kernel
set_option maxRecDepth 20000 in
theorem ggL_words_X6_words : GoodIn wsL_words wsX6_words := goodIn_ca (goodIn_r _ [7, 8, 9, 10, 11, 6, 12, 13, 14, 15, 16, 17, 18, 19, 20, 21, 22, 23, 24, 25, 26, 27, 28, 29, 30, 31] (by decide +kernel) (by decide +kernel)) (goodIn_sub (fun _ h => List.mem_cons_of_mem _ (List.mem_append_right _ h)) (by decide +kernel))
set_option maxRecDepth 20000 in
theorem gL_words_X6_words : GoodIn wsL_words (wsV RL 30 RX6 yX6_words wsX6_words) := goodIn_app (goodIn_of _ (by decide +kernel)) ggL_words_X6_words
theorem dL_words_0 : decode cL_words 0 = .ok (.aload_n 0, 1) := by decide +kernel
theorem dL_words_1 : decode cL_words 1 = .ok (.iload_n 1, 1) := by decide +kernel
theorem dL_words_2 : decode cL_words 2 = .ok (.invokevirtual 30, 3) := by decide +kernel
theorem dL_words_5 : decode cL_words 5 = .ok (.ireturn, 1) := by decide +kernel
theorem dL_words_6 : decode cL_words 6 = .ok (.astore_n 2, 1) := by decide +kernel
theorem dL_words_7 : decode cL_words 7 = .ok (.ldc 17, 2) := by decide +kernel
theorem dL_words_9 : decode cL_words 9 = .ok (.ireturn, 1) := by decide +kernel
set_option maxRecDepth 20000 in
theorem ggL_tracks_X6_tracks : GoodIn wsL_tracks wsX6_tracks := goodIn_ca (goodIn_r _ [7, 8, 9, 10, 11, 6, 12, 13, 14, 15, 16, 17, 18, 19, 20, 21, 22, 23, 24, 25, 26, 27, 28, 29, 30, 31] (by decide +kernel) (by decide +kernel)) (goodIn_sub (fun _ h => List.mem_cons_of_mem _ (List.mem_append_right _ h)) (by decide +kernel))
set_option maxRecDepth 20000 in
theorem gL_tracks_X6_tracks : GoodIn wsL_tracks (wsV RL 35 RX6 yX6_tracks wsX6_tracks) := goodIn_app (goodIn_of _ (by decide +kernel)) ggL_tracks_X6_tracks
theorem dL_tracks_0 : decode cL_tracks 0 = .ok (.aload_n 0, 1) := by decide +kernel
theorem dL_tracks_1 : decode cL_tracks 1 = .ok (.iload_n 1, 1) := by decide +kernel
theorem dL_tracks_2 : decode cL_tracks 2 = .ok (.invokevirtual 35, 3) := by decide +kernel
theorem dL_tracks_5 : decode cL_tracks 5 = .ok (.ireturn, 1) := by decide +kernel
theorem dL_tracks_6 : decode cL_tracks 6 = .ok (.astore_n 2, 1) := by decide +kernel
theorem dL_tracks_7 : decode cL_tracks 7 = .ok (.ldc 17, 2) := by decide +kernel
theorem dL_tracks_9 : decode cL_tracks 9 = .ok (.ireturn, 1) := by decide +kernel
set_option maxRecDepth 20000 in
theorem ggL_word_X6_word : GoodIn wsL_word wsX6_word := goodIn_ca (goodIn_ca (goodIn_r _ [9, 10, 11, 12, 13, 14, 8, 15, 16, 17, 18, 19, 20, 21, 22, 23, 24, 25, 26, 27, 28, 29, 30, 31, 32, 33, 34, 35, 36, 37, 38, 39, 40, 41, 42, 43, 44, 45] (by decide +kernel) (by decide +kernel)) (goodIn_sub (fun _ h => List.mem_cons_of_mem _ (List.mem_append_left _ (List.mem_append_right _ h))) (by decide +kernel))) (goodIn_sub (fun _ h => List.mem_cons_of_mem _ (List.mem_append_right _ h)) (by decide +kernel))
set_option maxRecDepth 20000 in
theorem gL_word_X6_word : GoodIn wsL_word (wsV RL 38 RX6 yX6_word wsX6_word) := goodIn_app (goodIn_of _ (by decide +kernel)) ggL_word_X6_word
theorem dL_word_0 : decode cL_word 0 = .ok (.aload_n 0, 1) := by decide +kernel
theorem dL_word_1 : decode cL_word 1 = .ok (.iload_n 1, 1) := by decide +kernel
theorem dL_word_2 : decode cL_word 2 = .ok (.iload_n 2, 1) := by decide +kernel
theorem dL_word_3 : decode cL_word 3 = .ok (.invokevirtual 38, 3) := by decide +kernel
theorem dL_word_6 : decode cL_word 6 = .ok (.ireturn, 1) := by decide +kernel
theorem dL_word_7 : decode cL_word 7 = .ok (.astore_n 3, 1) := by decide +kernel
theorem dL_word_8 : decode cL_word 8 = .ok (.ldc 17, 2) := by decide +kernel
theorem dL_word_10 : decode cL_word 10 = .ok (.ireturn, 1) := by decide +kernel
theorem dL_word_11 : decode cL_word 11 = .ok (.astore_n 3, 1) := by decide +kernel
theorem dL_word_12 : decode cL_word 12 = .ok (.ldc 20, 2) := by decide +kernel
theorem dL_word_14 : decode cL_word 14 = .ok (.ireturn, 1) := by decide +kernel
set_option maxRecDepth 20000 in
theorem ggL_place_X6_place : GoodIn wsL_place wsX6_place := goodIn_ca (goodIn_ca (goodIn_ca (goodIn_r _ [11, 12, 13, 14, 15, 16, 17, 18, 10, 19, 20, 21, 22, 23, 24, 25, 26, 27, 28, 29, 30, 31, 32, 33, 34, 35, 36, 37, 38, 39, 40, 41, 42, 43, 44] (by decide +kernel) (by decide +kernel)) (goodIn_sub (fun _ h => List.mem_cons_of_mem _ (List.mem_append_left _ (List.mem_append_left _ (List.mem_append_right _ h)))) (by decide +kernel))) (goodIn_sub (fun _ h => List.mem_cons_of_mem _ (List.mem_append_left _ (List.mem_append_right _ h))) (by decide +kernel))) (goodIn_sub (fun _ h => List.mem_cons_of_mem _ (List.mem_append_right _ h)) (by decide +kernel))
set_option maxRecDepth 20000 in
theorem gL_place_X6_place : GoodIn wsL_place (wsV RL 42 RX6 yX6_place wsX6_place) := goodIn_app (goodIn_of _ (by decide +kernel)) ggL_place_X6_place
theorem dL_place_0 : decode cL_place 0 = .ok (.aload_n 0, 1) := by decide +kernel
theorem dL_place_1 : decode cL_place 1 = .ok (.iload_n 1, 1) := by decide +kernel
theorem dL_place_2 : decode cL_place 2 = .ok (.iload_n 2, 1) := by decide +kernel
theorem dL_place_3 : decode cL_place 3 = .ok (.invokevirtual 42, 3) := by decide +kernel
theorem dL_place_6 : decode cL_place 6 = .ok (.ireturn, 1) := by decide +kernel
theorem dL_place_7 : decode cL_place 7 = .ok (.astore_n 3, 1) := by decide +kernel
theorem dL_place_8 : decode cL_place 8 = .ok (.ldc 17, 2) := by decide +kernel
theorem dL_place_10 : decode cL_place 10 = .ok (.ireturn, 1) := by decide +kernel
theorem dL_place_11 : decode cL_place 11 = .ok (.astore_n 3, 1) := by decide +kernel
theorem dL_place_12 : decode cL_place 12 = .ok (.ldc 20, 2) := by decide +kernel
theorem dL_place_14 : decode cL_place 14 = .ok (.ireturn, 1) := by decide +kernel
theorem dL_place_15 : decode cL_place 15 = .ok (.astore_n 3, 1) := by decide +kernel
theorem dL_place_16 : decode cL_place 16 = .ok (.ldc 47, 2) := by decide +kernel
theorem dL_place_18 : decode cL_place 18 = .ok (.ireturn, 1) := by decide +kernel
set_option maxRecDepth 20000 in
theorem ggL_changes_X6_changes : GoodIn wsL_changes wsX6_changes := goodIn_ca (goodIn_ca (goodIn_r _ [9, 10, 11, 12, 13, 14, 8, 15, 16, 17, 18, 19, 20, 21, 22, 23, 24, 25, 26, 27, 28, 29, 30, 31, 32, 33, 34, 35, 36, 37, 38, 39, 40, 41, 42, 43, 44, 45, 46, 47, 48, 49, 50, 51, 52, 53, 54, 55, 56, 57, 58, 59] (by decide +kernel) (by decide +kernel)) (goodIn_sub (fun _ h => List.mem_cons_of_mem _ (List.mem_append_left _ (List.mem_append_right _ h))) (by decide +kernel))) (goodIn_sub (fun _ h => List.mem_cons_of_mem _ (List.mem_append_right _ h)) (by decide +kernel))
set_option maxRecDepth 20000 in
theorem gL_changes_X6_changes : GoodIn wsL_changes (wsV RL 48 RX6 yX6_changes wsX6_changes) := goodIn_app (goodIn_of _ (by decide +kernel)) ggL_changes_X6_changes
theorem dL_changes_0 : decode cL_changes 0 = .ok (.aload_n 0, 1) := by decide +kernel
theorem dL_changes_1 : decode cL_changes 1 = .ok (.iload_n 1, 1) := by decide +kernel
theorem dL_changes_2 : decode cL_changes 2 = .ok (.iload_n 2, 1) := by decide +kernel
theorem dL_changes_3 : decode cL_changes 3 = .ok (.invokevirtual 48, 3) := by decide +kernel
theorem dL_changes_6 : decode cL_changes 6 = .ok (.ireturn, 1) := by decide +kernel
theorem dL_changes_7 : decode cL_changes 7 = .ok (.astore_n 3, 1) := by decide +kernel
theorem dL_changes_8 : decode cL_changes 8 = .ok (.ldc 17, 2) := by decide +kernel
theorem dL_changes_10 : decode cL_changes 10 = .ok (.ireturn, 1) := by decide +kernel
theorem dL_changes_11 : decode cL_changes 11 = .ok (.astore_n 3, 1) := by decide +kernel
theorem dL_changes_12 : decode cL_changes 12 = .ok (.ldc 20, 2) := by decide +kernel
theorem dL_changes_14 : decode cL_changes 14 = .ok (.ireturn, 1) := by decide +kernel
set_option maxRecDepth 20000 in
theorem ggL_setDisc_X6_setDisc : GoodIn wsL_setDisc wsX6_setDisc := goodIn_ca (goodIn_ca (goodIn_r _ [9, 10, 11, 12, 13, 14, 15, 16, 17, 18, 19, 20, 8, 21, 22, 23, 24, 25, 26, 27, 28, 29, 30, 31, 32, 33, 34, 35, 36, 37, 38, 39, 40, 41, 42, 43, 44, 45, 46, 47, 48, 49, 50, 51, 52, 53, 54, 55, 56, 57, 58, 59, 60, 61, 62, 63, 64, 65, 66, 67, 68, 69, 70, 71, 72, 73, 74, 75, 76, 77, 78, 79, 80, 81, 82, 83, 84, 85, 86, 87, 88, 89, 90, 91, 92, 93, 94, 95, 96, 97, 98, 99, 100, 101, 102, 103, 104, 105, 106, 107, 108, 109, 110, 111, 112, 113, 114, 115, 116, 117, 118, 119, 120, 121, 122, 123, 124, 125, 126] (by decide +kernel) (by decide +kernel)) (goodIn_sub (fun _ h => List.mem_cons_of_mem _ (List.mem_append_left _ (List.mem_append_right _ h))) (by decide +kernel))) (goodIn_sub (fun _ h => List.mem_cons_of_mem _ (List.mem_append_right _ h)) (by decide +kernel))
set_option maxRecDepth 20000 in
theorem gL_setDisc_X6_setDisc : GoodIn wsL_setDisc (wsV RL 51 RX6 yX6_setDisc wsX6_setDisc) := goodIn_app (goodIn_of _ (by decide +kernel)) ggL_setDisc_X6_setDisc
theorem dL_setDisc_0 : decode cL_setDisc 0 = .ok (.aload_n 0, 1) := by decide +kernel
theorem dL_setDisc_1 : decode cL_setDisc 1 = .ok (.iload_n 1, 1) := by decide +kernel
theorem dL_setDisc_2 : decode cL_setDisc 2 = .ok (.iload_n 2, 1) := by decide +kernel
theorem dL_setDisc_3 : decode cL_setDisc 3 = .ok (.invokevirtual 51, 3) := by decide +kernel
theorem dL_setDisc_6 : decode cL_setDisc 6 = .ok (.ireturn, 1) := by decide +kernel
theorem dL_setDisc_7 : decode cL_setDisc 7 = .ok (.astore_n 3, 1) := by decide +kernel
theorem dL_setDisc_8 : decode cL_setDisc 8 = .ok (.ldc 17, 2) := by decide +kernel
theorem dL_setDisc_10 : decode cL_setDisc 10 = .ok (.ireturn, 1) := by decide +kernel
theorem dL_setDisc_11 : decode cL_setDisc 11 = .ok (.astore_n 3, 1) := by decide +kernel
theorem dL_setDisc_12 : decode cL_setDisc 12 = .ok (.ldc 20, 2) := by decide +kernel
theorem dL_setDisc_14 : decode cL_setDisc 14 = .ok (.ireturn, 1) := by decide +kernel
set_option maxRecDepth 20000 in
theorem ggL_angle_X6_angle : GoodIn wsL_angle wsX6_angle := goodIn_ca (goodIn_r _ [7, 8, 9, 10, 11, 6, 12, 13, 14, 15, 16, 17, 18, 19, 20, 21, 22, 23, 24, 25, 26, 27, 28, 29, 30, 31, 32] (by decide +kernel) (by decide +kernel)) (goodIn_sub (fun _ h => List.mem_cons_of_mem _ (List.mem_append_right _ h)) (by decide +kernel))
set_option maxRecDepth 20000 in
theorem gL_angle_X6_angle : GoodIn wsL_angle (wsV RL 54 RX6 yX6_angle wsX6_angle) := goodIn_app (goodIn_of _ (by decide +kernel)) ggL_angle_X6_angle
theorem dL_angle_0 : decode cL_angle 0 = .ok (.aload_n 0, 1) := by decide +kernel
theorem dL_angle_1 : decode cL_angle 1 = .ok (.invokevirtual 54, 3) := by decide +kernel
theorem dL_angle_4 : decode cL_angle 4 = .ok (.ireturn, 1) := by decide +kernel
theorem dL_angle_5 : decode cL_angle 5 = .ok (.astore_n 1, 1) := by decide +kernel
theorem dL_angle_6 : decode cL_angle 6 = .ok (.ldc 17, 2) := by decide +kernel
theorem dL_angle_8 : decode cL_angle 8 = .ok (.ireturn, 1) := by decide +kernel
set_option maxRecDepth 20000 in
theorem ggL_turn_X6_turn : GoodIn wsL_turn wsX6_turn := goodIn_ca (goodIn_ca (goodIn_r _ [9, 10, 11, 12, 13, 14, 15, 16, 17, 18, 19, 20, 21, 22, 8, 23, 24, 25, 26, 27, 28, 29, 30, 31, 32, 33, 34, 35, 36, 37, 38, 39, 40, 41, 42, 43, 44, 45, 46, 47, 48, 49, 50, 51, 52, 53, 54, 55, 56, 57, 58, 59, 60, 61, 62, 63, 64, 65, 66, 67, 68, 69, 70, 71, 72, 73, 74, 75, 76, 77, 78, 79, 80, 81, 82, 83, 84, 85, 86, 87, 88, 89, 90, 91, 92, 93, 94, 95, 96, 97, 98, 99, 100, 101, 102, 103, 104, 105, 106, 107, 108, 109, 110, 111, 112, 113, 114, 115, 116, 117, 118, 119, 120, 121, 122, 123, 124, 125, 126, 127, 128, 129, 130, 131, 132, 133, 134, 135, 136, 137, 138, 139, 140, 141, 142, 143, 144, 145, 146, 147, 148, 149, 150, 151, 152, 153, 154, 155, 156, 157, 158, 159, 160, 161, 162, 163, 164, 165, 166, 167] (by decide +kernel) (by decide +kernel)) (goodIn_sub (fun _ h => List.mem_cons_of_mem _ (List.mem_append_left _ (List.mem_append_right _ h))) (by decide +kernel))) (goodIn_sub (fun _ h => List.mem_cons_of_mem _ (List.mem_append_right _ h)) (by decide +kernel))
set_option maxRecDepth 20000 in
theorem gL_turn_X6_turn : GoodIn wsL_turn (wsV RL 57 RX6 yX6_turn wsX6_turn) := goodIn_app (goodIn_of _ (by decide +kernel)) ggL_turn_X6_turn
theorem dL_turn_0 : decode cL_turn 0 = .ok (.aload_n 0, 1) := by decide +kernel
theorem dL_turn_1 : decode cL_turn 1 = .ok (.iload_n 1, 1) := by decide +kernel
theorem dL_turn_2 : decode cL_turn 2 = .ok (.invokevirtual 57, 3) := by decide +kernel
theorem dL_turn_5 : decode cL_turn 5 = .ok (.ireturn, 1) := by decide +kernel
theorem dL_turn_6 : decode cL_turn 6 = .ok (.astore_n 2, 1) := by decide +kernel
theorem dL_turn_7 : decode cL_turn 7 = .ok (.ldc 17, 2) := by decide +kernel
theorem dL_turn_9 : decode cL_turn 9 = .ok (.ireturn, 1) := by decide +kernel
theorem dL_turn_10 : decode cL_turn 10 = .ok (.astore_n 2, 1) := by decide +kernel
theorem dL_turn_11 : decode cL_turn 11 = .ok (.ldc 20, 2) := by decide +kernel
theorem dL_turn_13 : decode cL_turn 13 = .ok (.ireturn, 1) := by decide +kernel
set_option maxRecDepth 20000 in
theorem ggL_isBalanced_X6_isBalanced : GoodIn wsL_isBalanced wsX6_isBalanced := goodIn_ca (goodIn_r _ [7, 8, 9, 10, 6, 11, 12, 13, 14, 15, 16, 17, 18, 19, 20, 21, 22, 23, 24, 25, 26, 27, 28, 29, 30, 31, 32, 33, 34, 35, 36, 37, 38, 39, 40, 41, 42, 43, 44, 45, 46, 47, 48, 49, 50, 51, 52, 53, 54, 55, 56, 57, 58, 59, 60, 61, 62] (by decide +kernel) (by decide +kernel)) (goodIn_sub (fun _ h => List.mem_cons_of_mem _ (List.mem_append_right _ h)) (by decide +kernel))
set_option maxRecDepth 20000 in
theorem gL_isBalanced_X6_isBalanced : GoodIn wsL_isBalanced (wsV RL 60 RX6 yX6_isBalanced wsX6_isBalanced) := goodIn_app (goodIn_of _ (by decide +kernel)) ggL_isBalanced_X6_isBalanced
theorem dL_isBalanced_0 : decode cL_isBalanced 0 = .ok (.aload_n 0, 1) := by decide +kernel
theorem dL_isBalanced_1 : decode cL_isBalanced 1 = .ok (.iload_n 1, 1) := by decide +kernel
theorem dL_isBalanced_2 : decode cL_isBalanced 2 = .ok (.invokevirtual 60, 3) := by decide +kernel
theorem dL_isBalanced_5 : decode cL_isBalanced 5 = .ok (.ifCond .eq 7, 3) := by decide +kernel
theorem dL_isBalanced_8 : decode cL_isBalanced 8 = .ok (.iconst 1, 1) := by decide +kernel
theorem dL_isBalanced_9 : decode cL_isBalanced 9 = .ok (.goto 4, 3) := by decide +kernel
theorem dL_isBalanced_12 : decode cL_isBalanced 12 = .ok (.iconst 0, 1) := by decide +kernel
theorem dL_isBalanced_13 : decode cL_isBalanced 13 = .ok (.ireturn, 1) := by decide +kernel
theorem dL_isBalanced_14 : decode cL_isBalanced 14 = .ok (.astore_n 2, 1) := by decide +kernel
theorem dL_isBalanced_15 : decode cL_isBalanced 15 = .ok (.ldc 17, 2) := by decide +kernel
theorem dL_isBalanced_17 : decode cL_isBalanced 17 = .ok (.ireturn, 1) := by decide +kernel
set_option maxRecDepth 20000 in
theorem ggL_isOneTrack_X6_isOneTrack : GoodIn wsL_isOneTrack wsX6_isOneTrack := goodIn_ca (goodIn_r _ [7, 8, 9, 10, 6, 11, 12, 13, 14, 15, 16, 17, 18, 19, 20, 21, 22, 23, 24, 25, 26, 27, 28, 29, 30, 31, 32, 33, 34, 35, 36, 37, 38, 39, 40, 41, 42, 43, 44, 45, 46, 47, 48, 49, 50, 51, 52, 53, 54, 55, 56, 57, 58, 59] (by decide +kernel) (by decide +kernel)) (goodIn_sub (fun _ h => List.mem_cons_of_mem _ (List.mem_append_right _ h)) (by decide +kernel))
set_option maxRecDepth 20000 in
theorem gL_isOneTrack_X6_isOneTrack : GoodIn wsL_isOneTrack (wsV RL 64 RX6 yX6_isOneTrack wsX6_isOneTrack) := goodIn_app (goodIn_of _ (by decide +kernel)) ggL_isOneTrack_X6_isOneTrack
theorem dL_isOneTrack_0 : decode cL_isOneTrack 0 = .ok (.aload_n 0, 1) := by decide +kernel
theorem dL_isOneTrack_1 : decode cL_isOneTrack 1 = .ok (.iload_n 1, 1) := by decide +kernel
theorem dL_isOneTrack_2 : decode cL_isOneTrack 2 = .ok (.invokevirtual 64, 3) := by decide +kernel
theorem dL_isOneTrack_5 : decode cL_isOneTrack 5 = .ok (.ifCond .eq 7, 3) := by decide +kernel
theorem dL_isOneTrack_8 : decode cL_isOneTrack 8 = .ok (.iconst 1, 1) := by decide +kernel
theorem dL_isOneTrack_9 : decode cL_isOneTrack 9 = .ok (.goto 4, 3) := by decide +kernel
theorem dL_isOneTrack_12 : decode cL_isOneTrack 12 = .ok (.iconst 0, 1) := by decide +kernel
theorem dL_isOneTrack_13 : decode cL_isOneTrack 13 = .ok (.ireturn, 1) := by decide +kernel
theorem dL_isOneTrack_14 : decode cL_isOneTrack 14 = .ok (.astore_n 2, 1) := by decide +kernel
theorem dL_isOneTrack_15 : decode cL_isOneTrack 15 = .ok (.ldc 17, 2) := by decide +kernel
theorem dL_isOneTrack_17 : decode cL_isOneTrack 17 = .ok (.ireturn, 1) := by decide +kernel
set_option maxRecDepth 20000 in
theorem ggL_in_L_cell : GoodIn wsL_in wsL_cell := goodIn_r _ [5, 6, 7] (by decide +kernel) (by decide +kernel)
set_option maxRecDepth 20000 in
theorem gL_in_L_cell : GoodIn wsL_in (va_wsS RL 67 yL_cell wsL_cell) := goodIn_app (goodIn_of _ (by decide +kernel)) ggL_in_L_cell
theorem dL_in_0 : decode cL_in 0 = .ok (.aload_n 0, 1) := by decide +kernel
theorem dL_in_1 : decode cL_in 1 = .ok (.iload_n 1, 1) := by decide +kernel
theorem dL_in_2 : decode cL_in 2 = .ok (.invokestatic 67, 3) := by decide +kernel
theorem dL_in_5 : decode cL_in 5 = .ok (.ldc 73, 2) := by decide +kernel
theorem dL_in_7 : decode cL_in 7 = .ok (.iand, 1) := by decide +kernel
theorem dL_in_8 : decode cL_in 8 = .ok (.iload_n 2, 1) := by decide +kernel
theorem dL_in_9 : decode cL_in 9 = .ok (.irem, 1) := by decide +kernel
theorem dL_in_10 : decode cL_in 10 = .ok (.ireturn, 1) := by decide +kernel
set_option maxRecDepth 20000 in
theorem ggL_law_X6_init : GoodIn wsL_law wsX6_init := goodIn_r _ [9, 10, 11, 12, 4, 13, 14, 15, 16, 17, 18, 19, 20, 21, 22, 23, 24, 25, 26, 27, 423, 424, 425, 426, 427, 428, 429, 430, 431, 432, 433, 434, 435, 436, 437, 438] (by decide +kernel) (by decide +kernel)
set_option maxRecDepth 20000 in
theorem gL_law_X6_init : GoodIn wsL_law (wsX6_init) := ggL_law_X6_init
set_option maxRecDepth 20000 in
theorem ggL_law_L_ring : GoodIn wsL_law wsL_ring := goodIn_ca (goodIn_ca (goodIn_r _ [31, 32, 33, 3, 5, 34, 35, 36, 2, 37, 38, 39, 40, 41, 42, 15, 13, 43, 44, 45, 46, 47, 48, 49, 50, 51, 52, 53, 54, 55, 56, 57, 58, 59, 60, 61, 62, 63, 64, 65, 66, 67, 4, 68, 69, 70, 71, 72, 73, 74, 75, 76, 77, 78, 79, 14, 80, 81, 82, 83, 84, 85, 11, 12, 86, 87, 88, 89, 90, 91, 423, 424, 425, 426, 427, 428, 429, 430, 431, 439, 440, 441] (by decide +kernel) (by decide +kernel)) (goodIn_sub (fun _ h => List.mem_append_left _ (List.mem_append_left _ (List.mem_append_left _ (List.mem_append_left _ (List.mem_append_right _ h))))) (by decide +kernel))) (goodIn_sub (fun _ h => List.mem_append_left _ (List.mem_append_left _ (List.mem_append_left _ (List.mem_append_right _ h)))) (by decide +kernel))
set_option maxRecDepth 20000 in
theorem gL_law_L_ring : GoodIn wsL_law (va_wsS RL 75 yL_ring wsL_ring) := goodIn_app (goodIn_of _ (by decide +kernel)) ggL_law_L_ring
set_option maxRecDepth 20000 in
theorem ggL_law_L_type : GoodIn wsL_law wsL_type := goodIn_ca (goodIn_ca (goodIn_r _ [94, 95, 33, 3, 5, 96, 97, 98, 2, 99, 100, 101, 40, 41, 43, 13, 102, 103, 104, 423, 424, 425, 426, 427, 428, 429, 430, 431] (by decide +kernel) (by decide +kernel)) (goodIn_sub (fun _ h => List.mem_append_left _ (List.mem_append_left _ (List.mem_append_right _ h))) (by decide +kernel))) (goodIn_sub (fun _ h => List.mem_append_left _ (List.mem_append_left _ (List.mem_append_left _ (List.mem_append_right _ h)))) (by decide +kernel))
set_option maxRecDepth 20000 in
theorem gL_law_L_type : GoodIn wsL_law (va_wsS RL 78 yL_type wsL_type) := goodIn_app (goodIn_of _ (by decide +kernel)) ggL_law_L_type
set_option maxRecDepth 20000 in
theorem ggL_law_L_reflected : GoodIn wsL_law wsL_reflected := goodIn_ca (goodIn_ca (goodIn_r _ [107, 95, 33, 3, 5, 108, 109, 110, 2, 111, 100, 101, 40, 41, 42, 15, 4, 102, 103, 104, 76, 77, 78, 79, 14, 80, 81, 82, 83, 84, 85, 11, 12, 86, 87, 88, 89, 90, 60, 91, 423, 424, 425, 426, 427, 428, 429, 430, 431, 439, 440, 441] (by decide +kernel) (by decide +kernel)) (goodIn_sub (fun _ h => List.mem_append_left _ (List.mem_append_left _ (List.mem_append_right _ h))) (by decide +kernel))) (goodIn_sub (fun _ h => List.mem_append_left _ (List.mem_append_left _ (List.mem_append_left _ (List.mem_append_right _ h)))) (by decide +kernel))
set_option maxRecDepth 20000 in
theorem gL_law_L_reflected : GoodIn wsL_law (va_wsS RL 81 yL_reflected wsL_reflected) := goodIn_app (goodIn_of _ (by decide +kernel)) ggL_law_L_reflected
set_option maxRecDepth 20000 in
theorem ggL_law_L_words : GoodIn wsL_law wsL_words := goodIn_ca (goodIn_r _ [114, 115, 3, 116, 117, 118, 2, 119, 120, 121, 122, 123, 124, 125, 126, 42, 15, 102, 103, 104, 439, 440, 441, 423, 424, 425, 426, 427, 428, 429, 430, 431] (by decide +kernel) (by decide +kernel)) (goodIn_sub (fun _ h => List.mem_append_left _ (List.mem_append_right _ h)) (by decide +kernel))
set_option maxRecDepth 20000 in
theorem gL_law_L_words : GoodIn wsL_law (va_wsS RL 83 yL_words wsL_words) := goodIn_app (goodIn_of _ (by decide +kernel)) ggL_law_L_words
set_option maxRecDepth 20000 in
theorem ggL_law_L_angle : GoodIn wsL_law wsL_angle := goodIn_ca (goodIn_r _ [129, 32, 3, 130, 131, 132, 2, 133, 134, 135, 136, 137, 138, 38, 39, 139, 442, 443, 444, 445, 446, 447, 448, 449, 423, 424, 425, 426, 427, 428, 429, 430, 431] (by decide +kernel) (by decide +kernel)) (goodIn_sub (fun _ h => List.mem_append_left _ (List.mem_append_left _ (List.mem_append_left _ (List.mem_append_left _ (List.mem_append_right _ h))))) (by decide +kernel))
set_option maxRecDepth 20000 in
theorem gL_law_L_angle : GoodIn wsL_law (va_wsS RL 85 yL_angle wsL_angle) := goodIn_app (goodIn_of _ (by decide +kernel)) ggL_law_L_angle
set_option maxRecDepth 20000 in
theorem ggL_law_L_turn : GoodIn wsL_law wsL_turn := goodIn_ca (goodIn_ca (goodIn_r _ [142, 32, 95, 3, 5, 143, 144, 145, 2, 146, 100, 101, 147, 148, 149, 150, 134, 16, 17, 151, 135, 136, 137, 138, 38, 39, 139, 102, 103, 104, 152, 153, 154, 155, 156, 157, 158, 159, 160, 161, 162, 163, 164, 165, 166, 167, 168, 169, 170, 171, 172, 173, 174, 175, 176, 177, 178, 179, 180, 181, 182, 183, 184, 185, 186, 187, 188, 189, 190, 191, 192, 193, 194, 195, 196, 197, 198, 199, 200, 201, 202, 203, 204, 205, 81, 206, 87, 207, 208, 209, 210, 211, 212, 213, 214, 86, 215, 216, 217, 218, 219, 220, 221, 222, 223, 224, 225, 226, 227, 70, 228, 229, 230, 231, 232, 233, 234, 235, 236, 237, 238, 239, 240, 241, 242, 243, 244, 245, 246, 247, 248, 73, 74, 75, 442, 443, 444, 445, 446, 447, 448, 449, 450, 451, 452, 453, 454, 423, 424, 425, 426, 427, 428, 429, 430, 431, 455, 456, 457, 458, 459, 460, 461, 462, 463, 439, 440, 441] (by decide +kernel) (by decide +kernel)) (goodIn_sub (fun _ h => List.mem_append_left _ (List.mem_append_left _ (List.mem_append_right _ h))) (by decide +kernel))) (goodIn_sub (fun _ h => List.mem_append_left _ (List.mem_append_left _ (List.mem_append_left _ (List.mem_append_left _ (List.mem_append_right _ h))))) (by decide +kernel))
set_option maxRecDepth 20000 in
theorem gL_law_L_turn : GoodIn wsL_law (va_wsS RL 87 yL_turn wsL_turn) := goodIn_app (goodIn_of _ (by decide +kernel)) ggL_law_L_turn
set_option maxRecDepth 20000 in
theorem ggL_law_L_in : GoodIn wsL_law wsL_in := goodIn_r _ [251, 252, 253, 254, 30, 255, 256, 257] (by decide +kernel) (by decide +kernel)
set_option maxRecDepth 20000 in
theorem gL_law_L_in : GoodIn wsL_law (va_wsS RL 89 yL_in wsL_in) := goodIn_app (goodIn_of _ (by decide +kernel)) ggL_law_L_in
set_option maxRecDepth 20000 in
theorem ggL_law_X6_wipe : GoodIn wsL_law wsX6_wipe := goodIn_r _ [261, 43, 423, 424, 425, 426, 427, 428, 429, 430, 431] (by decide +kernel) (by decide +kernel)
set_option maxRecDepth 20000 in
theorem gL_law_X6_wipe : GoodIn wsL_law (wsV RL 93 RX6 yX6_wipe wsX6_wipe) := goodIn_app (goodIn_of _ (by decide +kernel)) ggL_law_X6_wipe
set_option maxRecDepth 20000 in
theorem ggL_law_L_tracks : GoodIn wsL_law wsL_tracks := goodIn_ca (goodIn_r _ [264, 115, 3, 265, 266, 267, 2, 268, 269, 121, 122, 123, 124, 125, 126, 42, 15, 102, 103, 104, 439, 440, 441, 423, 424, 425, 426, 427, 428, 429, 430, 431] (by decide +kernel) (by decide +kernel)) (goodIn_sub (fun _ h => List.mem_append_left _ (List.mem_append_right _ h)) (by decide +kernel))
set_option maxRecDepth 20000 in
theorem gL_law_L_tracks : GoodIn wsL_law (va_wsS RL 96 yL_tracks wsL_tracks) := goodIn_app (goodIn_of _ (by decide +kernel)) ggL_law_L_tracks
set_option maxRecDepth 20000 in
theorem ggL_law_L_changes : GoodIn wsL_law wsL_changes := goodIn_ca (goodIn_ca (goodIn_r _ [272, 115, 95, 3, 5, 273, 274, 275, 2, 276, 100, 101, 121, 122, 123, 124, 125, 126, 42, 15, 102, 103, 104, 277, 278, 279, 81, 280, 88, 281, 282, 283, 284, 87, 161, 162, 285, 286, 287, 288, 289, 204, 205, 206, 207, 208, 209, 210, 423, 424, 425, 426, 427, 428, 429, 430, 431, 439, 440, 441] (by decide +kernel) (by decide +kernel)) (goodIn_sub (fun _ h => List.mem_append_left _ (List.mem_append_left _ (List.mem_append_right _ h))) (by decide +kernel))) (goodIn_sub (fun _ h => List.mem_append_left _ (List.mem_append_right _ h)) (by decide +kernel))
set_option maxRecDepth 20000 in
theorem gL_law_L_changes : GoodIn wsL_law (va_wsS RL 98 yL_changes wsL_changes) := goodIn_app (goodIn_of _ (by decide +kernel)) ggL_law_L_changes
set_option maxRecDepth 20000 in
theorem ggL_law_L_isBalanced : GoodIn wsL_law wsL_isBalanced := goodIn_ca (goodIn_r _ [292, 115, 3, 293, 294, 295, 2, 296, 121, 122, 123, 124, 125, 126, 42, 15, 102, 103, 104, 297, 298, 299, 81, 300, 87, 88, 301, 69, 70, 71, 302, 303, 304, 305, 282, 283, 284, 161, 162, 285, 286, 287, 288, 289, 204, 205, 206, 207, 208, 209, 210, 423, 424, 425, 426, 427, 428, 429, 430, 431, 439, 440, 441] (by decide +kernel) (by decide +kernel)) (goodIn_sub (fun _ h => List.mem_append_left _ (List.mem_append_right _ h)) (by decide +kernel))
set_option maxRecDepth 20000 in
theorem gL_law_L_isBalanced : GoodIn wsL_law (va_wsS RL 101 yL_isBalanced wsL_isBalanced) := goodIn_app (goodIn_of _ (by decide +kernel)) ggL_law_L_isBalanced
set_option maxRecDepth 20000 in
theorem ggL_law_L_isOneTrack : GoodIn wsL_law wsL_isOneTrack := goodIn_ca (goodIn_r _ [308, 115, 3, 309, 310, 311, 2, 312, 121, 122, 123, 124, 125, 126, 42, 15, 102, 103, 104, 313, 314, 315, 81, 316, 88, 317, 318, 319, 320, 87, 321, 322, 323, 324, 285, 286, 287, 288, 289, 204, 205, 206, 207, 208, 209, 210, 161, 162, 423, 424, 425, 426, 427, 428, 429, 430, 431, 439, 440, 441] (by decide +kernel) (by decide +kernel)) (goodIn_sub (fun _ h => List.mem_append_left _ (List.mem_append_right _ h)) (by decide +kernel))
set_option maxRecDepth 20000 in
theorem gL_law_L_isOneTrack : GoodIn wsL_law (va_wsS RL 103 yL_isOneTrack wsL_isOneTrack) := goodIn_app (goodIn_of _ (by decide +kernel)) ggL_law_L_isOneTrack
set_option maxRecDepth 20000 in
theorem ggL_law_L_place : GoodIn wsL_law wsL_place := goodIn_ca (goodIn_ca (goodIn_ca (goodIn_r _ [327, 115, 95, 328, 3, 5, 6, 329, 330, 331, 2, 332, 100, 101, 333, 334, 121, 122, 123, 124, 125, 126, 42, 15, 102, 103, 104, 335, 212, 213, 81, 214, 86, 423, 424, 425, 426, 427, 428, 429, 430, 431, 439, 440, 441] (by decide +kernel) (by decide +kernel)) (goodIn_sub (fun _ h => List.mem_append_left _ (List.mem_append_left _ (List.mem_append_right _ h))) (by decide +kernel))) (goodIn_sub (fun _ h => List.mem_append_right _ h) (by decide +kernel))) (goodIn_sub (fun _ h => List.mem_append_left _ (List.mem_append_right _ h)) (by decide +kernel))
set_option maxRecDepth 20000 in
theorem gL_law_L_place : GoodIn wsL_law (va_wsS RL 105 yL_place wsL_place) := goodIn_app (goodIn_of _ (by decide +kernel)) ggL_law_L_place
set_option maxRecDepth 20000 in
theorem ggL_law_L_word : GoodIn wsL_law wsL_word := goodIn_ca (goodIn_ca (goodIn_r _ [338, 115, 95, 3, 5, 339, 340, 341, 2, 342, 100, 101, 121, 122, 123, 124, 125, 126, 42, 15, 102, 103, 104, 343, 208, 209, 81, 210, 87, 344, 204, 205, 206, 207, 423, 424, 425, 426, 427, 428, 429, 430, 431, 439, 440, 441] (by decide +kernel) (by decide +kernel)) (goodIn_sub (fun _ h => List.mem_append_left _ (List.mem_append_left _ (List.mem_append_right _ h))) (by decide +kernel))) (goodIn_sub (fun _ h => List.mem_append_left _ (List.mem_append_right _ h)) (by decide +kernel))
set_option maxRecDepth 20000 in
theorem gL_law_L_word : GoodIn wsL_law (va_wsS RL 107 yL_word wsL_word) := goodIn_app (goodIn_of _ (by decide +kernel)) ggL_law_L_word
set_option maxRecDepth 20000 in
theorem ggL_law_L_setDisc : GoodIn wsL_law wsL_setDisc := goodIn_ca (goodIn_ca (goodIn_r _ [347, 115, 95, 3, 5, 348, 349, 350, 2, 351, 100, 101, 352, 353, 155, 139, 21, 354, 121, 122, 123, 124, 125, 126, 42, 15, 102, 103, 104, 355, 356, 357, 358, 11, 12, 359, 360, 176, 361, 362, 363, 364, 365, 366, 367, 368, 166, 160, 369, 158, 370, 4, 371, 372, 373, 374, 179, 247, 375, 376, 377, 378, 379, 380, 381, 382, 383, 169, 189, 170, 190, 191, 171, 202, 172, 184, 384, 385, 386, 20, 387, 388, 389, 442, 443, 444, 445, 446, 447, 448, 449, 423, 424, 425, 426, 427, 428, 429, 430, 431, 450, 451, 452, 453, 454, 464, 465, 466, 455, 456, 457, 458, 459, 460, 461, 462, 463, 439, 440, 441, 432, 433, 434, 435, 436, 437, 438] (by decide +kernel) (by decide +kernel)) (goodIn_sub (fun _ h => List.mem_append_left _ (List.mem_append_left _ (List.mem_append_right _ h))) (by decide +kernel))) (goodIn_sub (fun _ h => List.mem_append_left _ (List.mem_append_right _ h)) (by decide +kernel))
set_option maxRecDepth 20000 in
theorem gL_law_L_setDisc : GoodIn wsL_law (va_wsS RL 109 yL_setDisc wsL_setDisc) := goodIn_app (goodIn_of _ (by decide +kernel)) ggL_law_L_setDisc
set_option maxRecDepth 20000 in
theorem ggL_law_X6_isSound : GoodIn wsL_law wsX6_isSound := goodIn_r _ [393, 42, 15, 120, 139, 394, 368, 166, 150, 395, 147, 396, 354, 397, 398, 48, 49, 2, 50, 51, 52, 53, 54, 55, 56, 57, 399, 381, 382, 383, 11, 12, 4, 169, 189, 170, 190, 191, 171, 202, 172, 184, 102, 103, 104, 400, 401, 402, 364, 403, 404, 379, 405, 406, 407, 408, 378, 409, 410, 411, 412, 161, 162, 413, 414, 415, 416, 215, 216, 217, 218, 417, 418, 419, 420, 421, 181, 182, 183, 185, 186, 187, 188, 168, 192, 193, 194, 195, 196, 197, 198, 199, 200, 201, 203, 204, 205, 81, 206, 87, 207, 208, 209, 210, 211, 212, 213, 214, 86, 422, 234, 235, 236, 230, 231, 232, 423, 424, 425, 426, 427, 428, 429, 430, 431, 439, 440, 441, 455, 456, 457, 458, 459, 460, 461, 462, 463, 442, 443, 444, 445, 446, 447, 448, 449, 450, 451, 452, 453, 454, 464, 465, 466] (by decide +kernel) (by decide +kernel)
set_option maxRecDepth 20000 in
theorem gL_law_X6_isSound : GoodIn wsL_law (wsV RL 111 RX6 yX6_isSound wsX6_isSound) := goodIn_app (goodIn_of _ (by decide +kernel)) ggL_law_X6_isSound
abbrev vwCl : List vw_C := [(RX0, TX0, 3), (RX1, TX1, 8), (RX2, TX2, 7), (RX3, TX3, 3), (RX4, TX4, 9), (RX5, TX5, 5), (RX6, TX6, 9)]
end
section
theorem dL_law_0 : decode cL_law 0 = .ok (.new 10, 3) := by decide +kernel
theorem dL_law_3 : decode cL_law 3 = .ok (.dup, 1) := by decide +kernel
theorem dL_law_4 : decode cL_law 4 = .ok (.invokespecial 74, 3) := by decide +kernel
theorem dL_law_7 : decode cL_law 7 = .ok (.astore_n 1, 1) := by decide +kernel
theorem dL_law_8 : decode cL_law 8 = .ok (.aload_n 1, 1) := by decide +kernel
theorem dL_law_9 : decode cL_law 9 = .ok (.invokestatic 75, 3) := by decide +kernel
theorem dL_law_12 : decode cL_law 12 = .ok (.ldc 17, 2) := by decide +kernel
theorem dL_law_14 : decode cL_law 14 = .ok (.if_icmp .ne 69, 3) := by decide +kernel
theorem dL_law_17 : decode cL_law 17 = .ok (.aload_n 1, 1) := by decide +kernel
theorem dL_law_18 : decode cL_law 18 = .ok (.sipush 256, 3) := by decide +kernel
theorem dL_law_21 : decode cL_law 21 = .ok (.invokestatic 78, 3) := by decide +kernel
theorem dL_law_24 : decode cL_law 24 = .ok (.ldc 17, 2) := by decide +kernel
theorem dL_law_26 : decode cL_law 26 = .ok (.if_icmp .ne 57, 3) := by decide +kernel
theorem dL_law_29 : decode cL_law 29 = .ok (.aload_n 1, 1) := by decide +kernel
theorem dL_law_30 : decode cL_law 30 = .ok (.bipush 7, 2) := by decide +kernel
theorem dL_law_32 : decode cL_law 32 = .ok (.invokestatic 81, 3) := by decide +kernel
theorem dL_law_35 : decode cL_law 35 = .ok (.ldc 17, 2) := by decide +kernel
theorem dL_law_37 : decode cL_law 37 = .ok (.if_icmp .ne 46, 3) := by decide +kernel
theorem dL_law_40 : decode cL_law 40 = .ok (.aload_n 1, 1) := by decide +kernel
theorem dL_law_41 : decode cL_law 41 = .ok (.iconst 1, 1) := by decide +kernel
theorem dL_law_42 : decode cL_law 42 = .ok (.invokestatic 81, 3) := by decide +kernel
theorem dL_law_45 : decode cL_law 45 = .ok (.ldc 17, 2) := by decide +kernel
theorem dL_law_47 : decode cL_law 47 = .ok (.if_icmp .ne 36, 3) := by decide +kernel
theorem dL_law_50 : decode cL_law 50 = .ok (.aload_n 1, 1) := by decide +kernel
theorem dL_law_51 : decode cL_law 51 = .ok (.iconst 0, 1) := by decide +kernel
theorem dL_law_52 : decode cL_law 52 = .ok (.invokestatic 83, 3) := by decide +kernel
theorem dL_law_55 : decode cL_law 55 = .ok (.ldc 17, 2) := by decide +kernel
theorem dL_law_57 : decode cL_law 57 = .ok (.if_icmp .ne 26, 3) := by decide +kernel
theorem dL_law_60 : decode cL_law 60 = .ok (.aload_n 1, 1) := by decide +kernel
theorem dL_law_61 : decode cL_law 61 = .ok (.invokestatic 85, 3) := by decide +kernel
theorem dL_law_64 : decode cL_law 64 = .ok (.ldc 17, 2) := by decide +kernel
theorem dL_law_66 : decode cL_law 66 = .ok (.if_icmp .ne 17, 3) := by decide +kernel
theorem dL_law_69 : decode cL_law 69 = .ok (.aload_n 1, 1) := by decide +kernel
theorem dL_law_70 : decode cL_law 70 = .ok (.iconst 0, 1) := by decide +kernel
theorem dL_law_71 : decode cL_law 71 = .ok (.invokestatic 87, 3) := by decide +kernel
theorem dL_law_74 : decode cL_law 74 = .ok (.ldc 17, 2) := by decide +kernel
theorem dL_law_76 : decode cL_law 76 = .ok (.if_icmp .ne 7, 3) := by decide +kernel
theorem dL_law_79 : decode cL_law 79 = .ok (.iconst 1, 1) := by decide +kernel
theorem dL_law_80 : decode cL_law 80 = .ok (.goto 4, 3) := by decide +kernel
theorem dL_law_83 : decode cL_law 83 = .ok (.iconst 0, 1) := by decide +kernel
theorem dL_law_84 : decode cL_law 84 = .ok (.istore_n 2, 1) := by decide +kernel
theorem dL_law_85 : decode cL_law 85 = .ok (.iconst 0, 1) := by decide +kernel
theorem dL_law_86 : decode cL_law 86 = .ok (.istore_n 3, 1) := by decide +kernel
theorem dL_law_87 : decode cL_law 87 = .ok (.iconst 0, 1) := by decide +kernel
theorem dL_law_88 : decode cL_law 88 = .ok (.istore 4, 2) := by decide +kernel
theorem dL_law_90 : decode cL_law 90 = .ok (.iload 4, 2) := by decide +kernel
theorem dL_law_92 : decode cL_law 92 = .ok (.bipush 6, 2) := by decide +kernel
theorem dL_law_94 : decode cL_law 94 = .ok (.if_icmp .ge 961, 3) := by decide +kernel
theorem dL_law_97 : decode cL_law 97 = .ok (.aload_n 0, 1) := by decide +kernel
theorem dL_law_98 : decode cL_law 98 = .ok (.iload 4, 2) := by decide +kernel
theorem dL_law_100 : decode cL_law 100 = .ok (.iconst 4, 1) := by decide +kernel
theorem dL_law_101 : decode cL_law 101 = .ok (.invokestatic 89, 3) := by decide +kernel
theorem dL_law_104 : decode cL_law 104 = .ok (.istore 5, 2) := by decide +kernel
theorem dL_law_106 : decode cL_law 106 = .ok (.bipush 64, 2) := by decide +kernel
theorem dL_law_108 : decode cL_law 108 = .ok (.newarray .int, 2) := by decide +kernel
theorem dL_law_110 : decode cL_law 110 = .ok (.astore 6, 2) := by decide +kernel
theorem dL_law_112 : decode cL_law 112 = .ok (.iconst 0, 1) := by decide +kernel
theorem dL_law_113 : decode cL_law 113 = .ok (.istore 7, 2) := by decide +kernel
theorem dL_law_115 : decode cL_law 115 = .ok (.iload 5, 2) := by decide +kernel
theorem dL_law_117 : decode cL_law 117 = .ok (.ifCond .ne 77, 3) := by decide +kernel
theorem dL_law_120 : decode cL_law 120 = .ok (.iload_n 3, 1) := by decide +kernel
theorem dL_law_121 : decode cL_law 121 = .ok (.iconst 4, 1) := by decide +kernel
theorem dL_law_122 : decode cL_law 122 = .ok (.if_icmp .ge 72, 3) := by decide +kernel
theorem dL_law_125 : decode cL_law 125 = .ok (.iconst 2, 1) := by decide +kernel
theorem dL_law_126 : decode cL_law 126 = .ok (.aload_n 0, 1) := by decide +kernel
theorem dL_law_127 : decode cL_law 127 = .ok (.bipush 10, 2) := by decide +kernel
theorem dL_law_129 : decode cL_law 129 = .ok (.iload 4, 2) := by decide +kernel
theorem dL_law_131 : decode cL_law 131 = .ok (.iadd, 1) := by decide +kernel
theorem dL_law_132 : decode cL_law 132 = .ok (.iconst 4, 1) := by decide +kernel
theorem dL_law_133 : decode cL_law 133 = .ok (.invokestatic 89, 3) := by decide +kernel
theorem dL_law_136 : decode cL_law 136 = .ok (.iadd, 1) := by decide +kernel
theorem dL_law_137 : decode cL_law 137 = .ok (.istore 8, 2) := by decide +kernel
theorem dL_law_139 : decode cL_law 139 = .ok (.iconst 1, 1) := by decide +kernel
theorem dL_law_140 : decode cL_law 140 = .ok (.iload 8, 2) := by decide +kernel
theorem dL_law_142 : decode cL_law 142 = .ok (.ishl, 1) := by decide +kernel
theorem dL_law_143 : decode cL_law 143 = .ok (.istore 7, 2) := by decide +kernel
theorem dL_law_145 : decode cL_law 145 = .ok (.iconst 0, 1) := by decide +kernel
theorem dL_law_146 : decode cL_law 146 = .ok (.istore 9, 2) := by decide +kernel
theorem dL_law_148 : decode cL_law 148 = .ok (.iload 9, 2) := by decide +kernel
theorem dL_law_150 : decode cL_law 150 = .ok (.iload 7, 2) := by decide +kernel
theorem dL_law_152 : decode cL_law 152 = .ok (.if_icmp .ge 21, 3) := by decide +kernel
theorem dL_law_155 : decode cL_law 155 = .ok (.aload 6, 2) := by decide +kernel
theorem dL_law_157 : decode cL_law 157 = .ok (.iload 9, 2) := by decide +kernel
theorem dL_law_159 : decode cL_law 159 = .ok (.iload 9, 2) := by decide +kernel
theorem dL_law_161 : decode cL_law 161 = .ok (.iload 9, 2) := by decide +kernel
theorem dL_law_163 : decode cL_law 163 = .ok (.iconst 1, 1) := by decide +kernel
theorem dL_law_164 : decode cL_law 164 = .ok (.ishr, 1) := by decide +kernel
theorem dL_law_165 : decode cL_law 165 = .ok (.ixor, 1) := by decide +kernel
theorem dL_law_166 : decode cL_law 166 = .ok (.iastore, 1) := by decide +kernel
theorem dL_law_167 : decode cL_law 167 = .ok (.iinc 9 1, 3) := by decide +kernel
theorem dL_law_170 : decode cL_law 170 = .ok (.goto (-22), 3) := by decide +kernel
theorem dL_law_173 : decode cL_law 173 = .ok (.iload_n 2, 1) := by decide +kernel
theorem dL_law_174 : decode cL_law 174 = .ok (.aload_n 1, 1) := by decide +kernel
theorem dL_law_175 : decode cL_law 175 = .ok (.iload 8, 2) := by decide +kernel
theorem dL_law_177 : decode cL_law 177 = .ok (.invokestatic 81, 3) := by decide +kernel
theorem dL_law_180 : decode cL_law 180 = .ok (.iload_n 3, 1) := by decide +kernel
theorem dL_law_181 : decode cL_law 181 = .ok (.if_icmp .ne 7, 3) := by decide +kernel
theorem dL_law_184 : decode cL_law 184 = .ok (.iconst 1, 1) := by decide +kernel
theorem dL_law_185 : decode cL_law 185 = .ok (.goto 4, 3) := by decide +kernel
theorem dL_law_188 : decode cL_law 188 = .ok (.iconst 0, 1) := by decide +kernel
theorem dL_law_189 : decode cL_law 189 = .ok (.iand, 1) := by decide +kernel
theorem dL_law_190 : decode cL_law 190 = .ok (.istore_n 2, 1) := by decide +kernel
theorem dL_law_191 : decode cL_law 191 = .ok (.goto 358, 3) := by decide +kernel
theorem dL_law_194 : decode cL_law 194 = .ok (.iload_n 3, 1) := by decide +kernel
theorem dL_law_195 : decode cL_law 195 = .ok (.iconst 4, 1) := by decide +kernel
theorem dL_law_196 : decode cL_law 196 = .ok (.if_icmp .ge 353, 3) := by decide +kernel
theorem dL_law_199 : decode cL_law 199 = .ok (.iconst 2, 1) := by decide +kernel
theorem dL_law_200 : decode cL_law 200 = .ok (.aload_n 0, 1) := by decide +kernel
theorem dL_law_201 : decode cL_law 201 = .ok (.bipush 20, 2) := by decide +kernel
theorem dL_law_203 : decode cL_law 203 = .ok (.iload 4, 2) := by decide +kernel
theorem dL_law_205 : decode cL_law 205 = .ok (.iadd, 1) := by decide +kernel
theorem dL_law_206 : decode cL_law 206 = .ok (.iconst 3, 1) := by decide +kernel
theorem dL_law_207 : decode cL_law 207 = .ok (.invokestatic 89, 3) := by decide +kernel
theorem dL_law_210 : decode cL_law 210 = .ok (.iadd, 1) := by decide +kernel
theorem dL_law_211 : decode cL_law 211 = .ok (.istore 8, 2) := by decide +kernel
theorem dL_law_213 : decode cL_law 213 = .ok (.iconst 1, 1) := by decide +kernel
theorem dL_law_214 : decode cL_law 214 = .ok (.iload 8, 2) := by decide +kernel
theorem dL_law_216 : decode cL_law 216 = .ok (.ishl, 1) := by decide +kernel
theorem dL_law_217 : decode cL_law 217 = .ok (.istore 9, 2) := by decide +kernel
theorem dL_law_219 : decode cL_law 219 = .ok (.iload 5, 2) := by decide +kernel
theorem dL_law_221 : decode cL_law 221 = .ok (.iconst 1, 1) := by decide +kernel
theorem dL_law_222 : decode cL_law 222 = .ok (.if_icmp .ne 7, 3) := by decide +kernel
theorem dL_law_225 : decode cL_law 225 = .ok (.iconst 0, 1) := by decide +kernel
theorem dL_law_226 : decode cL_law 226 = .ok (.goto 20, 3) := by decide +kernel
theorem dL_law_229 : decode cL_law 229 = .ok (.iconst 2, 1) := by decide +kernel
theorem dL_law_230 : decode cL_law 230 = .ok (.aload_n 0, 1) := by decide +kernel
theorem dL_law_231 : decode cL_law 231 = .ok (.bipush 30, 2) := by decide +kernel
theorem dL_law_233 : decode cL_law 233 = .ok (.iload 4, 2) := by decide +kernel
theorem dL_law_235 : decode cL_law 235 = .ok (.iadd, 1) := by decide +kernel
theorem dL_law_236 : decode cL_law 236 = .ok (.iload 9, 2) := by decide +kernel
theorem dL_law_238 : decode cL_law 238 = .ok (.iconst 2, 1) := by decide +kernel
theorem dL_law_239 : decode cL_law 239 = .ok (.idiv, 1) := by decide +kernel
theorem dL_law_240 : decode cL_law 240 = .ok (.iconst 1, 1) := by decide +kernel
theorem dL_law_241 : decode cL_law 241 = .ok (.isub, 1) := by decide +kernel
theorem dL_law_242 : decode cL_law 242 = .ok (.invokestatic 89, 3) := by decide +kernel
theorem dL_law_245 : decode cL_law 245 = .ok (.imul, 1) := by decide +kernel
theorem dL_law_246 : decode cL_law 246 = .ok (.istore 10, 2) := by decide +kernel
theorem dL_law_248 : decode cL_law 248 = .ok (.iload 9, 2) := by decide +kernel
theorem dL_law_250 : decode cL_law 250 = .ok (.iload 10, 2) := by decide +kernel
theorem dL_law_252 : decode cL_law 252 = .ok (.isub, 1) := by decide +kernel
theorem dL_law_253 : decode cL_law 253 = .ok (.istore 7, 2) := by decide +kernel
theorem dL_law_255 : decode cL_law 255 = .ok (.aload_n 0, 1) := by decide +kernel
theorem dL_law_256 : decode cL_law 256 = .ok (.bipush 40, 2) := by decide +kernel
theorem dL_law_258 : decode cL_law 258 = .ok (.iload 4, 2) := by decide +kernel
theorem dL_law_260 : decode cL_law 260 = .ok (.iadd, 1) := by decide +kernel
theorem dL_law_261 : decode cL_law 261 = .ok (.sipush 256, 3) := by decide +kernel
theorem dL_law_264 : decode cL_law 264 = .ok (.invokestatic 89, 3) := by decide +kernel
theorem dL_law_267 : decode cL_law 267 = .ok (.istore 11, 2) := by decide +kernel
theorem dL_law_269 : decode cL_law 269 = .ok (.iconst 0, 1) := by decide +kernel
theorem dL_law_270 : decode cL_law 270 = .ok (.istore 12, 2) := by decide +kernel
theorem dL_law_272 : decode cL_law 272 = .ok (.iload 12, 2) := by decide +kernel
theorem dL_law_274 : decode cL_law 274 = .ok (.iload 7, 2) := by decide +kernel
theorem dL_law_276 : decode cL_law 276 = .ok (.if_icmp .ge 48, 3) := by decide +kernel
theorem dL_law_279 : decode cL_law 279 = .ok (.iload 12, 2) := by decide +kernel
theorem dL_law_281 : decode cL_law 281 = .ok (.iload 7, 2) := by decide +kernel
theorem dL_law_283 : decode cL_law 283 = .ok (.iconst 2, 1) := by decide +kernel
theorem dL_law_284 : decode cL_law 284 = .ok (.idiv, 1) := by decide +kernel
theorem dL_law_285 : decode cL_law 285 = .ok (.if_icmp .ge 8, 3) := by decide +kernel
theorem dL_law_288 : decode cL_law 288 = .ok (.iload 12, 2) := by decide +kernel
theorem dL_law_290 : decode cL_law 290 = .ok (.goto 11, 3) := by decide +kernel
theorem dL_law_293 : decode cL_law 293 = .ok (.iload 9, 2) := by decide +kernel
theorem dL_law_295 : decode cL_law 295 = .ok (.iload 7, 2) := by decide +kernel
theorem dL_law_297 : decode cL_law 297 = .ok (.isub, 1) := by decide +kernel
theorem dL_law_298 : decode cL_law 298 = .ok (.iload 12, 2) := by decide +kernel
theorem dL_law_300 : decode cL_law 300 = .ok (.iadd, 1) := by decide +kernel
theorem dL_law_301 : decode cL_law 301 = .ok (.istore 13, 2) := by decide +kernel
theorem dL_law_303 : decode cL_law 303 = .ok (.aload 6, 2) := by decide +kernel
theorem dL_law_305 : decode cL_law 305 = .ok (.iload 12, 2) := by decide +kernel
theorem dL_law_307 : decode cL_law 307 = .ok (.iload 13, 2) := by decide +kernel
theorem dL_law_309 : decode cL_law 309 = .ok (.iload 13, 2) := by decide +kernel
theorem dL_law_311 : decode cL_law 311 = .ok (.iconst 1, 1) := by decide +kernel
theorem dL_law_312 : decode cL_law 312 = .ok (.ishr, 1) := by decide +kernel
theorem dL_law_313 : decode cL_law 313 = .ok (.ixor, 1) := by decide +kernel
theorem dL_law_314 : decode cL_law 314 = .ok (.iload 11, 2) := by decide +kernel
theorem dL_law_316 : decode cL_law 316 = .ok (.ixor, 1) := by decide +kernel
theorem dL_law_317 : decode cL_law 317 = .ok (.iastore, 1) := by decide +kernel
theorem dL_law_318 : decode cL_law 318 = .ok (.iinc 12 1, 3) := by decide +kernel
theorem dL_law_321 : decode cL_law 321 = .ok (.goto (-49), 3) := by decide +kernel
theorem dL_law_324 : decode cL_law 324 = .ok (.iload 5, 2) := by decide +kernel
theorem dL_law_326 : decode cL_law 326 = .ok (.iconst 3, 1) := by decide +kernel
theorem dL_law_327 : decode cL_law 327 = .ok (.if_icmp .ne 33, 3) := by decide +kernel
theorem dL_law_330 : decode cL_law 330 = .ok (.aload 6, 2) := by decide +kernel
theorem dL_law_332 : decode cL_law 332 = .ok (.aload_n 0, 1) := by decide +kernel
theorem dL_law_333 : decode cL_law 333 = .ok (.bipush 50, 2) := by decide +kernel
theorem dL_law_335 : decode cL_law 335 = .ok (.iload 4, 2) := by decide +kernel
theorem dL_law_337 : decode cL_law 337 = .ok (.iadd, 1) := by decide +kernel
theorem dL_law_338 : decode cL_law 338 = .ok (.iload 7, 2) := by decide +kernel
theorem dL_law_340 : decode cL_law 340 = .ok (.invokestatic 89, 3) := by decide +kernel
theorem dL_law_343 : decode cL_law 343 = .ok (.dup2, 1) := by decide +kernel
theorem dL_law_344 : decode cL_law 344 = .ok (.iaload, 1) := by decide +kernel
theorem dL_law_345 : decode cL_law 345 = .ok (.iconst 1, 1) := by decide +kernel
theorem dL_law_346 : decode cL_law 346 = .ok (.aload_n 0, 1) := by decide +kernel
theorem dL_law_347 : decode cL_law 347 = .ok (.bipush 60, 2) := by decide +kernel
theorem dL_law_349 : decode cL_law 349 = .ok (.iload 4, 2) := by decide +kernel
theorem dL_law_351 : decode cL_law 351 = .ok (.iadd, 1) := by decide +kernel
theorem dL_law_352 : decode cL_law 352 = .ok (.bipush 8, 2) := by decide +kernel
theorem dL_law_354 : decode cL_law 354 = .ok (.invokestatic 89, 3) := by decide +kernel
theorem dL_law_357 : decode cL_law 357 = .ok (.ishl, 1) := by decide +kernel
theorem dL_law_358 : decode cL_law 358 = .ok (.ixor, 1) := by decide +kernel
theorem dL_law_359 : decode cL_law 359 = .ok (.iastore, 1) := by decide +kernel
theorem dL_law_360 : decode cL_law 360 = .ok (.iload_n 2, 1) := by decide +kernel
theorem dL_law_361 : decode cL_law 361 = .ok (.aload_n 1, 1) := by decide +kernel
theorem dL_law_362 : decode cL_law 362 = .ok (.invokevirtual 93, 3) := by decide +kernel
theorem dL_law_365 : decode cL_law 365 = .ok (.ifCond .lt 7, 3) := by decide +kernel
theorem dL_law_368 : decode cL_law 368 = .ok (.iconst 1, 1) := by decide +kernel
theorem dL_law_369 : decode cL_law 369 = .ok (.goto 4, 3) := by decide +kernel
theorem dL_law_372 : decode cL_law 372 = .ok (.iconst 0, 1) := by decide +kernel
theorem dL_law_373 : decode cL_law 373 = .ok (.iand, 1) := by decide +kernel
theorem dL_law_374 : decode cL_law 374 = .ok (.istore_n 2, 1) := by decide +kernel
theorem dL_law_375 : decode cL_law 375 = .ok (.iload 7, 2) := by decide +kernel
theorem dL_law_377 : decode cL_law 377 = .ok (.iconst 4, 1) := by decide +kernel
theorem dL_law_378 : decode cL_law 378 = .ok (.if_icmp .lt 7, 3) := by decide +kernel
theorem dL_law_381 : decode cL_law 381 = .ok (.iconst 1, 1) := by decide +kernel
theorem dL_law_382 : decode cL_law 382 = .ok (.goto 4, 3) := by decide +kernel
theorem dL_law_385 : decode cL_law 385 = .ok (.iconst 0, 1) := by decide +kernel
theorem dL_law_386 : decode cL_law 386 = .ok (.istore 12, 2) := by decide +kernel
theorem dL_law_388 : decode cL_law 388 = .ok (.iconst 0, 1) := by decide +kernel
theorem dL_law_389 : decode cL_law 389 = .ok (.istore 13, 2) := by decide +kernel
theorem dL_law_391 : decode cL_law 391 = .ok (.iload 13, 2) := by decide +kernel
theorem dL_law_393 : decode cL_law 393 = .ok (.iload 7, 2) := by decide +kernel
theorem dL_law_395 : decode cL_law 395 = .ok (.if_icmp .ge 115, 3) := by decide +kernel
theorem dL_law_398 : decode cL_law 398 = .ok (.aload 6, 2) := by decide +kernel
theorem dL_law_400 : decode cL_law 400 = .ok (.iload 13, 2) := by decide +kernel
theorem dL_law_402 : decode cL_law 402 = .ok (.iaload, 1) := by decide +kernel
theorem dL_law_403 : decode cL_law 403 = .ok (.aload 6, 2) := by decide +kernel
theorem dL_law_405 : decode cL_law 405 = .ok (.iload 13, 2) := by decide +kernel
theorem dL_law_407 : decode cL_law 407 = .ok (.iconst 1, 1) := by decide +kernel
theorem dL_law_408 : decode cL_law 408 = .ok (.iadd, 1) := by decide +kernel
theorem dL_law_409 : decode cL_law 409 = .ok (.iload 7, 2) := by decide +kernel
theorem dL_law_411 : decode cL_law 411 = .ok (.irem, 1) := by decide +kernel
theorem dL_law_412 : decode cL_law 412 = .ok (.iaload, 1) := by decide +kernel
theorem dL_law_413 : decode cL_law 413 = .ok (.ixor, 1) := by decide +kernel
theorem dL_law_414 : decode cL_law 414 = .ok (.istore 14, 2) := by decide +kernel
theorem dL_law_416 : decode cL_law 416 = .ok (.iload 12, 2) := by decide +kernel
theorem dL_law_418 : decode cL_law 418 = .ok (.iload 14, 2) := by decide +kernel
theorem dL_law_420 : decode cL_law 420 = .ok (.ifCond .eq 17, 3) := by decide +kernel
theorem dL_law_423 : decode cL_law 423 = .ok (.iload 14, 2) := by decide +kernel
theorem dL_law_425 : decode cL_law 425 = .ok (.iload 14, 2) := by decide +kernel
theorem dL_law_427 : decode cL_law 427 = .ok (.iconst 1, 1) := by decide +kernel
theorem dL_law_428 : decode cL_law 428 = .ok (.isub, 1) := by decide +kernel
theorem dL_law_429 : decode cL_law 429 = .ok (.iand, 1) := by decide +kernel
theorem dL_law_430 : decode cL_law 430 = .ok (.ifCond .ne 7, 3) := by decide +kernel
theorem dL_law_433 : decode cL_law 433 = .ok (.iconst 1, 1) := by decide +kernel
theorem dL_law_434 : decode cL_law 434 = .ok (.goto 4, 3) := by decide +kernel
theorem dL_law_437 : decode cL_law 437 = .ok (.iconst 0, 1) := by decide +kernel
theorem dL_law_438 : decode cL_law 438 = .ok (.iand, 1) := by decide +kernel
theorem dL_law_439 : decode cL_law 439 = .ok (.istore 12, 2) := by decide +kernel
theorem dL_law_441 : decode cL_law 441 = .ok (.iconst 0, 1) := by decide +kernel
theorem dL_law_442 : decode cL_law 442 = .ok (.istore 15, 2) := by decide +kernel
theorem dL_law_444 : decode cL_law 444 = .ok (.iload 15, 2) := by decide +kernel
theorem dL_law_446 : decode cL_law 446 = .ok (.iload 13, 2) := by decide +kernel
theorem dL_law_448 : decode cL_law 448 = .ok (.if_icmp .ge 32, 3) := by decide +kernel
theorem dL_law_451 : decode cL_law 451 = .ok (.iload 12, 2) := by decide +kernel
theorem dL_law_453 : decode cL_law 453 = .ok (.aload 6, 2) := by decide +kernel
theorem dL_law_455 : decode cL_law 455 = .ok (.iload 15, 2) := by decide +kernel
theorem dL_law_457 : decode cL_law 457 = .ok (.iaload, 1) := by decide +kernel
theorem dL_law_458 : decode cL_law 458 = .ok (.aload 6, 2) := by decide +kernel
theorem dL_law_460 : decode cL_law 460 = .ok (.iload 13, 2) := by decide +kernel
theorem dL_law_462 : decode cL_law 462 = .ok (.iaload, 1) := by decide +kernel
theorem dL_law_463 : decode cL_law 463 = .ok (.if_icmp .eq 7, 3) := by decide +kernel
theorem dL_law_466 : decode cL_law 466 = .ok (.iconst 1, 1) := by decide +kernel
theorem dL_law_467 : decode cL_law 467 = .ok (.goto 4, 3) := by decide +kernel
theorem dL_law_470 : decode cL_law 470 = .ok (.iconst 0, 1) := by decide +kernel
theorem dL_law_471 : decode cL_law 471 = .ok (.iand, 1) := by decide +kernel
theorem dL_law_472 : decode cL_law 472 = .ok (.istore 12, 2) := by decide +kernel
theorem dL_law_474 : decode cL_law 474 = .ok (.iinc 15 1, 3) := by decide +kernel
theorem dL_law_477 : decode cL_law 477 = .ok (.goto (-33), 3) := by decide +kernel
theorem dL_law_480 : decode cL_law 480 = .ok (.iload_n 2, 1) := by decide +kernel
theorem dL_law_481 : decode cL_law 481 = .ok (.aload_n 1, 1) := by decide +kernel
theorem dL_law_482 : decode cL_law 482 = .ok (.aload 6, 2) := by decide +kernel
theorem dL_law_484 : decode cL_law 484 = .ok (.iload 13, 2) := by decide +kernel
theorem dL_law_486 : decode cL_law 486 = .ok (.iaload, 1) := by decide +kernel
theorem dL_law_487 : decode cL_law 487 = .ok (.invokestatic 78, 3) := by decide +kernel
theorem dL_law_490 : decode cL_law 490 = .ok (.iload 13, 2) := by decide +kernel
theorem dL_law_492 : decode cL_law 492 = .ok (.iconst 1, 1) := by decide +kernel
theorem dL_law_493 : decode cL_law 493 = .ok (.iadd, 1) := by decide +kernel
theorem dL_law_494 : decode cL_law 494 = .ok (.if_icmp .ne 7, 3) := by decide +kernel
theorem dL_law_497 : decode cL_law 497 = .ok (.iconst 1, 1) := by decide +kernel
theorem dL_law_498 : decode cL_law 498 = .ok (.goto 4, 3) := by decide +kernel
theorem dL_law_501 : decode cL_law 501 = .ok (.iconst 0, 1) := by decide +kernel
theorem dL_law_502 : decode cL_law 502 = .ok (.iand, 1) := by decide +kernel
theorem dL_law_503 : decode cL_law 503 = .ok (.istore_n 2, 1) := by decide +kernel
theorem dL_law_504 : decode cL_law 504 = .ok (.iinc 13 1, 3) := by decide +kernel
theorem dL_law_507 : decode cL_law 507 = .ok (.goto (-116), 3) := by decide +kernel
theorem dL_law_510 : decode cL_law 510 = .ok (.iload_n 2, 1) := by decide +kernel
theorem dL_law_511 : decode cL_law 511 = .ok (.aload_n 1, 1) := by decide +kernel
theorem dL_law_512 : decode cL_law 512 = .ok (.invokestatic 75, 3) := by decide +kernel
theorem dL_law_515 : decode cL_law 515 = .ok (.iload 12, 2) := by decide +kernel
theorem dL_law_517 : decode cL_law 517 = .ok (.ifCond .eq 7, 3) := by decide +kernel
theorem dL_law_520 : decode cL_law 520 = .ok (.iload_n 3, 1) := by decide +kernel
theorem dL_law_521 : decode cL_law 521 = .ok (.goto 5, 3) := by decide +kernel
theorem dL_law_524 : decode cL_law 524 = .ok (.ldc 17, 2) := by decide +kernel
theorem dL_law_526 : decode cL_law 526 = .ok (.if_icmp .ne 7, 3) := by decide +kernel
theorem dL_law_529 : decode cL_law 529 = .ok (.iconst 1, 1) := by decide +kernel
theorem dL_law_530 : decode cL_law 530 = .ok (.goto 4, 3) := by decide +kernel
theorem dL_law_533 : decode cL_law 533 = .ok (.iconst 0, 1) := by decide +kernel
theorem dL_law_534 : decode cL_law 534 = .ok (.iand, 1) := by decide +kernel
theorem dL_law_535 : decode cL_law 535 = .ok (.istore_n 2, 1) := by decide +kernel
theorem dL_law_536 : decode cL_law 536 = .ok (.iload 12, 2) := by decide +kernel
theorem dL_law_538 : decode cL_law 538 = .ok (.ifCond .eq 8, 3) := by decide +kernel
theorem dL_law_541 : decode cL_law 541 = .ok (.iload 7, 2) := by decide +kernel
theorem dL_law_543 : decode cL_law 543 = .ok (.goto 4, 3) := by decide +kernel
theorem dL_law_546 : decode cL_law 546 = .ok (.iconst 0, 1) := by decide +kernel
theorem dL_law_547 : decode cL_law 547 = .ok (.istore 7, 2) := by decide +kernel
theorem dL_law_549 : decode cL_law 549 = .ok (.iload 7, 2) := by decide +kernel
theorem dL_law_551 : decode cL_law 551 = .ok (.ifCond .le 498, 3) := by decide +kernel
theorem dL_law_554 : decode cL_law 554 = .ok (.iconst 0, 1) := by decide +kernel
theorem dL_law_555 : decode cL_law 555 = .ok (.istore 8, 2) := by decide +kernel
theorem dL_law_557 : decode cL_law 557 = .ok (.iconst 0, 1) := by decide +kernel
theorem dL_law_558 : decode cL_law 558 = .ok (.istore 9, 2) := by decide +kernel
theorem dL_law_560 : decode cL_law 560 = .ok (.iload 9, 2) := by decide +kernel
theorem dL_law_562 : decode cL_law 562 = .ok (.iload 7, 2) := by decide +kernel
theorem dL_law_564 : decode cL_law 564 = .ok (.if_icmp .ge 19, 3) := by decide +kernel
theorem dL_law_567 : decode cL_law 567 = .ok (.iload 8, 2) := by decide +kernel
theorem dL_law_569 : decode cL_law 569 = .ok (.aload 6, 2) := by decide +kernel
theorem dL_law_571 : decode cL_law 571 = .ok (.iload 9, 2) := by decide +kernel
theorem dL_law_573 : decode cL_law 573 = .ok (.iaload, 1) := by decide +kernel
theorem dL_law_574 : decode cL_law 574 = .ok (.ior, 1) := by decide +kernel
theorem dL_law_575 : decode cL_law 575 = .ok (.istore 8, 2) := by decide +kernel
theorem dL_law_577 : decode cL_law 577 = .ok (.iinc 9 1, 3) := by decide +kernel
theorem dL_law_580 : decode cL_law 580 = .ok (.goto (-20), 3) := by decide +kernel
theorem dL_law_583 : decode cL_law 583 = .ok (.iconst 0, 1) := by decide +kernel
theorem dL_law_584 : decode cL_law 584 = .ok (.istore 9, 2) := by decide +kernel
theorem dL_law_586 : decode cL_law 586 = .ok (.iload 8, 2) := by decide +kernel
theorem dL_law_588 : decode cL_law 588 = .ok (.iload 9, 2) := by decide +kernel
theorem dL_law_590 : decode cL_law 590 = .ok (.ishr, 1) := by decide +kernel
theorem dL_law_591 : decode cL_law 591 = .ok (.ifCond .eq 9, 3) := by decide +kernel
theorem dL_law_594 : decode cL_law 594 = .ok (.iinc 9 1, 3) := by decide +kernel
theorem dL_law_597 : decode cL_law 597 = .ok (.goto (-11), 3) := by decide +kernel
theorem dL_law_600 : decode cL_law 600 = .ok (.iload_n 2, 1) := by decide +kernel
theorem dL_law_601 : decode cL_law 601 = .ok (.aload_n 1, 1) := by decide +kernel
theorem dL_law_602 : decode cL_law 602 = .ok (.iload_n 3, 1) := by decide +kernel
theorem dL_law_603 : decode cL_law 603 = .ok (.invokestatic 83, 3) := by decide +kernel
theorem dL_law_606 : decode cL_law 606 = .ok (.iload 7, 2) := by decide +kernel
theorem dL_law_608 : decode cL_law 608 = .ok (.if_icmp .ne 17, 3) := by decide +kernel
theorem dL_law_611 : decode cL_law 611 = .ok (.aload_n 1, 1) := by decide +kernel
theorem dL_law_612 : decode cL_law 612 = .ok (.iload_n 3, 1) := by decide +kernel
theorem dL_law_613 : decode cL_law 613 = .ok (.invokestatic 96, 3) := by decide +kernel
theorem dL_law_616 : decode cL_law 616 = .ok (.iload 9, 2) := by decide +kernel
theorem dL_law_618 : decode cL_law 618 = .ok (.if_icmp .ne 7, 3) := by decide +kernel
theorem dL_law_621 : decode cL_law 621 = .ok (.iconst 1, 1) := by decide +kernel
theorem dL_law_622 : decode cL_law 622 = .ok (.goto 4, 3) := by decide +kernel
theorem dL_law_625 : decode cL_law 625 = .ok (.iconst 0, 1) := by decide +kernel
theorem dL_law_626 : decode cL_law 626 = .ok (.iand, 1) := by decide +kernel
theorem dL_law_627 : decode cL_law 627 = .ok (.istore_n 2, 1) := by decide +kernel
theorem dL_law_628 : decode cL_law 628 = .ok (.bipush 99, 2) := by decide +kernel
theorem dL_law_630 : decode cL_law 630 = .ok (.istore 10, 2) := by decide +kernel
theorem dL_law_632 : decode cL_law 632 = .ok (.iconst 0, 1) := by decide +kernel
theorem dL_law_633 : decode cL_law 633 = .ok (.istore 11, 2) := by decide +kernel
theorem dL_law_635 : decode cL_law 635 = .ok (.iconst 1, 1) := by decide +kernel
theorem dL_law_636 : decode cL_law 636 = .ok (.istore 12, 2) := by decide +kernel
theorem dL_law_638 : decode cL_law 638 = .ok (.iconst 0, 1) := by decide +kernel
theorem dL_law_639 : decode cL_law 639 = .ok (.istore 13, 2) := by decide +kernel
theorem dL_law_641 : decode cL_law 641 = .ok (.iload 13, 2) := by decide +kernel
theorem dL_law_643 : decode cL_law 643 = .ok (.iload 9, 2) := by decide +kernel
theorem dL_law_645 : decode cL_law 645 = .ok (.if_icmp .ge 206, 3) := by decide +kernel
theorem dL_law_648 : decode cL_law 648 = .ok (.iconst 0, 1) := by decide +kernel
theorem dL_law_649 : decode cL_law 649 = .ok (.istore 14, 2) := by decide +kernel
theorem dL_law_651 : decode cL_law 651 = .ok (.iconst 0, 1) := by decide +kernel
theorem dL_law_652 : decode cL_law 652 = .ok (.istore 15, 2) := by decide +kernel
theorem dL_law_654 : decode cL_law 654 = .ok (.iload 15, 2) := by decide +kernel
theorem dL_law_656 : decode cL_law 656 = .ok (.iload 7, 2) := by decide +kernel
theorem dL_law_658 : decode cL_law 658 = .ok (.if_icmp .ge 47, 3) := by decide +kernel
theorem dL_law_661 : decode cL_law 661 = .ok (.iload 14, 2) := by decide +kernel
theorem dL_law_663 : decode cL_law 663 = .ok (.aload 6, 2) := by decide +kernel
theorem dL_law_665 : decode cL_law 665 = .ok (.iload 15, 2) := by decide +kernel
theorem dL_law_667 : decode cL_law 667 = .ok (.iaload, 1) := by decide +kernel
theorem dL_law_668 : decode cL_law 668 = .ok (.iload 13, 2) := by decide +kernel
theorem dL_law_670 : decode cL_law 670 = .ok (.ishr, 1) := by decide +kernel
theorem dL_law_671 : decode cL_law 671 = .ok (.iconst 1, 1) := by decide +kernel
theorem dL_law_672 : decode cL_law 672 = .ok (.iand, 1) := by decide +kernel
theorem dL_law_673 : decode cL_law 673 = .ok (.aload 6, 2) := by decide +kernel
theorem dL_law_675 : decode cL_law 675 = .ok (.iload 15, 2) := by decide +kernel
theorem dL_law_677 : decode cL_law 677 = .ok (.iconst 1, 1) := by decide +kernel
theorem dL_law_678 : decode cL_law 678 = .ok (.iadd, 1) := by decide +kernel
theorem dL_law_679 : decode cL_law 679 = .ok (.iload 7, 2) := by decide +kernel
theorem dL_law_681 : decode cL_law 681 = .ok (.irem, 1) := by decide +kernel
theorem dL_law_682 : decode cL_law 682 = .ok (.iaload, 1) := by decide +kernel
theorem dL_law_683 : decode cL_law 683 = .ok (.iload 13, 2) := by decide +kernel
theorem dL_law_685 : decode cL_law 685 = .ok (.ishr, 1) := by decide +kernel
theorem dL_law_686 : decode cL_law 686 = .ok (.iconst 1, 1) := by decide +kernel
theorem dL_law_687 : decode cL_law 687 = .ok (.iand, 1) := by decide +kernel
theorem dL_law_688 : decode cL_law 688 = .ok (.if_icmp .ne 7, 3) := by decide +kernel
theorem dL_law_691 : decode cL_law 691 = .ok (.iconst 0, 1) := by decide +kernel
theorem dL_law_692 : decode cL_law 692 = .ok (.goto 4, 3) := by decide +kernel
theorem dL_law_695 : decode cL_law 695 = .ok (.iconst 1, 1) := by decide +kernel
theorem dL_law_696 : decode cL_law 696 = .ok (.iadd, 1) := by decide +kernel
theorem dL_law_697 : decode cL_law 697 = .ok (.istore 14, 2) := by decide +kernel
theorem dL_law_699 : decode cL_law 699 = .ok (.iinc 15 1, 3) := by decide +kernel
theorem dL_law_702 : decode cL_law 702 = .ok (.goto (-48), 3) := by decide +kernel
theorem dL_law_705 : decode cL_law 705 = .ok (.iconst 0, 1) := by decide +kernel
theorem dL_law_706 : decode cL_law 706 = .ok (.istore 15, 2) := by decide +kernel
theorem dL_law_708 : decode cL_law 708 = .ok (.iconst 0, 1) := by decide +kernel
theorem dL_law_709 : decode cL_law 709 = .ok (.istore 16, 2) := by decide +kernel
theorem dL_law_711 : decode cL_law 711 = .ok (.iload 16, 2) := by decide +kernel
theorem dL_law_713 : decode cL_law 713 = .ok (.iload 7, 2) := by decide +kernel
theorem dL_law_715 : decode cL_law 715 = .ok (.if_icmp .ge 71, 3) := by decide +kernel
theorem dL_law_718 : decode cL_law 718 = .ok (.iconst 1, 1) := by decide +kernel
theorem dL_law_719 : decode cL_law 719 = .ok (.istore 17, 2) := by decide +kernel
theorem dL_law_721 : decode cL_law 721 = .ok (.iconst 0, 1) := by decide +kernel
theorem dL_law_722 : decode cL_law 722 = .ok (.istore 18, 2) := by decide +kernel
theorem dL_law_724 : decode cL_law 724 = .ok (.iload 18, 2) := by decide +kernel
theorem dL_law_726 : decode cL_law 726 = .ok (.iload 7, 2) := by decide +kernel
theorem dL_law_728 : decode cL_law 728 = .ok (.if_icmp .ge 45, 3) := by decide +kernel
theorem dL_law_731 : decode cL_law 731 = .ok (.iload 17, 2) := by decide +kernel
theorem dL_law_733 : decode cL_law 733 = .ok (.aload 6, 2) := by decide +kernel
theorem dL_law_735 : decode cL_law 735 = .ok (.iload 18, 2) := by decide +kernel
theorem dL_law_737 : decode cL_law 737 = .ok (.iaload, 1) := by decide +kernel
theorem dL_law_738 : decode cL_law 738 = .ok (.iload 13, 2) := by decide +kernel
theorem dL_law_740 : decode cL_law 740 = .ok (.ishr, 1) := by decide +kernel
theorem dL_law_741 : decode cL_law 741 = .ok (.iconst 1, 1) := by decide +kernel
theorem dL_law_742 : decode cL_law 742 = .ok (.iand, 1) := by decide +kernel
theorem dL_law_743 : decode cL_law 743 = .ok (.aload 6, 2) := by decide +kernel
theorem dL_law_745 : decode cL_law 745 = .ok (.iload 18, 2) := by decide +kernel
theorem dL_law_747 : decode cL_law 747 = .ok (.iload 16, 2) := by decide +kernel
theorem dL_law_749 : decode cL_law 749 = .ok (.iadd, 1) := by decide +kernel
theorem dL_law_750 : decode cL_law 750 = .ok (.iload 7, 2) := by decide +kernel
theorem dL_law_752 : decode cL_law 752 = .ok (.irem, 1) := by decide +kernel
theorem dL_law_753 : decode cL_law 753 = .ok (.iaload, 1) := by decide +kernel
theorem dL_law_754 : decode cL_law 754 = .ok (.iconst 1, 1) := by decide +kernel
theorem dL_law_755 : decode cL_law 755 = .ok (.iand, 1) := by decide +kernel
theorem dL_law_756 : decode cL_law 756 = .ok (.if_icmp .ne 7, 3) := by decide +kernel
theorem dL_law_759 : decode cL_law 759 = .ok (.iconst 1, 1) := by decide +kernel
theorem dL_law_760 : decode cL_law 760 = .ok (.goto 4, 3) := by decide +kernel
theorem dL_law_763 : decode cL_law 763 = .ok (.iconst 0, 1) := by decide +kernel
theorem dL_law_764 : decode cL_law 764 = .ok (.iand, 1) := by decide +kernel
theorem dL_law_765 : decode cL_law 765 = .ok (.istore 17, 2) := by decide +kernel
theorem dL_law_767 : decode cL_law 767 = .ok (.iinc 18 1, 3) := by decide +kernel
theorem dL_law_770 : decode cL_law 770 = .ok (.goto (-46), 3) := by decide +kernel
theorem dL_law_773 : decode cL_law 773 = .ok (.iload 15, 2) := by decide +kernel
theorem dL_law_775 : decode cL_law 775 = .ok (.iload 17, 2) := by decide +kernel
theorem dL_law_777 : decode cL_law 777 = .ok (.ior, 1) := by decide +kernel
theorem dL_law_778 : decode cL_law 778 = .ok (.istore 15, 2) := by decide +kernel
theorem dL_law_780 : decode cL_law 780 = .ok (.iinc 16 1, 3) := by decide +kernel
theorem dL_law_783 : decode cL_law 783 = .ok (.goto (-72), 3) := by decide +kernel
theorem dL_law_786 : decode cL_law 786 = .ok (.iload 12, 2) := by decide +kernel
theorem dL_law_788 : decode cL_law 788 = .ok (.iload 15, 2) := by decide +kernel
theorem dL_law_790 : decode cL_law 790 = .ok (.iand, 1) := by decide +kernel
theorem dL_law_791 : decode cL_law 791 = .ok (.istore 12, 2) := by decide +kernel
theorem dL_law_793 : decode cL_law 793 = .ok (.iload 14, 2) := by decide +kernel
theorem dL_law_795 : decode cL_law 795 = .ok (.iload 10, 2) := by decide +kernel
theorem dL_law_797 : decode cL_law 797 = .ok (.if_icmp .ge 8, 3) := by decide +kernel
theorem dL_law_800 : decode cL_law 800 = .ok (.iload 14, 2) := by decide +kernel
theorem dL_law_802 : decode cL_law 802 = .ok (.goto 5, 3) := by decide +kernel
theorem dL_law_805 : decode cL_law 805 = .ok (.iload 10, 2) := by decide +kernel
theorem dL_law_807 : decode cL_law 807 = .ok (.istore 10, 2) := by decide +kernel
theorem dL_law_809 : decode cL_law 809 = .ok (.iload 14, 2) := by decide +kernel
theorem dL_law_811 : decode cL_law 811 = .ok (.iload 11, 2) := by decide +kernel
theorem dL_law_813 : decode cL_law 813 = .ok (.if_icmp .le 8, 3) := by decide +kernel
theorem dL_law_816 : decode cL_law 816 = .ok (.iload 14, 2) := by decide +kernel
theorem dL_law_818 : decode cL_law 818 = .ok (.goto 5, 3) := by decide +kernel
theorem dL_law_821 : decode cL_law 821 = .ok (.iload 11, 2) := by decide +kernel
theorem dL_law_823 : decode cL_law 823 = .ok (.istore 11, 2) := by decide +kernel
theorem dL_law_825 : decode cL_law 825 = .ok (.iload_n 2, 1) := by decide +kernel
theorem dL_law_826 : decode cL_law 826 = .ok (.aload_n 1, 1) := by decide +kernel
theorem dL_law_827 : decode cL_law 827 = .ok (.iload_n 3, 1) := by decide +kernel
theorem dL_law_828 : decode cL_law 828 = .ok (.iload 13, 2) := by decide +kernel
theorem dL_law_830 : decode cL_law 830 = .ok (.invokestatic 98, 3) := by decide +kernel
theorem dL_law_833 : decode cL_law 833 = .ok (.iload 14, 2) := by decide +kernel
theorem dL_law_835 : decode cL_law 835 = .ok (.if_icmp .ne 7, 3) := by decide +kernel
theorem dL_law_838 : decode cL_law 838 = .ok (.iconst 1, 1) := by decide +kernel
theorem dL_law_839 : decode cL_law 839 = .ok (.goto 4, 3) := by decide +kernel
theorem dL_law_842 : decode cL_law 842 = .ok (.iconst 0, 1) := by decide +kernel
theorem dL_law_843 : decode cL_law 843 = .ok (.iand, 1) := by decide +kernel
theorem dL_law_844 : decode cL_law 844 = .ok (.istore_n 2, 1) := by decide +kernel
theorem dL_law_845 : decode cL_law 845 = .ok (.iinc 13 1, 3) := by decide +kernel
theorem dL_law_848 : decode cL_law 848 = .ok (.goto (-207), 3) := by decide +kernel
theorem dL_law_851 : decode cL_law 851 = .ok (.iload_n 2, 1) := by decide +kernel
theorem dL_law_852 : decode cL_law 852 = .ok (.aload_n 1, 1) := by decide +kernel
theorem dL_law_853 : decode cL_law 853 = .ok (.iload_n 3, 1) := by decide +kernel
theorem dL_law_854 : decode cL_law 854 = .ok (.invokestatic 101, 3) := by decide +kernel
theorem dL_law_857 : decode cL_law 857 = .ok (.iload 11, 2) := by decide +kernel
theorem dL_law_859 : decode cL_law 859 = .ok (.iload 10, 2) := by decide +kernel
theorem dL_law_861 : decode cL_law 861 = .ok (.isub, 1) := by decide +kernel
theorem dL_law_862 : decode cL_law 862 = .ok (.iconst 2, 1) := by decide +kernel
theorem dL_law_863 : decode cL_law 863 = .ok (.if_icmp .gt 7, 3) := by decide +kernel
theorem dL_law_866 : decode cL_law 866 = .ok (.iconst 1, 1) := by decide +kernel
theorem dL_law_867 : decode cL_law 867 = .ok (.goto 4, 3) := by decide +kernel
theorem dL_law_870 : decode cL_law 870 = .ok (.iconst 0, 1) := by decide +kernel
theorem dL_law_871 : decode cL_law 871 = .ok (.if_icmp .ne 37, 3) := by decide +kernel
theorem dL_law_874 : decode cL_law 874 = .ok (.aload_n 1, 1) := by decide +kernel
theorem dL_law_875 : decode cL_law 875 = .ok (.iload_n 3, 1) := by decide +kernel
theorem dL_law_876 : decode cL_law 876 = .ok (.invokestatic 103, 3) := by decide +kernel
theorem dL_law_879 : decode cL_law 879 = .ok (.iload 12, 2) := by decide +kernel
theorem dL_law_881 : decode cL_law 881 = .ok (.ifCond .eq 7, 3) := by decide +kernel
theorem dL_law_884 : decode cL_law 884 = .ok (.iconst 1, 1) := by decide +kernel
theorem dL_law_885 : decode cL_law 885 = .ok (.goto 4, 3) := by decide +kernel
theorem dL_law_888 : decode cL_law 888 = .ok (.iconst 0, 1) := by decide +kernel
theorem dL_law_889 : decode cL_law 889 = .ok (.if_icmp .ne 19, 3) := by decide +kernel
theorem dL_law_892 : decode cL_law 892 = .ok (.aload_n 1, 1) := by decide +kernel
theorem dL_law_893 : decode cL_law 893 = .ok (.iload_n 3, 1) := by decide +kernel
theorem dL_law_894 : decode cL_law 894 = .ok (.iload 9, 2) := by decide +kernel
theorem dL_law_896 : decode cL_law 896 = .ok (.invokestatic 98, 3) := by decide +kernel
theorem dL_law_899 : decode cL_law 899 = .ok (.ldc 20, 2) := by decide +kernel
theorem dL_law_901 : decode cL_law 901 = .ok (.if_icmp .ne 7, 3) := by decide +kernel
theorem dL_law_904 : decode cL_law 904 = .ok (.iconst 1, 1) := by decide +kernel
theorem dL_law_905 : decode cL_law 905 = .ok (.goto 4, 3) := by decide +kernel
theorem dL_law_908 : decode cL_law 908 = .ok (.iconst 0, 1) := by decide +kernel
theorem dL_law_909 : decode cL_law 909 = .ok (.iand, 1) := by decide +kernel
theorem dL_law_910 : decode cL_law 910 = .ok (.istore_n 2, 1) := by decide +kernel
theorem dL_law_911 : decode cL_law 911 = .ok (.iconst 0, 1) := by decide +kernel
theorem dL_law_912 : decode cL_law 912 = .ok (.istore 13, 2) := by decide +kernel
theorem dL_law_914 : decode cL_law 914 = .ok (.iload 13, 2) := by decide +kernel
theorem dL_law_916 : decode cL_law 916 = .ok (.sipush 256, 3) := by decide +kernel
theorem dL_law_919 : decode cL_law 919 = .ok (.if_icmp .ge 68, 3) := by decide +kernel
theorem dL_law_922 : decode cL_law 922 = .ok (.ldc 47, 2) := by decide +kernel
theorem dL_law_924 : decode cL_law 924 = .ok (.istore 14, 2) := by decide +kernel
theorem dL_law_926 : decode cL_law 926 = .ok (.iconst 0, 1) := by decide +kernel
theorem dL_law_927 : decode cL_law 927 = .ok (.istore 15, 2) := by decide +kernel
theorem dL_law_929 : decode cL_law 929 = .ok (.iload 15, 2) := by decide +kernel
theorem dL_law_931 : decode cL_law 931 = .ok (.iload 7, 2) := by decide +kernel
theorem dL_law_933 : decode cL_law 933 = .ok (.if_icmp .ge 28, 3) := by decide +kernel
theorem dL_law_936 : decode cL_law 936 = .ok (.aload 6, 2) := by decide +kernel
theorem dL_law_938 : decode cL_law 938 = .ok (.iload 15, 2) := by decide +kernel
theorem dL_law_940 : decode cL_law 940 = .ok (.iaload, 1) := by decide +kernel
theorem dL_law_941 : decode cL_law 941 = .ok (.iload 13, 2) := by decide +kernel
theorem dL_law_943 : decode cL_law 943 = .ok (.if_icmp .ne 8, 3) := by decide +kernel
theorem dL_law_946 : decode cL_law 946 = .ok (.iload 15, 2) := by decide +kernel
theorem dL_law_948 : decode cL_law 948 = .ok (.goto 5, 3) := by decide +kernel
theorem dL_law_951 : decode cL_law 951 = .ok (.iload 14, 2) := by decide +kernel
theorem dL_law_953 : decode cL_law 953 = .ok (.istore 14, 2) := by decide +kernel
theorem dL_law_955 : decode cL_law 955 = .ok (.iinc 15 1, 3) := by decide +kernel
theorem dL_law_958 : decode cL_law 958 = .ok (.goto (-29), 3) := by decide +kernel
theorem dL_law_961 : decode cL_law 961 = .ok (.iload_n 2, 1) := by decide +kernel
theorem dL_law_962 : decode cL_law 962 = .ok (.aload_n 1, 1) := by decide +kernel
theorem dL_law_963 : decode cL_law 963 = .ok (.iload_n 3, 1) := by decide +kernel
theorem dL_law_964 : decode cL_law 964 = .ok (.iload 13, 2) := by decide +kernel
theorem dL_law_966 : decode cL_law 966 = .ok (.invokestatic 105, 3) := by decide +kernel
theorem dL_law_969 : decode cL_law 969 = .ok (.iload 14, 2) := by decide +kernel
theorem dL_law_971 : decode cL_law 971 = .ok (.if_icmp .ne 7, 3) := by decide +kernel
theorem dL_law_974 : decode cL_law 974 = .ok (.iconst 1, 1) := by decide +kernel
theorem dL_law_975 : decode cL_law 975 = .ok (.goto 4, 3) := by decide +kernel
theorem dL_law_978 : decode cL_law 978 = .ok (.iconst 0, 1) := by decide +kernel
theorem dL_law_979 : decode cL_law 979 = .ok (.iand, 1) := by decide +kernel
theorem dL_law_980 : decode cL_law 980 = .ok (.istore_n 2, 1) := by decide +kernel
theorem dL_law_981 : decode cL_law 981 = .ok (.iinc 13 1, 3) := by decide +kernel
theorem dL_law_984 : decode cL_law 984 = .ok (.goto (-70), 3) := by decide +kernel
theorem dL_law_987 : decode cL_law 987 = .ok (.iconst 0, 1) := by decide +kernel
theorem dL_law_988 : decode cL_law 988 = .ok (.istore 13, 2) := by decide +kernel
theorem dL_law_990 : decode cL_law 990 = .ok (.iload 13, 2) := by decide +kernel
theorem dL_law_992 : decode cL_law 992 = .ok (.iload 7, 2) := by decide +kernel
theorem dL_law_994 : decode cL_law 994 = .ok (.if_icmp .ge 32, 3) := by decide +kernel
theorem dL_law_997 : decode cL_law 997 = .ok (.iload_n 2, 1) := by decide +kernel
theorem dL_law_998 : decode cL_law 998 = .ok (.aload_n 1, 1) := by decide +kernel
theorem dL_law_999 : decode cL_law 999 = .ok (.iload_n 3, 1) := by decide +kernel
theorem dL_law_1000 : decode cL_law 1000 = .ok (.iload 13, 2) := by decide +kernel
theorem dL_law_1002 : decode cL_law 1002 = .ok (.invokestatic 107, 3) := by decide +kernel
theorem dL_law_1005 : decode cL_law 1005 = .ok (.aload 6, 2) := by decide +kernel
theorem dL_law_1007 : decode cL_law 1007 = .ok (.iload 13, 2) := by decide +kernel
theorem dL_law_1009 : decode cL_law 1009 = .ok (.iaload, 1) := by decide +kernel
theorem dL_law_1010 : decode cL_law 1010 = .ok (.if_icmp .ne 7, 3) := by decide +kernel
theorem dL_law_1013 : decode cL_law 1013 = .ok (.iconst 1, 1) := by decide +kernel
theorem dL_law_1014 : decode cL_law 1014 = .ok (.goto 4, 3) := by decide +kernel
theorem dL_law_1017 : decode cL_law 1017 = .ok (.iconst 0, 1) := by decide +kernel
theorem dL_law_1018 : decode cL_law 1018 = .ok (.iand, 1) := by decide +kernel
theorem dL_law_1019 : decode cL_law 1019 = .ok (.istore_n 2, 1) := by decide +kernel
theorem dL_law_1020 : decode cL_law 1020 = .ok (.iinc 13 1, 3) := by decide +kernel
theorem dL_law_1023 : decode cL_law 1023 = .ok (.goto (-33), 3) := by decide +kernel
theorem dL_law_1026 : decode cL_law 1026 = .ok (.iload_n 2, 1) := by decide +kernel
theorem dL_law_1027 : decode cL_law 1027 = .ok (.aload_n 1, 1) := by decide +kernel
theorem dL_law_1028 : decode cL_law 1028 = .ok (.iload_n 3, 1) := by decide +kernel
theorem dL_law_1029 : decode cL_law 1029 = .ok (.iload 7, 2) := by decide +kernel
theorem dL_law_1031 : decode cL_law 1031 = .ok (.invokestatic 107, 3) := by decide +kernel
theorem dL_law_1034 : decode cL_law 1034 = .ok (.ldc 20, 2) := by decide +kernel
theorem dL_law_1036 : decode cL_law 1036 = .ok (.if_icmp .ne 7, 3) := by decide +kernel
theorem dL_law_1039 : decode cL_law 1039 = .ok (.iconst 1, 1) := by decide +kernel
theorem dL_law_1040 : decode cL_law 1040 = .ok (.goto 4, 3) := by decide +kernel
theorem dL_law_1043 : decode cL_law 1043 = .ok (.iconst 0, 1) := by decide +kernel
theorem dL_law_1044 : decode cL_law 1044 = .ok (.iand, 1) := by decide +kernel
theorem dL_law_1045 : decode cL_law 1045 = .ok (.istore_n 2, 1) := by decide +kernel
theorem dL_law_1046 : decode cL_law 1046 = .ok (.iinc 3 1, 3) := by decide +kernel
theorem dL_law_1049 : decode cL_law 1049 = .ok (.iinc 4 1, 3) := by decide +kernel
theorem dL_law_1052 : decode cL_law 1052 = .ok (.goto (-962), 3) := by decide +kernel
theorem dL_law_1055 : decode cL_law 1055 = .ok (.iload_n 2, 1) := by decide +kernel
theorem dL_law_1056 : decode cL_law 1056 = .ok (.ifCond .eq 67, 3) := by decide +kernel
theorem dL_law_1059 : decode cL_law 1059 = .ok (.aload_n 1, 1) := by decide +kernel
theorem dL_law_1060 : decode cL_law 1060 = .ok (.iload_n 3, 1) := by decide +kernel
theorem dL_law_1061 : decode cL_law 1061 = .ok (.invokestatic 83, 3) := by decide +kernel
theorem dL_law_1064 : decode cL_law 1064 = .ok (.ldc 17, 2) := by decide +kernel
theorem dL_law_1066 : decode cL_law 1066 = .ok (.if_icmp .ne 57, 3) := by decide +kernel
theorem dL_law_1069 : decode cL_law 1069 = .ok (.aload_n 1, 1) := by decide +kernel
theorem dL_law_1070 : decode cL_law 1070 = .ok (.iload_n 3, 1) := by decide +kernel
theorem dL_law_1071 : decode cL_law 1071 = .ok (.iconst 0, 1) := by decide +kernel
theorem dL_law_1072 : decode cL_law 1072 = .ok (.invokestatic 105, 3) := by decide +kernel
theorem dL_law_1075 : decode cL_law 1075 = .ok (.ldc 17, 2) := by decide +kernel
theorem dL_law_1077 : decode cL_law 1077 = .ok (.if_icmp .ne 46, 3) := by decide +kernel
theorem dL_law_1080 : decode cL_law 1080 = .ok (.aload_n 1, 1) := by decide +kernel
theorem dL_law_1081 : decode cL_law 1081 = .ok (.iload_n 3, 1) := by decide +kernel
theorem dL_law_1082 : decode cL_law 1082 = .ok (.iconst 0, 1) := by decide +kernel
theorem dL_law_1083 : decode cL_law 1083 = .ok (.invokestatic 109, 3) := by decide +kernel
theorem dL_law_1086 : decode cL_law 1086 = .ok (.ldc 17, 2) := by decide +kernel
theorem dL_law_1088 : decode cL_law 1088 = .ok (.if_icmp .ne 35, 3) := by decide +kernel
theorem dL_law_1091 : decode cL_law 1091 = .ok (.aload_n 1, 1) := by decide +kernel
theorem dL_law_1092 : decode cL_law 1092 = .ok (.iconst 0, 1) := by decide +kernel
theorem dL_law_1093 : decode cL_law 1093 = .ok (.bipush 41, 2) := by decide +kernel
theorem dL_law_1095 : decode cL_law 1095 = .ok (.invokestatic 109, 3) := by decide +kernel
theorem dL_law_1098 : decode cL_law 1098 = .ok (.iload_n 3, 1) := by decide +kernel
theorem dL_law_1099 : decode cL_law 1099 = .ok (.ifCond .ne 8, 3) := by decide +kernel
theorem dL_law_1102 : decode cL_law 1102 = .ok (.ldc 17, 2) := by decide +kernel
theorem dL_law_1104 : decode cL_law 1104 = .ok (.goto 5, 3) := by decide +kernel
theorem dL_law_1107 : decode cL_law 1107 = .ok (.ldc 20, 2) := by decide +kernel
theorem dL_law_1109 : decode cL_law 1109 = .ok (.if_icmp .ne 14, 3) := by decide +kernel
theorem dL_law_1112 : decode cL_law 1112 = .ok (.aload_n 1, 1) := by decide +kernel
theorem dL_law_1113 : decode cL_law 1113 = .ok (.invokevirtual 111, 3) := by decide +kernel
theorem dL_law_1116 : decode cL_law 1116 = .ok (.ifCond .eq 7, 3) := by decide +kernel
theorem dL_law_1119 : decode cL_law 1119 = .ok (.iconst 1, 1) := by decide +kernel
theorem dL_law_1120 : decode cL_law 1120 = .ok (.goto 4, 3) := by decide +kernel
theorem dL_law_1123 : decode cL_law 1123 = .ok (.iconst 0, 1) := by decide +kernel
theorem dL_law_1124 : decode cL_law 1124 = .ok (.ireturn, 1) := by decide +kernel
end
section
/-! my own words: the worlds' conditions, tops, pure pictures -/
abbrev zq (sz : Nat) : Nat → Prop := fun q => sz ≤ q
/-- a read-only method's start: the cells it reads -/
abbrev zPc (D : va_G) (ws : va_W) (tys : List (ClassId × FieldType)) (sz : Nat) : State → Prop := fun U => U.heap.size = sz ∧ va_P D vwCl ws U.heap ∧ va_K D vwCl tys U
theorem zfb {av : List Value} {D : va_G} {ws : va_W} {tys : List (ClassId × FieldType)} {sz : Nat} : FrameBlind (va_Pc av (zPc D ws tys sz)) := fun a U g mk q => by
  obtain ⟨q0, q1, qP, qK⟩ := q
  exact ⟨q0, q1, qP, va_K.moved (u := U) (U := U.calling g mk a) (Vm.Alike.refl U.vm) qK⟩
theorem zpre {av : List Value} {D : va_G} {ws : va_W} {tys : List (ClassId × FieldType)} {s : State} {H : Heap} (hP : va_P D vwCl ws H) (hK : va_K D vwCl tys s) : ∀ U : State, U.heap = H → s.WarmedH U.vm → va_Pc av (zPc D ws tys H.size) av.toArray U := fun U hU hW => ⟨rfl, by rw [hU], by rw [hU]; exact hP, va_K.moved hW.alike hK⟩
/-- .. with a condition of the tables (E) beside it -/
abbrev zPcE (E : State → Prop) (D : va_G) (ws : va_W) (tys : List (ClassId × FieldType)) (sz : Nat) : State → Prop := fun U => U.heap.size = sz ∧ va_P D vwCl ws U.heap ∧ va_K D vwCl tys U ∧ E U
theorem zr_keep {D : va_G} {cl : List vw_C} {ws : va_W} {H H1 : Heap} (hP : va_P D cl ws H) (hk : ∀ q : Nat, q < H.size → ¬ zq H.size q → H1[q]? = H[q]?) : va_P D cl ws H1 := hP.kept (fun k x hx => hk x.1 ((hP k x hx).lt) (Nat.not_le.mpr ((hP k x hx).lt)))
section ZT
variable {p : Program} {l : Launch} {e : Env} {R : Room} {s : State} {m : MethodId} {args : Array Value} {below : List Frame} {meth : Method} {c : Code} {H : Heap} {locs : List Loc} {cells slots : Nat} {Q : State → Prop}
theorem zt_top {pc : Nat} {ls : Array Slot} {rest : List Value} {x y : Int32} (h : x = y) (k : W p l e R s m args below meth c H locs cells slots Q (F0 m pc ls (.int y :: rest))) : W p l e R s m args below meth c H locs cells slots Q (F0 m pc ls (.int x :: rest)) := by rw [h]; exact k
theorem zt_topv {pc : Nat} {ls : Array Slot} {rest : List Value} {x y : Value} (h : x = y) (k : W p l e R s m args below meth c H locs cells slots Q (F0 m pc ls (y :: rest))) : W p l e R s m args below meth c H locs cells slots Q (F0 m pc ls (x :: rest)) := by rw [h]; exact k
end ZT
/-- a truth as the machine's int -/
def zb (b : Bool) : Int32 := if b then 1 else 0
theorem zb_t : zb true = 1 := rfl
theorem zb_f : zb false = 0 := rfl
theorem zb_0 {b : Bool} : zb b = 0 ↔ b = false := by cases b <;> decide
theorem zb_n0 {b : Bool} : ¬ zb b = 0 ↔ b = true := by cases b <;> decide
/-- one mark, as the machine's int -/
def zmk (f : Nat → Int32) (k t : Nat) : Int32 := (f k >>> (nI t &&& 31)) &&& 1
/-- how many k below n -/
def zct (p : Nat → Bool) : Nat → Nat
  | 0 => 0
  | n + 1 => zct p n + if p n then 1 else 0
theorem zct_le (p : Nat → Bool) : ∀ n, zct p n ≤ n
  | 0 => Nat.le_refl 0
  | n + 1 => by
    have ih := zct_le p n
    rw [zct]
    split <;> omega
/-- changes of a track, all around -/
def zchg (f : Nat → Int32) (n t : Nat) : Nat := zct (fun k => decide (¬ zmk f k t = zmk f ((k + 1) % n) t)) n
theorem zchg_le (f : Nat → Int32) (n t : Nat) : zchg f n t ≤ n := zct_le _ n
theorem znI_clamp {n : Nat} (h : n < 2 ^ 31) : (nI n).toNatClampNeg = n := nI_clamp h
theorem zw_0a {n a b : Int32} (h : n < a) : (0 : Int32) = zb (decide (a ≤ n) && decide (n ≤ b)) := by rw [decide_eq_false (Int32.not_le.mpr h)]; rfl
theorem zw_0b {n a b : Int32} (h : b < n) : (0 : Int32) = zb (decide (a ≤ n) && decide (n ≤ b)) := by rw [decide_eq_false (Int32.not_le.mpr h), Bool.and_false]; rfl
theorem zw_1 {n a b : Int32} (h : ¬ n < a) (h2 : ¬ b < n) : (1 : Int32) = zb (decide (a ≤ n) && decide (n ≤ b)) := by rw [decide_eq_true (Int32.not_lt.mp h), decide_eq_true (Int32.not_lt.mp h2)]; rfl
/-- the tables' word for the call of Ringtrack.modulo out of Code -/
abbrev zN (U : State) : Prop := va_Nw (.methodLinkNest RX0 36 yX6_modulo "Ringtrack") U
theorem zN_cal {U : State} {g : JFrame} {mk : MethodId} {a : Array Value} (h : zN U) : zN (U.calling g mk a) := va_Nw.same rfl (u := U) (U := U.calling g mk a) rfl h
theorem zN_warm {s U : State} (hW : s.WarmedH U.vm) (h : zN s) : zN U := va_Nw.warmM hW h
abbrev zPcN (D : va_G) (ws : va_W) (tys : List (ClassId × FieldType)) (sz : Nat) : State → Prop := fun U => U.heap.size = sz ∧ va_P D vwCl ws U.heap ∧ va_K D vwCl tys U ∧ zN U
theorem zfbN {av : List Value} {D : va_G} {ws : va_W} {tys : List (ClassId × FieldType)} {sz : Nat} : FrameBlind (va_Pc av (zPcN D ws tys sz)) := fun a U g mk q => by
  obtain ⟨q0, q1, qP, qK, qE⟩ := q
  exact ⟨q0, q1, qP, va_K.moved (u := U) (U := U.calling g mk a) (Vm.Alike.refl U.vm) qK, zN_cal qE⟩
theorem zpreN {av : List Value} {D : va_G} {ws : va_W} {tys : List (ClassId × FieldType)} {s : State} {H : Heap} (hP : va_P D vwCl ws H) (hK : va_K D vwCl tys s) (hE : zN s) : ∀ U : State, U.heap = H → s.WarmedH U.vm → va_Pc av (zPcN D ws tys H.size) av.toArray U := fun U hU hW => ⟨rfl, by rw [hU], by rw [hU]; exact hP, va_K.moved hW.alike hK, zN_warm hW hE⟩
theorem zct_t {p : Nat → Bool} {n : Nat} (h : p n = true) : zct p (n + 1) = zct p n + 1 := by rw [zct, h]; rfl
theorem zct_f {p : Nat → Bool} {n : Nat} (h : p n = false) : zct p (n + 1) = zct p n := by rw [zct, h]; rfl
/-- all below n -/
def zal (p : Nat → Bool) : Nat → Bool
  | 0 => true
  | n + 1 => zal p n && p n
/-- one below n -/
def zex (p : Nat → Bool) : Nat → Bool
  | 0 => false
  | n + 1 => zex p n || p n
theorem zal_s {p : Nat → Bool} {n : Nat} (h : zal p n = true) (h2 : p n = true) : zal p (n + 1) = true := by rw [zal, h, h2]; rfl
theorem zal_all {p : Nat → Bool} : ∀ {n : Nat}, zal p n = true ↔ ∀ k, k < n → p k = true
  | 0 => ⟨fun _ k hk => absurd hk (Nat.not_lt_zero k), fun _ => rfl⟩
  | n + 1 => by
    rw [zal, Bool.and_eq_true, zal_all (n := n)]
    constructor
    · intro h k hk
      rcases Nat.lt_or_ge k n with q | q
      · exact h.1 k q
      · rw [show k = n by omega]; exact h.2
    · exact fun h => ⟨fun k hk => h k (by omega), h n (by omega)⟩
theorem zex_any {p : Nat → Bool} : ∀ {n : Nat}, zex p n = true ↔ ∃ k, k < n ∧ p k = true
  | 0 => ⟨fun h => (nomatch h), fun ⟨k, hk, _⟩ => absurd hk (Nat.not_lt_zero k)⟩
  | n + 1 => by
    rw [zex, Bool.or_eq_true, zex_any (n := n)]
    constructor
    · rintro (⟨k, hk, h⟩ | h)
      · exact ⟨k, by omega, h⟩
      · exact ⟨n, by omega, h⟩
    · rintro ⟨k, hk, h⟩
      rcases Nat.lt_or_ge k n with q | q
      · exact Or.inl ⟨k, q, h⟩
      · rw [show k = n by omega] at h; exact Or.inr h
theorem zal_f {p : Nat → Bool} {n k : Nat} (hk : k < n) (h : p k = false) : zal p n = false := by
  cases e : zal p n with
  | false => rfl
  | true => rw [zal_all.mp e k hk] at h; exact (nomatch h)
theorem zex_t {p : Nat → Bool} {n k : Nat} (hk : k < n) (h : p k = true) : zex p n = true := zex_any.mpr ⟨k, hk, h⟩
theorem zex_f {p : Nat → Bool} {n : Nat} (h : zex p n = false) (h2 : p n = false) : zex p (n + 1) = false := by rw [zex, h, h2]; rfl
/-- the track t is the track 0 from b on -/
def zft (f : Nat → Int32) (n t b : Nat) : Bool := zal (fun k => decide (zmk f k t = zmk f ((k + b) % n) 0)) n
/-- .. from some place on -/
def zmv (f : Nat → Int32) (n t : Nat) : Bool := zex (fun b => zft f n t b) n
/-- each track but the first is it from some place on -/
def zon (f : Nat → Int32) (n T : Nat) : Bool := zal (fun t => t == 0 || zmv f n t) T
/-- the least and the most of how often the tracks change -/
def zlo (f : Nat → Int32) (n : Nat) : Nat → Nat
  | 0 => n
  | t + 1 => if zchg f n t < zlo f n t then zchg f n t else zlo f n t
def zhi (f : Nat → Int32) (n : Nat) : Nat → Nat
  | 0 => 0
  | t + 1 => if zhi f n t < zchg f n t then zchg f n t else zhi f n t
theorem zlo_le (f : Nat → Int32) (n : Nat) : ∀ t, zlo f n t ≤ n
  | 0 => Nat.le_refl n
  | t + 1 => by
    have := zlo_le f n t
    rw [zlo]; split <;> omega
theorem zhi_le (f : Nat → Int32) (n : Nat) : ∀ t, zhi f n t ≤ n
  | 0 => Nat.zero_le n
  | t + 1 => by
    have := zhi_le f n t
    have := zchg_le f n t
    rw [zhi]; split <;> omega
theorem zI_one {D : va_G} {cl : List vw_C} {tys : List (ClassId × FieldType)} {s : State} (hK : va_K D cl tys s) {i j : Nat} {cA cB : ClassId} (hi : tys[i]? = some (cA, .int)) (hj : tys[j]? = some (cB, .int)) : cA = cB := by
  have h1 : s.vm.findClass ("[" ++ FieldType.int.toString) = some cA := (hK.2 i _ hi).2
  have h2 : s.vm.findClass ("[" ++ FieldType.int.toString) = some cB := (hK.2 j _ hj).2
  exact Option.some.inj (h1.symm.trans h2)
theorem zlo_i (f : Nat → Int32) (n t : Nat) (hn : n < 2 ^ 30) : (if nI (zchg f n t) < nI (zlo f n t) then nI (zchg f n t) else nI (zlo f n t)) = nI (zlo f n (t + 1)) := by
  have h1 := zchg_le f n t
  have h2 := zlo_le f n t
  rw [zlo]
  by_cases h : zchg f n t < zlo f n t
  · rw [if_pos h, if_pos ((nI_ltI (by omega) (by omega)).mpr h)]
  · rw [if_neg h, if_neg (fun q => h ((nI_ltI (by omega) (by omega)).mp q))]
theorem zhi_i (f : Nat → Int32) (n t : Nat) (hn : n < 2 ^ 30) : (if nI (zhi f n t) < nI (zchg f n t) then nI (zchg f n t) else nI (zhi f n t)) = nI (zhi f n (t + 1)) := by
  have h1 := zchg_le f n t
  have h2 := zhi_le f n t
  rw [zhi]
  by_cases h : zhi f n t < zchg f n t
  · rw [if_pos h, if_pos ((nI_ltI (by omega) (by omega)).mpr h)]
  · rw [if_neg h, if_neg (fun q => h ((nI_ltI (by omega) (by omega)).mp q))]
/-- a writing method's start -/
abbrev zPcD (D : va_G) (ws : va_W) (tys : List (ClassId × FieldType)) (sz : Nat) : State → Prop := fun U => U.heap.size = sz ∧ va_P D vwCl ws U.heap ∧ va_K D vwCl tys U ∧ va_D (fun _ => True) ws
theorem zfbD {av : List Value} {D : va_G} {ws : va_W} {tys : List (ClassId × FieldType)} {sz : Nat} : FrameBlind (va_Pc av (zPcD D ws tys sz)) := fun a U g mk q => by
  obtain ⟨q0, q1, qP, qK, qD⟩ := q
  exact ⟨q0, q1, qP, va_K.moved (u := U) (U := U.calling g mk a) (Vm.Alike.refl U.vm) qK, qD⟩
theorem zpreD {av : List Value} {D : va_G} {ws : va_W} {tys : List (ClassId × FieldType)} {s : State} {H : Heap} {A : Nat → Prop} (hP : va_P D vwCl ws H) (hK : va_K D vwCl tys s) (hD : va_D A ws) : ∀ U : State, U.heap = H → s.WarmedH U.vm → va_Pc av (zPcD D ws tys H.size) av.toArray U := fun U hU hW => ⟨rfl, by rw [hU], by rw [hU]; exact hP, va_K.moved hW.alike hK, hD.weaken (fun _ _ _ _ => trivial)⟩
/-- an array with its first places filled -/
def zfl (f : Nat → Int32) (v : Int32) (k : Nat) : Nat → Int32 := fun j => if j < k then v else f j
theorem zfl_s (f : Nat → Int32) (v : Int32) (k : Nat) : upd (zfl f v k) k v = zfl f v (k + 1) := by
  funext j
  unfold upd zfl
  by_cases h : j = k
  · rw [if_pos h, if_pos (by omega)]
  · rw [if_neg h]
    by_cases h2 : j < k
    · rw [if_pos h2, if_pos (by omega)]
    · rw [if_neg h2, if_neg (by omega)]
theorem zfl_0 (f : Nat → Int32) (v : Int32) : zfl f v 0 = f := by
  funext j
  exact if_neg (Nat.not_lt_zero j)
/-- places of the words of a ring, by its first k words -/
def zpl (f : Nat → Int32) : Nat → Nat → Int32
  | 0 => zfl (fun _ => 0) (-1) 256
  | k + 1 => upd (zpl f k) ((f k &&& 255).toNatClampNeg) (nI k)
/-- the bit t of a word is there -/
def zbt (x : Int32) (t : Nat) : Bool := decide ((x >>> (nI t &&& 31)) &&& 1 = 1)
/-- one more than the highest of the first t tracks that the word x has, at least h -/
def ztw (x : Int32) (h : Nat) : Nat → Nat
  | 0 => h
  | t + 1 => if zbt x t = true ∧ ztw x h t ≤ t then t + 1 else ztw x h t
/-- how many tracks the first k words have -/
def ztr (f : Nat → Int32) : Nat → Nat
  | 0 => 0
  | k + 1 => ztw (f k &&& 255) (ztr f k) 8
theorem ztw_le (x : Int32) (h : Nat) (hh : h ≤ 8) : ∀ t, t ≤ 8 → ztw x h t ≤ 8
  | 0, _ => hh
  | t + 1, ht => by
    have := ztw_le x h hh t (by omega)
    rw [ztw]; split <;> omega
theorem ztr_le (f : Nat → Int32) : ∀ k, ztr f k ≤ 8
  | 0 => Nat.zero_le 8
  | k + 1 => ztw_le _ _ (ztr_le f k) 8 (Nat.le_refl 8)
theorem z255 (x : Int32) : ∃ w : Nat, w < 256 ∧ x &&& 255 = nI w := pk_andE x (m := 255) 8 (by decide)
/-- one less, from -1 on -/
def zh (h : Nat) : Int32 := nI h - nI 1
theorem zh_0 : zh 0 = -1 := by decide
theorem zh_s (t : Nat) : zh (t + 1) = nI t := nI_pred t
theorem zh_1 (h : Nat) : zh h + 1 = nI h := Int32.sub_add_cancel (nI h) 1
theorem zh_le {t h : Nat} (ht : t < 2 ^ 30) (hh : h < 2 ^ 30) : nI t ≤ zh h ↔ t < h := by
  rw [Int32.le_iff_toInt_le, zh, pk_sub_toInt hh (by decide), nI_toInt (by omega)]
  omega
theorem zin255 (x : Int32) : vp_in (x &&& 255) 256 := pk_andIn x (m := 255) 8 (by decide) (by decide)
end
section
set_option maxHeartbeats 4000000 in
set_option maxRecDepth 100000 in
/-- isWithin(n, a, b) -/
theorem k_isWithin (l : Launch) (dC : Nat → ClassId) (dI : Nat → Nat → Nat) (sz : Nat) (n a b : Int32) : Met l yX6_isWithin wsX6_isWithin ({ frames := 0, cells := 0, slots := 0, locals := 0 }) (va_Pc [.int n, .int a, .int b] (zPc (dC, dI) [] [] sz)) (va_Qi (fun (r : Int32) (_ : Unit) => r = zb (decide (a ≤ n) && decide (n ≤ b))) (fun _ _ => True) (zq sz)) 0 0 (zq sz) := by
  refine Met.ofW (cc := cX6_isWithin) (maxL := 3) (ret := (some .boolean)) (by decide) rfl ?_
  intro p e s m args below meth c s₁ B hml hv
  obtain ⟨rfl, hsz, hP, hK⟩ := hv
  have hx := B.exec
  have hb := B.bytes
  have hr := B.returns
  have hts := atoms_spec (ws := wsX6_isWithin) B.pre
  have hown : s.vm.findClass RX6 = some m.cls := findClass_of_methodNamed B.named
  have hlocks := B.notSynchronized
  subst hsz
  have hA : ∀ q : Nat, s.heap.size ≤ q → zq s.heap.size q := fun q h => h
  have hS : va_S (zq s.heap.size) s.heap s.heap [] := va_S.rf
  have hl := lv_entry ([.int n, .int a, .int b]) (n := 3) (Nat.le_of_ble_eq_true rfl)
  rw [lg_entry_eq]
  generalize (lg_sl ([.int n, .int a, .int b]) ++ List.replicate (3 - (lg_sl ([.int n, .int a, .int b])).length) Slot.unset).toArray = ls at hl ⊢
  have hl : lv_has ls 3 [(0, .int n), (1, .int a), (2, .int b)] := hl
  refine lv_iload_n hx hb dX6_isWithin_0 rfl (lv_at hl 0 rfl) ?_
  refine lv_iload_n hx hb dX6_isWithin_1 rfl (lv_at hl 1 rfl) ?_
  refine lv_icmp_lt (tgt := 14) hx hb dX6_isWithin_2 (by decide) (fun c2 => ?_) (fun c2 => ?_)
  · skip
    refine lv_iconst (v := 0) hx hb dX6_isWithin_14 (by decide) ?_
    exact W.zret (v := 0) hx hb hr (by decide) (fun t9 ht hW => ⟨⟨_, (), rfl, zw_0a c2, trivial⟩, hS.F ht⟩) hS.2.2 dX6_isWithin_15
  · skip
    refine lv_iload_n hx hb dX6_isWithin_5 rfl (lv_at hl 0 rfl) ?_
    refine lv_iload_n hx hb dX6_isWithin_6 rfl (lv_at hl 2 rfl) ?_
    refine lv_icmp_gt (tgt := 14) hx hb dX6_isWithin_7 (by decide) (fun c7 => ?_) (fun c7 => ?_)
    · skip
      refine lv_iconst (v := 0) hx hb dX6_isWithin_14 (by decide) ?_
      exact W.zret (v := 0) hx hb hr (by decide) (fun t9 ht hW => ⟨⟨_, (), rfl, zw_0b c7, trivial⟩, hS.F ht⟩) hS.2.2 dX6_isWithin_15
    · skip
      refine lv_iconst (v := 1) hx hb dX6_isWithin_10 (by decide) ?_
      refine lv_goto (tgt := 15) hx hb dX6_isWithin_11 (by decide) ?_
      exact W.zret (v := 1) hx hb hr (by decide) (fun t9 ht hW => ⟨⟨_, (), rfl, zw_1 c2 c7, trivial⟩, hS.F ht⟩) hS.2.2 dX6_isWithin_15

set_option maxHeartbeats 4000000 in
set_option maxRecDepth 100000 in
/-- modulo(a, b), both from 0 on -/
theorem k_modulo (l : Launch) (dC : Nat → ClassId) (dI : Nat → Nat → Nat) (sz : Nat) (a b : Nat) (ha : a < 2 ^ 31) (h0 : 0 < b) (hb2 : b < 2 ^ 31) : Met l yX6_modulo wsX6_modulo ({ frames := 0, cells := 0, slots := 0, locals := 0 }) (va_Pc [.int (nI a), .int (nI b)] (zPc (dC, dI) [] [] sz)) (va_Qi (fun (r : Int32) (_ : Unit) => r = nI (a % b)) (fun _ _ => True) (zq sz)) 0 0 (zq sz) := by
  refine Met.ofW (cc := cX6_modulo) (maxL := 3) (ret := (some .int)) (by decide) rfl ?_
  intro p e s m args below meth c s₁ B hml hv
  obtain ⟨rfl, hsz, hP, hK⟩ := hv
  have hx := B.exec
  have hb := B.bytes
  have hr := B.returns
  have hts := atoms_spec (ws := wsX6_modulo) B.pre
  have hown : s.vm.findClass RX6 = some m.cls := findClass_of_methodNamed B.named
  have hlocks := B.notSynchronized
  subst hsz
  have hA : ∀ q : Nat, s.heap.size ≤ q → zq s.heap.size q := fun q h => h
  have hS : va_S (zq s.heap.size) s.heap s.heap [] := va_S.rf
  have hl := lv_entry ([.int (nI a), .int (nI b)]) (n := 3) (Nat.le_of_ble_eq_true rfl)
  rw [lg_entry_eq]
  generalize (lg_sl ([.int (nI a), .int (nI b)]) ++ List.replicate (3 - (lg_sl ([.int (nI a), .int (nI b)])).length) Slot.unset).toArray = ls at hl ⊢
  have hl : lv_has ls 3 [(0, .int (nI a)), (1, .int (nI b))] := hl
  refine lv_iload_n hx hb dX6_modulo_0 rfl (lv_at hl 1 rfl) ?_
  refine lv_if_gt (tgt := 6) hx hb dX6_modulo_1 (by decide) (fun c1 => ?_) (fun c => absurd ((nI_0 ▸ nI_lt h0 hb2 : (0 : Int32) < nI b)) c)
  refine lv_iload_n hx hb dX6_modulo_6 rfl (lv_at hl 0 rfl) ?_
  refine lv_iload_n hx hb dX6_modulo_7 rfl (lv_at hl 1 rfl) ?_
  refine lv_irem hx hb dX6_modulo_8 (nI_ne0 h0 hb2) ?_
  refine zt_top (y := nI (a % b)) (pk_rem ha h0 hb2) ?_
  refine lv_istore_n (lv' := [(2, .int (nI (a % b))), (0, .int (nI a)), (1, .int (nI b))]) hx hb dX6_modulo_9 rfl hl (by decide) rfl (fun ls hl => ?_)
  refine lv_iload_n hx hb dX6_modulo_10 rfl (lv_at hl 0 rfl) ?_
  refine lv_if_ge (tgt := 20) hx hb dX6_modulo_11 (by decide) (fun c11 => ?_) (fun c => absurd (nI_pos' (Nat.lt_of_le_of_lt (Nat.mod_le a b) ha)) c)
  refine lv_iload_n hx hb dX6_modulo_20 rfl (lv_at hl 0 rfl) ?_
  exact W.iret (v := (nI (a % b))) hx hb hr (fun t9 ht hW => ⟨⟨_, (), rfl, rfl, trivial⟩, hS.F ht⟩) hS.2.2 dX6_modulo_21

set_option maxHeartbeats 4000000 in
set_option maxRecDepth 100000 in
/-- hasPlace(k) -/
theorem k_hasPlace (l : Launch) (dC : Nat → ClassId) (dI : Nat → Nat → Nat) (sz : Nat) (cI : ClassId) (h0 h1 h2 : Nat) (n T : Nat) (f g : Nat → Int32) (k : Nat) (hk : k < 2 ^ 31) (hn : n < 2 ^ 31) : Met l yX0_hasPlace wsX0_hasPlace ({ frames := 0, cells := 0, slots := 0, locals := 0 }) (va_Pc [.ref h0, .int (nI k)] (zPc (dC, dI) [(h0, .inr (0, [.ref h1, .int (nI T), .ref h2])), (h1, .inl (cI, n, .inl f)), (h2, .inl (cI, 256, .inl g))] [(cI, .int)] sz)) (va_Qi (fun (r : Int32) (_ : Unit) => r = zb (decide (k < n))) (fun _ _ => True) (zq sz)) 0 0 (zq sz) := by
  refine Met.ofW (cc := cX0_hasPlace) (maxL := 2) (ret := (some .boolean)) (by decide) rfl ?_
  intro p e s m args below meth c s₁ B hml hv
  obtain ⟨rfl, hsz, hP, hK⟩ := hv
  have hx := B.exec
  have hb := B.bytes
  have hr := B.returns
  have hts := atoms_spec (ws := wsX0_hasPlace) B.pre
  have hown : s.vm.findClass RX0 = some m.cls := findClass_of_methodNamed B.named
  have hlocks := B.notSynchronized
  subst hsz
  have hi0 : ∀ w ∈ u_ws RX0 TX0 3, w ∈ wsX0_hasPlace := by decide +kernel
  have hA : ∀ q : Nat, s.heap.size ≤ q → zq s.heap.size q := fun q h => h
  have hS : va_S (zq s.heap.size) s.heap s.heap [] := va_S.rf
  have hl := lv_entry ([.ref h0, .int (nI k)]) (n := 2) (Nat.le_of_ble_eq_true rfl)
  rw [lg_entry_eq]
  generalize (lg_sl ([.ref h0, .int (nI k)]) ++ List.replicate (2 - (lg_sl ([.ref h0, .int (nI k)])).length) Slot.unset).toArray = ls at hl ⊢
  have hl : lv_has ls 2 [(0, .ref h0), (1, .int (nI k))] := hl
  refine lv_iload_n hx hb dX0_hasPlace_0 rfl (lv_at hl 1 rfl) ?_
  refine lv_if_lt (tgt := 17) hx hb dX0_hasPlace_1 (by decide) (fun c => absurd c (nI_pos hk)) (fun c1 => ?_)
  refine lv_iload_n hx hb dX0_hasPlace_4 rfl (lv_at hl 1 rfl) ?_
  refine lv_aload_n hx hb dX0_hasPlace_5 rfl (lv_at hl 0 rfl) ?_
  refine va_get (D := (dC, dI)) (ci := 0) (v := .ref h1) (C := RX0) (T := TX0) (N := 3) hx hb hts hi0 hown hK hP 0 rfl rfl 0 (by decide) (hts (.fieldLink RX0 15 "Ringtrack$Code" "words" "[I") (List.mem_of_getElem? (i := 1) rfl)) (fun _ h9 => h9) rfl dX0_hasPlace_6 ?_
  refine va_alen (v := (nI n)) hx hb hK hP 1 0 rfl rfl rfl dX0_hasPlace_9 ?_
  refine lv_icmp_ge (tgt := 17) hx hb dX0_hasPlace_10 (by decide) (fun c10 => ?_) (fun c10 => ?_)
  · skip
    refine lv_iconst (v := 0) hx hb dX0_hasPlace_17 (by decide) ?_
    exact W.zret (v := 0) hx hb hr (by decide) (fun t9 ht hW => ⟨⟨_, (), rfl, by rw [decide_eq_false (Nat.not_lt.mpr ((nI_leI hn hk).mp c10))]; rfl, trivial⟩, hS.F ht⟩) hS.2.2 dX0_hasPlace_18
  · skip
    refine lv_iconst (v := 1) hx hb dX0_hasPlace_13 (by decide) ?_
    refine lv_goto (tgt := 18) hx hb dX0_hasPlace_14 (by decide) ?_
    exact W.zret (v := 1) hx hb hr (by decide) (fun t9 ht hW => ⟨⟨_, (), rfl, by rw [decide_eq_true (Nat.lt_of_not_le (fun q => c10 ((nI_leI hn hk).mpr q)))]; rfl, trivial⟩, hS.F ht⟩) hS.2.2 dX0_hasPlace_18

set_option maxHeartbeats 4000000 in
set_option maxRecDepth 100000 in
/-- hasTrack(k) -/
theorem k_hasTrack (l : Launch) (dC : Nat → ClassId) (dI : Nat → Nat → Nat) (sz : Nat) (cI : ClassId) (h0 h1 h2 : Nat) (n T : Nat) (f g : Nat → Int32) (k : Nat) (hk : k < 2 ^ 31) (hn : T < 2 ^ 31) : Met l yX0_hasTrack wsX0_hasTrack ({ frames := 0, cells := 0, slots := 0, locals := 0 }) (va_Pc [.ref h0, .int (nI k)] (zPc (dC, dI) [(h0, .inr (0, [.ref h1, .int (nI T), .ref h2])), (h1, .inl (cI, n, .inl f)), (h2, .inl (cI, 256, .inl g))] [(cI, .int)] sz)) (va_Qi (fun (r : Int32) (_ : Unit) => r = zb (decide (k < T))) (fun _ _ => True) (zq sz)) 0 0 (zq sz) := by
  refine Met.ofW (cc := cX0_hasTrack) (maxL := 2) (ret := (some .boolean)) (by decide) rfl ?_
  intro p e s m args below meth c s₁ B hml hv
  obtain ⟨rfl, hsz, hP, hK⟩ := hv
  have hx := B.exec
  have hb := B.bytes
  have hr := B.returns
  have hts := atoms_spec (ws := wsX0_hasTrack) B.pre
  have hown : s.vm.findClass RX0 = some m.cls := findClass_of_methodNamed B.named
  have hlocks := B.notSynchronized
  subst hsz
  have hi0 : ∀ w ∈ u_ws RX0 TX0 3, w ∈ wsX0_hasTrack := by decide +kernel
  have hA : ∀ q : Nat, s.heap.size ≤ q → zq s.heap.size q := fun q h => h
  have hS : va_S (zq s.heap.size) s.heap s.heap [] := va_S.rf
  have hl := lv_entry ([.ref h0, .int (nI k)]) (n := 2) (Nat.le_of_ble_eq_true rfl)
  rw [lg_entry_eq]
  generalize (lg_sl ([.ref h0, .int (nI k)]) ++ List.replicate (2 - (lg_sl ([.ref h0, .int (nI k)])).length) Slot.unset).toArray = ls at hl ⊢
  have hl : lv_has ls 2 [(0, .ref h0), (1, .int (nI k))] := hl
  refine lv_iload_n hx hb dX0_hasTrack_0 rfl (lv_at hl 1 rfl) ?_
  refine lv_if_lt (tgt := 16) hx hb dX0_hasTrack_1 (by decide) (fun c => absurd c (nI_pos hk)) (fun c1 => ?_)
  refine lv_iload_n hx hb dX0_hasTrack_4 rfl (lv_at hl 1 rfl) ?_
  refine lv_aload_n hx hb dX0_hasTrack_5 rfl (lv_at hl 0 rfl) ?_
  refine va_get (D := (dC, dI)) (ci := 0) (v := .int (nI T)) (C := RX0) (T := TX0) (N := 3) hx hb hts hi0 hown hK hP 0 rfl rfl 1 (by decide) (hts (.fieldLink RX0 24 "Ringtrack$Code" "tracks" "I") (List.mem_of_getElem? (i := 1) rfl)) (fun _ h9 => h9) rfl dX0_hasTrack_6 ?_
  refine lv_icmp_ge (tgt := 16) hx hb dX0_hasTrack_9 (by decide) (fun c9 => ?_) (fun c9 => ?_)
  · skip
    refine lv_iconst (v := 0) hx hb dX0_hasTrack_16 (by decide) ?_
    exact W.zret (v := 0) hx hb hr (by decide) (fun t9 ht hW => ⟨⟨_, (), rfl, by rw [decide_eq_false (Nat.not_lt.mpr ((nI_leI hn hk).mp c9))]; rfl, trivial⟩, hS.F ht⟩) hS.2.2 dX0_hasTrack_17
  · skip
    refine lv_iconst (v := 1) hx hb dX0_hasTrack_12 (by decide) ?_
    refine lv_goto (tgt := 17) hx hb dX0_hasTrack_13 (by decide) ?_
    exact W.zret (v := 1) hx hb hr (by decide) (fun t9 ht hW => ⟨⟨_, (), rfl, by rw [decide_eq_true (Nat.lt_of_not_le (fun q => c9 ((nI_leI hn hk).mpr q)))]; rfl, trivial⟩, hS.F ht⟩) hS.2.2 dX0_hasTrack_17

set_option maxHeartbeats 4000000 in
set_option maxRecDepth 100000 in
/-- wordAt(k) -/
theorem k_wordAt (l : Launch) (dC : Nat → ClassId) (dI : Nat → Nat → Nat) (sz : Nat) (cI : ClassId) (h0 h1 h2 : Nat) (n T : Nat) (f g : Nat → Int32) (k : Nat) (hk : k < n) (hn : n < 2 ^ 31) : Met l yX0_wordAt wsX0_wordAt ({ frames := 1, cells := 0, slots := 0, locals := 21 }) (va_Pc [.ref h0, .int (nI k)] (zPc (dC, dI) [(h0, .inr (0, [.ref h1, .int (nI T), .ref h2])), (h1, .inl (cI, n, .inl f)), (h2, .inl (cI, 256, .inl g))] [(cI, .int)] sz)) (va_Qi (fun (r : Int32) (_ : Unit) => r = f k) (fun _ _ => True) (zq sz)) 0 0 (zq sz) := by
  refine Met.ofW (cc := cX0_wordAt) (maxL := 2) (ret := (some .int)) (by decide) rfl ?_
  intro p e s m args below meth c s₁ B hml hv
  obtain ⟨rfl, hsz, hP, hK⟩ := hv
  have hx := B.exec
  have hb := B.bytes
  have hr := B.returns
  have hts := atoms_spec (ws := wsX0_wordAt) B.pre
  have hown : s.vm.findClass RX0 = some m.cls := findClass_of_methodNamed B.named
  have hlocks := B.notSynchronized
  subst hsz
  have hi0 : ∀ w ∈ u_ws RX0 TX0 3, w ∈ wsX0_wordAt := by decide +kernel
  have hA : ∀ q : Nat, s.heap.size ≤ q → zq s.heap.size q := fun q h => h
  have hS : va_S (zq s.heap.size) s.heap s.heap [] := va_S.rf
  have hl := lv_entry ([.ref h0, .int (nI k)]) (n := 2) (Nat.le_of_ble_eq_true rfl)
  rw [lg_entry_eq]
  generalize (lg_sl ([.ref h0, .int (nI k)]) ++ List.replicate (2 - (lg_sl ([.ref h0, .int (nI k)])).length) Slot.unset).toArray = ls at hl ⊢
  have hl : lv_has ls 2 [(0, .ref h0), (1, .int (nI k))] := hl
  refine lv_aload_n hx hb dX0_wordAt_0 rfl (lv_at hl 0 rfl) ?_
  refine lv_iload_n hx hb dX0_wordAt_1 rfl (lv_at hl 1 rfl) ?_
  refine va_calli (va_runV (As := [.int (nI k)]) (rest := []) ⟨hx, hb, hml, hown, hts⟩ (k_hasPlace l dC dI s.heap.size cI h0 h1 h2 n T f g k (by omega) hn) (cwV 1 hts gX0_wordAt_X0_hasPlace rfl rfl rfl (by decide +kernel) ⟨Nat.le_of_ble_eq_true rfl, Nat.le_of_ble_eq_true rfl⟩) ⟨zfb, va_recv hK hP (ci := 0) (q0 := 0) rfl rfl, zpre (hP.sub (ws' := [(h0, .inr (0, [.ref h1, .int (nI T), .ref h2])), (h1, .inl (cI, n, .inl f)), (h2, .inl (cI, 256, .inl g))]) [0, 1, 2] rfl) (hK.sub (tys' := [(cI, .int)]) [0] rfl)⟩ rfl rfl hl.1 rfl (lv_room (Nat.le_of_ble_eq_true rfl)) dX0_wordAt_2 ⟨Nat.le_of_ble_eq_true rfl, Nat.le_of_ble_eq_true rfl⟩) hS (fun q h1 h2 => absurd h2 (Nat.not_le.mpr h1)) (fun q h => hA q (Nat.le_trans hS.1 h)) (fun r9 u9 t9 H1 locs ht hvm hw hB hz1 hk1 hS => ?_)
  have hw : r9 = zb (decide (k < n)) := hw
  subst hw
  have hP := zr_keep hP hk1
  clear hk1 hz1 hB ht hvm
  refine zt_top (y := 1) (by rw [decide_eq_true hk]; rfl) ?_
  refine lv_if_eq (tgt := 17) hx hb dX0_wordAt_5 (by decide) (fun c => absurd c (by decide)) (fun c5 => ?_)
  refine lv_aload_n hx hb dX0_wordAt_8 rfl (lv_at hl 0 rfl) ?_
  refine va_get (D := (dC, dI)) (ci := 0) (v := .ref h1) (C := RX0) (T := TX0) (N := 3) hx hb hts hi0 hown hK hP 0 rfl rfl 0 (by decide) (hts (.fieldLink RX0 15 "Ringtrack$Code" "words" "[I") (List.mem_of_getElem? (i := 1) rfl)) (fun _ h9 => h9) rfl dX0_wordAt_9 ?_
  refine lv_iload_n hx hb dX0_wordAt_12 rfl (lv_at hl 1 rfl) ?_
  refine va_iald hx hb hK hP 1 0 rfl rfl (vp_in_nI hk hn) dX0_wordAt_13 ?_
  refine zt_top (y := f k) (by rw [nI_clamp (by omega)]) ?_
  refine lv_goto (tgt := 18) hx hb dX0_wordAt_14 (by decide) ?_
  exact W.iret (v := (f k)) hx hb hr (fun t9 ht hW => ⟨⟨_, (), rfl, rfl, trivial⟩, hS.F ht⟩) hS.2.2 dX0_wordAt_18

set_option maxHeartbeats 4000000 in
set_option maxRecDepth 100000 in
/-- placeOf(w) -/
theorem k_placeOf (l : Launch) (dC : Nat → ClassId) (dI : Nat → Nat → Nat) (sz : Nat) (cI : ClassId) (h0 h1 h2 : Nat) (n T : Nat) (f g : Nat → Int32) (k : Nat) (hk : k < 256) : Met l yX0_placeOf wsX0_placeOf ({ frames := 0, cells := 0, slots := 0, locals := 0 }) (va_Pc [.ref h0, .int (nI k)] (zPc (dC, dI) [(h0, .inr (0, [.ref h1, .int (nI T), .ref h2])), (h1, .inl (cI, n, .inl f)), (h2, .inl (cI, 256, .inl g))] [(cI, .int)] sz)) (va_Qi (fun (r : Int32) (_ : Unit) => r = g k) (fun _ _ => True) (zq sz)) 0 0 (zq sz) := by
  refine Met.ofW (cc := cX0_placeOf) (maxL := 2) (ret := (some .int)) (by decide) rfl ?_
  intro p e s m args below meth c s₁ B hml hv
  obtain ⟨rfl, hsz, hP, hK⟩ := hv
  have hx := B.exec
  have hb := B.bytes
  have hr := B.returns
  have hts := atoms_spec (ws := wsX0_placeOf) B.pre
  have hown : s.vm.findClass RX0 = some m.cls := findClass_of_methodNamed B.named
  have hlocks := B.notSynchronized
  subst hsz
  have hi0 : ∀ w ∈ u_ws RX0 TX0 3, w ∈ wsX0_placeOf := by decide +kernel
  have hA : ∀ q : Nat, s.heap.size ≤ q → zq s.heap.size q := fun q h => h
  have hS : va_S (zq s.heap.size) s.heap s.heap [] := va_S.rf
  have hl := lv_entry ([.ref h0, .int (nI k)]) (n := 2) (Nat.le_of_ble_eq_true rfl)
  rw [lg_entry_eq]
  generalize (lg_sl ([.ref h0, .int (nI k)]) ++ List.replicate (2 - (lg_sl ([.ref h0, .int (nI k)])).length) Slot.unset).toArray = ls at hl ⊢
  have hl : lv_has ls 2 [(0, .ref h0), (1, .int (nI k))] := hl
  refine lv_iload_n hx hb dX0_placeOf_0 rfl (lv_at hl 1 rfl) ?_
  refine lv_if_lt (tgt := 22) hx hb dX0_placeOf_1 (by decide) (fun c => absurd c (nI_pos (by omega))) (fun c1 => ?_)
  refine lv_iload_n hx hb dX0_placeOf_4 rfl (lv_at hl 1 rfl) ?_
  refine lv_aload_n hx hb dX0_placeOf_5 rfl (lv_at hl 0 rfl) ?_
  refine va_get (D := (dC, dI)) (ci := 0) (v := .ref h2) (C := RX0) (T := TX0) (N := 3) hx hb hts hi0 hown hK hP 0 rfl rfl 2 (by decide) (hts (.fieldLink RX0 9 "Ringtrack$Code" "places" "[I") (List.mem_of_getElem? (i := 1) rfl)) (fun _ h9 => h9) rfl dX0_placeOf_6 ?_
  refine va_alen (v := 256) hx hb hK hP 2 0 rfl rfl rfl dX0_placeOf_9 ?_
  refine lv_icmp_ge (tgt := 22) hx hb dX0_placeOf_10 (by decide) (fun c => absurd c (nI_ge hk (by decide))) (fun c10 => ?_)
  refine lv_aload_n hx hb dX0_placeOf_13 rfl (lv_at hl 0 rfl) ?_
  refine va_get (D := (dC, dI)) (ci := 0) (v := .ref h2) (C := RX0) (T := TX0) (N := 3) hx hb hts hi0 hown hK hP 0 rfl rfl 2 (by decide) (hts (.fieldLink RX0 9 "Ringtrack$Code" "places" "[I") (List.mem_of_getElem? (i := 1) rfl)) (fun _ h9 => h9) rfl dX0_placeOf_14 ?_
  refine lv_iload_n hx hb dX0_placeOf_17 rfl (lv_at hl 1 rfl) ?_
  refine va_iald hx hb hK hP 2 0 rfl rfl (vp_in_nI hk (by decide)) dX0_placeOf_18 ?_
  refine zt_top (y := g k) (by rw [nI_clamp (by omega)]) ?_
  refine lv_goto (tgt := 23) hx hb dX0_placeOf_19 (by decide) ?_
  exact W.iret (v := (g k)) hx hb hr (fun t9 ht hW => ⟨⟨_, (), rfl, rfl, trivial⟩, hS.F ht⟩) hS.2.2 dX0_placeOf_23

set_option maxHeartbeats 4000000 in
set_option maxRecDepth 100000 in
/-- mark(k, t) -/
theorem k_mark (l : Launch) (dC : Nat → ClassId) (dI : Nat → Nat → Nat) (sz : Nat) (cI : ClassId) (h0 h1 h2 : Nat) (n T : Nat) (f g : Nat → Int32) (k t : Nat) (hk : k < n) (hn : n < 2 ^ 31) : Met l yX0_mark wsX0_mark ({ frames := 2, cells := 0, slots := 0, locals := 42 }) (va_Pc [.ref h0, .int (nI k), .int (nI t)] (zPc (dC, dI) [(h0, .inr (0, [.ref h1, .int (nI T), .ref h2])), (h1, .inl (cI, n, .inl f)), (h2, .inl (cI, 256, .inl g))] [(cI, .int)] sz)) (va_Qi (fun (r : Int32) (_ : Unit) => r = zmk f k t) (fun _ _ => True) (zq sz)) 0 0 (zq sz) := by
  refine Met.ofW (cc := cX0_mark) (maxL := 3) (ret := (some .int)) (by decide) rfl ?_
  intro p e s m args below meth c s₁ B hml hv
  obtain ⟨rfl, hsz, hP, hK⟩ := hv
  have hx := B.exec
  have hb := B.bytes
  have hr := B.returns
  have hts := atoms_spec (ws := wsX0_mark) B.pre
  have hown : s.vm.findClass RX0 = some m.cls := findClass_of_methodNamed B.named
  have hlocks := B.notSynchronized
  subst hsz
  have hi0 : ∀ w ∈ u_ws RX0 TX0 3, w ∈ wsX0_mark := by decide +kernel
  have hA : ∀ q : Nat, s.heap.size ≤ q → zq s.heap.size q := fun q h => h
  have hS : va_S (zq s.heap.size) s.heap s.heap [] := va_S.rf
  have hl := lv_entry ([.ref h0, .int (nI k), .int (nI t)]) (n := 3) (Nat.le_of_ble_eq_true rfl)
  rw [lg_entry_eq]
  generalize (lg_sl ([.ref h0, .int (nI k), .int (nI t)]) ++ List.replicate (3 - (lg_sl ([.ref h0, .int (nI k), .int (nI t)])).length) Slot.unset).toArray = ls at hl ⊢
  have hl : lv_has ls 3 [(0, .ref h0), (1, .int (nI k)), (2, .int (nI t))] := hl
  refine lv_aload_n hx hb dX0_mark_0 rfl (lv_at hl 0 rfl) ?_
  refine lv_iload_n hx hb dX0_mark_1 rfl (lv_at hl 1 rfl) ?_
  refine va_calli (va_runV (As := [.int (nI k)]) (rest := []) ⟨hx, hb, hml, hown, hts⟩ (k_wordAt l dC dI s.heap.size cI h0 h1 h2 n T f g k hk hn) (cwV 1 hts gX0_mark_X0_wordAt rfl rfl rfl (by decide +kernel) ⟨Nat.le_of_ble_eq_true rfl, Nat.le_of_ble_eq_true rfl⟩) ⟨zfb, va_recv hK hP (ci := 0) (q0 := 0) rfl rfl, zpre (hP.sub (ws' := [(h0, .inr (0, [.ref h1, .int (nI T), .ref h2])), (h1, .inl (cI, n, .inl f)), (h2, .inl (cI, 256, .inl g))]) [0, 1, 2] rfl) (hK.sub (tys' := [(cI, .int)]) [0] rfl)⟩ rfl rfl hl.1 rfl (lv_room (Nat.le_of_ble_eq_true rfl)) dX0_mark_2 ⟨Nat.le_of_ble_eq_true rfl, Nat.le_of_ble_eq_true rfl⟩) hS (fun q h1 h2 => absurd h2 (Nat.not_le.mpr h1)) (fun q h => hA q (Nat.le_trans hS.1 h)) (fun r9 u9 t9 H1 locs ht hvm hw hB hz1 hk1 hS => ?_)
  have hw : r9 = f k := hw
  subst hw
  have hP := zr_keep hP hk1
  clear hk1 hz1 hB ht hvm
  refine lv_iload_n hx hb dX0_mark_5 rfl (lv_at hl 2 rfl) ?_
  refine lv_ishr hx hb dX0_mark_6 ?_
  refine lv_iconst (v := 1) hx hb dX0_mark_7 (by decide) ?_
  refine lv_iand hx hb dX0_mark_8 ?_
  exact W.iret (v := (((f k) >>> ((nI t) &&& 31)) &&& 1)) hx hb hr (fun t9 ht hW => ⟨⟨_, (), rfl, rfl, trivial⟩, hS.F ht⟩) hS.2.2 dX0_mark_9
end
section
set_option maxHeartbeats 4000000 in
set_option maxRecDepth 100000 in
/-- changesOf(t) -/
theorem k_changesOf (l : Launch) (dC : Nat → ClassId) (dI : Nat → Nat → Nat) (sz : Nat) (cI : ClassId) (h0 h1 h2 : Nat) (n T : Nat) (f g : Nat → Int32) (t : Nat) (hn : n < 2 ^ 30) : Met l yX0_changesOf wsX0_changesOf ({ frames := 3, cells := 0, slots := 0, locals := 64 }) (va_Pc [.ref h0, .int (nI t)] (zPcN (dC, dI) [(h0, .inr (0, [.ref h1, .int (nI T), .ref h2])), (h1, .inl (cI, n, .inl f)), (h2, .inl (cI, 256, .inl g))] [(cI, .int)] sz)) (va_Qi (fun (r : Int32) (_ : Unit) => r = nI (zchg f n t)) (fun _ _ => True) (zq sz)) 0 0 (zq sz) := by
  refine Met.ofW (cc := cX0_changesOf) (maxL := 5) (ret := (some .int)) (by decide) rfl ?_
  intro p e s m args below meth c s₁ B hml hv
  obtain ⟨rfl, hsz, hP, hK, hE⟩ := hv
  have hx := B.exec
  have hb := B.bytes
  have hr := B.returns
  have hts := atoms_spec (ws := wsX0_changesOf) B.pre
  have hown : s.vm.findClass RX0 = some m.cls := findClass_of_methodNamed B.named
  have hlocks := B.notSynchronized
  subst hsz
  have hi0 : ∀ w ∈ u_ws RX0 TX0 3, w ∈ wsX0_changesOf := by decide +kernel
  have hA : ∀ q : Nat, s.heap.size ≤ q → zq s.heap.size q := fun q h => h
  have hS : va_S (zq s.heap.size) s.heap s.heap [] := va_S.rf
  have hl := lv_entry ([.ref h0, .int (nI t)]) (n := 5) (Nat.le_of_ble_eq_true rfl)
  rw [lg_entry_eq]
  generalize (lg_sl ([.ref h0, .int (nI t)]) ++ List.replicate (5 - (lg_sl ([.ref h0, .int (nI t)])).length) Slot.unset).toArray = ls at hl ⊢
  have hl : lv_has ls 5 [(0, .ref h0), (1, .int (nI t))] := hl
  have hn1 : n < 2 ^ 31 := by omega
  refine lv_iconst (v := 0) hx hb dX0_changesOf_0 (by decide) ?_
  refine lv_istore_n (lv' := [(2, .int 0), (0, .ref h0), (1, .int (nI t))]) hx hb dX0_changesOf_1 rfl hl (by decide) rfl (fun ls hl => ?_)
  refine lv_iconst (v := 0) hx hb dX0_changesOf_2 (by decide) ?_
  refine lv_istore_n (lv' := [(3, .int 0), (2, .int 0), (0, .ref h0), (1, .int (nI t))]) hx hb dX0_changesOf_3 rfl hl (by decide) rfl (fun ls hl => ?_)
  have loop : ∀ (d : Nat) (k : Nat), n + 1 ≤ k + d → k ≤ n → ∀ (H : Heap) (locs : List Loc), va_P (dC, dI) vwCl [(h0, .inr (0, [.ref h1, .int (nI T), .ref h2])), (h1, .inl (cI, n, .inl f)), (h2, .inl (cI, 256, .inl g))] H → va_S (zq s.heap.size) s.heap H locs → ∀ ls : Array Slot, lv_has ls 5 [(0, .ref h0), (1, .int (nI t)), (2, .int (nI (zct (fun k => decide (¬ zmk f k t = zmk f ((k + 1) % n) t)) k))), (3, .int (nI k))] → W p l e (headSpec wsX0_changesOf ({ frames := 3, cells := 0, slots := 0, locals := 64 })).room s m ([.ref h0, .int (nI t)] : List Value).toArray below meth c H locs 0 0 (MQ below (va_Qi (fun (r : Int32) (_ : Unit) => r = nI (zchg f n t)) (fun _ _ => True) (zq s.heap.size)) ([.ref h0, .int (nI t)] : List Value).toArray s 0 0 (zq s.heap.size)) (F0 m 4 ls []) := by
    intro d
    induction d with
    | zero => intro k hd hk; exact absurd hd (by omega)
    | succ d ih =>
      intro k hd hk H locs hP hS ls hl
      refine lv_iload_n hx hb dX0_changesOf_4 rfl (lv_at hl 3 rfl) ?_
      refine lv_aload_n hx hb dX0_changesOf_5 rfl (lv_at hl 0 rfl) ?_
      refine va_get (D := (dC, dI)) (ci := 0) (v := .ref h1) (C := RX0) (T := TX0) (N := 3) hx hb hts hi0 hown hK hP 0 rfl rfl 0 (by decide) (hts (.fieldLink RX0 15 "Ringtrack$Code" "words" "[I") (List.mem_of_getElem? (i := 1) rfl)) (fun _ h9 => h9) rfl dX0_changesOf_6 ?_
      refine va_alen (v := (nI n)) hx hb hK hP 1 0 rfl rfl rfl dX0_changesOf_9 ?_
      refine lv_icmp_ge (tgt := 51) hx hb dX0_changesOf_10 (by decide) (fun c10 => ?_) (fun c10 => ?_)
      · skip
        have hkn : k = n := Nat.le_antisymm hk ((nI_leI hn1 (by omega)).mp c10)
        refine lv_iload_n hx hb dX0_changesOf_51 rfl (lv_at hl 2 rfl) ?_
        exact W.iret (v := (nI (zct (fun k => decide (¬ zmk f k t = zmk f ((k + 1) % n) t)) k))) hx hb hr (fun t9 ht hW => ⟨⟨_, (), rfl, by rw [hkn]; rfl, trivial⟩, hS.F ht⟩) hS.2.2 dX0_changesOf_52
      · skip
        have hkn : k < n := Nat.lt_of_not_le (fun q => c10 ((nI_leI hn1 (by omega)).mpr q))
        refine lv_iload_n hx hb dX0_changesOf_13 rfl (lv_at hl 3 rfl) ?_
        refine lv_iconst (v := 1) hx hb dX0_changesOf_14 (by decide) ?_
        refine lv_iadd hx hb dX0_changesOf_15 ?_
        refine zt_top (y := nI (k + 1)) (nI_1 k) ?_
        refine lv_aload_n hx hb dX0_changesOf_16 rfl (lv_at hl 0 rfl) ?_
        refine va_get (D := (dC, dI)) (ci := 0) (v := .ref h1) (C := RX0) (T := TX0) (N := 3) hx hb hts hi0 hown hK hP 0 rfl rfl 0 (by decide) (hts (.fieldLink RX0 15 "Ringtrack$Code" "words" "[I") (List.mem_of_getElem? (i := 1) rfl)) (fun _ h9 => h9) rfl dX0_changesOf_17 ?_
        refine va_alen (v := (nI n)) hx hb hK hP 1 0 rfl rfl rfl dX0_changesOf_20 ?_
        refine va_calli (va_runSN (As := [.int (nI (k + 1)), .int (nI n)]) (rest := []) ⟨hx, hb, hml, hown, hts⟩ (k_modulo l dC dI H.size (k + 1) n (by omega) (by omega) (by omega)) ⟨va_cnB 2 hts gX0_changesOf_X6_modulo_n36 rfl rfl rfl (hE) (hts (.initialized RX6) (List.mem_of_getElem? (i := 3) rfl)) (by decide +kernel) ⟨Nat.le_of_ble_eq_true rfl, Nat.le_of_ble_eq_true rfl⟩, (hts (.static yX6_modulo) (List.mem_of_getElem? (i := 2) rfl)), trivial⟩ ⟨zfb, zpre (hP.sub (ws' := []) [] rfl) (hK.sub (tys' := []) [] rfl)⟩ rfl rfl hl.1 rfl (lv_room (Nat.le_of_ble_eq_true rfl)) dX0_changesOf_21 ⟨Nat.le_of_ble_eq_true rfl, Nat.le_of_ble_eq_true rfl⟩) hS (fun q h1 h2 => absurd h2 (Nat.not_le.mpr h1)) (fun q h => hA q (Nat.le_trans hS.1 h)) (fun r9 u9 t9 H1 locs ht hvm hw hB hz1 hk1 hS => ?_)
        have hw : r9 = nI ((k + 1) % n) := hw
        subst hw
        have hP := zr_keep hP hk1
        clear hk1 hz1 hB ht hvm
        refine lv_istore (lv' := [(4, .int (nI ((k + 1) % n))), (0, .ref h0), (1, .int (nI t)), (2, .int (nI (zct (fun k => decide (¬ zmk f k t = zmk f ((k + 1) % n) t)) k))), (3, .int (nI k))]) hx hb dX0_changesOf_24 hl (by decide) rfl (fun ls hl => ?_)
        refine lv_aload_n hx hb dX0_changesOf_26 rfl (lv_at hl 1 rfl) ?_
        refine lv_iload_n hx hb dX0_changesOf_27 rfl (lv_at hl 4 rfl) ?_
        refine lv_iload_n hx hb dX0_changesOf_28 rfl (lv_at hl 2 rfl) ?_
        refine va_calli (va_runV (As := [.int (nI k), .int (nI t)]) (rest := []) ⟨hx, hb, hml, hown, hts⟩ (k_mark l dC dI H1.size cI h0 h1 h2 n T f g k t hkn hn1) (cwV 2 hts gX0_changesOf_X0_mark rfl rfl rfl (by decide +kernel) ⟨Nat.le_of_ble_eq_true rfl, Nat.le_of_ble_eq_true rfl⟩) ⟨zfb, va_recv hK hP (ci := 0) (q0 := 0) rfl rfl, zpre (hP.sub (ws' := [(h0, .inr (0, [.ref h1, .int (nI T), .ref h2])), (h1, .inl (cI, n, .inl f)), (h2, .inl (cI, 256, .inl g))]) [0, 1, 2] rfl) (hK.sub (tys' := [(cI, .int)]) [0] rfl)⟩ rfl rfl hl.1 rfl (lv_room (Nat.le_of_ble_eq_true rfl)) dX0_changesOf_29 ⟨Nat.le_of_ble_eq_true rfl, Nat.le_of_ble_eq_true rfl⟩) hS (fun q h1 h2 => absurd h2 (Nat.not_le.mpr h1)) (fun q h => hA q (Nat.le_trans hS.1 h)) (fun r9 u9 t9 H1 locs ht hvm hw hB hz1 hk1 hS => ?_)
        have hw : r9 = zmk f k t := hw
        subst hw
        have hP := zr_keep hP hk1
        clear hk1 hz1 hB ht hvm
        refine lv_aload_n hx hb dX0_changesOf_32 rfl (lv_at hl 1 rfl) ?_
        refine lv_iload hx hb dX0_changesOf_33 (lv_at hl 0 rfl) ?_
        refine lv_iload_n hx hb dX0_changesOf_35 rfl (lv_at hl 2 rfl) ?_
        refine va_calli (va_runV (As := [.int (nI ((k + 1) % n)), .int (nI t)]) (rest := [.int (zmk f k t)]) ⟨hx, hb, hml, hown, hts⟩ (k_mark l dC dI H1.size cI h0 h1 h2 n T f g ((k + 1) % n) t (Nat.mod_lt _ (by omega)) hn1) (cwV 2 hts gX0_changesOf_X0_mark rfl rfl rfl (by decide +kernel) ⟨Nat.le_of_ble_eq_true rfl, Nat.le_of_ble_eq_true rfl⟩) ⟨zfb, va_recv hK hP (ci := 0) (q0 := 0) rfl rfl, zpre (hP.sub (ws' := [(h0, .inr (0, [.ref h1, .int (nI T), .ref h2])), (h1, .inl (cI, n, .inl f)), (h2, .inl (cI, 256, .inl g))]) [0, 1, 2] rfl) (hK.sub (tys' := [(cI, .int)]) [0] rfl)⟩ rfl rfl hl.1 rfl (lv_room (Nat.le_of_ble_eq_true rfl)) dX0_changesOf_36 ⟨Nat.le_of_ble_eq_true rfl, Nat.le_of_ble_eq_true rfl⟩) hS (fun q h1 h2 => absurd h2 (Nat.not_le.mpr h1)) (fun q h => hA q (Nat.le_trans hS.1 h)) (fun r9 u9 t9 H1 locs ht hvm hw hB hz1 hk1 hS => ?_)
        have hw : r9 = zmk f ((k + 1) % n) t := hw
        subst hw
        have hP := zr_keep hP hk1
        clear hk1 hz1 hB ht hvm
        refine lv_icmp_eq (tgt := 45) hx hb dX0_changesOf_39 (by decide) (fun c39 => ?_) (fun c39 => ?_)
        · skip
          have ec := zct_f (p := (fun k => decide (¬ zmk f k t = zmk f ((k + 1) % n) t))) (n := k) (decide_eq_false (not_not_intro c39))
          refine lv_iinc (v := nI (k + 1)) (lv' := [(3, .int (nI (k + 1))), (4, .int (nI ((k + 1) % n))), (0, .ref h0), (1, .int (nI t)), (2, .int (nI (zct (fun k => decide (¬ zmk f k t = zmk f ((k + 1) % n) t)) k)))]) hx hb dX0_changesOf_45 hl (k := 4) rfl (nI_1 k) (by decide) rfl (fun ls hl => ?_)
          refine lv_goto (tgt := 4) hx hb dX0_changesOf_48 (by decide) ?_
          exact ih (k + 1) (by omega) (by omega) _ _ hP hS ls (by rw [ec]; exact lv_sub hl [2, 3, 4, 0] rfl)
        · skip
          have ec := zct_t (p := (fun k => decide (¬ zmk f k t = zmk f ((k + 1) % n) t))) (n := k) (decide_eq_true c39)
          refine lv_iinc (v := nI (zct (fun k => decide (¬ zmk f k t = zmk f ((k + 1) % n) t)) k + 1)) (lv' := [(2, .int (nI (zct (fun k => decide (¬ zmk f k t = zmk f ((k + 1) % n) t)) k + 1))), (4, .int (nI ((k + 1) % n))), (0, .ref h0), (1, .int (nI t)), (3, .int (nI k))]) hx hb dX0_changesOf_42 hl (k := 3) rfl (nI_1 _) (by decide) rfl (fun ls hl => ?_)
          refine lv_iinc (v := nI (k + 1)) (lv' := [(3, .int (nI (k + 1))), (2, .int (nI (zct (fun k => decide (¬ zmk f k t = zmk f ((k + 1) % n) t)) k + 1))), (4, .int (nI ((k + 1) % n))), (0, .ref h0), (1, .int (nI t))]) hx hb dX0_changesOf_45 hl (k := 4) rfl (nI_1 k) (by decide) rfl (fun ls hl => ?_)
          refine lv_goto (tgt := 4) hx hb dX0_changesOf_48 (by decide) ?_
          exact ih (k + 1) (by omega) (by omega) _ _ hP hS ls (by rw [ec]; exact lv_sub hl [3, 4, 1, 0] rfl)
  exact loop (n + 1) 0 (by omega) (Nat.zero_le _) _ _ hP hS ls (lv_sub hl [2, 3, 1, 0] rfl)

set_option maxHeartbeats 4000000 in
set_option maxRecDepth 100000 in
/-- isFirstTrackFrom(t, b) -/
theorem k_ftFrom (l : Launch) (dC : Nat → ClassId) (dI : Nat → Nat → Nat) (sz : Nat) (cI : ClassId) (h0 h1 h2 : Nat) (n T : Nat) (f g : Nat → Int32) (t b : Nat) (hn : n < 2 ^ 30) (hbn : b < n) : Met l yX0_isFirstTrackFrom wsX0_isFirstTrackFrom ({ frames := 3, cells := 0, slots := 0, locals := 64 }) (va_Pc [.ref h0, .int (nI t), .int (nI b)] (zPcN (dC, dI) [(h0, .inr (0, [.ref h1, .int (nI T), .ref h2])), (h1, .inl (cI, n, .inl f)), (h2, .inl (cI, 256, .inl g))] [(cI, .int)] sz)) (va_Qi (fun (r : Int32) (_ : Unit) => r = zb (zft f n t b)) (fun _ _ => True) (zq sz)) 0 0 (zq sz) := by
  refine Met.ofW (cc := cX0_isFirstTrackFrom) (maxL := 4) (ret := (some .boolean)) (by decide) rfl ?_
  intro p e s m args below meth c s₁ B hml hv
  obtain ⟨rfl, hsz, hP, hK, hE⟩ := hv
  have hx := B.exec
  have hb := B.bytes
  have hr := B.returns
  have hts := atoms_spec (ws := wsX0_isFirstTrackFrom) B.pre
  have hown : s.vm.findClass RX0 = some m.cls := findClass_of_methodNamed B.named
  have hlocks := B.notSynchronized
  subst hsz
  have hi0 : ∀ w ∈ u_ws RX0 TX0 3, w ∈ wsX0_isFirstTrackFrom := by decide +kernel
  have hA : ∀ q : Nat, s.heap.size ≤ q → zq s.heap.size q := fun q h => h
  have hS : va_S (zq s.heap.size) s.heap s.heap [] := va_S.rf
  have hl := lv_entry ([.ref h0, .int (nI t), .int (nI b)]) (n := 4) (Nat.le_of_ble_eq_true rfl)
  rw [lg_entry_eq]
  generalize (lg_sl ([.ref h0, .int (nI t), .int (nI b)]) ++ List.replicate (4 - (lg_sl ([.ref h0, .int (nI t), .int (nI b)])).length) Slot.unset).toArray = ls at hl ⊢
  have hl : lv_has ls 4 [(0, .ref h0), (1, .int (nI t)), (2, .int (nI b))] := hl
  have hn1 : n < 2 ^ 31 := by omega
  refine lv_iconst (v := 0) hx hb dX0_isFirstTrackFrom_0 (by decide) ?_
  refine lv_istore_n (lv' := [(3, .int 0), (0, .ref h0), (1, .int (nI t)), (2, .int (nI b))]) hx hb dX0_isFirstTrackFrom_1 rfl hl (by decide) rfl (fun ls hl => ?_)
  have loop : ∀ (d : Nat) (k : Nat), n + 1 ≤ k + d → k ≤ n → zal (fun k => decide (zmk f k t = zmk f ((k + b) % n) 0)) k = true → ∀ (H : Heap) (locs : List Loc), va_P (dC, dI) vwCl [(h0, .inr (0, [.ref h1, .int (nI T), .ref h2])), (h1, .inl (cI, n, .inl f)), (h2, .inl (cI, 256, .inl g))] H → va_S (zq s.heap.size) s.heap H locs → ∀ ls : Array Slot, lv_has ls 4 [(0, .ref h0), (1, .int (nI t)), (2, .int (nI b)), (3, .int (nI k))] → W p l e (headSpec wsX0_isFirstTrackFrom ({ frames := 3, cells := 0, slots := 0, locals := 64 })).room s m ([.ref h0, .int (nI t), .int (nI b)] : List Value).toArray below meth c H locs 0 0 (MQ below (va_Qi (fun (r : Int32) (_ : Unit) => r = zb (zft f n t b)) (fun _ _ => True) (zq s.heap.size)) ([.ref h0, .int (nI t), .int (nI b)] : List Value).toArray s 0 0 (zq s.heap.size)) (F0 m 2 ls []) := by
    intro d
    induction d with
    | zero => intro k hd hk hz; exact absurd hd (by omega)
    | succ d ih =>
      intro k hd hk hz H locs hP hS ls hl
      refine lv_iload_n hx hb dX0_isFirstTrackFrom_2 rfl (lv_at hl 3 rfl) ?_
      refine lv_aload_n hx hb dX0_isFirstTrackFrom_3 rfl (lv_at hl 0 rfl) ?_
      refine va_get (D := (dC, dI)) (ci := 0) (v := .ref h1) (C := RX0) (T := TX0) (N := 3) hx hb hts hi0 hown hK hP 0 rfl rfl 0 (by decide) (hts (.fieldLink RX0 15 "Ringtrack$Code" "words" "[I") (List.mem_of_getElem? (i := 1) rfl)) (fun _ h9 => h9) rfl dX0_isFirstTrackFrom_4 ?_
      refine va_alen (v := (nI n)) hx hb hK hP 1 0 rfl rfl rfl dX0_isFirstTrackFrom_7 ?_
      refine lv_icmp_ge (tgt := 44) hx hb dX0_isFirstTrackFrom_8 (by decide) (fun c8 => ?_) (fun c8 => ?_)
      · skip
        have hkn : k = n := Nat.le_antisymm hk ((nI_leI hn1 (by omega)).mp c8)
        refine lv_iconst (v := 1) hx hb dX0_isFirstTrackFrom_44 (by decide) ?_
        exact W.zret (v := 1) hx hb hr (by decide) (fun t9 ht hW => ⟨⟨_, (), rfl, by rw [hkn] at hz; rw [show zft f n t b = true from hz]; rfl, trivial⟩, hS.F ht⟩) hS.2.2 dX0_isFirstTrackFrom_45
      · skip
        have hkn : k < n := Nat.lt_of_not_le (fun q => c8 ((nI_leI hn1 (by omega)).mpr q))
        refine lv_aload_n hx hb dX0_isFirstTrackFrom_11 rfl (lv_at hl 0 rfl) ?_
        refine lv_iload_n hx hb dX0_isFirstTrackFrom_12 rfl (lv_at hl 3 rfl) ?_
        refine lv_iload_n hx hb dX0_isFirstTrackFrom_13 rfl (lv_at hl 1 rfl) ?_
        refine va_calli (va_runV (As := [.int (nI k), .int (nI t)]) (rest := []) ⟨hx, hb, hml, hown, hts⟩ (k_mark l dC dI H.size cI h0 h1 h2 n T f g k t hkn hn1) (cwV 2 hts gX0_isFirstTrackFrom_X0_mark rfl rfl rfl (by decide +kernel) ⟨Nat.le_of_ble_eq_true rfl, Nat.le_of_ble_eq_true rfl⟩) ⟨zfb, va_recv hK hP (ci := 0) (q0 := 0) rfl rfl, zpre (hP.sub (ws' := [(h0, .inr (0, [.ref h1, .int (nI T), .ref h2])), (h1, .inl (cI, n, .inl f)), (h2, .inl (cI, 256, .inl g))]) [0, 1, 2] rfl) (hK.sub (tys' := [(cI, .int)]) [0] rfl)⟩ rfl rfl hl.1 rfl (lv_room (Nat.le_of_ble_eq_true rfl)) dX0_isFirstTrackFrom_14 ⟨Nat.le_of_ble_eq_true rfl, Nat.le_of_ble_eq_true rfl⟩) hS (fun q h1 h2 => absurd h2 (Nat.not_le.mpr h1)) (fun q h => hA q (Nat.le_trans hS.1 h)) (fun r9 u9 t9 H1 locs ht hvm hw hB hz1 hk1 hS => ?_)
        have hw : r9 = zmk f k t := hw
        subst hw
        have hP := zr_keep hP hk1
        clear hk1 hz1 hB ht hvm
        refine lv_aload_n hx hb dX0_isFirstTrackFrom_17 rfl (lv_at hl 0 rfl) ?_
        refine lv_iload_n hx hb dX0_isFirstTrackFrom_18 rfl (lv_at hl 3 rfl) ?_
        refine lv_iload_n hx hb dX0_isFirstTrackFrom_19 rfl (lv_at hl 2 rfl) ?_
        refine lv_iadd hx hb dX0_isFirstTrackFrom_20 ?_
        refine zt_top (y := nI (k + b)) (nI_add k b) ?_
        refine lv_aload_n hx hb dX0_isFirstTrackFrom_21 rfl (lv_at hl 0 rfl) ?_
        refine va_get (D := (dC, dI)) (ci := 0) (v := .ref h1) (C := RX0) (T := TX0) (N := 3) hx hb hts hi0 hown hK hP 0 rfl rfl 0 (by decide) (hts (.fieldLink RX0 15 "Ringtrack$Code" "words" "[I") (List.mem_of_getElem? (i := 1) rfl)) (fun _ h9 => h9) rfl dX0_isFirstTrackFrom_22 ?_
        refine va_alen (v := (nI n)) hx hb hK hP 1 0 rfl rfl rfl dX0_isFirstTrackFrom_25 ?_
        refine va_calli (va_runSN (As := [.int (nI (k + b)), .int (nI n)]) (rest := [.ref h0, .int (zmk f k t)]) ⟨hx, hb, hml, hown, hts⟩ (k_modulo l dC dI H1.size (k + b) n (by omega) (by omega) (by omega)) ⟨va_cnB 2 hts gX0_isFirstTrackFrom_X6_modulo_n36 rfl rfl rfl (hE) (hts (.initialized RX6) (List.mem_of_getElem? (i := 16) rfl)) (by decide +kernel) ⟨Nat.le_of_ble_eq_true rfl, Nat.le_of_ble_eq_true rfl⟩, (hts (.static yX6_modulo) (List.mem_of_getElem? (i := 15) rfl)), trivial⟩ ⟨zfb, zpre (hP.sub (ws' := []) [] rfl) (hK.sub (tys' := []) [] rfl)⟩ rfl rfl hl.1 rfl (lv_room (Nat.le_of_ble_eq_true rfl)) dX0_isFirstTrackFrom_26 ⟨Nat.le_of_ble_eq_true rfl, Nat.le_of_ble_eq_true rfl⟩) hS (fun q h1 h2 => absurd h2 (Nat.not_le.mpr h1)) (fun q h => hA q (Nat.le_trans hS.1 h)) (fun r9 u9 t9 H1 locs ht hvm hw hB hz1 hk1 hS => ?_)
        have hw : r9 = nI ((k + b) % n) := hw
        subst hw
        have hP := zr_keep hP hk1
        clear hk1 hz1 hB ht hvm
        refine lv_iconst (v := 0) hx hb dX0_isFirstTrackFrom_29 (by decide) ?_
        refine zt_top (y := nI 0) (nI_0.symm) ?_
        refine va_calli (va_runV (As := [.int (nI ((k + b) % n)), .int (nI 0)]) (rest := [.int (zmk f k t)]) ⟨hx, hb, hml, hown, hts⟩ (k_mark l dC dI H1.size cI h0 h1 h2 n T f g ((k + b) % n) 0 (Nat.mod_lt _ (by omega)) hn1) (cwV 2 hts gX0_isFirstTrackFrom_X0_mark rfl rfl rfl (by decide +kernel) ⟨Nat.le_of_ble_eq_true rfl, Nat.le_of_ble_eq_true rfl⟩) ⟨zfb, va_recv hK hP (ci := 0) (q0 := 0) rfl rfl, zpre (hP.sub (ws' := [(h0, .inr (0, [.ref h1, .int (nI T), .ref h2])), (h1, .inl (cI, n, .inl f)), (h2, .inl (cI, 256, .inl g))]) [0, 1, 2] rfl) (hK.sub (tys' := [(cI, .int)]) [0] rfl)⟩ rfl rfl hl.1 rfl (lv_room (Nat.le_of_ble_eq_true rfl)) dX0_isFirstTrackFrom_30 ⟨Nat.le_of_ble_eq_true rfl, Nat.le_of_ble_eq_true rfl⟩) hS (fun q h1 h2 => absurd h2 (Nat.not_le.mpr h1)) (fun q h => hA q (Nat.le_trans hS.1 h)) (fun r9 u9 t9 H1 locs ht hvm hw hB hz1 hk1 hS => ?_)
        have hw : r9 = zmk f ((k + b) % n) 0 := hw
        subst hw
        have hP := zr_keep hP hk1
        clear hk1 hz1 hB ht hvm
        refine lv_icmp_eq (tgt := 38) hx hb dX0_isFirstTrackFrom_33 (by decide) (fun c33 => ?_) (fun c33 => ?_)
        · skip
          have ec : zal (fun k => decide (zmk f k t = zmk f ((k + b) % n) 0)) (k + 1) = true := zal_s hz (decide_eq_true c33)
          refine lv_iinc (v := nI (k + 1)) (lv' := [(3, .int (nI (k + 1))), (0, .ref h0), (1, .int (nI t)), (2, .int (nI b))]) hx hb dX0_isFirstTrackFrom_38 hl (k := 3) rfl (nI_1 k) (by decide) rfl (fun ls hl => ?_)
          refine lv_goto (tgt := 2) hx hb dX0_isFirstTrackFrom_41 (by decide) ?_
          exact ih (k + 1) (by omega) (by omega) ec _ _ hP hS ls (lv_sub hl [1, 2, 3, 0] rfl)
        · skip
          have ec : zft f n t b = false := zal_f hkn (decide_eq_false c33)
          refine lv_iconst (v := 0) hx hb dX0_isFirstTrackFrom_36 (by decide) ?_
          exact W.zret (v := 0) hx hb hr (by decide) (fun t9 ht hW => ⟨⟨_, (), rfl, by rw [ec]; rfl, trivial⟩, hS.F ht⟩) hS.2.2 dX0_isFirstTrackFrom_37
  exact loop (n + 1) 0 (by omega) (Nat.zero_le _) rfl _ _ hP hS ls (lv_sub hl [1, 2, 3, 0] rfl)

set_option maxHeartbeats 4000000 in
set_option maxRecDepth 100000 in
/-- isFirstTrackMoved(t) -/
theorem k_ftMoved (l : Launch) (dC : Nat → ClassId) (dI : Nat → Nat → Nat) (sz : Nat) (cI : ClassId) (h0 h1 h2 : Nat) (n T : Nat) (f g : Nat → Int32) (t : Nat) (hn : n < 2 ^ 30) : Met l yX0_isFirstTrackMoved wsX0_isFirstTrackMoved ({ frames := 4, cells := 0, slots := 0, locals := 87 }) (va_Pc [.ref h0, .int (nI t)] (zPcN (dC, dI) [(h0, .inr (0, [.ref h1, .int (nI T), .ref h2])), (h1, .inl (cI, n, .inl f)), (h2, .inl (cI, 256, .inl g))] [(cI, .int)] sz)) (va_Qi (fun (r : Int32) (_ : Unit) => r = zb (zmv f n t)) (fun _ _ => True) (zq sz)) 0 0 (zq sz) := by
  refine Met.ofW (cc := cX0_isFirstTrackMoved) (maxL := 3) (ret := (some .boolean)) (by decide) rfl ?_
  intro p e s m args below meth c s₁ B hml hv
  obtain ⟨rfl, hsz, hP, hK, hE⟩ := hv
  have hx := B.exec
  have hb := B.bytes
  have hr := B.returns
  have hts := atoms_spec (ws := wsX0_isFirstTrackMoved) B.pre
  have hown : s.vm.findClass RX0 = some m.cls := findClass_of_methodNamed B.named
  have hlocks := B.notSynchronized
  subst hsz
  have hi0 : ∀ w ∈ u_ws RX0 TX0 3, w ∈ wsX0_isFirstTrackMoved := by decide +kernel
  have hA : ∀ q : Nat, s.heap.size ≤ q → zq s.heap.size q := fun q h => h
  have hS : va_S (zq s.heap.size) s.heap s.heap [] := va_S.rf
  have hl := lv_entry ([.ref h0, .int (nI t)]) (n := 3) (Nat.le_of_ble_eq_true rfl)
  rw [lg_entry_eq]
  generalize (lg_sl ([.ref h0, .int (nI t)]) ++ List.replicate (3 - (lg_sl ([.ref h0, .int (nI t)])).length) Slot.unset).toArray = ls at hl ⊢
  have hl : lv_has ls 3 [(0, .ref h0), (1, .int (nI t))] := hl
  have hn1 : n < 2 ^ 31 := by omega
  refine lv_iconst (v := 0) hx hb dX0_isFirstTrackMoved_0 (by decide) ?_
  refine lv_istore_n (lv' := [(2, .int 0), (0, .ref h0), (1, .int (nI t))]) hx hb dX0_isFirstTrackMoved_1 rfl hl (by decide) rfl (fun ls hl => ?_)
  have loop : ∀ (d : Nat) (k : Nat), n + 1 ≤ k + d → k ≤ n → zex (fun b => zft f n t b) k = false → ∀ (H : Heap) (locs : List Loc), va_P (dC, dI) vwCl [(h0, .inr (0, [.ref h1, .int (nI T), .ref h2])), (h1, .inl (cI, n, .inl f)), (h2, .inl (cI, 256, .inl g))] H → va_S (zq s.heap.size) s.heap H locs → ∀ ls : Array Slot, lv_has ls 3 [(0, .ref h0), (1, .int (nI t)), (2, .int (nI k))] → W p l e (headSpec wsX0_isFirstTrackMoved ({ frames := 4, cells := 0, slots := 0, locals := 87 })).room s m ([.ref h0, .int (nI t)] : List Value).toArray below meth c H locs 0 0 (MQ below (va_Qi (fun (r : Int32) (_ : Unit) => r = zb (zmv f n t)) (fun _ _ => True) (zq s.heap.size)) ([.ref h0, .int (nI t)] : List Value).toArray s 0 0 (zq s.heap.size)) (F0 m 2 ls []) := by
    intro d
    induction d with
    | zero => intro k hd hk hz; exact absurd hd (by omega)
    | succ d ih =>
      intro k hd hk hz H locs hP hS ls hl
      refine lv_iload_n hx hb dX0_isFirstTrackMoved_2 rfl (lv_at hl 2 rfl) ?_
      refine lv_aload_n hx hb dX0_isFirstTrackMoved_3 rfl (lv_at hl 0 rfl) ?_
      refine va_get (D := (dC, dI)) (ci := 0) (v := .ref h1) (C := RX0) (T := TX0) (N := 3) hx hb hts hi0 hown hK hP 0 rfl rfl 0 (by decide) (hts (.fieldLink RX0 15 "Ringtrack$Code" "words" "[I") (List.mem_of_getElem? (i := 1) rfl)) (fun _ h9 => h9) rfl dX0_isFirstTrackMoved_4 ?_
      refine va_alen (v := (nI n)) hx hb hK hP 1 0 rfl rfl rfl dX0_isFirstTrackMoved_7 ?_
      refine lv_icmp_ge (tgt := 28) hx hb dX0_isFirstTrackMoved_8 (by decide) (fun c8 => ?_) (fun c8 => ?_)
      · skip
        have hkn : k = n := Nat.le_antisymm hk ((nI_leI hn1 (by omega)).mp c8)
        refine lv_iconst (v := 0) hx hb dX0_isFirstTrackMoved_28 (by decide) ?_
        exact W.zret (v := 0) hx hb hr (by decide) (fun t9 ht hW => ⟨⟨_, (), rfl, by rw [hkn] at hz; rw [show zmv f n t = false from hz]; rfl, trivial⟩, hS.F ht⟩) hS.2.2 dX0_isFirstTrackMoved_29
      · skip
        have hkn : k < n := Nat.lt_of_not_le (fun q => c8 ((nI_leI hn1 (by omega)).mpr q))
        refine lv_aload_n hx hb dX0_isFirstTrackMoved_11 rfl (lv_at hl 0 rfl) ?_
        refine lv_iload_n hx hb dX0_isFirstTrackMoved_12 rfl (lv_at hl 1 rfl) ?_
        refine lv_iload_n hx hb dX0_isFirstTrackMoved_13 rfl (lv_at hl 2 rfl) ?_
        refine va_calli (va_runV (As := [.int (nI t), .int (nI k)]) (rest := []) ⟨hx, hb, hml, hown, hts⟩ (k_ftFrom l dC dI H.size cI h0 h1 h2 n T f g t k hn hkn) (cwV 2 hts gX0_isFirstTrackMoved_X0_isFirstTrackFrom rfl rfl rfl (by decide +kernel) ⟨Nat.le_of_ble_eq_true rfl, Nat.le_of_ble_eq_true rfl⟩) ⟨zfbN, va_recv hK hP (ci := 0) (q0 := 0) rfl rfl, zpreN (hP.sub (ws' := [(h0, .inr (0, [.ref h1, .int (nI T), .ref h2])), (h1, .inl (cI, n, .inl f)), (h2, .inl (cI, 256, .inl g))]) [0, 1, 2] rfl) (hK.sub (tys' := [(cI, .int)]) [0] rfl) hE⟩ rfl rfl hl.1 rfl (lv_room (Nat.le_of_ble_eq_true rfl)) dX0_isFirstTrackMoved_14 ⟨Nat.le_of_ble_eq_true rfl, Nat.le_of_ble_eq_true rfl⟩) hS (fun q h1 h2 => absurd h2 (Nat.not_le.mpr h1)) (fun q h => hA q (Nat.le_trans hS.1 h)) (fun r9 u9 t9 H1 locs ht hvm hw hB hz1 hk1 hS => ?_)
        have hw : r9 = zb (zft f n t k) := hw
        subst hw
        have hP := zr_keep hP hk1
        clear hk1 hz1 hB ht hvm
        refine lv_if_eq (tgt := 22) hx hb dX0_isFirstTrackMoved_17 (by decide) (fun c17 => ?_) (fun c17 => ?_)
        · skip
          have ec : zex (fun b => zft f n t b) (k + 1) = false := zex_f hz (zb_0.mp c17)
          refine lv_iinc (v := nI (k + 1)) (lv' := [(2, .int (nI (k + 1))), (0, .ref h0), (1, .int (nI t))]) hx hb dX0_isFirstTrackMoved_22 hl (k := 2) rfl (nI_1 k) (by decide) rfl (fun ls hl => ?_)
          refine lv_goto (tgt := 2) hx hb dX0_isFirstTrackMoved_25 (by decide) ?_
          exact ih (k + 1) (by omega) (by omega) ec _ _ hP hS ls (lv_sub hl [1, 2, 0] rfl)
        · skip
          have ec : zmv f n t = true := zex_t hkn (zb_n0.mp c17)
          refine lv_iconst (v := 1) hx hb dX0_isFirstTrackMoved_20 (by decide) ?_
          exact W.zret (v := 1) hx hb hr (by decide) (fun t9 ht hW => ⟨⟨_, (), rfl, by rw [ec]; rfl, trivial⟩, hS.F ht⟩) hS.2.2 dX0_isFirstTrackMoved_21
  exact loop (n + 1) 0 (by omega) (Nat.zero_le _) rfl _ _ hP hS ls (lv_sub hl [1, 2, 0] rfl)

set_option maxHeartbeats 4000000 in
set_option maxRecDepth 100000 in
/-- repeatsFirstTrack() -/
theorem k_repeats (l : Launch) (dC : Nat → ClassId) (dI : Nat → Nat → Nat) (sz : Nat) (cI : ClassId) (h0 h1 h2 : Nat) (n T : Nat) (f g : Nat → Int32) (hn : n < 2 ^ 30) (hT : 1 ≤ T) (hT2 : T < 2 ^ 30) : Met l yX0_repeatsFirstTrack wsX0_repeatsFirstTrack ({ frames := 5, cells := 0, slots := 0, locals := 109 }) (va_Pc [.ref h0] (zPcN (dC, dI) [(h0, .inr (0, [.ref h1, .int (nI T), .ref h2])), (h1, .inl (cI, n, .inl f)), (h2, .inl (cI, 256, .inl g))] [(cI, .int)] sz)) (va_Qi (fun (r : Int32) (_ : Unit) => r = zb (zon f n T)) (fun _ _ => True) (zq sz)) 0 0 (zq sz) := by
  refine Met.ofW (cc := cX0_repeatsFirstTrack) (maxL := 2) (ret := (some .boolean)) (by decide) rfl ?_
  intro p e s m args below meth c s₁ B hml hv
  obtain ⟨rfl, hsz, hP, hK, hE⟩ := hv
  have hx := B.exec
  have hb := B.bytes
  have hr := B.returns
  have hts := atoms_spec (ws := wsX0_repeatsFirstTrack) B.pre
  have hown : s.vm.findClass RX0 = some m.cls := findClass_of_methodNamed B.named
  have hlocks := B.notSynchronized
  subst hsz
  have hi0 : ∀ w ∈ u_ws RX0 TX0 3, w ∈ wsX0_repeatsFirstTrack := by decide +kernel
  have hA : ∀ q : Nat, s.heap.size ≤ q → zq s.heap.size q := fun q h => h
  have hS : va_S (zq s.heap.size) s.heap s.heap [] := va_S.rf
  have hl := lv_entry ([.ref h0]) (n := 2) (Nat.le_of_ble_eq_true rfl)
  rw [lg_entry_eq]
  generalize (lg_sl ([.ref h0]) ++ List.replicate (2 - (lg_sl ([.ref h0])).length) Slot.unset).toArray = ls at hl ⊢
  have hl : lv_has ls 2 [(0, .ref h0)] := hl
  refine lv_iconst (v := 1) hx hb dX0_repeatsFirstTrack_0 (by decide) ?_
  refine lv_istore_n (lv' := [(1, .int 1), (0, .ref h0)]) hx hb dX0_repeatsFirstTrack_1 rfl hl (by decide) rfl (fun ls hl => ?_)
  have loop : ∀ (d : Nat) (k : Nat), T + 1 ≤ k + d → k ≤ T → 1 ≤ k → zal (fun t => t == 0 || zmv f n t) k = true → ∀ (H : Heap) (locs : List Loc), va_P (dC, dI) vwCl [(h0, .inr (0, [.ref h1, .int (nI T), .ref h2])), (h1, .inl (cI, n, .inl f)), (h2, .inl (cI, 256, .inl g))] H → va_S (zq s.heap.size) s.heap H locs → ∀ ls : Array Slot, lv_has ls 2 [(0, .ref h0), (1, .int (nI k))] → W p l e (headSpec wsX0_repeatsFirstTrack ({ frames := 5, cells := 0, slots := 0, locals := 109 })).room s m ([.ref h0] : List Value).toArray below meth c H locs 0 0 (MQ below (va_Qi (fun (r : Int32) (_ : Unit) => r = zb (zon f n T)) (fun _ _ => True) (zq s.heap.size)) ([.ref h0] : List Value).toArray s 0 0 (zq s.heap.size)) (F0 m 2 ls []) := by
    intro d
    induction d with
    | zero => intro k hd hk hk1 hz; exact absurd hd (by omega)
    | succ d ih =>
      intro k hd hk hk1 hz H locs hP hS ls hl
      refine lv_iload_n hx hb dX0_repeatsFirstTrack_2 rfl (lv_at hl 1 rfl) ?_
      refine lv_aload_n hx hb dX0_repeatsFirstTrack_3 rfl (lv_at hl 0 rfl) ?_
      refine va_get (D := (dC, dI)) (ci := 0) (v := .int (nI T)) (C := RX0) (T := TX0) (N := 3) hx hb hts hi0 hown hK hP 0 rfl rfl 1 (by decide) (hts (.fieldLink RX0 24 "Ringtrack$Code" "tracks" "I") (List.mem_of_getElem? (i := 1) rfl)) (fun _ h9 => h9) rfl dX0_repeatsFirstTrack_4 ?_
      refine lv_icmp_ge (tgt := 26) hx hb dX0_repeatsFirstTrack_7 (by decide) (fun c7 => ?_) (fun c7 => ?_)
      · skip
        have hkn : k = T := Nat.le_antisymm hk ((nI_leI (by omega) (by omega)).mp c7)
        refine lv_iconst (v := 1) hx hb dX0_repeatsFirstTrack_26 (by decide) ?_
        exact W.zret (v := 1) hx hb hr (by decide) (fun t9 ht hW => ⟨⟨_, (), rfl, by rw [hkn] at hz; rw [show zon f n T = true from hz]; rfl, trivial⟩, hS.F ht⟩) hS.2.2 dX0_repeatsFirstTrack_27
      · skip
        have hkn : k < T := Nat.lt_of_not_le (fun q => c7 ((nI_leI (by omega) (by omega)).mpr q))
        refine lv_aload_n hx hb dX0_repeatsFirstTrack_10 rfl (lv_at hl 0 rfl) ?_
        refine lv_iload_n hx hb dX0_repeatsFirstTrack_11 rfl (lv_at hl 1 rfl) ?_
        refine va_calli (va_runV (As := [.int (nI k)]) (rest := []) ⟨hx, hb, hml, hown, hts⟩ (k_ftMoved l dC dI H.size cI h0 h1 h2 n T f g k hn) (cwV 1 hts gX0_repeatsFirstTrack_X0_isFirstTrackMoved rfl rfl rfl (by decide +kernel) ⟨Nat.le_of_ble_eq_true rfl, Nat.le_of_ble_eq_true rfl⟩) ⟨zfbN, va_recv hK hP (ci := 0) (q0 := 0) rfl rfl, zpreN (hP.sub (ws' := [(h0, .inr (0, [.ref h1, .int (nI T), .ref h2])), (h1, .inl (cI, n, .inl f)), (h2, .inl (cI, 256, .inl g))]) [0, 1, 2] rfl) (hK.sub (tys' := [(cI, .int)]) [0] rfl) hE⟩ rfl rfl hl.1 rfl (lv_room (Nat.le_of_ble_eq_true rfl)) dX0_repeatsFirstTrack_12 ⟨Nat.le_of_ble_eq_true rfl, Nat.le_of_ble_eq_true rfl⟩) hS (fun q h1 h2 => absurd h2 (Nat.not_le.mpr h1)) (fun q h => hA q (Nat.le_trans hS.1 h)) (fun r9 u9 t9 H1 locs ht hvm hw hB hz1 hk1 hS => ?_)
        have hw : r9 = zb (zmv f n k) := hw
        subst hw
        have hP := zr_keep hP hk1
        clear hk1 hz1 hB ht hvm
        refine lv_if_ne (tgt := 20) hx hb dX0_repeatsFirstTrack_15 (by decide) (fun c15 => ?_) (fun c15 => ?_)
        · skip
          have ec : zal (fun t => t == 0 || zmv f n t) (k + 1) = true := zal_s hz (by show (k == 0 || zmv f n k) = true; rw [zb_n0.mp c15, Bool.or_true])
          refine lv_iinc (v := nI (k + 1)) (lv' := [(1, .int (nI (k + 1))), (0, .ref h0)]) hx hb dX0_repeatsFirstTrack_20 hl (k := 1) rfl (nI_1 k) (by decide) rfl (fun ls hl => ?_)
          refine lv_goto (tgt := 2) hx hb dX0_repeatsFirstTrack_23 (by decide) ?_
          exact ih (k + 1) (by omega) (by omega) (by omega) ec _ _ hP hS ls (lv_sub hl [1, 0] rfl)
        · skip
          have ec : zon f n T = false := zal_f hkn (by show (k == 0 || zmv f n k) = false; rw [zb_0.mp c15, Bool.or_false]; exact beq_eq_false_iff_ne.mpr (by omega))
          refine lv_iconst (v := 0) hx hb dX0_repeatsFirstTrack_18 (by decide) ?_
          exact W.zret (v := 0) hx hb hr (by decide) (fun t9 ht hW => ⟨⟨_, (), rfl, by rw [ec]; rfl, trivial⟩, hS.F ht⟩) hS.2.2 dX0_repeatsFirstTrack_19
  exact loop (T + 1) 1 (by omega) hT (Nat.le_refl 1) rfl _ _ hP hS ls (lv_sub hl [1, 0] rfl)

set_option maxHeartbeats 4000000 in
set_option maxRecDepth 100000 in
/-- changesEvenly() -/
theorem k_evenly (l : Launch) (dC : Nat → ClassId) (dI : Nat → Nat → Nat) (sz : Nat) (cI : ClassId) (h0 h1 h2 : Nat) (n T : Nat) (f g : Nat → Int32) (hn : n < 2 ^ 30) (hT2 : T < 2 ^ 30) : Met l yX0_changesEvenly wsX0_changesEvenly ({ frames := 4, cells := 0, slots := 0, locals := 88 }) (va_Pc [.ref h0] (zPcN (dC, dI) [(h0, .inr (0, [.ref h1, .int (nI T), .ref h2])), (h1, .inl (cI, n, .inl f)), (h2, .inl (cI, 256, .inl g))] [(cI, .int)] sz)) (va_Qi (fun (r : Int32) (_ : Unit) => r = zb (!decide ((2 : Int32) < nI (zhi f n T) - nI (zlo f n T)))) (fun _ _ => True) (zq sz)) 0 0 (zq sz) := by
  refine Met.ofW (cc := cX0_changesEvenly) (maxL := 5) (ret := (some .boolean)) (by decide) rfl ?_
  intro p e s m args below meth c s₁ B hml hv
  obtain ⟨rfl, hsz, hP, hK, hE⟩ := hv
  have hx := B.exec
  have hb := B.bytes
  have hr := B.returns
  have hts := atoms_spec (ws := wsX0_changesEvenly) B.pre
  have hown : s.vm.findClass RX0 = some m.cls := findClass_of_methodNamed B.named
  have hlocks := B.notSynchronized
  subst hsz
  have hi0 : ∀ w ∈ u_ws RX0 TX0 3, w ∈ wsX0_changesEvenly := by decide +kernel
  have hA : ∀ q : Nat, s.heap.size ≤ q → zq s.heap.size q := fun q h => h
  have hS : va_S (zq s.heap.size) s.heap s.heap [] := va_S.rf
  have hl := lv_entry ([.ref h0]) (n := 5) (Nat.le_of_ble_eq_true rfl)
  rw [lg_entry_eq]
  generalize (lg_sl ([.ref h0]) ++ List.replicate (5 - (lg_sl ([.ref h0])).length) Slot.unset).toArray = ls at hl ⊢
  have hl : lv_has ls 5 [(0, .ref h0)] := hl
  refine lv_aload_n hx hb dX0_changesEvenly_0 rfl (lv_at hl 0 rfl) ?_
  refine va_get (D := (dC, dI)) (ci := 0) (v := .ref h1) (C := RX0) (T := TX0) (N := 3) hx hb hts hi0 hown hK hP 0 rfl rfl 0 (by decide) (hts (.fieldLink RX0 15 "Ringtrack$Code" "words" "[I") (List.mem_of_getElem? (i := 1) rfl)) (fun _ h9 => h9) rfl dX0_changesEvenly_1 ?_
  refine va_alen (v := (nI n)) hx hb hK hP 1 0 rfl rfl rfl dX0_changesEvenly_4 ?_
  refine lv_istore_n (lv' := [(1, .int (nI n)), (0, .ref h0)]) hx hb dX0_changesEvenly_5 rfl hl (by decide) rfl (fun ls hl => ?_)
  refine lv_iconst (v := 0) hx hb dX0_changesEvenly_6 (by decide) ?_
  refine lv_istore_n (lv' := [(2, .int 0), (1, .int (nI n)), (0, .ref h0)]) hx hb dX0_changesEvenly_7 rfl hl (by decide) rfl (fun ls hl => ?_)
  refine lv_iconst (v := 0) hx hb dX0_changesEvenly_8 (by decide) ?_
  refine lv_istore_n (lv' := [(3, .int 0), (2, .int 0), (1, .int (nI n)), (0, .ref h0)]) hx hb dX0_changesEvenly_9 rfl hl (by decide) rfl (fun ls hl => ?_)
  have loop : ∀ (d : Nat) (k : Nat), T + 1 ≤ k + d → k ≤ T → ∀ (H : Heap) (locs : List Loc), va_P (dC, dI) vwCl [(h0, .inr (0, [.ref h1, .int (nI T), .ref h2])), (h1, .inl (cI, n, .inl f)), (h2, .inl (cI, 256, .inl g))] H → va_S (zq s.heap.size) s.heap H locs → ∀ ls : Array Slot, lv_has ls 5 [(0, .ref h0), (1, .int (nI (zlo f n k))), (2, .int (nI (zhi f n k))), (3, .int (nI k))] → W p l e (headSpec wsX0_changesEvenly ({ frames := 4, cells := 0, slots := 0, locals := 88 })).room s m ([.ref h0] : List Value).toArray below meth c H locs 0 0 (MQ below (va_Qi (fun (r : Int32) (_ : Unit) => r = zb (!decide ((2 : Int32) < nI (zhi f n T) - nI (zlo f n T)))) (fun _ _ => True) (zq s.heap.size)) ([.ref h0] : List Value).toArray s 0 0 (zq s.heap.size)) (F0 m 10 ls []) := by
    intro d
    induction d with
    | zero => intro k hd hk; exact absurd hd (by omega)
    | succ d ih =>
      intro k hd hk H locs hP hS ls hl
      refine lv_iload_n hx hb dX0_changesEvenly_10 rfl (lv_at hl 3 rfl) ?_
      refine lv_aload_n hx hb dX0_changesEvenly_11 rfl (lv_at hl 0 rfl) ?_
      refine va_get (D := (dC, dI)) (ci := 0) (v := .int (nI T)) (C := RX0) (T := TX0) (N := 3) hx hb hts hi0 hown hK hP 0 rfl rfl 1 (by decide) (hts (.fieldLink RX0 24 "Ringtrack$Code" "tracks" "I") (List.mem_of_getElem? (i := 2) rfl)) (fun _ h9 => h9) rfl dX0_changesEvenly_12 ?_
      refine lv_icmp_ge (tgt := 45) hx hb dX0_changesEvenly_15 (by decide) (fun c15 => ?_) (fun c15 => ?_)
      · skip
        have hkn : k = T := Nat.le_antisymm hk ((nI_leI (by omega) (by omega)).mp c15)
        refine lv_iload_n hx hb dX0_changesEvenly_45 rfl (lv_at hl 2 rfl) ?_
        refine lv_iload_n hx hb dX0_changesEvenly_46 rfl (lv_at hl 1 rfl) ?_
        refine lv_isub hx hb dX0_changesEvenly_47 ?_
        refine lv_iconst (v := 2) hx hb dX0_changesEvenly_48 (by decide) ?_
        refine lv_icmp_gt (tgt := 56) hx hb dX0_changesEvenly_49 (by decide) (fun c49 => ?_) (fun c49 => ?_)
        · skip
          refine lv_iconst (v := 0) hx hb dX0_changesEvenly_56 (by decide) ?_
          exact W.zret (v := 0) hx hb hr (by decide) (fun t9 ht hW => ⟨⟨_, (), rfl, by rw [hkn] at c49; rw [decide_eq_true c49]; rfl, trivial⟩, hS.F ht⟩) hS.2.2 dX0_changesEvenly_57
        · skip
          refine lv_iconst (v := 1) hx hb dX0_changesEvenly_52 (by decide) ?_
          refine lv_goto (tgt := 57) hx hb dX0_changesEvenly_53 (by decide) ?_
          exact W.zret (v := 1) hx hb hr (by decide) (fun t9 ht hW => ⟨⟨_, (), rfl, by rw [hkn] at c49; rw [decide_eq_false c49]; rfl, trivial⟩, hS.F ht⟩) hS.2.2 dX0_changesEvenly_57
      · skip
        have hkn : k < T := Nat.lt_of_not_le (fun q => c15 ((nI_leI (by omega) (by omega)).mpr q))
        refine lv_aload_n hx hb dX0_changesEvenly_18 rfl (lv_at hl 0 rfl) ?_
        refine lv_iload_n hx hb dX0_changesEvenly_19 rfl (lv_at hl 3 rfl) ?_
        refine va_calli (va_runV (As := [.int (nI k)]) (rest := []) ⟨hx, hb, hml, hown, hts⟩ (k_changesOf l dC dI H.size cI h0 h1 h2 n T f g k hn) (cwV 1 hts gX0_changesEvenly_X0_changesOf rfl rfl rfl (by decide +kernel) ⟨Nat.le_of_ble_eq_true rfl, Nat.le_of_ble_eq_true rfl⟩) ⟨zfbN, va_recv hK hP (ci := 0) (q0 := 0) rfl rfl, zpreN (hP.sub (ws' := [(h0, .inr (0, [.ref h1, .int (nI T), .ref h2])), (h1, .inl (cI, n, .inl f)), (h2, .inl (cI, 256, .inl g))]) [0, 1, 2] rfl) (hK.sub (tys' := [(cI, .int)]) [0] rfl) hE⟩ rfl rfl hl.1 rfl (lv_room (Nat.le_of_ble_eq_true rfl)) dX0_changesEvenly_20 ⟨Nat.le_of_ble_eq_true rfl, Nat.le_of_ble_eq_true rfl⟩) hS (fun q h1 h2 => absurd h2 (Nat.not_le.mpr h1)) (fun q h => hA q (Nat.le_trans hS.1 h)) (fun r9 u9 t9 H1 locs ht hvm hw hB hz1 hk1 hS => ?_)
        have hw : r9 = nI (zchg f n k) := hw
        subst hw
        have hP := zr_keep hP hk1
        clear hk1 hz1 hB ht hvm
        refine lv_istore (lv' := [(4, .int (nI (zchg f n k))), (0, .ref h0), (1, .int (nI (zlo f n k))), (2, .int (nI (zhi f n k))), (3, .int (nI k))]) hx hb dX0_changesEvenly_23 hl (by decide) rfl (fun ls hl => ?_)
        refine lv_iload_n hx hb dX0_changesEvenly_25 rfl (lv_at hl 2 rfl) ?_
        refine lv_iload hx hb dX0_changesEvenly_26 (lv_at hl 0 rfl) ?_
        refine va_mmin hx hb (hml.trans hl.1.symm) hown (hts (.methodLink RX0 46 Lib.Math.min.name) (List.mem_of_getElem? (i := 3) rfl)) (hts (.static Lib.Math.min.name) (List.mem_of_getElem? (i := 4) rfl)) (hts (.initialized "java/lang/Math") (List.mem_of_getElem? (i := 5) rfl)) (hts (.code Lib.Math.min.name Lib.Math.min.code 2 (some .int)) (List.mem_of_getElem? (i := 6) rfl)) (Nat.le_of_ble_eq_true rfl) (Nat.le_of_ble_eq_true rfl) (Nat.zero_le _) (Nat.zero_le _) dX0_changesEvenly_28 ?_
        refine zt_top (y := nI (zlo f n (k + 1))) (zlo_i f n k hn) ?_
        refine lv_istore_n (lv' := [(1, .int (nI (zlo f n (k + 1)))), (4, .int (nI (zchg f n k))), (0, .ref h0), (2, .int (nI (zhi f n k))), (3, .int (nI k))]) hx hb dX0_changesEvenly_31 rfl hl (by decide) rfl (fun ls hl => ?_)
        refine lv_iload_n hx hb dX0_changesEvenly_32 rfl (lv_at hl 3 rfl) ?_
        refine lv_iload hx hb dX0_changesEvenly_33 (lv_at hl 1 rfl) ?_
        refine va_mmax hx hb (hml.trans hl.1.symm) hown (hts (.methodLink RX0 51 Lib.Math.max.name) (List.mem_of_getElem? (i := 7) rfl)) (hts (.static Lib.Math.max.name) (List.mem_of_getElem? (i := 8) rfl)) (hts (.initialized "java/lang/Math") (List.mem_of_getElem? (i := 5) rfl)) (hts (.code Lib.Math.max.name Lib.Math.max.code 2 (some .int)) (List.mem_of_getElem? (i := 9) rfl)) (Nat.le_of_ble_eq_true rfl) (Nat.le_of_ble_eq_true rfl) (Nat.zero_le _) (Nat.zero_le _) dX0_changesEvenly_35 ?_
        refine zt_top (y := nI (zhi f n (k + 1))) (zhi_i f n k hn) ?_
        refine lv_istore_n (lv' := [(2, .int (nI (zhi f n (k + 1)))), (1, .int (nI (zlo f n (k + 1)))), (4, .int (nI (zchg f n k))), (0, .ref h0), (3, .int (nI k))]) hx hb dX0_changesEvenly_38 rfl hl (by decide) rfl (fun ls hl => ?_)
        refine lv_iinc (v := nI (k + 1)) (lv' := [(3, .int (nI (k + 1))), (2, .int (nI (zhi f n (k + 1)))), (1, .int (nI (zlo f n (k + 1)))), (4, .int (nI (zchg f n k))), (0, .ref h0)]) hx hb dX0_changesEvenly_39 hl (k := 4) rfl (nI_1 k) (by decide) rfl (fun ls hl => ?_)
        refine lv_goto (tgt := 10) hx hb dX0_changesEvenly_42 (by decide) ?_
        exact ih (k + 1) (by omega) (by omega) _ _ hP hS ls (lv_sub hl [4, 2, 1, 0] rfl)
  exact loop (T + 1) 0 (by omega) (Nat.zero_le _) _ _ hP hS ls (lv_sub hl [3, 2, 1, 0] rfl)
end
section
set_option maxHeartbeats 4000000 in
set_option maxRecDepth 100000 in
/-- Arrays.fill(a, v) -/
theorem k_fill (l : Launch) (dC : Nat → ClassId) (dI : Nat → Nat → Nat) (sz : Nat) (cI : ClassId) (h0 : Nat) (n : Nat) (f : Nat → Int32) (v : Int32) (hn : n < 2 ^ 31) : Met l yJ7_fill_53178 wsJ7_fill_53178 ({ frames := 0, cells := 0, slots := 0, locals := 0 }) (va_Pc [.ref h0, .int v] (zPcD (dC, dI) [(h0, .inl (cI, n, .inl f))] [(cI, .int)] sz)) (va_Qv (fun (_ : Unit) => True) (fun _ t => va_P (dC, dI) vwCl [(h0, .inl (cI, n, .inl (zfl f v n)))] t.heap ∧ va_D (va_A [(h0, .inl (cI, n, .inl f))] sz) [(h0, .inl (cI, n, .inl (zfl f v n)))]) (va_A [(h0, .inl (cI, n, .inl f))] sz)) 0 0 (va_A [(h0, .inl (cI, n, .inl f))] sz) := by
  refine Met.ofW (cc := cJ7_fill_53178) (maxL := 4) (ret := none) (by decide) rfl ?_
  intro p e s m args below meth c s₁ B hml hv
  obtain ⟨rfl, hsz, hP, hK, hD0⟩ := hv
  have hx := B.exec
  have hb := B.bytes
  have hr := B.returns
  have hts := atoms_spec (ws := wsJ7_fill_53178) B.pre
  have hown : s.vm.findClass RJ7 = some m.cls := findClass_of_methodNamed B.named
  have hlocks := B.notSynchronized
  subst hsz
  have hD := hD0.self (sz := s.heap.size)
  generalize hAe : va_A [(h0, .inl (cI, n, .inl f))] s.heap.size = A at hD ⊢
  have hA : ∀ q : Nat, s.heap.size ≤ q → A q := fun q h => by rw [← hAe]; exact Or.inr h
  have hS : va_S A s.heap s.heap [] := va_S.rf
  have hl := lv_entry ([.ref h0, .int v]) (n := 4) (Nat.le_of_ble_eq_true rfl)
  rw [lg_entry_eq]
  generalize (lg_sl ([.ref h0, .int v]) ++ List.replicate (4 - (lg_sl ([.ref h0, .int v])).length) Slot.unset).toArray = ls at hl ⊢
  have hl : lv_has ls 4 [(0, .ref h0), (1, .int v)] := hl
  refine lv_iconst (v := 0) hx hb dJ7_fill_53178_0 (by decide) ?_
  refine lv_istore_n (lv' := [(2, .int 0), (0, .ref h0), (1, .int v)]) hx hb dJ7_fill_53178_1 rfl hl (by decide) rfl (fun ls hl => ?_)
  refine lv_aload_n hx hb dJ7_fill_53178_2 rfl (lv_at hl 1 rfl) ?_
  refine va_alen (v := (nI n)) hx hb hK hP 0 0 rfl rfl rfl dJ7_fill_53178_3 ?_
  refine lv_istore_n (lv' := [(3, .int (nI n)), (2, .int 0), (0, .ref h0), (1, .int v)]) hx hb dJ7_fill_53178_4 rfl hl (by decide) rfl (fun ls hl => ?_)
  rw [← zfl_0 f v] at hP hD
  have hP : va_P (dC, dI) vwCl [(h0, .inl (cI, n, .inl (zfl f v 0)))] s.heap := hP
  have hD : va_D A [(h0, .inl (cI, n, .inl (zfl f v 0)))] := hD
  have loop : ∀ (d : Nat) (k : Nat), n + 1 ≤ k + d → k ≤ n → ∀ (H : Heap) (locs : List Loc), va_P (dC, dI) vwCl [(h0, .inl (cI, n, .inl (zfl f v k)))] H → va_D A [(h0, .inl (cI, n, .inl (zfl f v k)))] → va_S A s.heap H locs → ∀ ls : Array Slot, lv_has ls 4 [(0, .ref h0), (1, .int v), (2, .int (nI k)), (3, .int (nI n))] → W p l e (headSpec wsJ7_fill_53178 ({ frames := 0, cells := 0, slots := 0, locals := 0 })).room s m ([.ref h0, .int v] : List Value).toArray below meth c H locs 0 0 (MQ below (va_Qv (fun (_ : Unit) => True) (fun _ t => va_P (dC, dI) vwCl [(h0, .inl (cI, n, .inl (zfl f v n)))] t.heap ∧ va_D A [(h0, .inl (cI, n, .inl (zfl f v n)))]) A) ([.ref h0, .int v] : List Value).toArray s 0 0 A) (F0 m 5 ls []) := by
    intro d
    induction d with
    | zero => intro k hd hk; exact absurd hd (by omega)
    | succ d ih =>
      intro k hd hk H locs hP hD hS ls hl
      refine lv_iload_n hx hb dJ7_fill_53178_5 rfl (lv_at hl 2 rfl) ?_
      refine lv_iload_n hx hb dJ7_fill_53178_6 rfl (lv_at hl 3 rfl) ?_
      refine lv_icmp_ge (tgt := 20) hx hb dJ7_fill_53178_7 (by decide) (fun c7 => ?_) (fun c7 => ?_)
      · skip
        have hkn : k = n := Nat.le_antisymm hk ((nI_leI hn (by omega)).mp c7)
        rw [hkn] at hP hD
        exact W.vret hx hb hr (fun t9 ht hW => ⟨⟨(), rfl, trivial, by rw [ht]; exact hP, hD⟩, hS.F ht⟩) hS.2.2 dJ7_fill_53178_20
      · skip
        have hkn : k < n := Nat.lt_of_not_le (fun q => c7 ((nI_leI hn (by omega)).mpr q))
        refine lv_aload_n hx hb dJ7_fill_53178_10 rfl (lv_at hl 0 rfl) ?_
        refine lv_iload_n hx hb dJ7_fill_53178_11 rfl (lv_at hl 2 rfl) ?_
        refine lv_iload_n hx hb dJ7_fill_53178_12 rfl (lv_at hl 1 rfl) ?_
        refine va_iast hx hb hK hP hD hS 0 0 rfl rfl (vp_in_nI hkn hn) dJ7_fill_53178_13 (fun H locs hP hD hS => ?_)
        have hP : va_P (dC, dI) vwCl [(h0, .inl (cI, n, .inl (upd (zfl f v k) (nI k).toNatClampNeg v)))] H := hP
        have hD : va_D A [(h0, .inl (cI, n, .inl (upd (zfl f v k) (nI k).toNatClampNeg v)))] := hD
        rw [nI_clamp (by omega), zfl_s] at hP hD
        have hP : va_P (dC, dI) vwCl [(h0, .inl (cI, n, .inl (zfl f v (k + 1))))] H := hP
        have hD : va_D A [(h0, .inl (cI, n, .inl (zfl f v (k + 1))))] := hD
        refine lv_iinc (v := nI (k + 1)) (lv' := [(2, .int (nI (k + 1))), (0, .ref h0), (1, .int v), (3, .int (nI n))]) hx hb dJ7_fill_53178_14 hl (k := 2) rfl (nI_1 k) (by decide) rfl (fun ls hl => ?_)
        refine lv_goto (tgt := 5) hx hb dJ7_fill_53178_17 (by decide) ?_
        exact ih (k + 1) (by omega) (by omega) _ _ hP hD hS ls (lv_sub hl [1, 2, 0, 3] rfl)
  exact loop (n + 1) 0 (by omega) (Nat.zero_le _) _ _ hP hD hS ls (lv_sub hl [2, 3, 1, 0] rfl)

set_option maxHeartbeats 4000000 in
set_option maxRecDepth 100000 in
/-- Code(words) -/
theorem k_Code (l : Launch) (dC : Nat → ClassId) (dI : Nat → Nat → Nat) (sz : Nat) (cI : ClassId) (h0 h1 : Nat) (n : Nat) (f : Nat → Int32) (hn : n < 2 ^ 30) : Met l yX0_init wsX0_init ({ frames := 1, cells := 1, slots := 256, locals := 23 }) (va_Pc [.ref h0, .ref h1] (zPcD (dC, dI) [(h0, .inr (0, [.null, .int 0, .null])), (h1, .inl (cI, n, .inl f))] [(cI, .int)] sz)) (va_Qv (fun (h2 : Nat) => True) (fun h2 t => va_P (dC, dI) vwCl [(h1, .inl (cI, n, .inl f)), (h0, .inr (0, [.ref h1, .int (nI (ztr f n)), .ref h2])), (h2, .inl (cI, 256, .inl (zpl f n)))] t.heap ∧ va_D (va_A [(h0, .inr (0, [.null, .int 0, .null])), (h1, .inl (cI, n, .inl f))] sz) [(h1, .inl (cI, n, .inl f)), (h0, .inr (0, [.ref h1, .int (nI (ztr f n)), .ref h2])), (h2, .inl (cI, 256, .inl (zpl f n)))]) (va_A [(h0, .inr (0, [.null, .int 0, .null])), (h1, .inl (cI, n, .inl f))] sz)) 1 256 (va_A [(h0, .inr (0, [.null, .int 0, .null])), (h1, .inl (cI, n, .inl f))] sz) := by
  refine Met.ofW (cc := cX0_init) (maxL := 6) (ret := none) (by decide) rfl ?_
  intro p e s m args below meth c s₁ B hml hv
  obtain ⟨rfl, hsz, hP, hK, hD0⟩ := hv
  have hx := B.exec
  have hb := B.bytes
  have hr := B.returns
  have hts := atoms_spec (ws := wsX0_init) B.pre
  have hown : s.vm.findClass RX0 = some m.cls := findClass_of_methodNamed B.named
  have hlocks := B.notSynchronized
  subst hsz
  have hi0 : ∀ w ∈ u_ws RX0 TX0 3, w ∈ wsX0_init := by decide +kernel
  have hD := hD0.self (sz := s.heap.size)
  generalize hAe : va_A [(h0, .inr (0, [.null, .int 0, .null])), (h1, .inl (cI, n, .inl f))] s.heap.size = A at hD ⊢
  have hA : ∀ q : Nat, s.heap.size ≤ q → A q := fun q h => by rw [← hAe]; exact Or.inr h
  have hS : va_S A s.heap s.heap [] := va_S.rf
  have hl := lv_entry ([.ref h0, .ref h1]) (n := 6) (Nat.le_of_ble_eq_true rfl)
  rw [lg_entry_eq]
  generalize (lg_sl ([.ref h0, .ref h1]) ++ List.replicate (6 - (lg_sl ([.ref h0, .ref h1])).length) Slot.unset).toArray = ls at hl ⊢
  have hl : lv_has ls 6 [(0, .ref h0), (1, .ref h1)] := hl
  have hin : meth.name = "<init>" := (name_of_methodNamed B.named B.method).1
  have hn1 : n < 2 ^ 31 := by omega
  refine lv_aload_n hx hb dX0_init_0 rfl (lv_at hl 0 rfl) ?_
  refine W.objInit hx hb hown (hts (.methodLink RX0 3 objectInit) (List.mem_of_getElem? (i := 1) rfl)) (hts (.instanceMethod objectInit) (List.mem_of_getElem? (i := 2) rfl)) (hts (.code objectInit ⟨#[0xb1]⟩ 1 none) (List.mem_of_getElem? (i := 3) rfl)) rfl (by rw [hml]; exact hl.1) rfl dX0_init_1 (Nat.le_of_ble_eq_true rfl) (Nat.le_of_ble_eq_true rfl) ?_
  refine W.eq (g2 := F0 m 4 ls []) rfl ?_
  refine lv_aload_n hx hb dX0_init_4 rfl (lv_at hl 0 rfl) ?_
  refine lv_sipush (v := 256) hx hb dX0_init_5 (by decide) ?_
  refine va_newa (atype := .int) (ty := .int) (N' := 256) (a0 := (256, .inl (fun _ => 0))) hx hb (hts (.arrayClass .int) (List.mem_of_getElem? (i := 4) rfl)) rfl hK hP hD hS hA (fun _ => rfl) (by decide) (by decide) (Nat.le_of_ble_eq_true rfl) (Nat.le_of_ble_eq_true rfl) (Nat.le_of_ble_eq_true rfl) dX0_init_8 (fun h2 cA H hK hP hD hS => ?_)
  obtain rfl := zI_one hK (i := 0) (j := 1) rfl rfl
  have hK := hK.sub (tys' := [(cI, .int)]) [0] rfl
  have hP : va_P (dC, dI) vwCl [(h0, .inr (0, [.null, .int 0, .null])), (h1, .inl (cI, n, .inl f)), (h2, .inl (cI, 256, .inl (fun _ => 0)))] H := hP
  have hD : va_D A [(h0, .inr (0, [.null, .int 0, .null])), (h1, .inl (cI, n, .inl f)), (h2, .inl (cI, 256, .inl (fun _ => 0)))] := hD
  refine W.widen (k := 1) (n := 256) (by omega) (by omega) ?_
  refine va_putF (D := (dC, dI)) (ci := 0) (v := .ref h2) (ty := (.array .int)) (C := RX0) (T := TX0) (N := 3) hx hb hts hi0 tyX0 tyX0_ok nmX0 hown hK hP hD hS 0 rfl rfl 2 (by decide) (hts (.fieldLink RX0 9 "Ringtrack$Code" "places" "[I") (List.mem_of_getElem? (i := 5) rfl)) (fun _ h9 => h9) rfl hin rfl (by decide +kernel) rfl rfl (Nat.le_of_ble_eq_true rfl) dX0_init_10 (fun H locs hP hD hS => ?_)
  have hP : va_P (dC, dI) vwCl [(h0, .inr (0, [.null, .int 0, .ref h2])), (h1, .inl (cI, n, .inl f)), (h2, .inl (cI, 256, .inl (fun _ => 0)))] H := hP
  have hD : va_D A [(h0, .inr (0, [.null, .int 0, .ref h2])), (h1, .inl (cI, n, .inl f)), (h2, .inl (cI, 256, .inl (fun _ => 0)))] := hD
  refine lv_aload_n hx hb dX0_init_13 rfl (lv_at hl 0 rfl) ?_
  refine lv_aload_n hx hb dX0_init_14 rfl (lv_at hl 1 rfl) ?_
  refine va_putF (D := (dC, dI)) (ci := 0) (v := .ref h1) (ty := (.array .int)) (C := RX0) (T := TX0) (N := 3) hx hb hts hi0 tyX0 tyX0_ok nmX0 hown hK hP hD hS 0 rfl rfl 0 (by decide) (hts (.fieldLink RX0 15 "Ringtrack$Code" "words" "[I") (List.mem_of_getElem? (i := 6) rfl)) (fun _ h9 => h9) rfl hin rfl (by decide +kernel) rfl rfl (Nat.le_of_ble_eq_true rfl) dX0_init_15 (fun H locs hP hD hS => ?_)
  have hP : va_P (dC, dI) vwCl [(h0, .inr (0, [.ref h1, .int 0, .ref h2])), (h1, .inl (cI, n, .inl f)), (h2, .inl (cI, 256, .inl (fun _ => 0)))] H := hP
  have hD : va_D A [(h0, .inr (0, [.ref h1, .int 0, .ref h2])), (h1, .inl (cI, n, .inl f)), (h2, .inl (cI, 256, .inl (fun _ => 0)))] := hD
  refine lv_aload_n hx hb dX0_init_18 rfl (lv_at hl 0 rfl) ?_
  refine va_get (D := (dC, dI)) (ci := 0) (v := .ref h2) (C := RX0) (T := TX0) (N := 3) hx hb hts hi0 hown hK hP 0 rfl rfl 2 (by decide) (hts (.fieldLink RX0 9 "Ringtrack$Code" "places" "[I") (List.mem_of_getElem? (i := 5) rfl)) (fun _ h9 => h9) rfl dX0_init_19 ?_
  refine lv_iconst (v := (-1)) hx hb dX0_init_22 (by decide) ?_
  have hPc := hP.sub (ws' := [(h2, .inl (cI, 256, .inl (fun _ => 0)))]) [2] rfl
  have hDc := hD.sub (ws' := [(h2, .inl (cI, 256, .inl (fun _ => 0)))]) [2] (by decide) rfl
  have hKc := hK.sub (tys' := [(cI, .int)]) [0] rfl
  have hFc := va_free (wc := [(h2, .inl (cI, 256, .inl (fun _ => 0)))]) hD hS hA [2] rfl
  refine va_callv (va_runS (As := [.ref h2, .int (-1)]) (rest := []) ⟨hx, hb, hml, hown, hts⟩ (k_fill l dC dI H.size cI h2 256 (fun _ => 0) (-1) (by decide)) (va_cwS 2 hts gX0_init_J7_fill_53178 rfl rfl rfl (by decide +kernel) ⟨Nat.le_of_ble_eq_true rfl, Nat.le_of_ble_eq_true rfl⟩) ⟨zfbD, zpreD hPc hKc hDc⟩ rfl rfl hl.1 rfl (lv_room (Nat.le_of_ble_eq_true rfl)) dX0_init_23 ⟨Nat.le_of_ble_eq_true rfl, Nat.le_of_ble_eq_true rfl⟩) hS (fun q _ h => hFc q h) hFc (fun u9 t9 H1 locs ht hvm hw hB hz1 hk1 hS => ?_)
  try dsimp only at hw
  obtain ⟨hP1, hD1⟩ := hB
  rw [ht] at hP1
  obtain ⟨hP, hD⟩ := va_join (wr := [(h0, .inr (0, [.ref h1, .int 0, .ref h2])), (h1, .inl (cI, n, .inl f))]) (w1 := [(h2, .inl (cI, 256, .inl (zfl (fun _ => 0) (-1) 256)))]) hP hD [2] [0, 1] rfl rfl (by decide) (by decide) hk1 hFc hP1 hD1
  clear hPc hDc hFc hP1 hD1 hk1 hz1 ht hvm
  have hP : va_P (dC, dI) vwCl [(h0, .inr (0, [.ref h1, .int 0, .ref h2])), (h1, .inl (cI, n, .inl f)), (h2, .inl (cI, 256, .inl (zfl (fun _ => 0) (-1) 256)))] H1 := hP
  have hD : va_D A [(h0, .inr (0, [.ref h1, .int 0, .ref h2])), (h1, .inl (cI, n, .inl f)), (h2, .inl (cI, 256, .inl (zfl (fun _ => 0) (-1) 256)))] := hD
  refine lv_iconst (v := (-1)) hx hb dX0_init_26 (by decide) ?_
  refine lv_istore_n (lv' := [(2, .int (-1)), (0, .ref h0), (1, .ref h1)]) hx hb dX0_init_27 rfl hl (by decide) rfl (fun ls hl => ?_)
  refine lv_iconst (v := 0) hx hb dX0_init_28 (by decide) ?_
  refine lv_istore_n (lv' := [(3, .int 0), (2, .int (-1)), (0, .ref h0), (1, .ref h1)]) hx hb dX0_init_29 rfl hl (by decide) rfl (fun ls hl => ?_)
  have hP : va_P (dC, dI) vwCl [(h0, .inr (0, [.ref h1, .int 0, .ref h2])), (h1, .inl (cI, n, .inl f)), (h2, .inl (cI, 256, .inl (zpl f 0)))] H1 := hP
  have hD : va_D A [(h0, .inr (0, [.ref h1, .int 0, .ref h2])), (h1, .inl (cI, n, .inl f)), (h2, .inl (cI, 256, .inl (zpl f 0)))] := hD
  have loop : ∀ (d : Nat) (k : Nat), n + 1 ≤ k + d → k ≤ n → ∀ (H : Heap) (locs : List Loc), va_P (dC, dI) vwCl [(h0, .inr (0, [.ref h1, .int 0, .ref h2])), (h1, .inl (cI, n, .inl f)), (h2, .inl (cI, 256, .inl (zpl f k)))] H → va_D A [(h0, .inr (0, [.ref h1, .int 0, .ref h2])), (h1, .inl (cI, n, .inl f)), (h2, .inl (cI, 256, .inl (zpl f k)))] → va_S A s.heap H locs → ∀ ls : Array Slot, lv_has ls 6 [(0, .ref h0), (1, .ref h1), (2, .int (zh (ztr f k))), (3, .int (nI k))] → W p l e (headSpec wsX0_init ({ frames := 1, cells := 1, slots := 256, locals := 23 })).room s m ([.ref h0, .ref h1] : List Value).toArray below meth c H locs 1 256 (MQ below (va_Qv (fun (h2 : Nat) => True) (fun h2 t => va_P (dC, dI) vwCl [(h1, .inl (cI, n, .inl f)), (h0, .inr (0, [.ref h1, .int (nI (ztr f n)), .ref h2])), (h2, .inl (cI, 256, .inl (zpl f n)))] t.heap ∧ va_D A [(h1, .inl (cI, n, .inl f)), (h0, .inr (0, [.ref h1, .int (nI (ztr f n)), .ref h2])), (h2, .inl (cI, 256, .inl (zpl f n)))]) A) ([.ref h0, .ref h1] : List Value).toArray s 1 256 A) (F0 m 30 ls []) := by
    intro d
    induction d with
    | zero => intro k hd hk; exact absurd hd (by omega)
    | succ d ih =>
      intro k hd hk H locs hP hD hS ls hl
      refine lv_iload_n hx hb dX0_init_30 rfl (lv_at hl 3 rfl) ?_
      refine lv_aload_n hx hb dX0_init_31 rfl (lv_at hl 1 rfl) ?_
      refine va_alen (v := (nI n)) hx hb hK hP 1 0 rfl rfl rfl dX0_init_32 ?_
      refine lv_icmp_ge (tgt := 95) hx hb dX0_init_33 (by decide) (fun c33 => ?_) (fun c33 => ?_)
      · skip
        have hkn : k = n := Nat.le_antisymm hk ((nI_leI hn1 (by omega)).mp c33)
        refine lv_aload_n hx hb dX0_init_95 rfl (lv_at hl 0 rfl) ?_
        refine lv_iload_n hx hb dX0_init_96 rfl (lv_at hl 2 rfl) ?_
        refine lv_iconst (v := 1) hx hb dX0_init_97 (by decide) ?_
        refine lv_iadd hx hb dX0_init_98 ?_
        refine zt_top (y := nI (ztr f k)) (zh_1 _) ?_
        refine va_putF (D := (dC, dI)) (ci := 0) (v := .int (nI (ztr f k))) (ty := .int) (C := RX0) (T := TX0) (N := 3) hx hb hts hi0 tyX0 tyX0_ok nmX0 hown hK hP hD hS 0 rfl rfl 1 (by decide) (hts (.fieldLink RX0 24 "Ringtrack$Code" "tracks" "I") (List.mem_of_getElem? (i := 7) rfl)) (fun _ h9 => h9) rfl hin rfl (by decide +kernel) rfl rfl (Nat.le_of_ble_eq_true rfl) dX0_init_99 (fun H locs hP hD hS => ?_)
        have hP : va_P (dC, dI) vwCl [(h0, .inr (0, [.ref h1, .int (nI (ztr f k)), .ref h2])), (h1, .inl (cI, n, .inl f)), (h2, .inl (cI, 256, .inl (zpl f k)))] H := hP
        have hD : va_D A [(h0, .inr (0, [.ref h1, .int (nI (ztr f k)), .ref h2])), (h1, .inl (cI, n, .inl f)), (h2, .inl (cI, 256, .inl (zpl f k)))] := hD
        rw [hkn] at hP hD
        exact W.vret hx hb hr (fun t9 ht hW => ⟨⟨h2, rfl, trivial, by rw [ht]; exact hP.sub [1, 0, 2] rfl, hD.sub [1, 0, 2] (by decide) rfl⟩, hS.F ht⟩) hS.2.2 dX0_init_102
      · skip
        have hkn : k < n := Nat.lt_of_not_le (fun q => c33 ((nI_leI hn1 (by omega)).mpr q))
        refine lv_aload_n hx hb dX0_init_36 rfl (lv_at hl 1 rfl) ?_
        refine lv_iload_n hx hb dX0_init_37 rfl (lv_at hl 3 rfl) ?_
        refine va_iald hx hb hK hP 1 0 rfl rfl (vp_in_nI hkn hn1) dX0_init_38 ?_
        refine zt_top (y := f k) (by rw [nI_clamp (by omega)]) ?_
        refine lv_sipush (v := 255) hx hb dX0_init_39 (by decide) ?_
        refine lv_iand hx hb dX0_init_42 ?_
        refine lv_istore (lv' := [(4, .int ((f k) &&& 255)), (0, .ref h0), (1, .ref h1), (2, .int (zh (ztr f k))), (3, .int (nI k))]) hx hb dX0_init_43 hl (by decide) rfl (fun ls hl => ?_)
        refine lv_aload_n hx hb dX0_init_45 rfl (lv_at hl 1 rfl) ?_
        refine va_get (D := (dC, dI)) (ci := 0) (v := .ref h2) (C := RX0) (T := TX0) (N := 3) hx hb hts hi0 hown hK hP 0 rfl rfl 2 (by decide) (hts (.fieldLink RX0 9 "Ringtrack$Code" "places" "[I") (List.mem_of_getElem? (i := 5) rfl)) (fun _ h9 => h9) rfl dX0_init_46 ?_
        refine lv_iload hx hb dX0_init_49 (lv_at hl 0 rfl) ?_
        refine lv_iload_n hx hb dX0_init_51 rfl (lv_at hl 4 rfl) ?_
        refine va_iast hx hb hK hP hD hS 2 0 rfl rfl (zin255 (f k)) dX0_init_52 (fun H locs hP hD hS => ?_)
        have hP : va_P (dC, dI) vwCl [(h0, .inr (0, [.ref h1, .int 0, .ref h2])), (h1, .inl (cI, n, .inl f)), (h2, .inl (cI, 256, .inl (upd (zpl f k) ((f k) &&& 255).toNatClampNeg (nI k))))] H := hP
        have hD : va_D A [(h0, .inr (0, [.ref h1, .int 0, .ref h2])), (h1, .inl (cI, n, .inl f)), (h2, .inl (cI, 256, .inl (upd (zpl f k) ((f k) &&& 255).toNatClampNeg (nI k))))] := hD
        have hP : va_P (dC, dI) vwCl [(h0, .inr (0, [.ref h1, .int 0, .ref h2])), (h1, .inl (cI, n, .inl f)), (h2, .inl (cI, 256, .inl (zpl f (k + 1))))] H := hP
        have hD : va_D A [(h0, .inr (0, [.ref h1, .int 0, .ref h2])), (h1, .inl (cI, n, .inl f)), (h2, .inl (cI, 256, .inl (zpl f (k + 1))))] := hD
        refine lv_iconst (v := 0) hx hb dX0_init_53 (by decide) ?_
        refine lv_istore (lv' := [(5, .int 0), (4, .int ((f k) &&& 255)), (0, .ref h0), (1, .ref h1), (2, .int (zh (ztr f k))), (3, .int (nI k))]) hx hb dX0_init_54 hl (by decide) rfl (fun ls hl => ?_)
        have hw8 := ztr_le f k
        have inner : ∀ (d2 : Nat) (t : Nat), 9 ≤ t + d2 → t ≤ 8 → ∀ (H : Heap) (locs : List Loc), va_P (dC, dI) vwCl [(h0, .inr (0, [.ref h1, .int 0, .ref h2])), (h1, .inl (cI, n, .inl f)), (h2, .inl (cI, 256, .inl (zpl f (k + 1))))] H → va_D A [(h0, .inr (0, [.ref h1, .int 0, .ref h2])), (h1, .inl (cI, n, .inl f)), (h2, .inl (cI, 256, .inl (zpl f (k + 1))))] → va_S A s.heap H locs → ∀ ls : Array Slot, lv_has ls 6 [(0, .ref h0), (1, .ref h1), (2, .int (zh (ztw (f k &&& 255) (ztr f k) t))), (3, .int (nI k)), (4, .int (f k &&& 255)), (5, .int (nI t))] → W p l e (headSpec wsX0_init ({ frames := 1, cells := 1, slots := 256, locals := 23 })).room s m ([.ref h0, .ref h1] : List Value).toArray below meth c H locs 1 256 (MQ below (va_Qv (fun (h2 : Nat) => True) (fun h2 t => va_P (dC, dI) vwCl [(h1, .inl (cI, n, .inl f)), (h0, .inr (0, [.ref h1, .int (nI (ztr f n)), .ref h2])), (h2, .inl (cI, 256, .inl (zpl f n)))] t.heap ∧ va_D A [(h1, .inl (cI, n, .inl f)), (h0, .inr (0, [.ref h1, .int (nI (ztr f n)), .ref h2])), (h2, .inl (cI, 256, .inl (zpl f n)))]) A) ([.ref h0, .ref h1] : List Value).toArray s 1 256 A) (F0 m 56 ls []) := by
          intro d2
          induction d2 with
          | zero => intro t hd2 ht; exact absurd hd2 (by omega)
          | succ d2 ihe =>
            intro t hd2 ht H locs hP hD hS ls hl
            refine lv_iload hx hb dX0_init_56 (lv_at hl 5 rfl) ?_
            refine lv_bipush (v := 8) hx hb dX0_init_58 (by decide) ?_
            refine zt_top (y := nI 8) (rfl) ?_
            refine lv_icmp_ge (tgt := 89) hx hb dX0_init_60 (by decide) (fun c60 => ?_) (fun c60 => ?_)
            · skip
              have ht8 : t = 8 := Nat.le_antisymm ht ((nI_leI (by decide) (by omega)).mp c60)
              refine lv_iinc (v := nI (k + 1)) (lv' := [(3, .int (nI (k + 1))), (0, .ref h0), (1, .ref h1), (2, .int (zh (ztw (f k &&& 255) (ztr f k) t))), (4, .int (f k &&& 255)), (5, .int (nI t))]) hx hb dX0_init_89 hl (k := 3) rfl (nI_1 k) (by decide) rfl (fun ls hl => ?_)
              refine lv_goto (tgt := 30) hx hb dX0_init_92 (by decide) ?_
              exact ih (k + 1) (by omega) (by omega) _ _ hP hD hS ls (by rw [ht8] at hl; exact lv_sub hl [1, 2, 3, 0] rfl)
            · skip
              have ht8 : t < 8 := Nat.lt_of_not_le (fun q => c60 ((nI_leI (by decide) (by omega)).mpr q))
              refine lv_iload hx hb dX0_init_63 (lv_at hl 4 rfl) ?_
              refine lv_iload hx hb dX0_init_65 (lv_at hl 5 rfl) ?_
              refine lv_ishr hx hb dX0_init_67 ?_
              refine lv_iconst (v := 1) hx hb dX0_init_68 (by decide) ?_
              refine lv_iand hx hb dX0_init_69 ?_
              refine lv_iconst (v := 1) hx hb dX0_init_70 (by decide) ?_
              refine lv_icmp_ne (tgt := 83) hx hb dX0_init_71 (by decide) (fun c71 => ?_) (fun c71 => ?_)
              · skip
                have hwt := ztw_le (f k &&& 255) (ztr f k) hw8 t (by omega)
                have ec : ztw (f k &&& 255) (ztr f k) (t + 1) = ztw (f k &&& 255) (ztr f k) t := if_neg (fun q => absurd (of_decide_eq_true q.1) c71)
                refine lv_iinc (v := nI (t + 1)) (lv' := [(5, .int (nI (t + 1))), (0, .ref h0), (1, .ref h1), (2, .int (zh (ztw (f k &&& 255) (ztr f k) t))), (3, .int (nI k)), (4, .int (f k &&& 255))]) hx hb dX0_init_83 hl (k := 5) rfl (nI_1 t) (by decide) rfl (fun ls hl => ?_)
                refine lv_goto (tgt := 56) hx hb dX0_init_86 (by decide) ?_
                exact ihe (t + 1) (by omega) (by omega) _ _ hP hD hS ls (by rw [ec]; exact lv_sub hl [1, 2, 3, 4, 5, 0] rfl)
              · skip
                have hwt := ztw_le (f k &&& 255) (ztr f k) hw8 t (by omega)
                refine lv_iload hx hb dX0_init_74 (lv_at hl 5 rfl) ?_
                refine lv_iload_n hx hb dX0_init_76 rfl (lv_at hl 2 rfl) ?_
                refine lv_icmp_le (tgt := 83) hx hb dX0_init_77 (by decide) (fun c77 => ?_) (fun c77 => ?_)
                · skip
                  have ec : ztw (f k &&& 255) (ztr f k) (t + 1) = ztw (f k &&& 255) (ztr f k) t := if_neg (fun q => absurd ((zh_le (by omega) (by omega)).mp c77) (by omega))
                  refine lv_iinc (v := nI (t + 1)) (lv' := [(5, .int (nI (t + 1))), (0, .ref h0), (1, .ref h1), (2, .int (zh (ztw (f k &&& 255) (ztr f k) t))), (3, .int (nI k)), (4, .int (f k &&& 255))]) hx hb dX0_init_83 hl (k := 5) rfl (nI_1 t) (by decide) rfl (fun ls hl => ?_)
                  refine lv_goto (tgt := 56) hx hb dX0_init_86 (by decide) ?_
                  exact ihe (t + 1) (by omega) (by omega) _ _ hP hD hS ls (by rw [ec]; exact lv_sub hl [1, 2, 3, 4, 5, 0] rfl)
                · skip
                  have ec : ztw (f k &&& 255) (ztr f k) (t + 1) = t + 1 := if_pos ⟨decide_eq_true c71, Nat.le_of_not_lt (fun q => c77 ((zh_le (by omega) (by omega)).mpr q))⟩
                  refine lv_iload hx hb dX0_init_80 (lv_at hl 5 rfl) ?_
                  refine lv_istore_n (lv' := [(2, .int (nI t)), (0, .ref h0), (1, .ref h1), (3, .int (nI k)), (4, .int (f k &&& 255)), (5, .int (nI t))]) hx hb dX0_init_82 rfl hl (by decide) rfl (fun ls hl => ?_)
                  refine lv_iinc (v := nI (t + 1)) (lv' := [(5, .int (nI (t + 1))), (2, .int (nI t)), (0, .ref h0), (1, .ref h1), (3, .int (nI k)), (4, .int (f k &&& 255))]) hx hb dX0_init_83 hl (k := 5) rfl (nI_1 t) (by decide) rfl (fun ls hl => ?_)
                  refine lv_goto (tgt := 56) hx hb dX0_init_86 (by decide) ?_
                  exact ihe (t + 1) (by omega) (by omega) _ _ hP hD hS ls (by rw [ec, zh_s]; exact lv_sub hl [2, 3, 1, 4, 5, 0] rfl)
        exact inner 9 0 (by omega) (by omega) _ _ hP hD hS ls (lv_sub hl [2, 3, 4, 5, 1, 0] rfl)
  exact loop (n + 1) 0 (by omega) (Nat.zero_le _) _ _ hP hD hS ls (lv_sub hl [2, 3, 1, 0] rfl)
end
section
/-! what the launch and the tables give: the statics that a throw reads, texts, words that keep by themselves, pairs that aren't castable -/
def zIAE : String := "java/lang/IllegalArgumentException"
def zISE : String := "java/lang/IllegalStateException"
def zUOE : String := "java/lang/UnsupportedOperationException"
def zIOB : String := "java/lang/IndexOutOfBoundsException"
def zNSE : String := "java/util/NoSuchElementException"
def zTx : List (Nat × String) := [(39, "a word is 0 to 255"), (58, "what is typed is no ring"), (76, "bits are 2 to 6"), (387, "no such code"), (92, "no such place"), (103, "the code has no such word"), (109, "no such track"), (120, "a disc is off by 0 to 40"), (389, "there is no disc")]
def zD : List Cond := [.methodLinkNest RX0 36 yX6_modulo "Ringtrack", .methodLinkNest RX6 28 yX2_init "Ringtrack", .declares (Bundle.initS "java/lang/RuntimeException"), .declares (Bundle.initS "java/lang/Exception"), .declares (Bundle.initS Bundle.tN), .castable "java/lang/IllegalArgumentException" "java/lang/IllegalArgumentException", .castable "java/lang/UnsupportedOperationException" "java/lang/UnsupportedOperationException", .castable "java/lang/IndexOutOfBoundsException" "java/lang/IndexOutOfBoundsException", .castable "java/util/NoSuchElementException" "java/util/NoSuchElementException"]
def zPr : List (String × String) := [("java/lang/IllegalArgumentException", "java/lang/IndexOutOfBoundsException"), ("java/util/NoSuchElementException", "java/lang/IndexOutOfBoundsException"), ("java/util/NoSuchElementException", "java/lang/IllegalArgumentException")]
def zwm : Cond → Bool
  | .declares _ => true
  | .castable _ _ => true
  | .methodLinkNest _ _ _ _ => true
  | _ => false
theorem zw_warm {w : Cond} (hw : zwm w = true) {s U : State} (hW : s.WarmedH U.vm) (h : va_Nw w s) : va_Nw w U := by
  cases w <;> first | exact va_Nw.warmD hW h | exact va_Nw.warmC hW h | exact va_Nw.warmM hW h | (exact absurd hw (by decide)) | (simp [zwm] at hw)
theorem zD_ok : ∀ w ∈ zD, zwm w = true := by decide +kernel
theorem zD_ot : ∀ w ∈ zD, w.onTables = true := by decide +kernel
def zX (A : Nat → Prop) (U : State) (H : Heap) : Prop := (vx_Zq Bundle.tN "UNASSIGNED_STACK" Bundle.steD A U H ∧ vx_Zq Bundle.tN "SUPPRESSED_SENTINEL" Bundle.listD A U H) ∧ (∀ q ∈ zTx, ∃ a : Nat, vk_R RX6 q.1 q.2 a U) ∧ (∀ w ∈ zD, va_Nw w U) ∧ (∀ q ∈ zPr, va_Nc q.1 q.2 U)
theorem zX_cal {A : Nat → Prop} {U : State} {H : Heap} {g : JFrame} {mk : MethodId} {a : Array Value} (h : zX A U H) : zX A (U.calling g mk a) H :=
  ⟨⟨vx_Zq.moved (u := U) (U := U.calling g mk a) (Vm.Alike.refl U.vm) h.1.1, vx_Zq.moved (u := U) (U := U.calling g mk a) (Vm.Alike.refl U.vm) h.1.2⟩,
    fun q hq => by obtain ⟨x, hx⟩ := h.2.1 q hq; exact ⟨x, vk_R.same (u := U) (U := U.calling g mk a) rfl hx⟩,
    fun w hw => va_Nw.same (zD_ot w hw) (u := U) (U := U.calling g mk a) rfl (h.2.2.1 w hw), fun q hq => va_Nc.moved (u := U) (U := U.calling g mk a) (Vm.Alike.refl U.vm) (h.2.2.2 q hq)⟩
theorem zX_warm {A : Nat → Prop} {s U : State} {H : Heap} (hW : s.WarmedH U.vm) (h : zX A s H) : zX A U H :=
  ⟨⟨vx_Zq.moved hW.alike h.1.1, vx_Zq.moved hW.alike h.1.2⟩, fun q hq => by obtain ⟨x, hx⟩ := h.2.1 q hq; exact ⟨x, vk_R.warm hW hx⟩, fun w hw => zw_warm (zD_ok w hw) hW (h.2.2.1 w hw), fun q hq => va_Nc.moved hW.alike (h.2.2.2 q hq)⟩
theorem zX_kept {A : Nat → Prop} {s : State} {H0 H : Heap} {locs : List Loc} (h : zX A s H0) (hS : va_S A H0 H locs) : zX A s H := ⟨⟨h.1.1.kept hS.2.1, h.1.2.kept hS.2.1⟩, h.2⟩
theorem zX_narrow {A B : Nat → Prop} {s : State} {H : Heap} (h : zX A s H) (hAB : ∀ q, B q → A q) : zX B s H := ⟨⟨h.1.1.narrow hAB, h.1.2.narrow hAB⟩, h.2⟩
theorem zX_N {A : Nat → Prop} {s : State} {H : Heap} (h : zX A s H) : zN s := h.2.2.1 _ (List.mem_of_getElem? (i := 0) rfl)
/-- a method's start with all that -/
abbrev zPcX (D : va_G) (ws : va_W) (tys : List (ClassId × FieldType)) (sz : Nat) : State → Prop := fun U => U.heap.size = sz ∧ va_P D vwCl ws U.heap ∧ va_K D vwCl tys U ∧ zX (zq sz) U U.heap
theorem zfbX {av : List Value} {D : va_G} {ws : va_W} {tys : List (ClassId × FieldType)} {sz : Nat} : FrameBlind (va_Pc av (zPcX D ws tys sz)) := fun a U g mk q => by
  obtain ⟨q0, q1, qP, qK, qE⟩ := q
  exact ⟨q0, q1, qP, va_K.moved (u := U) (U := U.calling g mk a) (Vm.Alike.refl U.vm) qK, zX_cal qE⟩
theorem zpreX {av : List Value} {D : va_G} {ws : va_W} {tys : List (ClassId × FieldType)} {s : State} {A : Nat → Prop} {H : Heap} {locs : List Loc} (hP : va_P D vwCl ws H) (hK : va_K D vwCl tys s) (hE : zX A s s.heap) (hS : va_S A s.heap H locs) (hA : ∀ q : Nat, s.heap.size ≤ q → A q) : ∀ U : State, U.heap = H → s.WarmedH U.vm → va_Pc av (zPcX D ws tys H.size) av.toArray U := fun U hU hW => ⟨rfl, by rw [hU], by rw [hU]; exact hP, va_K.moved hW.alike hK, by rw [hU]; exact zX_warm hW (zX_narrow (zX_kept hE hS) (fun q hq => hA q (Nat.le_trans hS.1 hq)))⟩
/-- what a method throws, and nothing else -/
abbrev zXC (E0 : String) (sz : Nat) : String → State → State → Prop := vx_X (fun _ : Unit => True) (fun E _ _ => E = E0) (zq sz)
abbrev zNoQ : Array Value → State → Outcome → State → Prop := fun _ _ _ _ => False
section ZC
variable {p : Program} {l : Launch} {e : Env} {R : Room} {s : State} {m : MethodId} {args : Array Value} {below : List Frame} {meth : Method} {c : Code} {H : Heap} {locs : List Loc} {cells slots : Nat} {Q : State → Prop}
theorem z_callx {pc : Nat} {ls : Array Slot} {st0 rest : List Value} {a : Array Value} {E : String} {A : Nat → Prop} (hr : vx_Run p l e R s m args below meth c H locs cells slots 1 6 (F0 m pc ls st0) rest (zNoQ a) (zXC E H.size) (zq H.size)) (hS : va_S A s.heap H locs) (hA : ∀ q : Nat, s.heap.size ≤ q → A q)
    (kx : ∀ (ce : Cell) (q9 : Addr) (H1 : Heap) (locs1 : List Loc), H.size ≤ H1.size → (∀ q : Nat, q < H.size → H1[q]? = H[q]?) → va_S A s.heap H1 locs1 → H1[q9]? = some ce → ce.vm = .none → s.vm.findClass E = some ce.cls → vx_W p l e R s m args below meth c H1 locs1 (cells + 1) (slots + 6) Q (F0 m pc ls rest) q9) : W p l e R s m args below meth c H locs cells slots Q (F0 m pc ls st0) := by
  intro T hT X
  rcases hr T hT X with ⟨v, st₀, t, T', L, h0, X', hL, e1, e2, hF, st⟩ | ⟨q, st₀, t, T', L, E1, ce, h0, X', hL, e1, e2, ⟨u, hp, hb, hF⟩, hce, hcv, hcl, st⟩
  · exact hF.elim
  · cases hb
    obtain ⟨k1, k2, k3⟩ := vx_keep (A0 := A) h0 e1 hS (fun q h1 h2 => absurd h2 (Nat.not_le.mpr h1)) (fun q h => hA q (Nat.le_trans hS.1 h)) hL hF
    obtain ⟨t2, a1, b1⟩ := kx ce q T'.heap (locs ++ L) k1 (fun q h => k2 q h (Nat.not_le.mpr h)) k3 (by rw [e1]; exact hce) hcv hcl T' rfl X'
    exact ⟨t2, st.trans a1, b1⟩
theorem z_out {pc : Nat} {ls : Array Slot} {rest : List Value} {E : String} {ce : Cell} {q : Addr} (hnt : ∀ x ∈ c.exceptionTable.toList, False) (hlocks : meth.locks = false) (hcell : H[q]? = some ce) (hv : ce.vm = .none) (hcl : s.vm.findClass E = some ce.cls) (hS : va_S (zq s.heap.size) s.heap H locs) (hc : cells ≤ 1) (hs : slots ≤ 6) :
    vx_W p l e R s m args below meth c H locs cells slots (vx_MQ below zNoQ (zXC E s.heap.size) args s 1 6 (zq s.heap.size)) (F0 m pc ls rest) q :=
  vx_out (fun x hx => (hnt x hx).elim) hlocks hcell hv hcl (fun t ht _ => ⟨(), trivial, rfl, hS.F ht⟩) hS.2.2 hc hs
theorem z_hx {E : String} (hS : va_S (zq s.heap.size) s.heap H locs) : ∀ t : State, s.vm.Alike t.vm → H.size ≤ t.heap.size → (∀ q : Nat, q < H.size → t.heap[q]? = H[q]?) → zXC E s.heap.size E s t := fun t _ hz hq => ⟨(), trivial, rfl, Nat.le_trans hS.1 hz, fun q h1 h2 => by rw [hq q (Nat.lt_of_lt_of_le h1 hS.1)]; exact hS.2.1 q h1 h2⟩
end ZC
theorem zr_keep2 {D : va_G} {cl : List vw_C} {ws : va_W} {H H1 : Heap} (hP : va_P D cl ws H) (hk : ∀ q : Nat, q < H.size → H1[q]? = H[q]?) : va_P D cl ws H1 := hP.kept (fun k x hx => hk x.1 ((hP k x hx).lt))
theorem zg_of {s : State} {args : Array Value} {L : List Cond} (h1 : ∀ w ∈ L.filter goodWord, w.before args s = true) (h2 : ∀ w ∈ L.filter (fun w => !goodWord w), w ∈ zD) (h : ∀ w ∈ zD, va_Nw w s) : ∀ w ∈ L, w.before args s = true := vx_hat h1 h2 (fun w hw => va_Nw.use (zD_ot w hw) (h w hw))
theorem zg_IAE : ∀ w ∈ (vx_atS RX6 41 "java/lang/IllegalArgumentException" ["java/lang/RuntimeException", "java/lang/Exception"]).filter (fun w => !goodWord w), w ∈ zD := by decide +kernel
theorem zg_UOE : ∀ w ∈ (vx_atS RX6 60 "java/lang/UnsupportedOperationException" ["java/lang/RuntimeException", "java/lang/Exception"]).filter (fun w => !goodWord w), w ∈ zD := by decide +kernel
theorem zg_IOB : ∀ w ∈ (vx_atS RX6 275 "java/lang/IndexOutOfBoundsException" ["java/lang/RuntimeException", "java/lang/Exception"]).filter (fun w => !goodWord w), w ∈ zD := by decide +kernel
theorem zg_NSE : ∀ w ∈ (zNat RX6 105).filter (fun w => !goodWord w), w ∈ zD := by decide +kernel
theorem zo_IAE : ∀ w ∈ Cond.classLink RX6 37 "java/lang/IllegalArgumentException" :: Cond.initialized "java/lang/IllegalArgumentException" :: vx_atS RX6 41 "java/lang/IllegalArgumentException" ["java/lang/RuntimeException", "java/lang/Exception"], vx_ot w = true := by decide +kernel
theorem zo_UOE : ∀ w ∈ Cond.classLink RX6 56 "java/lang/UnsupportedOperationException" :: Cond.initialized "java/lang/UnsupportedOperationException" :: vx_atS RX6 60 "java/lang/UnsupportedOperationException" ["java/lang/RuntimeException", "java/lang/Exception"], vx_ot w = true := by decide +kernel
theorem zo_IOB : ∀ w ∈ Cond.classLink RX6 271 "java/lang/IndexOutOfBoundsException" :: Cond.initialized "java/lang/IndexOutOfBoundsException" :: vx_atS RX6 275 "java/lang/IndexOutOfBoundsException" ["java/lang/RuntimeException", "java/lang/Exception"], vx_ot w = true := by decide +kernel
theorem zo_NSE : ∀ w ∈ Cond.classLink RX6 101 "java/util/NoSuchElementException" :: Cond.initialized "java/util/NoSuchElementException" :: zNat RX6 105, vx_ot w = true := by decide +kernel
end
section
theorem zh_le1 {t h : Nat} (ht : t < 2 ^ 30) (hh : h < 2 ^ 30) : nI t ≤ nI h - 1 ↔ t < h := zh_le ht hh
set_option maxHeartbeats 4000000 in
set_option maxRecDepth 100000 in
/-- codeAt(k) of a code that is there -/
theorem k_codeAt (l : Launch) (dC : Nat → ClassId) (dI : Nat → Nat → Nat) (sz : Nat) (cI cC : ClassId) (o a0 a1 a2 : Nat) (tc : Int32) (nc : Nat) (ad : Nat → Option Nat) (h0 k : Nat) (hk : k < nc) (hc4 : nc ≤ 4) (had : ad k = some h0) : Met l yX6_codeAt wsX6_codeAt ({ frames := 1, cells := 0, slots := 0, locals := 22 }) (va_Pc [.ref o, .int (nI k)] (zPc (dC, dI) [(o, .inr (6, [.ref a0, .int tc, .ref a1, .int (nI nc), .null, .int 40, .int 48, .int 0, .ref a2])), (a1, .inl (cC, 4, .inr (.inr (.inr (.inr ad)))))] [(cI, .int), (cC, (.object RX0))] sz)) (va_Qr (fun (_ : Unit) => True) (fun _ a _ => a = h0) (zq sz)) 0 0 (zq sz) := by
  refine Met.ofW (cc := cX6_codeAt) (maxL := 3) (ret := (some (.object "Ringtrack$Code"))) (by decide) rfl ?_
  intro p e s m args below meth c s₁ B hml hv
  obtain ⟨rfl, hsz, hP, hK⟩ := hv
  have hx := B.exec
  have hb := B.bytes
  have hr := B.returns
  have hts := atoms_spec (ws := wsX6_codeAt) B.pre
  have hown : s.vm.findClass RX6 = some m.cls := findClass_of_methodNamed B.named
  have hlocks := B.notSynchronized
  subst hsz
  have hi6 : ∀ w ∈ u_ws RX6 TX6 9, w ∈ wsX6_codeAt := by decide +kernel
  have hA : ∀ q : Nat, s.heap.size ≤ q → zq s.heap.size q := fun q h => h
  have hS : va_S (zq s.heap.size) s.heap s.heap [] := va_S.rf
  have hl := lv_entry ([.ref o, .int (nI k)]) (n := 3) (Nat.le_of_ble_eq_true rfl)
  rw [lg_entry_eq]
  generalize (lg_sl ([.ref o, .int (nI k)]) ++ List.replicate (3 - (lg_sl ([.ref o, .int (nI k)])).length) Slot.unset).toArray = ls at hl ⊢
  have hl : lv_has ls 3 [(0, .ref o), (1, .int (nI k))] := hl
  refine lv_iload_n hx hb dX6_codeAt_0 rfl (lv_at hl 1 rfl) ?_
  refine lv_iconst (v := 0) hx hb dX6_codeAt_1 (by decide) ?_
  refine lv_aload_n hx hb dX6_codeAt_2 rfl (lv_at hl 0 rfl) ?_
  refine va_get (D := (dC, dI)) (ci := 6) (v := .int (nI nc)) (C := RX6) (T := TX6) (N := 9) hx hb hts hi6 hown hK hP 0 rfl rfl 3 (by decide) (hts (.fieldLink RX6 61 "Ringtrack" "codeCount" "I") (List.mem_of_getElem? (i := 3) rfl)) (fun _ h9 => h9) rfl dX6_codeAt_3 ?_
  refine lv_iconst (v := 1) hx hb dX6_codeAt_6 (by decide) ?_
  refine lv_isub hx hb dX6_codeAt_7 ?_
  refine va_calli (va_runS (As := [.int (nI k), .int 0, .int ((nI nc) - 1)]) (rest := []) ⟨hx, hb, hml, hown, hts⟩ (k_isWithin l dC dI s.heap.size (nI k) 0 ((nI nc) - 1)) (va_cwS 3 hts gX6_codeAt_X6_isWithin rfl rfl rfl (by decide +kernel) ⟨Nat.le_of_ble_eq_true rfl, Nat.le_of_ble_eq_true rfl⟩) ⟨zfb, zpre (hP.sub (ws' := []) [] rfl) (hK.sub (tys' := []) [] rfl)⟩ rfl rfl hl.1 rfl (lv_room (Nat.le_of_ble_eq_true rfl)) dX6_codeAt_8 ⟨Nat.le_of_ble_eq_true rfl, Nat.le_of_ble_eq_true rfl⟩) hS (fun q h1 h2 => absurd h2 (Nat.not_le.mpr h1)) (fun q h => hA q (Nat.le_trans hS.1 h)) (fun r9 u9 t9 H1 locs ht hvm hw hB hz1 hk1 hS => ?_)
  have hw : r9 = zb (decide ((0 : Int32) ≤ (nI k)) && decide ((nI k) ≤ ((nI nc) - 1))) := hw
  subst hw
  have hP := zr_keep hP hk1
  clear hk1 hz1 hB ht hvm
  refine zt_top (y := 1) (by rw [decide_eq_true (nI_pos' (by omega)), decide_eq_true ((zh_le1 (by omega) (by omega)).mpr hk)]; rfl) ?_
  refine lv_if_eq (tgt := 23) hx hb dX6_codeAt_11 (by decide) (fun c => absurd c (by decide)) (fun c11 => ?_)
  refine lv_aload_n hx hb dX6_codeAt_14 rfl (lv_at hl 0 rfl) ?_
  refine va_get (D := (dC, dI)) (ci := 6) (v := .ref a1) (C := RX6) (T := TX6) (N := 9) hx hb hts hi6 hown hK hP 0 rfl rfl 2 (by decide) (hts (.fieldLink RX6 15 "Ringtrack" "codes" "[LRingtrack$Code;") (List.mem_of_getElem? (i := 4) rfl)) (fun _ h9 => h9) rfl dX6_codeAt_15 ?_
  refine lv_iload_n hx hb dX6_codeAt_18 rfl (lv_at hl 1 rfl) ?_
  refine va_aldq hx hb hK hP 1 1 rfl rfl (vp_in_nI (by omega) (by decide)) dX6_codeAt_19 ?_
  refine zt_topv (y := .ref h0) (by rw [nI_clamp (by omega), had]; rfl) ?_
  refine lv_goto (tgt := 24) hx hb dX6_codeAt_20 (by decide) ?_
  refine lv_astore_n (lv' := [(2, .ref h0), (0, .ref o), (1, .int (nI k))]) hx hb dX6_codeAt_24 rfl hl (by decide) rfl (fun ls hl => ?_)
  refine lv_aload_n hx hb dX6_codeAt_25 rfl (lv_at hl 0 rfl) ?_
  refine lv_ifnonnull (tgt := 40) hx hb dX6_codeAt_26 (by decide) ?_
  refine lv_aload_n hx hb dX6_codeAt_40 rfl (lv_at hl 0 rfl) ?_
  exact W.aret (v := .ref h0) hx hb hr (Or.inl ⟨_, rfl⟩) (Or.inr ⟨_, rfl⟩) (fun t9 ht hW => ⟨⟨(), h0, rfl, trivial, rfl⟩, hS.F ht⟩) hS.2.2 dX6_codeAt_41

set_option maxHeartbeats 4000000 in
set_option maxRecDepth 100000 in
/-- codeAt(k) of a code that isn't there -/
theorem x_codeAt (l : Launch) (dC : Nat → ClassId) (dI : Nat → Nat → Nat) (sz : Nat) (cI cC : ClassId) (o a0 a1 a2 : Nat) (tc : Int32) (nc : Nat) (ad : Nat → Option Nat) (k : Nat) (hfl : l.stackTraces = false) (hk : nc ≤ k) (hk2 : k < 2 ^ 30) : vx_Met l yX6_codeAt wsX6_codeAt ({ frames := 6, cells := 1, slots := 6, locals := 90 }) (va_Pc [.ref o, .int (nI k)] (zPcX (dC, dI) [(o, .inr (6, [.ref a0, .int tc, .ref a1, .int (nI nc), .null, .int 40, .int 48, .int 0, .ref a2])), (a1, .inl (cC, 4, .inr (.inr (.inr (.inr ad)))))] [(cI, .int), (cC, (.object RX0))] sz)) zNoQ (zXC "java/lang/IndexOutOfBoundsException" sz) 1 6 (zq sz) := by
  refine vx_ofW (cc := cX6_codeAt) (maxL := 3) (ret := (some (.object "Ringtrack$Code"))) (by decide) rfl ?_
  intro p e s m args below meth c s₁ B hml hnt hv
  obtain ⟨rfl, hsz, hP, hK, hE⟩ := hv
  have hx := B.exec
  have hb := B.bytes
  have hr := B.returns
  have hts := atoms_spec (ws := wsX6_codeAt) B.pre
  have hown : s.vm.findClass RX6 = some m.cls := findClass_of_methodNamed B.named
  have hlocks := B.notSynchronized
  subst hsz
  have hi6 : ∀ w ∈ u_ws RX6 TX6 9, w ∈ wsX6_codeAt := by decide +kernel
  have hA : ∀ q : Nat, s.heap.size ≤ q → zq s.heap.size q := fun q h => h
  have hS : va_S (zq s.heap.size) s.heap s.heap [] := va_S.rf
  have hl := lv_entry ([.ref o, .int (nI k)]) (n := 3) (Nat.le_of_ble_eq_true rfl)
  rw [lg_entry_eq]
  generalize (lg_sl ([.ref o, .int (nI k)]) ++ List.replicate (3 - (lg_sl ([.ref o, .int (nI k)])).length) Slot.unset).toArray = ls at hl ⊢
  have hl : lv_has ls 3 [(0, .ref o), (1, .int (nI k))] := hl
  refine lv_iload_n hx hb dX6_codeAt_0 rfl (lv_at hl 1 rfl) ?_
  refine lv_iconst (v := 0) hx hb dX6_codeAt_1 (by decide) ?_
  refine lv_aload_n hx hb dX6_codeAt_2 rfl (lv_at hl 0 rfl) ?_
  refine va_get (D := (dC, dI)) (ci := 6) (v := .int (nI nc)) (C := RX6) (T := TX6) (N := 9) hx hb hts hi6 hown hK hP 0 rfl rfl 3 (by decide) (hts (.fieldLink RX6 61 "Ringtrack" "codeCount" "I") (List.mem_of_getElem? (i := 3) rfl)) (fun _ h9 => h9) rfl dX6_codeAt_3 ?_
  refine lv_iconst (v := 1) hx hb dX6_codeAt_6 (by decide) ?_
  refine lv_isub hx hb dX6_codeAt_7 ?_
  refine va_calli (va_runS (As := [.int (nI k), .int 0, .int ((nI nc) - 1)]) (rest := []) ⟨hx, hb, hml, hown, hts⟩ (k_isWithin l dC dI s.heap.size (nI k) 0 ((nI nc) - 1)) (va_cwS 3 hts gX6_codeAt_X6_isWithin rfl rfl rfl (by decide +kernel) ⟨Nat.le_of_ble_eq_true rfl, Nat.le_of_ble_eq_true rfl⟩) ⟨zfb, zpre (hP.sub (ws' := []) [] rfl) (hK.sub (tys' := []) [] rfl)⟩ rfl rfl hl.1 rfl (lv_room (Nat.le_of_ble_eq_true rfl)) dX6_codeAt_8 ⟨Nat.le_of_ble_eq_true rfl, Nat.le_of_ble_eq_true rfl⟩) hS (fun q h1 h2 => absurd h2 (Nat.not_le.mpr h1)) (fun q h => hA q (Nat.le_trans hS.1 h)) (fun r9 u9 t9 H1 locs ht hvm hw hB hz1 hk1 hS => ?_)
  have hw : r9 = zb (decide ((0 : Int32) ≤ (nI k)) && decide ((nI k) ≤ ((nI nc) - 1))) := hw
  subst hw
  have hP := zr_keep hP hk1
  clear hk1 hz1 hB ht hvm
  refine zt_top (y := 0) (by rw [decide_eq_false (fun q => absurd ((zh_le1 hk2 (by omega)).mp q) (by omega)), Bool.and_false]; rfl) ?_
  refine lv_if_eq (tgt := 23) hx hb dX6_codeAt_11 (by decide) (fun c11 => ?_) (fun c => absurd (rfl) c)
  refine lv_null hx hb dX6_codeAt_23 ?_
  refine lv_astore_nN (lv' := [(2, .null), (0, .ref o), (1, .int (nI k))]) hx hb dX6_codeAt_24 rfl hl (by decide) rfl (fun ls hl => ?_)
  refine lv_aload_nN hx hb dX6_codeAt_25 rfl (lv_at hl 0 rfl) ?_
  refine lv_ifnonnullN hx hb dX6_codeAt_26 ?_
  obtain ⟨sa, hsa⟩ := hE.2.1 (387, "no such code") (List.mem_of_getElem? (i := 3) rfl)
  exact vx_throwSW hx hb hfl (own := RX6) (cls := "java/lang/IndexOutOfBoundsException") (names := ["java/lang/RuntimeException", "java/lang/Exception"]) (ik := 271) (is := 387) (ic := 275) (A := zq s.heap.size) hown (by decide) (by decide) (hts (.classLink RX6 271 "java/lang/IndexOutOfBoundsException") (List.mem_of_getElem? (i := 1) rfl)) (hts (.initialized "java/lang/IndexOutOfBoundsException") (List.mem_of_getElem? (i := 2) rfl)) hsa (zg_of (fun w hw => hts w (List.mem_cons_of_mem _ (List.mem_append_right _ hw))) zg_IOB hE.2.2.1) zo_IOB hE.1.1 hE.1.2 hS (hl.1.trans hml.symm) dX6_codeAt_29 dX6_codeAt_32 dX6_codeAt_33 dX6_codeAt_36 dX6_codeAt_39 (fun x hx => (hnt x hx).elim) (Nat.le_of_ble_eq_true rfl) (Nat.le_of_ble_eq_true rfl) (Nat.le_of_ble_eq_true rfl) (Nat.le_of_ble_eq_true rfl) hlocks (z_hx hS) hS.2.2 (Nat.le_of_ble_eq_true rfl) (Nat.le_of_ble_eq_true rfl)

set_option maxHeartbeats 4000000 in
set_option maxRecDepth 100000 in
/-- theDisc() without one -/
theorem x_theDisc (l : Launch) (dC : Nat → ClassId) (dI : Nat → Nat → Nat) (sz : Nat) (cI cC : ClassId) (o a0 a1 a2 : Nat) (tc : Int32) (nc : Nat) (ad : Nat → Option Nat) (hfl : l.stackTraces = false) : vx_Met l yX6_theDisc wsX6_theDisc ({ frames := 6, cells := 1, slots := 6, locals := 90 }) (va_Pc [.ref o] (zPcX (dC, dI) [(o, .inr (6, [.ref a0, .int tc, .ref a1, .int (nI nc), .null, .int 40, .int 48, .int 0, .ref a2]))] [(cI, .int), (cC, (.object RX0))] sz)) zNoQ (zXC "java/lang/UnsupportedOperationException" sz) 1 6 (zq sz) := by
  refine vx_ofW (cc := cX6_theDisc) (maxL := 2) (ret := (some (.object "Ringtrack$Disc"))) (by decide) rfl ?_
  intro p e s m args below meth c s₁ B hml hnt hv
  obtain ⟨rfl, hsz, hP, hK, hE⟩ := hv
  have hx := B.exec
  have hb := B.bytes
  have hr := B.returns
  have hts := atoms_spec (ws := wsX6_theDisc) B.pre
  have hown : s.vm.findClass RX6 = some m.cls := findClass_of_methodNamed B.named
  have hlocks := B.notSynchronized
  subst hsz
  have hi6 : ∀ w ∈ u_ws RX6 TX6 9, w ∈ wsX6_theDisc := by decide +kernel
  have hA : ∀ q : Nat, s.heap.size ≤ q → zq s.heap.size q := fun q h => h
  have hS : va_S (zq s.heap.size) s.heap s.heap [] := va_S.rf
  have hl := lv_entry ([.ref o]) (n := 2) (Nat.le_of_ble_eq_true rfl)
  rw [lg_entry_eq]
  generalize (lg_sl ([.ref o]) ++ List.replicate (2 - (lg_sl ([.ref o])).length) Slot.unset).toArray = ls at hl ⊢
  have hl : lv_has ls 2 [(0, .ref o)] := hl
  refine lv_aload_n hx hb dX6_theDisc_0 rfl (lv_at hl 0 rfl) ?_
  refine va_get (D := (dC, dI)) (ci := 6) (v := .null) (C := RX6) (T := TX6) (N := 9) hx hb hts hi6 hown hK hP 0 rfl rfl 4 (by decide) (hts (.fieldLink RX6 127 "Ringtrack" "disc" "LRingtrack$Disc;") (List.mem_of_getElem? (i := 3) rfl)) (fun _ h9 => h9) rfl dX6_theDisc_1 ?_
  refine lv_astore_nN (lv' := [(1, .null), (0, .ref o)]) hx hb dX6_theDisc_4 rfl hl (by decide) rfl (fun ls hl => ?_)
  refine lv_aload_nN hx hb dX6_theDisc_5 rfl (lv_at hl 0 rfl) ?_
  refine lv_ifnonnullN hx hb dX6_theDisc_6 ?_
  obtain ⟨sa, hsa⟩ := hE.2.1 (389, "there is no disc") (List.mem_of_getElem? (i := 8) rfl)
  exact vx_throwSW hx hb hfl (own := RX6) (cls := "java/lang/UnsupportedOperationException") (names := ["java/lang/RuntimeException", "java/lang/Exception"]) (ik := 56) (is := 389) (ic := 60) (A := zq s.heap.size) hown (by decide) (by decide) (hts (.classLink RX6 56 "java/lang/UnsupportedOperationException") (List.mem_of_getElem? (i := 1) rfl)) (hts (.initialized "java/lang/UnsupportedOperationException") (List.mem_of_getElem? (i := 2) rfl)) hsa (zg_of (fun w hw => hts w (List.mem_cons_of_mem _ (List.mem_append_right _ hw))) zg_UOE hE.2.2.1) zo_UOE hE.1.1 hE.1.2 hS (hl.1.trans hml.symm) dX6_theDisc_9 dX6_theDisc_12 dX6_theDisc_13 dX6_theDisc_16 dX6_theDisc_19 (fun x hx => (hnt x hx).elim) (Nat.le_of_ble_eq_true rfl) (Nat.le_of_ble_eq_true rfl) (Nat.le_of_ble_eq_true rfl) (Nat.le_of_ble_eq_true rfl) hlocks (z_hx hS) hS.2.2 (Nat.le_of_ble_eq_true rfl) (Nat.le_of_ble_eq_true rfl)

set_option maxHeartbeats 4000000 in
set_option maxRecDepth 100000 in
/-- words(k) -/
theorem k_words (l : Launch) (dC : Nat → ClassId) (dI : Nat → Nat → Nat) (sz : Nat) (cI cC : ClassId) (o a0 a1 a2 : Nat) (tc : Int32) (nc : Nat) (ad : Nat → Option Nat) (h0 h1 h2 n T : Nat) (f g : Nat → Int32) (k : Nat) (hk : k < nc) (hc4 : nc ≤ 4) (had : ad k = some h0) : Met l yX6_words wsX6_words ({ frames := 2, cells := 0, slots := 0, locals := 44 }) (va_Pc [.ref o, .int (nI k)] (zPc (dC, dI) [(o, .inr (6, [.ref a0, .int tc, .ref a1, .int (nI nc), .null, .int 40, .int 48, .int 0, .ref a2])), (a1, .inl (cC, 4, .inr (.inr (.inr (.inr ad))))), (h0, .inr (0, [.ref h1, .int (nI T), .ref h2])), (h1, .inl (cI, n, .inl f)), (h2, .inl (cI, 256, .inl g))] [(cI, .int), (cC, (.object RX0))] sz)) (va_Qi (fun (r : Int32) (_ : Unit) => r = nI n) (fun _ _ => True) (zq sz)) 0 0 (zq sz) := by
  refine Met.ofW (cc := cX6_words) (maxL := 2) (ret := (some .int)) (by decide) rfl ?_
  intro p e s m args below meth c s₁ B hml hv
  obtain ⟨rfl, hsz, hP, hK⟩ := hv
  have hx := B.exec
  have hb := B.bytes
  have hr := B.returns
  have hts := atoms_spec (ws := wsX6_words) B.pre
  have hown : s.vm.findClass RX6 = some m.cls := findClass_of_methodNamed B.named
  have hlocks := B.notSynchronized
  subst hsz
  have hi0 : ∀ w ∈ u_ws RX0 TX0 3, w ∈ wsX6_words := by decide +kernel
  have hi6 : ∀ w ∈ u_ws RX6 TX6 9, w ∈ wsX6_words := by decide +kernel
  have hA : ∀ q : Nat, s.heap.size ≤ q → zq s.heap.size q := fun q h => h
  have hS : va_S (zq s.heap.size) s.heap s.heap [] := va_S.rf
  have hl := lv_entry ([.ref o, .int (nI k)]) (n := 2) (Nat.le_of_ble_eq_true rfl)
  rw [lg_entry_eq]
  generalize (lg_sl ([.ref o, .int (nI k)]) ++ List.replicate (2 - (lg_sl ([.ref o, .int (nI k)])).length) Slot.unset).toArray = ls at hl ⊢
  have hl : lv_has ls 2 [(0, .ref o), (1, .int (nI k))] := hl
  refine lv_aload_n hx hb dX6_words_0 rfl (lv_at hl 0 rfl) ?_
  refine lv_iload_n hx hb dX6_words_1 rfl (lv_at hl 1 rfl) ?_
  refine va_callr (va_runV (As := [.int (nI k)]) (rest := []) ⟨hx, hb, hml, hown, hts⟩ (k_codeAt l dC dI s.heap.size cI cC o a0 a1 a2 tc nc ad h0 k hk hc4 had) (cwV 1 hts gX6_words_X6_codeAt rfl rfl rfl (by decide +kernel) ⟨Nat.le_of_ble_eq_true rfl, Nat.le_of_ble_eq_true rfl⟩) ⟨zfb, va_recv hK hP (ci := 6) (q0 := 0) rfl rfl, zpre (hP.sub (ws' := [(o, .inr (6, [.ref a0, .int tc, .ref a1, .int (nI nc), .null, .int 40, .int 48, .int 0, .ref a2])), (a1, .inl (cC, 4, .inr (.inr (.inr (.inr ad)))))]) [0, 1] rfl) (hK.sub (tys' := [(cI, .int), (cC, (.object RX0))]) [0, 1] rfl)⟩ rfl rfl hl.1 rfl (lv_room (Nat.le_of_ble_eq_true rfl)) dX6_words_2 ⟨Nat.le_of_ble_eq_true rfl, Nat.le_of_ble_eq_true rfl⟩) hS (fun q h1 h2 => absurd h2 (Nat.not_le.mpr h1)) (fun q h => hA q (Nat.le_trans hS.1 h)) (fun u9 ra9 t9 H1 locs ht hvm hw hB hz1 hk1 hS => ?_)
  have hB : h0 = ra9 := Eq.symm hB
  subst hB
  have hP := zr_keep hP hk1
  clear hk1 hz1 ht hvm
  refine va_get (D := (dC, dI)) (ci := 0) (v := .ref h1) (C := RX0) (T := TX0) (N := 3) hx hb hts hi0 hown hK hP 2 rfl rfl 0 (by decide) (hts (.fieldLink RX6 82 "Ringtrack$Code" "words" "[I") (List.mem_of_getElem? (i := 1) rfl)) (fun _ h9 => h9) rfl dX6_words_5 ?_
  refine va_alen (v := (nI n)) hx hb hK hP 3 0 rfl rfl rfl dX6_words_8 ?_
  exact W.iret (v := (nI n)) hx hb hr (fun t9 ht hW => ⟨⟨_, (), rfl, rfl, trivial⟩, hS.F ht⟩) hS.2.2 dX6_words_9

set_option maxHeartbeats 4000000 in
set_option maxRecDepth 100000 in
/-- tracks(k) -/
theorem k_tracks (l : Launch) (dC : Nat → ClassId) (dI : Nat → Nat → Nat) (sz : Nat) (cI cC : ClassId) (o a0 a1 a2 : Nat) (tc : Int32) (nc : Nat) (ad : Nat → Option Nat) (h0 h1 h2 n T : Nat) (f g : Nat → Int32) (k : Nat) (hk : k < nc) (hc4 : nc ≤ 4) (had : ad k = some h0) : Met l yX6_tracks wsX6_tracks ({ frames := 2, cells := 0, slots := 0, locals := 44 }) (va_Pc [.ref o, .int (nI k)] (zPc (dC, dI) [(o, .inr (6, [.ref a0, .int tc, .ref a1, .int (nI nc), .null, .int 40, .int 48, .int 0, .ref a2])), (a1, .inl (cC, 4, .inr (.inr (.inr (.inr ad))))), (h0, .inr (0, [.ref h1, .int (nI T), .ref h2])), (h1, .inl (cI, n, .inl f)), (h2, .inl (cI, 256, .inl g))] [(cI, .int), (cC, (.object RX0))] sz)) (va_Qi (fun (r : Int32) (_ : Unit) => r = nI T) (fun _ _ => True) (zq sz)) 0 0 (zq sz) := by
  refine Met.ofW (cc := cX6_tracks) (maxL := 2) (ret := (some .int)) (by decide) rfl ?_
  intro p e s m args below meth c s₁ B hml hv
  obtain ⟨rfl, hsz, hP, hK⟩ := hv
  have hx := B.exec
  have hb := B.bytes
  have hr := B.returns
  have hts := atoms_spec (ws := wsX6_tracks) B.pre
  have hown : s.vm.findClass RX6 = some m.cls := findClass_of_methodNamed B.named
  have hlocks := B.notSynchronized
  subst hsz
  have hi0 : ∀ w ∈ u_ws RX0 TX0 3, w ∈ wsX6_tracks := by decide +kernel
  have hi6 : ∀ w ∈ u_ws RX6 TX6 9, w ∈ wsX6_tracks := by decide +kernel
  have hA : ∀ q : Nat, s.heap.size ≤ q → zq s.heap.size q := fun q h => h
  have hS : va_S (zq s.heap.size) s.heap s.heap [] := va_S.rf
  have hl := lv_entry ([.ref o, .int (nI k)]) (n := 2) (Nat.le_of_ble_eq_true rfl)
  rw [lg_entry_eq]
  generalize (lg_sl ([.ref o, .int (nI k)]) ++ List.replicate (2 - (lg_sl ([.ref o, .int (nI k)])).length) Slot.unset).toArray = ls at hl ⊢
  have hl : lv_has ls 2 [(0, .ref o), (1, .int (nI k))] := hl
  refine lv_aload_n hx hb dX6_tracks_0 rfl (lv_at hl 0 rfl) ?_
  refine lv_iload_n hx hb dX6_tracks_1 rfl (lv_at hl 1 rfl) ?_
  refine va_callr (va_runV (As := [.int (nI k)]) (rest := []) ⟨hx, hb, hml, hown, hts⟩ (k_codeAt l dC dI s.heap.size cI cC o a0 a1 a2 tc nc ad h0 k hk hc4 had) (cwV 1 hts gX6_tracks_X6_codeAt rfl rfl rfl (by decide +kernel) ⟨Nat.le_of_ble_eq_true rfl, Nat.le_of_ble_eq_true rfl⟩) ⟨zfb, va_recv hK hP (ci := 6) (q0 := 0) rfl rfl, zpre (hP.sub (ws' := [(o, .inr (6, [.ref a0, .int tc, .ref a1, .int (nI nc), .null, .int 40, .int 48, .int 0, .ref a2])), (a1, .inl (cC, 4, .inr (.inr (.inr (.inr ad)))))]) [0, 1] rfl) (hK.sub (tys' := [(cI, .int), (cC, (.object RX0))]) [0, 1] rfl)⟩ rfl rfl hl.1 rfl (lv_room (Nat.le_of_ble_eq_true rfl)) dX6_tracks_2 ⟨Nat.le_of_ble_eq_true rfl, Nat.le_of_ble_eq_true rfl⟩) hS (fun q h1 h2 => absurd h2 (Nat.not_le.mpr h1)) (fun q h => hA q (Nat.le_trans hS.1 h)) (fun u9 ra9 t9 H1 locs ht hvm hw hB hz1 hk1 hS => ?_)
  have hB : h0 = ra9 := Eq.symm hB
  subst hB
  have hP := zr_keep hP hk1
  clear hk1 hz1 ht hvm
  refine va_get (D := (dC, dI)) (ci := 0) (v := .int (nI T)) (C := RX0) (T := TX0) (N := 3) hx hb hts hi0 hown hK hP 2 rfl rfl 1 (by decide) (hts (.fieldLink RX6 85 "Ringtrack$Code" "tracks" "I") (List.mem_of_getElem? (i := 1) rfl)) (fun _ h9 => h9) rfl dX6_tracks_5 ?_
  exact W.iret (v := (nI T)) hx hb hr (fun t9 ht hW => ⟨⟨_, (), rfl, rfl, trivial⟩, hS.F ht⟩) hS.2.2 dX6_tracks_8

set_option maxHeartbeats 4000000 in
set_option maxRecDepth 100000 in
/-- words(k) of a code that isn't there -/
theorem x_words (l : Launch) (dC : Nat → ClassId) (dI : Nat → Nat → Nat) (sz : Nat) (cI cC : ClassId) (o a0 a1 a2 : Nat) (tc : Int32) (nc : Nat) (ad : Nat → Option Nat) (k : Nat) (hfl : l.stackTraces = false) (hk : nc ≤ k) (hk2 : k < 2 ^ 30) : vx_Met l yX6_words wsX6_words ({ frames := 7, cells := 1, slots := 6, locals := 112 }) (va_Pc [.ref o, .int (nI k)] (zPcX (dC, dI) [(o, .inr (6, [.ref a0, .int tc, .ref a1, .int (nI nc), .null, .int 40, .int 48, .int 0, .ref a2])), (a1, .inl (cC, 4, .inr (.inr (.inr (.inr ad)))))] [(cI, .int), (cC, (.object RX0))] sz)) zNoQ (zXC "java/lang/IndexOutOfBoundsException" sz) 1 6 (zq sz) := by
  refine vx_ofW (cc := cX6_words) (maxL := 2) (ret := (some .int)) (by decide) rfl ?_
  intro p e s m args below meth c s₁ B hml hnt hv
  obtain ⟨rfl, hsz, hP, hK, hE⟩ := hv
  have hx := B.exec
  have hb := B.bytes
  have hr := B.returns
  have hts := atoms_spec (ws := wsX6_words) B.pre
  have hown : s.vm.findClass RX6 = some m.cls := findClass_of_methodNamed B.named
  have hlocks := B.notSynchronized
  subst hsz
  have hi6 : ∀ w ∈ u_ws RX6 TX6 9, w ∈ wsX6_words := by decide +kernel
  have hA : ∀ q : Nat, s.heap.size ≤ q → zq s.heap.size q := fun q h => h
  have hS : va_S (zq s.heap.size) s.heap s.heap [] := va_S.rf
  have hl := lv_entry ([.ref o, .int (nI k)]) (n := 2) (Nat.le_of_ble_eq_true rfl)
  rw [lg_entry_eq]
  generalize (lg_sl ([.ref o, .int (nI k)]) ++ List.replicate (2 - (lg_sl ([.ref o, .int (nI k)])).length) Slot.unset).toArray = ls at hl ⊢
  have hl : lv_has ls 2 [(0, .ref o), (1, .int (nI k))] := hl
  refine lv_aload_n hx hb dX6_words_0 rfl (lv_at hl 0 rfl) ?_
  refine lv_iload_n hx hb dX6_words_1 rfl (lv_at hl 1 rfl) ?_
  refine z_callx (vx_runV (As := [.int (nI k)]) (rest := []) ⟨hx, hb, hml, hown, hts⟩ (x_codeAt l dC dI s.heap.size cI cC o a0 a1 a2 tc nc ad k hfl hk hk2) (cwV 1 hts gX6_words_X6_codeAt rfl rfl rfl (by decide +kernel) ⟨Nat.le_of_ble_eq_true rfl, Nat.le_of_ble_eq_true rfl⟩) ⟨zfbX, va_recv hK hP (ci := 6) (q0 := 0) rfl rfl, zpreX (hP.sub (ws' := [(o, .inr (6, [.ref a0, .int tc, .ref a1, .int (nI nc), .null, .int 40, .int 48, .int 0, .ref a2])), (a1, .inl (cC, 4, .inr (.inr (.inr (.inr ad)))))]) [0, 1] rfl) (hK.sub (tys' := [(cI, .int), (cC, (.object RX0))]) [0, 1] rfl) hE hS hA⟩ rfl rfl hl.1 rfl (lv_room (Nat.le_of_ble_eq_true rfl)) dX6_words_2 ⟨Nat.le_of_ble_eq_true rfl, Nat.le_of_ble_eq_true rfl⟩) hS hA (fun ce q9 H1 locs hz1 hk1 hS hce hcv hcl => ?_)
  exact z_out hnt hlocks hce hcv hcl hS (Nat.le_of_ble_eq_true rfl) (Nat.le_of_ble_eq_true rfl)

set_option maxHeartbeats 4000000 in
set_option maxRecDepth 100000 in
/-- word(k, j) -/
theorem k_word (l : Launch) (dC : Nat → ClassId) (dI : Nat → Nat → Nat) (sz : Nat) (cI cC : ClassId) (o a0 a1 a2 : Nat) (tc : Int32) (nc : Nat) (ad : Nat → Option Nat) (h0 h1 h2 n T : Nat) (f g : Nat → Int32) (k j : Nat) (hk : k < nc) (hc4 : nc ≤ 4) (had : ad k = some h0) (hjn : j < n) (hn : n < 2 ^ 31) : Met l yX6_word wsX6_word ({ frames := 2, cells := 0, slots := 0, locals := 44 }) (va_Pc [.ref o, .int (nI k), .int (nI j)] (zPc (dC, dI) [(o, .inr (6, [.ref a0, .int tc, .ref a1, .int (nI nc), .null, .int 40, .int 48, .int 0, .ref a2])), (a1, .inl (cC, 4, .inr (.inr (.inr (.inr ad))))), (h0, .inr (0, [.ref h1, .int (nI T), .ref h2])), (h1, .inl (cI, n, .inl f)), (h2, .inl (cI, 256, .inl g))] [(cI, .int), (cC, (.object RX0))] sz)) (va_Qi (fun (r : Int32) (_ : Unit) => r = f j) (fun _ _ => True) (zq sz)) 0 0 (zq sz) := by
  refine Met.ofW (cc := cX6_word) (maxL := 4) (ret := (some .int)) (by decide) rfl ?_
  intro p e s m args below meth c s₁ B hml hv
  obtain ⟨rfl, hsz, hP, hK⟩ := hv
  have hx := B.exec
  have hb := B.bytes
  have hr := B.returns
  have hts := atoms_spec (ws := wsX6_word) B.pre
  have hown : s.vm.findClass RX6 = some m.cls := findClass_of_methodNamed B.named
  have hlocks := B.notSynchronized
  subst hsz
  have hi0 : ∀ w ∈ u_ws RX0 TX0 3, w ∈ wsX6_word := by decide +kernel
  have hi6 : ∀ w ∈ u_ws RX6 TX6 9, w ∈ wsX6_word := by decide +kernel
  have hA : ∀ q : Nat, s.heap.size ≤ q → zq s.heap.size q := fun q h => h
  have hS : va_S (zq s.heap.size) s.heap s.heap [] := va_S.rf
  have hl := lv_entry ([.ref o, .int (nI k), .int (nI j)]) (n := 4) (Nat.le_of_ble_eq_true rfl)
  rw [lg_entry_eq]
  generalize (lg_sl ([.ref o, .int (nI k), .int (nI j)]) ++ List.replicate (4 - (lg_sl ([.ref o, .int (nI k), .int (nI j)])).length) Slot.unset).toArray = ls at hl ⊢
  have hl : lv_has ls 4 [(0, .ref o), (1, .int (nI k)), (2, .int (nI j))] := hl
  have hj : j < 2 ^ 31 := by omega
  refine lv_aload_n hx hb dX6_word_0 rfl (lv_at hl 0 rfl) ?_
  refine lv_iload_n hx hb dX6_word_1 rfl (lv_at hl 1 rfl) ?_
  refine va_callr (va_runV (As := [.int (nI k)]) (rest := []) ⟨hx, hb, hml, hown, hts⟩ (k_codeAt l dC dI s.heap.size cI cC o a0 a1 a2 tc nc ad h0 k hk hc4 had) (cwV 1 hts gX6_word_X6_codeAt rfl rfl rfl (by decide +kernel) ⟨Nat.le_of_ble_eq_true rfl, Nat.le_of_ble_eq_true rfl⟩) ⟨zfb, va_recv hK hP (ci := 6) (q0 := 0) rfl rfl, zpre (hP.sub (ws' := [(o, .inr (6, [.ref a0, .int tc, .ref a1, .int (nI nc), .null, .int 40, .int 48, .int 0, .ref a2])), (a1, .inl (cC, 4, .inr (.inr (.inr (.inr ad)))))]) [0, 1] rfl) (hK.sub (tys' := [(cI, .int), (cC, (.object RX0))]) [0, 1] rfl)⟩ rfl rfl hl.1 rfl (lv_room (Nat.le_of_ble_eq_true rfl)) dX6_word_2 ⟨Nat.le_of_ble_eq_true rfl, Nat.le_of_ble_eq_true rfl⟩) hS (fun q h1 h2 => absurd h2 (Nat.not_le.mpr h1)) (fun q h => hA q (Nat.le_trans hS.1 h)) (fun u9 ra9 t9 H1 locs ht hvm hw hB hz1 hk1 hS => ?_)
  have hB : h0 = ra9 := Eq.symm hB
  subst hB
  have hP := zr_keep hP hk1
  clear hk1 hz1 ht hvm
  refine lv_astore_n (lv' := [(3, .ref h0), (0, .ref o), (1, .int (nI k)), (2, .int (nI j))]) hx hb dX6_word_5 rfl hl (by decide) rfl (fun ls hl => ?_)
  refine lv_aload_n hx hb dX6_word_6 rfl (lv_at hl 0 rfl) ?_
  refine lv_iload_n hx hb dX6_word_7 rfl (lv_at hl 3 rfl) ?_
  refine va_calli (va_runV (As := [.int (nI j)]) (rest := []) ⟨hx, hb, hml, hown, hts⟩ (k_hasPlace l dC dI H1.size cI h0 h1 h2 n T f g j hj hn) (cwV 1 hts gX6_word_X0_hasPlace rfl rfl rfl (by decide +kernel) ⟨Nat.le_of_ble_eq_true rfl, Nat.le_of_ble_eq_true rfl⟩) ⟨zfb, va_recv hK hP (ci := 0) (q0 := 2) rfl rfl, zpre (hP.sub (ws' := [(h0, .inr (0, [.ref h1, .int (nI T), .ref h2])), (h1, .inl (cI, n, .inl f)), (h2, .inl (cI, 256, .inl g))]) [2, 3, 4] rfl) (hK.sub (tys' := [(cI, .int)]) [0] rfl)⟩ rfl rfl hl.1 rfl (lv_room (Nat.le_of_ble_eq_true rfl)) dX6_word_8 ⟨Nat.le_of_ble_eq_true rfl, Nat.le_of_ble_eq_true rfl⟩) hS (fun q h1 h2 => absurd h2 (Nat.not_le.mpr h1)) (fun q h => hA q (Nat.le_trans hS.1 h)) (fun r9 u9 t9 H1 locs ht hvm hw hB hz1 hk1 hS => ?_)
  have hw : r9 = zb (decide (j < n)) := hw
  subst hw
  have hP := zr_keep hP hk1
  clear hk1 hz1 hB ht hvm
  refine zt_top (y := 1) (by rw [decide_eq_true hjn]; rfl) ?_
  refine lv_if_ne (tgt := 24) hx hb dX6_word_11 (by decide) (fun c11 => ?_) (fun c => absurd c (by decide))
  refine lv_aload_n hx hb dX6_word_24 rfl (lv_at hl 0 rfl) ?_
  refine lv_iload_n hx hb dX6_word_25 rfl (lv_at hl 3 rfl) ?_
  refine va_calli (va_runV (As := [.int (nI j)]) (rest := []) ⟨hx, hb, hml, hown, hts⟩ (k_wordAt l dC dI H1.size cI h0 h1 h2 n T f g j hjn hn) (cwV 1 hts gX6_word_X0_wordAt rfl rfl rfl (by decide +kernel) ⟨Nat.le_of_ble_eq_true rfl, Nat.le_of_ble_eq_true rfl⟩) ⟨zfb, va_recv hK hP (ci := 0) (q0 := 2) rfl rfl, zpre (hP.sub (ws' := [(h0, .inr (0, [.ref h1, .int (nI T), .ref h2])), (h1, .inl (cI, n, .inl f)), (h2, .inl (cI, 256, .inl g))]) [2, 3, 4] rfl) (hK.sub (tys' := [(cI, .int)]) [0] rfl)⟩ rfl rfl hl.1 rfl (lv_room (Nat.le_of_ble_eq_true rfl)) dX6_word_26 ⟨Nat.le_of_ble_eq_true rfl, Nat.le_of_ble_eq_true rfl⟩) hS (fun q h1 h2 => absurd h2 (Nat.not_le.mpr h1)) (fun q h => hA q (Nat.le_trans hS.1 h)) (fun r9 u9 t9 H1 locs ht hvm hw hB hz1 hk1 hS => ?_)
  have hw : r9 = f j := hw
  subst hw
  have hP := zr_keep hP hk1
  clear hk1 hz1 hB ht hvm
  exact W.iret (v := (f j)) hx hb hr (fun t9 ht hW => ⟨⟨_, (), rfl, rfl, trivial⟩, hS.F ht⟩) hS.2.2 dX6_word_29

set_option maxHeartbeats 4000000 in
set_option maxRecDepth 100000 in
/-- word(k, j) behind the last place -/
theorem x_word (l : Launch) (dC : Nat → ClassId) (dI : Nat → Nat → Nat) (sz : Nat) (cI cC : ClassId) (o a0 a1 a2 : Nat) (tc : Int32) (nc : Nat) (ad : Nat → Option Nat) (h0 h1 h2 n T : Nat) (f g : Nat → Int32) (k j : Nat) (hfl : l.stackTraces = false) (hk : k < nc) (hc4 : nc ≤ 4) (had : ad k = some h0) (hjn : n ≤ j) (hj : j < 2 ^ 31) : vx_Met l yX6_word wsX6_word ({ frames := 6, cells := 1, slots := 6, locals := 90 }) (va_Pc [.ref o, .int (nI k), .int (nI j)] (zPcX (dC, dI) [(o, .inr (6, [.ref a0, .int tc, .ref a1, .int (nI nc), .null, .int 40, .int 48, .int 0, .ref a2])), (a1, .inl (cC, 4, .inr (.inr (.inr (.inr ad))))), (h0, .inr (0, [.ref h1, .int (nI T), .ref h2])), (h1, .inl (cI, n, .inl f)), (h2, .inl (cI, 256, .inl g))] [(cI, .int), (cC, (.object RX0))] sz)) zNoQ (zXC "java/lang/IllegalArgumentException" sz) 1 6 (zq sz) := by
  refine vx_ofW (cc := cX6_word) (maxL := 4) (ret := (some .int)) (by decide) rfl ?_
  intro p e s m args below meth c s₁ B hml hnt hv
  obtain ⟨rfl, hsz, hP, hK, hE⟩ := hv
  have hx := B.exec
  have hb := B.bytes
  have hr := B.returns
  have hts := atoms_spec (ws := wsX6_word) B.pre
  have hown : s.vm.findClass RX6 = some m.cls := findClass_of_methodNamed B.named
  have hlocks := B.notSynchronized
  subst hsz
  have hi0 : ∀ w ∈ u_ws RX0 TX0 3, w ∈ wsX6_word := by decide +kernel
  have hi6 : ∀ w ∈ u_ws RX6 TX6 9, w ∈ wsX6_word := by decide +kernel
  have hA : ∀ q : Nat, s.heap.size ≤ q → zq s.heap.size q := fun q h => h
  have hS : va_S (zq s.heap.size) s.heap s.heap [] := va_S.rf
  have hl := lv_entry ([.ref o, .int (nI k), .int (nI j)]) (n := 4) (Nat.le_of_ble_eq_true rfl)
  rw [lg_entry_eq]
  generalize (lg_sl ([.ref o, .int (nI k), .int (nI j)]) ++ List.replicate (4 - (lg_sl ([.ref o, .int (nI k), .int (nI j)])).length) Slot.unset).toArray = ls at hl ⊢
  have hl : lv_has ls 4 [(0, .ref o), (1, .int (nI k)), (2, .int (nI j))] := hl
  have hn : n < 2 ^ 31 := by omega
  refine lv_aload_n hx hb dX6_word_0 rfl (lv_at hl 0 rfl) ?_
  refine lv_iload_n hx hb dX6_word_1 rfl (lv_at hl 1 rfl) ?_
  refine va_callr (va_runV (As := [.int (nI k)]) (rest := []) ⟨hx, hb, hml, hown, hts⟩ (k_codeAt l dC dI s.heap.size cI cC o a0 a1 a2 tc nc ad h0 k hk hc4 had) (cwV 1 hts gX6_word_X6_codeAt rfl rfl rfl (by decide +kernel) ⟨Nat.le_of_ble_eq_true rfl, Nat.le_of_ble_eq_true rfl⟩) ⟨zfb, va_recv hK hP (ci := 6) (q0 := 0) rfl rfl, zpre (hP.sub (ws' := [(o, .inr (6, [.ref a0, .int tc, .ref a1, .int (nI nc), .null, .int 40, .int 48, .int 0, .ref a2])), (a1, .inl (cC, 4, .inr (.inr (.inr (.inr ad)))))]) [0, 1] rfl) (hK.sub (tys' := [(cI, .int), (cC, (.object RX0))]) [0, 1] rfl)⟩ rfl rfl hl.1 rfl (lv_room (Nat.le_of_ble_eq_true rfl)) dX6_word_2 ⟨Nat.le_of_ble_eq_true rfl, Nat.le_of_ble_eq_true rfl⟩) hS (fun q h1 h2 => absurd h2 (Nat.not_le.mpr h1)) (fun q h => hA q (Nat.le_trans hS.1 h)) (fun u9 ra9 t9 H1 locs ht hvm hw hB hz1 hk1 hS => ?_)
  have hB : h0 = ra9 := Eq.symm hB
  subst hB
  have hP := zr_keep hP hk1
  clear hk1 hz1 ht hvm
  refine lv_astore_n (lv' := [(3, .ref h0), (0, .ref o), (1, .int (nI k)), (2, .int (nI j))]) hx hb dX6_word_5 rfl hl (by decide) rfl (fun ls hl => ?_)
  refine lv_aload_n hx hb dX6_word_6 rfl (lv_at hl 0 rfl) ?_
  refine lv_iload_n hx hb dX6_word_7 rfl (lv_at hl 3 rfl) ?_
  refine va_calli (va_runV (As := [.int (nI j)]) (rest := []) ⟨hx, hb, hml, hown, hts⟩ (k_hasPlace l dC dI H1.size cI h0 h1 h2 n T f g j hj hn) (cwV 1 hts gX6_word_X0_hasPlace rfl rfl rfl (by decide +kernel) ⟨Nat.le_of_ble_eq_true rfl, Nat.le_of_ble_eq_true rfl⟩) ⟨zfb, va_recv hK hP (ci := 0) (q0 := 2) rfl rfl, zpre (hP.sub (ws' := [(h0, .inr (0, [.ref h1, .int (nI T), .ref h2])), (h1, .inl (cI, n, .inl f)), (h2, .inl (cI, 256, .inl g))]) [2, 3, 4] rfl) (hK.sub (tys' := [(cI, .int)]) [0] rfl)⟩ rfl rfl hl.1 rfl (lv_room (Nat.le_of_ble_eq_true rfl)) dX6_word_8 ⟨Nat.le_of_ble_eq_true rfl, Nat.le_of_ble_eq_true rfl⟩) hS (fun q h1 h2 => absurd h2 (Nat.not_le.mpr h1)) (fun q h => hA q (Nat.le_trans hS.1 h)) (fun r9 u9 t9 H1 locs ht hvm hw hB hz1 hk1 hS => ?_)
  have hw : r9 = zb (decide (j < n)) := hw
  subst hw
  have hP := zr_keep hP hk1
  clear hk1 hz1 hB ht hvm
  refine zt_top (y := 0) (by rw [decide_eq_false (Nat.not_lt.mpr hjn)]; rfl) ?_
  refine lv_if_ne (tgt := 24) hx hb dX6_word_11 (by decide) (fun c => absurd c (fun q => q rfl)) (fun c11 => ?_)
  obtain ⟨sa, hsa⟩ := hE.2.1 (92, "no such place") (List.mem_of_getElem? (i := 4) rfl)
  exact vx_throwS hx hb hfl (own := RX6) (cls := "java/lang/IllegalArgumentException") (names := ["java/lang/RuntimeException", "java/lang/Exception"]) (ik := 37) (is := 92) (ic := 41) (A := zq s.heap.size) hown (by decide) (by decide) (hts (.classLink RX6 37 "java/lang/IllegalArgumentException") (List.mem_of_getElem? (i := 1) rfl)) (hts (.initialized "java/lang/IllegalArgumentException") (List.mem_of_getElem? (i := 2) rfl)) hsa (zg_of (fun w hw => hts w (List.mem_cons_of_mem _ (List.mem_append_left _ (List.mem_append_right _ hw)))) zg_IAE hE.2.2.1) zo_IAE hE.1.1 hE.1.2 hS (hl.1.trans hml.symm) dX6_word_14 dX6_word_17 dX6_word_18 dX6_word_20 dX6_word_23 (fun x hx => (hnt x hx).elim) (Nat.le_of_ble_eq_true rfl) (Nat.le_of_ble_eq_true rfl) (Nat.le_of_ble_eq_true rfl) (Nat.le_of_ble_eq_true rfl) hlocks (z_hx hS) hS.2.2 (Nat.le_of_ble_eq_true rfl) (Nat.le_of_ble_eq_true rfl)

set_option maxHeartbeats 4000000 in
set_option maxRecDepth 100000 in
/-- place(k, j) of a word that is there -/
theorem k_place (l : Launch) (dC : Nat → ClassId) (dI : Nat → Nat → Nat) (sz : Nat) (cI cC : ClassId) (o a0 a1 a2 : Nat) (tc : Int32) (nc : Nat) (ad : Nat → Option Nat) (h0 h1 h2 n T : Nat) (f g : Nat → Int32) (k j : Nat) (hk : k < nc) (hc4 : nc ≤ 4) (had : ad k = some h0) (hj : j < 256) (hg : ¬ g j = -1) : Met l yX6_place wsX6_place ({ frames := 2, cells := 0, slots := 0, locals := 44 }) (va_Pc [.ref o, .int (nI k), .int (nI j)] (zPc (dC, dI) [(o, .inr (6, [.ref a0, .int tc, .ref a1, .int (nI nc), .null, .int 40, .int 48, .int 0, .ref a2])), (a1, .inl (cC, 4, .inr (.inr (.inr (.inr ad))))), (h0, .inr (0, [.ref h1, .int (nI T), .ref h2])), (h1, .inl (cI, n, .inl f)), (h2, .inl (cI, 256, .inl g))] [(cI, .int), (cC, (.object RX0))] sz)) (va_Qi (fun (r : Int32) (_ : Unit) => r = g j) (fun _ _ => True) (zq sz)) 0 0 (zq sz) := by
  refine Met.ofW (cc := cX6_place) (maxL := 5) (ret := (some .int)) (by decide) rfl ?_
  intro p e s m args below meth c s₁ B hml hv
  obtain ⟨rfl, hsz, hP, hK⟩ := hv
  have hx := B.exec
  have hb := B.bytes
  have hr := B.returns
  have hts := atoms_spec (ws := wsX6_place) B.pre
  have hown : s.vm.findClass RX6 = some m.cls := findClass_of_methodNamed B.named
  have hlocks := B.notSynchronized
  subst hsz
  have hi0 : ∀ w ∈ u_ws RX0 TX0 3, w ∈ wsX6_place := by decide +kernel
  have hi6 : ∀ w ∈ u_ws RX6 TX6 9, w ∈ wsX6_place := by decide +kernel
  have hA : ∀ q : Nat, s.heap.size ≤ q → zq s.heap.size q := fun q h => h
  have hS : va_S (zq s.heap.size) s.heap s.heap [] := va_S.rf
  have hl := lv_entry ([.ref o, .int (nI k), .int (nI j)]) (n := 5) (Nat.le_of_ble_eq_true rfl)
  rw [lg_entry_eq]
  generalize (lg_sl ([.ref o, .int (nI k), .int (nI j)]) ++ List.replicate (5 - (lg_sl ([.ref o, .int (nI k), .int (nI j)])).length) Slot.unset).toArray = ls at hl ⊢
  have hl : lv_has ls 5 [(0, .ref o), (1, .int (nI k)), (2, .int (nI j))] := hl
  refine lv_aload_n hx hb dX6_place_0 rfl (lv_at hl 0 rfl) ?_
  refine lv_iload_n hx hb dX6_place_1 rfl (lv_at hl 1 rfl) ?_
  refine va_callr (va_runV (As := [.int (nI k)]) (rest := []) ⟨hx, hb, hml, hown, hts⟩ (k_codeAt l dC dI s.heap.size cI cC o a0 a1 a2 tc nc ad h0 k hk hc4 had) (cwV 1 hts gX6_place_X6_codeAt rfl rfl rfl (by decide +kernel) ⟨Nat.le_of_ble_eq_true rfl, Nat.le_of_ble_eq_true rfl⟩) ⟨zfb, va_recv hK hP (ci := 6) (q0 := 0) rfl rfl, zpre (hP.sub (ws' := [(o, .inr (6, [.ref a0, .int tc, .ref a1, .int (nI nc), .null, .int 40, .int 48, .int 0, .ref a2])), (a1, .inl (cC, 4, .inr (.inr (.inr (.inr ad)))))]) [0, 1] rfl) (hK.sub (tys' := [(cI, .int), (cC, (.object RX0))]) [0, 1] rfl)⟩ rfl rfl hl.1 rfl (lv_room (Nat.le_of_ble_eq_true rfl)) dX6_place_2 ⟨Nat.le_of_ble_eq_true rfl, Nat.le_of_ble_eq_true rfl⟩) hS (fun q h1 h2 => absurd h2 (Nat.not_le.mpr h1)) (fun q h => hA q (Nat.le_trans hS.1 h)) (fun u9 ra9 t9 H1 locs ht hvm hw hB hz1 hk1 hS => ?_)
  have hB : h0 = ra9 := Eq.symm hB
  subst hB
  have hP := zr_keep hP hk1
  clear hk1 hz1 ht hvm
  refine lv_astore_n (lv' := [(3, .ref h0), (0, .ref o), (1, .int (nI k)), (2, .int (nI j))]) hx hb dX6_place_5 rfl hl (by decide) rfl (fun ls hl => ?_)
  refine lv_iload_n hx hb dX6_place_6 rfl (lv_at hl 3 rfl) ?_
  refine lv_iconst (v := 0) hx hb dX6_place_7 (by decide) ?_
  refine lv_sipush (v := 255) hx hb dX6_place_8 (by decide) ?_
  refine va_calli (va_runS (As := [.int (nI j), .int 0, .int 255]) (rest := []) ⟨hx, hb, hml, hown, hts⟩ (k_isWithin l dC dI H1.size (nI j) 0 255) (va_cwS 3 hts gX6_place_X6_isWithin rfl rfl rfl (by decide +kernel) ⟨Nat.le_of_ble_eq_true rfl, Nat.le_of_ble_eq_true rfl⟩) ⟨zfb, zpre (hP.sub (ws' := []) [] rfl) (hK.sub (tys' := []) [] rfl)⟩ rfl rfl hl.1 rfl (lv_room (Nat.le_of_ble_eq_true rfl)) dX6_place_11 ⟨Nat.le_of_ble_eq_true rfl, Nat.le_of_ble_eq_true rfl⟩) hS (fun q h1 h2 => absurd h2 (Nat.not_le.mpr h1)) (fun q h => hA q (Nat.le_trans hS.1 h)) (fun r9 u9 t9 H1 locs ht hvm hw hB hz1 hk1 hS => ?_)
  have hw : r9 = zb (decide ((0 : Int32) ≤ (nI j)) && decide ((nI j) ≤ 255)) := hw
  subst hw
  have hP := zr_keep hP hk1
  clear hk1 hz1 hB ht hvm
  refine zt_top (y := 1) (by rw [decide_eq_true (nI_pos' (by omega)), decide_eq_true (show nI j ≤ (255 : Int32) from nI_le (b := 255) (by omega) (by decide))]; rfl) ?_
  refine lv_if_ne (tgt := 27) hx hb dX6_place_14 (by decide) (fun c14 => ?_) (fun c => absurd c (by decide))
  refine lv_aload_n hx hb dX6_place_27 rfl (lv_at hl 0 rfl) ?_
  refine lv_iload_n hx hb dX6_place_28 rfl (lv_at hl 3 rfl) ?_
  refine va_calli (va_runV (As := [.int (nI j)]) (rest := []) ⟨hx, hb, hml, hown, hts⟩ (k_placeOf l dC dI H1.size cI h0 h1 h2 n T f g j hj) (cwV 1 hts gX6_place_X0_placeOf rfl rfl rfl (by decide +kernel) ⟨Nat.le_of_ble_eq_true rfl, Nat.le_of_ble_eq_true rfl⟩) ⟨zfb, va_recv hK hP (ci := 0) (q0 := 2) rfl rfl, zpre (hP.sub (ws' := [(h0, .inr (0, [.ref h1, .int (nI T), .ref h2])), (h1, .inl (cI, n, .inl f)), (h2, .inl (cI, 256, .inl g))]) [2, 3, 4] rfl) (hK.sub (tys' := [(cI, .int)]) [0] rfl)⟩ rfl rfl hl.1 rfl (lv_room (Nat.le_of_ble_eq_true rfl)) dX6_place_29 ⟨Nat.le_of_ble_eq_true rfl, Nat.le_of_ble_eq_true rfl⟩) hS (fun q h1 h2 => absurd h2 (Nat.not_le.mpr h1)) (fun q h => hA q (Nat.le_trans hS.1 h)) (fun r9 u9 t9 H1 locs ht hvm hw hB hz1 hk1 hS => ?_)
  have hw : r9 = g j := hw
  subst hw
  have hP := zr_keep hP hk1
  clear hk1 hz1 hB ht hvm
  refine lv_istore (lv' := [(4, .int (g j)), (3, .ref h0), (0, .ref o), (1, .int (nI k)), (2, .int (nI j))]) hx hb dX6_place_32 hl (by decide) rfl (fun ls hl => ?_)
  refine lv_iload hx hb dX6_place_34 (lv_at hl 0 rfl) ?_
  refine lv_iconst (v := (-1)) hx hb dX6_place_36 (by decide) ?_
  refine lv_icmp_ne (tgt := 50) hx hb dX6_place_37 (by decide) (fun c37 => ?_) (fun c => absurd c (hg))
  refine lv_iload hx hb dX6_place_50 (lv_at hl 0 rfl) ?_
  exact W.iret (v := (g j)) hx hb hr (fun t9 ht hW => ⟨⟨_, (), rfl, rfl, trivial⟩, hS.F ht⟩) hS.2.2 dX6_place_52

set_option maxHeartbeats 4000000 in
set_option maxRecDepth 100000 in
/-- place(k, j) of a code that isn't there -/
theorem x_place (l : Launch) (dC : Nat → ClassId) (dI : Nat → Nat → Nat) (sz : Nat) (cI cC : ClassId) (o a0 a1 a2 : Nat) (tc : Int32) (nc : Nat) (ad : Nat → Option Nat) (k : Nat) (w : Int32) (hfl : l.stackTraces = false) (hk : nc ≤ k) (hk2 : k < 2 ^ 30) : vx_Met l yX6_place wsX6_place ({ frames := 7, cells := 1, slots := 6, locals := 112 }) (va_Pc [.ref o, .int (nI k), .int w] (zPcX (dC, dI) [(o, .inr (6, [.ref a0, .int tc, .ref a1, .int (nI nc), .null, .int 40, .int 48, .int 0, .ref a2])), (a1, .inl (cC, 4, .inr (.inr (.inr (.inr ad)))))] [(cI, .int), (cC, (.object RX0))] sz)) zNoQ (zXC "java/lang/IndexOutOfBoundsException" sz) 1 6 (zq sz) := by
  refine vx_ofW (cc := cX6_place) (maxL := 5) (ret := (some .int)) (by decide) rfl ?_
  intro p e s m args below meth c s₁ B hml hnt hv
  obtain ⟨rfl, hsz, hP, hK, hE⟩ := hv
  have hx := B.exec
  have hb := B.bytes
  have hr := B.returns
  have hts := atoms_spec (ws := wsX6_place) B.pre
  have hown : s.vm.findClass RX6 = some m.cls := findClass_of_methodNamed B.named
  have hlocks := B.notSynchronized
  subst hsz
  have hi6 : ∀ w ∈ u_ws RX6 TX6 9, w ∈ wsX6_place := by decide +kernel
  have hA : ∀ q : Nat, s.heap.size ≤ q → zq s.heap.size q := fun q h => h
  have hS : va_S (zq s.heap.size) s.heap s.heap [] := va_S.rf
  have hl := lv_entry ([.ref o, .int (nI k), .int w]) (n := 5) (Nat.le_of_ble_eq_true rfl)
  rw [lg_entry_eq]
  generalize (lg_sl ([.ref o, .int (nI k), .int w]) ++ List.replicate (5 - (lg_sl ([.ref o, .int (nI k), .int w])).length) Slot.unset).toArray = ls at hl ⊢
  have hl : lv_has ls 5 [(0, .ref o), (1, .int (nI k)), (2, .int w)] := hl
  refine lv_aload_n hx hb dX6_place_0 rfl (lv_at hl 0 rfl) ?_
  refine lv_iload_n hx hb dX6_place_1 rfl (lv_at hl 1 rfl) ?_
  refine z_callx (vx_runV (As := [.int (nI k)]) (rest := []) ⟨hx, hb, hml, hown, hts⟩ (x_codeAt l dC dI s.heap.size cI cC o a0 a1 a2 tc nc ad k hfl hk hk2) (cwV 1 hts gX6_place_X6_codeAt rfl rfl rfl (by decide +kernel) ⟨Nat.le_of_ble_eq_true rfl, Nat.le_of_ble_eq_true rfl⟩) ⟨zfbX, va_recv hK hP (ci := 6) (q0 := 0) rfl rfl, zpreX (hP.sub (ws' := [(o, .inr (6, [.ref a0, .int tc, .ref a1, .int (nI nc), .null, .int 40, .int 48, .int 0, .ref a2])), (a1, .inl (cC, 4, .inr (.inr (.inr (.inr ad)))))]) [0, 1] rfl) (hK.sub (tys' := [(cI, .int), (cC, (.object RX0))]) [0, 1] rfl) hE hS hA⟩ rfl rfl hl.1 rfl (lv_room (Nat.le_of_ble_eq_true rfl)) dX6_place_2 ⟨Nat.le_of_ble_eq_true rfl, Nat.le_of_ble_eq_true rfl⟩) hS hA (fun ce q9 H1 locs hz1 hk1 hS hce hcv hcl => ?_)
  exact z_out hnt hlocks hce hcv hcl hS (Nat.le_of_ble_eq_true rfl) (Nat.le_of_ble_eq_true rfl)

set_option maxHeartbeats 4000000 in
set_option maxRecDepth 100000 in
/-- changes(k, t) -/
theorem k_changes (l : Launch) (dC : Nat → ClassId) (dI : Nat → Nat → Nat) (sz : Nat) (cI cC : ClassId) (o a0 a1 a2 : Nat) (tc : Int32) (nc : Nat) (ad : Nat → Option Nat) (h0 h1 h2 n T : Nat) (f g : Nat → Int32) (k t : Nat) (hk : k < nc) (hc4 : nc ≤ 4) (had : ad k = some h0) (htT : t < T) (hT : T < 2 ^ 31) (hn : n < 2 ^ 30) : Met l yX6_changes wsX6_changes ({ frames := 4, cells := 0, slots := 0, locals := 88 }) (va_Pc [.ref o, .int (nI k), .int (nI t)] (zPcN (dC, dI) [(o, .inr (6, [.ref a0, .int tc, .ref a1, .int (nI nc), .null, .int 40, .int 48, .int 0, .ref a2])), (a1, .inl (cC, 4, .inr (.inr (.inr (.inr ad))))), (h0, .inr (0, [.ref h1, .int (nI T), .ref h2])), (h1, .inl (cI, n, .inl f)), (h2, .inl (cI, 256, .inl g))] [(cI, .int), (cC, (.object RX0))] sz)) (va_Qi (fun (r : Int32) (_ : Unit) => r = nI (zchg f n t)) (fun _ _ => True) (zq sz)) 0 0 (zq sz) := by
  refine Met.ofW (cc := cX6_changes) (maxL := 4) (ret := (some .int)) (by decide) rfl ?_
  intro p e s m args below meth c s₁ B hml hv
  obtain ⟨rfl, hsz, hP, hK, hE⟩ := hv
  have hx := B.exec
  have hb := B.bytes
  have hr := B.returns
  have hts := atoms_spec (ws := wsX6_changes) B.pre
  have hown : s.vm.findClass RX6 = some m.cls := findClass_of_methodNamed B.named
  have hlocks := B.notSynchronized
  subst hsz
  have hi0 : ∀ w ∈ u_ws RX0 TX0 3, w ∈ wsX6_changes := by decide +kernel
  have hi6 : ∀ w ∈ u_ws RX6 TX6 9, w ∈ wsX6_changes := by decide +kernel
  have hA : ∀ q : Nat, s.heap.size ≤ q → zq s.heap.size q := fun q h => h
  have hS : va_S (zq s.heap.size) s.heap s.heap [] := va_S.rf
  have hl := lv_entry ([.ref o, .int (nI k), .int (nI t)]) (n := 4) (Nat.le_of_ble_eq_true rfl)
  rw [lg_entry_eq]
  generalize (lg_sl ([.ref o, .int (nI k), .int (nI t)]) ++ List.replicate (4 - (lg_sl ([.ref o, .int (nI k), .int (nI t)])).length) Slot.unset).toArray = ls at hl ⊢
  have hl : lv_has ls 4 [(0, .ref o), (1, .int (nI k)), (2, .int (nI t))] := hl
  have ht : t < 2 ^ 31 := by omega
  refine lv_aload_n hx hb dX6_changes_0 rfl (lv_at hl 0 rfl) ?_
  refine lv_iload_n hx hb dX6_changes_1 rfl (lv_at hl 1 rfl) ?_
  refine va_callr (va_runV (As := [.int (nI k)]) (rest := []) ⟨hx, hb, hml, hown, hts⟩ (k_codeAt l dC dI s.heap.size cI cC o a0 a1 a2 tc nc ad h0 k hk hc4 had) (cwV 1 hts gX6_changes_X6_codeAt rfl rfl rfl (by decide +kernel) ⟨Nat.le_of_ble_eq_true rfl, Nat.le_of_ble_eq_true rfl⟩) ⟨zfb, va_recv hK hP (ci := 6) (q0 := 0) rfl rfl, zpre (hP.sub (ws' := [(o, .inr (6, [.ref a0, .int tc, .ref a1, .int (nI nc), .null, .int 40, .int 48, .int 0, .ref a2])), (a1, .inl (cC, 4, .inr (.inr (.inr (.inr ad)))))]) [0, 1] rfl) (hK.sub (tys' := [(cI, .int), (cC, (.object RX0))]) [0, 1] rfl)⟩ rfl rfl hl.1 rfl (lv_room (Nat.le_of_ble_eq_true rfl)) dX6_changes_2 ⟨Nat.le_of_ble_eq_true rfl, Nat.le_of_ble_eq_true rfl⟩) hS (fun q h1 h2 => absurd h2 (Nat.not_le.mpr h1)) (fun q h => hA q (Nat.le_trans hS.1 h)) (fun u9 ra9 t9 H1 locs ht hvm hw hB hz1 hk1 hS => ?_)
  have hB : h0 = ra9 := Eq.symm hB
  subst hB
  have hP := zr_keep hP hk1
  clear hk1 hz1 ht hvm
  refine lv_astore_n (lv' := [(3, .ref h0), (0, .ref o), (1, .int (nI k)), (2, .int (nI t))]) hx hb dX6_changes_5 rfl hl (by decide) rfl (fun ls hl => ?_)
  refine lv_aload_n hx hb dX6_changes_6 rfl (lv_at hl 0 rfl) ?_
  refine lv_iload_n hx hb dX6_changes_7 rfl (lv_at hl 3 rfl) ?_
  refine va_calli (va_runV (As := [.int (nI t)]) (rest := []) ⟨hx, hb, hml, hown, hts⟩ (k_hasTrack l dC dI H1.size cI h0 h1 h2 n T f g t ht hT) (cwV 1 hts gX6_changes_X0_hasTrack rfl rfl rfl (by decide +kernel) ⟨Nat.le_of_ble_eq_true rfl, Nat.le_of_ble_eq_true rfl⟩) ⟨zfb, va_recv hK hP (ci := 0) (q0 := 2) rfl rfl, zpre (hP.sub (ws' := [(h0, .inr (0, [.ref h1, .int (nI T), .ref h2])), (h1, .inl (cI, n, .inl f)), (h2, .inl (cI, 256, .inl g))]) [2, 3, 4] rfl) (hK.sub (tys' := [(cI, .int)]) [0] rfl)⟩ rfl rfl hl.1 rfl (lv_room (Nat.le_of_ble_eq_true rfl)) dX6_changes_8 ⟨Nat.le_of_ble_eq_true rfl, Nat.le_of_ble_eq_true rfl⟩) hS (fun q h1 h2 => absurd h2 (Nat.not_le.mpr h1)) (fun q h => hA q (Nat.le_trans hS.1 h)) (fun r9 u9 t9 H1 locs ht hvm hw hB hz1 hk1 hS => ?_)
  have hw : r9 = zb (decide (t < T)) := hw
  subst hw
  have hP := zr_keep hP hk1
  clear hk1 hz1 hB ht hvm
  refine zt_top (y := 1) (by rw [decide_eq_true htT]; rfl) ?_
  refine lv_if_ne (tgt := 24) hx hb dX6_changes_11 (by decide) (fun c11 => ?_) (fun c => absurd c (by decide))
  refine lv_aload_n hx hb dX6_changes_24 rfl (lv_at hl 0 rfl) ?_
  refine lv_iload_n hx hb dX6_changes_25 rfl (lv_at hl 3 rfl) ?_
  refine va_calli (va_runV (As := [.int (nI t)]) (rest := []) ⟨hx, hb, hml, hown, hts⟩ (k_changesOf l dC dI H1.size cI h0 h1 h2 n T f g t hn) (cwV 1 hts gX6_changes_X0_changesOf rfl rfl rfl (by decide +kernel) ⟨Nat.le_of_ble_eq_true rfl, Nat.le_of_ble_eq_true rfl⟩) ⟨zfbN, va_recv hK hP (ci := 0) (q0 := 2) rfl rfl, zpreN (hP.sub (ws' := [(h0, .inr (0, [.ref h1, .int (nI T), .ref h2])), (h1, .inl (cI, n, .inl f)), (h2, .inl (cI, 256, .inl g))]) [2, 3, 4] rfl) (hK.sub (tys' := [(cI, .int)]) [0] rfl) hE⟩ rfl rfl hl.1 rfl (lv_room (Nat.le_of_ble_eq_true rfl)) dX6_changes_26 ⟨Nat.le_of_ble_eq_true rfl, Nat.le_of_ble_eq_true rfl⟩) hS (fun q h1 h2 => absurd h2 (Nat.not_le.mpr h1)) (fun q h => hA q (Nat.le_trans hS.1 h)) (fun r9 u9 t9 H1 locs ht hvm hw hB hz1 hk1 hS => ?_)
  have hw : r9 = nI (zchg f n t) := hw
  subst hw
  have hP := zr_keep hP hk1
  clear hk1 hz1 hB ht hvm
  exact W.iret (v := (nI (zchg f n t))) hx hb hr (fun t9 ht hW => ⟨⟨_, (), rfl, rfl, trivial⟩, hS.F ht⟩) hS.2.2 dX6_changes_29

set_option maxHeartbeats 4000000 in
set_option maxRecDepth 100000 in
/-- changes(k, t) of a track that isn't there -/
theorem x_changes (l : Launch) (dC : Nat → ClassId) (dI : Nat → Nat → Nat) (sz : Nat) (cI cC : ClassId) (o a0 a1 a2 : Nat) (tc : Int32) (nc : Nat) (ad : Nat → Option Nat) (h0 h1 h2 n T : Nat) (f g : Nat → Int32) (k t : Nat) (hfl : l.stackTraces = false) (hk : k < nc) (hc4 : nc ≤ 4) (had : ad k = some h0) (htT : T ≤ t) (ht : t < 2 ^ 31) : vx_Met l yX6_changes wsX6_changes ({ frames := 6, cells := 1, slots := 6, locals := 90 }) (va_Pc [.ref o, .int (nI k), .int (nI t)] (zPcX (dC, dI) [(o, .inr (6, [.ref a0, .int tc, .ref a1, .int (nI nc), .null, .int 40, .int 48, .int 0, .ref a2])), (a1, .inl (cC, 4, .inr (.inr (.inr (.inr ad))))), (h0, .inr (0, [.ref h1, .int (nI T), .ref h2])), (h1, .inl (cI, n, .inl f)), (h2, .inl (cI, 256, .inl g))] [(cI, .int), (cC, (.object RX0))] sz)) zNoQ (zXC "java/lang/IllegalArgumentException" sz) 1 6 (zq sz) := by
  refine vx_ofW (cc := cX6_changes) (maxL := 4) (ret := (some .int)) (by decide) rfl ?_
  intro p e s m args below meth c s₁ B hml hnt hv
  obtain ⟨rfl, hsz, hP, hK, hE⟩ := hv
  have hx := B.exec
  have hb := B.bytes
  have hr := B.returns
  have hts := atoms_spec (ws := wsX6_changes) B.pre
  have hown : s.vm.findClass RX6 = some m.cls := findClass_of_methodNamed B.named
  have hlocks := B.notSynchronized
  subst hsz
  have hi0 : ∀ w ∈ u_ws RX0 TX0 3, w ∈ wsX6_changes := by decide +kernel
  have hi6 : ∀ w ∈ u_ws RX6 TX6 9, w ∈ wsX6_changes := by decide +kernel
  have hA : ∀ q : Nat, s.heap.size ≤ q → zq s.heap.size q := fun q h => h
  have hS : va_S (zq s.heap.size) s.heap s.heap [] := va_S.rf
  have hl := lv_entry ([.ref o, .int (nI k), .int (nI t)]) (n := 4) (Nat.le_of_ble_eq_true rfl)
  rw [lg_entry_eq]
  generalize (lg_sl ([.ref o, .int (nI k), .int (nI t)]) ++ List.replicate (4 - (lg_sl ([.ref o, .int (nI k), .int (nI t)])).length) Slot.unset).toArray = ls at hl ⊢
  have hl : lv_has ls 4 [(0, .ref o), (1, .int (nI k)), (2, .int (nI t))] := hl
  have hT : T < 2 ^ 31 := by omega
  refine lv_aload_n hx hb dX6_changes_0 rfl (lv_at hl 0 rfl) ?_
  refine lv_iload_n hx hb dX6_changes_1 rfl (lv_at hl 1 rfl) ?_
  refine va_callr (va_runV (As := [.int (nI k)]) (rest := []) ⟨hx, hb, hml, hown, hts⟩ (k_codeAt l dC dI s.heap.size cI cC o a0 a1 a2 tc nc ad h0 k hk hc4 had) (cwV 1 hts gX6_changes_X6_codeAt rfl rfl rfl (by decide +kernel) ⟨Nat.le_of_ble_eq_true rfl, Nat.le_of_ble_eq_true rfl⟩) ⟨zfb, va_recv hK hP (ci := 6) (q0 := 0) rfl rfl, zpre (hP.sub (ws' := [(o, .inr (6, [.ref a0, .int tc, .ref a1, .int (nI nc), .null, .int 40, .int 48, .int 0, .ref a2])), (a1, .inl (cC, 4, .inr (.inr (.inr (.inr ad)))))]) [0, 1] rfl) (hK.sub (tys' := [(cI, .int), (cC, (.object RX0))]) [0, 1] rfl)⟩ rfl rfl hl.1 rfl (lv_room (Nat.le_of_ble_eq_true rfl)) dX6_changes_2 ⟨Nat.le_of_ble_eq_true rfl, Nat.le_of_ble_eq_true rfl⟩) hS (fun q h1 h2 => absurd h2 (Nat.not_le.mpr h1)) (fun q h => hA q (Nat.le_trans hS.1 h)) (fun u9 ra9 t9 H1 locs ht hvm hw hB hz1 hk1 hS => ?_)
  have hB : h0 = ra9 := Eq.symm hB
  subst hB
  have hP := zr_keep hP hk1
  clear hk1 hz1 ht hvm
  refine lv_astore_n (lv' := [(3, .ref h0), (0, .ref o), (1, .int (nI k)), (2, .int (nI t))]) hx hb dX6_changes_5 rfl hl (by decide) rfl (fun ls hl => ?_)
  refine lv_aload_n hx hb dX6_changes_6 rfl (lv_at hl 0 rfl) ?_
  refine lv_iload_n hx hb dX6_changes_7 rfl (lv_at hl 3 rfl) ?_
  refine va_calli (va_runV (As := [.int (nI t)]) (rest := []) ⟨hx, hb, hml, hown, hts⟩ (k_hasTrack l dC dI H1.size cI h0 h1 h2 n T f g t ht hT) (cwV 1 hts gX6_changes_X0_hasTrack rfl rfl rfl (by decide +kernel) ⟨Nat.le_of_ble_eq_true rfl, Nat.le_of_ble_eq_true rfl⟩) ⟨zfb, va_recv hK hP (ci := 0) (q0 := 2) rfl rfl, zpre (hP.sub (ws' := [(h0, .inr (0, [.ref h1, .int (nI T), .ref h2])), (h1, .inl (cI, n, .inl f)), (h2, .inl (cI, 256, .inl g))]) [2, 3, 4] rfl) (hK.sub (tys' := [(cI, .int)]) [0] rfl)⟩ rfl rfl hl.1 rfl (lv_room (Nat.le_of_ble_eq_true rfl)) dX6_changes_8 ⟨Nat.le_of_ble_eq_true rfl, Nat.le_of_ble_eq_true rfl⟩) hS (fun q h1 h2 => absurd h2 (Nat.not_le.mpr h1)) (fun q h => hA q (Nat.le_trans hS.1 h)) (fun r9 u9 t9 H1 locs ht hvm hw hB hz1 hk1 hS => ?_)
  have hw : r9 = zb (decide (t < T)) := hw
  subst hw
  have hP := zr_keep hP hk1
  clear hk1 hz1 hB ht hvm
  refine zt_top (y := 0) (by rw [decide_eq_false (Nat.not_lt.mpr htT)]; rfl) ?_
  refine lv_if_ne (tgt := 24) hx hb dX6_changes_11 (by decide) (fun c => absurd c (fun q => q rfl)) (fun c11 => ?_)
  obtain ⟨sa, hsa⟩ := hE.2.1 (109, "no such track") (List.mem_of_getElem? (i := 6) rfl)
  exact vx_throwS hx hb hfl (own := RX6) (cls := "java/lang/IllegalArgumentException") (names := ["java/lang/RuntimeException", "java/lang/Exception"]) (ik := 37) (is := 109) (ic := 41) (A := zq s.heap.size) hown (by decide) (by decide) (hts (.classLink RX6 37 "java/lang/IllegalArgumentException") (List.mem_of_getElem? (i := 1) rfl)) (hts (.initialized "java/lang/IllegalArgumentException") (List.mem_of_getElem? (i := 2) rfl)) hsa (zg_of (fun w hw => hts w (List.mem_cons_of_mem _ (List.mem_append_left _ (List.mem_append_right _ hw)))) zg_IAE hE.2.2.1) zo_IAE hE.1.1 hE.1.2 hS (hl.1.trans hml.symm) dX6_changes_14 dX6_changes_17 dX6_changes_18 dX6_changes_20 dX6_changes_23 (fun x hx => (hnt x hx).elim) (Nat.le_of_ble_eq_true rfl) (Nat.le_of_ble_eq_true rfl) (Nat.le_of_ble_eq_true rfl) (Nat.le_of_ble_eq_true rfl) hlocks (z_hx hS) hS.2.2 (Nat.le_of_ble_eq_true rfl) (Nat.le_of_ble_eq_true rfl)

set_option maxHeartbeats 4000000 in
set_option maxRecDepth 100000 in
/-- isBalanced(k) -/
theorem k_isBalanced (l : Launch) (dC : Nat → ClassId) (dI : Nat → Nat → Nat) (sz : Nat) (cI cC : ClassId) (o a0 a1 a2 : Nat) (tc : Int32) (nc : Nat) (ad : Nat → Option Nat) (h0 h1 h2 n T : Nat) (f g : Nat → Int32) (k : Nat) (hk : k < nc) (hc4 : nc ≤ 4) (had : ad k = some h0) (hn : n < 2 ^ 30) (hT2 : T < 2 ^ 30) : Met l yX6_isBalanced wsX6_isBalanced ({ frames := 5, cells := 0, slots := 0, locals := 112 }) (va_Pc [.ref o, .int (nI k)] (zPcN (dC, dI) [(o, .inr (6, [.ref a0, .int tc, .ref a1, .int (nI nc), .null, .int 40, .int 48, .int 0, .ref a2])), (a1, .inl (cC, 4, .inr (.inr (.inr (.inr ad))))), (h0, .inr (0, [.ref h1, .int (nI T), .ref h2])), (h1, .inl (cI, n, .inl f)), (h2, .inl (cI, 256, .inl g))] [(cI, .int), (cC, (.object RX0))] sz)) (va_Qi (fun (r : Int32) (_ : Unit) => r = zb (!decide ((2 : Int32) < nI (zhi f n T) - nI (zlo f n T)))) (fun _ _ => True) (zq sz)) 0 0 (zq sz) := by
  refine Met.ofW (cc := cX6_isBalanced) (maxL := 2) (ret := (some .boolean)) (by decide) rfl ?_
  intro p e s m args below meth c s₁ B hml hv
  obtain ⟨rfl, hsz, hP, hK, hE⟩ := hv
  have hx := B.exec
  have hb := B.bytes
  have hr := B.returns
  have hts := atoms_spec (ws := wsX6_isBalanced) B.pre
  have hown : s.vm.findClass RX6 = some m.cls := findClass_of_methodNamed B.named
  have hlocks := B.notSynchronized
  subst hsz
  have hi0 : ∀ w ∈ u_ws RX0 TX0 3, w ∈ wsX6_isBalanced := by decide +kernel
  have hi6 : ∀ w ∈ u_ws RX6 TX6 9, w ∈ wsX6_isBalanced := by decide +kernel
  have hA : ∀ q : Nat, s.heap.size ≤ q → zq s.heap.size q := fun q h => h
  have hS : va_S (zq s.heap.size) s.heap s.heap [] := va_S.rf
  have hl := lv_entry ([.ref o, .int (nI k)]) (n := 2) (Nat.le_of_ble_eq_true rfl)
  rw [lg_entry_eq]
  generalize (lg_sl ([.ref o, .int (nI k)]) ++ List.replicate (2 - (lg_sl ([.ref o, .int (nI k)])).length) Slot.unset).toArray = ls at hl ⊢
  have hl : lv_has ls 2 [(0, .ref o), (1, .int (nI k))] := hl
  refine lv_aload_n hx hb dX6_isBalanced_0 rfl (lv_at hl 0 rfl) ?_
  refine lv_iload_n hx hb dX6_isBalanced_1 rfl (lv_at hl 1 rfl) ?_
  refine va_callr (va_runV (As := [.int (nI k)]) (rest := []) ⟨hx, hb, hml, hown, hts⟩ (k_codeAt l dC dI s.heap.size cI cC o a0 a1 a2 tc nc ad h0 k hk hc4 had) (cwV 1 hts gX6_isBalanced_X6_codeAt rfl rfl rfl (by decide +kernel) ⟨Nat.le_of_ble_eq_true rfl, Nat.le_of_ble_eq_true rfl⟩) ⟨zfb, va_recv hK hP (ci := 6) (q0 := 0) rfl rfl, zpre (hP.sub (ws' := [(o, .inr (6, [.ref a0, .int tc, .ref a1, .int (nI nc), .null, .int 40, .int 48, .int 0, .ref a2])), (a1, .inl (cC, 4, .inr (.inr (.inr (.inr ad)))))]) [0, 1] rfl) (hK.sub (tys' := [(cI, .int), (cC, (.object RX0))]) [0, 1] rfl)⟩ rfl rfl hl.1 rfl (lv_room (Nat.le_of_ble_eq_true rfl)) dX6_isBalanced_2 ⟨Nat.le_of_ble_eq_true rfl, Nat.le_of_ble_eq_true rfl⟩) hS (fun q h1 h2 => absurd h2 (Nat.not_le.mpr h1)) (fun q h => hA q (Nat.le_trans hS.1 h)) (fun u9 ra9 t9 H1 locs ht hvm hw hB hz1 hk1 hS => ?_)
  have hB : h0 = ra9 := Eq.symm hB
  subst hB
  have hP := zr_keep hP hk1
  clear hk1 hz1 ht hvm
  refine va_calli (va_runV (As := []) (rest := []) ⟨hx, hb, hml, hown, hts⟩ (k_evenly l dC dI H1.size cI h0 h1 h2 n T f g  hn hT2) (cwV 0 hts gX6_isBalanced_X0_changesEvenly rfl rfl rfl (by decide +kernel) ⟨Nat.le_of_ble_eq_true rfl, Nat.le_of_ble_eq_true rfl⟩) ⟨zfbN, va_recv hK hP (ci := 0) (q0 := 2) rfl rfl, zpreN (hP.sub (ws' := [(h0, .inr (0, [.ref h1, .int (nI T), .ref h2])), (h1, .inl (cI, n, .inl f)), (h2, .inl (cI, 256, .inl g))]) [2, 3, 4] rfl) (hK.sub (tys' := [(cI, .int)]) [0] rfl) hE⟩ rfl rfl hl.1 rfl (lv_room (Nat.le_of_ble_eq_true rfl)) dX6_isBalanced_5 ⟨Nat.le_of_ble_eq_true rfl, Nat.le_of_ble_eq_true rfl⟩) hS (fun q h1 h2 => absurd h2 (Nat.not_le.mpr h1)) (fun q h => hA q (Nat.le_trans hS.1 h)) (fun r9 u9 t9 H1 locs ht hvm hw hB hz1 hk1 hS => ?_)
  have hw : r9 = zb (!decide ((2 : Int32) < nI (zhi f n T) - nI (zlo f n T))) := hw
  subst hw
  have hP := zr_keep hP hk1
  clear hk1 hz1 hB ht hvm
  exact W.zret (v := (zb (!decide ((2 : Int32) < nI (zhi f n T) - nI (zlo f n T))))) hx hb hr (by cases ((!decide ((2 : Int32) < nI (zhi f n T) - nI (zlo f n T))) : Bool) <;> decide) (fun t9 ht hW => ⟨⟨_, (), rfl, rfl, trivial⟩, hS.F ht⟩) hS.2.2 dX6_isBalanced_8

set_option maxHeartbeats 4000000 in
set_option maxRecDepth 100000 in
/-- isOneTrack(k) -/
theorem k_isOneTrack (l : Launch) (dC : Nat → ClassId) (dI : Nat → Nat → Nat) (sz : Nat) (cI cC : ClassId) (o a0 a1 a2 : Nat) (tc : Int32) (nc : Nat) (ad : Nat → Option Nat) (h0 h1 h2 n T : Nat) (f g : Nat → Int32) (k : Nat) (hk : k < nc) (hc4 : nc ≤ 4) (had : ad k = some h0) (hn : n < 2 ^ 30) (hT : 1 ≤ T) (hT2 : T < 2 ^ 30) : Met l yX6_isOneTrack wsX6_isOneTrack ({ frames := 6, cells := 0, slots := 0, locals := 130 }) (va_Pc [.ref o, .int (nI k)] (zPcN (dC, dI) [(o, .inr (6, [.ref a0, .int tc, .ref a1, .int (nI nc), .null, .int 40, .int 48, .int 0, .ref a2])), (a1, .inl (cC, 4, .inr (.inr (.inr (.inr ad))))), (h0, .inr (0, [.ref h1, .int (nI T), .ref h2])), (h1, .inl (cI, n, .inl f)), (h2, .inl (cI, 256, .inl g))] [(cI, .int), (cC, (.object RX0))] sz)) (va_Qi (fun (r : Int32) (_ : Unit) => r = zb (zon f n T)) (fun _ _ => True) (zq sz)) 0 0 (zq sz) := by
  refine Met.ofW (cc := cX6_isOneTrack) (maxL := 2) (ret := (some .boolean)) (by decide) rfl ?_
  intro p e s m args below meth c s₁ B hml hv
  obtain ⟨rfl, hsz, hP, hK, hE⟩ := hv
  have hx := B.exec
  have hb := B.bytes
  have hr := B.returns
  have hts := atoms_spec (ws := wsX6_isOneTrack) B.pre
  have hown : s.vm.findClass RX6 = some m.cls := findClass_of_methodNamed B.named
  have hlocks := B.notSynchronized
  subst hsz
  have hi0 : ∀ w ∈ u_ws RX0 TX0 3, w ∈ wsX6_isOneTrack := by decide +kernel
  have hi6 : ∀ w ∈ u_ws RX6 TX6 9, w ∈ wsX6_isOneTrack := by decide +kernel
  have hA : ∀ q : Nat, s.heap.size ≤ q → zq s.heap.size q := fun q h => h
  have hS : va_S (zq s.heap.size) s.heap s.heap [] := va_S.rf
  have hl := lv_entry ([.ref o, .int (nI k)]) (n := 2) (Nat.le_of_ble_eq_true rfl)
  rw [lg_entry_eq]
  generalize (lg_sl ([.ref o, .int (nI k)]) ++ List.replicate (2 - (lg_sl ([.ref o, .int (nI k)])).length) Slot.unset).toArray = ls at hl ⊢
  have hl : lv_has ls 2 [(0, .ref o), (1, .int (nI k))] := hl
  refine lv_aload_n hx hb dX6_isOneTrack_0 rfl (lv_at hl 0 rfl) ?_
  refine lv_iload_n hx hb dX6_isOneTrack_1 rfl (lv_at hl 1 rfl) ?_
  refine va_callr (va_runV (As := [.int (nI k)]) (rest := []) ⟨hx, hb, hml, hown, hts⟩ (k_codeAt l dC dI s.heap.size cI cC o a0 a1 a2 tc nc ad h0 k hk hc4 had) (cwV 1 hts gX6_isOneTrack_X6_codeAt rfl rfl rfl (by decide +kernel) ⟨Nat.le_of_ble_eq_true rfl, Nat.le_of_ble_eq_true rfl⟩) ⟨zfb, va_recv hK hP (ci := 6) (q0 := 0) rfl rfl, zpre (hP.sub (ws' := [(o, .inr (6, [.ref a0, .int tc, .ref a1, .int (nI nc), .null, .int 40, .int 48, .int 0, .ref a2])), (a1, .inl (cC, 4, .inr (.inr (.inr (.inr ad)))))]) [0, 1] rfl) (hK.sub (tys' := [(cI, .int), (cC, (.object RX0))]) [0, 1] rfl)⟩ rfl rfl hl.1 rfl (lv_room (Nat.le_of_ble_eq_true rfl)) dX6_isOneTrack_2 ⟨Nat.le_of_ble_eq_true rfl, Nat.le_of_ble_eq_true rfl⟩) hS (fun q h1 h2 => absurd h2 (Nat.not_le.mpr h1)) (fun q h => hA q (Nat.le_trans hS.1 h)) (fun u9 ra9 t9 H1 locs ht hvm hw hB hz1 hk1 hS => ?_)
  have hB : h0 = ra9 := Eq.symm hB
  subst hB
  have hP := zr_keep hP hk1
  clear hk1 hz1 ht hvm
  refine va_calli (va_runV (As := []) (rest := []) ⟨hx, hb, hml, hown, hts⟩ (k_repeats l dC dI H1.size cI h0 h1 h2 n T f g  hn hT hT2) (cwV 0 hts gX6_isOneTrack_X0_repeatsFirstTrack rfl rfl rfl (by decide +kernel) ⟨Nat.le_of_ble_eq_true rfl, Nat.le_of_ble_eq_true rfl⟩) ⟨zfbN, va_recv hK hP (ci := 0) (q0 := 2) rfl rfl, zpreN (hP.sub (ws' := [(h0, .inr (0, [.ref h1, .int (nI T), .ref h2])), (h1, .inl (cI, n, .inl f)), (h2, .inl (cI, 256, .inl g))]) [2, 3, 4] rfl) (hK.sub (tys' := [(cI, .int)]) [0] rfl) hE⟩ rfl rfl hl.1 rfl (lv_room (Nat.le_of_ble_eq_true rfl)) dX6_isOneTrack_5 ⟨Nat.le_of_ble_eq_true rfl, Nat.le_of_ble_eq_true rfl⟩) hS (fun q h1 h2 => absurd h2 (Nat.not_le.mpr h1)) (fun q h => hA q (Nat.le_trans hS.1 h)) (fun r9 u9 t9 H1 locs ht hvm hw hB hz1 hk1 hS => ?_)
  have hw : r9 = zb (zon f n T) := hw
  subst hw
  have hP := zr_keep hP hk1
  clear hk1 hz1 hB ht hvm
  exact W.zret (v := (zb (zon f n T))) hx hb hr (by cases ((zon f n T) : Bool) <;> decide) (fun t9 ht hW => ⟨⟨_, (), rfl, rfl, trivial⟩, hS.F ht⟩) hS.2.2 dX6_isOneTrack_8

set_option maxHeartbeats 4000000 in
set_option maxRecDepth 100000 in
/-- setDisc(k, off) of a code that isn't there -/
theorem x_setDisc (l : Launch) (dC : Nat → ClassId) (dI : Nat → Nat → Nat) (sz : Nat) (cI cC : ClassId) (o a0 a1 a2 : Nat) (tc : Int32) (nc : Nat) (ad : Nat → Option Nat) (k : Nat) (w : Int32) (hfl : l.stackTraces = false) (hk : nc ≤ k) (hk2 : k < 2 ^ 30) : vx_Met l yX6_setDisc wsX6_setDisc ({ frames := 7, cells := 1, slots := 6, locals := 112 }) (va_Pc [.ref o, .int (nI k), .int w] (zPcX (dC, dI) [(o, .inr (6, [.ref a0, .int tc, .ref a1, .int (nI nc), .null, .int 40, .int 48, .int 0, .ref a2])), (a1, .inl (cC, 4, .inr (.inr (.inr (.inr ad)))))] [(cI, .int), (cC, (.object RX0))] sz)) zNoQ (zXC "java/lang/IndexOutOfBoundsException" sz) 1 6 (zq sz) := by
  refine vx_ofW (cc := cX6_setDisc) (maxL := 4) (ret := (some .int)) (by decide) rfl ?_
  intro p e s m args below meth c s₁ B hml hnt hv
  obtain ⟨rfl, hsz, hP, hK, hE⟩ := hv
  have hx := B.exec
  have hb := B.bytes
  have hr := B.returns
  have hts := atoms_spec (ws := wsX6_setDisc) B.pre
  have hown : s.vm.findClass RX6 = some m.cls := findClass_of_methodNamed B.named
  have hlocks := B.notSynchronized
  subst hsz
  have hi6 : ∀ w ∈ u_ws RX6 TX6 9, w ∈ wsX6_setDisc := by decide +kernel
  have hA : ∀ q : Nat, s.heap.size ≤ q → zq s.heap.size q := fun q h => h
  have hS : va_S (zq s.heap.size) s.heap s.heap [] := va_S.rf
  have hl := lv_entry ([.ref o, .int (nI k), .int w]) (n := 4) (Nat.le_of_ble_eq_true rfl)
  rw [lg_entry_eq]
  generalize (lg_sl ([.ref o, .int (nI k), .int w]) ++ List.replicate (4 - (lg_sl ([.ref o, .int (nI k), .int w])).length) Slot.unset).toArray = ls at hl ⊢
  have hl : lv_has ls 4 [(0, .ref o), (1, .int (nI k)), (2, .int w)] := hl
  refine lv_aload_n hx hb dX6_setDisc_0 rfl (lv_at hl 0 rfl) ?_
  refine lv_iload_n hx hb dX6_setDisc_1 rfl (lv_at hl 1 rfl) ?_
  refine z_callx (vx_runV (As := [.int (nI k)]) (rest := []) ⟨hx, hb, hml, hown, hts⟩ (x_codeAt l dC dI s.heap.size cI cC o a0 a1 a2 tc nc ad k hfl hk hk2) (cwV 1 hts gX6_setDisc_X6_codeAt rfl rfl rfl (by decide +kernel) ⟨Nat.le_of_ble_eq_true rfl, Nat.le_of_ble_eq_true rfl⟩) ⟨zfbX, va_recv hK hP (ci := 6) (q0 := 0) rfl rfl, zpreX (hP.sub (ws' := [(o, .inr (6, [.ref a0, .int tc, .ref a1, .int (nI nc), .null, .int 40, .int 48, .int 0, .ref a2])), (a1, .inl (cC, 4, .inr (.inr (.inr (.inr ad)))))]) [0, 1] rfl) (hK.sub (tys' := [(cI, .int), (cC, (.object RX0))]) [0, 1] rfl) hE hS hA⟩ rfl rfl hl.1 rfl (lv_room (Nat.le_of_ble_eq_true rfl)) dX6_setDisc_2 ⟨Nat.le_of_ble_eq_true rfl, Nat.le_of_ble_eq_true rfl⟩) hS hA (fun ce q9 H1 locs hz1 hk1 hS hce hcv hcl => ?_)
  exact z_out hnt hlocks hce hcv hcl hS (Nat.le_of_ble_eq_true rfl) (Nat.le_of_ble_eq_true rfl)

set_option maxHeartbeats 4000000 in
set_option maxRecDepth 100000 in
/-- setDisc(k, 41) -/
theorem x_setDisc2 (l : Launch) (dC : Nat → ClassId) (dI : Nat → Nat → Nat) (sz : Nat) (cI cC : ClassId) (o a0 a1 a2 : Nat) (tc : Int32) (nc : Nat) (ad : Nat → Option Nat) (h0 h1 h2 n T : Nat) (f g : Nat → Int32) (k : Nat) (hfl : l.stackTraces = false) (hk : k < nc) (hc4 : nc ≤ 4) (had : ad k = some h0) : vx_Met l yX6_setDisc wsX6_setDisc ({ frames := 6, cells := 1, slots := 6, locals := 90 }) (va_Pc [.ref o, .int (nI k), .int 41] (zPcX (dC, dI) [(o, .inr (6, [.ref a0, .int tc, .ref a1, .int (nI nc), .null, .int 40, .int 48, .int 0, .ref a2])), (a1, .inl (cC, 4, .inr (.inr (.inr (.inr ad))))), (h0, .inr (0, [.ref h1, .int (nI T), .ref h2])), (h1, .inl (cI, n, .inl f)), (h2, .inl (cI, 256, .inl g))] [(cI, .int), (cC, (.object RX0))] sz)) zNoQ (zXC "java/lang/IllegalArgumentException" sz) 1 6 (zq sz) := by
  refine vx_ofW (cc := cX6_setDisc) (maxL := 4) (ret := (some .int)) (by decide) rfl ?_
  intro p e s m args below meth c s₁ B hml hnt hv
  obtain ⟨rfl, hsz, hP, hK, hE⟩ := hv
  have hx := B.exec
  have hb := B.bytes
  have hr := B.returns
  have hts := atoms_spec (ws := wsX6_setDisc) B.pre
  have hown : s.vm.findClass RX6 = some m.cls := findClass_of_methodNamed B.named
  have hlocks := B.notSynchronized
  subst hsz
  have hi0 : ∀ w ∈ u_ws RX0 TX0 3, w ∈ wsX6_setDisc := by decide +kernel
  have hi6 : ∀ w ∈ u_ws RX6 TX6 9, w ∈ wsX6_setDisc := by decide +kernel
  have hA : ∀ q : Nat, s.heap.size ≤ q → zq s.heap.size q := fun q h => h
  have hS : va_S (zq s.heap.size) s.heap s.heap [] := va_S.rf
  have hl := lv_entry ([.ref o, .int (nI k), .int 41]) (n := 4) (Nat.le_of_ble_eq_true rfl)
  rw [lg_entry_eq]
  generalize (lg_sl ([.ref o, .int (nI k), .int 41]) ++ List.replicate (4 - (lg_sl ([.ref o, .int (nI k), .int 41])).length) Slot.unset).toArray = ls at hl ⊢
  have hl : lv_has ls 4 [(0, .ref o), (1, .int (nI k)), (2, .int 41)] := hl
  refine lv_aload_n hx hb dX6_setDisc_0 rfl (lv_at hl 0 rfl) ?_
  refine lv_iload_n hx hb dX6_setDisc_1 rfl (lv_at hl 1 rfl) ?_
  refine va_callr (va_runV (As := [.int (nI k)]) (rest := []) ⟨hx, hb, hml, hown, hts⟩ (k_codeAt l dC dI s.heap.size cI cC o a0 a1 a2 tc nc ad h0 k hk hc4 had) (cwV 1 hts gX6_setDisc_X6_codeAt rfl rfl rfl (by decide +kernel) ⟨Nat.le_of_ble_eq_true rfl, Nat.le_of_ble_eq_true rfl⟩) ⟨zfb, va_recv hK hP (ci := 6) (q0 := 0) rfl rfl, zpre (hP.sub (ws' := [(o, .inr (6, [.ref a0, .int tc, .ref a1, .int (nI nc), .null, .int 40, .int 48, .int 0, .ref a2])), (a1, .inl (cC, 4, .inr (.inr (.inr (.inr ad)))))]) [0, 1] rfl) (hK.sub (tys' := [(cI, .int), (cC, (.object RX0))]) [0, 1] rfl)⟩ rfl rfl hl.1 rfl (lv_room (Nat.le_of_ble_eq_true rfl)) dX6_setDisc_2 ⟨Nat.le_of_ble_eq_true rfl, Nat.le_of_ble_eq_true rfl⟩) hS (fun q h1 h2 => absurd h2 (Nat.not_le.mpr h1)) (fun q h => hA q (Nat.le_trans hS.1 h)) (fun u9 ra9 t9 H1 locs ht hvm hw hB hz1 hk1 hS => ?_)
  have hB : h0 = ra9 := Eq.symm hB
  subst hB
  have hP := zr_keep hP hk1
  clear hk1 hz1 ht hvm
  refine lv_astore_n (lv' := [(3, .ref h0), (0, .ref o), (1, .int (nI k)), (2, .int 41)]) hx hb dX6_setDisc_5 rfl hl (by decide) rfl (fun ls hl => ?_)
  refine lv_iload_n hx hb dX6_setDisc_6 rfl (lv_at hl 3 rfl) ?_
  refine lv_iconst (v := 0) hx hb dX6_setDisc_7 (by decide) ?_
  refine lv_bipush (v := 40) hx hb dX6_setDisc_8 (by decide) ?_
  refine va_calli (va_runS (As := [.int 41, .int 0, .int 40]) (rest := []) ⟨hx, hb, hml, hown, hts⟩ (k_isWithin l dC dI H1.size 41 0 40) (va_cwS 3 hts gX6_setDisc_X6_isWithin rfl rfl rfl (by decide +kernel) ⟨Nat.le_of_ble_eq_true rfl, Nat.le_of_ble_eq_true rfl⟩) ⟨zfb, zpre (hP.sub (ws' := []) [] rfl) (hK.sub (tys' := []) [] rfl)⟩ rfl rfl hl.1 rfl (lv_room (Nat.le_of_ble_eq_true rfl)) dX6_setDisc_10 ⟨Nat.le_of_ble_eq_true rfl, Nat.le_of_ble_eq_true rfl⟩) hS (fun q h1 h2 => absurd h2 (Nat.not_le.mpr h1)) (fun q h => hA q (Nat.le_trans hS.1 h)) (fun r9 u9 t9 H1 locs ht hvm hw hB hz1 hk1 hS => ?_)
  have hw : r9 = zb (decide ((0 : Int32) ≤ 41) && decide (41 ≤ 40)) := hw
  subst hw
  have hP := zr_keep hP hk1
  clear hk1 hz1 hB ht hvm
  refine zt_top (y := 0) (by decide) ?_
  refine lv_if_ne (tgt := 26) hx hb dX6_setDisc_13 (by decide) (fun c => absurd c (fun q => q rfl)) (fun c13 => ?_)
  obtain ⟨sa, hsa⟩ := hE.2.1 (120, "a disc is off by 0 to 40") (List.mem_of_getElem? (i := 7) rfl)
  exact vx_throwS hx hb hfl (own := RX6) (cls := "java/lang/IllegalArgumentException") (names := ["java/lang/RuntimeException", "java/lang/Exception"]) (ik := 37) (is := 120) (ic := 41) (A := zq s.heap.size) hown (by decide) (by decide) (hts (.classLink RX6 37 "java/lang/IllegalArgumentException") (List.mem_of_getElem? (i := 1) rfl)) (hts (.initialized "java/lang/IllegalArgumentException") (List.mem_of_getElem? (i := 2) rfl)) hsa (zg_of (fun w hw => hts w (List.mem_cons_of_mem _ (List.mem_append_left _ (List.mem_append_right _ hw)))) zg_IAE hE.2.2.1) zo_IAE hE.1.1 hE.1.2 hS (hl.1.trans hml.symm) dX6_setDisc_16 dX6_setDisc_19 dX6_setDisc_20 dX6_setDisc_22 dX6_setDisc_25 (fun x hx => (hnt x hx).elim) (Nat.le_of_ble_eq_true rfl) (Nat.le_of_ble_eq_true rfl) (Nat.le_of_ble_eq_true rfl) (Nat.le_of_ble_eq_true rfl) hlocks (z_hx hS) hS.2.2 (Nat.le_of_ble_eq_true rfl) (Nat.le_of_ble_eq_true rfl)

set_option maxHeartbeats 4000000 in
set_option maxRecDepth 100000 in
/-- angle() without a disc -/
theorem x_angle (l : Launch) (dC : Nat → ClassId) (dI : Nat → Nat → Nat) (sz : Nat) (cI cC : ClassId) (o a0 a1 a2 : Nat) (tc : Int32) (nc : Nat) (ad : Nat → Option Nat) (hfl : l.stackTraces = false) : vx_Met l yX6_angle wsX6_angle ({ frames := 7, cells := 1, slots := 6, locals := 112 }) (va_Pc [.ref o] (zPcX (dC, dI) [(o, .inr (6, [.ref a0, .int tc, .ref a1, .int (nI nc), .null, .int 40, .int 48, .int 0, .ref a2]))] [(cI, .int), (cC, (.object RX0))] sz)) zNoQ (zXC "java/lang/UnsupportedOperationException" sz) 1 6 (zq sz) := by
  refine vx_ofW (cc := cX6_angle) (maxL := 1) (ret := (some .int)) (by decide) rfl ?_
  intro p e s m args below meth c s₁ B hml hnt hv
  obtain ⟨rfl, hsz, hP, hK, hE⟩ := hv
  have hx := B.exec
  have hb := B.bytes
  have hr := B.returns
  have hts := atoms_spec (ws := wsX6_angle) B.pre
  have hown : s.vm.findClass RX6 = some m.cls := findClass_of_methodNamed B.named
  have hlocks := B.notSynchronized
  subst hsz
  have hi6 : ∀ w ∈ u_ws RX6 TX6 9, w ∈ wsX6_angle := by decide +kernel
  have hA : ∀ q : Nat, s.heap.size ≤ q → zq s.heap.size q := fun q h => h
  have hS : va_S (zq s.heap.size) s.heap s.heap [] := va_S.rf
  have hl := lv_entry ([.ref o]) (n := 1) (Nat.le_of_ble_eq_true rfl)
  rw [lg_entry_eq]
  generalize (lg_sl ([.ref o]) ++ List.replicate (1 - (lg_sl ([.ref o])).length) Slot.unset).toArray = ls at hl ⊢
  have hl : lv_has ls 1 [(0, .ref o)] := hl
  refine lv_aload_n hx hb dX6_angle_0 rfl (lv_at hl 0 rfl) ?_
  refine z_callx (vx_runV (As := []) (rest := []) ⟨hx, hb, hml, hown, hts⟩ (x_theDisc l dC dI s.heap.size cI cC o a0 a1 a2 tc nc ad hfl) (cwV 0 hts gX6_angle_X6_theDisc rfl rfl rfl (by decide +kernel) ⟨Nat.le_of_ble_eq_true rfl, Nat.le_of_ble_eq_true rfl⟩) ⟨zfbX, va_recv hK hP (ci := 6) (q0 := 0) rfl rfl, zpreX (hP.sub (ws' := [(o, .inr (6, [.ref a0, .int tc, .ref a1, .int (nI nc), .null, .int 40, .int 48, .int 0, .ref a2]))]) [0] rfl) (hK.sub (tys' := [(cI, .int), (cC, (.object RX0))]) [0, 1] rfl) hE hS hA⟩ rfl rfl hl.1 rfl (lv_room (Nat.le_of_ble_eq_true rfl)) dX6_angle_1 ⟨Nat.le_of_ble_eq_true rfl, Nat.le_of_ble_eq_true rfl⟩) hS hA (fun ce q9 H1 locs hz1 hk1 hS hce hcv hcl => ?_)
  exact z_out hnt hlocks hce hcv hcl hS (Nat.le_of_ble_eq_true rfl) (Nat.le_of_ble_eq_true rfl)

set_option maxHeartbeats 4000000 in
set_option maxRecDepth 100000 in
/-- turn(w) without a disc -/
theorem x_turn (l : Launch) (dC : Nat → ClassId) (dI : Nat → Nat → Nat) (sz : Nat) (cI cC : ClassId) (o a0 a1 a2 : Nat) (tc : Int32) (nc : Nat) (ad : Nat → Option Nat) (w : Int32) (hfl : l.stackTraces = false) : vx_Met l yX6_turn wsX6_turn ({ frames := 7, cells := 1, slots := 6, locals := 112 }) (va_Pc [.ref o, .int w] (zPcX (dC, dI) [(o, .inr (6, [.ref a0, .int tc, .ref a1, .int (nI nc), .null, .int 40, .int 48, .int 0, .ref a2]))] [(cI, .int), (cC, (.object RX0))] sz)) zNoQ (zXC "java/lang/UnsupportedOperationException" sz) 1 6 (zq sz) := by
  refine vx_ofW (cc := cX6_turn) (maxL := 4) (ret := (some .int)) (by decide) rfl ?_
  intro p e s m args below meth c s₁ B hml hnt hv
  obtain ⟨rfl, hsz, hP, hK, hE⟩ := hv
  have hx := B.exec
  have hb := B.bytes
  have hr := B.returns
  have hts := atoms_spec (ws := wsX6_turn) B.pre
  have hown : s.vm.findClass RX6 = some m.cls := findClass_of_methodNamed B.named
  have hlocks := B.notSynchronized
  subst hsz
  have hi6 : ∀ w ∈ u_ws RX6 TX6 9, w ∈ wsX6_turn := by decide +kernel
  have hA : ∀ q : Nat, s.heap.size ≤ q → zq s.heap.size q := fun q h => h
  have hS : va_S (zq s.heap.size) s.heap s.heap [] := va_S.rf
  have hl := lv_entry ([.ref o, .int w]) (n := 4) (Nat.le_of_ble_eq_true rfl)
  rw [lg_entry_eq]
  generalize (lg_sl ([.ref o, .int w]) ++ List.replicate (4 - (lg_sl ([.ref o, .int w])).length) Slot.unset).toArray = ls at hl ⊢
  have hl : lv_has ls 4 [(0, .ref o), (1, .int w)] := hl
  refine lv_aload_n hx hb dX6_turn_0 rfl (lv_at hl 0 rfl) ?_
  refine z_callx (vx_runV (As := []) (rest := []) ⟨hx, hb, hml, hown, hts⟩ (x_theDisc l dC dI s.heap.size cI cC o a0 a1 a2 tc nc ad hfl) (cwV 0 hts gX6_turn_X6_theDisc rfl rfl rfl (by decide +kernel) ⟨Nat.le_of_ble_eq_true rfl, Nat.le_of_ble_eq_true rfl⟩) ⟨zfbX, va_recv hK hP (ci := 6) (q0 := 0) rfl rfl, zpreX (hP.sub (ws' := [(o, .inr (6, [.ref a0, .int tc, .ref a1, .int (nI nc), .null, .int 40, .int 48, .int 0, .ref a2]))]) [0] rfl) (hK.sub (tys' := [(cI, .int), (cC, (.object RX0))]) [0, 1] rfl) hE hS hA⟩ rfl rfl hl.1 rfl (lv_room (Nat.le_of_ble_eq_true rfl)) dX6_turn_1 ⟨Nat.le_of_ble_eq_true rfl, Nat.le_of_ble_eq_true rfl⟩) hS hA (fun ce q9 H1 locs hz1 hk1 hS hce hcv hcl => ?_)
  exact z_out hnt hlocks hce hcv hcl hS (Nat.le_of_ble_eq_true rfl) (Nat.le_of_ble_eq_true rfl)

set_option maxHeartbeats 4000000 in
set_option maxRecDepth 100000 in
/-- type(256) -/
theorem x_type (l : Launch) (dC : Nat → ClassId) (dI : Nat → Nat → Nat) (sz : Nat) (cI cC : ClassId) (o a0 a1 a2 : Nat) (tc : Int32) (nc : Nat) (ad : Nat → Option Nat) (hfl : l.stackTraces = false) : vx_Met l yX6_type wsX6_type ({ frames := 6, cells := 1, slots := 6, locals := 90 }) (va_Pc [.ref o, .int 256] (zPcX (dC, dI) [(o, .inr (6, [.ref a0, .int tc, .ref a1, .int (nI nc), .null, .int 40, .int 48, .int 0, .ref a2]))] [(cI, .int), (cC, (.object RX0))] sz)) zNoQ (zXC "java/lang/IllegalArgumentException" sz) 1 6 (zq sz) := by
  refine vx_ofW (cc := cX6_type) (maxL := 2) (ret := (some .int)) (by decide) rfl ?_
  intro p e s m args below meth c s₁ B hml hnt hv
  obtain ⟨rfl, hsz, hP, hK, hE⟩ := hv
  have hx := B.exec
  have hb := B.bytes
  have hr := B.returns
  have hts := atoms_spec (ws := wsX6_type) B.pre
  have hown : s.vm.findClass RX6 = some m.cls := findClass_of_methodNamed B.named
  have hlocks := B.notSynchronized
  subst hsz
  have hi6 : ∀ w ∈ u_ws RX6 TX6 9, w ∈ wsX6_type := by decide +kernel
  have hA : ∀ q : Nat, s.heap.size ≤ q → zq s.heap.size q := fun q h => h
  have hS : va_S (zq s.heap.size) s.heap s.heap [] := va_S.rf
  have hl := lv_entry ([.ref o, .int 256]) (n := 2) (Nat.le_of_ble_eq_true rfl)
  rw [lg_entry_eq]
  generalize (lg_sl ([.ref o, .int 256]) ++ List.replicate (2 - (lg_sl ([.ref o, .int 256])).length) Slot.unset).toArray = ls at hl ⊢
  have hl : lv_has ls 2 [(0, .ref o), (1, .int 256)] := hl
  refine lv_iload_n hx hb dX6_type_0 rfl (lv_at hl 1 rfl) ?_
  refine lv_iconst (v := 0) hx hb dX6_type_1 (by decide) ?_
  refine lv_sipush (v := 255) hx hb dX6_type_2 (by decide) ?_
  refine va_calli (va_runS (As := [.int 256, .int 0, .int 255]) (rest := []) ⟨hx, hb, hml, hown, hts⟩ (k_isWithin l dC dI s.heap.size 256 0 255) (va_cwS 3 hts gX6_type_X6_isWithin rfl rfl rfl (by decide +kernel) ⟨Nat.le_of_ble_eq_true rfl, Nat.le_of_ble_eq_true rfl⟩) ⟨zfb, zpre (hP.sub (ws' := []) [] rfl) (hK.sub (tys' := []) [] rfl)⟩ rfl rfl hl.1 rfl (lv_room (Nat.le_of_ble_eq_true rfl)) dX6_type_5 ⟨Nat.le_of_ble_eq_true rfl, Nat.le_of_ble_eq_true rfl⟩) hS (fun q h1 h2 => absurd h2 (Nat.not_le.mpr h1)) (fun q h => hA q (Nat.le_trans hS.1 h)) (fun r9 u9 t9 H1 locs ht hvm hw hB hz1 hk1 hS => ?_)
  have hw : r9 = zb (decide ((0 : Int32) ≤ 256) && decide (256 ≤ 255)) := hw
  subst hw
  have hP := zr_keep hP hk1
  clear hk1 hz1 hB ht hvm
  refine zt_top (y := 0) (by decide) ?_
  refine lv_if_ne (tgt := 21) hx hb dX6_type_8 (by decide) (fun c => absurd c (fun q => q rfl)) (fun c8 => ?_)
  obtain ⟨sa, hsa⟩ := hE.2.1 (39, "a word is 0 to 255") (List.mem_of_getElem? (i := 0) rfl)
  exact vx_throwS hx hb hfl (own := RX6) (cls := "java/lang/IllegalArgumentException") (names := ["java/lang/RuntimeException", "java/lang/Exception"]) (ik := 37) (is := 39) (ic := 41) (A := zq s.heap.size) hown (by decide) (by decide) (hts (.classLink RX6 37 "java/lang/IllegalArgumentException") (List.mem_of_getElem? (i := 1) rfl)) (hts (.initialized "java/lang/IllegalArgumentException") (List.mem_of_getElem? (i := 2) rfl)) hsa (zg_of (fun w hw => hts w (List.mem_cons_of_mem _ (List.mem_append_left _ (List.mem_append_right _ hw)))) zg_IAE hE.2.2.1) zo_IAE hE.1.1 hE.1.2 hS (hl.1.trans hml.symm) dX6_type_11 dX6_type_14 dX6_type_15 dX6_type_17 dX6_type_20 (fun x hx => (hnt x hx).elim) (Nat.le_of_ble_eq_true rfl) (Nat.le_of_ble_eq_true rfl) (Nat.le_of_ble_eq_true rfl) (Nat.le_of_ble_eq_true rfl) hlocks (z_hx hS) hS.2.2 (Nat.le_of_ble_eq_true rfl) (Nat.le_of_ble_eq_true rfl)

set_option maxHeartbeats 4000000 in
set_option maxRecDepth 100000 in
/-- reflected(w) out of range -/
theorem x_reflected (l : Launch) (dC : Nat → ClassId) (dI : Nat → Nat → Nat) (sz : Nat) (cI cC : ClassId) (o a0 a1 a2 : Nat) (tc : Int32) (nc : Nat) (ad : Nat → Option Nat) (w : Int32) (hfl : l.stackTraces = false) (hwr : (decide ((2 : Int32) ≤ w) && decide (w ≤ 6)) = false) : vx_Met l yX6_reflected wsX6_reflected ({ frames := 6, cells := 1, slots := 6, locals := 90 }) (va_Pc [.ref o, .int w] (zPcX (dC, dI) [(o, .inr (6, [.ref a0, .int tc, .ref a1, .int (nI nc), .null, .int 40, .int 48, .int 0, .ref a2]))] [(cI, .int), (cC, (.object RX0))] sz)) zNoQ (zXC "java/lang/IllegalArgumentException" sz) 1 6 (zq sz) := by
  refine vx_ofW (cc := cX6_reflected) (maxL := 4) (ret := (some .int)) (by decide) rfl ?_
  intro p e s m args below meth c s₁ B hml hnt hv
  obtain ⟨rfl, hsz, hP, hK, hE⟩ := hv
  have hx := B.exec
  have hb := B.bytes
  have hr := B.returns
  have hts := atoms_spec (ws := wsX6_reflected) B.pre
  have hown : s.vm.findClass RX6 = some m.cls := findClass_of_methodNamed B.named
  have hlocks := B.notSynchronized
  subst hsz
  have hi6 : ∀ w ∈ u_ws RX6 TX6 9, w ∈ wsX6_reflected := by decide +kernel
  have hA : ∀ q : Nat, s.heap.size ≤ q → zq s.heap.size q := fun q h => h
  have hS : va_S (zq s.heap.size) s.heap s.heap [] := va_S.rf
  have hl := lv_entry ([.ref o, .int w]) (n := 4) (Nat.le_of_ble_eq_true rfl)
  rw [lg_entry_eq]
  generalize (lg_sl ([.ref o, .int w]) ++ List.replicate (4 - (lg_sl ([.ref o, .int w])).length) Slot.unset).toArray = ls at hl ⊢
  have hl : lv_has ls 4 [(0, .ref o), (1, .int w)] := hl
  refine lv_iload_n hx hb dX6_reflected_0 rfl (lv_at hl 1 rfl) ?_
  refine lv_iconst (v := 2) hx hb dX6_reflected_1 (by decide) ?_
  refine lv_bipush (v := 6) hx hb dX6_reflected_2 (by decide) ?_
  refine va_calli (va_runS (As := [.int w, .int 2, .int 6]) (rest := []) ⟨hx, hb, hml, hown, hts⟩ (k_isWithin l dC dI s.heap.size w 2 6) (va_cwS 3 hts gX6_reflected_X6_isWithin rfl rfl rfl (by decide +kernel) ⟨Nat.le_of_ble_eq_true rfl, Nat.le_of_ble_eq_true rfl⟩) ⟨zfb, zpre (hP.sub (ws' := []) [] rfl) (hK.sub (tys' := []) [] rfl)⟩ rfl rfl hl.1 rfl (lv_room (Nat.le_of_ble_eq_true rfl)) dX6_reflected_4 ⟨Nat.le_of_ble_eq_true rfl, Nat.le_of_ble_eq_true rfl⟩) hS (fun q h1 h2 => absurd h2 (Nat.not_le.mpr h1)) (fun q h => hA q (Nat.le_trans hS.1 h)) (fun r9 u9 t9 H1 locs ht hvm hw hB hz1 hk1 hS => ?_)
  have hw : r9 = zb (decide ((2 : Int32) ≤ w) && decide (w ≤ 6)) := hw
  subst hw
  have hP := zr_keep hP hk1
  clear hk1 hz1 hB ht hvm
  refine zt_top (y := 0) (by rw [hwr]; rfl) ?_
  refine lv_if_ne (tgt := 20) hx hb dX6_reflected_7 (by decide) (fun c => absurd c (fun q => q rfl)) (fun c7 => ?_)
  obtain ⟨sa, hsa⟩ := hE.2.1 (76, "bits are 2 to 6") (List.mem_of_getElem? (i := 2) rfl)
  exact vx_throwS hx hb hfl (own := RX6) (cls := "java/lang/IllegalArgumentException") (names := ["java/lang/RuntimeException", "java/lang/Exception"]) (ik := 37) (is := 76) (ic := 41) (A := zq s.heap.size) hown (by decide) (by decide) (hts (.classLink RX6 37 "java/lang/IllegalArgumentException") (List.mem_of_getElem? (i := 1) rfl)) (hts (.initialized "java/lang/IllegalArgumentException") (List.mem_of_getElem? (i := 2) rfl)) hsa (zg_of (fun w hw => hts w (List.mem_cons_of_mem _ (List.mem_append_left _ (List.mem_append_right _ hw)))) zg_IAE hE.2.2.1) zo_IAE hE.1.1 hE.1.2 hS (hl.1.trans hml.symm) dX6_reflected_10 dX6_reflected_13 dX6_reflected_14 dX6_reflected_16 dX6_reflected_19 (fun x hx => (hnt x hx).elim) (Nat.le_of_ble_eq_true rfl) (Nat.le_of_ble_eq_true rfl) (Nat.le_of_ble_eq_true rfl) (Nat.le_of_ble_eq_true rfl) hlocks (z_hx hS) hS.2.2 (Nat.le_of_ble_eq_true rfl) (Nat.le_of_ble_eq_true rfl)
end
section
/-! more pictures: bit counts, rings, new arrays -/
theorem z_fnC {cA : ClassId} {n : Nat} {f g : Nat → Int32} (h : ∀ j, j < n → f j = g j) : vp_cell cA (n, .inl f) = vp_cell cA (n, .inl g) := by
  have e : (fun j : Fin n => Value.int (f j.val)) = (fun j : Fin n => Value.int (g j.val)) := funext (fun j => by rw [h j.val j.isLt])
  exact congrArg (fun z => ({ cls := cA, slots := Array.ofFn z, vm := .none } : Cell)) e
theorem z_fn {D : va_G} {cl : List vw_C} {A : Nat → Prop} {ws : va_W} {H : Heap} {cA : ClassId} {a n : Nat} {f g : Nat → Int32} (hP : va_P D cl ws H) (hD : va_D A ws) (k : Nat) (hk : ws[k]? = some (a, .inl (cA, n, .inl f))) (h : ∀ j, j < n → f j = g j) : va_P D cl (ws.set k (a, .inl (cA, n, .inl g))) H ∧ va_D A (ws.set k (a, .inl (cA, n, .inl g))) :=
  ⟨hP.set hD hk (by
    show H[a]? = some (vp_cell cA (n, .inl g))
    rw [← z_fnC h]; exact hP k _ hk) (fun _ _ => rfl), hD.set hk⟩
/-- Integer.bitCount, as the machine goes -/
def zbc (x : Int32) : Int32 :=
  let a := x - ((x.toUInt32 >>> ((1 : Int32).toUInt32 &&& Int32.toUInt32 31)).toInt32 &&& 1431655765)
  let b := (a &&& 858993459) + ((a.toUInt32 >>> ((2 : Int32).toUInt32 &&& Int32.toUInt32 31)).toInt32 &&& 858993459)
  let c := (b + (b.toUInt32 >>> ((4 : Int32).toUInt32 &&& Int32.toUInt32 31)).toInt32) &&& 252645135
  let d := c + (c.toUInt32 >>> ((8 : Int32).toUInt32 &&& Int32.toUInt32 31)).toInt32
  let e := d + (d.toUInt32 >>> ((16 : Int32).toUInt32 &&& Int32.toUInt32 31)).toInt32
  e &&& 63
/-- the place behind k of w places, all around -/
def znx (w k : Nat) : Nat := if k + 1 < w then k + 1 else 0
/-- each word and the next one differ by one bit -/
def zrg (f : Nat → Int32) (w : Nat) : Bool := zal (fun k => decide (zbc (f k ^^^ f (znx w k)) = 1)) w
/-- the word at k is unlike those behind it -/
def zdr (f : Nat → Int32) (w k : Nat) : Bool := zal (fun j => decide (j ≤ k) || decide (¬ f k = f j)) w
def zds (f : Nat → Int32) (w : Nat) : Bool := zal (fun k => zdr f w k) w
def ztg (f : Nat → Int32) (w : Nat) : Bool := decide (4 ≤ w) && (zrg f w && zds f w)
theorem zal_t {p : Nat → Bool} {n : Nat} (h : ∀ k, k < n → p k = true) : zal p n = true := zal_all.mpr h

set_option maxHeartbeats 4000000 in
set_option maxRecDepth 100000 in
/-- Integer.bitCount(x) -/
theorem k_bitCount (l : Launch) (dC : Nat → ClassId) (dI : Nat → Nat → Nat) (sz : Nat) (x : Int32) : Met l yJ6_bitCount_0f7a4 wsJ6_bitCount_0f7a4 ({ frames := 0, cells := 0, slots := 0, locals := 0 }) (va_Pc [.int x] (zPc (dC, dI) [] [] sz)) (va_Qi (fun (r : Int32) (_ : Unit) => r = zbc x) (fun _ _ => True) (zq sz)) 0 0 (zq sz) := by
  refine Met.ofW (cc := cJ6_bitCount_0f7a4) (maxL := 1) (ret := (some .int)) (by decide) rfl ?_
  intro p e s m args below meth c s₁ B hml hv
  obtain ⟨rfl, hsz, hP, hK⟩ := hv
  have hx := B.exec
  have hb := B.bytes
  have hr := B.returns
  have hts := atoms_spec (ws := wsJ6_bitCount_0f7a4) B.pre
  have hown : s.vm.findClass RJ6 = some m.cls := findClass_of_methodNamed B.named
  have hlocks := B.notSynchronized
  subst hsz
  have hA : ∀ q : Nat, s.heap.size ≤ q → zq s.heap.size q := fun q h => h
  have hS : va_S (zq s.heap.size) s.heap s.heap [] := va_S.rf
  have hl := lv_entry ([.int x]) (n := 1) (Nat.le_of_ble_eq_true rfl)
  rw [lg_entry_eq]
  generalize (lg_sl ([.int x]) ++ List.replicate (1 - (lg_sl ([.int x])).length) Slot.unset).toArray = ls at hl ⊢
  have hl : lv_has ls 1 [(0, .int x)] := hl
  refine lv_iload_n hx hb dJ6_bitCount_0f7a4_0 rfl (lv_at hl 0 rfl) ?_
  refine lv_iload_n hx hb dJ6_bitCount_0f7a4_1 rfl (lv_at hl 0 rfl) ?_
  refine lv_iconst (v := 1) hx hb dJ6_bitCount_0f7a4_2 (by decide) ?_
  refine lv_iushr (v := (x.toUInt32 >>> ((1 : Int32).toUInt32 &&& Int32.toUInt32 31)).toInt32) hx hb dJ6_bitCount_0f7a4_3 rfl ?_
  refine lv_ldcw hx hb hown (hts (.constant RJ6 265 (1431655765)) (List.mem_of_getElem? (i := 1) rfl)) dJ6_bitCount_0f7a4_4 ?_
  refine lv_iand hx hb dJ6_bitCount_0f7a4_7 ?_
  refine lv_isub hx hb dJ6_bitCount_0f7a4_8 ?_
  refine lv_topi (fun x1 ex1 => ?_)
  refine lv_istore_n (lv' := [(0, .int x1)]) hx hb dJ6_bitCount_0f7a4_9 rfl hl (by decide) rfl (fun ls hl => ?_)
  refine lv_iload_n hx hb dJ6_bitCount_0f7a4_10 rfl (lv_at hl 0 rfl) ?_
  refine lv_ldcw hx hb hown (hts (.constant RJ6 266 (858993459)) (List.mem_of_getElem? (i := 2) rfl)) dJ6_bitCount_0f7a4_11 ?_
  refine lv_iand hx hb dJ6_bitCount_0f7a4_14 ?_
  refine lv_iload_n hx hb dJ6_bitCount_0f7a4_15 rfl (lv_at hl 0 rfl) ?_
  refine lv_iconst (v := 2) hx hb dJ6_bitCount_0f7a4_16 (by decide) ?_
  refine lv_iushr (v := (x1.toUInt32 >>> ((2 : Int32).toUInt32 &&& Int32.toUInt32 31)).toInt32) hx hb dJ6_bitCount_0f7a4_17 rfl ?_
  refine lv_ldcw hx hb hown (hts (.constant RJ6 266 (858993459)) (List.mem_of_getElem? (i := 2) rfl)) dJ6_bitCount_0f7a4_18 ?_
  refine lv_iand hx hb dJ6_bitCount_0f7a4_21 ?_
  refine lv_iadd hx hb dJ6_bitCount_0f7a4_22 ?_
  refine lv_topi (fun x2 ex2 => ?_)
  refine lv_istore_n (lv' := [(0, .int x2)]) hx hb dJ6_bitCount_0f7a4_23 rfl hl (by decide) rfl (fun ls hl => ?_)
  refine lv_iload_n hx hb dJ6_bitCount_0f7a4_24 rfl (lv_at hl 0 rfl) ?_
  refine lv_iload_n hx hb dJ6_bitCount_0f7a4_25 rfl (lv_at hl 0 rfl) ?_
  refine lv_iconst (v := 4) hx hb dJ6_bitCount_0f7a4_26 (by decide) ?_
  refine lv_iushr (v := (x2.toUInt32 >>> ((4 : Int32).toUInt32 &&& Int32.toUInt32 31)).toInt32) hx hb dJ6_bitCount_0f7a4_27 rfl ?_
  refine lv_iadd hx hb dJ6_bitCount_0f7a4_28 ?_
  refine lv_ldcw hx hb hown (hts (.constant RJ6 267 (252645135)) (List.mem_of_getElem? (i := 3) rfl)) dJ6_bitCount_0f7a4_29 ?_
  refine lv_iand hx hb dJ6_bitCount_0f7a4_32 ?_
  refine lv_topi (fun x3 ex3 => ?_)
  refine lv_istore_n (lv' := [(0, .int x3)]) hx hb dJ6_bitCount_0f7a4_33 rfl hl (by decide) rfl (fun ls hl => ?_)
  refine lv_iload_n hx hb dJ6_bitCount_0f7a4_34 rfl (lv_at hl 0 rfl) ?_
  refine lv_iload_n hx hb dJ6_bitCount_0f7a4_35 rfl (lv_at hl 0 rfl) ?_
  refine lv_bipush (v := 8) hx hb dJ6_bitCount_0f7a4_36 (by decide) ?_
  refine lv_iushr (v := (x3.toUInt32 >>> ((8 : Int32).toUInt32 &&& Int32.toUInt32 31)).toInt32) hx hb dJ6_bitCount_0f7a4_38 rfl ?_
  refine lv_iadd hx hb dJ6_bitCount_0f7a4_39 ?_
  refine lv_topi (fun x4 ex4 => ?_)
  refine lv_istore_n (lv' := [(0, .int x4)]) hx hb dJ6_bitCount_0f7a4_40 rfl hl (by decide) rfl (fun ls hl => ?_)
  refine lv_iload_n hx hb dJ6_bitCount_0f7a4_41 rfl (lv_at hl 0 rfl) ?_
  refine lv_iload_n hx hb dJ6_bitCount_0f7a4_42 rfl (lv_at hl 0 rfl) ?_
  refine lv_bipush (v := 16) hx hb dJ6_bitCount_0f7a4_43 (by decide) ?_
  refine lv_iushr (v := (x4.toUInt32 >>> ((16 : Int32).toUInt32 &&& Int32.toUInt32 31)).toInt32) hx hb dJ6_bitCount_0f7a4_45 rfl ?_
  refine lv_iadd hx hb dJ6_bitCount_0f7a4_46 ?_
  refine lv_topi (fun x5 ex5 => ?_)
  refine lv_istore_n (lv' := [(0, .int x5)]) hx hb dJ6_bitCount_0f7a4_47 rfl hl (by decide) rfl (fun ls hl => ?_)
  refine lv_iload_n hx hb dJ6_bitCount_0f7a4_48 rfl (lv_at hl 0 rfl) ?_
  refine lv_bipush (v := 63) hx hb dJ6_bitCount_0f7a4_49 (by decide) ?_
  refine lv_iand hx hb dJ6_bitCount_0f7a4_51 ?_
  exact W.iret (v := (x5 &&& 63)) hx hb hr (fun t9 ht hW => ⟨⟨_, (), rfl, by rw [ex5, ex4, ex3, ex2, ex1]; rfl, trivial⟩, hS.F ht⟩) hS.2.2 dJ6_bitCount_0f7a4_52

set_option maxHeartbeats 4000000 in
set_option maxRecDepth 100000 in
/-- isRing(words, w) -/
theorem k_isRing (l : Launch) (dC : Nat → ClassId) (dI : Nat → Nat → Nat) (sz : Nat) (cI : ClassId) (h1 n : Nat) (f : Nat → Int32) (w : Nat) (hwn : w ≤ n) (hn : n < 2 ^ 30) : Met l yX6_isRing wsX6_isRing ({ frames := 1, cells := 0, slots := 0, locals := 20 }) (va_Pc [.ref h1, .int (nI w)] (zPc (dC, dI) [(h1, .inl (cI, n, .inl f))] [(cI, .int)] sz)) (va_Qi (fun (r : Int32) (_ : Unit) => r = zb (zrg f w)) (fun _ _ => True) (zq sz)) 0 0 (zq sz) := by
  refine Met.ofW (cc := cX6_isRing) (maxL := 4) (ret := (some .boolean)) (by decide) rfl ?_
  intro p e s m args below meth c s₁ B hml hv
  obtain ⟨rfl, hsz, hP, hK⟩ := hv
  have hx := B.exec
  have hb := B.bytes
  have hr := B.returns
  have hts := atoms_spec (ws := wsX6_isRing) B.pre
  have hown : s.vm.findClass RX6 = some m.cls := findClass_of_methodNamed B.named
  have hlocks := B.notSynchronized
  subst hsz
  have hA : ∀ q : Nat, s.heap.size ≤ q → zq s.heap.size q := fun q h => h
  have hS : va_S (zq s.heap.size) s.heap s.heap [] := va_S.rf
  have hl := lv_entry ([.ref h1, .int (nI w)]) (n := 4) (Nat.le_of_ble_eq_true rfl)
  rw [lg_entry_eq]
  generalize (lg_sl ([.ref h1, .int (nI w)]) ++ List.replicate (4 - (lg_sl ([.ref h1, .int (nI w)])).length) Slot.unset).toArray = ls at hl ⊢
  have hl : lv_has ls 4 [(0, .ref h1), (1, .int (nI w))] := hl
  refine lv_iconst (v := 0) hx hb dX6_isRing_0 (by decide) ?_
  refine lv_istore_n (lv' := [(2, .int 0), (0, .ref h1), (1, .int (nI w))]) hx hb dX6_isRing_1 rfl hl (by decide) rfl (fun ls hl => ?_)
  have loop : ∀ (d : Nat) (k : Nat), w + 1 ≤ k + d → k ≤ w → zal (fun k => decide (zbc (f k ^^^ f (znx w k)) = 1)) k = true → ∀ (H : Heap) (locs : List Loc), va_P (dC, dI) vwCl [(h1, .inl (cI, n, .inl f))] H → va_S (zq s.heap.size) s.heap H locs → ∀ ls : Array Slot, lv_has ls 4 [(0, .ref h1), (1, .int (nI w)), (2, .int (nI k))] → W p l e (headSpec wsX6_isRing ({ frames := 1, cells := 0, slots := 0, locals := 20 })).room s m ([.ref h1, .int (nI w)] : List Value).toArray below meth c H locs 0 0 (MQ below (va_Qi (fun (r : Int32) (_ : Unit) => r = zb (zrg f w)) (fun _ _ => True) (zq s.heap.size)) ([.ref h1, .int (nI w)] : List Value).toArray s 0 0 (zq s.heap.size)) (F0 m 2 ls []) := by
    intro d
    induction d with
    | zero => intro k hd hk hz; exact absurd hd (by omega)
    | succ d ih =>
      intro k hd hk hz H locs hP hS ls hl
      refine lv_iload_n hx hb dX6_isRing_2 rfl (lv_at hl 2 rfl) ?_
      refine lv_iload_n hx hb dX6_isRing_3 rfl (lv_at hl 1 rfl) ?_
      refine lv_icmp_ge (tgt := 58) hx hb dX6_isRing_4 (by decide) (fun c4 => ?_) (fun c4 => ?_)
      · skip
        have hkw : k = w := Nat.le_antisymm hk ((nI_leI (by omega) (by omega)).mp c4)
        refine lv_iconst (v := 1) hx hb dX6_isRing_58 (by decide) ?_
        exact W.zret (v := 1) hx hb hr (by decide) (fun t9 ht hW => ⟨⟨_, (), rfl, by rw [hkw] at hz; rw [show zrg f w = true from hz]; rfl, trivial⟩, hS.F ht⟩) hS.2.2 dX6_isRing_59
      · skip
        have hkw : k < w := Nat.lt_of_not_le (fun q => c4 ((nI_leI (by omega) (by omega)).mpr q))
        refine lv_iload_n hx hb dX6_isRing_7 rfl (lv_at hl 2 rfl) ?_
        refine lv_aload_n hx hb dX6_isRing_8 rfl (lv_at hl 0 rfl) ?_
        refine va_alen (v := (nI n)) hx hb hK hP 0 0 rfl rfl rfl dX6_isRing_9 ?_
        refine lv_icmp_ge (tgt := 58) hx hb dX6_isRing_10 (by decide) (fun c => absurd c (nI_ge (by omega) (by omega))) (fun c10 => ?_)
        refine lv_iload_n hx hb dX6_isRing_13 rfl (lv_at hl 2 rfl) ?_
        refine lv_iconst (v := 1) hx hb dX6_isRing_14 (by decide) ?_
        refine lv_iadd hx hb dX6_isRing_15 ?_
        refine zt_top (y := nI (k + 1)) (nI_1 k) ?_
        refine lv_iload_n hx hb dX6_isRing_16 rfl (lv_at hl 1 rfl) ?_
        refine lv_icmp_ge (tgt := 34) hx hb dX6_isRing_17 (by decide) (fun c17 => ?_) (fun c17 => ?_)
        · skip
          have hnx : znx w k = 0 := if_neg (fun q => absurd ((nI_leI (by omega) (by omega)).mp c17) (by omega))
          refine lv_iconst (v := 0) hx hb dX6_isRing_34 (by decide) ?_
          refine zt_top (y := nI 0) (nI_0.symm) ?_
          refine lv_istore_n (lv' := [(3, .int (nI 0)), (0, .ref h1), (1, .int (nI w)), (2, .int (nI k))]) hx hb dX6_isRing_35 rfl hl (by decide) rfl (fun ls hl => ?_)
          refine lv_aload_n hx hb dX6_isRing_36 rfl (lv_at hl 1 rfl) ?_
          refine lv_iload_n hx hb dX6_isRing_37 rfl (lv_at hl 3 rfl) ?_
          refine va_iald hx hb hK hP 0 0 rfl rfl (vp_in_nI (by omega) (by omega)) dX6_isRing_38 ?_
          refine zt_top (y := f k) (by rw [nI_clamp (by omega)]) ?_
          refine lv_aload_n hx hb dX6_isRing_39 rfl (lv_at hl 1 rfl) ?_
          refine lv_iload_n hx hb dX6_isRing_40 rfl (lv_at hl 0 rfl) ?_
          refine va_iald hx hb hK hP 0 0 rfl rfl (vp_in_nI (by omega) (by omega)) dX6_isRing_41 ?_
          refine zt_top (y := f (znx w k)) (by rw [nI_clamp (by omega), hnx]) ?_
          refine lv_ixor hx hb dX6_isRing_42 ?_
          refine va_calli (va_runS (As := [.int ((f k) ^^^ (f (znx w k)))]) (rest := []) ⟨hx, hb, hml, hown, hts⟩ (k_bitCount l dC dI H.size ((f k) ^^^ (f (znx w k)))) (va_cwS 1 hts gX6_isRing_J6_bitCount_0f7a4 rfl rfl rfl (by decide +kernel) ⟨Nat.le_of_ble_eq_true rfl, Nat.le_of_ble_eq_true rfl⟩) ⟨zfb, zpre (hP.sub (ws' := []) [] rfl) (hK.sub (tys' := []) [] rfl)⟩ rfl rfl hl.1 rfl (lv_room (Nat.le_of_ble_eq_true rfl)) dX6_isRing_43 ⟨Nat.le_of_ble_eq_true rfl, Nat.le_of_ble_eq_true rfl⟩) hS (fun q h1 h2 => absurd h2 (Nat.not_le.mpr h1)) (fun q h => hA q (Nat.le_trans hS.1 h)) (fun r9 u9 t9 H1 locs ht hvm hw hB hz1 hk1 hS => ?_)
          have hw : r9 = zbc ((f k) ^^^ (f (znx w k))) := hw
          subst hw
          have hP := zr_keep hP hk1
          clear hk1 hz1 hB ht hvm hw
          refine lv_iconst (v := 1) hx hb dX6_isRing_46 (by decide) ?_
          refine lv_icmp_eq (tgt := 52) hx hb dX6_isRing_47 (by decide) (fun c47 => ?_) (fun c47 => ?_)
          · skip
            have ec : zal (fun k => decide (zbc (f k ^^^ f (znx w k)) = 1)) (k + 1) = true := zal_s hz (decide_eq_true c47)
            refine lv_iinc (v := nI (k + 1)) (lv' := [(2, .int (nI (k + 1))), (3, .int (nI 0)), (0, .ref h1), (1, .int (nI w))]) hx hb dX6_isRing_52 hl (k := 3) rfl (nI_1 k) (by decide) rfl (fun ls hl => ?_)
            refine lv_goto (tgt := 2) hx hb dX6_isRing_55 (by decide) ?_
            exact ih (k + 1) (by omega) (by omega) ec _ _ hP hS ls (lv_sub hl [2, 3, 0] rfl)
          · skip
            have ec : zrg f w = false := zal_f hkw (decide_eq_false c47)
            refine lv_iconst (v := 0) hx hb dX6_isRing_50 (by decide) ?_
            exact W.zret (v := 0) hx hb hr (by decide) (fun t9 ht hW => ⟨⟨_, (), rfl, by rw [ec]; rfl, trivial⟩, hS.F ht⟩) hS.2.2 dX6_isRing_51
        · skip
          have hk1w : k + 1 < w := Nat.lt_of_not_le (fun q => c17 ((nI_leI (by omega) (by omega)).mpr q))
          have hnx : znx w k = k + 1 := if_pos hk1w
          refine lv_iload_n hx hb dX6_isRing_20 rfl (lv_at hl 2 rfl) ?_
          refine lv_iconst (v := 1) hx hb dX6_isRing_21 (by decide) ?_
          refine lv_iadd hx hb dX6_isRing_22 ?_
          refine zt_top (y := nI (k + 1)) (nI_1 k) ?_
          refine lv_aload_n hx hb dX6_isRing_23 rfl (lv_at hl 0 rfl) ?_
          refine va_alen (v := (nI n)) hx hb hK hP 0 0 rfl rfl rfl dX6_isRing_24 ?_
          refine lv_icmp_ge (tgt := 34) hx hb dX6_isRing_25 (by decide) (fun c => absurd c (nI_ge (by omega) (by omega))) (fun c25 => ?_)
          refine lv_iload_n hx hb dX6_isRing_28 rfl (lv_at hl 2 rfl) ?_
          refine lv_iconst (v := 1) hx hb dX6_isRing_29 (by decide) ?_
          refine lv_iadd hx hb dX6_isRing_30 ?_
          refine zt_top (y := nI (k + 1)) (nI_1 k) ?_
          refine lv_goto (tgt := 35) hx hb dX6_isRing_31 (by decide) ?_
          refine lv_istore_n (lv' := [(3, .int (nI (k + 1))), (0, .ref h1), (1, .int (nI w)), (2, .int (nI k))]) hx hb dX6_isRing_35 rfl hl (by decide) rfl (fun ls hl => ?_)
          refine lv_aload_n hx hb dX6_isRing_36 rfl (lv_at hl 1 rfl) ?_
          refine lv_iload_n hx hb dX6_isRing_37 rfl (lv_at hl 3 rfl) ?_
          refine va_iald hx hb hK hP 0 0 rfl rfl (vp_in_nI (by omega) (by omega)) dX6_isRing_38 ?_
          refine zt_top (y := f k) (by rw [nI_clamp (by omega)]) ?_
          refine lv_aload_n hx hb dX6_isRing_39 rfl (lv_at hl 1 rfl) ?_
          refine lv_iload_n hx hb dX6_isRing_40 rfl (lv_at hl 0 rfl) ?_
          refine va_iald hx hb hK hP 0 0 rfl rfl (vp_in_nI (by omega) (by omega)) dX6_isRing_41 ?_
          refine zt_top (y := f (znx w k)) (by rw [nI_clamp (by omega), hnx]) ?_
          refine lv_ixor hx hb dX6_isRing_42 ?_
          refine va_calli (va_runS (As := [.int ((f k) ^^^ (f (znx w k)))]) (rest := []) ⟨hx, hb, hml, hown, hts⟩ (k_bitCount l dC dI H.size ((f k) ^^^ (f (znx w k)))) (va_cwS 1 hts gX6_isRing_J6_bitCount_0f7a4 rfl rfl rfl (by decide +kernel) ⟨Nat.le_of_ble_eq_true rfl, Nat.le_of_ble_eq_true rfl⟩) ⟨zfb, zpre (hP.sub (ws' := []) [] rfl) (hK.sub (tys' := []) [] rfl)⟩ rfl rfl hl.1 rfl (lv_room (Nat.le_of_ble_eq_true rfl)) dX6_isRing_43 ⟨Nat.le_of_ble_eq_true rfl, Nat.le_of_ble_eq_true rfl⟩) hS (fun q h1 h2 => absurd h2 (Nat.not_le.mpr h1)) (fun q h => hA q (Nat.le_trans hS.1 h)) (fun r9 u9 t9 H1 locs ht hvm hw hB hz1 hk1 hS => ?_)
          have hw : r9 = zbc ((f k) ^^^ (f (znx w k))) := hw
          subst hw
          have hP := zr_keep hP hk1
          clear hk1 hz1 hB ht hvm hw
          refine lv_iconst (v := 1) hx hb dX6_isRing_46 (by decide) ?_
          refine lv_icmp_eq (tgt := 52) hx hb dX6_isRing_47 (by decide) (fun c47 => ?_) (fun c47 => ?_)
          · skip
            have ec : zal (fun k => decide (zbc (f k ^^^ f (znx w k)) = 1)) (k + 1) = true := zal_s hz (decide_eq_true c47)
            refine lv_iinc (v := nI (k + 1)) (lv' := [(2, .int (nI (k + 1))), (3, .int (nI (k + 1))), (0, .ref h1), (1, .int (nI w))]) hx hb dX6_isRing_52 hl (k := 3) rfl (nI_1 k) (by decide) rfl (fun ls hl => ?_)
            refine lv_goto (tgt := 2) hx hb dX6_isRing_55 (by decide) ?_
            exact ih (k + 1) (by omega) (by omega) ec _ _ hP hS ls (lv_sub hl [2, 3, 0] rfl)
          · skip
            have ec : zrg f w = false := zal_f hkw (decide_eq_false c47)
            refine lv_iconst (v := 0) hx hb dX6_isRing_50 (by decide) ?_
            exact W.zret (v := 0) hx hb hr (by decide) (fun t9 ht hW => ⟨⟨_, (), rfl, by rw [ec]; rfl, trivial⟩, hS.F ht⟩) hS.2.2 dX6_isRing_51
  exact loop (w + 1) 0 (by omega) (Nat.zero_le _) rfl _ _ hP hS ls (lv_sub hl [1, 2, 0] rfl)

set_option maxHeartbeats 4000000 in
set_option maxRecDepth 100000 in
/-- typedIsRing() -/
theorem k_typedIsRing (l : Launch) (dC : Nat → ClassId) (dI : Nat → Nat → Nat) (sz : Nat) (cI cC : ClassId) (o a0 a1 a2 : Nat) (w nc : Nat) (f : Nat → Int32) (hwm : w ≤ 64) : Met l yX6_typedIsRing wsX6_typedIsRing ({ frames := 2, cells := 0, slots := 0, locals := 43 }) (va_Pc [.ref o] (zPc (dC, dI) [(o, .inr (6, [.ref a0, .int (nI w), .ref a1, .int (nI nc), .null, .int 40, .int 48, .int 0, .ref a2])), (a0, .inl (cI, 64, .inl f))] [(cI, .int), (cC, (.object RX0))] sz)) (va_Qi (fun (r : Int32) (_ : Unit) => r = zb (ztg f w)) (fun _ _ => True) (zq sz)) 0 0 (zq sz) := by
  refine Met.ofW (cc := cX6_typedIsRing) (maxL := 3) (ret := (some .boolean)) (by decide) rfl ?_
  intro p e s m args below meth c s₁ B hml hv
  obtain ⟨rfl, hsz, hP, hK⟩ := hv
  have hx := B.exec
  have hb := B.bytes
  have hr := B.returns
  have hts := atoms_spec (ws := wsX6_typedIsRing) B.pre
  have hown : s.vm.findClass RX6 = some m.cls := findClass_of_methodNamed B.named
  have hlocks := B.notSynchronized
  subst hsz
  have hi6 : ∀ w ∈ u_ws RX6 TX6 9, w ∈ wsX6_typedIsRing := by decide +kernel
  have hA : ∀ q : Nat, s.heap.size ≤ q → zq s.heap.size q := fun q h => h
  have hS : va_S (zq s.heap.size) s.heap s.heap [] := va_S.rf
  have hl := lv_entry ([.ref o]) (n := 3) (Nat.le_of_ble_eq_true rfl)
  rw [lg_entry_eq]
  generalize (lg_sl ([.ref o]) ++ List.replicate (3 - (lg_sl ([.ref o])).length) Slot.unset).toArray = ls at hl ⊢
  have hl : lv_has ls 3 [(0, .ref o)] := hl
  refine lv_aload_n hx hb dX6_typedIsRing_0 rfl (lv_at hl 0 rfl) ?_
  refine va_get (D := (dC, dI)) (ci := 6) (v := .int (nI w)) (C := RX6) (T := TX6) (N := 9) hx hb hts hi6 hown hK hP 0 rfl rfl 1 (by decide) (hts (.fieldLink RX6 44 "Ringtrack" "typedCount" "I") (List.mem_of_getElem? (i := 1) rfl)) (fun _ h9 => h9) rfl dX6_typedIsRing_1 ?_
  refine lv_iconst (v := 4) hx hb dX6_typedIsRing_4 (by decide) ?_
  refine lv_icmp_lt (tgt := 22) hx hb dX6_typedIsRing_5 (by decide) (fun c5 => ?_) (fun c5 => ?_)
  · skip
    have h4 : ztg f w = false := by unfold ztg; rw [decide_eq_false (fun q => absurd ((nI_ltI (b := 4) (by omega) (by decide)).mp c5) (by omega))]; rfl
    refine lv_iconst (v := 0) hx hb dX6_typedIsRing_22 (by decide) ?_
    exact W.zret (v := 0) hx hb hr (by decide) (fun t9 ht hW => ⟨⟨_, (), rfl, by rw [h4]; rfl, trivial⟩, hS.F ht⟩) hS.2.2 dX6_typedIsRing_23
  · skip
    have h4 : 4 ≤ w := Nat.le_of_not_lt (fun q => c5 ((nI_ltI (b := 4) (by omega) (by decide)).mpr q))
    refine lv_aload_n hx hb dX6_typedIsRing_8 rfl (lv_at hl 0 rfl) ?_
    refine va_get (D := (dC, dI)) (ci := 6) (v := .ref a0) (C := RX6) (T := TX6) (N := 9) hx hb hts hi6 hown hK hP 0 rfl rfl 0 (by decide) (hts (.fieldLink RX6 9 "Ringtrack" "typed" "[I") (List.mem_of_getElem? (i := 2) rfl)) (fun _ h9 => h9) rfl dX6_typedIsRing_9 ?_
    refine lv_aload_n hx hb dX6_typedIsRing_12 rfl (lv_at hl 0 rfl) ?_
    refine va_get (D := (dC, dI)) (ci := 6) (v := .int (nI w)) (C := RX6) (T := TX6) (N := 9) hx hb hts hi6 hown hK hP 0 rfl rfl 1 (by decide) (hts (.fieldLink RX6 44 "Ringtrack" "typedCount" "I") (List.mem_of_getElem? (i := 1) rfl)) (fun _ h9 => h9) rfl dX6_typedIsRing_13 ?_
    refine va_calli (va_runS (As := [.ref a0, .int (nI w)]) (rest := []) ⟨hx, hb, hml, hown, hts⟩ (k_isRing l dC dI s.heap.size cI a0 64 f w (by omega) (by decide)) (va_cwS 2 hts gX6_typedIsRing_X6_isRing rfl rfl rfl (by decide +kernel) ⟨Nat.le_of_ble_eq_true rfl, Nat.le_of_ble_eq_true rfl⟩) ⟨zfb, zpre (hP.sub (ws' := [(a0, .inl (cI, 64, .inl f))]) [1] rfl) (hK.sub (tys' := [(cI, .int)]) [0] rfl)⟩ rfl rfl hl.1 rfl (lv_room (Nat.le_of_ble_eq_true rfl)) dX6_typedIsRing_16 ⟨Nat.le_of_ble_eq_true rfl, Nat.le_of_ble_eq_true rfl⟩) hS (fun q h1 h2 => absurd h2 (Nat.not_le.mpr h1)) (fun q h => hA q (Nat.le_trans hS.1 h)) (fun r9 u9 t9 H1 locs ht hvm hw hB hz1 hk1 hS => ?_)
    have hw : r9 = zb (zrg f w) := hw
    subst hw
    have hP := zr_keep hP hk1
    clear hk1 hz1 hB ht hvm hw
    refine lv_if_ne (tgt := 24) hx hb dX6_typedIsRing_19 (by decide) (fun c19 => ?_) (fun c19 => ?_)
    · skip
      have h19 : zrg f w = true := zb_n0.mp c19
      refine lv_iconst (v := 0) hx hb dX6_typedIsRing_24 (by decide) ?_
      refine lv_istore_n (lv' := [(1, .int 0), (0, .ref o)]) hx hb dX6_typedIsRing_25 rfl hl (by decide) rfl (fun ls hl => ?_)
      have loop : ∀ (d : Nat) (k : Nat), w + 1 ≤ k + d → k ≤ w → zal (fun k => zdr f w k) k = true → ∀ (H : Heap) (locs : List Loc), va_P (dC, dI) vwCl [(o, .inr (6, [.ref a0, .int (nI w), .ref a1, .int (nI nc), .null, .int 40, .int 48, .int 0, .ref a2])), (a0, .inl (cI, 64, .inl f))] H → va_S (zq s.heap.size) s.heap H locs → ∀ ls : Array Slot, lv_has ls 3 [(0, .ref o), (1, .int (nI k))] → W p l e (headSpec wsX6_typedIsRing ({ frames := 2, cells := 0, slots := 0, locals := 43 })).room s m ([.ref o] : List Value).toArray below meth c H locs 0 0 (MQ below (va_Qi (fun (r : Int32) (_ : Unit) => r = zb (ztg f w)) (fun _ _ => True) (zq s.heap.size)) ([.ref o] : List Value).toArray s 0 0 (zq s.heap.size)) (F0 m 26 ls []) := by
        intro d
        induction d with
        | zero => intro k hd hk hz; exact absurd hd (by omega)
        | succ d ih =>
          intro k hd hk hz H locs hP hS ls hl
          refine lv_iload_n hx hb dX6_typedIsRing_26 rfl (lv_at hl 1 rfl) ?_
          refine lv_aload_n hx hb dX6_typedIsRing_27 rfl (lv_at hl 0 rfl) ?_
          refine va_get (D := (dC, dI)) (ci := 6) (v := .int (nI w)) (C := RX6) (T := TX6) (N := 9) hx hb hts hi6 hown hK hP 0 rfl rfl 1 (by decide) (hts (.fieldLink RX6 44 "Ringtrack" "typedCount" "I") (List.mem_of_getElem? (i := 1) rfl)) (fun _ h9 => h9) rfl dX6_typedIsRing_28 ?_
          refine lv_icmp_ge (tgt := 75) hx hb dX6_typedIsRing_31 (by decide) (fun c31 => ?_) (fun c31 => ?_)
          · skip
            have hkw : k = w := Nat.le_antisymm hk ((nI_leI (by omega) (by omega)).mp c31)
            refine lv_iconst (v := 1) hx hb dX6_typedIsRing_75 (by decide) ?_
            exact W.zret (v := 1) hx hb hr (by decide) (fun t9 ht hW => ⟨⟨_, (), rfl, by rw [hkw] at hz; rw [show ztg f w = true from by unfold ztg; rw [decide_eq_true h4, h19, show zds f w = true from hz]; rfl]; rfl, trivial⟩, hS.F ht⟩) hS.2.2 dX6_typedIsRing_76
          · skip
            have hkw : k < w := Nat.lt_of_not_le (fun q => c31 ((nI_leI (by omega) (by omega)).mpr q))
            refine lv_iload_n hx hb dX6_typedIsRing_34 rfl (lv_at hl 1 rfl) ?_
            refine lv_iconst (v := 1) hx hb dX6_typedIsRing_35 (by decide) ?_
            refine lv_iadd hx hb dX6_typedIsRing_36 ?_
            refine zt_top (y := nI (k + 1)) (nI_1 k) ?_
            refine lv_istore_n (lv' := [(2, .int (nI (k + 1))), (0, .ref o), (1, .int (nI k))]) hx hb dX6_typedIsRing_37 rfl hl (by decide) rfl (fun ls hl => ?_)
            have inner : ∀ (d2 : Nat) (j : Nat), w + 1 ≤ j + d2 → j ≤ w → k + 1 ≤ j → zal (fun j => decide (j ≤ k) || decide (¬ f k = f j)) j = true → ∀ (H : Heap) (locs : List Loc), va_P (dC, dI) vwCl [(o, .inr (6, [.ref a0, .int (nI w), .ref a1, .int (nI nc), .null, .int 40, .int 48, .int 0, .ref a2])), (a0, .inl (cI, 64, .inl f))] H → va_S (zq s.heap.size) s.heap H locs → ∀ ls : Array Slot, lv_has ls 3 [(0, .ref o), (1, .int (nI k)), (2, .int (nI j))] → W p l e (headSpec wsX6_typedIsRing ({ frames := 2, cells := 0, slots := 0, locals := 43 })).room s m ([.ref o] : List Value).toArray below meth c H locs 0 0 (MQ below (va_Qi (fun (r : Int32) (_ : Unit) => r = zb (ztg f w)) (fun _ _ => True) (zq s.heap.size)) ([.ref o] : List Value).toArray s 0 0 (zq s.heap.size)) (F0 m 38 ls []) := by
              intro d2
              induction d2 with
              | zero => intro j hd2 hj hkj hzj; exact absurd hd2 (by omega)
              | succ d2 ihe =>
                intro j hd2 hj hkj hzj H locs hP hS ls hl
                refine lv_iload_n hx hb dX6_typedIsRing_38 rfl (lv_at hl 2 rfl) ?_
                refine lv_aload_n hx hb dX6_typedIsRing_39 rfl (lv_at hl 0 rfl) ?_
                refine va_get (D := (dC, dI)) (ci := 6) (v := .int (nI w)) (C := RX6) (T := TX6) (N := 9) hx hb hts hi6 hown hK hP 0 rfl rfl 1 (by decide) (hts (.fieldLink RX6 44 "Ringtrack" "typedCount" "I") (List.mem_of_getElem? (i := 1) rfl)) (fun _ h9 => h9) rfl dX6_typedIsRing_40 ?_
                refine lv_icmp_ge (tgt := 69) hx hb dX6_typedIsRing_43 (by decide) (fun c43 => ?_) (fun c43 => ?_)
                · skip
                  have hjw : j = w := Nat.le_antisymm hj ((nI_leI (by omega) (by omega)).mp c43)
                  have ec2 : zal (fun k => zdr f w k) (k + 1) = true := zal_s hz (by rw [hjw] at hzj; exact hzj)
                  refine lv_iinc (v := nI (k + 1)) (lv' := [(1, .int (nI (k + 1))), (0, .ref o), (2, .int (nI j))]) hx hb dX6_typedIsRing_69 hl (k := 1) rfl (nI_1 k) (by decide) rfl (fun ls hl => ?_)
                  refine lv_goto (tgt := 26) hx hb dX6_typedIsRing_72 (by decide) ?_
                  exact ih (k + 1) (by omega) (by omega) ec2 _ _ hP hS ls (lv_sub hl [1, 0] rfl)
                · skip
                  have hjw : j < w := Nat.lt_of_not_le (fun q => c43 ((nI_leI (by omega) (by omega)).mpr q))
                  refine lv_aload_n hx hb dX6_typedIsRing_46 rfl (lv_at hl 0 rfl) ?_
                  refine va_get (D := (dC, dI)) (ci := 6) (v := .ref a0) (C := RX6) (T := TX6) (N := 9) hx hb hts hi6 hown hK hP 0 rfl rfl 0 (by decide) (hts (.fieldLink RX6 9 "Ringtrack" "typed" "[I") (List.mem_of_getElem? (i := 2) rfl)) (fun _ h9 => h9) rfl dX6_typedIsRing_47 ?_
                  refine lv_iload_n hx hb dX6_typedIsRing_50 rfl (lv_at hl 1 rfl) ?_
                  refine va_iald hx hb hK hP 1 0 rfl rfl (vp_in_nI (by omega) (by decide)) dX6_typedIsRing_51 ?_
                  refine zt_top (y := f k) (by rw [nI_clamp (by omega)]) ?_
                  refine lv_aload_n hx hb dX6_typedIsRing_52 rfl (lv_at hl 0 rfl) ?_
                  refine va_get (D := (dC, dI)) (ci := 6) (v := .ref a0) (C := RX6) (T := TX6) (N := 9) hx hb hts hi6 hown hK hP 0 rfl rfl 0 (by decide) (hts (.fieldLink RX6 9 "Ringtrack" "typed" "[I") (List.mem_of_getElem? (i := 2) rfl)) (fun _ h9 => h9) rfl dX6_typedIsRing_53 ?_
                  refine lv_iload_n hx hb dX6_typedIsRing_56 rfl (lv_at hl 2 rfl) ?_
                  refine va_iald hx hb hK hP 1 0 rfl rfl (vp_in_nI (by omega) (by decide)) dX6_typedIsRing_57 ?_
                  refine zt_top (y := f j) (by rw [nI_clamp (by omega)]) ?_
                  refine lv_icmp_ne (tgt := 63) hx hb dX6_typedIsRing_58 (by decide) (fun c58 => ?_) (fun c58 => ?_)
                  · skip
                    have ec : zal (fun j => decide (j ≤ k) || decide (¬ f k = f j)) (j + 1) = true := zal_s hzj (by show (_ || decide (¬ f k = f j)) = true; rw [decide_eq_true c58, Bool.or_true])
                    refine lv_iinc (v := nI (j + 1)) (lv' := [(2, .int (nI (j + 1))), (0, .ref o), (1, .int (nI k))]) hx hb dX6_typedIsRing_63 hl (k := 2) rfl (nI_1 j) (by decide) rfl (fun ls hl => ?_)
                    refine lv_goto (tgt := 38) hx hb dX6_typedIsRing_66 (by decide) ?_
                    exact ihe (j + 1) (by omega) (by omega) (by omega) ec _ _ hP hS ls (lv_sub hl [1, 2, 0] rfl)
                  · skip
                    have h5 : ztg f w = false := by
                      have h6 : zdr f w k = false := zal_f hjw (by show (decide (j ≤ k) || decide (¬ f k = f j)) = false; rw [decide_eq_false (not_not_intro c58), decide_eq_false (by omega)]; rfl)
                      have h7 : zds f w = false := zal_f hkw h6
                      unfold ztg; rw [h7, Bool.and_false, Bool.and_false]
                    refine lv_iconst (v := 0) hx hb dX6_typedIsRing_61 (by decide) ?_
                    exact W.zret (v := 0) hx hb hr (by decide) (fun t9 ht hW => ⟨⟨_, (), rfl, by rw [h5]; rfl, trivial⟩, hS.F ht⟩) hS.2.2 dX6_typedIsRing_62
            exact inner (w + 1) (k + 1) (by omega) (by omega) (Nat.le_refl _) (zal_t (fun j hj => by show (decide (j ≤ k) || _) = true; rw [decide_eq_true (by omega)]; rfl)) _ _ hP hS ls (lv_sub hl [1, 2, 0] rfl)
      exact loop (w + 1) 0 (by omega) (Nat.zero_le _) rfl _ _ hP hS ls (lv_sub hl [1, 0] rfl)
    · skip
      have h4 : ztg f w = false := by unfold ztg; rw [zb_0.mp c19, Bool.false_and, Bool.and_false]
      refine lv_iconst (v := 0) hx hb dX6_typedIsRing_22 (by decide) ?_
      exact W.zret (v := 0) hx hb hr (by decide) (fun t9 ht hW => ⟨⟨_, (), rfl, by rw [h4]; rfl, trivial⟩, hS.F ht⟩) hS.2.2 dX6_typedIsRing_23

set_option maxHeartbeats 4000000 in
set_option maxRecDepth 100000 in
/-- ring() of what is no ring -/
theorem x_ring (l : Launch) (dC : Nat → ClassId) (dI : Nat → Nat → Nat) (sz : Nat) (cI cC : ClassId) (o a0 a1 a2 : Nat) (w nc : Nat) (f : Nat → Int32) (hfl : l.stackTraces = false) (hwm : w ≤ 64) (hnr : ztg f w = false) : vx_Met l yX6_ring wsX6_ring ({ frames := 6, cells := 1, slots := 6, locals := 90 }) (va_Pc [.ref o] (zPcX (dC, dI) [(o, .inr (6, [.ref a0, .int (nI w), .ref a1, .int (nI nc), .null, .int 40, .int 48, .int 0, .ref a2])), (a0, .inl (cI, 64, .inl f))] [(cI, .int), (cC, (.object RX0))] sz)) zNoQ (zXC "java/lang/UnsupportedOperationException" sz) 1 6 (zq sz) := by
  refine vx_ofW (cc := cX6_ring) (maxL := 2) (ret := (some .int)) (by decide) rfl ?_
  intro p e s m args below meth c s₁ B hml hnt hv
  obtain ⟨rfl, hsz, hP, hK, hE⟩ := hv
  have hx := B.exec
  have hb := B.bytes
  have hr := B.returns
  have hts := atoms_spec (ws := wsX6_ring) B.pre
  have hown : s.vm.findClass RX6 = some m.cls := findClass_of_methodNamed B.named
  have hlocks := B.notSynchronized
  subst hsz
  have hi6 : ∀ w ∈ u_ws RX6 TX6 9, w ∈ wsX6_ring := by decide +kernel
  have hA : ∀ q : Nat, s.heap.size ≤ q → zq s.heap.size q := fun q h => h
  have hS : va_S (zq s.heap.size) s.heap s.heap [] := va_S.rf
  have hl := lv_entry ([.ref o]) (n := 2) (Nat.le_of_ble_eq_true rfl)
  rw [lg_entry_eq]
  generalize (lg_sl ([.ref o]) ++ List.replicate (2 - (lg_sl ([.ref o])).length) Slot.unset).toArray = ls at hl ⊢
  have hl : lv_has ls 2 [(0, .ref o)] := hl
  refine lv_aload_n hx hb dX6_ring_0 rfl (lv_at hl 0 rfl) ?_
  refine va_calli (va_runV (As := []) (rest := []) ⟨hx, hb, hml, hown, hts⟩ (k_typedIsRing l dC dI s.heap.size cI cC o a0 a1 a2 w nc f hwm) (cwV 0 hts gX6_ring_X6_typedIsRing rfl rfl rfl (by decide +kernel) ⟨Nat.le_of_ble_eq_true rfl, Nat.le_of_ble_eq_true rfl⟩) ⟨zfb, va_recv hK hP (ci := 6) (q0 := 0) rfl rfl, zpre (hP.sub (ws' := [(o, .inr (6, [.ref a0, .int (nI w), .ref a1, .int (nI nc), .null, .int 40, .int 48, .int 0, .ref a2])), (a0, .inl (cI, 64, .inl f))]) [0, 1] rfl) (hK.sub (tys' := [(cI, .int), (cC, (.object RX0))]) [0, 1] rfl)⟩ rfl rfl hl.1 rfl (lv_room (Nat.le_of_ble_eq_true rfl)) dX6_ring_1 ⟨Nat.le_of_ble_eq_true rfl, Nat.le_of_ble_eq_true rfl⟩) hS (fun q h1 h2 => absurd h2 (Nat.not_le.mpr h1)) (fun q h => hA q (Nat.le_trans hS.1 h)) (fun r9 u9 t9 H1 locs ht hvm hw hB hz1 hk1 hS => ?_)
  have hw : r9 = zb (ztg f w) := hw
  subst hw
  have hP := zr_keep hP hk1
  clear hk1 hz1 hB ht hvm hw
  refine zt_top (y := 0) (by rw [hnr]; rfl) ?_
  refine lv_if_ne (tgt := 17) hx hb dX6_ring_4 (by decide) (fun c => absurd c (fun q => q rfl)) (fun c4 => ?_)
  obtain ⟨sa, hsa⟩ := hE.2.1 (58, "what is typed is no ring") (List.mem_of_getElem? (i := 1) rfl)
  exact vx_throwS hx hb hfl (own := RX6) (cls := "java/lang/UnsupportedOperationException") (names := ["java/lang/RuntimeException", "java/lang/Exception"]) (ik := 56) (is := 58) (ic := 60) (A := zq s.heap.size) hown (by decide) (by decide) (hts (.classLink RX6 56 "java/lang/UnsupportedOperationException") (List.mem_of_getElem? (i := 1) rfl)) (hts (.initialized "java/lang/UnsupportedOperationException") (List.mem_of_getElem? (i := 2) rfl)) hsa (zg_of (fun w hw => hts w (List.mem_cons_of_mem _ (List.mem_append_left _ (List.mem_append_right _ hw)))) zg_UOE hE.2.2.1) zo_UOE hE.1.1 hE.1.2 hS (hl.1.trans hml.symm) dX6_ring_7 dX6_ring_10 dX6_ring_11 dX6_ring_13 dX6_ring_16 (fun x hx => (hnt x hx).elim) (Nat.le_of_ble_eq_true rfl) (Nat.le_of_ble_eq_true rfl) (Nat.le_of_ble_eq_true rfl) (Nat.le_of_ble_eq_true rfl) hlocks (z_hx hS) hS.2.2 (Nat.le_of_ble_eq_true rfl) (Nat.le_of_ble_eq_true rfl)

set_option maxHeartbeats 4000000 in
set_option maxRecDepth 100000 in
/-- type(v) -/
theorem k_type (l : Launch) (dC : Nat → ClassId) (dI : Nat → Nat → Nat) (sz : Nat) (cI cC : ClassId) (o a0 a1 a2 : Nat) (w nc : Nat) (f : Nat → Int32) (v : Int32) (hwm : w < 64) (hv : (decide ((0 : Int32) ≤ v) && decide (v ≤ 255)) = true) : Met l yX6_type wsX6_type ({ frames := 1, cells := 0, slots := 0, locals := 22 }) (va_Pc [.ref o, .int v] (zPcD (dC, dI) [(o, .inr (6, [.ref a0, .int (nI w), .ref a1, .int (nI nc), .null, .int 40, .int 48, .int 0, .ref a2])), (a0, .inl (cI, 64, .inl f))] [(cI, .int), (cC, (.object RX0))] sz)) (va_Qi (fun (r : Int32) (_ : Unit) => r = nI (w + 1)) (fun _ t => va_P (dC, dI) vwCl [(o, .inr (6, [.ref a0, .int (nI (w + 1)), .ref a1, .int (nI nc), .null, .int 40, .int 48, .int 0, .ref a2])), (a0, .inl (cI, 64, .inl (upd f w v)))] t.heap ∧ va_D (va_A [(o, .inr (6, [.ref a0, .int (nI w), .ref a1, .int (nI nc), .null, .int 40, .int 48, .int 0, .ref a2])), (a0, .inl (cI, 64, .inl f))] sz) [(o, .inr (6, [.ref a0, .int (nI (w + 1)), .ref a1, .int (nI nc), .null, .int 40, .int 48, .int 0, .ref a2])), (a0, .inl (cI, 64, .inl (upd f w v)))]) (va_A [(o, .inr (6, [.ref a0, .int (nI w), .ref a1, .int (nI nc), .null, .int 40, .int 48, .int 0, .ref a2])), (a0, .inl (cI, 64, .inl f))] sz)) 0 0 (va_A [(o, .inr (6, [.ref a0, .int (nI w), .ref a1, .int (nI nc), .null, .int 40, .int 48, .int 0, .ref a2])), (a0, .inl (cI, 64, .inl f))] sz) := by
  refine Met.ofW (cc := cX6_type) (maxL := 2) (ret := (some .int)) (by decide) rfl ?_
  intro p e s m args below meth c s₁ B hml hv
  obtain ⟨rfl, hsz, hP, hK, hD0⟩ := hv
  have hx := B.exec
  have hb := B.bytes
  have hr := B.returns
  have hts := atoms_spec (ws := wsX6_type) B.pre
  have hown : s.vm.findClass RX6 = some m.cls := findClass_of_methodNamed B.named
  have hlocks := B.notSynchronized
  subst hsz
  have hi6 : ∀ w ∈ u_ws RX6 TX6 9, w ∈ wsX6_type := by decide +kernel
  have hD := hD0.self (sz := s.heap.size)
  generalize hAe : va_A [(o, .inr (6, [.ref a0, .int (nI w), .ref a1, .int (nI nc), .null, .int 40, .int 48, .int 0, .ref a2])), (a0, .inl (cI, 64, .inl f))] s.heap.size = A at hD ⊢
  have hA : ∀ q : Nat, s.heap.size ≤ q → A q := fun q h => by rw [← hAe]; exact Or.inr h
  have hS : va_S A s.heap s.heap [] := va_S.rf
  have hl := lv_entry ([.ref o, .int v]) (n := 2) (Nat.le_of_ble_eq_true rfl)
  rw [lg_entry_eq]
  generalize (lg_sl ([.ref o, .int v]) ++ List.replicate (2 - (lg_sl ([.ref o, .int v])).length) Slot.unset).toArray = ls at hl ⊢
  have hl : lv_has ls 2 [(0, .ref o), (1, .int v)] := hl
  have hvv := hv
  refine lv_iload_n hx hb dX6_type_0 rfl (lv_at hl 1 rfl) ?_
  refine lv_iconst (v := 0) hx hb dX6_type_1 (by decide) ?_
  refine lv_sipush (v := 255) hx hb dX6_type_2 (by decide) ?_
  refine va_calli (va_runS (As := [.int v, .int 0, .int 255]) (rest := []) ⟨hx, hb, hml, hown, hts⟩ (k_isWithin l dC dI s.heap.size v 0 255) (va_cwS 3 hts gX6_type_X6_isWithin rfl rfl rfl (by decide +kernel) ⟨Nat.le_of_ble_eq_true rfl, Nat.le_of_ble_eq_true rfl⟩) ⟨zfb, zpre (hP.sub (ws' := []) [] rfl) (hK.sub (tys' := []) [] rfl)⟩ rfl rfl hl.1 rfl (lv_room (Nat.le_of_ble_eq_true rfl)) dX6_type_5 ⟨Nat.le_of_ble_eq_true rfl, Nat.le_of_ble_eq_true rfl⟩) hS (fun q h1 h2 => absurd h2 (Nat.not_le.mpr h1)) (fun q h => hA q (Nat.le_trans hS.1 h)) (fun r9 u9 t9 H1 locs ht hvm hw hB hz1 hk1 hS => ?_)
  have hw : r9 = zb (decide ((0 : Int32) ≤ v) && decide (v ≤ 255)) := hw
  subst hw
  have hP := zr_keep hP hk1
  clear hk1 hz1 hB ht hvm hw
  refine zt_top (y := 1) (by rw [hvv]; rfl) ?_
  refine lv_if_ne (tgt := 21) hx hb dX6_type_8 (by decide) (fun c8 => ?_) (fun c => absurd c (by decide))
  refine lv_aload_n hx hb dX6_type_21 rfl (lv_at hl 0 rfl) ?_
  refine va_get (D := (dC, dI)) (ci := 6) (v := .int (nI w)) (C := RX6) (T := TX6) (N := 9) hx hb hts hi6 hown hK hP 0 rfl rfl 1 (by decide) (hts (.fieldLink RX6 44 "Ringtrack" "typedCount" "I") (List.mem_of_getElem? (i := 5) rfl)) (fun _ h9 => h9) rfl dX6_type_22 ?_
  refine lv_aload_n hx hb dX6_type_25 rfl (lv_at hl 0 rfl) ?_
  refine va_get (D := (dC, dI)) (ci := 6) (v := .ref a0) (C := RX6) (T := TX6) (N := 9) hx hb hts hi6 hown hK hP 0 rfl rfl 0 (by decide) (hts (.fieldLink RX6 9 "Ringtrack" "typed" "[I") (List.mem_of_getElem? (i := 6) rfl)) (fun _ h9 => h9) rfl dX6_type_26 ?_
  refine va_alen (v := 64) hx hb hK hP 1 0 rfl rfl rfl dX6_type_29 ?_
  refine lv_icmp_lt (tgt := 43) hx hb dX6_type_30 (by decide) (fun c30 => ?_) (fun c => absurd (nI_lt (b := 64) hwm (by decide)) c)
  refine lv_aload_n hx hb dX6_type_43 rfl (lv_at hl 0 rfl) ?_
  refine va_get (D := (dC, dI)) (ci := 6) (v := .ref a0) (C := RX6) (T := TX6) (N := 9) hx hb hts hi6 hown hK hP 0 rfl rfl 0 (by decide) (hts (.fieldLink RX6 9 "Ringtrack" "typed" "[I") (List.mem_of_getElem? (i := 6) rfl)) (fun _ h9 => h9) rfl dX6_type_44 ?_
  refine lv_aload_n hx hb dX6_type_47 rfl (lv_at hl 0 rfl) ?_
  refine va_get (D := (dC, dI)) (ci := 6) (v := .int (nI w)) (C := RX6) (T := TX6) (N := 9) hx hb hts hi6 hown hK hP 0 rfl rfl 1 (by decide) (hts (.fieldLink RX6 44 "Ringtrack" "typedCount" "I") (List.mem_of_getElem? (i := 5) rfl)) (fun _ h9 => h9) rfl dX6_type_48 ?_
  refine lv_iload_n hx hb dX6_type_51 rfl (lv_at hl 1 rfl) ?_
  refine va_iast hx hb hK hP hD hS 1 0 rfl rfl (vp_in_nI hwm (by decide)) dX6_type_52 (fun H locs hP hD hS => ?_)
  have hP : va_P (dC, dI) vwCl [(o, .inr (6, [.ref a0, .int (nI w), .ref a1, .int (nI nc), .null, .int 40, .int 48, .int 0, .ref a2])), (a0, .inl (cI, 64, .inl (upd f (nI w).toNatClampNeg v)))] H := hP
  have hD : va_D A [(o, .inr (6, [.ref a0, .int (nI w), .ref a1, .int (nI nc), .null, .int 40, .int 48, .int 0, .ref a2])), (a0, .inl (cI, 64, .inl (upd f (nI w).toNatClampNeg v)))] := hD
  rw [nI_clamp (by omega)] at hP hD
  have hP : va_P (dC, dI) vwCl [(o, .inr (6, [.ref a0, .int (nI w), .ref a1, .int (nI nc), .null, .int 40, .int 48, .int 0, .ref a2])), (a0, .inl (cI, 64, .inl (upd f w v)))] H := hP
  have hD : va_D A [(o, .inr (6, [.ref a0, .int (nI w), .ref a1, .int (nI nc), .null, .int 40, .int 48, .int 0, .ref a2])), (a0, .inl (cI, 64, .inl (upd f w v)))] := hD
  refine lv_aload_n hx hb dX6_type_53 rfl (lv_at hl 0 rfl) ?_
  refine lv_dup hx hb dX6_type_54 rfl ?_
  refine va_get (D := (dC, dI)) (ci := 6) (v := .int (nI w)) (C := RX6) (T := TX6) (N := 9) hx hb hts hi6 hown hK hP 0 rfl rfl 1 (by decide) (hts (.fieldLink RX6 44 "Ringtrack" "typedCount" "I") (List.mem_of_getElem? (i := 5) rfl)) (fun _ h9 => h9) rfl dX6_type_55 ?_
  refine lv_iconst (v := 1) hx hb dX6_type_58 (by decide) ?_
  refine lv_iadd hx hb dX6_type_59 ?_
  refine zt_top (y := nI (w + 1)) (nI_1 w) ?_
  refine va_put (D := (dC, dI)) (ci := 6) (v := .int (nI (w + 1))) (ty := .int) (C := RX6) (T := TX6) (N := 9) hx hb hts hi6 tyX6 tyX6_ok nmX6 hown hK hP hD hS 0 rfl rfl 1 (by decide) (hts (.fieldLink RX6 44 "Ringtrack" "typedCount" "I") (List.mem_of_getElem? (i := 5) rfl)) (fun _ h9 => h9) rfl (by decide +kernel) rfl rfl (Nat.le_of_ble_eq_true rfl) dX6_type_60 (fun H locs hP hD hS => ?_)
  have hP : va_P (dC, dI) vwCl [(o, .inr (6, [.ref a0, .int (nI (w + 1)), .ref a1, .int (nI nc), .null, .int 40, .int 48, .int 0, .ref a2])), (a0, .inl (cI, 64, .inl (upd f w v)))] H := hP
  have hD : va_D A [(o, .inr (6, [.ref a0, .int (nI (w + 1)), .ref a1, .int (nI nc), .null, .int 40, .int 48, .int 0, .ref a2])), (a0, .inl (cI, 64, .inl (upd f w v)))] := hD
  refine lv_aload_n hx hb dX6_type_63 rfl (lv_at hl 0 rfl) ?_
  refine va_get (D := (dC, dI)) (ci := 6) (v := .int (nI (w + 1))) (C := RX6) (T := TX6) (N := 9) hx hb hts hi6 hown hK hP 0 rfl rfl 1 (by decide) (hts (.fieldLink RX6 44 "Ringtrack" "typedCount" "I") (List.mem_of_getElem? (i := 5) rfl)) (fun _ h9 => h9) rfl dX6_type_64 ?_
  exact W.iret (v := (nI (w + 1))) hx hb hr (fun t9 ht hW => ⟨⟨_, (), rfl, rfl, by rw [ht]; exact hP, hD⟩, hS.F ht⟩) hS.2.2 dX6_type_67

set_option maxHeartbeats 4000000 in
set_option maxRecDepth 100000 in
/-- wipe() -/
theorem k_wipe (l : Launch) (dC : Nat → ClassId) (dI : Nat → Nat → Nat) (sz : Nat) (cI cC : ClassId) (o a0 a1 a2 : Nat) (w nc : Nat) (f : Nat → Int32) : Met l yX6_wipe wsX6_wipe ({ frames := 0, cells := 0, slots := 0, locals := 0 }) (va_Pc [.ref o] (zPcD (dC, dI) [(o, .inr (6, [.ref a0, .int (nI w), .ref a1, .int (nI nc), .null, .int 40, .int 48, .int 0, .ref a2]))] [(cI, .int), (cC, (.object RX0))] sz)) (va_Qi (fun (r : Int32) (_ : Unit) => r = nI w) (fun _ t => va_P (dC, dI) vwCl [(o, .inr (6, [.ref a0, .int (nI 0), .ref a1, .int (nI nc), .null, .int 40, .int 48, .int 0, .ref a2]))] t.heap ∧ va_D (va_A [(o, .inr (6, [.ref a0, .int (nI w), .ref a1, .int (nI nc), .null, .int 40, .int 48, .int 0, .ref a2]))] sz) [(o, .inr (6, [.ref a0, .int (nI 0), .ref a1, .int (nI nc), .null, .int 40, .int 48, .int 0, .ref a2]))]) (va_A [(o, .inr (6, [.ref a0, .int (nI w), .ref a1, .int (nI nc), .null, .int 40, .int 48, .int 0, .ref a2]))] sz)) 0 0 (va_A [(o, .inr (6, [.ref a0, .int (nI w), .ref a1, .int (nI nc), .null, .int 40, .int 48, .int 0, .ref a2]))] sz) := by
  refine Met.ofW (cc := cX6_wipe) (maxL := 2) (ret := (some .int)) (by decide) rfl ?_
  intro p e s m args below meth c s₁ B hml hv
  obtain ⟨rfl, hsz, hP, hK, hD0⟩ := hv
  have hx := B.exec
  have hb := B.bytes
  have hr := B.returns
  have hts := atoms_spec (ws := wsX6_wipe) B.pre
  have hown : s.vm.findClass RX6 = some m.cls := findClass_of_methodNamed B.named
  have hlocks := B.notSynchronized
  subst hsz
  have hi6 : ∀ w ∈ u_ws RX6 TX6 9, w ∈ wsX6_wipe := by decide +kernel
  have hD := hD0.self (sz := s.heap.size)
  generalize hAe : va_A [(o, .inr (6, [.ref a0, .int (nI w), .ref a1, .int (nI nc), .null, .int 40, .int 48, .int 0, .ref a2]))] s.heap.size = A at hD ⊢
  have hA : ∀ q : Nat, s.heap.size ≤ q → A q := fun q h => by rw [← hAe]; exact Or.inr h
  have hS : va_S A s.heap s.heap [] := va_S.rf
  have hl := lv_entry ([.ref o]) (n := 2) (Nat.le_of_ble_eq_true rfl)
  rw [lg_entry_eq]
  generalize (lg_sl ([.ref o]) ++ List.replicate (2 - (lg_sl ([.ref o])).length) Slot.unset).toArray = ls at hl ⊢
  have hl : lv_has ls 2 [(0, .ref o)] := hl
  refine lv_aload_n hx hb dX6_wipe_0 rfl (lv_at hl 0 rfl) ?_
  refine va_get (D := (dC, dI)) (ci := 6) (v := .int (nI w)) (C := RX6) (T := TX6) (N := 9) hx hb hts hi6 hown hK hP 0 rfl rfl 1 (by decide) (hts (.fieldLink RX6 44 "Ringtrack" "typedCount" "I") (List.mem_of_getElem? (i := 1) rfl)) (fun _ h9 => h9) rfl dX6_wipe_1 ?_
  refine lv_istore_n (lv' := [(1, .int (nI w)), (0, .ref o)]) hx hb dX6_wipe_4 rfl hl (by decide) rfl (fun ls hl => ?_)
  refine lv_aload_n hx hb dX6_wipe_5 rfl (lv_at hl 1 rfl) ?_
  refine lv_iconst (v := 0) hx hb dX6_wipe_6 (by decide) ?_
  refine zt_top (y := nI 0) (nI_0.symm) ?_
  refine va_put (D := (dC, dI)) (ci := 6) (v := .int (nI 0)) (ty := .int) (C := RX6) (T := TX6) (N := 9) hx hb hts hi6 tyX6 tyX6_ok nmX6 hown hK hP hD hS 0 rfl rfl 1 (by decide) (hts (.fieldLink RX6 44 "Ringtrack" "typedCount" "I") (List.mem_of_getElem? (i := 1) rfl)) (fun _ h9 => h9) rfl (by decide +kernel) rfl rfl (Nat.le_of_ble_eq_true rfl) dX6_wipe_7 (fun H locs hP hD hS => ?_)
  have hP : va_P (dC, dI) vwCl [(o, .inr (6, [.ref a0, .int (nI 0), .ref a1, .int (nI nc), .null, .int 40, .int 48, .int 0, .ref a2]))] H := hP
  have hD : va_D A [(o, .inr (6, [.ref a0, .int (nI 0), .ref a1, .int (nI nc), .null, .int 40, .int 48, .int 0, .ref a2]))] := hD
  refine lv_iload_n hx hb dX6_wipe_10 rfl (lv_at hl 0 rfl) ?_
  exact W.iret (v := (nI w)) hx hb hr (fun t9 ht hW => ⟨⟨_, (), rfl, rfl, by rw [ht]; exact hP, hD⟩, hS.F ht⟩) hS.2.2 dX6_wipe_11
end
section
/-- the words of a reflected code -/
def zrf (k : Nat) : Int32 := nI k ^^^ nI (k / 2)
/-- .. its first k words written -/
def zrw (k : Nat) : Nat → Int32 := fun j => if j < k then zrf j else 0
theorem zrw_0 : zrw 0 = fun _ => 0 := by
  funext j
  exact if_neg (Nat.not_lt_zero j)
theorem zrw_s (k : Nat) : upd (zrw k) k (zrf k) = zrw (k + 1) := by
  funext j
  unfold upd zrw
  by_cases h : j = k
  · rw [if_pos h, if_pos (by omega), h]
  · rw [if_neg h]
    by_cases h2 : j < k
    · rw [if_pos h2, if_pos (by omega)]
    · rw [if_neg h2, if_neg (by omega)]
theorem zrw_in {k j : Nat} (h : j < k) : zrw k j = zrf j := if_pos h
/-- the codes that are kept: each a ring -/
def zCs (D : va_G) (cI : ClassId) (nc : Nat) (ad : Nat → Option Nat) (H : Heap) : Prop := ∀ k, k < nc → ∃ (h0 h1 h2 n T : Nat) (f : Nat → Int32), ad k = some h0 ∧ va_P D vwCl [(h0, .inr (0, [.ref h1, .int (nI T), .ref h2])), (h1, .inl (cI, n, .inl f))] H ∧ n < 2 ^ 30 ∧ zrg f n = true
theorem zCs_keep {D : va_G} {cI : ClassId} {nc : Nat} {ad : Nat → Option Nat} {H H1 : Heap} (h : zCs D cI nc ad H) (hk : ∀ q : Nat, q < H.size → ¬ zq H.size q → H1[q]? = H[q]?) : zCs D cI nc ad H1 := fun k hkn => by
  obtain ⟨h0, h1, h2, n, T, f, e1, e2, e3, e4⟩ := h k hkn
  exact ⟨h0, h1, h2, n, T, f, e1, zr_keep e2 hk, e3, e4⟩
abbrev zPcC (cI : ClassId) (nc : Nat) (ad : Nat → Option Nat) (D : va_G) (ws : va_W) (tys : List (ClassId × FieldType)) (sz : Nat) : State → Prop := fun U => U.heap.size = sz ∧ va_P D vwCl ws U.heap ∧ va_K D vwCl tys U ∧ zCs D cI nc ad U.heap
theorem zfbC {cI : ClassId} {nc : Nat} {ad : Nat → Option Nat} {av : List Value} {D : va_G} {ws : va_W} {tys : List (ClassId × FieldType)} {sz : Nat} : FrameBlind (va_Pc av (zPcC cI nc ad D ws tys sz)) := fun a U g mk q => by
  obtain ⟨q0, q1, qP, qK, qE⟩ := q
  exact ⟨q0, q1, qP, va_K.moved (u := U) (U := U.calling g mk a) (Vm.Alike.refl U.vm) qK, qE⟩
theorem zpreC {cI : ClassId} {nc : Nat} {ad : Nat → Option Nat} {av : List Value} {D : va_G} {ws : va_W} {tys : List (ClassId × FieldType)} {s : State} {H : Heap} (hP : va_P D vwCl ws H) (hK : va_K D vwCl tys s) (hC : zCs D cI nc ad H) : ∀ U : State, U.heap = H → s.WarmedH U.vm → va_Pc av (zPcC cI nc ad D ws tys H.size) av.toArray U := fun U hU hW => ⟨rfl, by rw [hU], by rw [hU]; exact hP, va_K.moved hW.alike hK, by rw [hU]; exact hC⟩
/-- what a constructor of Ringtrack needs of the tables -/
abbrev zI (U : State) : Prop := va_AO RX0 U ∧ va_Nw (.methodLinkNest RX6 28 yX2_init "Ringtrack") U
abbrev zPcID (D : va_G) (ws : va_W) (tys : List (ClassId × FieldType)) (sz : Nat) : State → Prop := fun U => U.heap.size = sz ∧ va_P D vwCl ws U.heap ∧ va_K D vwCl tys U ∧ zI U ∧ va_D (fun _ => True) ws
theorem zfbID {av : List Value} {D : va_G} {ws : va_W} {tys : List (ClassId × FieldType)} {sz : Nat} : FrameBlind (va_Pc av (zPcID D ws tys sz)) := fun a U g mk q => by
  obtain ⟨q0, q1, qP, qK, qE, qD⟩ := q
  exact ⟨q0, q1, qP, va_K.moved (u := U) (U := U.calling g mk a) (Vm.Alike.refl U.vm) qK, ⟨va_AO.moved (u := U) (U := U.calling g mk a) (Vm.Alike.refl U.vm) qE.1, va_Nw.same rfl (u := U) (U := U.calling g mk a) rfl qE.2⟩, qD⟩
theorem zpreID {av : List Value} {D : va_G} {ws : va_W} {tys : List (ClassId × FieldType)} {s : State} {H : Heap} {A : Nat → Prop} (hP : va_P D vwCl ws H) (hK : va_K D vwCl tys s) (hE : zI s) (hD : va_D A ws) : ∀ U : State, U.heap = H → s.WarmedH U.vm → va_Pc av (zPcID D ws tys H.size) av.toArray U := fun U hU hW => ⟨rfl, by rw [hU], by rw [hU]; exact hP, va_K.moved hW.alike hK, ⟨va_AO.moved hW.alike hE.1, va_Nw.warmM hW hE.2⟩, hD.weaken (fun _ _ _ _ => trivial)⟩

set_option maxHeartbeats 4000000 in
set_option maxRecDepth 100000 in
/-- Arrays.copyOf(a, w) -/
theorem k_copyOf (l : Launch) (dC : Nat → ClassId) (dI : Nat → Nat → Nat) (sz : Nat) (cI : ClassId) (a0 w : Nat) (f : Nat → Int32) (hwm : w < 64) : Met l yJ7_copyOf_59c91 wsJ7_copyOf_59c91 ({ frames := 1, cells := 1, slots := 64, locals := 60 }) (va_Pc [.ref a0, .int (nI w)] (zPcD (dC, dI) [(a0, .inl (cI, 64, .inl f))] [(cI, .int)] sz)) (va_Qr (fun (_ : Unit) => True) (fun _ h1 t => va_P (dC, dI) vwCl [(a0, .inl (cI, 64, .inl f)), (h1, .inl (cI, w, .inl f))] t.heap ∧ va_D (va_A [(a0, .inl (cI, 64, .inl f))] sz) [(a0, .inl (cI, 64, .inl f)), (h1, .inl (cI, w, .inl f))]) (va_A [(a0, .inl (cI, 64, .inl f))] sz)) 1 64 (va_A [(a0, .inl (cI, 64, .inl f))] sz) := by
  refine Met.ofW (cc := cJ7_copyOf_59c91) (maxL := 3) (ret := (some (.array .int))) (by decide) rfl ?_
  intro p e s m args below meth c s₁ B hml hv
  obtain ⟨rfl, hsz, hP, hK, hD0⟩ := hv
  have hx := B.exec
  have hb := B.bytes
  have hr := B.returns
  have hts := atoms_spec (ws := wsJ7_copyOf_59c91) B.pre
  have hown : s.vm.findClass RJ7 = some m.cls := findClass_of_methodNamed B.named
  have hlocks := B.notSynchronized
  subst hsz
  have hD := hD0.self (sz := s.heap.size)
  generalize hAe : va_A [(a0, .inl (cI, 64, .inl f))] s.heap.size = A at hD ⊢
  have hA : ∀ q : Nat, s.heap.size ≤ q → A q := fun q h => by rw [← hAe]; exact Or.inr h
  have hS : va_S A s.heap s.heap [] := va_S.rf
  have hl := lv_entry ([.ref a0, .int (nI w)]) (n := 3) (Nat.le_of_ble_eq_true rfl)
  rw [lg_entry_eq]
  generalize (lg_sl ([.ref a0, .int (nI w)]) ++ List.replicate (3 - (lg_sl ([.ref a0, .int (nI w)])).length) Slot.unset).toArray = ls at hl ⊢
  have hl : lv_has ls 3 [(0, .ref a0), (1, .int (nI w))] := hl
  refine lv_iload_n hx hb dJ7_copyOf_59c91_0 rfl (lv_at hl 1 rfl) ?_
  refine lv_aload_n hx hb dJ7_copyOf_59c91_1 rfl (lv_at hl 0 rfl) ?_
  refine va_alen (v := 64) hx hb hK hP 0 0 rfl rfl rfl dJ7_copyOf_59c91_2 ?_
  refine lv_icmp_ne (tgt := 14) hx hb dJ7_copyOf_59c91_3 (by decide) (fun c3 => ?_) (fun c => absurd c (fun q => absurd ((nI_eq (b := 64) (by omega) (by decide)).mp q) (by omega)))
  refine lv_iload_n hx hb dJ7_copyOf_59c91_14 rfl (lv_at hl 1 rfl) ?_
  refine va_newa (atype := .int) (ty := .int) (N' := w) (a0 := (w, .inl (fun _ => 0))) hx hb (hts (.arrayClass .int) (List.mem_of_getElem? (i := 7) rfl)) rfl hK hP hD hS hA (fun _ => rfl) (nI_pos (by omega)) (nI_clamp (by omega)) (by show w * 4 ≤ 536870912; omega) (Nat.le_of_ble_eq_true rfl) (by show 0 + w ≤ 64; omega) dJ7_copyOf_59c91_15 (fun h1 cA H hK hP hD hS => ?_)
  obtain rfl := zI_one hK (i := 0) (j := 1) rfl rfl
  have hK := hK.sub (tys' := [(cI, .int)]) [0] rfl
  have hP : va_P (dC, dI) vwCl [(a0, .inl (cI, 64, .inl f)), (h1, .inl (cI, w, .inl (fun _ => 0)))] H := hP
  have hD : va_D A [(a0, .inl (cI, 64, .inl f)), (h1, .inl (cI, w, .inl (fun _ => 0)))] := hD
  refine W.widen (k := 1) (n := 64) (by omega) (by omega) ?_
  refine lv_astore_n (lv' := [(2, .ref h1), (0, .ref a0), (1, .int (nI w))]) hx hb dJ7_copyOf_59c91_17 rfl hl (by decide) rfl (fun ls hl => ?_)
  refine lv_aload_n hx hb dJ7_copyOf_59c91_18 rfl (lv_at hl 1 rfl) ?_
  refine lv_iconst (v := 0) hx hb dJ7_copyOf_59c91_19 (by decide) ?_
  refine lv_aload_n hx hb dJ7_copyOf_59c91_20 rfl (lv_at hl 0 rfl) ?_
  refine lv_iconst (v := 0) hx hb dJ7_copyOf_59c91_21 (by decide) ?_
  refine lv_aload_n hx hb dJ7_copyOf_59c91_22 rfl (lv_at hl 1 rfl) ?_
  refine va_alen (v := 64) hx hb hK hP 0 0 rfl rfl rfl dJ7_copyOf_59c91_23 ?_
  refine lv_iload_n hx hb dJ7_copyOf_59c91_24 rfl (lv_at hl 2 rfl) ?_
  refine va_mmin hx hb (hml.trans hl.1.symm) hown (hts (.methodLink RJ7 304 Lib.Math.min.name) (List.mem_of_getElem? (i := 8) rfl)) (hts (.static Lib.Math.min.name) (List.mem_of_getElem? (i := 9) rfl)) (hts (.initialized "java/lang/Math") (List.mem_of_getElem? (i := 10) rfl)) (hts (.code Lib.Math.min.name Lib.Math.min.code 2 (some .int)) (List.mem_of_getElem? (i := 11) rfl)) (Nat.le_of_ble_eq_true rfl) (Nat.le_of_ble_eq_true rfl) (Nat.le_of_ble_eq_true rfl) (Nat.le_of_ble_eq_true rfl) dJ7_copyOf_59c91_25 ?_
  refine zt_top (y := nI w) (if_pos (nI_lt (b := 64) hwm (by decide))) ?_
  refine va_copyi hx hb (hml.trans hl.1.symm) hown (hts (.methodLink RJ7 150 arraycopyName) (List.mem_of_getElem? (i := 12) rfl)) (hts (.native arraycopyName) (List.mem_of_getElem? (i := 13) rfl)) (hts (.static arraycopyName) (List.mem_of_getElem? (i := 14) rfl)) (hts (.initialized "java/lang/System") (List.mem_of_getElem? (i := 15) rfl)) hK hP hD hS 0 1 0 0 rfl rfl rfl rfl rfl (by decide) (by decide) (nI_pos (by omega)) (by rw [nI_clamp (by omega), sb_cl0]; omega) (by rw [nI_clamp (by omega), sb_cl0]; omega) (fun _ _ => rfl) (Nat.le_of_ble_eq_true rfl) (Nat.le_of_ble_eq_true rfl) dJ7_copyOf_59c91_28 (fun H locs hP hD hS => ?_)
  rw [nI_clamp (by omega), sb_cl0] at hP hD
  obtain ⟨hP, hD⟩ := z_fn (g := f) hP hD 1 rfl (fun j hj => sb_cpy0 hj)
  have hP : va_P (dC, dI) vwCl [(a0, .inl (cI, 64, .inl f)), (h1, .inl (cI, w, .inl f))] H := hP
  have hD : va_D A [(a0, .inl (cI, 64, .inl f)), (h1, .inl (cI, w, .inl f))] := hD
  refine lv_aload_n hx hb dJ7_copyOf_59c91_31 rfl (lv_at hl 0 rfl) ?_
  exact W.aret (v := .ref h1) hx hb hr (Or.inr ⟨_, rfl⟩) (Or.inr ⟨_, rfl⟩) (fun t9 ht hW => ⟨⟨(), h1, rfl, trivial, by rw [ht]; exact hP, hD⟩, hS.F ht⟩) hS.2.2 dJ7_copyOf_59c91_32

set_option maxHeartbeats 4000000 in
set_option maxRecDepth 100000 in
/-- keepCode(words) -/
theorem k_keepCode (l : Launch) (dC : Nat → ClassId) (dI : Nat → Nat → Nat) (sz : Nat) (cI cC : ClassId) (o a0 a1 a2 : Nat) (tc : Int32) (nc : Nat) (ad : Nat → Option Nat) (h1 n : Nat) (f : Nat → Int32) (hn : n < 2 ^ 30) (hnc : nc < 4) : Met l yX6_keepCode wsX6_keepCode ({ frames := 2, cells := 2, slots := 259, locals := 48 }) (va_Pc [.ref o, .ref h1] (zPcD (dC, dI) [(o, .inr (6, [.ref a0, .int tc, .ref a1, .int (nI nc), .null, .int 40, .int 48, .int 0, .ref a2])), (a1, .inl (cC, 4, .inr (.inr (.inr (.inr ad))))), (h1, .inl (cI, n, .inl f))] [(cI, .int), (cC, (.object RX0))] sz)) (va_Qi (fun (r : Int32) (_ : Nat × Nat) => r = nI nc) (fun u t => va_P (dC, dI) vwCl [(o, .inr (6, [.ref a0, .int tc, .ref a1, .int (nI (nc + 1)), .null, .int 40, .int 48, .int 0, .ref a2])), (a1, .inl (cC, 4, .inr (.inr (.inr (.inr (va_up ad nc (some u.1))))))), (h1, .inl (cI, n, .inl f)), (u.1, .inr (0, [.ref h1, .int (nI (ztr f n)), .ref u.2])), (u.2, .inl (cI, 256, .inl (zpl f n)))] t.heap ∧ va_D (va_A [(o, .inr (6, [.ref a0, .int tc, .ref a1, .int (nI nc), .null, .int 40, .int 48, .int 0, .ref a2])), (a1, .inl (cC, 4, .inr (.inr (.inr (.inr ad))))), (h1, .inl (cI, n, .inl f))] sz) [(o, .inr (6, [.ref a0, .int tc, .ref a1, .int (nI (nc + 1)), .null, .int 40, .int 48, .int 0, .ref a2])), (a1, .inl (cC, 4, .inr (.inr (.inr (.inr (va_up ad nc (some u.1))))))), (h1, .inl (cI, n, .inl f)), (u.1, .inr (0, [.ref h1, .int (nI (ztr f n)), .ref u.2])), (u.2, .inl (cI, 256, .inl (zpl f n)))]) (va_A [(o, .inr (6, [.ref a0, .int tc, .ref a1, .int (nI nc), .null, .int 40, .int 48, .int 0, .ref a2])), (a1, .inl (cC, 4, .inr (.inr (.inr (.inr ad))))), (h1, .inl (cI, n, .inl f))] sz)) 2 259 (va_A [(o, .inr (6, [.ref a0, .int tc, .ref a1, .int (nI nc), .null, .int 40, .int 48, .int 0, .ref a2])), (a1, .inl (cC, 4, .inr (.inr (.inr (.inr ad))))), (h1, .inl (cI, n, .inl f))] sz) := by
  refine Met.ofW (cc := cX6_keepCode) (maxL := 3) (ret := (some .int)) (by decide) rfl ?_
  intro p e s m args below meth c s₁ B hml hv
  obtain ⟨rfl, hsz, hP, hK, hD0⟩ := hv
  have hx := B.exec
  have hb := B.bytes
  have hr := B.returns
  have hts := atoms_spec (ws := wsX6_keepCode) B.pre
  have hown : s.vm.findClass RX6 = some m.cls := findClass_of_methodNamed B.named
  have hlocks := B.notSynchronized
  subst hsz
  have hi6 : ∀ w ∈ u_ws RX6 TX6 9, w ∈ wsX6_keepCode := by decide +kernel
  have hD := hD0.self (sz := s.heap.size)
  generalize hAe : va_A [(o, .inr (6, [.ref a0, .int tc, .ref a1, .int (nI nc), .null, .int 40, .int 48, .int 0, .ref a2])), (a1, .inl (cC, 4, .inr (.inr (.inr (.inr ad))))), (h1, .inl (cI, n, .inl f))] s.heap.size = A at hD ⊢
  have hA : ∀ q : Nat, s.heap.size ≤ q → A q := fun q h => by rw [← hAe]; exact Or.inr h
  have hS : va_S A s.heap s.heap [] := va_S.rf
  have hl := lv_entry ([.ref o, .ref h1]) (n := 3) (Nat.le_of_ble_eq_true rfl)
  rw [lg_entry_eq]
  generalize (lg_sl ([.ref o, .ref h1]) ++ List.replicate (3 - (lg_sl ([.ref o, .ref h1])).length) Slot.unset).toArray = ls at hl ⊢
  have hl : lv_has ls 3 [(0, .ref o), (1, .ref h1)] := hl
  have hi0 : ∀ w ∈ u_ws RX0 TX0 3, w ∈ wsX6_keepCode := by decide +kernel
  refine lv_aload_n hx hb dX6_keepCode_0 rfl (lv_at hl 0 rfl) ?_
  refine va_get (D := (dC, dI)) (ci := 6) (v := .int (nI nc)) (C := RX6) (T := TX6) (N := 9) hx hb hts hi6 hown hK hP 0 rfl rfl 3 (by decide) (hts (.fieldLink RX6 61 "Ringtrack" "codeCount" "I") (List.mem_of_getElem? (i := 1) rfl)) (fun _ h9 => h9) rfl dX6_keepCode_1 ?_
  refine lv_istore_n (lv' := [(2, .int (nI nc)), (0, .ref o), (1, .ref h1)]) hx hb dX6_keepCode_4 rfl hl (by decide) rfl (fun ls hl => ?_)
  refine lv_iload_n hx hb dX6_keepCode_5 rfl (lv_at hl 0 rfl) ?_
  refine lv_aload_n hx hb dX6_keepCode_6 rfl (lv_at hl 1 rfl) ?_
  refine va_get (D := (dC, dI)) (ci := 6) (v := .ref a1) (C := RX6) (T := TX6) (N := 9) hx hb hts hi6 hown hK hP 0 rfl rfl 2 (by decide) (hts (.fieldLink RX6 15 "Ringtrack" "codes" "[LRingtrack$Code;") (List.mem_of_getElem? (i := 2) rfl)) (fun _ h9 => h9) rfl dX6_keepCode_7 ?_
  refine va_alen (v := 4) hx hb hK hP 1 1 rfl rfl rfl dX6_keepCode_10 ?_
  refine lv_icmp_ge (tgt := 38) hx hb dX6_keepCode_11 (by decide) (fun c => absurd c (nI_ge (b := 4) hnc (by decide))) (fun c11 => ?_)
  refine lv_aload_n hx hb dX6_keepCode_14 rfl (lv_at hl 1 rfl) ?_
  refine va_get (D := (dC, dI)) (ci := 6) (v := .ref a1) (C := RX6) (T := TX6) (N := 9) hx hb hts hi6 hown hK hP 0 rfl rfl 2 (by decide) (hts (.fieldLink RX6 15 "Ringtrack" "codes" "[LRingtrack$Code;") (List.mem_of_getElem? (i := 2) rfl)) (fun _ h9 => h9) rfl dX6_keepCode_15 ?_
  refine lv_iload_n hx hb dX6_keepCode_18 rfl (lv_at hl 0 rfl) ?_
  refine va_new (ci := 0) (fs := [.null, .int 0, .null]) (C := RX0) (T := TX0) (N := 3) hx hb hts hi0 tyX0 tyX0_ok hown (hts (.classLink RX6 13 RX0) (List.mem_of_getElem? (i := 3) rfl)) (hts (.instantiable RX0 3) (List.mem_of_getElem? (i := 4) rfl)) (hts (.initialized RX0) (List.mem_of_getElem? (i := 5) rfl)) hK hP hD hS hA rfl (fun j hj => by rcases (show j = 0 ∨ j = 1 ∨ j = 2 by omega) with rfl | rfl | rfl <;> rfl) (Nat.le_of_ble_eq_true rfl) (Nat.le_of_ble_eq_true rfl) dX6_keepCode_19 (fun h0 H hP hD hS => ?_)
  have hP : va_P (dC, dI) vwCl [(o, .inr (6, [.ref a0, .int tc, .ref a1, .int (nI nc), .null, .int 40, .int 48, .int 0, .ref a2])), (a1, .inl (cC, 4, .inr (.inr (.inr (.inr ad))))), (h1, .inl (cI, n, .inl f)), (h0, .inr (0, [.null, .int 0, .null]))] H := hP
  have hD : va_D A [(o, .inr (6, [.ref a0, .int tc, .ref a1, .int (nI nc), .null, .int 40, .int 48, .int 0, .ref a2])), (a1, .inl (cC, 4, .inr (.inr (.inr (.inr ad))))), (h1, .inl (cI, n, .inl f)), (h0, .inr (0, [.null, .int 0, .null]))] := hD
  refine W.widen (k := 1) (n := 3) (by omega) (by omega) ?_
  refine lv_dup hx hb dX6_keepCode_22 rfl ?_
  refine lv_aload_n hx hb dX6_keepCode_23 rfl (lv_at hl 2 rfl) ?_
  have hPc := hP.sub (ws' := [(h0, .inr (0, [.null, .int 0, .null])), (h1, .inl (cI, n, .inl f))]) [3, 2] rfl
  have hDc := hD.sub (ws' := [(h0, .inr (0, [.null, .int 0, .null])), (h1, .inl (cI, n, .inl f))]) [3, 2] (by decide) rfl
  have hKc := hK.sub (tys' := [(cI, .int)]) [0] rfl
  have hFc := va_free (wc := [(h0, .inr (0, [.null, .int 0, .null])), (h1, .inl (cI, n, .inl f))]) hD hS hA [3, 2] rfl
  refine va_callv (va_runI (As := [.ref h1]) (rest := [.ref h0, .int (nI nc), .ref a1]) ⟨hx, hb, hml, hown, hts⟩ (k_Code l dC dI H.size cI h0 h1 n f hn) (cwI 1 hts gX6_keepCode_X0_init rfl rfl rfl (hts (.initialized RX0) (List.mem_of_getElem? (i := 5) rfl)) (hts (.methodLink RX6 384 yX0_init) (List.mem_of_getElem? (i := 6) rfl)) (hts (.instanceMethod yX0_init) (List.mem_of_getElem? (i := 7) rfl)) rfl (by decide +kernel) ⟨Nat.le_of_ble_eq_true rfl, Nat.le_of_ble_eq_true rfl⟩) ⟨zfbD, zpreD hPc hKc hDc⟩ rfl rfl hl.1 rfl (lv_room (Nat.le_of_ble_eq_true rfl)) dX6_keepCode_24 ⟨Nat.le_of_ble_eq_true rfl, Nat.le_of_ble_eq_true rfl⟩) hS (fun q _ h => hFc q h) hFc (fun u9 t9 H1 locs ht hvm hw hB hz1 hk1 hS => ?_)
  try dsimp only at hw
  obtain ⟨h2, eh2⟩ : ∃ z : Nat, z = u9 := ⟨_, rfl⟩
  subst eh2
  obtain ⟨hP1, hD1⟩ := hB
  rw [ht] at hP1
  obtain ⟨hP, hD⟩ := va_join (wr := [(o, .inr (6, [.ref a0, .int tc, .ref a1, .int (nI nc), .null, .int 40, .int 48, .int 0, .ref a2])), (a1, .inl (cC, 4, .inr (.inr (.inr (.inr ad)))))]) (w1 := [(h1, .inl (cI, n, .inl f)), (h0, .inr (0, [.ref h1, .int (nI (ztr f n)), .ref h2])), (h2, .inl (cI, 256, .inl (zpl f n)))]) hP hD [3, 2] [0, 1] rfl rfl (by decide) (by decide) hk1 hFc hP1 hD1
  clear hPc hDc hFc hP1 hD1 hk1 hz1 ht hvm
  have hP : va_P (dC, dI) vwCl [(o, .inr (6, [.ref a0, .int tc, .ref a1, .int (nI nc), .null, .int 40, .int 48, .int 0, .ref a2])), (a1, .inl (cC, 4, .inr (.inr (.inr (.inr ad))))), (h1, .inl (cI, n, .inl f)), (h0, .inr (0, [.ref h1, .int (nI (ztr f n)), .ref h2])), (h2, .inl (cI, 256, .inl (zpl f n)))] H1 := hP
  have hD : va_D A [(o, .inr (6, [.ref a0, .int tc, .ref a1, .int (nI nc), .null, .int 40, .int 48, .int 0, .ref a2])), (a1, .inl (cC, 4, .inr (.inr (.inr (.inr ad))))), (h1, .inl (cI, n, .inl f)), (h0, .inr (0, [.ref h1, .int (nI (ztr f n)), .ref h2])), (h2, .inl (cI, 256, .inl (zpl f n)))] := hD
  refine W.widen (k := 2) (n := 259) (by omega) (by omega) ?_
  refine va_astq hx hb hK hP hD hS 1 1 3 0 rfl rfl rfl rfl (vp_in_nI hnc (by decide)) dX6_keepCode_27 (fun H locs hP hD hS => ?_)
  rw [nI_clamp (by omega)] at hP hD
  have hP : va_P (dC, dI) vwCl [(o, .inr (6, [.ref a0, .int tc, .ref a1, .int (nI nc), .null, .int 40, .int 48, .int 0, .ref a2])), (a1, .inl (cC, 4, .inr (.inr (.inr (.inr (va_up ad nc (some h0))))))), (h1, .inl (cI, n, .inl f)), (h0, .inr (0, [.ref h1, .int (nI (ztr f n)), .ref h2])), (h2, .inl (cI, 256, .inl (zpl f n)))] H := hP
  have hD : va_D A [(o, .inr (6, [.ref a0, .int tc, .ref a1, .int (nI nc), .null, .int 40, .int 48, .int 0, .ref a2])), (a1, .inl (cC, 4, .inr (.inr (.inr (.inr (va_up ad nc (some h0))))))), (h1, .inl (cI, n, .inl f)), (h0, .inr (0, [.ref h1, .int (nI (ztr f n)), .ref h2])), (h2, .inl (cI, 256, .inl (zpl f n)))] := hD
  refine lv_aload_n hx hb dX6_keepCode_28 rfl (lv_at hl 1 rfl) ?_
  refine lv_dup hx hb dX6_keepCode_29 rfl ?_
  refine va_get (D := (dC, dI)) (ci := 6) (v := .int (nI nc)) (C := RX6) (T := TX6) (N := 9) hx hb hts hi6 hown hK hP 0 rfl rfl 3 (by decide) (hts (.fieldLink RX6 61 "Ringtrack" "codeCount" "I") (List.mem_of_getElem? (i := 1) rfl)) (fun _ h9 => h9) rfl dX6_keepCode_30 ?_
  refine lv_iconst (v := 1) hx hb dX6_keepCode_33 (by decide) ?_
  refine lv_iadd hx hb dX6_keepCode_34 ?_
  refine zt_top (y := nI (nc + 1)) (nI_1 nc) ?_
  refine va_put (D := (dC, dI)) (ci := 6) (v := .int (nI (nc + 1))) (ty := .int) (C := RX6) (T := TX6) (N := 9) hx hb hts hi6 tyX6 tyX6_ok nmX6 hown hK hP hD hS 0 rfl rfl 3 (by decide) (hts (.fieldLink RX6 61 "Ringtrack" "codeCount" "I") (List.mem_of_getElem? (i := 1) rfl)) (fun _ h9 => h9) rfl (by decide +kernel) rfl rfl (Nat.le_of_ble_eq_true rfl) dX6_keepCode_35 (fun H locs hP hD hS => ?_)
  have hP : va_P (dC, dI) vwCl [(o, .inr (6, [.ref a0, .int tc, .ref a1, .int (nI (nc + 1)), .null, .int 40, .int 48, .int 0, .ref a2])), (a1, .inl (cC, 4, .inr (.inr (.inr (.inr (va_up ad nc (some h0))))))), (h1, .inl (cI, n, .inl f)), (h0, .inr (0, [.ref h1, .int (nI (ztr f n)), .ref h2])), (h2, .inl (cI, 256, .inl (zpl f n)))] H := hP
  have hD : va_D A [(o, .inr (6, [.ref a0, .int tc, .ref a1, .int (nI (nc + 1)), .null, .int 40, .int 48, .int 0, .ref a2])), (a1, .inl (cC, 4, .inr (.inr (.inr (.inr (va_up ad nc (some h0))))))), (h1, .inl (cI, n, .inl f)), (h0, .inr (0, [.ref h1, .int (nI (ztr f n)), .ref h2])), (h2, .inl (cI, 256, .inl (zpl f n)))] := hD
  refine lv_iload_n hx hb dX6_keepCode_38 rfl (lv_at hl 0 rfl) ?_
  exact W.iret (v := (nI nc)) hx hb hr (fun t9 ht hW => ⟨⟨_, (h0, h2), rfl, rfl, by rw [ht]; exact hP.sub [0, 1, 2, 3, 4] rfl, hD.sub [0, 1, 2, 3, 4] (by decide) rfl⟩, hS.F ht⟩) hS.2.2 dX6_keepCode_39

set_option maxHeartbeats 4000000 in
set_option maxRecDepth 100000 in
/-- ring() of a ring -/
theorem k_ring (l : Launch) (dC : Nat → ClassId) (dI : Nat → Nat → Nat) (sz : Nat) (cI cC : ClassId) (o a0 a1 a2 : Nat) (w nc : Nat) (ad : Nat → Option Nat) (f : Nat → Int32) (hwm : w < 64) (hrg : ztg f w = true) (hnc : nc < 4) : Met l yX6_ring wsX6_ring ({ frames := 3, cells := 3, slots := 323, locals := 82 }) (va_Pc [.ref o] (zPcD (dC, dI) [(o, .inr (6, [.ref a0, .int (nI w), .ref a1, .int (nI nc), .null, .int 40, .int 48, .int 0, .ref a2])), (a0, .inl (cI, 64, .inl f)), (a1, .inl (cC, 4, .inr (.inr (.inr (.inr ad)))))] [(cI, .int), (cC, (.object RX0))] sz)) (va_Qi (fun (r : Int32) (_ : Nat × Nat × Nat) => r = nI nc) (fun u t => va_P (dC, dI) vwCl [(o, .inr (6, [.ref a0, .int (nI 0), .ref a1, .int (nI (nc + 1)), .null, .int 40, .int 48, .int 0, .ref a2])), (a0, .inl (cI, 64, .inl f)), (a1, .inl (cC, 4, .inr (.inr (.inr (.inr (va_up ad nc (some u.2.1))))))), (u.1, .inl (cI, w, .inl f)), (u.2.1, .inr (0, [.ref u.1, .int (nI (ztr f w)), .ref u.2.2])), (u.2.2, .inl (cI, 256, .inl (zpl f w)))] t.heap ∧ va_D (va_A [(o, .inr (6, [.ref a0, .int (nI w), .ref a1, .int (nI nc), .null, .int 40, .int 48, .int 0, .ref a2])), (a0, .inl (cI, 64, .inl f)), (a1, .inl (cC, 4, .inr (.inr (.inr (.inr ad)))))] sz) [(o, .inr (6, [.ref a0, .int (nI 0), .ref a1, .int (nI (nc + 1)), .null, .int 40, .int 48, .int 0, .ref a2])), (a0, .inl (cI, 64, .inl f)), (a1, .inl (cC, 4, .inr (.inr (.inr (.inr (va_up ad nc (some u.2.1))))))), (u.1, .inl (cI, w, .inl f)), (u.2.1, .inr (0, [.ref u.1, .int (nI (ztr f w)), .ref u.2.2])), (u.2.2, .inl (cI, 256, .inl (zpl f w)))]) (va_A [(o, .inr (6, [.ref a0, .int (nI w), .ref a1, .int (nI nc), .null, .int 40, .int 48, .int 0, .ref a2])), (a0, .inl (cI, 64, .inl f)), (a1, .inl (cC, 4, .inr (.inr (.inr (.inr ad)))))] sz)) 3 323 (va_A [(o, .inr (6, [.ref a0, .int (nI w), .ref a1, .int (nI nc), .null, .int 40, .int 48, .int 0, .ref a2])), (a0, .inl (cI, 64, .inl f)), (a1, .inl (cC, 4, .inr (.inr (.inr (.inr ad)))))] sz) := by
  refine Met.ofW (cc := cX6_ring) (maxL := 2) (ret := (some .int)) (by decide) rfl ?_
  intro p e s m args below meth c s₁ B hml hv
  obtain ⟨rfl, hsz, hP, hK, hD0⟩ := hv
  have hx := B.exec
  have hb := B.bytes
  have hr := B.returns
  have hts := atoms_spec (ws := wsX6_ring) B.pre
  have hown : s.vm.findClass RX6 = some m.cls := findClass_of_methodNamed B.named
  have hlocks := B.notSynchronized
  subst hsz
  have hi6 : ∀ w ∈ u_ws RX6 TX6 9, w ∈ wsX6_ring := by decide +kernel
  have hD := hD0.self (sz := s.heap.size)
  generalize hAe : va_A [(o, .inr (6, [.ref a0, .int (nI w), .ref a1, .int (nI nc), .null, .int 40, .int 48, .int 0, .ref a2])), (a0, .inl (cI, 64, .inl f)), (a1, .inl (cC, 4, .inr (.inr (.inr (.inr ad)))))] s.heap.size = A at hD ⊢
  have hA : ∀ q : Nat, s.heap.size ≤ q → A q := fun q h => by rw [← hAe]; exact Or.inr h
  have hS : va_S A s.heap s.heap [] := va_S.rf
  have hl := lv_entry ([.ref o]) (n := 2) (Nat.le_of_ble_eq_true rfl)
  rw [lg_entry_eq]
  generalize (lg_sl ([.ref o]) ++ List.replicate (2 - (lg_sl ([.ref o])).length) Slot.unset).toArray = ls at hl ⊢
  have hl : lv_has ls 2 [(0, .ref o)] := hl
  refine lv_aload_n hx hb dX6_ring_0 rfl (lv_at hl 0 rfl) ?_
  refine va_calli (va_runV (As := []) (rest := []) ⟨hx, hb, hml, hown, hts⟩ (k_typedIsRing l dC dI s.heap.size cI cC o a0 a1 a2 w nc f (by omega)) (cwV 0 hts gX6_ring_X6_typedIsRing rfl rfl rfl (by decide +kernel) ⟨Nat.le_of_ble_eq_true rfl, Nat.le_of_ble_eq_true rfl⟩) ⟨zfb, va_recv hK hP (ci := 6) (q0 := 0) rfl rfl, zpre (hP.sub (ws' := [(o, .inr (6, [.ref a0, .int (nI w), .ref a1, .int (nI nc), .null, .int 40, .int 48, .int 0, .ref a2])), (a0, .inl (cI, 64, .inl f))]) [0, 1] rfl) (hK.sub (tys' := [(cI, .int), (cC, (.object RX0))]) [0, 1] rfl)⟩ rfl rfl hl.1 rfl (lv_room (Nat.le_of_ble_eq_true rfl)) dX6_ring_1 ⟨Nat.le_of_ble_eq_true rfl, Nat.le_of_ble_eq_true rfl⟩) hS (fun q h1 h2 => absurd h2 (Nat.not_le.mpr h1)) (fun q h => hA q (Nat.le_trans hS.1 h)) (fun r9 u9 t9 H1 locs ht hvm hw hB hz1 hk1 hS => ?_)
  have hw : r9 = zb (ztg f w) := hw
  subst hw
  have hP := zr_keep hP hk1
  clear hk1 hz1 hB ht hvm hw
  refine zt_top (y := 1) (by rw [hrg]; rfl) ?_
  refine lv_if_ne (tgt := 17) hx hb dX6_ring_4 (by decide) (fun c4 => ?_) (fun c => absurd c (by decide))
  refine lv_aload_n hx hb dX6_ring_17 rfl (lv_at hl 0 rfl) ?_
  refine va_get (D := (dC, dI)) (ci := 6) (v := .int (nI nc)) (C := RX6) (T := TX6) (N := 9) hx hb hts hi6 hown hK hP 0 rfl rfl 3 (by decide) (hts (.fieldLink RX6 61 "Ringtrack" "codeCount" "I") (List.mem_of_getElem? (i := 5) rfl)) (fun _ h9 => h9) rfl dX6_ring_18 ?_
  refine lv_aload_n hx hb dX6_ring_21 rfl (lv_at hl 0 rfl) ?_
  refine va_get (D := (dC, dI)) (ci := 6) (v := .ref a1) (C := RX6) (T := TX6) (N := 9) hx hb hts hi6 hown hK hP 0 rfl rfl 2 (by decide) (hts (.fieldLink RX6 15 "Ringtrack" "codes" "[LRingtrack$Code;") (List.mem_of_getElem? (i := 6) rfl)) (fun _ h9 => h9) rfl dX6_ring_22 ?_
  refine va_alen (v := 4) hx hb hK hP 2 1 rfl rfl rfl dX6_ring_25 ?_
  refine lv_icmp_lt (tgt := 39) hx hb dX6_ring_26 (by decide) (fun c26 => ?_) (fun c => absurd (nI_lt (b := 4) hnc (by decide)) c)
  refine lv_aload_n hx hb dX6_ring_39 rfl (lv_at hl 0 rfl) ?_
  refine va_get (D := (dC, dI)) (ci := 6) (v := .ref a0) (C := RX6) (T := TX6) (N := 9) hx hb hts hi6 hown hK hP 0 rfl rfl 0 (by decide) (hts (.fieldLink RX6 9 "Ringtrack" "typed" "[I") (List.mem_of_getElem? (i := 7) rfl)) (fun _ h9 => h9) rfl dX6_ring_40 ?_
  refine lv_aload_n hx hb dX6_ring_43 rfl (lv_at hl 0 rfl) ?_
  refine va_get (D := (dC, dI)) (ci := 6) (v := .int (nI w)) (C := RX6) (T := TX6) (N := 9) hx hb hts hi6 hown hK hP 0 rfl rfl 1 (by decide) (hts (.fieldLink RX6 44 "Ringtrack" "typedCount" "I") (List.mem_of_getElem? (i := 8) rfl)) (fun _ h9 => h9) rfl dX6_ring_44 ?_
  have hPc := hP.sub (ws' := [(a0, .inl (cI, 64, .inl f))]) [1] rfl
  have hDc := hD.sub (ws' := [(a0, .inl (cI, 64, .inl f))]) [1] (by decide) rfl
  have hKc := hK.sub (tys' := [(cI, .int)]) [0] rfl
  have hFc := va_free (wc := [(a0, .inl (cI, 64, .inl f))]) hD hS hA [1] rfl
  refine va_callr (va_runS (As := [.ref a0, .int (nI w)]) (rest := []) ⟨hx, hb, hml, hown, hts⟩ (k_copyOf l dC dI H1.size cI a0 w f hwm) (va_cwS 2 hts gX6_ring_J7_copyOf_59c91 rfl rfl rfl (by decide +kernel) ⟨Nat.le_of_ble_eq_true rfl, Nat.le_of_ble_eq_true rfl⟩) ⟨zfbD, zpreD hPc hKc hDc⟩ rfl rfl hl.1 rfl (lv_room (Nat.le_of_ble_eq_true rfl)) dX6_ring_47 ⟨Nat.le_of_ble_eq_true rfl, Nat.le_of_ble_eq_true rfl⟩) hS (fun q _ h => hFc q h) hFc (fun u9 h1 t9 H1 locs ht hvm hw hB hz1 hk1 hS => ?_)
  try dsimp only at hw
  obtain ⟨hP1, hD1⟩ := hB
  rw [ht] at hP1
  obtain ⟨hP, hD⟩ := va_join (wr := [(o, .inr (6, [.ref a0, .int (nI w), .ref a1, .int (nI nc), .null, .int 40, .int 48, .int 0, .ref a2])), (a1, .inl (cC, 4, .inr (.inr (.inr (.inr ad)))))]) (w1 := [(a0, .inl (cI, 64, .inl f)), (h1, .inl (cI, w, .inl f))]) hP hD [1] [0, 2] rfl rfl (by decide) (by decide) hk1 hFc hP1 hD1
  clear hPc hDc hFc hP1 hD1 hk1 hz1 ht hvm
  have hP : va_P (dC, dI) vwCl [(o, .inr (6, [.ref a0, .int (nI w), .ref a1, .int (nI nc), .null, .int 40, .int 48, .int 0, .ref a2])), (a1, .inl (cC, 4, .inr (.inr (.inr (.inr ad))))), (a0, .inl (cI, 64, .inl f)), (h1, .inl (cI, w, .inl f))] H1 := hP
  have hD : va_D A [(o, .inr (6, [.ref a0, .int (nI w), .ref a1, .int (nI nc), .null, .int 40, .int 48, .int 0, .ref a2])), (a1, .inl (cC, 4, .inr (.inr (.inr (.inr ad))))), (a0, .inl (cI, 64, .inl f)), (h1, .inl (cI, w, .inl f))] := hD
  refine W.widen (k := 1) (n := 64) (by omega) (by omega) ?_
  refine lv_astore_n (lv' := [(1, .ref h1), (0, .ref o)]) hx hb dX6_ring_50 rfl hl (by decide) rfl (fun ls hl => ?_)
  refine lv_aload_n hx hb dX6_ring_51 rfl (lv_at hl 1 rfl) ?_
  refine lv_iconst (v := 0) hx hb dX6_ring_52 (by decide) ?_
  refine zt_top (y := nI 0) (nI_0.symm) ?_
  refine va_put (D := (dC, dI)) (ci := 6) (v := .int (nI 0)) (ty := .int) (C := RX6) (T := TX6) (N := 9) hx hb hts hi6 tyX6 tyX6_ok nmX6 hown hK hP hD hS 0 rfl rfl 1 (by decide) (hts (.fieldLink RX6 44 "Ringtrack" "typedCount" "I") (List.mem_of_getElem? (i := 8) rfl)) (fun _ h9 => h9) rfl (by decide +kernel) rfl rfl (Nat.le_of_ble_eq_true rfl) dX6_ring_53 (fun H locs hP hD hS => ?_)
  have hP : va_P (dC, dI) vwCl [(o, .inr (6, [.ref a0, .int (nI 0), .ref a1, .int (nI nc), .null, .int 40, .int 48, .int 0, .ref a2])), (a1, .inl (cC, 4, .inr (.inr (.inr (.inr ad))))), (a0, .inl (cI, 64, .inl f)), (h1, .inl (cI, w, .inl f))] H := hP
  have hD : va_D A [(o, .inr (6, [.ref a0, .int (nI 0), .ref a1, .int (nI nc), .null, .int 40, .int 48, .int 0, .ref a2])), (a1, .inl (cC, 4, .inr (.inr (.inr (.inr ad))))), (a0, .inl (cI, 64, .inl f)), (h1, .inl (cI, w, .inl f))] := hD
  refine lv_aload_n hx hb dX6_ring_56 rfl (lv_at hl 1 rfl) ?_
  refine lv_aload_n hx hb dX6_ring_57 rfl (lv_at hl 0 rfl) ?_
  have hPc := hP.sub (ws' := [(o, .inr (6, [.ref a0, .int (nI 0), .ref a1, .int (nI nc), .null, .int 40, .int 48, .int 0, .ref a2])), (a1, .inl (cC, 4, .inr (.inr (.inr (.inr ad))))), (h1, .inl (cI, w, .inl f))]) [0, 1, 3] rfl
  have hDc := hD.sub (ws' := [(o, .inr (6, [.ref a0, .int (nI 0), .ref a1, .int (nI nc), .null, .int 40, .int 48, .int 0, .ref a2])), (a1, .inl (cC, 4, .inr (.inr (.inr (.inr ad))))), (h1, .inl (cI, w, .inl f))]) [0, 1, 3] (by decide) rfl
  have hKc := hK.sub (tys' := [(cI, .int), (cC, (.object RX0))]) [0, 1] rfl
  have hFc := va_free (wc := [(o, .inr (6, [.ref a0, .int (nI 0), .ref a1, .int (nI nc), .null, .int 40, .int 48, .int 0, .ref a2])), (a1, .inl (cC, 4, .inr (.inr (.inr (.inr ad))))), (h1, .inl (cI, w, .inl f))]) hD hS hA [0, 1, 3] rfl
  refine va_calli (va_runV (As := [.ref h1]) (rest := []) ⟨hx, hb, hml, hown, hts⟩ (k_keepCode l dC dI H.size cI cC o a0 a1 a2 (nI 0) nc ad h1 w f (by omega) hnc) (cwV 1 hts gX6_ring_X6_keepCode rfl rfl rfl (by decide +kernel) ⟨Nat.le_of_ble_eq_true rfl, Nat.le_of_ble_eq_true rfl⟩) ⟨zfbD, va_recv hK hP (ci := 6) (q0 := 0) rfl rfl, zpreD hPc hKc hDc⟩ rfl rfl hl.1 rfl (lv_room (Nat.le_of_ble_eq_true rfl)) dX6_ring_58 ⟨Nat.le_of_ble_eq_true rfl, Nat.le_of_ble_eq_true rfl⟩) hS (fun q _ h => hFc q h) hFc (fun r9 u9 t9 H1 locs ht hvm hw hB hz1 hk1 hS => ?_)
  try dsimp only at hw
  obtain ⟨h0, h2⟩ := u9
  have hw : r9 = nI nc := hw
  subst hw
  obtain ⟨hP1, hD1⟩ := hB
  rw [ht] at hP1
  obtain ⟨hP, hD⟩ := va_join (wr := [(a0, .inl (cI, 64, .inl f))]) (w1 := [(o, .inr (6, [.ref a0, .int (nI 0), .ref a1, .int (nI (nc + 1)), .null, .int 40, .int 48, .int 0, .ref a2])), (a1, .inl (cC, 4, .inr (.inr (.inr (.inr (va_up ad nc (some h0))))))), (h1, .inl (cI, w, .inl f)), (h0, .inr (0, [.ref h1, .int (nI (ztr f w)), .ref h2])), (h2, .inl (cI, 256, .inl (zpl f w)))]) hP hD [0, 1, 3] [2] rfl rfl (by decide) (by decide) hk1 hFc hP1 hD1
  clear hPc hDc hFc hP1 hD1 hk1 hz1 ht hvm
  have hP : va_P (dC, dI) vwCl [(a0, .inl (cI, 64, .inl f)), (o, .inr (6, [.ref a0, .int (nI 0), .ref a1, .int (nI (nc + 1)), .null, .int 40, .int 48, .int 0, .ref a2])), (a1, .inl (cC, 4, .inr (.inr (.inr (.inr (va_up ad nc (some h0))))))), (h1, .inl (cI, w, .inl f)), (h0, .inr (0, [.ref h1, .int (nI (ztr f w)), .ref h2])), (h2, .inl (cI, 256, .inl (zpl f w)))] H1 := hP
  have hD : va_D A [(a0, .inl (cI, 64, .inl f)), (o, .inr (6, [.ref a0, .int (nI 0), .ref a1, .int (nI (nc + 1)), .null, .int 40, .int 48, .int 0, .ref a2])), (a1, .inl (cC, 4, .inr (.inr (.inr (.inr (va_up ad nc (some h0))))))), (h1, .inl (cI, w, .inl f)), (h0, .inr (0, [.ref h1, .int (nI (ztr f w)), .ref h2])), (h2, .inl (cI, 256, .inl (zpl f w)))] := hD
  refine W.widen (k := 3) (n := 323) (by omega) (by omega) ?_
  exact W.iret (v := (nI nc)) hx hb hr (fun t9 ht hW => ⟨⟨_, (h1, h0, h2), rfl, rfl, by rw [ht]; exact hP.sub [1, 0, 2, 3, 4, 5] rfl, hD.sub [1, 0, 2, 3, 4, 5] (by decide) rfl⟩, hS.F ht⟩) hS.2.2 dX6_ring_61

set_option maxHeartbeats 4000000 in
set_option maxRecDepth 100000 in
/-- reflected(b) -/
theorem k_reflected (l : Launch) (dC : Nat → ClassId) (dI : Nat → Nat → Nat) (sz : Nat) (cI cC : ClassId) (o a0 a1 a2 : Nat) (tc : Int32) (nc : Nat) (ad : Nat → Option Nat) (b n : Nat) (hb2 : 2 ≤ b) (hb5 : b ≤ 5) (hnb : n = 2 ^ b) (hnc : nc < 4) : Met l yX6_reflected wsX6_reflected ({ frames := 3, cells := 3, slots := 291, locals := 80 }) (va_Pc [.ref o, .int (nI b)] (zPcD (dC, dI) [(o, .inr (6, [.ref a0, .int tc, .ref a1, .int (nI nc), .null, .int 40, .int 48, .int 0, .ref a2])), (a1, .inl (cC, 4, .inr (.inr (.inr (.inr ad)))))] [(cI, .int), (cC, (.object RX0))] sz)) (va_Qi (fun (r : Int32) (_ : Nat × Nat × Nat) => r = nI nc) (fun u t => va_P (dC, dI) vwCl [(o, .inr (6, [.ref a0, .int tc, .ref a1, .int (nI (nc + 1)), .null, .int 40, .int 48, .int 0, .ref a2])), (a1, .inl (cC, 4, .inr (.inr (.inr (.inr (va_up ad nc (some u.2.1))))))), (u.1, .inl (cI, n, .inl zrf)), (u.2.1, .inr (0, [.ref u.1, .int (nI (ztr zrf n)), .ref u.2.2])), (u.2.2, .inl (cI, 256, .inl (zpl zrf n)))] t.heap ∧ va_D (va_A [(o, .inr (6, [.ref a0, .int tc, .ref a1, .int (nI nc), .null, .int 40, .int 48, .int 0, .ref a2])), (a1, .inl (cC, 4, .inr (.inr (.inr (.inr ad)))))] sz) [(o, .inr (6, [.ref a0, .int tc, .ref a1, .int (nI (nc + 1)), .null, .int 40, .int 48, .int 0, .ref a2])), (a1, .inl (cC, 4, .inr (.inr (.inr (.inr (va_up ad nc (some u.2.1))))))), (u.1, .inl (cI, n, .inl zrf)), (u.2.1, .inr (0, [.ref u.1, .int (nI (ztr zrf n)), .ref u.2.2])), (u.2.2, .inl (cI, 256, .inl (zpl zrf n)))]) (va_A [(o, .inr (6, [.ref a0, .int tc, .ref a1, .int (nI nc), .null, .int 40, .int 48, .int 0, .ref a2])), (a1, .inl (cC, 4, .inr (.inr (.inr (.inr ad)))))] sz)) 3 291 (va_A [(o, .inr (6, [.ref a0, .int tc, .ref a1, .int (nI nc), .null, .int 40, .int 48, .int 0, .ref a2])), (a1, .inl (cC, 4, .inr (.inr (.inr (.inr ad)))))] sz) := by
  refine Met.ofW (cc := cX6_reflected) (maxL := 4) (ret := (some .int)) (by decide) rfl ?_
  intro p e s m args below meth c s₁ B hml hv
  obtain ⟨rfl, hsz, hP, hK, hD0⟩ := hv
  have hx := B.exec
  have hb := B.bytes
  have hr := B.returns
  have hts := atoms_spec (ws := wsX6_reflected) B.pre
  have hown : s.vm.findClass RX6 = some m.cls := findClass_of_methodNamed B.named
  have hlocks := B.notSynchronized
  subst hsz
  have hi6 : ∀ w ∈ u_ws RX6 TX6 9, w ∈ wsX6_reflected := by decide +kernel
  have hD := hD0.self (sz := s.heap.size)
  generalize hAe : va_A [(o, .inr (6, [.ref a0, .int tc, .ref a1, .int (nI nc), .null, .int 40, .int 48, .int 0, .ref a2])), (a1, .inl (cC, 4, .inr (.inr (.inr (.inr ad)))))] s.heap.size = A at hD ⊢
  have hA : ∀ q : Nat, s.heap.size ≤ q → A q := fun q h => by rw [← hAe]; exact Or.inr h
  have hS : va_S A s.heap s.heap [] := va_S.rf
  have hl := lv_entry ([.ref o, .int (nI b)]) (n := 4) (Nat.le_of_ble_eq_true rfl)
  rw [lg_entry_eq]
  generalize (lg_sl ([.ref o, .int (nI b)]) ++ List.replicate (4 - (lg_sl ([.ref o, .int (nI b)])).length) Slot.unset).toArray = ls at hl ⊢
  have hl : lv_has ls 4 [(0, .ref o), (1, .int (nI b))] := hl
  have hbb : b = 2 ∨ b = 3 ∨ b = 4 ∨ b = 5 := by omega
  have hn32 : n ≤ 32 := by rw [hnb]; rcases hbb with rfl | rfl | rfl | rfl <;> decide
  refine lv_iload_n hx hb dX6_reflected_0 rfl (lv_at hl 1 rfl) ?_
  refine lv_iconst (v := 2) hx hb dX6_reflected_1 (by decide) ?_
  refine lv_bipush (v := 6) hx hb dX6_reflected_2 (by decide) ?_
  refine va_calli (va_runS (As := [.int (nI b), .int 2, .int 6]) (rest := []) ⟨hx, hb, hml, hown, hts⟩ (k_isWithin l dC dI s.heap.size (nI b) 2 6) (va_cwS 3 hts gX6_reflected_X6_isWithin rfl rfl rfl (by decide +kernel) ⟨Nat.le_of_ble_eq_true rfl, Nat.le_of_ble_eq_true rfl⟩) ⟨zfb, zpre (hP.sub (ws' := []) [] rfl) (hK.sub (tys' := []) [] rfl)⟩ rfl rfl hl.1 rfl (lv_room (Nat.le_of_ble_eq_true rfl)) dX6_reflected_4 ⟨Nat.le_of_ble_eq_true rfl, Nat.le_of_ble_eq_true rfl⟩) hS (fun q h1 h2 => absurd h2 (Nat.not_le.mpr h1)) (fun q h => hA q (Nat.le_trans hS.1 h)) (fun r9 u9 t9 H1 locs ht hvm hw hB hz1 hk1 hS => ?_)
  have hw : r9 = zb (decide ((2 : Int32) ≤ nI b) && decide (nI b ≤ 6)) := hw
  subst hw
  have hP := zr_keep hP hk1
  clear hk1 hz1 hB ht hvm hw
  refine zt_top (y := 1) (by rcases hbb with rfl | rfl | rfl | rfl <;> decide) ?_
  refine lv_if_ne (tgt := 20) hx hb dX6_reflected_7 (by decide) (fun c7 => ?_) (fun c => absurd c (by decide))
  refine lv_aload_n hx hb dX6_reflected_20 rfl (lv_at hl 0 rfl) ?_
  refine va_get (D := (dC, dI)) (ci := 6) (v := .int (nI nc)) (C := RX6) (T := TX6) (N := 9) hx hb hts hi6 hown hK hP 0 rfl rfl 3 (by decide) (hts (.fieldLink RX6 61 "Ringtrack" "codeCount" "I") (List.mem_of_getElem? (i := 5) rfl)) (fun _ h9 => h9) rfl dX6_reflected_21 ?_
  refine lv_aload_n hx hb dX6_reflected_24 rfl (lv_at hl 0 rfl) ?_
  refine va_get (D := (dC, dI)) (ci := 6) (v := .ref a1) (C := RX6) (T := TX6) (N := 9) hx hb hts hi6 hown hK hP 0 rfl rfl 2 (by decide) (hts (.fieldLink RX6 15 "Ringtrack" "codes" "[LRingtrack$Code;") (List.mem_of_getElem? (i := 6) rfl)) (fun _ h9 => h9) rfl dX6_reflected_25 ?_
  refine va_alen (v := 4) hx hb hK hP 1 1 rfl rfl rfl dX6_reflected_28 ?_
  refine lv_icmp_lt (tgt := 42) hx hb dX6_reflected_29 (by decide) (fun c29 => ?_) (fun c => absurd (nI_lt (b := 4) hnc (by decide)) c)
  refine lv_iconst (v := 1) hx hb dX6_reflected_42 (by decide) ?_
  refine lv_iload_n hx hb dX6_reflected_43 rfl (lv_at hl 1 rfl) ?_
  refine lv_ishl hx hb dX6_reflected_44 ?_
  refine zt_top (y := nI n) (by rw [hnb]; rcases hbb with rfl | rfl | rfl | rfl <;> decide) ?_
  refine va_newa (atype := .int) (ty := .int) (N' := n) (a0 := (n, .inl (fun _ => 0))) hx hb (hts (.arrayClass .int) (List.mem_of_getElem? (i := 7) rfl)) rfl hK hP hD hS hA (fun _ => rfl) (nI_pos (by omega)) (nI_clamp (by omega)) (by show n * 4 ≤ 536870912; omega) (Nat.le_of_ble_eq_true rfl) (by show 0 + n ≤ 291; omega) dX6_reflected_45 (fun h1 cA H hK hP hD hS => ?_)
  obtain rfl := zI_one hK (i := 0) (j := 2) rfl rfl
  have hK := hK.sub (tys' := [(cI, .int), (cC, (.object RX0))]) [0, 1] rfl
  have hP : va_P (dC, dI) vwCl [(o, .inr (6, [.ref a0, .int tc, .ref a1, .int (nI nc), .null, .int 40, .int 48, .int 0, .ref a2])), (a1, .inl (cC, 4, .inr (.inr (.inr (.inr ad))))), (h1, .inl (cI, n, .inl (fun _ => 0)))] H := hP
  have hD : va_D A [(o, .inr (6, [.ref a0, .int tc, .ref a1, .int (nI nc), .null, .int 40, .int 48, .int 0, .ref a2])), (a1, .inl (cC, 4, .inr (.inr (.inr (.inr ad))))), (h1, .inl (cI, n, .inl (fun _ => 0)))] := hD
  refine W.widen (k := 1) (n := 32) (by omega) (by omega) ?_
  refine lv_astore_n (lv' := [(2, .ref h1), (0, .ref o), (1, .int (nI b))]) hx hb dX6_reflected_47 rfl hl (by decide) rfl (fun ls hl => ?_)
  refine lv_iconst (v := 0) hx hb dX6_reflected_48 (by decide) ?_
  refine lv_istore_n (lv' := [(3, .int 0), (2, .ref h1), (0, .ref o), (1, .int (nI b))]) hx hb dX6_reflected_49 rfl hl (by decide) rfl (fun ls hl => ?_)
  rw [← zrw_0] at hP hD
  have hP : va_P (dC, dI) vwCl [(o, .inr (6, [.ref a0, .int tc, .ref a1, .int (nI nc), .null, .int 40, .int 48, .int 0, .ref a2])), (a1, .inl (cC, 4, .inr (.inr (.inr (.inr ad))))), (h1, .inl (cI, n, .inl (zrw 0)))] H := hP
  have hD : va_D A [(o, .inr (6, [.ref a0, .int tc, .ref a1, .int (nI nc), .null, .int 40, .int 48, .int 0, .ref a2])), (a1, .inl (cC, 4, .inr (.inr (.inr (.inr ad))))), (h1, .inl (cI, n, .inl (zrw 0)))] := hD
  have loop : ∀ (d : Nat) (k : Nat), n + 1 ≤ k + d → k ≤ n → ∀ (H : Heap) (locs : List Loc), va_P (dC, dI) vwCl [(o, .inr (6, [.ref a0, .int tc, .ref a1, .int (nI nc), .null, .int 40, .int 48, .int 0, .ref a2])), (a1, .inl (cC, 4, .inr (.inr (.inr (.inr ad))))), (h1, .inl (cI, n, .inl (zrw k)))] H → va_D A [(o, .inr (6, [.ref a0, .int tc, .ref a1, .int (nI nc), .null, .int 40, .int 48, .int 0, .ref a2])), (a1, .inl (cC, 4, .inr (.inr (.inr (.inr ad))))), (h1, .inl (cI, n, .inl (zrw k)))] → va_S A s.heap H locs → ∀ ls : Array Slot, lv_has ls 4 [(0, .ref o), (1, .int (nI b)), (2, .ref h1), (3, .int (nI k))] → W p l e (headSpec wsX6_reflected ({ frames := 3, cells := 3, slots := 291, locals := 80 })).room s m ([.ref o, .int (nI b)] : List Value).toArray below meth c H locs 1 32 (MQ below (va_Qi (fun (r : Int32) (_ : Nat × Nat × Nat) => r = nI nc) (fun u t => va_P (dC, dI) vwCl [(o, .inr (6, [.ref a0, .int tc, .ref a1, .int (nI (nc + 1)), .null, .int 40, .int 48, .int 0, .ref a2])), (a1, .inl (cC, 4, .inr (.inr (.inr (.inr (va_up ad nc (some u.2.1))))))), (u.1, .inl (cI, n, .inl zrf)), (u.2.1, .inr (0, [.ref u.1, .int (nI (ztr zrf n)), .ref u.2.2])), (u.2.2, .inl (cI, 256, .inl (zpl zrf n)))] t.heap ∧ va_D A [(o, .inr (6, [.ref a0, .int tc, .ref a1, .int (nI (nc + 1)), .null, .int 40, .int 48, .int 0, .ref a2])), (a1, .inl (cC, 4, .inr (.inr (.inr (.inr (va_up ad nc (some u.2.1))))))), (u.1, .inl (cI, n, .inl zrf)), (u.2.1, .inr (0, [.ref u.1, .int (nI (ztr zrf n)), .ref u.2.2])), (u.2.2, .inl (cI, 256, .inl (zpl zrf n)))]) A) ([.ref o, .int (nI b)] : List Value).toArray s 3 291 A) (F0 m 50 ls []) := by
    intro d
    induction d with
    | zero => intro k hd hk; exact absurd hd (by omega)
    | succ d ih =>
      intro k hd hk H locs hP hD hS ls hl
      refine lv_iload_n hx hb dX6_reflected_50 rfl (lv_at hl 3 rfl) ?_
      refine lv_aload_n hx hb dX6_reflected_51 rfl (lv_at hl 2 rfl) ?_
      refine va_alen (v := (nI n)) hx hb hK hP 2 0 rfl rfl rfl dX6_reflected_52 ?_
      refine lv_icmp_ge (tgt := 70) hx hb dX6_reflected_53 (by decide) (fun c53 => ?_) (fun c53 => ?_)
      · skip
        have hkn : k = n := Nat.le_antisymm hk ((nI_leI (by omega) (by omega)).mp c53)
        rw [hkn] at hP hD
        obtain ⟨hP, hD⟩ := z_fn (g := zrf) hP hD 2 rfl (fun j hj => zrw_in hj)
        have hP : va_P (dC, dI) vwCl [(o, .inr (6, [.ref a0, .int tc, .ref a1, .int (nI nc), .null, .int 40, .int 48, .int 0, .ref a2])), (a1, .inl (cC, 4, .inr (.inr (.inr (.inr ad))))), (h1, .inl (cI, n, .inl zrf))] H := hP
        have hD : va_D A [(o, .inr (6, [.ref a0, .int tc, .ref a1, .int (nI nc), .null, .int 40, .int 48, .int 0, .ref a2])), (a1, .inl (cC, 4, .inr (.inr (.inr (.inr ad))))), (h1, .inl (cI, n, .inl zrf))] := hD
        refine lv_aload_n hx hb dX6_reflected_70 rfl (lv_at hl 0 rfl) ?_
        refine lv_aload_n hx hb dX6_reflected_71 rfl (lv_at hl 2 rfl) ?_
        have hPc := hP.sub (ws' := [(o, .inr (6, [.ref a0, .int tc, .ref a1, .int (nI nc), .null, .int 40, .int 48, .int 0, .ref a2])), (a1, .inl (cC, 4, .inr (.inr (.inr (.inr ad))))), (h1, .inl (cI, n, .inl zrf))]) [0, 1, 2] rfl
        have hDc := hD.sub (ws' := [(o, .inr (6, [.ref a0, .int tc, .ref a1, .int (nI nc), .null, .int 40, .int 48, .int 0, .ref a2])), (a1, .inl (cC, 4, .inr (.inr (.inr (.inr ad))))), (h1, .inl (cI, n, .inl zrf))]) [0, 1, 2] (by decide) rfl
        have hKc := hK.sub (tys' := [(cI, .int), (cC, (.object RX0))]) [0, 1] rfl
        have hFc := va_free (wc := [(o, .inr (6, [.ref a0, .int tc, .ref a1, .int (nI nc), .null, .int 40, .int 48, .int 0, .ref a2])), (a1, .inl (cC, 4, .inr (.inr (.inr (.inr ad))))), (h1, .inl (cI, n, .inl zrf))]) hD hS hA [0, 1, 2] rfl
        refine va_calli (va_runV (As := [.ref h1]) (rest := []) ⟨hx, hb, hml, hown, hts⟩ (k_keepCode l dC dI H.size cI cC o a0 a1 a2 tc nc ad h1 n zrf (by omega) hnc) (cwV 1 hts gX6_reflected_X6_keepCode rfl rfl rfl (by decide +kernel) ⟨Nat.le_of_ble_eq_true rfl, Nat.le_of_ble_eq_true rfl⟩) ⟨zfbD, va_recv hK hP (ci := 6) (q0 := 0) rfl rfl, zpreD hPc hKc hDc⟩ rfl rfl hl.1 rfl (lv_room (Nat.le_of_ble_eq_true rfl)) dX6_reflected_72 ⟨Nat.le_of_ble_eq_true rfl, Nat.le_of_ble_eq_true rfl⟩) hS (fun q _ h => hFc q h) hFc (fun r9 u9 t9 H1 locs ht hvm hw hB hz1 hk1 hS => ?_)
        try dsimp only at hw
        obtain ⟨h0, h2⟩ := u9
        have hw : r9 = nI nc := hw
        subst hw
        obtain ⟨hP1, hD1⟩ := hB
        rw [ht] at hP1
        obtain ⟨hP, hD⟩ := va_join (wr := []) (w1 := [(o, .inr (6, [.ref a0, .int tc, .ref a1, .int (nI (nc + 1)), .null, .int 40, .int 48, .int 0, .ref a2])), (a1, .inl (cC, 4, .inr (.inr (.inr (.inr (va_up ad nc (some h0))))))), (h1, .inl (cI, n, .inl zrf)), (h0, .inr (0, [.ref h1, .int (nI (ztr zrf n)), .ref h2])), (h2, .inl (cI, 256, .inl (zpl zrf n)))]) hP hD [0, 1, 2] [] rfl rfl (by decide) (by decide) hk1 hFc hP1 hD1
        clear hPc hDc hFc hP1 hD1 hk1 hz1 ht hvm
        have hP : va_P (dC, dI) vwCl [(o, .inr (6, [.ref a0, .int tc, .ref a1, .int (nI (nc + 1)), .null, .int 40, .int 48, .int 0, .ref a2])), (a1, .inl (cC, 4, .inr (.inr (.inr (.inr (va_up ad nc (some h0))))))), (h1, .inl (cI, n, .inl zrf)), (h0, .inr (0, [.ref h1, .int (nI (ztr zrf n)), .ref h2])), (h2, .inl (cI, 256, .inl (zpl zrf n)))] H1 := hP
        have hD : va_D A [(o, .inr (6, [.ref a0, .int tc, .ref a1, .int (nI (nc + 1)), .null, .int 40, .int 48, .int 0, .ref a2])), (a1, .inl (cC, 4, .inr (.inr (.inr (.inr (va_up ad nc (some h0))))))), (h1, .inl (cI, n, .inl zrf)), (h0, .inr (0, [.ref h1, .int (nI (ztr zrf n)), .ref h2])), (h2, .inl (cI, 256, .inl (zpl zrf n)))] := hD
        refine W.widen (k := 3) (n := 291) (by omega) (by omega) ?_
        exact W.iret (v := (nI nc)) hx hb hr (fun t9 ht hW => ⟨⟨_, (h1, h0, h2), rfl, rfl, by rw [ht]; exact hP.sub [0, 1, 2, 3, 4] rfl, hD.sub [0, 1, 2, 3, 4] (by decide) rfl⟩, hS.F ht⟩) hS.2.2 dX6_reflected_75
      · skip
        have hkn : k < n := Nat.lt_of_not_le (fun q => c53 ((nI_leI (by omega) (by omega)).mpr q))
        refine lv_aload_n hx hb dX6_reflected_56 rfl (lv_at hl 2 rfl) ?_
        refine lv_iload_n hx hb dX6_reflected_57 rfl (lv_at hl 3 rfl) ?_
        refine lv_iload_n hx hb dX6_reflected_58 rfl (lv_at hl 3 rfl) ?_
        refine lv_iload_n hx hb dX6_reflected_59 rfl (lv_at hl 3 rfl) ?_
        refine lv_iconst (v := 2) hx hb dX6_reflected_60 (by decide) ?_
        refine lv_idiv hx hb dX6_reflected_61 (by decide) ?_
        refine lv_ixor hx hb dX6_reflected_62 ?_
        refine zt_top (y := zrf k) (by rw [show nI k / (2 : Int32) = nI (k / 2) from pk_div (d := 2) (by omega) (by decide) (by decide)]; rfl) ?_
        refine va_iast hx hb hK hP hD hS 2 0 rfl rfl (vp_in_nI hkn (by omega)) dX6_reflected_63 (fun H locs hP hD hS => ?_)
        have hP : va_P (dC, dI) vwCl [(o, .inr (6, [.ref a0, .int tc, .ref a1, .int (nI nc), .null, .int 40, .int 48, .int 0, .ref a2])), (a1, .inl (cC, 4, .inr (.inr (.inr (.inr ad))))), (h1, .inl (cI, n, .inl (upd (zrw k) (nI k).toNatClampNeg (zrf k))))] H := hP
        have hD : va_D A [(o, .inr (6, [.ref a0, .int tc, .ref a1, .int (nI nc), .null, .int 40, .int 48, .int 0, .ref a2])), (a1, .inl (cC, 4, .inr (.inr (.inr (.inr ad))))), (h1, .inl (cI, n, .inl (upd (zrw k) (nI k).toNatClampNeg (zrf k))))] := hD
        rw [nI_clamp (by omega), zrw_s] at hP hD
        have hP : va_P (dC, dI) vwCl [(o, .inr (6, [.ref a0, .int tc, .ref a1, .int (nI nc), .null, .int 40, .int 48, .int 0, .ref a2])), (a1, .inl (cC, 4, .inr (.inr (.inr (.inr ad))))), (h1, .inl (cI, n, .inl (zrw (k + 1))))] H := hP
        have hD : va_D A [(o, .inr (6, [.ref a0, .int tc, .ref a1, .int (nI nc), .null, .int 40, .int 48, .int 0, .ref a2])), (a1, .inl (cC, 4, .inr (.inr (.inr (.inr ad))))), (h1, .inl (cI, n, .inl (zrw (k + 1))))] := hD
        refine lv_iinc (v := nI (k + 1)) (lv' := [(3, .int (nI (k + 1))), (0, .ref o), (1, .int (nI b)), (2, .ref h1)]) hx hb dX6_reflected_64 hl (k := 3) rfl (nI_1 k) (by decide) rfl (fun ls hl => ?_)
        refine lv_goto (tgt := 50) hx hb dX6_reflected_67 (by decide) ?_
        exact ih (k + 1) (by omega) (by omega) _ _ hP hD hS ls (lv_sub hl [1, 2, 3, 0] rfl)
  exact loop (n + 1) 0 (by omega) (Nat.zero_le _) _ _ hP hD hS ls (lv_sub hl [2, 3, 1, 0] rfl)

set_option maxHeartbeats 4000000 in
set_option maxRecDepth 100000 in
/-- isSound() without a disc -/
theorem k_isSound (l : Launch) (dC : Nat → ClassId) (dI : Nat → Nat → Nat) (sz : Nat) (cI cC : ClassId) (o a0 a1 a2 : Nat) (tc : Int32) (nc : Nat) (ad : Nat → Option Nat) (hnc : nc ≤ 4) : Met l yX6_isSound wsX6_isSound ({ frames := 2, cells := 0, slots := 0, locals := 43 }) (va_Pc [.ref o] (zPcC cI nc ad (dC, dI) [(o, .inr (6, [.ref a0, .int tc, .ref a1, .int (nI nc), .null, .int 40, .int 48, .int 0, .ref a2])), (a1, .inl (cC, 4, .inr (.inr (.inr (.inr ad)))))] [(cI, .int), (cC, (.object RX0))] sz)) (va_Qi (fun (r : Int32) (_ : Unit) => r = 1) (fun _ _ => True) (zq sz)) 0 0 (zq sz) := by
  refine Met.ofW (cc := cX6_isSound) (maxL := 3) (ret := (some .boolean)) (by decide) rfl ?_
  intro p e s m args below meth c s₁ B hml hv
  obtain ⟨rfl, hsz, hP, hK, hE⟩ := hv
  have hx := B.exec
  have hb := B.bytes
  have hr := B.returns
  have hts := atoms_spec (ws := wsX6_isSound) B.pre
  have hown : s.vm.findClass RX6 = some m.cls := findClass_of_methodNamed B.named
  have hlocks := B.notSynchronized
  subst hsz
  have hi6 : ∀ w ∈ u_ws RX6 TX6 9, w ∈ wsX6_isSound := by decide +kernel
  have hA : ∀ q : Nat, s.heap.size ≤ q → zq s.heap.size q := fun q h => h
  have hS : va_S (zq s.heap.size) s.heap s.heap [] := va_S.rf
  have hl := lv_entry ([.ref o]) (n := 3) (Nat.le_of_ble_eq_true rfl)
  rw [lg_entry_eq]
  generalize (lg_sl ([.ref o]) ++ List.replicate (3 - (lg_sl ([.ref o])).length) Slot.unset).toArray = ls at hl ⊢
  have hl : lv_has ls 3 [(0, .ref o)] := hl
  have hi0 : ∀ w ∈ u_ws RX0 TX0 3, w ∈ wsX6_isSound := by decide +kernel
  refine lv_iconst (v := 0) hx hb dX6_isSound_0 (by decide) ?_
  refine lv_istore_n (lv' := [(1, .int 0), (0, .ref o)]) hx hb dX6_isSound_1 rfl hl (by decide) rfl (fun ls hl => ?_)
  have loop : ∀ (d : Nat) (k : Nat), nc + 1 ≤ k + d → k ≤ nc → ∀ (H : Heap) (locs : List Loc), va_P (dC, dI) vwCl [(o, .inr (6, [.ref a0, .int tc, .ref a1, .int (nI nc), .null, .int 40, .int 48, .int 0, .ref a2])), (a1, .inl (cC, 4, .inr (.inr (.inr (.inr ad)))))] H → zCs (dC, dI) cI nc ad H → va_S (zq s.heap.size) s.heap H locs → ∀ ls : Array Slot, lv_has ls 3 [(0, .ref o), (1, .int (nI k))] → W p l e (headSpec wsX6_isSound ({ frames := 2, cells := 0, slots := 0, locals := 43 })).room s m ([.ref o] : List Value).toArray below meth c H locs 0 0 (MQ below (va_Qi (fun (r : Int32) (_ : Unit) => r = 1) (fun _ _ => True) (zq s.heap.size)) ([.ref o] : List Value).toArray s 0 0 (zq s.heap.size)) (F0 m 2 ls []) := by
    intro d
    induction d with
    | zero => intro k hd hk; exact absurd hd (by omega)
    | succ d ih =>
      intro k hd hk H locs hP hC hS ls hl
      refine lv_iload_n hx hb dX6_isSound_2 rfl (lv_at hl 1 rfl) ?_
      refine lv_aload_n hx hb dX6_isSound_3 rfl (lv_at hl 0 rfl) ?_
      refine va_get (D := (dC, dI)) (ci := 6) (v := .int (nI nc)) (C := RX6) (T := TX6) (N := 9) hx hb hts hi6 hown hK hP 0 rfl rfl 3 (by decide) (hts (.fieldLink RX6 61 "Ringtrack" "codeCount" "I") (List.mem_of_getElem? (i := 1) rfl)) (fun _ h9 => h9) rfl dX6_isSound_4 ?_
      refine lv_icmp_ge (tgt := 44) hx hb dX6_isSound_7 (by decide) (fun c7 => ?_) (fun c7 => ?_)
      · skip
        have hkc : k = nc := Nat.le_antisymm hk ((nI_leI (by omega) (by omega)).mp c7)
        refine lv_aload_n hx hb dX6_isSound_44 rfl (lv_at hl 0 rfl) ?_
        refine va_get (D := (dC, dI)) (ci := 6) (v := .null) (C := RX6) (T := TX6) (N := 9) hx hb hts hi6 hown hK hP 0 rfl rfl 4 (by decide) (hts (.fieldLink RX6 127 "Ringtrack" "disc" "LRingtrack$Disc;") (List.mem_of_getElem? (i := 4) rfl)) (fun _ h9 => h9) rfl dX6_isSound_45 ?_
        refine lv_astore_nN (lv' := [(1, .null), (0, .ref o)]) hx hb dX6_isSound_48 rfl hl (by decide) rfl (fun ls hl => ?_)
        refine lv_aload_nN hx hb dX6_isSound_49 rfl (lv_at hl 0 rfl) ?_
        refine lv_ifnonnullN hx hb dX6_isSound_50 ?_
        refine lv_iconst (v := 1) hx hb dX6_isSound_53 (by decide) ?_
        exact W.zret (v := 1) hx hb hr (by decide) (fun t9 ht hW => ⟨⟨_, (), rfl, rfl, trivial⟩, hS.F ht⟩) hS.2.2 dX6_isSound_54
      · skip
        have hkc : k < nc := Nat.lt_of_not_le (fun q => c7 ((nI_leI (by omega) (by omega)).mpr q))
        obtain ⟨h0, h1, h2, n, T, f, had, hPk, hn, hrg⟩ := hC k hkc
        have hP := hP.app hPk
        have hP : va_P (dC, dI) vwCl [(o, .inr (6, [.ref a0, .int tc, .ref a1, .int (nI nc), .null, .int 40, .int 48, .int 0, .ref a2])), (a1, .inl (cC, 4, .inr (.inr (.inr (.inr ad))))), (h0, .inr (0, [.ref h1, .int (nI T), .ref h2])), (h1, .inl (cI, n, .inl f))] H := hP
        refine lv_aload_n hx hb dX6_isSound_10 rfl (lv_at hl 0 rfl) ?_
        refine va_get (D := (dC, dI)) (ci := 6) (v := .ref a1) (C := RX6) (T := TX6) (N := 9) hx hb hts hi6 hown hK hP 0 rfl rfl 2 (by decide) (hts (.fieldLink RX6 15 "Ringtrack" "codes" "[LRingtrack$Code;") (List.mem_of_getElem? (i := 2) rfl)) (fun _ h9 => h9) rfl dX6_isSound_11 ?_
        refine lv_iload_n hx hb dX6_isSound_14 rfl (lv_at hl 1 rfl) ?_
        refine va_aldq hx hb hK hP 1 1 rfl rfl (vp_in_nI (by omega) (by decide)) dX6_isSound_15 ?_
        refine zt_topv (y := .ref h0) (by rw [nI_clamp (by omega), had]; rfl) ?_
        refine lv_astore_n (lv' := [(2, .ref h0), (0, .ref o), (1, .int (nI k))]) hx hb dX6_isSound_16 rfl hl (by decide) rfl (fun ls hl => ?_)
        refine lv_aload_n hx hb dX6_isSound_17 rfl (lv_at hl 0 rfl) ?_
        refine lv_ifnull hx hb dX6_isSound_18 ?_
        refine lv_aload_n hx hb dX6_isSound_21 rfl (lv_at hl 0 rfl) ?_
        refine va_get (D := (dC, dI)) (ci := 0) (v := .ref h1) (C := RX0) (T := TX0) (N := 3) hx hb hts hi0 hown hK hP 2 rfl rfl 0 (by decide) (hts (.fieldLink RX6 82 "Ringtrack$Code" "words" "[I") (List.mem_of_getElem? (i := 3) rfl)) (fun _ h9 => h9) rfl dX6_isSound_22 ?_
        refine lv_aload_n hx hb dX6_isSound_25 rfl (lv_at hl 0 rfl) ?_
        refine va_get (D := (dC, dI)) (ci := 0) (v := .ref h1) (C := RX0) (T := TX0) (N := 3) hx hb hts hi0 hown hK hP 2 rfl rfl 0 (by decide) (hts (.fieldLink RX6 82 "Ringtrack$Code" "words" "[I") (List.mem_of_getElem? (i := 3) rfl)) (fun _ h9 => h9) rfl dX6_isSound_26 ?_
        refine va_alen (v := (nI n)) hx hb hK hP 3 0 rfl rfl rfl dX6_isSound_29 ?_
        refine va_calli (va_runS (As := [.ref h1, .int (nI n)]) (rest := []) ⟨hx, hb, hml, hown, hts⟩ (k_isRing l dC dI H.size cI h1 n f n (Nat.le_refl _) hn) (va_cwS 2 hts gX6_isSound_X6_isRing rfl rfl rfl (by decide +kernel) ⟨Nat.le_of_ble_eq_true rfl, Nat.le_of_ble_eq_true rfl⟩) ⟨zfb, zpre (hP.sub (ws' := [(h1, .inl (cI, n, .inl f))]) [3] rfl) (hK.sub (tys' := [(cI, .int)]) [0] rfl)⟩ rfl rfl hl.1 rfl (lv_room (Nat.le_of_ble_eq_true rfl)) dX6_isSound_30 ⟨Nat.le_of_ble_eq_true rfl, Nat.le_of_ble_eq_true rfl⟩) hS (fun q h1 h2 => absurd h2 (Nat.not_le.mpr h1)) (fun q h => hA q (Nat.le_trans hS.1 h)) (fun r9 u9 t9 H1 locs ht hvm hw hB hz1 hk1 hS => ?_)
        have hw : r9 = zb (zrg f n) := hw
        subst hw
        have hC := zCs_keep hC hk1
        have hP := zr_keep hP hk1
        clear hk1 hz1 hB ht hvm hw
        refine zt_top (y := 1) (by rw [hrg]; rfl) ?_
        refine lv_if_ne (tgt := 38) hx hb dX6_isSound_33 (by decide) (fun c33 => ?_) (fun c => absurd c (by decide))
        refine lv_iinc (v := nI (k + 1)) (lv' := [(1, .int (nI (k + 1))), (2, .ref h0), (0, .ref o)]) hx hb dX6_isSound_38 hl (k := 2) rfl (nI_1 k) (by decide) rfl (fun ls hl => ?_)
        refine lv_goto (tgt := 2) hx hb dX6_isSound_41 (by decide) ?_
        exact ih (k + 1) (by omega) (by omega) _ _ (hP.sub [0, 1] rfl) hC hS ls (lv_sub hl [2, 0] rfl)
  exact loop (nc + 1) 0 (by omega) (Nat.zero_le _) _ _ hP hE hS ls (lv_sub hl [1, 0] rfl)

set_option maxHeartbeats 4000000 in
set_option maxRecDepth 100000 in
/-- Frames() -/
theorem k_Frames (l : Launch) (dC : Nat → ClassId) (dI : Nat → Nat → Nat) (sz : Nat) (cI : ClassId) (h0 : Nat) : Met l yX2_init wsX2_init ({ frames := 1, cells := 3, slots := 530, locals := 12 }) (va_Pc [.ref h0] (zPcD (dC, dI) [(h0, .inr (2, [.int 0, .null, .int 0, .int 0, .int 0, .null, .null]))] [(cI, .int)] sz)) (va_Qv (fun (_ : Nat × Nat × Nat) => True) (fun u t => va_P (dC, dI) vwCl [(h0, .inr (2, [.int 0, .ref u.1, .int 0, .int 0, .int 0, .ref u.2.1, .ref u.2.2]))] t.heap ∧ va_D (va_A [(h0, .inr (2, [.int 0, .null, .int 0, .int 0, .int 0, .null, .null]))] sz) [(h0, .inr (2, [.int 0, .ref u.1, .int 0, .int 0, .int 0, .ref u.2.1, .ref u.2.2]))]) (va_A [(h0, .inr (2, [.int 0, .null, .int 0, .int 0, .int 0, .null, .null]))] sz)) 3 530 (va_A [(h0, .inr (2, [.int 0, .null, .int 0, .int 0, .int 0, .null, .null]))] sz) := by
  refine Met.ofW (cc := cX2_init) (maxL := 1) (ret := none) (by decide) rfl ?_
  intro p e s m args below meth c s₁ B hml hv
  obtain ⟨rfl, hsz, hP, hK, hD0⟩ := hv
  have hx := B.exec
  have hb := B.bytes
  have hr := B.returns
  have hts := atoms_spec (ws := wsX2_init) B.pre
  have hown : s.vm.findClass RX2 = some m.cls := findClass_of_methodNamed B.named
  have hlocks := B.notSynchronized
  subst hsz
  have hi2 : ∀ w ∈ u_ws RX2 TX2 7, w ∈ wsX2_init := by decide +kernel
  have hD := hD0.self (sz := s.heap.size)
  generalize hAe : va_A [(h0, .inr (2, [.int 0, .null, .int 0, .int 0, .int 0, .null, .null]))] s.heap.size = A at hD ⊢
  have hA : ∀ q : Nat, s.heap.size ≤ q → A q := fun q h => by rw [← hAe]; exact Or.inr h
  have hS : va_S A s.heap s.heap [] := va_S.rf
  have hl := lv_entry ([.ref h0]) (n := 1) (Nat.le_of_ble_eq_true rfl)
  rw [lg_entry_eq]
  generalize (lg_sl ([.ref h0]) ++ List.replicate (1 - (lg_sl ([.ref h0])).length) Slot.unset).toArray = ls at hl ⊢
  have hl : lv_has ls 1 [(0, .ref h0)] := hl
  have hin : meth.name = "<init>" := (name_of_methodNamed B.named B.method).1
  refine lv_aload_n hx hb dX2_init_0 rfl (lv_at hl 0 rfl) ?_
  refine W.objInit hx hb hown (hts (.methodLink RX2 3 objectInit) (List.mem_of_getElem? (i := 1) rfl)) (hts (.instanceMethod objectInit) (List.mem_of_getElem? (i := 2) rfl)) (hts (.code objectInit ⟨#[0xb1]⟩ 1 none) (List.mem_of_getElem? (i := 3) rfl)) rfl (by rw [hml]; exact hl.1) rfl dX2_init_1 (Nat.le_of_ble_eq_true rfl) (Nat.le_of_ble_eq_true rfl) ?_
  refine W.eq (g2 := F0 m 4 ls []) rfl ?_
  refine lv_aload_n hx hb dX2_init_4 rfl (lv_at hl 0 rfl) ?_
  refine lv_bipush (v := 9) hx hb dX2_init_5 (by decide) ?_
  refine va_newa (atype := .int) (ty := .int) (N' := 9) (a0 := (9, .inl (fun _ => 0))) hx hb (hts (.arrayClass .int) (List.mem_of_getElem? (i := 4) rfl)) rfl hK hP hD hS hA (fun _ => rfl) (by decide) (by decide) (Nat.le_of_ble_eq_true rfl) (Nat.le_of_ble_eq_true rfl) (Nat.le_of_ble_eq_true rfl) dX2_init_7 (fun q1 cA H hK hP hD hS => ?_)
  obtain rfl := zI_one hK (i := 0) (j := 1) rfl rfl
  have hK := hK.sub (tys' := [(cI, .int)]) [0] rfl
  have hP : va_P (dC, dI) vwCl [(h0, .inr (2, [.int 0, .null, .int 0, .int 0, .int 0, .null, .null])), (q1, .inl (cI, 9, .inl (fun _ => 0)))] H := hP
  have hD : va_D A [(h0, .inr (2, [.int 0, .null, .int 0, .int 0, .int 0, .null, .null])), (q1, .inl (cI, 9, .inl (fun _ => 0)))] := hD
  refine W.widen (k := 1) (n := 9) (by omega) (by omega) ?_
  refine va_putF (D := (dC, dI)) (ci := 2) (v := .ref q1) (ty := (.array .int)) (C := RX2) (T := TX2) (N := 7) hx hb hts hi2 tyX2 tyX2_ok nmX2 hown hK hP hD hS 0 rfl rfl 1 (by decide) (hts (.fieldLink RX2 9 "Ringtrack$Frames" "underWay" "[I") (List.mem_of_getElem? (i := 5) rfl)) (fun _ h9 => h9) rfl hin rfl (by decide +kernel) rfl rfl (Nat.le_of_ble_eq_true rfl) dX2_init_9 (fun H locs hP hD hS => ?_)
  have hP : va_P (dC, dI) vwCl [(h0, .inr (2, [.int 0, .ref q1, .int 0, .int 0, .int 0, .null, .null])), (q1, .inl (cI, 9, .inl (fun _ => 0)))] H := hP
  have hD : va_D A [(h0, .inr (2, [.int 0, .ref q1, .int 0, .int 0, .int 0, .null, .null])), (q1, .inl (cI, 9, .inl (fun _ => 0)))] := hD
  refine lv_aload_n hx hb dX2_init_12 rfl (lv_at hl 0 rfl) ?_
  refine lv_bipush (v := 9) hx hb dX2_init_13 (by decide) ?_
  refine va_newa (atype := .int) (ty := .int) (N' := 9) (a0 := (9, .inl (fun _ => 0))) hx hb (hts (.arrayClass .int) (List.mem_of_getElem? (i := 4) rfl)) rfl hK hP hD hS hA (fun _ => rfl) (by decide) (by decide) (Nat.le_of_ble_eq_true rfl) (Nat.le_of_ble_eq_true rfl) (Nat.le_of_ble_eq_true rfl) dX2_init_15 (fun q2 cA H hK hP hD hS => ?_)
  obtain rfl := zI_one hK (i := 0) (j := 1) rfl rfl
  have hK := hK.sub (tys' := [(cI, .int)]) [0] rfl
  have hP : va_P (dC, dI) vwCl [(h0, .inr (2, [.int 0, .ref q1, .int 0, .int 0, .int 0, .null, .null])), (q1, .inl (cI, 9, .inl (fun _ => 0))), (q2, .inl (cI, 9, .inl (fun _ => 0)))] H := hP
  have hD : va_D A [(h0, .inr (2, [.int 0, .ref q1, .int 0, .int 0, .int 0, .null, .null])), (q1, .inl (cI, 9, .inl (fun _ => 0))), (q2, .inl (cI, 9, .inl (fun _ => 0)))] := hD
  refine W.widen (k := 2) (n := 18) (by omega) (by omega) ?_
  refine va_putF (D := (dC, dI)) (ci := 2) (v := .ref q2) (ty := (.array .int)) (C := RX2) (T := TX2) (N := 7) hx hb hts hi2 tyX2 tyX2_ok nmX2 hown hK hP hD hS 0 rfl rfl 5 (by decide) (hts (.fieldLink RX2 15 "Ringtrack$Frames" "ticksLeft" "[I") (List.mem_of_getElem? (i := 6) rfl)) (fun _ h9 => h9) rfl hin rfl (by decide +kernel) rfl rfl (Nat.le_of_ble_eq_true rfl) dX2_init_17 (fun H locs hP hD hS => ?_)
  have hP : va_P (dC, dI) vwCl [(h0, .inr (2, [.int 0, .ref q1, .int 0, .int 0, .int 0, .ref q2, .null])), (q1, .inl (cI, 9, .inl (fun _ => 0))), (q2, .inl (cI, 9, .inl (fun _ => 0)))] H := hP
  have hD : va_D A [(h0, .inr (2, [.int 0, .ref q1, .int 0, .int 0, .int 0, .ref q2, .null])), (q1, .inl (cI, 9, .inl (fun _ => 0))), (q2, .inl (cI, 9, .inl (fun _ => 0)))] := hD
  refine lv_aload_n hx hb dX2_init_20 rfl (lv_at hl 0 rfl) ?_
  refine lv_sipush (v := 512) hx hb dX2_init_21 (by decide) ?_
  refine va_newa (atype := .int) (ty := .int) (N' := 512) (a0 := (512, .inl (fun _ => 0))) hx hb (hts (.arrayClass .int) (List.mem_of_getElem? (i := 4) rfl)) rfl hK hP hD hS hA (fun _ => rfl) (by decide) (by decide) (Nat.le_of_ble_eq_true rfl) (Nat.le_of_ble_eq_true rfl) (Nat.le_of_ble_eq_true rfl) dX2_init_24 (fun q3 cA H hK hP hD hS => ?_)
  obtain rfl := zI_one hK (i := 0) (j := 1) rfl rfl
  have hK := hK.sub (tys' := [(cI, .int)]) [0] rfl
  have hP : va_P (dC, dI) vwCl [(h0, .inr (2, [.int 0, .ref q1, .int 0, .int 0, .int 0, .ref q2, .null])), (q1, .inl (cI, 9, .inl (fun _ => 0))), (q2, .inl (cI, 9, .inl (fun _ => 0))), (q3, .inl (cI, 512, .inl (fun _ => 0)))] H := hP
  have hD : va_D A [(h0, .inr (2, [.int 0, .ref q1, .int 0, .int 0, .int 0, .ref q2, .null])), (q1, .inl (cI, 9, .inl (fun _ => 0))), (q2, .inl (cI, 9, .inl (fun _ => 0))), (q3, .inl (cI, 512, .inl (fun _ => 0)))] := hD
  refine W.widen (k := 3) (n := 530) (by omega) (by omega) ?_
  refine va_putF (D := (dC, dI)) (ci := 2) (v := .ref q3) (ty := (.array .int)) (C := RX2) (T := TX2) (N := 7) hx hb hts hi2 tyX2 tyX2_ok nmX2 hown hK hP hD hS 0 rfl rfl 6 (by decide) (hts (.fieldLink RX2 18 "Ringtrack$Frames" "arrived" "[I") (List.mem_of_getElem? (i := 7) rfl)) (fun _ h9 => h9) rfl hin rfl (by decide +kernel) rfl rfl (Nat.le_of_ble_eq_true rfl) dX2_init_26 (fun H locs hP hD hS => ?_)
  have hP : va_P (dC, dI) vwCl [(h0, .inr (2, [.int 0, .ref q1, .int 0, .int 0, .int 0, .ref q2, .ref q3])), (q1, .inl (cI, 9, .inl (fun _ => 0))), (q2, .inl (cI, 9, .inl (fun _ => 0))), (q3, .inl (cI, 512, .inl (fun _ => 0)))] H := hP
  have hD : va_D A [(h0, .inr (2, [.int 0, .ref q1, .int 0, .int 0, .int 0, .ref q2, .ref q3])), (q1, .inl (cI, 9, .inl (fun _ => 0))), (q2, .inl (cI, 9, .inl (fun _ => 0))), (q3, .inl (cI, 512, .inl (fun _ => 0)))] := hD
  exact W.vret hx hb hr (fun t9 ht hW => ⟨⟨(q1, q2, q3), rfl, trivial, by rw [ht]; exact hP.sub [0] rfl, hD.sub [0] (by decide) rfl⟩, hS.F ht⟩) hS.2.2 dX2_init_29

set_option maxHeartbeats 4000000 in
set_option maxRecDepth 100000 in
/-- Ringtrack() -/
theorem k_Ringtrack (l : Launch) (dC : Nat → ClassId) (dI : Nat → Nat → Nat) (sz : Nat) (o : Nat) : Met l yX6_init wsX6_init ({ frames := 2, cells := 6, slots := 605, locals := 32 }) (va_Pc [.ref o] (zPcID (dC, dI) [(o, .inr (6, [.null, .int 0, .null, .int 0, .null, .int 0, .int 0, .int 0, .null]))] [] sz)) (va_Qv (fun (_ : Nat × Nat × Nat × ClassId × ClassId) => True) (fun u t => (va_P (dC, dI) vwCl [(o, .inr (6, [.ref u.1, .int (nI 0), .ref u.2.1, .int (nI 0), .null, .int 40, .int 48, .int 0, .ref u.2.2.1])), (u.1, .inl (u.2.2.2.1, 64, .inl (fun _ => 0))), (u.2.1, .inl (u.2.2.2.2, 4, .inr (.inr (.inr (.inr (fun _ => none))))))] t.heap ∧ va_D (va_A [(o, .inr (6, [.null, .int 0, .null, .int 0, .null, .int 0, .int 0, .int 0, .null]))] sz) [(o, .inr (6, [.ref u.1, .int (nI 0), .ref u.2.1, .int (nI 0), .null, .int 40, .int 48, .int 0, .ref u.2.2.1])), (u.1, .inl (u.2.2.2.1, 64, .inl (fun _ => 0))), (u.2.1, .inl (u.2.2.2.2, 4, .inr (.inr (.inr (.inr (fun _ => none))))))]) ∧ va_K (dC, dI) vwCl [(u.2.2.2.1, .int), (u.2.2.2.2, .object RX0)] t) (va_A [(o, .inr (6, [.null, .int 0, .null, .int 0, .null, .int 0, .int 0, .int 0, .null]))] sz)) 6 605 (va_A [(o, .inr (6, [.null, .int 0, .null, .int 0, .null, .int 0, .int 0, .int 0, .null]))] sz) := by
  refine Met.ofW (cc := cX6_init) (maxL := 1) (ret := none) (by decide) rfl ?_
  intro p e s m args below meth c s₁ B hml hv
  obtain ⟨rfl, hsz, hP, hK, hE, hD0⟩ := hv
  have hx := B.exec
  have hb := B.bytes
  have hr := B.returns
  have hts := atoms_spec (ws := wsX6_init) B.pre
  have hown : s.vm.findClass RX6 = some m.cls := findClass_of_methodNamed B.named
  have hlocks := B.notSynchronized
  subst hsz
  have hi6 : ∀ w ∈ u_ws RX6 TX6 9, w ∈ wsX6_init := by decide +kernel
  have hD := hD0.self (sz := s.heap.size)
  generalize hAe : va_A [(o, .inr (6, [.null, .int 0, .null, .int 0, .null, .int 0, .int 0, .int 0, .null]))] s.heap.size = A at hD ⊢
  have hA : ∀ q : Nat, s.heap.size ≤ q → A q := fun q h => by rw [← hAe]; exact Or.inr h
  have hS : va_S A s.heap s.heap [] := va_S.rf
  have hl := lv_entry ([.ref o]) (n := 1) (Nat.le_of_ble_eq_true rfl)
  rw [lg_entry_eq]
  generalize (lg_sl ([.ref o]) ++ List.replicate (1 - (lg_sl ([.ref o])).length) Slot.unset).toArray = ls at hl ⊢
  have hl : lv_has ls 1 [(0, .ref o)] := hl
  have hin : meth.name = "<init>" := (name_of_methodNamed B.named B.method).1
  have hi2 : ∀ w ∈ u_ws RX2 TX2 7, w ∈ wsX6_init := by decide +kernel
  refine lv_aload_n hx hb dX6_init_0 rfl (lv_at hl 0 rfl) ?_
  refine W.objInit hx hb hown (hts (.methodLink RX6 1 objectInit) (List.mem_of_getElem? (i := 1) rfl)) (hts (.instanceMethod objectInit) (List.mem_of_getElem? (i := 2) rfl)) (hts (.code objectInit ⟨#[0xb1]⟩ 1 none) (List.mem_of_getElem? (i := 3) rfl)) rfl (by rw [hml]; exact hl.1) rfl dX6_init_1 (Nat.le_of_ble_eq_true rfl) (Nat.le_of_ble_eq_true rfl) ?_
  refine W.eq (g2 := F0 m 4 ls []) rfl ?_
  refine lv_aload_n hx hb dX6_init_4 rfl (lv_at hl 0 rfl) ?_
  refine lv_bipush (v := 64) hx hb dX6_init_5 (by decide) ?_
  refine va_newa (atype := .int) (ty := .int) (N' := 64) (a0 := (64, .inl (fun _ => 0))) hx hb (hts (.arrayClass .int) (List.mem_of_getElem? (i := 4) rfl)) rfl hK hP hD hS hA (fun _ => rfl) (by decide) (by decide) (Nat.le_of_ble_eq_true rfl) (Nat.le_of_ble_eq_true rfl) (Nat.le_of_ble_eq_true rfl) dX6_init_7 (fun a0 cA H hK hP hD hS => ?_)
  have hK : va_K (dC, dI) vwCl [(cA, .int)] s := hK
  have hP : va_P (dC, dI) vwCl [(o, .inr (6, [.null, .int 0, .null, .int 0, .null, .int 0, .int 0, .int 0, .null])), (a0, .inl (cA, 64, .inl (fun _ => 0)))] H := hP
  have hD : va_D A [(o, .inr (6, [.null, .int 0, .null, .int 0, .null, .int 0, .int 0, .int 0, .null])), (a0, .inl (cA, 64, .inl (fun _ => 0)))] := hD
  refine W.widen (k := 1) (n := 64) (by omega) (by omega) ?_
  refine va_putF (D := (dC, dI)) (ci := 6) (v := .ref a0) (ty := (.array .int)) (C := RX6) (T := TX6) (N := 9) hx hb hts hi6 tyX6 tyX6_ok nmX6 hown hK hP hD hS 0 rfl rfl 0 (by decide) (hts (.fieldLink RX6 9 "Ringtrack" "typed" "[I") (List.mem_of_getElem? (i := 5) rfl)) (fun _ h9 => h9) rfl hin rfl (by decide +kernel) rfl rfl (Nat.le_of_ble_eq_true rfl) dX6_init_9 (fun H locs hP hD hS => ?_)
  have hP : va_P (dC, dI) vwCl [(o, .inr (6, [.ref a0, .int 0, .null, .int 0, .null, .int 0, .int 0, .int 0, .null])), (a0, .inl (cA, 64, .inl (fun _ => 0)))] H := hP
  have hD : va_D A [(o, .inr (6, [.ref a0, .int 0, .null, .int 0, .null, .int 0, .int 0, .int 0, .null])), (a0, .inl (cA, 64, .inl (fun _ => 0)))] := hD
  refine lv_aload_n hx hb dX6_init_12 rfl (lv_at hl 0 rfl) ?_
  refine lv_iconst (v := 4) hx hb dX6_init_13 (by decide) ?_
  refine va_newq (C := RX0) (N' := 4) hx hb hown (hts (.classLink RX6 13 RX0) (List.mem_of_getElem? (i := 6) rfl)) hE.1 hK hP hD hS hA (by decide) (by decide) (Nat.le_of_ble_eq_true rfl) (Nat.le_of_ble_eq_true rfl) (Nat.le_of_ble_eq_true rfl) dX6_init_14 (fun a1 cC H hK hP hD hS => ?_)
  have hK : va_K (dC, dI) vwCl [(cA, .int), (cC, (.object RX0))] s := hK
  have hP : va_P (dC, dI) vwCl [(o, .inr (6, [.ref a0, .int 0, .null, .int 0, .null, .int 0, .int 0, .int 0, .null])), (a0, .inl (cA, 64, .inl (fun _ => 0))), (a1, .inl (cC, 4, .inr (.inr (.inr (.inr (fun _ => none))))))] H := hP
  have hD : va_D A [(o, .inr (6, [.ref a0, .int 0, .null, .int 0, .null, .int 0, .int 0, .int 0, .null])), (a0, .inl (cA, 64, .inl (fun _ => 0))), (a1, .inl (cC, 4, .inr (.inr (.inr (.inr (fun _ => none))))))] := hD
  refine W.widen (k := 2) (n := 68) (by omega) (by omega) ?_
  refine va_putF (D := (dC, dI)) (ci := 6) (v := .ref a1) (ty := (.array (.object "Ringtrack$Code"))) (C := RX6) (T := TX6) (N := 9) hx hb hts hi6 tyX6 tyX6_ok nmX6 hown hK hP hD hS 0 rfl rfl 2 (by decide) (hts (.fieldLink RX6 15 "Ringtrack" "codes" "[LRingtrack$Code;") (List.mem_of_getElem? (i := 7) rfl)) (fun _ h9 => h9) rfl hin rfl (by decide +kernel) rfl rfl (Nat.le_of_ble_eq_true rfl) dX6_init_17 (fun H locs hP hD hS => ?_)
  have hP : va_P (dC, dI) vwCl [(o, .inr (6, [.ref a0, .int 0, .ref a1, .int 0, .null, .int 0, .int 0, .int 0, .null])), (a0, .inl (cA, 64, .inl (fun _ => 0))), (a1, .inl (cC, 4, .inr (.inr (.inr (.inr (fun _ => none))))))] H := hP
  have hD : va_D A [(o, .inr (6, [.ref a0, .int 0, .ref a1, .int 0, .null, .int 0, .int 0, .int 0, .null])), (a0, .inl (cA, 64, .inl (fun _ => 0))), (a1, .inl (cC, 4, .inr (.inr (.inr (.inr (fun _ => none))))))] := hD
  refine lv_aload_n hx hb dX6_init_20 rfl (lv_at hl 0 rfl) ?_
  refine lv_bipush (v := 40) hx hb dX6_init_21 (by decide) ?_
  refine va_put (D := (dC, dI)) (ci := 6) (v := .int 40) (ty := .int) (C := RX6) (T := TX6) (N := 9) hx hb hts hi6 tyX6 tyX6_ok nmX6 hown hK hP hD hS 0 rfl rfl 5 (by decide) (hts (.fieldLink RX6 19 "Ringtrack" "limit" "I") (List.mem_of_getElem? (i := 8) rfl)) (fun _ h9 => h9) rfl (by decide +kernel) rfl rfl (Nat.le_of_ble_eq_true rfl) dX6_init_23 (fun H locs hP hD hS => ?_)
  have hP : va_P (dC, dI) vwCl [(o, .inr (6, [.ref a0, .int 0, .ref a1, .int 0, .null, .int 40, .int 0, .int 0, .null])), (a0, .inl (cA, 64, .inl (fun _ => 0))), (a1, .inl (cC, 4, .inr (.inr (.inr (.inr (fun _ => none))))))] H := hP
  have hD : va_D A [(o, .inr (6, [.ref a0, .int 0, .ref a1, .int 0, .null, .int 40, .int 0, .int 0, .null])), (a0, .inl (cA, 64, .inl (fun _ => 0))), (a1, .inl (cC, 4, .inr (.inr (.inr (.inr (fun _ => none))))))] := hD
  refine lv_aload_n hx hb dX6_init_26 rfl (lv_at hl 0 rfl) ?_
  refine lv_bipush (v := 48) hx hb dX6_init_27 (by decide) ?_
  refine va_put (D := (dC, dI)) (ci := 6) (v := .int 48) (ty := .int) (C := RX6) (T := TX6) (N := 9) hx hb hts hi6 tyX6 tyX6_ok nmX6 hown hK hP hD hS 0 rfl rfl 6 (by decide) (hts (.fieldLink RX6 23 "Ringtrack" "tolerance" "I") (List.mem_of_getElem? (i := 9) rfl)) (fun _ h9 => h9) rfl (by decide +kernel) rfl rfl (Nat.le_of_ble_eq_true rfl) dX6_init_29 (fun H locs hP hD hS => ?_)
  have hP : va_P (dC, dI) vwCl [(o, .inr (6, [.ref a0, .int 0, .ref a1, .int 0, .null, .int 40, .int 48, .int 0, .null])), (a0, .inl (cA, 64, .inl (fun _ => 0))), (a1, .inl (cC, 4, .inr (.inr (.inr (.inr (fun _ => none))))))] H := hP
  have hD : va_D A [(o, .inr (6, [.ref a0, .int 0, .ref a1, .int 0, .null, .int 40, .int 48, .int 0, .null])), (a0, .inl (cA, 64, .inl (fun _ => 0))), (a1, .inl (cC, 4, .inr (.inr (.inr (.inr (fun _ => none))))))] := hD
  refine lv_aload_n hx hb dX6_init_32 rfl (lv_at hl 0 rfl) ?_
  refine va_new (ci := 2) (fs := [.int 0, .null, .int 0, .int 0, .int 0, .null, .null]) (C := RX2) (T := TX2) (N := 7) hx hb hts hi2 tyX2 tyX2_ok hown (hts (.classLink RX6 26 RX2) (List.mem_of_getElem? (i := 10) rfl)) (hts (.instantiable RX2 7) (List.mem_of_getElem? (i := 11) rfl)) (hts (.initialized RX2) (List.mem_of_getElem? (i := 12) rfl)) hK hP hD hS hA rfl (fun j hj => by rcases (show j = 0 ∨ j = 1 ∨ j = 2 ∨ j = 3 ∨ j = 4 ∨ j = 5 ∨ j = 6 by omega) with rfl | rfl | rfl | rfl | rfl | rfl | rfl <;> rfl) (Nat.le_of_ble_eq_true rfl) (Nat.le_of_ble_eq_true rfl) dX6_init_33 (fun a2 H hP hD hS => ?_)
  have hP : va_P (dC, dI) vwCl [(o, .inr (6, [.ref a0, .int 0, .ref a1, .int 0, .null, .int 40, .int 48, .int 0, .null])), (a0, .inl (cA, 64, .inl (fun _ => 0))), (a1, .inl (cC, 4, .inr (.inr (.inr (.inr (fun _ => none)))))), (a2, .inr (2, [.int 0, .null, .int 0, .int 0, .int 0, .null, .null]))] H := hP
  have hD : va_D A [(o, .inr (6, [.ref a0, .int 0, .ref a1, .int 0, .null, .int 40, .int 48, .int 0, .null])), (a0, .inl (cA, 64, .inl (fun _ => 0))), (a1, .inl (cC, 4, .inr (.inr (.inr (.inr (fun _ => none)))))), (a2, .inr (2, [.int 0, .null, .int 0, .int 0, .int 0, .null, .null]))] := hD
  refine W.widen (k := 3) (n := 75) (by omega) (by omega) ?_
  refine lv_dup hx hb dX6_init_36 rfl ?_
  have hPc := hP.sub (ws' := [(a2, .inr (2, [.int 0, .null, .int 0, .int 0, .int 0, .null, .null]))]) [3] rfl
  have hDc := hD.sub (ws' := [(a2, .inr (2, [.int 0, .null, .int 0, .int 0, .int 0, .null, .null]))]) [3] (by decide) rfl
  have hKc := hK.sub (tys' := [(cA, .int)]) [0] rfl
  have hFc := va_free (wc := [(a2, .inr (2, [.int 0, .null, .int 0, .int 0, .int 0, .null, .null]))]) hD hS hA [3] rfl
  refine va_callv (va_runIN (As := []) (rest := [.ref a2, .ref o]) ⟨hx, hb, hml, hown, hts⟩ (k_Frames l dC dI H.size cA a2) ⟨va_cnB 0 hts gX6_init_X2_init_n28 rfl rfl rfl hE.2 (hts (.initialized RX2) (List.mem_of_getElem? (i := 12) rfl)) (by decide +kernel) ⟨Nat.le_of_ble_eq_true rfl, Nat.le_of_ble_eq_true rfl⟩, rfl, (hts (.instanceMethod yX2_init) (List.mem_of_getElem? (i := 14) rfl))⟩ ⟨zfbD, zpreD hPc hKc hDc⟩ rfl rfl hl.1 rfl (lv_room (Nat.le_of_ble_eq_true rfl)) dX6_init_37 ⟨Nat.le_of_ble_eq_true rfl, Nat.le_of_ble_eq_true rfl⟩) hS (fun q _ h => hFc q h) hFc (fun u9 t9 H1 locs ht hvm hw hB hz1 hk1 hS => ?_)
  try dsimp only at hw
  obtain ⟨hP1, hD1⟩ := hB
  rw [ht] at hP1
  obtain ⟨hP, hD⟩ := va_join (wr := [(o, .inr (6, [.ref a0, .int 0, .ref a1, .int 0, .null, .int 40, .int 48, .int 0, .null])), (a0, .inl (cA, 64, .inl (fun _ => 0))), (a1, .inl (cC, 4, .inr (.inr (.inr (.inr (fun _ => none))))))]) (w1 := [(a2, .inr (2, [.int 0, .ref u9.1, .int 0, .int 0, .int 0, .ref u9.2.1, .ref u9.2.2]))]) hP hD [3] [0, 1, 2] rfl rfl (by decide) (by decide) hk1 hFc hP1 hD1
  clear hPc hDc hFc hP1 hD1 hk1 hz1 ht hvm
  have hP : va_P (dC, dI) vwCl [(o, .inr (6, [.ref a0, .int 0, .ref a1, .int 0, .null, .int 40, .int 48, .int 0, .null])), (a0, .inl (cA, 64, .inl (fun _ => 0))), (a1, .inl (cC, 4, .inr (.inr (.inr (.inr (fun _ => none)))))), (a2, .inr (2, [.int 0, .ref u9.1, .int 0, .int 0, .int 0, .ref u9.2.1, .ref u9.2.2]))] H1 := hP
  have hD : va_D A [(o, .inr (6, [.ref a0, .int 0, .ref a1, .int 0, .null, .int 40, .int 48, .int 0, .null])), (a0, .inl (cA, 64, .inl (fun _ => 0))), (a1, .inl (cC, 4, .inr (.inr (.inr (.inr (fun _ => none)))))), (a2, .inr (2, [.int 0, .ref u9.1, .int 0, .int 0, .int 0, .ref u9.2.1, .ref u9.2.2]))] := hD
  refine W.widen (k := 6) (n := 605) (by omega) (by omega) ?_
  refine va_putF (D := (dC, dI)) (ci := 6) (v := .ref a2) (ty := (.object "Ringtrack$Frames")) (C := RX6) (T := TX6) (N := 9) hx hb hts hi6 tyX6 tyX6_ok nmX6 hown hK hP hD hS 0 rfl rfl 8 (by decide) (hts (.fieldLink RX6 29 "Ringtrack" "frames" "LRingtrack$Frames;") (List.mem_of_getElem? (i := 13) rfl)) (fun _ h9 => h9) rfl hin rfl (by decide +kernel) rfl rfl (Nat.le_of_ble_eq_true rfl) dX6_init_40 (fun H locs hP hD hS => ?_)
  have hP : va_P (dC, dI) vwCl [(o, .inr (6, [.ref a0, .int 0, .ref a1, .int 0, .null, .int 40, .int 48, .int 0, .ref a2])), (a0, .inl (cA, 64, .inl (fun _ => 0))), (a1, .inl (cC, 4, .inr (.inr (.inr (.inr (fun _ => none)))))), (a2, .inr (2, [.int 0, .ref u9.1, .int 0, .int 0, .int 0, .ref u9.2.1, .ref u9.2.2]))] H := hP
  have hD : va_D A [(o, .inr (6, [.ref a0, .int 0, .ref a1, .int 0, .null, .int 40, .int 48, .int 0, .ref a2])), (a0, .inl (cA, 64, .inl (fun _ => 0))), (a1, .inl (cC, 4, .inr (.inr (.inr (.inr (fun _ => none)))))), (a2, .inr (2, [.int 0, .ref u9.1, .int 0, .int 0, .int 0, .ref u9.2.1, .ref u9.2.2]))] := hD
  exact W.vret hx hb hr (fun t9 ht hW => ⟨⟨(a0, a1, a2, cA, cC), rfl, trivial, ⟨by rw [ht]; exact hP.sub [0, 1, 2] rfl, hD.sub [0, 1, 2] (by decide) rfl⟩, va_K.moved hW.alike hK⟩, hS.F ht⟩) hS.2.2 dX6_init_43
end
section
/-! 'throw new NoSuchElementException("text")': its constructor calls its super's by the entry 13; z_ctorN and z_throwN follow proofs of the library and of the kit (ctorThrowS, JvmDerived/BundleOwnThrow.lean; vx_throwS) with that entry in place of 7 -/
abbrev zNX : String := "java/util/NoSuchElementException"
theorem zNown_eq (own : String) (ic : Nat) : zNown own ic = Bundle.throwableAtoms ++ Bundle.throwableSAtoms ++ (Bundle.passSAtoms "java/util/NoSuchElementException" "java/lang/RuntimeException" 13 zNb ++ Bundle.chainSAtoms "java/lang/RuntimeException" ["java/lang/Exception"]) ++
  [.methodLink own ic (Bundle.initS "java/util/NoSuchElementException"), .instantiable "java/util/NoSuchElementException" 6, .castable "java/util/NoSuchElementException" "java/util/NoSuchElementException", .selects "java/util/NoSuchElementException" Bundle.tFill0 Bundle.tFill0, .selects "java/util/NoSuchElementException" Bundle.tFill Bundle.tFill,
   .lays "java/util/NoSuchElementException" Bundle.tN "cause" "Ljava/lang/Throwable;", .lays "java/util/NoSuchElementException" Bundle.tN "stackTrace" Bundle.steD, .lays "java/util/NoSuchElementException" Bundle.tN "suppressedExceptions" Bundle.listD, .lays "java/util/NoSuchElementException" Bundle.tN "detailMessage" "Ljava/lang/String;",
   .isRef (.static Bundle.tN "UNASSIGNED_STACK" Bundle.steD), .isRef (.static Bundle.tN "SUPPRESSED_SENTINEL" Bundle.listD),
   .fieldLink Bundle.tN 198 Bundle.tN "backtrace" "Ljava/lang/Object;", .lays Bundle.tN Bundle.tN "backtrace" "Ljava/lang/Object;", .lays "java/util/NoSuchElementException" Bundle.tN "backtrace" "Ljava/lang/Object;"] := rfl
theorem zNb_0 : decode zNb 0 = .ok (.aload_n 0, 1) := by decide +kernel
theorem zNb_1 : decode zNb 1 = .ok (.aload_n 1, 1) := by decide +kernel
theorem zNb_2 : decode zNb 2 = .ok (.invokespecial 13, 3) := by decide +kernel
theorem zNb_5 : decode zNb 5 = .ok (.return_, 1) := by decide +kernel
theorem zfitN : Bundle.fit "java/util/NoSuchElementException" = true := by decide
theorem zfitR : Bundle.fit "java/lang/RuntimeException" = true := by decide
theorem zfitE : ∀ n ∈ ["java/lang/Exception"], Bundle.fit n = true := by decide
section ZNC
variable {p : Program} {l : Launch} {e : Env} {R : Room} {s : State} {m₀ : MethodId} {args : Array Value} {below : List Frame} {meth : Method} {c : Code} {W0 : State} {locs : List Loc} {cells slots : Nat}
set_option maxHeartbeats 1000000 in
theorem z_ctorN (X : Stand p l e R s m₀ args below meth c W0 locs cells slots) (hexec : p.tables.exec = Jvm.exec) (htr : e.platform.stackTraces = false) {own : String} {ic : Nat}
    (hown : s.vm.findClass own = some m₀.cls)
    (h : ∀ a ∈ zNown own ic, a.before args s = true)
    (hlocs : ∀ x ∈ locs, ∀ cell, s.heap[x.base]? = some cell → cell.vm.isStatics = false)
    {a : Addr} {cX : ClassId} {kX : Class} (hfoundX : s.vm.findClass "java/util/NoSuchElementException" = some cX) (hkX : s.vm.classes[cX]? = some kX) (hcell : W0.heap[a]? = some (freshCell cX kX)) (hnew : s.heap.size ≤ a)
    {msg : Value} (hmsg : msg.isRef = true)
    {g : JFrame} (hg : g.method = m₀) (hsize : g.locals.size = c.maxLocals) (hlocked : g.locked = none) (hentered : g.entered = []) {rest : List Value} (hstack : g.stack = msg :: .ref a :: .ref a :: rest)
    (hd6 : decode c.code g.pc = .ok (.invokespecial ic, 3)) (hd9 : decode c.code (g.pc + 3) = .ok (.athrow, 1)) (hout : ∀ x ∈ c.exceptionTable.toList, covers x (g.pc + 3) = false)
    (hRframes : 5 < R.frames) (hRlocals : 2 * g.monitorRoom + ((Value.ref a :: rest).map fun v => v.category).sum + 81 ≤ R.locals) (hlocks : meth.locks = false) :
    ∃ U : State, Steps p.tables e below (W0.setTop g) U ∧ U.status = .running ∧ Ended U below (.threw a) ∧ s.WarmedH U.vm ∧ s.sameButNew ({ U with vm := s.vm } : State) locs cells slots ∧
      ∃ ce, U.heap[a]? = some ce ∧ s.vm.findClass "java/util/NoSuchElementException" = some ce.cls ∧ ce.vm = .none := by
  have howns : e.platform.frameOwnsMonitors = true := by rw [X.admits.platform]
  have hfin : e.platform.finalization = false := by rw [X.admits.platform]
  have hpl : e.platform.magicAccessors = ({} : Platform).magicAccessors := by rw [X.admits.platform]
  generalize hLL : zNown own ic = LL at h
  have a' : ∀ x : Cond, x ∈ LL → x.holds args s none s [] = true := fun x hx => h x hx
  rw [zNown_eq] at hLL
  subst hLL
  obtain ⟨T, Z0, L, -, Y⟩ := ThrowableC.of_atoms (args := args) howns hfin hpl (fun x hx => h x (by simp [hx]))
  obtain ⟨Z, M, LZ, LM, hnZ⟩ := Init0T.ofS_atoms (args := args) hpl L Y (fun x hx => h x (by simp [hx]))
  obtain ⟨P1, L1, hP1m, hs1⟩ := PassC.ofS_atoms (args := args) (s := s) hpl (X := "java/util/NoSuchElementException") (Y := "java/lang/RuntimeException") (Bundle.fit_spec zfitN).1 (Bundle.fit_spec zfitR).2 zNb_0 zNb_1 zNb_2 zNb_5 (fun x hx => h x (by simp [hx]))
  obtain ⟨P2, Ps, hlen, L2, hL, hP2m, hsup2, hpass⟩ := Bundle.chainS (args := args) hpl hnZ ["java/lang/Exception"] "java/lang/RuntimeException" zfitR zfitE (fun x hx => h x (by simp [hx]))
  have hlink1 : P1.sup = P2.m := Option.some.inj (hs1.symm.trans hP2m)
  have hfound : s.vm.findClass "java/util/NoSuchElementException" = some P1.m.cls := findClass_of_methodNamed hP1m
  cases Option.some.inj (hfoundX.symm.trans hfound)
  obtain ⟨c1, kX', hc1, hk, hord, -, -, hn6⟩ := Cond.instantiable_spec (a' (.instantiable "java/util/NoSuchElementException" 6) (by simp))
  cases Option.some.inj (hc1.symm.trans hfound)
  cases Option.some.inj (hkX.symm.trans hk)
  have hsel0 : selectMethod e.platform s.vm P1.m.cls T.fill0 = .method T.fill0 := by
    obtain ⟨c2, r2, m2, q1, q2, q3, q4, -⟩ := Cond.selects_spec (a' (.selects "java/util/NoSuchElementException" Bundle.tFill0 Bundle.tFill0) (by simp))
    cases Option.some.inj (q1.symm.trans hfound)
    cases Option.some.inj (q2.symm.trans (State.methodFound?_of_named Y.fill0 (by decide)))
    cases Option.some.inj (q3.symm.trans Y.fill0)
    rw [Launch.admits_selectMethod X.admits]; exact q4
  have hselF : selectMethod e.platform s.vm P1.m.cls T.fill = .method T.fill := by
    obtain ⟨c2, r2, m2, q1, q2, q3, q4, -⟩ := Cond.selects_spec (a' (.selects "java/util/NoSuchElementException" Bundle.tFill Bundle.tFill) (by simp))
    cases Option.some.inj (q1.symm.trans hfound)
    cases Option.some.inj (q2.symm.trans (State.methodFound?_of_named Y.fill (by decide)))
    cases Option.some.inj (q3.symm.trans Y.fill)
    rw [Launch.admits_selectMethod X.admits]; exact q4
  obtain ⟨cellS0, hcS0, hiss⟩ := Y.statics
  obtain ⟨u0, hu0⟩ := Cond.staticRefV Y.unassigned L.unassignedStatic L.statics hcS0 hiss (a' (.isRef (.static Bundle.tN "UNASSIGNED_STACK" Bundle.steD)) (by simp))
  obtain ⟨sen, hsen⟩ := Cond.staticRefV Y.sentinel L.sentinelStatic L.statics hcS0 hiss (a' (.isRef (.static Bundle.tN "SUPPRESSED_SENTINEL" Bundle.listD)) (by simp))
  obtain ⟨ci198, i198, fB, hk198, hg198, ha198, hsB, -, hnB, htB, hffB⟩ := Cond.ownField (t := .object "java/lang/Object") Y.found L.cls (by decide +kernel) (a' (.fieldLink Bundle.tN 198 Bundle.tN "backtrace" "Ljava/lang/Object;") (by simp)) (a' (.lays Bundle.tN Bundle.tN "backtrace" "Ljava/lang/Object;") (by simp)) e.platform hpl
  obtain ⟨cellS, hcS', heS, -, hkeep⟩ := X.same.2.2.2.2.2 T.aS cellS0 hcS0
  have hcellS : W0.heap[T.aS]? = some cellS := hcS'
  have hout' : ∀ i, (⟨T.aS, i⟩ : Loc) ∉ locs := fun i hmem => by
    have := hlocs _ hmem cellS0 hcS0
    rw [hiss] at this; cases this
  have hknownS : cellS.vm ≠ .unknown := by
    rw [heS]; intro hu
    rw [show cellS0.vm = .unknown from hu] at hiss
    cases hiss
  have hneS : T.aS ≠ a := Nat.ne_of_lt (Nat.lt_of_lt_of_le (Array.getElem?_eq_some_iff.mp hcS0).1 hnew)
  obtain ⟨iM, hffM⟩ := Y.msg
  obtain ⟨tyC, dC, hdC, hdnC⟩ := Cond.laysAt hfound hk Y.cause (a' (.lays "java/util/NoSuchElementException" Bundle.tN "cause" "Ljava/lang/Throwable;") (by simp))
  obtain ⟨tyS, dS, hdS, hdnS⟩ := Cond.laysAt hfound hk Y.stack (a' (.lays "java/util/NoSuchElementException" Bundle.tN "stackTrace" Bundle.steD) (by simp))
  obtain ⟨tyP, dP, hdP, hdnP⟩ := Cond.laysAt hfound hk Y.supp (a' (.lays "java/util/NoSuchElementException" Bundle.tN "suppressedExceptions" Bundle.listD) (by simp))
  obtain ⟨tyM, dM, hdM, hdnM⟩ := Cond.laysAt hfound hk hffM (a' (.lays "java/util/NoSuchElementException" Bundle.tN "detailMessage" "Ljava/lang/String;") (by simp))
  obtain ⟨tyB, dB, hdB, hdnB⟩ := Cond.laysAt hfound hk hffB (a' (.lays "java/util/NoSuchElementException" Bundle.tN "backtrace" "Ljava/lang/Object;") (by simp))
  have bC := Cond.laysApart hdB hdC hdnB hdnC (by rw [hnB, Y.causeName]; decide)
  have bS := Cond.laysApart hdB hdS hdnB hdnS (by rw [hnB, Y.stackName]; decide)
  have bP := Cond.laysApart hdB hdP hdnB hdnP (by rw [hnB, Y.suppName]; decide)
  have hskip : SkipFacts T e.platform s (fun u => u) u0 ((preparedCellV T.toThrowableT (freshCell P1.m.cls kX) a u0 sen).withEntry W0.cur) :=
    ⟨{ ci198 := ci198, i198 := i198, fBack := fB }, ⟨hk198, hg198, ha198, hsB⟩, by
      have := fresh_default (c := P1.m.cls) tyB
      rw [htB] at this
      simpa [preparedCellV, Cell.setSlot, Cell.withEntry, Array.getElem?_setIfInBounds, bC, bS, bP, bC.symm, bS.symm, bP.symm, defaultValue] using this, fun _ _ => rfl⟩
  obtain ⟨tm, methC, cdC, kC, vm₁, hnC, -, -, -, -, -, -, -, hW₁, st1⟩ := Steps.initColdS (tb := p.tables) (e := e) (below := below) (s := s) (U := W0) X.here hexec X.warmed hpl hown (t := Bundle.initS "java/util/NoSuchElementException") rfl rfl (Bundle.fit_spec zfitN).2
    (a' (.methodLink own ic (Bundle.initS "java/util/NoSuchElementException")) (by simp)) (h (.instanceMethod (Bundle.initS "java/util/NoSuchElementException")) (by simp [Bundle.passSAtoms])) (bytes := zNb) (maxL := 2) (h (.code (Bundle.initS "java/util/NoSuchElementException") zNb 2 none) (by simp [Bundle.passSAtoms]))
    (f := g) hg (a := a) (msg := msg) (rest := .ref a :: rest) hstack hd6
  cases Option.some.inj (hnC.symm.trans hP1m)
  have X₁ := X.noted hW₁
  obtain ⟨vm₂, X₂, st2⟩ := X₁.ctorMessageOffV hexec (g := { g with stack := .ref a :: rest }) hg hsize T L Z LZ M LM (P1 :: P2 :: Ps)
    (fun P hP => by
      rcases List.mem_cons.mp hP with rfl | hP
      · exact L1
      · rcases List.mem_cons.mp hP with rfl | hP
        · exact L2
        · exact hL P hP) ⟨hlink1, hsup2, hpass⟩ (u0 := u0) (sen := sen) (self := a) hmsg (cell := freshCell P1.m.cls kX) (cellS := cellS)
    hcell (fun _ => by simp) (by simp) rfl rfl hsel0 hselF hcellS hneS hknownS (by rw [hkeep _ (hout' _)]; exact hu0) (by rw [hkeep _ (hout' _)]; exact hsen)
    (Takes.of_laid hk hord tyC (by rw [Y.causeType]; rfl)) (Takes.of_laid hk hord tyS (by rw [Y.stackType]; exact fits_refV_array _ u0)) (Takes.of_laid hk hord tyP (by rw [Y.suppType]; exact fits_refV_object _ sen))
    (Takes.of_laid hk hord tyM (by rw [Y.msgType]; exact fits_refV_object _ ⟨msg, hmsg⟩)) Y.objLocals hskip htr [] hd6
    (by simp only [List.length_cons, hlen]; exact hRframes) (by simp only [List.length_cons, hlen]; exact hRlocals)
  obtain ⟨hwalk, hrun, hended, hWU, hsame⟩ := X₂.athrowLeaves hexec (g := { g with stack := .ref a :: rest, pc := g.pc + 3 }) hg hlocked hentered hout (a := a) (rest := rest) rfl hd9
  have hlt : a < ((W0.setVm vm₁).setVm vm₂).heap.size := (Array.getElem?_eq_some_iff.mp hcell).1
  have hU := heapAt_setCell_self (s := (W0.setVm vm₁).setVm vm₂) (plainBareV T.toThrowableT (freshCell P1.m.cls kX) a u0 sen msg) hlt
  refine ⟨_, st1 _ (fun acts => ?_), hrun, hended, hWU, hsame.weaken (fun y hy hlt' => ?_) (Nat.le_refl _) (Nat.le_refl _), _, hU, hfound, rfl⟩
  · rw [doInvoke_state]
    exact st2 _ hwalk
  · rcases List.mem_append.mp hy with h1 | h1
    · exact h1
    · exfalso
      have hb : y.base = a := by
        simp only [List.mem_cons, List.not_mem_nil, or_false] at h1
        rcases h1 with rfl | rfl | rfl | rfl | rfl <;> rfl
      rw [hb] at hlt'
      exact Nat.not_lt.mpr hnew hlt'
end ZNC
section ZNT
variable {p : Program} {l : Launch} {e : Env} {R : Room} {s : State} {m : MethodId} {args : Array Value} {below : List Frame} {meth : Method} {c : Code} {H : Heap} {locs : List Loc} {cells slots : Nat} {free : Addr → Prop} {ls : Array Slot} {rest : List Value} {Qc : Array Value → State → Outcome → State → Prop} {XC : String → State → State → Prop}
theorem z_throwN {cc : ByteArray} {pc : Nat} (hexec : p.tables.exec = Jvm.exec) (hb : c.code = cc) (hl : l.stackTraces = false) {own text : String} {ik is ic mc ms sa : Nat} {A : Nat → Prop}
    (hown : s.vm.findClass own = some m.cls)
    (hk : (Cond.classLink own ik "java/util/NoSuchElementException").before args s = true) (hini : (Cond.initialized "java/util/NoSuchElementException").before args s = true) (hstr : vk_R own is text sa s) (hat : ∀ w ∈ zNat own ic, w.before args s = true)
    (hgood : ∀ w ∈ Cond.classLink own ik "java/util/NoSuchElementException" :: Cond.initialized "java/util/NoSuchElementException" :: zNat own ic, vx_ot w = true)
    (hU : vx_Zq Bundle.tN "UNASSIGNED_STACK" Bundle.steD A s s.heap) (hN : vx_Zq Bundle.tN "SUPPRESSED_SENTINEL" Bundle.listD A s s.heap) (hS : va_S A s.heap H locs) (hsize : ls.size = c.maxLocals)
    (d0 : decode cc pc = .ok (.new ik, 3)) (d3 : decode cc (pc + 3) = .ok (.dup, 1)) (d4 : decode cc (pc + 4) = .ok (.ldc is, 2)) (d6 : decode cc (pc + 6) = .ok (.invokespecial ic, 3)) (d9 : decode cc (pc + 9) = .ok (.athrow, 1))
    (hout : ∀ x ∈ c.exceptionTable.toList, covers x (pc + 9) = false)
    (hRframes : 5 < R.frames) (hRlocals : (rest.map fun v => v.category).sum + 82 ≤ R.locals) (hRcells : cells + 1 ≤ R.cells) (hRslots : slots + 6 ≤ R.slots) (hlocks : meth.locks = false)
    (hx : ∀ t : State, s.vm.Alike t.vm → H.size ≤ t.heap.size → (∀ q : Nat, q < H.size → t.heap[q]? = H[q]?) → XC "java/util/NoSuchElementException" s t)
    (hf : ∀ z ∈ locs, free z.base) (hc : cells + 1 ≤ mc) (hs : slots + 6 ≤ ms) :
    W p l e R s m args below meth c H locs cells slots (vx_MQ below Qc XC args s mc ms free) (F0 m pc ls rest) := by
  intro T hT X
  have htr : e.platform.stackTraces = false := (show e.platform.stackTraces = l.stackTraces by rw [X.admits.platform]).trans hl
  have Y := vx_rebase X (R' := { frames := R.frames, locals := R.locals, cells := 1, slots := 6 }) (Nat.le_refl _) (Nat.le_refl _) hRcells hRslots
  obtain ⟨s', hA⟩ : ∃ z, z = (T.setVm s.vm).setFrames (.invoking m args :: below) := ⟨_, rfl⟩
  rw [← hA] at Y
  have hvm : s'.vm = s.vm := by rw [hA]; rfl
  have hhp : s'.heap = H := by rw [hA]; exact hT
  have hW0 : s.WarmedH s'.vm := by rw [hvm]; exact State.WarmedH.refl s
  have hat' : ∀ w ∈ zNat own ic, w.before args s' = true := fun w hw => vx_ot_at hW0 hvm.symm (hgood w (List.mem_cons_of_mem _ (List.mem_cons_of_mem _ hw))) (hat w hw)
  have hk' : (Cond.classLink own ik "java/util/NoSuchElementException").before args s' = true := vx_ot_at hW0 hvm.symm (hgood _ List.mem_cons_self) hk
  have hini' : (Cond.initialized "java/util/NoSuchElementException").before args s' = true := vx_ot_at hW0 hvm.symm (hgood _ (List.mem_cons_of_mem _ List.mem_cons_self)) hini
  have hU' : vx_Zq Bundle.tN "UNASSIGNED_STACK" Bundle.steD A s' s'.heap := by rw [hhp]; exact vx_Zq.moved hW0.alike (hU.kept hS.2.1)
  have hN' : vx_Zq Bundle.tN "SUPPRESSED_SENTINEL" Bundle.listD A s' s'.heap := by rw [hhp]; exact vx_Zq.moved hW0.alike (hN.kept hS.2.1)
  have h : ∀ w ∈ zNown own ic, w.before args s' = true := vx_own hat' (vx_isRefq hU'.1) (vx_isRefq hN'.1) hU'.2.word hN'.2.word
  have hown' : s'.vm.findClass own = some m.cls := by rw [hvm]; exact hown
  have hins : (Cond.instantiable "java/util/NoSuchElementException" 6).before args s' = true := h _ (by rw [zNown_eq]; simp)
  obtain ⟨vm₁, cX, kX, hfX, hkX, -, -, X₁, st1⟩ := Y.newCold hexec (own := own) (C := "java/util/NoSuchElementException") (index := ik) (n := 6) hown' hk' hins hini'
    (g := F0 m pc ls rest) rfl (by rw [hb]; exact d0) (Nat.le_refl _) (Nat.le_refl _)
  generalize hT1 : (T.setVm vm₁).pushCell { cls := cX, slots := kX.instanceTypes.map defaultValue, vm := .none } = T1 at X₁ st1
  have hcat : (Value.ref T.heap.size).category = 1 := rfl
  have hcellA : T1.heap[T.heap.size]? = some (freshCell cX kX) := by rw [← hT1]; exact State.heap_pushCell_size _ _
  have d3' : decode c.code (pc + 3) = .ok (.dup, 1) := by rw [hb]; exact d3
  have d4' : decode c.code (pc + 4) = .ok (.ldc is, 2) := by rw [hb]; exact d4
  have hstr' : vk_R own is text sa s' := vk_R.warm hW0 hstr
  obtain ⟨U, hsteps, hrun, hend, hW, hsame, ce, hce, hcl0, hcv⟩ := z_ctorN X₁ hexec htr (own := own) (ic := ic) hown' h (fun x hx => nomatch hx) hfX hkX hcellA (by rw [hhp, hT]; exact Nat.le_refl _) (msg := .ref sa) rfl
    (g := { method := m, pc := pc + 6, locals := ls, stack := .ref sa :: .ref T.heap.size :: .ref T.heap.size :: rest, locked := none }) rfl hsize rfl rfl (rest := rest) rfl
    (by rw [hb]; exact d6) (by rw [hb]; exact d9) hout hRframes (by simp only [List.map_cons, List.sum_cons, hcat]; omega) hlocks
  obtain ⟨f1, f2⟩ := vx_frame hsame
  rw [hhp] at f1 f2
  have hWs : s.WarmedH U.vm := State.WarmedH.trans hW0 hW
  have hcl : s.vm.findClass "java/util/NoSuchElementException" = some ce.cls := by
    rw [hvm] at hcl0
    exact hcl0
  have hall : s.sameButNew ({ U with vm := s.vm } : State) locs mc ms := by
    subst hA
    obtain ⟨e1, e2⟩ := hsame
    rw [State.setFrames_setFrames] at e1
    have h2 : (T.setVm s.vm).sameButNew ({ U with vm := s.vm } : State) [] (0 + 1) (0 + 6) := ⟨e1, e2⟩
    have h3 := X.same.trans h2
    rw [List.append_nil] at h3
    exact h3.mono hc hs
  refine ⟨U, ?_, .threw T.heap.size, hrun, hend, Or.inr ⟨T.heap.size, rfl, "java/util/NoSuchElementException", ce, locs, hx U hWs.alike f1 (fun q hq => f2 q hq (fun z hz => nomatch hz)), hce, hcv, hcl, hWs, hall, hf⟩⟩
  refine st1 _ ?_
  show Steps p.tables e below (T1.setTop { method := m, pc := pc + 3, locals := ls, stack := .ref T.heap.size :: rest, locked := none }) _
  jvm_step X₁.here [X₁.here.top, hexec, d3', Value.category]
  exact X₁.ldcString hexec (own := own) (text := text) (index := is) (a := sa) hown' hstr'.1 hstr'.2
    (g := { method := m, pc := pc + 4, locals := ls, stack := .ref T.heap.size :: .ref T.heap.size :: rest, locked := none }) rfl d4' _ hsteps
end ZNT
end
section
set_option maxHeartbeats 4000000 in
set_option maxRecDepth 100000 in
/-- place(k, j) of a word that isn't there -/
theorem x_place2 (l : Launch) (dC : Nat → ClassId) (dI : Nat → Nat → Nat) (sz : Nat) (cI cC : ClassId) (o a0 a1 a2 : Nat) (tc : Int32) (nc : Nat) (ad : Nat → Option Nat) (h0 h1 h2 n T : Nat) (f g : Nat → Int32) (k j : Nat) (hfl : l.stackTraces = false) (hk : k < nc) (hc4 : nc ≤ 4) (had : ad k = some h0) (hj : j < 256) (hg : g j = -1) : vx_Met l yX6_place wsX6_place ({ frames := 6, cells := 1, slots := 6, locals := 90 }) (va_Pc [.ref o, .int (nI k), .int (nI j)] (zPcX (dC, dI) [(o, .inr (6, [.ref a0, .int tc, .ref a1, .int (nI nc), .null, .int 40, .int 48, .int 0, .ref a2])), (a1, .inl (cC, 4, .inr (.inr (.inr (.inr ad))))), (h0, .inr (0, [.ref h1, .int (nI T), .ref h2])), (h1, .inl (cI, n, .inl f)), (h2, .inl (cI, 256, .inl g))] [(cI, .int), (cC, (.object RX0))] sz)) zNoQ (zXC "java/util/NoSuchElementException" sz) 1 6 (zq sz) := by
  refine vx_ofW (cc := cX6_place) (maxL := 5) (ret := (some .int)) (by decide) rfl ?_
  intro p e s m args below meth c s₁ B hml hnt hv
  obtain ⟨rfl, hsz, hP, hK, hE⟩ := hv
  have hx := B.exec
  have hb := B.bytes
  have hr := B.returns
  have hts := atoms_spec (ws := wsX6_place) B.pre
  have hown : s.vm.findClass RX6 = some m.cls := findClass_of_methodNamed B.named
  have hlocks := B.notSynchronized
  subst hsz
  have hi0 : ∀ w ∈ u_ws RX0 TX0 3, w ∈ wsX6_place := by decide +kernel
  have hi6 : ∀ w ∈ u_ws RX6 TX6 9, w ∈ wsX6_place := by decide +kernel
  have hA : ∀ q : Nat, s.heap.size ≤ q → zq s.heap.size q := fun q h => h
  have hS : va_S (zq s.heap.size) s.heap s.heap [] := va_S.rf
  have hl := lv_entry ([.ref o, .int (nI k), .int (nI j)]) (n := 5) (Nat.le_of_ble_eq_true rfl)
  rw [lg_entry_eq]
  generalize (lg_sl ([.ref o, .int (nI k), .int (nI j)]) ++ List.replicate (5 - (lg_sl ([.ref o, .int (nI k), .int (nI j)])).length) Slot.unset).toArray = ls at hl ⊢
  have hl : lv_has ls 5 [(0, .ref o), (1, .int (nI k)), (2, .int (nI j))] := hl
  refine lv_aload_n hx hb dX6_place_0 rfl (lv_at hl 0 rfl) ?_
  refine lv_iload_n hx hb dX6_place_1 rfl (lv_at hl 1 rfl) ?_
  refine va_callr (va_runV (As := [.int (nI k)]) (rest := []) ⟨hx, hb, hml, hown, hts⟩ (k_codeAt l dC dI s.heap.size cI cC o a0 a1 a2 tc nc ad h0 k hk hc4 had) (cwV 1 hts gX6_place_X6_codeAt rfl rfl rfl (by decide +kernel) ⟨Nat.le_of_ble_eq_true rfl, Nat.le_of_ble_eq_true rfl⟩) ⟨zfb, va_recv hK hP (ci := 6) (q0 := 0) rfl rfl, zpre (hP.sub (ws' := [(o, .inr (6, [.ref a0, .int tc, .ref a1, .int (nI nc), .null, .int 40, .int 48, .int 0, .ref a2])), (a1, .inl (cC, 4, .inr (.inr (.inr (.inr ad)))))]) [0, 1] rfl) (hK.sub (tys' := [(cI, .int), (cC, (.object RX0))]) [0, 1] rfl)⟩ rfl rfl hl.1 rfl (lv_room (Nat.le_of_ble_eq_true rfl)) dX6_place_2 ⟨Nat.le_of_ble_eq_true rfl, Nat.le_of_ble_eq_true rfl⟩) hS (fun q h1 h2 => absurd h2 (Nat.not_le.mpr h1)) (fun q h => hA q (Nat.le_trans hS.1 h)) (fun u9 ra9 t9 H1 locs ht hvm hw hB hz1 hk1 hS => ?_)
  have hB : h0 = ra9 := Eq.symm hB
  subst hB
  have hP := zr_keep hP hk1
  clear hk1 hz1 ht hvm
  refine lv_astore_n (lv' := [(3, .ref h0), (0, .ref o), (1, .int (nI k)), (2, .int (nI j))]) hx hb dX6_place_5 rfl hl (by decide) rfl (fun ls hl => ?_)
  refine lv_iload_n hx hb dX6_place_6 rfl (lv_at hl 3 rfl) ?_
  refine lv_iconst (v := 0) hx hb dX6_place_7 (by decide) ?_
  refine lv_sipush (v := 255) hx hb dX6_place_8 (by decide) ?_
  refine va_calli (va_runS (As := [.int (nI j), .int 0, .int 255]) (rest := []) ⟨hx, hb, hml, hown, hts⟩ (k_isWithin l dC dI H1.size (nI j) 0 255) (va_cwS 3 hts gX6_place_X6_isWithin rfl rfl rfl (by decide +kernel) ⟨Nat.le_of_ble_eq_true rfl, Nat.le_of_ble_eq_true rfl⟩) ⟨zfb, zpre (hP.sub (ws' := []) [] rfl) (hK.sub (tys' := []) [] rfl)⟩ rfl rfl hl.1 rfl (lv_room (Nat.le_of_ble_eq_true rfl)) dX6_place_11 ⟨Nat.le_of_ble_eq_true rfl, Nat.le_of_ble_eq_true rfl⟩) hS (fun q h1 h2 => absurd h2 (Nat.not_le.mpr h1)) (fun q h => hA q (Nat.le_trans hS.1 h)) (fun r9 u9 t9 H1 locs ht hvm hw hB hz1 hk1 hS => ?_)
  have hw : r9 = zb (decide ((0 : Int32) ≤ (nI j)) && decide ((nI j) ≤ 255)) := hw
  subst hw
  have hP := zr_keep hP hk1
  clear hk1 hz1 hB ht hvm hw
  refine zt_top (y := 1) (by rw [decide_eq_true (nI_pos' (by omega)), decide_eq_true (show nI j ≤ (255 : Int32) from nI_le (b := 255) (by omega) (by decide))]; rfl) ?_
  refine lv_if_ne (tgt := 27) hx hb dX6_place_14 (by decide) (fun c14 => ?_) (fun c => absurd c (by decide))
  refine lv_aload_n hx hb dX6_place_27 rfl (lv_at hl 0 rfl) ?_
  refine lv_iload_n hx hb dX6_place_28 rfl (lv_at hl 3 rfl) ?_
  refine va_calli (va_runV (As := [.int (nI j)]) (rest := []) ⟨hx, hb, hml, hown, hts⟩ (k_placeOf l dC dI H1.size cI h0 h1 h2 n T f g j hj) (cwV 1 hts gX6_place_X0_placeOf rfl rfl rfl (by decide +kernel) ⟨Nat.le_of_ble_eq_true rfl, Nat.le_of_ble_eq_true rfl⟩) ⟨zfb, va_recv hK hP (ci := 0) (q0 := 2) rfl rfl, zpre (hP.sub (ws' := [(h0, .inr (0, [.ref h1, .int (nI T), .ref h2])), (h1, .inl (cI, n, .inl f)), (h2, .inl (cI, 256, .inl g))]) [2, 3, 4] rfl) (hK.sub (tys' := [(cI, .int)]) [0] rfl)⟩ rfl rfl hl.1 rfl (lv_room (Nat.le_of_ble_eq_true rfl)) dX6_place_29 ⟨Nat.le_of_ble_eq_true rfl, Nat.le_of_ble_eq_true rfl⟩) hS (fun q h1 h2 => absurd h2 (Nat.not_le.mpr h1)) (fun q h => hA q (Nat.le_trans hS.1 h)) (fun r9 u9 t9 H1 locs ht hvm hw hB hz1 hk1 hS => ?_)
  have hw : r9 = g j := hw
  subst hw
  have hP := zr_keep hP hk1
  clear hk1 hz1 hB ht hvm hw
  refine lv_istore (lv' := [(4, .int (g j)), (3, .ref h0), (0, .ref o), (1, .int (nI k)), (2, .int (nI j))]) hx hb dX6_place_32 hl (by decide) rfl (fun ls hl => ?_)
  refine lv_iload hx hb dX6_place_34 (lv_at hl 0 rfl) ?_
  refine lv_iconst (v := (-1)) hx hb dX6_place_36 (by decide) ?_
  refine lv_icmp_ne (tgt := 50) hx hb dX6_place_37 (by decide) (fun c => absurd c (fun q => q hg)) (fun c37 => ?_)
  obtain ⟨sa, hsa⟩ := hE.2.1 (103, "the code has no such word") (List.mem_of_getElem? (i := 5) rfl)
  exact z_throwN hx hb hfl (own := RX6) (ik := 101) (is := 103) (ic := 105) (A := zq s.heap.size) hown (hts (.classLink RX6 101 "java/util/NoSuchElementException") (List.mem_of_getElem? (i := 3) rfl)) (hts (.initialized "java/util/NoSuchElementException") (List.mem_of_getElem? (i := 4) rfl)) hsa (zg_of (fun w hw => hts w (List.mem_cons_of_mem _ (List.mem_append_left _ (List.mem_append_right _ hw)))) zg_NSE hE.2.2.1) zo_NSE hE.1.1 hE.1.2 hS (hl.1.trans hml.symm) dX6_place_40 dX6_place_43 dX6_place_44 dX6_place_46 dX6_place_49 (fun x hx => (hnt x hx).elim) (Nat.le_of_ble_eq_true rfl) (Nat.le_of_ble_eq_true rfl) (Nat.le_of_ble_eq_true rfl) (Nat.le_of_ble_eq_true rfl) hlocks (z_hx hS) hS.2.2 (Nat.le_of_ble_eq_true rfl) (Nat.le_of_ble_eq_true rfl)
end
section
set_option maxHeartbeats 4000000 in
set_option maxRecDepth 100000 in
/-- type: IAE -/
theorem w_type_bad (l : Launch) (dC : Nat → ClassId) (dI : Nat → Nat → Nat) (sz : Nat) (cI cC : ClassId) (o a0 a1 a2 : Nat) (tc : Int32) (nc : Nat) (ad : Nat → Option Nat) (hfl : l.stackTraces = false) : Met l yL_type wsL_type ({ frames := 7, cells := 1, slots := 6, locals := 112 }) (va_Pc [.ref o, .int 256] (zPcX (dC, dI) [(o, .inr (6, [.ref a0, .int tc, .ref a1, .int (nI nc), .null, .int 40, .int 48, .int 0, .ref a2]))] [(cI, .int), (cC, (.object RX0))] sz)) (va_Qi (fun (r : Int32) (_ : Unit) => r = (-900001)) (fun _ _ => True) (zq sz)) 1 6 (zq sz) := by
  refine va_MetW (cc := cL_type) (maxL := 3) (ret := (some .int)) (hh := [(0, 5, 6, 15), (0, 5, 10, 18)]) (by decide) rfl ?_
  intro p e s m args below meth c s₁ B hml hv
  obtain ⟨rfl, hsz, hP, hK, hE⟩ := hv
  have hx := B.exec
  have hb := B.bytes
  have hr := B.returns
  have hts := atoms_spec (ws := wsL_type) B.pre
  have hown : s.vm.findClass RL = some m.cls := findClass_of_methodNamed B.named
  have hlocks := B.notSynchronized
  subst hsz
  have htab : c.exceptionTable.toList = tableOf [(0, 5, 6, 15), (0, 5, 10, 18)] := vx_table (x := yL_type) B (hts _ (List.mem_of_getElem? (i := 0) rfl))
  have hA : ∀ q : Nat, s.heap.size ≤ q → zq s.heap.size q := fun q h => h
  have hS : va_S (zq s.heap.size) s.heap s.heap [] := va_S.rf
  have hl := lv_entry ([.ref o, .int 256]) (n := 3) (Nat.le_of_ble_eq_true rfl)
  rw [lg_entry_eq]
  generalize (lg_sl ([.ref o, .int 256]) ++ List.replicate (3 - (lg_sl ([.ref o, .int 256])).length) Slot.unset).toArray = ls at hl ⊢
  have hl : lv_has ls 3 [(0, .ref o), (1, .int 256)] := hl
  refine lv_aload_n hx hb dL_type_0 rfl (lv_at hl 0 rfl) ?_
  refine lv_iload_n hx hb dL_type_1 rfl (lv_at hl 1 rfl) ?_
  refine z_callx (vx_runV (As := [.int 256]) (rest := []) ⟨hx, hb, hml, hown, hts⟩ (x_type l dC dI s.heap.size cI cC o a0 a1 a2 tc nc ad hfl) (cwV 1 hts gL_type_X6_type rfl rfl rfl (by decide +kernel) ⟨Nat.le_of_ble_eq_true rfl, Nat.le_of_ble_eq_true rfl⟩) ⟨zfbX, va_recv hK hP (ci := 6) (q0 := 0) rfl rfl, zpreX (hP.sub (ws' := [(o, .inr (6, [.ref a0, .int tc, .ref a1, .int (nI nc), .null, .int 40, .int 48, .int 0, .ref a2]))]) [0] rfl) (hK.sub (tys' := [(cI, .int), (cC, (.object RX0))]) [0, 1] rfl) hE hS hA⟩ rfl rfl hl.1 rfl (lv_room (Nat.le_of_ble_eq_true rfl)) dL_type_2 ⟨Nat.le_of_ble_eq_true rfl, Nat.le_of_ble_eq_true rfl⟩) hS hA (fun ce q9 H1 locs hz1 hk1 hS hce hcv hcl => ?_)
  refine vx_catch (E := "java/lang/IllegalArgumentException") hown [] ⟨0, 5, 6, 15⟩ [⟨0, 5, 10, 18⟩] htab (fun z hz => nomatch hz) rfl (by decide) (hts (.classLink RL 15 "java/lang/IllegalArgumentException") (List.mem_of_getElem? (i := 1) rfl)) (va_Nw.use rfl (hE.2.2.1 _ (List.mem_of_getElem? (i := 5) rfl))) hce hcv hcl ?_
  refine lv_astore_n (lv' := [(2, .ref q9), (0, .ref o), (1, .int 256)]) hx hb dL_type_6 rfl hl (by decide) rfl (fun ls hl => ?_)
  refine lv_ldc hx hb hown (hts (.constant RL 17 (-900001)) (List.mem_of_getElem? (i := 3) rfl)) dL_type_7 ?_
  exact W.iret (v := (-900001)) hx hb hr (fun t9 ht hW => ⟨⟨_, (), rfl, rfl, trivial⟩, hS.F ht⟩) hS.2.2 dL_type_9

set_option maxHeartbeats 4000000 in
set_option maxRecDepth 100000 in
/-- ring: UOE -/
theorem w_ring_bad (l : Launch) (dC : Nat → ClassId) (dI : Nat → Nat → Nat) (sz : Nat) (cI cC : ClassId) (o a0 a1 a2 : Nat) (w nc : Nat) (f : Nat → Int32) (hfl : l.stackTraces = false) (hwm : w ≤ 64) (hnr : ztg f w = false) : Met l yL_ring wsL_ring ({ frames := 7, cells := 1, slots := 6, locals := 112 }) (va_Pc [.ref o] (zPcX (dC, dI) [(o, .inr (6, [.ref a0, .int (nI w), .ref a1, .int (nI nc), .null, .int 40, .int 48, .int 0, .ref a2])), (a0, .inl (cI, 64, .inl f))] [(cI, .int), (cC, (.object RX0))] sz)) (va_Qi (fun (r : Int32) (_ : Unit) => r = (-900001)) (fun _ _ => True) (zq sz)) 1 6 (zq sz) := by
  refine va_MetW (cc := cL_ring) (maxL := 2) (ret := (some .int)) (hh := [(0, 4, 5, 25), (0, 4, 9, 18)]) (by decide) rfl ?_
  intro p e s m args below meth c s₁ B hml hv
  obtain ⟨rfl, hsz, hP, hK, hE⟩ := hv
  have hx := B.exec
  have hb := B.bytes
  have hr := B.returns
  have hts := atoms_spec (ws := wsL_ring) B.pre
  have hown : s.vm.findClass RL = some m.cls := findClass_of_methodNamed B.named
  have hlocks := B.notSynchronized
  subst hsz
  have htab : c.exceptionTable.toList = tableOf [(0, 4, 5, 25), (0, 4, 9, 18)] := vx_table (x := yL_ring) B (hts _ (List.mem_of_getElem? (i := 0) rfl))
  have hA : ∀ q : Nat, s.heap.size ≤ q → zq s.heap.size q := fun q h => h
  have hS : va_S (zq s.heap.size) s.heap s.heap [] := va_S.rf
  have hl := lv_entry ([.ref o]) (n := 2) (Nat.le_of_ble_eq_true rfl)
  rw [lg_entry_eq]
  generalize (lg_sl ([.ref o]) ++ List.replicate (2 - (lg_sl ([.ref o])).length) Slot.unset).toArray = ls at hl ⊢
  have hl : lv_has ls 2 [(0, .ref o)] := hl
  refine lv_aload_n hx hb dL_ring_0 rfl (lv_at hl 0 rfl) ?_
  refine z_callx (vx_runV (As := []) (rest := []) ⟨hx, hb, hml, hown, hts⟩ (x_ring l dC dI s.heap.size cI cC o a0 a1 a2 w nc f hfl hwm hnr) (cwV 0 hts gL_ring_X6_ring rfl rfl rfl (by decide +kernel) ⟨Nat.le_of_ble_eq_true rfl, Nat.le_of_ble_eq_true rfl⟩) ⟨zfbX, va_recv hK hP (ci := 6) (q0 := 0) rfl rfl, zpreX (hP.sub (ws' := [(o, .inr (6, [.ref a0, .int (nI w), .ref a1, .int (nI nc), .null, .int 40, .int 48, .int 0, .ref a2])), (a0, .inl (cI, 64, .inl f))]) [0, 1] rfl) (hK.sub (tys' := [(cI, .int), (cC, (.object RX0))]) [0, 1] rfl) hE hS hA⟩ rfl rfl hl.1 rfl (lv_room (Nat.le_of_ble_eq_true rfl)) dL_ring_1 ⟨Nat.le_of_ble_eq_true rfl, Nat.le_of_ble_eq_true rfl⟩) hS hA (fun ce q9 H1 locs hz1 hk1 hS hce hcv hcl => ?_)
  refine vx_catch (E := "java/lang/UnsupportedOperationException") hown [] ⟨0, 4, 5, 25⟩ [⟨0, 4, 9, 18⟩] htab (fun z hz => nomatch hz) rfl (by decide) (hts (.classLink RL 25 "java/lang/UnsupportedOperationException") (List.mem_of_getElem? (i := 1) rfl)) (va_Nw.use rfl (hE.2.2.1 _ (List.mem_of_getElem? (i := 6) rfl))) hce hcv hcl ?_
  refine lv_astore_n (lv' := [(1, .ref q9), (0, .ref o)]) hx hb dL_ring_5 rfl hl (by decide) rfl (fun ls hl => ?_)
  refine lv_ldc hx hb hown (hts (.constant RL 17 (-900001)) (List.mem_of_getElem? (i := 3) rfl)) dL_ring_6 ?_
  exact W.iret (v := (-900001)) hx hb hr (fun t9 ht hW => ⟨⟨_, (), rfl, rfl, trivial⟩, hS.F ht⟩) hS.2.2 dL_ring_8

set_option maxHeartbeats 4000000 in
set_option maxRecDepth 100000 in
/-- reflected: IAE -/
theorem w_reflected_bad (l : Launch) (dC : Nat → ClassId) (dI : Nat → Nat → Nat) (sz : Nat) (cI cC : ClassId) (o a0 a1 a2 : Nat) (tc : Int32) (nc : Nat) (ad : Nat → Option Nat) (w : Int32) (hfl : l.stackTraces = false) (hwr : (decide ((2 : Int32) ≤ w) && decide (w ≤ 6)) = false) : Met l yL_reflected wsL_reflected ({ frames := 7, cells := 1, slots := 6, locals := 114 }) (va_Pc [.ref o, .int w] (zPcX (dC, dI) [(o, .inr (6, [.ref a0, .int tc, .ref a1, .int (nI nc), .null, .int 40, .int 48, .int 0, .ref a2]))] [(cI, .int), (cC, (.object RX0))] sz)) (va_Qi (fun (r : Int32) (_ : Unit) => r = (-900001)) (fun _ _ => True) (zq sz)) 1 6 (zq sz) := by
  refine va_MetW (cc := cL_reflected) (maxL := 3) (ret := (some .int)) (hh := [(0, 5, 6, 15), (0, 5, 10, 18)]) (by decide) rfl ?_
  intro p e s m args below meth c s₁ B hml hv
  obtain ⟨rfl, hsz, hP, hK, hE⟩ := hv
  have hx := B.exec
  have hb := B.bytes
  have hr := B.returns
  have hts := atoms_spec (ws := wsL_reflected) B.pre
  have hown : s.vm.findClass RL = some m.cls := findClass_of_methodNamed B.named
  have hlocks := B.notSynchronized
  subst hsz
  have htab : c.exceptionTable.toList = tableOf [(0, 5, 6, 15), (0, 5, 10, 18)] := vx_table (x := yL_reflected) B (hts _ (List.mem_of_getElem? (i := 0) rfl))
  have hA : ∀ q : Nat, s.heap.size ≤ q → zq s.heap.size q := fun q h => h
  have hS : va_S (zq s.heap.size) s.heap s.heap [] := va_S.rf
  have hl := lv_entry ([.ref o, .int w]) (n := 3) (Nat.le_of_ble_eq_true rfl)
  rw [lg_entry_eq]
  generalize (lg_sl ([.ref o, .int w]) ++ List.replicate (3 - (lg_sl ([.ref o, .int w])).length) Slot.unset).toArray = ls at hl ⊢
  have hl : lv_has ls 3 [(0, .ref o), (1, .int w)] := hl
  refine lv_aload_n hx hb dL_reflected_0 rfl (lv_at hl 0 rfl) ?_
  refine lv_iload_n hx hb dL_reflected_1 rfl (lv_at hl 1 rfl) ?_
  refine z_callx (vx_runV (As := [.int w]) (rest := []) ⟨hx, hb, hml, hown, hts⟩ (x_reflected l dC dI s.heap.size cI cC o a0 a1 a2 tc nc ad w hfl hwr) (cwV 1 hts gL_reflected_X6_reflected rfl rfl rfl (by decide +kernel) ⟨Nat.le_of_ble_eq_true rfl, Nat.le_of_ble_eq_true rfl⟩) ⟨zfbX, va_recv hK hP (ci := 6) (q0 := 0) rfl rfl, zpreX (hP.sub (ws' := [(o, .inr (6, [.ref a0, .int tc, .ref a1, .int (nI nc), .null, .int 40, .int 48, .int 0, .ref a2]))]) [0] rfl) (hK.sub (tys' := [(cI, .int), (cC, (.object RX0))]) [0, 1] rfl) hE hS hA⟩ rfl rfl hl.1 rfl (lv_room (Nat.le_of_ble_eq_true rfl)) dL_reflected_2 ⟨Nat.le_of_ble_eq_true rfl, Nat.le_of_ble_eq_true rfl⟩) hS hA (fun ce q9 H1 locs hz1 hk1 hS hce hcv hcl => ?_)
  refine vx_catch (E := "java/lang/IllegalArgumentException") hown [] ⟨0, 5, 6, 15⟩ [⟨0, 5, 10, 18⟩] htab (fun z hz => nomatch hz) rfl (by decide) (hts (.classLink RL 15 "java/lang/IllegalArgumentException") (List.mem_of_getElem? (i := 1) rfl)) (va_Nw.use rfl (hE.2.2.1 _ (List.mem_of_getElem? (i := 5) rfl))) hce hcv hcl ?_
  refine lv_astore_n (lv' := [(2, .ref q9), (0, .ref o), (1, .int w)]) hx hb dL_reflected_6 rfl hl (by decide) rfl (fun ls hl => ?_)
  refine lv_ldc hx hb hown (hts (.constant RL 17 (-900001)) (List.mem_of_getElem? (i := 3) rfl)) dL_reflected_7 ?_
  exact W.iret (v := (-900001)) hx hb hr (fun t9 ht hW => ⟨⟨_, (), rfl, rfl, trivial⟩, hS.F ht⟩) hS.2.2 dL_reflected_9

set_option maxHeartbeats 4000000 in
set_option maxRecDepth 100000 in
/-- words: IOB -/
theorem w_words_bad (l : Launch) (dC : Nat → ClassId) (dI : Nat → Nat → Nat) (sz : Nat) (cI cC : ClassId) (o a0 a1 a2 : Nat) (tc : Int32) (nc : Nat) (ad : Nat → Option Nat) (k : Nat) (hfl : l.stackTraces = false) (hk : nc ≤ k) (hk2 : k < 2 ^ 30) : Met l yL_words wsL_words ({ frames := 8, cells := 1, slots := 6, locals := 134 }) (va_Pc [.ref o, .int (nI k)] (zPcX (dC, dI) [(o, .inr (6, [.ref a0, .int tc, .ref a1, .int (nI nc), .null, .int 40, .int 48, .int 0, .ref a2])), (a1, .inl (cC, 4, .inr (.inr (.inr (.inr ad)))))] [(cI, .int), (cC, (.object RX0))] sz)) (va_Qi (fun (r : Int32) (_ : Unit) => r = (-900001)) (fun _ _ => True) (zq sz)) 1 6 (zq sz) := by
  refine va_MetW (cc := cL_words) (maxL := 3) (ret := (some .int)) (hh := [(0, 5, 6, 33)]) (by decide) rfl ?_
  intro p e s m args below meth c s₁ B hml hv
  obtain ⟨rfl, hsz, hP, hK, hE⟩ := hv
  have hx := B.exec
  have hb := B.bytes
  have hr := B.returns
  have hts := atoms_spec (ws := wsL_words) B.pre
  have hown : s.vm.findClass RL = some m.cls := findClass_of_methodNamed B.named
  have hlocks := B.notSynchronized
  subst hsz
  have htab : c.exceptionTable.toList = tableOf [(0, 5, 6, 33)] := vx_table (x := yL_words) B (hts _ (List.mem_of_getElem? (i := 0) rfl))
  have hA : ∀ q : Nat, s.heap.size ≤ q → zq s.heap.size q := fun q h => h
  have hS : va_S (zq s.heap.size) s.heap s.heap [] := va_S.rf
  have hl := lv_entry ([.ref o, .int (nI k)]) (n := 3) (Nat.le_of_ble_eq_true rfl)
  rw [lg_entry_eq]
  generalize (lg_sl ([.ref o, .int (nI k)]) ++ List.replicate (3 - (lg_sl ([.ref o, .int (nI k)])).length) Slot.unset).toArray = ls at hl ⊢
  have hl : lv_has ls 3 [(0, .ref o), (1, .int (nI k))] := hl
  refine lv_aload_n hx hb dL_words_0 rfl (lv_at hl 0 rfl) ?_
  refine lv_iload_n hx hb dL_words_1 rfl (lv_at hl 1 rfl) ?_
  refine z_callx (vx_runV (As := [.int (nI k)]) (rest := []) ⟨hx, hb, hml, hown, hts⟩ (x_words l dC dI s.heap.size cI cC o a0 a1 a2 tc nc ad k hfl hk hk2) (cwV 1 hts gL_words_X6_words rfl rfl rfl (by decide +kernel) ⟨Nat.le_of_ble_eq_true rfl, Nat.le_of_ble_eq_true rfl⟩) ⟨zfbX, va_recv hK hP (ci := 6) (q0 := 0) rfl rfl, zpreX (hP.sub (ws' := [(o, .inr (6, [.ref a0, .int tc, .ref a1, .int (nI nc), .null, .int 40, .int 48, .int 0, .ref a2])), (a1, .inl (cC, 4, .inr (.inr (.inr (.inr ad)))))]) [0, 1] rfl) (hK.sub (tys' := [(cI, .int), (cC, (.object RX0))]) [0, 1] rfl) hE hS hA⟩ rfl rfl hl.1 rfl (lv_room (Nat.le_of_ble_eq_true rfl)) dL_words_2 ⟨Nat.le_of_ble_eq_true rfl, Nat.le_of_ble_eq_true rfl⟩) hS hA (fun ce q9 H1 locs hz1 hk1 hS hce hcv hcl => ?_)
  refine vx_catch (E := "java/lang/IndexOutOfBoundsException") hown [] ⟨0, 5, 6, 33⟩ [] htab (fun z hz => nomatch hz) rfl (by decide) (hts (.classLink RL 33 "java/lang/IndexOutOfBoundsException") (List.mem_of_getElem? (i := 1) rfl)) (va_Nw.use rfl (hE.2.2.1 _ (List.mem_of_getElem? (i := 7) rfl))) hce hcv hcl ?_
  refine lv_astore_n (lv' := [(2, .ref q9), (0, .ref o), (1, .int (nI k))]) hx hb dL_words_6 rfl hl (by decide) rfl (fun ls hl => ?_)
  refine lv_ldc hx hb hown (hts (.constant RL 17 (-900001)) (List.mem_of_getElem? (i := 2) rfl)) dL_words_7 ?_
  exact W.iret (v := (-900001)) hx hb hr (fun t9 ht hW => ⟨⟨_, (), rfl, rfl, trivial⟩, hS.F ht⟩) hS.2.2 dL_words_9

set_option maxHeartbeats 4000000 in
set_option maxRecDepth 100000 in
/-- word: IAE -/
theorem w_word_bad (l : Launch) (dC : Nat → ClassId) (dI : Nat → Nat → Nat) (sz : Nat) (cI cC : ClassId) (o a0 a1 a2 : Nat) (tc : Int32) (nc : Nat) (ad : Nat → Option Nat) (h0 h1 h2 n T : Nat) (f g : Nat → Int32) (k j : Nat) (hfl : l.stackTraces = false) (hk : k < nc) (hc4 : nc ≤ 4) (had : ad k = some h0) (hjn : n ≤ j) (hj : j < 2 ^ 31) : Met l yL_word wsL_word ({ frames := 7, cells := 1, slots := 6, locals := 114 }) (va_Pc [.ref o, .int (nI k), .int (nI j)] (zPcX (dC, dI) [(o, .inr (6, [.ref a0, .int tc, .ref a1, .int (nI nc), .null, .int 40, .int 48, .int 0, .ref a2])), (a1, .inl (cC, 4, .inr (.inr (.inr (.inr ad))))), (h0, .inr (0, [.ref h1, .int (nI T), .ref h2])), (h1, .inl (cI, n, .inl f)), (h2, .inl (cI, 256, .inl g))] [(cI, .int), (cC, (.object RX0))] sz)) (va_Qi (fun (r : Int32) (_ : Unit) => r = (-900002)) (fun _ _ => True) (zq sz)) 1 6 (zq sz) := by
  refine va_MetW (cc := cL_word) (maxL := 4) (ret := (some .int)) (hh := [(0, 6, 7, 33), (0, 6, 11, 15)]) (by decide) rfl ?_
  intro p e s m args below meth c s₁ B hml hv
  obtain ⟨rfl, hsz, hP, hK, hE⟩ := hv
  have hx := B.exec
  have hb := B.bytes
  have hr := B.returns
  have hts := atoms_spec (ws := wsL_word) B.pre
  have hown : s.vm.findClass RL = some m.cls := findClass_of_methodNamed B.named
  have hlocks := B.notSynchronized
  subst hsz
  have htab : c.exceptionTable.toList = tableOf [(0, 6, 7, 33), (0, 6, 11, 15)] := vx_table (x := yL_word) B (hts _ (List.mem_of_getElem? (i := 0) rfl))
  have hA : ∀ q : Nat, s.heap.size ≤ q → zq s.heap.size q := fun q h => h
  have hS : va_S (zq s.heap.size) s.heap s.heap [] := va_S.rf
  have hl := lv_entry ([.ref o, .int (nI k), .int (nI j)]) (n := 4) (Nat.le_of_ble_eq_true rfl)
  rw [lg_entry_eq]
  generalize (lg_sl ([.ref o, .int (nI k), .int (nI j)]) ++ List.replicate (4 - (lg_sl ([.ref o, .int (nI k), .int (nI j)])).length) Slot.unset).toArray = ls at hl ⊢
  have hl : lv_has ls 4 [(0, .ref o), (1, .int (nI k)), (2, .int (nI j))] := hl
  refine lv_aload_n hx hb dL_word_0 rfl (lv_at hl 0 rfl) ?_
  refine lv_iload_n hx hb dL_word_1 rfl (lv_at hl 1 rfl) ?_
  refine lv_iload_n hx hb dL_word_2 rfl (lv_at hl 2 rfl) ?_
  refine z_callx (vx_runV (As := [.int (nI k), .int (nI j)]) (rest := []) ⟨hx, hb, hml, hown, hts⟩ (x_word l dC dI s.heap.size cI cC o a0 a1 a2 tc nc ad h0 h1 h2 n T f g k j hfl hk hc4 had hjn hj) (cwV 2 hts gL_word_X6_word rfl rfl rfl (by decide +kernel) ⟨Nat.le_of_ble_eq_true rfl, Nat.le_of_ble_eq_true rfl⟩) ⟨zfbX, va_recv hK hP (ci := 6) (q0 := 0) rfl rfl, zpreX (hP.sub (ws' := [(o, .inr (6, [.ref a0, .int tc, .ref a1, .int (nI nc), .null, .int 40, .int 48, .int 0, .ref a2])), (a1, .inl (cC, 4, .inr (.inr (.inr (.inr ad))))), (h0, .inr (0, [.ref h1, .int (nI T), .ref h2])), (h1, .inl (cI, n, .inl f)), (h2, .inl (cI, 256, .inl g))]) [0, 1, 2, 3, 4] rfl) (hK.sub (tys' := [(cI, .int), (cC, (.object RX0))]) [0, 1] rfl) hE hS hA⟩ rfl rfl hl.1 rfl (lv_room (Nat.le_of_ble_eq_true rfl)) dL_word_3 ⟨Nat.le_of_ble_eq_true rfl, Nat.le_of_ble_eq_true rfl⟩) hS hA (fun ce q9 H1 locs hz1 hk1 hS hce hcv hcl => ?_)
  refine vx_catch (E := "java/lang/IllegalArgumentException") hown [⟨0, 6, 7, 33⟩] ⟨0, 6, 11, 15⟩ [] htab (fun z hz => (List.mem_cons.mp hz).elim (fun q => by rw [q]; exact Or.inr ⟨(by decide : (33 : Nat) ≠ 0), "java/lang/IndexOutOfBoundsException", (hts (.classLink RL 33 "java/lang/IndexOutOfBoundsException") (List.mem_of_getElem? (i := 1) rfl)), hE.2.2.2 _ (List.mem_of_getElem? (i := 0) rfl)⟩) (fun hz => nomatch hz)) rfl (by decide) (hts (.classLink RL 15 "java/lang/IllegalArgumentException") (List.mem_of_getElem? (i := 2) rfl)) (va_Nw.use rfl (hE.2.2.1 _ (List.mem_of_getElem? (i := 5) rfl))) hce hcv hcl ?_
  refine lv_astore_n (lv' := [(3, .ref q9), (0, .ref o), (1, .int (nI k)), (2, .int (nI j))]) hx hb dL_word_11 rfl hl (by decide) rfl (fun ls hl => ?_)
  refine lv_ldc hx hb hown (hts (.constant RL 20 (-900002)) (List.mem_of_getElem? (i := 4) rfl)) dL_word_12 ?_
  exact W.iret (v := (-900002)) hx hb hr (fun t9 ht hW => ⟨⟨_, (), rfl, rfl, trivial⟩, hS.F ht⟩) hS.2.2 dL_word_14

set_option maxHeartbeats 4000000 in
set_option maxRecDepth 100000 in
/-- place: NSE -/
theorem w_place_none (l : Launch) (dC : Nat → ClassId) (dI : Nat → Nat → Nat) (sz : Nat) (cI cC : ClassId) (o a0 a1 a2 : Nat) (tc : Int32) (nc : Nat) (ad : Nat → Option Nat) (h0 h1 h2 n T : Nat) (f g : Nat → Int32) (k j : Nat) (hfl : l.stackTraces = false) (hk : k < nc) (hc4 : nc ≤ 4) (had : ad k = some h0) (hj : j < 256) (hg : g j = -1) : Met l yL_place wsL_place ({ frames := 7, cells := 1, slots := 6, locals := 114 }) (va_Pc [.ref o, .int (nI k), .int (nI j)] (zPcX (dC, dI) [(o, .inr (6, [.ref a0, .int tc, .ref a1, .int (nI nc), .null, .int 40, .int 48, .int 0, .ref a2])), (a1, .inl (cC, 4, .inr (.inr (.inr (.inr ad))))), (h0, .inr (0, [.ref h1, .int (nI T), .ref h2])), (h1, .inl (cI, n, .inl f)), (h2, .inl (cI, 256, .inl g))] [(cI, .int), (cC, (.object RX0))] sz)) (va_Qi (fun (r : Int32) (_ : Unit) => r = (-900003)) (fun _ _ => True) (zq sz)) 1 6 (zq sz) := by
  refine va_MetW (cc := cL_place) (maxL := 4) (ret := (some .int)) (hh := [(0, 6, 7, 33), (0, 6, 11, 15), (0, 6, 15, 45)]) (by decide) rfl ?_
  intro p e s m args below meth c s₁ B hml hv
  obtain ⟨rfl, hsz, hP, hK, hE⟩ := hv
  have hx := B.exec
  have hb := B.bytes
  have hr := B.returns
  have hts := atoms_spec (ws := wsL_place) B.pre
  have hown : s.vm.findClass RL = some m.cls := findClass_of_methodNamed B.named
  have hlocks := B.notSynchronized
  subst hsz
  have htab : c.exceptionTable.toList = tableOf [(0, 6, 7, 33), (0, 6, 11, 15), (0, 6, 15, 45)] := vx_table (x := yL_place) B (hts _ (List.mem_of_getElem? (i := 0) rfl))
  have hA : ∀ q : Nat, s.heap.size ≤ q → zq s.heap.size q := fun q h => h
  have hS : va_S (zq s.heap.size) s.heap s.heap [] := va_S.rf
  have hl := lv_entry ([.ref o, .int (nI k), .int (nI j)]) (n := 4) (Nat.le_of_ble_eq_true rfl)
  rw [lg_entry_eq]
  generalize (lg_sl ([.ref o, .int (nI k), .int (nI j)]) ++ List.replicate (4 - (lg_sl ([.ref o, .int (nI k), .int (nI j)])).length) Slot.unset).toArray = ls at hl ⊢
  have hl : lv_has ls 4 [(0, .ref o), (1, .int (nI k)), (2, .int (nI j))] := hl
  refine lv_aload_n hx hb dL_place_0 rfl (lv_at hl 0 rfl) ?_
  refine lv_iload_n hx hb dL_place_1 rfl (lv_at hl 1 rfl) ?_
  refine lv_iload_n hx hb dL_place_2 rfl (lv_at hl 2 rfl) ?_
  refine z_callx (vx_runV (As := [.int (nI k), .int (nI j)]) (rest := []) ⟨hx, hb, hml, hown, hts⟩ (x_place2 l dC dI s.heap.size cI cC o a0 a1 a2 tc nc ad h0 h1 h2 n T f g k j hfl hk hc4 had hj hg) (cwV 2 hts gL_place_X6_place rfl rfl rfl (by decide +kernel) ⟨Nat.le_of_ble_eq_true rfl, Nat.le_of_ble_eq_true rfl⟩) ⟨zfbX, va_recv hK hP (ci := 6) (q0 := 0) rfl rfl, zpreX (hP.sub (ws' := [(o, .inr (6, [.ref a0, .int tc, .ref a1, .int (nI nc), .null, .int 40, .int 48, .int 0, .ref a2])), (a1, .inl (cC, 4, .inr (.inr (.inr (.inr ad))))), (h0, .inr (0, [.ref h1, .int (nI T), .ref h2])), (h1, .inl (cI, n, .inl f)), (h2, .inl (cI, 256, .inl g))]) [0, 1, 2, 3, 4] rfl) (hK.sub (tys' := [(cI, .int), (cC, (.object RX0))]) [0, 1] rfl) hE hS hA⟩ rfl rfl hl.1 rfl (lv_room (Nat.le_of_ble_eq_true rfl)) dL_place_3 ⟨Nat.le_of_ble_eq_true rfl, Nat.le_of_ble_eq_true rfl⟩) hS hA (fun ce q9 H1 locs hz1 hk1 hS hce hcv hcl => ?_)
  refine vx_catch (E := "java/util/NoSuchElementException") hown [⟨0, 6, 7, 33⟩, ⟨0, 6, 11, 15⟩] ⟨0, 6, 15, 45⟩ [] htab (fun z hz => (List.mem_cons.mp hz).elim (fun q => by rw [q]; exact Or.inr ⟨(by decide : (33 : Nat) ≠ 0), "java/lang/IndexOutOfBoundsException", (hts (.classLink RL 33 "java/lang/IndexOutOfBoundsException") (List.mem_of_getElem? (i := 1) rfl)), hE.2.2.2 _ (List.mem_of_getElem? (i := 1) rfl)⟩) (fun hz => (List.mem_cons.mp hz).elim (fun q => by rw [q]; exact Or.inr ⟨(by decide : (15 : Nat) ≠ 0), "java/lang/IllegalArgumentException", (hts (.classLink RL 15 "java/lang/IllegalArgumentException") (List.mem_of_getElem? (i := 2) rfl)), hE.2.2.2 _ (List.mem_of_getElem? (i := 2) rfl)⟩) (fun hz => nomatch hz))) rfl (by decide) (hts (.classLink RL 45 "java/util/NoSuchElementException") (List.mem_of_getElem? (i := 3) rfl)) (va_Nw.use rfl (hE.2.2.1 _ (List.mem_of_getElem? (i := 8) rfl))) hce hcv hcl ?_
  refine lv_astore_n (lv' := [(3, .ref q9), (0, .ref o), (1, .int (nI k)), (2, .int (nI j))]) hx hb dL_place_15 rfl hl (by decide) rfl (fun ls hl => ?_)
  refine lv_ldc hx hb hown (hts (.constant RL 47 (-900003)) (List.mem_of_getElem? (i := 6) rfl)) dL_place_16 ?_
  exact W.iret (v := (-900003)) hx hb hr (fun t9 ht hW => ⟨⟨_, (), rfl, rfl, trivial⟩, hS.F ht⟩) hS.2.2 dL_place_18

set_option maxHeartbeats 4000000 in
set_option maxRecDepth 100000 in
/-- place: IOB -/
theorem w_place_bad (l : Launch) (dC : Nat → ClassId) (dI : Nat → Nat → Nat) (sz : Nat) (cI cC : ClassId) (o a0 a1 a2 : Nat) (tc : Int32) (nc : Nat) (ad : Nat → Option Nat) (k : Nat) (w : Int32) (hfl : l.stackTraces = false) (hk : nc ≤ k) (hk2 : k < 2 ^ 30) : Met l yL_place wsL_place ({ frames := 8, cells := 1, slots := 6, locals := 136 }) (va_Pc [.ref o, .int (nI k), .int w] (zPcX (dC, dI) [(o, .inr (6, [.ref a0, .int tc, .ref a1, .int (nI nc), .null, .int 40, .int 48, .int 0, .ref a2])), (a1, .inl (cC, 4, .inr (.inr (.inr (.inr ad)))))] [(cI, .int), (cC, (.object RX0))] sz)) (va_Qi (fun (r : Int32) (_ : Unit) => r = (-900001)) (fun _ _ => True) (zq sz)) 1 6 (zq sz) := by
  refine va_MetW (cc := cL_place) (maxL := 4) (ret := (some .int)) (hh := [(0, 6, 7, 33), (0, 6, 11, 15), (0, 6, 15, 45)]) (by decide) rfl ?_
  intro p e s m args below meth c s₁ B hml hv
  obtain ⟨rfl, hsz, hP, hK, hE⟩ := hv
  have hx := B.exec
  have hb := B.bytes
  have hr := B.returns
  have hts := atoms_spec (ws := wsL_place) B.pre
  have hown : s.vm.findClass RL = some m.cls := findClass_of_methodNamed B.named
  have hlocks := B.notSynchronized
  subst hsz
  have htab : c.exceptionTable.toList = tableOf [(0, 6, 7, 33), (0, 6, 11, 15), (0, 6, 15, 45)] := vx_table (x := yL_place) B (hts _ (List.mem_of_getElem? (i := 0) rfl))
  have hA : ∀ q : Nat, s.heap.size ≤ q → zq s.heap.size q := fun q h => h
  have hS : va_S (zq s.heap.size) s.heap s.heap [] := va_S.rf
  have hl := lv_entry ([.ref o, .int (nI k), .int w]) (n := 4) (Nat.le_of_ble_eq_true rfl)
  rw [lg_entry_eq]
  generalize (lg_sl ([.ref o, .int (nI k), .int w]) ++ List.replicate (4 - (lg_sl ([.ref o, .int (nI k), .int w])).length) Slot.unset).toArray = ls at hl ⊢
  have hl : lv_has ls 4 [(0, .ref o), (1, .int (nI k)), (2, .int w)] := hl
  refine lv_aload_n hx hb dL_place_0 rfl (lv_at hl 0 rfl) ?_
  refine lv_iload_n hx hb dL_place_1 rfl (lv_at hl 1 rfl) ?_
  refine lv_iload_n hx hb dL_place_2 rfl (lv_at hl 2 rfl) ?_
  refine z_callx (vx_runV (As := [.int (nI k), .int w]) (rest := []) ⟨hx, hb, hml, hown, hts⟩ (x_place l dC dI s.heap.size cI cC o a0 a1 a2 tc nc ad k w hfl hk hk2) (cwV 2 hts gL_place_X6_place rfl rfl rfl (by decide +kernel) ⟨Nat.le_of_ble_eq_true rfl, Nat.le_of_ble_eq_true rfl⟩) ⟨zfbX, va_recv hK hP (ci := 6) (q0 := 0) rfl rfl, zpreX (hP.sub (ws' := [(o, .inr (6, [.ref a0, .int tc, .ref a1, .int (nI nc), .null, .int 40, .int 48, .int 0, .ref a2])), (a1, .inl (cC, 4, .inr (.inr (.inr (.inr ad)))))]) [0, 1] rfl) (hK.sub (tys' := [(cI, .int), (cC, (.object RX0))]) [0, 1] rfl) hE hS hA⟩ rfl rfl hl.1 rfl (lv_room (Nat.le_of_ble_eq_true rfl)) dL_place_3 ⟨Nat.le_of_ble_eq_true rfl, Nat.le_of_ble_eq_true rfl⟩) hS hA (fun ce q9 H1 locs hz1 hk1 hS hce hcv hcl => ?_)
  refine vx_catch (E := "java/lang/IndexOutOfBoundsException") hown [] ⟨0, 6, 7, 33⟩ [⟨0, 6, 11, 15⟩, ⟨0, 6, 15, 45⟩] htab (fun z hz => nomatch hz) rfl (by decide) (hts (.classLink RL 33 "java/lang/IndexOutOfBoundsException") (List.mem_of_getElem? (i := 1) rfl)) (va_Nw.use rfl (hE.2.2.1 _ (List.mem_of_getElem? (i := 7) rfl))) hce hcv hcl ?_
  refine lv_astore_n (lv' := [(3, .ref q9), (0, .ref o), (1, .int (nI k)), (2, .int w)]) hx hb dL_place_7 rfl hl (by decide) rfl (fun ls hl => ?_)
  refine lv_ldc hx hb hown (hts (.constant RL 17 (-900001)) (List.mem_of_getElem? (i := 4) rfl)) dL_place_8 ?_
  exact W.iret (v := (-900001)) hx hb hr (fun t9 ht hW => ⟨⟨_, (), rfl, rfl, trivial⟩, hS.F ht⟩) hS.2.2 dL_place_10

set_option maxHeartbeats 4000000 in
set_option maxRecDepth 100000 in
/-- changes: IAE -/
theorem w_changes_bad (l : Launch) (dC : Nat → ClassId) (dI : Nat → Nat → Nat) (sz : Nat) (cI cC : ClassId) (o a0 a1 a2 : Nat) (tc : Int32) (nc : Nat) (ad : Nat → Option Nat) (h0 h1 h2 n T : Nat) (f g : Nat → Int32) (k t : Nat) (hfl : l.stackTraces = false) (hk : k < nc) (hc4 : nc ≤ 4) (had : ad k = some h0) (htT : T ≤ t) (ht2 : t < 2 ^ 31) : Met l yL_changes wsL_changes ({ frames := 7, cells := 1, slots := 6, locals := 114 }) (va_Pc [.ref o, .int (nI k), .int (nI t)] (zPcX (dC, dI) [(o, .inr (6, [.ref a0, .int tc, .ref a1, .int (nI nc), .null, .int 40, .int 48, .int 0, .ref a2])), (a1, .inl (cC, 4, .inr (.inr (.inr (.inr ad))))), (h0, .inr (0, [.ref h1, .int (nI T), .ref h2])), (h1, .inl (cI, n, .inl f)), (h2, .inl (cI, 256, .inl g))] [(cI, .int), (cC, (.object RX0))] sz)) (va_Qi (fun (r : Int32) (_ : Unit) => r = (-900002)) (fun _ _ => True) (zq sz)) 1 6 (zq sz) := by
  refine va_MetW (cc := cL_changes) (maxL := 4) (ret := (some .int)) (hh := [(0, 6, 7, 33), (0, 6, 11, 15)]) (by decide) rfl ?_
  intro p e s m args below meth c s₁ B hml hv
  obtain ⟨rfl, hsz, hP, hK, hE⟩ := hv
  have hx := B.exec
  have hb := B.bytes
  have hr := B.returns
  have hts := atoms_spec (ws := wsL_changes) B.pre
  have hown : s.vm.findClass RL = some m.cls := findClass_of_methodNamed B.named
  have hlocks := B.notSynchronized
  subst hsz
  have htab : c.exceptionTable.toList = tableOf [(0, 6, 7, 33), (0, 6, 11, 15)] := vx_table (x := yL_changes) B (hts _ (List.mem_of_getElem? (i := 0) rfl))
  have hA : ∀ q : Nat, s.heap.size ≤ q → zq s.heap.size q := fun q h => h
  have hS : va_S (zq s.heap.size) s.heap s.heap [] := va_S.rf
  have hl := lv_entry ([.ref o, .int (nI k), .int (nI t)]) (n := 4) (Nat.le_of_ble_eq_true rfl)
  rw [lg_entry_eq]
  generalize (lg_sl ([.ref o, .int (nI k), .int (nI t)]) ++ List.replicate (4 - (lg_sl ([.ref o, .int (nI k), .int (nI t)])).length) Slot.unset).toArray = ls at hl ⊢
  have hl : lv_has ls 4 [(0, .ref o), (1, .int (nI k)), (2, .int (nI t))] := hl
  refine lv_aload_n hx hb dL_changes_0 rfl (lv_at hl 0 rfl) ?_
  refine lv_iload_n hx hb dL_changes_1 rfl (lv_at hl 1 rfl) ?_
  refine lv_iload_n hx hb dL_changes_2 rfl (lv_at hl 2 rfl) ?_
  refine z_callx (vx_runV (As := [.int (nI k), .int (nI t)]) (rest := []) ⟨hx, hb, hml, hown, hts⟩ (x_changes l dC dI s.heap.size cI cC o a0 a1 a2 tc nc ad h0 h1 h2 n T f g k t hfl hk hc4 had htT ht2) (cwV 2 hts gL_changes_X6_changes rfl rfl rfl (by decide +kernel) ⟨Nat.le_of_ble_eq_true rfl, Nat.le_of_ble_eq_true rfl⟩) ⟨zfbX, va_recv hK hP (ci := 6) (q0 := 0) rfl rfl, zpreX (hP.sub (ws' := [(o, .inr (6, [.ref a0, .int tc, .ref a1, .int (nI nc), .null, .int 40, .int 48, .int 0, .ref a2])), (a1, .inl (cC, 4, .inr (.inr (.inr (.inr ad))))), (h0, .inr (0, [.ref h1, .int (nI T), .ref h2])), (h1, .inl (cI, n, .inl f)), (h2, .inl (cI, 256, .inl g))]) [0, 1, 2, 3, 4] rfl) (hK.sub (tys' := [(cI, .int), (cC, (.object RX0))]) [0, 1] rfl) hE hS hA⟩ rfl rfl hl.1 rfl (lv_room (Nat.le_of_ble_eq_true rfl)) dL_changes_3 ⟨Nat.le_of_ble_eq_true rfl, Nat.le_of_ble_eq_true rfl⟩) hS hA (fun ce q9 H1 locs hz1 hk1 hS hce hcv hcl => ?_)
  refine vx_catch (E := "java/lang/IllegalArgumentException") hown [⟨0, 6, 7, 33⟩] ⟨0, 6, 11, 15⟩ [] htab (fun z hz => (List.mem_cons.mp hz).elim (fun q => by rw [q]; exact Or.inr ⟨(by decide : (33 : Nat) ≠ 0), "java/lang/IndexOutOfBoundsException", (hts (.classLink RL 33 "java/lang/IndexOutOfBoundsException") (List.mem_of_getElem? (i := 1) rfl)), hE.2.2.2 _ (List.mem_of_getElem? (i := 0) rfl)⟩) (fun hz => nomatch hz)) rfl (by decide) (hts (.classLink RL 15 "java/lang/IllegalArgumentException") (List.mem_of_getElem? (i := 2) rfl)) (va_Nw.use rfl (hE.2.2.1 _ (List.mem_of_getElem? (i := 5) rfl))) hce hcv hcl ?_
  refine lv_astore_n (lv' := [(3, .ref q9), (0, .ref o), (1, .int (nI k)), (2, .int (nI t))]) hx hb dL_changes_11 rfl hl (by decide) rfl (fun ls hl => ?_)
  refine lv_ldc hx hb hown (hts (.constant RL 20 (-900002)) (List.mem_of_getElem? (i := 4) rfl)) dL_changes_12 ?_
  exact W.iret (v := (-900002)) hx hb hr (fun t9 ht hW => ⟨⟨_, (), rfl, rfl, trivial⟩, hS.F ht⟩) hS.2.2 dL_changes_14

set_option maxHeartbeats 4000000 in
set_option maxRecDepth 100000 in
/-- setDisc: IOB -/
theorem w_setDisc_bad (l : Launch) (dC : Nat → ClassId) (dI : Nat → Nat → Nat) (sz : Nat) (cI cC : ClassId) (o a0 a1 a2 : Nat) (tc : Int32) (nc : Nat) (ad : Nat → Option Nat) (k : Nat) (w : Int32) (hfl : l.stackTraces = false) (hk : nc ≤ k) (hk2 : k < 2 ^ 30) : Met l yL_setDisc wsL_setDisc ({ frames := 8, cells := 1, slots := 6, locals := 136 }) (va_Pc [.ref o, .int (nI k), .int w] (zPcX (dC, dI) [(o, .inr (6, [.ref a0, .int tc, .ref a1, .int (nI nc), .null, .int 40, .int 48, .int 0, .ref a2])), (a1, .inl (cC, 4, .inr (.inr (.inr (.inr ad)))))] [(cI, .int), (cC, (.object RX0))] sz)) (va_Qi (fun (r : Int32) (_ : Unit) => r = (-900001)) (fun _ _ => True) (zq sz)) 1 6 (zq sz) := by
  refine va_MetW (cc := cL_setDisc) (maxL := 4) (ret := (some .int)) (hh := [(0, 6, 7, 33), (0, 6, 11, 15)]) (by decide) rfl ?_
  intro p e s m args below meth c s₁ B hml hv
  obtain ⟨rfl, hsz, hP, hK, hE⟩ := hv
  have hx := B.exec
  have hb := B.bytes
  have hr := B.returns
  have hts := atoms_spec (ws := wsL_setDisc) B.pre
  have hown : s.vm.findClass RL = some m.cls := findClass_of_methodNamed B.named
  have hlocks := B.notSynchronized
  subst hsz
  have htab : c.exceptionTable.toList = tableOf [(0, 6, 7, 33), (0, 6, 11, 15)] := vx_table (x := yL_setDisc) B (hts _ (List.mem_of_getElem? (i := 0) rfl))
  have hA : ∀ q : Nat, s.heap.size ≤ q → zq s.heap.size q := fun q h => h
  have hS : va_S (zq s.heap.size) s.heap s.heap [] := va_S.rf
  have hl := lv_entry ([.ref o, .int (nI k), .int w]) (n := 4) (Nat.le_of_ble_eq_true rfl)
  rw [lg_entry_eq]
  generalize (lg_sl ([.ref o, .int (nI k), .int w]) ++ List.replicate (4 - (lg_sl ([.ref o, .int (nI k), .int w])).length) Slot.unset).toArray = ls at hl ⊢
  have hl : lv_has ls 4 [(0, .ref o), (1, .int (nI k)), (2, .int w)] := hl
  refine lv_aload_n hx hb dL_setDisc_0 rfl (lv_at hl 0 rfl) ?_
  refine lv_iload_n hx hb dL_setDisc_1 rfl (lv_at hl 1 rfl) ?_
  refine lv_iload_n hx hb dL_setDisc_2 rfl (lv_at hl 2 rfl) ?_
  refine z_callx (vx_runV (As := [.int (nI k), .int w]) (rest := []) ⟨hx, hb, hml, hown, hts⟩ (x_setDisc l dC dI s.heap.size cI cC o a0 a1 a2 tc nc ad k w hfl hk hk2) (cwV 2 hts gL_setDisc_X6_setDisc rfl rfl rfl (by decide +kernel) ⟨Nat.le_of_ble_eq_true rfl, Nat.le_of_ble_eq_true rfl⟩) ⟨zfbX, va_recv hK hP (ci := 6) (q0 := 0) rfl rfl, zpreX (hP.sub (ws' := [(o, .inr (6, [.ref a0, .int tc, .ref a1, .int (nI nc), .null, .int 40, .int 48, .int 0, .ref a2])), (a1, .inl (cC, 4, .inr (.inr (.inr (.inr ad)))))]) [0, 1] rfl) (hK.sub (tys' := [(cI, .int), (cC, (.object RX0))]) [0, 1] rfl) hE hS hA⟩ rfl rfl hl.1 rfl (lv_room (Nat.le_of_ble_eq_true rfl)) dL_setDisc_3 ⟨Nat.le_of_ble_eq_true rfl, Nat.le_of_ble_eq_true rfl⟩) hS hA (fun ce q9 H1 locs hz1 hk1 hS hce hcv hcl => ?_)
  refine vx_catch (E := "java/lang/IndexOutOfBoundsException") hown [] ⟨0, 6, 7, 33⟩ [⟨0, 6, 11, 15⟩] htab (fun z hz => nomatch hz) rfl (by decide) (hts (.classLink RL 33 "java/lang/IndexOutOfBoundsException") (List.mem_of_getElem? (i := 1) rfl)) (va_Nw.use rfl (hE.2.2.1 _ (List.mem_of_getElem? (i := 7) rfl))) hce hcv hcl ?_
  refine lv_astore_n (lv' := [(3, .ref q9), (0, .ref o), (1, .int (nI k)), (2, .int w)]) hx hb dL_setDisc_7 rfl hl (by decide) rfl (fun ls hl => ?_)
  refine lv_ldc hx hb hown (hts (.constant RL 17 (-900001)) (List.mem_of_getElem? (i := 3) rfl)) dL_setDisc_8 ?_
  exact W.iret (v := (-900001)) hx hb hr (fun t9 ht hW => ⟨⟨_, (), rfl, rfl, trivial⟩, hS.F ht⟩) hS.2.2 dL_setDisc_10

set_option maxHeartbeats 4000000 in
set_option maxRecDepth 100000 in
/-- setDisc: IAE -/
theorem w_setDisc_bad2 (l : Launch) (dC : Nat → ClassId) (dI : Nat → Nat → Nat) (sz : Nat) (cI cC : ClassId) (o a0 a1 a2 : Nat) (tc : Int32) (nc : Nat) (ad : Nat → Option Nat) (h0 h1 h2 n T : Nat) (f g : Nat → Int32) (k : Nat) (hfl : l.stackTraces = false) (hk : k < nc) (hc4 : nc ≤ 4) (had : ad k = some h0) : Met l yL_setDisc wsL_setDisc ({ frames := 7, cells := 1, slots := 6, locals := 114 }) (va_Pc [.ref o, .int (nI k), .int 41] (zPcX (dC, dI) [(o, .inr (6, [.ref a0, .int tc, .ref a1, .int (nI nc), .null, .int 40, .int 48, .int 0, .ref a2])), (a1, .inl (cC, 4, .inr (.inr (.inr (.inr ad))))), (h0, .inr (0, [.ref h1, .int (nI T), .ref h2])), (h1, .inl (cI, n, .inl f)), (h2, .inl (cI, 256, .inl g))] [(cI, .int), (cC, (.object RX0))] sz)) (va_Qi (fun (r : Int32) (_ : Unit) => r = (-900002)) (fun _ _ => True) (zq sz)) 1 6 (zq sz) := by
  refine va_MetW (cc := cL_setDisc) (maxL := 4) (ret := (some .int)) (hh := [(0, 6, 7, 33), (0, 6, 11, 15)]) (by decide) rfl ?_
  intro p e s m args below meth c s₁ B hml hv
  obtain ⟨rfl, hsz, hP, hK, hE⟩ := hv
  have hx := B.exec
  have hb := B.bytes
  have hr := B.returns
  have hts := atoms_spec (ws := wsL_setDisc) B.pre
  have hown : s.vm.findClass RL = some m.cls := findClass_of_methodNamed B.named
  have hlocks := B.notSynchronized
  subst hsz
  have htab : c.exceptionTable.toList = tableOf [(0, 6, 7, 33), (0, 6, 11, 15)] := vx_table (x := yL_setDisc) B (hts _ (List.mem_of_getElem? (i := 0) rfl))
  have hA : ∀ q : Nat, s.heap.size ≤ q → zq s.heap.size q := fun q h => h
  have hS : va_S (zq s.heap.size) s.heap s.heap [] := va_S.rf
  have hl := lv_entry ([.ref o, .int (nI k), .int 41]) (n := 4) (Nat.le_of_ble_eq_true rfl)
  rw [lg_entry_eq]
  generalize (lg_sl ([.ref o, .int (nI k), .int 41]) ++ List.replicate (4 - (lg_sl ([.ref o, .int (nI k), .int 41])).length) Slot.unset).toArray = ls at hl ⊢
  have hl : lv_has ls 4 [(0, .ref o), (1, .int (nI k)), (2, .int 41)] := hl
  refine lv_aload_n hx hb dL_setDisc_0 rfl (lv_at hl 0 rfl) ?_
  refine lv_iload_n hx hb dL_setDisc_1 rfl (lv_at hl 1 rfl) ?_
  refine lv_iload_n hx hb dL_setDisc_2 rfl (lv_at hl 2 rfl) ?_
  refine z_callx (vx_runV (As := [.int (nI k), .int 41]) (rest := []) ⟨hx, hb, hml, hown, hts⟩ (x_setDisc2 l dC dI s.heap.size cI cC o a0 a1 a2 tc nc ad h0 h1 h2 n T f g k hfl hk hc4 had) (cwV 2 hts gL_setDisc_X6_setDisc rfl rfl rfl (by decide +kernel) ⟨Nat.le_of_ble_eq_true rfl, Nat.le_of_ble_eq_true rfl⟩) ⟨zfbX, va_recv hK hP (ci := 6) (q0 := 0) rfl rfl, zpreX (hP.sub (ws' := [(o, .inr (6, [.ref a0, .int tc, .ref a1, .int (nI nc), .null, .int 40, .int 48, .int 0, .ref a2])), (a1, .inl (cC, 4, .inr (.inr (.inr (.inr ad))))), (h0, .inr (0, [.ref h1, .int (nI T), .ref h2])), (h1, .inl (cI, n, .inl f)), (h2, .inl (cI, 256, .inl g))]) [0, 1, 2, 3, 4] rfl) (hK.sub (tys' := [(cI, .int), (cC, (.object RX0))]) [0, 1] rfl) hE hS hA⟩ rfl rfl hl.1 rfl (lv_room (Nat.le_of_ble_eq_true rfl)) dL_setDisc_3 ⟨Nat.le_of_ble_eq_true rfl, Nat.le_of_ble_eq_true rfl⟩) hS hA (fun ce q9 H1 locs hz1 hk1 hS hce hcv hcl => ?_)
  refine vx_catch (E := "java/lang/IllegalArgumentException") hown [⟨0, 6, 7, 33⟩] ⟨0, 6, 11, 15⟩ [] htab (fun z hz => (List.mem_cons.mp hz).elim (fun q => by rw [q]; exact Or.inr ⟨(by decide : (33 : Nat) ≠ 0), "java/lang/IndexOutOfBoundsException", (hts (.classLink RL 33 "java/lang/IndexOutOfBoundsException") (List.mem_of_getElem? (i := 1) rfl)), hE.2.2.2 _ (List.mem_of_getElem? (i := 0) rfl)⟩) (fun hz => nomatch hz)) rfl (by decide) (hts (.classLink RL 15 "java/lang/IllegalArgumentException") (List.mem_of_getElem? (i := 2) rfl)) (va_Nw.use rfl (hE.2.2.1 _ (List.mem_of_getElem? (i := 5) rfl))) hce hcv hcl ?_
  refine lv_astore_n (lv' := [(3, .ref q9), (0, .ref o), (1, .int (nI k)), (2, .int 41)]) hx hb dL_setDisc_11 rfl hl (by decide) rfl (fun ls hl => ?_)
  refine lv_ldc hx hb hown (hts (.constant RL 20 (-900002)) (List.mem_of_getElem? (i := 4) rfl)) dL_setDisc_12 ?_
  exact W.iret (v := (-900002)) hx hb hr (fun t9 ht hW => ⟨⟨_, (), rfl, rfl, trivial⟩, hS.F ht⟩) hS.2.2 dL_setDisc_14

set_option maxHeartbeats 4000000 in
set_option maxRecDepth 100000 in
/-- angle: UOE -/
theorem w_angle_bad (l : Launch) (dC : Nat → ClassId) (dI : Nat → Nat → Nat) (sz : Nat) (cI cC : ClassId) (o a0 a1 a2 : Nat) (tc : Int32) (nc : Nat) (ad : Nat → Option Nat) (hfl : l.stackTraces = false) : Met l yL_angle wsL_angle ({ frames := 8, cells := 1, slots := 6, locals := 134 }) (va_Pc [.ref o] (zPcX (dC, dI) [(o, .inr (6, [.ref a0, .int tc, .ref a1, .int (nI nc), .null, .int 40, .int 48, .int 0, .ref a2]))] [(cI, .int), (cC, (.object RX0))] sz)) (va_Qi (fun (r : Int32) (_ : Unit) => r = (-900001)) (fun _ _ => True) (zq sz)) 1 6 (zq sz) := by
  refine va_MetW (cc := cL_angle) (maxL := 2) (ret := (some .int)) (hh := [(0, 4, 5, 25)]) (by decide) rfl ?_
  intro p e s m args below meth c s₁ B hml hv
  obtain ⟨rfl, hsz, hP, hK, hE⟩ := hv
  have hx := B.exec
  have hb := B.bytes
  have hr := B.returns
  have hts := atoms_spec (ws := wsL_angle) B.pre
  have hown : s.vm.findClass RL = some m.cls := findClass_of_methodNamed B.named
  have hlocks := B.notSynchronized
  subst hsz
  have htab : c.exceptionTable.toList = tableOf [(0, 4, 5, 25)] := vx_table (x := yL_angle) B (hts _ (List.mem_of_getElem? (i := 0) rfl))
  have hA : ∀ q : Nat, s.heap.size ≤ q → zq s.heap.size q := fun q h => h
  have hS : va_S (zq s.heap.size) s.heap s.heap [] := va_S.rf
  have hl := lv_entry ([.ref o]) (n := 2) (Nat.le_of_ble_eq_true rfl)
  rw [lg_entry_eq]
  generalize (lg_sl ([.ref o]) ++ List.replicate (2 - (lg_sl ([.ref o])).length) Slot.unset).toArray = ls at hl ⊢
  have hl : lv_has ls 2 [(0, .ref o)] := hl
  refine lv_aload_n hx hb dL_angle_0 rfl (lv_at hl 0 rfl) ?_
  refine z_callx (vx_runV (As := []) (rest := []) ⟨hx, hb, hml, hown, hts⟩ (x_angle l dC dI s.heap.size cI cC o a0 a1 a2 tc nc ad hfl) (cwV 0 hts gL_angle_X6_angle rfl rfl rfl (by decide +kernel) ⟨Nat.le_of_ble_eq_true rfl, Nat.le_of_ble_eq_true rfl⟩) ⟨zfbX, va_recv hK hP (ci := 6) (q0 := 0) rfl rfl, zpreX (hP.sub (ws' := [(o, .inr (6, [.ref a0, .int tc, .ref a1, .int (nI nc), .null, .int 40, .int 48, .int 0, .ref a2]))]) [0] rfl) (hK.sub (tys' := [(cI, .int), (cC, (.object RX0))]) [0, 1] rfl) hE hS hA⟩ rfl rfl hl.1 rfl (lv_room (Nat.le_of_ble_eq_true rfl)) dL_angle_1 ⟨Nat.le_of_ble_eq_true rfl, Nat.le_of_ble_eq_true rfl⟩) hS hA (fun ce q9 H1 locs hz1 hk1 hS hce hcv hcl => ?_)
  refine vx_catch (E := "java/lang/UnsupportedOperationException") hown [] ⟨0, 4, 5, 25⟩ [] htab (fun z hz => nomatch hz) rfl (by decide) (hts (.classLink RL 25 "java/lang/UnsupportedOperationException") (List.mem_of_getElem? (i := 1) rfl)) (va_Nw.use rfl (hE.2.2.1 _ (List.mem_of_getElem? (i := 6) rfl))) hce hcv hcl ?_
  refine lv_astore_n (lv' := [(1, .ref q9), (0, .ref o)]) hx hb dL_angle_5 rfl hl (by decide) rfl (fun ls hl => ?_)
  refine lv_ldc hx hb hown (hts (.constant RL 17 (-900001)) (List.mem_of_getElem? (i := 2) rfl)) dL_angle_6 ?_
  exact W.iret (v := (-900001)) hx hb hr (fun t9 ht hW => ⟨⟨_, (), rfl, rfl, trivial⟩, hS.F ht⟩) hS.2.2 dL_angle_8

set_option maxHeartbeats 4000000 in
set_option maxRecDepth 100000 in
/-- turn: UOE -/
theorem w_turn_bad (l : Launch) (dC : Nat → ClassId) (dI : Nat → Nat → Nat) (sz : Nat) (cI cC : ClassId) (o a0 a1 a2 : Nat) (tc : Int32) (nc : Nat) (ad : Nat → Option Nat) (w : Int32) (hfl : l.stackTraces = false) : Met l yL_turn wsL_turn ({ frames := 8, cells := 1, slots := 6, locals := 136 }) (va_Pc [.ref o, .int w] (zPcX (dC, dI) [(o, .inr (6, [.ref a0, .int tc, .ref a1, .int (nI nc), .null, .int 40, .int 48, .int 0, .ref a2]))] [(cI, .int), (cC, (.object RX0))] sz)) (va_Qi (fun (r : Int32) (_ : Unit) => r = (-900001)) (fun _ _ => True) (zq sz)) 1 6 (zq sz) := by
  refine va_MetW (cc := cL_turn) (maxL := 3) (ret := (some .int)) (hh := [(0, 5, 6, 25), (0, 5, 10, 15)]) (by decide) rfl ?_
  intro p e s m args below meth c s₁ B hml hv
  obtain ⟨rfl, hsz, hP, hK, hE⟩ := hv
  have hx := B.exec
  have hb := B.bytes
  have hr := B.returns
  have hts := atoms_spec (ws := wsL_turn) B.pre
  have hown : s.vm.findClass RL = some m.cls := findClass_of_methodNamed B.named
  have hlocks := B.notSynchronized
  subst hsz
  have htab : c.exceptionTable.toList = tableOf [(0, 5, 6, 25), (0, 5, 10, 15)] := vx_table (x := yL_turn) B (hts _ (List.mem_of_getElem? (i := 0) rfl))
  have hA : ∀ q : Nat, s.heap.size ≤ q → zq s.heap.size q := fun q h => h
  have hS : va_S (zq s.heap.size) s.heap s.heap [] := va_S.rf
  have hl := lv_entry ([.ref o, .int w]) (n := 3) (Nat.le_of_ble_eq_true rfl)
  rw [lg_entry_eq]
  generalize (lg_sl ([.ref o, .int w]) ++ List.replicate (3 - (lg_sl ([.ref o, .int w])).length) Slot.unset).toArray = ls at hl ⊢
  have hl : lv_has ls 3 [(0, .ref o), (1, .int w)] := hl
  refine lv_aload_n hx hb dL_turn_0 rfl (lv_at hl 0 rfl) ?_
  refine lv_iload_n hx hb dL_turn_1 rfl (lv_at hl 1 rfl) ?_
  refine z_callx (vx_runV (As := [.int w]) (rest := []) ⟨hx, hb, hml, hown, hts⟩ (x_turn l dC dI s.heap.size cI cC o a0 a1 a2 tc nc ad w hfl) (cwV 1 hts gL_turn_X6_turn rfl rfl rfl (by decide +kernel) ⟨Nat.le_of_ble_eq_true rfl, Nat.le_of_ble_eq_true rfl⟩) ⟨zfbX, va_recv hK hP (ci := 6) (q0 := 0) rfl rfl, zpreX (hP.sub (ws' := [(o, .inr (6, [.ref a0, .int tc, .ref a1, .int (nI nc), .null, .int 40, .int 48, .int 0, .ref a2]))]) [0] rfl) (hK.sub (tys' := [(cI, .int), (cC, (.object RX0))]) [0, 1] rfl) hE hS hA⟩ rfl rfl hl.1 rfl (lv_room (Nat.le_of_ble_eq_true rfl)) dL_turn_2 ⟨Nat.le_of_ble_eq_true rfl, Nat.le_of_ble_eq_true rfl⟩) hS hA (fun ce q9 H1 locs hz1 hk1 hS hce hcv hcl => ?_)
  refine vx_catch (E := "java/lang/UnsupportedOperationException") hown [] ⟨0, 5, 6, 25⟩ [⟨0, 5, 10, 15⟩] htab (fun z hz => nomatch hz) rfl (by decide) (hts (.classLink RL 25 "java/lang/UnsupportedOperationException") (List.mem_of_getElem? (i := 1) rfl)) (va_Nw.use rfl (hE.2.2.1 _ (List.mem_of_getElem? (i := 6) rfl))) hce hcv hcl ?_
  refine lv_astore_n (lv' := [(2, .ref q9), (0, .ref o), (1, .int w)]) hx hb dL_turn_6 rfl hl (by decide) rfl (fun ls hl => ?_)
  refine lv_ldc hx hb hown (hts (.constant RL 17 (-900001)) (List.mem_of_getElem? (i := 3) rfl)) dL_turn_7 ?_
  exact W.iret (v := (-900001)) hx hb hr (fun t9 ht hW => ⟨⟨_, (), rfl, rfl, trivial⟩, hS.F ht⟩) hS.2.2 dL_turn_9

set_option maxHeartbeats 4000000 in
set_option maxRecDepth 100000 in
/-- words -/
theorem w_words (l : Launch) (dC : Nat → ClassId) (dI : Nat → Nat → Nat) (sz : Nat) (cI cC : ClassId) (o a0 a1 a2 : Nat) (tc : Int32) (nc : Nat) (ad : Nat → Option Nat) (h0 h1 h2 n T : Nat) (f g : Nat → Int32) (k : Nat) (hk : k < nc) (hc4 : nc ≤ 4) (had : ad k = some h0) : Met l yL_words wsL_words ({ frames := 3, cells := 0, slots := 0, locals := 66 }) (va_Pc [.ref o, .int (nI k)] (zPc (dC, dI) [(o, .inr (6, [.ref a0, .int tc, .ref a1, .int (nI nc), .null, .int 40, .int 48, .int 0, .ref a2])), (a1, .inl (cC, 4, .inr (.inr (.inr (.inr ad))))), (h0, .inr (0, [.ref h1, .int (nI T), .ref h2])), (h1, .inl (cI, n, .inl f)), (h2, .inl (cI, 256, .inl g))] [(cI, .int), (cC, (.object RX0))] sz)) (va_Qi (fun (r : Int32) (_ : Unit) => r = nI n) (fun _ _ => True) (zq sz)) 0 0 (zq sz) := by
  refine va_MetW (cc := cL_words) (maxL := 3) (ret := (some .int)) (hh := [(0, 5, 6, 33)]) (by decide) rfl ?_
  intro p e s m args below meth c s₁ B hml hv
  obtain ⟨rfl, hsz, hP, hK⟩ := hv
  have hx := B.exec
  have hb := B.bytes
  have hr := B.returns
  have hts := atoms_spec (ws := wsL_words) B.pre
  have hown : s.vm.findClass RL = some m.cls := findClass_of_methodNamed B.named
  have hlocks := B.notSynchronized
  subst hsz
  have htab : c.exceptionTable.toList = tableOf [(0, 5, 6, 33)] := vx_table (x := yL_words) B (hts _ (List.mem_of_getElem? (i := 0) rfl))
  have hA : ∀ q : Nat, s.heap.size ≤ q → zq s.heap.size q := fun q h => h
  have hS : va_S (zq s.heap.size) s.heap s.heap [] := va_S.rf
  have hl := lv_entry ([.ref o, .int (nI k)]) (n := 3) (Nat.le_of_ble_eq_true rfl)
  rw [lg_entry_eq]
  generalize (lg_sl ([.ref o, .int (nI k)]) ++ List.replicate (3 - (lg_sl ([.ref o, .int (nI k)])).length) Slot.unset).toArray = ls at hl ⊢
  have hl : lv_has ls 3 [(0, .ref o), (1, .int (nI k))] := hl
  refine lv_aload_n hx hb dL_words_0 rfl (lv_at hl 0 rfl) ?_
  refine lv_iload_n hx hb dL_words_1 rfl (lv_at hl 1 rfl) ?_
  refine va_calli (va_runV (As := [.int (nI k)]) (rest := []) ⟨hx, hb, hml, hown, hts⟩ (k_words l dC dI s.heap.size cI cC o a0 a1 a2 tc nc ad h0 h1 h2 n T f g k hk hc4 had) (cwV 1 hts gL_words_X6_words rfl rfl rfl (by decide +kernel) ⟨Nat.le_of_ble_eq_true rfl, Nat.le_of_ble_eq_true rfl⟩) ⟨zfb, va_recv hK hP (ci := 6) (q0 := 0) rfl rfl, zpre (hP.sub (ws' := [(o, .inr (6, [.ref a0, .int tc, .ref a1, .int (nI nc), .null, .int 40, .int 48, .int 0, .ref a2])), (a1, .inl (cC, 4, .inr (.inr (.inr (.inr ad))))), (h0, .inr (0, [.ref h1, .int (nI T), .ref h2])), (h1, .inl (cI, n, .inl f)), (h2, .inl (cI, 256, .inl g))]) [0, 1, 2, 3, 4] rfl) (hK.sub (tys' := [(cI, .int), (cC, (.object RX0))]) [0, 1] rfl)⟩ rfl rfl hl.1 rfl (lv_room (Nat.le_of_ble_eq_true rfl)) dL_words_2 ⟨Nat.le_of_ble_eq_true rfl, Nat.le_of_ble_eq_true rfl⟩) hS (fun q h1 h2 => absurd h2 (Nat.not_le.mpr h1)) (fun q h => hA q (Nat.le_trans hS.1 h)) (fun r9 u9 t9 H1 locs ht hvm hw hB hz1 hk1 hS => ?_)
  have hw : r9 = nI n := hw
  subst hw
  have hP := zr_keep hP hk1
  clear hk1 hz1 hB ht hvm hw
  exact W.iret (v := (nI n)) hx hb hr (fun t9 ht hW => ⟨⟨_, (), rfl, rfl, trivial⟩, hS.F ht⟩) hS.2.2 dL_words_5

set_option maxHeartbeats 4000000 in
set_option maxRecDepth 100000 in
/-- tracks -/
theorem w_tracks (l : Launch) (dC : Nat → ClassId) (dI : Nat → Nat → Nat) (sz : Nat) (cI cC : ClassId) (o a0 a1 a2 : Nat) (tc : Int32) (nc : Nat) (ad : Nat → Option Nat) (h0 h1 h2 n T : Nat) (f g : Nat → Int32) (k : Nat) (hk : k < nc) (hc4 : nc ≤ 4) (had : ad k = some h0) : Met l yL_tracks wsL_tracks ({ frames := 3, cells := 0, slots := 0, locals := 66 }) (va_Pc [.ref o, .int (nI k)] (zPc (dC, dI) [(o, .inr (6, [.ref a0, .int tc, .ref a1, .int (nI nc), .null, .int 40, .int 48, .int 0, .ref a2])), (a1, .inl (cC, 4, .inr (.inr (.inr (.inr ad))))), (h0, .inr (0, [.ref h1, .int (nI T), .ref h2])), (h1, .inl (cI, n, .inl f)), (h2, .inl (cI, 256, .inl g))] [(cI, .int), (cC, (.object RX0))] sz)) (va_Qi (fun (r : Int32) (_ : Unit) => r = nI T) (fun _ _ => True) (zq sz)) 0 0 (zq sz) := by
  refine va_MetW (cc := cL_tracks) (maxL := 3) (ret := (some .int)) (hh := [(0, 5, 6, 33)]) (by decide) rfl ?_
  intro p e s m args below meth c s₁ B hml hv
  obtain ⟨rfl, hsz, hP, hK⟩ := hv
  have hx := B.exec
  have hb := B.bytes
  have hr := B.returns
  have hts := atoms_spec (ws := wsL_tracks) B.pre
  have hown : s.vm.findClass RL = some m.cls := findClass_of_methodNamed B.named
  have hlocks := B.notSynchronized
  subst hsz
  have htab : c.exceptionTable.toList = tableOf [(0, 5, 6, 33)] := vx_table (x := yL_tracks) B (hts _ (List.mem_of_getElem? (i := 0) rfl))
  have hA : ∀ q : Nat, s.heap.size ≤ q → zq s.heap.size q := fun q h => h
  have hS : va_S (zq s.heap.size) s.heap s.heap [] := va_S.rf
  have hl := lv_entry ([.ref o, .int (nI k)]) (n := 3) (Nat.le_of_ble_eq_true rfl)
  rw [lg_entry_eq]
  generalize (lg_sl ([.ref o, .int (nI k)]) ++ List.replicate (3 - (lg_sl ([.ref o, .int (nI k)])).length) Slot.unset).toArray = ls at hl ⊢
  have hl : lv_has ls 3 [(0, .ref o), (1, .int (nI k))] := hl
  refine lv_aload_n hx hb dL_tracks_0 rfl (lv_at hl 0 rfl) ?_
  refine lv_iload_n hx hb dL_tracks_1 rfl (lv_at hl 1 rfl) ?_
  refine va_calli (va_runV (As := [.int (nI k)]) (rest := []) ⟨hx, hb, hml, hown, hts⟩ (k_tracks l dC dI s.heap.size cI cC o a0 a1 a2 tc nc ad h0 h1 h2 n T f g k hk hc4 had) (cwV 1 hts gL_tracks_X6_tracks rfl rfl rfl (by decide +kernel) ⟨Nat.le_of_ble_eq_true rfl, Nat.le_of_ble_eq_true rfl⟩) ⟨zfb, va_recv hK hP (ci := 6) (q0 := 0) rfl rfl, zpre (hP.sub (ws' := [(o, .inr (6, [.ref a0, .int tc, .ref a1, .int (nI nc), .null, .int 40, .int 48, .int 0, .ref a2])), (a1, .inl (cC, 4, .inr (.inr (.inr (.inr ad))))), (h0, .inr (0, [.ref h1, .int (nI T), .ref h2])), (h1, .inl (cI, n, .inl f)), (h2, .inl (cI, 256, .inl g))]) [0, 1, 2, 3, 4] rfl) (hK.sub (tys' := [(cI, .int), (cC, (.object RX0))]) [0, 1] rfl)⟩ rfl rfl hl.1 rfl (lv_room (Nat.le_of_ble_eq_true rfl)) dL_tracks_2 ⟨Nat.le_of_ble_eq_true rfl, Nat.le_of_ble_eq_true rfl⟩) hS (fun q h1 h2 => absurd h2 (Nat.not_le.mpr h1)) (fun q h => hA q (Nat.le_trans hS.1 h)) (fun r9 u9 t9 H1 locs ht hvm hw hB hz1 hk1 hS => ?_)
  have hw : r9 = nI T := hw
  subst hw
  have hP := zr_keep hP hk1
  clear hk1 hz1 hB ht hvm hw
  exact W.iret (v := (nI T)) hx hb hr (fun t9 ht hW => ⟨⟨_, (), rfl, rfl, trivial⟩, hS.F ht⟩) hS.2.2 dL_tracks_5

set_option maxHeartbeats 4000000 in
set_option maxRecDepth 100000 in
/-- word -/
theorem w_word (l : Launch) (dC : Nat → ClassId) (dI : Nat → Nat → Nat) (sz : Nat) (cI cC : ClassId) (o a0 a1 a2 : Nat) (tc : Int32) (nc : Nat) (ad : Nat → Option Nat) (h0 h1 h2 n T : Nat) (f g : Nat → Int32) (k j : Nat) (hk : k < nc) (hc4 : nc ≤ 4) (had : ad k = some h0) (hjn : j < n) (hn : n < 2 ^ 31) : Met l yL_word wsL_word ({ frames := 3, cells := 0, slots := 0, locals := 68 }) (va_Pc [.ref o, .int (nI k), .int (nI j)] (zPc (dC, dI) [(o, .inr (6, [.ref a0, .int tc, .ref a1, .int (nI nc), .null, .int 40, .int 48, .int 0, .ref a2])), (a1, .inl (cC, 4, .inr (.inr (.inr (.inr ad))))), (h0, .inr (0, [.ref h1, .int (nI T), .ref h2])), (h1, .inl (cI, n, .inl f)), (h2, .inl (cI, 256, .inl g))] [(cI, .int), (cC, (.object RX0))] sz)) (va_Qi (fun (r : Int32) (_ : Unit) => r = f j) (fun _ _ => True) (zq sz)) 0 0 (zq sz) := by
  refine va_MetW (cc := cL_word) (maxL := 4) (ret := (some .int)) (hh := [(0, 6, 7, 33), (0, 6, 11, 15)]) (by decide) rfl ?_
  intro p e s m args below meth c s₁ B hml hv
  obtain ⟨rfl, hsz, hP, hK⟩ := hv
  have hx := B.exec
  have hb := B.bytes
  have hr := B.returns
  have hts := atoms_spec (ws := wsL_word) B.pre
  have hown : s.vm.findClass RL = some m.cls := findClass_of_methodNamed B.named
  have hlocks := B.notSynchronized
  subst hsz
  have htab : c.exceptionTable.toList = tableOf [(0, 6, 7, 33), (0, 6, 11, 15)] := vx_table (x := yL_word) B (hts _ (List.mem_of_getElem? (i := 0) rfl))
  have hA : ∀ q : Nat, s.heap.size ≤ q → zq s.heap.size q := fun q h => h
  have hS : va_S (zq s.heap.size) s.heap s.heap [] := va_S.rf
  have hl := lv_entry ([.ref o, .int (nI k), .int (nI j)]) (n := 4) (Nat.le_of_ble_eq_true rfl)
  rw [lg_entry_eq]
  generalize (lg_sl ([.ref o, .int (nI k), .int (nI j)]) ++ List.replicate (4 - (lg_sl ([.ref o, .int (nI k), .int (nI j)])).length) Slot.unset).toArray = ls at hl ⊢
  have hl : lv_has ls 4 [(0, .ref o), (1, .int (nI k)), (2, .int (nI j))] := hl
  refine lv_aload_n hx hb dL_word_0 rfl (lv_at hl 0 rfl) ?_
  refine lv_iload_n hx hb dL_word_1 rfl (lv_at hl 1 rfl) ?_
  refine lv_iload_n hx hb dL_word_2 rfl (lv_at hl 2 rfl) ?_
  refine va_calli (va_runV (As := [.int (nI k), .int (nI j)]) (rest := []) ⟨hx, hb, hml, hown, hts⟩ (k_word l dC dI s.heap.size cI cC o a0 a1 a2 tc nc ad h0 h1 h2 n T f g k j hk hc4 had hjn hn) (cwV 2 hts gL_word_X6_word rfl rfl rfl (by decide +kernel) ⟨Nat.le_of_ble_eq_true rfl, Nat.le_of_ble_eq_true rfl⟩) ⟨zfb, va_recv hK hP (ci := 6) (q0 := 0) rfl rfl, zpre (hP.sub (ws' := [(o, .inr (6, [.ref a0, .int tc, .ref a1, .int (nI nc), .null, .int 40, .int 48, .int 0, .ref a2])), (a1, .inl (cC, 4, .inr (.inr (.inr (.inr ad))))), (h0, .inr (0, [.ref h1, .int (nI T), .ref h2])), (h1, .inl (cI, n, .inl f)), (h2, .inl (cI, 256, .inl g))]) [0, 1, 2, 3, 4] rfl) (hK.sub (tys' := [(cI, .int), (cC, (.object RX0))]) [0, 1] rfl)⟩ rfl rfl hl.1 rfl (lv_room (Nat.le_of_ble_eq_true rfl)) dL_word_3 ⟨Nat.le_of_ble_eq_true rfl, Nat.le_of_ble_eq_true rfl⟩) hS (fun q h1 h2 => absurd h2 (Nat.not_le.mpr h1)) (fun q h => hA q (Nat.le_trans hS.1 h)) (fun r9 u9 t9 H1 locs ht hvm hw hB hz1 hk1 hS => ?_)
  have hw : r9 = f j := hw
  subst hw
  have hP := zr_keep hP hk1
  clear hk1 hz1 hB ht hvm hw
  exact W.iret (v := (f j)) hx hb hr (fun t9 ht hW => ⟨⟨_, (), rfl, rfl, trivial⟩, hS.F ht⟩) hS.2.2 dL_word_6

set_option maxHeartbeats 4000000 in
set_option maxRecDepth 100000 in
/-- place -/
theorem w_place (l : Launch) (dC : Nat → ClassId) (dI : Nat → Nat → Nat) (sz : Nat) (cI cC : ClassId) (o a0 a1 a2 : Nat) (tc : Int32) (nc : Nat) (ad : Nat → Option Nat) (h0 h1 h2 n T : Nat) (f g : Nat → Int32) (k j : Nat) (hk : k < nc) (hc4 : nc ≤ 4) (had : ad k = some h0) (hj : j < 256) (hg : ¬ g j = -1) : Met l yL_place wsL_place ({ frames := 3, cells := 0, slots := 0, locals := 68 }) (va_Pc [.ref o, .int (nI k), .int (nI j)] (zPc (dC, dI) [(o, .inr (6, [.ref a0, .int tc, .ref a1, .int (nI nc), .null, .int 40, .int 48, .int 0, .ref a2])), (a1, .inl (cC, 4, .inr (.inr (.inr (.inr ad))))), (h0, .inr (0, [.ref h1, .int (nI T), .ref h2])), (h1, .inl (cI, n, .inl f)), (h2, .inl (cI, 256, .inl g))] [(cI, .int), (cC, (.object RX0))] sz)) (va_Qi (fun (r : Int32) (_ : Unit) => r = g j) (fun _ _ => True) (zq sz)) 0 0 (zq sz) := by
  refine va_MetW (cc := cL_place) (maxL := 4) (ret := (some .int)) (hh := [(0, 6, 7, 33), (0, 6, 11, 15), (0, 6, 15, 45)]) (by decide) rfl ?_
  intro p e s m args below meth c s₁ B hml hv
  obtain ⟨rfl, hsz, hP, hK⟩ := hv
  have hx := B.exec
  have hb := B.bytes
  have hr := B.returns
  have hts := atoms_spec (ws := wsL_place) B.pre
  have hown : s.vm.findClass RL = some m.cls := findClass_of_methodNamed B.named
  have hlocks := B.notSynchronized
  subst hsz
  have htab : c.exceptionTable.toList = tableOf [(0, 6, 7, 33), (0, 6, 11, 15), (0, 6, 15, 45)] := vx_table (x := yL_place) B (hts _ (List.mem_of_getElem? (i := 0) rfl))
  have hA : ∀ q : Nat, s.heap.size ≤ q → zq s.heap.size q := fun q h => h
  have hS : va_S (zq s.heap.size) s.heap s.heap [] := va_S.rf
  have hl := lv_entry ([.ref o, .int (nI k), .int (nI j)]) (n := 4) (Nat.le_of_ble_eq_true rfl)
  rw [lg_entry_eq]
  generalize (lg_sl ([.ref o, .int (nI k), .int (nI j)]) ++ List.replicate (4 - (lg_sl ([.ref o, .int (nI k), .int (nI j)])).length) Slot.unset).toArray = ls at hl ⊢
  have hl : lv_has ls 4 [(0, .ref o), (1, .int (nI k)), (2, .int (nI j))] := hl
  refine lv_aload_n hx hb dL_place_0 rfl (lv_at hl 0 rfl) ?_
  refine lv_iload_n hx hb dL_place_1 rfl (lv_at hl 1 rfl) ?_
  refine lv_iload_n hx hb dL_place_2 rfl (lv_at hl 2 rfl) ?_
  refine va_calli (va_runV (As := [.int (nI k), .int (nI j)]) (rest := []) ⟨hx, hb, hml, hown, hts⟩ (k_place l dC dI s.heap.size cI cC o a0 a1 a2 tc nc ad h0 h1 h2 n T f g k j hk hc4 had hj hg) (cwV 2 hts gL_place_X6_place rfl rfl rfl (by decide +kernel) ⟨Nat.le_of_ble_eq_true rfl, Nat.le_of_ble_eq_true rfl⟩) ⟨zfb, va_recv hK hP (ci := 6) (q0 := 0) rfl rfl, zpre (hP.sub (ws' := [(o, .inr (6, [.ref a0, .int tc, .ref a1, .int (nI nc), .null, .int 40, .int 48, .int 0, .ref a2])), (a1, .inl (cC, 4, .inr (.inr (.inr (.inr ad))))), (h0, .inr (0, [.ref h1, .int (nI T), .ref h2])), (h1, .inl (cI, n, .inl f)), (h2, .inl (cI, 256, .inl g))]) [0, 1, 2, 3, 4] rfl) (hK.sub (tys' := [(cI, .int), (cC, (.object RX0))]) [0, 1] rfl)⟩ rfl rfl hl.1 rfl (lv_room (Nat.le_of_ble_eq_true rfl)) dL_place_3 ⟨Nat.le_of_ble_eq_true rfl, Nat.le_of_ble_eq_true rfl⟩) hS (fun q h1 h2 => absurd h2 (Nat.not_le.mpr h1)) (fun q h => hA q (Nat.le_trans hS.1 h)) (fun r9 u9 t9 H1 locs ht hvm hw hB hz1 hk1 hS => ?_)
  have hw : r9 = g j := hw
  subst hw
  have hP := zr_keep hP hk1
  clear hk1 hz1 hB ht hvm hw
  exact W.iret (v := (g j)) hx hb hr (fun t9 ht hW => ⟨⟨_, (), rfl, rfl, trivial⟩, hS.F ht⟩) hS.2.2 dL_place_6

set_option maxHeartbeats 4000000 in
set_option maxRecDepth 100000 in
/-- changes -/
theorem w_changes (l : Launch) (dC : Nat → ClassId) (dI : Nat → Nat → Nat) (sz : Nat) (cI cC : ClassId) (o a0 a1 a2 : Nat) (tc : Int32) (nc : Nat) (ad : Nat → Option Nat) (h0 h1 h2 n T : Nat) (f g : Nat → Int32) (k t : Nat) (hk : k < nc) (hc4 : nc ≤ 4) (had : ad k = some h0) (htT : t < T) (hT : T < 2 ^ 31) (hn : n < 2 ^ 30) : Met l yL_changes wsL_changes ({ frames := 5, cells := 0, slots := 0, locals := 112 }) (va_Pc [.ref o, .int (nI k), .int (nI t)] (zPcN (dC, dI) [(o, .inr (6, [.ref a0, .int tc, .ref a1, .int (nI nc), .null, .int 40, .int 48, .int 0, .ref a2])), (a1, .inl (cC, 4, .inr (.inr (.inr (.inr ad))))), (h0, .inr (0, [.ref h1, .int (nI T), .ref h2])), (h1, .inl (cI, n, .inl f)), (h2, .inl (cI, 256, .inl g))] [(cI, .int), (cC, (.object RX0))] sz)) (va_Qi (fun (r : Int32) (_ : Unit) => r = nI (zchg f n t)) (fun _ _ => True) (zq sz)) 0 0 (zq sz) := by
  refine va_MetW (cc := cL_changes) (maxL := 4) (ret := (some .int)) (hh := [(0, 6, 7, 33), (0, 6, 11, 15)]) (by decide) rfl ?_
  intro p e s m args below meth c s₁ B hml hv
  obtain ⟨rfl, hsz, hP, hK, hE⟩ := hv
  have hx := B.exec
  have hb := B.bytes
  have hr := B.returns
  have hts := atoms_spec (ws := wsL_changes) B.pre
  have hown : s.vm.findClass RL = some m.cls := findClass_of_methodNamed B.named
  have hlocks := B.notSynchronized
  subst hsz
  have htab : c.exceptionTable.toList = tableOf [(0, 6, 7, 33), (0, 6, 11, 15)] := vx_table (x := yL_changes) B (hts _ (List.mem_of_getElem? (i := 0) rfl))
  have hA : ∀ q : Nat, s.heap.size ≤ q → zq s.heap.size q := fun q h => h
  have hS : va_S (zq s.heap.size) s.heap s.heap [] := va_S.rf
  have hl := lv_entry ([.ref o, .int (nI k), .int (nI t)]) (n := 4) (Nat.le_of_ble_eq_true rfl)
  rw [lg_entry_eq]
  generalize (lg_sl ([.ref o, .int (nI k), .int (nI t)]) ++ List.replicate (4 - (lg_sl ([.ref o, .int (nI k), .int (nI t)])).length) Slot.unset).toArray = ls at hl ⊢
  have hl : lv_has ls 4 [(0, .ref o), (1, .int (nI k)), (2, .int (nI t))] := hl
  refine lv_aload_n hx hb dL_changes_0 rfl (lv_at hl 0 rfl) ?_
  refine lv_iload_n hx hb dL_changes_1 rfl (lv_at hl 1 rfl) ?_
  refine lv_iload_n hx hb dL_changes_2 rfl (lv_at hl 2 rfl) ?_
  refine va_calli (va_runV (As := [.int (nI k), .int (nI t)]) (rest := []) ⟨hx, hb, hml, hown, hts⟩ (k_changes l dC dI s.heap.size cI cC o a0 a1 a2 tc nc ad h0 h1 h2 n T f g k t hk hc4 had htT hT hn) (cwV 2 hts gL_changes_X6_changes rfl rfl rfl (by decide +kernel) ⟨Nat.le_of_ble_eq_true rfl, Nat.le_of_ble_eq_true rfl⟩) ⟨zfbN, va_recv hK hP (ci := 6) (q0 := 0) rfl rfl, zpreN (hP.sub (ws' := [(o, .inr (6, [.ref a0, .int tc, .ref a1, .int (nI nc), .null, .int 40, .int 48, .int 0, .ref a2])), (a1, .inl (cC, 4, .inr (.inr (.inr (.inr ad))))), (h0, .inr (0, [.ref h1, .int (nI T), .ref h2])), (h1, .inl (cI, n, .inl f)), (h2, .inl (cI, 256, .inl g))]) [0, 1, 2, 3, 4] rfl) (hK.sub (tys' := [(cI, .int), (cC, (.object RX0))]) [0, 1] rfl) hE⟩ rfl rfl hl.1 rfl (lv_room (Nat.le_of_ble_eq_true rfl)) dL_changes_3 ⟨Nat.le_of_ble_eq_true rfl, Nat.le_of_ble_eq_true rfl⟩) hS (fun q h1 h2 => absurd h2 (Nat.not_le.mpr h1)) (fun q h => hA q (Nat.le_trans hS.1 h)) (fun r9 u9 t9 H1 locs ht hvm hw hB hz1 hk1 hS => ?_)
  have hw : r9 = nI (zchg f n t) := hw
  subst hw
  have hP := zr_keep hP hk1
  clear hk1 hz1 hB ht hvm hw
  exact W.iret (v := (nI (zchg f n t))) hx hb hr (fun t9 ht hW => ⟨⟨_, (), rfl, rfl, trivial⟩, hS.F ht⟩) hS.2.2 dL_changes_6

set_option maxHeartbeats 4000000 in
set_option maxRecDepth 100000 in
/-- isBalanced -/
theorem w_isBalanced (l : Launch) (dC : Nat → ClassId) (dI : Nat → Nat → Nat) (sz : Nat) (cI cC : ClassId) (o a0 a1 a2 : Nat) (tc : Int32) (nc : Nat) (ad : Nat → Option Nat) (h0 h1 h2 n T : Nat) (f g : Nat → Int32) (k : Nat) (hk : k < nc) (hc4 : nc ≤ 4) (had : ad k = some h0) (hn : n < 2 ^ 30) (hT2 : T < 2 ^ 30) : Met l yL_isBalanced wsL_isBalanced ({ frames := 6, cells := 0, slots := 0, locals := 134 }) (va_Pc [.ref o, .int (nI k)] (zPcN (dC, dI) [(o, .inr (6, [.ref a0, .int tc, .ref a1, .int (nI nc), .null, .int 40, .int 48, .int 0, .ref a2])), (a1, .inl (cC, 4, .inr (.inr (.inr (.inr ad))))), (h0, .inr (0, [.ref h1, .int (nI T), .ref h2])), (h1, .inl (cI, n, .inl f)), (h2, .inl (cI, 256, .inl g))] [(cI, .int), (cC, (.object RX0))] sz)) (va_Qi (fun (r : Int32) (_ : Unit) => r = zb (!decide ((2 : Int32) < nI (zhi f n T) - nI (zlo f n T)))) (fun _ _ => True) (zq sz)) 0 0 (zq sz) := by
  refine va_MetW (cc := cL_isBalanced) (maxL := 3) (ret := (some .int)) (hh := [(0, 13, 14, 33)]) (by decide) rfl ?_
  intro p e s m args below meth c s₁ B hml hv
  obtain ⟨rfl, hsz, hP, hK, hE⟩ := hv
  have hx := B.exec
  have hb := B.bytes
  have hr := B.returns
  have hts := atoms_spec (ws := wsL_isBalanced) B.pre
  have hown : s.vm.findClass RL = some m.cls := findClass_of_methodNamed B.named
  have hlocks := B.notSynchronized
  subst hsz
  have htab : c.exceptionTable.toList = tableOf [(0, 13, 14, 33)] := vx_table (x := yL_isBalanced) B (hts _ (List.mem_of_getElem? (i := 0) rfl))
  have hA : ∀ q : Nat, s.heap.size ≤ q → zq s.heap.size q := fun q h => h
  have hS : va_S (zq s.heap.size) s.heap s.heap [] := va_S.rf
  have hl := lv_entry ([.ref o, .int (nI k)]) (n := 3) (Nat.le_of_ble_eq_true rfl)
  rw [lg_entry_eq]
  generalize (lg_sl ([.ref o, .int (nI k)]) ++ List.replicate (3 - (lg_sl ([.ref o, .int (nI k)])).length) Slot.unset).toArray = ls at hl ⊢
  have hl : lv_has ls 3 [(0, .ref o), (1, .int (nI k))] := hl
  refine lv_aload_n hx hb dL_isBalanced_0 rfl (lv_at hl 0 rfl) ?_
  refine lv_iload_n hx hb dL_isBalanced_1 rfl (lv_at hl 1 rfl) ?_
  refine va_calli (va_runV (As := [.int (nI k)]) (rest := []) ⟨hx, hb, hml, hown, hts⟩ (k_isBalanced l dC dI s.heap.size cI cC o a0 a1 a2 tc nc ad h0 h1 h2 n T f g k hk hc4 had hn hT2) (cwV 1 hts gL_isBalanced_X6_isBalanced rfl rfl rfl (by decide +kernel) ⟨Nat.le_of_ble_eq_true rfl, Nat.le_of_ble_eq_true rfl⟩) ⟨zfbN, va_recv hK hP (ci := 6) (q0 := 0) rfl rfl, zpreN (hP.sub (ws' := [(o, .inr (6, [.ref a0, .int tc, .ref a1, .int (nI nc), .null, .int 40, .int 48, .int 0, .ref a2])), (a1, .inl (cC, 4, .inr (.inr (.inr (.inr ad))))), (h0, .inr (0, [.ref h1, .int (nI T), .ref h2])), (h1, .inl (cI, n, .inl f)), (h2, .inl (cI, 256, .inl g))]) [0, 1, 2, 3, 4] rfl) (hK.sub (tys' := [(cI, .int), (cC, (.object RX0))]) [0, 1] rfl) hE⟩ rfl rfl hl.1 rfl (lv_room (Nat.le_of_ble_eq_true rfl)) dL_isBalanced_2 ⟨Nat.le_of_ble_eq_true rfl, Nat.le_of_ble_eq_true rfl⟩) hS (fun q h1 h2 => absurd h2 (Nat.not_le.mpr h1)) (fun q h => hA q (Nat.le_trans hS.1 h)) (fun r9 u9 t9 H1 locs ht hvm hw hB hz1 hk1 hS => ?_)
  have hw : r9 = zb (!decide ((2 : Int32) < nI (zhi f n T) - nI (zlo f n T))) := hw
  subst hw
  have hP := zr_keep hP hk1
  clear hk1 hz1 hB ht hvm hw
  refine lv_if_eq (tgt := 12) hx hb dL_isBalanced_5 (by decide) (fun c5 => ?_) (fun c5 => ?_)
  · skip
    have e5 := zb_0.mp c5
    refine lv_iconst (v := 0) hx hb dL_isBalanced_12 (by decide) ?_
    exact W.iret (v := 0) hx hb hr (fun t9 ht hW => ⟨⟨_, (), rfl, by rw [e5]; rfl, trivial⟩, hS.F ht⟩) hS.2.2 dL_isBalanced_13
  · skip
    have e5 := zb_n0.mp c5
    refine lv_iconst (v := 1) hx hb dL_isBalanced_8 (by decide) ?_
    refine lv_goto (tgt := 13) hx hb dL_isBalanced_9 (by decide) ?_
    exact W.iret (v := 1) hx hb hr (fun t9 ht hW => ⟨⟨_, (), rfl, by rw [e5]; rfl, trivial⟩, hS.F ht⟩) hS.2.2 dL_isBalanced_13

set_option maxHeartbeats 4000000 in
set_option maxRecDepth 100000 in
/-- isOneTrack -/
theorem w_isOneTrack (l : Launch) (dC : Nat → ClassId) (dI : Nat → Nat → Nat) (sz : Nat) (cI cC : ClassId) (o a0 a1 a2 : Nat) (tc : Int32) (nc : Nat) (ad : Nat → Option Nat) (h0 h1 h2 n T : Nat) (f g : Nat → Int32) (k : Nat) (hk : k < nc) (hc4 : nc ≤ 4) (had : ad k = some h0) (hn : n < 2 ^ 30) (hT : 1 ≤ T) (hT2 : T < 2 ^ 30) : Met l yL_isOneTrack wsL_isOneTrack ({ frames := 7, cells := 0, slots := 0, locals := 152 }) (va_Pc [.ref o, .int (nI k)] (zPcN (dC, dI) [(o, .inr (6, [.ref a0, .int tc, .ref a1, .int (nI nc), .null, .int 40, .int 48, .int 0, .ref a2])), (a1, .inl (cC, 4, .inr (.inr (.inr (.inr ad))))), (h0, .inr (0, [.ref h1, .int (nI T), .ref h2])), (h1, .inl (cI, n, .inl f)), (h2, .inl (cI, 256, .inl g))] [(cI, .int), (cC, (.object RX0))] sz)) (va_Qi (fun (r : Int32) (_ : Unit) => r = zb (zon f n T)) (fun _ _ => True) (zq sz)) 0 0 (zq sz) := by
  refine va_MetW (cc := cL_isOneTrack) (maxL := 3) (ret := (some .int)) (hh := [(0, 13, 14, 33)]) (by decide) rfl ?_
  intro p e s m args below meth c s₁ B hml hv
  obtain ⟨rfl, hsz, hP, hK, hE⟩ := hv
  have hx := B.exec
  have hb := B.bytes
  have hr := B.returns
  have hts := atoms_spec (ws := wsL_isOneTrack) B.pre
  have hown : s.vm.findClass RL = some m.cls := findClass_of_methodNamed B.named
  have hlocks := B.notSynchronized
  subst hsz
  have htab : c.exceptionTable.toList = tableOf [(0, 13, 14, 33)] := vx_table (x := yL_isOneTrack) B (hts _ (List.mem_of_getElem? (i := 0) rfl))
  have hA : ∀ q : Nat, s.heap.size ≤ q → zq s.heap.size q := fun q h => h
  have hS : va_S (zq s.heap.size) s.heap s.heap [] := va_S.rf
  have hl := lv_entry ([.ref o, .int (nI k)]) (n := 3) (Nat.le_of_ble_eq_true rfl)
  rw [lg_entry_eq]
  generalize (lg_sl ([.ref o, .int (nI k)]) ++ List.replicate (3 - (lg_sl ([.ref o, .int (nI k)])).length) Slot.unset).toArray = ls at hl ⊢
  have hl : lv_has ls 3 [(0, .ref o), (1, .int (nI k))] := hl
  refine lv_aload_n hx hb dL_isOneTrack_0 rfl (lv_at hl 0 rfl) ?_
  refine lv_iload_n hx hb dL_isOneTrack_1 rfl (lv_at hl 1 rfl) ?_
  refine va_calli (va_runV (As := [.int (nI k)]) (rest := []) ⟨hx, hb, hml, hown, hts⟩ (k_isOneTrack l dC dI s.heap.size cI cC o a0 a1 a2 tc nc ad h0 h1 h2 n T f g k hk hc4 had hn hT hT2) (cwV 1 hts gL_isOneTrack_X6_isOneTrack rfl rfl rfl (by decide +kernel) ⟨Nat.le_of_ble_eq_true rfl, Nat.le_of_ble_eq_true rfl⟩) ⟨zfbN, va_recv hK hP (ci := 6) (q0 := 0) rfl rfl, zpreN (hP.sub (ws' := [(o, .inr (6, [.ref a0, .int tc, .ref a1, .int (nI nc), .null, .int 40, .int 48, .int 0, .ref a2])), (a1, .inl (cC, 4, .inr (.inr (.inr (.inr ad))))), (h0, .inr (0, [.ref h1, .int (nI T), .ref h2])), (h1, .inl (cI, n, .inl f)), (h2, .inl (cI, 256, .inl g))]) [0, 1, 2, 3, 4] rfl) (hK.sub (tys' := [(cI, .int), (cC, (.object RX0))]) [0, 1] rfl) hE⟩ rfl rfl hl.1 rfl (lv_room (Nat.le_of_ble_eq_true rfl)) dL_isOneTrack_2 ⟨Nat.le_of_ble_eq_true rfl, Nat.le_of_ble_eq_true rfl⟩) hS (fun q h1 h2 => absurd h2 (Nat.not_le.mpr h1)) (fun q h => hA q (Nat.le_trans hS.1 h)) (fun r9 u9 t9 H1 locs ht hvm hw hB hz1 hk1 hS => ?_)
  have hw : r9 = zb (zon f n T) := hw
  subst hw
  have hP := zr_keep hP hk1
  clear hk1 hz1 hB ht hvm hw
  refine lv_if_eq (tgt := 12) hx hb dL_isOneTrack_5 (by decide) (fun c5 => ?_) (fun c5 => ?_)
  · skip
    have e5 := zb_0.mp c5
    refine lv_iconst (v := 0) hx hb dL_isOneTrack_12 (by decide) ?_
    exact W.iret (v := 0) hx hb hr (fun t9 ht hW => ⟨⟨_, (), rfl, by rw [e5]; rfl, trivial⟩, hS.F ht⟩) hS.2.2 dL_isOneTrack_13
  · skip
    have e5 := zb_n0.mp c5
    refine lv_iconst (v := 1) hx hb dL_isOneTrack_8 (by decide) ?_
    refine lv_goto (tgt := 13) hx hb dL_isOneTrack_9 (by decide) ?_
    exact W.iret (v := 1) hx hb hr (fun t9 ht hW => ⟨⟨_, (), rfl, by rw [e5]; rfl, trivial⟩, hS.F ht⟩) hS.2.2 dL_isOneTrack_13

set_option maxHeartbeats 4000000 in
set_option maxRecDepth 100000 in
/-- type -/
theorem w_type (l : Launch) (dC : Nat → ClassId) (dI : Nat → Nat → Nat) (sz : Nat) (cI cC : ClassId) (o a0 a1 a2 : Nat) (w nc : Nat) (f : Nat → Int32) (v : Int32) (hwm : w < 64) (hv : (decide ((0 : Int32) ≤ v) && decide (v ≤ 255)) = true) : Met l yL_type wsL_type ({ frames := 2, cells := 0, slots := 0, locals := 44 }) (va_Pc [.ref o, .int v] (zPcD (dC, dI) [(o, .inr (6, [.ref a0, .int (nI w), .ref a1, .int (nI nc), .null, .int 40, .int 48, .int 0, .ref a2])), (a0, .inl (cI, 64, .inl f))] [(cI, .int), (cC, (.object RX0))] sz)) (va_Qi (fun (r : Int32) (_ : Unit) => r = nI (w + 1)) (fun u t => va_P (dC, dI) vwCl [(o, .inr (6, [.ref a0, .int (nI (w + 1)), .ref a1, .int (nI nc), .null, .int 40, .int 48, .int 0, .ref a2])), (a0, .inl (cI, 64, .inl (upd f w v)))] t.heap ∧ va_D (va_A [(o, .inr (6, [.ref a0, .int (nI w), .ref a1, .int (nI nc), .null, .int 40, .int 48, .int 0, .ref a2])), (a0, .inl (cI, 64, .inl f))] sz) [(o, .inr (6, [.ref a0, .int (nI (w + 1)), .ref a1, .int (nI nc), .null, .int 40, .int 48, .int 0, .ref a2])), (a0, .inl (cI, 64, .inl (upd f w v)))]) (va_A [(o, .inr (6, [.ref a0, .int (nI w), .ref a1, .int (nI nc), .null, .int 40, .int 48, .int 0, .ref a2])), (a0, .inl (cI, 64, .inl f))] sz)) 0 0 (va_A [(o, .inr (6, [.ref a0, .int (nI w), .ref a1, .int (nI nc), .null, .int 40, .int 48, .int 0, .ref a2])), (a0, .inl (cI, 64, .inl f))] sz) := by
  refine va_MetW (cc := cL_type) (maxL := 3) (ret := (some .int)) (hh := [(0, 5, 6, 15), (0, 5, 10, 18)]) (by decide) rfl ?_
  intro p e s m args below meth c s₁ B hml hv
  obtain ⟨rfl, hsz, hP, hK, hD0⟩ := hv
  have hx := B.exec
  have hb := B.bytes
  have hr := B.returns
  have hts := atoms_spec (ws := wsL_type) B.pre
  have hown : s.vm.findClass RL = some m.cls := findClass_of_methodNamed B.named
  have hlocks := B.notSynchronized
  subst hsz
  have htab : c.exceptionTable.toList = tableOf [(0, 5, 6, 15), (0, 5, 10, 18)] := vx_table (x := yL_type) B (hts _ (List.mem_of_getElem? (i := 0) rfl))
  have hD := hD0.self (sz := s.heap.size)
  generalize hAe : va_A [(o, .inr (6, [.ref a0, .int (nI w), .ref a1, .int (nI nc), .null, .int 40, .int 48, .int 0, .ref a2])), (a0, .inl (cI, 64, .inl f))] s.heap.size = A at hD ⊢
  have hA : ∀ q : Nat, s.heap.size ≤ q → A q := fun q h => by rw [← hAe]; exact Or.inr h
  have hS : va_S A s.heap s.heap [] := va_S.rf
  have hl := lv_entry ([.ref o, .int v]) (n := 3) (Nat.le_of_ble_eq_true rfl)
  rw [lg_entry_eq]
  generalize (lg_sl ([.ref o, .int v]) ++ List.replicate (3 - (lg_sl ([.ref o, .int v])).length) Slot.unset).toArray = ls at hl ⊢
  have hl : lv_has ls 3 [(0, .ref o), (1, .int v)] := hl
  refine lv_aload_n hx hb dL_type_0 rfl (lv_at hl 0 rfl) ?_
  refine lv_iload_n hx hb dL_type_1 rfl (lv_at hl 1 rfl) ?_
  have hPc := hP.sub (ws' := [(o, .inr (6, [.ref a0, .int (nI w), .ref a1, .int (nI nc), .null, .int 40, .int 48, .int 0, .ref a2])), (a0, .inl (cI, 64, .inl f))]) [0, 1] rfl
  have hDc := hD.sub (ws' := [(o, .inr (6, [.ref a0, .int (nI w), .ref a1, .int (nI nc), .null, .int 40, .int 48, .int 0, .ref a2])), (a0, .inl (cI, 64, .inl f))]) [0, 1] (by decide) rfl
  have hKc := hK.sub (tys' := [(cI, .int), (cC, (.object RX0))]) [0, 1] rfl
  have hFc := va_free (wc := [(o, .inr (6, [.ref a0, .int (nI w), .ref a1, .int (nI nc), .null, .int 40, .int 48, .int 0, .ref a2])), (a0, .inl (cI, 64, .inl f))]) hD hS hA [0, 1] rfl
  refine va_calli (va_runV (As := [.int v]) (rest := []) ⟨hx, hb, hml, hown, hts⟩ (k_type l dC dI s.heap.size cI cC o a0 a1 a2 w nc f v hwm hv) (cwV 1 hts gL_type_X6_type rfl rfl rfl (by decide +kernel) ⟨Nat.le_of_ble_eq_true rfl, Nat.le_of_ble_eq_true rfl⟩) ⟨zfbD, va_recv hK hP (ci := 6) (q0 := 0) rfl rfl, zpreD hPc hKc hDc⟩ rfl rfl hl.1 rfl (lv_room (Nat.le_of_ble_eq_true rfl)) dL_type_2 ⟨Nat.le_of_ble_eq_true rfl, Nat.le_of_ble_eq_true rfl⟩) hS (fun q _ h => hFc q h) hFc (fun r9 u9 t9 H1 locs ht hvm hw hB hz1 hk1 hS => ?_)
  try dsimp only at hw
  have hw : r9 = nI (w + 1) := hw
  subst hw
  obtain ⟨hP1, hD1⟩ := hB
  rw [ht] at hP1
  obtain ⟨hP, hD⟩ := va_join (wr := []) (w1 := [(o, .inr (6, [.ref a0, .int (nI (w + 1)), .ref a1, .int (nI nc), .null, .int 40, .int 48, .int 0, .ref a2])), (a0, .inl (cI, 64, .inl (upd f w v)))]) hP hD [0, 1] [] rfl rfl (by decide) (by decide) hk1 hFc hP1 hD1
  clear hPc hDc hFc hP1 hD1 hk1 hz1 ht hvm
  have hP : va_P (dC, dI) vwCl [(o, .inr (6, [.ref a0, .int (nI (w + 1)), .ref a1, .int (nI nc), .null, .int 40, .int 48, .int 0, .ref a2])), (a0, .inl (cI, 64, .inl (upd f w v)))] H1 := hP
  have hD : va_D A [(o, .inr (6, [.ref a0, .int (nI (w + 1)), .ref a1, .int (nI nc), .null, .int 40, .int 48, .int 0, .ref a2])), (a0, .inl (cI, 64, .inl (upd f w v)))] := hD
  exact W.iret (v := (nI (w + 1))) hx hb hr (fun t9 ht hW => ⟨⟨_, (), rfl, rfl, by rw [ht]; exact hP.sub [0, 1] rfl, hD.sub [0, 1] (by decide) rfl⟩, hS.F ht⟩) hS.2.2 dL_type_5

set_option maxHeartbeats 4000000 in
set_option maxRecDepth 100000 in
/-- ring -/
theorem w_ring (l : Launch) (dC : Nat → ClassId) (dI : Nat → Nat → Nat) (sz : Nat) (cI cC : ClassId) (o a0 a1 a2 : Nat) (w nc : Nat) (ad : Nat → Option Nat) (f : Nat → Int32) (hwm : w < 64) (hrg : ztg f w = true) (hnc : nc < 4) : Met l yL_ring wsL_ring ({ frames := 4, cells := 3, slots := 323, locals := 104 }) (va_Pc [.ref o] (zPcD (dC, dI) [(o, .inr (6, [.ref a0, .int (nI w), .ref a1, .int (nI nc), .null, .int 40, .int 48, .int 0, .ref a2])), (a0, .inl (cI, 64, .inl f)), (a1, .inl (cC, 4, .inr (.inr (.inr (.inr ad)))))] [(cI, .int), (cC, (.object RX0))] sz)) (va_Qi (fun (r : Int32) (_ : Nat × Nat × Nat) => r = nI nc) (fun u t => va_P (dC, dI) vwCl [(o, .inr (6, [.ref a0, .int (nI 0), .ref a1, .int (nI (nc + 1)), .null, .int 40, .int 48, .int 0, .ref a2])), (a0, .inl (cI, 64, .inl f)), (a1, .inl (cC, 4, .inr (.inr (.inr (.inr (va_up ad nc (some u.2.1))))))), (u.1, .inl (cI, w, .inl f)), (u.2.1, .inr (0, [.ref u.1, .int (nI (ztr f w)), .ref u.2.2])), (u.2.2, .inl (cI, 256, .inl (zpl f w)))] t.heap ∧ va_D (va_A [(o, .inr (6, [.ref a0, .int (nI w), .ref a1, .int (nI nc), .null, .int 40, .int 48, .int 0, .ref a2])), (a0, .inl (cI, 64, .inl f)), (a1, .inl (cC, 4, .inr (.inr (.inr (.inr ad)))))] sz) [(o, .inr (6, [.ref a0, .int (nI 0), .ref a1, .int (nI (nc + 1)), .null, .int 40, .int 48, .int 0, .ref a2])), (a0, .inl (cI, 64, .inl f)), (a1, .inl (cC, 4, .inr (.inr (.inr (.inr (va_up ad nc (some u.2.1))))))), (u.1, .inl (cI, w, .inl f)), (u.2.1, .inr (0, [.ref u.1, .int (nI (ztr f w)), .ref u.2.2])), (u.2.2, .inl (cI, 256, .inl (zpl f w)))]) (va_A [(o, .inr (6, [.ref a0, .int (nI w), .ref a1, .int (nI nc), .null, .int 40, .int 48, .int 0, .ref a2])), (a0, .inl (cI, 64, .inl f)), (a1, .inl (cC, 4, .inr (.inr (.inr (.inr ad)))))] sz)) 3 323 (va_A [(o, .inr (6, [.ref a0, .int (nI w), .ref a1, .int (nI nc), .null, .int 40, .int 48, .int 0, .ref a2])), (a0, .inl (cI, 64, .inl f)), (a1, .inl (cC, 4, .inr (.inr (.inr (.inr ad)))))] sz) := by
  refine va_MetW (cc := cL_ring) (maxL := 2) (ret := (some .int)) (hh := [(0, 4, 5, 25), (0, 4, 9, 18)]) (by decide) rfl ?_
  intro p e s m args below meth c s₁ B hml hv
  obtain ⟨rfl, hsz, hP, hK, hD0⟩ := hv
  have hx := B.exec
  have hb := B.bytes
  have hr := B.returns
  have hts := atoms_spec (ws := wsL_ring) B.pre
  have hown : s.vm.findClass RL = some m.cls := findClass_of_methodNamed B.named
  have hlocks := B.notSynchronized
  subst hsz
  have htab : c.exceptionTable.toList = tableOf [(0, 4, 5, 25), (0, 4, 9, 18)] := vx_table (x := yL_ring) B (hts _ (List.mem_of_getElem? (i := 0) rfl))
  have hD := hD0.self (sz := s.heap.size)
  generalize hAe : va_A [(o, .inr (6, [.ref a0, .int (nI w), .ref a1, .int (nI nc), .null, .int 40, .int 48, .int 0, .ref a2])), (a0, .inl (cI, 64, .inl f)), (a1, .inl (cC, 4, .inr (.inr (.inr (.inr ad)))))] s.heap.size = A at hD ⊢
  have hA : ∀ q : Nat, s.heap.size ≤ q → A q := fun q h => by rw [← hAe]; exact Or.inr h
  have hS : va_S A s.heap s.heap [] := va_S.rf
  have hl := lv_entry ([.ref o]) (n := 2) (Nat.le_of_ble_eq_true rfl)
  rw [lg_entry_eq]
  generalize (lg_sl ([.ref o]) ++ List.replicate (2 - (lg_sl ([.ref o])).length) Slot.unset).toArray = ls at hl ⊢
  have hl : lv_has ls 2 [(0, .ref o)] := hl
  refine lv_aload_n hx hb dL_ring_0 rfl (lv_at hl 0 rfl) ?_
  have hPc := hP.sub (ws' := [(o, .inr (6, [.ref a0, .int (nI w), .ref a1, .int (nI nc), .null, .int 40, .int 48, .int 0, .ref a2])), (a0, .inl (cI, 64, .inl f)), (a1, .inl (cC, 4, .inr (.inr (.inr (.inr ad)))))]) [0, 1, 2] rfl
  have hDc := hD.sub (ws' := [(o, .inr (6, [.ref a0, .int (nI w), .ref a1, .int (nI nc), .null, .int 40, .int 48, .int 0, .ref a2])), (a0, .inl (cI, 64, .inl f)), (a1, .inl (cC, 4, .inr (.inr (.inr (.inr ad)))))]) [0, 1, 2] (by decide) rfl
  have hKc := hK.sub (tys' := [(cI, .int), (cC, (.object RX0))]) [0, 1] rfl
  have hFc := va_free (wc := [(o, .inr (6, [.ref a0, .int (nI w), .ref a1, .int (nI nc), .null, .int 40, .int 48, .int 0, .ref a2])), (a0, .inl (cI, 64, .inl f)), (a1, .inl (cC, 4, .inr (.inr (.inr (.inr ad)))))]) hD hS hA [0, 1, 2] rfl
  refine va_calli (va_runV (As := []) (rest := []) ⟨hx, hb, hml, hown, hts⟩ (k_ring l dC dI s.heap.size cI cC o a0 a1 a2 w nc ad f hwm hrg hnc) (cwV 0 hts gL_ring_X6_ring rfl rfl rfl (by decide +kernel) ⟨Nat.le_of_ble_eq_true rfl, Nat.le_of_ble_eq_true rfl⟩) ⟨zfbD, va_recv hK hP (ci := 6) (q0 := 0) rfl rfl, zpreD hPc hKc hDc⟩ rfl rfl hl.1 rfl (lv_room (Nat.le_of_ble_eq_true rfl)) dL_ring_1 ⟨Nat.le_of_ble_eq_true rfl, Nat.le_of_ble_eq_true rfl⟩) hS (fun q _ h => hFc q h) hFc (fun r9 u9 t9 H1 locs ht hvm hw hB hz1 hk1 hS => ?_)
  try dsimp only at hw
  obtain ⟨h1, h0, h2⟩ := u9
  have hw : r9 = nI nc := hw
  subst hw
  obtain ⟨hP1, hD1⟩ := hB
  rw [ht] at hP1
  obtain ⟨hP, hD⟩ := va_join (wr := []) (w1 := [(o, .inr (6, [.ref a0, .int (nI 0), .ref a1, .int (nI (nc + 1)), .null, .int 40, .int 48, .int 0, .ref a2])), (a0, .inl (cI, 64, .inl f)), (a1, .inl (cC, 4, .inr (.inr (.inr (.inr (va_up ad nc (some h0))))))), (h1, .inl (cI, w, .inl f)), (h0, .inr (0, [.ref h1, .int (nI (ztr f w)), .ref h2])), (h2, .inl (cI, 256, .inl (zpl f w)))]) hP hD [0, 1, 2] [] rfl rfl (by decide) (by decide) hk1 hFc hP1 hD1
  clear hPc hDc hFc hP1 hD1 hk1 hz1 ht hvm
  have hP : va_P (dC, dI) vwCl [(o, .inr (6, [.ref a0, .int (nI 0), .ref a1, .int (nI (nc + 1)), .null, .int 40, .int 48, .int 0, .ref a2])), (a0, .inl (cI, 64, .inl f)), (a1, .inl (cC, 4, .inr (.inr (.inr (.inr (va_up ad nc (some h0))))))), (h1, .inl (cI, w, .inl f)), (h0, .inr (0, [.ref h1, .int (nI (ztr f w)), .ref h2])), (h2, .inl (cI, 256, .inl (zpl f w)))] H1 := hP
  have hD : va_D A [(o, .inr (6, [.ref a0, .int (nI 0), .ref a1, .int (nI (nc + 1)), .null, .int 40, .int 48, .int 0, .ref a2])), (a0, .inl (cI, 64, .inl f)), (a1, .inl (cC, 4, .inr (.inr (.inr (.inr (va_up ad nc (some h0))))))), (h1, .inl (cI, w, .inl f)), (h0, .inr (0, [.ref h1, .int (nI (ztr f w)), .ref h2])), (h2, .inl (cI, 256, .inl (zpl f w)))] := hD
  exact W.iret (v := (nI nc)) hx hb hr (fun t9 ht hW => ⟨⟨_, (h1, h0, h2), rfl, rfl, by rw [ht]; exact hP.sub [0, 1, 2, 3, 4, 5] rfl, hD.sub [0, 1, 2, 3, 4, 5] (by decide) rfl⟩, hS.F ht⟩) hS.2.2 dL_ring_4

set_option maxHeartbeats 4000000 in
set_option maxRecDepth 100000 in
/-- reflected -/
theorem w_reflected (l : Launch) (dC : Nat → ClassId) (dI : Nat → Nat → Nat) (sz : Nat) (cI cC : ClassId) (o a0 a1 a2 : Nat) (tc : Int32) (nc : Nat) (ad : Nat → Option Nat) (b n : Nat) (hb2 : 2 ≤ b) (hb5 : b ≤ 5) (hnb : n = 2 ^ b) (hnc : nc < 4) : Met l yL_reflected wsL_reflected ({ frames := 4, cells := 3, slots := 291, locals := 104 }) (va_Pc [.ref o, .int (nI b)] (zPcD (dC, dI) [(o, .inr (6, [.ref a0, .int tc, .ref a1, .int (nI nc), .null, .int 40, .int 48, .int 0, .ref a2])), (a1, .inl (cC, 4, .inr (.inr (.inr (.inr ad)))))] [(cI, .int), (cC, (.object RX0))] sz)) (va_Qi (fun (r : Int32) (_ : Nat × Nat × Nat) => r = nI nc) (fun u t => va_P (dC, dI) vwCl [(o, .inr (6, [.ref a0, .int tc, .ref a1, .int (nI (nc + 1)), .null, .int 40, .int 48, .int 0, .ref a2])), (a1, .inl (cC, 4, .inr (.inr (.inr (.inr (va_up ad nc (some u.2.1))))))), (u.1, .inl (cI, n, .inl zrf)), (u.2.1, .inr (0, [.ref u.1, .int (nI (ztr zrf n)), .ref u.2.2])), (u.2.2, .inl (cI, 256, .inl (zpl zrf n)))] t.heap ∧ va_D (va_A [(o, .inr (6, [.ref a0, .int tc, .ref a1, .int (nI nc), .null, .int 40, .int 48, .int 0, .ref a2])), (a1, .inl (cC, 4, .inr (.inr (.inr (.inr ad)))))] sz) [(o, .inr (6, [.ref a0, .int tc, .ref a1, .int (nI (nc + 1)), .null, .int 40, .int 48, .int 0, .ref a2])), (a1, .inl (cC, 4, .inr (.inr (.inr (.inr (va_up ad nc (some u.2.1))))))), (u.1, .inl (cI, n, .inl zrf)), (u.2.1, .inr (0, [.ref u.1, .int (nI (ztr zrf n)), .ref u.2.2])), (u.2.2, .inl (cI, 256, .inl (zpl zrf n)))]) (va_A [(o, .inr (6, [.ref a0, .int tc, .ref a1, .int (nI nc), .null, .int 40, .int 48, .int 0, .ref a2])), (a1, .inl (cC, 4, .inr (.inr (.inr (.inr ad)))))] sz)) 3 291 (va_A [(o, .inr (6, [.ref a0, .int tc, .ref a1, .int (nI nc), .null, .int 40, .int 48, .int 0, .ref a2])), (a1, .inl (cC, 4, .inr (.inr (.inr (.inr ad)))))] sz) := by
  refine va_MetW (cc := cL_reflected) (maxL := 3) (ret := (some .int)) (hh := [(0, 5, 6, 15), (0, 5, 10, 18)]) (by decide) rfl ?_
  intro p e s m args below meth c s₁ B hml hv
  obtain ⟨rfl, hsz, hP, hK, hD0⟩ := hv
  have hx := B.exec
  have hb := B.bytes
  have hr := B.returns
  have hts := atoms_spec (ws := wsL_reflected) B.pre
  have hown : s.vm.findClass RL = some m.cls := findClass_of_methodNamed B.named
  have hlocks := B.notSynchronized
  subst hsz
  have htab : c.exceptionTable.toList = tableOf [(0, 5, 6, 15), (0, 5, 10, 18)] := vx_table (x := yL_reflected) B (hts _ (List.mem_of_getElem? (i := 0) rfl))
  have hD := hD0.self (sz := s.heap.size)
  generalize hAe : va_A [(o, .inr (6, [.ref a0, .int tc, .ref a1, .int (nI nc), .null, .int 40, .int 48, .int 0, .ref a2])), (a1, .inl (cC, 4, .inr (.inr (.inr (.inr ad)))))] s.heap.size = A at hD ⊢
  have hA : ∀ q : Nat, s.heap.size ≤ q → A q := fun q h => by rw [← hAe]; exact Or.inr h
  have hS : va_S A s.heap s.heap [] := va_S.rf
  have hl := lv_entry ([.ref o, .int (nI b)]) (n := 3) (Nat.le_of_ble_eq_true rfl)
  rw [lg_entry_eq]
  generalize (lg_sl ([.ref o, .int (nI b)]) ++ List.replicate (3 - (lg_sl ([.ref o, .int (nI b)])).length) Slot.unset).toArray = ls at hl ⊢
  have hl : lv_has ls 3 [(0, .ref o), (1, .int (nI b))] := hl
  refine lv_aload_n hx hb dL_reflected_0 rfl (lv_at hl 0 rfl) ?_
  refine lv_iload_n hx hb dL_reflected_1 rfl (lv_at hl 1 rfl) ?_
  have hPc := hP.sub (ws' := [(o, .inr (6, [.ref a0, .int tc, .ref a1, .int (nI nc), .null, .int 40, .int 48, .int 0, .ref a2])), (a1, .inl (cC, 4, .inr (.inr (.inr (.inr ad)))))]) [0, 1] rfl
  have hDc := hD.sub (ws' := [(o, .inr (6, [.ref a0, .int tc, .ref a1, .int (nI nc), .null, .int 40, .int 48, .int 0, .ref a2])), (a1, .inl (cC, 4, .inr (.inr (.inr (.inr ad)))))]) [0, 1] (by decide) rfl
  have hKc := hK.sub (tys' := [(cI, .int), (cC, (.object RX0))]) [0, 1] rfl
  have hFc := va_free (wc := [(o, .inr (6, [.ref a0, .int tc, .ref a1, .int (nI nc), .null, .int 40, .int 48, .int 0, .ref a2])), (a1, .inl (cC, 4, .inr (.inr (.inr (.inr ad)))))]) hD hS hA [0, 1] rfl
  refine va_calli (va_runV (As := [.int (nI b)]) (rest := []) ⟨hx, hb, hml, hown, hts⟩ (k_reflected l dC dI s.heap.size cI cC o a0 a1 a2 tc nc ad b n hb2 hb5 hnb hnc) (cwV 1 hts gL_reflected_X6_reflected rfl rfl rfl (by decide +kernel) ⟨Nat.le_of_ble_eq_true rfl, Nat.le_of_ble_eq_true rfl⟩) ⟨zfbD, va_recv hK hP (ci := 6) (q0 := 0) rfl rfl, zpreD hPc hKc hDc⟩ rfl rfl hl.1 rfl (lv_room (Nat.le_of_ble_eq_true rfl)) dL_reflected_2 ⟨Nat.le_of_ble_eq_true rfl, Nat.le_of_ble_eq_true rfl⟩) hS (fun q _ h => hFc q h) hFc (fun r9 u9 t9 H1 locs ht hvm hw hB hz1 hk1 hS => ?_)
  try dsimp only at hw
  obtain ⟨h1, h0, h2⟩ := u9
  have hw : r9 = nI nc := hw
  subst hw
  obtain ⟨hP1, hD1⟩ := hB
  rw [ht] at hP1
  obtain ⟨hP, hD⟩ := va_join (wr := []) (w1 := [(o, .inr (6, [.ref a0, .int tc, .ref a1, .int (nI (nc + 1)), .null, .int 40, .int 48, .int 0, .ref a2])), (a1, .inl (cC, 4, .inr (.inr (.inr (.inr (va_up ad nc (some h0))))))), (h1, .inl (cI, n, .inl zrf)), (h0, .inr (0, [.ref h1, .int (nI (ztr zrf n)), .ref h2])), (h2, .inl (cI, 256, .inl (zpl zrf n)))]) hP hD [0, 1] [] rfl rfl (by decide) (by decide) hk1 hFc hP1 hD1
  clear hPc hDc hFc hP1 hD1 hk1 hz1 ht hvm
  have hP : va_P (dC, dI) vwCl [(o, .inr (6, [.ref a0, .int tc, .ref a1, .int (nI (nc + 1)), .null, .int 40, .int 48, .int 0, .ref a2])), (a1, .inl (cC, 4, .inr (.inr (.inr (.inr (va_up ad nc (some h0))))))), (h1, .inl (cI, n, .inl zrf)), (h0, .inr (0, [.ref h1, .int (nI (ztr zrf n)), .ref h2])), (h2, .inl (cI, 256, .inl (zpl zrf n)))] H1 := hP
  have hD : va_D A [(o, .inr (6, [.ref a0, .int tc, .ref a1, .int (nI (nc + 1)), .null, .int 40, .int 48, .int 0, .ref a2])), (a1, .inl (cC, 4, .inr (.inr (.inr (.inr (va_up ad nc (some h0))))))), (h1, .inl (cI, n, .inl zrf)), (h0, .inr (0, [.ref h1, .int (nI (ztr zrf n)), .ref h2])), (h2, .inl (cI, 256, .inl (zpl zrf n)))] := hD
  exact W.iret (v := (nI nc)) hx hb hr (fun t9 ht hW => ⟨⟨_, (h1, h0, h2), rfl, rfl, by rw [ht]; exact hP.sub [0, 1, 2, 3, 4] rfl, hD.sub [0, 1, 2, 3, 4] (by decide) rfl⟩, hS.F ht⟩) hS.2.2 dL_reflected_5
end
section
/-! the law's own small methods, and its surroundings -/
abbrev zPcS (b L : Nat) (xs : Nat → Int32) (sz : Nat) : State → Prop := fun U => U.heap.size = sz ∧ va_X b L xs U U.heap
theorem zfbS {b L : Nat} {xs : Nat → Int32} {av : List Value} {sz : Nat} : FrameBlind (va_Pc av (zPcS b L xs sz)) := fun a U g mk q => ⟨q.1, q.2.1, va_X.moved (u := U) (U := U.calling g mk a) (Vm.Alike.refl U.vm) q.2.2⟩
theorem zpreS {b L : Nat} {xs : Nat → Int32} {av : List Value} {s : State} {H : Heap} {locs : List Loc} (hX : va_X b L xs s s.heap) (hbl : b < s.heap.size) (hS : va_S (zq s.heap.size) s.heap H locs) : ∀ U : State, U.heap = H → s.WarmedH U.vm → va_Pc av (zPcS b L xs H.size) av.toArray U := fun U hU hW => ⟨rfl, by rw [hU], by rw [hU]; exact (hX.kept (hS.2.1 b hbl (Nat.not_le.mpr hbl))).moved hW.alike⟩
theorem zX_lt {b L : Nat} {xs : Nat → Int32} {U : State} {H : Heap} (h : va_X b L xs U H) : b < H.size := by
  obtain ⟨scr, h1, -⟩ := h
  exact (Array.getElem?_eq_some_iff.mp h1).1
/-- what holds all along the law's body -/
def zL (p : Program) (l : Launch) (s : State) (m : MethodId) (c : Code) (b L : Nat) (xs : Nat → Int32) : Prop :=
  p.tables.exec = Jvm.exec ∧ c.code = cL_law ∧ c.maxLocals = 19 ∧ s.vm.findClass RL = some m.cls ∧ (∀ w ∈ wsL_law, w.before #[Value.ref b] s = true) ∧ va_X b L xs s s.heap ∧ b < s.heap.size ∧ l.stackTraces = false ∧ zX (zq s.heap.size) s s.heap ∧ L ≤ 260

set_option maxHeartbeats 4000000 in
set_option maxRecDepth 100000 in
theorem k_cell (l : Launch) (sz : Nat) (b L : Nat) (xs : Nat → Int32) (i : Nat) (hL : L ≤ 260) (hi : i < 2 ^ 30) : Met l yL_cell wsL_cell ({ frames := 0, cells := 0, slots := 0, locals := 0 }) (va_Pc [.ref b, .int (nI i)] (zPcS b L xs sz)) (va_Qi (fun (r : Int32) (u : Unit) => True) (fun _ _ => True) (zq sz)) 0 0 (zq sz) := by
  refine Met.ofW (cc := cL_cell) (maxL := 3) (ret := (some .int)) (by decide) rfl ?_
  intro p e s m args below meth c s₁ B hml hv
  obtain ⟨rfl, hsz, hX⟩ := hv
  have hx := B.exec
  have hb := B.bytes
  have hr := B.returns
  have hts := atoms_spec (ws := wsL_cell) B.pre
  have hown : s.vm.findClass RL = some m.cls := findClass_of_methodNamed B.named
  have hlocks := B.notSynchronized
  subst hsz
  have hA : ∀ q : Nat, s.heap.size ≤ q → zq s.heap.size q := fun q h => h
  have hS : va_S (zq s.heap.size) s.heap s.heap [] := va_S.rf
  have hbl := zX_lt hX
  have hbA : ¬ zq s.heap.size b := Nat.not_le.mpr hbl
  have hl := lv_entry ([.ref b, .int (nI i)]) (n := 3) (Nat.le_of_ble_eq_true rfl)
  rw [lg_entry_eq]
  generalize (lg_sl ([.ref b, .int (nI i)]) ++ List.replicate (3 - (lg_sl ([.ref b, .int (nI i)])).length) Slot.unset).toArray = ls at hl ⊢
  have hl : lv_has ls 3 [(0, .ref b), (1, .int (nI i))] := hl
  refine lv_ldc hx hb hown (hts (.constant RL 7 (69069)) (List.mem_of_getElem? (i := 1) rfl)) dL_cell_0 ?_
  refine lv_iload_n hx hb dL_cell_2 rfl (lv_at hl 1 rfl) ?_
  refine lv_aload_n hx hb dL_cell_3 rfl (lv_at hl 0 rfl) ?_
  refine va_slen hx hb hX hbl hbA hS dL_cell_4 ?_
  refine lv_icmp_ge (tgt := 14) hx hb dL_cell_5 (by decide) (fun c5 => ?_) (fun c5 => ?_)
  · skip
    skip
    refine lv_iconst (v := 0) hx hb dL_cell_14 (by decide) ?_
    refine lv_sipush (v := 1009) hx hb dL_cell_15 (by decide) ?_
    refine lv_iload_n hx hb dL_cell_18 rfl (lv_at hl 1 rfl) ?_
    refine lv_imul hx hb dL_cell_19 ?_
    refine lv_iadd hx hb dL_cell_20 ?_
    refine lv_imul hx hb dL_cell_21 ?_
    refine lv_sipush (v := 12345) hx hb dL_cell_22 (by decide) ?_
    refine lv_iadd hx hb dL_cell_25 ?_
    refine lv_topi (fun x1 ex1 => ?_)
    refine lv_istore_n (lv' := [(2, .int x1), (0, .ref b), (1, .int (nI i))]) hx hb dL_cell_26 rfl hl (by decide) rfl (fun ls hl => ?_)
    refine lv_iload_n hx hb dL_cell_27 rfl (lv_at hl 0 rfl) ?_
    refine lv_iload_n hx hb dL_cell_28 rfl (lv_at hl 0 rfl) ?_
    refine lv_bipush (v := 13) hx hb dL_cell_29 (by decide) ?_
    refine lv_iushr (v := (x1.toUInt32 >>> ((13 : Int32).toUInt32 &&& Int32.toUInt32 31)).toInt32) hx hb dL_cell_31 rfl ?_
    refine lv_ixor hx hb dL_cell_32 ?_
    refine lv_ldc hx hb hown (hts (.constant RL 8 (1103515245)) (List.mem_of_getElem? (i := 2) rfl)) dL_cell_33 ?_
    refine lv_imul hx hb dL_cell_35 ?_
    refine lv_topi (fun x2 ex2 => ?_)
    refine lv_istore_n (lv' := [(2, .int x2), (0, .ref b), (1, .int (nI i))]) hx hb dL_cell_36 rfl hl (by decide) rfl (fun ls hl => ?_)
    refine lv_iload_n hx hb dL_cell_37 rfl (lv_at hl 0 rfl) ?_
    refine lv_iload_n hx hb dL_cell_38 rfl (lv_at hl 0 rfl) ?_
    refine lv_bipush (v := 16) hx hb dL_cell_39 (by decide) ?_
    refine lv_iushr (v := (x2.toUInt32 >>> ((16 : Int32).toUInt32 &&& Int32.toUInt32 31)).toInt32) hx hb dL_cell_41 rfl ?_
    refine lv_ixor hx hb dL_cell_42 ?_
    exact W.iret (v := (x2 ^^^ ((x2.toUInt32 >>> ((16 : Int32).toUInt32 &&& Int32.toUInt32 31)).toInt32))) hx hb hr (fun t9 ht hW => ⟨⟨_, (), rfl, trivial, trivial⟩, hS.F ht⟩) hS.2.2 dL_cell_43
  · skip
    have hiL : i < L := Nat.lt_of_not_le (fun q => c5 ((nI_leI (by omega) (by omega)).mpr q))
    refine lv_aload_n hx hb dL_cell_8 rfl (lv_at hl 0 rfl) ?_
    refine lv_iload_n hx hb dL_cell_9 rfl (lv_at hl 1 rfl) ?_
    refine va_sld hx hb hX hbl hbA hS (vp_in_nI hiL (by omega)) dL_cell_10 ?_
    refine lv_goto (tgt := 15) hx hb dL_cell_11 (by decide) ?_
    refine lv_sipush (v := 1009) hx hb dL_cell_15 (by decide) ?_
    refine lv_iload_n hx hb dL_cell_18 rfl (lv_at hl 1 rfl) ?_
    refine lv_imul hx hb dL_cell_19 ?_
    refine lv_iadd hx hb dL_cell_20 ?_
    refine lv_imul hx hb dL_cell_21 ?_
    refine lv_sipush (v := 12345) hx hb dL_cell_22 (by decide) ?_
    refine lv_iadd hx hb dL_cell_25 ?_
    refine lv_topi (fun x1 ex1 => ?_)
    refine lv_istore_n (lv' := [(2, .int x1), (0, .ref b), (1, .int (nI i))]) hx hb dL_cell_26 rfl hl (by decide) rfl (fun ls hl => ?_)
    refine lv_iload_n hx hb dL_cell_27 rfl (lv_at hl 0 rfl) ?_
    refine lv_iload_n hx hb dL_cell_28 rfl (lv_at hl 0 rfl) ?_
    refine lv_bipush (v := 13) hx hb dL_cell_29 (by decide) ?_
    refine lv_iushr (v := (x1.toUInt32 >>> ((13 : Int32).toUInt32 &&& Int32.toUInt32 31)).toInt32) hx hb dL_cell_31 rfl ?_
    refine lv_ixor hx hb dL_cell_32 ?_
    refine lv_ldc hx hb hown (hts (.constant RL 8 (1103515245)) (List.mem_of_getElem? (i := 2) rfl)) dL_cell_33 ?_
    refine lv_imul hx hb dL_cell_35 ?_
    refine lv_topi (fun x2 ex2 => ?_)
    refine lv_istore_n (lv' := [(2, .int x2), (0, .ref b), (1, .int (nI i))]) hx hb dL_cell_36 rfl hl (by decide) rfl (fun ls hl => ?_)
    refine lv_iload_n hx hb dL_cell_37 rfl (lv_at hl 0 rfl) ?_
    refine lv_iload_n hx hb dL_cell_38 rfl (lv_at hl 0 rfl) ?_
    refine lv_bipush (v := 16) hx hb dL_cell_39 (by decide) ?_
    refine lv_iushr (v := (x2.toUInt32 >>> ((16 : Int32).toUInt32 &&& Int32.toUInt32 31)).toInt32) hx hb dL_cell_41 rfl ?_
    refine lv_ixor hx hb dL_cell_42 ?_
    exact W.iret (v := (x2 ^^^ ((x2.toUInt32 >>> ((16 : Int32).toUInt32 &&& Int32.toUInt32 31)).toInt32))) hx hb hr (fun t9 ht hW => ⟨⟨_, (), rfl, trivial, trivial⟩, hS.F ht⟩) hS.2.2 dL_cell_43

set_option maxHeartbeats 4000000 in
set_option maxRecDepth 100000 in
theorem k_in (l : Launch) (sz : Nat) (b L : Nat) (xs : Nat → Int32) (i n : Nat) (hL : L ≤ 260) (hi : i < 2 ^ 30) (hn0 : 0 < n) (hn : n < 2 ^ 31) : Met l yL_in wsL_in ({ frames := 1, cells := 0, slots := 0, locals := 22 }) (va_Pc [.ref b, .int (nI i), .int (nI n)] (zPcS b L xs sz)) (va_Qi (fun (r : Int32) (u : Nat) => u < n ∧ r = nI u) (fun _ _ => True) (zq sz)) 0 0 (zq sz) := by
  refine Met.ofW (cc := cL_in) (maxL := 3) (ret := (some .int)) (by decide) rfl ?_
  intro p e s m args below meth c s₁ B hml hv
  obtain ⟨rfl, hsz, hX⟩ := hv
  have hx := B.exec
  have hb := B.bytes
  have hr := B.returns
  have hts := atoms_spec (ws := wsL_in) B.pre
  have hown : s.vm.findClass RL = some m.cls := findClass_of_methodNamed B.named
  have hlocks := B.notSynchronized
  subst hsz
  have hA : ∀ q : Nat, s.heap.size ≤ q → zq s.heap.size q := fun q h => h
  have hS : va_S (zq s.heap.size) s.heap s.heap [] := va_S.rf
  have hbl := zX_lt hX
  have hbA : ¬ zq s.heap.size b := Nat.not_le.mpr hbl
  have hl := lv_entry ([.ref b, .int (nI i), .int (nI n)]) (n := 3) (Nat.le_of_ble_eq_true rfl)
  rw [lg_entry_eq]
  generalize (lg_sl ([.ref b, .int (nI i), .int (nI n)]) ++ List.replicate (3 - (lg_sl ([.ref b, .int (nI i), .int (nI n)])).length) Slot.unset).toArray = ls at hl ⊢
  have hl : lv_has ls 3 [(0, .ref b), (1, .int (nI i)), (2, .int (nI n))] := hl
  refine lv_aload_n hx hb dL_in_0 rfl (lv_at hl 0 rfl) ?_
  refine lv_iload_n hx hb dL_in_1 rfl (lv_at hl 1 rfl) ?_
  refine va_calli (va_runS (As := [.ref b, .int (nI i)]) (rest := []) ⟨hx, hb, hml, hown, hts⟩ (k_cell l s.heap.size b L xs i hL hi) (va_cwS 2 hts gL_in_L_cell rfl rfl rfl (by decide +kernel) ⟨Nat.le_of_ble_eq_true rfl, Nat.le_of_ble_eq_true rfl⟩) ⟨zfbS, zpreS hX hbl hS⟩ rfl rfl hl.1 rfl (lv_room (Nat.le_of_ble_eq_true rfl)) dL_in_2 ⟨Nat.le_of_ble_eq_true rfl, Nat.le_of_ble_eq_true rfl⟩) hS (fun q h1 h2 => absurd h2 (Nat.not_le.mpr h1)) (fun q h => hA q (Nat.le_trans hS.1 h)) (fun x9 u9 t9 H1 locs ht hvm hw hB hz1 hk1 hS => ?_)
  refine lv_ldc hx hb hown (hts (.constant RL 73 (2147483647)) (List.mem_of_getElem? (i := 1) rfl)) dL_in_5 ?_
  refine lv_iand hx hb dL_in_7 ?_
  obtain ⟨j9, hj9, ej9⟩ := pk_andE x9 (m := 2147483647) 31 (by decide)
  refine zt_top (y := nI j9) (ej9) ?_
  refine lv_iload_n hx hb dL_in_8 rfl (lv_at hl 2 rfl) ?_
  refine lv_irem hx hb dL_in_9 (nI_ne0 hn0 hn) ?_
  refine zt_top (y := nI (j9 % n)) (pk_rem hj9 hn0 hn) ?_
  exact W.iret (v := (nI (j9 % n))) hx hb hr (fun t9 ht hW => ⟨⟨_, j9 % n, rfl, ⟨Nat.mod_lt _ hn0, rfl⟩, trivial⟩, hS.F ht⟩) hS.2.2 dL_in_10

set_option maxHeartbeats 4000000 in
set_option maxRecDepth 100000 in
/-- setDisc(k, 41) -/
theorem x_setDisc3 (l : Launch) (dC : Nat → ClassId) (dI : Nat → Nat → Nat) (sz : Nat) (cI cC : ClassId) (o a0 a1 a2 : Nat) (tc : Int32) (nc : Nat) (ad : Nat → Option Nat) (h0 k : Nat) (hfl : l.stackTraces = false) (hk : k < nc) (hc4 : nc ≤ 4) (had : ad k = some h0) : vx_Met l yX6_setDisc wsX6_setDisc ({ frames := 6, cells := 1, slots := 6, locals := 90 }) (va_Pc [.ref o, .int (nI k), .int 41] (zPcX (dC, dI) [(o, .inr (6, [.ref a0, .int tc, .ref a1, .int (nI nc), .null, .int 40, .int 48, .int 0, .ref a2])), (a1, .inl (cC, 4, .inr (.inr (.inr (.inr ad)))))] [(cI, .int), (cC, (.object RX0))] sz)) zNoQ (zXC "java/lang/IllegalArgumentException" sz) 1 6 (zq sz) := by
  refine vx_ofW (cc := cX6_setDisc) (maxL := 4) (ret := (some .int)) (by decide) rfl ?_
  intro p e s m args below meth c s₁ B hml hnt hv
  obtain ⟨rfl, hsz, hP, hK, hE⟩ := hv
  have hx := B.exec
  have hb := B.bytes
  have hr := B.returns
  have hts := atoms_spec (ws := wsX6_setDisc) B.pre
  have hown : s.vm.findClass RX6 = some m.cls := findClass_of_methodNamed B.named
  have hlocks := B.notSynchronized
  subst hsz
  have hi6 : ∀ w ∈ u_ws RX6 TX6 9, w ∈ wsX6_setDisc := by decide +kernel
  have hA : ∀ q : Nat, s.heap.size ≤ q → zq s.heap.size q := fun q h => h
  have hS : va_S (zq s.heap.size) s.heap s.heap [] := va_S.rf
  have hl := lv_entry ([.ref o, .int (nI k), .int 41]) (n := 4) (Nat.le_of_ble_eq_true rfl)
  rw [lg_entry_eq]
  generalize (lg_sl ([.ref o, .int (nI k), .int 41]) ++ List.replicate (4 - (lg_sl ([.ref o, .int (nI k), .int 41])).length) Slot.unset).toArray = ls at hl ⊢
  have hl : lv_has ls 4 [(0, .ref o), (1, .int (nI k)), (2, .int 41)] := hl
  refine lv_aload_n hx hb dX6_setDisc_0 rfl (lv_at hl 0 rfl) ?_
  refine lv_iload_n hx hb dX6_setDisc_1 rfl (lv_at hl 1 rfl) ?_
  refine va_callr (va_runV (As := [.int (nI k)]) (rest := []) ⟨hx, hb, hml, hown, hts⟩ (k_codeAt l dC dI s.heap.size cI cC o a0 a1 a2 tc nc ad h0 k hk hc4 had) (cwV 1 hts gX6_setDisc_X6_codeAt rfl rfl rfl (by decide +kernel) ⟨Nat.le_of_ble_eq_true rfl, Nat.le_of_ble_eq_true rfl⟩) ⟨zfb, va_recv hK hP (ci := 6) (q0 := 0) rfl rfl, zpre (hP.sub (ws' := [(o, .inr (6, [.ref a0, .int tc, .ref a1, .int (nI nc), .null, .int 40, .int 48, .int 0, .ref a2])), (a1, .inl (cC, 4, .inr (.inr (.inr (.inr ad)))))]) [0, 1] rfl) (hK.sub (tys' := [(cI, .int), (cC, (.object RX0))]) [0, 1] rfl)⟩ rfl rfl hl.1 rfl (lv_room (Nat.le_of_ble_eq_true rfl)) dX6_setDisc_2 ⟨Nat.le_of_ble_eq_true rfl, Nat.le_of_ble_eq_true rfl⟩) hS (fun q h1 h2 => absurd h2 (Nat.not_le.mpr h1)) (fun q h => hA q (Nat.le_trans hS.1 h)) (fun u9 ra9 t9 H1 locs ht hvm hw hB hz1 hk1 hS => ?_)
  have hB : h0 = ra9 := Eq.symm hB
  subst hB
  have hP := zr_keep hP hk1
  clear hk1 hz1 ht hvm
  refine lv_astore_n (lv' := [(3, .ref h0), (0, .ref o), (1, .int (nI k)), (2, .int 41)]) hx hb dX6_setDisc_5 rfl hl (by decide) rfl (fun ls hl => ?_)
  refine lv_iload_n hx hb dX6_setDisc_6 rfl (lv_at hl 3 rfl) ?_
  refine lv_iconst (v := 0) hx hb dX6_setDisc_7 (by decide) ?_
  refine lv_bipush (v := 40) hx hb dX6_setDisc_8 (by decide) ?_
  refine va_calli (va_runS (As := [.int 41, .int 0, .int 40]) (rest := []) ⟨hx, hb, hml, hown, hts⟩ (k_isWithin l dC dI H1.size 41 0 40) (va_cwS 3 hts gX6_setDisc_X6_isWithin rfl rfl rfl (by decide +kernel) ⟨Nat.le_of_ble_eq_true rfl, Nat.le_of_ble_eq_true rfl⟩) ⟨zfb, zpre (hP.sub (ws' := []) [] rfl) (hK.sub (tys' := []) [] rfl)⟩ rfl rfl hl.1 rfl (lv_room (Nat.le_of_ble_eq_true rfl)) dX6_setDisc_10 ⟨Nat.le_of_ble_eq_true rfl, Nat.le_of_ble_eq_true rfl⟩) hS (fun q h1 h2 => absurd h2 (Nat.not_le.mpr h1)) (fun q h => hA q (Nat.le_trans hS.1 h)) (fun r9 u9 t9 H1 locs ht hvm hw hB hz1 hk1 hS => ?_)
  have hw : r9 = zb (decide ((0 : Int32) ≤ 41) && decide (41 ≤ 40)) := hw
  subst hw
  have hP := zr_keep hP hk1
  clear hk1 hz1 hB ht hvm hw
  refine zt_top (y := 0) (by decide) ?_
  refine lv_if_ne (tgt := 26) hx hb dX6_setDisc_13 (by decide) (fun c => absurd c (fun q => q rfl)) (fun c13 => ?_)
  obtain ⟨sa, hsa⟩ := hE.2.1 (120, "a disc is off by 0 to 40") (List.mem_of_getElem? (i := 7) rfl)
  exact vx_throwS hx hb hfl (own := RX6) (cls := "java/lang/IllegalArgumentException") (names := ["java/lang/RuntimeException", "java/lang/Exception"]) (ik := 37) (is := 120) (ic := 41) (A := zq s.heap.size) hown (by decide) (by decide) (hts (.classLink RX6 37 "java/lang/IllegalArgumentException") (List.mem_of_getElem? (i := 1) rfl)) (hts (.initialized "java/lang/IllegalArgumentException") (List.mem_of_getElem? (i := 2) rfl)) hsa (zg_of (fun w hw => hts w (List.mem_cons_of_mem _ (List.mem_append_left _ (List.mem_append_right _ hw)))) zg_IAE hE.2.2.1) zo_IAE hE.1.1 hE.1.2 hS (hl.1.trans hml.symm) dX6_setDisc_16 dX6_setDisc_19 dX6_setDisc_20 dX6_setDisc_22 dX6_setDisc_25 (fun x hx => (hnt x hx).elim) (Nat.le_of_ble_eq_true rfl) (Nat.le_of_ble_eq_true rfl) (Nat.le_of_ble_eq_true rfl) (Nat.le_of_ble_eq_true rfl) hlocks (z_hx hS) hS.2.2 (Nat.le_of_ble_eq_true rfl) (Nat.le_of_ble_eq_true rfl)

set_option maxHeartbeats 4000000 in
set_option maxRecDepth 100000 in
/-- setDisc: IAE -/
theorem w_setDisc_bad3 (l : Launch) (dC : Nat → ClassId) (dI : Nat → Nat → Nat) (sz : Nat) (cI cC : ClassId) (o a0 a1 a2 : Nat) (tc : Int32) (nc : Nat) (ad : Nat → Option Nat) (h0 k : Nat) (hfl : l.stackTraces = false) (hk : k < nc) (hc4 : nc ≤ 4) (had : ad k = some h0) : Met l yL_setDisc wsL_setDisc ({ frames := 7, cells := 1, slots := 6, locals := 114 }) (va_Pc [.ref o, .int (nI k), .int 41] (zPcX (dC, dI) [(o, .inr (6, [.ref a0, .int tc, .ref a1, .int (nI nc), .null, .int 40, .int 48, .int 0, .ref a2])), (a1, .inl (cC, 4, .inr (.inr (.inr (.inr ad)))))] [(cI, .int), (cC, (.object RX0))] sz)) (va_Qi (fun (r : Int32) (_ : Unit) => r = (-900002)) (fun _ _ => True) (zq sz)) 1 6 (zq sz) := by
  refine va_MetW (cc := cL_setDisc) (maxL := 4) (ret := (some .int)) (hh := [(0, 6, 7, 33), (0, 6, 11, 15)]) (by decide) rfl ?_
  intro p e s m args below meth c s₁ B hml hv
  obtain ⟨rfl, hsz, hP, hK, hE⟩ := hv
  have hx := B.exec
  have hb := B.bytes
  have hr := B.returns
  have hts := atoms_spec (ws := wsL_setDisc) B.pre
  have hown : s.vm.findClass RL = some m.cls := findClass_of_methodNamed B.named
  have hlocks := B.notSynchronized
  subst hsz
  have htab : c.exceptionTable.toList = tableOf [(0, 6, 7, 33), (0, 6, 11, 15)] := vx_table (x := yL_setDisc) B (hts _ (List.mem_of_getElem? (i := 0) rfl))
  have hA : ∀ q : Nat, s.heap.size ≤ q → zq s.heap.size q := fun q h => h
  have hS : va_S (zq s.heap.size) s.heap s.heap [] := va_S.rf
  have hl := lv_entry ([.ref o, .int (nI k), .int 41]) (n := 4) (Nat.le_of_ble_eq_true rfl)
  rw [lg_entry_eq]
  generalize (lg_sl ([.ref o, .int (nI k), .int 41]) ++ List.replicate (4 - (lg_sl ([.ref o, .int (nI k), .int 41])).length) Slot.unset).toArray = ls at hl ⊢
  have hl : lv_has ls 4 [(0, .ref o), (1, .int (nI k)), (2, .int 41)] := hl
  refine lv_aload_n hx hb dL_setDisc_0 rfl (lv_at hl 0 rfl) ?_
  refine lv_iload_n hx hb dL_setDisc_1 rfl (lv_at hl 1 rfl) ?_
  refine lv_iload_n hx hb dL_setDisc_2 rfl (lv_at hl 2 rfl) ?_
  refine z_callx (vx_runV (As := [.int (nI k), .int 41]) (rest := []) ⟨hx, hb, hml, hown, hts⟩ (x_setDisc3 l dC dI s.heap.size cI cC o a0 a1 a2 tc nc ad h0 k hfl hk hc4 had) (cwV 2 hts gL_setDisc_X6_setDisc rfl rfl rfl (by decide +kernel) ⟨Nat.le_of_ble_eq_true rfl, Nat.le_of_ble_eq_true rfl⟩) ⟨zfbX, va_recv hK hP (ci := 6) (q0 := 0) rfl rfl, zpreX (hP.sub (ws' := [(o, .inr (6, [.ref a0, .int tc, .ref a1, .int (nI nc), .null, .int 40, .int 48, .int 0, .ref a2])), (a1, .inl (cC, 4, .inr (.inr (.inr (.inr ad)))))]) [0, 1] rfl) (hK.sub (tys' := [(cI, .int), (cC, (.object RX0))]) [0, 1] rfl) hE hS hA⟩ rfl rfl hl.1 rfl (lv_room (Nat.le_of_ble_eq_true rfl)) dL_setDisc_3 ⟨Nat.le_of_ble_eq_true rfl, Nat.le_of_ble_eq_true rfl⟩) hS hA (fun ce q9 H1 locs hz1 hk1 hS hce hcv hcl => ?_)
  refine vx_catch (E := "java/lang/IllegalArgumentException") hown [⟨0, 6, 7, 33⟩] ⟨0, 6, 11, 15⟩ [] htab (fun z hz => (List.mem_cons.mp hz).elim (fun q => by rw [q]; exact Or.inr ⟨(by decide : (33 : Nat) ≠ 0), "java/lang/IndexOutOfBoundsException", (hts (.classLink RL 33 "java/lang/IndexOutOfBoundsException") (List.mem_of_getElem? (i := 1) rfl)), hE.2.2.2 _ (List.mem_of_getElem? (i := 0) rfl)⟩) (fun hz => nomatch hz)) rfl (by decide) (hts (.classLink RL 15 "java/lang/IllegalArgumentException") (List.mem_of_getElem? (i := 2) rfl)) (va_Nw.use rfl (hE.2.2.1 _ (List.mem_of_getElem? (i := 5) rfl))) hce hcv hcl ?_
  refine lv_astore_n (lv' := [(3, .ref q9), (0, .ref o), (1, .int (nI k)), (2, .int 41)]) hx hb dL_setDisc_11 rfl hl (by decide) rfl (fun ls hl => ?_)
  refine lv_ldc hx hb hown (hts (.constant RL 20 (-900002)) (List.mem_of_getElem? (i := 4) rfl)) dL_setDisc_12 ?_
  exact W.iret (v := (-900002)) hx hb hr (fun t9 ht hW => ⟨⟨_, (), rfl, rfl, trivial⟩, hS.F ht⟩) hS.2.2 dL_setDisc_14
end
section
/-! the law's own reckoning beside the class's -/
theorem fa_or (a b : Nat) : nI a ||| nI b = nI (a ||| b) := by
  apply Int32.toBitVec_inj.1
  show BitVec.ofNat 32 a ||| BitVec.ofNat 32 b = BitVec.ofNat 32 (a ||| b)
  apply BitVec.eq_of_getLsbD_eq
  intro i hi
  simp [hi]
theorem nx_xor (a b : Nat) : nI a ^^^ nI b = nI (a ^^^ b) := by
  apply Int32.toBitVec_inj.1
  show BitVec.ofNat 32 a ^^^ BitVec.ofNat 32 b = BitVec.ofNat 32 (a ^^^ b)
  apply BitVec.eq_of_getLsbD_eq
  intro i hi
  simp [hi]
theorem zal_congr {p q : Nat → Bool} : ∀ {n : Nat}, (∀ k, k < n → p k = q k) → zal p n = zal q n
  | 0, _ => rfl
  | n + 1, h => by rw [zal, zal, zal_congr (n := n) (fun k hk => h k (by omega)), h n (by omega)]
theorem zmk_0 (f : Nat → Int32) (k : Nat) : zmk f k 0 = f k &&& 1 := by
  unfold zmk
  rw [nI_0, sb_shr0]
theorem zmv_0 (f : Nat → Int32) {n : Nat} (hn : 0 < n) : zmv f n 0 = true := by
  refine zex_t (k := 0) hn (zal_t (fun k hk => ?_))
  rw [Nat.add_zero, Nat.mod_eq_of_lt hk]
  exact decide_eq_true rfl
theorem zon_law (f : Nat → Int32) {n : Nat} (hn : 0 < n) (T : Nat) : zal (fun t => zmv f n t) T = zon f n T := by
  refine zal_congr (fun t _ => ?_)
  by_cases h : t = 0
  · subst h; rw [zmv_0 f hn]; rfl
  · rw [beq_eq_false_iff_ne.mpr h]; rfl
/-- the law's least -/
def zlw (f : Nat → Int32) (n t : Nat) : Nat := if t = 0 then 99 else zlo f n t
theorem zlw_i (f : Nat → Int32) (n t : Nat) (hn : n ≤ 64) : (if zchg f n t < zlw f n t then zchg f n t else zlw f n t) = zlw f n (t + 1) := by
  have h1 := zchg_le f n t
  have h2 : zlw f n (t + 1) = zlo f n (t + 1) := if_neg (by omega)
  rw [h2]
  by_cases h : t = 0
  · subst h
    have h3 : zlw f n 0 = 99 := if_pos rfl
    rw [h3, if_pos (by omega), zlo]
    by_cases h4 : zchg f n 0 < zlo f n 0
    · rw [if_pos h4]
    · rw [if_neg h4]
      have h5 : zlo f n 0 = n := rfl
      omega
  · have h3 : zlw f n t = zlo f n t := if_neg h
    rw [h3, zlo]
theorem zlw_le (f : Nat → Int32) (n t : Nat) (hn : n ≤ 64) : zlw f n t ≤ 99 := by
  unfold zlw
  have := zlo_le f n t
  split <;> omega
theorem zhi_i2 (f : Nat → Int32) (n t : Nat) : (if zhi f n t < zchg f n t then zchg f n t else zhi f n t) = zhi f n (t + 1) := by rw [zhi]
/-- all the words' bits -/
def zob (v : Nat → Nat) : Nat → Nat
  | 0 => 0
  | k + 1 => zob v k ||| v k
theorem zob_lt (v : Nat → Nat) (t : Nat) : ∀ n, zob v n < 2 ^ t ↔ ∀ k, k < n → v k < 2 ^ t
  | 0 => ⟨fun _ k hk => absurd hk (Nat.not_lt_zero k), fun _ => Nat.two_pow_pos t⟩
  | n + 1 => by
    have ih := zob_lt v t n
    constructor
    · intro h k hk
      have h1 : zob v n ≤ zob v n ||| v n := Nat.left_le_or
      have h2 : v n ≤ zob v n ||| v n := Nat.right_le_or
      rw [zob] at h
      rcases Nat.lt_or_ge k n with q | q
      · exact ih.mp (Nat.lt_of_le_of_lt h1 h) k q
      · rw [show k = n by omega]; exact Nat.lt_of_le_of_lt h2 h
    · intro h
      rw [zob]
      exact Nat.or_lt_two_pow (ih.mpr (fun k hk => h k (by omega))) (h n (by omega))
theorem ztw0_le (x : Int32) : ∀ t, ztw x 0 t ≤ t
  | 0 => Nat.le_refl 0
  | t + 1 => by
    have := ztw0_le x t
    rw [ztw]; split <;> omega
theorem ztw_max (x : Int32) (h : Nat) : ∀ t, ztw x h t = max h (ztw x 0 t)
  | 0 => by show h = max h 0; omega
  | t + 1 => by
    have ih := ztw_max x h t
    have h1 := ztw0_le x t
    rw [ztw, ztw]
    by_cases hb : zbt x t = true
    · by_cases h2 : h ≤ t
      · rw [if_pos ⟨hb, by omega⟩, if_pos ⟨hb, h1⟩]; omega
      · rw [if_neg (fun q => by have := q.2; omega), if_pos ⟨hb, h1⟩]; omega
    · rw [if_neg (fun q => hb q.1), if_neg (fun q => hb q.1)]; exact ih
theorem ztw_w : ∀ w, w < 256 → ∀ t, t < 9 → (ztw (nI w &&& 255) 0 8 ≤ t ↔ w < 2 ^ t) := by decide +kernel
theorem zcl255 : ∀ w, w < 256 → (nI w &&& 255).toNatClampNeg = w := by decide +kernel
theorem ztr_iff {f : Nat → Int32} {v : Nat → Nat} : ∀ {n : Nat}, (∀ k, k < n → f k = nI (v k) ∧ v k < 256) → ∀ {t : Nat}, t < 9 → (ztr f n ≤ t ↔ ∀ k, k < n → v k < 2 ^ t)
  | 0, _, t, _ => ⟨fun _ k hk => absurd hk (Nat.not_lt_zero k), fun _ => Nat.zero_le t⟩
  | n + 1, h, t, ht => by
    have ih := ztr_iff (n := n) (fun k hk => h k (by omega)) ht
    have h1 := h n (by omega)
    have h2 := ztw_w (v n) h1.2 t ht
    rw [ztr, ztw_max, h1.1]
    constructor
    · intro q k hk
      rcases Nat.lt_or_ge k n with r | r
      · exact ih.mp (by omega) k r
      · rw [show k = n by omega]; exact h2.mp (by omega)
    · intro q
      have a := ih.mpr (fun k hk => q k (by omega))
      have b := h2.mpr (q n (by omega))
      omega
theorem zs31 : ∀ t, t < 9 → ((nI t &&& 31).toBitVec.smod 32).toNat = t := by decide +kernel
/-- the law's 'bits >> tracks' -/
theorem zsh {B t : Nat} (hB : B < 256) (ht : t < 9) : nI B >>> (nI t &&& 31) = nI (B / 2 ^ t) := pk_shrN (by omega) (nI t &&& 31) t (zs31 t ht)
theorem zsh_0 {B t : Nat} : B / 2 ^ t = 0 ↔ B < 2 ^ t := by
  rw [Nat.div_eq_zero_iff]
  have := Nat.two_pow_pos t
  omega
/-- the law's search of a word -/
def zat (f : Nat → Int32) (w : Nat) : Nat → Int32
  | 0 => -900003
  | k + 1 => if f k = nI w then nI k else zat f w k
theorem zpl_at {f : Nat → Int32} {v : Nat → Nat} {w : Nat} (hw : w < 256) : ∀ {n : Nat}, n < 2 ^ 30 → (∀ k, k < n → f k = nI (v k) ∧ v k < 256) → (zpl f n w = -1 ∧ zat f w n = -900003) ∨ ∃ j, j < n ∧ zpl f n w = nI j ∧ zat f w n = nI j
  | 0, _, _ => Or.inl ⟨if_pos hw, rfl⟩
  | n + 1, hn, h => by
    have ih := zpl_at hw (n := n) (by omega) (fun k hk => h k (by omega))
    have h1 := h n (by omega)
    have e1 : zpl f (n + 1) w = if w = v n then nI n else zpl f n w := by
      show upd (zpl f n) ((f n &&& 255).toNatClampNeg) (nI n) w = _
      rw [h1.1, zcl255 _ h1.2]; rfl
    have e2 : zat f w (n + 1) = if w = v n then nI n else zat f w n := by
      rw [zat, h1.1]
      by_cases q : w = v n
      · rw [if_pos q, if_pos (by rw [q])]
      · rw [if_neg q, if_neg (fun r => q ((nI_eq (by omega) (by omega)).mp r).symm)]
    rw [e1, e2]
    by_cases q : w = v n
    · rw [if_pos q, if_pos q]; exact Or.inr ⟨n, by omega, rfl, rfl⟩
    · rw [if_neg q, if_neg q]
      rcases ih with r | ⟨j, hj, r⟩
      · exact Or.inl r
      · exact Or.inr ⟨j, by omega, r⟩
theorem znI_n1 {j : Nat} (h : j < 2 ^ 31) : ¬ nI j = -1 := fun q => by
  have h1 : (nI j).toInt = (-1 : Int32).toInt := by rw [q]
  rw [nI_toInt h] at h1
  have h2 : (-1 : Int32).toInt = -1 := by decide
  omega
theorem zbc00 : ¬ zbc (nI 0 ^^^ nI 0) = 1 := by decide +kernel
/-- a ring has a track -/
theorem ztr_pos {f : Nat → Int32} {v : Nat → Nat} {n : Nat} (hn : 0 < n) (h : ∀ k, k < n → f k = nI (v k) ∧ v k < 256) (hr : zrg f n = true) : 1 ≤ ztr f n := by
  rcases Nat.lt_or_ge 0 (ztr f n) with q | q
  · exact q
  · exfalso
    have h0 := (ztr_iff h (t := 0) (by omega)).mp (by omega)
    have h1 := zal_all.mp hr 0 hn
    have a1 := h 0 hn
    have hx : znx n 0 < n := by unfold znx; split <;> omega
    have a2 := h (znx n 0) hx
    have b1 := h0 0 hn
    have b2 := h0 (znx n 0) hx
    have c1 : v 0 = 0 := by omega
    have c2 : v (znx n 0) = 0 := by omega
    have d := of_decide_eq_true h1
    rw [a1.1, a2.1, c1, c2] at d
    exact zbc00 d
theorem zb_and {a b : Bool} : zb a &&& zb b = zb (a && b) := by cases a <;> cases b <;> decide
theorem zb_or {a b : Bool} : zb a ||| zb b = zb (a || b) := by cases a <;> cases b <;> decide
theorem zb_if {c : Prop} [Decidable c] : (if c then (1 : Int32) else 0) = zb (decide c) := by by_cases h : c <;> simp [h, zb]
theorem z11 : (1 : Int32) &&& 1 = 1 := by decide
end
section
section ZV
variable {p : Program} {l : Launch} {e : Env} {s : State} {m : MethodId} {below : List Frame} {meth : Method} {c : Code} {b L : Nat} {xs : Nat → Int32} {Q : State → Prop}

set_option maxHeartbeats 4000000 in
set_option maxRecDepth 100000 in
/-- bits and tracks of the ring -/
theorem v_1 (hL : zL p l s m c b L xs) {dC : Nat → ClassId} {dI : Nat → Nat → Nat} {cI cC : ClassId} (hK : va_K (dC, dI) vwCl [(cI, .int), (cC, .object RX0)] s) {X : va_W} {o a0 a1 a2 a3 h0 h1 h2 : Nat} {tc : Int32} {nc n : Nat} {ad : Nat → Option Nat} {ft fr : Nat → Int32} {v : Nat → Nat} {i : Nat} (hnc : nc < 4) (hn4 : 4 ≤ n) (hn : n ≤ 32) (had : ad nc = some h0) (hv : ∀ k, k < n → fr k = nI (v k) ∧ v k < 256) (hrg : zrg fr n = true) (cn sn : Nat) (hcn : cn + 400 ≤ 679936) (hsn : sn + 4000 ≤ 7061659) (H : Heap) (locs : List Loc) (hP : va_P (dC, dI) vwCl ([(o, .inr (6, [.ref a0, .int tc, .ref a1, .int (nI (nc + 1)), .null, .int 40, .int 48, .int 0, .ref a2])), (a0, .inl (cI, 64, .inl ft)), (a1, .inl (cC, 4, .inr (.inr (.inr (.inr ad))))), (a3, .inl (cI, 64, .inl fr)), (h0, .inr (0, [.ref h1, .int (nI (ztr fr n)), .ref h2])), (h1, .inl (cI, n, .inl fr)), (h2, .inl (cI, 256, .inl (zpl fr n)))] ++ X) H) (hS : va_S (zq s.heap.size) s.heap H locs) (ls : Array Slot) (hl : lv_has ls 19 [(0, .ref b), (1, .ref o), (2, .int 1), (3, .int (nI nc)), (4, .int (nI i)), (6, .ref a3), (7, .int (nI n))]) (kk : ∀ (H : Heap) (locs : List Loc) (cn2 sn2 : Nat), cn2 ≤ cn + 0 → sn2 ≤ sn + 0 → va_P (dC, dI) vwCl ([(o, .inr (6, [.ref a0, .int tc, .ref a1, .int (nI (nc + 1)), .null, .int 40, .int 48, .int 0, .ref a2])), (a0, .inl (cI, 64, .inl ft)), (a1, .inl (cC, 4, .inr (.inr (.inr (.inr ad))))), (a3, .inl (cI, 64, .inl fr)), (h0, .inr (0, [.ref h1, .int (nI (ztr fr n)), .ref h2])), (h1, .inl (cI, n, .inl fr)), (h2, .inl (cI, 256, .inl (zpl fr n)))] ++ X) H → va_S (zq s.heap.size) s.heap H locs → ∀ ls : Array Slot, lv_has ls 19 [(0, .ref b), (1, .ref o), (2, .int 1), (3, .int (nI nc)), (4, .int (nI i)), (6, .ref a3), (7, .int (nI n)), (9, .int (nI (ztr fr n)))] → W p l e room_1 s m #[Value.ref b] below meth c H locs cn2 sn2 Q (F0 m 600 ls [])) : W p l e room_1 s m #[Value.ref b] below meth c H locs cn sn Q (F0 m 549 ls []) := by
  obtain ⟨hx, hb, hml, hown, hts, hX, hbl, hfl, hE, hL260⟩ := hL
  have hA : ∀ q : Nat, s.heap.size ≤ q → zq s.heap.size q := fun q h => h
  have hbA : ¬ zq s.heap.size b := Nat.not_le.mpr hbl
  have hB : zob v n < 256 := (zob_lt v 8 n).mpr (fun k hk => (hv k hk).2)
  have hT8 : (ztr fr n) ≤ 8 := ztr_le fr n
  refine lv_iload hx hb dL_law_549 (lv_at hl 6 rfl) ?_
  refine lv_if_le (tgt := 1049) hx hb dL_law_551 (by decide) (fun c => absurd c (nI_nle (by omega) (by omega))) (fun c551 => ?_)
  refine lv_iconst (v := 0) hx hb dL_law_554 (by decide) ?_
  refine lv_istore (lv' := [(8, .int 0), (0, .ref b), (1, .ref o), (2, .int 1), (3, .int (nI nc)), (4, .int (nI i)), (6, .ref a3), (7, .int (nI n))]) hx hb dL_law_555 hl (by decide) rfl (fun ls hl => ?_)
  refine lv_iconst (v := 0) hx hb dL_law_557 (by decide) ?_
  refine lv_istore (lv' := [(9, .int 0), (8, .int 0), (0, .ref b), (1, .ref o), (2, .int 1), (3, .int (nI nc)), (4, .int (nI i)), (6, .ref a3), (7, .int (nI n))]) hx hb dL_law_558 hl (by decide) rfl (fun ls hl => ?_)
  have loop : ∀ (d : Nat) (k : Nat), n + 1 ≤ k + d → k ≤ n → ∀ (H : Heap) (locs : List Loc), va_P (dC, dI) vwCl ([(o, .inr (6, [.ref a0, .int tc, .ref a1, .int (nI (nc + 1)), .null, .int 40, .int 48, .int 0, .ref a2])), (a0, .inl (cI, 64, .inl ft)), (a1, .inl (cC, 4, .inr (.inr (.inr (.inr ad))))), (a3, .inl (cI, 64, .inl fr)), (h0, .inr (0, [.ref h1, .int (nI (ztr fr n)), .ref h2])), (h1, .inl (cI, n, .inl fr)), (h2, .inl (cI, 256, .inl (zpl fr n)))] ++ X) H → va_S (zq s.heap.size) s.heap H locs → ∀ ls : Array Slot, lv_has ls 19 [(0, .ref b), (1, .ref o), (2, .int 1), (3, .int (nI nc)), (4, .int (nI i)), (6, .ref a3), (7, .int (nI n)), (8, .int (nI (zob v k))), (9, .int (nI k))] → W p l e room_1 s m #[Value.ref b] below meth c H locs cn sn Q (F0 m 560 ls []) := by
    intro d
    induction d with
    | zero => intro k hd hk; exact absurd hd (by omega)
    | succ d ih =>
      intro k hd hk H locs hP hS ls hl
      refine lv_iload hx hb dL_law_560 (lv_at hl 8 rfl) ?_
      refine lv_iload hx hb dL_law_562 (lv_at hl 6 rfl) ?_
      refine lv_icmp_ge (tgt := 583) hx hb dL_law_564 (by decide) (fun c564 => ?_) (fun c564 => ?_)
      · skip
        have hkn : k = n := Nat.le_antisymm hk ((nI_leI (by omega) (by omega)).mp c564)
        refine lv_iconst (v := 0) hx hb dL_law_583 (by decide) ?_
        refine lv_istore (lv' := [(9, .int 0), (0, .ref b), (1, .ref o), (2, .int 1), (3, .int (nI nc)), (4, .int (nI i)), (6, .ref a3), (7, .int (nI n)), (8, .int (nI (zob v k)))]) hx hb dL_law_584 hl (by decide) rfl (fun ls hl => ?_)
        have loop2 : ∀ (d2 : Nat) (t : Nat), 9 ≤ t + d2 → t ≤ (ztr fr n) → ∀ (H : Heap) (locs : List Loc), va_P (dC, dI) vwCl ([(o, .inr (6, [.ref a0, .int tc, .ref a1, .int (nI (nc + 1)), .null, .int 40, .int 48, .int 0, .ref a2])), (a0, .inl (cI, 64, .inl ft)), (a1, .inl (cC, 4, .inr (.inr (.inr (.inr ad))))), (a3, .inl (cI, 64, .inl fr)), (h0, .inr (0, [.ref h1, .int (nI (ztr fr n)), .ref h2])), (h1, .inl (cI, n, .inl fr)), (h2, .inl (cI, 256, .inl (zpl fr n)))] ++ X) H → va_S (zq s.heap.size) s.heap H locs → ∀ ls : Array Slot, lv_has ls 19 [(0, .ref b), (1, .ref o), (2, .int 1), (3, .int (nI nc)), (4, .int (nI i)), (6, .ref a3), (7, .int (nI n)), (8, .int (nI (zob v n))), (9, .int (nI t))] → W p l e room_1 s m #[Value.ref b] below meth c H locs cn sn Q (F0 m 586 ls []) := by
          intro d2
          induction d2 with
          | zero => intro t hd2 ht; exact absurd hd2 (by omega)
          | succ d2 ihe =>
            intro t hd2 ht H locs hP hS ls hl
            refine lv_iload hx hb dL_law_586 (lv_at hl 7 rfl) ?_
            refine lv_iload hx hb dL_law_588 (lv_at hl 8 rfl) ?_
            refine lv_ishr hx hb dL_law_590 ?_
            refine zt_top (y := nI (zob v n / 2 ^ t)) (zsh hB (by omega)) ?_
            refine lv_if_eq (tgt := 600) hx hb dL_law_591 (by decide) (fun c591 => ?_) (fun c591 => ?_)
            · skip
              have hz : zob v n / 2 ^ t = 0 := by
                rcases Nat.eq_zero_or_pos (zob v n / 2 ^ t) with q | q
                · exact q
                · exact absurd c591 (nI_ne0 q (Nat.lt_of_le_of_lt (Nat.div_le_self _ _) (by omega)))
              have htt : (ztr fr n) = t := Nat.le_antisymm ((ztr_iff hv (by omega)).mpr ((zob_lt v t n).mp (zsh_0.mp hz))) ht
              rw [← htt] at hl
              exact kk _ _ _ _ (by omega) (by omega) hP hS ls (lv_sub hl [0, 1, 2, 3, 4, 5, 6, 8] rfl)
            · skip
              have htt : t < (ztr fr n) := by
                rcases Nat.lt_or_ge t (ztr fr n) with q | q
                · exact q
                · exact absurd (by rw [zsh_0.mpr ((zob_lt v t n).mpr ((ztr_iff hv (by omega)).mp q))]; exact nI_0) c591
              refine lv_iinc (v := nI (t + 1)) (lv' := [(9, .int (nI (t + 1))), (0, .ref b), (1, .ref o), (2, .int 1), (3, .int (nI nc)), (4, .int (nI i)), (6, .ref a3), (7, .int (nI n)), (8, .int (nI (zob v n)))]) hx hb dL_law_594 hl (k := 8) rfl (nI_1 t) (by decide) rfl (fun ls hl => ?_)
              refine lv_goto (tgt := 586) hx hb dL_law_597 (by decide) ?_
              exact ihe (t + 1) (by omega) (by omega) _ _ hP hS ls (lv_sub hl [1, 2, 3, 4, 5, 6, 7, 8, 0] rfl)
        rw [hkn] at hl
        exact loop2 9 0 (by omega) (Nat.zero_le _) _ _ hP hS ls (lv_sub hl [1, 2, 3, 4, 5, 6, 7, 8, 0] rfl)
      · skip
        have hkn : k < n := Nat.lt_of_not_le (fun q => c564 ((nI_leI (by omega) (by omega)).mpr q))
        refine lv_iload hx hb dL_law_567 (lv_at hl 7 rfl) ?_
        refine lv_aload hx hb dL_law_569 (lv_at hl 5 rfl) ?_
        refine lv_iload hx hb dL_law_571 (lv_at hl 8 rfl) ?_
        refine va_iald hx hb hK hP 3 0 rfl rfl (vp_in_nI (by omega) (by decide)) dL_law_573 ?_
        refine zt_top (y := nI (v k)) (by rw [nI_clamp (by omega)]; exact (hv k hkn).1) ?_
        refine lv_ior hx hb dL_law_574 ?_
        refine zt_top (y := nI (zob v (k + 1))) (fa_or _ _) ?_
        refine lv_istore (lv' := [(8, .int (nI (zob v (k + 1)))), (0, .ref b), (1, .ref o), (2, .int 1), (3, .int (nI nc)), (4, .int (nI i)), (6, .ref a3), (7, .int (nI n)), (9, .int (nI k))]) hx hb dL_law_575 hl (by decide) rfl (fun ls hl => ?_)
        refine lv_iinc (v := nI (k + 1)) (lv' := [(9, .int (nI (k + 1))), (8, .int (nI (zob v (k + 1)))), (0, .ref b), (1, .ref o), (2, .int 1), (3, .int (nI nc)), (4, .int (nI i)), (6, .ref a3), (7, .int (nI n))]) hx hb dL_law_577 hl (k := 8) rfl (nI_1 k) (by decide) rfl (fun ls hl => ?_)
        refine lv_goto (tgt := 560) hx hb dL_law_580 (by decide) ?_
        exact ih (k + 1) (by omega) (by omega) _ _ hP hS ls (lv_sub hl [2, 3, 4, 5, 6, 7, 8, 1, 0] rfl)
  exact loop (n + 1) 0 (by omega) (Nat.zero_le _) _ _ hP hS ls (lv_sub hl [2, 3, 4, 5, 6, 7, 8, 1, 0] rfl)


set_option maxHeartbeats 4000000 in
set_option maxRecDepth 100000 in
/-- words and tracks are told -/
theorem v_2 (hL : zL p l s m c b L xs) {dC : Nat → ClassId} {dI : Nat → Nat → Nat} {cI cC : ClassId} (hK : va_K (dC, dI) vwCl [(cI, .int), (cC, .object RX0)] s) {X : va_W} {o a0 a1 a2 a3 h0 h1 h2 : Nat} {tc : Int32} {nc n : Nat} {ad : Nat → Option Nat} {ft fr : Nat → Int32} {v : Nat → Nat} {i : Nat} (hnc : nc < 4) (hn4 : 4 ≤ n) (hn : n ≤ 32) (had : ad nc = some h0) (hv : ∀ k, k < n → fr k = nI (v k) ∧ v k < 256) (hrg : zrg fr n = true) (cn sn : Nat) (hcn : cn + 400 ≤ 679936) (hsn : sn + 4000 ≤ 7061659) (H : Heap) (locs : List Loc) (hP : va_P (dC, dI) vwCl ([(o, .inr (6, [.ref a0, .int tc, .ref a1, .int (nI (nc + 1)), .null, .int 40, .int 48, .int 0, .ref a2])), (a0, .inl (cI, 64, .inl ft)), (a1, .inl (cC, 4, .inr (.inr (.inr (.inr ad))))), (a3, .inl (cI, 64, .inl fr)), (h0, .inr (0, [.ref h1, .int (nI (ztr fr n)), .ref h2])), (h1, .inl (cI, n, .inl fr)), (h2, .inl (cI, 256, .inl (zpl fr n)))] ++ X) H) (hS : va_S (zq s.heap.size) s.heap H locs) (ls : Array Slot) (hl : lv_has ls 19 [(0, .ref b), (1, .ref o), (2, .int 1), (3, .int (nI nc)), (4, .int (nI i)), (6, .ref a3), (7, .int (nI n)), (9, .int (nI (ztr fr n)))]) (kk : ∀ (H : Heap) (locs : List Loc) (cn2 sn2 : Nat), cn2 ≤ cn + 0 → sn2 ≤ sn + 0 → va_P (dC, dI) vwCl ([(o, .inr (6, [.ref a0, .int tc, .ref a1, .int (nI (nc + 1)), .null, .int 40, .int 48, .int 0, .ref a2])), (a0, .inl (cI, 64, .inl ft)), (a1, .inl (cC, 4, .inr (.inr (.inr (.inr ad))))), (a3, .inl (cI, 64, .inl fr)), (h0, .inr (0, [.ref h1, .int (nI (ztr fr n)), .ref h2])), (h1, .inl (cI, n, .inl fr)), (h2, .inl (cI, 256, .inl (zpl fr n)))] ++ X) H → va_S (zq s.heap.size) s.heap H locs → ∀ ls : Array Slot, lv_has ls 19 [(0, .ref b), (1, .ref o), (2, .int 1), (3, .int (nI nc)), (4, .int (nI i)), (6, .ref a3), (7, .int (nI n)), (9, .int (nI (ztr fr n)))] → W p l e room_1 s m #[Value.ref b] below meth c H locs cn2 sn2 Q (F0 m 628 ls [])) : W p l e room_1 s m #[Value.ref b] below meth c H locs cn sn Q (F0 m 600 ls []) := by
  obtain ⟨hx, hb, hml, hown, hts, hX, hbl, hfl, hE, hL260⟩ := hL
  have hA : ∀ q : Nat, s.heap.size ≤ q → zq s.heap.size q := fun q h => h
  have hbA : ¬ zq s.heap.size b := Nat.not_le.mpr hbl
  have hT8 : (ztr fr n) ≤ 8 := ztr_le fr n
  refine lv_iload_n hx hb dL_law_600 rfl (lv_at hl 2 rfl) ?_
  refine lv_aload_n hx hb dL_law_601 rfl (lv_at hl 1 rfl) ?_
  refine lv_iload_n hx hb dL_law_602 rfl (lv_at hl 3 rfl) ?_
  refine va_calli (vx_runSW (As := [.ref o, .int (nI nc)]) (rest := [.int 1]) ⟨hx, hb, hml, hown, hts⟩ (w_words l dC dI H.size cI cC o a0 a1 a2 tc (nc + 1) ad h0 h1 h2 n (ztr fr n) fr (zpl fr n) nc (by omega) (by omega) had) (vx_cwSW 2 hts gL_law_L_words rfl rfl rfl (by decide +kernel) ⟨Nat.le_of_ble_eq_true rfl, Nat.le_of_ble_eq_true rfl⟩) ⟨zfb, zpre (hP.sub (ws' := [(o, .inr (6, [.ref a0, .int tc, .ref a1, .int (nI (nc + 1)), .null, .int 40, .int 48, .int 0, .ref a2])), (a1, .inl (cC, 4, .inr (.inr (.inr (.inr ad))))), (h0, .inr (0, [.ref h1, .int (nI (ztr fr n)), .ref h2])), (h1, .inl (cI, n, .inl fr)), (h2, .inl (cI, 256, .inl (zpl fr n)))]) [0, 2, 4, 5, 6] rfl) (hK.sub (tys' := [(cI, .int), (cC, (.object RX0))]) [0, 1] rfl)⟩ rfl rfl hl.1 rfl (lv_room (Nat.le_of_ble_eq_true rfl)) dL_law_603 ⟨(show cn + 0 ≤ 679936 by omega), (show sn + 0 ≤ 7061659 by omega)⟩) hS (fun q h1 h2 => absurd h2 (Nat.not_le.mpr h1)) (fun q h => hA q (Nat.le_trans hS.1 h)) (fun r9 u9 t9 H1 locs ht hvm hw hB hz1 hk1 hS => ?_)
  have hw : r9 = nI n := hw
  subst hw
  have hP := zr_keep hP hk1
  clear hk1 hz1 hB ht hvm hw
  refine lv_iload hx hb dL_law_606 (lv_at hl 6 rfl) ?_
  refine lv_icmp_ne (tgt := 625) hx hb dL_law_608 (by decide) (fun c => absurd c (fun q => q rfl)) (fun c608 => ?_)
  refine lv_aload_n hx hb dL_law_611 rfl (lv_at hl 1 rfl) ?_
  refine lv_iload_n hx hb dL_law_612 rfl (lv_at hl 3 rfl) ?_
  refine va_calli (vx_runSW (As := [.ref o, .int (nI nc)]) (rest := [.int 1]) ⟨hx, hb, hml, hown, hts⟩ (w_tracks l dC dI H1.size cI cC o a0 a1 a2 tc (nc + 1) ad h0 h1 h2 n (ztr fr n) fr (zpl fr n) nc (by omega) (by omega) had) (vx_cwSW 2 hts gL_law_L_tracks rfl rfl rfl (by decide +kernel) ⟨Nat.le_of_ble_eq_true rfl, Nat.le_of_ble_eq_true rfl⟩) ⟨zfb, zpre (hP.sub (ws' := [(o, .inr (6, [.ref a0, .int tc, .ref a1, .int (nI (nc + 1)), .null, .int 40, .int 48, .int 0, .ref a2])), (a1, .inl (cC, 4, .inr (.inr (.inr (.inr ad))))), (h0, .inr (0, [.ref h1, .int (nI (ztr fr n)), .ref h2])), (h1, .inl (cI, n, .inl fr)), (h2, .inl (cI, 256, .inl (zpl fr n)))]) [0, 2, 4, 5, 6] rfl) (hK.sub (tys' := [(cI, .int), (cC, (.object RX0))]) [0, 1] rfl)⟩ rfl rfl hl.1 rfl (lv_room (Nat.le_of_ble_eq_true rfl)) dL_law_613 ⟨(show cn + 0 ≤ 679936 by omega), (show sn + 0 ≤ 7061659 by omega)⟩) hS (fun q h1 h2 => absurd h2 (Nat.not_le.mpr h1)) (fun q h => hA q (Nat.le_trans hS.1 h)) (fun r9 u9 t9 H1 locs ht hvm hw hB hz1 hk1 hS => ?_)
  have hw : r9 = nI (ztr fr n) := hw
  subst hw
  have hP := zr_keep hP hk1
  clear hk1 hz1 hB ht hvm hw
  refine lv_iload hx hb dL_law_616 (lv_at hl 7 rfl) ?_
  refine lv_icmp_ne (tgt := 625) hx hb dL_law_618 (by decide) (fun c => absurd c (fun q => q rfl)) (fun c618 => ?_)
  refine lv_iconst (v := 1) hx hb dL_law_621 (by decide) ?_
  refine lv_goto (tgt := 626) hx hb dL_law_622 (by decide) ?_
  refine lv_iand hx hb dL_law_626 ?_
  refine zt_top (y := 1) (z11) ?_
  refine lv_istore_n (lv' := [(2, .int 1), (0, .ref b), (1, .ref o), (3, .int (nI nc)), (4, .int (nI i)), (6, .ref a3), (7, .int (nI n)), (9, .int (nI (ztr fr n)))]) hx hb dL_law_627 rfl hl (by decide) rfl (fun ls hl => ?_)
  exact kk _ _ _ _ (by omega) (by omega) hP hS ls (lv_sub hl [1, 2, 0, 3, 4, 5, 6, 7] rfl)


set_option maxHeartbeats 4000000 in
set_option maxRecDepth 100000 in
/-- each track's changes and turns -/
theorem v_3 (hL : zL p l s m c b L xs) {dC : Nat → ClassId} {dI : Nat → Nat → Nat} {cI cC : ClassId} (hK : va_K (dC, dI) vwCl [(cI, .int), (cC, .object RX0)] s) {X : va_W} {o a0 a1 a2 a3 h0 h1 h2 : Nat} {tc : Int32} {nc n : Nat} {ad : Nat → Option Nat} {ft fr : Nat → Int32} {v : Nat → Nat} {i : Nat} (hnc : nc < 4) (hn4 : 4 ≤ n) (hn : n ≤ 32) (had : ad nc = some h0) (hv : ∀ k, k < n → fr k = nI (v k) ∧ v k < 256) (hrg : zrg fr n = true) (cn sn : Nat) (hcn : cn + 400 ≤ 679936) (hsn : sn + 4000 ≤ 7061659) (H : Heap) (locs : List Loc) (hP : va_P (dC, dI) vwCl ([(o, .inr (6, [.ref a0, .int tc, .ref a1, .int (nI (nc + 1)), .null, .int 40, .int 48, .int 0, .ref a2])), (a0, .inl (cI, 64, .inl ft)), (a1, .inl (cC, 4, .inr (.inr (.inr (.inr ad))))), (a3, .inl (cI, 64, .inl fr)), (h0, .inr (0, [.ref h1, .int (nI (ztr fr n)), .ref h2])), (h1, .inl (cI, n, .inl fr)), (h2, .inl (cI, 256, .inl (zpl fr n)))] ++ X) H) (hS : va_S (zq s.heap.size) s.heap H locs) (ls : Array Slot) (hl : lv_has ls 19 [(0, .ref b), (1, .ref o), (2, .int 1), (3, .int (nI nc)), (4, .int (nI i)), (6, .ref a3), (7, .int (nI n)), (9, .int (nI (ztr fr n)))]) (kk : ∀ (H : Heap) (locs : List Loc) (cn2 sn2 : Nat), cn2 ≤ cn + 0 → sn2 ≤ sn + 0 → va_P (dC, dI) vwCl ([(o, .inr (6, [.ref a0, .int tc, .ref a1, .int (nI (nc + 1)), .null, .int 40, .int 48, .int 0, .ref a2])), (a0, .inl (cI, 64, .inl ft)), (a1, .inl (cC, 4, .inr (.inr (.inr (.inr ad))))), (a3, .inl (cI, 64, .inl fr)), (h0, .inr (0, [.ref h1, .int (nI (ztr fr n)), .ref h2])), (h1, .inl (cI, n, .inl fr)), (h2, .inl (cI, 256, .inl (zpl fr n)))] ++ X) H → va_S (zq s.heap.size) s.heap H locs → ∀ ls : Array Slot, lv_has ls 19 [(0, .ref b), (1, .ref o), (2, .int 1), (3, .int (nI nc)), (4, .int (nI i)), (6, .ref a3), (7, .int (nI n)), (9, .int (nI (ztr fr n))), (10, .int (nI (zlo fr n (ztr fr n)))), (11, .int (nI (zhi fr n (ztr fr n)))), (12, .int (zb (zon fr n (ztr fr n))))] → W p l e room_1 s m #[Value.ref b] below meth c H locs cn2 sn2 Q (F0 m 851 ls [])) : W p l e room_1 s m #[Value.ref b] below meth c H locs cn sn Q (F0 m 628 ls []) := by
  obtain ⟨hx, hb, hml, hown, hts, hX, hbl, hfl, hE, hL260⟩ := hL
  have hA : ∀ q : Nat, s.heap.size ≤ q → zq s.heap.size q := fun q h => h
  have hbA : ¬ zq s.heap.size b := Nat.not_le.mpr hbl
  have hT8 : (ztr fr n) ≤ 8 := ztr_le fr n
  have hT1 : 1 ≤ (ztr fr n) := ztr_pos (by omega) hv hrg
  refine lv_bipush (v := 99) hx hb dL_law_628 (by decide) ?_
  refine lv_istore (lv' := [(10, .int 99), (0, .ref b), (1, .ref o), (2, .int 1), (3, .int (nI nc)), (4, .int (nI i)), (6, .ref a3), (7, .int (nI n)), (9, .int (nI (ztr fr n)))]) hx hb dL_law_630 hl (by decide) rfl (fun ls hl => ?_)
  refine lv_iconst (v := 0) hx hb dL_law_632 (by decide) ?_
  refine lv_istore (lv' := [(11, .int 0), (10, .int 99), (0, .ref b), (1, .ref o), (2, .int 1), (3, .int (nI nc)), (4, .int (nI i)), (6, .ref a3), (7, .int (nI n)), (9, .int (nI (ztr fr n)))]) hx hb dL_law_633 hl (by decide) rfl (fun ls hl => ?_)
  refine lv_iconst (v := 1) hx hb dL_law_635 (by decide) ?_
  refine lv_istore (lv' := [(12, .int 1), (11, .int 0), (10, .int 99), (0, .ref b), (1, .ref o), (2, .int 1), (3, .int (nI nc)), (4, .int (nI i)), (6, .ref a3), (7, .int (nI n)), (9, .int (nI (ztr fr n)))]) hx hb dL_law_636 hl (by decide) rfl (fun ls hl => ?_)
  refine lv_iconst (v := 0) hx hb dL_law_638 (by decide) ?_
  refine lv_istore (lv' := [(13, .int 0), (12, .int 1), (11, .int 0), (10, .int 99), (0, .ref b), (1, .ref o), (2, .int 1), (3, .int (nI nc)), (4, .int (nI i)), (6, .ref a3), (7, .int (nI n)), (9, .int (nI (ztr fr n)))]) hx hb dL_law_639 hl (by decide) rfl (fun ls hl => ?_)
  have loop : ∀ (d : Nat) (t : Nat), (ztr fr n) + 1 ≤ t + d → t ≤ (ztr fr n) → ∀ (H : Heap) (locs : List Loc), va_P (dC, dI) vwCl ([(o, .inr (6, [.ref a0, .int tc, .ref a1, .int (nI (nc + 1)), .null, .int 40, .int 48, .int 0, .ref a2])), (a0, .inl (cI, 64, .inl ft)), (a1, .inl (cC, 4, .inr (.inr (.inr (.inr ad))))), (a3, .inl (cI, 64, .inl fr)), (h0, .inr (0, [.ref h1, .int (nI (ztr fr n)), .ref h2])), (h1, .inl (cI, n, .inl fr)), (h2, .inl (cI, 256, .inl (zpl fr n)))] ++ X) H → va_S (zq s.heap.size) s.heap H locs → ∀ ls : Array Slot, lv_has ls 19 [(0, .ref b), (1, .ref o), (2, .int 1), (3, .int (nI nc)), (4, .int (nI i)), (6, .ref a3), (7, .int (nI n)), (9, .int (nI (ztr fr n))), (10, .int (nI (zlw fr n t))), (11, .int (nI (zhi fr n t))), (12, .int (zb (zal (fun t => zmv fr n t) t))), (13, .int (nI t))] → W p l e room_1 s m #[Value.ref b] below meth c H locs cn sn Q (F0 m 641 ls []) := by
    intro d
    induction d with
    | zero => intro t hd ht; exact absurd hd (by omega)
    | succ d ih =>
      intro t hd ht H locs hP hS ls hl
      refine lv_iload hx hb dL_law_641 (lv_at hl 11 rfl) ?_
      refine lv_iload hx hb dL_law_643 (lv_at hl 7 rfl) ?_
      refine lv_icmp_ge (tgt := 851) hx hb dL_law_645 (by decide) (fun c645 => ?_) (fun c645 => ?_)
      · skip
        have htt : t = (ztr fr n) := Nat.le_antisymm ht ((nI_leI (by omega) (by omega)).mp c645)
        rw [htt, zon_law fr (by omega), show zlw fr n (ztr fr n) = zlo fr n (ztr fr n) from if_neg (by omega)] at hl
        exact kk _ _ _ _ (by omega) (by omega) hP hS ls (lv_sub hl [0, 1, 2, 3, 4, 5, 6, 7, 8, 9, 10] rfl)
      · skip
        have htT : t < (ztr fr n) := Nat.lt_of_not_le (fun q => c645 ((nI_leI (by omega) (by omega)).mpr q))
        refine lv_iconst (v := 0) hx hb dL_law_648 (by decide) ?_
        refine lv_istore (lv' := [(14, .int 0), (0, .ref b), (1, .ref o), (2, .int 1), (3, .int (nI nc)), (4, .int (nI i)), (6, .ref a3), (7, .int (nI n)), (9, .int (nI (ztr fr n))), (10, .int (nI (zlw fr n t))), (11, .int (nI (zhi fr n t))), (12, .int (zb (zal (fun t => zmv fr n t) t))), (13, .int (nI t))]) hx hb dL_law_649 hl (by decide) rfl (fun ls hl => ?_)
        refine lv_iconst (v := 0) hx hb dL_law_651 (by decide) ?_
        refine lv_istore (lv' := [(15, .int 0), (14, .int 0), (0, .ref b), (1, .ref o), (2, .int 1), (3, .int (nI nc)), (4, .int (nI i)), (6, .ref a3), (7, .int (nI n)), (9, .int (nI (ztr fr n))), (10, .int (nI (zlw fr n t))), (11, .int (nI (zhi fr n t))), (12, .int (zb (zal (fun t => zmv fr n t) t))), (13, .int (nI t))]) hx hb dL_law_652 hl (by decide) rfl (fun ls hl => ?_)
        have loopc : ∀ (d2 : Nat) (k : Nat), n + 1 ≤ k + d2 → k ≤ n → ∀ (H : Heap) (locs : List Loc), va_P (dC, dI) vwCl ([(o, .inr (6, [.ref a0, .int tc, .ref a1, .int (nI (nc + 1)), .null, .int 40, .int 48, .int 0, .ref a2])), (a0, .inl (cI, 64, .inl ft)), (a1, .inl (cC, 4, .inr (.inr (.inr (.inr ad))))), (a3, .inl (cI, 64, .inl fr)), (h0, .inr (0, [.ref h1, .int (nI (ztr fr n)), .ref h2])), (h1, .inl (cI, n, .inl fr)), (h2, .inl (cI, 256, .inl (zpl fr n)))] ++ X) H → va_S (zq s.heap.size) s.heap H locs → ∀ ls : Array Slot, lv_has ls 19 [(0, .ref b), (1, .ref o), (2, .int 1), (3, .int (nI nc)), (4, .int (nI i)), (6, .ref a3), (7, .int (nI n)), (9, .int (nI (ztr fr n))), (10, .int (nI (zlw fr n t))), (11, .int (nI (zhi fr n t))), (12, .int (zb (zal (fun t => zmv fr n t) t))), (13, .int (nI t)), (14, .int (nI (zct (fun k => decide (¬ zmk fr k t = zmk fr ((k + 1) % n) t)) k))), (15, .int (nI k))] → W p l e room_1 s m #[Value.ref b] below meth c H locs cn sn Q (F0 m 654 ls []) := by
          intro d2
          induction d2 with
          | zero => intro k hd2 hk; exact absurd hd2 (by omega)
          | succ d2 ihe =>
            intro k hd2 hk H locs hP hS ls hl
            refine lv_iload hx hb dL_law_654 (lv_at hl 13 rfl) ?_
            refine lv_iload hx hb dL_law_656 (lv_at hl 6 rfl) ?_
            refine lv_icmp_ge (tgt := 705) hx hb dL_law_658 (by decide) (fun c658 => ?_) (fun c658 => ?_)
            · skip
              have hkn : k = n := Nat.le_antisymm hk ((nI_leI (by omega) (by omega)).mp c658)
              rw [hkn] at hl
              have hl : lv_has ls 19 [(0, .ref b), (1, .ref o), (2, .int 1), (3, .int (nI nc)), (4, .int (nI i)), (6, .ref a3), (7, .int (nI n)), (9, .int (nI (ztr fr n))), (10, .int (nI (zlw fr n t))), (11, .int (nI (zhi fr n t))), (12, .int (zb (zal (fun t => zmv fr n t) t))), (13, .int (nI t)), (14, .int (nI (zchg fr n t)))] := lv_sub hl [0, 1, 2, 3, 4, 5, 6, 7, 8, 9, 10, 11, 12] rfl
              refine lv_iconst (v := 0) hx hb dL_law_705 (by decide) ?_
              refine lv_istore (lv' := [(15, .int 0), (0, .ref b), (1, .ref o), (2, .int 1), (3, .int (nI nc)), (4, .int (nI i)), (6, .ref a3), (7, .int (nI n)), (9, .int (nI (ztr fr n))), (10, .int (nI (zlw fr n t))), (11, .int (nI (zhi fr n t))), (12, .int (zb (zal (fun t => zmv fr n t) t))), (13, .int (nI t)), (14, .int (nI (zchg fr n t)))]) hx hb dL_law_706 hl (by decide) rfl (fun ls hl => ?_)
              refine lv_iconst (v := 0) hx hb dL_law_708 (by decide) ?_
              refine lv_istore (lv' := [(16, .int 0), (15, .int 0), (0, .ref b), (1, .ref o), (2, .int 1), (3, .int (nI nc)), (4, .int (nI i)), (6, .ref a3), (7, .int (nI n)), (9, .int (nI (ztr fr n))), (10, .int (nI (zlw fr n t))), (11, .int (nI (zhi fr n t))), (12, .int (zb (zal (fun t => zmv fr n t) t))), (13, .int (nI t)), (14, .int (nI (zchg fr n t)))]) hx hb dL_law_709 hl (by decide) rfl (fun ls hl => ?_)
              have loopb : ∀ (d3 : Nat) (y : Nat), n + 1 ≤ y + d3 → y ≤ n → ∀ (H : Heap) (locs : List Loc), va_P (dC, dI) vwCl ([(o, .inr (6, [.ref a0, .int tc, .ref a1, .int (nI (nc + 1)), .null, .int 40, .int 48, .int 0, .ref a2])), (a0, .inl (cI, 64, .inl ft)), (a1, .inl (cC, 4, .inr (.inr (.inr (.inr ad))))), (a3, .inl (cI, 64, .inl fr)), (h0, .inr (0, [.ref h1, .int (nI (ztr fr n)), .ref h2])), (h1, .inl (cI, n, .inl fr)), (h2, .inl (cI, 256, .inl (zpl fr n)))] ++ X) H → va_S (zq s.heap.size) s.heap H locs → ∀ ls : Array Slot, lv_has ls 19 [(0, .ref b), (1, .ref o), (2, .int 1), (3, .int (nI nc)), (4, .int (nI i)), (6, .ref a3), (7, .int (nI n)), (9, .int (nI (ztr fr n))), (10, .int (nI (zlw fr n t))), (11, .int (nI (zhi fr n t))), (12, .int (zb (zal (fun t => zmv fr n t) t))), (13, .int (nI t)), (14, .int (nI (zchg fr n t))), (15, .int (zb (zex (fun b => zft fr n t b) y))), (16, .int (nI y))] → W p l e room_1 s m #[Value.ref b] below meth c H locs cn sn Q (F0 m 711 ls []) := by
                intro d3
                induction d3 with
                | zero => intro y hd3 hy; exact absurd hd3 (by omega)
                | succ d3 ihf =>
                  intro y hd3 hy H locs hP hS ls hl
                  have hc1 := zchg_le fr n t
                  have hc2 := zlw_le fr n t (by omega)
                  have hc3 := zhi_le fr n t
                  refine lv_iload hx hb dL_law_711 (lv_at hl 14 rfl) ?_
                  refine lv_iload hx hb dL_law_713 (lv_at hl 6 rfl) ?_
                  refine lv_icmp_ge (tgt := 786) hx hb dL_law_715 (by decide) (fun c715 => ?_) (fun c715 => ?_)
                  · skip
                    have hyn : y = n := Nat.le_antisymm hy ((nI_leI (by omega) (by omega)).mp c715)
                    rw [hyn] at hl
                    have hl : lv_has ls 19 [(0, .ref b), (1, .ref o), (2, .int 1), (3, .int (nI nc)), (4, .int (nI i)), (6, .ref a3), (7, .int (nI n)), (9, .int (nI (ztr fr n))), (10, .int (nI (zlw fr n t))), (11, .int (nI (zhi fr n t))), (12, .int (zb (zal (fun t => zmv fr n t) t))), (13, .int (nI t)), (14, .int (nI (zchg fr n t))), (15, .int (zb (zmv fr n t)))] := lv_sub hl [0, 1, 2, 3, 4, 5, 6, 7, 8, 9, 10, 11, 12, 13] rfl
                    refine lv_iload hx hb dL_law_786 (lv_at hl 10 rfl) ?_
                    refine lv_iload hx hb dL_law_788 (lv_at hl 13 rfl) ?_
                    refine lv_iand hx hb dL_law_790 ?_
                    refine zt_top (y := zb (zal (fun t => zmv fr n t) (t + 1))) (zb_and) ?_
                    refine lv_istore (lv' := [(12, .int (zb (zal (fun t => zmv fr n t) (t + 1)))), (0, .ref b), (1, .ref o), (2, .int 1), (3, .int (nI nc)), (4, .int (nI i)), (6, .ref a3), (7, .int (nI n)), (9, .int (nI (ztr fr n))), (10, .int (nI (zlw fr n t))), (11, .int (nI (zhi fr n t))), (13, .int (nI t)), (14, .int (nI (zchg fr n t))), (15, .int (zb (zmv fr n t)))]) hx hb dL_law_791 hl (by decide) rfl (fun ls hl => ?_)
                    refine lv_iload hx hb dL_law_793 (lv_at hl 12 rfl) ?_
                    refine lv_iload hx hb dL_law_795 (lv_at hl 9 rfl) ?_
                    refine lv_icmp_ge (tgt := 805) hx hb dL_law_797 (by decide) (fun c797 => ?_) (fun c797 => ?_)
                    · skip
                      have hlw : zlw fr n (t + 1) = zlw fr n t := by rw [← zlw_i fr n t (by omega), if_neg (fun q => absurd ((nI_leI (by omega) (by omega)).mp c797) (by omega))]
                      refine lv_iload hx hb dL_law_805 (lv_at hl 9 rfl) ?_
                      refine zt_top (y := nI (zlw fr n (t + 1))) (by rw [hlw]) ?_
                      refine lv_istore (lv' := [(10, .int (nI (zlw fr n (t + 1)))), (12, .int (zb (zal (fun t => zmv fr n t) (t + 1)))), (0, .ref b), (1, .ref o), (2, .int 1), (3, .int (nI nc)), (4, .int (nI i)), (6, .ref a3), (7, .int (nI n)), (9, .int (nI (ztr fr n))), (11, .int (nI (zhi fr n t))), (13, .int (nI t)), (14, .int (nI (zchg fr n t))), (15, .int (zb (zmv fr n t)))]) hx hb dL_law_807 hl (by decide) rfl (fun ls hl => ?_)
                      refine lv_iload hx hb dL_law_809 (lv_at hl 12 rfl) ?_
                      refine lv_iload hx hb dL_law_811 (lv_at hl 10 rfl) ?_
                      refine lv_icmp_le (tgt := 821) hx hb dL_law_813 (by decide) (fun c813 => ?_) (fun c813 => ?_)
                      · skip
                        have hhi : zhi fr n (t + 1) = zhi fr n t := by rw [← zhi_i2 fr n t, if_neg (fun q => absurd ((nI_leI (by omega) (by omega)).mp c813) (by omega))]
                        refine lv_iload hx hb dL_law_821 (lv_at hl 10 rfl) ?_
                        refine zt_top (y := nI (zhi fr n (t + 1))) (by rw [hhi]) ?_
                        refine lv_istore (lv' := [(11, .int (nI (zhi fr n (t + 1)))), (10, .int (nI (zlw fr n (t + 1)))), (12, .int (zb (zal (fun t => zmv fr n t) (t + 1)))), (0, .ref b), (1, .ref o), (2, .int 1), (3, .int (nI nc)), (4, .int (nI i)), (6, .ref a3), (7, .int (nI n)), (9, .int (nI (ztr fr n))), (13, .int (nI t)), (14, .int (nI (zchg fr n t))), (15, .int (zb (zmv fr n t)))]) hx hb dL_law_823 hl (by decide) rfl (fun ls hl => ?_)
                        refine lv_iload_n hx hb dL_law_825 rfl (lv_at hl 5 rfl) ?_
                        refine lv_aload_n hx hb dL_law_826 rfl (lv_at hl 4 rfl) ?_
                        refine lv_iload_n hx hb dL_law_827 rfl (lv_at hl 6 rfl) ?_
                        refine lv_iload hx hb dL_law_828 (lv_at hl 11 rfl) ?_
                        refine va_calli (vx_runSW (As := [.ref o, .int (nI nc), .int (nI t)]) (rest := [.int 1]) ⟨hx, hb, hml, hown, hts⟩ (w_changes l dC dI H.size cI cC o a0 a1 a2 tc (nc + 1) ad h0 h1 h2 n (ztr fr n) fr (zpl fr n) nc t (by omega) (by omega) had htT (by omega) (by omega)) (vx_cwSW 3 hts gL_law_L_changes rfl rfl rfl (by decide +kernel) ⟨Nat.le_of_ble_eq_true rfl, Nat.le_of_ble_eq_true rfl⟩) ⟨zfbN, zpreN (hP.sub (ws' := [(o, .inr (6, [.ref a0, .int tc, .ref a1, .int (nI (nc + 1)), .null, .int 40, .int 48, .int 0, .ref a2])), (a1, .inl (cC, 4, .inr (.inr (.inr (.inr ad))))), (h0, .inr (0, [.ref h1, .int (nI (ztr fr n)), .ref h2])), (h1, .inl (cI, n, .inl fr)), (h2, .inl (cI, 256, .inl (zpl fr n)))]) [0, 2, 4, 5, 6] rfl) (hK.sub (tys' := [(cI, .int), (cC, (.object RX0))]) [0, 1] rfl) (zX_N hE)⟩ rfl rfl hl.1 rfl (lv_room (Nat.le_of_ble_eq_true rfl)) dL_law_830 ⟨(show cn + 0 ≤ 679936 by omega), (show sn + 0 ≤ 7061659 by omega)⟩) hS (fun q h1 h2 => absurd h2 (Nat.not_le.mpr h1)) (fun q h => hA q (Nat.le_trans hS.1 h)) (fun r9 u9 t9 H1 locs ht hvm hw hB hz1 hk1 hS => ?_)
                        have hw : r9 = nI (zchg fr n t) := hw
                        subst hw
                        have hP := zr_keep hP hk1
                        clear hk1 hz1 hB ht hvm hw
                        refine lv_iload hx hb dL_law_833 (lv_at hl 12 rfl) ?_
                        refine lv_icmp_ne (tgt := 842) hx hb dL_law_835 (by decide) (fun c => absurd c (fun q => q rfl)) (fun c835 => ?_)
                        refine lv_iconst (v := 1) hx hb dL_law_838 (by decide) ?_
                        refine lv_goto (tgt := 843) hx hb dL_law_839 (by decide) ?_
                        refine lv_iand hx hb dL_law_843 ?_
                        refine zt_top (y := 1) (z11) ?_
                        refine lv_istore_n (lv' := [(2, .int 1), (11, .int (nI (zhi fr n (t + 1)))), (10, .int (nI (zlw fr n (t + 1)))), (12, .int (zb (zal (fun t => zmv fr n t) (t + 1)))), (0, .ref b), (1, .ref o), (3, .int (nI nc)), (4, .int (nI i)), (6, .ref a3), (7, .int (nI n)), (9, .int (nI (ztr fr n))), (13, .int (nI t)), (14, .int (nI (zchg fr n t))), (15, .int (zb (zmv fr n t)))]) hx hb dL_law_844 rfl hl (by decide) rfl (fun ls hl => ?_)
                        refine lv_iinc (v := nI (t + 1)) (lv' := [(13, .int (nI (t + 1))), (2, .int 1), (11, .int (nI (zhi fr n (t + 1)))), (10, .int (nI (zlw fr n (t + 1)))), (12, .int (zb (zal (fun t => zmv fr n t) (t + 1)))), (0, .ref b), (1, .ref o), (3, .int (nI nc)), (4, .int (nI i)), (6, .ref a3), (7, .int (nI n)), (9, .int (nI (ztr fr n))), (14, .int (nI (zchg fr n t))), (15, .int (zb (zmv fr n t)))]) hx hb dL_law_845 hl (k := 11) rfl (nI_1 t) (by decide) rfl (fun ls hl => ?_)
                        refine lv_goto (tgt := 641) hx hb dL_law_848 (by decide) ?_
                        exact ih (t + 1) (by omega) (by omega) _ _ hP hS ls (lv_sub hl [5, 6, 1, 7, 8, 9, 10, 11, 3, 2, 4, 0] rfl)
                      · skip
                        have hhi : zhi fr n (t + 1) = zchg fr n t := by rw [← zhi_i2 fr n t, if_pos (Nat.lt_of_not_le (fun q => c813 ((nI_leI (by omega) (by omega)).mpr q)))]
                        refine lv_iload hx hb dL_law_816 (lv_at hl 12 rfl) ?_
                        refine zt_top (y := nI (zhi fr n (t + 1))) (by rw [hhi]) ?_
                        refine lv_goto (tgt := 823) hx hb dL_law_818 (by decide) ?_
                        refine lv_istore (lv' := [(11, .int (nI (zhi fr n (t + 1)))), (10, .int (nI (zlw fr n (t + 1)))), (12, .int (zb (zal (fun t => zmv fr n t) (t + 1)))), (0, .ref b), (1, .ref o), (2, .int 1), (3, .int (nI nc)), (4, .int (nI i)), (6, .ref a3), (7, .int (nI n)), (9, .int (nI (ztr fr n))), (13, .int (nI t)), (14, .int (nI (zchg fr n t))), (15, .int (zb (zmv fr n t)))]) hx hb dL_law_823 hl (by decide) rfl (fun ls hl => ?_)
                        refine lv_iload_n hx hb dL_law_825 rfl (lv_at hl 5 rfl) ?_
                        refine lv_aload_n hx hb dL_law_826 rfl (lv_at hl 4 rfl) ?_
                        refine lv_iload_n hx hb dL_law_827 rfl (lv_at hl 6 rfl) ?_
                        refine lv_iload hx hb dL_law_828 (lv_at hl 11 rfl) ?_
                        refine va_calli (vx_runSW (As := [.ref o, .int (nI nc), .int (nI t)]) (rest := [.int 1]) ⟨hx, hb, hml, hown, hts⟩ (w_changes l dC dI H.size cI cC o a0 a1 a2 tc (nc + 1) ad h0 h1 h2 n (ztr fr n) fr (zpl fr n) nc t (by omega) (by omega) had htT (by omega) (by omega)) (vx_cwSW 3 hts gL_law_L_changes rfl rfl rfl (by decide +kernel) ⟨Nat.le_of_ble_eq_true rfl, Nat.le_of_ble_eq_true rfl⟩) ⟨zfbN, zpreN (hP.sub (ws' := [(o, .inr (6, [.ref a0, .int tc, .ref a1, .int (nI (nc + 1)), .null, .int 40, .int 48, .int 0, .ref a2])), (a1, .inl (cC, 4, .inr (.inr (.inr (.inr ad))))), (h0, .inr (0, [.ref h1, .int (nI (ztr fr n)), .ref h2])), (h1, .inl (cI, n, .inl fr)), (h2, .inl (cI, 256, .inl (zpl fr n)))]) [0, 2, 4, 5, 6] rfl) (hK.sub (tys' := [(cI, .int), (cC, (.object RX0))]) [0, 1] rfl) (zX_N hE)⟩ rfl rfl hl.1 rfl (lv_room (Nat.le_of_ble_eq_true rfl)) dL_law_830 ⟨(show cn + 0 ≤ 679936 by omega), (show sn + 0 ≤ 7061659 by omega)⟩) hS (fun q h1 h2 => absurd h2 (Nat.not_le.mpr h1)) (fun q h => hA q (Nat.le_trans hS.1 h)) (fun r9 u9 t9 H1 locs ht hvm hw hB hz1 hk1 hS => ?_)
                        have hw : r9 = nI (zchg fr n t) := hw
                        subst hw
                        have hP := zr_keep hP hk1
                        clear hk1 hz1 hB ht hvm hw
                        refine lv_iload hx hb dL_law_833 (lv_at hl 12 rfl) ?_
                        refine lv_icmp_ne (tgt := 842) hx hb dL_law_835 (by decide) (fun c => absurd c (fun q => q rfl)) (fun c835 => ?_)
                        refine lv_iconst (v := 1) hx hb dL_law_838 (by decide) ?_
                        refine lv_goto (tgt := 843) hx hb dL_law_839 (by decide) ?_
                        refine lv_iand hx hb dL_law_843 ?_
                        refine zt_top (y := 1) (z11) ?_
                        refine lv_istore_n (lv' := [(2, .int 1), (11, .int (nI (zhi fr n (t + 1)))), (10, .int (nI (zlw fr n (t + 1)))), (12, .int (zb (zal (fun t => zmv fr n t) (t + 1)))), (0, .ref b), (1, .ref o), (3, .int (nI nc)), (4, .int (nI i)), (6, .ref a3), (7, .int (nI n)), (9, .int (nI (ztr fr n))), (13, .int (nI t)), (14, .int (nI (zchg fr n t))), (15, .int (zb (zmv fr n t)))]) hx hb dL_law_844 rfl hl (by decide) rfl (fun ls hl => ?_)
                        refine lv_iinc (v := nI (t + 1)) (lv' := [(13, .int (nI (t + 1))), (2, .int 1), (11, .int (nI (zhi fr n (t + 1)))), (10, .int (nI (zlw fr n (t + 1)))), (12, .int (zb (zal (fun t => zmv fr n t) (t + 1)))), (0, .ref b), (1, .ref o), (3, .int (nI nc)), (4, .int (nI i)), (6, .ref a3), (7, .int (nI n)), (9, .int (nI (ztr fr n))), (14, .int (nI (zchg fr n t))), (15, .int (zb (zmv fr n t)))]) hx hb dL_law_845 hl (k := 11) rfl (nI_1 t) (by decide) rfl (fun ls hl => ?_)
                        refine lv_goto (tgt := 641) hx hb dL_law_848 (by decide) ?_
                        exact ih (t + 1) (by omega) (by omega) _ _ hP hS ls (lv_sub hl [5, 6, 1, 7, 8, 9, 10, 11, 3, 2, 4, 0] rfl)
                    · skip
                      have hlw : zlw fr n (t + 1) = zchg fr n t := by rw [← zlw_i fr n t (by omega), if_pos (Nat.lt_of_not_le (fun q => c797 ((nI_leI (by omega) (by omega)).mpr q)))]
                      refine lv_iload hx hb dL_law_800 (lv_at hl 12 rfl) ?_
                      refine zt_top (y := nI (zlw fr n (t + 1))) (by rw [hlw]) ?_
                      refine lv_goto (tgt := 807) hx hb dL_law_802 (by decide) ?_
                      refine lv_istore (lv' := [(10, .int (nI (zlw fr n (t + 1)))), (12, .int (zb (zal (fun t => zmv fr n t) (t + 1)))), (0, .ref b), (1, .ref o), (2, .int 1), (3, .int (nI nc)), (4, .int (nI i)), (6, .ref a3), (7, .int (nI n)), (9, .int (nI (ztr fr n))), (11, .int (nI (zhi fr n t))), (13, .int (nI t)), (14, .int (nI (zchg fr n t))), (15, .int (zb (zmv fr n t)))]) hx hb dL_law_807 hl (by decide) rfl (fun ls hl => ?_)
                      refine lv_iload hx hb dL_law_809 (lv_at hl 12 rfl) ?_
                      refine lv_iload hx hb dL_law_811 (lv_at hl 10 rfl) ?_
                      refine lv_icmp_le (tgt := 821) hx hb dL_law_813 (by decide) (fun c813 => ?_) (fun c813 => ?_)
                      · skip
                        have hhi : zhi fr n (t + 1) = zhi fr n t := by rw [← zhi_i2 fr n t, if_neg (fun q => absurd ((nI_leI (by omega) (by omega)).mp c813) (by omega))]
                        refine lv_iload hx hb dL_law_821 (lv_at hl 10 rfl) ?_
                        refine zt_top (y := nI (zhi fr n (t + 1))) (by rw [hhi]) ?_
                        refine lv_istore (lv' := [(11, .int (nI (zhi fr n (t + 1)))), (10, .int (nI (zlw fr n (t + 1)))), (12, .int (zb (zal (fun t => zmv fr n t) (t + 1)))), (0, .ref b), (1, .ref o), (2, .int 1), (3, .int (nI nc)), (4, .int (nI i)), (6, .ref a3), (7, .int (nI n)), (9, .int (nI (ztr fr n))), (13, .int (nI t)), (14, .int (nI (zchg fr n t))), (15, .int (zb (zmv fr n t)))]) hx hb dL_law_823 hl (by decide) rfl (fun ls hl => ?_)
                        refine lv_iload_n hx hb dL_law_825 rfl (lv_at hl 5 rfl) ?_
                        refine lv_aload_n hx hb dL_law_826 rfl (lv_at hl 4 rfl) ?_
                        refine lv_iload_n hx hb dL_law_827 rfl (lv_at hl 6 rfl) ?_
                        refine lv_iload hx hb dL_law_828 (lv_at hl 11 rfl) ?_
                        refine va_calli (vx_runSW (As := [.ref o, .int (nI nc), .int (nI t)]) (rest := [.int 1]) ⟨hx, hb, hml, hown, hts⟩ (w_changes l dC dI H.size cI cC o a0 a1 a2 tc (nc + 1) ad h0 h1 h2 n (ztr fr n) fr (zpl fr n) nc t (by omega) (by omega) had htT (by omega) (by omega)) (vx_cwSW 3 hts gL_law_L_changes rfl rfl rfl (by decide +kernel) ⟨Nat.le_of_ble_eq_true rfl, Nat.le_of_ble_eq_true rfl⟩) ⟨zfbN, zpreN (hP.sub (ws' := [(o, .inr (6, [.ref a0, .int tc, .ref a1, .int (nI (nc + 1)), .null, .int 40, .int 48, .int 0, .ref a2])), (a1, .inl (cC, 4, .inr (.inr (.inr (.inr ad))))), (h0, .inr (0, [.ref h1, .int (nI (ztr fr n)), .ref h2])), (h1, .inl (cI, n, .inl fr)), (h2, .inl (cI, 256, .inl (zpl fr n)))]) [0, 2, 4, 5, 6] rfl) (hK.sub (tys' := [(cI, .int), (cC, (.object RX0))]) [0, 1] rfl) (zX_N hE)⟩ rfl rfl hl.1 rfl (lv_room (Nat.le_of_ble_eq_true rfl)) dL_law_830 ⟨(show cn + 0 ≤ 679936 by omega), (show sn + 0 ≤ 7061659 by omega)⟩) hS (fun q h1 h2 => absurd h2 (Nat.not_le.mpr h1)) (fun q h => hA q (Nat.le_trans hS.1 h)) (fun r9 u9 t9 H1 locs ht hvm hw hB hz1 hk1 hS => ?_)
                        have hw : r9 = nI (zchg fr n t) := hw
                        subst hw
                        have hP := zr_keep hP hk1
                        clear hk1 hz1 hB ht hvm hw
                        refine lv_iload hx hb dL_law_833 (lv_at hl 12 rfl) ?_
                        refine lv_icmp_ne (tgt := 842) hx hb dL_law_835 (by decide) (fun c => absurd c (fun q => q rfl)) (fun c835 => ?_)
                        refine lv_iconst (v := 1) hx hb dL_law_838 (by decide) ?_
                        refine lv_goto (tgt := 843) hx hb dL_law_839 (by decide) ?_
                        refine lv_iand hx hb dL_law_843 ?_
                        refine zt_top (y := 1) (z11) ?_
                        refine lv_istore_n (lv' := [(2, .int 1), (11, .int (nI (zhi fr n (t + 1)))), (10, .int (nI (zlw fr n (t + 1)))), (12, .int (zb (zal (fun t => zmv fr n t) (t + 1)))), (0, .ref b), (1, .ref o), (3, .int (nI nc)), (4, .int (nI i)), (6, .ref a3), (7, .int (nI n)), (9, .int (nI (ztr fr n))), (13, .int (nI t)), (14, .int (nI (zchg fr n t))), (15, .int (zb (zmv fr n t)))]) hx hb dL_law_844 rfl hl (by decide) rfl (fun ls hl => ?_)
                        refine lv_iinc (v := nI (t + 1)) (lv' := [(13, .int (nI (t + 1))), (2, .int 1), (11, .int (nI (zhi fr n (t + 1)))), (10, .int (nI (zlw fr n (t + 1)))), (12, .int (zb (zal (fun t => zmv fr n t) (t + 1)))), (0, .ref b), (1, .ref o), (3, .int (nI nc)), (4, .int (nI i)), (6, .ref a3), (7, .int (nI n)), (9, .int (nI (ztr fr n))), (14, .int (nI (zchg fr n t))), (15, .int (zb (zmv fr n t)))]) hx hb dL_law_845 hl (k := 11) rfl (nI_1 t) (by decide) rfl (fun ls hl => ?_)
                        refine lv_goto (tgt := 641) hx hb dL_law_848 (by decide) ?_
                        exact ih (t + 1) (by omega) (by omega) _ _ hP hS ls (lv_sub hl [5, 6, 1, 7, 8, 9, 10, 11, 3, 2, 4, 0] rfl)
                      · skip
                        have hhi : zhi fr n (t + 1) = zchg fr n t := by rw [← zhi_i2 fr n t, if_pos (Nat.lt_of_not_le (fun q => c813 ((nI_leI (by omega) (by omega)).mpr q)))]
                        refine lv_iload hx hb dL_law_816 (lv_at hl 12 rfl) ?_
                        refine zt_top (y := nI (zhi fr n (t + 1))) (by rw [hhi]) ?_
                        refine lv_goto (tgt := 823) hx hb dL_law_818 (by decide) ?_
                        refine lv_istore (lv' := [(11, .int (nI (zhi fr n (t + 1)))), (10, .int (nI (zlw fr n (t + 1)))), (12, .int (zb (zal (fun t => zmv fr n t) (t + 1)))), (0, .ref b), (1, .ref o), (2, .int 1), (3, .int (nI nc)), (4, .int (nI i)), (6, .ref a3), (7, .int (nI n)), (9, .int (nI (ztr fr n))), (13, .int (nI t)), (14, .int (nI (zchg fr n t))), (15, .int (zb (zmv fr n t)))]) hx hb dL_law_823 hl (by decide) rfl (fun ls hl => ?_)
                        refine lv_iload_n hx hb dL_law_825 rfl (lv_at hl 5 rfl) ?_
                        refine lv_aload_n hx hb dL_law_826 rfl (lv_at hl 4 rfl) ?_
                        refine lv_iload_n hx hb dL_law_827 rfl (lv_at hl 6 rfl) ?_
                        refine lv_iload hx hb dL_law_828 (lv_at hl 11 rfl) ?_
                        refine va_calli (vx_runSW (As := [.ref o, .int (nI nc), .int (nI t)]) (rest := [.int 1]) ⟨hx, hb, hml, hown, hts⟩ (w_changes l dC dI H.size cI cC o a0 a1 a2 tc (nc + 1) ad h0 h1 h2 n (ztr fr n) fr (zpl fr n) nc t (by omega) (by omega) had htT (by omega) (by omega)) (vx_cwSW 3 hts gL_law_L_changes rfl rfl rfl (by decide +kernel) ⟨Nat.le_of_ble_eq_true rfl, Nat.le_of_ble_eq_true rfl⟩) ⟨zfbN, zpreN (hP.sub (ws' := [(o, .inr (6, [.ref a0, .int tc, .ref a1, .int (nI (nc + 1)), .null, .int 40, .int 48, .int 0, .ref a2])), (a1, .inl (cC, 4, .inr (.inr (.inr (.inr ad))))), (h0, .inr (0, [.ref h1, .int (nI (ztr fr n)), .ref h2])), (h1, .inl (cI, n, .inl fr)), (h2, .inl (cI, 256, .inl (zpl fr n)))]) [0, 2, 4, 5, 6] rfl) (hK.sub (tys' := [(cI, .int), (cC, (.object RX0))]) [0, 1] rfl) (zX_N hE)⟩ rfl rfl hl.1 rfl (lv_room (Nat.le_of_ble_eq_true rfl)) dL_law_830 ⟨(show cn + 0 ≤ 679936 by omega), (show sn + 0 ≤ 7061659 by omega)⟩) hS (fun q h1 h2 => absurd h2 (Nat.not_le.mpr h1)) (fun q h => hA q (Nat.le_trans hS.1 h)) (fun r9 u9 t9 H1 locs ht hvm hw hB hz1 hk1 hS => ?_)
                        have hw : r9 = nI (zchg fr n t) := hw
                        subst hw
                        have hP := zr_keep hP hk1
                        clear hk1 hz1 hB ht hvm hw
                        refine lv_iload hx hb dL_law_833 (lv_at hl 12 rfl) ?_
                        refine lv_icmp_ne (tgt := 842) hx hb dL_law_835 (by decide) (fun c => absurd c (fun q => q rfl)) (fun c835 => ?_)
                        refine lv_iconst (v := 1) hx hb dL_law_838 (by decide) ?_
                        refine lv_goto (tgt := 843) hx hb dL_law_839 (by decide) ?_
                        refine lv_iand hx hb dL_law_843 ?_
                        refine zt_top (y := 1) (z11) ?_
                        refine lv_istore_n (lv' := [(2, .int 1), (11, .int (nI (zhi fr n (t + 1)))), (10, .int (nI (zlw fr n (t + 1)))), (12, .int (zb (zal (fun t => zmv fr n t) (t + 1)))), (0, .ref b), (1, .ref o), (3, .int (nI nc)), (4, .int (nI i)), (6, .ref a3), (7, .int (nI n)), (9, .int (nI (ztr fr n))), (13, .int (nI t)), (14, .int (nI (zchg fr n t))), (15, .int (zb (zmv fr n t)))]) hx hb dL_law_844 rfl hl (by decide) rfl (fun ls hl => ?_)
                        refine lv_iinc (v := nI (t + 1)) (lv' := [(13, .int (nI (t + 1))), (2, .int 1), (11, .int (nI (zhi fr n (t + 1)))), (10, .int (nI (zlw fr n (t + 1)))), (12, .int (zb (zal (fun t => zmv fr n t) (t + 1)))), (0, .ref b), (1, .ref o), (3, .int (nI nc)), (4, .int (nI i)), (6, .ref a3), (7, .int (nI n)), (9, .int (nI (ztr fr n))), (14, .int (nI (zchg fr n t))), (15, .int (zb (zmv fr n t)))]) hx hb dL_law_845 hl (k := 11) rfl (nI_1 t) (by decide) rfl (fun ls hl => ?_)
                        refine lv_goto (tgt := 641) hx hb dL_law_848 (by decide) ?_
                        exact ih (t + 1) (by omega) (by omega) _ _ hP hS ls (lv_sub hl [5, 6, 1, 7, 8, 9, 10, 11, 3, 2, 4, 0] rfl)
                  · skip
                    have hyn : y < n := Nat.lt_of_not_le (fun q => c715 ((nI_leI (by omega) (by omega)).mpr q))
                    refine lv_iconst (v := 1) hx hb dL_law_718 (by decide) ?_
                    refine lv_istore (lv' := [(17, .int 1), (0, .ref b), (1, .ref o), (2, .int 1), (3, .int (nI nc)), (4, .int (nI i)), (6, .ref a3), (7, .int (nI n)), (9, .int (nI (ztr fr n))), (10, .int (nI (zlw fr n t))), (11, .int (nI (zhi fr n t))), (12, .int (zb (zal (fun t => zmv fr n t) t))), (13, .int (nI t)), (14, .int (nI (zchg fr n t))), (15, .int (zb (zex (fun b => zft fr n t b) y))), (16, .int (nI y))]) hx hb dL_law_719 hl (by decide) rfl (fun ls hl => ?_)
                    refine lv_iconst (v := 0) hx hb dL_law_721 (by decide) ?_
                    refine lv_istore (lv' := [(18, .int 0), (17, .int 1), (0, .ref b), (1, .ref o), (2, .int 1), (3, .int (nI nc)), (4, .int (nI i)), (6, .ref a3), (7, .int (nI n)), (9, .int (nI (ztr fr n))), (10, .int (nI (zlw fr n t))), (11, .int (nI (zhi fr n t))), (12, .int (zb (zal (fun t => zmv fr n t) t))), (13, .int (nI t)), (14, .int (nI (zchg fr n t))), (15, .int (zb (zex (fun b => zft fr n t b) y))), (16, .int (nI y))]) hx hb dL_law_722 hl (by decide) rfl (fun ls hl => ?_)
                    have loopk : ∀ (d4 : Nat) (k : Nat), n + 1 ≤ k + d4 → k ≤ n → ∀ (H : Heap) (locs : List Loc), va_P (dC, dI) vwCl ([(o, .inr (6, [.ref a0, .int tc, .ref a1, .int (nI (nc + 1)), .null, .int 40, .int 48, .int 0, .ref a2])), (a0, .inl (cI, 64, .inl ft)), (a1, .inl (cC, 4, .inr (.inr (.inr (.inr ad))))), (a3, .inl (cI, 64, .inl fr)), (h0, .inr (0, [.ref h1, .int (nI (ztr fr n)), .ref h2])), (h1, .inl (cI, n, .inl fr)), (h2, .inl (cI, 256, .inl (zpl fr n)))] ++ X) H → va_S (zq s.heap.size) s.heap H locs → ∀ ls : Array Slot, lv_has ls 19 [(0, .ref b), (1, .ref o), (2, .int 1), (3, .int (nI nc)), (4, .int (nI i)), (6, .ref a3), (7, .int (nI n)), (9, .int (nI (ztr fr n))), (10, .int (nI (zlw fr n t))), (11, .int (nI (zhi fr n t))), (12, .int (zb (zal (fun t => zmv fr n t) t))), (13, .int (nI t)), (14, .int (nI (zchg fr n t))), (15, .int (zb (zex (fun b => zft fr n t b) y))), (16, .int (nI y)), (17, .int (zb (zal (fun k => decide (zmk fr k t = zmk fr ((k + y) % n) 0)) k))), (18, .int (nI k))] → W p l e room_1 s m #[Value.ref b] below meth c H locs cn sn Q (F0 m 724 ls []) := by
                      intro d4
                      induction d4 with
                      | zero => intro k hd4 hk4; exact absurd hd4 (by omega)
                      | succ d4 ihg =>
                        intro k hd4 hk4 H locs hP hS ls hl
                        refine lv_iload hx hb dL_law_724 (lv_at hl 16 rfl) ?_
                        refine lv_iload hx hb dL_law_726 (lv_at hl 6 rfl) ?_
                        refine lv_icmp_ge (tgt := 773) hx hb dL_law_728 (by decide) (fun c728 => ?_) (fun c728 => ?_)
                        · skip
                          have hkn4 : k = n := Nat.le_antisymm hk4 ((nI_leI (by omega) (by omega)).mp c728)
                          rw [hkn4] at hl
                          have hl : lv_has ls 19 [(0, .ref b), (1, .ref o), (2, .int 1), (3, .int (nI nc)), (4, .int (nI i)), (6, .ref a3), (7, .int (nI n)), (9, .int (nI (ztr fr n))), (10, .int (nI (zlw fr n t))), (11, .int (nI (zhi fr n t))), (12, .int (zb (zal (fun t => zmv fr n t) t))), (13, .int (nI t)), (14, .int (nI (zchg fr n t))), (15, .int (zb (zex (fun b => zft fr n t b) y))), (16, .int (nI y)), (17, .int (zb (zft fr n t y)))] := lv_sub hl [0, 1, 2, 3, 4, 5, 6, 7, 8, 9, 10, 11, 12, 13, 14, 15] rfl
                          refine lv_iload hx hb dL_law_773 (lv_at hl 13 rfl) ?_
                          refine lv_iload hx hb dL_law_775 (lv_at hl 15 rfl) ?_
                          refine lv_ior hx hb dL_law_777 ?_
                          refine zt_top (y := zb (zex (fun b => zft fr n t b) (y + 1))) (zb_or) ?_
                          refine lv_istore (lv' := [(15, .int (zb (zex (fun b => zft fr n t b) (y + 1)))), (0, .ref b), (1, .ref o), (2, .int 1), (3, .int (nI nc)), (4, .int (nI i)), (6, .ref a3), (7, .int (nI n)), (9, .int (nI (ztr fr n))), (10, .int (nI (zlw fr n t))), (11, .int (nI (zhi fr n t))), (12, .int (zb (zal (fun t => zmv fr n t) t))), (13, .int (nI t)), (14, .int (nI (zchg fr n t))), (16, .int (nI y)), (17, .int (zb (zft fr n t y)))]) hx hb dL_law_778 hl (by decide) rfl (fun ls hl => ?_)
                          refine lv_iinc (v := nI (y + 1)) (lv' := [(16, .int (nI (y + 1))), (15, .int (zb (zex (fun b => zft fr n t b) (y + 1)))), (0, .ref b), (1, .ref o), (2, .int 1), (3, .int (nI nc)), (4, .int (nI i)), (6, .ref a3), (7, .int (nI n)), (9, .int (nI (ztr fr n))), (10, .int (nI (zlw fr n t))), (11, .int (nI (zhi fr n t))), (12, .int (zb (zal (fun t => zmv fr n t) t))), (13, .int (nI t)), (14, .int (nI (zchg fr n t))), (17, .int (zb (zft fr n t y)))]) hx hb dL_law_780 hl (k := 14) rfl (nI_1 y) (by decide) rfl (fun ls hl => ?_)
                          refine lv_goto (tgt := 711) hx hb dL_law_783 (by decide) ?_
                          exact ihf (y + 1) (by omega) (by omega) _ _ hP hS ls (lv_sub hl [2, 3, 4, 5, 6, 7, 8, 9, 10, 11, 12, 13, 14, 1, 0] rfl)
                        · skip
                          have hkn4 : k < n := Nat.lt_of_not_le (fun q => c728 ((nI_leI (by omega) (by omega)).mpr q))
                          refine lv_iload hx hb dL_law_731 (lv_at hl 15 rfl) ?_
                          refine lv_aload hx hb dL_law_733 (lv_at hl 5 rfl) ?_
                          refine lv_iload hx hb dL_law_735 (lv_at hl 16 rfl) ?_
                          refine va_iald hx hb hK hP 3 0 rfl rfl (vp_in_nI (by omega) (by decide)) dL_law_737 ?_
                          refine zt_top (y := fr k) (by rw [nI_clamp (by omega)]) ?_
                          refine lv_iload hx hb dL_law_738 (lv_at hl 11 rfl) ?_
                          refine lv_ishr hx hb dL_law_740 ?_
                          refine lv_iconst (v := 1) hx hb dL_law_741 (by decide) ?_
                          refine lv_iand hx hb dL_law_742 ?_
                          refine zt_top (y := zmk fr k t) (rfl) ?_
                          refine lv_aload hx hb dL_law_743 (lv_at hl 5 rfl) ?_
                          refine lv_iload hx hb dL_law_745 (lv_at hl 16 rfl) ?_
                          refine lv_iload hx hb dL_law_747 (lv_at hl 14 rfl) ?_
                          refine lv_iadd hx hb dL_law_749 ?_
                          refine zt_top (y := nI (k + y)) (nI_add k y) ?_
                          refine lv_iload hx hb dL_law_750 (lv_at hl 6 rfl) ?_
                          refine lv_irem hx hb dL_law_752 (nI_ne0 (by omega) (by omega)) ?_
                          refine zt_top (y := nI ((k + y) % n)) (pk_rem (by omega) (by omega) (by omega)) ?_
                          refine va_iald hx hb hK hP 3 0 rfl rfl (vp_in_nI (Nat.lt_of_lt_of_le (Nat.mod_lt _ (by omega)) (by omega)) (by decide)) dL_law_753 ?_
                          refine zt_top (y := fr ((k + y) % n)) (by rw [nI_clamp (Nat.lt_of_lt_of_le (Nat.mod_lt _ (by omega)) (by omega))]) ?_
                          refine lv_iconst (v := 1) hx hb dL_law_754 (by decide) ?_
                          refine lv_iand hx hb dL_law_755 ?_
                          refine zt_top (y := zmk fr ((k + y) % n) 0) ((zmk_0 fr _).symm) ?_
                          refine lv_icmp_ne (tgt := 763) hx hb dL_law_756 (by decide) (fun c756 => ?_) (fun c756 => ?_)
                          · skip
                            have ec : decide (zmk fr k t = zmk fr ((k + y) % n) 0) = false := decide_eq_false c756
                            refine lv_iconst (v := 0) hx hb dL_law_763 (by decide) ?_
                            refine lv_iand hx hb dL_law_764 ?_
                            refine zt_top (y := zb (zal (fun k => decide (zmk fr k t = zmk fr ((k + y) % n) 0)) (k + 1))) (by rw [zal, ec]; exact zb_and (b := false)) ?_
                            refine lv_istore (lv' := [(17, .int (zb (zal (fun k => decide (zmk fr k t = zmk fr ((k + y) % n) 0)) (k + 1)))), (0, .ref b), (1, .ref o), (2, .int 1), (3, .int (nI nc)), (4, .int (nI i)), (6, .ref a3), (7, .int (nI n)), (9, .int (nI (ztr fr n))), (10, .int (nI (zlw fr n t))), (11, .int (nI (zhi fr n t))), (12, .int (zb (zal (fun t => zmv fr n t) t))), (13, .int (nI t)), (14, .int (nI (zchg fr n t))), (15, .int (zb (zex (fun b => zft fr n t b) y))), (16, .int (nI y)), (18, .int (nI k))]) hx hb dL_law_765 hl (by decide) rfl (fun ls hl => ?_)
                            refine lv_iinc (v := nI (k + 1)) (lv' := [(18, .int (nI (k + 1))), (17, .int (zb (zal (fun k => decide (zmk fr k t = zmk fr ((k + y) % n) 0)) (k + 1)))), (0, .ref b), (1, .ref o), (2, .int 1), (3, .int (nI nc)), (4, .int (nI i)), (6, .ref a3), (7, .int (nI n)), (9, .int (nI (ztr fr n))), (10, .int (nI (zlw fr n t))), (11, .int (nI (zhi fr n t))), (12, .int (zb (zal (fun t => zmv fr n t) t))), (13, .int (nI t)), (14, .int (nI (zchg fr n t))), (15, .int (zb (zex (fun b => zft fr n t b) y))), (16, .int (nI y))]) hx hb dL_law_767 hl (k := 16) rfl (nI_1 k) (by decide) rfl (fun ls hl => ?_)
                            refine lv_goto (tgt := 724) hx hb dL_law_770 (by decide) ?_
                            exact ihg (k + 1) (by omega) (by omega) _ _ hP hS ls (lv_sub hl [2, 3, 4, 5, 6, 7, 8, 9, 10, 11, 12, 13, 14, 15, 16, 1, 0] rfl)
                          · skip
                            have ec : decide (zmk fr k t = zmk fr ((k + y) % n) 0) = true := decide_eq_true c756
                            refine lv_iconst (v := 1) hx hb dL_law_759 (by decide) ?_
                            refine lv_goto (tgt := 764) hx hb dL_law_760 (by decide) ?_
                            refine lv_iand hx hb dL_law_764 ?_
                            refine zt_top (y := zb (zal (fun k => decide (zmk fr k t = zmk fr ((k + y) % n) 0)) (k + 1))) (by rw [zal, ec]; exact zb_and (b := true)) ?_
                            refine lv_istore (lv' := [(17, .int (zb (zal (fun k => decide (zmk fr k t = zmk fr ((k + y) % n) 0)) (k + 1)))), (0, .ref b), (1, .ref o), (2, .int 1), (3, .int (nI nc)), (4, .int (nI i)), (6, .ref a3), (7, .int (nI n)), (9, .int (nI (ztr fr n))), (10, .int (nI (zlw fr n t))), (11, .int (nI (zhi fr n t))), (12, .int (zb (zal (fun t => zmv fr n t) t))), (13, .int (nI t)), (14, .int (nI (zchg fr n t))), (15, .int (zb (zex (fun b => zft fr n t b) y))), (16, .int (nI y)), (18, .int (nI k))]) hx hb dL_law_765 hl (by decide) rfl (fun ls hl => ?_)
                            refine lv_iinc (v := nI (k + 1)) (lv' := [(18, .int (nI (k + 1))), (17, .int (zb (zal (fun k => decide (zmk fr k t = zmk fr ((k + y) % n) 0)) (k + 1)))), (0, .ref b), (1, .ref o), (2, .int 1), (3, .int (nI nc)), (4, .int (nI i)), (6, .ref a3), (7, .int (nI n)), (9, .int (nI (ztr fr n))), (10, .int (nI (zlw fr n t))), (11, .int (nI (zhi fr n t))), (12, .int (zb (zal (fun t => zmv fr n t) t))), (13, .int (nI t)), (14, .int (nI (zchg fr n t))), (15, .int (zb (zex (fun b => zft fr n t b) y))), (16, .int (nI y))]) hx hb dL_law_767 hl (k := 16) rfl (nI_1 k) (by decide) rfl (fun ls hl => ?_)
                            refine lv_goto (tgt := 724) hx hb dL_law_770 (by decide) ?_
                            exact ihg (k + 1) (by omega) (by omega) _ _ hP hS ls (lv_sub hl [2, 3, 4, 5, 6, 7, 8, 9, 10, 11, 12, 13, 14, 15, 16, 1, 0] rfl)
                    exact loopk (n + 1) 0 (by omega) (Nat.zero_le _) _ _ hP hS ls (lv_sub hl [2, 3, 4, 5, 6, 7, 8, 9, 10, 11, 12, 13, 14, 15, 16, 1, 0] rfl)
              exact loopb (n + 1) 0 (by omega) (Nat.zero_le _) _ _ hP hS ls (lv_sub hl [2, 3, 4, 5, 6, 7, 8, 9, 10, 11, 12, 13, 14, 1, 0] rfl)
            · skip
              have hkn : k < n := Nat.lt_of_not_le (fun q => c658 ((nI_leI (by omega) (by omega)).mpr q))
              refine lv_iload hx hb dL_law_661 (lv_at hl 12 rfl) ?_
              refine lv_aload hx hb dL_law_663 (lv_at hl 5 rfl) ?_
              refine lv_iload hx hb dL_law_665 (lv_at hl 13 rfl) ?_
              refine va_iald hx hb hK hP 3 0 rfl rfl (vp_in_nI (by omega) (by decide)) dL_law_667 ?_
              refine zt_top (y := fr k) (by rw [nI_clamp (by omega)]) ?_
              refine lv_iload hx hb dL_law_668 (lv_at hl 11 rfl) ?_
              refine lv_ishr hx hb dL_law_670 ?_
              refine lv_iconst (v := 1) hx hb dL_law_671 (by decide) ?_
              refine lv_iand hx hb dL_law_672 ?_
              refine zt_top (y := zmk fr k t) (rfl) ?_
              refine lv_aload hx hb dL_law_673 (lv_at hl 5 rfl) ?_
              refine lv_iload hx hb dL_law_675 (lv_at hl 13 rfl) ?_
              refine lv_iconst (v := 1) hx hb dL_law_677 (by decide) ?_
              refine lv_iadd hx hb dL_law_678 ?_
              refine zt_top (y := nI (k + 1)) (nI_1 k) ?_
              refine lv_iload hx hb dL_law_679 (lv_at hl 6 rfl) ?_
              refine lv_irem hx hb dL_law_681 (nI_ne0 (by omega) (by omega)) ?_
              refine zt_top (y := nI ((k + 1) % n)) (pk_rem (by omega) (by omega) (by omega)) ?_
              refine va_iald hx hb hK hP 3 0 rfl rfl (vp_in_nI (Nat.lt_of_lt_of_le (Nat.mod_lt _ (by omega)) (by omega)) (by decide)) dL_law_682 ?_
              refine zt_top (y := fr ((k + 1) % n)) (by rw [nI_clamp (Nat.lt_of_lt_of_le (Nat.mod_lt _ (by omega)) (by omega))]) ?_
              refine lv_iload hx hb dL_law_683 (lv_at hl 11 rfl) ?_
              refine lv_ishr hx hb dL_law_685 ?_
              refine lv_iconst (v := 1) hx hb dL_law_686 (by decide) ?_
              refine lv_iand hx hb dL_law_687 ?_
              refine zt_top (y := zmk fr ((k + 1) % n) t) (rfl) ?_
              refine lv_icmp_ne (tgt := 695) hx hb dL_law_688 (by decide) (fun c688 => ?_) (fun c688 => ?_)
              · skip
                have ec := zct_t (p := (fun k => decide (¬ zmk fr k t = zmk fr ((k + 1) % n) t))) (n := k) (decide_eq_true c688)
                refine lv_iconst (v := 1) hx hb dL_law_695 (by decide) ?_
                refine lv_iadd hx hb dL_law_696 ?_
                refine zt_top (y := nI (zct (fun k => decide (¬ zmk fr k t = zmk fr ((k + 1) % n) t)) (k + 1))) (by rw [ec]; exact nI_1 _) ?_
                refine lv_istore (lv' := [(14, .int (nI (zct (fun k => decide (¬ zmk fr k t = zmk fr ((k + 1) % n) t)) (k + 1)))), (0, .ref b), (1, .ref o), (2, .int 1), (3, .int (nI nc)), (4, .int (nI i)), (6, .ref a3), (7, .int (nI n)), (9, .int (nI (ztr fr n))), (10, .int (nI (zlw fr n t))), (11, .int (nI (zhi fr n t))), (12, .int (zb (zal (fun t => zmv fr n t) t))), (13, .int (nI t)), (15, .int (nI k))]) hx hb dL_law_697 hl (by decide) rfl (fun ls hl => ?_)
                refine lv_iinc (v := nI (k + 1)) (lv' := [(15, .int (nI (k + 1))), (14, .int (nI (zct (fun k => decide (¬ zmk fr k t = zmk fr ((k + 1) % n) t)) (k + 1)))), (0, .ref b), (1, .ref o), (2, .int 1), (3, .int (nI nc)), (4, .int (nI i)), (6, .ref a3), (7, .int (nI n)), (9, .int (nI (ztr fr n))), (10, .int (nI (zlw fr n t))), (11, .int (nI (zhi fr n t))), (12, .int (zb (zal (fun t => zmv fr n t) t))), (13, .int (nI t))]) hx hb dL_law_699 hl (k := 13) rfl (nI_1 k) (by decide) rfl (fun ls hl => ?_)
                refine lv_goto (tgt := 654) hx hb dL_law_702 (by decide) ?_
                exact ihe (k + 1) (by omega) (by omega) _ _ hP hS ls (lv_sub hl [2, 3, 4, 5, 6, 7, 8, 9, 10, 11, 12, 13, 1, 0] rfl)
              · skip
                have ec := zct_f (p := (fun k => decide (¬ zmk fr k t = zmk fr ((k + 1) % n) t))) (n := k) (decide_eq_false (not_not_intro c688))
                refine lv_iconst (v := 0) hx hb dL_law_691 (by decide) ?_
                refine lv_goto (tgt := 696) hx hb dL_law_692 (by decide) ?_
                refine lv_iadd hx hb dL_law_696 ?_
                refine zt_top (y := nI (zct (fun k => decide (¬ zmk fr k t = zmk fr ((k + 1) % n) t)) (k + 1))) (by rw [ec]; exact Int32.add_zero _) ?_
                refine lv_istore (lv' := [(14, .int (nI (zct (fun k => decide (¬ zmk fr k t = zmk fr ((k + 1) % n) t)) (k + 1)))), (0, .ref b), (1, .ref o), (2, .int 1), (3, .int (nI nc)), (4, .int (nI i)), (6, .ref a3), (7, .int (nI n)), (9, .int (nI (ztr fr n))), (10, .int (nI (zlw fr n t))), (11, .int (nI (zhi fr n t))), (12, .int (zb (zal (fun t => zmv fr n t) t))), (13, .int (nI t)), (15, .int (nI k))]) hx hb dL_law_697 hl (by decide) rfl (fun ls hl => ?_)
                refine lv_iinc (v := nI (k + 1)) (lv' := [(15, .int (nI (k + 1))), (14, .int (nI (zct (fun k => decide (¬ zmk fr k t = zmk fr ((k + 1) % n) t)) (k + 1)))), (0, .ref b), (1, .ref o), (2, .int 1), (3, .int (nI nc)), (4, .int (nI i)), (6, .ref a3), (7, .int (nI n)), (9, .int (nI (ztr fr n))), (10, .int (nI (zlw fr n t))), (11, .int (nI (zhi fr n t))), (12, .int (zb (zal (fun t => zmv fr n t) t))), (13, .int (nI t))]) hx hb dL_law_699 hl (k := 13) rfl (nI_1 k) (by decide) rfl (fun ls hl => ?_)
                refine lv_goto (tgt := 654) hx hb dL_law_702 (by decide) ?_
                exact ihe (k + 1) (by omega) (by omega) _ _ hP hS ls (lv_sub hl [2, 3, 4, 5, 6, 7, 8, 9, 10, 11, 12, 13, 1, 0] rfl)
        exact loopc (n + 1) 0 (by omega) (Nat.zero_le _) _ _ hP hS ls (lv_sub hl [2, 3, 4, 5, 6, 7, 8, 9, 10, 11, 12, 13, 1, 0] rfl)
  exact loop ((ztr fr n) + 1) 0 (by omega) (Nat.zero_le _) _ _ hP hS ls (lv_sub hl [4, 5, 6, 7, 8, 9, 10, 11, 3, 2, 1, 0] rfl)


end ZV
end
