section
-- ===== PART A: goes FIRST, ahead of the names: the tables' words, and 'selects' of the private methods out of them =====
/-- a private method of a class that the tables say can be made, by its rows of tables_1 -/
def lw_okq (q : MethodName × Nat) : Prop := (q.1.cls ≠ "java/lang/invoke/MethodHandle" ∧ q.1.cls ≠ "java/lang/invoke/VarHandle") ∧ Cond.instantiable q.1.cls q.2 ∈ tables_1 ∧ Cond.privateMethod q.1 ∈ tables_1 ∧ Cond.instanceMethod q.1 ∈ tables_1
theorem lw_p0 : lw_okq (⟨"CallForker", "rowOf", "(I)LCallForker$BindingRow;"⟩, 7) := ⟨⟨by decide +kernel, by decide +kernel⟩, List.mem_of_getElem? (i := 12) (by decide +kernel), List.mem_of_getElem? (i := 119) (by decide +kernel), List.mem_of_getElem? (i := 120) (by decide +kernel)⟩
theorem lw_p1 : lw_okq (⟨"java/lang/Throwable", "fillInStackTrace", "(I)Ljava/lang/Throwable;"⟩, 6) := ⟨⟨by decide +kernel, by decide +kernel⟩, List.mem_of_getElem? (i := 164) (by decide +kernel), List.mem_of_getElem? (i := 162) (by decide +kernel), List.mem_of_getElem? (i := 163) (by decide +kernel)⟩
theorem lw_p2 : lw_okq (⟨"CallForker", "followUser", "(LCallForker$Call;III)V"⟩, 7) := ⟨⟨by decide +kernel, by decide +kernel⟩, List.mem_of_getElem? (i := 12) (by decide +kernel), List.mem_of_getElem? (i := 291) (by decide +kernel), List.mem_of_getElem? (i := 292) (by decide +kernel)⟩
theorem lw_p3 : lw_okq (⟨"CallForker$Call", "add", "(III)V"⟩, 10) := ⟨⟨by decide +kernel, by decide +kernel⟩, List.mem_of_getElem? (i := 49) (by decide +kernel), List.mem_of_getElem? (i := 304) (by decide +kernel), List.mem_of_getElem? (i := 305) (by decide +kernel)⟩
theorem lw_p4 : lw_okq (⟨"CallForker", "comeToUser", "(LCallForker$Call;III)V"⟩, 7) := ⟨⟨by decide +kernel, by decide +kernel⟩, List.mem_of_getElem? (i := 12) (by decide +kernel), List.mem_of_getElem? (i := 308) (by decide +kernel), List.mem_of_getElem? (i := 309) (by decide +kernel)⟩
theorem lw_p5 : lw_okq (⟨"CallForker", "isOnWay", "(II)Z"⟩, 7) := ⟨⟨by decide +kernel, by decide +kernel⟩, List.mem_of_getElem? (i := 12) (by decide +kernel), List.mem_of_getElem? (i := 312) (by decide +kernel), List.mem_of_getElem? (i := 313) (by decide +kernel)⟩
theorem lw_p6 : lw_okq (⟨"CallForker$Call", "goOn", "(I)V"⟩, 10) := ⟨⟨by decide +kernel, by decide +kernel⟩, List.mem_of_getElem? (i := 49) (by decide +kernel), List.mem_of_getElem? (i := 324) (by decide +kernel), List.mem_of_getElem? (i := 325) (by decide +kernel)⟩
theorem lw_p7 : lw_okq (⟨"CallForker$Call", "isWaiting", "()Z"⟩, 10) := ⟨⟨by decide +kernel, by decide +kernel⟩, List.mem_of_getElem? (i := 49) (by decide +kernel), List.mem_of_getElem? (i := 328) (by decide +kernel), List.mem_of_getElem? (i := 329) (by decide +kernel)⟩
theorem lw_p8 : lw_okq (⟨"CallForker$Call", "startGroup", "(II)V"⟩, 10) := ⟨⟨by decide +kernel, by decide +kernel⟩, List.mem_of_getElem? (i := 49) (by decide +kernel), List.mem_of_getElem? (i := 340) (by decide +kernel), List.mem_of_getElem? (i := 341) (by decide +kernel)⟩
theorem lw_p9 : lw_okq (⟨"CallForker$Call", "bestEnd", "()I"⟩, 10) := ⟨⟨by decide +kernel, by decide +kernel⟩, List.mem_of_getElem? (i := 49) (by decide +kernel), List.mem_of_getElem? (i := 344) (by decide +kernel), List.mem_of_getElem? (i := 345) (by decide +kernel)⟩
theorem lw_p10 : lw_okq (⟨"CallForker", "callAt", "(I)LCallForker$Call;"⟩, 7) := ⟨⟨by decide +kernel, by decide +kernel⟩, List.mem_of_getElem? (i := 12) (by decide +kernel), List.mem_of_getElem? (i := 358) (by decide +kernel), List.mem_of_getElem? (i := 359) (by decide +kernel)⟩
theorem lw_p11 : lw_okq (⟨"CallForker", "callWith", "(II)LCallForker$Call;"⟩, 7) := ⟨⟨by decide +kernel, by decide +kernel⟩, List.mem_of_getElem? (i := 12) (by decide +kernel), List.mem_of_getElem? (i := 375) (by decide +kernel), List.mem_of_getElem? (i := 376) (by decide +kernel)⟩
theorem lw_p12 : lw_okq (⟨"CallForker$Call", "endOpen", "()I"⟩, 10) := ⟨⟨by decide +kernel, by decide +kernel⟩, List.mem_of_getElem? (i := 49) (by decide +kernel), List.mem_of_getElem? (i := 404) (by decide +kernel), List.mem_of_getElem? (i := 405) (by decide +kernel)⟩
theorem lw_p13 : lw_okq (⟨"CallForker$Call", "sortEnds", "([I)I"⟩, 10) := ⟨⟨by decide +kernel, by decide +kernel⟩, List.mem_of_getElem? (i := 49) (by decide +kernel), List.mem_of_getElem? (i := 428) (by decide +kernel), List.mem_of_getElem? (i := 429) (by decide +kernel)⟩
theorem lw_p14 : lw_okq (⟨"CallForker", "lookAtCalls", "()I"⟩, 7) := ⟨⟨by decide +kernel, by decide +kernel⟩, List.mem_of_getElem? (i := 12) (by decide +kernel), List.mem_of_getElem? (i := 452) (by decide +kernel), List.mem_of_getElem? (i := 453) (by decide +kernel)⟩
def lw_privs_1 : List (MethodName × Nat) := [(⟨"CallForker", "rowOf", "(I)LCallForker$BindingRow;"⟩, 7), (⟨"java/lang/Throwable", "fillInStackTrace", "(I)Ljava/lang/Throwable;"⟩, 6), (⟨"CallForker", "followUser", "(LCallForker$Call;III)V"⟩, 7), (⟨"CallForker$Call", "add", "(III)V"⟩, 10), (⟨"CallForker", "comeToUser", "(LCallForker$Call;III)V"⟩, 7), (⟨"CallForker", "isOnWay", "(II)Z"⟩, 7), (⟨"CallForker$Call", "goOn", "(I)V"⟩, 10), (⟨"CallForker$Call", "isWaiting", "()Z"⟩, 10), (⟨"CallForker$Call", "startGroup", "(II)V"⟩, 10), (⟨"CallForker$Call", "bestEnd", "()I"⟩, 10), (⟨"CallForker", "callAt", "(I)LCallForker$Call;"⟩, 7), (⟨"CallForker", "callWith", "(II)LCallForker$Call;"⟩, 7), (⟨"CallForker$Call", "endOpen", "()I"⟩, 10), (⟨"CallForker$Call", "sortEnds", "([I)I"⟩, 10), (⟨"CallForker", "lookAtCalls", "()I"⟩, 7)]
theorem lw_r1 : ∀ q ∈ lw_privs_1, lw_okq q := List.forall_mem_cons.mpr ⟨lw_p0, List.forall_mem_cons.mpr ⟨lw_p1, List.forall_mem_cons.mpr ⟨lw_p2, List.forall_mem_cons.mpr ⟨lw_p3, List.forall_mem_cons.mpr ⟨lw_p4, List.forall_mem_cons.mpr ⟨lw_p5, List.forall_mem_cons.mpr ⟨lw_p6, List.forall_mem_cons.mpr ⟨lw_p7, List.forall_mem_cons.mpr ⟨lw_p8, List.forall_mem_cons.mpr ⟨lw_p9, List.forall_mem_cons.mpr ⟨lw_p10, List.forall_mem_cons.mpr ⟨lw_p11, List.forall_mem_cons.mpr ⟨lw_p12, List.forall_mem_cons.mpr ⟨lw_p13, List.forall_mem_cons.mpr ⟨lw_p14, fun _ h => absurd h List.not_mem_nil⟩⟩⟩⟩⟩⟩⟩⟩⟩⟩⟩⟩⟩⟩⟩
def lw_privs : List (MethodName × Nat) := lw_privs_1
def lw_tbl : List Cond := k2_sels lw_privs ++ tables_1
theorem lw_privs_ok : ∀ q ∈ lw_privs, lw_okq q := lw_r1

/-! ===== BEGIN words of one list among another's, by their places ===== -/
theorem goodIn_r {big : List Cond} (ws : List Cond) (ps : List Nat) (hp : ws = ps.filterMap (fun i => big[i]?)) (h : ws.all goodWord = true) : GoodIn big ws := by
  intro w hw
  have h1 := List.all_eq_true.mp h w hw
  rw [hp] at hw
  obtain ⟨i, -, hi⟩ := List.mem_filterMap.mp hw
  have hm : w ∈ big := by first | exact List.mem_of_getElem? hi | exact List.getElem?_mem hi
  exact ⟨hm, good_of_word h1⟩
theorem goodIn_app {big a b : List Cond} (ha : GoodIn big a) (hb : GoodIn big b) : GoodIn big (a ++ b) := fun w h => (List.mem_append.mp h).elim (ha w) (hb w)
theorem goodIn_ca {big a b : List Cond} {c : Cond} (ha : GoodIn big (c :: a)) (hb : GoodIn big b) : GoodIn big (c :: (a ++ b)) := fun w h => (List.mem_cons.mp h).elim (fun e => ha w (List.mem_cons.mpr (Or.inl e))) (fun h => (List.mem_append.mp h).elim (fun h => ha w (List.mem_cons.mpr (Or.inr h))) (hb w))
theorem goodIn_sub {big ws : List Cond} (hm : ∀ w ∈ ws, w ∈ big) (h : ws.all goodWord = true) : GoodIn big ws := fun w hw => ⟨hm w hw, good_of_word (List.all_eq_true.mp h w hw)⟩
/-! ===== END ===== -/

/-! ===== BEGIN exceptions that leave a method, and their catching by the caller (launches without stack traces) ===== -/
section VXA
/-! The laws vx_back, vx_callV, vx_callS, vx_callSW, vx_throw0, vx_throwS follow proofs of the library, with one case more: JvmDerived/Free/Laws.lean (Back.of_free), Shelf42/LK1.lean (callV, callS), Shelf/KitTraced.lean (throwNew0V, throwNewS). -/
/-- where a method has thrown q: the class by its name, the cell, what was written, the world -/
def vx_T (XC : String → State → State → Prop) (st : State) (q : Addr) (t : State) (mc ms : Nat) (free : Addr → Prop) : Prop :=
  ∃ (E : String) (ce : Cell) (L : List Loc), XC E st t ∧ t.heap[q]? = some ce ∧ ce.vm = .none ∧ st.vm.findClass E = some ce.cls ∧ st.WarmedH t.vm ∧ st.sameButNew ({ t with vm := st.vm } : State) L mc ms ∧ ∀ z ∈ L, free z.base
def vx_Q (Qc : Array Value → State → Outcome → State → Prop) (XC : String → State → State → Prop) (mc ms : Nat) (free : Addr → Prop) : Array Value → State → Outcome → State → Prop := fun a st o t =>
  (Qc a st o t ∧ ∃ L, FrameEnd st o t L mc ms ∧ ∀ q ∈ L, free q.base) ∨ ∃ q, o = .threw q ∧ vx_T XC st q t mc ms free
/-- a callee that returns or throws -/
def vx_Met (l : Launch) (y : MethodName) (ws : List Cond) (rm : Room) (Pc : Array Value → State → Prop) (Qc : Array Value → State → Outcome → State → Prop) (XC : String → State → State → Prop) (mc ms : Nat) (free : Addr → Prop) : Prop :=
  MetFree l y (headSpec ws rm) Pc (fun _ _ _ _ _ => True) (vx_Q Qc XC mc ms free)
def vx_Post (XC : String → State → State → Prop) (mc ms : Nat) (free : Addr → Prop) : Pt → Array Value → Addr → Pt → Prop := fun A a q B =>
  ∃ (g : JFrame) (mk : MethodId) (t : State) (L : List Loc) (E : String) (ce : Cell), B.U.heap = t.heap ∧ B.U.vm = t.vm ∧ XC E (A.U.calling g mk a) t ∧ t.heap[q]? = some ce ∧ ce.vm = .none ∧ A.U.vm.findClass E = some ce.cls ∧ B.locs = A.locs ++ L ∧ (∀ z ∈ L, free z.base) ∧ B.cells = A.cells + mc ∧ B.slots = A.slots + ms
def vx_Back (l : Launch) (R : Room) (p : Program) (e : Env) (below : List Frame) (s : State) (sargs : Array Value) (y : MethodName) (len W9 : Nat)
    (Pre : Pt → Array Value → Prop) (Post : Pt → Array Value → Option Value → Pt → Prop) (PostX : Pt → Array Value → Addr → Pt → Prop) : Prop :=
  ∀ (m : MethodId) (meth : Method) (c : Code) (A : Pt) (g : JFrame) (ig : Instr) (mk : MethodId) (a : Array Value),
    Stand p l e R s m sargs below meth c A.U A.locs A.cells A.slots → g.method = m → g.locals.size = c.maxLocals → decode c.code g.pc = .ok (ig, len) →
    2 * g.monitorRoom + (g.stack.map fun v => v.category).sum ≤ W9 → A.U.methodNamed? y = some mk → Pre A a →
    (∃ (v : Option Value) (B : Pt), Stand p l e R s m sargs below meth c B.U B.locs B.cells B.slots ∧ Post A a v B ∧
      Steps p.tables e below (doInvoke e (A.U.setTop g) [] mk a).1 (B.U.setTop { g with pc := g.pc + len, stack := v.toList ++ g.stack })) ∨
    (∃ (q : Addr) (B : Pt), Stand p l e R s m sargs below meth c B.U B.locs B.cells B.slots ∧ PostX A a q B ∧
      Steps p.tables e below (doInvoke e (A.U.setTop g) [] mk a).1 ((B.U.setTop g).pushFrame (.throwing q)))
section Payer
variable {l : Launch} {R : Room} {p : Program} {e : Env} {below : List Frame} {s : State} {sargs : Array Value} {y : MethodName} {len W9 : Nat}
theorem vx_back {ws : List Cond} {rm : Room} {Pc : Array Value → State → Prop} {Qc : Array Value → State → Outcome → State → Prop} {XC : String → State → State → Prop} {mc ms : Nat} {free : Addr → Prop} {bytes : ByteArray} {maxL : Nat} {ret : Option FieldType}
    (hM : vx_Met l y ws rm Pc Qc XC mc ms free) (hblind : FrameBlind Pc) (hrc : rm.cells = mc) (hrs : rm.slots = ms)
    (hframes : rm.frames + 1 ≤ R.frames) (hlocals : W9 + (maxL + 11) + rm.locals ≤ R.locals)
    (hws : ∀ w ∈ ws, ∀ a' U, s.WarmedH U.vm → w.before a' U = true) (hcode : Cond.code y bytes maxL ret ∈ ws) (hinit : ∀ a' U, s.WarmedH U.vm → (Cond.initialized y.cls).before a' U = true) :
    vx_Back l R p e below s sargs y len W9 (PreOf R mc ms Pc) (PostOf Qc mc ms free) (vx_Post XC mc ms free) := by
  intro m meth c A g ig mk a X hg hsize hdg hW hn hp
  have h1 : (headSpec ws rm).pre.before a A.U = true := atoms_intro fun w hw => hws w hw _ _ X.warmed
  have h2 : (Cond.code y bytes maxL ret).before a A.U = true := hws _ hcode _ _ X.warmed
  have h3 : (Cond.initialized y.cls).before a A.U = true := hinit _ _ X.warmed
  have h4 : A.cells + (headSpec ws rm).room.cells ≤ R.cells := by rw [show (headSpec ws rm).room.cells = mc from hrc]; exact hp.1
  have h5 : A.slots + (headSpec ws rm).room.slots ≤ R.slots := by rw [show (headSpec ws rm).room.slots = ms from hrs]; exact hp.2.1
  have hPc : Pc a (A.U.calling g mk a) := hblind _ _ _ _ hp.2.2
  obtain ⟨U, Ls, c0, s0⟩ := A
  dsimp only [Pt.U, Pt.locs, Pt.cells, Pt.slots] at h1 h2 h3 h4 h5 X hn hPc ⊢
  obtain ⟨methY, cY, hmY, hcY, -, hlY, -, -, -, -⟩ := Cond.code_spec hn h2
  obtain ⟨kY, hkY, -⟩ := className_of_methodNamed hn
  have hinitY : kY.init = .initialized := Cond.initialized_spec (findClass_of_methodNamed hn) hkY h3
  have h : At U g.method c below := by rw [hg]; exact X.here
  have hlocals9 : W9 + (maxL + 11) + (headSpec ws rm).room.locals ≤ R.locals := hlocals
  have happ : (headSpec ws rm).appliesLoose y e.platform (U.calling g mk a) = true :=
    Spec.appliesLoose_calling (g := g) h hdg hn hkY hinitY
      (X.room_calling (g := g) (R' := (headSpec ws rm).room) hsize hmY hcY hframes (by rw [hlY]; omega) h4 h5) h1
  obtain ⟨mid, hmid⟩ := h.above
  have hfr : (U.setTop g).frames = (.java g :: mid) ++ below := by rw [State.frames_setTop' g h.top, hmid]; rfl
  obtain ⟨o, s₂, hsteps, -, hend, hq⟩ := Steps.callFree hM p X.admits X.cas X.clock (acts := []) hfr happ hPc trivial
  have hq' : vx_Q Qc XC mc ms free a (U.calling g mk a) o s₂ := hq
  rw [State.frames_setTop' g h.top] at hend
  obtain ⟨g₀, hg0⟩ := Option.isSome_iff_exists.mp h.top
  obtain ⟨r, hr⟩ := State.topJava?_eq_some.mp hg0
  have hr' : (({ U with heap := s₂.heap, slotsUsed := s₂.slotsUsed } : State).setVm s₂.vm).frames = .java g₀ :: r := hr
  rcases hq' with ⟨hqc, L, hfe, hL⟩ | ⟨q, rfl, E, ce, L, hx, hce, hcv, hcl, hW₂, hsm, hL⟩
  · obtain ⟨⟨v, rfl⟩, hW₂, e2, q2, q3, q4, q5, q6⟩ := id hfe
    have e3 : s₂ = ({ (U.calling g mk a).setFrames s₂.frames with heap := s₂.heap, slotsUsed := s₂.slotsUsed } : State).setVm s₂.vm := by
      have : s₂ = ({ s₂ with vm := (U.calling g mk a).vm } : State).setVm s₂.vm := rfl
      rw [e2] at this
      exact this
    obtain ⟨c₂, i₂, len₂, hc₂, hd₂, hf₂⟩ := hend
    have hW' : U.WarmedH s₂.vm := hW₂
    have hcc : c₂ = c := by
      have h1 : s₂.code? g.method = U.code? g.method := by
        rw [State.code?_eq, State.code?_eq, hW'.alike.method?]
      exact Option.some.inj (hc₂.symm.trans (h1.trans h.code))
    subst hcc
    have hlen : len₂ = len := by rw [hdg] at hd₂; cases hd₂; rfl
    subst hlen
    have hs₂ : s₂ = (({ U with heap := s₂.heap, slotsUsed := s₂.slotsUsed } : State).setVm s₂.vm).setTop { g with pc := g.pc + len₂, stack := v.toList ++ g.stack } := by
      refine e3.trans ?_
      rw [hf₂, State.calling_eq h.top, State.setFrames_setFrames, State.setTop_of_frames _ hr', hr]
      rfl
    have hsame : U.sameButNew ({ U with heap := s₂.heap, slotsUsed := s₂.slotsUsed } : State) L mc ms := by
      refine ⟨?_, q2, q3, q4, q5, q6⟩
      obtain ⟨t, ht, -⟩ := State.frames_cons hr
      show ({ U with heap := s₂.heap, slotsUsed := s₂.slotsUsed } : State) = { U.setFrames U.frames with heap := s₂.heap, slotsUsed := s₂.slotsUsed }
      rw [State.setFrames_self ht]
    subst hg
    refine Or.inl ⟨v, ⟨(({ U with heap := s₂.heap, slotsUsed := s₂.slotsUsed } : State).setVm s₂.vm), Ls ++ L, c0 + mc, s0 + ms⟩,
      ⟨X.admits, X.cas, X.clock, X.frames, X.room, X.hears, X.method, X.code, (X.here.setHeapUsed s₂.heap s₂.slotsUsed).setVm hW'.alike, X.tail, State.WarmedH.trans X.warmed hW', X.limits, X.bytes, X.same.trans (hsame.setVm s.vm)⟩,
      ⟨g, mk, s₂, L, rfl, rfl, hqc, rfl, hL, rfl, rfl⟩, ?_⟩
    show Steps p.tables e below _ ((({ U with heap := s₂.heap, slotsUsed := s₂.slotsUsed } : State).setVm s₂.vm).setTop { g with pc := g.pc + len₂, stack := v.toList ++ g.stack })
    rw [← hs₂]
    exact hsteps
  · obtain ⟨e2, q2, q3, q4, q5, q6⟩ := id hsm
    have e3 : s₂ = ({ (U.calling g mk a).setFrames s₂.frames with heap := s₂.heap, slotsUsed := s₂.slotsUsed } : State).setVm s₂.vm := by
      have : s₂ = ({ s₂ with vm := (U.calling g mk a).vm } : State).setVm s₂.vm := rfl
      rw [e2] at this
      exact this
    have hf₂ : s₂.frames = .throwing q :: .java g :: U.frames.tail := hend
    have hW' : U.WarmedH s₂.vm := hW₂
    have hs₂ : s₂ = ((({ U with heap := s₂.heap, slotsUsed := s₂.slotsUsed } : State).setVm s₂.vm).setTop g).pushFrame (.throwing q) := by
      refine e3.trans ?_
      rw [hf₂, State.calling_eq h.top, State.setFrames_setFrames, State.pushFrame, State.frames_setTop _ hr', State.setTop_of_frames _ hr', State.setFrames_setFrames, hr]
      rfl
    have hsame : U.sameButNew ({ U with heap := s₂.heap, slotsUsed := s₂.slotsUsed } : State) L mc ms := by
      refine ⟨?_, q2, q3, q4, q5, q6⟩
      obtain ⟨t, ht, -⟩ := State.frames_cons hr
      show ({ U with heap := s₂.heap, slotsUsed := s₂.slotsUsed } : State) = { U.setFrames U.frames with heap := s₂.heap, slotsUsed := s₂.slotsUsed }
      rw [State.setFrames_self ht]
    subst hg
    refine Or.inr ⟨q, ⟨(({ U with heap := s₂.heap, slotsUsed := s₂.slotsUsed } : State).setVm s₂.vm), Ls ++ L, c0 + mc, s0 + ms⟩,
      ⟨X.admits, X.cas, X.clock, X.frames, X.room, X.hears, X.method, X.code, (X.here.setHeapUsed s₂.heap s₂.slotsUsed).setVm hW'.alike, X.tail, State.WarmedH.trans X.warmed hW', X.limits, X.bytes, X.same.trans (hsame.setVm s.vm)⟩,
      ⟨g, mk, s₂, L, E, ce, rfl, rfl, hx, hce, hcv, hcl, rfl, hL, rfl, rfl⟩, ?_⟩
    show Steps p.tables e below _ (((({ U with heap := s₂.heap, slotsUsed := s₂.slotsUsed } : State).setVm s₂.vm).setTop g).pushFrame (.throwing q))
    rw [← hs₂]
    exact hsteps
end Payer
section Calls
variable {p : Program} {l : Launch} {e : Env} {R : Room} {s : State} {m : MethodId} {args : Array Value} {below : List Frame} {meth : Method} {c : Code} {T : State} {locs : List Loc} {cells slots : Nat}
theorem vx_callV (X : Stand p l e R s m args below meth c T locs cells slots) (hexec : p.tables.exec = Jvm.exec) {own C : String} {index : Nat} {y : MethodName} {bytes : ByteArray} {maxL : Nat} {ret : Option FieldType}
    (hown : s.vm.findClass own = some m.cls) (hlink : (Cond.methodLink own index y).before args s = true) (hinst : (Cond.instanceMethod y).before args s = true) (hsel : (Cond.selects C y y).before args s = true)
    (hcode : (Cond.code y bytes maxL ret).before args s = true) (hy : y.cls ≠ "java/lang/invoke/MethodHandle" ∧ y.cls ≠ "java/lang/invoke/VarHandle")
    {W9 : Nat} {Pre : Pt → Array Value → Prop} {Post : Pt → Array Value → Option Value → Pt → Prop} {PostX : Pt → Array Value → Addr → Pt → Prop} (hK : vx_Back l R p e below s args y 3 W9 Pre Post PostX)
    {b : Addr} {cellB : Cell} (hcell : T.heap[b]? = some cellB) (hobj : cellB.vm.isStatics = false) (hcls : s.vm.findClass C = some cellB.cls)
    {g : JFrame} (hg : g.method = m) (hsize : g.locals.size = c.maxLocals) {argsL rest : List Value} (hlen : ∀ sig, parseMethodDescriptor y.desc = some sig → argsL.length = sig.parameters.length)
    (hstack : g.stack = argsL.reverse ++ .ref b :: rest) (hW : 2 * g.monitorRoom + (rest.map fun v => v.category).sum ≤ W9) (hdg : decode c.code g.pc = .ok (.invokevirtual index, 3))
    (hpre : ∀ vm₁, s.WarmedH vm₁ → Pre ⟨T.setVm vm₁, locs, cells, slots⟩ (Value.ref b :: argsL).toArray) :
    (∃ (v : Option Value) (vm₁ : Vm) (B : Pt), s.WarmedH vm₁ ∧ Stand p l e R s m args below meth c B.U B.locs B.cells B.slots ∧ Post ⟨T.setVm vm₁, locs, cells, slots⟩ (Value.ref b :: argsL).toArray v B ∧
      ∀ target, Steps p.tables e below (B.U.setTop { g with pc := g.pc + 3, stack := v.toList ++ rest }) target → Steps p.tables e below (T.setTop g) target) ∨
    (∃ (q : Addr) (vm₁ : Vm) (B : Pt), s.WarmedH vm₁ ∧ Stand p l e R s m args below meth c B.U B.locs B.cells B.slots ∧ PostX ⟨T.setVm vm₁, locs, cells, slots⟩ (Value.ref b :: argsL).toArray q B ∧
      Steps p.tables e below (T.setTop g) ((B.U.setTop { g with stack := rest }).pushFrame (.throwing q))) := by
  obtain ⟨mk, methM, hnamed, hmethM, hstM, habM⟩ := Cond.instanceMethod_spec hinst
  obtain ⟨methM', cM, hmethM', -, -, -, -, -, -, hsigM⟩ := Cond.code_spec hnamed hcode
  cases hmethM.symm.trans hmethM'
  obtain ⟨c2, r2, m2, q1, q2, q3, q4, kP, hkP, hkPi⟩ := Cond.selects_spec hsel
  cases hcls.symm.trans q1
  cases (State.methodFound?_of_named hnamed hy).symm.trans q2
  cases hnamed.symm.trans q3
  have hselP : selectMethod e.platform s.vm cellB.cls mk = .method mk := by rw [Launch.admits_selectMethod X.admits]; exact q4
  obtain ⟨vm₁, X₁, hstep₁⟩ := X.invokevirtual hexec hown hlink hnamed hmethM hstM hkP hkPi hy (a := b) (cell := cellB) hcell
    (fun z h => by rw [h] at hobj; cases hobj) hselP hmethM habM hkP hkPi (g := g) hg (argsL := argsL) (rest := rest) (hlen _ hsigM) hstack hdg
  rcases hK m meth c ⟨T.setVm vm₁, locs, cells, slots⟩ { g with stack := rest } (.invokevirtual index) mk (Value.ref b :: argsL).toArray X₁ hg hsize hdg hW (X₁.named hnamed) (hpre vm₁ X₁.warmed) with ⟨v, B, X', hpost, hsteps⟩ | ⟨q, B, X', hpost, hsteps⟩
  · exact Or.inl ⟨v, vm₁, B, X₁.warmed, X', hpost, fun target h => hstep₁ _ fun acts => by rw [doInvoke_state]; exact hsteps.trans h⟩
  · exact Or.inr ⟨q, vm₁, B, X₁.warmed, X', hpost, hstep₁ _ fun acts => by rw [doInvoke_state]; exact hsteps⟩
theorem vx_callS (X : Stand p l e R s m args below meth c T locs cells slots) (hexec : p.tables.exec = Jvm.exec) {own : String} {index : Nat} {y : MethodName} {bytes : ByteArray} {maxL : Nat} {ret : Option FieldType}
    (hown : s.vm.findClass own = some m.cls) (hlink : (Cond.methodLink own index y).before args s = true) (hstat : (Cond.static y).before args s = true) (hinit : (Cond.initialized y.cls).before args s = true)
    (hcode : (Cond.code y bytes maxL ret).before args s = true) (hy : y.cls ≠ "java/lang/invoke/MethodHandle" ∧ y.cls ≠ "java/lang/invoke/VarHandle")
    {W9 : Nat} {Pre : Pt → Array Value → Prop} {Post : Pt → Array Value → Option Value → Pt → Prop} {PostX : Pt → Array Value → Addr → Pt → Prop} (hK : vx_Back l R p e below s args y 3 W9 Pre Post PostX)
    {g : JFrame} (hg : g.method = m) (hsize : g.locals.size = c.maxLocals) {argsL rest : List Value} (hlen : ∀ sig, parseMethodDescriptor y.desc = some sig → argsL.length = sig.parameters.length)
    (hstack : g.stack = argsL.reverse ++ rest) (hW : 2 * g.monitorRoom + (rest.map fun v => v.category).sum ≤ W9) (hdg : decode c.code g.pc = .ok (.invokestatic index, 3))
    (hpre : ∀ vm₁, s.WarmedH vm₁ → Pre ⟨T.setVm vm₁, locs, cells, slots⟩ argsL.toArray) :
    (∃ (v : Option Value) (vm₁ : Vm) (B : Pt), s.WarmedH vm₁ ∧ Stand p l e R s m args below meth c B.U B.locs B.cells B.slots ∧ Post ⟨T.setVm vm₁, locs, cells, slots⟩ argsL.toArray v B ∧
      ∀ target, Steps p.tables e below (B.U.setTop { g with pc := g.pc + 3, stack := v.toList ++ rest }) target → Steps p.tables e below (T.setTop g) target) ∨
    (∃ (q : Addr) (vm₁ : Vm) (B : Pt), s.WarmedH vm₁ ∧ Stand p l e R s m args below meth c B.U B.locs B.cells B.slots ∧ PostX ⟨T.setVm vm₁, locs, cells, slots⟩ argsL.toArray q B ∧
      Steps p.tables e below (T.setTop g) ((B.U.setTop { g with stack := rest }).pushFrame (.throwing q))) := by
  obtain ⟨mk, hnamed⟩ := Cond.code_named hcode
  obtain ⟨methM, cM, hmethM, -, -, -, -, -, -, hsigM⟩ := Cond.code_spec hnamed hcode
  have hstatic : methM.isStatic = true := Cond.static_spec hnamed hmethM hstat
  obtain ⟨kP, hkP, -⟩ := className_of_methodNamed hnamed
  have hinitP : kP.init = .initialized := Cond.initialized_spec (findClass_of_methodNamed hnamed) hkP hinit
  obtain ⟨vm₁, X₁, hstep₁⟩ := X.invokestatic hexec hown hlink hnamed hmethM hstatic hkP hinitP hy (g := g) hg (argsL := argsL) (rest := rest) (hlen _ hsigM) hstack hdg
  rcases hK m meth c ⟨T.setVm vm₁, locs, cells, slots⟩ { g with stack := rest } (.invokestatic index) mk argsL.toArray X₁ hg hsize hdg hW (X₁.named hnamed) (hpre vm₁ X₁.warmed) with ⟨v, B, X', hpost, hsteps⟩ | ⟨q, B, X', hpost, hsteps⟩
  · exact Or.inl ⟨v, vm₁, B, X₁.warmed, X', hpost, fun target h => hstep₁ _ fun acts => by rw [doInvoke_state]; exact hsteps.trans h⟩
  · exact Or.inr ⟨q, vm₁, B, X₁.warmed, X', hpost, hstep₁ _ fun acts => by rw [doInvoke_state]; exact hsteps⟩
end Calls
theorem vx_cls {s : State} {T : State} {vm₁ : Vm} {E : String} {k : ClassId} (hW : s.WarmedH vm₁) (h : (T.setVm vm₁).vm.findClass E = some k) : s.vm.findClass E = some k := by
  have h1 : vm₁.findClass E = some k := h
  rw [hW.alike.findClass] at h1
  exact h1
/-- the method's frame g, with q thrown over it -/
def vx_W (p : Program) (l : Launch) (e : Env) (R : Room) (s : State) (m : MethodId) (args : Array Value) (below : List Frame) (meth : Method) (c : Code) (H : Heap) (locs : List Loc) (cells slots : Nat) (Q : State → Prop) (g : JFrame) (q : Addr) : Prop :=
  ∀ T : State, T.heap = H → Stand p l e R s m args below meth c T locs cells slots → ∃ t, Steps p.tables e below ((T.setTop g).pushFrame (.throwing q)) t ∧ Q t
def vx_Run (p : Program) (l : Launch) (e : Env) (R : Room) (s : State) (m : MethodId) (args : Array Value) (below : List Frame) (meth : Method) (c : Code) (H : Heap) (locs : List Loc) (cells slots mc ms : Nat) (g : JFrame) (rest : List Value) (Qa : State → Outcome → State → Prop) (XC : String → State → State → Prop) (free : Addr → Prop) : Prop :=
  ∀ T : State, T.heap = H → Stand p l e R s m args below meth c T locs cells slots →
    (∃ (v : Option Value) (st₀ t T' : State) (L : List Loc), st₀.heap = H ∧ Stand p l e R s m args below meth c T' (locs ++ L) (cells + mc) (slots + ms) ∧ (∀ q ∈ L, free q.base) ∧ T'.heap = t.heap ∧ T'.vm = t.vm ∧ Qa st₀ (.returned v) t ∧
      Goes p e below T g T' { g with pc := g.pc + 3, stack := v.toList ++ rest }) ∨
    (∃ (q : Addr) (st₀ t T' : State) (L : List Loc) (E : String) (ce : Cell), st₀.heap = H ∧ Stand p l e R s m args below meth c T' (locs ++ L) (cells + mc) (slots + ms) ∧ (∀ z ∈ L, free z.base) ∧ T'.heap = t.heap ∧ T'.vm = t.vm ∧ XC E st₀ t ∧ t.heap[q]? = some ce ∧ ce.vm = .none ∧ s.vm.findClass E = some ce.cls ∧
      Steps p.tables e below (T.setTop g) ((T'.setTop { g with stack := rest }).pushFrame (.throwing q)))
def vx_X {S : Type} (px : S → Prop) (B : String → S → State → Prop) (A : Nat → Prop) : String → State → State → Prop := fun E st t => ∃ u : S, px u ∧ B E u t ∧ va_F A st t
section Runs
variable {p : Program} {l : Launch} {e : Env} {R : Room} {s : State} {m : MethodId} {args : Array Value} {below : List Frame} {meth : Method} {c : Code} {H : Heap} {locs : List Loc} {cells slots : Nat}
variable {y : MethodName} {bytes cc : ByteArray} {maxL nL mc ms n index : Nat} {ret : Option FieldType} {ws : List Cond} {rm : Room} {Pc : Array Value → State → Prop} {Qc : Array Value → State → Outcome → State → Prop} {XC : String → State → State → Prop} {free : Addr → Prop} {Ts : List Cond} {own C : String} {b : Addr} {As rest : List Value} {g : JFrame}
theorem vx_callBack (cb : CallB R s args own index y bytes maxL ret ws rm mc ms n) (hM : vx_Met l y ws rm Pc Qc XC mc ms free) (hbl : FrameBlind Pc) : vx_Back l R p e below s args y 3 8 (PreOf R mc ms Pc) (PostOf Qc mc ms free) (vx_Post XC mc ms free) := by
  obtain ⟨hrc, hrs, hfr, hlo, hws, hcw, -, hini, -⟩ := cb
  exact vx_back (bytes := bytes) (maxL := maxL) (ret := ret) hM hbl hrc hrs hfr hlo hws hcw (fun a' U hW => word_at hW (Or.inl (by first | rfl | simp [Cond.onTables, Cond.keeps, Cond.steady])) hini)
theorem vx_runV (S : CallFix p m c cc nL s args Ts own) (hM : vx_Met l y ws rm Pc Qc XC mc ms free) (cw : CallW R s args own C index y bytes maxL ret ws rm mc ms n) (hp : PreV s H C b Pc As)
    (hg : g.method = m) (hn : As.length = n) (hsize : g.locals.size = nL) (hstack : g.stack = As.reverse ++ .ref b :: rest) (hW : 2 * g.monitorRoom + (rest.map fun v => v.category).sum ≤ 8) (hdg : decode cc g.pc = .ok (.invokevirtual index, 3)) (hf : cells + mc ≤ R.cells ∧ slots + ms ≤ R.slots) :
    vx_Run p l e R s m args below meth c H locs cells slots mc ms g rest (Qc (Value.ref b :: As).toArray) XC free := by
  have hK : vx_Back l R p e below s args y 3 8 (PreOf R mc ms Pc) (PostOf Qc mc ms free) (vx_Post XC mc ms free) := vx_callBack cw.1 hM hp.1
  obtain ⟨⟨-, -, -, -, -, -, hcode, -, hy, hlen, hl⟩, hin, hse⟩ := cw
  obtain ⟨hx, hb, hml, ho, -⟩ := S
  obtain ⟨-, ⟨cellB, hcB, hoB, hclB⟩, hPc⟩ := hp
  intro T hT X
  rcases vx_callV X hx (C := C) (bytes := bytes) (maxL := maxL) (ret := ret) ho hl hin hse hcode hy hK (by rw [hT]; exact hcB) hoB hclB hg (hsize.trans hml.symm) (argsL := As) (rest := rest) (fun sig h => hn.trans (hlen sig h)) hstack hW (by rw [hb]; exact hdg)
    (fun vm₁ hW₁ => ⟨hf.1, hf.2, hPc (T.setVm vm₁) hT hW₁⟩) with ⟨v, vm₁, ⟨U', l2, c2, s2⟩, hW₁, X', ⟨g', mk, t, L, e1, e2, hq, h1, hL, h2, h3⟩, st⟩ | ⟨q, vm₁, ⟨U', l2, c2, s2⟩, hW₁, X', ⟨g', mk, t, L, E, ce, e1, e2, hq, hce, hcv, hcl, h1, hL, h2, h3⟩, st⟩
  · dsimp only [Pt.U, Pt.locs, Pt.cells, Pt.slots] at X' e1 e2 h1 h2 h3 st
    subst h1; subst h2; subst h3
    exact Or.inl ⟨v, (T.setVm vm₁).calling g' mk (Value.ref b :: As).toArray, t, U', L, hT, X', hL, e1, e2, hq, st⟩
  · dsimp only [Pt.U, Pt.locs, Pt.cells, Pt.slots] at X' e1 e2 h1 h2 h3 st hcl
    subst h1; subst h2; subst h3
    exact Or.inr ⟨q, (T.setVm vm₁).calling g' mk (Value.ref b :: As).toArray, t, U', L, E, ce, hT, X', hL, e1, e2, hq, hce, hcv, vx_cls hW₁ hcl, st⟩
theorem vx_runS (S : CallFix p m c cc nL s args Ts own) (hM : vx_Met l y ws rm Pc Qc XC mc ms free) (cw : CallB R s args own index y bytes maxL ret ws rm mc ms n ∧ (Cond.static y).before args s = true) (hp : PreS s H Pc As)
    (hg : g.method = m) (hn : As.length = n) (hsize : g.locals.size = nL) (hstack : g.stack = As.reverse ++ rest) (hW : 2 * g.monitorRoom + (rest.map fun v => v.category).sum ≤ 8) (hdg : decode cc g.pc = .ok (.invokestatic index, 3)) (hf : cells + mc ≤ R.cells ∧ slots + ms ≤ R.slots) :
    vx_Run p l e R s m args below meth c H locs cells slots mc ms g rest (Qc As.toArray) XC free := by
  have hK : vx_Back l R p e below s args y 3 8 (PreOf R mc ms Pc) (PostOf Qc mc ms free) (vx_Post XC mc ms free) := vx_callBack cw.1 hM hp.1
  obtain ⟨⟨-, -, -, -, -, -, hcode, hini, hy, hlen, hl⟩, hstt⟩ := cw
  obtain ⟨hx, hb, hml, ho, -⟩ := S
  intro T hT X
  rcases vx_callS X hx (bytes := bytes) (maxL := maxL) (ret := ret) ho hl hstt hini hcode hy hK hg (hsize.trans hml.symm) (argsL := As) (rest := rest) (fun sig h => hn.trans (hlen sig h)) hstack hW (by rw [hb]; exact hdg)
    (fun vm₁ hW₁ => ⟨hf.1, hf.2, hp.2 (T.setVm vm₁) hT hW₁⟩) with ⟨v, vm₁, ⟨U', l2, c2, s2⟩, hW₁, X', ⟨g', mk, t, L, e1, e2, hq, h1, hL, h2, h3⟩, st⟩ | ⟨q, vm₁, ⟨U', l2, c2, s2⟩, hW₁, X', ⟨g', mk, t, L, E, ce, e1, e2, hq, hce, hcv, hcl, h1, hL, h2, h3⟩, st⟩
  · dsimp only [Pt.U, Pt.locs, Pt.cells, Pt.slots] at X' e1 e2 h1 h2 h3 st
    subst h1; subst h2; subst h3
    exact Or.inl ⟨v, (T.setVm vm₁).calling g' mk As.toArray, t, U', L, hT, X', hL, e1, e2, hq, st⟩
  · dsimp only [Pt.U, Pt.locs, Pt.cells, Pt.slots] at X' e1 e2 h1 h2 h3 st hcl
    subst h1; subst h2; subst h3
    exact Or.inr ⟨q, (T.setVm vm₁).calling g' mk As.toArray, t, U', L, E, ce, hT, X', hL, e1, e2, hq, hce, hcv, vx_cls hW₁ hcl, st⟩
end Runs
section Rows
variable {p : Program} {l : Launch} {e : Env} {R : Room} {s : State} {m : MethodId} {args : Array Value} {below : List Frame} {meth : Method} {c : Code} {H : Heap} {locs : List Loc} {cells slots : Nat} {Q : State → Prop}
variable {mc ms : Nat} {free : Addr → Prop} {A0 A1 : Nat → Prop} {H0 : Heap} {a : Array Value} {pc : Nat} {ls : Array Slot} {st0 rest : List Value}
theorem vx_keep {st₀ t T' : State} {L : List Loc} (h0 : st₀.heap = H) (e1 : T'.heap = t.heap) (hS : va_S A0 H0 H locs) (hA : ∀ q, q < H.size → A1 q → A0 q) (hf : ∀ q, free q → A0 q) (hL : ∀ q ∈ L, free q.base) (hF : va_F A1 st₀ t) :
    H.size ≤ T'.heap.size ∧ (∀ q : Nat, q < H.size → ¬ A1 q → T'.heap[q]? = H[q]?) ∧ va_S A0 H0 T'.heap (locs ++ L) := by
  obtain ⟨hz, hk⟩ := hF
  rw [h0] at hz hk
  exact ⟨by rw [e1]; exact hz, fun q h1 h2 => by rw [e1]; exact hk q h1 h2,
    ⟨Nat.le_trans hS.1 (by rw [e1]; exact hz), fun q h1 h2 => by rw [e1, hk q (Nat.lt_of_lt_of_le h1 hS.1) (fun z => h2 (hA q (Nat.lt_of_lt_of_le h1 hS.1) z))]; exact hS.2.1 q h1 h2, fun q hq => by
      rcases List.mem_append.mp hq with h | h
      · exact hS.2.2 q h
      · exact hf _ (hL q h)⟩⟩
theorem vx_calli {S SX : Type} {post : Int32 → S → Prop} {px : SX → Prop} {B : S → State → Prop} {BX : String → SX → State → Prop} {AX : Nat → Prop} (hr : vx_Run p l e R s m args below meth c H locs cells slots mc ms (F0 m pc ls st0) rest (va_Qi post B A1 a) (vx_X px BX AX) free) (hS : va_S A0 H0 H locs) (hA : ∀ q, q < H.size → A1 q → A0 q) (hf : ∀ q, free q → A0 q) (hAX : ∀ q, q < H.size → AX q → A0 q)
    (kx : ∀ (E : String) (ce : Cell) (q9 : Addr) (u : SX) (t : State) (H1 : Heap) (locs1 : List Loc), t.heap = H1 → s.vm.Alike t.vm → px u → BX E u t → H.size ≤ H1.size → (∀ q : Nat, q < H.size → ¬ AX q → H1[q]? = H[q]?) → va_S A0 H0 H1 locs1 → H1[q9]? = some ce → ce.vm = .none → s.vm.findClass E = some ce.cls → vx_W p l e R s m args below meth c H1 locs1 (cells + mc) (slots + ms) Q (F0 m pc ls rest) q9)
    (kk : ∀ (r : Int32) (u : S) (t : State) (H1 : Heap) (locs1 : List Loc), t.heap = H1 → s.vm.Alike t.vm → post r u → B u t → H.size ≤ H1.size → (∀ q : Nat, q < H.size → ¬ A1 q → H1[q]? = H[q]?) → va_S A0 H0 H1 locs1 → W p l e R s m args below meth c H1 locs1 (cells + mc) (slots + ms) Q (F0 m (pc + 3) ls (.int r :: rest))) : W p l e R s m args below meth c H locs cells slots Q (F0 m pc ls st0) := by
  intro T hT X
  rcases hr T hT X with ⟨v, st₀, t, T', L, h0, X', hL, e1, e2, ⟨⟨r, u, hv, hp, hb⟩, hF⟩, st⟩ | ⟨q, st₀, t, T', L, E, ce, h0, X', hL, e1, e2, ⟨u, hp, hb, hF⟩, hce, hcv, hcl, st⟩
  · cases hv
    obtain ⟨k1, k2, k3⟩ := vx_keep h0 e1 hS hA hf hL hF
    obtain ⟨t2, a1, b1⟩ := kk r u t T'.heap (locs ++ L) e1.symm (by rw [← e2]; exact X'.warmed.alike) hp hb k1 k2 k3 T' rfl X'
    exact ⟨t2, st t2 a1, b1⟩
  · obtain ⟨k1, k2, k3⟩ := vx_keep h0 e1 hS hAX hf hL hF
    obtain ⟨t2, a1, b1⟩ := kx E ce q u t T'.heap (locs ++ L) e1.symm (by rw [← e2]; exact X'.warmed.alike) hp hb k1 k2 k3 (by rw [e1]; exact hce) hcv hcl T' rfl X'
    exact ⟨t2, st.trans a1, b1⟩
theorem vx_calll {S SX : Type} {post : Int64 → S → Prop} {px : SX → Prop} {B : S → State → Prop} {BX : String → SX → State → Prop} {AX : Nat → Prop} (hr : vx_Run p l e R s m args below meth c H locs cells slots mc ms (F0 m pc ls st0) rest (va_Ql post B A1 a) (vx_X px BX AX) free) (hS : va_S A0 H0 H locs) (hA : ∀ q, q < H.size → A1 q → A0 q) (hf : ∀ q, free q → A0 q) (hAX : ∀ q, q < H.size → AX q → A0 q)
    (kx : ∀ (E : String) (ce : Cell) (q9 : Addr) (u : SX) (t : State) (H1 : Heap) (locs1 : List Loc), t.heap = H1 → s.vm.Alike t.vm → px u → BX E u t → H.size ≤ H1.size → (∀ q : Nat, q < H.size → ¬ AX q → H1[q]? = H[q]?) → va_S A0 H0 H1 locs1 → H1[q9]? = some ce → ce.vm = .none → s.vm.findClass E = some ce.cls → vx_W p l e R s m args below meth c H1 locs1 (cells + mc) (slots + ms) Q (F0 m pc ls rest) q9)
    (kk : ∀ (r : Int64) (u : S) (t : State) (H1 : Heap) (locs1 : List Loc), t.heap = H1 → s.vm.Alike t.vm → post r u → B u t → H.size ≤ H1.size → (∀ q : Nat, q < H.size → ¬ A1 q → H1[q]? = H[q]?) → va_S A0 H0 H1 locs1 → W p l e R s m args below meth c H1 locs1 (cells + mc) (slots + ms) Q (F0 m (pc + 3) ls (.long r :: rest))) : W p l e R s m args below meth c H locs cells slots Q (F0 m pc ls st0) := by
  intro T hT X
  rcases hr T hT X with ⟨v, st₀, t, T', L, h0, X', hL, e1, e2, ⟨⟨r, u, hv, hp, hb⟩, hF⟩, st⟩ | ⟨q, st₀, t, T', L, E, ce, h0, X', hL, e1, e2, ⟨u, hp, hb, hF⟩, hce, hcv, hcl, st⟩
  · cases hv
    obtain ⟨k1, k2, k3⟩ := vx_keep h0 e1 hS hA hf hL hF
    obtain ⟨t2, a1, b1⟩ := kk r u t T'.heap (locs ++ L) e1.symm (by rw [← e2]; exact X'.warmed.alike) hp hb k1 k2 k3 T' rfl X'
    exact ⟨t2, st t2 a1, b1⟩
  · obtain ⟨k1, k2, k3⟩ := vx_keep h0 e1 hS hAX hf hL hF
    obtain ⟨t2, a1, b1⟩ := kx E ce q u t T'.heap (locs ++ L) e1.symm (by rw [← e2]; exact X'.warmed.alike) hp hb k1 k2 k3 (by rw [e1]; exact hce) hcv hcl T' rfl X'
    exact ⟨t2, st.trans a1, b1⟩
theorem vx_callf {S SX : Type} {post : UInt32 → S → Prop} {px : SX → Prop} {B : S → State → Prop} {BX : String → SX → State → Prop} {AX : Nat → Prop} (hr : vx_Run p l e R s m args below meth c H locs cells slots mc ms (F0 m pc ls st0) rest (va_Qf post B A1 a) (vx_X px BX AX) free) (hS : va_S A0 H0 H locs) (hA : ∀ q, q < H.size → A1 q → A0 q) (hf : ∀ q, free q → A0 q) (hAX : ∀ q, q < H.size → AX q → A0 q)
    (kx : ∀ (E : String) (ce : Cell) (q9 : Addr) (u : SX) (t : State) (H1 : Heap) (locs1 : List Loc), t.heap = H1 → s.vm.Alike t.vm → px u → BX E u t → H.size ≤ H1.size → (∀ q : Nat, q < H.size → ¬ AX q → H1[q]? = H[q]?) → va_S A0 H0 H1 locs1 → H1[q9]? = some ce → ce.vm = .none → s.vm.findClass E = some ce.cls → vx_W p l e R s m args below meth c H1 locs1 (cells + mc) (slots + ms) Q (F0 m pc ls rest) q9)
    (kk : ∀ (r : UInt32) (u : S) (t : State) (H1 : Heap) (locs1 : List Loc), t.heap = H1 → s.vm.Alike t.vm → post r u → B u t → H.size ≤ H1.size → (∀ q : Nat, q < H.size → ¬ A1 q → H1[q]? = H[q]?) → va_S A0 H0 H1 locs1 → W p l e R s m args below meth c H1 locs1 (cells + mc) (slots + ms) Q (F0 m (pc + 3) ls (.float r :: rest))) : W p l e R s m args below meth c H locs cells slots Q (F0 m pc ls st0) := by
  intro T hT X
  rcases hr T hT X with ⟨v, st₀, t, T', L, h0, X', hL, e1, e2, ⟨⟨r, u, hv, hp, hb⟩, hF⟩, st⟩ | ⟨q, st₀, t, T', L, E, ce, h0, X', hL, e1, e2, ⟨u, hp, hb, hF⟩, hce, hcv, hcl, st⟩
  · cases hv
    obtain ⟨k1, k2, k3⟩ := vx_keep h0 e1 hS hA hf hL hF
    obtain ⟨t2, a1, b1⟩ := kk r u t T'.heap (locs ++ L) e1.symm (by rw [← e2]; exact X'.warmed.alike) hp hb k1 k2 k3 T' rfl X'
    exact ⟨t2, st t2 a1, b1⟩
  · obtain ⟨k1, k2, k3⟩ := vx_keep h0 e1 hS hAX hf hL hF
    obtain ⟨t2, a1, b1⟩ := kx E ce q u t T'.heap (locs ++ L) e1.symm (by rw [← e2]; exact X'.warmed.alike) hp hb k1 k2 k3 (by rw [e1]; exact hce) hcv hcl T' rfl X'
    exact ⟨t2, st.trans a1, b1⟩
theorem vx_calld {S SX : Type} {post : UInt64 → S → Prop} {px : SX → Prop} {B : S → State → Prop} {BX : String → SX → State → Prop} {AX : Nat → Prop} (hr : vx_Run p l e R s m args below meth c H locs cells slots mc ms (F0 m pc ls st0) rest (va_Qd post B A1 a) (vx_X px BX AX) free) (hS : va_S A0 H0 H locs) (hA : ∀ q, q < H.size → A1 q → A0 q) (hf : ∀ q, free q → A0 q) (hAX : ∀ q, q < H.size → AX q → A0 q)
    (kx : ∀ (E : String) (ce : Cell) (q9 : Addr) (u : SX) (t : State) (H1 : Heap) (locs1 : List Loc), t.heap = H1 → s.vm.Alike t.vm → px u → BX E u t → H.size ≤ H1.size → (∀ q : Nat, q < H.size → ¬ AX q → H1[q]? = H[q]?) → va_S A0 H0 H1 locs1 → H1[q9]? = some ce → ce.vm = .none → s.vm.findClass E = some ce.cls → vx_W p l e R s m args below meth c H1 locs1 (cells + mc) (slots + ms) Q (F0 m pc ls rest) q9)
    (kk : ∀ (r : UInt64) (u : S) (t : State) (H1 : Heap) (locs1 : List Loc), t.heap = H1 → s.vm.Alike t.vm → post r u → B u t → H.size ≤ H1.size → (∀ q : Nat, q < H.size → ¬ A1 q → H1[q]? = H[q]?) → va_S A0 H0 H1 locs1 → W p l e R s m args below meth c H1 locs1 (cells + mc) (slots + ms) Q (F0 m (pc + 3) ls (.double r :: rest))) : W p l e R s m args below meth c H locs cells slots Q (F0 m pc ls st0) := by
  intro T hT X
  rcases hr T hT X with ⟨v, st₀, t, T', L, h0, X', hL, e1, e2, ⟨⟨r, u, hv, hp, hb⟩, hF⟩, st⟩ | ⟨q, st₀, t, T', L, E, ce, h0, X', hL, e1, e2, ⟨u, hp, hb, hF⟩, hce, hcv, hcl, st⟩
  · cases hv
    obtain ⟨k1, k2, k3⟩ := vx_keep h0 e1 hS hA hf hL hF
    obtain ⟨t2, a1, b1⟩ := kk r u t T'.heap (locs ++ L) e1.symm (by rw [← e2]; exact X'.warmed.alike) hp hb k1 k2 k3 T' rfl X'
    exact ⟨t2, st t2 a1, b1⟩
  · obtain ⟨k1, k2, k3⟩ := vx_keep h0 e1 hS hAX hf hL hF
    obtain ⟨t2, a1, b1⟩ := kx E ce q u t T'.heap (locs ++ L) e1.symm (by rw [← e2]; exact X'.warmed.alike) hp hb k1 k2 k3 (by rw [e1]; exact hce) hcv hcl T' rfl X'
    exact ⟨t2, st.trans a1, b1⟩
theorem vx_callv {S SX : Type} {post : S → Prop} {px : SX → Prop} {B : S → State → Prop} {BX : String → SX → State → Prop} {AX : Nat → Prop} (hr : vx_Run p l e R s m args below meth c H locs cells slots mc ms (F0 m pc ls st0) rest (va_Qv post B A1 a) (vx_X px BX AX) free) (hS : va_S A0 H0 H locs) (hA : ∀ q, q < H.size → A1 q → A0 q) (hf : ∀ q, free q → A0 q) (hAX : ∀ q, q < H.size → AX q → A0 q)
    (kx : ∀ (E : String) (ce : Cell) (q9 : Addr) (u : SX) (t : State) (H1 : Heap) (locs1 : List Loc), t.heap = H1 → s.vm.Alike t.vm → px u → BX E u t → H.size ≤ H1.size → (∀ q : Nat, q < H.size → ¬ AX q → H1[q]? = H[q]?) → va_S A0 H0 H1 locs1 → H1[q9]? = some ce → ce.vm = .none → s.vm.findClass E = some ce.cls → vx_W p l e R s m args below meth c H1 locs1 (cells + mc) (slots + ms) Q (F0 m pc ls rest) q9)
    (kk : ∀ (u : S) (t : State) (H1 : Heap) (locs1 : List Loc), t.heap = H1 → s.vm.Alike t.vm → post u → B u t → H.size ≤ H1.size → (∀ q : Nat, q < H.size → ¬ A1 q → H1[q]? = H[q]?) → va_S A0 H0 H1 locs1 → W p l e R s m args below meth c H1 locs1 (cells + mc) (slots + ms) Q (F0 m (pc + 3) ls (rest))) : W p l e R s m args below meth c H locs cells slots Q (F0 m pc ls st0) := by
  intro T hT X
  rcases hr T hT X with ⟨v, st₀, t, T', L, h0, X', hL, e1, e2, ⟨⟨u, hv, hp, hb⟩, hF⟩, st⟩ | ⟨q, st₀, t, T', L, E, ce, h0, X', hL, e1, e2, ⟨u, hp, hb, hF⟩, hce, hcv, hcl, st⟩
  · cases hv
    obtain ⟨k1, k2, k3⟩ := vx_keep h0 e1 hS hA hf hL hF
    obtain ⟨t2, a1, b1⟩ := kk u t T'.heap (locs ++ L) e1.symm (by rw [← e2]; exact X'.warmed.alike) hp hb k1 k2 k3 T' rfl X'
    exact ⟨t2, st t2 a1, b1⟩
  · obtain ⟨k1, k2, k3⟩ := vx_keep h0 e1 hS hAX hf hL hF
    obtain ⟨t2, a1, b1⟩ := kx E ce q u t T'.heap (locs ++ L) e1.symm (by rw [← e2]; exact X'.warmed.alike) hp hb k1 k2 k3 (by rw [e1]; exact hce) hcv hcl T' rfl X'
    exact ⟨t2, st.trans a1, b1⟩
/-- caught by the row x of this method's table; the rows ahead don't take it -/
theorem vx_catch {own name : String} {E : String} {ce : Cell} {q : Addr} (hown : s.vm.findClass own = some m.cls) (pre : List ExceptionTableEntry) (x : ExceptionTableEntry) (suf : List ExceptionTableEntry) (hsplit : c.exceptionTable.toList = pre ++ x :: suf)
    (hpass : ∀ z ∈ pre, covers z pc = false ∨ (z.catchType ≠ 0 ∧ ∃ nm : String, (Cond.classLink own z.catchType nm).before args s = true ∧ va_Nc E nm s)) (hx : covers x pc = true) (h0 : x.catchType ≠ 0)
    (hlink : (Cond.classLink own x.catchType name).before args s = true) (hcast : (Cond.castable E name).before args s = true) (hcell : H[q]? = some ce) (hv : ce.vm = .none) (hcl : s.vm.findClass E = some ce.cls)
    (kk : W p l e R s m args below meth c H locs cells slots Q (F0 m x.handlerPc ls [.ref q])) : vx_W p l e R s m args below meth c H locs cells slots Q (F0 m pc ls rest) q := by
  intro T hT X
  have hpl : e.platform.magicAccessors = ({} : Platform).magicAccessors := by rw [X.admits.platform]
  obtain ⟨c3, c4, hc3, hc4, hasg⟩ := Cond.castable_spec hcast
  cases Option.some.inj (hc3.symm.trans hcl)
  obtain ⟨c5, hc5, hcl5⟩ := Cond.classLink_spec hown hlink e.platform hpl
  cases Option.some.inj (hc4.symm.trans hc5)
  obtain ⟨vm', X', st⟩ := X.thenCaughtThrough q (g := F0 m pc ls rest) rfl (Steps.refl _) (by rw [hT]; exact hcell) (by rw [hv]; rfl) (by obtain ⟨k9, h9, -⟩ := Vm.findClass_spec hcl; exact ⟨k9, h9⟩) pre x suf hsplit
    (fun z hz => by
      rcases hpass z hz with h | ⟨hz0, nm, hl1, hn1⟩
      · exact Or.inl h
      · obtain ⟨c6, hc6, hcl6⟩ := Cond.classLink_spec hown hl1 e.platform hpl
        obtain ⟨a8, b8, h1, h2, h3⟩ := hn1
        cases Option.some.inj (h1.symm.trans hcl)
        cases Option.some.inj (h2.symm.trans hc6)
        exact Or.inr ⟨hz0, _, hcl6, h3⟩) hx (Or.inr ⟨h0, c4, hcl5, hasg⟩)
  obtain ⟨t, a1, b1⟩ := kk (T.setVm vm') hT X'
  exact ⟨t, st.trans a1, b1⟩
end Rows
section Ends
variable {p : Program} {l : Launch} {e : Env} {R : Room} {s : State} {m : MethodId} {args : Array Value} {below : List Frame} {meth : Method} {c : Code} {H : Heap} {locs : List Loc} {cells slots : Nat} {Q : State → Prop}
variable {mc ms : Nat} {free : Addr → Prop} {A0 A1 : Nat → Prop} {H0 : Heap} {a : Array Value} {ls : Array Slot} {st0 rest : List Value}
variable {Qc : Array Value → State → Outcome → State → Prop} {XC : String → State → State → Prop}
/-- what a body that may throw owes at its end -/
def vx_MQ (below : List Frame) (Qc : Array Value → State → Outcome → State → Prop) (XC : String → State → State → Prop) (a : Array Value) (s : State) (mc ms : Nat) (free : Addr → Prop) : State → Prop := fun t =>
  ∃ o, t.status = .running ∧ Ended t below o ∧ vx_Q Qc XC mc ms free a s o t
theorem vx_ret {g : JFrame} {mc ms : Nat} (k : W p l e R s m args below meth c H locs cells slots (MQ below Qc args s mc ms free) g) : W p l e R s m args below meth c H locs cells slots (vx_MQ below Qc XC args s mc ms free) g := by
  intro T hT X
  obtain ⟨t, a1, o, b1, b2, b3, b4⟩ := k T hT X
  exact ⟨t, a1, o, b1, b2, Or.inl ⟨b3, b4⟩⟩
/-- not caught here: it goes on to the caller -/
theorem vx_widen {g : JFrame} {q : Addr} {k n : Nat} (h1 : cells ≤ k) (h2 : slots ≤ n) (kk : vx_W p l e R s m args below meth c H locs k n Q g q) : vx_W p l e R s m args below meth c H locs cells slots Q g q := fun T hT X => kk T hT (stand_widen X h1 h2)
theorem vx_out {pc : Nat} {E : String} {ce : Cell} {q : Addr} {mc ms : Nat} (hout : ∀ x ∈ c.exceptionTable.toList, covers x pc = false) (hlocks : meth.locks = false) (hcell : H[q]? = some ce) (hv : ce.vm = .none) (hcl : s.vm.findClass E = some ce.cls)
    (hx : ∀ t : State, t.heap = H → s.vm.Alike t.vm → XC E s t) (hf : ∀ z ∈ locs, free z.base) (hc : cells ≤ mc) (hs : slots ≤ ms) :
    vx_W p l e R s m args below meth c H locs cells slots (vx_MQ below Qc XC args s mc ms free) (F0 m pc ls rest) q := by
  intro T hT X
  obtain ⟨st1, hrun, hend, hW, hsm⟩ := X.leaveThrown q (g := F0 m pc ls rest) rfl rfl rfl hout hlocks
  have hcell9 : (T.setFrames (.throwing q :: below)).heap[q]? = some ce := by
    show T.heap[q]? = some ce
    rw [hT]; exact hcell
  exact ⟨_, st1, .threw q, hrun, hend, Or.inr ⟨q, rfl, E, ce, locs, hx _ hT hW.alike, hcell9, hv, hcl, hW, hsm.mono hc hs, hf⟩⟩
theorem vx_frame {U : State} {k n : Nat} (h : s.sameButNew ({ U with vm := s.vm } : State) locs k n) : s.heap.size ≤ U.heap.size ∧ ∀ q : Nat, q < s.heap.size → (∀ z ∈ locs, z.base ≠ q) → U.heap[q]? = s.heap[q]? := by
  obtain ⟨-, h2, -, -, -, h6⟩ := h
  refine ⟨h2, fun q hq hz => ?_⟩
  obtain ⟨c9, e1, e2, e3, e4⟩ := h6 q _ (Array.getElem?_eq_getElem hq)
  have hs : c9.slots = (s.heap[q]).slots := Array.ext_getElem? fun i => e4 i fun hm => hz _ hm rfl
  have h9 : c9 = s.heap[q] := by
    rw [hs] at e2
    exact e2
  have e5 : U.heap[q]? = some c9 := e1
  rw [e5, h9, Array.getElem?_eq_getElem hq]
/-- the words of a throw but the four that speak of the heap -/
def vx_no (w : Cond) : Bool := decide (w ≠ .isRef (.static Bundle.tN "UNASSIGNED_STACK" Bundle.steD)) && decide (w ≠ .isRef (.static Bundle.tN "SUPPRESSED_SENTINEL" Bundle.listD)) && decide (w ≠ .laysStatic Bundle.tN "UNASSIGNED_STACK" Bundle.steD) && decide (w ≠ .laysStatic Bundle.tN "SUPPRESSED_SENTINEL" Bundle.listD)
def vx_at0 (own : String) (ic : Nat) (X : String) (names : List String) : List Cond := (Bundle.ownAtoms0 own ic X names).filter vx_no
def vx_atS (own : String) (ic : Nat) (X : String) (names : List String) : List Cond := (Bundle.ownAtoms own ic X names).filter vx_no
/-- a word that the tables alone decide, or a good one -/
def vx_ot (w : Cond) : Bool := w.onTables || goodWord w
theorem vx_ot_at {args a' : Array Value} {s U : State} {w : Cond} (hW : s.WarmedH U.vm) (hvm : s.vm = U.vm) (hg : vx_ot w = true) (h : w.before args s = true) : w.before a' U = true := by
  simp only [vx_ot, Bool.or_eq_true] at hg
  rcases hg with hg | hg
  · exact va_tabs hg hvm h
  · exact word_at hW (good_of_word hg) h
/-- a list's words: the good ones out of the method's own list, the others by premises of their own -/
theorem vx_hat {args : Array Value} {s : State} {L B : List Cond} (h1 : ∀ w ∈ L.filter goodWord, w.before args s = true) (h2 : ∀ w ∈ L.filter (fun w => !goodWord w), w ∈ B) (h3 : ∀ w ∈ B, w.before args s = true) : ∀ w ∈ L, w.before args s = true := by
  intro w hw
  by_cases g : goodWord w = true
  · exact h1 w (List.mem_filter.mpr ⟨hw, g⟩)
  · refine h3 w (h2 w (List.mem_filter.mpr ⟨hw, ?_⟩))
    show (!goodWord w) = true
    cases hgw : goodWord w
    · rfl
    · exact absurd hgw g
theorem vx_c {args : Array Value} {s : State} {w : Cond} {B : List Cond} (h : w.before args s = true) (t : ∀ w ∈ B, w.before args s = true) : ∀ w' ∈ w :: B, w'.before args s = true := fun w' h' => (List.mem_cons.mp h').elim (fun e => by rw [e]; exact h) (t w')
theorem vx_n {args : Array Value} {s : State} : ∀ w ∈ ([] : List Cond), w.before args s = true := fun _ h => nomatch h
theorem vx_own {args : Array Value} {s : State} {L : List Cond} (h1 : ∀ w ∈ L.filter vx_no, w.before args s = true)
    (hU : (Cond.isRef (.static Bundle.tN "UNASSIGNED_STACK" Bundle.steD)).before args s = true) (hN : (Cond.isRef (.static Bundle.tN "SUPPRESSED_SENTINEL" Bundle.listD)).before args s = true)
    (lU : (Cond.laysStatic Bundle.tN "UNASSIGNED_STACK" Bundle.steD).before args s = true) (lN : (Cond.laysStatic Bundle.tN "SUPPRESSED_SENTINEL" Bundle.listD).before args s = true) : ∀ w ∈ L, w.before args s = true := by
  intro w hw
  by_cases e1 : w = .isRef (.static Bundle.tN "UNASSIGNED_STACK" Bundle.steD)
  · rw [e1]; exact hU
  · by_cases e2 : w = .isRef (.static Bundle.tN "SUPPRESSED_SENTINEL" Bundle.listD)
    · rw [e2]; exact hN
    · by_cases e3 : w = .laysStatic Bundle.tN "UNASSIGNED_STACK" Bundle.steD
      · rw [e3]; exact lU
      · by_cases e4 : w = .laysStatic Bundle.tN "SUPPRESSED_SENTINEL" Bundle.listD
        · rw [e4]; exact lN
        · exact h1 w (List.mem_filter.mpr ⟨hw, by unfold vx_no; rw [decide_eq_true e1, decide_eq_true e2, decide_eq_true e3, decide_eq_true e4]; rfl⟩)
/-- where a static field lies, its class's statics cell in H -/
def vx_L (C n d : String) (A : Nat → Prop) (U : State) (H : Heap) : Prop := ∃ (c : ClassId) (k : Class) (i : Nat) (f : Field) (a : Nat) (cell : Cell), U.vm.findClass C = some c ∧ U.fieldFound? C n d = some (c, k, i, f) ∧ f.isStatic = true ∧ k.statics = some a ∧ H[a]? = some cell ∧ cell.vm.isStatics = true ∧ cell.cls = c ∧ f.slot < cell.slots.size ∧ k.staticTypes[f.slot]? = some f.type ∧ ¬ A a
theorem vx_L.moved {C n d : String} {A : Nat → Prop} {u U : State} {H : Heap} (hvm : u.vm.Alike U.vm) (h : vx_L C n d A u H) : vx_L C n d A U H := by
  obtain ⟨c, k, i, f, a, cell, h1, h2, h3, h4, h5, h6, h7, h8, h9, h10⟩ := h
  obtain ⟨k', hi', he⟩ := State.fieldFound?_setVm hvm h2
  exact ⟨c, k', i, f, a, cell, by rw [hvm.findClass]; exact h1, hi', h3, by rw [he]; exact h4, h5, h6, h7, h8, by rw [he]; exact h9, h10⟩
theorem vx_L.kept {C n d : String} {A : Nat → Prop} {U : State} {H H1 : Heap} (h : vx_L C n d A U H) (hq : ∀ a : Nat, a < H.size → ¬ A a → H1[a]? = H[a]?) : vx_L C n d A U H1 := by
  obtain ⟨c, k, i, f, a, cell, h1, h2, h3, h4, h5, h6, h7, h8, h9, h10⟩ := h
  exact ⟨c, k, i, f, a, cell, h1, h2, h3, h4, by rw [hq a (Array.getElem?_eq_some_iff.mp h5).1 h10]; exact h5, h6, h7, h8, h9, h10⟩
theorem vx_L.narrow {C n d : String} {A B : Nat → Prop} {U : State} {H : Heap} (h : vx_L C n d A U H) (hAB : ∀ q, B q → A q) : vx_L C n d B U H := by
  obtain ⟨c, k, i, f, a, cell, h1, h2, h3, h4, h5, h6, h7, h8, h9, h10⟩ := h
  exact ⟨c, k, i, f, a, cell, h1, h2, h3, h4, h5, h6, h7, h8, h9, fun z => h10 (hAB _ z)⟩
theorem vx_L.word {C n d : String} {A : Nat → Prop} {s : State} {args : Array Value} (h : vx_L C n d A s s.heap) : (Cond.laysStatic C n d).before args s = true := by
  obtain ⟨c, k, i, f, a, cell, h1, h2, h3, h4, h5, h6, h7, h8, h9, -⟩ := h
  show (Cond.laysStatic C n d).holds args s none s [] = true
  exact Cond.laysStatic_of h1 h2 h3 h4 h5 h6 h7 h8 h9
/-- .. and what it holds: null or some reference -/
def vx_Zq (C n d : String) (A : Nat → Prop) (U : State) (H : Heap) : Prop := va_Zq C n d A U H ∧ vx_L C n d A U H
theorem vx_Zq.moved {C n d : String} {A : Nat → Prop} {u U : State} {H : Heap} (hvm : u.vm.Alike U.vm) (h : vx_Zq C n d A u H) : vx_Zq C n d A U H := ⟨va_Zq.moved hvm h.1, vx_L.moved hvm h.2⟩
theorem vx_Zq.kept {C n d : String} {A : Nat → Prop} {U : State} {H H1 : Heap} (h : vx_Zq C n d A U H) (hq : ∀ a : Nat, a < H.size → ¬ A a → H1[a]? = H[a]?) : vx_Zq C n d A U H1 := ⟨va_Zq.kept h.1 hq, vx_L.kept h.2 hq⟩
theorem vx_Zq.narrow {C n d : String} {A B : Nat → Prop} {U : State} {H : Heap} (h : vx_Zq C n d A U H) (hAB : ∀ q, B q → A q) : vx_Zq C n d B U H := ⟨va_Zq.narrow h.1 hAB, vx_L.narrow h.2 hAB⟩
theorem vx_Zqof {args : Array Value} {s : State} {C n d : String} {A : Nat → Prop} (hl : (Cond.laysStatic C n d).before args s = true) (hini : (Cond.initialized C).before args s = true) (h : (Cond.isRef (.static C n d)).before args s = true) (hA : ∀ a : Nat, a < s.heap.size → ¬ A a) : vx_Zq C n d A s s.heap := by
  refine ⟨va_Zqof hl hini h hA, ?_⟩
  obtain ⟨c, k, i, f, a, cell, h1, h2, h3, h4, h5, h6, h7, h8, h9⟩ := Cond.laysStatic_spec hl
  exact ⟨c, k, i, f, a, cell, h1, h2, h3, h4, h5, h6, h7, h8, h9, hA a (Array.getElem?_eq_some_iff.mp h5).1⟩
theorem vx_isRef {C n d : String} {v : Value} {A : Nat → Prop} {s : State} {args : Array Value} (h : va_Z C n d v A s s.heap) (hv : v.isRef = true) : (Cond.isRef (.static C n d)).before args s = true := by
  obtain ⟨cf, kf, fi, f, a, cell, h1, h2, h3, h4, h5, h6, h7, -⟩ := h
  have he : (Term.static C n d).eval args s none [] s = some v := by
    simp [Term.eval, State.fieldNamed?, h1, h2, h4, h5, h6, h7]
  simp only [Cond.before, Cond.holds, Cond.value, he]
  cases v <;> simp_all [Value.isRef]
theorem vx_isRefq {C n d : String} {A : Nat → Prop} {s : State} {args : Array Value} (h : va_Zq C n d A s s.heap) : (Cond.isRef (.static C n d)).before args s = true := by
  rcases h with h | ⟨t, h⟩
  · exact vx_isRef h rfl
  · exact vx_isRef h rfl
/-- the same frame, seen from here: as if the method were called anew in this heap -/
theorem vx_rebase {T : State} (X : Stand p l e R s m args below meth c T locs cells slots) {R' : Room} (hf : R'.frames ≤ R.frames) (hl : R'.locals ≤ R.locals) (hc : cells + R'.cells ≤ R.cells) (hs : slots + R'.slots ≤ R.slots) :
    Stand p l e R' ((T.setVm s.vm).setFrames (.invoking m args :: below)) m args below meth c T [] 0 0 := by
  have htop : (T.setVm s.vm).topJava?.isSome := X.here.top
  have hF : ((T.setVm s.vm).setFrames (.invoking m args :: below)).frames = .invoking m args :: below := State.frames_setFrames _ (State.cur_lt_of_top htop)
  obtain ⟨g₀, hg0⟩ := Option.isSome_iff_exists.mp htop
  obtain ⟨r, hr⟩ := State.topJava?_eq_some.mp hg0
  have hl9 : e.platform.stackLimits (T.setVm s.vm).me = e.platform.stackLimits s.me := X.limits
  have hb9 : (T.setVm s.vm).me.stackBytes = s.me.stackBytes := X.bytes
  refine ⟨X.admits, X.cas, X.clock, hF, ?_, X.hears, X.method, X.code, X.here, X.tail, X.warmed, ?_, ?_, ?_⟩
  · have h := X.room
    have hU : ((T.setVm s.vm).setFrames (.invoking m args :: below)).localsInUse = s.localsInUse := by
      rw [State.localsInUse_invoking hF (meth := meth) (c := c) X.method X.code, State.localsInUse_invoking X.frames X.method X.code]
    simp only [State.hasRoom, Bool.and_eq_true, decide_eq_true_eq] at h ⊢
    obtain ⟨⟨⟨⟨h1, h2, h3, h4, h5, h6⟩, h7⟩, h8⟩, h9⟩ := h
    rw [X.frames, List.length_cons] at h2 h3
    have q1 := X.heapSize
    have q2 := X.used
    simp only [hF, hU, List.length_cons, State.stackLimits_setFrames, State.stackBytes_setFrames, hl9, hb9]
    refine ⟨⟨⟨⟨by omega, by omega, by omega, by omega, by omega, h6⟩, ?_⟩, ?_⟩, X.book⟩
    · show T.heap.size + R'.cells ≤ e.platform.maxCells
      omega
    · show T.slotsUsed + R'.slots ≤ e.platform.maxSlots
      omega
  · rw [State.stackLimits_setFrames]; rfl
  · rw [State.stackBytes_setFrames]; rfl
  · refine ⟨?_, Nat.le_refl _, Nat.le_refl _, ?_, ?_, fun a c9 h9 => ⟨c9, h9, rfl, rfl, fun _ _ => rfl⟩⟩
    · obtain ⟨t, ht, -⟩ := State.frames_cons hr
      show T.setVm s.vm = { ((T.setVm s.vm).setFrames (.invoking m args :: below)).setFrames (T.setVm s.vm).frames with heap := T.heap, slotsUsed := T.slotsUsed }
      rw [State.setFrames_setFrames, State.setFrames_self ht]
      rfl
    · show T.slotsUsed = T.slotsUsed + ((T.heap.toList.drop T.heap.size).map (·.slots.size)).sum
      rw [List.drop_eq_nil_of_le (Nat.le_of_eq Array.length_toList)]
      rfl
    · show ((T.heap.toList.drop T.heap.size).map (·.slots.size)).sum ≤ 0
      rw [List.drop_eq_nil_of_le (Nat.le_of_eq Array.length_toList)]
      exact Nat.le_refl _
/-- 'throw new E()': new; dup; invokespecial; athrow -/
theorem vx_throw0 {cc : ByteArray} {pc : Nat} (hexec : p.tables.exec = Jvm.exec) (hb : c.code = cc) (hl : l.stackTraces = false) {own cls : String} {names : List String} {ik ic mc ms : Nat} {A : Nat → Prop}
    (hown : s.vm.findClass own = some m.cls) (hcls : Bundle.fit cls = true) (hnames : ∀ n ∈ names, Bundle.fit n = true)
    (hk : (Cond.classLink own ik cls).before args s = true) (hini : (Cond.initialized cls).before args s = true) (hat : ∀ w ∈ vx_at0 own ic cls names, w.before args s = true)
    (hgood : ∀ w ∈ Cond.classLink own ik cls :: Cond.initialized cls :: vx_at0 own ic cls names, vx_ot w = true)
    (hU : vx_Zq Bundle.tN "UNASSIGNED_STACK" Bundle.steD A s s.heap) (hN : vx_Zq Bundle.tN "SUPPRESSED_SENTINEL" Bundle.listD A s s.heap) (hS : va_S A s.heap H locs) (hsize : ls.size = c.maxLocals)
    (d0 : decode cc pc = .ok (.new ik, 3)) (d3 : decode cc (pc + 3) = .ok (.dup, 1)) (d4 : decode cc (pc + 4) = .ok (.invokespecial ic, 3)) (d7 : decode cc (pc + 7) = .ok (.athrow, 1))
    (hout : ∀ x ∈ c.exceptionTable.toList, covers x (pc + 7) = false)
    (hRframes : names.length + 3 < R.frames) (hRlocals : (rest.map fun v => v.category).sum + (13 * (names.length + 1) + 42) ≤ R.locals) (hRcells : cells + 1 ≤ R.cells) (hRslots : slots + 6 ≤ R.slots) (hlocks : meth.locks = false)
    (hx : ∀ t : State, s.vm.Alike t.vm → H.size ≤ t.heap.size → (∀ q : Nat, q < H.size → t.heap[q]? = H[q]?) → XC cls s t)
    (hf : ∀ z ∈ locs, free z.base) (hc : cells + 1 ≤ mc) (hs : slots + 6 ≤ ms) :
    W p l e R s m args below meth c H locs cells slots (vx_MQ below Qc XC args s mc ms free) (F0 m pc ls rest) := by
  intro T hT X
  have htr : e.platform.stackTraces = false := (show e.platform.stackTraces = l.stackTraces by rw [X.admits.platform]).trans hl
  have Y := vx_rebase X (R' := { frames := R.frames, locals := R.locals, cells := 1, slots := 6 }) (Nat.le_refl _) (Nat.le_refl _) hRcells hRslots
  obtain ⟨s', hA⟩ : ∃ z, z = (T.setVm s.vm).setFrames (.invoking m args :: below) := ⟨_, rfl⟩
  rw [← hA] at Y
  have hvm : s'.vm = s.vm := by rw [hA]; rfl
  have hhp : s'.heap = H := by rw [hA]; exact hT
  have hW0 : s.WarmedH s'.vm := by rw [hvm]; exact State.WarmedH.refl s
  have hat' : ∀ w ∈ vx_at0 own ic cls names, w.before args s' = true := fun w hw => vx_ot_at hW0 hvm.symm (hgood w (List.mem_cons_of_mem _ (List.mem_cons_of_mem _ hw))) (hat w hw)
  have hk' : (Cond.classLink own ik cls).before args s' = true := vx_ot_at hW0 hvm.symm (hgood _ List.mem_cons_self) hk
  have hini' : (Cond.initialized cls).before args s' = true := vx_ot_at hW0 hvm.symm (hgood _ (List.mem_cons_of_mem _ List.mem_cons_self)) hini
  have hU' : vx_Zq Bundle.tN "UNASSIGNED_STACK" Bundle.steD A s' s'.heap := by rw [hhp]; exact vx_Zq.moved hW0.alike (hU.kept hS.2.1)
  have hN' : vx_Zq Bundle.tN "SUPPRESSED_SENTINEL" Bundle.listD A s' s'.heap := by rw [hhp]; exact vx_Zq.moved hW0.alike (hN.kept hS.2.1)
  have h : ∀ w ∈ Bundle.ownAtoms0 own ic cls names, w.before args s' = true := vx_own hat' (vx_isRefq hU'.1) (vx_isRefq hN'.1) hU'.2.word hN'.2.word
  have hown' : s'.vm.findClass own = some m.cls := by rw [hvm]; exact hown
  have hins : (Cond.instantiable cls 6).before args s' = true := h _ (by simp [Bundle.ownAtoms0])
  obtain ⟨vm₁, cX, kX, hfX, hkX, -, -, X₁, st1⟩ := Y.newCold hexec (own := own) (C := cls) (index := ik) (n := 6) hown' hk' hins hini'
    (g := F0 m pc ls rest) rfl (by rw [hb]; exact d0) (Nat.le_refl _) (Nat.le_refl _)
  generalize hT1 : (T.setVm vm₁).pushCell { cls := cX, slots := kX.instanceTypes.map defaultValue, vm := .none } = T1 at X₁ st1
  have hcat : (Value.ref T.heap.size).category = 1 := rfl
  have hcellA : T1.heap[T.heap.size]? = some (freshCell cX kX) := by rw [← hT1]; exact State.heap_pushCell_size _ _
  have d3' : decode c.code (pc + 3) = .ok (.dup, 1) := by rw [hb]; exact d3
  obtain ⟨U, hsteps, hrun, hend, hW, hsame, ce, hce, hO⟩ := X₁.ctorThrow0 hexec htr (own := own) (cls := cls) (names := names) (ic := ic) hown' hcls hnames h (fun x hx => nomatch hx) hfX hkX hcellA (by rw [hhp, hT]; exact Nat.le_refl _)
    (g := { method := m, pc := pc + 4, locals := ls, stack := .ref T.heap.size :: .ref T.heap.size :: rest, locked := none }) rfl hsize rfl rfl (rest := rest) rfl
    (by rw [hb]; exact d4) (by rw [hb]; exact d7) hout hRframes (by simp only [List.map_cons, List.sum_cons, hcat]; omega) hlocks
  obtain ⟨f1, f2⟩ := vx_frame hsame
  rw [hhp] at f1 f2
  have hWs : s.WarmedH U.vm := State.WarmedH.trans hW0 hW
  have hcl : s.vm.findClass cls = some ce.cls := by
    have h9 := hO.cls
    rw [hvm] at h9
    exact h9
  have hall : s.sameButNew ({ U with vm := s.vm } : State) locs mc ms := by
    subst hA
    obtain ⟨e1, e2⟩ := hsame
    rw [State.setFrames_setFrames] at e1
    have h2 : (T.setVm s.vm).sameButNew ({ U with vm := s.vm } : State) [] (0 + 1) (0 + 6) := ⟨e1, e2⟩
    have h3 := X.same.trans h2
    rw [List.append_nil] at h3
    exact h3.mono hc hs
  refine ⟨U, ?_, .threw T.heap.size, hrun, hend, Or.inr ⟨T.heap.size, rfl, cls, ce, locs, hx U hWs.alike f1 (fun q hq => f2 q hq (fun z hz => nomatch hz)), hce, hO.vm, hcl, hWs, hall, hf⟩⟩
  refine st1 _ ?_
  show Steps p.tables e below (T1.setTop { method := m, pc := pc + 3, locals := ls, stack := .ref T.heap.size :: rest, locked := none }) _
  jvm_step X₁.here [X₁.here.top, hexec, d3', Value.category]
  exact hsteps
/-- 'throw new E("text")': new; dup; ldc; invokespecial; athrow -/
theorem vx_throwS {cc : ByteArray} {pc : Nat} (hexec : p.tables.exec = Jvm.exec) (hb : c.code = cc) (hl : l.stackTraces = false) {own cls text : String} {names : List String} {ik is ic mc ms sa : Nat} {A : Nat → Prop}
    (hown : s.vm.findClass own = some m.cls) (hcls : Bundle.fit cls = true) (hnames : ∀ n ∈ names, Bundle.fit n = true)
    (hk : (Cond.classLink own ik cls).before args s = true) (hini : (Cond.initialized cls).before args s = true) (hstr : vk_R own is text sa s) (hat : ∀ w ∈ vx_atS own ic cls names, w.before args s = true)
    (hgood : ∀ w ∈ Cond.classLink own ik cls :: Cond.initialized cls :: vx_atS own ic cls names, vx_ot w = true)
    (hU : vx_Zq Bundle.tN "UNASSIGNED_STACK" Bundle.steD A s s.heap) (hN : vx_Zq Bundle.tN "SUPPRESSED_SENTINEL" Bundle.listD A s s.heap) (hS : va_S A s.heap H locs) (hsize : ls.size = c.maxLocals)
    (d0 : decode cc pc = .ok (.new ik, 3)) (d3 : decode cc (pc + 3) = .ok (.dup, 1)) (d4 : decode cc (pc + 4) = .ok (.ldc is, 2)) (d6 : decode cc (pc + 6) = .ok (.invokespecial ic, 3)) (d9 : decode cc (pc + 9) = .ok (.athrow, 1))
    (hout : ∀ x ∈ c.exceptionTable.toList, covers x (pc + 9) = false)
    (hRframes : names.length + 3 < R.frames) (hRlocals : (rest.map fun v => v.category).sum + (13 * (names.length + 1) + 43) ≤ R.locals) (hRcells : cells + 1 ≤ R.cells) (hRslots : slots + 6 ≤ R.slots) (hlocks : meth.locks = false)
    (hx : ∀ t : State, s.vm.Alike t.vm → H.size ≤ t.heap.size → (∀ q : Nat, q < H.size → t.heap[q]? = H[q]?) → XC cls s t)
    (hf : ∀ z ∈ locs, free z.base) (hc : cells + 1 ≤ mc) (hs : slots + 6 ≤ ms) :
    W p l e R s m args below meth c H locs cells slots (vx_MQ below Qc XC args s mc ms free) (F0 m pc ls rest) := by
  intro T hT X
  have htr : e.platform.stackTraces = false := (show e.platform.stackTraces = l.stackTraces by rw [X.admits.platform]).trans hl
  have Y := vx_rebase X (R' := { frames := R.frames, locals := R.locals, cells := 1, slots := 6 }) (Nat.le_refl _) (Nat.le_refl _) hRcells hRslots
  obtain ⟨s', hA⟩ : ∃ z, z = (T.setVm s.vm).setFrames (.invoking m args :: below) := ⟨_, rfl⟩
  rw [← hA] at Y
  have hvm : s'.vm = s.vm := by rw [hA]; rfl
  have hhp : s'.heap = H := by rw [hA]; exact hT
  have hW0 : s.WarmedH s'.vm := by rw [hvm]; exact State.WarmedH.refl s
  have hat' : ∀ w ∈ vx_atS own ic cls names, w.before args s' = true := fun w hw => vx_ot_at hW0 hvm.symm (hgood w (List.mem_cons_of_mem _ (List.mem_cons_of_mem _ hw))) (hat w hw)
  have hk' : (Cond.classLink own ik cls).before args s' = true := vx_ot_at hW0 hvm.symm (hgood _ List.mem_cons_self) hk
  have hini' : (Cond.initialized cls).before args s' = true := vx_ot_at hW0 hvm.symm (hgood _ (List.mem_cons_of_mem _ List.mem_cons_self)) hini
  have hU' : vx_Zq Bundle.tN "UNASSIGNED_STACK" Bundle.steD A s' s'.heap := by rw [hhp]; exact vx_Zq.moved hW0.alike (hU.kept hS.2.1)
  have hN' : vx_Zq Bundle.tN "SUPPRESSED_SENTINEL" Bundle.listD A s' s'.heap := by rw [hhp]; exact vx_Zq.moved hW0.alike (hN.kept hS.2.1)
  have h : ∀ w ∈ Bundle.ownAtoms own ic cls names, w.before args s' = true := vx_own hat' (vx_isRefq hU'.1) (vx_isRefq hN'.1) hU'.2.word hN'.2.word
  have hown' : s'.vm.findClass own = some m.cls := by rw [hvm]; exact hown
  have hins : (Cond.instantiable cls 6).before args s' = true := h _ (by simp [Bundle.ownAtoms])
  obtain ⟨vm₁, cX, kX, hfX, hkX, -, -, X₁, st1⟩ := Y.newCold hexec (own := own) (C := cls) (index := ik) (n := 6) hown' hk' hins hini'
    (g := F0 m pc ls rest) rfl (by rw [hb]; exact d0) (Nat.le_refl _) (Nat.le_refl _)
  generalize hT1 : (T.setVm vm₁).pushCell { cls := cX, slots := kX.instanceTypes.map defaultValue, vm := .none } = T1 at X₁ st1
  have hcat : (Value.ref T.heap.size).category = 1 := rfl
  have hcellA : T1.heap[T.heap.size]? = some (freshCell cX kX) := by rw [← hT1]; exact State.heap_pushCell_size _ _
  have d3' : decode c.code (pc + 3) = .ok (.dup, 1) := by rw [hb]; exact d3
  have d4' : decode c.code (pc + 4) = .ok (.ldc is, 2) := by rw [hb]; exact d4
  have hstr' : vk_R own is text sa s' := vk_R.warm hW0 hstr
  obtain ⟨U, hsteps, hrun, hend, hW, hsame, ce, hce, hO⟩ := X₁.ctorThrowS hexec htr (own := own) (cls := cls) (names := names) (ic := ic) hown' hcls hnames h (fun x hx => nomatch hx) hfX hkX hcellA (by rw [hhp, hT]; exact Nat.le_refl _) (msg := .ref sa) rfl
    (g := { method := m, pc := pc + 6, locals := ls, stack := .ref sa :: .ref T.heap.size :: .ref T.heap.size :: rest, locked := none }) rfl hsize rfl rfl (rest := rest) rfl
    (by rw [hb]; exact d6) (by rw [hb]; exact d9) hout hRframes (by simp only [List.map_cons, List.sum_cons, hcat]; omega) hlocks
  obtain ⟨f1, f2⟩ := vx_frame hsame
  rw [hhp] at f1 f2
  have hWs : s.WarmedH U.vm := State.WarmedH.trans hW0 hW
  have hcl : s.vm.findClass cls = some ce.cls := by
    have h9 := hO.cls
    rw [hvm] at h9
    exact h9
  have hall : s.sameButNew ({ U with vm := s.vm } : State) locs mc ms := by
    subst hA
    obtain ⟨e1, e2⟩ := hsame
    rw [State.setFrames_setFrames] at e1
    have h2 : (T.setVm s.vm).sameButNew ({ U with vm := s.vm } : State) [] (0 + 1) (0 + 6) := ⟨e1, e2⟩
    have h3 := X.same.trans h2
    rw [List.append_nil] at h3
    exact h3.mono hc hs
  refine ⟨U, ?_, .threw T.heap.size, hrun, hend, Or.inr ⟨T.heap.size, rfl, cls, ce, locs, hx U hWs.alike f1 (fun q hq => f2 q hq (fun z hz => nomatch hz)), hce, hO.vm, hcl, hWs, hall, hf⟩⟩
  refine st1 _ ?_
  show Steps p.tables e below (T1.setTop { method := m, pc := pc + 3, locals := ls, stack := .ref T.heap.size :: rest, locked := none }) _
  jvm_step X₁.here [X₁.here.top, hexec, d3', Value.category]
  exact X₁.ldcString hexec (own := own) (text := text) (index := is) (a := sa) hown' hstr'.1 hstr'.2
    (g := { method := m, pc := pc + 4, locals := ls, stack := .ref T.heap.size :: .ref T.heap.size :: rest, locked := none }) rfl d4' _ hsteps
/-- 'throw new E("text")', the text by a wide index -/
theorem vx_throwSW {cc : ByteArray} {pc : Nat} (hexec : p.tables.exec = Jvm.exec) (hb : c.code = cc) (hl : l.stackTraces = false) {own cls text : String} {names : List String} {ik is ic mc ms sa : Nat} {A : Nat → Prop}
    (hown : s.vm.findClass own = some m.cls) (hcls : Bundle.fit cls = true) (hnames : ∀ n ∈ names, Bundle.fit n = true)
    (hk : (Cond.classLink own ik cls).before args s = true) (hini : (Cond.initialized cls).before args s = true) (hstr : vk_R own is text sa s) (hat : ∀ w ∈ vx_atS own ic cls names, w.before args s = true)
    (hgood : ∀ w ∈ Cond.classLink own ik cls :: Cond.initialized cls :: vx_atS own ic cls names, vx_ot w = true)
    (hU : vx_Zq Bundle.tN "UNASSIGNED_STACK" Bundle.steD A s s.heap) (hN : vx_Zq Bundle.tN "SUPPRESSED_SENTINEL" Bundle.listD A s s.heap) (hS : va_S A s.heap H locs) (hsize : ls.size = c.maxLocals)
    (d0 : decode cc pc = .ok (.new ik, 3)) (d3 : decode cc (pc + 3) = .ok (.dup, 1)) (d4 : decode cc (pc + 4) = .ok (.ldc_w is, 3)) (d7 : decode cc (pc + 7) = .ok (.invokespecial ic, 3)) (d10 : decode cc (pc + 10) = .ok (.athrow, 1))
    (hout : ∀ x ∈ c.exceptionTable.toList, covers x (pc + 10) = false)
    (hRframes : names.length + 3 < R.frames) (hRlocals : (rest.map fun v => v.category).sum + (13 * (names.length + 1) + 43) ≤ R.locals) (hRcells : cells + 1 ≤ R.cells) (hRslots : slots + 6 ≤ R.slots) (hlocks : meth.locks = false)
    (hx : ∀ t : State, s.vm.Alike t.vm → H.size ≤ t.heap.size → (∀ q : Nat, q < H.size → t.heap[q]? = H[q]?) → XC cls s t)
    (hf : ∀ z ∈ locs, free z.base) (hc : cells + 1 ≤ mc) (hs : slots + 6 ≤ ms) :
    W p l e R s m args below meth c H locs cells slots (vx_MQ below Qc XC args s mc ms free) (F0 m pc ls rest) := by
  intro T hT X
  have htr : e.platform.stackTraces = false := (show e.platform.stackTraces = l.stackTraces by rw [X.admits.platform]).trans hl
  have Y := vx_rebase X (R' := { frames := R.frames, locals := R.locals, cells := 1, slots := 6 }) (Nat.le_refl _) (Nat.le_refl _) hRcells hRslots
  obtain ⟨s', hA⟩ : ∃ z, z = (T.setVm s.vm).setFrames (.invoking m args :: below) := ⟨_, rfl⟩
  rw [← hA] at Y
  have hvm : s'.vm = s.vm := by rw [hA]; rfl
  have hhp : s'.heap = H := by rw [hA]; exact hT
  have hW0 : s.WarmedH s'.vm := by rw [hvm]; exact State.WarmedH.refl s
  have hat' : ∀ w ∈ vx_atS own ic cls names, w.before args s' = true := fun w hw => vx_ot_at hW0 hvm.symm (hgood w (List.mem_cons_of_mem _ (List.mem_cons_of_mem _ hw))) (hat w hw)
  have hk' : (Cond.classLink own ik cls).before args s' = true := vx_ot_at hW0 hvm.symm (hgood _ List.mem_cons_self) hk
  have hini' : (Cond.initialized cls).before args s' = true := vx_ot_at hW0 hvm.symm (hgood _ (List.mem_cons_of_mem _ List.mem_cons_self)) hini
  have hU' : vx_Zq Bundle.tN "UNASSIGNED_STACK" Bundle.steD A s' s'.heap := by rw [hhp]; exact vx_Zq.moved hW0.alike (hU.kept hS.2.1)
  have hN' : vx_Zq Bundle.tN "SUPPRESSED_SENTINEL" Bundle.listD A s' s'.heap := by rw [hhp]; exact vx_Zq.moved hW0.alike (hN.kept hS.2.1)
  have h : ∀ w ∈ Bundle.ownAtoms own ic cls names, w.before args s' = true := vx_own hat' (vx_isRefq hU'.1) (vx_isRefq hN'.1) hU'.2.word hN'.2.word
  have hown' : s'.vm.findClass own = some m.cls := by rw [hvm]; exact hown
  have hins : (Cond.instantiable cls 6).before args s' = true := h _ (by simp [Bundle.ownAtoms])
  obtain ⟨vm₁, cX, kX, hfX, hkX, -, -, X₁, st1⟩ := Y.newCold hexec (own := own) (C := cls) (index := ik) (n := 6) hown' hk' hins hini'
    (g := F0 m pc ls rest) rfl (by rw [hb]; exact d0) (Nat.le_refl _) (Nat.le_refl _)
  generalize hT1 : (T.setVm vm₁).pushCell { cls := cX, slots := kX.instanceTypes.map defaultValue, vm := .none } = T1 at X₁ st1
  have hcat : (Value.ref T.heap.size).category = 1 := rfl
  have hcellA : T1.heap[T.heap.size]? = some (freshCell cX kX) := by rw [← hT1]; exact State.heap_pushCell_size _ _
  have d3' : decode c.code (pc + 3) = .ok (.dup, 1) := by rw [hb]; exact d3
  have d4' : decode c.code (pc + 4) = .ok (.ldc_w is, 3) := by rw [hb]; exact d4
  have hstr' : vk_R own is text sa s' := vk_R.warm hW0 hstr
  obtain ⟨U, hsteps, hrun, hend, hW, hsame, ce, hce, hO⟩ := X₁.ctorThrowS hexec htr (own := own) (cls := cls) (names := names) (ic := ic) hown' hcls hnames h (fun x hx => nomatch hx) hfX hkX hcellA (by rw [hhp, hT]; exact Nat.le_refl _) (msg := .ref sa) rfl
    (g := { method := m, pc := pc + 7, locals := ls, stack := .ref sa :: .ref T.heap.size :: .ref T.heap.size :: rest, locked := none }) rfl hsize rfl rfl (rest := rest) rfl
    (by rw [hb]; exact d7) (by rw [hb]; exact d10) hout hRframes (by simp only [List.map_cons, List.sum_cons, hcat]; omega) hlocks
  obtain ⟨f1, f2⟩ := vx_frame hsame
  rw [hhp] at f1 f2
  have hWs : s.WarmedH U.vm := State.WarmedH.trans hW0 hW
  have hcl : s.vm.findClass cls = some ce.cls := by
    have h9 := hO.cls
    rw [hvm] at h9
    exact h9
  have hall : s.sameButNew ({ U with vm := s.vm } : State) locs mc ms := by
    subst hA
    obtain ⟨e1, e2⟩ := hsame
    rw [State.setFrames_setFrames] at e1
    have h2 : (T.setVm s.vm).sameButNew ({ U with vm := s.vm } : State) [] (0 + 1) (0 + 6) := ⟨e1, e2⟩
    have h3 := X.same.trans h2
    rw [List.append_nil] at h3
    exact h3.mono hc hs
  refine ⟨U, ?_, .threw T.heap.size, hrun, hend, Or.inr ⟨T.heap.size, rfl, cls, ce, locs, hx U hWs.alike f1 (fun q hq => f2 q hq (fun z hz => nomatch hz)), hce, hO.vm, hcl, hWs, hall, hf⟩⟩
  refine st1 _ ?_
  show Steps p.tables e below (T1.setTop { method := m, pc := pc + 3, locals := ls, stack := .ref T.heap.size :: rest, locked := none }) _
  jvm_step X₁.here [X₁.here.top, hexec, d3', Value.category]
  exact X₁.ldcStringW hexec (own := own) (text := text) (index := is) (a := sa) hown' hstr'.1 hstr'.2
    (g := { method := m, pc := pc + 4, locals := ls, stack := .ref T.heap.size :: .ref T.heap.size :: rest, locked := none }) rfl d4' _ hsteps
end Ends
section Bodies
variable {l : Launch}
theorem vx_ofW {y : MethodName} {ws ws' : List Cond} {rm : Room} {Pc : Array Value → State → Prop} {Qc : Array Value → State → Outcome → State → Prop} {XC : String → State → State → Prop} {mc ms : Nat} {free : Addr → Prop} {cc : ByteArray} {maxL : Nat} {ret : Option FieldType}
    (hy : plainName y.cls = true) (hw : ws = Cond.code y cc maxL ret :: ws')
    (body : ∀ p e s m args below meth c s₁, BodyLoose p l y (headSpec ws rm) cc maxL ret e s m args below meth c s₁ → c.maxLocals = maxL → (∀ x ∈ c.exceptionTable.toList, False) → Pc args s →
      W p l e (headSpec ws rm).room s m args below meth c s.heap [] 0 0 (vx_MQ below Qc XC args s mc ms free) (entryFrame m args maxL)) : vx_Met l y ws rm Pc Qc XC mc ms free := by
  refine MetFree.of_bodyS (code := cc) (maxLocals := maxL) (ret := ret) hy ?_ ?_
  · intro args s m h hn
    obtain ⟨meth, c, h1, h2, h3, h4, h5, h6, -, -⟩ := Cond.code_spec hn (atoms_spec (ws := ws) h _ (by rw [hw]; exact List.mem_cons_self))
    exact ⟨meth, c, h1, h2, h3, h4, h5, h6⟩
  · intro p e s m args below meth c s₁ B hml hP _
    have hh0 : s₁.heap = s.heap := by rw [B.state]; rfl
    have ht : ∀ x ∈ c.exceptionTable.toList, False := by
      obtain ⟨meth9, c9, h1, h2, -, -, -, -, h7, -⟩ := Cond.code_spec B.named (atoms_spec (ws := ws) B.pre _ (by rw [hw]; exact List.mem_cons_self))
      cases Option.some.inj (h1.symm.trans B.method)
      cases Option.some.inj (h2.symm.trans (Stand.of_body B).code)
      intro x hx
      rw [Array.isEmpty_iff.mp h7] at hx
      cases hx
    obtain ⟨t, a1, o, b1, b2, b3⟩ := body p e s m args below meth c s₁ B hml ht hP s₁ hh0 (Stand.of_body B)
    exact ⟨t, o, a1, b1, b2, b3⟩
/-- the table of a body with handlers -/
theorem vx_table {p : Program} {x y : MethodName} {S : Spec} {cc bytes : ByteArray} {maxL maxL' : Nat} {ret ret' : Option FieldType} {e : Env} {s s₁ : State} {m : MethodId} {args : Array Value} {below : List Frame} {meth : Method} {c : Code} {hh : List (Nat × Nat × Nat × Nat)}
    (B : BodyLoose p l y S cc maxL ret e s m args below meth c s₁) (h : (Cond.codeWith y bytes maxL' ret' hh).before args s = true) : c.exceptionTable.toList = tableOf hh := by
  obtain ⟨m9, meth9, c9, hn9, h1, h2, -, -, h6, -⟩ := Cond.codeWith_spec h
  cases Option.some.inj (hn9.symm.trans B.named)
  cases Option.some.inj (h1.symm.trans B.method)
  cases Option.some.inj (h2.symm.trans (Stand.of_body B).code)
  rw [← h6, table_eq]
end Bodies
end VXA
/-! ===== END ===== -/
/-! ===== BEGIN a static call of a method with an exception table ===== -/
section VXS
variable {p : Program} {l : Launch} {e : Env} {R : Room} {s : State} {m : MethodId} {args : Array Value} {below : List Frame} {meth : Method} {c : Code} {T : State} {H : Heap} {locs : List Loc} {cells slots : Nat}
abbrev vx_CSW (R : Room) (s : State) (args : Array Value) (own : String) (index : Nat) (y : MethodName) (bytes : ByteArray) (maxL : Nat) (ret : Option FieldType) (hh : List (Nat × Nat × Nat × Nat)) (ws : List Cond) (rm : Room) (mc ms n : Nat) : Prop :=
  (rm.cells = mc ∧ rm.slots = ms ∧ rm.frames + 1 ≤ R.frames ∧ 8 + (maxL + 11) + rm.locals ≤ R.locals ∧ (∀ w ∈ ws, ∀ (a' : Array Value) (U : State), s.WarmedH U.vm → w.before a' U = true) ∧ Cond.codeWith y bytes maxL ret hh ∈ ws) ∧
  (Cond.codeWith y bytes maxL ret hh).before args s = true ∧ (Cond.initialized y.cls).before args s = true ∧ (y.cls ≠ "java/lang/invoke/MethodHandle" ∧ y.cls ≠ "java/lang/invoke/VarHandle") ∧
  (∀ sig, parseMethodDescriptor y.desc = some sig → n = sig.parameters.length) ∧ (Cond.methodLink own index y).before args s = true ∧ (Cond.static y).before args s = true
theorem vx_cwSW {own : String} {index maxL mc ms : Nat} {y : MethodName} {bytes : ByteArray} {ret : Option FieldType} {hh : List (Nat × Nat × Nat × Nat)} {Ts ws ws' : List Cond} {rm : Room} (n : Nat) (ht : ∀ w ∈ Ts, w.before args s = true) (hT : GoodIn Ts (va_wsS own index y ws)) (hw : ws = Cond.codeWith y bytes maxL ret hh :: ws') (hrc : rm.cells = mc) (hrs : rm.slots = ms)
    (hd : y.cls ≠ "java/lang/invoke/MethodHandle" ∧ y.cls ≠ "java/lang/invoke/VarHandle" ∧ (parseMethodDescriptor y.desc).map (fun d => d.parameters.length) = some n) (hR : rm.frames + 1 ≤ R.frames ∧ 8 + (maxL + 11) + rm.locals ≤ R.locals) :
    vx_CSW R s args own index y bytes maxL ret hh ws rm mc ms n := by
  have ok : ∀ w ∈ va_wsS own index y ws, w.before args s = true := fun w h => ht w (hT w h).1
  have hG : GoodIn Ts ws := fun w h => hT w (by unfold va_wsS; exact List.mem_append_right _ h)
  have hc : Cond.codeWith y bytes maxL ret hh ∈ ws := by rw [hw]; exact List.mem_cons_self
  refine ⟨⟨hrc, hrs, hR.1, hR.2, pay_in ht hG, hc⟩, ht _ (hG _ hc).1, ok _ (by simp [va_wsS]), ⟨hd.1, hd.2.1⟩, fun sig h => ?_, ok _ (by simp [va_wsS]), ok _ (by simp [va_wsS])⟩
  have h2 := hd.2.2
  rw [h] at h2
  exact (Option.some.inj h2).symm
theorem vx_callSW (X : Stand p l e R s m args below meth c T locs cells slots) (hexec : p.tables.exec = Jvm.exec) {own : String} {index : Nat} {y : MethodName} {bytes : ByteArray} {maxL : Nat} {ret : Option FieldType} {hh : List (Nat × Nat × Nat × Nat)}
    (hown : s.vm.findClass own = some m.cls) (hlink : (Cond.methodLink own index y).before args s = true) (hstat : (Cond.static y).before args s = true) (hinit : (Cond.initialized y.cls).before args s = true)
    (hcode : (Cond.codeWith y bytes maxL ret hh).before args s = true) (hy : y.cls ≠ "java/lang/invoke/MethodHandle" ∧ y.cls ≠ "java/lang/invoke/VarHandle")
    {W9 : Nat} {Pre : Pt → Array Value → Prop} {Post : Pt → Array Value → Option Value → Pt → Prop} (hK : Back l R p e below s args y 3 W9 Pre Post)
    {g : JFrame} (hg : g.method = m) (hsize : g.locals.size = c.maxLocals) {argsL rest : List Value} (hlen : ∀ sig, parseMethodDescriptor y.desc = some sig → argsL.length = sig.parameters.length)
    (hstack : g.stack = argsL.reverse ++ rest) (hW : 2 * g.monitorRoom + (rest.map fun v => v.category).sum ≤ W9) (hdg : decode c.code g.pc = .ok (.invokestatic index, 3))
    (hpre : ∀ vm₁, s.WarmedH vm₁ → Pre ⟨T.setVm vm₁, locs, cells, slots⟩ argsL.toArray) :
    ∃ (v : Option Value) (vm₁ : Vm) (B : Pt), s.WarmedH vm₁ ∧ Stand p l e R s m args below meth c B.U B.locs B.cells B.slots ∧ Post ⟨T.setVm vm₁, locs, cells, slots⟩ argsL.toArray v B ∧
      ∀ target, Steps p.tables e below (B.U.setTop { g with pc := g.pc + 3, stack := v.toList ++ rest }) target → Steps p.tables e below (T.setTop g) target := by
  obtain ⟨mk, methM, cM, hnamed, hmethM, -, -, -, -, -, -, hsigM⟩ := Cond.codeWith_spec hcode
  have hstatic : methM.isStatic = true := Cond.static_spec hnamed hmethM hstat
  obtain ⟨kP, hkP, -⟩ := className_of_methodNamed hnamed
  have hinitP : kP.init = .initialized := Cond.initialized_spec (findClass_of_methodNamed hnamed) hkP hinit
  obtain ⟨vm₁, X₁, hstep₁⟩ := X.invokestatic hexec hown hlink hnamed hmethM hstatic hkP hinitP hy (g := g) hg (argsL := argsL) (rest := rest) (hlen _ hsigM) hstack hdg
  obtain ⟨v, B, X', hpost, hsteps⟩ := hK m meth c ⟨T.setVm vm₁, locs, cells, slots⟩ { g with stack := rest } (.invokestatic index) mk argsL.toArray X₁ hg hsize hdg hW (X₁.named hnamed) (hpre vm₁ X₁.warmed)
  exact ⟨v, vm₁, B, X₁.warmed, X', hpost, fun target h => hstep₁ _ fun acts => by rw [doInvoke_state]; exact hsteps.trans h⟩
theorem vx_runSW {y : MethodName} {bytes cc : ByteArray} {maxL nL mc ms n index : Nat} {ret : Option FieldType} {hh : List (Nat × Nat × Nat × Nat)} {ws : List Cond} {rm : Room} {Pc : Array Value → State → Prop} {Qc : Array Value → State → Outcome → State → Prop} {free : Addr → Prop} {Ts : List Cond} {own : String} {As rest : List Value} {g : JFrame}
    (S : CallFix p m c cc nL s args Ts own) (hM : Met l y ws rm Pc Qc mc ms free) (cw : vx_CSW R s args own index y bytes maxL ret hh ws rm mc ms n) (hp : PreS s H Pc As)
    (hg : g.method = m) (hn : As.length = n) (hsize : g.locals.size = nL) (hstack : g.stack = As.reverse ++ rest) (hW : 2 * g.monitorRoom + (rest.map fun v => v.category).sum ≤ 8) (hdg : decode cc g.pc = .ok (.invokestatic index, 3)) (hf : cells + mc ≤ R.cells ∧ slots + ms ≤ R.slots) :
    va_Run p l e R s m args below meth c H locs cells slots mc ms g rest (Qc As.toArray) (free) := by
  obtain ⟨⟨hrc, hrs, hfr, hlo, hws, hcw⟩, hcode, hini, hy, hlen, hl, hstt⟩ := cw
  have hK : Back l R p e below s args y 3 8 (PreOf R mc ms Pc) (PostOf Qc mc ms free) := va_backW (hh := hh) (bytes := bytes) (maxL := maxL) (ret := ret) hM hp.1 hrc hrs hfr hlo hws hcw (fun a' U hW => word_at hW (Or.inl (by first | rfl | simp [Cond.onTables, Cond.keeps, Cond.steady])) hini)
  obtain ⟨hx, hb, hml, ho, -⟩ := S
  intro T hT X
  obtain ⟨v, vm₁, ⟨U', l2, c2, s2⟩, hW₁, X', ⟨g', mk, t, L, e1, e2, hq, h1, hL, h2, h3⟩, st⟩ := vx_callSW X hx (hh := hh) (bytes := bytes) (maxL := maxL) (ret := ret) ho hl hstt hini hcode hy hK hg (hsize.trans hml.symm) (argsL := As) (rest := rest) (fun sig h => hn.trans (hlen sig h)) hstack hW (by rw [hb]; exact hdg)
    (fun vm₁ hW₁ => ⟨hf.1, hf.2, hp.2 (T.setVm vm₁) hT hW₁⟩)
  dsimp only [Pt.U, Pt.locs, Pt.cells, Pt.slots] at X' e1 e2 h1 h2 h3 st
  subst h1; subst h2; subst h3
  exact ⟨v, (T.setVm vm₁).calling g' mk As.toArray, t, U', L, hT, X', hL, e1, e2, hq, st⟩
/-- not caught here, past rows that name other classes: it goes on to the caller -/
theorem vx_outP {p : Program} {l : Launch} {e : Env} {R : Room} {s : State} {m : MethodId} {args : Array Value} {below : List Frame} {meth : Method} {c : Code} {H : Heap} {locs : List Loc} {cells slots : Nat} {free : Addr → Prop} {ls : Array Slot} {rest : List Value} {Qc : Array Value → State → Outcome → State → Prop} {XC : String → State → State → Prop}
    {pc : Nat} {own E : String} {ce : Cell} {q : Addr} {mc ms : Nat} (hown : s.vm.findClass own = some m.cls) (hlocks : meth.locks = false)
    (hpass : ∀ z ∈ c.exceptionTable.toList, covers z pc = false ∨ (z.catchType ≠ 0 ∧ ∃ nm : String, (Cond.classLink own z.catchType nm).before args s = true ∧ va_Nc E nm s)) (hcell : H[q]? = some ce) (hv : ce.vm = .none) (hcl : s.vm.findClass E = some ce.cls)
    (hx : ∀ t : State, t.heap = H → s.vm.Alike t.vm → XC E s t) (hf : ∀ z ∈ locs, free z.base) (hc : cells ≤ mc) (hs : slots ≤ ms) :
    vx_W p l e R s m args below meth c H locs cells slots (vx_MQ below Qc XC args s mc ms free) (F0 m pc ls rest) q := by
  intro T hT X
  have hpl : e.platform.magicAccessors = ({} : Platform).magicAccessors := by rw [X.admits.platform]
  obtain ⟨vm', hW', X', st⟩ := X.outThrough hlocks q (g := F0 m pc ls rest) rfl rfl rfl (cell := ce) (by rw [hT]; exact hcell) (by rw [hv]; rfl)
    (by obtain ⟨k9, h9, -⟩ := Vm.findClass_spec hcl; exact ⟨k9, h9⟩) (fun z hz => by
      rcases hpass z hz with h | ⟨hz0, nm, hl1, hn1⟩
      · exact Or.inl h
      · obtain ⟨c6, hc6, hcl6⟩ := Cond.classLink_spec hown hl1 e.platform hpl
        obtain ⟨a8, b8, h1, h2, h3⟩ := hn1
        cases Option.some.inj (h1.symm.trans hcl)
        cases Option.some.inj (h2.symm.trans hc6)
        exact Or.inr ⟨hz0, _, hcl6, h3⟩)
  obtain ⟨g₀, hfr⟩ := X'.frames_eq
  have hcell9 : ((T.setVm vm').setFrames (.throwing q :: below)).heap[q]? = some ce := by
    show T.heap[q]? = some ce
    rw [hT]; exact hcell
  have hend : Ended ((T.setVm vm').setFrames (.throwing q :: below)) below (.threw q) := State.frames_setFrames _ (State.cur_lt_of_frames hfr)
  refine ⟨(T.setVm vm').setFrames (.throwing q :: below), ?_, .threw q, X'.here.running, hend, Or.inr ⟨q, rfl, E, ce, locs, hx _ hT (X'.ends _).1.alike, hcell9, hv, hcl, (X'.ends _).1, (X'.ends _).2.mono hc hs, hf⟩⟩
  rw [X.pushThrowing_eq]
  exact st
/-- a thing of a world lies in the heap -/
theorem vx_lt {D : va_G} {cl : List vw_C} {ws : va_W} {H1 : Heap} (h : va_P D cl ws H1) {k : Nat} {q : Nat × va_E} (hk : ws[k]? = some q) : q.1 < H1.size := (h k q hk).lt
end VXS
/-! ===== END ===== -/
/-! ===== BEGIN methods with a table of their own: called by a name, returning or throwing ===== -/
section VXH
/-! vx_backW, vx_callVX, vx_callSX, vx_callVW, vx_runVW, vx_runVX, vx_runSX, vx_ofWH follow the same proofs as their sisters above (Free/Laws.lean, Shelf42/LK1.lean); vx_outP calls Shelf42/NT130.lean (outThrough). -/
section
variable {l : Launch} {R : Room} {p : Program} {e : Env} {below : List Frame} {s : State} {sargs : Array Value} {y : MethodName} {len W9 : Nat}
theorem vx_backW {ws : List Cond} {rm : Room} {Pc : Array Value → State → Prop} {Qc : Array Value → State → Outcome → State → Prop} {XC : String → State → State → Prop} {mc ms : Nat} {free : Addr → Prop} {bytes : ByteArray} {maxL : Nat} {ret : Option FieldType} {hh : List (Nat × Nat × Nat × Nat)}
    (hM : vx_Met l y ws rm Pc Qc XC mc ms free) (hblind : FrameBlind Pc) (hrc : rm.cells = mc) (hrs : rm.slots = ms)
    (hframes : rm.frames + 1 ≤ R.frames) (hlocals : W9 + (maxL + 11) + rm.locals ≤ R.locals)
    (hws : ∀ w ∈ ws, ∀ a' U, s.WarmedH U.vm → w.before a' U = true) (hcode : Cond.codeWith y bytes maxL ret hh ∈ ws) (hinit : ∀ a' U, s.WarmedH U.vm → (Cond.initialized y.cls).before a' U = true) :
    vx_Back l R p e below s sargs y len W9 (PreOf R mc ms Pc) (PostOf Qc mc ms free) (vx_Post XC mc ms free) := by
  intro m meth c A g ig mk a X hg hsize hdg hW hn hp
  have h1 : (headSpec ws rm).pre.before a A.U = true := atoms_intro fun w hw => hws w hw _ _ X.warmed
  have h2 : (Cond.codeWith y bytes maxL ret hh).before a A.U = true := hws _ hcode _ _ X.warmed
  have h3 : (Cond.initialized y.cls).before a A.U = true := hinit _ _ X.warmed
  have h4 : A.cells + (headSpec ws rm).room.cells ≤ R.cells := by rw [show (headSpec ws rm).room.cells = mc from hrc]; exact hp.1
  have h5 : A.slots + (headSpec ws rm).room.slots ≤ R.slots := by rw [show (headSpec ws rm).room.slots = ms from hrs]; exact hp.2.1
  have hPc : Pc a (A.U.calling g mk a) := hblind _ _ _ _ hp.2.2
  obtain ⟨U, Ls, c0, s0⟩ := A
  dsimp only [Pt.U, Pt.locs, Pt.cells, Pt.slots] at h1 h2 h3 h4 h5 X hn hPc ⊢
  obtain ⟨m9, methY, cY, hn9, hmY, hcY, -, hlY, -⟩ := Cond.codeWith_spec h2
  cases Option.some.inj (hn9.symm.trans hn)
  obtain ⟨kY, hkY, -⟩ := className_of_methodNamed hn
  have hinitY : kY.init = .initialized := Cond.initialized_spec (findClass_of_methodNamed hn) hkY h3
  have h : At U g.method c below := by rw [hg]; exact X.here
  have hlocals9 : W9 + (maxL + 11) + (headSpec ws rm).room.locals ≤ R.locals := hlocals
  have happ : (headSpec ws rm).appliesLoose y e.platform (U.calling g mk a) = true :=
    Spec.appliesLoose_calling (g := g) h hdg hn hkY hinitY
      (X.room_calling (g := g) (R' := (headSpec ws rm).room) hsize hmY hcY hframes (by rw [hlY]; omega) h4 h5) h1
  obtain ⟨mid, hmid⟩ := h.above
  have hfr : (U.setTop g).frames = (.java g :: mid) ++ below := by rw [State.frames_setTop' g h.top, hmid]; rfl
  obtain ⟨o, s₂, hsteps, -, hend, hq⟩ := Steps.callFree hM p X.admits X.cas X.clock (acts := []) hfr happ hPc trivial
  have hq' : vx_Q Qc XC mc ms free a (U.calling g mk a) o s₂ := hq
  rw [State.frames_setTop' g h.top] at hend
  obtain ⟨g₀, hg0⟩ := Option.isSome_iff_exists.mp h.top
  obtain ⟨r, hr⟩ := State.topJava?_eq_some.mp hg0
  have hr' : (({ U with heap := s₂.heap, slotsUsed := s₂.slotsUsed } : State).setVm s₂.vm).frames = .java g₀ :: r := hr
  rcases hq' with ⟨hqc, L, hfe, hL⟩ | ⟨q, rfl, E, ce, L, hx, hce, hcv, hcl, hW₂, hsm, hL⟩
  · obtain ⟨⟨v, rfl⟩, hW₂, e2, q2, q3, q4, q5, q6⟩ := id hfe
    have e3 : s₂ = ({ (U.calling g mk a).setFrames s₂.frames with heap := s₂.heap, slotsUsed := s₂.slotsUsed } : State).setVm s₂.vm := by
      have : s₂ = ({ s₂ with vm := (U.calling g mk a).vm } : State).setVm s₂.vm := rfl
      rw [e2] at this
      exact this
    obtain ⟨c₂, i₂, len₂, hc₂, hd₂, hf₂⟩ := hend
    have hW' : U.WarmedH s₂.vm := hW₂
    have hcc : c₂ = c := by
      have h1 : s₂.code? g.method = U.code? g.method := by
        rw [State.code?_eq, State.code?_eq, hW'.alike.method?]
      exact Option.some.inj (hc₂.symm.trans (h1.trans h.code))
    subst hcc
    have hlen : len₂ = len := by rw [hdg] at hd₂; cases hd₂; rfl
    subst hlen
    have hs₂ : s₂ = (({ U with heap := s₂.heap, slotsUsed := s₂.slotsUsed } : State).setVm s₂.vm).setTop { g with pc := g.pc + len₂, stack := v.toList ++ g.stack } := by
      refine e3.trans ?_
      rw [hf₂, State.calling_eq h.top, State.setFrames_setFrames, State.setTop_of_frames _ hr', hr]
      rfl
    have hsame : U.sameButNew ({ U with heap := s₂.heap, slotsUsed := s₂.slotsUsed } : State) L mc ms := by
      refine ⟨?_, q2, q3, q4, q5, q6⟩
      obtain ⟨t, ht, -⟩ := State.frames_cons hr
      show ({ U with heap := s₂.heap, slotsUsed := s₂.slotsUsed } : State) = { U.setFrames U.frames with heap := s₂.heap, slotsUsed := s₂.slotsUsed }
      rw [State.setFrames_self ht]
    subst hg
    refine Or.inl ⟨v, ⟨(({ U with heap := s₂.heap, slotsUsed := s₂.slotsUsed } : State).setVm s₂.vm), Ls ++ L, c0 + mc, s0 + ms⟩,
      ⟨X.admits, X.cas, X.clock, X.frames, X.room, X.hears, X.method, X.code, (X.here.setHeapUsed s₂.heap s₂.slotsUsed).setVm hW'.alike, X.tail, State.WarmedH.trans X.warmed hW', X.limits, X.bytes, X.same.trans (hsame.setVm s.vm)⟩,
      ⟨g, mk, s₂, L, rfl, rfl, hqc, rfl, hL, rfl, rfl⟩, ?_⟩
    show Steps p.tables e below _ ((({ U with heap := s₂.heap, slotsUsed := s₂.slotsUsed } : State).setVm s₂.vm).setTop { g with pc := g.pc + len₂, stack := v.toList ++ g.stack })
    rw [← hs₂]
    exact hsteps
  · obtain ⟨e2, q2, q3, q4, q5, q6⟩ := id hsm
    have e3 : s₂ = ({ (U.calling g mk a).setFrames s₂.frames with heap := s₂.heap, slotsUsed := s₂.slotsUsed } : State).setVm s₂.vm := by
      have : s₂ = ({ s₂ with vm := (U.calling g mk a).vm } : State).setVm s₂.vm := rfl
      rw [e2] at this
      exact this
    have hf₂ : s₂.frames = .throwing q :: .java g :: U.frames.tail := hend
    have hW' : U.WarmedH s₂.vm := hW₂
    have hs₂ : s₂ = ((({ U with heap := s₂.heap, slotsUsed := s₂.slotsUsed } : State).setVm s₂.vm).setTop g).pushFrame (.throwing q) := by
      refine e3.trans ?_
      rw [hf₂, State.calling_eq h.top, State.setFrames_setFrames, State.pushFrame, State.frames_setTop _ hr', State.setTop_of_frames _ hr', State.setFrames_setFrames, hr]
      rfl
    have hsame : U.sameButNew ({ U with heap := s₂.heap, slotsUsed := s₂.slotsUsed } : State) L mc ms := by
      refine ⟨?_, q2, q3, q4, q5, q6⟩
      obtain ⟨t, ht, -⟩ := State.frames_cons hr
      show ({ U with heap := s₂.heap, slotsUsed := s₂.slotsUsed } : State) = { U.setFrames U.frames with heap := s₂.heap, slotsUsed := s₂.slotsUsed }
      rw [State.setFrames_self ht]
    subst hg
    refine Or.inr ⟨q, ⟨(({ U with heap := s₂.heap, slotsUsed := s₂.slotsUsed } : State).setVm s₂.vm), Ls ++ L, c0 + mc, s0 + ms⟩,
      ⟨X.admits, X.cas, X.clock, X.frames, X.room, X.hears, X.method, X.code, (X.here.setHeapUsed s₂.heap s₂.slotsUsed).setVm hW'.alike, X.tail, State.WarmedH.trans X.warmed hW', X.limits, X.bytes, X.same.trans (hsame.setVm s.vm)⟩,
      ⟨g, mk, s₂, L, E, ce, rfl, rfl, hx, hce, hcv, hcl, rfl, hL, rfl, rfl⟩, ?_⟩
    show Steps p.tables e below _ (((({ U with heap := s₂.heap, slotsUsed := s₂.slotsUsed } : State).setVm s₂.vm).setTop g).pushFrame (.throwing q))
    rw [← hs₂]
    exact hsteps
end
variable {p : Program} {l : Launch} {e : Env} {R : Room} {s : State} {m : MethodId} {args : Array Value} {below : List Frame} {meth : Method} {c : Code} {T : State} {H : Heap} {locs : List Loc} {cells slots : Nat}
theorem vx_callVX (X : Stand p l e R s m args below meth c T locs cells slots) (hexec : p.tables.exec = Jvm.exec) {own C : String} {index : Nat} {y : MethodName} {bytes : ByteArray} {maxL : Nat} {ret : Option FieldType} {hh : List (Nat × Nat × Nat × Nat)}
    (hown : s.vm.findClass own = some m.cls) (hlink : (Cond.methodLink own index y).before args s = true) (hinst : (Cond.instanceMethod y).before args s = true) (hsel : (Cond.selects C y y).before args s = true)
    (hcode : (Cond.codeWith y bytes maxL ret hh).before args s = true) (hy : y.cls ≠ "java/lang/invoke/MethodHandle" ∧ y.cls ≠ "java/lang/invoke/VarHandle")
    {W9 : Nat} {Pre : Pt → Array Value → Prop} {Post : Pt → Array Value → Option Value → Pt → Prop} {PostX : Pt → Array Value → Addr → Pt → Prop} (hK : vx_Back l R p e below s args y 3 W9 Pre Post PostX)
    {b : Addr} {cellB : Cell} (hcell : T.heap[b]? = some cellB) (hobj : cellB.vm.isStatics = false) (hcls : s.vm.findClass C = some cellB.cls)
    {g : JFrame} (hg : g.method = m) (hsize : g.locals.size = c.maxLocals) {argsL rest : List Value} (hlen : ∀ sig, parseMethodDescriptor y.desc = some sig → argsL.length = sig.parameters.length)
    (hstack : g.stack = argsL.reverse ++ .ref b :: rest) (hW : 2 * g.monitorRoom + (rest.map fun v => v.category).sum ≤ W9) (hdg : decode c.code g.pc = .ok (.invokevirtual index, 3))
    (hpre : ∀ vm₁, s.WarmedH vm₁ → Pre ⟨T.setVm vm₁, locs, cells, slots⟩ (Value.ref b :: argsL).toArray) :
    (∃ (v : Option Value) (vm₁ : Vm) (B : Pt), s.WarmedH vm₁ ∧ Stand p l e R s m args below meth c B.U B.locs B.cells B.slots ∧ Post ⟨T.setVm vm₁, locs, cells, slots⟩ (Value.ref b :: argsL).toArray v B ∧
      ∀ target, Steps p.tables e below (B.U.setTop { g with pc := g.pc + 3, stack := v.toList ++ rest }) target → Steps p.tables e below (T.setTop g) target) ∨
    (∃ (q : Addr) (vm₁ : Vm) (B : Pt), s.WarmedH vm₁ ∧ Stand p l e R s m args below meth c B.U B.locs B.cells B.slots ∧ PostX ⟨T.setVm vm₁, locs, cells, slots⟩ (Value.ref b :: argsL).toArray q B ∧
      Steps p.tables e below (T.setTop g) ((B.U.setTop { g with stack := rest }).pushFrame (.throwing q))) := by
  obtain ⟨mk, methM, hnamed, hmethM, hstM, habM⟩ := Cond.instanceMethod_spec hinst
  obtain ⟨m8, methM', cM, hn8, hmethM', -, -, -, -, -, -, hsigM⟩ := Cond.codeWith_spec hcode
  cases Option.some.inj (hn8.symm.trans hnamed)
  cases hmethM.symm.trans hmethM'
  obtain ⟨c2, r2, m2, q1, q2, q3, q4, kP, hkP, hkPi⟩ := Cond.selects_spec hsel
  cases hcls.symm.trans q1
  cases (State.methodFound?_of_named hnamed hy).symm.trans q2
  cases hnamed.symm.trans q3
  have hselP : selectMethod e.platform s.vm cellB.cls mk = .method mk := by rw [Launch.admits_selectMethod X.admits]; exact q4
  obtain ⟨vm₁, X₁, hstep₁⟩ := X.invokevirtual hexec hown hlink hnamed hmethM hstM hkP hkPi hy (a := b) (cell := cellB) hcell
    (fun z h => by rw [h] at hobj; cases hobj) hselP hmethM habM hkP hkPi (g := g) hg (argsL := argsL) (rest := rest) (hlen _ hsigM) hstack hdg
  rcases hK m meth c ⟨T.setVm vm₁, locs, cells, slots⟩ { g with stack := rest } (.invokevirtual index) mk (Value.ref b :: argsL).toArray X₁ hg hsize hdg hW (X₁.named hnamed) (hpre vm₁ X₁.warmed) with ⟨v, B, X', hpost, hsteps⟩ | ⟨q, B, X', hpost, hsteps⟩
  · exact Or.inl ⟨v, vm₁, B, X₁.warmed, X', hpost, fun target h => hstep₁ _ fun acts => by rw [doInvoke_state]; exact hsteps.trans h⟩
  · exact Or.inr ⟨q, vm₁, B, X₁.warmed, X', hpost, hstep₁ _ fun acts => by rw [doInvoke_state]; exact hsteps⟩
theorem vx_callSX (X : Stand p l e R s m args below meth c T locs cells slots) (hexec : p.tables.exec = Jvm.exec) {own : String} {index : Nat} {y : MethodName} {bytes : ByteArray} {maxL : Nat} {ret : Option FieldType} {hh : List (Nat × Nat × Nat × Nat)}
    (hown : s.vm.findClass own = some m.cls) (hlink : (Cond.methodLink own index y).before args s = true) (hstat : (Cond.static y).before args s = true) (hinit : (Cond.initialized y.cls).before args s = true)
    (hcode : (Cond.codeWith y bytes maxL ret hh).before args s = true) (hy : y.cls ≠ "java/lang/invoke/MethodHandle" ∧ y.cls ≠ "java/lang/invoke/VarHandle")
    {W9 : Nat} {Pre : Pt → Array Value → Prop} {Post : Pt → Array Value → Option Value → Pt → Prop} {PostX : Pt → Array Value → Addr → Pt → Prop} (hK : vx_Back l R p e below s args y 3 W9 Pre Post PostX)
    {g : JFrame} (hg : g.method = m) (hsize : g.locals.size = c.maxLocals) {argsL rest : List Value} (hlen : ∀ sig, parseMethodDescriptor y.desc = some sig → argsL.length = sig.parameters.length)
    (hstack : g.stack = argsL.reverse ++ rest) (hW : 2 * g.monitorRoom + (rest.map fun v => v.category).sum ≤ W9) (hdg : decode c.code g.pc = .ok (.invokestatic index, 3))
    (hpre : ∀ vm₁, s.WarmedH vm₁ → Pre ⟨T.setVm vm₁, locs, cells, slots⟩ argsL.toArray) :
    (∃ (v : Option Value) (vm₁ : Vm) (B : Pt), s.WarmedH vm₁ ∧ Stand p l e R s m args below meth c B.U B.locs B.cells B.slots ∧ Post ⟨T.setVm vm₁, locs, cells, slots⟩ argsL.toArray v B ∧
      ∀ target, Steps p.tables e below (B.U.setTop { g with pc := g.pc + 3, stack := v.toList ++ rest }) target → Steps p.tables e below (T.setTop g) target) ∨
    (∃ (q : Addr) (vm₁ : Vm) (B : Pt), s.WarmedH vm₁ ∧ Stand p l e R s m args below meth c B.U B.locs B.cells B.slots ∧ PostX ⟨T.setVm vm₁, locs, cells, slots⟩ argsL.toArray q B ∧
      Steps p.tables e below (T.setTop g) ((B.U.setTop { g with stack := rest }).pushFrame (.throwing q))) := by
  obtain ⟨mk, methM, cM, hnamed, hmethM, -, -, -, -, -, -, hsigM⟩ := Cond.codeWith_spec hcode
  have hstatic : methM.isStatic = true := Cond.static_spec hnamed hmethM hstat
  obtain ⟨kP, hkP, -⟩ := className_of_methodNamed hnamed
  have hinitP : kP.init = .initialized := Cond.initialized_spec (findClass_of_methodNamed hnamed) hkP hinit
  obtain ⟨vm₁, X₁, hstep₁⟩ := X.invokestatic hexec hown hlink hnamed hmethM hstatic hkP hinitP hy (g := g) hg (argsL := argsL) (rest := rest) (hlen _ hsigM) hstack hdg
  rcases hK m meth c ⟨T.setVm vm₁, locs, cells, slots⟩ { g with stack := rest } (.invokestatic index) mk argsL.toArray X₁ hg hsize hdg hW (X₁.named hnamed) (hpre vm₁ X₁.warmed) with ⟨v, B, X', hpost, hsteps⟩ | ⟨q, B, X', hpost, hsteps⟩
  · exact Or.inl ⟨v, vm₁, B, X₁.warmed, X', hpost, fun target h => hstep₁ _ fun acts => by rw [doInvoke_state]; exact hsteps.trans h⟩
  · exact Or.inr ⟨q, vm₁, B, X₁.warmed, X', hpost, hstep₁ _ fun acts => by rw [doInvoke_state]; exact hsteps⟩
theorem vx_callVW (X : Stand p l e R s m args below meth c T locs cells slots) (hexec : p.tables.exec = Jvm.exec) {own C : String} {index : Nat} {y : MethodName} {bytes : ByteArray} {maxL : Nat} {ret : Option FieldType} {hh : List (Nat × Nat × Nat × Nat)}
    (hown : s.vm.findClass own = some m.cls) (hlink : (Cond.methodLink own index y).before args s = true) (hinst : (Cond.instanceMethod y).before args s = true) (hsel : (Cond.selects C y y).before args s = true)
    (hcode : (Cond.codeWith y bytes maxL ret hh).before args s = true) (hy : y.cls ≠ "java/lang/invoke/MethodHandle" ∧ y.cls ≠ "java/lang/invoke/VarHandle")
    {W9 : Nat} {Pre : Pt → Array Value → Prop} {Post : Pt → Array Value → Option Value → Pt → Prop} (hK : Back l R p e below s args y 3 W9 Pre Post)
    {b : Addr} {cellB : Cell} (hcell : T.heap[b]? = some cellB) (hobj : cellB.vm.isStatics = false) (hcls : s.vm.findClass C = some cellB.cls)
    {g : JFrame} (hg : g.method = m) (hsize : g.locals.size = c.maxLocals) {argsL rest : List Value} (hlen : ∀ sig, parseMethodDescriptor y.desc = some sig → argsL.length = sig.parameters.length)
    (hstack : g.stack = argsL.reverse ++ .ref b :: rest) (hW : 2 * g.monitorRoom + (rest.map fun v => v.category).sum ≤ W9) (hdg : decode c.code g.pc = .ok (.invokevirtual index, 3))
    (hpre : ∀ vm₁, s.WarmedH vm₁ → Pre ⟨T.setVm vm₁, locs, cells, slots⟩ (Value.ref b :: argsL).toArray) :
    ∃ (v : Option Value) (vm₁ : Vm) (B : Pt), s.WarmedH vm₁ ∧ Stand p l e R s m args below meth c B.U B.locs B.cells B.slots ∧ Post ⟨T.setVm vm₁, locs, cells, slots⟩ (Value.ref b :: argsL).toArray v B ∧
      ∀ target, Steps p.tables e below (B.U.setTop { g with pc := g.pc + 3, stack := v.toList ++ rest }) target → Steps p.tables e below (T.setTop g) target := by
  obtain ⟨mk, methM, hnamed, hmethM, hstM, habM⟩ := Cond.instanceMethod_spec hinst
  obtain ⟨m8, methM', cM, hn8, hmethM', -, -, -, -, -, -, hsigM⟩ := Cond.codeWith_spec hcode
  cases Option.some.inj (hn8.symm.trans hnamed)
  cases hmethM.symm.trans hmethM'
  obtain ⟨c2, r2, m2, q1, q2, q3, q4, kP, hkP, hkPi⟩ := Cond.selects_spec hsel
  cases hcls.symm.trans q1
  cases (State.methodFound?_of_named hnamed hy).symm.trans q2
  cases hnamed.symm.trans q3
  have hselP : selectMethod e.platform s.vm cellB.cls mk = .method mk := by rw [Launch.admits_selectMethod X.admits]; exact q4
  obtain ⟨vm₁, X₁, hstep₁⟩ := X.invokevirtual hexec hown hlink hnamed hmethM hstM hkP hkPi hy (a := b) (cell := cellB) hcell
    (fun z h => by rw [h] at hobj; cases hobj) hselP hmethM habM hkP hkPi (g := g) hg (argsL := argsL) (rest := rest) (hlen _ hsigM) hstack hdg
  obtain ⟨v, B, X', hpost, hsteps⟩ := hK m meth c ⟨T.setVm vm₁, locs, cells, slots⟩ { g with stack := rest } (.invokevirtual index) mk (Value.ref b :: argsL).toArray X₁ hg hsize hdg hW (X₁.named hnamed) (hpre vm₁ X₁.warmed)
  exact ⟨v, vm₁, B, X₁.warmed, X', hpost, fun target h => hstep₁ _ fun acts => by rw [doInvoke_state]; exact hsteps.trans h⟩
abbrev vx_CVW (R : Room) (s : State) (args : Array Value) (own C : String) (index : Nat) (y : MethodName) (bytes : ByteArray) (maxL : Nat) (ret : Option FieldType) (hh : List (Nat × Nat × Nat × Nat)) (ws : List Cond) (rm : Room) (mc ms n : Nat) : Prop :=
  (rm.cells = mc ∧ rm.slots = ms ∧ rm.frames + 1 ≤ R.frames ∧ 8 + (maxL + 11) + rm.locals ≤ R.locals ∧ (∀ w ∈ ws, ∀ (a' : Array Value) (U : State), s.WarmedH U.vm → w.before a' U = true) ∧ Cond.codeWith y bytes maxL ret hh ∈ ws) ∧
  (Cond.codeWith y bytes maxL ret hh).before args s = true ∧ (Cond.initialized y.cls).before args s = true ∧ (y.cls ≠ "java/lang/invoke/MethodHandle" ∧ y.cls ≠ "java/lang/invoke/VarHandle") ∧
  (∀ sig, parseMethodDescriptor y.desc = some sig → n = sig.parameters.length) ∧ (Cond.methodLink own index y).before args s = true ∧ (Cond.instanceMethod y).before args s = true ∧ (Cond.selects C y y).before args s = true
theorem vx_cwVW {own C : String} {index maxL mc ms : Nat} {y : MethodName} {bytes : ByteArray} {ret : Option FieldType} {hh : List (Nat × Nat × Nat × Nat)} {Ts ws ws' : List Cond} {rm : Room} (n : Nat) (ht : ∀ w ∈ Ts, w.before args s = true) (hT : GoodIn Ts (wsV own index C y ws)) (hw : ws = Cond.codeWith y bytes maxL ret hh :: ws') (hrc : rm.cells = mc) (hrs : rm.slots = ms)
    (hd : y.cls = C ∧ y.cls ≠ "java/lang/invoke/MethodHandle" ∧ y.cls ≠ "java/lang/invoke/VarHandle" ∧ (parseMethodDescriptor y.desc).map (fun d => d.parameters.length) = some n) (hR : rm.frames + 1 ≤ R.frames ∧ 8 + (maxL + 11) + rm.locals ≤ R.locals) :
    vx_CVW R s args own C index y bytes maxL ret hh ws rm mc ms n := by
  obtain ⟨hC, hd⟩ := hd
  subst hC
  have ok : ∀ w ∈ wsV own index y.cls y ws, w.before args s = true := fun w h => ht w (hT w h).1
  have hG : GoodIn Ts ws := fun w h => hT w (by unfold wsV; exact List.mem_append_right _ h)
  have hc : Cond.codeWith y bytes maxL ret hh ∈ ws := by rw [hw]; exact List.mem_cons_self
  refine ⟨⟨hrc, hrs, hR.1, hR.2, pay_in ht hG, hc⟩, ht _ (hG _ hc).1, ok _ (by simp [wsV]), ⟨hd.1, hd.2.1⟩, fun sig h => ?_, ok _ (by simp [wsV]), ok _ (by simp [wsV]), ok _ (by simp [wsV])⟩
  have h2 := hd.2.2
  rw [h] at h2
  exact (Option.some.inj h2).symm
theorem vx_runVW {y : MethodName} {bytes cc : ByteArray} {maxL nL mc ms n index : Nat} {ret : Option FieldType} {hh : List (Nat × Nat × Nat × Nat)} {ws : List Cond} {rm : Room} {Pc : Array Value → State → Prop} {Qc : Array Value → State → Outcome → State → Prop} {free : Addr → Prop} {Ts : List Cond} {own C : String} {b : Addr} {As rest : List Value} {g : JFrame}
    (S : CallFix p m c cc nL s args Ts own) (hM : Met l y ws rm Pc Qc mc ms free) (cw : vx_CVW R s args own C index y bytes maxL ret hh ws rm mc ms n) (hp : PreV s H C b Pc As)
    (hg : g.method = m) (hn : As.length = n) (hsize : g.locals.size = nL) (hstack : g.stack = As.reverse ++ .ref b :: rest) (hW : 2 * g.monitorRoom + (rest.map fun v => v.category).sum ≤ 8) (hdg : decode cc g.pc = .ok (.invokevirtual index, 3)) (hf : cells + mc ≤ R.cells ∧ slots + ms ≤ R.slots) :
    va_Run p l e R s m args below meth c H locs cells slots mc ms g rest (Qc (Value.ref b :: As).toArray) free := by
  obtain ⟨⟨hrc, hrs, hfr, hlo, hws, hcw⟩, hcode, hini, hy, hlen, hl, hin, hse⟩ := cw
  have hK : Back l R p e below s args y 3 8 (PreOf R mc ms Pc) (PostOf Qc mc ms free) := va_backW (hh := hh) (bytes := bytes) (maxL := maxL) (ret := ret) hM hp.1 hrc hrs hfr hlo hws hcw (fun a' U hW => word_at hW (Or.inl (by first | rfl | simp [Cond.onTables, Cond.keeps, Cond.steady])) hini)
  obtain ⟨hx, hb, hml, ho, -⟩ := S
  obtain ⟨-, ⟨cellB, hcB, hoB, hclB⟩, hPc⟩ := hp
  intro T hT X
  obtain ⟨v, vm₁, ⟨U', l2, c2, s2⟩, hW₁, X', ⟨g', mk, t, L, e1, e2, hq, h1, hL, h2, h3⟩, st⟩ := vx_callVW X hx (C := C) (hh := hh) (bytes := bytes) (maxL := maxL) (ret := ret) ho hl hin hse hcode hy hK (by rw [hT]; exact hcB) hoB hclB hg (hsize.trans hml.symm) (argsL := As) (rest := rest) (fun sig h => hn.trans (hlen sig h)) hstack hW (by rw [hb]; exact hdg)
    (fun vm₁ hW₁ => ⟨hf.1, hf.2, hPc (T.setVm vm₁) hT hW₁⟩)
  dsimp only [Pt.U, Pt.locs, Pt.cells, Pt.slots] at X' e1 e2 h1 h2 h3 st
  subst h1; subst h2; subst h3
  exact ⟨v, (T.setVm vm₁).calling g' mk (Value.ref b :: As).toArray, t, U', L, hT, X', hL, e1, e2, hq, st⟩
section
variable {y : MethodName} {bytes cc : ByteArray} {maxL nL mc ms n index : Nat} {ret : Option FieldType} {ws : List Cond} {rm : Room} {Pc : Array Value → State → Prop} {Qc : Array Value → State → Outcome → State → Prop} {XC : String → State → State → Prop} {free : Addr → Prop} {Ts : List Cond} {own C : String} {b : Addr} {As rest : List Value} {g : JFrame}
theorem vx_runVX {hh : List (Nat × Nat × Nat × Nat)} (S : CallFix p m c cc nL s args Ts own) (hM : vx_Met l y ws rm Pc Qc XC mc ms free) (cw : vx_CVW R s args own C index y bytes maxL ret hh ws rm mc ms n) (hp : PreV s H C b Pc As)
    (hg : g.method = m) (hn : As.length = n) (hsize : g.locals.size = nL) (hstack : g.stack = As.reverse ++ .ref b :: rest) (hW : 2 * g.monitorRoom + (rest.map fun v => v.category).sum ≤ 8) (hdg : decode cc g.pc = .ok (.invokevirtual index, 3)) (hf : cells + mc ≤ R.cells ∧ slots + ms ≤ R.slots) :
    vx_Run p l e R s m args below meth c H locs cells slots mc ms g rest (Qc (Value.ref b :: As).toArray) XC free := by
  obtain ⟨⟨hrc, hrs, hfr, hlo, hws, hcw⟩, hcode, hini, hy, hlen, hl, hin, hse⟩ := cw
  have hK : vx_Back l R p e below s args y 3 8 (PreOf R mc ms Pc) (PostOf Qc mc ms free) (vx_Post XC mc ms free) := vx_backW (hh := hh) (bytes := bytes) (maxL := maxL) (ret := ret) hM hp.1 hrc hrs hfr hlo hws hcw (fun a' U hW => word_at hW (Or.inl (by first | rfl | simp [Cond.onTables, Cond.keeps, Cond.steady])) hini)
  obtain ⟨hx, hb, hml, ho, -⟩ := S
  obtain ⟨-, ⟨cellB, hcB, hoB, hclB⟩, hPc⟩ := hp
  intro T hT X
  rcases vx_callVX X hx (C := C) (hh := hh) (bytes := bytes) (maxL := maxL) (ret := ret) ho hl hin hse hcode hy hK (by rw [hT]; exact hcB) hoB hclB hg (hsize.trans hml.symm) (argsL := As) (rest := rest) (fun sig h => hn.trans (hlen sig h)) hstack hW (by rw [hb]; exact hdg)
    (fun vm₁ hW₁ => ⟨hf.1, hf.2, hPc (T.setVm vm₁) hT hW₁⟩) with ⟨v, vm₁, ⟨U', l2, c2, s2⟩, hW₁, X', ⟨g', mk, t, L, e1, e2, hq, h1, hL, h2, h3⟩, st⟩ | ⟨q, vm₁, ⟨U', l2, c2, s2⟩, hW₁, X', ⟨g', mk, t, L, E, ce, e1, e2, hq, hce, hcv, hcl, h1, hL, h2, h3⟩, st⟩
  · dsimp only [Pt.U, Pt.locs, Pt.cells, Pt.slots] at X' e1 e2 h1 h2 h3 st
    subst h1; subst h2; subst h3
    exact Or.inl ⟨v, (T.setVm vm₁).calling g' mk (Value.ref b :: As).toArray, t, U', L, hT, X', hL, e1, e2, hq, st⟩
  · dsimp only [Pt.U, Pt.locs, Pt.cells, Pt.slots] at X' e1 e2 h1 h2 h3 st hcl
    subst h1; subst h2; subst h3
    exact Or.inr ⟨q, (T.setVm vm₁).calling g' mk (Value.ref b :: As).toArray, t, U', L, E, ce, hT, X', hL, e1, e2, hq, hce, hcv, vx_cls hW₁ hcl, st⟩
theorem vx_runSX {hh : List (Nat × Nat × Nat × Nat)} (S : CallFix p m c cc nL s args Ts own) (hM : vx_Met l y ws rm Pc Qc XC mc ms free) (cw : vx_CSW R s args own index y bytes maxL ret hh ws rm mc ms n) (hp : PreS s H Pc As)
    (hg : g.method = m) (hn : As.length = n) (hsize : g.locals.size = nL) (hstack : g.stack = As.reverse ++ rest) (hW : 2 * g.monitorRoom + (rest.map fun v => v.category).sum ≤ 8) (hdg : decode cc g.pc = .ok (.invokestatic index, 3)) (hf : cells + mc ≤ R.cells ∧ slots + ms ≤ R.slots) :
    vx_Run p l e R s m args below meth c H locs cells slots mc ms g rest (Qc As.toArray) XC free := by
  obtain ⟨⟨hrc, hrs, hfr, hlo, hws, hcw⟩, hcode, hini, hy, hlen, hl, hstt⟩ := cw
  have hK : vx_Back l R p e below s args y 3 8 (PreOf R mc ms Pc) (PostOf Qc mc ms free) (vx_Post XC mc ms free) := vx_backW (hh := hh) (bytes := bytes) (maxL := maxL) (ret := ret) hM hp.1 hrc hrs hfr hlo hws hcw (fun a' U hW => word_at hW (Or.inl (by first | rfl | simp [Cond.onTables, Cond.keeps, Cond.steady])) hini)
  obtain ⟨hx, hb, hml, ho, -⟩ := S
  intro T hT X
  rcases vx_callSX X hx (hh := hh) (bytes := bytes) (maxL := maxL) (ret := ret) ho hl hstt hini hcode hy hK hg (hsize.trans hml.symm) (argsL := As) (rest := rest) (fun sig h => hn.trans (hlen sig h)) hstack hW (by rw [hb]; exact hdg)
    (fun vm₁ hW₁ => ⟨hf.1, hf.2, hp.2 (T.setVm vm₁) hT hW₁⟩) with ⟨v, vm₁, ⟨U', l2, c2, s2⟩, hW₁, X', ⟨g', mk, t, L, e1, e2, hq, h1, hL, h2, h3⟩, st⟩ | ⟨q, vm₁, ⟨U', l2, c2, s2⟩, hW₁, X', ⟨g', mk, t, L, E, ce, e1, e2, hq, hce, hcv, hcl, h1, hL, h2, h3⟩, st⟩
  · dsimp only [Pt.U, Pt.locs, Pt.cells, Pt.slots] at X' e1 e2 h1 h2 h3 st
    subst h1; subst h2; subst h3
    exact Or.inl ⟨v, (T.setVm vm₁).calling g' mk As.toArray, t, U', L, hT, X', hL, e1, e2, hq, st⟩
  · dsimp only [Pt.U, Pt.locs, Pt.cells, Pt.slots] at X' e1 e2 h1 h2 h3 st hcl
    subst h1; subst h2; subst h3
    exact Or.inr ⟨q, (T.setVm vm₁).calling g' mk As.toArray, t, U', L, E, ce, hT, X', hL, e1, e2, hq, hce, hcv, vx_cls hW₁ hcl, st⟩
end
end VXH
theorem vx_ofWH {l : Launch} {y : MethodName} {ws ws' : List Cond} {rm : Room} {Pc : Array Value → State → Prop} {Qc : Array Value → State → Outcome → State → Prop} {XC : String → State → State → Prop} {mc ms : Nat} {free : Addr → Prop} {cc : ByteArray} {maxL : Nat} {ret : Option FieldType} {hh : List (Nat × Nat × Nat × Nat)}
    (hy : plainName y.cls = true) (hw : ws = Cond.codeWith y cc maxL ret hh :: ws')
    (body : ∀ p e s m args below meth c s₁, BodyLoose p l y (headSpec ws rm) cc maxL ret e s m args below meth c s₁ → c.maxLocals = maxL → Pc args s →
      W p l e (headSpec ws rm).room s m args below meth c s.heap [] 0 0 (vx_MQ below Qc XC args s mc ms free) (entryFrame m args maxL)) : vx_Met l y ws rm Pc Qc XC mc ms free := by
  refine MetFree.of_bodyS (code := cc) (maxLocals := maxL) (ret := ret) hy ?_ ?_
  · intro args s m h hn
    obtain ⟨m9, meth, c, hn9, h1, h2, h3, h4, -, h5, h6, -⟩ := Cond.codeWith_spec (atoms_spec (ws := ws) h _ (by rw [hw]; exact List.mem_cons_self))
    cases hn.symm.trans hn9
    exact ⟨meth, c, h1, h2, h3, h4, h5, h6⟩
  · intro p e s m args below meth c s₁ B hml hP _
    have hh0 : s₁.heap = s.heap := by rw [B.state]; rfl
    obtain ⟨t, a1, o, b1, b2, b3⟩ := body p e s m args below meth c s₁ B hml hP s₁ hh0 (Stand.of_body B)
    exact ⟨t, o, a1, b1, b2, b3⟩
/-! ===== END ===== -/
end
section
/-! ===== BEGIN printed: names, fields, word lists, decode rows ===== -/
def RX0 : String := "CallForker$BindingRow"
def TX0 : u_T := fun k => match k with
  | 0 => ("CallForker$BindingRow", "qualities", "[I", true)
  | 1 => ("CallForker$BindingRow", "expiries", "[I", true)
  | 2 => ("CallForker$BindingRow", "sequences", "[I", true)
  | 3 => ("CallForker$BindingRow", "order", "[I", true)
  | _ => ("CallForker$BindingRow", "orderCount", "I", false)
def tyX0 : Nat → FieldType := fun k => match k with
  | 0 => .array .int
  | 1 => .array .int
  | 2 => .array .int
  | 3 => .array .int
  | _ => .int
abbrev wsX00 : List Cond := u_ws RX0 TX0 5
theorem nmX0 : ∀ a, a < 5 → ∀ b, b < 5 → a ≠ b → (TX0 a).2.1 ≠ (TX0 b).2.1 := by decide +kernel
theorem tyX0_ok : ∀ k, k < 5 → parseFieldDescriptor (TX0 k).2.2.1 = some (tyX0 k) := by decide +kernel
abbrev cX0_init : ByteArray := prog_2_method_1_code
def yX0_init : MethodName := ⟨RX0, "<init>", "()V"⟩
abbrev cX0_put : ByteArray := prog_2_method_2_code
def yX0_put : MethodName := ⟨RX0, "put", "(IIII)V"⟩
abbrev cX0_isThere : ByteArray := prog_2_method_3_code
def yX0_isThere : MethodName := ⟨RX0, "isThere", "(II)Z"⟩
abbrev cX0_count : ByteArray := prog_2_method_4_code
def yX0_count : MethodName := ⟨RX0, "count", "(I)I"⟩
abbrev cX0_countOthers : ByteArray := prog_2_method_5_code
def yX0_countOthers : MethodName := ⟨RX0, "countOthers", "(II)I"⟩
abbrev cX0_targetAt : ByteArray := prog_2_method_6_code
def yX0_targetAt : MethodName := ⟨RX0, "targetAt", "(II)I"⟩
def RX1 : String := "CallForker$Call"
def TX1 : u_T := fun k => match k with
  | 0 => ("CallForker$Call", "devices", "[I", true)
  | 1 => ("CallForker$Call", "qualities", "[I", true)
  | 2 => ("CallForker$Call", "states", "[I", true)
  | 3 => ("CallForker$Call", "hungUpAt", "[Z", true)
  | 4 => ("CallForker$Call", "branchCount", "I", false)
  | 5 => ("CallForker$Call", "startedQuality", "I", false)
  | 6 => ("CallForker$Call", "startedAt", "I", false)
  | 7 => ("CallForker$Call", "answeredBranch", "I", false)
  | 8 => ("CallForker$Call", "finalCode", "I", false)
  | _ => ("CallForker$Call", "cancelled", "Z", false)
def tyX1 : Nat → FieldType := fun k => match k with
  | 0 => .array .int
  | 1 => .array .int
  | 2 => .array .int
  | 3 => .array .boolean
  | 4 => .int
  | 5 => .int
  | 6 => .int
  | 7 => .int
  | 8 => .int
  | _ => .boolean
abbrev wsX10 : List Cond := u_ws RX1 TX1 10
theorem nmX1 : ∀ a, a < 10 → ∀ b, b < 10 → a ≠ b → (TX1 a).2.1 ≠ (TX1 b).2.1 := by decide +kernel
theorem tyX1_ok : ∀ k, k < 10 → parseFieldDescriptor (TX1 k).2.2.1 = some (tyX1 k) := by decide +kernel
abbrev cX1_init : ByteArray := prog_3_method_1_code
def yX1_init : MethodName := ⟨RX1, "<init>", "()V"⟩
abbrev cX1_addDevice : ByteArray := prog_3_method_2_code
def yX1_addDevice : MethodName := ⟨RX1, "addDevice", "(II)V"⟩
abbrev cX1_addEnded : ByteArray := prog_3_method_3_code
def yX1_addEnded : MethodName := ⟨RX1, "addEnded", "(II)V"⟩
abbrev cX1_add : ByteArray := prog_3_method_4_code
def yX1_add : MethodName := ⟨RX1, "add", "(III)V"⟩
abbrev cX1_branchOf : ByteArray := prog_3_method_5_code
def yX1_branchOf : MethodName := ⟨RX1, "branchOf", "(I)I"⟩
abbrev cX1_isStarted : ByteArray := prog_3_method_6_code
def yX1_isStarted : MethodName := ⟨RX1, "isStarted", "(I)Z"⟩
abbrev cX1_isEnded : ByteArray := prog_3_method_7_code
def yX1_isEnded : MethodName := ⟨RX1, "isEnded", "(I)Z"⟩
abbrev cX1_isTooMuch : ByteArray := prog_3_method_8_code
def yX1_isTooMuch : MethodName := ⟨RX1, "isTooMuch", "(II)Z"⟩
abbrev cX1_begin : ByteArray := prog_3_method_9_code
def yX1_begin : MethodName := ⟨RX1, "begin", "(I)V"⟩
abbrev cX1_goOn : ByteArray := prog_3_method_10_code
def yX1_goOn : MethodName := ⟨RX1, "goOn", "(I)V"⟩
abbrev cX1_isWaiting : ByteArray := prog_3_method_11_code
def yX1_isWaiting : MethodName := ⟨RX1, "isWaiting", "()Z"⟩
abbrev cX1_startGroup : ByteArray := prog_3_method_12_code
def yX1_startGroup : MethodName := ⟨RX1, "startGroup", "(II)V"⟩
abbrev cX1_takeAnswer : ByteArray := prog_3_method_13_code
def yX1_takeAnswer : MethodName := ⟨RX1, "takeAnswer", "(III)V"⟩
abbrev cX1_cancelAll : ByteArray := prog_3_method_14_code
def yX1_cancelAll : MethodName := ⟨RX1, "cancelAll", "()I"⟩
abbrev cX1_endOpen : ByteArray := prog_3_method_15_code
def yX1_endOpen : MethodName := ⟨RX1, "endOpen", "()I"⟩
abbrev cX1_endsWithTick : ByteArray := prog_3_method_16_code
def yX1_endsWithTick : MethodName := ⟨RX1, "endsWithTick", "(I)Z"⟩
abbrev cX1_bestEnd : ByteArray := prog_3_method_17_code
def yX1_bestEnd : MethodName := ⟨RX1, "bestEnd", "()I"⟩
abbrev cX1_finalFromSorted : ByteArray := prog_3_method_18_code
def yX1_finalFromSorted : MethodName := ⟨RX1, "finalFromSorted", "([I)I"⟩
abbrev cX1_sortEnds : ByteArray := prog_3_method_19_code
def yX1_sortEnds : MethodName := ⟨RX1, "sortEnds", "([I)I"⟩
abbrev cX1_insert : ByteArray := prog_3_method_20_code
def yX1_insert : MethodName := ⟨RX1, "insert", "([III)V"⟩
def RX2 : String := "CallForker"
def TX2 : u_T := fun k => match k with
  | 0 => ("CallForker", "bindingRows", "[LCallForker$BindingRow;", true)
  | 1 => ("CallForker", "callRow", "[LCallForker$Call;", true)
  | 2 => ("CallForker", "hungUpCounts", "[I", true)
  | 3 => ("CallForker", "way", "[I", true)
  | 4 => ("CallForker", "sortingRow", "[I", true)
  | 5 => ("CallForker", "callCount", "I", false)
  | _ => ("CallForker", "now", "I", false)
def tyX2 : Nat → FieldType := fun k => match k with
  | 0 => .array (.object "CallForker$BindingRow")
  | 1 => .array (.object "CallForker$Call")
  | 2 => .array .int
  | 3 => .array .int
  | 4 => .array .int
  | 5 => .int
  | _ => .int
abbrev wsX20 : List Cond := u_ws RX2 TX2 7
theorem nmX2 : ∀ a, a < 7 → ∀ b, b < 7 → a ≠ b → (TX2 a).2.1 ≠ (TX2 b).2.1 := by decide +kernel
theorem tyX2_ok : ∀ k, k < 7 → parseFieldDescriptor (TX2 k).2.2.1 = some (tyX2 k) := by decide +kernel
abbrev cX2_init : ByteArray := prog_1_method_1_code
def yX2_init : MethodName := ⟨RX2, "<init>", "()V"⟩
abbrev cX2_register : ByteArray := prog_1_method_2_code
def yX2_register : MethodName := ⟨RX2, "register", "(IIIII)I"⟩
abbrev cX2_bindings : ByteArray := prog_1_method_3_code
def yX2_bindings : MethodName := ⟨RX2, "bindings", "(I)I"⟩
abbrev cX2_binding : ByteArray := prog_1_method_4_code
def yX2_binding : MethodName := ⟨RX2, "binding", "(II)I"⟩
abbrev cX2_call : ByteArray := prog_1_method_5_code
def yX2_call : MethodName := ⟨RX2, "call", "(I)I"⟩
abbrev cX2_answer : ByteArray := prog_1_method_6_code
def yX2_answer : MethodName := ⟨RX2, "answer", "(III)I"⟩
abbrev cX2_cancel : ByteArray := prog_1_method_7_code
def yX2_cancel : MethodName := ⟨RX2, "cancel", "(I)I"⟩
abbrev cX2_pass : ByteArray := prog_1_method_8_code
def yX2_pass : MethodName := ⟨RX2, "pass", "(I)I"⟩
abbrev cX2_time : ByteArray := prog_1_method_9_code
def yX2_time : MethodName := ⟨RX2, "time", "()I"⟩
abbrev cX2_calls : ByteArray := prog_1_method_10_code
def yX2_calls : MethodName := ⟨RX2, "calls", "()I"⟩
abbrev cX2_finalOf : ByteArray := prog_1_method_11_code
def yX2_finalOf : MethodName := ⟨RX2, "finalOf", "(I)I"⟩
abbrev cX2_finalBySorting : ByteArray := prog_1_method_12_code
def yX2_finalBySorting : MethodName := ⟨RX2, "finalBySorting", "(I)I"⟩
abbrev cX2_branches : ByteArray := prog_1_method_13_code
def yX2_branches : MethodName := ⟨RX2, "branches", "(I)I"⟩
abbrev cX2_device : ByteArray := prog_1_method_14_code
def yX2_device : MethodName := ⟨RX2, "device", "(II)I"⟩
abbrev cX2_state : ByteArray := prog_1_method_15_code
def yX2_state : MethodName := ⟨RX2, "state", "(II)I"⟩
abbrev cX2_answered : ByteArray := prog_1_method_16_code
def yX2_answered : MethodName := ⟨RX2, "answered", "(I)I"⟩
abbrev cX2_hungUp : ByteArray := prog_1_method_17_code
def yX2_hungUp : MethodName := ⟨RX2, "hungUp", "(I)I"⟩
abbrev cX2_isOutside : ByteArray := prog_1_method_18_code
def yX2_isOutside : MethodName := ⟨RX2, "isOutside", "(II)Z"⟩
abbrev cX2_isNoAnswer : ByteArray := prog_1_method_19_code
def yX2_isNoAnswer : MethodName := ⟨RX2, "isNoAnswer", "(I)Z"⟩
abbrev cX2_rowOf : ByteArray := prog_1_method_20_code
def yX2_rowOf : MethodName := ⟨RX2, "rowOf", "(I)LCallForker$BindingRow;"⟩
abbrev cX2_callAt : ByteArray := prog_1_method_21_code
def yX2_callAt : MethodName := ⟨RX2, "callAt", "(I)LCallForker$Call;"⟩
abbrev cX2_callWith : ByteArray := prog_1_method_22_code
def yX2_callWith : MethodName := ⟨RX2, "callWith", "(II)LCallForker$Call;"⟩
abbrev cX2_followUser : ByteArray := prog_1_method_23_code
def yX2_followUser : MethodName := ⟨RX2, "followUser", "(LCallForker$Call;III)V"⟩
abbrev cX2_comeToUser : ByteArray := prog_1_method_24_code
def yX2_comeToUser : MethodName := ⟨RX2, "comeToUser", "(LCallForker$Call;III)V"⟩
abbrev cX2_isOnWay : ByteArray := prog_1_method_25_code
def yX2_isOnWay : MethodName := ⟨RX2, "isOnWay", "(II)Z"⟩
abbrev cX2_lookAtCalls : ByteArray := prog_1_method_26_code
def yX2_lookAtCalls : MethodName := ⟨RX2, "lookAtCalls", "()I"⟩
def RX3 : String := "CallForkerModel"
def TX3 : u_T := fun k => match k with
  | _ => ("", "", "", false)
def tyX3 : Nat → FieldType := fun k => match k with
  | _ => .int
abbrev wsX30 : List Cond := u_ws RX3 TX3 0
theorem nmX3 : ∀ a, a < 0 → ∀ b, b < 0 → a ≠ b → (TX3 a).2.1 ≠ (TX3 b).2.1 := by decide +kernel
theorem tyX3_ok : ∀ k, k < 0 → parseFieldDescriptor (TX3 k).2.2.1 = some (tyX3 k) := by decide +kernel
def RJ9 : String := "java/lang/Math"
def TJ9 : u_T := fun k => match k with
  | _ => ("", "", "", false)
def tyJ9 : Nat → FieldType := fun k => match k with
  | _ => .int
theorem nmJ9 : ∀ a, a < 0 → ∀ b, b < 0 → a ≠ b → (TJ9 a).2.1 ≠ (TJ9 b).2.1 := by decide +kernel
theorem tyJ9_ok : ∀ k, k < 0 → parseFieldDescriptor (TJ9 k).2.2.1 = some (tyJ9 k) := by decide +kernel
abbrev cJ9_max_7cf53 : ByteArray := prog_10_method_65_code
def yJ9_max_7cf53 : MethodName := ⟨RJ9, "max", "(II)I"⟩
abbrev cJ9_min_7cf53 : ByteArray := prog_10_method_69_code
def yJ9_min_7cf53 : MethodName := ⟨RJ9, "min", "(II)I"⟩
def RJ0 : String := "java/lang/String"
def TJ0 : u_T := fun k => match k with
  | _ => ("", "", "", false)
def tyJ0 : Nat → FieldType := fun k => match k with
  | _ => .int
theorem nmJ0 : ∀ a, a < 0 → ∀ b, b < 0 → a ≠ b → (TJ0 a).2.1 ≠ (TJ0 b).2.1 := by decide +kernel
theorem tyJ0_ok : ∀ k, k < 0 → parseFieldDescriptor (TJ0 k).2.2.1 = some (tyJ0 k) := by decide +kernel
def RL : String := "CallForkerLaw"
abbrev cL_draw : ByteArray := method_2_code
def yL_draw : MethodName := ⟨RL, "draw", "([II)I"⟩
abbrev cL_step : ByteArray := method_3_code
def yL_step : MethodName := ⟨RL, "step", "(LCallForker;[IIII)Z"⟩
abbrev cL_registers : ByteArray := method_4_code
def yL_registers : MethodName := ⟨RL, "registers", "(LCallForker;[IIIII)Z"⟩
abbrev cL_calls : ByteArray := method_5_code
def yL_calls : MethodName := ⟨RL, "calls", "(LCallForker;[II)Z"⟩
abbrev cL_branchOf : ByteArray := method_6_code
def yL_branchOf : MethodName := ⟨RL, "branchOf", "(LCallForker;II)I"⟩
abbrev cL_answers : ByteArray := method_7_code
def yL_answers : MethodName := ⟨RL, "answers", "(LCallForker;[IIII)Z"⟩
abbrev cL_cancels : ByteArray := method_8_code
def yL_cancels : MethodName := ⟨RL, "cancels", "(LCallForker;[II)Z"⟩
abbrev cL_passes : ByteArray := method_9_code
def yL_passes : MethodName := ⟨RL, "passes", "(LCallForker;[II)Z"⟩
abbrev cL_isCall : ByteArray := method_10_code
def yL_isCall : MethodName := ⟨RL, "isCall", "(LCallForker;[II)Z"⟩
abbrev cL_law : ByteArray := code
def yL_law : MethodName := ⟨RL, "law", "([I)Z"⟩
end
section
def WALL : List Cond := lw_tbl.filter goodWord
theorem wat (i : Nat) {w : Cond} (h : lw_tbl[i]? = some w) (g : goodWord w = true) : w ∈ WALL := List.mem_filter.mpr ⟨List.mem_of_getElem? h, g⟩
theorem ws_X2_rowOf : Cond.selects RX2 yX2_rowOf yX2_rowOf ∈ WALL := wat 0 (by decide +kernel) rfl
theorem ws_X2_followUser : Cond.selects RX2 yX2_followUser yX2_followUser ∈ WALL := wat 2 (by decide +kernel) rfl
theorem ws_X1_add : Cond.selects RX1 yX1_add yX1_add ∈ WALL := wat 3 (by decide +kernel) rfl
theorem ws_X2_comeToUser : Cond.selects RX2 yX2_comeToUser yX2_comeToUser ∈ WALL := wat 4 (by decide +kernel) rfl
theorem ws_X2_isOnWay : Cond.selects RX2 yX2_isOnWay yX2_isOnWay ∈ WALL := wat 5 (by decide +kernel) rfl
theorem ws_X1_goOn : Cond.selects RX1 yX1_goOn yX1_goOn ∈ WALL := wat 6 (by decide +kernel) rfl
theorem ws_X1_isWaiting : Cond.selects RX1 yX1_isWaiting yX1_isWaiting ∈ WALL := wat 7 (by decide +kernel) rfl
theorem ws_X1_startGroup : Cond.selects RX1 yX1_startGroup yX1_startGroup ∈ WALL := wat 8 (by decide +kernel) rfl
theorem ws_X1_bestEnd : Cond.selects RX1 yX1_bestEnd yX1_bestEnd ∈ WALL := wat 9 (by decide +kernel) rfl
theorem ws_X2_callAt : Cond.selects RX2 yX2_callAt yX2_callAt ∈ WALL := wat 10 (by decide +kernel) rfl
theorem ws_X2_callWith : Cond.selects RX2 yX2_callWith yX2_callWith ∈ WALL := wat 11 (by decide +kernel) rfl
theorem ws_X1_endOpen : Cond.selects RX1 yX1_endOpen yX1_endOpen ∈ WALL := wat 12 (by decide +kernel) rfl
theorem ws_X1_sortEnds : Cond.selects RX1 yX1_sortEnds yX1_sortEnds ∈ WALL := wat 13 (by decide +kernel) rfl
theorem ws_X2_lookAtCalls : Cond.selects RX2 yX2_lookAtCalls yX2_lookAtCalls ∈ WALL := wat 14 (by decide +kernel) rfl
theorem wn_L : Cond.initialized RL ∈ WALL := wat 15 (by decide +kernel) rfl
theorem wn_X2 : Cond.initialized RX2 ∈ WALL := wat 16 (by decide +kernel) rfl
theorem wn_X0 : Cond.initialized RX0 ∈ WALL := wat 17 (by decide +kernel) rfl
theorem wn_X1 : Cond.initialized RX1 ∈ WALL := wat 18 (by decide +kernel) rfl
theorem wn_Throwable : Cond.initialized "java/lang/Throwable" ∈ WALL := wat 19 (by decide +kernel) rfl
theorem wn_Exception : Cond.initialized "java/lang/Exception" ∈ WALL := wat 20 (by decide +kernel) rfl
theorem wn_RuntimeException : Cond.initialized "java/lang/RuntimeException" ∈ WALL := wat 21 (by decide +kernel) rfl
theorem wn_IllegalArgumentException : Cond.initialized "java/lang/IllegalArgumentException" ∈ WALL := wat 22 (by decide +kernel) rfl
theorem wn_IndexOutOfBoundsException : Cond.initialized "java/lang/IndexOutOfBoundsException" ∈ WALL := wat 23 (by decide +kernel) rfl
theorem wn_IllegalStateException : Cond.initialized "java/lang/IllegalStateException" ∈ WALL := wat 24 (by decide +kernel) rfl
theorem wn_Math : Cond.initialized "java/lang/Math" ∈ WALL := wat 25 (by decide +kernel) rfl
theorem wk_L_31 : Cond.classLink RL 31 RX2 ∈ WALL := wat 26 (by decide +kernel) rfl
theorem wx_X2 : Cond.instantiable RX2 7 ∈ WALL := wat 27 (by decide +kernel) rfl
theorem wm_L_88 : Cond.methodLink RL 88 yX2_init ∈ WALL := wat 28 (by decide +kernel) rfl
theorem wi_X2_init : Cond.instanceMethod yX2_init ∈ WALL := wat 29 (by decide +kernel) rfl
theorem wc_X2_init : Cond.code yX2_init cX2_init 2 none ∈ WALL := wat 30 (by decide +kernel) rfl
theorem wm_X2_3 : Cond.methodLink RX2 3 objectInit ∈ WALL := wat 31 (by decide +kernel) rfl
theorem wi_objectInit : Cond.instanceMethod objectInit ∈ WALL := wat 32 (by decide +kernel) rfl
theorem wc_objectInit : Cond.code objectInit ⟨#[0xb1]⟩ 1 none ∈ WALL := wat 33 (by decide +kernel) rfl
theorem wk_X2_9 : Cond.classLink RX2 9 RX0 ∈ WALL := wat 34 (by decide +kernel) rfl
theorem wk_X2_15 : Cond.classLink RX2 15 RX1 ∈ WALL := wat 36 (by decide +kernel) rfl
theorem wx_X0 : Cond.instantiable RX0 5 ∈ WALL := wat 38 (by decide +kernel) rfl
theorem wm_X2_38 : Cond.methodLink RX2 38 yX0_init ∈ WALL := wat 39 (by decide +kernel) rfl
theorem wi_X0_init : Cond.instanceMethod yX0_init ∈ WALL := wat 40 (by decide +kernel) rfl
theorem wc_X0_init : Cond.code yX0_init cX0_init 2 none ∈ WALL := wat 41 (by decide +kernel) rfl
theorem wm_X0_3 : Cond.methodLink RX0 3 objectInit ∈ WALL := wat 42 (by decide +kernel) rfl
theorem wf_X0_9 : Cond.fieldLink RX0 9 "CallForker$BindingRow" "qualities" "[I" ∈ WALL := wat 43 (by decide +kernel) rfl
theorem wf_X0_15 : Cond.fieldLink RX0 15 "CallForker$BindingRow" "expiries" "[I" ∈ WALL := wat 45 (by decide +kernel) rfl
theorem wf_X0_18 : Cond.fieldLink RX0 18 "CallForker$BindingRow" "sequences" "[I" ∈ WALL := wat 46 (by decide +kernel) rfl
theorem wf_X0_21 : Cond.fieldLink RX0 21 "CallForker$BindingRow" "order" "[I" ∈ WALL := wat 48 (by decide +kernel) rfl
theorem wf_X0_24 : Cond.fieldLink RX0 24 "CallForker$BindingRow" "orderCount" "I" ∈ WALL := wat 50 (by decide +kernel) rfl
theorem wa_int : Cond.arrayClass .int ∈ WALL := wat 63 (by decide +kernel) rfl
theorem wx_X1 : Cond.instantiable RX1 10 ∈ WALL := wat 64 (by decide +kernel) rfl
theorem wi_X1_init : Cond.instanceMethod yX1_init ∈ WALL := wat 66 (by decide +kernel) rfl
theorem wc_X1_init : Cond.code yX1_init cX1_init 1 none ∈ WALL := wat 67 (by decide +kernel) rfl
theorem wm_X1_3 : Cond.methodLink RX1 3 objectInit ∈ WALL := wat 68 (by decide +kernel) rfl
theorem wf_X1_9 : Cond.fieldLink RX1 9 "CallForker$Call" "devices" "[I" ∈ WALL := wat 69 (by decide +kernel) rfl
theorem wf_X1_15 : Cond.fieldLink RX1 15 "CallForker$Call" "qualities" "[I" ∈ WALL := wat 71 (by decide +kernel) rfl
theorem wf_X1_18 : Cond.fieldLink RX1 18 "CallForker$Call" "states" "[I" ∈ WALL := wat 72 (by decide +kernel) rfl
theorem wf_X1_21 : Cond.fieldLink RX1 21 "CallForker$Call" "hungUpAt" "[Z" ∈ WALL := wat 74 (by decide +kernel) rfl
theorem wf_X1_25 : Cond.fieldLink RX1 25 "CallForker$Call" "branchCount" "I" ∈ WALL := wat 76 (by decide +kernel) rfl
theorem wf_X1_29 : Cond.fieldLink RX1 29 "CallForker$Call" "startedQuality" "I" ∈ WALL := wat 78 (by decide +kernel) rfl
theorem wf_X1_32 : Cond.fieldLink RX1 32 "CallForker$Call" "startedAt" "I" ∈ WALL := wat 79 (by decide +kernel) rfl
theorem wf_X1_35 : Cond.fieldLink RX1 35 "CallForker$Call" "answeredBranch" "I" ∈ WALL := wat 80 (by decide +kernel) rfl
theorem wf_X1_38 : Cond.fieldLink RX1 38 "CallForker$Call" "finalCode" "I" ∈ WALL := wat 82 (by decide +kernel) rfl
theorem wf_X1_41 : Cond.fieldLink RX1 41 "CallForker$Call" "cancelled" "Z" ∈ WALL := wat 84 (by decide +kernel) rfl
theorem wa_boolean : Cond.arrayClass .boolean ∈ WALL := wat 106 (by decide +kernel) rfl
theorem wf_X2_11 : Cond.fieldLink RX2 11 "CallForker" "bindingRows" "[LCallForker$BindingRow;" ∈ WALL := wat 107 (by decide +kernel) rfl
theorem wf_X2_17 : Cond.fieldLink RX2 17 "CallForker" "callRow" "[LCallForker$Call;" ∈ WALL := wat 108 (by decide +kernel) rfl
theorem wf_X2_21 : Cond.fieldLink RX2 21 "CallForker" "hungUpCounts" "[I" ∈ WALL := wat 109 (by decide +kernel) rfl
theorem wf_X2_25 : Cond.fieldLink RX2 25 "CallForker" "way" "[I" ∈ WALL := wat 110 (by decide +kernel) rfl
theorem wf_X2_28 : Cond.fieldLink RX2 28 "CallForker" "sortingRow" "[I" ∈ WALL := wat 111 (by decide +kernel) rfl
theorem wf_X2_31 : Cond.fieldLink RX2 31 "CallForker" "callCount" "I" ∈ WALL := wat 112 (by decide +kernel) rfl
theorem wf_X2_35 : Cond.fieldLink RX2 35 "CallForker" "now" "I" ∈ WALL := wat 113 (by decide +kernel) rfl
theorem wm_L_30 : Cond.methodLink RL 30 yX2_bindings ∈ WALL := wat 129 (by decide +kernel) rfl
theorem wi_X2_bindings : Cond.instanceMethod yX2_bindings ∈ WALL := wat 130 (by decide +kernel) rfl
theorem ws_X2_bindings : Cond.selects RX2 yX2_bindings yX2_bindings ∈ WALL := wat 131 (by decide +kernel) rfl
theorem wc_X2_bindings : Cond.code yX2_bindings cX2_bindings 2 (some .int) ∈ WALL := wat 132 (by decide +kernel) rfl
theorem wm_X2_40 : Cond.methodLink RX2 40 yX2_rowOf ∈ WALL := wat 133 (by decide +kernel) rfl
theorem wi_X2_rowOf : Cond.instanceMethod yX2_rowOf ∈ WALL := wat 135 (by decide +kernel) rfl
theorem wc_X2_rowOf : Cond.code yX2_rowOf cX2_rowOf 2 (some (.object "CallForker$BindingRow")) ∈ WALL := wat 136 (by decide +kernel) rfl
theorem wm_X2_44 : Cond.methodLink RX2 44 yX2_isOutside ∈ WALL := wat 137 (by decide +kernel) rfl
theorem wt_X2_isOutside : Cond.static yX2_isOutside ∈ WALL := wat 138 (by decide +kernel) rfl
theorem wc_X2_isOutside : Cond.code yX2_isOutside cX2_isOutside 2 (some .boolean) ∈ WALL := wat 139 (by decide +kernel) rfl
theorem wk_X2_48 : Cond.classLink RX2 48 "java/lang/IllegalArgumentException" ∈ WALL := wat 140 (by decide +kernel) rfl
theorem wa_byte : Cond.arrayClass .byte ∈ WALL := wat 207 (by decide +kernel) rfl
theorem wm_X2_75 : Cond.methodLink RX2 75 yX0_count ∈ WALL := wat 208 (by decide +kernel) rfl
theorem wi_X0_count : Cond.instanceMethod yX0_count ∈ WALL := wat 209 (by decide +kernel) rfl
theorem ws_X0_count : Cond.selects RX0 yX0_count yX0_count ∈ WALL := wat 210 (by decide +kernel) rfl
theorem wc_X0_count : Cond.code yX0_count cX0_count 2 (some .int) ∈ WALL := wat 211 (by decide +kernel) rfl
theorem wm_X0_28 : Cond.methodLink RX0 28 yX0_countOthers ∈ WALL := wat 212 (by decide +kernel) rfl
theorem wi_X0_countOthers : Cond.instanceMethod yX0_countOthers ∈ WALL := wat 213 (by decide +kernel) rfl
theorem ws_X0_countOthers : Cond.selects RX0 yX0_countOthers yX0_countOthers ∈ WALL := wat 214 (by decide +kernel) rfl
theorem wc_X0_countOthers : Cond.code yX0_countOthers cX0_countOthers 5 (some .int) ∈ WALL := wat 215 (by decide +kernel) rfl
theorem wm_X0_32 : Cond.methodLink RX0 32 yX0_isThere ∈ WALL := wat 216 (by decide +kernel) rfl
theorem wi_X0_isThere : Cond.instanceMethod yX0_isThere ∈ WALL := wat 217 (by decide +kernel) rfl
theorem ws_X0_isThere : Cond.selects RX0 yX0_isThere yX0_isThere ∈ WALL := wat 218 (by decide +kernel) rfl
theorem wc_X0_isThere : Cond.code yX0_isThere cX0_isThere 3 (some .boolean) ∈ WALL := wat 219 (by decide +kernel) rfl
theorem wm_L_85 : Cond.methodLink RL 85 yX2_time ∈ WALL := wat 220 (by decide +kernel) rfl
theorem wi_X2_time : Cond.instanceMethod yX2_time ∈ WALL := wat 221 (by decide +kernel) rfl
theorem ws_X2_time : Cond.selects RX2 yX2_time yX2_time ∈ WALL := wat 222 (by decide +kernel) rfl
theorem wc_X2_time : Cond.code yX2_time cX2_time 1 (some .int) ∈ WALL := wat 223 (by decide +kernel) rfl
theorem wm_L_47 : Cond.methodLink RL 47 yX2_calls ∈ WALL := wat 224 (by decide +kernel) rfl
theorem wi_X2_calls : Cond.instanceMethod yX2_calls ∈ WALL := wat 225 (by decide +kernel) rfl
theorem ws_X2_calls : Cond.selects RX2 yX2_calls yX2_calls ∈ WALL := wat 226 (by decide +kernel) rfl
theorem wc_X2_calls : Cond.code yX2_calls cX2_calls 1 (some .int) ∈ WALL := wat 227 (by decide +kernel) rfl
theorem wm_L_79 : Cond.methodLink RL 79 yX2_hungUp ∈ WALL := wat 228 (by decide +kernel) rfl
theorem wi_X2_hungUp : Cond.instanceMethod yX2_hungUp ∈ WALL := wat 229 (by decide +kernel) rfl
theorem ws_X2_hungUp : Cond.selects RX2 yX2_hungUp yX2_hungUp ∈ WALL := wat 230 (by decide +kernel) rfl
theorem wc_X2_hungUp : Cond.code yX2_hungUp cX2_hungUp 2 (some .int) ∈ WALL := wat 231 (by decide +kernel) rfl
theorem wm_L_89 : Cond.methodLink RL 89 yL_draw ∈ WALL := wat 233 (by decide +kernel) rfl
theorem wt_L_draw : Cond.static yL_draw ∈ WALL := wat 234 (by decide +kernel) rfl
theorem wc_L_draw : Cond.code yL_draw cL_draw 2 (some .int) ∈ WALL := wat 235 (by decide +kernel) rfl
theorem wz_L_7 : Cond.constant RL 7 (2147483647 : Int32) ∈ WALL := wat 236 (by decide +kernel) rfl
theorem wz_L_8 : Cond.constant RL 8 (104729 : Int32) ∈ WALL := wat 237 (by decide +kernel) rfl
theorem wz_L_9 : Cond.constant RL 9 (65521 : Int32) ∈ WALL := wat 238 (by decide +kernel) rfl
theorem wm_L_93 : Cond.methodLink RL 93 yL_step ∈ WALL := wat 239 (by decide +kernel) rfl
theorem wt_L_step : Cond.static yL_step ∈ WALL := wat 240 (by decide +kernel) rfl
theorem wc_L_step : Cond.code yL_step cL_step 7 (some .boolean) ∈ WALL := wat 241 (by decide +kernel) rfl
theorem wm_L_10 : Cond.methodLink RL 10 yL_registers ∈ WALL := wat 242 (by decide +kernel) rfl
theorem wt_L_registers : Cond.static yL_registers ∈ WALL := wat 243 (by decide +kernel) rfl
theorem wc_L_registers : Cond.code yL_registers cL_registers 10 (some .boolean) ∈ WALL := wat 244 (by decide +kernel) rfl
theorem wm_L_36 : Cond.methodLink RL 36 yX2_binding ∈ WALL := wat 245 (by decide +kernel) rfl
theorem wi_X2_binding : Cond.instanceMethod yX2_binding ∈ WALL := wat 246 (by decide +kernel) rfl
theorem ws_X2_binding : Cond.selects RX2 yX2_binding yX2_binding ∈ WALL := wat 247 (by decide +kernel) rfl
theorem wc_X2_binding : Cond.code yX2_binding cX2_binding 5 (some .int) ∈ WALL := wat 248 (by decide +kernel) rfl
theorem wm_X2_79 : Cond.methodLink RX2 79 yX0_targetAt ∈ WALL := wat 249 (by decide +kernel) rfl
theorem wi_X0_targetAt : Cond.instanceMethod yX0_targetAt ∈ WALL := wat 250 (by decide +kernel) rfl
theorem ws_X0_targetAt : Cond.selects RX0 yX0_targetAt yX0_targetAt ∈ WALL := wat 251 (by decide +kernel) rfl
theorem wc_X0_targetAt : Cond.code yX0_targetAt cX0_targetAt 6 (some .int) ∈ WALL := wat 252 (by decide +kernel) rfl
theorem wk_X2_82 : Cond.classLink RX2 82 "java/lang/IndexOutOfBoundsException" ∈ WALL := wat 253 (by decide +kernel) rfl
theorem wm_L_40 : Cond.methodLink RL 40 yX2_register ∈ WALL := wat 269 (by decide +kernel) rfl
theorem wi_X2_register : Cond.instanceMethod yX2_register ∈ WALL := wat 270 (by decide +kernel) rfl
theorem ws_X2_register : Cond.selects RX2 yX2_register yX2_register ∈ WALL := wat 271 (by decide +kernel) rfl
theorem wc_X2_register : Cond.code yX2_register cX2_register 7 (some .int) ∈ WALL := wat 272 (by decide +kernel) rfl
theorem wk_X2_60 : Cond.classLink RX2 60 "java/lang/IllegalStateException" ∈ WALL := wat 275 (by decide +kernel) rfl
theorem wm_X2_65 : Cond.methodLink RX2 65 yX0_countOthers ∈ WALL := wat 291 (by decide +kernel) rfl
theorem wm_X2_71 : Cond.methodLink RX2 71 yX0_put ∈ WALL := wat 293 (by decide +kernel) rfl
theorem wi_X0_put : Cond.instanceMethod yX0_put ∈ WALL := wat 294 (by decide +kernel) rfl
theorem ws_X0_put : Cond.selects RX0 yX0_put yX0_put ∈ WALL := wat 295 (by decide +kernel) rfl
theorem wc_X0_put : Cond.code yX0_put cX0_put 5 none ∈ WALL := wat 296 (by decide +kernel) rfl
theorem wm_L_16 : Cond.methodLink RL 16 yL_calls ∈ WALL := wat 297 (by decide +kernel) rfl
theorem wt_L_calls : Cond.static yL_calls ∈ WALL := wat 298 (by decide +kernel) rfl
theorem wc_L_calls : Cond.code yL_calls cL_calls 10 (some .boolean) ∈ WALL := wat 299 (by decide +kernel) rfl
theorem wm_L_44 : Cond.methodLink RL 44 yX2_call ∈ WALL := wat 300 (by decide +kernel) rfl
theorem wi_X2_call : Cond.instanceMethod yX2_call ∈ WALL := wat 301 (by decide +kernel) rfl
theorem ws_X2_call : Cond.selects RX2 yX2_call yX2_call ∈ WALL := wat 302 (by decide +kernel) rfl
theorem wc_X2_call : Cond.code yX2_call cX2_call 3 (some .int) ∈ WALL := wat 303 (by decide +kernel) rfl
theorem wm_X2_94 : Cond.methodLink RX2 94 yX2_followUser ∈ WALL := wat 305 (by decide +kernel) rfl
theorem wi_X2_followUser : Cond.instanceMethod yX2_followUser ∈ WALL := wat 307 (by decide +kernel) rfl
theorem wc_X2_followUser : Cond.code yX2_followUser cX2_followUser 9 none ∈ WALL := wat 308 (by decide +kernel) rfl
theorem wm_X2_186 : Cond.methodLink RX2 186 yX0_isThere ∈ WALL := wat 309 (by decide +kernel) rfl
theorem wm_X2_189 : Cond.methodLink RX2 189 yX1_addDevice ∈ WALL := wat 310 (by decide +kernel) rfl
theorem wi_X1_addDevice : Cond.instanceMethod yX1_addDevice ∈ WALL := wat 311 (by decide +kernel) rfl
theorem ws_X1_addDevice : Cond.selects RX1 yX1_addDevice yX1_addDevice ∈ WALL := wat 312 (by decide +kernel) rfl
theorem wc_X1_addDevice : Cond.code yX1_addDevice cX1_addDevice 3 none ∈ WALL := wat 313 (by decide +kernel) rfl
theorem wm_X1_45 : Cond.methodLink RX1 45 yX1_branchOf ∈ WALL := wat 314 (by decide +kernel) rfl
theorem wi_X1_branchOf : Cond.instanceMethod yX1_branchOf ∈ WALL := wat 315 (by decide +kernel) rfl
theorem ws_X1_branchOf : Cond.selects RX1 yX1_branchOf yX1_branchOf ∈ WALL := wat 316 (by decide +kernel) rfl
theorem wc_X1_branchOf : Cond.code yX1_branchOf cX1_branchOf 3 (some .int) ∈ WALL := wat 317 (by decide +kernel) rfl
theorem wm_X1_49 : Cond.methodLink RX1 49 yX1_add ∈ WALL := wat 318 (by decide +kernel) rfl
theorem wi_X1_add : Cond.instanceMethod yX1_add ∈ WALL := wat 320 (by decide +kernel) rfl
theorem wc_X1_add : Cond.code yX1_add cX1_add 4 none ∈ WALL := wat 321 (by decide +kernel) rfl
theorem wm_X2_193 : Cond.methodLink RX2 193 yX2_comeToUser ∈ WALL := wat 322 (by decide +kernel) rfl
theorem wi_X2_comeToUser : Cond.instanceMethod yX2_comeToUser ∈ WALL := wat 324 (by decide +kernel) rfl
theorem wc_X2_comeToUser : Cond.code yX2_comeToUser cX2_comeToUser 5 none ∈ WALL := wat 325 (by decide +kernel) rfl
theorem wm_X2_196 : Cond.methodLink RX2 196 yX2_isOnWay ∈ WALL := wat 326 (by decide +kernel) rfl
theorem wi_X2_isOnWay : Cond.instanceMethod yX2_isOnWay ∈ WALL := wat 328 (by decide +kernel) rfl
theorem wc_X2_isOnWay : Cond.code yX2_isOnWay cX2_isOnWay 4 (some .boolean) ∈ WALL := wat 329 (by decide +kernel) rfl
theorem wm_X2_199 : Cond.methodLink RX2 199 yX1_addEnded ∈ WALL := wat 330 (by decide +kernel) rfl
theorem wi_X1_addEnded : Cond.instanceMethod yX1_addEnded ∈ WALL := wat 331 (by decide +kernel) rfl
theorem ws_X1_addEnded : Cond.selects RX1 yX1_addEnded yX1_addEnded ∈ WALL := wat 332 (by decide +kernel) rfl
theorem wc_X1_addEnded : Cond.code yX1_addEnded cX1_addEnded 3 none ∈ WALL := wat 333 (by decide +kernel) rfl
theorem wm_X2_98 : Cond.methodLink RX2 98 yX1_begin ∈ WALL := wat 334 (by decide +kernel) rfl
theorem wi_X1_begin : Cond.instanceMethod yX1_begin ∈ WALL := wat 335 (by decide +kernel) rfl
theorem ws_X1_begin : Cond.selects RX1 yX1_begin yX1_begin ∈ WALL := wat 336 (by decide +kernel) rfl
theorem wc_X1_begin : Cond.code yX1_begin cX1_begin 2 none ∈ WALL := wat 337 (by decide +kernel) rfl
theorem wm_X1_53 : Cond.methodLink RX1 53 yX1_goOn ∈ WALL := wat 338 (by decide +kernel) rfl
theorem wi_X1_goOn : Cond.instanceMethod yX1_goOn ∈ WALL := wat 340 (by decide +kernel) rfl
theorem wc_X1_goOn : Cond.code yX1_goOn cX1_goOn 3 none ∈ WALL := wat 341 (by decide +kernel) rfl
theorem wm_X1_57 : Cond.methodLink RX1 57 yX1_isWaiting ∈ WALL := wat 342 (by decide +kernel) rfl
theorem wi_X1_isWaiting : Cond.instanceMethod yX1_isWaiting ∈ WALL := wat 344 (by decide +kernel) rfl
theorem wc_X1_isWaiting : Cond.code yX1_isWaiting cX1_isWaiting 2 (some .boolean) ∈ WALL := wat 345 (by decide +kernel) rfl
theorem wm_X1_69 : Cond.methodLink RX1 69 yX1_isStarted ∈ WALL := wat 346 (by decide +kernel) rfl
theorem wi_X1_isStarted : Cond.instanceMethod yX1_isStarted ∈ WALL := wat 347 (by decide +kernel) rfl
theorem ws_X1_isStarted : Cond.selects RX1 yX1_isStarted yX1_isStarted ∈ WALL := wat 348 (by decide +kernel) rfl
theorem wc_X1_isStarted : Cond.code yX1_isStarted cX1_isStarted 2 (some .boolean) ∈ WALL := wat 349 (by decide +kernel) rfl
theorem wm_X1_73 : Cond.methodLink RX1 73 yX1_isEnded ∈ WALL := wat 350 (by decide +kernel) rfl
theorem wi_X1_isEnded : Cond.instanceMethod yX1_isEnded ∈ WALL := wat 351 (by decide +kernel) rfl
theorem ws_X1_isEnded : Cond.selects RX1 yX1_isEnded yX1_isEnded ∈ WALL := wat 352 (by decide +kernel) rfl
theorem wc_X1_isEnded : Cond.code yX1_isEnded cX1_isEnded 2 (some .boolean) ∈ WALL := wat 353 (by decide +kernel) rfl
theorem wm_X1_61 : Cond.methodLink RX1 61 yX1_startGroup ∈ WALL := wat 354 (by decide +kernel) rfl
theorem wi_X1_startGroup : Cond.instanceMethod yX1_startGroup ∈ WALL := wat 356 (by decide +kernel) rfl
theorem wc_X1_startGroup : Cond.code yX1_startGroup cX1_startGroup 4 none ∈ WALL := wat 357 (by decide +kernel) rfl
theorem wm_X1_65 : Cond.methodLink RX1 65 yX1_bestEnd ∈ WALL := wat 358 (by decide +kernel) rfl
theorem wi_X1_bestEnd : Cond.instanceMethod yX1_bestEnd ∈ WALL := wat 360 (by decide +kernel) rfl
theorem wc_X1_bestEnd : Cond.code yX1_bestEnd cX1_bestEnd 5 (some .int) ∈ WALL := wat 361 (by decide +kernel) rfl
theorem wm_X1_79 : Cond.methodLink RX1 79 Lib.Math.min.name ∈ WALL := wat 362 (by decide +kernel) rfl
theorem wt_min : Cond.static Lib.Math.min.name ∈ WALL := wat 363 (by decide +kernel) rfl
theorem wc_min : Cond.code Lib.Math.min.name Lib.Math.min.code 2 (some .int) ∈ WALL := wat 364 (by decide +kernel) rfl
theorem wm_X1_85 : Cond.methodLink RX1 85 Lib.Math.max.name ∈ WALL := wat 365 (by decide +kernel) rfl
theorem wt_max : Cond.static Lib.Math.max.name ∈ WALL := wat 366 (by decide +kernel) rfl
theorem wc_max : Cond.code Lib.Math.max.name Lib.Math.max.code 2 (some .int) ∈ WALL := wat 367 (by decide +kernel) rfl
theorem wm_L_50 : Cond.methodLink RL 50 yX2_answered ∈ WALL := wat 368 (by decide +kernel) rfl
theorem wi_X2_answered : Cond.instanceMethod yX2_answered ∈ WALL := wat 369 (by decide +kernel) rfl
theorem ws_X2_answered : Cond.selects RX2 yX2_answered yX2_answered ∈ WALL := wat 370 (by decide +kernel) rfl
theorem wc_X2_answered : Cond.code yX2_answered cX2_answered 2 (some .int) ∈ WALL := wat 371 (by decide +kernel) rfl
theorem wm_X2_102 : Cond.methodLink RX2 102 yX2_callAt ∈ WALL := wat 372 (by decide +kernel) rfl
theorem wi_X2_callAt : Cond.instanceMethod yX2_callAt ∈ WALL := wat 374 (by decide +kernel) rfl
theorem wc_X2_callAt : Cond.code yX2_callAt cX2_callAt 2 (some (.object "CallForker$Call")) ∈ WALL := wat 375 (by decide +kernel) rfl
theorem wm_L_53 : Cond.methodLink RL 53 yX2_branches ∈ WALL := wat 377 (by decide +kernel) rfl
theorem wi_X2_branches : Cond.instanceMethod yX2_branches ∈ WALL := wat 378 (by decide +kernel) rfl
theorem ws_X2_branches : Cond.selects RX2 yX2_branches yX2_branches ∈ WALL := wat 379 (by decide +kernel) rfl
theorem wc_X2_branches : Cond.code yX2_branches cX2_branches 2 (some .int) ∈ WALL := wat 380 (by decide +kernel) rfl
theorem wm_L_56 : Cond.methodLink RL 56 yX2_finalOf ∈ WALL := wat 381 (by decide +kernel) rfl
theorem wi_X2_finalOf : Cond.instanceMethod yX2_finalOf ∈ WALL := wat 382 (by decide +kernel) rfl
theorem ws_X2_finalOf : Cond.selects RX2 yX2_finalOf yX2_finalOf ∈ WALL := wat 383 (by decide +kernel) rfl
theorem wc_X2_finalOf : Cond.code yX2_finalOf cX2_finalOf 2 (some .int) ∈ WALL := wat 384 (by decide +kernel) rfl
theorem wm_L_59 : Cond.methodLink RL 59 yX2_device ∈ WALL := wat 385 (by decide +kernel) rfl
theorem wi_X2_device : Cond.instanceMethod yX2_device ∈ WALL := wat 386 (by decide +kernel) rfl
theorem ws_X2_device : Cond.selects RX2 yX2_device yX2_device ∈ WALL := wat 387 (by decide +kernel) rfl
theorem wc_X2_device : Cond.code yX2_device cX2_device 3 (some .int) ∈ WALL := wat 388 (by decide +kernel) rfl
theorem wm_X2_161 : Cond.methodLink RX2 161 yX2_callWith ∈ WALL := wat 389 (by decide +kernel) rfl
theorem wi_X2_callWith : Cond.instanceMethod yX2_callWith ∈ WALL := wat 391 (by decide +kernel) rfl
theorem wc_X2_callWith : Cond.code yX2_callWith cX2_callWith 4 (some (.object "CallForker$Call")) ∈ WALL := wat 392 (by decide +kernel) rfl
theorem wm_L_62 : Cond.methodLink RL 62 yX2_state ∈ WALL := wat 394 (by decide +kernel) rfl
theorem wi_X2_state : Cond.instanceMethod yX2_state ∈ WALL := wat 395 (by decide +kernel) rfl
theorem ws_X2_state : Cond.selects RX2 yX2_state yX2_state ∈ WALL := wat 396 (by decide +kernel) rfl
theorem wc_X2_state : Cond.code yX2_state cX2_state 3 (some .int) ∈ WALL := wat 397 (by decide +kernel) rfl
theorem wm_L_20 : Cond.methodLink RL 20 yL_answers ∈ WALL := wat 398 (by decide +kernel) rfl
theorem wt_L_answers : Cond.static yL_answers ∈ WALL := wat 399 (by decide +kernel) rfl
theorem wc_L_answers : Cond.code yL_answers cL_answers 16 (some .boolean) ∈ WALL := wat 400 (by decide +kernel) rfl
theorem wm_L_65 : Cond.methodLink RL 65 yX2_answer ∈ WALL := wat 401 (by decide +kernel) rfl
theorem wi_X2_answer : Cond.instanceMethod yX2_answer ∈ WALL := wat 402 (by decide +kernel) rfl
theorem ws_X2_answer : Cond.selects RX2 yX2_answer yX2_answer ∈ WALL := wat 403 (by decide +kernel) rfl
theorem wc_X2_answer : Cond.code yX2_answer cX2_answer 6 (some .int) ∈ WALL := wat 404 (by decide +kernel) rfl
theorem wm_X2_106 : Cond.methodLink RX2 106 yX2_isNoAnswer ∈ WALL := wat 405 (by decide +kernel) rfl
theorem wt_X2_isNoAnswer : Cond.static yX2_isNoAnswer ∈ WALL := wat 406 (by decide +kernel) rfl
theorem wc_X2_isNoAnswer : Cond.code yX2_isNoAnswer cX2_isNoAnswer 1 (some .boolean) ∈ WALL := wat 407 (by decide +kernel) rfl
theorem wm_X2_112 : Cond.methodLink RX2 112 yX1_branchOf ∈ WALL := wat 409 (by decide +kernel) rfl
theorem wm_X2_117 : Cond.methodLink RX2 117 yX1_isStarted ∈ WALL := wat 411 (by decide +kernel) rfl
theorem wm_X2_122 : Cond.methodLink RX2 122 yX1_isEnded ∈ WALL := wat 413 (by decide +kernel) rfl
theorem wm_X2_125 : Cond.methodLink RX2 125 yX1_takeAnswer ∈ WALL := wat 414 (by decide +kernel) rfl
theorem wi_X1_takeAnswer : Cond.instanceMethod yX1_takeAnswer ∈ WALL := wat 415 (by decide +kernel) rfl
theorem ws_X1_takeAnswer : Cond.selects RX1 yX1_takeAnswer yX1_takeAnswer ∈ WALL := wat 416 (by decide +kernel) rfl
theorem wc_X1_takeAnswer : Cond.code yX1_takeAnswer cX1_takeAnswer 4 none ∈ WALL := wat 417 (by decide +kernel) rfl
theorem wm_X1_76 : Cond.methodLink RX1 76 yX1_endOpen ∈ WALL := wat 418 (by decide +kernel) rfl
theorem wi_X1_endOpen : Cond.instanceMethod yX1_endOpen ∈ WALL := wat 420 (by decide +kernel) rfl
theorem wc_X1_endOpen : Cond.code yX1_endOpen cX1_endOpen 3 (some .int) ∈ WALL := wat 421 (by decide +kernel) rfl
theorem wm_X2_129 : Cond.methodLink RX2 129 yX1_isTooMuch ∈ WALL := wat 422 (by decide +kernel) rfl
theorem wi_X1_isTooMuch : Cond.instanceMethod yX1_isTooMuch ∈ WALL := wat 423 (by decide +kernel) rfl
theorem ws_X1_isTooMuch : Cond.selects RX1 yX1_isTooMuch yX1_isTooMuch ∈ WALL := wat 424 (by decide +kernel) rfl
theorem wc_X1_isTooMuch : Cond.code yX1_isTooMuch cX1_isTooMuch 5 (some .boolean) ∈ WALL := wat 425 (by decide +kernel) rfl
theorem wm_L_69 : Cond.methodLink RL 69 yL_branchOf ∈ WALL := wat 427 (by decide +kernel) rfl
theorem wt_L_branchOf : Cond.static yL_branchOf ∈ WALL := wat 428 (by decide +kernel) rfl
theorem wc_L_branchOf : Cond.code yL_branchOf cL_branchOf 5 (some .int) ∈ WALL := wat 429 (by decide +kernel) rfl
theorem wm_L_24 : Cond.methodLink RL 24 yL_cancels ∈ WALL := wat 430 (by decide +kernel) rfl
theorem wt_L_cancels : Cond.static yL_cancels ∈ WALL := wat 431 (by decide +kernel) rfl
theorem wc_L_cancels : Cond.code yL_cancels cL_cancels 7 (some .boolean) ∈ WALL := wat 432 (by decide +kernel) rfl
theorem wm_L_73 : Cond.methodLink RL 73 yX2_finalBySorting ∈ WALL := wat 433 (by decide +kernel) rfl
theorem wi_X2_finalBySorting : Cond.instanceMethod yX2_finalBySorting ∈ WALL := wat 434 (by decide +kernel) rfl
theorem ws_X2_finalBySorting : Cond.selects RX2 yX2_finalBySorting yX2_finalBySorting ∈ WALL := wat 435 (by decide +kernel) rfl
theorem wc_X2_finalBySorting : Cond.code yX2_finalBySorting cX2_finalBySorting 3 (some .int) ∈ WALL := wat 436 (by decide +kernel) rfl
theorem wm_X2_154 : Cond.methodLink RX2 154 yX1_finalFromSorted ∈ WALL := wat 438 (by decide +kernel) rfl
theorem wi_X1_finalFromSorted : Cond.instanceMethod yX1_finalFromSorted ∈ WALL := wat 439 (by decide +kernel) rfl
theorem ws_X1_finalFromSorted : Cond.selects RX1 yX1_finalFromSorted yX1_finalFromSorted ∈ WALL := wat 440 (by decide +kernel) rfl
theorem wc_X1_finalFromSorted : Cond.code yX1_finalFromSorted cX1_finalFromSorted 3 (some .int) ∈ WALL := wat 441 (by decide +kernel) rfl
theorem wm_X1_88 : Cond.methodLink RX1 88 yX1_sortEnds ∈ WALL := wat 442 (by decide +kernel) rfl
theorem wi_X1_sortEnds : Cond.instanceMethod yX1_sortEnds ∈ WALL := wat 444 (by decide +kernel) rfl
theorem wc_X1_sortEnds : Cond.code yX1_sortEnds cX1_sortEnds 4 (some .int) ∈ WALL := wat 445 (by decide +kernel) rfl
theorem wm_X1_92 : Cond.methodLink RX1 92 yX1_insert ∈ WALL := wat 446 (by decide +kernel) rfl
theorem wt_X1_insert : Cond.static yX1_insert ∈ WALL := wat 447 (by decide +kernel) rfl
theorem wc_X1_insert : Cond.code yX1_insert cX1_insert 4 none ∈ WALL := wat 448 (by decide +kernel) rfl
theorem wm_L_76 : Cond.methodLink RL 76 yX2_cancel ∈ WALL := wat 449 (by decide +kernel) rfl
theorem wi_X2_cancel : Cond.instanceMethod yX2_cancel ∈ WALL := wat 450 (by decide +kernel) rfl
theorem ws_X2_cancel : Cond.selects RX2 yX2_cancel yX2_cancel ∈ WALL := wat 451 (by decide +kernel) rfl
theorem wc_X2_cancel : Cond.code yX2_cancel cX2_cancel 3 (some .int) ∈ WALL := wat 452 (by decide +kernel) rfl
theorem wm_X2_143 : Cond.methodLink RX2 143 yX1_cancelAll ∈ WALL := wat 454 (by decide +kernel) rfl
theorem wi_X1_cancelAll : Cond.instanceMethod yX1_cancelAll ∈ WALL := wat 455 (by decide +kernel) rfl
theorem ws_X1_cancelAll : Cond.selects RX1 yX1_cancelAll yX1_cancelAll ∈ WALL := wat 456 (by decide +kernel) rfl
theorem wc_X1_cancelAll : Cond.code yX1_cancelAll cX1_cancelAll 2 (some .int) ∈ WALL := wat 457 (by decide +kernel) rfl
theorem wm_L_27 : Cond.methodLink RL 27 yL_passes ∈ WALL := wat 458 (by decide +kernel) rfl
theorem wt_L_passes : Cond.static yL_passes ∈ WALL := wat 459 (by decide +kernel) rfl
theorem wc_L_passes : Cond.code yL_passes cL_passes 8 (some .boolean) ∈ WALL := wat 460 (by decide +kernel) rfl
theorem wm_L_82 : Cond.methodLink RL 82 yX2_pass ∈ WALL := wat 461 (by decide +kernel) rfl
theorem wi_X2_pass : Cond.instanceMethod yX2_pass ∈ WALL := wat 462 (by decide +kernel) rfl
theorem ws_X2_pass : Cond.selects RX2 yX2_pass yX2_pass ∈ WALL := wat 463 (by decide +kernel) rfl
theorem wc_X2_pass : Cond.code yX2_pass cX2_pass 4 (some .int) ∈ WALL := wat 464 (by decide +kernel) rfl
theorem wm_X2_149 : Cond.methodLink RX2 149 yX2_lookAtCalls ∈ WALL := wat 466 (by decide +kernel) rfl
theorem wi_X2_lookAtCalls : Cond.instanceMethod yX2_lookAtCalls ∈ WALL := wat 468 (by decide +kernel) rfl
theorem wc_X2_lookAtCalls : Cond.code yX2_lookAtCalls cX2_lookAtCalls 3 (some .int) ∈ WALL := wat 469 (by decide +kernel) rfl
theorem wm_X2_202 : Cond.methodLink RX2 202 yX1_endsWithTick ∈ WALL := wat 470 (by decide +kernel) rfl
theorem wi_X1_endsWithTick : Cond.instanceMethod yX1_endsWithTick ∈ WALL := wat 471 (by decide +kernel) rfl
theorem ws_X1_endsWithTick : Cond.selects RX1 yX1_endsWithTick yX1_endsWithTick ∈ WALL := wat 472 (by decide +kernel) rfl
theorem wc_X1_endsWithTick : Cond.code yX1_endsWithTick cX1_endsWithTick 3 (some .boolean) ∈ WALL := wat 473 (by decide +kernel) rfl
theorem wm_L_96 : Cond.methodLink RL 96 yL_isCall ∈ WALL := wat 474 (by decide +kernel) rfl
theorem wt_L_isCall : Cond.static yL_isCall ∈ WALL := wat 475 (by decide +kernel) rfl
theorem wc_L_isCall : Cond.code yL_isCall cL_isCall 9 (some .boolean) ∈ WALL := wat 476 (by decide +kernel) rfl
theorem wu_X0 : ∀ w ∈ u_ws RX0 TX0 5, w ∈ WALL := by decide +kernel
theorem wu_X1 : ∀ w ∈ u_ws RX1 TX1 10, w ∈ WALL := by decide +kernel
theorem wu_X2 : ∀ w ∈ u_ws RX2 TX2 7, w ∈ WALL := by decide +kernel
end
section

theorem dX0_init_0 : decode cX0_init 0 = .ok (.aload_n 0, 1) := by decide +kernel
theorem dX0_init_1 : decode cX0_init 1 = .ok (.invokespecial 3, 3) := by decide +kernel
theorem dX0_init_4 : decode cX0_init 4 = .ok (.aload_n 0, 1) := by decide +kernel
theorem dX0_init_5 : decode cX0_init 5 = .ok (.bipush 16, 2) := by decide +kernel
theorem dX0_init_7 : decode cX0_init 7 = .ok (.newarray .int, 2) := by decide +kernel
theorem dX0_init_9 : decode cX0_init 9 = .ok (.putfield 9, 3) := by decide +kernel
theorem dX0_init_12 : decode cX0_init 12 = .ok (.aload_n 0, 1) := by decide +kernel
theorem dX0_init_13 : decode cX0_init 13 = .ok (.bipush 16, 2) := by decide +kernel
theorem dX0_init_15 : decode cX0_init 15 = .ok (.newarray .int, 2) := by decide +kernel
theorem dX0_init_17 : decode cX0_init 17 = .ok (.putfield 15, 3) := by decide +kernel
theorem dX0_init_20 : decode cX0_init 20 = .ok (.aload_n 0, 1) := by decide +kernel
theorem dX0_init_21 : decode cX0_init 21 = .ok (.bipush 16, 2) := by decide +kernel
theorem dX0_init_23 : decode cX0_init 23 = .ok (.newarray .int, 2) := by decide +kernel
theorem dX0_init_25 : decode cX0_init 25 = .ok (.putfield 18, 3) := by decide +kernel
theorem dX0_init_28 : decode cX0_init 28 = .ok (.aload_n 0, 1) := by decide +kernel
theorem dX0_init_29 : decode cX0_init 29 = .ok (.bipush 16, 2) := by decide +kernel
theorem dX0_init_31 : decode cX0_init 31 = .ok (.newarray .int, 2) := by decide +kernel
theorem dX0_init_33 : decode cX0_init 33 = .ok (.putfield 21, 3) := by decide +kernel
theorem dX0_init_36 : decode cX0_init 36 = .ok (.aload_n 0, 1) := by decide +kernel
theorem dX0_init_37 : decode cX0_init 37 = .ok (.iconst 0, 1) := by decide +kernel
theorem dX0_init_38 : decode cX0_init 38 = .ok (.putfield 24, 3) := by decide +kernel
theorem dX0_init_41 : decode cX0_init 41 = .ok (.iconst 0, 1) := by decide +kernel
theorem dX0_init_42 : decode cX0_init 42 = .ok (.istore_n 1, 1) := by decide +kernel
theorem dX0_init_43 : decode cX0_init 43 = .ok (.iload_n 1, 1) := by decide +kernel
theorem dX0_init_44 : decode cX0_init 44 = .ok (.bipush 16, 2) := by decide +kernel
theorem dX0_init_46 : decode cX0_init 46 = .ok (.if_icmp .ge 16, 3) := by decide +kernel
theorem dX0_init_49 : decode cX0_init 49 = .ok (.aload_n 0, 1) := by decide +kernel
theorem dX0_init_50 : decode cX0_init 50 = .ok (.getfield 18, 3) := by decide +kernel
theorem dX0_init_53 : decode cX0_init 53 = .ok (.iload_n 1, 1) := by decide +kernel
theorem dX0_init_54 : decode cX0_init 54 = .ok (.iconst (-1), 1) := by decide +kernel
theorem dX0_init_55 : decode cX0_init 55 = .ok (.iastore, 1) := by decide +kernel
theorem dX0_init_56 : decode cX0_init 56 = .ok (.iinc 1 1, 3) := by decide +kernel
theorem dX0_init_59 : decode cX0_init 59 = .ok (.goto (-16), 3) := by decide +kernel
theorem dX0_init_62 : decode cX0_init 62 = .ok (.return_, 1) := by decide +kernel
theorem dX0_put_0 : decode cX0_put 0 = .ok (.aload_n 0, 1) := by decide +kernel
theorem dX0_put_1 : decode cX0_put 1 = .ok (.getfield 18, 3) := by decide +kernel
theorem dX0_put_4 : decode cX0_put 4 = .ok (.iload_n 1, 1) := by decide +kernel
theorem dX0_put_5 : decode cX0_put 5 = .ok (.iaload, 1) := by decide +kernel
theorem dX0_put_6 : decode cX0_put 6 = .ok (.iconst (-1), 1) := by decide +kernel
theorem dX0_put_7 : decode cX0_put 7 = .ok (.if_icmp .ne 32, 3) := by decide +kernel
theorem dX0_put_10 : decode cX0_put 10 = .ok (.aload_n 0, 1) := by decide +kernel
theorem dX0_put_11 : decode cX0_put 11 = .ok (.getfield 24, 3) := by decide +kernel
theorem dX0_put_14 : decode cX0_put 14 = .ok (.bipush 16, 2) := by decide +kernel
theorem dX0_put_16 : decode cX0_put 16 = .ok (.if_icmp .ge 23, 3) := by decide +kernel
theorem dX0_put_19 : decode cX0_put 19 = .ok (.aload_n 0, 1) := by decide +kernel
theorem dX0_put_20 : decode cX0_put 20 = .ok (.getfield 21, 3) := by decide +kernel
theorem dX0_put_23 : decode cX0_put 23 = .ok (.aload_n 0, 1) := by decide +kernel
theorem dX0_put_24 : decode cX0_put 24 = .ok (.getfield 24, 3) := by decide +kernel
theorem dX0_put_27 : decode cX0_put 27 = .ok (.iload_n 1, 1) := by decide +kernel
theorem dX0_put_28 : decode cX0_put 28 = .ok (.iastore, 1) := by decide +kernel
theorem dX0_put_29 : decode cX0_put 29 = .ok (.aload_n 0, 1) := by decide +kernel
theorem dX0_put_30 : decode cX0_put 30 = .ok (.dup, 1) := by decide +kernel
theorem dX0_put_31 : decode cX0_put 31 = .ok (.getfield 24, 3) := by decide +kernel
theorem dX0_put_34 : decode cX0_put 34 = .ok (.iconst 1, 1) := by decide +kernel
theorem dX0_put_35 : decode cX0_put 35 = .ok (.iadd, 1) := by decide +kernel
theorem dX0_put_36 : decode cX0_put 36 = .ok (.putfield 24, 3) := by decide +kernel
theorem dX0_put_39 : decode cX0_put 39 = .ok (.aload_n 0, 1) := by decide +kernel
theorem dX0_put_40 : decode cX0_put 40 = .ok (.getfield 9, 3) := by decide +kernel
theorem dX0_put_43 : decode cX0_put 43 = .ok (.iload_n 1, 1) := by decide +kernel
theorem dX0_put_44 : decode cX0_put 44 = .ok (.iload_n 2, 1) := by decide +kernel
theorem dX0_put_45 : decode cX0_put 45 = .ok (.iastore, 1) := by decide +kernel
theorem dX0_put_46 : decode cX0_put 46 = .ok (.aload_n 0, 1) := by decide +kernel
theorem dX0_put_47 : decode cX0_put 47 = .ok (.getfield 15, 3) := by decide +kernel
theorem dX0_put_50 : decode cX0_put 50 = .ok (.iload_n 1, 1) := by decide +kernel
theorem dX0_put_51 : decode cX0_put 51 = .ok (.iload_n 3, 1) := by decide +kernel
theorem dX0_put_52 : decode cX0_put 52 = .ok (.iastore, 1) := by decide +kernel
theorem dX0_put_53 : decode cX0_put 53 = .ok (.aload_n 0, 1) := by decide +kernel
theorem dX0_put_54 : decode cX0_put 54 = .ok (.getfield 18, 3) := by decide +kernel
theorem dX0_put_57 : decode cX0_put 57 = .ok (.iload_n 1, 1) := by decide +kernel
theorem dX0_put_58 : decode cX0_put 58 = .ok (.iload 4, 2) := by decide +kernel
theorem dX0_put_60 : decode cX0_put 60 = .ok (.iastore, 1) := by decide +kernel
theorem dX0_put_61 : decode cX0_put 61 = .ok (.return_, 1) := by decide +kernel
theorem dX0_isThere_0 : decode cX0_isThere 0 = .ok (.aload_n 0, 1) := by decide +kernel
theorem dX0_isThere_1 : decode cX0_isThere 1 = .ok (.getfield 18, 3) := by decide +kernel
theorem dX0_isThere_4 : decode cX0_isThere 4 = .ok (.iload_n 1, 1) := by decide +kernel
theorem dX0_isThere_5 : decode cX0_isThere 5 = .ok (.iaload, 1) := by decide +kernel
theorem dX0_isThere_6 : decode cX0_isThere 6 = .ok (.iconst (-1), 1) := by decide +kernel
theorem dX0_isThere_7 : decode cX0_isThere 7 = .ok (.if_icmp .eq 17, 3) := by decide +kernel
theorem dX0_isThere_10 : decode cX0_isThere 10 = .ok (.iload_n 2, 1) := by decide +kernel
theorem dX0_isThere_11 : decode cX0_isThere 11 = .ok (.aload_n 0, 1) := by decide +kernel
theorem dX0_isThere_12 : decode cX0_isThere 12 = .ok (.getfield 15, 3) := by decide +kernel
theorem dX0_isThere_15 : decode cX0_isThere 15 = .ok (.iload_n 1, 1) := by decide +kernel
theorem dX0_isThere_16 : decode cX0_isThere 16 = .ok (.iaload, 1) := by decide +kernel
theorem dX0_isThere_17 : decode cX0_isThere 17 = .ok (.if_icmp .ge 7, 3) := by decide +kernel
theorem dX0_isThere_20 : decode cX0_isThere 20 = .ok (.iconst 1, 1) := by decide +kernel
theorem dX0_isThere_21 : decode cX0_isThere 21 = .ok (.goto 4, 3) := by decide +kernel
theorem dX0_isThere_24 : decode cX0_isThere 24 = .ok (.iconst 0, 1) := by decide +kernel
theorem dX0_isThere_25 : decode cX0_isThere 25 = .ok (.ireturn, 1) := by decide +kernel
theorem dX0_count_0 : decode cX0_count 0 = .ok (.aload_n 0, 1) := by decide +kernel
theorem dX0_count_1 : decode cX0_count 1 = .ok (.iconst (-1), 1) := by decide +kernel
theorem dX0_count_2 : decode cX0_count 2 = .ok (.iload_n 1, 1) := by decide +kernel
theorem dX0_count_3 : decode cX0_count 3 = .ok (.invokevirtual 28, 3) := by decide +kernel
theorem dX0_count_6 : decode cX0_count 6 = .ok (.ireturn, 1) := by decide +kernel
theorem dX0_countOthers_0 : decode cX0_countOthers 0 = .ok (.iconst 0, 1) := by decide +kernel
theorem dX0_countOthers_1 : decode cX0_countOthers 1 = .ok (.istore_n 3, 1) := by decide +kernel
theorem dX0_countOthers_2 : decode cX0_countOthers 2 = .ok (.iconst 0, 1) := by decide +kernel
theorem dX0_countOthers_3 : decode cX0_countOthers 3 = .ok (.istore 4, 2) := by decide +kernel
theorem dX0_countOthers_5 : decode cX0_countOthers 5 = .ok (.iload 4, 2) := by decide +kernel
theorem dX0_countOthers_7 : decode cX0_countOthers 7 = .ok (.bipush 16, 2) := by decide +kernel
theorem dX0_countOthers_9 : decode cX0_countOthers 9 = .ok (.if_icmp .ge 28, 3) := by decide +kernel
theorem dX0_countOthers_12 : decode cX0_countOthers 12 = .ok (.iload 4, 2) := by decide +kernel
theorem dX0_countOthers_14 : decode cX0_countOthers 14 = .ok (.iload_n 1, 1) := by decide +kernel
theorem dX0_countOthers_15 : decode cX0_countOthers 15 = .ok (.if_icmp .eq 16, 3) := by decide +kernel
theorem dX0_countOthers_18 : decode cX0_countOthers 18 = .ok (.aload_n 0, 1) := by decide +kernel
theorem dX0_countOthers_19 : decode cX0_countOthers 19 = .ok (.iload 4, 2) := by decide +kernel
theorem dX0_countOthers_21 : decode cX0_countOthers 21 = .ok (.iload_n 2, 1) := by decide +kernel
theorem dX0_countOthers_22 : decode cX0_countOthers 22 = .ok (.invokevirtual 32, 3) := by decide +kernel
theorem dX0_countOthers_25 : decode cX0_countOthers 25 = .ok (.ifCond .eq 6, 3) := by decide +kernel
theorem dX0_countOthers_28 : decode cX0_countOthers 28 = .ok (.iinc 3 1, 3) := by decide +kernel
theorem dX0_countOthers_31 : decode cX0_countOthers 31 = .ok (.iinc 4 1, 3) := by decide +kernel
theorem dX0_countOthers_34 : decode cX0_countOthers 34 = .ok (.goto (-29), 3) := by decide +kernel
theorem dX0_countOthers_37 : decode cX0_countOthers 37 = .ok (.iload_n 3, 1) := by decide +kernel
theorem dX0_countOthers_38 : decode cX0_countOthers 38 = .ok (.ireturn, 1) := by decide +kernel
theorem dX0_targetAt_0 : decode cX0_targetAt 0 = .ok (.iconst 0, 1) := by decide +kernel
theorem dX0_targetAt_1 : decode cX0_targetAt 1 = .ok (.istore_n 3, 1) := by decide +kernel
theorem dX0_targetAt_2 : decode cX0_targetAt 2 = .ok (.iconst 0, 1) := by decide +kernel
theorem dX0_targetAt_3 : decode cX0_targetAt 3 = .ok (.istore 4, 2) := by decide +kernel
theorem dX0_targetAt_5 : decode cX0_targetAt 5 = .ok (.iload 4, 2) := by decide +kernel
theorem dX0_targetAt_7 : decode cX0_targetAt 7 = .ok (.aload_n 0, 1) := by decide +kernel
theorem dX0_targetAt_8 : decode cX0_targetAt 8 = .ok (.getfield 24, 3) := by decide +kernel
theorem dX0_targetAt_11 : decode cX0_targetAt 11 = .ok (.if_icmp .ge 39, 3) := by decide +kernel
theorem dX0_targetAt_14 : decode cX0_targetAt 14 = .ok (.aload_n 0, 1) := by decide +kernel
theorem dX0_targetAt_15 : decode cX0_targetAt 15 = .ok (.getfield 21, 3) := by decide +kernel
theorem dX0_targetAt_18 : decode cX0_targetAt 18 = .ok (.iload 4, 2) := by decide +kernel
theorem dX0_targetAt_20 : decode cX0_targetAt 20 = .ok (.iaload, 1) := by decide +kernel
theorem dX0_targetAt_21 : decode cX0_targetAt 21 = .ok (.istore 5, 2) := by decide +kernel
theorem dX0_targetAt_23 : decode cX0_targetAt 23 = .ok (.aload_n 0, 1) := by decide +kernel
theorem dX0_targetAt_24 : decode cX0_targetAt 24 = .ok (.iload 5, 2) := by decide +kernel
theorem dX0_targetAt_26 : decode cX0_targetAt 26 = .ok (.iload_n 2, 1) := by decide +kernel
theorem dX0_targetAt_27 : decode cX0_targetAt 27 = .ok (.invokevirtual 32, 3) := by decide +kernel
theorem dX0_targetAt_30 : decode cX0_targetAt 30 = .ok (.ifCond .eq 14, 3) := by decide +kernel
theorem dX0_targetAt_33 : decode cX0_targetAt 33 = .ok (.iload_n 3, 1) := by decide +kernel
theorem dX0_targetAt_34 : decode cX0_targetAt 34 = .ok (.iload_n 1, 1) := by decide +kernel
theorem dX0_targetAt_35 : decode cX0_targetAt 35 = .ok (.if_icmp .ne 6, 3) := by decide +kernel
theorem dX0_targetAt_38 : decode cX0_targetAt 38 = .ok (.iload 5, 2) := by decide +kernel
theorem dX0_targetAt_40 : decode cX0_targetAt 40 = .ok (.ireturn, 1) := by decide +kernel
theorem dX0_targetAt_41 : decode cX0_targetAt 41 = .ok (.iinc 3 1, 3) := by decide +kernel
theorem dX0_targetAt_44 : decode cX0_targetAt 44 = .ok (.iinc 4 1, 3) := by decide +kernel
theorem dX0_targetAt_47 : decode cX0_targetAt 47 = .ok (.goto (-42), 3) := by decide +kernel
theorem dX0_targetAt_50 : decode cX0_targetAt 50 = .ok (.iconst (-1), 1) := by decide +kernel
theorem dX0_targetAt_51 : decode cX0_targetAt 51 = .ok (.ireturn, 1) := by decide +kernel
theorem dX1_init_0 : decode cX1_init 0 = .ok (.aload_n 0, 1) := by decide +kernel
theorem dX1_init_1 : decode cX1_init 1 = .ok (.invokespecial 3, 3) := by decide +kernel
theorem dX1_init_4 : decode cX1_init 4 = .ok (.aload_n 0, 1) := by decide +kernel
theorem dX1_init_5 : decode cX1_init 5 = .ok (.bipush 12, 2) := by decide +kernel
theorem dX1_init_7 : decode cX1_init 7 = .ok (.newarray .int, 2) := by decide +kernel
theorem dX1_init_9 : decode cX1_init 9 = .ok (.putfield 9, 3) := by decide +kernel
theorem dX1_init_12 : decode cX1_init 12 = .ok (.aload_n 0, 1) := by decide +kernel
theorem dX1_init_13 : decode cX1_init 13 = .ok (.bipush 12, 2) := by decide +kernel
theorem dX1_init_15 : decode cX1_init 15 = .ok (.newarray .int, 2) := by decide +kernel
theorem dX1_init_17 : decode cX1_init 17 = .ok (.putfield 15, 3) := by decide +kernel
theorem dX1_init_20 : decode cX1_init 20 = .ok (.aload_n 0, 1) := by decide +kernel
theorem dX1_init_21 : decode cX1_init 21 = .ok (.bipush 12, 2) := by decide +kernel
theorem dX1_init_23 : decode cX1_init 23 = .ok (.newarray .int, 2) := by decide +kernel
theorem dX1_init_25 : decode cX1_init 25 = .ok (.putfield 18, 3) := by decide +kernel
theorem dX1_init_28 : decode cX1_init 28 = .ok (.aload_n 0, 1) := by decide +kernel
theorem dX1_init_29 : decode cX1_init 29 = .ok (.bipush 12, 2) := by decide +kernel
theorem dX1_init_31 : decode cX1_init 31 = .ok (.newarray .boolean, 2) := by decide +kernel
theorem dX1_init_33 : decode cX1_init 33 = .ok (.putfield 21, 3) := by decide +kernel
theorem dX1_init_36 : decode cX1_init 36 = .ok (.aload_n 0, 1) := by decide +kernel
theorem dX1_init_37 : decode cX1_init 37 = .ok (.iconst 0, 1) := by decide +kernel
theorem dX1_init_38 : decode cX1_init 38 = .ok (.putfield 25, 3) := by decide +kernel
theorem dX1_init_41 : decode cX1_init 41 = .ok (.aload_n 0, 1) := by decide +kernel
theorem dX1_init_42 : decode cX1_init 42 = .ok (.bipush 11, 2) := by decide +kernel
theorem dX1_init_44 : decode cX1_init 44 = .ok (.putfield 29, 3) := by decide +kernel
theorem dX1_init_47 : decode cX1_init 47 = .ok (.aload_n 0, 1) := by decide +kernel
theorem dX1_init_48 : decode cX1_init 48 = .ok (.iconst 0, 1) := by decide +kernel
theorem dX1_init_49 : decode cX1_init 49 = .ok (.putfield 32, 3) := by decide +kernel
theorem dX1_init_52 : decode cX1_init 52 = .ok (.aload_n 0, 1) := by decide +kernel
theorem dX1_init_53 : decode cX1_init 53 = .ok (.iconst (-1), 1) := by decide +kernel
theorem dX1_init_54 : decode cX1_init 54 = .ok (.putfield 35, 3) := by decide +kernel
theorem dX1_init_57 : decode cX1_init 57 = .ok (.aload_n 0, 1) := by decide +kernel
theorem dX1_init_58 : decode cX1_init 58 = .ok (.iconst (-1), 1) := by decide +kernel
theorem dX1_init_59 : decode cX1_init 59 = .ok (.putfield 38, 3) := by decide +kernel
theorem dX1_init_62 : decode cX1_init 62 = .ok (.aload_n 0, 1) := by decide +kernel
theorem dX1_init_63 : decode cX1_init 63 = .ok (.iconst 0, 1) := by decide +kernel
theorem dX1_init_64 : decode cX1_init 64 = .ok (.putfield 41, 3) := by decide +kernel
theorem dX1_init_67 : decode cX1_init 67 = .ok (.return_, 1) := by decide +kernel
theorem dX1_addDevice_0 : decode cX1_addDevice 0 = .ok (.aload_n 0, 1) := by decide +kernel
theorem dX1_addDevice_1 : decode cX1_addDevice 1 = .ok (.iload_n 1, 1) := by decide +kernel
theorem dX1_addDevice_2 : decode cX1_addDevice 2 = .ok (.invokevirtual 45, 3) := by decide +kernel
theorem dX1_addDevice_5 : decode cX1_addDevice 5 = .ok (.iconst (-1), 1) := by decide +kernel
theorem dX1_addDevice_6 : decode cX1_addDevice 6 = .ok (.if_icmp .ne 10, 3) := by decide +kernel
theorem dX1_addDevice_9 : decode cX1_addDevice 9 = .ok (.aload_n 0, 1) := by decide +kernel
theorem dX1_addDevice_10 : decode cX1_addDevice 10 = .ok (.iload_n 1, 1) := by decide +kernel
theorem dX1_addDevice_11 : decode cX1_addDevice 11 = .ok (.iload_n 2, 1) := by decide +kernel
theorem dX1_addDevice_12 : decode cX1_addDevice 12 = .ok (.iconst 0, 1) := by decide +kernel
theorem dX1_addDevice_13 : decode cX1_addDevice 13 = .ok (.invokevirtual 49, 3) := by decide +kernel
theorem dX1_addDevice_16 : decode cX1_addDevice 16 = .ok (.return_, 1) := by decide +kernel
theorem dX1_addEnded_0 : decode cX1_addEnded 0 = .ok (.aload_n 0, 1) := by decide +kernel
theorem dX1_addEnded_1 : decode cX1_addEnded 1 = .ok (.iconst (-1), 1) := by decide +kernel
theorem dX1_addEnded_2 : decode cX1_addEnded 2 = .ok (.iload_n 1, 1) := by decide +kernel
theorem dX1_addEnded_3 : decode cX1_addEnded 3 = .ok (.iload_n 2, 1) := by decide +kernel
theorem dX1_addEnded_4 : decode cX1_addEnded 4 = .ok (.invokevirtual 49, 3) := by decide +kernel
theorem dX1_addEnded_7 : decode cX1_addEnded 7 = .ok (.return_, 1) := by decide +kernel
theorem dX1_add_0 : decode cX1_add 0 = .ok (.aload_n 0, 1) := by decide +kernel
theorem dX1_add_1 : decode cX1_add 1 = .ok (.getfield 25, 3) := by decide +kernel
theorem dX1_add_4 : decode cX1_add 4 = .ok (.bipush 12, 2) := by decide +kernel
theorem dX1_add_6 : decode cX1_add 6 = .ok (.if_icmp .ge 43, 3) := by decide +kernel
theorem dX1_add_9 : decode cX1_add 9 = .ok (.aload_n 0, 1) := by decide +kernel
theorem dX1_add_10 : decode cX1_add 10 = .ok (.getfield 9, 3) := by decide +kernel
theorem dX1_add_13 : decode cX1_add 13 = .ok (.aload_n 0, 1) := by decide +kernel
theorem dX1_add_14 : decode cX1_add 14 = .ok (.getfield 25, 3) := by decide +kernel
theorem dX1_add_17 : decode cX1_add 17 = .ok (.iload_n 1, 1) := by decide +kernel
theorem dX1_add_18 : decode cX1_add 18 = .ok (.iastore, 1) := by decide +kernel
theorem dX1_add_19 : decode cX1_add 19 = .ok (.aload_n 0, 1) := by decide +kernel
theorem dX1_add_20 : decode cX1_add 20 = .ok (.getfield 15, 3) := by decide +kernel
theorem dX1_add_23 : decode cX1_add 23 = .ok (.aload_n 0, 1) := by decide +kernel
theorem dX1_add_24 : decode cX1_add 24 = .ok (.getfield 25, 3) := by decide +kernel
theorem dX1_add_27 : decode cX1_add 27 = .ok (.iload_n 2, 1) := by decide +kernel
theorem dX1_add_28 : decode cX1_add 28 = .ok (.iastore, 1) := by decide +kernel
theorem dX1_add_29 : decode cX1_add 29 = .ok (.aload_n 0, 1) := by decide +kernel
theorem dX1_add_30 : decode cX1_add 30 = .ok (.getfield 18, 3) := by decide +kernel
theorem dX1_add_33 : decode cX1_add 33 = .ok (.aload_n 0, 1) := by decide +kernel
theorem dX1_add_34 : decode cX1_add 34 = .ok (.getfield 25, 3) := by decide +kernel
theorem dX1_add_37 : decode cX1_add 37 = .ok (.iload_n 3, 1) := by decide +kernel
theorem dX1_add_38 : decode cX1_add 38 = .ok (.iastore, 1) := by decide +kernel
theorem dX1_add_39 : decode cX1_add 39 = .ok (.aload_n 0, 1) := by decide +kernel
theorem dX1_add_40 : decode cX1_add 40 = .ok (.dup, 1) := by decide +kernel
theorem dX1_add_41 : decode cX1_add 41 = .ok (.getfield 25, 3) := by decide +kernel
theorem dX1_add_44 : decode cX1_add 44 = .ok (.iconst 1, 1) := by decide +kernel
theorem dX1_add_45 : decode cX1_add 45 = .ok (.iadd, 1) := by decide +kernel
theorem dX1_add_46 : decode cX1_add 46 = .ok (.putfield 25, 3) := by decide +kernel
theorem dX1_add_49 : decode cX1_add 49 = .ok (.return_, 1) := by decide +kernel
theorem dX1_branchOf_0 : decode cX1_branchOf 0 = .ok (.iconst 0, 1) := by decide +kernel
theorem dX1_branchOf_1 : decode cX1_branchOf 1 = .ok (.istore_n 2, 1) := by decide +kernel
theorem dX1_branchOf_2 : decode cX1_branchOf 2 = .ok (.iload_n 2, 1) := by decide +kernel
theorem dX1_branchOf_3 : decode cX1_branchOf 3 = .ok (.aload_n 0, 1) := by decide +kernel
theorem dX1_branchOf_4 : decode cX1_branchOf 4 = .ok (.getfield 25, 3) := by decide +kernel
theorem dX1_branchOf_7 : decode cX1_branchOf 7 = .ok (.if_icmp .ge 21, 3) := by decide +kernel
theorem dX1_branchOf_10 : decode cX1_branchOf 10 = .ok (.aload_n 0, 1) := by decide +kernel
theorem dX1_branchOf_11 : decode cX1_branchOf 11 = .ok (.getfield 9, 3) := by decide +kernel
theorem dX1_branchOf_14 : decode cX1_branchOf 14 = .ok (.iload_n 2, 1) := by decide +kernel
theorem dX1_branchOf_15 : decode cX1_branchOf 15 = .ok (.iaload, 1) := by decide +kernel
theorem dX1_branchOf_16 : decode cX1_branchOf 16 = .ok (.iload_n 1, 1) := by decide +kernel
theorem dX1_branchOf_17 : decode cX1_branchOf 17 = .ok (.if_icmp .ne 5, 3) := by decide +kernel
theorem dX1_branchOf_20 : decode cX1_branchOf 20 = .ok (.iload_n 2, 1) := by decide +kernel
theorem dX1_branchOf_21 : decode cX1_branchOf 21 = .ok (.ireturn, 1) := by decide +kernel
theorem dX1_branchOf_22 : decode cX1_branchOf 22 = .ok (.iinc 2 1, 3) := by decide +kernel
theorem dX1_branchOf_25 : decode cX1_branchOf 25 = .ok (.goto (-23), 3) := by decide +kernel
theorem dX1_branchOf_28 : decode cX1_branchOf 28 = .ok (.iconst (-1), 1) := by decide +kernel
theorem dX1_branchOf_29 : decode cX1_branchOf 29 = .ok (.ireturn, 1) := by decide +kernel
theorem dX1_isStarted_0 : decode cX1_isStarted 0 = .ok (.aload_n 0, 1) := by decide +kernel
theorem dX1_isStarted_1 : decode cX1_isStarted 1 = .ok (.getfield 15, 3) := by decide +kernel
theorem dX1_isStarted_4 : decode cX1_isStarted 4 = .ok (.iload_n 1, 1) := by decide +kernel
theorem dX1_isStarted_5 : decode cX1_isStarted 5 = .ok (.iaload, 1) := by decide +kernel
theorem dX1_isStarted_6 : decode cX1_isStarted 6 = .ok (.aload_n 0, 1) := by decide +kernel
theorem dX1_isStarted_7 : decode cX1_isStarted 7 = .ok (.getfield 29, 3) := by decide +kernel
theorem dX1_isStarted_10 : decode cX1_isStarted 10 = .ok (.if_icmp .lt 7, 3) := by decide +kernel
theorem dX1_isStarted_13 : decode cX1_isStarted 13 = .ok (.iconst 1, 1) := by decide +kernel
theorem dX1_isStarted_14 : decode cX1_isStarted 14 = .ok (.goto 4, 3) := by decide +kernel
theorem dX1_isStarted_17 : decode cX1_isStarted 17 = .ok (.iconst 0, 1) := by decide +kernel
theorem dX1_isStarted_18 : decode cX1_isStarted 18 = .ok (.ireturn, 1) := by decide +kernel
theorem dX1_isEnded_0 : decode cX1_isEnded 0 = .ok (.aload_n 0, 1) := by decide +kernel
theorem dX1_isEnded_1 : decode cX1_isEnded 1 = .ok (.getfield 18, 3) := by decide +kernel
theorem dX1_isEnded_4 : decode cX1_isEnded 4 = .ok (.iload_n 1, 1) := by decide +kernel
theorem dX1_isEnded_5 : decode cX1_isEnded 5 = .ok (.iaload, 1) := by decide +kernel
theorem dX1_isEnded_6 : decode cX1_isEnded 6 = .ok (.sipush 200, 3) := by decide +kernel
theorem dX1_isEnded_9 : decode cX1_isEnded 9 = .ok (.if_icmp .lt 7, 3) := by decide +kernel
theorem dX1_isEnded_12 : decode cX1_isEnded 12 = .ok (.iconst 1, 1) := by decide +kernel
theorem dX1_isEnded_13 : decode cX1_isEnded 13 = .ok (.goto 4, 3) := by decide +kernel
theorem dX1_isEnded_16 : decode cX1_isEnded 16 = .ok (.iconst 0, 1) := by decide +kernel
theorem dX1_isEnded_17 : decode cX1_isEnded 17 = .ok (.ireturn, 1) := by decide +kernel
theorem dX1_isTooMuch_0 : decode cX1_isTooMuch 0 = .ok (.iload_n 2, 1) := by decide +kernel
theorem dX1_isTooMuch_1 : decode cX1_isTooMuch 1 = .ok (.sipush 200, 3) := by decide +kernel
theorem dX1_isTooMuch_4 : decode cX1_isTooMuch 4 = .ok (.if_icmp .lt 14, 3) := by decide +kernel
theorem dX1_isTooMuch_7 : decode cX1_isTooMuch 7 = .ok (.iload_n 2, 1) := by decide +kernel
theorem dX1_isTooMuch_8 : decode cX1_isTooMuch 8 = .ok (.sipush 300, 3) := by decide +kernel
theorem dX1_isTooMuch_11 : decode cX1_isTooMuch 11 = .ok (.if_icmp .ge 7, 3) := by decide +kernel
theorem dX1_isTooMuch_14 : decode cX1_isTooMuch 14 = .ok (.iconst 1, 1) := by decide +kernel
theorem dX1_isTooMuch_15 : decode cX1_isTooMuch 15 = .ok (.goto 4, 3) := by decide +kernel
theorem dX1_isTooMuch_18 : decode cX1_isTooMuch 18 = .ok (.iconst 0, 1) := by decide +kernel
theorem dX1_isTooMuch_19 : decode cX1_isTooMuch 19 = .ok (.istore_n 3, 1) := by decide +kernel
theorem dX1_isTooMuch_20 : decode cX1_isTooMuch 20 = .ok (.aload_n 0, 1) := by decide +kernel
theorem dX1_isTooMuch_21 : decode cX1_isTooMuch 21 = .ok (.getfield 18, 3) := by decide +kernel
theorem dX1_isTooMuch_24 : decode cX1_isTooMuch 24 = .ok (.iload_n 1, 1) := by decide +kernel
theorem dX1_isTooMuch_25 : decode cX1_isTooMuch 25 = .ok (.iaload, 1) := by decide +kernel
theorem dX1_isTooMuch_26 : decode cX1_isTooMuch 26 = .ok (.sipush 487, 3) := by decide +kernel
theorem dX1_isTooMuch_29 : decode cX1_isTooMuch 29 = .ok (.if_icmp .eq 15, 3) := by decide +kernel
theorem dX1_isTooMuch_32 : decode cX1_isTooMuch 32 = .ok (.aload_n 0, 1) := by decide +kernel
theorem dX1_isTooMuch_33 : decode cX1_isTooMuch 33 = .ok (.getfield 18, 3) := by decide +kernel
theorem dX1_isTooMuch_36 : decode cX1_isTooMuch 36 = .ok (.iload_n 1, 1) := by decide +kernel
theorem dX1_isTooMuch_37 : decode cX1_isTooMuch 37 = .ok (.iaload, 1) := by decide +kernel
theorem dX1_isTooMuch_38 : decode cX1_isTooMuch 38 = .ok (.sipush 408, 3) := by decide +kernel
theorem dX1_isTooMuch_41 : decode cX1_isTooMuch 41 = .ok (.if_icmp .ne 7, 3) := by decide +kernel
theorem dX1_isTooMuch_44 : decode cX1_isTooMuch 44 = .ok (.iconst 1, 1) := by decide +kernel
theorem dX1_isTooMuch_45 : decode cX1_isTooMuch 45 = .ok (.goto 4, 3) := by decide +kernel
theorem dX1_isTooMuch_48 : decode cX1_isTooMuch 48 = .ok (.iconst 0, 1) := by decide +kernel
theorem dX1_isTooMuch_49 : decode cX1_isTooMuch 49 = .ok (.istore 4, 2) := by decide +kernel
theorem dX1_isTooMuch_51 : decode cX1_isTooMuch 51 = .ok (.iload_n 3, 1) := by decide +kernel
theorem dX1_isTooMuch_52 : decode cX1_isTooMuch 52 = .ok (.ifCond .eq 21, 3) := by decide +kernel
theorem dX1_isTooMuch_55 : decode cX1_isTooMuch 55 = .ok (.iload 4, 2) := by decide +kernel
theorem dX1_isTooMuch_57 : decode cX1_isTooMuch 57 = .ok (.ifCond .eq 16, 3) := by decide +kernel
theorem dX1_isTooMuch_60 : decode cX1_isTooMuch 60 = .ok (.aload_n 0, 1) := by decide +kernel
theorem dX1_isTooMuch_61 : decode cX1_isTooMuch 61 = .ok (.getfield 21, 3) := by decide +kernel
theorem dX1_isTooMuch_64 : decode cX1_isTooMuch 64 = .ok (.iload_n 1, 1) := by decide +kernel
theorem dX1_isTooMuch_65 : decode cX1_isTooMuch 65 = .ok (.baload, 1) := by decide +kernel
theorem dX1_isTooMuch_66 : decode cX1_isTooMuch 66 = .ok (.ifCond .ne 7, 3) := by decide +kernel
theorem dX1_isTooMuch_69 : decode cX1_isTooMuch 69 = .ok (.iconst 1, 1) := by decide +kernel
theorem dX1_isTooMuch_70 : decode cX1_isTooMuch 70 = .ok (.goto 4, 3) := by decide +kernel
theorem dX1_isTooMuch_73 : decode cX1_isTooMuch 73 = .ok (.iconst 0, 1) := by decide +kernel
theorem dX1_isTooMuch_74 : decode cX1_isTooMuch 74 = .ok (.ireturn, 1) := by decide +kernel
theorem dX1_begin_0 : decode cX1_begin 0 = .ok (.aload_n 0, 1) := by decide +kernel
theorem dX1_begin_1 : decode cX1_begin 1 = .ok (.getfield 25, 3) := by decide +kernel
theorem dX1_begin_4 : decode cX1_begin 4 = .ok (.ifCond .ne 13, 3) := by decide +kernel
theorem dX1_begin_7 : decode cX1_begin 7 = .ok (.aload_n 0, 1) := by decide +kernel
theorem dX1_begin_8 : decode cX1_begin 8 = .ok (.sipush 480, 3) := by decide +kernel
theorem dX1_begin_11 : decode cX1_begin 11 = .ok (.putfield 38, 3) := by decide +kernel
theorem dX1_begin_14 : decode cX1_begin 14 = .ok (.goto 8, 3) := by decide +kernel
theorem dX1_begin_17 : decode cX1_begin 17 = .ok (.aload_n 0, 1) := by decide +kernel
theorem dX1_begin_18 : decode cX1_begin 18 = .ok (.iload_n 1, 1) := by decide +kernel
theorem dX1_begin_19 : decode cX1_begin 19 = .ok (.invokevirtual 53, 3) := by decide +kernel
theorem dX1_begin_22 : decode cX1_begin 22 = .ok (.return_, 1) := by decide +kernel
theorem dX1_goOn_0 : decode cX1_goOn 0 = .ok (.aload_n 0, 1) := by decide +kernel
theorem dX1_goOn_1 : decode cX1_goOn 1 = .ok (.getfield 29, 3) := by decide +kernel
theorem dX1_goOn_4 : decode cX1_goOn 4 = .ok (.iconst 1, 1) := by decide +kernel
theorem dX1_goOn_5 : decode cX1_goOn 5 = .ok (.isub, 1) := by decide +kernel
theorem dX1_goOn_6 : decode cX1_goOn 6 = .ok (.istore_n 2, 1) := by decide +kernel
theorem dX1_goOn_7 : decode cX1_goOn 7 = .ok (.iload_n 2, 1) := by decide +kernel
theorem dX1_goOn_8 : decode cX1_goOn 8 = .ok (.ifCond .lt 22, 3) := by decide +kernel
theorem dX1_goOn_11 : decode cX1_goOn 11 = .ok (.aload_n 0, 1) := by decide +kernel
theorem dX1_goOn_12 : decode cX1_goOn 12 = .ok (.invokevirtual 57, 3) := by decide +kernel
theorem dX1_goOn_15 : decode cX1_goOn 15 = .ok (.ifCond .ne 15, 3) := by decide +kernel
theorem dX1_goOn_18 : decode cX1_goOn 18 = .ok (.aload_n 0, 1) := by decide +kernel
theorem dX1_goOn_19 : decode cX1_goOn 19 = .ok (.iload_n 2, 1) := by decide +kernel
theorem dX1_goOn_20 : decode cX1_goOn 20 = .ok (.iload_n 1, 1) := by decide +kernel
theorem dX1_goOn_21 : decode cX1_goOn 21 = .ok (.invokevirtual 61, 3) := by decide +kernel
theorem dX1_goOn_24 : decode cX1_goOn 24 = .ok (.iinc 2 (-1), 3) := by decide +kernel
theorem dX1_goOn_27 : decode cX1_goOn 27 = .ok (.goto (-20), 3) := by decide +kernel
theorem dX1_goOn_30 : decode cX1_goOn 30 = .ok (.aload_n 0, 1) := by decide +kernel
theorem dX1_goOn_31 : decode cX1_goOn 31 = .ok (.invokevirtual 57, 3) := by decide +kernel
theorem dX1_goOn_34 : decode cX1_goOn 34 = .ok (.ifCond .ne 11, 3) := by decide +kernel
theorem dX1_goOn_37 : decode cX1_goOn 37 = .ok (.aload_n 0, 1) := by decide +kernel
theorem dX1_goOn_38 : decode cX1_goOn 38 = .ok (.aload_n 0, 1) := by decide +kernel
theorem dX1_goOn_39 : decode cX1_goOn 39 = .ok (.invokevirtual 65, 3) := by decide +kernel
theorem dX1_goOn_42 : decode cX1_goOn 42 = .ok (.putfield 38, 3) := by decide +kernel
theorem dX1_goOn_45 : decode cX1_goOn 45 = .ok (.return_, 1) := by decide +kernel
theorem dX1_isWaiting_0 : decode cX1_isWaiting 0 = .ok (.iconst 0, 1) := by decide +kernel
theorem dX1_isWaiting_1 : decode cX1_isWaiting 1 = .ok (.istore_n 1, 1) := by decide +kernel
theorem dX1_isWaiting_2 : decode cX1_isWaiting 2 = .ok (.iload_n 1, 1) := by decide +kernel
theorem dX1_isWaiting_3 : decode cX1_isWaiting 3 = .ok (.aload_n 0, 1) := by decide +kernel
theorem dX1_isWaiting_4 : decode cX1_isWaiting 4 = .ok (.getfield 25, 3) := by decide +kernel
theorem dX1_isWaiting_7 : decode cX1_isWaiting 7 = .ok (.if_icmp .ge 27, 3) := by decide +kernel
theorem dX1_isWaiting_10 : decode cX1_isWaiting 10 = .ok (.aload_n 0, 1) := by decide +kernel
theorem dX1_isWaiting_11 : decode cX1_isWaiting 11 = .ok (.iload_n 1, 1) := by decide +kernel
theorem dX1_isWaiting_12 : decode cX1_isWaiting 12 = .ok (.invokevirtual 69, 3) := by decide +kernel
theorem dX1_isWaiting_15 : decode cX1_isWaiting 15 = .ok (.ifCond .eq 13, 3) := by decide +kernel
theorem dX1_isWaiting_18 : decode cX1_isWaiting 18 = .ok (.aload_n 0, 1) := by decide +kernel
theorem dX1_isWaiting_19 : decode cX1_isWaiting 19 = .ok (.iload_n 1, 1) := by decide +kernel
theorem dX1_isWaiting_20 : decode cX1_isWaiting 20 = .ok (.invokevirtual 73, 3) := by decide +kernel
theorem dX1_isWaiting_23 : decode cX1_isWaiting 23 = .ok (.ifCond .ne 5, 3) := by decide +kernel
theorem dX1_isWaiting_26 : decode cX1_isWaiting 26 = .ok (.iconst 1, 1) := by decide +kernel
theorem dX1_isWaiting_27 : decode cX1_isWaiting 27 = .ok (.ireturn, 1) := by decide +kernel
theorem dX1_isWaiting_28 : decode cX1_isWaiting 28 = .ok (.iinc 1 1, 3) := by decide +kernel
theorem dX1_isWaiting_31 : decode cX1_isWaiting 31 = .ok (.goto (-29), 3) := by decide +kernel
theorem dX1_isWaiting_34 : decode cX1_isWaiting 34 = .ok (.iconst 0, 1) := by decide +kernel
theorem dX1_isWaiting_35 : decode cX1_isWaiting 35 = .ok (.ireturn, 1) := by decide +kernel
theorem dX1_startGroup_0 : decode cX1_startGroup 0 = .ok (.aload_n 0, 1) := by decide +kernel
theorem dX1_startGroup_1 : decode cX1_startGroup 1 = .ok (.iload_n 1, 1) := by decide +kernel
theorem dX1_startGroup_2 : decode cX1_startGroup 2 = .ok (.putfield 29, 3) := by decide +kernel
theorem dX1_startGroup_5 : decode cX1_startGroup 5 = .ok (.aload_n 0, 1) := by decide +kernel
theorem dX1_startGroup_6 : decode cX1_startGroup 6 = .ok (.iload_n 2, 1) := by decide +kernel
theorem dX1_startGroup_7 : decode cX1_startGroup 7 = .ok (.putfield 32, 3) := by decide +kernel
theorem dX1_startGroup_10 : decode cX1_startGroup 10 = .ok (.iconst 0, 1) := by decide +kernel
theorem dX1_startGroup_11 : decode cX1_startGroup 11 = .ok (.istore_n 3, 1) := by decide +kernel
theorem dX1_startGroup_12 : decode cX1_startGroup 12 = .ok (.iload_n 3, 1) := by decide +kernel
theorem dX1_startGroup_13 : decode cX1_startGroup 13 = .ok (.aload_n 0, 1) := by decide +kernel
theorem dX1_startGroup_14 : decode cX1_startGroup 14 = .ok (.getfield 25, 3) := by decide +kernel
theorem dX1_startGroup_17 : decode cX1_startGroup 17 = .ok (.if_icmp .ge 35, 3) := by decide +kernel
theorem dX1_startGroup_20 : decode cX1_startGroup 20 = .ok (.aload_n 0, 1) := by decide +kernel
theorem dX1_startGroup_21 : decode cX1_startGroup 21 = .ok (.getfield 15, 3) := by decide +kernel
theorem dX1_startGroup_24 : decode cX1_startGroup 24 = .ok (.iload_n 3, 1) := by decide +kernel
theorem dX1_startGroup_25 : decode cX1_startGroup 25 = .ok (.iaload, 1) := by decide +kernel
theorem dX1_startGroup_26 : decode cX1_startGroup 26 = .ok (.iload_n 1, 1) := by decide +kernel
theorem dX1_startGroup_27 : decode cX1_startGroup 27 = .ok (.if_icmp .ne 19, 3) := by decide +kernel
theorem dX1_startGroup_30 : decode cX1_startGroup 30 = .ok (.aload_n 0, 1) := by decide +kernel
theorem dX1_startGroup_31 : decode cX1_startGroup 31 = .ok (.iload_n 3, 1) := by decide +kernel
theorem dX1_startGroup_32 : decode cX1_startGroup 32 = .ok (.invokevirtual 73, 3) := by decide +kernel
theorem dX1_startGroup_35 : decode cX1_startGroup 35 = .ok (.ifCond .ne 11, 3) := by decide +kernel
theorem dX1_startGroup_38 : decode cX1_startGroup 38 = .ok (.aload_n 0, 1) := by decide +kernel
theorem dX1_startGroup_39 : decode cX1_startGroup 39 = .ok (.getfield 18, 3) := by decide +kernel
theorem dX1_startGroup_42 : decode cX1_startGroup 42 = .ok (.iload_n 3, 1) := by decide +kernel
theorem dX1_startGroup_43 : decode cX1_startGroup 43 = .ok (.bipush 100, 2) := by decide +kernel
theorem dX1_startGroup_45 : decode cX1_startGroup 45 = .ok (.iastore, 1) := by decide +kernel
theorem dX1_startGroup_46 : decode cX1_startGroup 46 = .ok (.iinc 3 1, 3) := by decide +kernel
theorem dX1_startGroup_49 : decode cX1_startGroup 49 = .ok (.goto (-37), 3) := by decide +kernel
theorem dX1_startGroup_52 : decode cX1_startGroup 52 = .ok (.return_, 1) := by decide +kernel
theorem dX1_takeAnswer_0 : decode cX1_takeAnswer 0 = .ok (.aload_n 0, 1) := by decide +kernel
theorem dX1_takeAnswer_1 : decode cX1_takeAnswer 1 = .ok (.getfield 18, 3) := by decide +kernel
theorem dX1_takeAnswer_4 : decode cX1_takeAnswer 4 = .ok (.iload_n 1, 1) := by decide +kernel
theorem dX1_takeAnswer_5 : decode cX1_takeAnswer 5 = .ok (.iload_n 2, 1) := by decide +kernel
theorem dX1_takeAnswer_6 : decode cX1_takeAnswer 6 = .ok (.iastore, 1) := by decide +kernel
theorem dX1_takeAnswer_7 : decode cX1_takeAnswer 7 = .ok (.iload_n 2, 1) := by decide +kernel
theorem dX1_takeAnswer_8 : decode cX1_takeAnswer 8 = .ok (.sipush 180, 3) := by decide +kernel
theorem dX1_takeAnswer_11 : decode cX1_takeAnswer 11 = .ok (.if_icmp .ne 4, 3) := by decide +kernel
theorem dX1_takeAnswer_14 : decode cX1_takeAnswer 14 = .ok (.return_, 1) := by decide +kernel
theorem dX1_takeAnswer_15 : decode cX1_takeAnswer 15 = .ok (.iload_n 2, 1) := by decide +kernel
theorem dX1_takeAnswer_16 : decode cX1_takeAnswer 16 = .ok (.sipush 300, 3) := by decide +kernel
theorem dX1_takeAnswer_19 : decode cX1_takeAnswer 19 = .ok (.if_icmp .ge 21, 3) := by decide +kernel
theorem dX1_takeAnswer_22 : decode cX1_takeAnswer 22 = .ok (.aload_n 0, 1) := by decide +kernel
theorem dX1_takeAnswer_23 : decode cX1_takeAnswer 23 = .ok (.iload_n 1, 1) := by decide +kernel
theorem dX1_takeAnswer_24 : decode cX1_takeAnswer 24 = .ok (.putfield 35, 3) := by decide +kernel
theorem dX1_takeAnswer_27 : decode cX1_takeAnswer 27 = .ok (.aload_n 0, 1) := by decide +kernel
theorem dX1_takeAnswer_28 : decode cX1_takeAnswer 28 = .ok (.invokevirtual 76, 3) := by decide +kernel
theorem dX1_takeAnswer_31 : decode cX1_takeAnswer 31 = .ok (.pop, 1) := by decide +kernel
theorem dX1_takeAnswer_32 : decode cX1_takeAnswer 32 = .ok (.aload_n 0, 1) := by decide +kernel
theorem dX1_takeAnswer_33 : decode cX1_takeAnswer 33 = .ok (.iload_n 2, 1) := by decide +kernel
theorem dX1_takeAnswer_34 : decode cX1_takeAnswer 34 = .ok (.putfield 38, 3) := by decide +kernel
theorem dX1_takeAnswer_37 : decode cX1_takeAnswer 37 = .ok (.goto 31, 3) := by decide +kernel
theorem dX1_takeAnswer_40 : decode cX1_takeAnswer 40 = .ok (.iload_n 2, 1) := by decide +kernel
theorem dX1_takeAnswer_41 : decode cX1_takeAnswer 41 = .ok (.sipush 600, 3) := by decide +kernel
theorem dX1_takeAnswer_44 : decode cX1_takeAnswer 44 = .ok (.if_icmp .lt 19, 3) := by decide +kernel
theorem dX1_takeAnswer_47 : decode cX1_takeAnswer 47 = .ok (.aload_n 0, 1) := by decide +kernel
theorem dX1_takeAnswer_48 : decode cX1_takeAnswer 48 = .ok (.invokevirtual 76, 3) := by decide +kernel
theorem dX1_takeAnswer_51 : decode cX1_takeAnswer 51 = .ok (.pop, 1) := by decide +kernel
theorem dX1_takeAnswer_52 : decode cX1_takeAnswer 52 = .ok (.aload_n 0, 1) := by decide +kernel
theorem dX1_takeAnswer_53 : decode cX1_takeAnswer 53 = .ok (.aload_n 0, 1) := by decide +kernel
theorem dX1_takeAnswer_54 : decode cX1_takeAnswer 54 = .ok (.invokevirtual 65, 3) := by decide +kernel
theorem dX1_takeAnswer_57 : decode cX1_takeAnswer 57 = .ok (.putfield 38, 3) := by decide +kernel
theorem dX1_takeAnswer_60 : decode cX1_takeAnswer 60 = .ok (.goto 8, 3) := by decide +kernel
theorem dX1_takeAnswer_63 : decode cX1_takeAnswer 63 = .ok (.aload_n 0, 1) := by decide +kernel
theorem dX1_takeAnswer_64 : decode cX1_takeAnswer 64 = .ok (.iload_n 3, 1) := by decide +kernel
theorem dX1_takeAnswer_65 : decode cX1_takeAnswer 65 = .ok (.invokevirtual 53, 3) := by decide +kernel
theorem dX1_takeAnswer_68 : decode cX1_takeAnswer 68 = .ok (.return_, 1) := by decide +kernel
theorem dX1_cancelAll_0 : decode cX1_cancelAll 0 = .ok (.aload_n 0, 1) := by decide +kernel
theorem dX1_cancelAll_1 : decode cX1_cancelAll 1 = .ok (.invokevirtual 76, 3) := by decide +kernel
theorem dX1_cancelAll_4 : decode cX1_cancelAll 4 = .ok (.istore_n 1, 1) := by decide +kernel
theorem dX1_cancelAll_5 : decode cX1_cancelAll 5 = .ok (.aload_n 0, 1) := by decide +kernel
theorem dX1_cancelAll_6 : decode cX1_cancelAll 6 = .ok (.iconst 1, 1) := by decide +kernel
theorem dX1_cancelAll_7 : decode cX1_cancelAll 7 = .ok (.putfield 41, 3) := by decide +kernel
theorem dX1_cancelAll_10 : decode cX1_cancelAll 10 = .ok (.aload_n 0, 1) := by decide +kernel
theorem dX1_cancelAll_11 : decode cX1_cancelAll 11 = .ok (.sipush 487, 3) := by decide +kernel
theorem dX1_cancelAll_14 : decode cX1_cancelAll 14 = .ok (.putfield 38, 3) := by decide +kernel
theorem dX1_cancelAll_17 : decode cX1_cancelAll 17 = .ok (.iload_n 1, 1) := by decide +kernel
theorem dX1_cancelAll_18 : decode cX1_cancelAll 18 = .ok (.ireturn, 1) := by decide +kernel
theorem dX1_endOpen_0 : decode cX1_endOpen 0 = .ok (.iconst 0, 1) := by decide +kernel
theorem dX1_endOpen_1 : decode cX1_endOpen 1 = .ok (.istore_n 1, 1) := by decide +kernel
theorem dX1_endOpen_2 : decode cX1_endOpen 2 = .ok (.iconst 0, 1) := by decide +kernel
theorem dX1_endOpen_3 : decode cX1_endOpen 3 = .ok (.istore_n 2, 1) := by decide +kernel
theorem dX1_endOpen_4 : decode cX1_endOpen 4 = .ok (.iload_n 2, 1) := by decide +kernel
theorem dX1_endOpen_5 : decode cX1_endOpen 5 = .ok (.aload_n 0, 1) := by decide +kernel
theorem dX1_endOpen_6 : decode cX1_endOpen 6 = .ok (.getfield 25, 3) := by decide +kernel
theorem dX1_endOpen_9 : decode cX1_endOpen 9 = .ok (.if_icmp .ge 29, 3) := by decide +kernel
theorem dX1_endOpen_12 : decode cX1_endOpen 12 = .ok (.aload_n 0, 1) := by decide +kernel
theorem dX1_endOpen_13 : decode cX1_endOpen 13 = .ok (.iload_n 2, 1) := by decide +kernel
theorem dX1_endOpen_14 : decode cX1_endOpen 14 = .ok (.invokevirtual 73, 3) := by decide +kernel
theorem dX1_endOpen_17 : decode cX1_endOpen 17 = .ok (.ifCond .ne 15, 3) := by decide +kernel
theorem dX1_endOpen_20 : decode cX1_endOpen 20 = .ok (.aload_n 0, 1) := by decide +kernel
theorem dX1_endOpen_21 : decode cX1_endOpen 21 = .ok (.getfield 18, 3) := by decide +kernel
theorem dX1_endOpen_24 : decode cX1_endOpen 24 = .ok (.iload_n 2, 1) := by decide +kernel
theorem dX1_endOpen_25 : decode cX1_endOpen 25 = .ok (.sipush 487, 3) := by decide +kernel
theorem dX1_endOpen_28 : decode cX1_endOpen 28 = .ok (.iastore, 1) := by decide +kernel
theorem dX1_endOpen_29 : decode cX1_endOpen 29 = .ok (.iinc 1 1, 3) := by decide +kernel
theorem dX1_endOpen_32 : decode cX1_endOpen 32 = .ok (.iinc 2 1, 3) := by decide +kernel
theorem dX1_endOpen_35 : decode cX1_endOpen 35 = .ok (.goto (-31), 3) := by decide +kernel
theorem dX1_endOpen_38 : decode cX1_endOpen 38 = .ok (.iload_n 1, 1) := by decide +kernel
theorem dX1_endOpen_39 : decode cX1_endOpen 39 = .ok (.ireturn, 1) := by decide +kernel
theorem dX1_endsWithTick_0 : decode cX1_endsWithTick 0 = .ok (.aload_n 0, 1) := by decide +kernel
theorem dX1_endsWithTick_1 : decode cX1_endsWithTick 1 = .ok (.getfield 38, 3) := by decide +kernel
theorem dX1_endsWithTick_4 : decode cX1_endsWithTick 4 = .ok (.iconst (-1), 1) := by decide +kernel
theorem dX1_endsWithTick_5 : decode cX1_endsWithTick 5 = .ok (.if_icmp .ne 14, 3) := by decide +kernel
theorem dX1_endsWithTick_8 : decode cX1_endsWithTick 8 = .ok (.iload_n 1, 1) := by decide +kernel
theorem dX1_endsWithTick_9 : decode cX1_endsWithTick 9 = .ok (.aload_n 0, 1) := by decide +kernel
theorem dX1_endsWithTick_10 : decode cX1_endsWithTick 10 = .ok (.getfield 32, 3) := by decide +kernel
theorem dX1_endsWithTick_13 : decode cX1_endsWithTick 13 = .ok (.isub, 1) := by decide +kernel
theorem dX1_endsWithTick_14 : decode cX1_endsWithTick 14 = .ok (.bipush 10, 2) := by decide +kernel
theorem dX1_endsWithTick_16 : decode cX1_endsWithTick 16 = .ok (.if_icmp .ge 5, 3) := by decide +kernel
theorem dX1_endsWithTick_19 : decode cX1_endsWithTick 19 = .ok (.iconst 0, 1) := by decide +kernel
theorem dX1_endsWithTick_20 : decode cX1_endsWithTick 20 = .ok (.ireturn, 1) := by decide +kernel
theorem dX1_endsWithTick_21 : decode cX1_endsWithTick 21 = .ok (.iconst 0, 1) := by decide +kernel
theorem dX1_endsWithTick_22 : decode cX1_endsWithTick 22 = .ok (.istore_n 2, 1) := by decide +kernel
theorem dX1_endsWithTick_23 : decode cX1_endsWithTick 23 = .ok (.iload_n 2, 1) := by decide +kernel
theorem dX1_endsWithTick_24 : decode cX1_endsWithTick 24 = .ok (.aload_n 0, 1) := by decide +kernel
theorem dX1_endsWithTick_25 : decode cX1_endsWithTick 25 = .ok (.getfield 25, 3) := by decide +kernel
theorem dX1_endsWithTick_28 : decode cX1_endsWithTick 28 = .ok (.if_icmp .ge 34, 3) := by decide +kernel
theorem dX1_endsWithTick_31 : decode cX1_endsWithTick 31 = .ok (.aload_n 0, 1) := by decide +kernel
theorem dX1_endsWithTick_32 : decode cX1_endsWithTick 32 = .ok (.iload_n 2, 1) := by decide +kernel
theorem dX1_endsWithTick_33 : decode cX1_endsWithTick 33 = .ok (.invokevirtual 69, 3) := by decide +kernel
theorem dX1_endsWithTick_36 : decode cX1_endsWithTick 36 = .ok (.ifCond .eq 20, 3) := by decide +kernel
theorem dX1_endsWithTick_39 : decode cX1_endsWithTick 39 = .ok (.aload_n 0, 1) := by decide +kernel
theorem dX1_endsWithTick_40 : decode cX1_endsWithTick 40 = .ok (.iload_n 2, 1) := by decide +kernel
theorem dX1_endsWithTick_41 : decode cX1_endsWithTick 41 = .ok (.invokevirtual 73, 3) := by decide +kernel
theorem dX1_endsWithTick_44 : decode cX1_endsWithTick 44 = .ok (.ifCond .ne 12, 3) := by decide +kernel
theorem dX1_endsWithTick_47 : decode cX1_endsWithTick 47 = .ok (.aload_n 0, 1) := by decide +kernel
theorem dX1_endsWithTick_48 : decode cX1_endsWithTick 48 = .ok (.getfield 18, 3) := by decide +kernel
theorem dX1_endsWithTick_51 : decode cX1_endsWithTick 51 = .ok (.iload_n 2, 1) := by decide +kernel
theorem dX1_endsWithTick_52 : decode cX1_endsWithTick 52 = .ok (.sipush 408, 3) := by decide +kernel
theorem dX1_endsWithTick_55 : decode cX1_endsWithTick 55 = .ok (.iastore, 1) := by decide +kernel
theorem dX1_endsWithTick_56 : decode cX1_endsWithTick 56 = .ok (.iinc 2 1, 3) := by decide +kernel
theorem dX1_endsWithTick_59 : decode cX1_endsWithTick 59 = .ok (.goto (-36), 3) := by decide +kernel
theorem dX1_endsWithTick_62 : decode cX1_endsWithTick 62 = .ok (.aload_n 0, 1) := by decide +kernel
theorem dX1_endsWithTick_63 : decode cX1_endsWithTick 63 = .ok (.iload_n 1, 1) := by decide +kernel
theorem dX1_endsWithTick_64 : decode cX1_endsWithTick 64 = .ok (.invokevirtual 53, 3) := by decide +kernel
theorem dX1_endsWithTick_67 : decode cX1_endsWithTick 67 = .ok (.aload_n 0, 1) := by decide +kernel
theorem dX1_endsWithTick_68 : decode cX1_endsWithTick 68 = .ok (.getfield 38, 3) := by decide +kernel
theorem dX1_endsWithTick_71 : decode cX1_endsWithTick 71 = .ok (.iconst (-1), 1) := by decide +kernel
theorem dX1_endsWithTick_72 : decode cX1_endsWithTick 72 = .ok (.if_icmp .eq 7, 3) := by decide +kernel
theorem dX1_endsWithTick_75 : decode cX1_endsWithTick 75 = .ok (.iconst 1, 1) := by decide +kernel
theorem dX1_endsWithTick_76 : decode cX1_endsWithTick 76 = .ok (.goto 4, 3) := by decide +kernel
theorem dX1_endsWithTick_79 : decode cX1_endsWithTick 79 = .ok (.iconst 0, 1) := by decide +kernel
theorem dX1_endsWithTick_80 : decode cX1_endsWithTick 80 = .ok (.ireturn, 1) := by decide +kernel
theorem dX1_bestEnd_0 : decode cX1_bestEnd 0 = .ok (.iconst (-1), 1) := by decide +kernel
theorem dX1_bestEnd_1 : decode cX1_bestEnd 1 = .ok (.istore_n 1, 1) := by decide +kernel
theorem dX1_bestEnd_2 : decode cX1_bestEnd 2 = .ok (.iconst (-1), 1) := by decide +kernel
theorem dX1_bestEnd_3 : decode cX1_bestEnd 3 = .ok (.istore_n 2, 1) := by decide +kernel
theorem dX1_bestEnd_4 : decode cX1_bestEnd 4 = .ok (.iconst 0, 1) := by decide +kernel
theorem dX1_bestEnd_5 : decode cX1_bestEnd 5 = .ok (.istore_n 3, 1) := by decide +kernel
theorem dX1_bestEnd_6 : decode cX1_bestEnd 6 = .ok (.iload_n 3, 1) := by decide +kernel
theorem dX1_bestEnd_7 : decode cX1_bestEnd 7 = .ok (.aload_n 0, 1) := by decide +kernel
theorem dX1_bestEnd_8 : decode cX1_bestEnd 8 = .ok (.getfield 25, 3) := by decide +kernel
theorem dX1_bestEnd_11 : decode cX1_bestEnd 11 = .ok (.if_icmp .ge 49, 3) := by decide +kernel
theorem dX1_bestEnd_14 : decode cX1_bestEnd 14 = .ok (.aload_n 0, 1) := by decide +kernel
theorem dX1_bestEnd_15 : decode cX1_bestEnd 15 = .ok (.getfield 18, 3) := by decide +kernel
theorem dX1_bestEnd_18 : decode cX1_bestEnd 18 = .ok (.iload_n 3, 1) := by decide +kernel
theorem dX1_bestEnd_19 : decode cX1_bestEnd 19 = .ok (.iaload, 1) := by decide +kernel
theorem dX1_bestEnd_20 : decode cX1_bestEnd 20 = .ok (.istore 4, 2) := by decide +kernel
theorem dX1_bestEnd_22 : decode cX1_bestEnd 22 = .ok (.iload 4, 2) := by decide +kernel
theorem dX1_bestEnd_24 : decode cX1_bestEnd 24 = .ok (.sipush 487, 3) := by decide +kernel
theorem dX1_bestEnd_27 : decode cX1_bestEnd 27 = .ok (.if_icmp .eq 27, 3) := by decide +kernel
theorem dX1_bestEnd_30 : decode cX1_bestEnd 30 = .ok (.iload_n 1, 1) := by decide +kernel
theorem dX1_bestEnd_31 : decode cX1_bestEnd 31 = .ok (.iconst (-1), 1) := by decide +kernel
theorem dX1_bestEnd_32 : decode cX1_bestEnd 32 = .ok (.if_icmp .ne 8, 3) := by decide +kernel
theorem dX1_bestEnd_35 : decode cX1_bestEnd 35 = .ok (.iload 4, 2) := by decide +kernel
theorem dX1_bestEnd_37 : decode cX1_bestEnd 37 = .ok (.goto 9, 3) := by decide +kernel
theorem dX1_bestEnd_40 : decode cX1_bestEnd 40 = .ok (.iload_n 1, 1) := by decide +kernel
theorem dX1_bestEnd_41 : decode cX1_bestEnd 41 = .ok (.iload 4, 2) := by decide +kernel
theorem dX1_bestEnd_43 : decode cX1_bestEnd 43 = .ok (.invokestatic 79, 3) := by decide +kernel
theorem dX1_bestEnd_46 : decode cX1_bestEnd 46 = .ok (.istore_n 1, 1) := by decide +kernel
theorem dX1_bestEnd_47 : decode cX1_bestEnd 47 = .ok (.iload_n 2, 1) := by decide +kernel
theorem dX1_bestEnd_48 : decode cX1_bestEnd 48 = .ok (.iload 4, 2) := by decide +kernel
theorem dX1_bestEnd_50 : decode cX1_bestEnd 50 = .ok (.invokestatic 85, 3) := by decide +kernel
theorem dX1_bestEnd_53 : decode cX1_bestEnd 53 = .ok (.istore_n 2, 1) := by decide +kernel
theorem dX1_bestEnd_54 : decode cX1_bestEnd 54 = .ok (.iinc 3 1, 3) := by decide +kernel
theorem dX1_bestEnd_57 : decode cX1_bestEnd 57 = .ok (.goto (-51), 3) := by decide +kernel
theorem dX1_bestEnd_60 : decode cX1_bestEnd 60 = .ok (.iload_n 2, 1) := by decide +kernel
theorem dX1_bestEnd_61 : decode cX1_bestEnd 61 = .ok (.sipush 600, 3) := by decide +kernel
theorem dX1_bestEnd_64 : decode cX1_bestEnd 64 = .ok (.if_icmp .lt 5, 3) := by decide +kernel
theorem dX1_bestEnd_67 : decode cX1_bestEnd 67 = .ok (.iload_n 2, 1) := by decide +kernel
theorem dX1_bestEnd_68 : decode cX1_bestEnd 68 = .ok (.ireturn, 1) := by decide +kernel
theorem dX1_bestEnd_69 : decode cX1_bestEnd 69 = .ok (.iload_n 1, 1) := by decide +kernel
theorem dX1_bestEnd_70 : decode cX1_bestEnd 70 = .ok (.iconst (-1), 1) := by decide +kernel
theorem dX1_bestEnd_71 : decode cX1_bestEnd 71 = .ok (.if_icmp .ne 9, 3) := by decide +kernel
theorem dX1_bestEnd_74 : decode cX1_bestEnd 74 = .ok (.sipush 487, 3) := by decide +kernel
theorem dX1_bestEnd_77 : decode cX1_bestEnd 77 = .ok (.goto 4, 3) := by decide +kernel
theorem dX1_bestEnd_80 : decode cX1_bestEnd 80 = .ok (.iload_n 1, 1) := by decide +kernel
theorem dX1_bestEnd_81 : decode cX1_bestEnd 81 = .ok (.ireturn, 1) := by decide +kernel
theorem dX1_finalFromSorted_0 : decode cX1_finalFromSorted 0 = .ok (.aload_n 0, 1) := by decide +kernel
theorem dX1_finalFromSorted_1 : decode cX1_finalFromSorted 1 = .ok (.getfield 25, 3) := by decide +kernel
theorem dX1_finalFromSorted_4 : decode cX1_finalFromSorted 4 = .ok (.ifCond .ne 7, 3) := by decide +kernel
theorem dX1_finalFromSorted_7 : decode cX1_finalFromSorted 7 = .ok (.sipush 480, 3) := by decide +kernel
theorem dX1_finalFromSorted_10 : decode cX1_finalFromSorted 10 = .ok (.ireturn, 1) := by decide +kernel
theorem dX1_finalFromSorted_11 : decode cX1_finalFromSorted 11 = .ok (.aload_n 0, 1) := by decide +kernel
theorem dX1_finalFromSorted_12 : decode cX1_finalFromSorted 12 = .ok (.aload_n 1, 1) := by decide +kernel
theorem dX1_finalFromSorted_13 : decode cX1_finalFromSorted 13 = .ok (.invokevirtual 88, 3) := by decide +kernel
theorem dX1_finalFromSorted_16 : decode cX1_finalFromSorted 16 = .ok (.istore_n 2, 1) := by decide +kernel
theorem dX1_finalFromSorted_17 : decode cX1_finalFromSorted 17 = .ok (.aload_n 0, 1) := by decide +kernel
theorem dX1_finalFromSorted_18 : decode cX1_finalFromSorted 18 = .ok (.getfield 41, 3) := by decide +kernel
theorem dX1_finalFromSorted_21 : decode cX1_finalFromSorted 21 = .ok (.ifCond .ne 7, 3) := by decide +kernel
theorem dX1_finalFromSorted_24 : decode cX1_finalFromSorted 24 = .ok (.iload_n 2, 1) := by decide +kernel
theorem dX1_finalFromSorted_25 : decode cX1_finalFromSorted 25 = .ok (.ifCond .ne 7, 3) := by decide +kernel
theorem dX1_finalFromSorted_28 : decode cX1_finalFromSorted 28 = .ok (.sipush 487, 3) := by decide +kernel
theorem dX1_finalFromSorted_31 : decode cX1_finalFromSorted 31 = .ok (.ireturn, 1) := by decide +kernel
theorem dX1_finalFromSorted_32 : decode cX1_finalFromSorted 32 = .ok (.aload_n 1, 1) := by decide +kernel
theorem dX1_finalFromSorted_33 : decode cX1_finalFromSorted 33 = .ok (.iload_n 2, 1) := by decide +kernel
theorem dX1_finalFromSorted_34 : decode cX1_finalFromSorted 34 = .ok (.iconst 1, 1) := by decide +kernel
theorem dX1_finalFromSorted_35 : decode cX1_finalFromSorted 35 = .ok (.isub, 1) := by decide +kernel
theorem dX1_finalFromSorted_36 : decode cX1_finalFromSorted 36 = .ok (.iaload, 1) := by decide +kernel
theorem dX1_finalFromSorted_37 : decode cX1_finalFromSorted 37 = .ok (.sipush 600, 3) := by decide +kernel
theorem dX1_finalFromSorted_40 : decode cX1_finalFromSorted 40 = .ok (.if_icmp .lt 11, 3) := by decide +kernel
theorem dX1_finalFromSorted_43 : decode cX1_finalFromSorted 43 = .ok (.aload_n 1, 1) := by decide +kernel
theorem dX1_finalFromSorted_44 : decode cX1_finalFromSorted 44 = .ok (.iload_n 2, 1) := by decide +kernel
theorem dX1_finalFromSorted_45 : decode cX1_finalFromSorted 45 = .ok (.iconst 1, 1) := by decide +kernel
theorem dX1_finalFromSorted_46 : decode cX1_finalFromSorted 46 = .ok (.isub, 1) := by decide +kernel
theorem dX1_finalFromSorted_47 : decode cX1_finalFromSorted 47 = .ok (.iaload, 1) := by decide +kernel
theorem dX1_finalFromSorted_48 : decode cX1_finalFromSorted 48 = .ok (.goto 6, 3) := by decide +kernel
theorem dX1_finalFromSorted_51 : decode cX1_finalFromSorted 51 = .ok (.aload_n 1, 1) := by decide +kernel
theorem dX1_finalFromSorted_52 : decode cX1_finalFromSorted 52 = .ok (.iconst 0, 1) := by decide +kernel
theorem dX1_finalFromSorted_53 : decode cX1_finalFromSorted 53 = .ok (.iaload, 1) := by decide +kernel
theorem dX1_finalFromSorted_54 : decode cX1_finalFromSorted 54 = .ok (.ireturn, 1) := by decide +kernel
theorem dX1_sortEnds_0 : decode cX1_sortEnds 0 = .ok (.iconst 0, 1) := by decide +kernel
theorem dX1_sortEnds_1 : decode cX1_sortEnds 1 = .ok (.istore_n 2, 1) := by decide +kernel
theorem dX1_sortEnds_2 : decode cX1_sortEnds 2 = .ok (.iconst 0, 1) := by decide +kernel
theorem dX1_sortEnds_3 : decode cX1_sortEnds 3 = .ok (.istore_n 3, 1) := by decide +kernel
theorem dX1_sortEnds_4 : decode cX1_sortEnds 4 = .ok (.iload_n 3, 1) := by decide +kernel
theorem dX1_sortEnds_5 : decode cX1_sortEnds 5 = .ok (.aload_n 0, 1) := by decide +kernel
theorem dX1_sortEnds_6 : decode cX1_sortEnds 6 = .ok (.getfield 25, 3) := by decide +kernel
theorem dX1_sortEnds_9 : decode cX1_sortEnds 9 = .ok (.if_icmp .ge 41, 3) := by decide +kernel
theorem dX1_sortEnds_12 : decode cX1_sortEnds 12 = .ok (.iload_n 2, 1) := by decide +kernel
theorem dX1_sortEnds_13 : decode cX1_sortEnds 13 = .ok (.aload_n 1, 1) := by decide +kernel
theorem dX1_sortEnds_14 : decode cX1_sortEnds 14 = .ok (.arraylength, 1) := by decide +kernel
theorem dX1_sortEnds_15 : decode cX1_sortEnds 15 = .ok (.if_icmp .ge 35, 3) := by decide +kernel
theorem dX1_sortEnds_18 : decode cX1_sortEnds 18 = .ok (.aload_n 0, 1) := by decide +kernel
theorem dX1_sortEnds_19 : decode cX1_sortEnds 19 = .ok (.getfield 18, 3) := by decide +kernel
theorem dX1_sortEnds_22 : decode cX1_sortEnds 22 = .ok (.iload_n 3, 1) := by decide +kernel
theorem dX1_sortEnds_23 : decode cX1_sortEnds 23 = .ok (.iaload, 1) := by decide +kernel
theorem dX1_sortEnds_24 : decode cX1_sortEnds 24 = .ok (.sipush 487, 3) := by decide +kernel
theorem dX1_sortEnds_27 : decode cX1_sortEnds 27 = .ok (.if_icmp .eq 17, 3) := by decide +kernel
theorem dX1_sortEnds_30 : decode cX1_sortEnds 30 = .ok (.aload_n 1, 1) := by decide +kernel
theorem dX1_sortEnds_31 : decode cX1_sortEnds 31 = .ok (.iload_n 2, 1) := by decide +kernel
theorem dX1_sortEnds_32 : decode cX1_sortEnds 32 = .ok (.aload_n 0, 1) := by decide +kernel
theorem dX1_sortEnds_33 : decode cX1_sortEnds 33 = .ok (.getfield 18, 3) := by decide +kernel
theorem dX1_sortEnds_36 : decode cX1_sortEnds 36 = .ok (.iload_n 3, 1) := by decide +kernel
theorem dX1_sortEnds_37 : decode cX1_sortEnds 37 = .ok (.iaload, 1) := by decide +kernel
theorem dX1_sortEnds_38 : decode cX1_sortEnds 38 = .ok (.invokestatic 92, 3) := by decide +kernel
theorem dX1_sortEnds_41 : decode cX1_sortEnds 41 = .ok (.iinc 2 1, 3) := by decide +kernel
theorem dX1_sortEnds_44 : decode cX1_sortEnds 44 = .ok (.iinc 3 1, 3) := by decide +kernel
theorem dX1_sortEnds_47 : decode cX1_sortEnds 47 = .ok (.goto (-43), 3) := by decide +kernel
theorem dX1_sortEnds_50 : decode cX1_sortEnds 50 = .ok (.iload_n 2, 1) := by decide +kernel
theorem dX1_sortEnds_51 : decode cX1_sortEnds 51 = .ok (.ireturn, 1) := by decide +kernel
theorem dX1_insert_0 : decode cX1_insert 0 = .ok (.iload_n 1, 1) := by decide +kernel
theorem dX1_insert_1 : decode cX1_insert 1 = .ok (.istore_n 3, 1) := by decide +kernel
theorem dX1_insert_2 : decode cX1_insert 2 = .ok (.iload_n 3, 1) := by decide +kernel
theorem dX1_insert_3 : decode cX1_insert 3 = .ok (.ifCond .le 26, 3) := by decide +kernel
theorem dX1_insert_6 : decode cX1_insert 6 = .ok (.aload_n 0, 1) := by decide +kernel
theorem dX1_insert_7 : decode cX1_insert 7 = .ok (.iload_n 3, 1) := by decide +kernel
theorem dX1_insert_8 : decode cX1_insert 8 = .ok (.iconst 1, 1) := by decide +kernel
theorem dX1_insert_9 : decode cX1_insert 9 = .ok (.isub, 1) := by decide +kernel
theorem dX1_insert_10 : decode cX1_insert 10 = .ok (.iaload, 1) := by decide +kernel
theorem dX1_insert_11 : decode cX1_insert 11 = .ok (.iload_n 2, 1) := by decide +kernel
theorem dX1_insert_12 : decode cX1_insert 12 = .ok (.if_icmp .le 17, 3) := by decide +kernel
theorem dX1_insert_15 : decode cX1_insert 15 = .ok (.aload_n 0, 1) := by decide +kernel
theorem dX1_insert_16 : decode cX1_insert 16 = .ok (.iload_n 3, 1) := by decide +kernel
theorem dX1_insert_17 : decode cX1_insert 17 = .ok (.aload_n 0, 1) := by decide +kernel
theorem dX1_insert_18 : decode cX1_insert 18 = .ok (.iload_n 3, 1) := by decide +kernel
theorem dX1_insert_19 : decode cX1_insert 19 = .ok (.iconst 1, 1) := by decide +kernel
theorem dX1_insert_20 : decode cX1_insert 20 = .ok (.isub, 1) := by decide +kernel
theorem dX1_insert_21 : decode cX1_insert 21 = .ok (.iaload, 1) := by decide +kernel
theorem dX1_insert_22 : decode cX1_insert 22 = .ok (.iastore, 1) := by decide +kernel
theorem dX1_insert_23 : decode cX1_insert 23 = .ok (.iinc 3 (-1), 3) := by decide +kernel
theorem dX1_insert_26 : decode cX1_insert 26 = .ok (.goto (-24), 3) := by decide +kernel
theorem dX1_insert_29 : decode cX1_insert 29 = .ok (.aload_n 0, 1) := by decide +kernel
theorem dX1_insert_30 : decode cX1_insert 30 = .ok (.iload_n 3, 1) := by decide +kernel
theorem dX1_insert_31 : decode cX1_insert 31 = .ok (.iload_n 2, 1) := by decide +kernel
theorem dX1_insert_32 : decode cX1_insert 32 = .ok (.iastore, 1) := by decide +kernel
theorem dX1_insert_33 : decode cX1_insert 33 = .ok (.return_, 1) := by decide +kernel
theorem dX2_init_0 : decode cX2_init 0 = .ok (.aload_n 0, 1) := by decide +kernel
theorem dX2_init_1 : decode cX2_init 1 = .ok (.invokespecial 3, 3) := by decide +kernel
theorem dX2_init_4 : decode cX2_init 4 = .ok (.aload_n 0, 1) := by decide +kernel
theorem dX2_init_5 : decode cX2_init 5 = .ok (.bipush 6, 2) := by decide +kernel
theorem dX2_init_7 : decode cX2_init 7 = .ok (.anewarray 9, 3) := by decide +kernel
theorem dX2_init_10 : decode cX2_init 10 = .ok (.putfield 11, 3) := by decide +kernel
theorem dX2_init_13 : decode cX2_init 13 = .ok (.aload_n 0, 1) := by decide +kernel
theorem dX2_init_14 : decode cX2_init 14 = .ok (.bipush 20, 2) := by decide +kernel
theorem dX2_init_16 : decode cX2_init 16 = .ok (.anewarray 15, 3) := by decide +kernel
theorem dX2_init_19 : decode cX2_init 19 = .ok (.putfield 17, 3) := by decide +kernel
theorem dX2_init_22 : decode cX2_init 22 = .ok (.aload_n 0, 1) := by decide +kernel
theorem dX2_init_23 : decode cX2_init 23 = .ok (.bipush 10, 2) := by decide +kernel
theorem dX2_init_25 : decode cX2_init 25 = .ok (.newarray .int, 2) := by decide +kernel
theorem dX2_init_27 : decode cX2_init 27 = .ok (.putfield 21, 3) := by decide +kernel
theorem dX2_init_30 : decode cX2_init 30 = .ok (.aload_n 0, 1) := by decide +kernel
theorem dX2_init_31 : decode cX2_init 31 = .ok (.iconst 3, 1) := by decide +kernel
theorem dX2_init_32 : decode cX2_init 32 = .ok (.newarray .int, 2) := by decide +kernel
theorem dX2_init_34 : decode cX2_init 34 = .ok (.putfield 25, 3) := by decide +kernel
theorem dX2_init_37 : decode cX2_init 37 = .ok (.aload_n 0, 1) := by decide +kernel
theorem dX2_init_38 : decode cX2_init 38 = .ok (.bipush 12, 2) := by decide +kernel
theorem dX2_init_40 : decode cX2_init 40 = .ok (.newarray .int, 2) := by decide +kernel
theorem dX2_init_42 : decode cX2_init 42 = .ok (.putfield 28, 3) := by decide +kernel
theorem dX2_init_45 : decode cX2_init 45 = .ok (.aload_n 0, 1) := by decide +kernel
theorem dX2_init_46 : decode cX2_init 46 = .ok (.iconst 0, 1) := by decide +kernel
theorem dX2_init_47 : decode cX2_init 47 = .ok (.putfield 31, 3) := by decide +kernel
theorem dX2_init_50 : decode cX2_init 50 = .ok (.aload_n 0, 1) := by decide +kernel
theorem dX2_init_51 : decode cX2_init 51 = .ok (.iconst 0, 1) := by decide +kernel
theorem dX2_init_52 : decode cX2_init 52 = .ok (.putfield 35, 3) := by decide +kernel
theorem dX2_init_55 : decode cX2_init 55 = .ok (.iconst 0, 1) := by decide +kernel
theorem dX2_init_56 : decode cX2_init 56 = .ok (.istore_n 1, 1) := by decide +kernel
theorem dX2_init_57 : decode cX2_init 57 = .ok (.iload_n 1, 1) := by decide +kernel
theorem dX2_init_58 : decode cX2_init 58 = .ok (.bipush 6, 2) := by decide +kernel
theorem dX2_init_60 : decode cX2_init 60 = .ok (.if_icmp .ge 22, 3) := by decide +kernel
theorem dX2_init_63 : decode cX2_init 63 = .ok (.aload_n 0, 1) := by decide +kernel
theorem dX2_init_64 : decode cX2_init 64 = .ok (.getfield 11, 3) := by decide +kernel
theorem dX2_init_67 : decode cX2_init 67 = .ok (.iload_n 1, 1) := by decide +kernel
theorem dX2_init_68 : decode cX2_init 68 = .ok (.new 9, 3) := by decide +kernel
theorem dX2_init_71 : decode cX2_init 71 = .ok (.dup, 1) := by decide +kernel
theorem dX2_init_72 : decode cX2_init 72 = .ok (.invokespecial 38, 3) := by decide +kernel
theorem dX2_init_75 : decode cX2_init 75 = .ok (.aastore, 1) := by decide +kernel
theorem dX2_init_76 : decode cX2_init 76 = .ok (.iinc 1 1, 3) := by decide +kernel
theorem dX2_init_79 : decode cX2_init 79 = .ok (.goto (-22), 3) := by decide +kernel
theorem dX2_init_82 : decode cX2_init 82 = .ok (.iconst 0, 1) := by decide +kernel
theorem dX2_init_83 : decode cX2_init 83 = .ok (.istore_n 1, 1) := by decide +kernel
theorem dX2_init_84 : decode cX2_init 84 = .ok (.iload_n 1, 1) := by decide +kernel
theorem dX2_init_85 : decode cX2_init 85 = .ok (.bipush 20, 2) := by decide +kernel
theorem dX2_init_87 : decode cX2_init 87 = .ok (.if_icmp .ge 22, 3) := by decide +kernel
theorem dX2_init_90 : decode cX2_init 90 = .ok (.aload_n 0, 1) := by decide +kernel
theorem dX2_init_91 : decode cX2_init 91 = .ok (.getfield 17, 3) := by decide +kernel
theorem dX2_init_94 : decode cX2_init 94 = .ok (.iload_n 1, 1) := by decide +kernel
theorem dX2_init_95 : decode cX2_init 95 = .ok (.new 15, 3) := by decide +kernel
theorem dX2_init_98 : decode cX2_init 98 = .ok (.dup, 1) := by decide +kernel
theorem dX2_init_99 : decode cX2_init 99 = .ok (.invokespecial 39, 3) := by decide +kernel
theorem dX2_init_102 : decode cX2_init 102 = .ok (.aastore, 1) := by decide +kernel
theorem dX2_init_103 : decode cX2_init 103 = .ok (.iinc 1 1, 3) := by decide +kernel
theorem dX2_init_106 : decode cX2_init 106 = .ok (.goto (-22), 3) := by decide +kernel
theorem dX2_init_109 : decode cX2_init 109 = .ok (.return_, 1) := by decide +kernel
theorem dX2_register_0 : decode cX2_register 0 = .ok (.aload_n 0, 1) := by decide +kernel
theorem dX2_register_1 : decode cX2_register 1 = .ok (.iload_n 1, 1) := by decide +kernel
theorem dX2_register_2 : decode cX2_register 2 = .ok (.invokevirtual 40, 3) := by decide +kernel
theorem dX2_register_5 : decode cX2_register 5 = .ok (.astore 6, 2) := by decide +kernel
theorem dX2_register_7 : decode cX2_register 7 = .ok (.iload_n 2, 1) := by decide +kernel
theorem dX2_register_8 : decode cX2_register 8 = .ok (.bipush 15, 2) := by decide +kernel
theorem dX2_register_10 : decode cX2_register 10 = .ok (.invokestatic 44, 3) := by decide +kernel
theorem dX2_register_13 : decode cX2_register 13 = .ok (.ifCond .ne 12, 3) := by decide +kernel
theorem dX2_register_16 : decode cX2_register 16 = .ok (.iload_n 3, 1) := by decide +kernel
theorem dX2_register_17 : decode cX2_register 17 = .ok (.bipush 10, 2) := by decide +kernel
theorem dX2_register_19 : decode cX2_register 19 = .ok (.invokestatic 44, 3) := by decide +kernel
theorem dX2_register_22 : decode cX2_register 22 = .ok (.ifCond .eq 13, 3) := by decide +kernel
theorem dX2_register_25 : decode cX2_register 25 = .ok (.new 48, 3) := by decide +kernel
theorem dX2_register_28 : decode cX2_register 28 = .ok (.dup, 1) := by decide +kernel
theorem dX2_register_29 : decode cX2_register 29 = .ok (.ldc 50, 2) := by decide +kernel
theorem dX2_register_31 : decode cX2_register 31 = .ok (.invokespecial 52, 3) := by decide +kernel
theorem dX2_register_34 : decode cX2_register 34 = .ok (.athrow, 1) := by decide +kernel
theorem dX2_register_35 : decode cX2_register 35 = .ok (.iload 4, 2) := by decide +kernel
theorem dX2_register_37 : decode cX2_register 37 = .ok (.sipush 1000, 3) := by decide +kernel
theorem dX2_register_40 : decode cX2_register 40 = .ok (.invokestatic 44, 3) := by decide +kernel
theorem dX2_register_43 : decode cX2_register 43 = .ok (.ifCond .ne 14, 3) := by decide +kernel
theorem dX2_register_46 : decode cX2_register 46 = .ok (.iload 5, 2) := by decide +kernel
theorem dX2_register_48 : decode cX2_register 48 = .ok (.sipush 10000, 3) := by decide +kernel
theorem dX2_register_51 : decode cX2_register 51 = .ok (.invokestatic 44, 3) := by decide +kernel
theorem dX2_register_54 : decode cX2_register 54 = .ok (.ifCond .eq 13, 3) := by decide +kernel
theorem dX2_register_57 : decode cX2_register 57 = .ok (.new 48, 3) := by decide +kernel
theorem dX2_register_60 : decode cX2_register 60 = .ok (.dup, 1) := by decide +kernel
theorem dX2_register_61 : decode cX2_register 61 = .ok (.ldc 55, 2) := by decide +kernel
theorem dX2_register_63 : decode cX2_register 63 = .ok (.invokespecial 52, 3) := by decide +kernel
theorem dX2_register_66 : decode cX2_register 66 = .ok (.athrow, 1) := by decide +kernel
theorem dX2_register_67 : decode cX2_register 67 = .ok (.iload 5, 2) := by decide +kernel
theorem dX2_register_69 : decode cX2_register 69 = .ok (.aload 6, 2) := by decide +kernel
theorem dX2_register_71 : decode cX2_register 71 = .ok (.getfield 57, 3) := by decide +kernel
theorem dX2_register_74 : decode cX2_register 74 = .ok (.iload_n 2, 1) := by decide +kernel
theorem dX2_register_75 : decode cX2_register 75 = .ok (.iaload, 1) := by decide +kernel
theorem dX2_register_76 : decode cX2_register 76 = .ok (.if_icmp .gt 13, 3) := by decide +kernel
theorem dX2_register_79 : decode cX2_register 79 = .ok (.new 60, 3) := by decide +kernel
theorem dX2_register_82 : decode cX2_register 82 = .ok (.dup, 1) := by decide +kernel
theorem dX2_register_83 : decode cX2_register 83 = .ok (.ldc 62, 2) := by decide +kernel
theorem dX2_register_85 : decode cX2_register 85 = .ok (.invokespecial 64, 3) := by decide +kernel
theorem dX2_register_88 : decode cX2_register 88 = .ok (.athrow, 1) := by decide +kernel
theorem dX2_register_89 : decode cX2_register 89 = .ok (.iload 4, 2) := by decide +kernel
theorem dX2_register_91 : decode cX2_register 91 = .ok (.ifCond .eq 28, 3) := by decide +kernel
theorem dX2_register_94 : decode cX2_register 94 = .ok (.aload 6, 2) := by decide +kernel
theorem dX2_register_96 : decode cX2_register 96 = .ok (.iload_n 2, 1) := by decide +kernel
theorem dX2_register_97 : decode cX2_register 97 = .ok (.aload_n 0, 1) := by decide +kernel
theorem dX2_register_98 : decode cX2_register 98 = .ok (.getfield 35, 3) := by decide +kernel
theorem dX2_register_101 : decode cX2_register 101 = .ok (.invokevirtual 65, 3) := by decide +kernel
theorem dX2_register_104 : decode cX2_register 104 = .ok (.bipush 6, 2) := by decide +kernel
theorem dX2_register_106 : decode cX2_register 106 = .ok (.if_icmp .lt 13, 3) := by decide +kernel
theorem dX2_register_109 : decode cX2_register 109 = .ok (.new 60, 3) := by decide +kernel
theorem dX2_register_112 : decode cX2_register 112 = .ok (.dup, 1) := by decide +kernel
theorem dX2_register_113 : decode cX2_register 113 = .ok (.ldc 69, 2) := by decide +kernel
theorem dX2_register_115 : decode cX2_register 115 = .ok (.invokespecial 64, 3) := by decide +kernel
theorem dX2_register_118 : decode cX2_register 118 = .ok (.athrow, 1) := by decide +kernel
theorem dX2_register_119 : decode cX2_register 119 = .ok (.aload 6, 2) := by decide +kernel
theorem dX2_register_121 : decode cX2_register 121 = .ok (.iload_n 2, 1) := by decide +kernel
theorem dX2_register_122 : decode cX2_register 122 = .ok (.iload_n 3, 1) := by decide +kernel
theorem dX2_register_123 : decode cX2_register 123 = .ok (.aload_n 0, 1) := by decide +kernel
theorem dX2_register_124 : decode cX2_register 124 = .ok (.getfield 35, 3) := by decide +kernel
theorem dX2_register_127 : decode cX2_register 127 = .ok (.iload 4, 2) := by decide +kernel
theorem dX2_register_129 : decode cX2_register 129 = .ok (.iadd, 1) := by decide +kernel
theorem dX2_register_130 : decode cX2_register 130 = .ok (.iload 5, 2) := by decide +kernel
theorem dX2_register_132 : decode cX2_register 132 = .ok (.invokevirtual 71, 3) := by decide +kernel
theorem dX2_register_135 : decode cX2_register 135 = .ok (.aload 6, 2) := by decide +kernel
theorem dX2_register_137 : decode cX2_register 137 = .ok (.aload_n 0, 1) := by decide +kernel
theorem dX2_register_138 : decode cX2_register 138 = .ok (.getfield 35, 3) := by decide +kernel
theorem dX2_register_141 : decode cX2_register 141 = .ok (.invokevirtual 75, 3) := by decide +kernel
theorem dX2_register_144 : decode cX2_register 144 = .ok (.ireturn, 1) := by decide +kernel
theorem dX2_bindings_0 : decode cX2_bindings 0 = .ok (.aload_n 0, 1) := by decide +kernel
theorem dX2_bindings_1 : decode cX2_bindings 1 = .ok (.iload_n 1, 1) := by decide +kernel
theorem dX2_bindings_2 : decode cX2_bindings 2 = .ok (.invokevirtual 40, 3) := by decide +kernel
theorem dX2_bindings_5 : decode cX2_bindings 5 = .ok (.aload_n 0, 1) := by decide +kernel
theorem dX2_bindings_6 : decode cX2_bindings 6 = .ok (.getfield 35, 3) := by decide +kernel
theorem dX2_bindings_9 : decode cX2_bindings 9 = .ok (.invokevirtual 75, 3) := by decide +kernel
theorem dX2_bindings_12 : decode cX2_bindings 12 = .ok (.ireturn, 1) := by decide +kernel
theorem dX2_binding_0 : decode cX2_binding 0 = .ok (.aload_n 0, 1) := by decide +kernel
theorem dX2_binding_1 : decode cX2_binding 1 = .ok (.iload_n 1, 1) := by decide +kernel
theorem dX2_binding_2 : decode cX2_binding 2 = .ok (.invokevirtual 40, 3) := by decide +kernel
theorem dX2_binding_5 : decode cX2_binding 5 = .ok (.astore_n 3, 1) := by decide +kernel
theorem dX2_binding_6 : decode cX2_binding 6 = .ok (.aload_n 3, 1) := by decide +kernel
theorem dX2_binding_7 : decode cX2_binding 7 = .ok (.iload_n 2, 1) := by decide +kernel
theorem dX2_binding_8 : decode cX2_binding 8 = .ok (.aload_n 0, 1) := by decide +kernel
theorem dX2_binding_9 : decode cX2_binding 9 = .ok (.getfield 35, 3) := by decide +kernel
theorem dX2_binding_12 : decode cX2_binding 12 = .ok (.invokevirtual 79, 3) := by decide +kernel
theorem dX2_binding_15 : decode cX2_binding 15 = .ok (.istore 4, 2) := by decide +kernel
theorem dX2_binding_17 : decode cX2_binding 17 = .ok (.iload 4, 2) := by decide +kernel
theorem dX2_binding_19 : decode cX2_binding 19 = .ok (.iconst (-1), 1) := by decide +kernel
theorem dX2_binding_20 : decode cX2_binding 20 = .ok (.if_icmp .ne 13, 3) := by decide +kernel
theorem dX2_binding_23 : decode cX2_binding 23 = .ok (.new 82, 3) := by decide +kernel
theorem dX2_binding_26 : decode cX2_binding 26 = .ok (.dup, 1) := by decide +kernel
theorem dX2_binding_27 : decode cX2_binding 27 = .ok (.ldc 84, 2) := by decide +kernel
theorem dX2_binding_29 : decode cX2_binding 29 = .ok (.invokespecial 86, 3) := by decide +kernel
theorem dX2_binding_32 : decode cX2_binding 32 = .ok (.athrow, 1) := by decide +kernel
theorem dX2_binding_33 : decode cX2_binding 33 = .ok (.bipush 100, 2) := by decide +kernel
theorem dX2_binding_35 : decode cX2_binding 35 = .ok (.iload 4, 2) := by decide +kernel
theorem dX2_binding_37 : decode cX2_binding 37 = .ok (.imul, 1) := by decide +kernel
theorem dX2_binding_38 : decode cX2_binding 38 = .ok (.aload_n 3, 1) := by decide +kernel
theorem dX2_binding_39 : decode cX2_binding 39 = .ok (.getfield 87, 3) := by decide +kernel
theorem dX2_binding_42 : decode cX2_binding 42 = .ok (.iload 4, 2) := by decide +kernel
theorem dX2_binding_44 : decode cX2_binding 44 = .ok (.iaload, 1) := by decide +kernel
theorem dX2_binding_45 : decode cX2_binding 45 = .ok (.iadd, 1) := by decide +kernel
theorem dX2_binding_46 : decode cX2_binding 46 = .ok (.ireturn, 1) := by decide +kernel
theorem dX2_call_0 : decode cX2_call 0 = .ok (.iload_n 1, 1) := by decide +kernel
theorem dX2_call_1 : decode cX2_call 1 = .ok (.iconst 5, 1) := by decide +kernel
theorem dX2_call_2 : decode cX2_call 2 = .ok (.invokestatic 44, 3) := by decide +kernel
theorem dX2_call_5 : decode cX2_call 5 = .ok (.ifCond .eq 13, 3) := by decide +kernel
theorem dX2_call_8 : decode cX2_call 8 = .ok (.new 48, 3) := by decide +kernel
theorem dX2_call_11 : decode cX2_call 11 = .ok (.dup, 1) := by decide +kernel
theorem dX2_call_12 : decode cX2_call 12 = .ok (.ldc 90, 2) := by decide +kernel
theorem dX2_call_14 : decode cX2_call 14 = .ok (.invokespecial 52, 3) := by decide +kernel
theorem dX2_call_17 : decode cX2_call 17 = .ok (.athrow, 1) := by decide +kernel
theorem dX2_call_18 : decode cX2_call 18 = .ok (.aload_n 0, 1) := by decide +kernel
theorem dX2_call_19 : decode cX2_call 19 = .ok (.getfield 31, 3) := by decide +kernel
theorem dX2_call_22 : decode cX2_call 22 = .ok (.bipush 20, 2) := by decide +kernel
theorem dX2_call_24 : decode cX2_call 24 = .ok (.if_icmp .lt 13, 3) := by decide +kernel
theorem dX2_call_27 : decode cX2_call 27 = .ok (.new 60, 3) := by decide +kernel
theorem dX2_call_30 : decode cX2_call 30 = .ok (.dup, 1) := by decide +kernel
theorem dX2_call_31 : decode cX2_call 31 = .ok (.ldc 92, 2) := by decide +kernel
theorem dX2_call_33 : decode cX2_call 33 = .ok (.invokespecial 64, 3) := by decide +kernel
theorem dX2_call_36 : decode cX2_call 36 = .ok (.athrow, 1) := by decide +kernel
theorem dX2_call_37 : decode cX2_call 37 = .ok (.aload_n 0, 1) := by decide +kernel
theorem dX2_call_38 : decode cX2_call 38 = .ok (.getfield 17, 3) := by decide +kernel
theorem dX2_call_41 : decode cX2_call 41 = .ok (.aload_n 0, 1) := by decide +kernel
theorem dX2_call_42 : decode cX2_call 42 = .ok (.getfield 31, 3) := by decide +kernel
theorem dX2_call_45 : decode cX2_call 45 = .ok (.aaload, 1) := by decide +kernel
theorem dX2_call_46 : decode cX2_call 46 = .ok (.astore_n 2, 1) := by decide +kernel
theorem dX2_call_47 : decode cX2_call 47 = .ok (.aload_n 0, 1) := by decide +kernel
theorem dX2_call_48 : decode cX2_call 48 = .ok (.aload_n 2, 1) := by decide +kernel
theorem dX2_call_49 : decode cX2_call 49 = .ok (.iload_n 1, 1) := by decide +kernel
theorem dX2_call_50 : decode cX2_call 50 = .ok (.iconst (-1), 1) := by decide +kernel
theorem dX2_call_51 : decode cX2_call 51 = .ok (.iconst 0, 1) := by decide +kernel
theorem dX2_call_52 : decode cX2_call 52 = .ok (.invokevirtual 94, 3) := by decide +kernel
theorem dX2_call_55 : decode cX2_call 55 = .ok (.aload_n 2, 1) := by decide +kernel
theorem dX2_call_56 : decode cX2_call 56 = .ok (.aload_n 0, 1) := by decide +kernel
theorem dX2_call_57 : decode cX2_call 57 = .ok (.getfield 35, 3) := by decide +kernel
theorem dX2_call_60 : decode cX2_call 60 = .ok (.invokevirtual 98, 3) := by decide +kernel
theorem dX2_call_63 : decode cX2_call 63 = .ok (.aload_n 0, 1) := by decide +kernel
theorem dX2_call_64 : decode cX2_call 64 = .ok (.dup, 1) := by decide +kernel
theorem dX2_call_65 : decode cX2_call 65 = .ok (.getfield 31, 3) := by decide +kernel
theorem dX2_call_68 : decode cX2_call 68 = .ok (.iconst 1, 1) := by decide +kernel
theorem dX2_call_69 : decode cX2_call 69 = .ok (.iadd, 1) := by decide +kernel
theorem dX2_call_70 : decode cX2_call 70 = .ok (.putfield 31, 3) := by decide +kernel
theorem dX2_call_73 : decode cX2_call 73 = .ok (.aload_n 0, 1) := by decide +kernel
theorem dX2_call_74 : decode cX2_call 74 = .ok (.getfield 31, 3) := by decide +kernel
theorem dX2_call_77 : decode cX2_call 77 = .ok (.iconst 1, 1) := by decide +kernel
theorem dX2_call_78 : decode cX2_call 78 = .ok (.isub, 1) := by decide +kernel
theorem dX2_call_79 : decode cX2_call 79 = .ok (.ireturn, 1) := by decide +kernel
theorem dX2_answer_0 : decode cX2_answer 0 = .ok (.aload_n 0, 1) := by decide +kernel
theorem dX2_answer_1 : decode cX2_answer 1 = .ok (.iload_n 1, 1) := by decide +kernel
theorem dX2_answer_2 : decode cX2_answer 2 = .ok (.invokevirtual 102, 3) := by decide +kernel
theorem dX2_answer_5 : decode cX2_answer 5 = .ok (.astore 4, 2) := by decide +kernel
theorem dX2_answer_7 : decode cX2_answer 7 = .ok (.iload_n 2, 1) := by decide +kernel
theorem dX2_answer_8 : decode cX2_answer 8 = .ok (.bipush 9, 2) := by decide +kernel
theorem dX2_answer_10 : decode cX2_answer 10 = .ok (.invokestatic 44, 3) := by decide +kernel
theorem dX2_answer_13 : decode cX2_answer 13 = .ok (.ifCond .ne 10, 3) := by decide +kernel
theorem dX2_answer_16 : decode cX2_answer 16 = .ok (.iload_n 3, 1) := by decide +kernel
theorem dX2_answer_17 : decode cX2_answer 17 = .ok (.invokestatic 106, 3) := by decide +kernel
theorem dX2_answer_20 : decode cX2_answer 20 = .ok (.ifCond .eq 13, 3) := by decide +kernel
theorem dX2_answer_23 : decode cX2_answer 23 = .ok (.new 48, 3) := by decide +kernel
theorem dX2_answer_26 : decode cX2_answer 26 = .ok (.dup, 1) := by decide +kernel
theorem dX2_answer_27 : decode cX2_answer 27 = .ok (.ldc 110, 2) := by decide +kernel
theorem dX2_answer_29 : decode cX2_answer 29 = .ok (.invokespecial 52, 3) := by decide +kernel
theorem dX2_answer_32 : decode cX2_answer 32 = .ok (.athrow, 1) := by decide +kernel
theorem dX2_answer_33 : decode cX2_answer 33 = .ok (.aload 4, 2) := by decide +kernel
theorem dX2_answer_35 : decode cX2_answer 35 = .ok (.iload_n 2, 1) := by decide +kernel
theorem dX2_answer_36 : decode cX2_answer 36 = .ok (.invokevirtual 112, 3) := by decide +kernel
theorem dX2_answer_39 : decode cX2_answer 39 = .ok (.istore 5, 2) := by decide +kernel
theorem dX2_answer_41 : decode cX2_answer 41 = .ok (.iload 5, 2) := by decide +kernel
theorem dX2_answer_43 : decode cX2_answer 43 = .ok (.iconst (-1), 1) := by decide +kernel
theorem dX2_answer_44 : decode cX2_answer 44 = .ok (.if_icmp .ne 13, 3) := by decide +kernel
theorem dX2_answer_47 : decode cX2_answer 47 = .ok (.new 60, 3) := by decide +kernel
theorem dX2_answer_50 : decode cX2_answer 50 = .ok (.dup, 1) := by decide +kernel
theorem dX2_answer_51 : decode cX2_answer 51 = .ok (.ldc 115, 2) := by decide +kernel
theorem dX2_answer_53 : decode cX2_answer 53 = .ok (.invokespecial 64, 3) := by decide +kernel
theorem dX2_answer_56 : decode cX2_answer 56 = .ok (.athrow, 1) := by decide +kernel
theorem dX2_answer_57 : decode cX2_answer 57 = .ok (.aload 4, 2) := by decide +kernel
theorem dX2_answer_59 : decode cX2_answer 59 = .ok (.iload 5, 2) := by decide +kernel
theorem dX2_answer_61 : decode cX2_answer 61 = .ok (.invokevirtual 117, 3) := by decide +kernel
theorem dX2_answer_64 : decode cX2_answer 64 = .ok (.ifCond .ne 13, 3) := by decide +kernel
theorem dX2_answer_67 : decode cX2_answer 67 = .ok (.new 60, 3) := by decide +kernel
theorem dX2_answer_70 : decode cX2_answer 70 = .ok (.dup, 1) := by decide +kernel
theorem dX2_answer_71 : decode cX2_answer 71 = .ok (.ldc 120, 2) := by decide +kernel
theorem dX2_answer_73 : decode cX2_answer 73 = .ok (.invokespecial 64, 3) := by decide +kernel
theorem dX2_answer_76 : decode cX2_answer 76 = .ok (.athrow, 1) := by decide +kernel
theorem dX2_answer_77 : decode cX2_answer 77 = .ok (.aload 4, 2) := by decide +kernel
theorem dX2_answer_79 : decode cX2_answer 79 = .ok (.iload 5, 2) := by decide +kernel
theorem dX2_answer_81 : decode cX2_answer 81 = .ok (.invokevirtual 122, 3) := by decide +kernel
theorem dX2_answer_84 : decode cX2_answer 84 = .ok (.ifCond .ne 18, 3) := by decide +kernel
theorem dX2_answer_87 : decode cX2_answer 87 = .ok (.aload 4, 2) := by decide +kernel
theorem dX2_answer_89 : decode cX2_answer 89 = .ok (.iload 5, 2) := by decide +kernel
theorem dX2_answer_91 : decode cX2_answer 91 = .ok (.iload_n 3, 1) := by decide +kernel
theorem dX2_answer_92 : decode cX2_answer 92 = .ok (.aload_n 0, 1) := by decide +kernel
theorem dX2_answer_93 : decode cX2_answer 93 = .ok (.getfield 35, 3) := by decide +kernel
theorem dX2_answer_96 : decode cX2_answer 96 = .ok (.invokevirtual 125, 3) := by decide +kernel
theorem dX2_answer_99 : decode cX2_answer 99 = .ok (.goto 46, 3) := by decide +kernel
theorem dX2_answer_102 : decode cX2_answer 102 = .ok (.aload 4, 2) := by decide +kernel
theorem dX2_answer_104 : decode cX2_answer 104 = .ok (.iload 5, 2) := by decide +kernel
theorem dX2_answer_106 : decode cX2_answer 106 = .ok (.iload_n 3, 1) := by decide +kernel
theorem dX2_answer_107 : decode cX2_answer 107 = .ok (.invokevirtual 129, 3) := by decide +kernel
theorem dX2_answer_110 : decode cX2_answer 110 = .ok (.ifCond .eq 25, 3) := by decide +kernel
theorem dX2_answer_113 : decode cX2_answer 113 = .ok (.aload 4, 2) := by decide +kernel
theorem dX2_answer_115 : decode cX2_answer 115 = .ok (.getfield 132, 3) := by decide +kernel
theorem dX2_answer_118 : decode cX2_answer 118 = .ok (.iload 5, 2) := by decide +kernel
theorem dX2_answer_120 : decode cX2_answer 120 = .ok (.iconst 1, 1) := by decide +kernel
theorem dX2_answer_121 : decode cX2_answer 121 = .ok (.bastore, 1) := by decide +kernel
theorem dX2_answer_122 : decode cX2_answer 122 = .ok (.aload_n 0, 1) := by decide +kernel
theorem dX2_answer_123 : decode cX2_answer 123 = .ok (.getfield 21, 3) := by decide +kernel
theorem dX2_answer_126 : decode cX2_answer 126 = .ok (.iload_n 2, 1) := by decide +kernel
theorem dX2_answer_127 : decode cX2_answer 127 = .ok (.dup2, 1) := by decide +kernel
theorem dX2_answer_128 : decode cX2_answer 128 = .ok (.iaload, 1) := by decide +kernel
theorem dX2_answer_129 : decode cX2_answer 129 = .ok (.iconst 1, 1) := by decide +kernel
theorem dX2_answer_130 : decode cX2_answer 130 = .ok (.iadd, 1) := by decide +kernel
theorem dX2_answer_131 : decode cX2_answer 131 = .ok (.iastore, 1) := by decide +kernel
theorem dX2_answer_132 : decode cX2_answer 132 = .ok (.goto 13, 3) := by decide +kernel
theorem dX2_answer_135 : decode cX2_answer 135 = .ok (.new 60, 3) := by decide +kernel
theorem dX2_answer_138 : decode cX2_answer 138 = .ok (.dup, 1) := by decide +kernel
theorem dX2_answer_139 : decode cX2_answer 139 = .ok (.ldc 136, 2) := by decide +kernel
theorem dX2_answer_141 : decode cX2_answer 141 = .ok (.invokespecial 64, 3) := by decide +kernel
theorem dX2_answer_144 : decode cX2_answer 144 = .ok (.athrow, 1) := by decide +kernel
theorem dX2_answer_145 : decode cX2_answer 145 = .ok (.aload 4, 2) := by decide +kernel
theorem dX2_answer_147 : decode cX2_answer 147 = .ok (.getfield 138, 3) := by decide +kernel
theorem dX2_answer_150 : decode cX2_answer 150 = .ok (.ireturn, 1) := by decide +kernel
theorem dX2_cancel_0 : decode cX2_cancel 0 = .ok (.aload_n 0, 1) := by decide +kernel
theorem dX2_cancel_1 : decode cX2_cancel 1 = .ok (.iload_n 1, 1) := by decide +kernel
theorem dX2_cancel_2 : decode cX2_cancel 2 = .ok (.invokevirtual 102, 3) := by decide +kernel
theorem dX2_cancel_5 : decode cX2_cancel 5 = .ok (.astore_n 2, 1) := by decide +kernel
theorem dX2_cancel_6 : decode cX2_cancel 6 = .ok (.aload_n 2, 1) := by decide +kernel
theorem dX2_cancel_7 : decode cX2_cancel 7 = .ok (.getfield 138, 3) := by decide +kernel
theorem dX2_cancel_10 : decode cX2_cancel 10 = .ok (.iconst (-1), 1) := by decide +kernel
theorem dX2_cancel_11 : decode cX2_cancel 11 = .ok (.if_icmp .eq 13, 3) := by decide +kernel
theorem dX2_cancel_14 : decode cX2_cancel 14 = .ok (.new 60, 3) := by decide +kernel
theorem dX2_cancel_17 : decode cX2_cancel 17 = .ok (.dup, 1) := by decide +kernel
theorem dX2_cancel_18 : decode cX2_cancel 18 = .ok (.ldc 141, 2) := by decide +kernel
theorem dX2_cancel_20 : decode cX2_cancel 20 = .ok (.invokespecial 64, 3) := by decide +kernel
theorem dX2_cancel_23 : decode cX2_cancel 23 = .ok (.athrow, 1) := by decide +kernel
theorem dX2_cancel_24 : decode cX2_cancel 24 = .ok (.aload_n 2, 1) := by decide +kernel
theorem dX2_cancel_25 : decode cX2_cancel 25 = .ok (.invokevirtual 143, 3) := by decide +kernel
theorem dX2_cancel_28 : decode cX2_cancel 28 = .ok (.ireturn, 1) := by decide +kernel
theorem dX2_pass_0 : decode cX2_pass 0 = .ok (.iload_n 1, 1) := by decide +kernel
theorem dX2_pass_1 : decode cX2_pass 1 = .ok (.iconst 1, 1) := by decide +kernel
theorem dX2_pass_2 : decode cX2_pass 2 = .ok (.if_icmp .lt 9, 3) := by decide +kernel
theorem dX2_pass_5 : decode cX2_pass 5 = .ok (.iload_n 1, 1) := by decide +kernel
theorem dX2_pass_6 : decode cX2_pass 6 = .ok (.bipush 100, 2) := by decide +kernel
theorem dX2_pass_8 : decode cX2_pass 8 = .ok (.if_icmp .le 13, 3) := by decide +kernel
theorem dX2_pass_11 : decode cX2_pass 11 = .ok (.new 48, 3) := by decide +kernel
theorem dX2_pass_14 : decode cX2_pass 14 = .ok (.dup, 1) := by decide +kernel
theorem dX2_pass_15 : decode cX2_pass 15 = .ok (.ldc 147, 2) := by decide +kernel
theorem dX2_pass_17 : decode cX2_pass 17 = .ok (.invokespecial 52, 3) := by decide +kernel
theorem dX2_pass_20 : decode cX2_pass 20 = .ok (.athrow, 1) := by decide +kernel
theorem dX2_pass_21 : decode cX2_pass 21 = .ok (.iconst 0, 1) := by decide +kernel
theorem dX2_pass_22 : decode cX2_pass 22 = .ok (.istore_n 2, 1) := by decide +kernel
theorem dX2_pass_23 : decode cX2_pass 23 = .ok (.iconst 0, 1) := by decide +kernel
theorem dX2_pass_24 : decode cX2_pass 24 = .ok (.istore_n 3, 1) := by decide +kernel
theorem dX2_pass_25 : decode cX2_pass 25 = .ok (.iload_n 3, 1) := by decide +kernel
theorem dX2_pass_26 : decode cX2_pass 26 = .ok (.iload_n 1, 1) := by decide +kernel
theorem dX2_pass_27 : decode cX2_pass 27 = .ok (.if_icmp .ge 26, 3) := by decide +kernel
theorem dX2_pass_30 : decode cX2_pass 30 = .ok (.aload_n 0, 1) := by decide +kernel
theorem dX2_pass_31 : decode cX2_pass 31 = .ok (.dup, 1) := by decide +kernel
theorem dX2_pass_32 : decode cX2_pass 32 = .ok (.getfield 35, 3) := by decide +kernel
theorem dX2_pass_35 : decode cX2_pass 35 = .ok (.iconst 1, 1) := by decide +kernel
theorem dX2_pass_36 : decode cX2_pass 36 = .ok (.iadd, 1) := by decide +kernel
theorem dX2_pass_37 : decode cX2_pass 37 = .ok (.putfield 35, 3) := by decide +kernel
theorem dX2_pass_40 : decode cX2_pass 40 = .ok (.iload_n 2, 1) := by decide +kernel
theorem dX2_pass_41 : decode cX2_pass 41 = .ok (.aload_n 0, 1) := by decide +kernel
theorem dX2_pass_42 : decode cX2_pass 42 = .ok (.invokevirtual 149, 3) := by decide +kernel
theorem dX2_pass_45 : decode cX2_pass 45 = .ok (.iadd, 1) := by decide +kernel
theorem dX2_pass_46 : decode cX2_pass 46 = .ok (.istore_n 2, 1) := by decide +kernel
theorem dX2_pass_47 : decode cX2_pass 47 = .ok (.iinc 3 1, 3) := by decide +kernel
theorem dX2_pass_50 : decode cX2_pass 50 = .ok (.goto (-25), 3) := by decide +kernel
theorem dX2_pass_53 : decode cX2_pass 53 = .ok (.iload_n 2, 1) := by decide +kernel
theorem dX2_pass_54 : decode cX2_pass 54 = .ok (.ireturn, 1) := by decide +kernel
theorem dX2_time_0 : decode cX2_time 0 = .ok (.aload_n 0, 1) := by decide +kernel
theorem dX2_time_1 : decode cX2_time 1 = .ok (.getfield 35, 3) := by decide +kernel
theorem dX2_time_4 : decode cX2_time 4 = .ok (.ireturn, 1) := by decide +kernel
theorem dX2_calls_0 : decode cX2_calls 0 = .ok (.aload_n 0, 1) := by decide +kernel
theorem dX2_calls_1 : decode cX2_calls 1 = .ok (.getfield 31, 3) := by decide +kernel
theorem dX2_calls_4 : decode cX2_calls 4 = .ok (.ireturn, 1) := by decide +kernel
theorem dX2_finalOf_0 : decode cX2_finalOf 0 = .ok (.aload_n 0, 1) := by decide +kernel
theorem dX2_finalOf_1 : decode cX2_finalOf 1 = .ok (.iload_n 1, 1) := by decide +kernel
theorem dX2_finalOf_2 : decode cX2_finalOf 2 = .ok (.invokevirtual 102, 3) := by decide +kernel
theorem dX2_finalOf_5 : decode cX2_finalOf 5 = .ok (.getfield 138, 3) := by decide +kernel
theorem dX2_finalOf_8 : decode cX2_finalOf 8 = .ok (.ireturn, 1) := by decide +kernel
theorem dX2_finalBySorting_0 : decode cX2_finalBySorting 0 = .ok (.aload_n 0, 1) := by decide +kernel
theorem dX2_finalBySorting_1 : decode cX2_finalBySorting 1 = .ok (.iload_n 1, 1) := by decide +kernel
theorem dX2_finalBySorting_2 : decode cX2_finalBySorting 2 = .ok (.invokevirtual 102, 3) := by decide +kernel
theorem dX2_finalBySorting_5 : decode cX2_finalBySorting 5 = .ok (.astore_n 2, 1) := by decide +kernel
theorem dX2_finalBySorting_6 : decode cX2_finalBySorting 6 = .ok (.aload_n 2, 1) := by decide +kernel
theorem dX2_finalBySorting_7 : decode cX2_finalBySorting 7 = .ok (.getfield 138, 3) := by decide +kernel
theorem dX2_finalBySorting_10 : decode cX2_finalBySorting 10 = .ok (.iconst (-1), 1) := by decide +kernel
theorem dX2_finalBySorting_11 : decode cX2_finalBySorting 11 = .ok (.if_icmp .ne 13, 3) := by decide +kernel
theorem dX2_finalBySorting_14 : decode cX2_finalBySorting 14 = .ok (.new 60, 3) := by decide +kernel
theorem dX2_finalBySorting_17 : decode cX2_finalBySorting 17 = .ok (.dup, 1) := by decide +kernel
theorem dX2_finalBySorting_18 : decode cX2_finalBySorting 18 = .ok (.ldc 152, 2) := by decide +kernel
theorem dX2_finalBySorting_20 : decode cX2_finalBySorting 20 = .ok (.invokespecial 64, 3) := by decide +kernel
theorem dX2_finalBySorting_23 : decode cX2_finalBySorting 23 = .ok (.athrow, 1) := by decide +kernel
theorem dX2_finalBySorting_24 : decode cX2_finalBySorting 24 = .ok (.aload_n 2, 1) := by decide +kernel
theorem dX2_finalBySorting_25 : decode cX2_finalBySorting 25 = .ok (.aload_n 0, 1) := by decide +kernel
theorem dX2_finalBySorting_26 : decode cX2_finalBySorting 26 = .ok (.getfield 28, 3) := by decide +kernel
theorem dX2_finalBySorting_29 : decode cX2_finalBySorting 29 = .ok (.invokevirtual 154, 3) := by decide +kernel
theorem dX2_finalBySorting_32 : decode cX2_finalBySorting 32 = .ok (.ireturn, 1) := by decide +kernel
theorem dX2_branches_0 : decode cX2_branches 0 = .ok (.aload_n 0, 1) := by decide +kernel
theorem dX2_branches_1 : decode cX2_branches 1 = .ok (.iload_n 1, 1) := by decide +kernel
theorem dX2_branches_2 : decode cX2_branches 2 = .ok (.invokevirtual 102, 3) := by decide +kernel
theorem dX2_branches_5 : decode cX2_branches 5 = .ok (.getfield 158, 3) := by decide +kernel
theorem dX2_branches_8 : decode cX2_branches 8 = .ok (.ireturn, 1) := by decide +kernel
theorem dX2_device_0 : decode cX2_device 0 = .ok (.aload_n 0, 1) := by decide +kernel
theorem dX2_device_1 : decode cX2_device 1 = .ok (.iload_n 1, 1) := by decide +kernel
theorem dX2_device_2 : decode cX2_device 2 = .ok (.iload_n 2, 1) := by decide +kernel
theorem dX2_device_3 : decode cX2_device 3 = .ok (.invokevirtual 161, 3) := by decide +kernel
theorem dX2_device_6 : decode cX2_device 6 = .ok (.getfield 165, 3) := by decide +kernel
theorem dX2_device_9 : decode cX2_device 9 = .ok (.iload_n 2, 1) := by decide +kernel
theorem dX2_device_10 : decode cX2_device 10 = .ok (.iaload, 1) := by decide +kernel
theorem dX2_device_11 : decode cX2_device 11 = .ok (.ireturn, 1) := by decide +kernel
theorem dX2_state_0 : decode cX2_state 0 = .ok (.aload_n 0, 1) := by decide +kernel
theorem dX2_state_1 : decode cX2_state 1 = .ok (.iload_n 1, 1) := by decide +kernel
theorem dX2_state_2 : decode cX2_state 2 = .ok (.iload_n 2, 1) := by decide +kernel
theorem dX2_state_3 : decode cX2_state 3 = .ok (.invokevirtual 161, 3) := by decide +kernel
theorem dX2_state_6 : decode cX2_state 6 = .ok (.getfield 168, 3) := by decide +kernel
theorem dX2_state_9 : decode cX2_state 9 = .ok (.iload_n 2, 1) := by decide +kernel
theorem dX2_state_10 : decode cX2_state 10 = .ok (.iaload, 1) := by decide +kernel
theorem dX2_state_11 : decode cX2_state 11 = .ok (.ireturn, 1) := by decide +kernel
theorem dX2_answered_0 : decode cX2_answered 0 = .ok (.aload_n 0, 1) := by decide +kernel
theorem dX2_answered_1 : decode cX2_answered 1 = .ok (.iload_n 1, 1) := by decide +kernel
theorem dX2_answered_2 : decode cX2_answered 2 = .ok (.invokevirtual 102, 3) := by decide +kernel
theorem dX2_answered_5 : decode cX2_answered 5 = .ok (.getfield 171, 3) := by decide +kernel
theorem dX2_answered_8 : decode cX2_answered 8 = .ok (.ireturn, 1) := by decide +kernel
theorem dX2_hungUp_0 : decode cX2_hungUp 0 = .ok (.iload_n 1, 1) := by decide +kernel
theorem dX2_hungUp_1 : decode cX2_hungUp 1 = .ok (.bipush 9, 2) := by decide +kernel
theorem dX2_hungUp_3 : decode cX2_hungUp 3 = .ok (.invokestatic 44, 3) := by decide +kernel
theorem dX2_hungUp_6 : decode cX2_hungUp 6 = .ok (.ifCond .eq 13, 3) := by decide +kernel
theorem dX2_hungUp_9 : decode cX2_hungUp 9 = .ok (.new 48, 3) := by decide +kernel
theorem dX2_hungUp_12 : decode cX2_hungUp 12 = .ok (.dup, 1) := by decide +kernel
theorem dX2_hungUp_13 : decode cX2_hungUp 13 = .ok (.ldc 174, 2) := by decide +kernel
theorem dX2_hungUp_15 : decode cX2_hungUp 15 = .ok (.invokespecial 52, 3) := by decide +kernel
theorem dX2_hungUp_18 : decode cX2_hungUp 18 = .ok (.athrow, 1) := by decide +kernel
theorem dX2_hungUp_19 : decode cX2_hungUp 19 = .ok (.aload_n 0, 1) := by decide +kernel
theorem dX2_hungUp_20 : decode cX2_hungUp 20 = .ok (.getfield 21, 3) := by decide +kernel
theorem dX2_hungUp_23 : decode cX2_hungUp 23 = .ok (.iload_n 1, 1) := by decide +kernel
theorem dX2_hungUp_24 : decode cX2_hungUp 24 = .ok (.iaload, 1) := by decide +kernel
theorem dX2_hungUp_25 : decode cX2_hungUp 25 = .ok (.ireturn, 1) := by decide +kernel
theorem dX2_isOutside_0 : decode cX2_isOutside 0 = .ok (.iload_n 0, 1) := by decide +kernel
theorem dX2_isOutside_1 : decode cX2_isOutside 1 = .ok (.ifCond .lt 8, 3) := by decide +kernel
theorem dX2_isOutside_4 : decode cX2_isOutside 4 = .ok (.iload_n 0, 1) := by decide +kernel
theorem dX2_isOutside_5 : decode cX2_isOutside 5 = .ok (.iload_n 1, 1) := by decide +kernel
theorem dX2_isOutside_6 : decode cX2_isOutside 6 = .ok (.if_icmp .le 7, 3) := by decide +kernel
theorem dX2_isOutside_9 : decode cX2_isOutside 9 = .ok (.iconst 1, 1) := by decide +kernel
theorem dX2_isOutside_10 : decode cX2_isOutside 10 = .ok (.goto 4, 3) := by decide +kernel
theorem dX2_isOutside_13 : decode cX2_isOutside 13 = .ok (.iconst 0, 1) := by decide +kernel
theorem dX2_isOutside_14 : decode cX2_isOutside 14 = .ok (.ireturn, 1) := by decide +kernel
theorem dX2_isNoAnswer_0 : decode cX2_isNoAnswer 0 = .ok (.iload_n 0, 1) := by decide +kernel
theorem dX2_isNoAnswer_1 : decode cX2_isNoAnswer 1 = .ok (.sipush 180, 3) := by decide +kernel
theorem dX2_isNoAnswer_4 : decode cX2_isNoAnswer 4 = .ok (.if_icmp .eq 21, 3) := by decide +kernel
theorem dX2_isNoAnswer_7 : decode cX2_isNoAnswer 7 = .ok (.iload_n 0, 1) := by decide +kernel
theorem dX2_isNoAnswer_8 : decode cX2_isNoAnswer 8 = .ok (.sipush 200, 3) := by decide +kernel
theorem dX2_isNoAnswer_11 : decode cX2_isNoAnswer 11 = .ok (.if_icmp .lt 10, 3) := by decide +kernel
theorem dX2_isNoAnswer_14 : decode cX2_isNoAnswer 14 = .ok (.iload_n 0, 1) := by decide +kernel
theorem dX2_isNoAnswer_15 : decode cX2_isNoAnswer 15 = .ok (.sipush 699, 3) := by decide +kernel
theorem dX2_isNoAnswer_18 : decode cX2_isNoAnswer 18 = .ok (.if_icmp .le 7, 3) := by decide +kernel
theorem dX2_isNoAnswer_21 : decode cX2_isNoAnswer 21 = .ok (.iconst 1, 1) := by decide +kernel
theorem dX2_isNoAnswer_22 : decode cX2_isNoAnswer 22 = .ok (.goto 4, 3) := by decide +kernel
theorem dX2_isNoAnswer_25 : decode cX2_isNoAnswer 25 = .ok (.iconst 0, 1) := by decide +kernel
theorem dX2_isNoAnswer_26 : decode cX2_isNoAnswer 26 = .ok (.ireturn, 1) := by decide +kernel
theorem dX2_rowOf_0 : decode cX2_rowOf 0 = .ok (.iload_n 1, 1) := by decide +kernel
theorem dX2_rowOf_1 : decode cX2_rowOf 1 = .ok (.iconst 5, 1) := by decide +kernel
theorem dX2_rowOf_2 : decode cX2_rowOf 2 = .ok (.invokestatic 44, 3) := by decide +kernel
theorem dX2_rowOf_5 : decode cX2_rowOf 5 = .ok (.ifCond .eq 13, 3) := by decide +kernel
theorem dX2_rowOf_8 : decode cX2_rowOf 8 = .ok (.new 48, 3) := by decide +kernel
theorem dX2_rowOf_11 : decode cX2_rowOf 11 = .ok (.dup, 1) := by decide +kernel
theorem dX2_rowOf_12 : decode cX2_rowOf 12 = .ok (.ldc 90, 2) := by decide +kernel
theorem dX2_rowOf_14 : decode cX2_rowOf 14 = .ok (.invokespecial 52, 3) := by decide +kernel
theorem dX2_rowOf_17 : decode cX2_rowOf 17 = .ok (.athrow, 1) := by decide +kernel
theorem dX2_rowOf_18 : decode cX2_rowOf 18 = .ok (.aload_n 0, 1) := by decide +kernel
theorem dX2_rowOf_19 : decode cX2_rowOf 19 = .ok (.getfield 11, 3) := by decide +kernel
theorem dX2_rowOf_22 : decode cX2_rowOf 22 = .ok (.iload_n 1, 1) := by decide +kernel
theorem dX2_rowOf_23 : decode cX2_rowOf 23 = .ok (.aaload, 1) := by decide +kernel
theorem dX2_rowOf_24 : decode cX2_rowOf 24 = .ok (.areturn, 1) := by decide +kernel
theorem dX2_callAt_0 : decode cX2_callAt 0 = .ok (.iload_n 1, 1) := by decide +kernel
theorem dX2_callAt_1 : decode cX2_callAt 1 = .ok (.aload_n 0, 1) := by decide +kernel
theorem dX2_callAt_2 : decode cX2_callAt 2 = .ok (.getfield 31, 3) := by decide +kernel
theorem dX2_callAt_5 : decode cX2_callAt 5 = .ok (.iconst 1, 1) := by decide +kernel
theorem dX2_callAt_6 : decode cX2_callAt 6 = .ok (.isub, 1) := by decide +kernel
theorem dX2_callAt_7 : decode cX2_callAt 7 = .ok (.invokestatic 44, 3) := by decide +kernel
theorem dX2_callAt_10 : decode cX2_callAt 10 = .ok (.ifCond .eq 13, 3) := by decide +kernel
theorem dX2_callAt_13 : decode cX2_callAt 13 = .ok (.new 82, 3) := by decide +kernel
theorem dX2_callAt_16 : decode cX2_callAt 16 = .ok (.dup, 1) := by decide +kernel
theorem dX2_callAt_17 : decode cX2_callAt 17 = .ok (.ldc 176, 2) := by decide +kernel
theorem dX2_callAt_19 : decode cX2_callAt 19 = .ok (.invokespecial 86, 3) := by decide +kernel
theorem dX2_callAt_22 : decode cX2_callAt 22 = .ok (.athrow, 1) := by decide +kernel
theorem dX2_callAt_23 : decode cX2_callAt 23 = .ok (.aload_n 0, 1) := by decide +kernel
theorem dX2_callAt_24 : decode cX2_callAt 24 = .ok (.getfield 17, 3) := by decide +kernel
theorem dX2_callAt_27 : decode cX2_callAt 27 = .ok (.iload_n 1, 1) := by decide +kernel
theorem dX2_callAt_28 : decode cX2_callAt 28 = .ok (.aaload, 1) := by decide +kernel
theorem dX2_callAt_29 : decode cX2_callAt 29 = .ok (.areturn, 1) := by decide +kernel
theorem dX2_callWith_0 : decode cX2_callWith 0 = .ok (.aload_n 0, 1) := by decide +kernel
theorem dX2_callWith_1 : decode cX2_callWith 1 = .ok (.iload_n 1, 1) := by decide +kernel
theorem dX2_callWith_2 : decode cX2_callWith 2 = .ok (.invokevirtual 102, 3) := by decide +kernel
theorem dX2_callWith_5 : decode cX2_callWith 5 = .ok (.astore_n 3, 1) := by decide +kernel
theorem dX2_callWith_6 : decode cX2_callWith 6 = .ok (.iload_n 2, 1) := by decide +kernel
theorem dX2_callWith_7 : decode cX2_callWith 7 = .ok (.aload_n 3, 1) := by decide +kernel
theorem dX2_callWith_8 : decode cX2_callWith 8 = .ok (.getfield 158, 3) := by decide +kernel
theorem dX2_callWith_11 : decode cX2_callWith 11 = .ok (.iconst 1, 1) := by decide +kernel
theorem dX2_callWith_12 : decode cX2_callWith 12 = .ok (.isub, 1) := by decide +kernel
theorem dX2_callWith_13 : decode cX2_callWith 13 = .ok (.invokestatic 44, 3) := by decide +kernel
theorem dX2_callWith_16 : decode cX2_callWith 16 = .ok (.ifCond .eq 13, 3) := by decide +kernel
theorem dX2_callWith_19 : decode cX2_callWith 19 = .ok (.new 82, 3) := by decide +kernel
theorem dX2_callWith_22 : decode cX2_callWith 22 = .ok (.dup, 1) := by decide +kernel
theorem dX2_callWith_23 : decode cX2_callWith 23 = .ok (.ldc 178, 2) := by decide +kernel
theorem dX2_callWith_25 : decode cX2_callWith 25 = .ok (.invokespecial 86, 3) := by decide +kernel
theorem dX2_callWith_28 : decode cX2_callWith 28 = .ok (.athrow, 1) := by decide +kernel
theorem dX2_callWith_29 : decode cX2_callWith 29 = .ok (.aload_n 3, 1) := by decide +kernel
theorem dX2_callWith_30 : decode cX2_callWith 30 = .ok (.areturn, 1) := by decide +kernel
theorem dX2_followUser_0 : decode cX2_followUser 0 = .ok (.iload 4, 2) := by decide +kernel
theorem dX2_followUser_2 : decode cX2_followUser 2 = .ok (.aload_n 0, 1) := by decide +kernel
theorem dX2_followUser_3 : decode cX2_followUser 3 = .ok (.getfield 25, 3) := by decide +kernel
theorem dX2_followUser_6 : decode cX2_followUser 6 = .ok (.arraylength, 1) := by decide +kernel
theorem dX2_followUser_7 : decode cX2_followUser 7 = .ok (.if_icmp .lt 4, 3) := by decide +kernel
theorem dX2_followUser_10 : decode cX2_followUser 10 = .ok (.return_, 1) := by decide +kernel
theorem dX2_followUser_11 : decode cX2_followUser 11 = .ok (.aload_n 0, 1) := by decide +kernel
theorem dX2_followUser_12 : decode cX2_followUser 12 = .ok (.getfield 25, 3) := by decide +kernel
theorem dX2_followUser_15 : decode cX2_followUser 15 = .ok (.iload 4, 2) := by decide +kernel
theorem dX2_followUser_17 : decode cX2_followUser 17 = .ok (.iload_n 2, 1) := by decide +kernel
theorem dX2_followUser_18 : decode cX2_followUser 18 = .ok (.iastore, 1) := by decide +kernel
theorem dX2_followUser_19 : decode cX2_followUser 19 = .ok (.aload_n 0, 1) := by decide +kernel
theorem dX2_followUser_20 : decode cX2_followUser 20 = .ok (.getfield 11, 3) := by decide +kernel
theorem dX2_followUser_23 : decode cX2_followUser 23 = .ok (.iload_n 2, 1) := by decide +kernel
theorem dX2_followUser_24 : decode cX2_followUser 24 = .ok (.aaload, 1) := by decide +kernel
theorem dX2_followUser_25 : decode cX2_followUser 25 = .ok (.astore 5, 2) := by decide +kernel
theorem dX2_followUser_27 : decode cX2_followUser 27 = .ok (.iconst 0, 1) := by decide +kernel
theorem dX2_followUser_28 : decode cX2_followUser 28 = .ok (.istore 6, 2) := by decide +kernel
theorem dX2_followUser_30 : decode cX2_followUser 30 = .ok (.iload 6, 2) := by decide +kernel
theorem dX2_followUser_32 : decode cX2_followUser 32 = .ok (.aload 5, 2) := by decide +kernel
theorem dX2_followUser_34 : decode cX2_followUser 34 = .ok (.getfield 180, 3) := by decide +kernel
theorem dX2_followUser_37 : decode cX2_followUser 37 = .ok (.if_icmp .ge 89, 3) := by decide +kernel
theorem dX2_followUser_40 : decode cX2_followUser 40 = .ok (.aload 5, 2) := by decide +kernel
theorem dX2_followUser_42 : decode cX2_followUser 42 = .ok (.getfield 183, 3) := by decide +kernel
theorem dX2_followUser_45 : decode cX2_followUser 45 = .ok (.iload 6, 2) := by decide +kernel
theorem dX2_followUser_47 : decode cX2_followUser 47 = .ok (.iaload, 1) := by decide +kernel
theorem dX2_followUser_48 : decode cX2_followUser 48 = .ok (.istore 7, 2) := by decide +kernel
theorem dX2_followUser_50 : decode cX2_followUser 50 = .ok (.aload 5, 2) := by decide +kernel
theorem dX2_followUser_52 : decode cX2_followUser 52 = .ok (.iload 7, 2) := by decide +kernel
theorem dX2_followUser_54 : decode cX2_followUser 54 = .ok (.aload_n 0, 1) := by decide +kernel
theorem dX2_followUser_55 : decode cX2_followUser 55 = .ok (.getfield 35, 3) := by decide +kernel
theorem dX2_followUser_58 : decode cX2_followUser 58 = .ok (.invokevirtual 186, 3) := by decide +kernel
theorem dX2_followUser_61 : decode cX2_followUser 61 = .ok (.ifCond .ne 6, 3) := by decide +kernel
theorem dX2_followUser_64 : decode cX2_followUser 64 = .ok (.goto 56, 3) := by decide +kernel
theorem dX2_followUser_67 : decode cX2_followUser 67 = .ok (.iload 4, 2) := by decide +kernel
theorem dX2_followUser_69 : decode cX2_followUser 69 = .ok (.ifCond .ne 14, 3) := by decide +kernel
theorem dX2_followUser_72 : decode cX2_followUser 72 = .ok (.aload 5, 2) := by decide +kernel
theorem dX2_followUser_74 : decode cX2_followUser 74 = .ok (.getfield 87, 3) := by decide +kernel
theorem dX2_followUser_77 : decode cX2_followUser 77 = .ok (.iload 7, 2) := by decide +kernel
theorem dX2_followUser_79 : decode cX2_followUser 79 = .ok (.iaload, 1) := by decide +kernel
theorem dX2_followUser_80 : decode cX2_followUser 80 = .ok (.goto 4, 3) := by decide +kernel
theorem dX2_followUser_83 : decode cX2_followUser 83 = .ok (.iload_n 3, 1) := by decide +kernel
theorem dX2_followUser_84 : decode cX2_followUser 84 = .ok (.istore 8, 2) := by decide +kernel
theorem dX2_followUser_86 : decode cX2_followUser 86 = .ok (.iload 7, 2) := by decide +kernel
theorem dX2_followUser_88 : decode cX2_followUser 88 = .ok (.bipush 10, 2) := by decide +kernel
theorem dX2_followUser_90 : decode cX2_followUser 90 = .ok (.if_icmp .ge 14, 3) := by decide +kernel
theorem dX2_followUser_93 : decode cX2_followUser 93 = .ok (.aload_n 1, 1) := by decide +kernel
theorem dX2_followUser_94 : decode cX2_followUser 94 = .ok (.iload 7, 2) := by decide +kernel
theorem dX2_followUser_96 : decode cX2_followUser 96 = .ok (.iload 8, 2) := by decide +kernel
theorem dX2_followUser_98 : decode cX2_followUser 98 = .ok (.invokevirtual 189, 3) := by decide +kernel
theorem dX2_followUser_101 : decode cX2_followUser 101 = .ok (.goto 19, 3) := by decide +kernel
theorem dX2_followUser_104 : decode cX2_followUser 104 = .ok (.aload_n 0, 1) := by decide +kernel
theorem dX2_followUser_105 : decode cX2_followUser 105 = .ok (.aload_n 1, 1) := by decide +kernel
theorem dX2_followUser_106 : decode cX2_followUser 106 = .ok (.iload 7, 2) := by decide +kernel
theorem dX2_followUser_108 : decode cX2_followUser 108 = .ok (.bipush 10, 2) := by decide +kernel
theorem dX2_followUser_110 : decode cX2_followUser 110 = .ok (.isub, 1) := by decide +kernel
theorem dX2_followUser_111 : decode cX2_followUser 111 = .ok (.iload 8, 2) := by decide +kernel
theorem dX2_followUser_113 : decode cX2_followUser 113 = .ok (.iload 4, 2) := by decide +kernel
theorem dX2_followUser_115 : decode cX2_followUser 115 = .ok (.iconst 1, 1) := by decide +kernel
theorem dX2_followUser_116 : decode cX2_followUser 116 = .ok (.iadd, 1) := by decide +kernel
theorem dX2_followUser_117 : decode cX2_followUser 117 = .ok (.invokevirtual 193, 3) := by decide +kernel
theorem dX2_followUser_120 : decode cX2_followUser 120 = .ok (.iinc 6 1, 3) := by decide +kernel
theorem dX2_followUser_123 : decode cX2_followUser 123 = .ok (.goto (-93), 3) := by decide +kernel
theorem dX2_followUser_126 : decode cX2_followUser 126 = .ok (.return_, 1) := by decide +kernel
theorem dX2_comeToUser_0 : decode cX2_comeToUser 0 = .ok (.aload_n 0, 1) := by decide +kernel
theorem dX2_comeToUser_1 : decode cX2_comeToUser 1 = .ok (.iload_n 2, 1) := by decide +kernel
theorem dX2_comeToUser_2 : decode cX2_comeToUser 2 = .ok (.iload 4, 2) := by decide +kernel
theorem dX2_comeToUser_4 : decode cX2_comeToUser 4 = .ok (.invokevirtual 196, 3) := by decide +kernel
theorem dX2_comeToUser_7 : decode cX2_comeToUser 7 = .ok (.ifCond .eq 14, 3) := by decide +kernel
theorem dX2_comeToUser_10 : decode cX2_comeToUser 10 = .ok (.aload_n 1, 1) := by decide +kernel
theorem dX2_comeToUser_11 : decode cX2_comeToUser 11 = .ok (.iload_n 3, 1) := by decide +kernel
theorem dX2_comeToUser_12 : decode cX2_comeToUser 12 = .ok (.sipush 482, 3) := by decide +kernel
theorem dX2_comeToUser_15 : decode cX2_comeToUser 15 = .ok (.invokevirtual 199, 3) := by decide +kernel
theorem dX2_comeToUser_18 : decode cX2_comeToUser 18 = .ok (.goto 29, 3) := by decide +kernel
theorem dX2_comeToUser_21 : decode cX2_comeToUser 21 = .ok (.iload 4, 2) := by decide +kernel
theorem dX2_comeToUser_23 : decode cX2_comeToUser 23 = .ok (.iconst 2, 1) := by decide +kernel
theorem dX2_comeToUser_24 : decode cX2_comeToUser 24 = .ok (.if_icmp .le 14, 3) := by decide +kernel
theorem dX2_comeToUser_27 : decode cX2_comeToUser 27 = .ok (.aload_n 1, 1) := by decide +kernel
theorem dX2_comeToUser_28 : decode cX2_comeToUser 28 = .ok (.iload_n 3, 1) := by decide +kernel
theorem dX2_comeToUser_29 : decode cX2_comeToUser 29 = .ok (.sipush 483, 3) := by decide +kernel
theorem dX2_comeToUser_32 : decode cX2_comeToUser 32 = .ok (.invokevirtual 199, 3) := by decide +kernel
theorem dX2_comeToUser_35 : decode cX2_comeToUser 35 = .ok (.goto 12, 3) := by decide +kernel
theorem dX2_comeToUser_38 : decode cX2_comeToUser 38 = .ok (.aload_n 0, 1) := by decide +kernel
theorem dX2_comeToUser_39 : decode cX2_comeToUser 39 = .ok (.aload_n 1, 1) := by decide +kernel
theorem dX2_comeToUser_40 : decode cX2_comeToUser 40 = .ok (.iload_n 2, 1) := by decide +kernel
theorem dX2_comeToUser_41 : decode cX2_comeToUser 41 = .ok (.iload_n 3, 1) := by decide +kernel
theorem dX2_comeToUser_42 : decode cX2_comeToUser 42 = .ok (.iload 4, 2) := by decide +kernel
theorem dX2_comeToUser_44 : decode cX2_comeToUser 44 = .ok (.invokevirtual 94, 3) := by decide +kernel
theorem dX2_comeToUser_47 : decode cX2_comeToUser 47 = .ok (.return_, 1) := by decide +kernel
theorem dX2_isOnWay_0 : decode cX2_isOnWay 0 = .ok (.iconst 0, 1) := by decide +kernel
theorem dX2_isOnWay_1 : decode cX2_isOnWay 1 = .ok (.istore_n 3, 1) := by decide +kernel
theorem dX2_isOnWay_2 : decode cX2_isOnWay 2 = .ok (.iload_n 3, 1) := by decide +kernel
theorem dX2_isOnWay_3 : decode cX2_isOnWay 3 = .ok (.iload_n 2, 1) := by decide +kernel
theorem dX2_isOnWay_4 : decode cX2_isOnWay 4 = .ok (.if_icmp .ge 30, 3) := by decide +kernel
theorem dX2_isOnWay_7 : decode cX2_isOnWay 7 = .ok (.iload_n 3, 1) := by decide +kernel
theorem dX2_isOnWay_8 : decode cX2_isOnWay 8 = .ok (.aload_n 0, 1) := by decide +kernel
theorem dX2_isOnWay_9 : decode cX2_isOnWay 9 = .ok (.getfield 25, 3) := by decide +kernel
theorem dX2_isOnWay_12 : decode cX2_isOnWay 12 = .ok (.arraylength, 1) := by decide +kernel
theorem dX2_isOnWay_13 : decode cX2_isOnWay 13 = .ok (.if_icmp .ge 21, 3) := by decide +kernel
theorem dX2_isOnWay_16 : decode cX2_isOnWay 16 = .ok (.aload_n 0, 1) := by decide +kernel
theorem dX2_isOnWay_17 : decode cX2_isOnWay 17 = .ok (.getfield 25, 3) := by decide +kernel
theorem dX2_isOnWay_20 : decode cX2_isOnWay 20 = .ok (.iload_n 3, 1) := by decide +kernel
theorem dX2_isOnWay_21 : decode cX2_isOnWay 21 = .ok (.iaload, 1) := by decide +kernel
theorem dX2_isOnWay_22 : decode cX2_isOnWay 22 = .ok (.iload_n 1, 1) := by decide +kernel
theorem dX2_isOnWay_23 : decode cX2_isOnWay 23 = .ok (.if_icmp .ne 5, 3) := by decide +kernel
theorem dX2_isOnWay_26 : decode cX2_isOnWay 26 = .ok (.iconst 1, 1) := by decide +kernel
theorem dX2_isOnWay_27 : decode cX2_isOnWay 27 = .ok (.ireturn, 1) := by decide +kernel
theorem dX2_isOnWay_28 : decode cX2_isOnWay 28 = .ok (.iinc 3 1, 3) := by decide +kernel
theorem dX2_isOnWay_31 : decode cX2_isOnWay 31 = .ok (.goto (-29), 3) := by decide +kernel
theorem dX2_isOnWay_34 : decode cX2_isOnWay 34 = .ok (.iconst 0, 1) := by decide +kernel
theorem dX2_isOnWay_35 : decode cX2_isOnWay 35 = .ok (.ireturn, 1) := by decide +kernel
theorem dX2_lookAtCalls_0 : decode cX2_lookAtCalls 0 = .ok (.iconst 0, 1) := by decide +kernel
theorem dX2_lookAtCalls_1 : decode cX2_lookAtCalls 1 = .ok (.istore_n 1, 1) := by decide +kernel
theorem dX2_lookAtCalls_2 : decode cX2_lookAtCalls 2 = .ok (.iconst 0, 1) := by decide +kernel
theorem dX2_lookAtCalls_3 : decode cX2_lookAtCalls 3 = .ok (.istore_n 2, 1) := by decide +kernel
theorem dX2_lookAtCalls_4 : decode cX2_lookAtCalls 4 = .ok (.iload_n 2, 1) := by decide +kernel
theorem dX2_lookAtCalls_5 : decode cX2_lookAtCalls 5 = .ok (.aload_n 0, 1) := by decide +kernel
theorem dX2_lookAtCalls_6 : decode cX2_lookAtCalls 6 = .ok (.getfield 31, 3) := by decide +kernel
theorem dX2_lookAtCalls_9 : decode cX2_lookAtCalls 9 = .ok (.if_icmp .ge 28, 3) := by decide +kernel
theorem dX2_lookAtCalls_12 : decode cX2_lookAtCalls 12 = .ok (.aload_n 0, 1) := by decide +kernel
theorem dX2_lookAtCalls_13 : decode cX2_lookAtCalls 13 = .ok (.getfield 17, 3) := by decide +kernel
theorem dX2_lookAtCalls_16 : decode cX2_lookAtCalls 16 = .ok (.iload_n 2, 1) := by decide +kernel
theorem dX2_lookAtCalls_17 : decode cX2_lookAtCalls 17 = .ok (.aaload, 1) := by decide +kernel
theorem dX2_lookAtCalls_18 : decode cX2_lookAtCalls 18 = .ok (.aload_n 0, 1) := by decide +kernel
theorem dX2_lookAtCalls_19 : decode cX2_lookAtCalls 19 = .ok (.getfield 35, 3) := by decide +kernel
theorem dX2_lookAtCalls_22 : decode cX2_lookAtCalls 22 = .ok (.invokevirtual 202, 3) := by decide +kernel
theorem dX2_lookAtCalls_25 : decode cX2_lookAtCalls 25 = .ok (.ifCond .eq 6, 3) := by decide +kernel
theorem dX2_lookAtCalls_28 : decode cX2_lookAtCalls 28 = .ok (.iinc 1 1, 3) := by decide +kernel
theorem dX2_lookAtCalls_31 : decode cX2_lookAtCalls 31 = .ok (.iinc 2 1, 3) := by decide +kernel
theorem dX2_lookAtCalls_34 : decode cX2_lookAtCalls 34 = .ok (.goto (-30), 3) := by decide +kernel
theorem dX2_lookAtCalls_37 : decode cX2_lookAtCalls 37 = .ok (.iload_n 1, 1) := by decide +kernel
theorem dX2_lookAtCalls_38 : decode cX2_lookAtCalls 38 = .ok (.ireturn, 1) := by decide +kernel
theorem dJ9_max_7cf53_0 : decode cJ9_max_7cf53 0 = .ok (.iload_n 0, 1) := by decide +kernel
theorem dJ9_max_7cf53_1 : decode cJ9_max_7cf53 1 = .ok (.iload_n 1, 1) := by decide +kernel
theorem dJ9_max_7cf53_2 : decode cJ9_max_7cf53 2 = .ok (.if_icmp .lt 7, 3) := by decide +kernel
theorem dJ9_max_7cf53_5 : decode cJ9_max_7cf53 5 = .ok (.iload_n 0, 1) := by decide +kernel
theorem dJ9_max_7cf53_6 : decode cJ9_max_7cf53 6 = .ok (.goto 4, 3) := by decide +kernel
theorem dJ9_max_7cf53_9 : decode cJ9_max_7cf53 9 = .ok (.iload_n 1, 1) := by decide +kernel
theorem dJ9_max_7cf53_10 : decode cJ9_max_7cf53 10 = .ok (.ireturn, 1) := by decide +kernel
theorem dJ9_min_7cf53_0 : decode cJ9_min_7cf53 0 = .ok (.iload_n 0, 1) := by decide +kernel
theorem dJ9_min_7cf53_1 : decode cJ9_min_7cf53 1 = .ok (.iload_n 1, 1) := by decide +kernel
theorem dJ9_min_7cf53_2 : decode cJ9_min_7cf53 2 = .ok (.if_icmp .gt 7, 3) := by decide +kernel
theorem dJ9_min_7cf53_5 : decode cJ9_min_7cf53 5 = .ok (.iload_n 0, 1) := by decide +kernel
theorem dJ9_min_7cf53_6 : decode cJ9_min_7cf53 6 = .ok (.goto 4, 3) := by decide +kernel
theorem dJ9_min_7cf53_9 : decode cJ9_min_7cf53 9 = .ok (.iload_n 1, 1) := by decide +kernel
theorem dJ9_min_7cf53_10 : decode cJ9_min_7cf53 10 = .ok (.ireturn, 1) := by decide +kernel
theorem dL_draw_0 : decode cL_draw 0 = .ok (.iload_n 1, 1) := by decide +kernel
theorem dL_draw_1 : decode cL_draw 1 = .ok (.aload_n 0, 1) := by decide +kernel
theorem dL_draw_2 : decode cL_draw 2 = .ok (.arraylength, 1) := by decide +kernel
theorem dL_draw_3 : decode cL_draw 3 = .ok (.if_icmp .ge 12, 3) := by decide +kernel
theorem dL_draw_6 : decode cL_draw 6 = .ok (.aload_n 0, 1) := by decide +kernel
theorem dL_draw_7 : decode cL_draw 7 = .ok (.iload_n 1, 1) := by decide +kernel
theorem dL_draw_8 : decode cL_draw 8 = .ok (.iaload, 1) := by decide +kernel
theorem dL_draw_9 : decode cL_draw 9 = .ok (.ldc 7, 2) := by decide +kernel
theorem dL_draw_11 : decode cL_draw 11 = .ok (.iand, 1) := by decide +kernel
theorem dL_draw_12 : decode cL_draw 12 = .ok (.goto 12, 3) := by decide +kernel
theorem dL_draw_15 : decode cL_draw 15 = .ok (.ldc 8, 2) := by decide +kernel
theorem dL_draw_17 : decode cL_draw 17 = .ok (.iload_n 1, 1) := by decide +kernel
theorem dL_draw_18 : decode cL_draw 18 = .ok (.iconst 2, 1) := by decide +kernel
theorem dL_draw_19 : decode cL_draw 19 = .ok (.iadd, 1) := by decide +kernel
theorem dL_draw_20 : decode cL_draw 20 = .ok (.imul, 1) := by decide +kernel
theorem dL_draw_21 : decode cL_draw 21 = .ok (.ldc 9, 2) := by decide +kernel
theorem dL_draw_23 : decode cL_draw 23 = .ok (.irem, 1) := by decide +kernel
theorem dL_draw_24 : decode cL_draw 24 = .ok (.ireturn, 1) := by decide +kernel
theorem dL_step_0 : decode cL_step 0 = .ok (.aload_n 1, 1) := by decide +kernel
theorem dL_step_1 : decode cL_step 1 = .ok (.iconst 1, 1) := by decide +kernel
theorem dL_step_2 : decode cL_step 2 = .ok (.iaload, 1) := by decide +kernel
theorem dL_step_3 : decode cL_step 3 = .ok (.ifCond .ne 7, 3) := by decide +kernel
theorem dL_step_6 : decode cL_step 6 = .ok (.iconst 0, 1) := by decide +kernel
theorem dL_step_7 : decode cL_step 7 = .ok (.goto 8, 3) := by decide +kernel
theorem dL_step_10 : decode cL_step 10 = .ok (.iload_n 3, 1) := by decide +kernel
theorem dL_step_11 : decode cL_step 11 = .ok (.aload_n 1, 1) := by decide +kernel
theorem dL_step_12 : decode cL_step 12 = .ok (.iconst 1, 1) := by decide +kernel
theorem dL_step_13 : decode cL_step 13 = .ok (.iaload, 1) := by decide +kernel
theorem dL_step_14 : decode cL_step 14 = .ok (.irem, 1) := by decide +kernel
theorem dL_step_15 : decode cL_step 15 = .ok (.istore 5, 2) := by decide +kernel
theorem dL_step_17 : decode cL_step 17 = .ok (.iload_n 3, 1) := by decide +kernel
theorem dL_step_18 : decode cL_step 18 = .ok (.bipush 6, 2) := by decide +kernel
theorem dL_step_20 : decode cL_step 20 = .ok (.irem, 1) := by decide +kernel
theorem dL_step_21 : decode cL_step 21 = .ok (.istore 6, 2) := by decide +kernel
theorem dL_step_23 : decode cL_step 23 = .ok (.iload_n 2, 1) := by decide +kernel
theorem dL_step_24 : decode cL_step 24 = .ok (.bipush 15, 2) := by decide +kernel
theorem dL_step_26 : decode cL_step 26 = .ok (.irem, 1) := by decide +kernel
theorem dL_step_27 : decode cL_step 27 = .ok (.tableswitch 282 0 12 #[65, 65, 65, 65, 65, 137, 137, 137, 161, 161, 161, 161, 253], 65) := by decide +kernel
theorem dL_step_92 : decode cL_step 92 = .ok (.aload_n 0, 1) := by decide +kernel
theorem dL_step_93 : decode cL_step 93 = .ok (.aload_n 1, 1) := by decide +kernel
theorem dL_step_94 : decode cL_step 94 = .ok (.iload 6, 2) := by decide +kernel
theorem dL_step_96 : decode cL_step 96 = .ok (.iload 4, 2) := by decide +kernel
theorem dL_step_98 : decode cL_step 98 = .ok (.iconst 3, 1) := by decide +kernel
theorem dL_step_99 : decode cL_step 99 = .ok (.irem, 1) := by decide +kernel
theorem dL_step_100 : decode cL_step 100 = .ok (.ifCond .ne 16, 3) := by decide +kernel
theorem dL_step_103 : decode cL_step 103 = .ok (.bipush 10, 2) := by decide +kernel
theorem dL_step_105 : decode cL_step 105 = .ok (.iload 4, 2) := by decide +kernel
theorem dL_step_107 : decode cL_step 107 = .ok (.iconst 3, 1) := by decide +kernel
theorem dL_step_108 : decode cL_step 108 = .ok (.idiv, 1) := by decide +kernel
theorem dL_step_109 : decode cL_step 109 = .ok (.bipush 6, 2) := by decide +kernel
theorem dL_step_111 : decode cL_step 111 = .ok (.irem, 1) := by decide +kernel
theorem dL_step_112 : decode cL_step 112 = .ok (.iadd, 1) := by decide +kernel
theorem dL_step_113 : decode cL_step 113 = .ok (.goto 10, 3) := by decide +kernel
theorem dL_step_116 : decode cL_step 116 = .ok (.iload 4, 2) := by decide +kernel
theorem dL_step_118 : decode cL_step 118 = .ok (.iconst 3, 1) := by decide +kernel
theorem dL_step_119 : decode cL_step 119 = .ok (.idiv, 1) := by decide +kernel
theorem dL_step_120 : decode cL_step 120 = .ok (.bipush 10, 2) := by decide +kernel
theorem dL_step_122 : decode cL_step 122 = .ok (.irem, 1) := by decide +kernel
theorem dL_step_123 : decode cL_step 123 = .ok (.iload 4, 2) := by decide +kernel
theorem dL_step_125 : decode cL_step 125 = .ok (.bipush 30, 2) := by decide +kernel
theorem dL_step_127 : decode cL_step 127 = .ok (.idiv, 1) := by decide +kernel
theorem dL_step_128 : decode cL_step 128 = .ok (.iconst 4, 1) := by decide +kernel
theorem dL_step_129 : decode cL_step 129 = .ok (.irem, 1) := by decide +kernel
theorem dL_step_130 : decode cL_step 130 = .ok (.iload_n 3, 1) := by decide +kernel
theorem dL_step_131 : decode cL_step 131 = .ok (.bipush 7, 2) := by decide +kernel
theorem dL_step_133 : decode cL_step 133 = .ok (.irem, 1) := by decide +kernel
theorem dL_step_134 : decode cL_step 134 = .ok (.ifCond .ne 7, 3) := by decide +kernel
theorem dL_step_137 : decode cL_step 137 = .ok (.iconst 0, 1) := by decide +kernel
theorem dL_step_138 : decode cL_step 138 = .ok (.goto 22, 3) := by decide +kernel
theorem dL_step_141 : decode cL_step 141 = .ok (.iconst 1, 1) := by decide +kernel
theorem dL_step_142 : decode cL_step 142 = .ok (.iload 4, 2) := by decide +kernel
theorem dL_step_144 : decode cL_step 144 = .ok (.iload_n 3, 1) := by decide +kernel
theorem dL_step_145 : decode cL_step 145 = .ok (.iconst 2, 1) := by decide +kernel
theorem dL_step_146 : decode cL_step 146 = .ok (.irem, 1) := by decide +kernel
theorem dL_step_147 : decode cL_step 147 = .ok (.ifCond .ne 9, 3) := by decide +kernel
theorem dL_step_150 : decode cL_step 150 = .ok (.sipush 1000, 3) := by decide +kernel
theorem dL_step_153 : decode cL_step 153 = .ok (.goto 5, 3) := by decide +kernel
theorem dL_step_156 : decode cL_step 156 = .ok (.bipush 40, 2) := by decide +kernel
theorem dL_step_158 : decode cL_step 158 = .ok (.irem, 1) := by decide +kernel
theorem dL_step_159 : decode cL_step 159 = .ok (.iadd, 1) := by decide +kernel
theorem dL_step_160 : decode cL_step 160 = .ok (.invokestatic 10, 3) := by decide +kernel
theorem dL_step_163 : decode cL_step 163 = .ok (.ireturn, 1) := by decide +kernel
theorem dL_step_164 : decode cL_step 164 = .ok (.aload_n 1, 1) := by decide +kernel
theorem dL_step_165 : decode cL_step 165 = .ok (.iconst 1, 1) := by decide +kernel
theorem dL_step_166 : decode cL_step 166 = .ok (.iaload, 1) := by decide +kernel
theorem dL_step_167 : decode cL_step 167 = .ok (.bipush 12, 2) := by decide +kernel
theorem dL_step_169 : decode cL_step 169 = .ok (.if_icmp .eq 13, 3) := by decide +kernel
theorem dL_step_172 : decode cL_step 172 = .ok (.aload_n 0, 1) := by decide +kernel
theorem dL_step_173 : decode cL_step 173 = .ok (.aload_n 1, 1) := by decide +kernel
theorem dL_step_174 : decode cL_step 174 = .ok (.iload 6, 2) := by decide +kernel
theorem dL_step_176 : decode cL_step 176 = .ok (.invokestatic 16, 3) := by decide +kernel
theorem dL_step_179 : decode cL_step 179 = .ok (.ifCond .eq 7, 3) := by decide +kernel
theorem dL_step_182 : decode cL_step 182 = .ok (.iconst 1, 1) := by decide +kernel
theorem dL_step_183 : decode cL_step 183 = .ok (.goto 4, 3) := by decide +kernel
theorem dL_step_186 : decode cL_step 186 = .ok (.iconst 0, 1) := by decide +kernel
theorem dL_step_187 : decode cL_step 187 = .ok (.ireturn, 1) := by decide +kernel
theorem dL_step_188 : decode cL_step 188 = .ok (.aload_n 1, 1) := by decide +kernel
theorem dL_step_189 : decode cL_step 189 = .ok (.iconst 1, 1) := by decide +kernel
theorem dL_step_190 : decode cL_step 190 = .ok (.iaload, 1) := by decide +kernel
theorem dL_step_191 : decode cL_step 191 = .ok (.ifCond .eq 83, 3) := by decide +kernel
theorem dL_step_194 : decode cL_step 194 = .ok (.aload_n 0, 1) := by decide +kernel
theorem dL_step_195 : decode cL_step 195 = .ok (.aload_n 1, 1) := by decide +kernel
theorem dL_step_196 : decode cL_step 196 = .ok (.iload 5, 2) := by decide +kernel
theorem dL_step_198 : decode cL_step 198 = .ok (.iload 4, 2) := by decide +kernel
theorem dL_step_200 : decode cL_step 200 = .ok (.bipush 8, 2) := by decide +kernel
theorem dL_step_202 : decode cL_step 202 = .ok (.idiv, 1) := by decide +kernel
theorem dL_step_203 : decode cL_step 203 = .ok (.bipush 12, 2) := by decide +kernel
theorem dL_step_205 : decode cL_step 205 = .ok (.irem, 1) := by decide +kernel
theorem dL_step_206 : decode cL_step 206 = .ok (.iload 4, 2) := by decide +kernel
theorem dL_step_208 : decode cL_step 208 = .ok (.iconst 4, 1) := by decide +kernel
theorem dL_step_209 : decode cL_step 209 = .ok (.irem, 1) := by decide +kernel
theorem dL_step_210 : decode cL_step 210 = .ok (.ifCond .ne 9, 3) := by decide +kernel
theorem dL_step_213 : decode cL_step 213 = .ok (.sipush 180, 3) := by decide +kernel
theorem dL_step_216 : decode cL_step 216 = .ok (.goto 52, 3) := by decide +kernel
theorem dL_step_219 : decode cL_step 219 = .ok (.iload 4, 2) := by decide +kernel
theorem dL_step_221 : decode cL_step 221 = .ok (.iconst 4, 1) := by decide +kernel
theorem dL_step_222 : decode cL_step 222 = .ok (.irem, 1) := by decide +kernel
theorem dL_step_223 : decode cL_step 223 = .ok (.iconst 1, 1) := by decide +kernel
theorem dL_step_224 : decode cL_step 224 = .ok (.if_icmp .ne 18, 3) := by decide +kernel
theorem dL_step_227 : decode cL_step 227 = .ok (.sipush 200, 3) := by decide +kernel
theorem dL_step_230 : decode cL_step 230 = .ok (.iload 4, 2) := by decide +kernel
theorem dL_step_232 : decode cL_step 232 = .ok (.bipush 96, 2) := by decide +kernel
theorem dL_step_234 : decode cL_step 234 = .ok (.idiv, 1) := by decide +kernel
theorem dL_step_235 : decode cL_step 235 = .ok (.bipush 100, 2) := by decide +kernel
theorem dL_step_237 : decode cL_step 237 = .ok (.irem, 1) := by decide +kernel
theorem dL_step_238 : decode cL_step 238 = .ok (.iadd, 1) := by decide +kernel
theorem dL_step_239 : decode cL_step 239 = .ok (.goto 29, 3) := by decide +kernel
theorem dL_step_242 : decode cL_step 242 = .ok (.sipush 300, 3) := by decide +kernel
theorem dL_step_245 : decode cL_step 245 = .ok (.iload 4, 2) := by decide +kernel
theorem dL_step_247 : decode cL_step 247 = .ok (.bipush 96, 2) := by decide +kernel
theorem dL_step_249 : decode cL_step 249 = .ok (.idiv, 1) := by decide +kernel
theorem dL_step_250 : decode cL_step 250 = .ok (.iload 4, 2) := by decide +kernel
theorem dL_step_252 : decode cL_step 252 = .ok (.iconst 3, 1) := by decide +kernel
theorem dL_step_253 : decode cL_step 253 = .ok (.irem, 1) := by decide +kernel
theorem dL_step_254 : decode cL_step 254 = .ok (.ifCond .ne 9, 3) := by decide +kernel
theorem dL_step_257 : decode cL_step 257 = .ok (.sipush 400, 3) := by decide +kernel
theorem dL_step_260 : decode cL_step 260 = .ok (.goto 6, 3) := by decide +kernel
theorem dL_step_263 : decode cL_step 263 = .ok (.sipush 300, 3) := by decide +kernel
theorem dL_step_266 : decode cL_step 266 = .ok (.irem, 1) := by decide +kernel
theorem dL_step_267 : decode cL_step 267 = .ok (.iadd, 1) := by decide +kernel
theorem dL_step_268 : decode cL_step 268 = .ok (.invokestatic 20, 3) := by decide +kernel
theorem dL_step_271 : decode cL_step 271 = .ok (.ifCond .eq 7, 3) := by decide +kernel
theorem dL_step_274 : decode cL_step 274 = .ok (.iconst 1, 1) := by decide +kernel
theorem dL_step_275 : decode cL_step 275 = .ok (.goto 4, 3) := by decide +kernel
theorem dL_step_278 : decode cL_step 278 = .ok (.iconst 0, 1) := by decide +kernel
theorem dL_step_279 : decode cL_step 279 = .ok (.ireturn, 1) := by decide +kernel
theorem dL_step_280 : decode cL_step 280 = .ok (.aload_n 1, 1) := by decide +kernel
theorem dL_step_281 : decode cL_step 281 = .ok (.iconst 1, 1) := by decide +kernel
theorem dL_step_282 : decode cL_step 282 = .ok (.iaload, 1) := by decide +kernel
theorem dL_step_283 : decode cL_step 283 = .ok (.ifCond .eq 20, 3) := by decide +kernel
theorem dL_step_286 : decode cL_step 286 = .ok (.iload 4, 2) := by decide +kernel
theorem dL_step_288 : decode cL_step 288 = .ok (.iconst 3, 1) := by decide +kernel
theorem dL_step_289 : decode cL_step 289 = .ok (.irem, 1) := by decide +kernel
theorem dL_step_290 : decode cL_step 290 = .ok (.ifCond .gt 13, 3) := by decide +kernel
theorem dL_step_293 : decode cL_step 293 = .ok (.aload_n 0, 1) := by decide +kernel
theorem dL_step_294 : decode cL_step 294 = .ok (.aload_n 1, 1) := by decide +kernel
theorem dL_step_295 : decode cL_step 295 = .ok (.iload 5, 2) := by decide +kernel
theorem dL_step_297 : decode cL_step 297 = .ok (.invokestatic 24, 3) := by decide +kernel
theorem dL_step_300 : decode cL_step 300 = .ok (.ifCond .eq 7, 3) := by decide +kernel
theorem dL_step_303 : decode cL_step 303 = .ok (.iconst 1, 1) := by decide +kernel
theorem dL_step_304 : decode cL_step 304 = .ok (.goto 4, 3) := by decide +kernel
theorem dL_step_307 : decode cL_step 307 = .ok (.iconst 0, 1) := by decide +kernel
theorem dL_step_308 : decode cL_step 308 = .ok (.ireturn, 1) := by decide +kernel
theorem dL_step_309 : decode cL_step 309 = .ok (.aload_n 0, 1) := by decide +kernel
theorem dL_step_310 : decode cL_step 310 = .ok (.aload_n 1, 1) := by decide +kernel
theorem dL_step_311 : decode cL_step 311 = .ok (.iconst 1, 1) := by decide +kernel
theorem dL_step_312 : decode cL_step 312 = .ok (.iload 4, 2) := by decide +kernel
theorem dL_step_314 : decode cL_step 314 = .ok (.iload_n 3, 1) := by decide +kernel
theorem dL_step_315 : decode cL_step 315 = .ok (.iconst 3, 1) := by decide +kernel
theorem dL_step_316 : decode cL_step 316 = .ok (.irem, 1) := by decide +kernel
theorem dL_step_317 : decode cL_step 317 = .ok (.ifCond .ne 8, 3) := by decide +kernel
theorem dL_step_320 : decode cL_step 320 = .ok (.bipush 60, 2) := by decide +kernel
theorem dL_step_322 : decode cL_step 322 = .ok (.goto 5, 3) := by decide +kernel
theorem dL_step_325 : decode cL_step 325 = .ok (.bipush 7, 2) := by decide +kernel
theorem dL_step_327 : decode cL_step 327 = .ok (.irem, 1) := by decide +kernel
theorem dL_step_328 : decode cL_step 328 = .ok (.iadd, 1) := by decide +kernel
theorem dL_step_329 : decode cL_step 329 = .ok (.invokestatic 27, 3) := by decide +kernel
theorem dL_step_332 : decode cL_step 332 = .ok (.ireturn, 1) := by decide +kernel
theorem dL_registers_0 : decode cL_registers 0 = .ok (.aload_n 0, 1) := by decide +kernel
theorem dL_registers_1 : decode cL_registers 1 = .ok (.iload_n 2, 1) := by decide +kernel
theorem dL_registers_2 : decode cL_registers 2 = .ok (.invokevirtual 30, 3) := by decide +kernel
theorem dL_registers_5 : decode cL_registers 5 = .ok (.istore 6, 2) := by decide +kernel
theorem dL_registers_7 : decode cL_registers 7 = .ok (.iconst (-1), 1) := by decide +kernel
theorem dL_registers_8 : decode cL_registers 8 = .ok (.istore 7, 2) := by decide +kernel
theorem dL_registers_10 : decode cL_registers 10 = .ok (.iconst 0, 1) := by decide +kernel
theorem dL_registers_11 : decode cL_registers 11 = .ok (.istore 8, 2) := by decide +kernel
theorem dL_registers_13 : decode cL_registers 13 = .ok (.iload 8, 2) := by decide +kernel
theorem dL_registers_15 : decode cL_registers 15 = .ok (.iload 6, 2) := by decide +kernel
theorem dL_registers_17 : decode cL_registers 17 = .ok (.if_icmp .ge 32, 3) := by decide +kernel
theorem dL_registers_20 : decode cL_registers 20 = .ok (.aload_n 0, 1) := by decide +kernel
theorem dL_registers_21 : decode cL_registers 21 = .ok (.iload_n 2, 1) := by decide +kernel
theorem dL_registers_22 : decode cL_registers 22 = .ok (.iload 8, 2) := by decide +kernel
theorem dL_registers_24 : decode cL_registers 24 = .ok (.invokevirtual 36, 3) := by decide +kernel
theorem dL_registers_27 : decode cL_registers 27 = .ok (.bipush 100, 2) := by decide +kernel
theorem dL_registers_29 : decode cL_registers 29 = .ok (.idiv, 1) := by decide +kernel
theorem dL_registers_30 : decode cL_registers 30 = .ok (.iload_n 3, 1) := by decide +kernel
theorem dL_registers_31 : decode cL_registers 31 = .ok (.if_icmp .ne 8, 3) := by decide +kernel
theorem dL_registers_34 : decode cL_registers 34 = .ok (.iload 8, 2) := by decide +kernel
theorem dL_registers_36 : decode cL_registers 36 = .ok (.goto 5, 3) := by decide +kernel
theorem dL_registers_39 : decode cL_registers 39 = .ok (.iload 7, 2) := by decide +kernel
theorem dL_registers_41 : decode cL_registers 41 = .ok (.istore 7, 2) := by decide +kernel
theorem dL_registers_43 : decode cL_registers 43 = .ok (.iinc 8 1, 3) := by decide +kernel
theorem dL_registers_46 : decode cL_registers 46 = .ok (.goto (-33), 3) := by decide +kernel
theorem dL_registers_49 : decode cL_registers 49 = .ok (.aload_n 1, 1) := by decide +kernel
theorem dL_registers_50 : decode cL_registers 50 = .ok (.iconst 2, 1) := by decide +kernel
theorem dL_registers_51 : decode cL_registers 51 = .ok (.iaload, 1) := by decide +kernel
theorem dL_registers_52 : decode cL_registers 52 = .ok (.sipush 10000, 3) := by decide +kernel
theorem dL_registers_55 : decode cL_registers 55 = .ok (.if_icmp .gt 21, 3) := by decide +kernel
theorem dL_registers_58 : decode cL_registers 58 = .ok (.iload 5, 2) := by decide +kernel
theorem dL_registers_60 : decode cL_registers 60 = .ok (.ifCond .le 29, 3) := by decide +kernel
theorem dL_registers_63 : decode cL_registers 63 = .ok (.iload 7, 2) := by decide +kernel
theorem dL_registers_65 : decode cL_registers 65 = .ok (.iconst (-1), 1) := by decide +kernel
theorem dL_registers_66 : decode cL_registers 66 = .ok (.if_icmp .ne 23, 3) := by decide +kernel
theorem dL_registers_69 : decode cL_registers 69 = .ok (.iload 6, 2) := by decide +kernel
theorem dL_registers_71 : decode cL_registers 71 = .ok (.bipush 6, 2) := by decide +kernel
theorem dL_registers_73 : decode cL_registers 73 = .ok (.if_icmp .ne 16, 3) := by decide +kernel
theorem dL_registers_76 : decode cL_registers 76 = .ok (.iload 6, 2) := by decide +kernel
theorem dL_registers_78 : decode cL_registers 78 = .ok (.bipush 6, 2) := by decide +kernel
theorem dL_registers_80 : decode cL_registers 80 = .ok (.if_icmp .gt 7, 3) := by decide +kernel
theorem dL_registers_83 : decode cL_registers 83 = .ok (.iconst 1, 1) := by decide +kernel
theorem dL_registers_84 : decode cL_registers 84 = .ok (.goto 4, 3) := by decide +kernel
theorem dL_registers_87 : decode cL_registers 87 = .ok (.iconst 0, 1) := by decide +kernel
theorem dL_registers_88 : decode cL_registers 88 = .ok (.ireturn, 1) := by decide +kernel
theorem dL_registers_89 : decode cL_registers 89 = .ok (.aload_n 1, 1) := by decide +kernel
theorem dL_registers_90 : decode cL_registers 90 = .ok (.iconst 2, 1) := by decide +kernel
theorem dL_registers_91 : decode cL_registers 91 = .ok (.dup2, 1) := by decide +kernel
theorem dL_registers_92 : decode cL_registers 92 = .ok (.iaload, 1) := by decide +kernel
theorem dL_registers_93 : decode cL_registers 93 = .ok (.iconst 1, 1) := by decide +kernel
theorem dL_registers_94 : decode cL_registers 94 = .ok (.iadd, 1) := by decide +kernel
theorem dL_registers_95 : decode cL_registers 95 = .ok (.iastore, 1) := by decide +kernel
theorem dL_registers_96 : decode cL_registers 96 = .ok (.iload 6, 2) := by decide +kernel
theorem dL_registers_98 : decode cL_registers 98 = .ok (.iload 5, 2) := by decide +kernel
theorem dL_registers_100 : decode cL_registers 100 = .ok (.ifCond .le 13, 3) := by decide +kernel
theorem dL_registers_103 : decode cL_registers 103 = .ok (.iload 7, 2) := by decide +kernel
theorem dL_registers_105 : decode cL_registers 105 = .ok (.iconst (-1), 1) := by decide +kernel
theorem dL_registers_106 : decode cL_registers 106 = .ok (.if_icmp .ne 7, 3) := by decide +kernel
theorem dL_registers_109 : decode cL_registers 109 = .ok (.iconst 1, 1) := by decide +kernel
theorem dL_registers_110 : decode cL_registers 110 = .ok (.goto 4, 3) := by decide +kernel
theorem dL_registers_113 : decode cL_registers 113 = .ok (.iconst 0, 1) := by decide +kernel
theorem dL_registers_114 : decode cL_registers 114 = .ok (.iadd, 1) := by decide +kernel
theorem dL_registers_115 : decode cL_registers 115 = .ok (.iload 5, 2) := by decide +kernel
theorem dL_registers_117 : decode cL_registers 117 = .ok (.ifCond .ne 13, 3) := by decide +kernel
theorem dL_registers_120 : decode cL_registers 120 = .ok (.iload 7, 2) := by decide +kernel
theorem dL_registers_122 : decode cL_registers 122 = .ok (.iconst (-1), 1) := by decide +kernel
theorem dL_registers_123 : decode cL_registers 123 = .ok (.if_icmp .eq 7, 3) := by decide +kernel
theorem dL_registers_126 : decode cL_registers 126 = .ok (.iconst 1, 1) := by decide +kernel
theorem dL_registers_127 : decode cL_registers 127 = .ok (.goto 4, 3) := by decide +kernel
theorem dL_registers_130 : decode cL_registers 130 = .ok (.iconst 0, 1) := by decide +kernel
theorem dL_registers_131 : decode cL_registers 131 = .ok (.isub, 1) := by decide +kernel
theorem dL_registers_132 : decode cL_registers 132 = .ok (.istore 8, 2) := by decide +kernel
theorem dL_registers_134 : decode cL_registers 134 = .ok (.aload_n 0, 1) := by decide +kernel
theorem dL_registers_135 : decode cL_registers 135 = .ok (.iload_n 2, 1) := by decide +kernel
theorem dL_registers_136 : decode cL_registers 136 = .ok (.iload_n 3, 1) := by decide +kernel
theorem dL_registers_137 : decode cL_registers 137 = .ok (.iload 4, 2) := by decide +kernel
theorem dL_registers_139 : decode cL_registers 139 = .ok (.iload 5, 2) := by decide +kernel
theorem dL_registers_141 : decode cL_registers 141 = .ok (.aload_n 1, 1) := by decide +kernel
theorem dL_registers_142 : decode cL_registers 142 = .ok (.iconst 2, 1) := by decide +kernel
theorem dL_registers_143 : decode cL_registers 143 = .ok (.iaload, 1) := by decide +kernel
theorem dL_registers_144 : decode cL_registers 144 = .ok (.iconst 1, 1) := by decide +kernel
theorem dL_registers_145 : decode cL_registers 145 = .ok (.isub, 1) := by decide +kernel
theorem dL_registers_146 : decode cL_registers 146 = .ok (.invokevirtual 40, 3) := by decide +kernel
theorem dL_registers_149 : decode cL_registers 149 = .ok (.iload 8, 2) := by decide +kernel
theorem dL_registers_151 : decode cL_registers 151 = .ok (.if_icmp .ne 17, 3) := by decide +kernel
theorem dL_registers_154 : decode cL_registers 154 = .ok (.aload_n 0, 1) := by decide +kernel
theorem dL_registers_155 : decode cL_registers 155 = .ok (.iload_n 2, 1) := by decide +kernel
theorem dL_registers_156 : decode cL_registers 156 = .ok (.invokevirtual 30, 3) := by decide +kernel
theorem dL_registers_159 : decode cL_registers 159 = .ok (.iload 8, 2) := by decide +kernel
theorem dL_registers_161 : decode cL_registers 161 = .ok (.if_icmp .ne 7, 3) := by decide +kernel
theorem dL_registers_164 : decode cL_registers 164 = .ok (.iconst 1, 1) := by decide +kernel
theorem dL_registers_165 : decode cL_registers 165 = .ok (.goto 4, 3) := by decide +kernel
theorem dL_registers_168 : decode cL_registers 168 = .ok (.iconst 0, 1) := by decide +kernel
theorem dL_registers_169 : decode cL_registers 169 = .ok (.istore 9, 2) := by decide +kernel
theorem dL_registers_171 : decode cL_registers 171 = .ok (.iload 9, 2) := by decide +kernel
theorem dL_registers_173 : decode cL_registers 173 = .ok (.ifCond .eq 35, 3) := by decide +kernel
theorem dL_registers_176 : decode cL_registers 176 = .ok (.iload 5, 2) := by decide +kernel
theorem dL_registers_178 : decode cL_registers 178 = .ok (.ifCond .eq 26, 3) := by decide +kernel
theorem dL_registers_181 : decode cL_registers 181 = .ok (.iload 7, 2) := by decide +kernel
theorem dL_registers_183 : decode cL_registers 183 = .ok (.iconst (-1), 1) := by decide +kernel
theorem dL_registers_184 : decode cL_registers 184 = .ok (.if_icmp .eq 20, 3) := by decide +kernel
theorem dL_registers_187 : decode cL_registers 187 = .ok (.aload_n 0, 1) := by decide +kernel
theorem dL_registers_188 : decode cL_registers 188 = .ok (.iload_n 2, 1) := by decide +kernel
theorem dL_registers_189 : decode cL_registers 189 = .ok (.iload 7, 2) := by decide +kernel
theorem dL_registers_191 : decode cL_registers 191 = .ok (.invokevirtual 36, 3) := by decide +kernel
theorem dL_registers_194 : decode cL_registers 194 = .ok (.bipush 100, 2) := by decide +kernel
theorem dL_registers_196 : decode cL_registers 196 = .ok (.iload_n 3, 1) := by decide +kernel
theorem dL_registers_197 : decode cL_registers 197 = .ok (.imul, 1) := by decide +kernel
theorem dL_registers_198 : decode cL_registers 198 = .ok (.iload 4, 2) := by decide +kernel
theorem dL_registers_200 : decode cL_registers 200 = .ok (.iadd, 1) := by decide +kernel
theorem dL_registers_201 : decode cL_registers 201 = .ok (.if_icmp .ne 7, 3) := by decide +kernel
theorem dL_registers_204 : decode cL_registers 204 = .ok (.iconst 1, 1) := by decide +kernel
theorem dL_registers_205 : decode cL_registers 205 = .ok (.goto 4, 3) := by decide +kernel
theorem dL_registers_208 : decode cL_registers 208 = .ok (.iconst 0, 1) := by decide +kernel
theorem dL_registers_209 : decode cL_registers 209 = .ok (.ireturn, 1) := by decide +kernel
theorem dL_calls_0 : decode cL_calls 0 = .ok (.aload_n 1, 1) := by decide +kernel
theorem dL_calls_1 : decode cL_calls 1 = .ok (.iconst 1, 1) := by decide +kernel
theorem dL_calls_2 : decode cL_calls 2 = .ok (.iaload, 1) := by decide +kernel
theorem dL_calls_3 : decode cL_calls 3 = .ok (.istore_n 3, 1) := by decide +kernel
theorem dL_calls_4 : decode cL_calls 4 = .ok (.aload_n 1, 1) := by decide +kernel
theorem dL_calls_5 : decode cL_calls 5 = .ok (.iconst 1, 1) := by decide +kernel
theorem dL_calls_6 : decode cL_calls 6 = .ok (.dup2, 1) := by decide +kernel
theorem dL_calls_7 : decode cL_calls 7 = .ok (.iaload, 1) := by decide +kernel
theorem dL_calls_8 : decode cL_calls 8 = .ok (.iconst 1, 1) := by decide +kernel
theorem dL_calls_9 : decode cL_calls 9 = .ok (.iadd, 1) := by decide +kernel
theorem dL_calls_10 : decode cL_calls 10 = .ok (.iastore, 1) := by decide +kernel
theorem dL_calls_11 : decode cL_calls 11 = .ok (.aload_n 0, 1) := by decide +kernel
theorem dL_calls_12 : decode cL_calls 12 = .ok (.iload_n 2, 1) := by decide +kernel
theorem dL_calls_13 : decode cL_calls 13 = .ok (.invokevirtual 30, 3) := by decide +kernel
theorem dL_calls_16 : decode cL_calls 16 = .ok (.istore 4, 2) := by decide +kernel
theorem dL_calls_18 : decode cL_calls 18 = .ok (.aload_n 0, 1) := by decide +kernel
theorem dL_calls_19 : decode cL_calls 19 = .ok (.iload_n 2, 1) := by decide +kernel
theorem dL_calls_20 : decode cL_calls 20 = .ok (.invokevirtual 44, 3) := by decide +kernel
theorem dL_calls_23 : decode cL_calls 23 = .ok (.iload_n 3, 1) := by decide +kernel
theorem dL_calls_24 : decode cL_calls 24 = .ok (.if_icmp .ne 58, 3) := by decide +kernel
theorem dL_calls_27 : decode cL_calls 27 = .ok (.aload_n 0, 1) := by decide +kernel
theorem dL_calls_28 : decode cL_calls 28 = .ok (.invokevirtual 47, 3) := by decide +kernel
theorem dL_calls_31 : decode cL_calls 31 = .ok (.aload_n 1, 1) := by decide +kernel
theorem dL_calls_32 : decode cL_calls 32 = .ok (.iconst 1, 1) := by decide +kernel
theorem dL_calls_33 : decode cL_calls 33 = .ok (.iaload, 1) := by decide +kernel
theorem dL_calls_34 : decode cL_calls 34 = .ok (.if_icmp .ne 48, 3) := by decide +kernel
theorem dL_calls_37 : decode cL_calls 37 = .ok (.aload_n 0, 1) := by decide +kernel
theorem dL_calls_38 : decode cL_calls 38 = .ok (.iload_n 3, 1) := by decide +kernel
theorem dL_calls_39 : decode cL_calls 39 = .ok (.invokevirtual 50, 3) := by decide +kernel
theorem dL_calls_42 : decode cL_calls 42 = .ok (.iconst (-1), 1) := by decide +kernel
theorem dL_calls_43 : decode cL_calls 43 = .ok (.if_icmp .ne 39, 3) := by decide +kernel
theorem dL_calls_46 : decode cL_calls 46 = .ok (.iload 4, 2) := by decide +kernel
theorem dL_calls_48 : decode cL_calls 48 = .ok (.ifCond .gt 11, 3) := by decide +kernel
theorem dL_calls_51 : decode cL_calls 51 = .ok (.aload_n 0, 1) := by decide +kernel
theorem dL_calls_52 : decode cL_calls 52 = .ok (.iload_n 3, 1) := by decide +kernel
theorem dL_calls_53 : decode cL_calls 53 = .ok (.invokevirtual 53, 3) := by decide +kernel
theorem dL_calls_56 : decode cL_calls 56 = .ok (.ifCond .ne 26, 3) := by decide +kernel
theorem dL_calls_59 : decode cL_calls 59 = .ok (.aload_n 0, 1) := by decide +kernel
theorem dL_calls_60 : decode cL_calls 60 = .ok (.iload_n 3, 1) := by decide +kernel
theorem dL_calls_61 : decode cL_calls 61 = .ok (.invokevirtual 53, 3) := by decide +kernel
theorem dL_calls_64 : decode cL_calls 64 = .ok (.ifCond .gt 14, 3) := by decide +kernel
theorem dL_calls_67 : decode cL_calls 67 = .ok (.aload_n 0, 1) := by decide +kernel
theorem dL_calls_68 : decode cL_calls 68 = .ok (.iload_n 3, 1) := by decide +kernel
theorem dL_calls_69 : decode cL_calls 69 = .ok (.invokevirtual 56, 3) := by decide +kernel
theorem dL_calls_72 : decode cL_calls 72 = .ok (.sipush 480, 3) := by decide +kernel
theorem dL_calls_75 : decode cL_calls 75 = .ok (.if_icmp .ne 7, 3) := by decide +kernel
theorem dL_calls_78 : decode cL_calls 78 = .ok (.iconst 1, 1) := by decide +kernel
theorem dL_calls_79 : decode cL_calls 79 = .ok (.goto 4, 3) := by decide +kernel
theorem dL_calls_82 : decode cL_calls 82 = .ok (.iconst 0, 1) := by decide +kernel
theorem dL_calls_83 : decode cL_calls 83 = .ok (.istore 5, 2) := by decide +kernel
theorem dL_calls_85 : decode cL_calls 85 = .ok (.iconst 0, 1) := by decide +kernel
theorem dL_calls_86 : decode cL_calls 86 = .ok (.istore 6, 2) := by decide +kernel
theorem dL_calls_88 : decode cL_calls 88 = .ok (.iconst 0, 1) := by decide +kernel
theorem dL_calls_89 : decode cL_calls 89 = .ok (.istore 7, 2) := by decide +kernel
theorem dL_calls_91 : decode cL_calls 91 = .ok (.iload 7, 2) := by decide +kernel
theorem dL_calls_93 : decode cL_calls 93 = .ok (.aload_n 0, 1) := by decide +kernel
theorem dL_calls_94 : decode cL_calls 94 = .ok (.iload_n 3, 1) := by decide +kernel
theorem dL_calls_95 : decode cL_calls 95 = .ok (.invokevirtual 53, 3) := by decide +kernel
theorem dL_calls_98 : decode cL_calls 98 = .ok (.if_icmp .ge 110, 3) := by decide +kernel
theorem dL_calls_101 : decode cL_calls 101 = .ok (.iload 5, 2) := by decide +kernel
theorem dL_calls_103 : decode cL_calls 103 = .ok (.ifCond .eq 105, 3) := by decide +kernel
theorem dL_calls_106 : decode cL_calls 106 = .ok (.aload_n 0, 1) := by decide +kernel
theorem dL_calls_107 : decode cL_calls 107 = .ok (.iload_n 3, 1) := by decide +kernel
theorem dL_calls_108 : decode cL_calls 108 = .ok (.iload 7, 2) := by decide +kernel
theorem dL_calls_110 : decode cL_calls 110 = .ok (.invokevirtual 59, 3) := by decide +kernel
theorem dL_calls_113 : decode cL_calls 113 = .ok (.istore 8, 2) := by decide +kernel
theorem dL_calls_115 : decode cL_calls 115 = .ok (.aload_n 0, 1) := by decide +kernel
theorem dL_calls_116 : decode cL_calls 116 = .ok (.iload_n 3, 1) := by decide +kernel
theorem dL_calls_117 : decode cL_calls 117 = .ok (.iload 7, 2) := by decide +kernel
theorem dL_calls_119 : decode cL_calls 119 = .ok (.invokevirtual 62, 3) := by decide +kernel
theorem dL_calls_122 : decode cL_calls 122 = .ok (.istore 9, 2) := by decide +kernel
theorem dL_calls_124 : decode cL_calls 124 = .ok (.iload 8, 2) := by decide +kernel
theorem dL_calls_126 : decode cL_calls 126 = .ok (.iconst (-1), 1) := by decide +kernel
theorem dL_calls_127 : decode cL_calls 127 = .ok (.if_icmp .ne 27, 3) := by decide +kernel
theorem dL_calls_130 : decode cL_calls 130 = .ok (.iload 9, 2) := by decide +kernel
theorem dL_calls_132 : decode cL_calls 132 = .ok (.sipush 482, 3) := by decide +kernel
theorem dL_calls_135 : decode cL_calls 135 = .ok (.if_icmp .eq 11, 3) := by decide +kernel
theorem dL_calls_138 : decode cL_calls 138 = .ok (.iload 9, 2) := by decide +kernel
theorem dL_calls_140 : decode cL_calls 140 = .ok (.sipush 483, 3) := by decide +kernel
theorem dL_calls_143 : decode cL_calls 143 = .ok (.if_icmp .ne 7, 3) := by decide +kernel
theorem dL_calls_146 : decode cL_calls 146 = .ok (.iconst 1, 1) := by decide +kernel
theorem dL_calls_147 : decode cL_calls 147 = .ok (.goto 34, 3) := by decide +kernel
theorem dL_calls_150 : decode cL_calls 150 = .ok (.iconst 0, 1) := by decide +kernel
theorem dL_calls_151 : decode cL_calls 151 = .ok (.goto 30, 3) := by decide +kernel
theorem dL_calls_154 : decode cL_calls 154 = .ok (.iload 6, 2) := by decide +kernel
theorem dL_calls_156 : decode cL_calls 156 = .ok (.iload 8, 2) := by decide +kernel
theorem dL_calls_158 : decode cL_calls 158 = .ok (.ishr, 1) := by decide +kernel
theorem dL_calls_159 : decode cL_calls 159 = .ok (.iconst 1, 1) := by decide +kernel
theorem dL_calls_160 : decode cL_calls 160 = .ok (.iand, 1) := by decide +kernel
theorem dL_calls_161 : decode cL_calls 161 = .ok (.ifCond .ne 19, 3) := by decide +kernel
theorem dL_calls_164 : decode cL_calls 164 = .ok (.iload 9, 2) := by decide +kernel
theorem dL_calls_166 : decode cL_calls 166 = .ok (.ifCond .eq 10, 3) := by decide +kernel
theorem dL_calls_169 : decode cL_calls 169 = .ok (.iload 9, 2) := by decide +kernel
theorem dL_calls_171 : decode cL_calls 171 = .ok (.bipush 100, 2) := by decide +kernel
theorem dL_calls_173 : decode cL_calls 173 = .ok (.if_icmp .ne 7, 3) := by decide +kernel
theorem dL_calls_176 : decode cL_calls 176 = .ok (.iconst 1, 1) := by decide +kernel
theorem dL_calls_177 : decode cL_calls 177 = .ok (.goto 4, 3) := by decide +kernel
theorem dL_calls_180 : decode cL_calls 180 = .ok (.iconst 0, 1) := by decide +kernel
theorem dL_calls_181 : decode cL_calls 181 = .ok (.istore 5, 2) := by decide +kernel
theorem dL_calls_183 : decode cL_calls 183 = .ok (.iload 6, 2) := by decide +kernel
theorem dL_calls_185 : decode cL_calls 185 = .ok (.iload 8, 2) := by decide +kernel
theorem dL_calls_187 : decode cL_calls 187 = .ok (.iconst (-1), 1) := by decide +kernel
theorem dL_calls_188 : decode cL_calls 188 = .ok (.if_icmp .ne 7, 3) := by decide +kernel
theorem dL_calls_191 : decode cL_calls 191 = .ok (.iconst 0, 1) := by decide +kernel
theorem dL_calls_192 : decode cL_calls 192 = .ok (.goto 7, 3) := by decide +kernel
theorem dL_calls_195 : decode cL_calls 195 = .ok (.iconst 1, 1) := by decide +kernel
theorem dL_calls_196 : decode cL_calls 196 = .ok (.iload 8, 2) := by decide +kernel
theorem dL_calls_198 : decode cL_calls 198 = .ok (.ishl, 1) := by decide +kernel
theorem dL_calls_199 : decode cL_calls 199 = .ok (.ior, 1) := by decide +kernel
theorem dL_calls_200 : decode cL_calls 200 = .ok (.istore 6, 2) := by decide +kernel
theorem dL_calls_202 : decode cL_calls 202 = .ok (.iinc 7 1, 3) := by decide +kernel
theorem dL_calls_205 : decode cL_calls 205 = .ok (.goto (-114), 3) := by decide +kernel
theorem dL_calls_208 : decode cL_calls 208 = .ok (.iconst 0, 1) := by decide +kernel
theorem dL_calls_209 : decode cL_calls 209 = .ok (.istore 7, 2) := by decide +kernel
theorem dL_calls_211 : decode cL_calls 211 = .ok (.iload 7, 2) := by decide +kernel
theorem dL_calls_213 : decode cL_calls 213 = .ok (.iload 4, 2) := by decide +kernel
theorem dL_calls_215 : decode cL_calls 215 = .ok (.if_icmp .ge 61, 3) := by decide +kernel
theorem dL_calls_218 : decode cL_calls 218 = .ok (.iload 5, 2) := by decide +kernel
theorem dL_calls_220 : decode cL_calls 220 = .ok (.ifCond .eq 56, 3) := by decide +kernel
theorem dL_calls_223 : decode cL_calls 223 = .ok (.aload_n 0, 1) := by decide +kernel
theorem dL_calls_224 : decode cL_calls 224 = .ok (.iload_n 2, 1) := by decide +kernel
theorem dL_calls_225 : decode cL_calls 225 = .ok (.iload 7, 2) := by decide +kernel
theorem dL_calls_227 : decode cL_calls 227 = .ok (.invokevirtual 36, 3) := by decide +kernel
theorem dL_calls_230 : decode cL_calls 230 = .ok (.bipush 100, 2) := by decide +kernel
theorem dL_calls_232 : decode cL_calls 232 = .ok (.idiv, 1) := by decide +kernel
theorem dL_calls_233 : decode cL_calls 233 = .ok (.istore 8, 2) := by decide +kernel
theorem dL_calls_235 : decode cL_calls 235 = .ok (.iload 8, 2) := by decide +kernel
theorem dL_calls_237 : decode cL_calls 237 = .ok (.bipush 9, 2) := by decide +kernel
theorem dL_calls_239 : decode cL_calls 239 = .ok (.if_icmp .gt 24, 3) := by decide +kernel
theorem dL_calls_242 : decode cL_calls 242 = .ok (.iload 6, 2) := by decide +kernel
theorem dL_calls_244 : decode cL_calls 244 = .ok (.iload 8, 2) := by decide +kernel
theorem dL_calls_246 : decode cL_calls 246 = .ok (.ishr, 1) := by decide +kernel
theorem dL_calls_247 : decode cL_calls 247 = .ok (.iconst 1, 1) := by decide +kernel
theorem dL_calls_248 : decode cL_calls 248 = .ok (.iand, 1) := by decide +kernel
theorem dL_calls_249 : decode cL_calls 249 = .ok (.iconst 1, 1) := by decide +kernel
theorem dL_calls_250 : decode cL_calls 250 = .ok (.if_icmp .eq 13, 3) := by decide +kernel
theorem dL_calls_253 : decode cL_calls 253 = .ok (.aload_n 0, 1) := by decide +kernel
theorem dL_calls_254 : decode cL_calls 254 = .ok (.iload_n 3, 1) := by decide +kernel
theorem dL_calls_255 : decode cL_calls 255 = .ok (.invokevirtual 53, 3) := by decide +kernel
theorem dL_calls_258 : decode cL_calls 258 = .ok (.bipush 12, 2) := by decide +kernel
theorem dL_calls_260 : decode cL_calls 260 = .ok (.if_icmp .ne 7, 3) := by decide +kernel
theorem dL_calls_263 : decode cL_calls 263 = .ok (.iconst 1, 1) := by decide +kernel
theorem dL_calls_264 : decode cL_calls 264 = .ok (.goto 4, 3) := by decide +kernel
theorem dL_calls_267 : decode cL_calls 267 = .ok (.iconst 0, 1) := by decide +kernel
theorem dL_calls_268 : decode cL_calls 268 = .ok (.istore 5, 2) := by decide +kernel
theorem dL_calls_270 : decode cL_calls 270 = .ok (.iinc 7 1, 3) := by decide +kernel
theorem dL_calls_273 : decode cL_calls 273 = .ok (.goto (-62), 3) := by decide +kernel
theorem dL_calls_276 : decode cL_calls 276 = .ok (.iload 5, 2) := by decide +kernel
theorem dL_calls_278 : decode cL_calls 278 = .ok (.ireturn, 1) := by decide +kernel
theorem dL_branchOf_0 : decode cL_branchOf 0 = .ok (.iconst (-1), 1) := by decide +kernel
theorem dL_branchOf_1 : decode cL_branchOf 1 = .ok (.istore_n 3, 1) := by decide +kernel
theorem dL_branchOf_2 : decode cL_branchOf 2 = .ok (.iconst 0, 1) := by decide +kernel
theorem dL_branchOf_3 : decode cL_branchOf 3 = .ok (.istore 4, 2) := by decide +kernel
theorem dL_branchOf_5 : decode cL_branchOf 5 = .ok (.iload 4, 2) := by decide +kernel
theorem dL_branchOf_7 : decode cL_branchOf 7 = .ok (.aload_n 0, 1) := by decide +kernel
theorem dL_branchOf_8 : decode cL_branchOf 8 = .ok (.iload_n 1, 1) := by decide +kernel
theorem dL_branchOf_9 : decode cL_branchOf 9 = .ok (.invokevirtual 53, 3) := by decide +kernel
theorem dL_branchOf_12 : decode cL_branchOf 12 = .ok (.if_icmp .ge 27, 3) := by decide +kernel
theorem dL_branchOf_15 : decode cL_branchOf 15 = .ok (.aload_n 0, 1) := by decide +kernel
theorem dL_branchOf_16 : decode cL_branchOf 16 = .ok (.iload_n 1, 1) := by decide +kernel
theorem dL_branchOf_17 : decode cL_branchOf 17 = .ok (.iload 4, 2) := by decide +kernel
theorem dL_branchOf_19 : decode cL_branchOf 19 = .ok (.invokevirtual 59, 3) := by decide +kernel
theorem dL_branchOf_22 : decode cL_branchOf 22 = .ok (.iload_n 2, 1) := by decide +kernel
theorem dL_branchOf_23 : decode cL_branchOf 23 = .ok (.if_icmp .ne 8, 3) := by decide +kernel
theorem dL_branchOf_26 : decode cL_branchOf 26 = .ok (.iload 4, 2) := by decide +kernel
theorem dL_branchOf_28 : decode cL_branchOf 28 = .ok (.goto 4, 3) := by decide +kernel
theorem dL_branchOf_31 : decode cL_branchOf 31 = .ok (.iload_n 3, 1) := by decide +kernel
theorem dL_branchOf_32 : decode cL_branchOf 32 = .ok (.istore_n 3, 1) := by decide +kernel
theorem dL_branchOf_33 : decode cL_branchOf 33 = .ok (.iinc 4 1, 3) := by decide +kernel
theorem dL_branchOf_36 : decode cL_branchOf 36 = .ok (.goto (-31), 3) := by decide +kernel
theorem dL_branchOf_39 : decode cL_branchOf 39 = .ok (.iload_n 3, 1) := by decide +kernel
theorem dL_branchOf_40 : decode cL_branchOf 40 = .ok (.ireturn, 1) := by decide +kernel
theorem dL_answers_0 : decode cL_answers 0 = .ok (.aload_n 0, 1) := by decide +kernel
theorem dL_answers_1 : decode cL_answers 1 = .ok (.iload_n 2, 1) := by decide +kernel
theorem dL_answers_2 : decode cL_answers 2 = .ok (.invokevirtual 53, 3) := by decide +kernel
theorem dL_answers_5 : decode cL_answers 5 = .ok (.istore 5, 2) := by decide +kernel
theorem dL_answers_7 : decode cL_answers 7 = .ok (.iload 5, 2) := by decide +kernel
theorem dL_answers_9 : decode cL_answers 9 = .ok (.ifCond .ne 7, 3) := by decide +kernel
theorem dL_answers_12 : decode cL_answers 12 = .ok (.iconst (-1), 1) := by decide +kernel
theorem dL_answers_13 : decode cL_answers 13 = .ok (.goto 7, 3) := by decide +kernel
theorem dL_answers_16 : decode cL_answers 16 = .ok (.iload_n 3, 1) := by decide +kernel
theorem dL_answers_17 : decode cL_answers 17 = .ok (.iload 5, 2) := by decide +kernel
theorem dL_answers_19 : decode cL_answers 19 = .ok (.irem, 1) := by decide +kernel
theorem dL_answers_20 : decode cL_answers 20 = .ok (.istore 6, 2) := by decide +kernel
theorem dL_answers_22 : decode cL_answers 22 = .ok (.iload 6, 2) := by decide +kernel
theorem dL_answers_24 : decode cL_answers 24 = .ok (.iconst (-1), 1) := by decide +kernel
theorem dL_answers_25 : decode cL_answers 25 = .ok (.if_icmp .ne 7, 3) := by decide +kernel
theorem dL_answers_28 : decode cL_answers 28 = .ok (.iconst (-1), 1) := by decide +kernel
theorem dL_answers_29 : decode cL_answers 29 = .ok (.goto 10, 3) := by decide +kernel
theorem dL_answers_32 : decode cL_answers 32 = .ok (.aload_n 0, 1) := by decide +kernel
theorem dL_answers_33 : decode cL_answers 33 = .ok (.iload_n 2, 1) := by decide +kernel
theorem dL_answers_34 : decode cL_answers 34 = .ok (.iload 6, 2) := by decide +kernel
theorem dL_answers_36 : decode cL_answers 36 = .ok (.invokevirtual 59, 3) := by decide +kernel
theorem dL_answers_39 : decode cL_answers 39 = .ok (.istore 7, 2) := by decide +kernel
theorem dL_answers_41 : decode cL_answers 41 = .ok (.iload 6, 2) := by decide +kernel
theorem dL_answers_43 : decode cL_answers 43 = .ok (.iconst (-1), 1) := by decide +kernel
theorem dL_answers_44 : decode cL_answers 44 = .ok (.if_icmp .ne 7, 3) := by decide +kernel
theorem dL_answers_47 : decode cL_answers 47 = .ok (.iconst 0, 1) := by decide +kernel
theorem dL_answers_48 : decode cL_answers 48 = .ok (.goto 10, 3) := by decide +kernel
theorem dL_answers_51 : decode cL_answers 51 = .ok (.aload_n 0, 1) := by decide +kernel
theorem dL_answers_52 : decode cL_answers 52 = .ok (.iload_n 2, 1) := by decide +kernel
theorem dL_answers_53 : decode cL_answers 53 = .ok (.iload 6, 2) := by decide +kernel
theorem dL_answers_55 : decode cL_answers 55 = .ok (.invokevirtual 62, 3) := by decide +kernel
theorem dL_answers_58 : decode cL_answers 58 = .ok (.istore 8, 2) := by decide +kernel
theorem dL_answers_60 : decode cL_answers 60 = .ok (.aload_n 0, 1) := by decide +kernel
theorem dL_answers_61 : decode cL_answers 61 = .ok (.iload_n 2, 1) := by decide +kernel
theorem dL_answers_62 : decode cL_answers 62 = .ok (.invokevirtual 56, 3) := by decide +kernel
theorem dL_answers_65 : decode cL_answers 65 = .ok (.istore 9, 2) := by decide +kernel
theorem dL_answers_67 : decode cL_answers 67 = .ok (.iload 7, 2) := by decide +kernel
theorem dL_answers_69 : decode cL_answers 69 = .ok (.iconst (-1), 1) := by decide +kernel
theorem dL_answers_70 : decode cL_answers 70 = .ok (.if_icmp .eq 18, 3) := by decide +kernel
theorem dL_answers_73 : decode cL_answers 73 = .ok (.iload 8, 2) := by decide +kernel
theorem dL_answers_75 : decode cL_answers 75 = .ok (.bipush 100, 2) := by decide +kernel
theorem dL_answers_77 : decode cL_answers 77 = .ok (.if_icmp .eq 28, 3) := by decide +kernel
theorem dL_answers_80 : decode cL_answers 80 = .ok (.iload 8, 2) := by decide +kernel
theorem dL_answers_82 : decode cL_answers 82 = .ok (.sipush 180, 3) := by decide +kernel
theorem dL_answers_85 : decode cL_answers 85 = .ok (.if_icmp .eq 20, 3) := by decide +kernel
theorem dL_answers_88 : decode cL_answers 88 = .ok (.iload 9, 2) := by decide +kernel
theorem dL_answers_90 : decode cL_answers 90 = .ok (.iconst (-1), 1) := by decide +kernel
theorem dL_answers_91 : decode cL_answers 91 = .ok (.if_icmp .ne 8, 3) := by decide +kernel
theorem dL_answers_94 : decode cL_answers 94 = .ok (.iload 5, 2) := by decide +kernel
theorem dL_answers_96 : decode cL_answers 96 = .ok (.ifCond .le 7, 3) := by decide +kernel
theorem dL_answers_99 : decode cL_answers 99 = .ok (.iconst 1, 1) := by decide +kernel
theorem dL_answers_100 : decode cL_answers 100 = .ok (.goto 4, 3) := by decide +kernel
theorem dL_answers_103 : decode cL_answers 103 = .ok (.iconst 0, 1) := by decide +kernel
theorem dL_answers_104 : decode cL_answers 104 = .ok (.ireturn, 1) := by decide +kernel
theorem dL_answers_105 : decode cL_answers 105 = .ok (.aload_n 0, 1) := by decide +kernel
theorem dL_answers_106 : decode cL_answers 106 = .ok (.iload_n 2, 1) := by decide +kernel
theorem dL_answers_107 : decode cL_answers 107 = .ok (.iload 7, 2) := by decide +kernel
theorem dL_answers_109 : decode cL_answers 109 = .ok (.iload 4, 2) := by decide +kernel
theorem dL_answers_111 : decode cL_answers 111 = .ok (.invokevirtual 65, 3) := by decide +kernel
theorem dL_answers_114 : decode cL_answers 114 = .ok (.istore 10, 2) := by decide +kernel
theorem dL_answers_116 : decode cL_answers 116 = .ok (.iload 4, 2) := by decide +kernel
theorem dL_answers_118 : decode cL_answers 118 = .ok (.sipush 200, 3) := by decide +kernel
theorem dL_answers_121 : decode cL_answers 121 = .ok (.if_icmp .lt 15, 3) := by decide +kernel
theorem dL_answers_124 : decode cL_answers 124 = .ok (.iload 4, 2) := by decide +kernel
theorem dL_answers_126 : decode cL_answers 126 = .ok (.sipush 300, 3) := by decide +kernel
theorem dL_answers_129 : decode cL_answers 129 = .ok (.if_icmp .ge 7, 3) := by decide +kernel
theorem dL_answers_132 : decode cL_answers 132 = .ok (.iconst 1, 1) := by decide +kernel
theorem dL_answers_133 : decode cL_answers 133 = .ok (.goto 4, 3) := by decide +kernel
theorem dL_answers_136 : decode cL_answers 136 = .ok (.iconst 0, 1) := by decide +kernel
theorem dL_answers_137 : decode cL_answers 137 = .ok (.istore 11, 2) := by decide +kernel
theorem dL_answers_139 : decode cL_answers 139 = .ok (.iload 9, 2) := by decide +kernel
theorem dL_answers_141 : decode cL_answers 141 = .ok (.iconst (-1), 1) := by decide +kernel
theorem dL_answers_142 : decode cL_answers 142 = .ok (.if_icmp .ne 29, 3) := by decide +kernel
theorem dL_answers_145 : decode cL_answers 145 = .ok (.aload_n 0, 1) := by decide +kernel
theorem dL_answers_146 : decode cL_answers 146 = .ok (.iload_n 2, 1) := by decide +kernel
theorem dL_answers_147 : decode cL_answers 147 = .ok (.invokevirtual 56, 3) := by decide +kernel
theorem dL_answers_150 : decode cL_answers 150 = .ok (.iload 10, 2) := by decide +kernel
theorem dL_answers_152 : decode cL_answers 152 = .ok (.if_icmp .ne 19, 3) := by decide +kernel
theorem dL_answers_155 : decode cL_answers 155 = .ok (.aload_n 0, 1) := by decide +kernel
theorem dL_answers_156 : decode cL_answers 156 = .ok (.iload_n 2, 1) := by decide +kernel
theorem dL_answers_157 : decode cL_answers 157 = .ok (.iload 6, 2) := by decide +kernel
theorem dL_answers_159 : decode cL_answers 159 = .ok (.invokevirtual 62, 3) := by decide +kernel
theorem dL_answers_162 : decode cL_answers 162 = .ok (.iload 4, 2) := by decide +kernel
theorem dL_answers_164 : decode cL_answers 164 = .ok (.if_icmp .ne 7, 3) := by decide +kernel
theorem dL_answers_167 : decode cL_answers 167 = .ok (.iconst 1, 1) := by decide +kernel
theorem dL_answers_168 : decode cL_answers 168 = .ok (.goto 4, 3) := by decide +kernel
theorem dL_answers_171 : decode cL_answers 171 = .ok (.iconst 0, 1) := by decide +kernel
theorem dL_answers_172 : decode cL_answers 172 = .ok (.istore 12, 2) := by decide +kernel
theorem dL_answers_174 : decode cL_answers 174 = .ok (.iload 4, 2) := by decide +kernel
theorem dL_answers_176 : decode cL_answers 176 = .ok (.sipush 180, 3) := by decide +kernel
theorem dL_answers_179 : decode cL_answers 179 = .ok (.if_icmp .ne 20, 3) := by decide +kernel
theorem dL_answers_182 : decode cL_answers 182 = .ok (.iload 12, 2) := by decide +kernel
theorem dL_answers_184 : decode cL_answers 184 = .ok (.ifCond .eq 13, 3) := by decide +kernel
theorem dL_answers_187 : decode cL_answers 187 = .ok (.iload 10, 2) := by decide +kernel
theorem dL_answers_189 : decode cL_answers 189 = .ok (.iconst (-1), 1) := by decide +kernel
theorem dL_answers_190 : decode cL_answers 190 = .ok (.if_icmp .ne 7, 3) := by decide +kernel
theorem dL_answers_193 : decode cL_answers 193 = .ok (.iconst 1, 1) := by decide +kernel
theorem dL_answers_194 : decode cL_answers 194 = .ok (.goto 4, 3) := by decide +kernel
theorem dL_answers_197 : decode cL_answers 197 = .ok (.iconst 0, 1) := by decide +kernel
theorem dL_answers_198 : decode cL_answers 198 = .ok (.ireturn, 1) := by decide +kernel
theorem dL_answers_199 : decode cL_answers 199 = .ok (.iload 12, 2) := by decide +kernel
theorem dL_answers_201 : decode cL_answers 201 = .ok (.ifCond .eq 56, 3) := by decide +kernel
theorem dL_answers_204 : decode cL_answers 204 = .ok (.iload 11, 2) := by decide +kernel
theorem dL_answers_206 : decode cL_answers 206 = .ok (.ifCond .eq 23, 3) := by decide +kernel
theorem dL_answers_209 : decode cL_answers 209 = .ok (.iload 10, 2) := by decide +kernel
theorem dL_answers_211 : decode cL_answers 211 = .ok (.iload 4, 2) := by decide +kernel
theorem dL_answers_213 : decode cL_answers 213 = .ok (.if_icmp .ne 44, 3) := by decide +kernel
theorem dL_answers_216 : decode cL_answers 216 = .ok (.aload_n 0, 1) := by decide +kernel
theorem dL_answers_217 : decode cL_answers 217 = .ok (.iload_n 2, 1) := by decide +kernel
theorem dL_answers_218 : decode cL_answers 218 = .ok (.invokevirtual 50, 3) := by decide +kernel
theorem dL_answers_221 : decode cL_answers 221 = .ok (.iload 6, 2) := by decide +kernel
theorem dL_answers_223 : decode cL_answers 223 = .ok (.if_icmp .ne 34, 3) := by decide +kernel
theorem dL_answers_226 : decode cL_answers 226 = .ok (.goto 12, 3) := by decide +kernel
theorem dL_answers_229 : decode cL_answers 229 = .ok (.aload_n 0, 1) := by decide +kernel
theorem dL_answers_230 : decode cL_answers 230 = .ok (.iload_n 2, 1) := by decide +kernel
theorem dL_answers_231 : decode cL_answers 231 = .ok (.invokevirtual 50, 3) := by decide +kernel
theorem dL_answers_234 : decode cL_answers 234 = .ok (.iconst (-1), 1) := by decide +kernel
theorem dL_answers_235 : decode cL_answers 235 = .ok (.if_icmp .ne 22, 3) := by decide +kernel
theorem dL_answers_238 : decode cL_answers 238 = .ok (.iload 4, 2) := by decide +kernel
theorem dL_answers_240 : decode cL_answers 240 = .ok (.sipush 600, 3) := by decide +kernel
theorem dL_answers_243 : decode cL_answers 243 = .ok (.if_icmp .lt 10, 3) := by decide +kernel
theorem dL_answers_246 : decode cL_answers 246 = .ok (.iload 10, 2) := by decide +kernel
theorem dL_answers_248 : decode cL_answers 248 = .ok (.iload 4, 2) := by decide +kernel
theorem dL_answers_250 : decode cL_answers 250 = .ok (.if_icmp .ne 7, 3) := by decide +kernel
theorem dL_answers_253 : decode cL_answers 253 = .ok (.iconst 1, 1) := by decide +kernel
theorem dL_answers_254 : decode cL_answers 254 = .ok (.goto 4, 3) := by decide +kernel
theorem dL_answers_257 : decode cL_answers 257 = .ok (.iconst 0, 1) := by decide +kernel
theorem dL_answers_258 : decode cL_answers 258 = .ok (.istore 12, 2) := by decide +kernel
theorem dL_answers_260 : decode cL_answers 260 = .ok (.iconst 0, 1) := by decide +kernel
theorem dL_answers_261 : decode cL_answers 261 = .ok (.istore 13, 2) := by decide +kernel
theorem dL_answers_263 : decode cL_answers 263 = .ok (.iconst 0, 1) := by decide +kernel
theorem dL_answers_264 : decode cL_answers 264 = .ok (.istore 14, 2) := by decide +kernel
theorem dL_answers_266 : decode cL_answers 266 = .ok (.iload 14, 2) := by decide +kernel
theorem dL_answers_268 : decode cL_answers 268 = .ok (.iload 5, 2) := by decide +kernel
theorem dL_answers_270 : decode cL_answers 270 = .ok (.if_icmp .ge 69, 3) := by decide +kernel
theorem dL_answers_273 : decode cL_answers 273 = .ok (.iload 12, 2) := by decide +kernel
theorem dL_answers_275 : decode cL_answers 275 = .ok (.ifCond .eq 64, 3) := by decide +kernel
theorem dL_answers_278 : decode cL_answers 278 = .ok (.iload 11, 2) := by decide +kernel
theorem dL_answers_280 : decode cL_answers 280 = .ok (.ifCond .ne 11, 3) := by decide +kernel
theorem dL_answers_283 : decode cL_answers 283 = .ok (.iload 4, 2) := by decide +kernel
theorem dL_answers_285 : decode cL_answers 285 = .ok (.sipush 600, 3) := by decide +kernel
theorem dL_answers_288 : decode cL_answers 288 = .ok (.if_icmp .lt 51, 3) := by decide +kernel
theorem dL_answers_291 : decode cL_answers 291 = .ok (.aload_n 0, 1) := by decide +kernel
theorem dL_answers_292 : decode cL_answers 292 = .ok (.iload_n 2, 1) := by decide +kernel
theorem dL_answers_293 : decode cL_answers 293 = .ok (.iload 14, 2) := by decide +kernel
theorem dL_answers_295 : decode cL_answers 295 = .ok (.invokevirtual 62, 3) := by decide +kernel
theorem dL_answers_298 : decode cL_answers 298 = .ok (.istore 15, 2) := by decide +kernel
theorem dL_answers_300 : decode cL_answers 300 = .ok (.iload 15, 2) := by decide +kernel
theorem dL_answers_302 : decode cL_answers 302 = .ok (.sipush 200, 3) := by decide +kernel
theorem dL_answers_305 : decode cL_answers 305 = .ok (.if_icmp .lt 7, 3) := by decide +kernel
theorem dL_answers_308 : decode cL_answers 308 = .ok (.iconst 1, 1) := by decide +kernel
theorem dL_answers_309 : decode cL_answers 309 = .ok (.goto 4, 3) := by decide +kernel
theorem dL_answers_312 : decode cL_answers 312 = .ok (.iconst 0, 1) := by decide +kernel
theorem dL_answers_313 : decode cL_answers 313 = .ok (.istore 12, 2) := by decide +kernel
theorem dL_answers_315 : decode cL_answers 315 = .ok (.iload 13, 2) := by decide +kernel
theorem dL_answers_317 : decode cL_answers 317 = .ok (.iload 15, 2) := by decide +kernel
theorem dL_answers_319 : decode cL_answers 319 = .ok (.sipush 487, 3) := by decide +kernel
theorem dL_answers_322 : decode cL_answers 322 = .ok (.if_icmp .ne 7, 3) := by decide +kernel
theorem dL_answers_325 : decode cL_answers 325 = .ok (.iconst 1, 1) := by decide +kernel
theorem dL_answers_326 : decode cL_answers 326 = .ok (.goto 4, 3) := by decide +kernel
theorem dL_answers_329 : decode cL_answers 329 = .ok (.iconst 0, 1) := by decide +kernel
theorem dL_answers_330 : decode cL_answers 330 = .ok (.iadd, 1) := by decide +kernel
theorem dL_answers_331 : decode cL_answers 331 = .ok (.istore 13, 2) := by decide +kernel
theorem dL_answers_333 : decode cL_answers 333 = .ok (.iinc 14 1, 3) := by decide +kernel
theorem dL_answers_336 : decode cL_answers 336 = .ok (.goto (-70), 3) := by decide +kernel
theorem dL_answers_339 : decode cL_answers 339 = .ok (.iload 12, 2) := by decide +kernel
theorem dL_answers_341 : decode cL_answers 341 = .ok (.ifCond .eq 26, 3) := by decide +kernel
theorem dL_answers_344 : decode cL_answers 344 = .ok (.iload 13, 2) := by decide +kernel
theorem dL_answers_346 : decode cL_answers 346 = .ok (.iload 5, 2) := by decide +kernel
theorem dL_answers_348 : decode cL_answers 348 = .ok (.if_icmp .gt 19, 3) := by decide +kernel
theorem dL_answers_351 : decode cL_answers 351 = .ok (.aload_n 0, 1) := by decide +kernel
theorem dL_answers_352 : decode cL_answers 352 = .ok (.iload_n 2, 1) := by decide +kernel
theorem dL_answers_353 : decode cL_answers 353 = .ok (.iload 7, 2) := by decide +kernel
theorem dL_answers_355 : decode cL_answers 355 = .ok (.invokestatic 69, 3) := by decide +kernel
theorem dL_answers_358 : decode cL_answers 358 = .ok (.iload 6, 2) := by decide +kernel
theorem dL_answers_360 : decode cL_answers 360 = .ok (.if_icmp .ne 7, 3) := by decide +kernel
theorem dL_answers_363 : decode cL_answers 363 = .ok (.iconst 1, 1) := by decide +kernel
theorem dL_answers_364 : decode cL_answers 364 = .ok (.goto 4, 3) := by decide +kernel
theorem dL_answers_367 : decode cL_answers 367 = .ok (.iconst 0, 1) := by decide +kernel
theorem dL_answers_368 : decode cL_answers 368 = .ok (.ireturn, 1) := by decide +kernel
theorem dL_cancels_0 : decode cL_cancels 0 = .ok (.aload_n 0, 1) := by decide +kernel
theorem dL_cancels_1 : decode cL_cancels 1 = .ok (.iload_n 2, 1) := by decide +kernel
theorem dL_cancels_2 : decode cL_cancels 2 = .ok (.invokevirtual 56, 3) := by decide +kernel
theorem dL_cancels_5 : decode cL_cancels 5 = .ok (.iconst (-1), 1) := by decide +kernel
theorem dL_cancels_6 : decode cL_cancels 6 = .ok (.if_icmp .eq 22, 3) := by decide +kernel
theorem dL_cancels_9 : decode cL_cancels 9 = .ok (.aload_n 0, 1) := by decide +kernel
theorem dL_cancels_10 : decode cL_cancels 10 = .ok (.iload_n 2, 1) := by decide +kernel
theorem dL_cancels_11 : decode cL_cancels 11 = .ok (.invokevirtual 73, 3) := by decide +kernel
theorem dL_cancels_14 : decode cL_cancels 14 = .ok (.aload_n 0, 1) := by decide +kernel
theorem dL_cancels_15 : decode cL_cancels 15 = .ok (.iload_n 2, 1) := by decide +kernel
theorem dL_cancels_16 : decode cL_cancels 16 = .ok (.invokevirtual 56, 3) := by decide +kernel
theorem dL_cancels_19 : decode cL_cancels 19 = .ok (.if_icmp .ne 7, 3) := by decide +kernel
theorem dL_cancels_22 : decode cL_cancels 22 = .ok (.iconst 1, 1) := by decide +kernel
theorem dL_cancels_23 : decode cL_cancels 23 = .ok (.goto 4, 3) := by decide +kernel
theorem dL_cancels_26 : decode cL_cancels 26 = .ok (.iconst 0, 1) := by decide +kernel
theorem dL_cancels_27 : decode cL_cancels 27 = .ok (.ireturn, 1) := by decide +kernel
theorem dL_cancels_28 : decode cL_cancels 28 = .ok (.iconst 0, 1) := by decide +kernel
theorem dL_cancels_29 : decode cL_cancels 29 = .ok (.istore_n 3, 1) := by decide +kernel
theorem dL_cancels_30 : decode cL_cancels 30 = .ok (.iconst (-1), 1) := by decide +kernel
theorem dL_cancels_31 : decode cL_cancels 31 = .ok (.istore 4, 2) := by decide +kernel
theorem dL_cancels_33 : decode cL_cancels 33 = .ok (.iconst 0, 1) := by decide +kernel
theorem dL_cancels_34 : decode cL_cancels 34 = .ok (.istore 5, 2) := by decide +kernel
theorem dL_cancels_36 : decode cL_cancels 36 = .ok (.iload 5, 2) := by decide +kernel
theorem dL_cancels_38 : decode cL_cancels 38 = .ok (.aload_n 0, 1) := by decide +kernel
theorem dL_cancels_39 : decode cL_cancels 39 = .ok (.iload_n 2, 1) := by decide +kernel
theorem dL_cancels_40 : decode cL_cancels 40 = .ok (.invokevirtual 53, 3) := by decide +kernel
theorem dL_cancels_43 : decode cL_cancels 43 = .ok (.if_icmp .ge 58, 3) := by decide +kernel
theorem dL_cancels_46 : decode cL_cancels 46 = .ok (.aload_n 0, 1) := by decide +kernel
theorem dL_cancels_47 : decode cL_cancels 47 = .ok (.iload_n 2, 1) := by decide +kernel
theorem dL_cancels_48 : decode cL_cancels 48 = .ok (.iload 5, 2) := by decide +kernel
theorem dL_cancels_50 : decode cL_cancels 50 = .ok (.invokevirtual 62, 3) := by decide +kernel
theorem dL_cancels_53 : decode cL_cancels 53 = .ok (.istore 6, 2) := by decide +kernel
theorem dL_cancels_55 : decode cL_cancels 55 = .ok (.iload_n 3, 1) := by decide +kernel
theorem dL_cancels_56 : decode cL_cancels 56 = .ok (.iload 6, 2) := by decide +kernel
theorem dL_cancels_58 : decode cL_cancels 58 = .ok (.sipush 200, 3) := by decide +kernel
theorem dL_cancels_61 : decode cL_cancels 61 = .ok (.if_icmp .ge 7, 3) := by decide +kernel
theorem dL_cancels_64 : decode cL_cancels 64 = .ok (.iconst 1, 1) := by decide +kernel
theorem dL_cancels_65 : decode cL_cancels 65 = .ok (.goto 4, 3) := by decide +kernel
theorem dL_cancels_68 : decode cL_cancels 68 = .ok (.iconst 0, 1) := by decide +kernel
theorem dL_cancels_69 : decode cL_cancels 69 = .ok (.iadd, 1) := by decide +kernel
theorem dL_cancels_70 : decode cL_cancels 70 = .ok (.istore_n 3, 1) := by decide +kernel
theorem dL_cancels_71 : decode cL_cancels 71 = .ok (.iload 6, 2) := by decide +kernel
theorem dL_cancels_73 : decode cL_cancels 73 = .ok (.bipush 100, 2) := by decide +kernel
theorem dL_cancels_75 : decode cL_cancels 75 = .ok (.if_icmp .eq 11, 3) := by decide +kernel
theorem dL_cancels_78 : decode cL_cancels 78 = .ok (.iload 6, 2) := by decide +kernel
theorem dL_cancels_80 : decode cL_cancels 80 = .ok (.sipush 180, 3) := by decide +kernel
theorem dL_cancels_83 : decode cL_cancels 83 = .ok (.if_icmp .ne 8, 3) := by decide +kernel
theorem dL_cancels_86 : decode cL_cancels 86 = .ok (.iload 5, 2) := by decide +kernel
theorem dL_cancels_88 : decode cL_cancels 88 = .ok (.goto 5, 3) := by decide +kernel
theorem dL_cancels_91 : decode cL_cancels 91 = .ok (.iload 4, 2) := by decide +kernel
theorem dL_cancels_93 : decode cL_cancels 93 = .ok (.istore 4, 2) := by decide +kernel
theorem dL_cancels_95 : decode cL_cancels 95 = .ok (.iinc 5 1, 3) := by decide +kernel
theorem dL_cancels_98 : decode cL_cancels 98 = .ok (.goto (-62), 3) := by decide +kernel
theorem dL_cancels_101 : decode cL_cancels 101 = .ok (.aload_n 0, 1) := by decide +kernel
theorem dL_cancels_102 : decode cL_cancels 102 = .ok (.iload_n 2, 1) := by decide +kernel
theorem dL_cancels_103 : decode cL_cancels 103 = .ok (.invokevirtual 76, 3) := by decide +kernel
theorem dL_cancels_106 : decode cL_cancels 106 = .ok (.iload_n 3, 1) := by decide +kernel
theorem dL_cancels_107 : decode cL_cancels 107 = .ok (.if_icmp .ne 33, 3) := by decide +kernel
theorem dL_cancels_110 : decode cL_cancels 110 = .ok (.aload_n 0, 1) := by decide +kernel
theorem dL_cancels_111 : decode cL_cancels 111 = .ok (.iload_n 2, 1) := by decide +kernel
theorem dL_cancels_112 : decode cL_cancels 112 = .ok (.invokevirtual 56, 3) := by decide +kernel
theorem dL_cancels_115 : decode cL_cancels 115 = .ok (.sipush 487, 3) := by decide +kernel
theorem dL_cancels_118 : decode cL_cancels 118 = .ok (.if_icmp .ne 22, 3) := by decide +kernel
theorem dL_cancels_121 : decode cL_cancels 121 = .ok (.aload_n 0, 1) := by decide +kernel
theorem dL_cancels_122 : decode cL_cancels 122 = .ok (.iload_n 2, 1) := by decide +kernel
theorem dL_cancels_123 : decode cL_cancels 123 = .ok (.invokevirtual 50, 3) := by decide +kernel
theorem dL_cancels_126 : decode cL_cancels 126 = .ok (.iconst (-1), 1) := by decide +kernel
theorem dL_cancels_127 : decode cL_cancels 127 = .ok (.if_icmp .ne 13, 3) := by decide +kernel
theorem dL_cancels_130 : decode cL_cancels 130 = .ok (.iload 4, 2) := by decide +kernel
theorem dL_cancels_132 : decode cL_cancels 132 = .ok (.iconst (-1), 1) := by decide +kernel
theorem dL_cancels_133 : decode cL_cancels 133 = .ok (.if_icmp .eq 7, 3) := by decide +kernel
theorem dL_cancels_136 : decode cL_cancels 136 = .ok (.iconst 1, 1) := by decide +kernel
theorem dL_cancels_137 : decode cL_cancels 137 = .ok (.goto 4, 3) := by decide +kernel
theorem dL_cancels_140 : decode cL_cancels 140 = .ok (.iconst 0, 1) := by decide +kernel
theorem dL_cancels_141 : decode cL_cancels 141 = .ok (.istore 5, 2) := by decide +kernel
theorem dL_cancels_143 : decode cL_cancels 143 = .ok (.aload_n 1, 1) := by decide +kernel
theorem dL_cancels_144 : decode cL_cancels 144 = .ok (.iconst 3, 1) := by decide +kernel
theorem dL_cancels_145 : decode cL_cancels 145 = .ok (.dup2, 1) := by decide +kernel
theorem dL_cancels_146 : decode cL_cancels 146 = .ok (.iaload, 1) := by decide +kernel
theorem dL_cancels_147 : decode cL_cancels 147 = .ok (.iconst 1, 1) := by decide +kernel
theorem dL_cancels_148 : decode cL_cancels 148 = .ok (.iload_n 2, 1) := by decide +kernel
theorem dL_cancels_149 : decode cL_cancels 149 = .ok (.ishl, 1) := by decide +kernel
theorem dL_cancels_150 : decode cL_cancels 150 = .ok (.ior, 1) := by decide +kernel
theorem dL_cancels_151 : decode cL_cancels 151 = .ok (.iastore, 1) := by decide +kernel
theorem dL_cancels_152 : decode cL_cancels 152 = .ok (.iload 5, 2) := by decide +kernel
theorem dL_cancels_154 : decode cL_cancels 154 = .ok (.ifCond .eq 13, 3) := by decide +kernel
theorem dL_cancels_157 : decode cL_cancels 157 = .ok (.aload_n 0, 1) := by decide +kernel
theorem dL_cancels_158 : decode cL_cancels 158 = .ok (.iload_n 2, 1) := by decide +kernel
theorem dL_cancels_159 : decode cL_cancels 159 = .ok (.iload 4, 2) := by decide +kernel
theorem dL_cancels_161 : decode cL_cancels 161 = .ok (.invokevirtual 59, 3) := by decide +kernel
theorem dL_cancels_164 : decode cL_cancels 164 = .ok (.goto 4, 3) := by decide +kernel
theorem dL_cancels_167 : decode cL_cancels 167 = .ok (.iconst 0, 1) := by decide +kernel
theorem dL_cancels_168 : decode cL_cancels 168 = .ok (.istore 6, 2) := by decide +kernel
theorem dL_cancels_170 : decode cL_cancels 170 = .ok (.aload_n 1, 1) := by decide +kernel
theorem dL_cancels_171 : decode cL_cancels 171 = .ok (.iconst 4, 1) := by decide +kernel
theorem dL_cancels_172 : decode cL_cancels 172 = .ok (.iload 6, 2) := by decide +kernel
theorem dL_cancels_174 : decode cL_cancels 174 = .ok (.iadd, 1) := by decide +kernel
theorem dL_cancels_175 : decode cL_cancels 175 = .ok (.dup2, 1) := by decide +kernel
theorem dL_cancels_176 : decode cL_cancels 176 = .ok (.iaload, 1) := by decide +kernel
theorem dL_cancels_177 : decode cL_cancels 177 = .ok (.iconst 1, 1) := by decide +kernel
theorem dL_cancels_178 : decode cL_cancels 178 = .ok (.iadd, 1) := by decide +kernel
theorem dL_cancels_179 : decode cL_cancels 179 = .ok (.iastore, 1) := by decide +kernel
theorem dL_cancels_180 : decode cL_cancels 180 = .ok (.iload 5, 2) := by decide +kernel
theorem dL_cancels_182 : decode cL_cancels 182 = .ok (.ifCond .eq 51, 3) := by decide +kernel
theorem dL_cancels_185 : decode cL_cancels 185 = .ok (.aload_n 0, 1) := by decide +kernel
theorem dL_cancels_186 : decode cL_cancels 186 = .ok (.iload_n 2, 1) := by decide +kernel
theorem dL_cancels_187 : decode cL_cancels 187 = .ok (.iload 6, 2) := by decide +kernel
theorem dL_cancels_189 : decode cL_cancels 189 = .ok (.sipush 200, 3) := by decide +kernel
theorem dL_cancels_192 : decode cL_cancels 192 = .ok (.invokevirtual 65, 3) := by decide +kernel
theorem dL_cancels_195 : decode cL_cancels 195 = .ok (.sipush 487, 3) := by decide +kernel
theorem dL_cancels_198 : decode cL_cancels 198 = .ok (.if_icmp .ne 35, 3) := by decide +kernel
theorem dL_cancels_201 : decode cL_cancels 201 = .ok (.aload_n 0, 1) := by decide +kernel
theorem dL_cancels_202 : decode cL_cancels 202 = .ok (.iload 6, 2) := by decide +kernel
theorem dL_cancels_204 : decode cL_cancels 204 = .ok (.invokevirtual 79, 3) := by decide +kernel
theorem dL_cancels_207 : decode cL_cancels 207 = .ok (.aload_n 1, 1) := by decide +kernel
theorem dL_cancels_208 : decode cL_cancels 208 = .ok (.iconst 4, 1) := by decide +kernel
theorem dL_cancels_209 : decode cL_cancels 209 = .ok (.iload 6, 2) := by decide +kernel
theorem dL_cancels_211 : decode cL_cancels 211 = .ok (.iadd, 1) := by decide +kernel
theorem dL_cancels_212 : decode cL_cancels 212 = .ok (.iaload, 1) := by decide +kernel
theorem dL_cancels_213 : decode cL_cancels 213 = .ok (.if_icmp .ne 20, 3) := by decide +kernel
theorem dL_cancels_216 : decode cL_cancels 216 = .ok (.aload_n 0, 1) := by decide +kernel
theorem dL_cancels_217 : decode cL_cancels 217 = .ok (.iload_n 2, 1) := by decide +kernel
theorem dL_cancels_218 : decode cL_cancels 218 = .ok (.iload 4, 2) := by decide +kernel
theorem dL_cancels_220 : decode cL_cancels 220 = .ok (.invokevirtual 62, 3) := by decide +kernel
theorem dL_cancels_223 : decode cL_cancels 223 = .ok (.sipush 487, 3) := by decide +kernel
theorem dL_cancels_226 : decode cL_cancels 226 = .ok (.if_icmp .ne 7, 3) := by decide +kernel
theorem dL_cancels_229 : decode cL_cancels 229 = .ok (.iconst 1, 1) := by decide +kernel
theorem dL_cancels_230 : decode cL_cancels 230 = .ok (.goto 4, 3) := by decide +kernel
theorem dL_cancels_233 : decode cL_cancels 233 = .ok (.iconst 0, 1) := by decide +kernel
theorem dL_cancels_234 : decode cL_cancels 234 = .ok (.ireturn, 1) := by decide +kernel
theorem dL_passes_0 : decode cL_passes 0 = .ok (.iconst 0, 1) := by decide +kernel
theorem dL_passes_1 : decode cL_passes 1 = .ok (.istore_n 3, 1) := by decide +kernel
theorem dL_passes_2 : decode cL_passes 2 = .ok (.iconst 0, 1) := by decide +kernel
theorem dL_passes_3 : decode cL_passes 3 = .ok (.istore 4, 2) := by decide +kernel
theorem dL_passes_5 : decode cL_passes 5 = .ok (.iload 4, 2) := by decide +kernel
theorem dL_passes_7 : decode cL_passes 7 = .ok (.aload_n 1, 1) := by decide +kernel
theorem dL_passes_8 : decode cL_passes 8 = .ok (.iconst 1, 1) := by decide +kernel
theorem dL_passes_9 : decode cL_passes 9 = .ok (.iaload, 1) := by decide +kernel
theorem dL_passes_10 : decode cL_passes 10 = .ok (.if_icmp .ge 27, 3) := by decide +kernel
theorem dL_passes_13 : decode cL_passes 13 = .ok (.iload_n 3, 1) := by decide +kernel
theorem dL_passes_14 : decode cL_passes 14 = .ok (.aload_n 0, 1) := by decide +kernel
theorem dL_passes_15 : decode cL_passes 15 = .ok (.iload 4, 2) := by decide +kernel
theorem dL_passes_17 : decode cL_passes 17 = .ok (.invokevirtual 56, 3) := by decide +kernel
theorem dL_passes_20 : decode cL_passes 20 = .ok (.iconst (-1), 1) := by decide +kernel
theorem dL_passes_21 : decode cL_passes 21 = .ok (.if_icmp .eq 7, 3) := by decide +kernel
theorem dL_passes_24 : decode cL_passes 24 = .ok (.iconst 1, 1) := by decide +kernel
theorem dL_passes_25 : decode cL_passes 25 = .ok (.goto 4, 3) := by decide +kernel
theorem dL_passes_28 : decode cL_passes 28 = .ok (.iconst 0, 1) := by decide +kernel
theorem dL_passes_29 : decode cL_passes 29 = .ok (.iadd, 1) := by decide +kernel
theorem dL_passes_30 : decode cL_passes 30 = .ok (.istore_n 3, 1) := by decide +kernel
theorem dL_passes_31 : decode cL_passes 31 = .ok (.iinc 4 1, 3) := by decide +kernel
theorem dL_passes_34 : decode cL_passes 34 = .ok (.goto (-29), 3) := by decide +kernel
theorem dL_passes_37 : decode cL_passes 37 = .ok (.aload_n 0, 1) := by decide +kernel
theorem dL_passes_38 : decode cL_passes 38 = .ok (.iload_n 2, 1) := by decide +kernel
theorem dL_passes_39 : decode cL_passes 39 = .ok (.invokevirtual 82, 3) := by decide +kernel
theorem dL_passes_42 : decode cL_passes 42 = .ok (.istore 4, 2) := by decide +kernel
theorem dL_passes_44 : decode cL_passes 44 = .ok (.aload_n 1, 1) := by decide +kernel
theorem dL_passes_45 : decode cL_passes 45 = .ok (.iconst 0, 1) := by decide +kernel
theorem dL_passes_46 : decode cL_passes 46 = .ok (.dup2, 1) := by decide +kernel
theorem dL_passes_47 : decode cL_passes 47 = .ok (.iaload, 1) := by decide +kernel
theorem dL_passes_48 : decode cL_passes 48 = .ok (.iload_n 2, 1) := by decide +kernel
theorem dL_passes_49 : decode cL_passes 49 = .ok (.iadd, 1) := by decide +kernel
theorem dL_passes_50 : decode cL_passes 50 = .ok (.iastore, 1) := by decide +kernel
theorem dL_passes_51 : decode cL_passes 51 = .ok (.iconst 0, 1) := by decide +kernel
theorem dL_passes_52 : decode cL_passes 52 = .ok (.istore 5, 2) := by decide +kernel
theorem dL_passes_54 : decode cL_passes 54 = .ok (.aload_n 0, 1) := by decide +kernel
theorem dL_passes_55 : decode cL_passes 55 = .ok (.invokevirtual 85, 3) := by decide +kernel
theorem dL_passes_58 : decode cL_passes 58 = .ok (.aload_n 1, 1) := by decide +kernel
theorem dL_passes_59 : decode cL_passes 59 = .ok (.iconst 0, 1) := by decide +kernel
theorem dL_passes_60 : decode cL_passes 60 = .ok (.iaload, 1) := by decide +kernel
theorem dL_passes_61 : decode cL_passes 61 = .ok (.if_icmp .ne 7, 3) := by decide +kernel
theorem dL_passes_64 : decode cL_passes 64 = .ok (.iconst 1, 1) := by decide +kernel
theorem dL_passes_65 : decode cL_passes 65 = .ok (.goto 4, 3) := by decide +kernel
theorem dL_passes_68 : decode cL_passes 68 = .ok (.iconst 0, 1) := by decide +kernel
theorem dL_passes_69 : decode cL_passes 69 = .ok (.istore 6, 2) := by decide +kernel
theorem dL_passes_71 : decode cL_passes 71 = .ok (.iconst 0, 1) := by decide +kernel
theorem dL_passes_72 : decode cL_passes 72 = .ok (.istore 7, 2) := by decide +kernel
theorem dL_passes_74 : decode cL_passes 74 = .ok (.iload 7, 2) := by decide +kernel
theorem dL_passes_76 : decode cL_passes 76 = .ok (.aload_n 1, 1) := by decide +kernel
theorem dL_passes_77 : decode cL_passes 77 = .ok (.iconst 1, 1) := by decide +kernel
theorem dL_passes_78 : decode cL_passes 78 = .ok (.iaload, 1) := by decide +kernel
theorem dL_passes_79 : decode cL_passes 79 = .ok (.if_icmp .ge 57, 3) := by decide +kernel
theorem dL_passes_82 : decode cL_passes 82 = .ok (.iload 6, 2) := by decide +kernel
theorem dL_passes_84 : decode cL_passes 84 = .ok (.ifCond .eq 52, 3) := by decide +kernel
theorem dL_passes_87 : decode cL_passes 87 = .ok (.iload 5, 2) := by decide +kernel
theorem dL_passes_89 : decode cL_passes 89 = .ok (.aload_n 0, 1) := by decide +kernel
theorem dL_passes_90 : decode cL_passes 90 = .ok (.iload 7, 2) := by decide +kernel
theorem dL_passes_92 : decode cL_passes 92 = .ok (.invokevirtual 56, 3) := by decide +kernel
theorem dL_passes_95 : decode cL_passes 95 = .ok (.iconst (-1), 1) := by decide +kernel
theorem dL_passes_96 : decode cL_passes 96 = .ok (.if_icmp .eq 7, 3) := by decide +kernel
theorem dL_passes_99 : decode cL_passes 99 = .ok (.iconst 1, 1) := by decide +kernel
theorem dL_passes_100 : decode cL_passes 100 = .ok (.goto 4, 3) := by decide +kernel
theorem dL_passes_103 : decode cL_passes 103 = .ok (.iconst 0, 1) := by decide +kernel
theorem dL_passes_104 : decode cL_passes 104 = .ok (.iadd, 1) := by decide +kernel
theorem dL_passes_105 : decode cL_passes 105 = .ok (.istore 5, 2) := by decide +kernel
theorem dL_passes_107 : decode cL_passes 107 = .ok (.iload_n 2, 1) := by decide +kernel
theorem dL_passes_108 : decode cL_passes 108 = .ok (.bipush 120, 2) := by decide +kernel
theorem dL_passes_110 : decode cL_passes 110 = .ok (.if_icmp .lt 13, 3) := by decide +kernel
theorem dL_passes_113 : decode cL_passes 113 = .ok (.aload_n 0, 1) := by decide +kernel
theorem dL_passes_114 : decode cL_passes 114 = .ok (.iload 7, 2) := by decide +kernel
theorem dL_passes_116 : decode cL_passes 116 = .ok (.invokevirtual 56, 3) := by decide +kernel
theorem dL_passes_119 : decode cL_passes 119 = .ok (.iconst (-1), 1) := by decide +kernel
theorem dL_passes_120 : decode cL_passes 120 = .ok (.if_icmp .eq 7, 3) := by decide +kernel
theorem dL_passes_123 : decode cL_passes 123 = .ok (.iconst 1, 1) := by decide +kernel
theorem dL_passes_124 : decode cL_passes 124 = .ok (.goto 4, 3) := by decide +kernel
theorem dL_passes_127 : decode cL_passes 127 = .ok (.iconst 0, 1) := by decide +kernel
theorem dL_passes_128 : decode cL_passes 128 = .ok (.istore 6, 2) := by decide +kernel
theorem dL_passes_130 : decode cL_passes 130 = .ok (.iinc 7 1, 3) := by decide +kernel
theorem dL_passes_133 : decode cL_passes 133 = .ok (.goto (-59), 3) := by decide +kernel
theorem dL_passes_136 : decode cL_passes 136 = .ok (.iload 6, 2) := by decide +kernel
theorem dL_passes_138 : decode cL_passes 138 = .ok (.ifCond .eq 16, 3) := by decide +kernel
theorem dL_passes_141 : decode cL_passes 141 = .ok (.iload 5, 2) := by decide +kernel
theorem dL_passes_143 : decode cL_passes 143 = .ok (.iload_n 3, 1) := by decide +kernel
theorem dL_passes_144 : decode cL_passes 144 = .ok (.iload 4, 2) := by decide +kernel
theorem dL_passes_146 : decode cL_passes 146 = .ok (.iadd, 1) := by decide +kernel
theorem dL_passes_147 : decode cL_passes 147 = .ok (.if_icmp .ne 7, 3) := by decide +kernel
theorem dL_passes_150 : decode cL_passes 150 = .ok (.iconst 1, 1) := by decide +kernel
theorem dL_passes_151 : decode cL_passes 151 = .ok (.goto 4, 3) := by decide +kernel
theorem dL_passes_154 : decode cL_passes 154 = .ok (.iconst 0, 1) := by decide +kernel
theorem dL_passes_155 : decode cL_passes 155 = .ok (.ireturn, 1) := by decide +kernel
theorem dL_isCall_0 : decode cL_isCall 0 = .ok (.iconst (-1), 1) := by decide +kernel
theorem dL_isCall_1 : decode cL_isCall 1 = .ok (.istore_n 3, 1) := by decide +kernel
theorem dL_isCall_2 : decode cL_isCall 2 = .ok (.iconst (-1), 1) := by decide +kernel
theorem dL_isCall_3 : decode cL_isCall 3 = .ok (.istore 4, 2) := by decide +kernel
theorem dL_isCall_5 : decode cL_isCall 5 = .ok (.iconst 0, 1) := by decide +kernel
theorem dL_isCall_6 : decode cL_isCall 6 = .ok (.istore 5, 2) := by decide +kernel
theorem dL_isCall_8 : decode cL_isCall 8 = .ok (.iconst (-1), 1) := by decide +kernel
theorem dL_isCall_9 : decode cL_isCall 9 = .ok (.istore 6, 2) := by decide +kernel
theorem dL_isCall_11 : decode cL_isCall 11 = .ok (.iconst 0, 1) := by decide +kernel
theorem dL_isCall_12 : decode cL_isCall 12 = .ok (.istore 7, 2) := by decide +kernel
theorem dL_isCall_14 : decode cL_isCall 14 = .ok (.iload 7, 2) := by decide +kernel
theorem dL_isCall_16 : decode cL_isCall 16 = .ok (.aload_n 0, 1) := by decide +kernel
theorem dL_isCall_17 : decode cL_isCall 17 = .ok (.iload_n 2, 1) := by decide +kernel
theorem dL_isCall_18 : decode cL_isCall 18 = .ok (.invokevirtual 53, 3) := by decide +kernel
theorem dL_isCall_21 : decode cL_isCall 21 = .ok (.if_icmp .ge 110, 3) := by decide +kernel
theorem dL_isCall_24 : decode cL_isCall 24 = .ok (.aload_n 0, 1) := by decide +kernel
theorem dL_isCall_25 : decode cL_isCall 25 = .ok (.iload_n 2, 1) := by decide +kernel
theorem dL_isCall_26 : decode cL_isCall 26 = .ok (.iload 7, 2) := by decide +kernel
theorem dL_isCall_28 : decode cL_isCall 28 = .ok (.invokevirtual 62, 3) := by decide +kernel
theorem dL_isCall_31 : decode cL_isCall 31 = .ok (.istore 8, 2) := by decide +kernel
theorem dL_isCall_33 : decode cL_isCall 33 = .ok (.iload 5, 2) := by decide +kernel
theorem dL_isCall_35 : decode cL_isCall 35 = .ok (.iload 8, 2) := by decide +kernel
theorem dL_isCall_37 : decode cL_isCall 37 = .ok (.bipush 100, 2) := by decide +kernel
theorem dL_isCall_39 : decode cL_isCall 39 = .ok (.if_icmp .eq 11, 3) := by decide +kernel
theorem dL_isCall_42 : decode cL_isCall 42 = .ok (.iload 8, 2) := by decide +kernel
theorem dL_isCall_44 : decode cL_isCall 44 = .ok (.sipush 180, 3) := by decide +kernel
theorem dL_isCall_47 : decode cL_isCall 47 = .ok (.if_icmp .ne 7, 3) := by decide +kernel
theorem dL_isCall_50 : decode cL_isCall 50 = .ok (.iconst 1, 1) := by decide +kernel
theorem dL_isCall_51 : decode cL_isCall 51 = .ok (.goto 4, 3) := by decide +kernel
theorem dL_isCall_54 : decode cL_isCall 54 = .ok (.iconst 0, 1) := by decide +kernel
theorem dL_isCall_55 : decode cL_isCall 55 = .ok (.iadd, 1) := by decide +kernel
theorem dL_isCall_56 : decode cL_isCall 56 = .ok (.istore 5, 2) := by decide +kernel
theorem dL_isCall_58 : decode cL_isCall 58 = .ok (.iload 8, 2) := by decide +kernel
theorem dL_isCall_60 : decode cL_isCall 60 = .ok (.sipush 200, 3) := by decide +kernel
theorem dL_isCall_63 : decode cL_isCall 63 = .ok (.if_icmp .lt 16, 3) := by decide +kernel
theorem dL_isCall_66 : decode cL_isCall 66 = .ok (.iload 8, 2) := by decide +kernel
theorem dL_isCall_68 : decode cL_isCall 68 = .ok (.sipush 300, 3) := by decide +kernel
theorem dL_isCall_71 : decode cL_isCall 71 = .ok (.if_icmp .ge 8, 3) := by decide +kernel
theorem dL_isCall_74 : decode cL_isCall 74 = .ok (.iload 7, 2) := by decide +kernel
theorem dL_isCall_76 : decode cL_isCall 76 = .ok (.goto 5, 3) := by decide +kernel
theorem dL_isCall_79 : decode cL_isCall 79 = .ok (.iload 6, 2) := by decide +kernel
theorem dL_isCall_81 : decode cL_isCall 81 = .ok (.istore 6, 2) := by decide +kernel
theorem dL_isCall_83 : decode cL_isCall 83 = .ok (.iload 8, 2) := by decide +kernel
theorem dL_isCall_85 : decode cL_isCall 85 = .ok (.iload 4, 2) := by decide +kernel
theorem dL_isCall_87 : decode cL_isCall 87 = .ok (.if_icmp .le 8, 3) := by decide +kernel
theorem dL_isCall_90 : decode cL_isCall 90 = .ok (.iload 8, 2) := by decide +kernel
theorem dL_isCall_92 : decode cL_isCall 92 = .ok (.goto 5, 3) := by decide +kernel
theorem dL_isCall_95 : decode cL_isCall 95 = .ok (.iload 4, 2) := by decide +kernel
theorem dL_isCall_97 : decode cL_isCall 97 = .ok (.istore 4, 2) := by decide +kernel
theorem dL_isCall_99 : decode cL_isCall 99 = .ok (.iload 8, 2) := by decide +kernel
theorem dL_isCall_101 : decode cL_isCall 101 = .ok (.sipush 487, 3) := by decide +kernel
theorem dL_isCall_104 : decode cL_isCall 104 = .ok (.if_icmp .eq 19, 3) := by decide +kernel
theorem dL_isCall_107 : decode cL_isCall 107 = .ok (.iload_n 3, 1) := by decide +kernel
theorem dL_isCall_108 : decode cL_isCall 108 = .ok (.iconst (-1), 1) := by decide +kernel
theorem dL_isCall_109 : decode cL_isCall 109 = .ok (.if_icmp .eq 9, 3) := by decide +kernel
theorem dL_isCall_112 : decode cL_isCall 112 = .ok (.iload 8, 2) := by decide +kernel
theorem dL_isCall_114 : decode cL_isCall 114 = .ok (.iload_n 3, 1) := by decide +kernel
theorem dL_isCall_115 : decode cL_isCall 115 = .ok (.if_icmp .ge 8, 3) := by decide +kernel
theorem dL_isCall_118 : decode cL_isCall 118 = .ok (.iload 8, 2) := by decide +kernel
theorem dL_isCall_120 : decode cL_isCall 120 = .ok (.goto 4, 3) := by decide +kernel
theorem dL_isCall_123 : decode cL_isCall 123 = .ok (.iload_n 3, 1) := by decide +kernel
theorem dL_isCall_124 : decode cL_isCall 124 = .ok (.istore_n 3, 1) := by decide +kernel
theorem dL_isCall_125 : decode cL_isCall 125 = .ok (.iinc 7 1, 3) := by decide +kernel
theorem dL_isCall_128 : decode cL_isCall 128 = .ok (.goto (-114), 3) := by decide +kernel
theorem dL_isCall_131 : decode cL_isCall 131 = .ok (.aload_n 0, 1) := by decide +kernel
theorem dL_isCall_132 : decode cL_isCall 132 = .ok (.iload_n 2, 1) := by decide +kernel
theorem dL_isCall_133 : decode cL_isCall 133 = .ok (.invokevirtual 56, 3) := by decide +kernel
theorem dL_isCall_136 : decode cL_isCall 136 = .ok (.istore 7, 2) := by decide +kernel
theorem dL_isCall_138 : decode cL_isCall 138 = .ok (.iload 7, 2) := by decide +kernel
theorem dL_isCall_140 : decode cL_isCall 140 = .ok (.iconst (-1), 1) := by decide +kernel
theorem dL_isCall_141 : decode cL_isCall 141 = .ok (.if_icmp .ne 37, 3) := by decide +kernel
theorem dL_isCall_144 : decode cL_isCall 144 = .ok (.iload 5, 2) := by decide +kernel
theorem dL_isCall_146 : decode cL_isCall 146 = .ok (.ifCond .le 30, 3) := by decide +kernel
theorem dL_isCall_149 : decode cL_isCall 149 = .ok (.iload 6, 2) := by decide +kernel
theorem dL_isCall_151 : decode cL_isCall 151 = .ok (.iconst (-1), 1) := by decide +kernel
theorem dL_isCall_152 : decode cL_isCall 152 = .ok (.if_icmp .ne 24, 3) := by decide +kernel
theorem dL_isCall_155 : decode cL_isCall 155 = .ok (.aload_n 0, 1) := by decide +kernel
theorem dL_isCall_156 : decode cL_isCall 156 = .ok (.iload_n 2, 1) := by decide +kernel
theorem dL_isCall_157 : decode cL_isCall 157 = .ok (.invokevirtual 50, 3) := by decide +kernel
theorem dL_isCall_160 : decode cL_isCall 160 = .ok (.iconst (-1), 1) := by decide +kernel
theorem dL_isCall_161 : decode cL_isCall 161 = .ok (.if_icmp .ne 15, 3) := by decide +kernel
theorem dL_isCall_164 : decode cL_isCall 164 = .ok (.iload 4, 2) := by decide +kernel
theorem dL_isCall_166 : decode cL_isCall 166 = .ok (.sipush 600, 3) := by decide +kernel
theorem dL_isCall_169 : decode cL_isCall 169 = .ok (.if_icmp .ge 7, 3) := by decide +kernel
theorem dL_isCall_172 : decode cL_isCall 172 = .ok (.iconst 1, 1) := by decide +kernel
theorem dL_isCall_173 : decode cL_isCall 173 = .ok (.goto 4, 3) := by decide +kernel
theorem dL_isCall_176 : decode cL_isCall 176 = .ok (.iconst 0, 1) := by decide +kernel
theorem dL_isCall_177 : decode cL_isCall 177 = .ok (.ireturn, 1) := by decide +kernel
theorem dL_isCall_178 : decode cL_isCall 178 = .ok (.aload_n 1, 1) := by decide +kernel
theorem dL_isCall_179 : decode cL_isCall 179 = .ok (.iconst 3, 1) := by decide +kernel
theorem dL_isCall_180 : decode cL_isCall 180 = .ok (.iaload, 1) := by decide +kernel
theorem dL_isCall_181 : decode cL_isCall 181 = .ok (.iload_n 2, 1) := by decide +kernel
theorem dL_isCall_182 : decode cL_isCall 182 = .ok (.ishr, 1) := by decide +kernel
theorem dL_isCall_183 : decode cL_isCall 183 = .ok (.iconst 1, 1) := by decide +kernel
theorem dL_isCall_184 : decode cL_isCall 184 = .ok (.iand, 1) := by decide +kernel
theorem dL_isCall_185 : decode cL_isCall 185 = .ok (.iconst 1, 1) := by decide +kernel
theorem dL_isCall_186 : decode cL_isCall 186 = .ok (.if_icmp .ne 9, 3) := by decide +kernel
theorem dL_isCall_189 : decode cL_isCall 189 = .ok (.sipush 487, 3) := by decide +kernel
theorem dL_isCall_192 : decode cL_isCall 192 = .ok (.goto 58, 3) := by decide +kernel
theorem dL_isCall_195 : decode cL_isCall 195 = .ok (.aload_n 0, 1) := by decide +kernel
theorem dL_isCall_196 : decode cL_isCall 196 = .ok (.iload_n 2, 1) := by decide +kernel
theorem dL_isCall_197 : decode cL_isCall 197 = .ok (.invokevirtual 53, 3) := by decide +kernel
theorem dL_isCall_200 : decode cL_isCall 200 = .ok (.ifCond .ne 9, 3) := by decide +kernel
theorem dL_isCall_203 : decode cL_isCall 203 = .ok (.sipush 480, 3) := by decide +kernel
theorem dL_isCall_206 : decode cL_isCall 206 = .ok (.goto 44, 3) := by decide +kernel
theorem dL_isCall_209 : decode cL_isCall 209 = .ok (.iload 6, 2) := by decide +kernel
theorem dL_isCall_211 : decode cL_isCall 211 = .ok (.iconst (-1), 1) := by decide +kernel
theorem dL_isCall_212 : decode cL_isCall 212 = .ok (.if_icmp .eq 13, 3) := by decide +kernel
theorem dL_isCall_215 : decode cL_isCall 215 = .ok (.aload_n 0, 1) := by decide +kernel
theorem dL_isCall_216 : decode cL_isCall 216 = .ok (.iload_n 2, 1) := by decide +kernel
theorem dL_isCall_217 : decode cL_isCall 217 = .ok (.iload 6, 2) := by decide +kernel
theorem dL_isCall_219 : decode cL_isCall 219 = .ok (.invokevirtual 62, 3) := by decide +kernel
theorem dL_isCall_222 : decode cL_isCall 222 = .ok (.goto 28, 3) := by decide +kernel
theorem dL_isCall_225 : decode cL_isCall 225 = .ok (.iload 4, 2) := by decide +kernel
theorem dL_isCall_227 : decode cL_isCall 227 = .ok (.sipush 600, 3) := by decide +kernel
theorem dL_isCall_230 : decode cL_isCall 230 = .ok (.if_icmp .lt 8, 3) := by decide +kernel
theorem dL_isCall_233 : decode cL_isCall 233 = .ok (.iload 4, 2) := by decide +kernel
theorem dL_isCall_235 : decode cL_isCall 235 = .ok (.goto 15, 3) := by decide +kernel
theorem dL_isCall_238 : decode cL_isCall 238 = .ok (.iload_n 3, 1) := by decide +kernel
theorem dL_isCall_239 : decode cL_isCall 239 = .ok (.iconst (-1), 1) := by decide +kernel
theorem dL_isCall_240 : decode cL_isCall 240 = .ok (.if_icmp .ne 9, 3) := by decide +kernel
theorem dL_isCall_243 : decode cL_isCall 243 = .ok (.sipush 487, 3) := by decide +kernel
theorem dL_isCall_246 : decode cL_isCall 246 = .ok (.goto 4, 3) := by decide +kernel
theorem dL_isCall_249 : decode cL_isCall 249 = .ok (.iload_n 3, 1) := by decide +kernel
theorem dL_isCall_250 : decode cL_isCall 250 = .ok (.istore 8, 2) := by decide +kernel
theorem dL_isCall_252 : decode cL_isCall 252 = .ok (.iload 5, 2) := by decide +kernel
theorem dL_isCall_254 : decode cL_isCall 254 = .ok (.ifCond .ne 34, 3) := by decide +kernel
theorem dL_isCall_257 : decode cL_isCall 257 = .ok (.iload 7, 2) := by decide +kernel
theorem dL_isCall_259 : decode cL_isCall 259 = .ok (.iload 8, 2) := by decide +kernel
theorem dL_isCall_261 : decode cL_isCall 261 = .ok (.if_icmp .ne 27, 3) := by decide +kernel
theorem dL_isCall_264 : decode cL_isCall 264 = .ok (.aload_n 0, 1) := by decide +kernel
theorem dL_isCall_265 : decode cL_isCall 265 = .ok (.iload_n 2, 1) := by decide +kernel
theorem dL_isCall_266 : decode cL_isCall 266 = .ok (.invokevirtual 50, 3) := by decide +kernel
theorem dL_isCall_269 : decode cL_isCall 269 = .ok (.iload 6, 2) := by decide +kernel
theorem dL_isCall_271 : decode cL_isCall 271 = .ok (.if_icmp .ne 17, 3) := by decide +kernel
theorem dL_isCall_274 : decode cL_isCall 274 = .ok (.aload_n 0, 1) := by decide +kernel
theorem dL_isCall_275 : decode cL_isCall 275 = .ok (.iload_n 2, 1) := by decide +kernel
theorem dL_isCall_276 : decode cL_isCall 276 = .ok (.invokevirtual 73, 3) := by decide +kernel
theorem dL_isCall_279 : decode cL_isCall 279 = .ok (.iload 7, 2) := by decide +kernel
theorem dL_isCall_281 : decode cL_isCall 281 = .ok (.if_icmp .ne 7, 3) := by decide +kernel
theorem dL_isCall_284 : decode cL_isCall 284 = .ok (.iconst 1, 1) := by decide +kernel
theorem dL_isCall_285 : decode cL_isCall 285 = .ok (.goto 4, 3) := by decide +kernel
theorem dL_isCall_288 : decode cL_isCall 288 = .ok (.iconst 0, 1) := by decide +kernel
theorem dL_isCall_289 : decode cL_isCall 289 = .ok (.ireturn, 1) := by decide +kernel
theorem dL_law_0 : decode cL_law 0 = .ok (.new 31, 3) := by decide +kernel
theorem dL_law_3 : decode cL_law 3 = .ok (.dup, 1) := by decide +kernel
theorem dL_law_4 : decode cL_law 4 = .ok (.invokespecial 88, 3) := by decide +kernel
theorem dL_law_7 : decode cL_law 7 = .ok (.astore_n 1, 1) := by decide +kernel
theorem dL_law_8 : decode cL_law 8 = .ok (.bipush 14, 2) := by decide +kernel
theorem dL_law_10 : decode cL_law 10 = .ok (.newarray .int, 2) := by decide +kernel
theorem dL_law_12 : decode cL_law 12 = .ok (.astore_n 2, 1) := by decide +kernel
theorem dL_law_13 : decode cL_law 13 = .ok (.aload_n 1, 1) := by decide +kernel
theorem dL_law_14 : decode cL_law 14 = .ok (.invokevirtual 85, 3) := by decide +kernel
theorem dL_law_17 : decode cL_law 17 = .ok (.ifCond .ne 31, 3) := by decide +kernel
theorem dL_law_20 : decode cL_law 20 = .ok (.aload_n 1, 1) := by decide +kernel
theorem dL_law_21 : decode cL_law 21 = .ok (.invokevirtual 47, 3) := by decide +kernel
theorem dL_law_24 : decode cL_law 24 = .ok (.ifCond .ne 24, 3) := by decide +kernel
theorem dL_law_27 : decode cL_law 27 = .ok (.aload_n 1, 1) := by decide +kernel
theorem dL_law_28 : decode cL_law 28 = .ok (.iconst 5, 1) := by decide +kernel
theorem dL_law_29 : decode cL_law 29 = .ok (.invokevirtual 30, 3) := by decide +kernel
theorem dL_law_32 : decode cL_law 32 = .ok (.ifCond .ne 16, 3) := by decide +kernel
theorem dL_law_35 : decode cL_law 35 = .ok (.aload_n 1, 1) := by decide +kernel
theorem dL_law_36 : decode cL_law 36 = .ok (.bipush 9, 2) := by decide +kernel
theorem dL_law_38 : decode cL_law 38 = .ok (.invokevirtual 79, 3) := by decide +kernel
theorem dL_law_41 : decode cL_law 41 = .ok (.ifCond .ne 7, 3) := by decide +kernel
theorem dL_law_44 : decode cL_law 44 = .ok (.iconst 1, 1) := by decide +kernel
theorem dL_law_45 : decode cL_law 45 = .ok (.goto 4, 3) := by decide +kernel
theorem dL_law_48 : decode cL_law 48 = .ok (.iconst 0, 1) := by decide +kernel
theorem dL_law_49 : decode cL_law 49 = .ok (.istore_n 3, 1) := by decide +kernel
theorem dL_law_50 : decode cL_law 50 = .ok (.aload_n 0, 1) := by decide +kernel
theorem dL_law_51 : decode cL_law 51 = .ok (.arraylength, 1) := by decide +kernel
theorem dL_law_52 : decode cL_law 52 = .ok (.iconst 3, 1) := by decide +kernel
theorem dL_law_53 : decode cL_law 53 = .ok (.idiv, 1) := by decide +kernel
theorem dL_law_54 : decode cL_law 54 = .ok (.bipush 80, 2) := by decide +kernel
theorem dL_law_56 : decode cL_law 56 = .ok (.if_icmp .le 8, 3) := by decide +kernel
theorem dL_law_59 : decode cL_law 59 = .ok (.bipush 80, 2) := by decide +kernel
theorem dL_law_61 : decode cL_law 61 = .ok (.goto 7, 3) := by decide +kernel
theorem dL_law_64 : decode cL_law 64 = .ok (.aload_n 0, 1) := by decide +kernel
theorem dL_law_65 : decode cL_law 65 = .ok (.arraylength, 1) := by decide +kernel
theorem dL_law_66 : decode cL_law 66 = .ok (.iconst 3, 1) := by decide +kernel
theorem dL_law_67 : decode cL_law 67 = .ok (.idiv, 1) := by decide +kernel
theorem dL_law_68 : decode cL_law 68 = .ok (.istore 4, 2) := by decide +kernel
theorem dL_law_70 : decode cL_law 70 = .ok (.iconst 0, 1) := by decide +kernel
theorem dL_law_71 : decode cL_law 71 = .ok (.istore 5, 2) := by decide +kernel
theorem dL_law_73 : decode cL_law 73 = .ok (.iload 5, 2) := by decide +kernel
theorem dL_law_75 : decode cL_law 75 = .ok (.iload 4, 2) := by decide +kernel
theorem dL_law_77 : decode cL_law 77 = .ok (.if_icmp .ge 113, 3) := by decide +kernel
theorem dL_law_80 : decode cL_law 80 = .ok (.iload_n 3, 1) := by decide +kernel
theorem dL_law_81 : decode cL_law 81 = .ok (.ifCond .eq 109, 3) := by decide +kernel
theorem dL_law_84 : decode cL_law 84 = .ok (.aload_n 0, 1) := by decide +kernel
theorem dL_law_85 : decode cL_law 85 = .ok (.iconst 3, 1) := by decide +kernel
theorem dL_law_86 : decode cL_law 86 = .ok (.iload 5, 2) := by decide +kernel
theorem dL_law_88 : decode cL_law 88 = .ok (.imul, 1) := by decide +kernel
theorem dL_law_89 : decode cL_law 89 = .ok (.iconst 1, 1) := by decide +kernel
theorem dL_law_90 : decode cL_law 90 = .ok (.iadd, 1) := by decide +kernel
theorem dL_law_91 : decode cL_law 91 = .ok (.invokestatic 89, 3) := by decide +kernel
theorem dL_law_94 : decode cL_law 94 = .ok (.istore 6, 2) := by decide +kernel
theorem dL_law_96 : decode cL_law 96 = .ok (.aload_n 0, 1) := by decide +kernel
theorem dL_law_97 : decode cL_law 97 = .ok (.iconst 3, 1) := by decide +kernel
theorem dL_law_98 : decode cL_law 98 = .ok (.iload 5, 2) := by decide +kernel
theorem dL_law_100 : decode cL_law 100 = .ok (.imul, 1) := by decide +kernel
theorem dL_law_101 : decode cL_law 101 = .ok (.iconst 2, 1) := by decide +kernel
theorem dL_law_102 : decode cL_law 102 = .ok (.iadd, 1) := by decide +kernel
theorem dL_law_103 : decode cL_law 103 = .ok (.invokestatic 89, 3) := by decide +kernel
theorem dL_law_106 : decode cL_law 106 = .ok (.istore 7, 2) := by decide +kernel
theorem dL_law_108 : decode cL_law 108 = .ok (.aload_n 1, 1) := by decide +kernel
theorem dL_law_109 : decode cL_law 109 = .ok (.aload_n 2, 1) := by decide +kernel
theorem dL_law_110 : decode cL_law 110 = .ok (.aload_n 0, 1) := by decide +kernel
theorem dL_law_111 : decode cL_law 111 = .ok (.iconst 3, 1) := by decide +kernel
theorem dL_law_112 : decode cL_law 112 = .ok (.iload 5, 2) := by decide +kernel
theorem dL_law_114 : decode cL_law 114 = .ok (.imul, 1) := by decide +kernel
theorem dL_law_115 : decode cL_law 115 = .ok (.invokestatic 89, 3) := by decide +kernel
theorem dL_law_118 : decode cL_law 118 = .ok (.iload 6, 2) := by decide +kernel
theorem dL_law_120 : decode cL_law 120 = .ok (.iload 7, 2) := by decide +kernel
theorem dL_law_122 : decode cL_law 122 = .ok (.invokestatic 93, 3) := by decide +kernel
theorem dL_law_125 : decode cL_law 125 = .ok (.ifCond .eq 28, 3) := by decide +kernel
theorem dL_law_128 : decode cL_law 128 = .ok (.aload_n 1, 1) := by decide +kernel
theorem dL_law_129 : decode cL_law 129 = .ok (.iload 7, 2) := by decide +kernel
theorem dL_law_131 : decode cL_law 131 = .ok (.bipush 10, 2) := by decide +kernel
theorem dL_law_133 : decode cL_law 133 = .ok (.irem, 1) := by decide +kernel
theorem dL_law_134 : decode cL_law 134 = .ok (.invokevirtual 79, 3) := by decide +kernel
theorem dL_law_137 : decode cL_law 137 = .ok (.aload_n 2, 1) := by decide +kernel
theorem dL_law_138 : decode cL_law 138 = .ok (.iconst 4, 1) := by decide +kernel
theorem dL_law_139 : decode cL_law 139 = .ok (.iload 7, 2) := by decide +kernel
theorem dL_law_141 : decode cL_law 141 = .ok (.bipush 10, 2) := by decide +kernel
theorem dL_law_143 : decode cL_law 143 = .ok (.irem, 1) := by decide +kernel
theorem dL_law_144 : decode cL_law 144 = .ok (.iadd, 1) := by decide +kernel
theorem dL_law_145 : decode cL_law 145 = .ok (.iaload, 1) := by decide +kernel
theorem dL_law_146 : decode cL_law 146 = .ok (.if_icmp .ne 7, 3) := by decide +kernel
theorem dL_law_149 : decode cL_law 149 = .ok (.iconst 1, 1) := by decide +kernel
theorem dL_law_150 : decode cL_law 150 = .ok (.goto 4, 3) := by decide +kernel
theorem dL_law_153 : decode cL_law 153 = .ok (.iconst 0, 1) := by decide +kernel
theorem dL_law_154 : decode cL_law 154 = .ok (.istore_n 3, 1) := by decide +kernel
theorem dL_law_155 : decode cL_law 155 = .ok (.iconst 0, 1) := by decide +kernel
theorem dL_law_156 : decode cL_law 156 = .ok (.istore 8, 2) := by decide +kernel
theorem dL_law_158 : decode cL_law 158 = .ok (.iload 8, 2) := by decide +kernel
theorem dL_law_160 : decode cL_law 160 = .ok (.aload_n 2, 1) := by decide +kernel
theorem dL_law_161 : decode cL_law 161 = .ok (.iconst 1, 1) := by decide +kernel
theorem dL_law_162 : decode cL_law 162 = .ok (.iaload, 1) := by decide +kernel
theorem dL_law_163 : decode cL_law 163 = .ok (.if_icmp .ge 21, 3) := by decide +kernel
theorem dL_law_166 : decode cL_law 166 = .ok (.iload_n 3, 1) := by decide +kernel
theorem dL_law_167 : decode cL_law 167 = .ok (.ifCond .eq 17, 3) := by decide +kernel
theorem dL_law_170 : decode cL_law 170 = .ok (.aload_n 1, 1) := by decide +kernel
theorem dL_law_171 : decode cL_law 171 = .ok (.aload_n 2, 1) := by decide +kernel
theorem dL_law_172 : decode cL_law 172 = .ok (.iload 8, 2) := by decide +kernel
theorem dL_law_174 : decode cL_law 174 = .ok (.invokestatic 96, 3) := by decide +kernel
theorem dL_law_177 : decode cL_law 177 = .ok (.istore_n 3, 1) := by decide +kernel
theorem dL_law_178 : decode cL_law 178 = .ok (.iinc 8 1, 3) := by decide +kernel
theorem dL_law_181 : decode cL_law 181 = .ok (.goto (-23), 3) := by decide +kernel
theorem dL_law_184 : decode cL_law 184 = .ok (.iinc 5 1, 3) := by decide +kernel
theorem dL_law_187 : decode cL_law 187 = .ok (.goto (-114), 3) := by decide +kernel
theorem dL_law_190 : decode cL_law 190 = .ok (.iload_n 3, 1) := by decide +kernel
theorem dL_law_191 : decode cL_law 191 = .ok (.ireturn, 1) := by decide +kernel
abbrev vwCl : List vw_C := [(RX0, TX0, 5), (RX1, TX1, 10), (RX2, TX2, 7)]
end
section

/-! THE WORLD: every cell of the two systems, by kind and number; the numbers they hold are one function Mem -/
abbrev Mem : Type := Nat → Nat → Nat → Int32
def st (μ : Mem) (k o i : Nat) (x : Int32) : Mem := fun a b j => if a = k ∧ b = o ∧ j = i then x else μ a b j
abbrev EE : Type := Launch × va_G × (Nat → ClassId) × (Nat → Nat → Nat)
def ad (E : EE) (k o : Nat) : Nat := E.2.2.2 k o
def tysG (E : EE) : List (ClassId × FieldType) := [(E.2.2.1 0, .int), (E.2.2.1 1, .boolean), (E.2.2.1 2, .int), (E.2.2.1 3, .object "CallForker$BindingRow"), (E.2.2.1 4, .object "CallForker$Call")]
def vn : Nat → Nat
  | 0 => 1 | 1 => 1 | 2 => 1 | 3 => 1 | 4 => 1 | 5 => 1
  | 6 => 6 | 7 => 6 | 8 => 6 | 9 => 6 | 10 => 6
  | 11 => 20 | 12 => 20 | 13 => 20 | 14 => 20 | 15 => 20
  | 16 => 1
  | _ => 0
/-- 0 an object, 1 ints, 2 booleans, 3 BindingRows, 4 Calls, 5 longs -/
def kt : Nat → Nat
  | 0 => 0 | 6 => 0 | 11 => 0 | 1 => 3 | 2 => 4 | 15 => 2 | _ => 1
def kl : Nat → Nat
  | 3 => 10 | 4 => 3 | 5 => 12 | 7 => 16 | 8 => 16 | 9 => 16 | 10 => 16 | 12 => 12 | 13 => 12 | 14 => 12 | 15 => 12
  | 16 => 14 | _ => 0
def oc : Nat → Nat
  | 0 => 2 | 6 => 0 | _ => 1
def flds (E : EE) (k o : Nat) (f : Nat → Int32) : List Value := match k with
  | 0 => [.ref (ad E 1 0), .ref (ad E 2 0), .ref (ad E 3 0), .ref (ad E 4 0), .ref (ad E 5 0), .int (f 5), .int (f 6)]
  | 6 => [.ref (ad E 7 o), .ref (ad E 8 o), .ref (ad E 9 o), .ref (ad E 10 o), .int (f 4)]
  | 11 => [.ref (ad E 12 o), .ref (ad E 13 o), .ref (ad E 14 o), .ref (ad E 15 o), .int (f 4), .int (f 5), .int (f 6), .int (f 7), .int (f 8), .int (f 9)]
  | _ => []
def cont (E : EE) (k o : Nat) (f : Nat → Int32) : va_E := match kt k with
  | 0 => .inr (oc k, flds E k o f)
  | 1 => .inl (E.2.2.1 0, kl k, .inl f)
  | 2 => .inl (E.2.2.1 1, kl k, .inl f)
  | 3 => .inl (E.2.2.1 3, 6, .inr (.inr (.inr (.inr (fun i => some (ad E 6 i))))))
  | _ => .inl (E.2.2.1 4, 20, .inr (.inr (.inr (.inr (fun i => some (ad E 11 i))))))
def Wd (E : EE) (μ : Mem) (H : Heap) : Prop := ∀ k o : Nat, o < vn k → va_at E.2.1 vwCl (ad E k o, cont E k o (μ k o)) H
def Inj (E : EE) : Prop := ∀ k o k' o' : Nat, o < vn k → o' < vn k' → ad E k o = ad E k' o' → k = k' ∧ o = o'
def Aw (E : EE) (sz : Nat) : Nat → Prop := fun q => (∃ k o : Nat, o < vn k ∧ q = ad E k o) ∨ sz ≤ q
theorem st_row {μ : Mem} {k o i a b : Nat} {x : Int32} (h : ¬ (a = k ∧ b = o)) : st μ k o i x a b = μ a b := by
  funext j
  unfold st
  rw [if_neg (fun q => h ⟨q.1, q.2.1⟩)]
theorem st_same {μ : Mem} {k o i : Nat} {x : Int32} : st μ k o i x k o i = x := if_pos ⟨rfl, rfl, rfl⟩
theorem st_idx {μ : Mem} {k o i j : Nat} {x : Int32} (h : j ≠ i) : st μ k o i x k o j = μ k o j := if_neg (fun q => h q.2.2)
theorem st_upd {μ : Mem} {k o i : Nat} {x : Int32} : st μ k o i x k o = upd (μ k o) i x := by
  funext j
  unfold st upd
  by_cases h : j = i
  · rw [if_pos ⟨rfl, rfl, h⟩, if_pos h]
  · rw [if_neg (fun q => h q.2.2), if_neg h]
theorem Wd.set {E : EE} {μ : Mem} {H H1 : Heap} {k o i : Nat} {x : Int32} (hI : Inj E) (h : Wd E μ H) (ho : o < vn k) (oq : ∀ q : Nat, q ≠ ad E k o → H1[q]? = H[q]?) (h1 : va_at E.2.1 vwCl (ad E k o, cont E k o (st μ k o i x k o)) H1) : Wd E (st μ k o i x) H1 := by
  intro a b hb
  by_cases e : a = k ∧ b = o
  · obtain ⟨rfl, rfl⟩ := e
    exact h1
  · rw [st_row e]
    exact (h a b hb).kept (oq _ (fun q => e (hI a b k o hb ho q)))
theorem Wd.kept {E : EE} {μ : Mem} {H H1 : Heap} (h : Wd E μ H) (hq : ∀ q : Nat, q < H.size → H1[q]? = H[q]?) : Wd E μ H1 := fun k o ho => (h k o ho).kept (hq _ (h k o ho).lt)
/-! what the tables say and nobody changes -/
theorem gw {w : Cond} (h : w ∈ WALL) : (w.onTables && w.keeps) = true ∨ ∃ ty, w = .arrayClass ty := good_of_word (List.mem_filter.mp h).2
theorem GW {y : Cond} (h : y ∈ WALL) : GoodIn WALL (y :: WALL) := fun w hw => (List.mem_cons.mp hw).elim (fun e => by rw [e]; exact ⟨h, gw h⟩) (fun h => ⟨h, gw h⟩)
theorem GV {own C : String} {idx : Nat} {y : MethodName} {c : Cond} (h1 : Cond.methodLink own idx y ∈ WALL) (h2 : Cond.instanceMethod y ∈ WALL) (h3 : Cond.selects C y y ∈ WALL) (h4 : Cond.initialized C ∈ WALL) (h5 : c ∈ WALL) : GoodIn WALL (wsV own idx C y (c :: WALL)) := by
  intro w hw
  unfold wsV at hw
  simp only [List.mem_append, List.mem_cons, List.not_mem_nil, or_false] at hw
  rcases hw with (rfl | rfl | rfl | rfl) | (rfl | hw)
  · exact ⟨h1, gw h1⟩
  · exact ⟨h2, gw h2⟩
  · exact ⟨h3, gw h3⟩
  · exact ⟨h4, gw h4⟩
  · exact ⟨h5, gw h5⟩
  · exact ⟨hw, gw hw⟩
theorem GS {own : String} {idx : Nat} {y : MethodName} {c : Cond} (h1 : Cond.methodLink own idx y ∈ WALL) (h2 : Cond.static y ∈ WALL) (h4 : Cond.initialized own ∈ WALL) (h5 : c ∈ WALL) : GoodIn WALL (wsS own idx y (c :: WALL)) := by
  intro w hw
  unfold wsS at hw
  simp only [List.mem_append, List.mem_cons, List.not_mem_nil, or_false] at hw
  rcases hw with (rfl | rfl | rfl) | (rfl | hw)
  · exact ⟨h1, gw h1⟩
  · exact ⟨h2, gw h2⟩
  · exact ⟨h4, gw h4⟩
  · exact ⟨h5, gw h5⟩
  · exact ⟨hw, gw hw⟩
def nwk : Cond → Bool
  | .fieldLinkNest .. => true | .methodLinkNest .. => true | .declares _ => true | .castable .. => true | _ => false
theorem nw_warm {w : Cond} {s U : State} (h : nwk w = true) (hW : s.WarmedH U.vm) (hZ : va_Nw w s) : va_Nw w U := by
  cases w <;> first | exact va_Nw.warmF hW hZ | exact va_Nw.warmM hW hZ | exact va_Nw.warmD hW hZ | exact va_Nw.warmC hW hZ | cases h

def WN : List Cond := [.fieldLinkNest "CallForker" 87 "CallForker$BindingRow" "qualities" "[I" "CallForker", .fieldLinkNest "CallForker" 57 "CallForker$BindingRow" "sequences" "[I" "CallForker", .fieldLinkNest "CallForker" 183 "CallForker$BindingRow" "order" "[I" "CallForker", .fieldLinkNest "CallForker" 180 "CallForker$BindingRow" "orderCount" "I" "CallForker", .fieldLinkNest "CallForker" 165 "CallForker$Call" "devices" "[I" "CallForker", .fieldLinkNest "CallForker" 168 "CallForker$Call" "states" "[I" "CallForker", .fieldLinkNest "CallForker" 132 "CallForker$Call" "hungUpAt" "[Z" "CallForker", .fieldLinkNest "CallForker" 158 "CallForker$Call" "branchCount" "I" "CallForker", .fieldLinkNest "CallForker" 171 "CallForker$Call" "answeredBranch" "I" "CallForker", .fieldLinkNest "CallForker" 138 "CallForker$Call" "finalCode" "I" "CallForker", .methodLinkNest "CallForker" 39 ⟨"CallForker$Call", "<init>", "()V"⟩ "CallForker", .declares ⟨"java/lang/RuntimeException", "<init>", "()V"⟩, .declares ⟨"java/lang/RuntimeException", "<init>", "(Ljava/lang/String;)V"⟩, .declares ⟨"java/lang/Exception", "<init>", "()V"⟩, .declares ⟨"java/lang/Exception", "<init>", "(Ljava/lang/String;)V"⟩, .declares ⟨"java/lang/Throwable", "<init>", "()V"⟩, .declares ⟨"java/lang/Throwable", "<init>", "(Ljava/lang/String;)V"⟩, .castable "java/lang/IllegalArgumentException" "java/lang/IllegalArgumentException", .castable "java/lang/IndexOutOfBoundsException" "java/lang/IndexOutOfBoundsException", .castable "java/lang/IllegalStateException" "java/lang/IllegalStateException"]
theorem WN_ok : WN.all nwk = true := by decide +kernel
def STRS : List (Nat × String) := [(90, "no such user"), (174, "no such device"), (84, "no such binding"), (50, "no such target or quality"), (55, "no such ticks or sequence"), (62, "the sequence number is not greater"), (69, "too many bindings"), (92, "too many calls"), (176, "no such call"), (178, "no such branch"), (110, "no such device or code"), (115, "the call has no branch for the device"), (120, "the group of the branch is not started"), (136, "the branch has ended"), (152, "the call has not ended"), (141, "the call has ended"), (147, "no such ticks")]
def NCS : List (String × String) := []

def SX (E : EE) (U : State) : Prop := va_K E.2.1 vwCl (tysG E) U ∧ Inj E ∧ E.1.stackTraces = false ∧ (∀ w ∈ WN, va_Nw w U) ∧ (∀ q ∈ NCS, va_Nc q.1 q.2 U) ∧ (∀ q ∈ STRS, ∃ a : Nat, vk_R "CallForker" q.1 q.2 a U)
theorem SX.warm {E : EE} {s U : State} (hW : s.WarmedH U.vm) (h : SX E s) : SX E U := by
  obtain ⟨h1, h2, h3, h4, h5, h6⟩ := h
  exact ⟨va_K.moved hW.alike h1, h2, h3, fun w hw => nw_warm (List.all_eq_true.mp WN_ok w hw) hW (h4 w hw), fun q hq => va_Nc.moved hW.alike (h5 q hq), fun q hq => (h6 q hq).elim fun a ha => ⟨a, vk_R.warm hW ha⟩⟩
theorem SX.calling {E : EE} {U : State} {g : JFrame} {mk : MethodId} {a : Array Value} (h : SX E U) : SX E (U.calling g mk a) := by
  obtain ⟨h1, h2, h3, h4, h5, h6⟩ := h
  refine ⟨va_K.moved (u := U) (U := U.calling g mk a) (Vm.Alike.refl U.vm) h1, h2, h3, fun w hw => ?_, fun q hq => va_Nc.moved (u := U) (U := U.calling g mk a) (Vm.Alike.refl U.vm) (h5 q hq), fun q hq => (h6 q hq).elim fun b hb => ⟨b, vk_R.same (u := U) rfl hb⟩⟩
  have hk := List.all_eq_true.mp WN_ok w hw
  refine va_Nw.same ?_ (u := U) rfl (h4 w hw)
  cases w <;> first | rfl | cases hk
def ZQ (A : Nat → Prop) (U : State) (H : Heap) : Prop := vx_Zq Bundle.tN "UNASSIGNED_STACK" Bundle.steD A U H ∧ vx_Zq Bundle.tN "SUPPRESSED_SENTINEL" Bundle.listD A U H
def WS (E : EE) (μ : Mem) (sz : Nat) (U : State) : Prop := U.heap.size = sz ∧ Wd E μ U.heap ∧ SX E U ∧ ZQ (Aw E sz) U U.heap
theorem WS.blind {E : EE} {μ : Mem} {sz : Nat} {av : List Value} : FrameBlind (va_Pc av (WS E μ sz)) := by
  rintro a U g mk ⟨h0, h1, h2, h3, h4⟩
  exact ⟨h0, h1, h2, h3.calling, vx_Zq.moved (u := U) (U := U.calling g mk a) (Vm.Alike.refl U.vm) h4.1, vx_Zq.moved (u := U) (U := U.calling g mk a) (Vm.Alike.refl U.vm) h4.2⟩
/-! the context of a walk: program, environment, room, start, method, arguments, stack below, code, goal, own cells, locals -/
abbrev Ctx : Type := Program × Env × Room × State × MethodId × Array Value × List Frame × Method × Code × (State → Prop) × (Nat → Prop) × Nat
abbrev cp (C : Ctx) : Program := C.1
abbrev ce (C : Ctx) : Env := C.2.1
abbrev cR (C : Ctx) : Room := C.2.2.1
abbrev cs (C : Ctx) : State := C.2.2.2.1
abbrev cm (C : Ctx) : MethodId := C.2.2.2.2.1
abbrev ca (C : Ctx) : Array Value := C.2.2.2.2.2.1
abbrev cb (C : Ctx) : List Frame := C.2.2.2.2.2.2.1
abbrev cM (C : Ctx) : Method := C.2.2.2.2.2.2.2.1
abbrev cc (C : Ctx) : Code := C.2.2.2.2.2.2.2.2.1
abbrev cQ (C : Ctx) : State → Prop := C.2.2.2.2.2.2.2.2.2.1
abbrev cA (C : Ctx) : Nat → Prop := C.2.2.2.2.2.2.2.2.2.2.1
abbrev cN (C : Ctx) : Nat := C.2.2.2.2.2.2.2.2.2.2.2
def WC (E : EE) (C : Ctx) (H : Heap) (locs : List Loc) (k n : Nat) (g : JFrame) : Prop := W (cp C) E.1 (ce C) (cR C) (cs C) (cm C) (ca C) (cb C) (cM C) (cc C) H locs k n (cQ C) g
/-- THE JUDGEMENT: from pc, with these locals, this stack, this memory, the machine comes to the goal -/
def KF (E : EE) (C : Ctx) (k n : Nat) (μ : Mem) (pc : Nat) (L : List (Nat × Value)) (S : List Value) : Prop :=
  ∀ (H : Heap) (locs : List Loc) (ls : Array Slot), Wd E μ H → va_S (cA C) (cs C).heap H locs → lv_has ls (cN C) L → WC E C H locs k n (F0 (cm C) pc ls S)
def Cx (E : EE) (C : Ctx) (bs : ByteArray) (own : String) (nL : Nat) (R : Room) : Prop :=
  (cp C).tables.exec = Jvm.exec ∧ (cc C).code = bs ∧ (cc C).maxLocals = nL ∧ (cs C).vm.findClass own = some (cm C).cls ∧ (∀ w ∈ WALL, w.before (ca C) (cs C) = true) ∧ SX E (cs C) ∧ ZQ (cA C) (cs C) (cs C).heap ∧ (∀ k o : Nat, o < vn k → cA C (ad E k o)) ∧ (∀ q : Nat, (cs C).heap.size ≤ q → cA C q) ∧ cR C = R ∧ cN C = nL ∧ (cM C).locks = false
section KROWS
variable {E : EE} {C : Ctx} {bs : ByteArray} {own : String} {nL k n pc : Nat} {R : Room} {μ : Mem} {L L' : List (Nat × Value)} {S : List Value}
theorem k_pick (ks : List Nat) (h : lv_pick L ks = L') (kk : KF E C k n μ pc L' S) : KF E C k n μ pc L S := fun H locs ls hw hs hl => kk H locs ls hw hs (lv_sub hl ks h)
theorem k_mem {μ' : Mem} (h : μ = μ') (kk : KF E C k n μ' pc L S) : KF E C k n μ pc L S := h ▸ kk
theorem k_wide {k' n' : Nat} (h1 : k ≤ k') (h2 : n ≤ n') (kk : KF E C k' n' μ pc L S) : KF E C k n μ pc L S := fun H locs ls hw hs hl => W.widen h1 h2 (kk H locs ls hw hs hl)
theorem k_name {x : Int32} (kk : ∀ y : Int32, y = x → KF E C k n μ pc L (.int y :: S)) : KF E C k n μ pc L (.int x :: S) := kk x rfl
theorem k_val {x y : Int32} (h : x = y) (kk : KF E C k n μ pc L (.int y :: S)) : KF E C k n μ pc L (.int x :: S) := h ▸ kk

theorem k_iconst (X : Cx E C bs own nL R) {i : Int} (v : Int32) (d : decode bs pc = .ok (.iconst i, 1)) (hv : Int32.ofInt i = v) (kk : KF E C k n μ (pc + 1) L (.int v :: S)) : KF E C k n μ pc L S := fun H locs ls hw hs hl => lv_iconst X.1 X.2.1 d hv (kk H locs ls hw hs hl)
theorem k_bipush (X : Cx E C bs own nL R) {i : Int} (v : Int32) (d : decode bs pc = .ok (.bipush i, 2)) (hv : (Int8.ofInt i).toInt32 = v) (kk : KF E C k n μ (pc + 2) L (.int v :: S)) : KF E C k n μ pc L S := fun H locs ls hw hs hl => lv_bipush X.1 X.2.1 d hv (kk H locs ls hw hs hl)
theorem k_sipush (X : Cx E C bs own nL R) {i : Int} (v : Int32) (d : decode bs pc = .ok (.sipush i, 3)) (hv : (Int16.ofInt i).toInt32 = v) (kk : KF E C k n μ (pc + 3) L (.int v :: S)) : KF E C k n μ pc L S := fun H locs ls hw hs hl => lv_sipush X.1 X.2.1 d hv (kk H locs ls hw hs hl)
theorem k_iload_n (X : Cx E C bs own nL R) {r : Fin 4} {i : Nat} {x : Int32} (j : Nat) (d : decode bs pc = .ok (.iload_n r, 1)) (hi : (r : Nat) = i) (h : L[j]? = some (i, .int x)) (kk : KF E C k n μ (pc + 1) L (.int x :: S)) : KF E C k n μ pc L S := fun H locs ls hw hs hl => lv_iload_n X.1 X.2.1 d hi (lv_at hl j h) (kk H locs ls hw hs hl)
theorem k_iload (X : Cx E C bs own nL R) {i : Nat} {x : Int32} (j : Nat) (d : decode bs pc = .ok (.iload i, 2)) (h : L[j]? = some (i, .int x)) (kk : KF E C k n μ (pc + 2) L (.int x :: S)) : KF E C k n μ pc L S := fun H locs ls hw hs hl => lv_iload X.1 X.2.1 d (lv_at hl j h) (kk H locs ls hw hs hl)
theorem k_istore_n (X : Cx E C bs own nL R) {r : Fin 4} {i : Nat} {x : Int32} (d : decode bs pc = .ok (.istore_n r, 1)) (hi : (r : Nat) = i) (hn : i < nL) (h : (i, Value.int x) :: L.filter (fun q => !(q.1 == i) && !(q.1 + 1 == i && q.2.category == 2)) = L') (kk : KF E C k n μ (pc + 1) L' S) : KF E C k n μ pc L (.int x :: S) := fun H locs ls hw hs hl => lv_istore_n X.1 X.2.1 d hi hl (X.2.2.2.2.2.2.2.2.2.2.1 ▸ hn) h (fun ls' hl' => kk H locs ls' hw hs hl')
theorem k_istore (X : Cx E C bs own nL R) {i : Nat} {x : Int32} (d : decode bs pc = .ok (.istore i, 2)) (hn : i < nL) (h : (i, Value.int x) :: L.filter (fun q => !(q.1 == i) && !(q.1 + 1 == i && q.2.category == 2)) = L') (kk : KF E C k n μ (pc + 2) L' S) : KF E C k n μ pc L (.int x :: S) := fun H locs ls hw hs hl => lv_istore X.1 X.2.1 d hl (X.2.2.2.2.2.2.2.2.2.2.1 ▸ hn) h (fun ls' hl' => kk H locs ls' hw hs hl')
theorem k_aload_n (X : Cx E C bs own nL R) {r : Fin 4} {i : Nat} {x : Nat} (j : Nat) (d : decode bs pc = .ok (.aload_n r, 1)) (hi : (r : Nat) = i) (h : L[j]? = some (i, .ref x)) (kk : KF E C k n μ (pc + 1) L (.ref x :: S)) : KF E C k n μ pc L S := fun H locs ls hw hs hl => lv_aload_n X.1 X.2.1 d hi (lv_at hl j h) (kk H locs ls hw hs hl)
theorem k_aload (X : Cx E C bs own nL R) {i : Nat} {x : Nat} (j : Nat) (d : decode bs pc = .ok (.aload i, 2)) (h : L[j]? = some (i, .ref x)) (kk : KF E C k n μ (pc + 2) L (.ref x :: S)) : KF E C k n μ pc L S := fun H locs ls hw hs hl => lv_aload X.1 X.2.1 d (lv_at hl j h) (kk H locs ls hw hs hl)
theorem k_astore_n (X : Cx E C bs own nL R) {r : Fin 4} {i : Nat} {x : Nat} (d : decode bs pc = .ok (.astore_n r, 1)) (hi : (r : Nat) = i) (hn : i < nL) (h : (i, Value.ref x) :: L.filter (fun q => !(q.1 == i) && !(q.1 + 1 == i && q.2.category == 2)) = L') (kk : KF E C k n μ (pc + 1) L' S) : KF E C k n μ pc L (.ref x :: S) := fun H locs ls hw hs hl => lv_astore_n X.1 X.2.1 d hi hl (X.2.2.2.2.2.2.2.2.2.2.1 ▸ hn) h (fun ls' hl' => kk H locs ls' hw hs hl')
theorem k_astore (X : Cx E C bs own nL R) {i : Nat} {x : Nat} (d : decode bs pc = .ok (.astore i, 2)) (hn : i < nL) (h : (i, Value.ref x) :: L.filter (fun q => !(q.1 == i) && !(q.1 + 1 == i && q.2.category == 2)) = L') (kk : KF E C k n μ (pc + 2) L' S) : KF E C k n μ pc L (.ref x :: S) := fun H locs ls hw hs hl => lv_astore X.1 X.2.1 d hl (X.2.2.2.2.2.2.2.2.2.2.1 ▸ hn) h (fun ls' hl' => kk H locs ls' hw hs hl')
theorem k_iinc (X : Cx E C bs own nL R) {i : Nat} {z : Int} {x v : Int32} (j : Nat) (d : decode bs pc = .ok (.iinc i z, 3)) (hj : L[j]? = some (i, .int x)) (hv : x + Int32.ofInt z = v) (hn : i < nL) (h : (i, Value.int v) :: L.filter (fun q => !(q.1 == i) && !(q.1 + 1 == i && q.2.category == 2)) = L') (kk : KF E C k n μ (pc + 3) L' S) : KF E C k n μ pc L S := fun H locs ls hw hs hl => lv_iinc X.1 X.2.1 d hl hj hv (X.2.2.2.2.2.2.2.2.2.2.1 ▸ hn) h (fun ls' hl' => kk H locs ls' hw hs hl')
theorem k_iadd (X : Cx E C bs own nL R) {x y : Int32} (d : decode bs pc = .ok (.iadd, 1)) (kk : KF E C k n μ (pc + 1) L (.int (x + y) :: S)) : KF E C k n μ pc L (.int y :: .int x :: S) := fun H locs ls hw hs hl => lv_iadd X.1 X.2.1 d (kk H locs ls hw hs hl)
theorem k_isub (X : Cx E C bs own nL R) {x y : Int32} (d : decode bs pc = .ok (.isub, 1)) (kk : KF E C k n μ (pc + 1) L (.int (x - y) :: S)) : KF E C k n μ pc L (.int y :: .int x :: S) := fun H locs ls hw hs hl => lv_isub X.1 X.2.1 d (kk H locs ls hw hs hl)
theorem k_imul (X : Cx E C bs own nL R) {x y : Int32} (d : decode bs pc = .ok (.imul, 1)) (kk : KF E C k n μ (pc + 1) L (.int (x * y) :: S)) : KF E C k n μ pc L (.int y :: .int x :: S) := fun H locs ls hw hs hl => lv_imul X.1 X.2.1 d (kk H locs ls hw hs hl)
theorem k_iand (X : Cx E C bs own nL R) {x y : Int32} (d : decode bs pc = .ok (.iand, 1)) (kk : KF E C k n μ (pc + 1) L (.int (x &&& y) :: S)) : KF E C k n μ pc L (.int y :: .int x :: S) := fun H locs ls hw hs hl => lv_iand X.1 X.2.1 d (kk H locs ls hw hs hl)
theorem k_ior (X : Cx E C bs own nL R) {x y : Int32} (d : decode bs pc = .ok (.ior, 1)) (kk : KF E C k n μ (pc + 1) L (.int (x ||| y) :: S)) : KF E C k n μ pc L (.int y :: .int x :: S) := fun H locs ls hw hs hl => lv_ior X.1 X.2.1 d (kk H locs ls hw hs hl)
theorem k_ishl (X : Cx E C bs own nL R) {x y : Int32} (d : decode bs pc = .ok (.ishl, 1)) (kk : KF E C k n μ (pc + 1) L (.int (x <<< (y &&& 31)) :: S)) : KF E C k n μ pc L (.int y :: .int x :: S) := fun H locs ls hw hs hl => lv_ishl X.1 X.2.1 d (kk H locs ls hw hs hl)
theorem k_ishr (X : Cx E C bs own nL R) {x y : Int32} (d : decode bs pc = .ok (.ishr, 1)) (kk : KF E C k n μ (pc + 1) L (.int (x >>> (y &&& 31)) :: S)) : KF E C k n μ pc L (.int y :: .int x :: S) := fun H locs ls hw hs hl => lv_ishr X.1 X.2.1 d (kk H locs ls hw hs hl)
theorem k_i2l (X : Cx E C bs own nL R) {x : Int32} (d : decode bs pc = .ok (.i2l, 1)) (kk : KF E C k n μ (pc + 1) L (.long x.toInt64 :: S)) : KF E C k n μ pc L (.int x :: S) := fun H locs ls hw hs hl => lv_i2l X.1 X.2.1 d rfl (kk H locs ls hw hs hl)
theorem k_lcmp (X : Cx E C bs own nL R) {x y : Int64} (d : decode bs pc = .ok (.lcmp, 1)) (kk : KF E C k n μ (pc + 1) L (.int (lg_cmp x y) :: S)) : KF E C k n μ pc L (.long y :: .long x :: S) := fun H locs ls hw hs hl => W.lcmp X.1 X.2.1 d (kk H locs ls hw hs hl)
theorem k_dup (X : Cx E C bs own nL R) {v : Value} (d : decode bs pc = .ok (.dup, 1)) (hv : v.category = 1) (kk : KF E C k n μ (pc + 1) L (v :: v :: S)) : KF E C k n μ pc L (v :: S) := fun H locs ls hw hs hl => lv_dup X.1 X.2.1 d hv (kk H locs ls hw hs hl)
theorem k_dup2 (X : Cx E C bs own nL R) {v u : Value} (d : decode bs pc = .ok (.dup2, 1)) (hv : v.category = 1) (hu : u.category = 1) (kk : KF E C k n μ (pc + 1) L (v :: u :: v :: u :: S)) : KF E C k n μ pc L (v :: u :: S) := fun H locs ls hw hs hl => lv_dup2_11 X.1 X.2.1 d hv hu (kk H locs ls hw hs hl)
theorem k_pop (X : Cx E C bs own nL R) {v : Value} (d : decode bs pc = .ok (.pop, 1)) (hv : v.category = 1) (kk : KF E C k n μ (pc + 1) L S) : KF E C k n μ pc L (v :: S) := fun H locs ls hw hs hl => lv_pop X.1 X.2.1 d hv (kk H locs ls hw hs hl)
theorem k_goto (X : Cx E C bs own nL R) {off : Int} {tgt : Nat} (d : decode bs pc = .ok (.goto off, 3)) (ht : (pc : Int) + off = (tgt : Int)) (kk : KF E C k n μ tgt L S) : KF E C k n μ pc L S := fun H locs ls hw hs hl => lv_goto X.1 X.2.1 d ht (kk H locs ls hw hs hl)
theorem k_if_eq (X : Cx E C bs own nL R) {x : Int32} {off : Int} {tgt : Nat} (d : decode bs pc = .ok (.ifCond .eq off, 3)) (ht : (pc : Int) + off = (tgt : Int)) (kt : x = 0 → KF E C k n μ tgt L S) (kf : ¬ (x = 0) → KF E C k n μ (pc + 3) L S) : KF E C k n μ pc L (.int x :: S) := fun H locs ls hw hs hl => lv_if_eq X.1 X.2.1 d ht (fun h => kt h H locs ls hw hs hl) (fun h => kf h H locs ls hw hs hl)
theorem k_icmp_eq (X : Cx E C bs own nL R) {x y : Int32} {off : Int} {tgt : Nat} (d : decode bs pc = .ok (.if_icmp .eq off, 3)) (ht : (pc : Int) + off = (tgt : Int)) (kt : x = y → KF E C k n μ tgt L S) (kf : ¬ (x = y) → KF E C k n μ (pc + 3) L S) : KF E C k n μ pc L (.int y :: .int x :: S) := fun H locs ls hw hs hl => lv_icmp_eq X.1 X.2.1 d ht (fun h => kt h H locs ls hw hs hl) (fun h => kf h H locs ls hw hs hl)
theorem k_if_ne (X : Cx E C bs own nL R) {x : Int32} {off : Int} {tgt : Nat} (d : decode bs pc = .ok (.ifCond .ne off, 3)) (ht : (pc : Int) + off = (tgt : Int)) (kt : ¬ x = 0 → KF E C k n μ tgt L S) (kf : x = 0 → KF E C k n μ (pc + 3) L S) : KF E C k n μ pc L (.int x :: S) := fun H locs ls hw hs hl => lv_if_ne X.1 X.2.1 d ht (fun h => kt h H locs ls hw hs hl) (fun h => kf h H locs ls hw hs hl)
theorem k_icmp_ne (X : Cx E C bs own nL R) {x y : Int32} {off : Int} {tgt : Nat} (d : decode bs pc = .ok (.if_icmp .ne off, 3)) (ht : (pc : Int) + off = (tgt : Int)) (kt : ¬ x = y → KF E C k n μ tgt L S) (kf : x = y → KF E C k n μ (pc + 3) L S) : KF E C k n μ pc L (.int y :: .int x :: S) := fun H locs ls hw hs hl => lv_icmp_ne X.1 X.2.1 d ht (fun h => kt h H locs ls hw hs hl) (fun h => kf h H locs ls hw hs hl)
theorem k_if_lt (X : Cx E C bs own nL R) {x : Int32} {off : Int} {tgt : Nat} (d : decode bs pc = .ok (.ifCond .lt off, 3)) (ht : (pc : Int) + off = (tgt : Int)) (kt : x < 0 → KF E C k n μ tgt L S) (kf : ¬ (x < 0) → KF E C k n μ (pc + 3) L S) : KF E C k n μ pc L (.int x :: S) := fun H locs ls hw hs hl => lv_if_lt X.1 X.2.1 d ht (fun h => kt h H locs ls hw hs hl) (fun h => kf h H locs ls hw hs hl)
theorem k_icmp_lt (X : Cx E C bs own nL R) {x y : Int32} {off : Int} {tgt : Nat} (d : decode bs pc = .ok (.if_icmp .lt off, 3)) (ht : (pc : Int) + off = (tgt : Int)) (kt : x < y → KF E C k n μ tgt L S) (kf : ¬ (x < y) → KF E C k n μ (pc + 3) L S) : KF E C k n μ pc L (.int y :: .int x :: S) := fun H locs ls hw hs hl => lv_icmp_lt X.1 X.2.1 d ht (fun h => kt h H locs ls hw hs hl) (fun h => kf h H locs ls hw hs hl)
theorem k_if_ge (X : Cx E C bs own nL R) {x : Int32} {off : Int} {tgt : Nat} (d : decode bs pc = .ok (.ifCond .ge off, 3)) (ht : (pc : Int) + off = (tgt : Int)) (kt : 0 ≤ x → KF E C k n μ tgt L S) (kf : ¬ (0 ≤ x) → KF E C k n μ (pc + 3) L S) : KF E C k n μ pc L (.int x :: S) := fun H locs ls hw hs hl => lv_if_ge X.1 X.2.1 d ht (fun h => kt h H locs ls hw hs hl) (fun h => kf h H locs ls hw hs hl)
theorem k_icmp_ge (X : Cx E C bs own nL R) {x y : Int32} {off : Int} {tgt : Nat} (d : decode bs pc = .ok (.if_icmp .ge off, 3)) (ht : (pc : Int) + off = (tgt : Int)) (kt : y ≤ x → KF E C k n μ tgt L S) (kf : ¬ (y ≤ x) → KF E C k n μ (pc + 3) L S) : KF E C k n μ pc L (.int y :: .int x :: S) := fun H locs ls hw hs hl => lv_icmp_ge X.1 X.2.1 d ht (fun h => kt h H locs ls hw hs hl) (fun h => kf h H locs ls hw hs hl)
theorem k_if_gt (X : Cx E C bs own nL R) {x : Int32} {off : Int} {tgt : Nat} (d : decode bs pc = .ok (.ifCond .gt off, 3)) (ht : (pc : Int) + off = (tgt : Int)) (kt : 0 < x → KF E C k n μ tgt L S) (kf : ¬ (0 < x) → KF E C k n μ (pc + 3) L S) : KF E C k n μ pc L (.int x :: S) := fun H locs ls hw hs hl => lv_if_gt X.1 X.2.1 d ht (fun h => kt h H locs ls hw hs hl) (fun h => kf h H locs ls hw hs hl)
theorem k_icmp_gt (X : Cx E C bs own nL R) {x y : Int32} {off : Int} {tgt : Nat} (d : decode bs pc = .ok (.if_icmp .gt off, 3)) (ht : (pc : Int) + off = (tgt : Int)) (kt : y < x → KF E C k n μ tgt L S) (kf : ¬ (y < x) → KF E C k n μ (pc + 3) L S) : KF E C k n μ pc L (.int y :: .int x :: S) := fun H locs ls hw hs hl => lv_icmp_gt X.1 X.2.1 d ht (fun h => kt h H locs ls hw hs hl) (fun h => kf h H locs ls hw hs hl)
theorem k_if_le (X : Cx E C bs own nL R) {x : Int32} {off : Int} {tgt : Nat} (d : decode bs pc = .ok (.ifCond .le off, 3)) (ht : (pc : Int) + off = (tgt : Int)) (kt : x ≤ 0 → KF E C k n μ tgt L S) (kf : ¬ (x ≤ 0) → KF E C k n μ (pc + 3) L S) : KF E C k n μ pc L (.int x :: S) := fun H locs ls hw hs hl => lv_if_le X.1 X.2.1 d ht (fun h => kt h H locs ls hw hs hl) (fun h => kf h H locs ls hw hs hl)
theorem k_icmp_le (X : Cx E C bs own nL R) {x y : Int32} {off : Int} {tgt : Nat} (d : decode bs pc = .ok (.if_icmp .le off, 3)) (ht : (pc : Int) + off = (tgt : Int)) (kt : x ≤ y → KF E C k n μ tgt L S) (kf : ¬ (x ≤ y) → KF E C k n μ (pc + 3) L S) : KF E C k n μ pc L (.int y :: .int x :: S) := fun H locs ls hw hs hl => lv_icmp_le X.1 X.2.1 d ht (fun h => kt h H locs ls hw hs hl) (fun h => kf h H locs ls hw hs hl)
theorem k_idiv (X : Cx E C bs own nL R) {x y : Int32} (d : decode bs pc = .ok (.idiv, 1)) (hne : ¬ y = 0) (kk : KF E C k n μ (pc + 1) L (.int (x / y) :: S)) : KF E C k n μ pc L (.int y :: .int x :: S) := fun H locs ls hw hs hl => lv_idiv X.1 X.2.1 d hne (kk H locs ls hw hs hl)
theorem k_irem (X : Cx E C bs own nL R) {x y : Int32} (d : decode bs pc = .ok (.irem, 1)) (hne : ¬ y = 0) (kk : KF E C k n μ (pc + 1) L (.int (x - x / y * y) :: S)) : KF E C k n μ pc L (.int y :: .int x :: S) := fun H locs ls hw hs hl => lv_irem X.1 X.2.1 d hne (kk H locs ls hw hs hl)
theorem k_ldc (X : Cx E C bs own nL R) {idx : Nat} {v : Int32} (hw9 : Cond.constant own idx v ∈ WALL) (d : decode bs pc = .ok (.ldc idx, 2)) (kk : KF E C k n μ (pc + 2) L (.int v :: S)) : KF E C k n μ pc L S := fun H locs ls hw hs hl => lv_ldc X.1 X.2.1 X.2.2.2.1 (X.2.2.2.2.1 _ hw9) d (kk H locs ls hw hs hl)
theorem k_if_eq_t (X : Cx E C bs own nL R) {x : Int32} {off : Int} {tgt : Nat} (d : decode bs pc = .ok (.ifCond .eq off, 3)) (ht : (pc : Int) + off = (tgt : Int)) (hc : x = 0) (kk : KF E C k n μ tgt L S) : KF E C k n μ pc L (.int x :: S) := k_if_eq X d ht (fun _ => kk) (fun h => absurd hc h)
theorem k_if_eq_f (X : Cx E C bs own nL R) {x : Int32} {off : Int} {tgt : Nat} (d : decode bs pc = .ok (.ifCond .eq off, 3)) (ht : (pc : Int) + off = (tgt : Int)) (hc : ¬ (x = 0)) (kk : KF E C k n μ (pc + 3) L S) : KF E C k n μ pc L (.int x :: S) := k_if_eq X d ht (fun h => absurd h hc) (fun _ => kk)
theorem k_icmp_eq_t (X : Cx E C bs own nL R) {x y : Int32} {off : Int} {tgt : Nat} (d : decode bs pc = .ok (.if_icmp .eq off, 3)) (ht : (pc : Int) + off = (tgt : Int)) (hc : x = y) (kk : KF E C k n μ tgt L S) : KF E C k n μ pc L (.int y :: .int x :: S) := k_icmp_eq X d ht (fun _ => kk) (fun h => absurd hc h)
theorem k_icmp_eq_f (X : Cx E C bs own nL R) {x y : Int32} {off : Int} {tgt : Nat} (d : decode bs pc = .ok (.if_icmp .eq off, 3)) (ht : (pc : Int) + off = (tgt : Int)) (hc : ¬ (x = y)) (kk : KF E C k n μ (pc + 3) L S) : KF E C k n μ pc L (.int y :: .int x :: S) := k_icmp_eq X d ht (fun h => absurd h hc) (fun _ => kk)
theorem k_if_ne_t (X : Cx E C bs own nL R) {x : Int32} {off : Int} {tgt : Nat} (d : decode bs pc = .ok (.ifCond .ne off, 3)) (ht : (pc : Int) + off = (tgt : Int)) (hc : ¬ x = 0) (kk : KF E C k n μ tgt L S) : KF E C k n μ pc L (.int x :: S) := k_if_ne X d ht (fun _ => kk) (fun h => absurd h hc)
theorem k_if_ne_f (X : Cx E C bs own nL R) {x : Int32} {off : Int} {tgt : Nat} (d : decode bs pc = .ok (.ifCond .ne off, 3)) (ht : (pc : Int) + off = (tgt : Int)) (hc : x = 0) (kk : KF E C k n μ (pc + 3) L S) : KF E C k n μ pc L (.int x :: S) := k_if_ne X d ht (fun h => absurd hc h) (fun _ => kk)
theorem k_icmp_ne_t (X : Cx E C bs own nL R) {x y : Int32} {off : Int} {tgt : Nat} (d : decode bs pc = .ok (.if_icmp .ne off, 3)) (ht : (pc : Int) + off = (tgt : Int)) (hc : ¬ x = y) (kk : KF E C k n μ tgt L S) : KF E C k n μ pc L (.int y :: .int x :: S) := k_icmp_ne X d ht (fun _ => kk) (fun h => absurd h hc)
theorem k_icmp_ne_f (X : Cx E C bs own nL R) {x y : Int32} {off : Int} {tgt : Nat} (d : decode bs pc = .ok (.if_icmp .ne off, 3)) (ht : (pc : Int) + off = (tgt : Int)) (hc : x = y) (kk : KF E C k n μ (pc + 3) L S) : KF E C k n μ pc L (.int y :: .int x :: S) := k_icmp_ne X d ht (fun h => absurd hc h) (fun _ => kk)
theorem k_if_lt_t (X : Cx E C bs own nL R) {x : Int32} {off : Int} {tgt : Nat} (d : decode bs pc = .ok (.ifCond .lt off, 3)) (ht : (pc : Int) + off = (tgt : Int)) (hc : x < 0) (kk : KF E C k n μ tgt L S) : KF E C k n μ pc L (.int x :: S) := k_if_lt X d ht (fun _ => kk) (fun h => absurd hc h)
theorem k_if_lt_f (X : Cx E C bs own nL R) {x : Int32} {off : Int} {tgt : Nat} (d : decode bs pc = .ok (.ifCond .lt off, 3)) (ht : (pc : Int) + off = (tgt : Int)) (hc : ¬ (x < 0)) (kk : KF E C k n μ (pc + 3) L S) : KF E C k n μ pc L (.int x :: S) := k_if_lt X d ht (fun h => absurd h hc) (fun _ => kk)
theorem k_icmp_lt_t (X : Cx E C bs own nL R) {x y : Int32} {off : Int} {tgt : Nat} (d : decode bs pc = .ok (.if_icmp .lt off, 3)) (ht : (pc : Int) + off = (tgt : Int)) (hc : x < y) (kk : KF E C k n μ tgt L S) : KF E C k n μ pc L (.int y :: .int x :: S) := k_icmp_lt X d ht (fun _ => kk) (fun h => absurd hc h)
theorem k_icmp_lt_f (X : Cx E C bs own nL R) {x y : Int32} {off : Int} {tgt : Nat} (d : decode bs pc = .ok (.if_icmp .lt off, 3)) (ht : (pc : Int) + off = (tgt : Int)) (hc : ¬ (x < y)) (kk : KF E C k n μ (pc + 3) L S) : KF E C k n μ pc L (.int y :: .int x :: S) := k_icmp_lt X d ht (fun h => absurd h hc) (fun _ => kk)
theorem k_if_ge_t (X : Cx E C bs own nL R) {x : Int32} {off : Int} {tgt : Nat} (d : decode bs pc = .ok (.ifCond .ge off, 3)) (ht : (pc : Int) + off = (tgt : Int)) (hc : 0 ≤ x) (kk : KF E C k n μ tgt L S) : KF E C k n μ pc L (.int x :: S) := k_if_ge X d ht (fun _ => kk) (fun h => absurd hc h)
theorem k_if_ge_f (X : Cx E C bs own nL R) {x : Int32} {off : Int} {tgt : Nat} (d : decode bs pc = .ok (.ifCond .ge off, 3)) (ht : (pc : Int) + off = (tgt : Int)) (hc : ¬ (0 ≤ x)) (kk : KF E C k n μ (pc + 3) L S) : KF E C k n μ pc L (.int x :: S) := k_if_ge X d ht (fun h => absurd h hc) (fun _ => kk)
theorem k_icmp_ge_t (X : Cx E C bs own nL R) {x y : Int32} {off : Int} {tgt : Nat} (d : decode bs pc = .ok (.if_icmp .ge off, 3)) (ht : (pc : Int) + off = (tgt : Int)) (hc : y ≤ x) (kk : KF E C k n μ tgt L S) : KF E C k n μ pc L (.int y :: .int x :: S) := k_icmp_ge X d ht (fun _ => kk) (fun h => absurd hc h)
theorem k_icmp_ge_f (X : Cx E C bs own nL R) {x y : Int32} {off : Int} {tgt : Nat} (d : decode bs pc = .ok (.if_icmp .ge off, 3)) (ht : (pc : Int) + off = (tgt : Int)) (hc : ¬ (y ≤ x)) (kk : KF E C k n μ (pc + 3) L S) : KF E C k n μ pc L (.int y :: .int x :: S) := k_icmp_ge X d ht (fun h => absurd h hc) (fun _ => kk)
theorem k_if_gt_t (X : Cx E C bs own nL R) {x : Int32} {off : Int} {tgt : Nat} (d : decode bs pc = .ok (.ifCond .gt off, 3)) (ht : (pc : Int) + off = (tgt : Int)) (hc : 0 < x) (kk : KF E C k n μ tgt L S) : KF E C k n μ pc L (.int x :: S) := k_if_gt X d ht (fun _ => kk) (fun h => absurd hc h)
theorem k_if_gt_f (X : Cx E C bs own nL R) {x : Int32} {off : Int} {tgt : Nat} (d : decode bs pc = .ok (.ifCond .gt off, 3)) (ht : (pc : Int) + off = (tgt : Int)) (hc : ¬ (0 < x)) (kk : KF E C k n μ (pc + 3) L S) : KF E C k n μ pc L (.int x :: S) := k_if_gt X d ht (fun h => absurd h hc) (fun _ => kk)
theorem k_icmp_gt_t (X : Cx E C bs own nL R) {x y : Int32} {off : Int} {tgt : Nat} (d : decode bs pc = .ok (.if_icmp .gt off, 3)) (ht : (pc : Int) + off = (tgt : Int)) (hc : y < x) (kk : KF E C k n μ tgt L S) : KF E C k n μ pc L (.int y :: .int x :: S) := k_icmp_gt X d ht (fun _ => kk) (fun h => absurd hc h)
theorem k_icmp_gt_f (X : Cx E C bs own nL R) {x y : Int32} {off : Int} {tgt : Nat} (d : decode bs pc = .ok (.if_icmp .gt off, 3)) (ht : (pc : Int) + off = (tgt : Int)) (hc : ¬ (y < x)) (kk : KF E C k n μ (pc + 3) L S) : KF E C k n μ pc L (.int y :: .int x :: S) := k_icmp_gt X d ht (fun h => absurd h hc) (fun _ => kk)
theorem k_if_le_t (X : Cx E C bs own nL R) {x : Int32} {off : Int} {tgt : Nat} (d : decode bs pc = .ok (.ifCond .le off, 3)) (ht : (pc : Int) + off = (tgt : Int)) (hc : x ≤ 0) (kk : KF E C k n μ tgt L S) : KF E C k n μ pc L (.int x :: S) := k_if_le X d ht (fun _ => kk) (fun h => absurd hc h)
theorem k_if_le_f (X : Cx E C bs own nL R) {x : Int32} {off : Int} {tgt : Nat} (d : decode bs pc = .ok (.ifCond .le off, 3)) (ht : (pc : Int) + off = (tgt : Int)) (hc : ¬ (x ≤ 0)) (kk : KF E C k n μ (pc + 3) L S) : KF E C k n μ pc L (.int x :: S) := k_if_le X d ht (fun h => absurd h hc) (fun _ => kk)
theorem k_icmp_le_t (X : Cx E C bs own nL R) {x y : Int32} {off : Int} {tgt : Nat} (d : decode bs pc = .ok (.if_icmp .le off, 3)) (ht : (pc : Int) + off = (tgt : Int)) (hc : x ≤ y) (kk : KF E C k n μ tgt L S) : KF E C k n μ pc L (.int y :: .int x :: S) := k_icmp_le X d ht (fun _ => kk) (fun h => absurd hc h)
theorem k_icmp_le_f (X : Cx E C bs own nL R) {x y : Int32} {off : Int} {tgt : Nat} (d : decode bs pc = .ok (.if_icmp .le off, 3)) (ht : (pc : Int) + off = (tgt : Int)) (hc : ¬ (x ≤ y)) (kk : KF E C k n μ (pc + 3) L S) : KF E C k n μ pc L (.int y :: .int x :: S) := k_icmp_le X d ht (fun h => absurd h hc) (fun _ => kk)

/-- a branch on natural numbers: the loop's test -/
theorem k_ge_n (X : Cx E C bs own nL R) {a b : Nat} {x y : Int32} {off : Int} {tgt : Nat} (d : decode bs pc = .ok (.if_icmp .ge off, 3)) (ht : (pc : Int) + off = (tgt : Int)) (hx : x = nI a) (hy : y = nI b) (ha : a < 2 ^ 31) (hb : b < 2 ^ 31) (kt : b ≤ a → KF E C k n μ tgt L S) (kf : a < b → KF E C k n μ (pc + 3) L S) : KF E C k n μ pc L (.int y :: .int x :: S) := by
  subst hx; subst hy
  exact k_icmp_ge X d ht (fun h => kt ((nI_leI hb ha).mp h)) (fun h => kf (Nat.lt_of_not_le fun q => h ((nI_leI hb ha).mpr q)))
/-! arrays -/
theorem k_iald (X : Cx E C bs own nL R) {a o j : Nat} {x : Int32} (hk : kt a = 1) (ho : o < vn a) (hx : x = nI j) (hj : j < kl a) (hj2 : kl a < 2 ^ 31) (d : decode bs pc = .ok (.iaload, 1)) (kk : KF E C k n μ (pc + 1) L (.int (μ a o j) :: S)) : KF E C k n μ pc L (.int x :: .ref (ad E a o) :: S) := by
  subst hx
  intro H locs ls hw hs hl
  have hc : cont E a o (μ a o) = .inl (E.2.2.1 0, kl a, .inl (μ a o)) := by unfold cont; rw [hk]; rfl
  have hP : va_P E.2.1 vwCl [(ad E a o, .inl (E.2.2.1 0, kl a, .inl (μ a o)))] H := by
    intro q e he
    match q, he with
    | 0, he => cases he; rw [← hc]; exact hw a o ho
  have h2 := kk H locs ls hw hs hl
  rw [← nI_clamp (Nat.lt_trans hj hj2)] at h2
  exact va_iald X.1 X.2.1 X.2.2.2.2.2.1.1 hP 0 0 rfl rfl (vp_in_nI hj hj2) d h2
theorem k_zald (X : Cx E C bs own nL R) {a o j : Nat} {x : Int32} (hk : kt a = 2) (ho : o < vn a) (hx : x = nI j) (hj : j < kl a) (hj2 : kl a < 2 ^ 31) (d : decode bs pc = .ok (.baload, 1)) (kk : KF E C k n μ (pc + 1) L (.int (μ a o j) :: S)) : KF E C k n μ pc L (.int x :: .ref (ad E a o) :: S) := by
  subst hx
  intro H locs ls hw hs hl
  have hc : cont E a o (μ a o) = .inl (E.2.2.1 1, kl a, .inl (μ a o)) := by unfold cont; rw [hk]; rfl
  have hP : va_P E.2.1 vwCl [(ad E a o, .inl (E.2.2.1 1, kl a, .inl (μ a o)))] H := by
    intro q e he
    match q, he with
    | 0, he => cases he; rw [← hc]; exact hw a o ho
  have h2 := kk H locs ls hw hs hl
  rw [← nI_clamp (Nat.lt_trans hj hj2)] at h2
  exact va_zald X.1 X.2.1 X.2.2.2.2.2.1.1 hP 0 1 rfl rfl (vp_in_nI hj hj2) d h2
theorem k_ialen (X : Cx E C bs own nL R) {a o : Nat} (hk : kt a = 1) (ho : o < vn a) (d : decode bs pc = .ok (.arraylength, 1)) (kk : KF E C k n μ (pc + 1) L (.int (nI (kl a)) :: S)) : KF E C k n μ pc L (.ref (ad E a o) :: S) := by
  intro H locs ls hw hs hl
  have hc : cont E a o (μ a o) = .inl (E.2.2.1 0, kl a, .inl (μ a o)) := by unfold cont; rw [hk]; rfl
  have hP : va_P E.2.1 vwCl [(ad E a o, .inl (E.2.2.1 0, kl a, .inl (μ a o)))] H := by
    intro q e he
    match q, he with
    | 0, he => cases he; rw [← hc]; exact hw a o ho
  exact va_alen (x := (kl a, .inl (μ a o))) (v := nI (kl a)) X.1 X.2.1 X.2.2.2.2.2.1.1 hP 0 0 rfl rfl rfl d (kk H locs ls hw hs hl)
theorem k_rald (X : Cx E C bs own nL R) {j : Nat} {x : Int32} (hx : x = nI j) (hj : j < 6) (d : decode bs pc = .ok (.aaload, 1)) (kk : KF E C k n μ (pc + 1) L (.ref (ad E 6 j) :: S)) : KF E C k n μ pc L (.int x :: .ref (ad E 1 0) :: S) := by
  subst hx
  intro H locs ls hw hs hl
  have hP : va_P E.2.1 vwCl [(ad E 1 0, .inl (E.2.2.1 3, 6, .inr (.inr (.inr (.inr (fun i => some (ad E 6 i)))))))] H := by
    intro q e he
    match q, he with
    | 0, he => cases he; exact hw 1 0 (by decide)
  have h2 := kk H locs ls hw hs hl
  rw [← nI_clamp (Nat.lt_trans hj (by decide))] at h2
  exact va_aldq X.1 X.2.1 X.2.2.2.2.2.1.1 hP 0 3 rfl rfl (vp_in_nI hj (by decide)) d h2
theorem k_cald (X : Cx E C bs own nL R) {j : Nat} {x : Int32} (hx : x = nI j) (hj : j < 20) (d : decode bs pc = .ok (.aaload, 1)) (kk : KF E C k n μ (pc + 1) L (.ref (ad E 11 j) :: S)) : KF E C k n μ pc L (.int x :: .ref (ad E 2 0) :: S) := by
  subst hx
  intro H locs ls hw hs hl
  have hP : va_P E.2.1 vwCl [(ad E 2 0, .inl (E.2.2.1 4, 20, .inr (.inr (.inr (.inr (fun i => some (ad E 11 i)))))))] H := by
    intro q e he
    match q, he with
    | 0, he => cases he; exact hw 2 0 (by decide)
  have h2 := kk H locs ls hw hs hl
  rw [← nI_clamp (Nat.lt_trans hj (by decide))] at h2
  exact va_aldq X.1 X.2.1 X.2.2.2.2.2.1.1 hP 0 4 rfl rfl (vp_in_nI hj (by decide)) d h2
theorem k_iast (X : Cx E C bs own nL R) {a o j : Nat} {x y : Int32} (hk : kt a = 1) (ho : o < vn a) (hx : x = nI j) (hj : j < kl a) (hj2 : kl a < 2 ^ 31) (d : decode bs pc = .ok (.iastore, 1)) (kk : KF E C k n (st μ a o j y) (pc + 1) L S) : KF E C k n μ pc L (.int y :: .int x :: .ref (ad E a o) :: S) := by
  subst hx
  intro H locs ls hw hs hl
  have hc : ∀ f, cont E a o f = .inl (E.2.2.1 0, kl a, .inl f) := fun f => by unfold cont; rw [hk]; rfl
  have h0 := hw a o ho
  rw [hc] at h0
  have hin := vp_in_nI hj hj2
  refine W.iast X.1 X.2.1 h0 ((X.2.2.2.2.2.1.1.2 0 _ rfl).1 (kl a) (fun i => .int (μ a o i))) (fun q => by cases q) (by show ¬ (nI j < 0 ∨ (arrV _ _ _).slots.size ≤ _); rw [arrV_size]; exact hin) rfl rfl d fun H1 e z oq => ?_
  refine kk H1 _ ls (hw.set X.2.2.2.2.2.1.2.1 ho oq ?_) (hs.put z oq (X.2.2.2.2.2.2.2.1 a o ho)) hl
  rw [hc, st_upd]
  show H1[ad E a o]? = some (vp_cell _ _)
  rw [e]
  show some ((arrV _ (kl a) (fun i => Value.int (μ a o i))).setSlot _ _) = some (arrV _ (kl a) (fun i => Value.int (upd (μ a o) j y i)))
  rw [arrV_store]
  congr 2
  funext q
  rw [nI_clamp (Nat.lt_trans hj hj2)]
  by_cases hq : q = j
  · subst hq
    simp [updV, upd]
  · simp [updV, upd, hq]
theorem k_zast (X : Cx E C bs own nL R) {a o j : Nat} {x y : Int32} (hk : kt a = 2) (ho : o < vn a) (hx : x = nI j) (hj : j < kl a) (hj2 : kl a < 2 ^ 31) (hy : vp_nar .boolean y = y) (d : decode bs pc = .ok (.bastore, 1)) (kk : KF E C k n (st μ a o j y) (pc + 1) L S) : KF E C k n μ pc L (.int y :: .int x :: .ref (ad E a o) :: S) := by
  subst hx
  intro H locs ls hw hs hl
  have hc : ∀ f, cont E a o f = .inl (E.2.2.1 1, kl a, .inl f) := fun f => by unfold cont; rw [hk]; rfl
  have h0 := hw a o ho
  rw [hc] at h0
  have hin := vp_in_nI hj hj2
  refine W.zast X.1 X.2.1 h0 ((X.2.2.2.2.2.1.1.2 1 _ rfl).1 (kl a) (fun i => .int (μ a o i))) (fun q => by cases q) (by show ¬ (nI j < 0 ∨ (arrV _ _ _).slots.size ≤ _); rw [arrV_size]; exact hin) rfl rfl d fun H1 e z oq => ?_
  refine kk H1 _ ls (hw.set X.2.2.2.2.2.1.2.1 ho oq ?_) (hs.put z oq (X.2.2.2.2.2.2.2.1 a o ho)) hl
  rw [hc, st_upd]
  show H1[ad E a o]? = some (vp_cell _ _)
  rw [e]
  show some ((arrV _ (kl a) (fun i => Value.int (μ a o i))).setSlot _ _) = some (arrV _ (kl a) (fun i => Value.int (upd (μ a o) j y i)))
  rw [arrV_store]
  congr 2
  funext q
  rw [nI_clamp (Nat.lt_trans hj hj2)]
  by_cases hq : q = j
  · subst hq
    have hy2 := hy
    simp only [vp_nar] at hy2
    simp [updV, upd]
    first | exact hy2 | (rw [hy2]) | (simp [narrow] at hy2 ⊢; exact hy2)
  · simp [updV, upd, hq]
/-! fields -/
theorem k_getf (X : Cx E C bs own nL R) {a o fi N idx : Nat} {Cn ref : String} {T : u_T} {v : Value} (hk : kt a = 0) (ho : o < vn a) (hv : (flds E a o (μ a o))[fi]? = some v) (hc : vwCl[oc a]? = some (Cn, T, N)) (hin : ∀ w ∈ u_ws Cn T N, w ∈ WALL) (hfi : fi < N) (hr : (T fi).1 = ref) (hl9 : Cond.fieldLink own idx ref (T fi).2.1 (T fi).2.2.1 ∈ WALL) (d : decode bs pc = .ok (.getfield idx, 3)) (kk : KF E C k n μ (pc + 3) L (v :: S)) : KF E C k n μ pc L (.ref (ad E a o) :: S) := by
  intro H locs ls hw hs hl
  have hc1 : cont E a o (μ a o) = .inr (oc a, flds E a o (μ a o)) := by unfold cont; rw [hk]; rfl
  have hP : va_P E.2.1 vwCl [(ad E a o, .inr (oc a, flds E a o (μ a o)))] H := by
    intro q e he
    match q, he with
    | 0, he => cases he; rw [← hc1]; exact hw a o ho
  exact va_get (Ts := WALL) X.1 X.2.1 X.2.2.2.2.1 hin X.2.2.2.1 X.2.2.2.2.2.1.1 hP 0 rfl hc fi hfi (X.2.2.2.2.1 _ hl9) (by rw [← hr]; exact fun _ h => h) hv d (kk H locs ls hw hs hl)
theorem k_getn (X : Cx E C bs own nL R) {a o fi N idx : Nat} {Cn ref host : String} {T : u_T} {v : Value} (hk : kt a = 0) (ho : o < vn a) (hv : (flds E a o (μ a o))[fi]? = some v) (hc : vwCl[oc a]? = some (Cn, T, N)) (hin : ∀ w ∈ u_ws Cn T N, w ∈ WALL) (hfi : fi < N) (hr : (T fi).1 = ref) (hl9 : Cond.fieldLinkNest own idx ref (T fi).2.1 (T fi).2.2.1 host ∈ WN) (d : decode bs pc = .ok (.getfield idx, 3)) (kk : KF E C k n μ (pc + 3) L (v :: S)) : KF E C k n μ pc L (.ref (ad E a o) :: S) := by
  intro H locs ls hw hs hl
  have hc1 : cont E a o (μ a o) = .inr (oc a, flds E a o (μ a o)) := by unfold cont; rw [hk]; rfl
  have hP : va_P E.2.1 vwCl [(ad E a o, .inr (oc a, flds E a o (μ a o)))] H := by
    intro q e he
    match q, he with
    | 0, he => cases he; rw [← hc1]; exact hw a o ho
  exact va_getN (Ts := WALL) X.1 X.2.1 X.2.2.2.2.1 hin X.2.2.2.1 X.2.2.2.2.2.1.1 hP 0 rfl hc fi hfi (va_Nw.use rfl (X.2.2.2.2.2.1.2.2.2.1 _ hl9)) (by rw [← hr]; exact fun _ h => h) hv d (kk H locs ls hw hs hl)
theorem k_putf (X : Cx E C bs own nL R) {a o fi N idx : Nat} {Cn ref : String} {T : u_T} {ty : FieldType} {y : Int32} (ty0 : Nat → FieldType) (hk : kt a = 0) (ho : o < vn a) (hf : flds E a o (st μ a o fi y a o) = (flds E a o (μ a o)).set fi (.int y)) (hlen : fi < (flds E a o (μ a o)).length) (hc : vwCl[oc a]? = some (Cn, T, N)) (hty : ∀ k, k < N → parseFieldDescriptor (T k).2.2.1 = some (ty0 k)) (hnm : ∀ a, a < N → ∀ b, b < N → a ≠ b → (T a).2.1 ≠ (T b).2.1) (hin : ∀ w ∈ u_ws Cn T N, w ∈ WALL) (hfi : fi < N) (hr : (T fi).1 = ref) (hl9 : Cond.fieldLink own idx ref (T fi).2.1 (T fi).2.2.1 ∈ WALL) (hfin : (T fi).2.2.2 = false) (hd : parseFieldDescriptor (T fi).2.2.1 = some ty) (hn : narrow ty (.int y) = .int y) (hfit : fits ty (.int y) = true) (d : decode bs pc = .ok (.putfield idx, 3)) (kk : KF E C k n (st μ a o fi y) (pc + 3) L S) : KF E C k n μ pc L (.int y :: .ref (ad E a o) :: S) := by
  intro H locs ls hw hs hl
  have hc1 : ∀ f, cont E a o f = .inr (oc a, flds E a o f) := fun f => by unfold cont; rw [hk]; rfl
  have h0 := hw a o ho
  rw [hc1] at h0
  have hap := va_apart (own := own) X.2.2.2.2.1 hin ty0 hty hnm X.2.2.2.2.2.1.1 hc
  obtain ⟨r, h1, cell, q1, q2, q3, q4⟩ := h0
  have hr9 : r = (Cn, T, N) := Option.some.inj (h1.symm.trans hc)
  subst hr9
  obtain ⟨hS, hfc, kC, hkC, hkind⟩ := X.2.2.2.2.2.1.1.1 (oc a) _ hc
  obtain ⟨cf, kf, fi9, f, hi, hsl⟩ := hS fi hfi
  have hlay := X.2.2.2.2.1 _ (hin _ (u_in_lay hfi))
  unfold u_lay at hlay
  rw [if_neg (by rw [hfin]; decide)] at hlay
  have hst := (u_facts hfc hkC (u_lays X.2.2.2.2.1 hin hfi) hi).1
  have h6 := u_store hfc hkC hkind hlay hi hd hn hfit
  refine W.putK X.1 X.2.1 (f := f) ⟨X.2.2.2.1, X.2.2.2.2.1 _ hl9, ⟨_, _, _, by rw [← hr]; exact hi⟩, hst⟩ (by rw [q2]; exact h6) q1 q3 (by rw [hsl]; exact k2_hasslot (q4 fi hfi)) rfl rfl d fun H' e1 e2 e3 => ?_
  rw [hsl] at e1 ⊢
  refine kk H' _ ls (hw.set X.2.2.2.2.2.1.2.1 ho e3 ?_) (hs.put e2 e3 (X.2.2.2.2.2.2.2.1 a o ho)) hl
  rw [hc1, hf]
  exact ⟨_, hc, t_OB.to (V := updV (vp_V (flds E a o (μ a o))) fi (.int y)) ⟨_, e1, q2, q3, t_set q4 hap hfi (.int y)⟩ (fun j _ => vp_updV_set hlen (.int y) j)⟩
end KROWS
end
section

/-! contracts and calls -/
def rm (d c : Nat) : Room := { frames := d, cells := c, slots := 6 * c, locals := 40 * d }
def EndI (E : EE) (C : Ctx) (bs : ByteArray) (k n : Nat) (r : Int32) (μ : Mem) : Prop := ∀ (pc : Nat) (H : Heap) (locs : List Loc) (ls : Array Slot), decode bs pc = .ok (.ireturn, 1) → Wd E μ H → va_S (cA C) (cs C).heap H locs → WC E C H locs k n (F0 (cm C) pc ls [.int r])
def EndA (E : EE) (C : Ctx) (bs : ByteArray) (k n : Nat) (r : Nat) (μ : Mem) : Prop := ∀ (pc : Nat) (H : Heap) (locs : List Loc) (ls : Array Slot), decode bs pc = .ok (.areturn, 1) → Wd E μ H → va_S (cA C) (cs C).heap H locs → WC E C H locs k n (F0 (cm C) pc ls [.ref r])
def EndV (E : EE) (C : Ctx) (bs : ByteArray) (k n : Nat) (μ : Mem) : Prop := ∀ (pc : Nat) (H : Heap) (locs : List Loc) (ls : Array Slot), decode bs pc = .ok (.return_, 1) → Wd E μ H → va_S (cA C) (cs C).heap H locs → WC E C H locs k n (F0 (cm C) pc ls [])
def Qg (E : EE) (sz : Nat) (vo : Option Value) (μ' : Mem) : Array Value → State → Outcome → State → Prop := fun _ s o t => (o = .returned vo ∧ Wd E μ' t.heap) ∧ va_F (Aw E sz) s t
/-- a method that returns: with args in memory μ it answers vo, and leaves μ' -/
def MM (E : EE) (y : MethodName) (bs : ByteArray) (maxL : Nat) (ret : Option FieldType) (R : Room) (av : List Value) (μ : Mem) (vo : Option Value) (μ' : Mem) : Prop :=
  ∀ sz : Nat, Met E.1 y (Cond.code y bs maxL ret :: WALL) R (va_Pc av (WS E μ sz)) (Qg E sz vo μ') R.cells R.slots (Aw E sz)
/-- a method that returns (then ok) or throws a class X with ex X (then nothing has changed) -/
def MX (E : EE) (y : MethodName) (bs : ByteArray) (maxL : Nat) (ret : Option FieldType) (R : Room) (av : List Value) (μ : Mem) (ok : Prop) (vo : Option Value) (μ' : Mem) (ex : String → Prop) : Prop :=
  ∀ sz : Nat, vx_Met E.1 y (Cond.code y bs maxL ret :: WALL) R (va_Pc av (WS E μ sz)) (fun a s o t => ok ∧ Qg E sz vo μ' a s o t) (fun X s t => ex X ∧ Wd E μ t.heap ∧ va_F (Aw E sz) s t) R.cells R.slots (Aw E sz)
def XQ (E : EE) (C : Ctx) (R : Room) (μ : Mem) (ex : String → Prop) : Prop :=
  (∃ Qc, cQ C = vx_MQ (cb C) Qc (fun X s t => ex X ∧ Wd E μ t.heap ∧ va_F (cA C) s t) (ca C) (cs C) R.cells R.slots (cA C)) ∧ ∀ x ∈ (cc C).exceptionTable.toList, False
def LinkV (own : String) (idx : Nat) (Cn : String) (y : MethodName) (bs : ByteArray) (maxL : Nat) (ret : Option FieldType) (n : Nat) : Prop :=
  GoodIn WALL (wsV own idx Cn y (Cond.code y bs maxL ret :: WALL)) ∧ (y.cls = Cn ∧ y.cls ≠ "java/lang/invoke/MethodHandle" ∧ y.cls ≠ "java/lang/invoke/VarHandle" ∧ (parseMethodDescriptor y.desc).map (fun d => d.parameters.length) = some n)
def LinkS (own : String) (idx : Nat) (y : MethodName) (bs : ByteArray) (maxL : Nat) (ret : Option FieldType) (n : Nat) : Prop :=
  GoodIn WALL (wsS own idx y (Cond.code y bs maxL ret :: WALL)) ∧ (y.cls = own ∧ y.cls ≠ "java/lang/invoke/MethodHandle" ∧ y.cls ≠ "java/lang/invoke/VarHandle" ∧ (parseMethodDescriptor y.desc).map (fun d => d.parameters.length) = some n)
section KEND
variable {E : EE} {C : Ctx} {bs : ByteArray} {own : String} {nL k n pc : Nat} {R : Room} {μ : Mem} {L L' : List (Nat × Value)} {S : List Value}
theorem k_iret {r r' : Int32} {μ' : Mem} (d : decode bs pc = .ok (.ireturn, 1)) (h : EndI E C bs k n r' μ') (e1 : r = r') (e2 : μ = μ') : KF E C k n μ pc L [.int r] := by
  subst e1; subst e2
  exact fun H locs ls hw hs _ => h pc H locs ls d hw hs
theorem k_aret {r : Nat} {μ' : Mem} (d : decode bs pc = .ok (.areturn, 1)) (h : EndA E C bs k n r μ') (e2 : μ = μ') : KF E C k n μ pc L [.ref r] := by
  subst e2
  exact fun H locs ls hw hs _ => h pc H locs ls d hw hs
theorem k_vret {μ' : Mem} (d : decode bs pc = .ok (.return_, 1)) (h : EndV E C bs k n μ') (e2 : μ = μ') : KF E C k n μ pc L [] := by
  subst e2
  exact fun H locs ls hw hs _ => h pc H locs ls d hw hs
/-- what the callee's start asks, out of what the caller has -/
theorem Cx.ws (X : Cx E C bs own nL R) {H : Heap} {locs : List Loc} (hw : Wd E μ H) (hs : va_S (cA C) (cs C).heap H locs) {U : State} (hU : U.heap = H) (hW : (cs C).WarmedH U.vm) : WS E μ H.size U := by
  have hA : ∀ q, Aw E H.size q → cA C q := by
    rintro q (⟨k, o, ho, rfl⟩ | h)
    · exact X.2.2.2.2.2.2.2.1 k o ho
    · exact X.2.2.2.2.2.2.2.2.1 q (Nat.le_trans hs.1 h)
  refine ⟨by rw [hU], by rw [hU]; exact hw, X.2.2.2.2.2.1.warm hW, ?_, ?_⟩
  · rw [hU]; exact vx_Zq.moved hW.alike ((X.2.2.2.2.2.2.1.1.kept hs.2.1).narrow hA)
  · rw [hU]; exact vx_Zq.moved hW.alike ((X.2.2.2.2.2.2.1.2.kept hs.2.1).narrow hA)
theorem Cx.ownq (X : Cx E C bs own nL R) {H : Heap} {locs : List Loc} (hs : va_S (cA C) (cs C).heap H locs) : ∀ q, Aw E H.size q → cA C q := by
  rintro q (⟨k, o, ho, rfl⟩ | h)
  · exact X.2.2.2.2.2.2.2.1 k o ho
  · exact X.2.2.2.2.2.2.2.2.1 q (Nat.le_trans hs.1 h)
theorem Cx.recv (X : Cx E C bs own nL R) {a o N : Nat} {Cn : String} {T : u_T} {H : Heap} (hw : Wd E μ H) (hk : kt a = 0) (ho : o < vn a) (hc : vwCl[oc a]? = some (Cn, T, N)) : ∃ cell : Cell, H[ad E a o]? = some cell ∧ cell.vm.isStatics = false ∧ (cs C).vm.findClass Cn = some cell.cls := by
  have hc1 : cont E a o (μ a o) = .inr (oc a, flds E a o (μ a o)) := by unfold cont; rw [hk]; rfl
  have hP : va_P E.2.1 vwCl [(ad E a o, .inr (oc a, flds E a o (μ a o)))] H := by
    intro q e he
    match q, he with
    | 0, he => cases he; rw [← hc1]; exact hw a o ho
  exact va_recv X.2.2.2.2.2.1.1 hP hc (q0 := 0) rfl
theorem k_back {y : MethodName} {vo : Option Value} {μ' : Mem} {H : Heap} {locs : List Loc} {ls : Array Slot} {mc ms : Nat} {st0 : List Value} {a : Array Value} (X : Cx E C bs own nL R) (hs : va_S (cA C) (cs C).heap H locs) (hl : lv_has ls (cN C) L)
    (hr : va_Run (cp C) E.1 (ce C) (cR C) (cs C) (cm C) (ca C) (cb C) (cM C) (cc C) H locs k n mc ms (F0 (cm C) pc ls st0) S (Qg E H.size vo μ' a) (Aw E H.size)) (kk : KF E C (k + mc) (n + ms) μ' (pc + 3) L (vo.toList ++ S)) : WC E C H locs k n (F0 (cm C) pc ls st0) := by
  intro T hT X0
  obtain ⟨v, st₀, t, T', Lc, h0, X', hL, e1, e2, ⟨⟨hv, hw'⟩, hF⟩, stp⟩ := hr T hT X0
  obtain rfl : v = vo := by injection hv
  obtain ⟨-, -, k3⟩ := vx_keep h0 e1 hs (fun q _ h => X.ownq hs q h) (X.ownq hs) hL hF
  obtain ⟨t2, a1, b1⟩ := kk T'.heap (locs ++ Lc) ls (by rw [e1]; exact hw') k3 hl T' rfl X'
  exact ⟨t2, stp t2 a1, b1⟩
theorem k_callV (X : Cx E C bs own nL R) {a o N idx maxL n' : Nat} {Cn : String} {T : u_T} {y : MethodName} {bs' : ByteArray} {ret : Option FieldType} {R' : Room} {As : List Value} {S0 : List Value} {vo : Option Value} {μ' : Mem}
    (lk : LinkV own idx Cn y bs' maxL ret n') (hk : kt a = 0) (ho : o < vn a) (hc : vwCl[oc a]? = some (Cn, T, N)) (h : MM E y bs' maxL ret R' (.ref (ad E a o) :: As) μ vo μ') (hn : As.length = n') (hst : S0 = As.reverse ++ .ref (ad E a o) :: S) (hcat : (S.map fun v => v.category).sum ≤ 8)
    (hR : R'.frames + 1 ≤ R.frames ∧ 8 + (maxL + 11) + R'.locals ≤ R.locals) (hf : k + R'.cells ≤ R.cells ∧ n + R'.slots ≤ R.slots) (d : decode bs pc = .ok (.invokevirtual idx, 3)) (kk : KF E C (k + R'.cells) (n + R'.slots) μ' (pc + 3) L (vo.toList ++ S)) : KF E C k n μ pc L S0 := by
  intro H locs ls hw hs hl
  have hRR : cR C = R := X.2.2.2.2.2.2.2.2.2.1
  have hNN : cN C = nL := X.2.2.2.2.2.2.2.2.2.2.1
  refine k_back (y := y) (a := (Value.ref (ad E a o) :: As).toArray) X hs hl ?_ kk
  exact va_runV (As := As) (rest := S) ⟨X.1, X.2.1, X.2.2.1, X.2.2.2.1, X.2.2.2.2.1⟩ (h H.size) (cwV n' X.2.2.2.2.1 lk.1 rfl rfl rfl lk.2 (hRR ▸ hR)) ⟨WS.blind, X.recv hw hk ho hc, fun U hU hW => ⟨rfl, X.ws hw hs hU hW⟩⟩ rfl hn (hl.1.trans hNN) hst (lv_room hcat) d (hRR ▸ hf)
theorem k_callS (X : Cx E C bs own nL R) {idx maxL n' : Nat} {y : MethodName} {bs' : ByteArray} {ret : Option FieldType} {R' : Room} {As : List Value} {S0 : List Value} {vo : Option Value} {μ' : Mem}
    (lk : LinkS own idx y bs' maxL ret n') (h : MM E y bs' maxL ret R' As μ vo μ') (hn : As.length = n') (hst : S0 = As.reverse ++ S) (hcat : (S.map fun v => v.category).sum ≤ 8)
    (hR : R'.frames + 1 ≤ R.frames ∧ 8 + (maxL + 11) + R'.locals ≤ R.locals) (hf : k + R'.cells ≤ R.cells ∧ n + R'.slots ≤ R.slots) (d : decode bs pc = .ok (.invokestatic idx, 3)) (kk : KF E C (k + R'.cells) (n + R'.slots) μ' (pc + 3) L (vo.toList ++ S)) : KF E C k n μ pc L S0 := by
  intro H locs ls hw hs hl
  have hRR : cR C = R := X.2.2.2.2.2.2.2.2.2.1
  have hNN : cN C = nL := X.2.2.2.2.2.2.2.2.2.2.1
  refine k_back (y := y) (a := As.toArray) X hs hl ?_ kk
  exact va_runS (As := As) (rest := S) ⟨X.1, X.2.1, X.2.2.1, X.2.2.2.1, X.2.2.2.2.1⟩ (h H.size) (cwS n' X.2.2.2.2.1 lk.1 rfl rfl rfl lk.2 (hRR ▸ hR)) ⟨WS.blind, fun U hU hW => ⟨rfl, X.ws hw hs hU hW⟩⟩ rfl hn (hl.1.trans hNN) hst (lv_room hcat) d (hRR ▸ hf)
/-- a call that returns or throws; what is thrown goes on to the caller -/
theorem k_callVX (X : Cx E C bs own nL R) {a o N idx maxL n' : Nat} {Cn : String} {T : u_T} {y : MethodName} {bs' : ByteArray} {ret : Option FieldType} {R' : Room} {As : List Value} {S0 : List Value} {ok : Prop} {vo : Option Value} {μ' : Mem} {ex ex' : String → Prop}
    (Q : XQ E C R μ ex) (lk : LinkV own idx Cn y bs' maxL ret n') (hk : kt a = 0) (ho : o < vn a) (hc : vwCl[oc a]? = some (Cn, T, N)) (h : MX E y bs' maxL ret R' (.ref (ad E a o) :: As) μ ok vo μ' ex') (hex : ∀ Z, ex' Z → ex Z) (hn : As.length = n') (hst : S0 = As.reverse ++ .ref (ad E a o) :: S) (hcat : (S.map fun v => v.category).sum ≤ 8)
    (hR : R'.frames + 1 ≤ R.frames ∧ 8 + (maxL + 11) + R'.locals ≤ R.locals) (hf : k + R'.cells ≤ R.cells ∧ n + R'.slots ≤ R.slots) (d : decode bs pc = .ok (.invokevirtual idx, 3)) (kk : ok → KF E C (k + R'.cells) (n + R'.slots) μ' (pc + 3) L (vo.toList ++ S)) : KF E C k n μ pc L S0 := by
  intro H locs ls hw hs hl
  have hRR : cR C = R := X.2.2.2.2.2.2.2.2.2.1
  have hNN : cN C = nL := X.2.2.2.2.2.2.2.2.2.2.1
  have hr := vx_runV (As := As) (rest := S) (cells := k) (slots := n) (l := E.1) (e := ce C) (below := cb C) (meth := cM C) (locs := locs) (g := F0 (cm C) pc ls S0) ⟨X.1, X.2.1, X.2.2.1, X.2.2.2.1, X.2.2.2.2.1⟩ (h H.size) (cwV n' X.2.2.2.2.1 lk.1 rfl rfl rfl lk.2 (hRR ▸ hR)) ⟨WS.blind, X.recv hw hk ho hc, fun U hU hW => ⟨rfl, X.ws hw hs hU hW⟩⟩ rfl hn (hl.1.trans hNN) hst (lv_room hcat) d (hRR ▸ hf)
  intro T hT X0
  rcases hr T hT X0 with ⟨v, st₀, t, T', Lc, h0, X', hL, e1, e2, ⟨hok, ⟨hv, hw'⟩, hF⟩, stp⟩ | ⟨q, st₀, t, T', Lc, Z, cell, h0, X', hL, e1, e2, ⟨hx1, hx2, hF⟩, hce, hcv, hcl, stp⟩
  · obtain rfl : v = vo := by injection hv
    obtain ⟨-, -, k3⟩ := vx_keep h0 e1 hs (fun q _ h => X.ownq hs q h) (X.ownq hs) hL hF
    obtain ⟨t2, a1, b1⟩ := kk hok T'.heap (locs ++ Lc) ls (by rw [e1]; exact hw') k3 hl T' rfl X'
    exact ⟨t2, stp t2 a1, b1⟩
  · obtain ⟨-, -, k3⟩ := vx_keep h0 e1 hs (fun q _ h => X.ownq hs q h) (X.ownq hs) hL hF
    obtain ⟨⟨Qc, hQ⟩, htab⟩ := Q
    have hvx : vx_W (cp C) E.1 (ce C) (cR C) (cs C) (cm C) (ca C) (cb C) (cM C) (cc C) T'.heap (locs ++ Lc) (k + R'.cells) (n + R'.slots) (cQ C) (F0 (cm C) pc ls S) q := by
      rw [hQ]
      exact vx_out (fun x hx => (htab x hx).elim) X.2.2.2.2.2.2.2.2.2.2.2 (by rw [e1]; exact hce) hcv hcl (fun t9 h9 _ => ⟨hex _ hx1, by rw [h9, e1]; exact hx2, k3.F h9⟩) k3.2.2 hf.1 hf.2
    obtain ⟨t2, a1, b1⟩ := hvx T' rfl X'
    exact ⟨t2, stp.trans a1, b1⟩
theorem MM.int {y : MethodName} {maxL : Nat} {ty : FieldType} {av : List Value} {μ' : Mem} {r : Int32} (L0 : List (Nat × Value)) (hy : plainName y.cls = true) (how : y.cls = own) (hL0 : lv_args 0 av = L0) (hlen : (lg_sl av).length ≤ maxL) (hn : narrow ty (.int r) = .int r)
    (body : ∀ C : Ctx, Cx E C bs own maxL R → EndI E C bs R.cells R.slots r μ' → KF E C 0 0 μ 0 L0 []) : MM E y bs maxL (some ty) R av μ (some (.int r)) μ' := by
  intro sz
  refine Met.ofW (cc := bs) (maxL := maxL) (ret := some ty) hy rfl ?_
  intro p e s m av2 below meth c s₁ B hml hv
  obtain ⟨rfl, hsz, hw, hx, hz⟩ := hv
  have hts := atoms_spec (ws := Cond.code y bs maxL (some ty) :: WALL) B.pre
  have hown : s.vm.findClass own = some m.cls := how ▸ findClass_of_methodNamed B.named
  subst hsz
  have K := body (p, e, R, s, m, av.toArray, below, meth, c, MQ below (Qg E s.heap.size (some (.int r)) μ') av.toArray s R.cells R.slots (Aw E s.heap.size), Aw E s.heap.size, maxL)
    ⟨B.exec, B.bytes, hml, hown, fun w hw => hts w (List.mem_cons_of_mem _ hw), hx, hz, fun k o h => Or.inl ⟨k, o, h, rfl⟩, fun q h => Or.inr h, rfl, rfl, B.notSynchronized⟩
    (fun pc H locs ls d hw hs => W.zret B.exec B.bytes B.returns hn (fun t ht hW => ⟨⟨rfl, by rw [ht]; exact hw⟩, hs.F ht⟩) hs.2.2 d B.notSynchronized)
  rw [lg_entry_eq]
  exact K s.heap [] _ hw va_S.rf (hL0 ▸ lv_entry av hlen)
theorem MM.void {y : MethodName} {maxL : Nat} {av : List Value} {μ' : Mem} (L0 : List (Nat × Value)) (hy : plainName y.cls = true) (how : y.cls = own) (hL0 : lv_args 0 av = L0) (hlen : (lg_sl av).length ≤ maxL)
    (body : ∀ C : Ctx, Cx E C bs own maxL R → EndV E C bs R.cells R.slots μ' → KF E C 0 0 μ 0 L0 []) : MM E y bs maxL none R av μ none μ' := by
  intro sz
  refine Met.ofW (cc := bs) (maxL := maxL) (ret := none) hy rfl ?_
  intro p e s m av2 below meth c s₁ B hml hv
  obtain ⟨rfl, hsz, hw, hx, hz⟩ := hv
  have hts := atoms_spec (ws := Cond.code y bs maxL none :: WALL) B.pre
  have hown : s.vm.findClass own = some m.cls := how ▸ findClass_of_methodNamed B.named
  subst hsz
  have K := body (p, e, R, s, m, av.toArray, below, meth, c, MQ below (Qg E s.heap.size none μ') av.toArray s R.cells R.slots (Aw E s.heap.size), Aw E s.heap.size, maxL)
    ⟨B.exec, B.bytes, hml, hown, fun w hw => hts w (List.mem_cons_of_mem _ hw), hx, hz, fun k o h => Or.inl ⟨k, o, h, rfl⟩, fun q h => Or.inr h, rfl, rfl, B.notSynchronized⟩
    (fun pc H locs ls d hw hs => W.vret B.exec B.bytes B.returns (fun t ht hW => ⟨⟨rfl, by rw [ht]; exact hw⟩, hs.F ht⟩) hs.2.2 d B.notSynchronized)
  rw [lg_entry_eq]
  exact K s.heap [] _ hw va_S.rf (hL0 ▸ lv_entry av hlen)
theorem MM.ref {y : MethodName} {maxL : Nat} {nm : String} {av : List Value} {μ' : Mem} {r : Nat} (L0 : List (Nat × Value)) (hy : plainName y.cls = true) (how : y.cls = own) (hL0 : lv_args 0 av = L0) (hlen : (lg_sl av).length ≤ maxL)
    (body : ∀ C : Ctx, Cx E C bs own maxL R → EndA E C bs R.cells R.slots r μ' → KF E C 0 0 μ 0 L0 []) : MM E y bs maxL (some (.object nm)) R av μ (some (.ref r)) μ' := by
  intro sz
  refine Met.ofW (cc := bs) (maxL := maxL) (ret := some (.object nm)) hy rfl ?_
  intro p e s m av2 below meth c s₁ B hml hv
  obtain ⟨rfl, hsz, hw, hx, hz⟩ := hv
  have hts := atoms_spec (ws := Cond.code y bs maxL (some (.object nm)) :: WALL) B.pre
  have hown : s.vm.findClass own = some m.cls := how ▸ findClass_of_methodNamed B.named
  subst hsz
  have K := body (p, e, R, s, m, av.toArray, below, meth, c, MQ below (Qg E s.heap.size (some (.ref r)) μ') av.toArray s R.cells R.slots (Aw E s.heap.size), Aw E s.heap.size, maxL)
    ⟨B.exec, B.bytes, hml, hown, fun w hw => hts w (List.mem_cons_of_mem _ hw), hx, hz, fun k o h => Or.inl ⟨k, o, h, rfl⟩, fun q h => Or.inr h, rfl, rfl, B.notSynchronized⟩
    (fun pc H locs ls d hw hs => W.aret B.exec B.bytes B.returns (Or.inl ⟨_, rfl⟩) (Or.inr ⟨_, rfl⟩) (fun t ht hW => ⟨⟨rfl, by rw [ht]; exact hw⟩, hs.F ht⟩) hs.2.2 d B.notSynchronized)
  rw [lg_entry_eq]
  exact K s.heap [] _ hw va_S.rf (hL0 ▸ lv_entry av hlen)
theorem k_mmin (X : Cx E C bs own nL R) {idx : Nat} {x y : Int32} (hm : Cond.methodLink own idx Lib.Math.min.name ∈ WALL) (d : decode bs pc = .ok (.invokestatic idx, 3)) (hR : 1 ≤ R.frames ∧ (S.map fun v => v.category).sum + 13 ≤ R.locals ∧ k ≤ R.cells ∧ n ≤ R.slots) (kk : KF E C k n μ (pc + 3) L (.int (if y < x then y else x) :: S)) : KF E C k n μ pc L (.int y :: .int x :: S) := by
  intro H locs ls hw hs hl
  have hRR : cR C = R := X.2.2.2.2.2.2.2.2.2.1
  exact va_mmin X.1 X.2.1 ((X.2.2.1.trans X.2.2.2.2.2.2.2.2.2.2.1.symm).trans hl.1.symm) X.2.2.2.1 (X.2.2.2.2.1 _ hm) (X.2.2.2.2.1 _ wt_min) (X.2.2.2.2.1 _ wn_Math) (X.2.2.2.2.1 _ wc_min) (by rw [hRR]; exact hR.1) (by rw [hRR]; exact hR.2.1) (by rw [hRR]; exact hR.2.2.1) (by rw [hRR]; exact hR.2.2.2) d (kk H locs ls hw hs hl)
theorem k_mmax (X : Cx E C bs own nL R) {idx : Nat} {x y : Int32} (hm : Cond.methodLink own idx Lib.Math.max.name ∈ WALL) (d : decode bs pc = .ok (.invokestatic idx, 3)) (hR : 1 ≤ R.frames ∧ (S.map fun v => v.category).sum + 13 ≤ R.locals ∧ k ≤ R.cells ∧ n ≤ R.slots) (kk : KF E C k n μ (pc + 3) L (.int (if x < y then y else x) :: S)) : KF E C k n μ pc L (.int y :: .int x :: S) := by
  intro H locs ls hw hs hl
  have hRR : cR C = R := X.2.2.2.2.2.2.2.2.2.1
  exact va_mmax X.1 X.2.1 ((X.2.2.1.trans X.2.2.2.2.2.2.2.2.2.2.1.symm).trans hl.1.symm) X.2.2.2.1 (X.2.2.2.2.1 _ hm) (X.2.2.2.2.1 _ wt_max) (X.2.2.2.2.1 _ wn_Math) (X.2.2.2.2.1 _ wc_max) (by rw [hRR]; exact hR.1) (by rw [hRR]; exact hR.2.1) (by rw [hRR]; exact hR.2.2.1) (by rw [hRR]; exact hR.2.2.2) d (kk H locs ls hw hs hl)
end KEND

theorem lk_L_30 : LinkV RL 30 RX2 yX2_bindings cX2_bindings 2 (some .int) 1 := ⟨GV wm_L_30 wi_X2_bindings ws_X2_bindings wn_X2 wc_X2_bindings, by decide +kernel⟩
theorem lk_X2_40 : LinkV RX2 40 RX2 yX2_rowOf cX2_rowOf 2 (some (.object "CallForker$BindingRow")) 1 := ⟨GV wm_X2_40 wi_X2_rowOf ws_X2_rowOf wn_X2 wc_X2_rowOf, by decide +kernel⟩
theorem lk_X2_44 : LinkS RX2 44 yX2_isOutside cX2_isOutside 2 (some .boolean) 2 := ⟨GS wm_X2_44 wt_X2_isOutside wn_X2 wc_X2_isOutside, by decide +kernel⟩
theorem lk_X2_75 : LinkV RX2 75 RX0 yX0_count cX0_count 2 (some .int) 1 := ⟨GV wm_X2_75 wi_X0_count ws_X0_count wn_X0 wc_X0_count, by decide +kernel⟩
theorem lk_X0_28 : LinkV RX0 28 RX0 yX0_countOthers cX0_countOthers 5 (some .int) 2 := ⟨GV wm_X0_28 wi_X0_countOthers ws_X0_countOthers wn_X0 wc_X0_countOthers, by decide +kernel⟩
theorem lk_X0_32 : LinkV RX0 32 RX0 yX0_isThere cX0_isThere 3 (some .boolean) 2 := ⟨GV wm_X0_32 wi_X0_isThere ws_X0_isThere wn_X0 wc_X0_isThere, by decide +kernel⟩
theorem lk_L_85 : LinkV RL 85 RX2 yX2_time cX2_time 1 (some .int) 0 := ⟨GV wm_L_85 wi_X2_time ws_X2_time wn_X2 wc_X2_time, by decide +kernel⟩
theorem lk_L_47 : LinkV RL 47 RX2 yX2_calls cX2_calls 1 (some .int) 0 := ⟨GV wm_L_47 wi_X2_calls ws_X2_calls wn_X2 wc_X2_calls, by decide +kernel⟩
theorem lk_L_79 : LinkV RL 79 RX2 yX2_hungUp cX2_hungUp 2 (some .int) 1 := ⟨GV wm_L_79 wi_X2_hungUp ws_X2_hungUp wn_X2 wc_X2_hungUp, by decide +kernel⟩
theorem lk_L_89 : LinkS RL 89 yL_draw cL_draw 2 (some .int) 2 := ⟨GS wm_L_89 wt_L_draw wn_L wc_L_draw, by decide +kernel⟩
theorem lk_L_93 : LinkS RL 93 yL_step cL_step 7 (some .boolean) 5 := ⟨GS wm_L_93 wt_L_step wn_L wc_L_step, by decide +kernel⟩
theorem lk_L_10 : LinkS RL 10 yL_registers cL_registers 10 (some .boolean) 6 := ⟨GS wm_L_10 wt_L_registers wn_L wc_L_registers, by decide +kernel⟩
theorem lk_L_36 : LinkV RL 36 RX2 yX2_binding cX2_binding 5 (some .int) 2 := ⟨GV wm_L_36 wi_X2_binding ws_X2_binding wn_X2 wc_X2_binding, by decide +kernel⟩
theorem lk_X2_79 : LinkV RX2 79 RX0 yX0_targetAt cX0_targetAt 6 (some .int) 2 := ⟨GV wm_X2_79 wi_X0_targetAt ws_X0_targetAt wn_X0 wc_X0_targetAt, by decide +kernel⟩
theorem lk_L_40 : LinkV RL 40 RX2 yX2_register cX2_register 7 (some .int) 5 := ⟨GV wm_L_40 wi_X2_register ws_X2_register wn_X2 wc_X2_register, by decide +kernel⟩
theorem lk_X2_65 : LinkV RX2 65 RX0 yX0_countOthers cX0_countOthers 5 (some .int) 2 := ⟨GV wm_X2_65 wi_X0_countOthers ws_X0_countOthers wn_X0 wc_X0_countOthers, by decide +kernel⟩
theorem lk_X2_71 : LinkV RX2 71 RX0 yX0_put cX0_put 5 none 4 := ⟨GV wm_X2_71 wi_X0_put ws_X0_put wn_X0 wc_X0_put, by decide +kernel⟩
theorem lk_L_16 : LinkS RL 16 yL_calls cL_calls 10 (some .boolean) 3 := ⟨GS wm_L_16 wt_L_calls wn_L wc_L_calls, by decide +kernel⟩
theorem lk_L_44 : LinkV RL 44 RX2 yX2_call cX2_call 3 (some .int) 1 := ⟨GV wm_L_44 wi_X2_call ws_X2_call wn_X2 wc_X2_call, by decide +kernel⟩
theorem lk_X2_94 : LinkV RX2 94 RX2 yX2_followUser cX2_followUser 9 none 4 := ⟨GV wm_X2_94 wi_X2_followUser ws_X2_followUser wn_X2 wc_X2_followUser, by decide +kernel⟩
theorem lk_X2_186 : LinkV RX2 186 RX0 yX0_isThere cX0_isThere 3 (some .boolean) 2 := ⟨GV wm_X2_186 wi_X0_isThere ws_X0_isThere wn_X0 wc_X0_isThere, by decide +kernel⟩
theorem lk_X2_189 : LinkV RX2 189 RX1 yX1_addDevice cX1_addDevice 3 none 2 := ⟨GV wm_X2_189 wi_X1_addDevice ws_X1_addDevice wn_X1 wc_X1_addDevice, by decide +kernel⟩
theorem lk_X1_45 : LinkV RX1 45 RX1 yX1_branchOf cX1_branchOf 3 (some .int) 1 := ⟨GV wm_X1_45 wi_X1_branchOf ws_X1_branchOf wn_X1 wc_X1_branchOf, by decide +kernel⟩
theorem lk_X1_49 : LinkV RX1 49 RX1 yX1_add cX1_add 4 none 3 := ⟨GV wm_X1_49 wi_X1_add ws_X1_add wn_X1 wc_X1_add, by decide +kernel⟩
theorem lk_X2_193 : LinkV RX2 193 RX2 yX2_comeToUser cX2_comeToUser 5 none 4 := ⟨GV wm_X2_193 wi_X2_comeToUser ws_X2_comeToUser wn_X2 wc_X2_comeToUser, by decide +kernel⟩
theorem lk_X2_196 : LinkV RX2 196 RX2 yX2_isOnWay cX2_isOnWay 4 (some .boolean) 2 := ⟨GV wm_X2_196 wi_X2_isOnWay ws_X2_isOnWay wn_X2 wc_X2_isOnWay, by decide +kernel⟩
theorem lk_X2_199 : LinkV RX2 199 RX1 yX1_addEnded cX1_addEnded 3 none 2 := ⟨GV wm_X2_199 wi_X1_addEnded ws_X1_addEnded wn_X1 wc_X1_addEnded, by decide +kernel⟩
theorem lk_X2_98 : LinkV RX2 98 RX1 yX1_begin cX1_begin 2 none 1 := ⟨GV wm_X2_98 wi_X1_begin ws_X1_begin wn_X1 wc_X1_begin, by decide +kernel⟩
theorem lk_X1_53 : LinkV RX1 53 RX1 yX1_goOn cX1_goOn 3 none 1 := ⟨GV wm_X1_53 wi_X1_goOn ws_X1_goOn wn_X1 wc_X1_goOn, by decide +kernel⟩
theorem lk_X1_57 : LinkV RX1 57 RX1 yX1_isWaiting cX1_isWaiting 2 (some .boolean) 0 := ⟨GV wm_X1_57 wi_X1_isWaiting ws_X1_isWaiting wn_X1 wc_X1_isWaiting, by decide +kernel⟩
theorem lk_X1_69 : LinkV RX1 69 RX1 yX1_isStarted cX1_isStarted 2 (some .boolean) 1 := ⟨GV wm_X1_69 wi_X1_isStarted ws_X1_isStarted wn_X1 wc_X1_isStarted, by decide +kernel⟩
theorem lk_X1_73 : LinkV RX1 73 RX1 yX1_isEnded cX1_isEnded 2 (some .boolean) 1 := ⟨GV wm_X1_73 wi_X1_isEnded ws_X1_isEnded wn_X1 wc_X1_isEnded, by decide +kernel⟩
theorem lk_X1_61 : LinkV RX1 61 RX1 yX1_startGroup cX1_startGroup 4 none 2 := ⟨GV wm_X1_61 wi_X1_startGroup ws_X1_startGroup wn_X1 wc_X1_startGroup, by decide +kernel⟩
theorem lk_X1_65 : LinkV RX1 65 RX1 yX1_bestEnd cX1_bestEnd 5 (some .int) 0 := ⟨GV wm_X1_65 wi_X1_bestEnd ws_X1_bestEnd wn_X1 wc_X1_bestEnd, by decide +kernel⟩
theorem lk_L_50 : LinkV RL 50 RX2 yX2_answered cX2_answered 2 (some .int) 1 := ⟨GV wm_L_50 wi_X2_answered ws_X2_answered wn_X2 wc_X2_answered, by decide +kernel⟩
theorem lk_X2_102 : LinkV RX2 102 RX2 yX2_callAt cX2_callAt 2 (some (.object "CallForker$Call")) 1 := ⟨GV wm_X2_102 wi_X2_callAt ws_X2_callAt wn_X2 wc_X2_callAt, by decide +kernel⟩
theorem lk_L_53 : LinkV RL 53 RX2 yX2_branches cX2_branches 2 (some .int) 1 := ⟨GV wm_L_53 wi_X2_branches ws_X2_branches wn_X2 wc_X2_branches, by decide +kernel⟩
theorem lk_L_56 : LinkV RL 56 RX2 yX2_finalOf cX2_finalOf 2 (some .int) 1 := ⟨GV wm_L_56 wi_X2_finalOf ws_X2_finalOf wn_X2 wc_X2_finalOf, by decide +kernel⟩
theorem lk_L_59 : LinkV RL 59 RX2 yX2_device cX2_device 3 (some .int) 2 := ⟨GV wm_L_59 wi_X2_device ws_X2_device wn_X2 wc_X2_device, by decide +kernel⟩
theorem lk_X2_161 : LinkV RX2 161 RX2 yX2_callWith cX2_callWith 4 (some (.object "CallForker$Call")) 2 := ⟨GV wm_X2_161 wi_X2_callWith ws_X2_callWith wn_X2 wc_X2_callWith, by decide +kernel⟩
theorem lk_L_62 : LinkV RL 62 RX2 yX2_state cX2_state 3 (some .int) 2 := ⟨GV wm_L_62 wi_X2_state ws_X2_state wn_X2 wc_X2_state, by decide +kernel⟩
theorem lk_L_20 : LinkS RL 20 yL_answers cL_answers 16 (some .boolean) 5 := ⟨GS wm_L_20 wt_L_answers wn_L wc_L_answers, by decide +kernel⟩
theorem lk_L_65 : LinkV RL 65 RX2 yX2_answer cX2_answer 6 (some .int) 3 := ⟨GV wm_L_65 wi_X2_answer ws_X2_answer wn_X2 wc_X2_answer, by decide +kernel⟩
theorem lk_X2_106 : LinkS RX2 106 yX2_isNoAnswer cX2_isNoAnswer 1 (some .boolean) 1 := ⟨GS wm_X2_106 wt_X2_isNoAnswer wn_X2 wc_X2_isNoAnswer, by decide +kernel⟩
theorem lk_X2_112 : LinkV RX2 112 RX1 yX1_branchOf cX1_branchOf 3 (some .int) 1 := ⟨GV wm_X2_112 wi_X1_branchOf ws_X1_branchOf wn_X1 wc_X1_branchOf, by decide +kernel⟩
theorem lk_X2_117 : LinkV RX2 117 RX1 yX1_isStarted cX1_isStarted 2 (some .boolean) 1 := ⟨GV wm_X2_117 wi_X1_isStarted ws_X1_isStarted wn_X1 wc_X1_isStarted, by decide +kernel⟩
theorem lk_X2_122 : LinkV RX2 122 RX1 yX1_isEnded cX1_isEnded 2 (some .boolean) 1 := ⟨GV wm_X2_122 wi_X1_isEnded ws_X1_isEnded wn_X1 wc_X1_isEnded, by decide +kernel⟩
theorem lk_X2_125 : LinkV RX2 125 RX1 yX1_takeAnswer cX1_takeAnswer 4 none 3 := ⟨GV wm_X2_125 wi_X1_takeAnswer ws_X1_takeAnswer wn_X1 wc_X1_takeAnswer, by decide +kernel⟩
theorem lk_X1_76 : LinkV RX1 76 RX1 yX1_endOpen cX1_endOpen 3 (some .int) 0 := ⟨GV wm_X1_76 wi_X1_endOpen ws_X1_endOpen wn_X1 wc_X1_endOpen, by decide +kernel⟩
theorem lk_X2_129 : LinkV RX2 129 RX1 yX1_isTooMuch cX1_isTooMuch 5 (some .boolean) 2 := ⟨GV wm_X2_129 wi_X1_isTooMuch ws_X1_isTooMuch wn_X1 wc_X1_isTooMuch, by decide +kernel⟩
theorem lk_L_69 : LinkS RL 69 yL_branchOf cL_branchOf 5 (some .int) 3 := ⟨GS wm_L_69 wt_L_branchOf wn_L wc_L_branchOf, by decide +kernel⟩
theorem lk_L_24 : LinkS RL 24 yL_cancels cL_cancels 7 (some .boolean) 3 := ⟨GS wm_L_24 wt_L_cancels wn_L wc_L_cancels, by decide +kernel⟩
theorem lk_L_73 : LinkV RL 73 RX2 yX2_finalBySorting cX2_finalBySorting 3 (some .int) 1 := ⟨GV wm_L_73 wi_X2_finalBySorting ws_X2_finalBySorting wn_X2 wc_X2_finalBySorting, by decide +kernel⟩
theorem lk_X2_154 : LinkV RX2 154 RX1 yX1_finalFromSorted cX1_finalFromSorted 3 (some .int) 1 := ⟨GV wm_X2_154 wi_X1_finalFromSorted ws_X1_finalFromSorted wn_X1 wc_X1_finalFromSorted, by decide +kernel⟩
theorem lk_X1_88 : LinkV RX1 88 RX1 yX1_sortEnds cX1_sortEnds 4 (some .int) 1 := ⟨GV wm_X1_88 wi_X1_sortEnds ws_X1_sortEnds wn_X1 wc_X1_sortEnds, by decide +kernel⟩
theorem lk_X1_92 : LinkS RX1 92 yX1_insert cX1_insert 4 none 3 := ⟨GS wm_X1_92 wt_X1_insert wn_X1 wc_X1_insert, by decide +kernel⟩
theorem lk_L_76 : LinkV RL 76 RX2 yX2_cancel cX2_cancel 3 (some .int) 1 := ⟨GV wm_L_76 wi_X2_cancel ws_X2_cancel wn_X2 wc_X2_cancel, by decide +kernel⟩
theorem lk_X2_143 : LinkV RX2 143 RX1 yX1_cancelAll cX1_cancelAll 2 (some .int) 0 := ⟨GV wm_X2_143 wi_X1_cancelAll ws_X1_cancelAll wn_X1 wc_X1_cancelAll, by decide +kernel⟩
theorem lk_L_27 : LinkS RL 27 yL_passes cL_passes 8 (some .boolean) 3 := ⟨GS wm_L_27 wt_L_passes wn_L wc_L_passes, by decide +kernel⟩
theorem lk_L_82 : LinkV RL 82 RX2 yX2_pass cX2_pass 4 (some .int) 1 := ⟨GV wm_L_82 wi_X2_pass ws_X2_pass wn_X2 wc_X2_pass, by decide +kernel⟩
theorem lk_X2_149 : LinkV RX2 149 RX2 yX2_lookAtCalls cX2_lookAtCalls 3 (some .int) 0 := ⟨GV wm_X2_149 wi_X2_lookAtCalls ws_X2_lookAtCalls wn_X2 wc_X2_lookAtCalls, by decide +kernel⟩
theorem lk_X2_202 : LinkV RX2 202 RX1 yX1_endsWithTick cX1_endsWithTick 3 (some .boolean) 1 := ⟨GV wm_X2_202 wi_X1_endsWithTick ws_X1_endsWithTick wn_X1 wc_X1_endsWithTick, by decide +kernel⟩
theorem lk_L_96 : LinkS RL 96 yL_isCall cL_isCall 9 (some .boolean) 3 := ⟨GS wm_L_96 wt_L_isCall wn_L wc_L_isCall, by decide +kernel⟩
theorem gt_X0_9 {E : EE} {C : Ctx} {bs : ByteArray} {nL k n pc : Nat} {R : Room} {μ : Mem} {L : List (Nat × Value)} {S : List Value} (X : Cx E C bs RX0 nL R) {o : Nat} (ho : o < 6) (d : decode bs pc = .ok (.getfield 9, 3)) (kk : KF E C k n μ (pc + 3) L (.ref (ad E 7 o) :: S)) : KF E C k n μ pc L (.ref (ad E 6 o) :: S) := k_getf (a := 6) (fi := 0) (Cn := RX0) (T := TX0) (N := 5) (ref := "CallForker$BindingRow") X rfl ho rfl rfl wu_X0 (by decide) rfl wf_X0_9 d kk
theorem gt_X0_15 {E : EE} {C : Ctx} {bs : ByteArray} {nL k n pc : Nat} {R : Room} {μ : Mem} {L : List (Nat × Value)} {S : List Value} (X : Cx E C bs RX0 nL R) {o : Nat} (ho : o < 6) (d : decode bs pc = .ok (.getfield 15, 3)) (kk : KF E C k n μ (pc + 3) L (.ref (ad E 8 o) :: S)) : KF E C k n μ pc L (.ref (ad E 6 o) :: S) := k_getf (a := 6) (fi := 1) (Cn := RX0) (T := TX0) (N := 5) (ref := "CallForker$BindingRow") X rfl ho rfl rfl wu_X0 (by decide) rfl wf_X0_15 d kk
theorem gt_X0_18 {E : EE} {C : Ctx} {bs : ByteArray} {nL k n pc : Nat} {R : Room} {μ : Mem} {L : List (Nat × Value)} {S : List Value} (X : Cx E C bs RX0 nL R) {o : Nat} (ho : o < 6) (d : decode bs pc = .ok (.getfield 18, 3)) (kk : KF E C k n μ (pc + 3) L (.ref (ad E 9 o) :: S)) : KF E C k n μ pc L (.ref (ad E 6 o) :: S) := k_getf (a := 6) (fi := 2) (Cn := RX0) (T := TX0) (N := 5) (ref := "CallForker$BindingRow") X rfl ho rfl rfl wu_X0 (by decide) rfl wf_X0_18 d kk
theorem gt_X0_21 {E : EE} {C : Ctx} {bs : ByteArray} {nL k n pc : Nat} {R : Room} {μ : Mem} {L : List (Nat × Value)} {S : List Value} (X : Cx E C bs RX0 nL R) {o : Nat} (ho : o < 6) (d : decode bs pc = .ok (.getfield 21, 3)) (kk : KF E C k n μ (pc + 3) L (.ref (ad E 10 o) :: S)) : KF E C k n μ pc L (.ref (ad E 6 o) :: S) := k_getf (a := 6) (fi := 3) (Cn := RX0) (T := TX0) (N := 5) (ref := "CallForker$BindingRow") X rfl ho rfl rfl wu_X0 (by decide) rfl wf_X0_21 d kk
theorem gt_X0_24 {E : EE} {C : Ctx} {bs : ByteArray} {nL k n pc : Nat} {R : Room} {μ : Mem} {L : List (Nat × Value)} {S : List Value} (X : Cx E C bs RX0 nL R) {o : Nat} (ho : o < 6) (d : decode bs pc = .ok (.getfield 24, 3)) (kk : KF E C k n μ (pc + 3) L (.int (μ 6 o 4) :: S)) : KF E C k n μ pc L (.ref (ad E 6 o) :: S) := k_getf (a := 6) (fi := 4) (Cn := RX0) (T := TX0) (N := 5) (ref := "CallForker$BindingRow") X rfl ho rfl rfl wu_X0 (by decide) rfl wf_X0_24 d kk
theorem pt_X0_24 {E : EE} {C : Ctx} {bs : ByteArray} {nL k n pc : Nat} {R : Room} {μ : Mem} {L : List (Nat × Value)} {S : List Value} (X : Cx E C bs RX0 nL R) {o : Nat} (ho : o < 6) {y : Int32} (d : decode bs pc = .ok (.putfield 24, 3)) (kk : KF E C k n (st μ 6 o 4 y) (pc + 3) L S) : KF E C k n μ pc L (.int y :: .ref (ad E 6 o) :: S) := k_putf (a := 6) (fi := 4) (Cn := RX0) (T := TX0) (N := 5) (ref := "CallForker$BindingRow") (ty := .int) X tyX0 rfl ho (by simp [flds, st, List.set]) (by simp [flds]) rfl tyX0_ok nmX0 wu_X0 (by decide) rfl wf_X0_24 rfl (by decide +kernel) rfl rfl d kk
theorem gt_X1_9 {E : EE} {C : Ctx} {bs : ByteArray} {nL k n pc : Nat} {R : Room} {μ : Mem} {L : List (Nat × Value)} {S : List Value} (X : Cx E C bs RX1 nL R) {o : Nat} (ho : o < 20) (d : decode bs pc = .ok (.getfield 9, 3)) (kk : KF E C k n μ (pc + 3) L (.ref (ad E 12 o) :: S)) : KF E C k n μ pc L (.ref (ad E 11 o) :: S) := k_getf (a := 11) (fi := 0) (Cn := RX1) (T := TX1) (N := 10) (ref := "CallForker$Call") X rfl ho rfl rfl wu_X1 (by decide) rfl wf_X1_9 d kk
theorem gt_X1_15 {E : EE} {C : Ctx} {bs : ByteArray} {nL k n pc : Nat} {R : Room} {μ : Mem} {L : List (Nat × Value)} {S : List Value} (X : Cx E C bs RX1 nL R) {o : Nat} (ho : o < 20) (d : decode bs pc = .ok (.getfield 15, 3)) (kk : KF E C k n μ (pc + 3) L (.ref (ad E 13 o) :: S)) : KF E C k n μ pc L (.ref (ad E 11 o) :: S) := k_getf (a := 11) (fi := 1) (Cn := RX1) (T := TX1) (N := 10) (ref := "CallForker$Call") X rfl ho rfl rfl wu_X1 (by decide) rfl wf_X1_15 d kk
theorem gt_X1_18 {E : EE} {C : Ctx} {bs : ByteArray} {nL k n pc : Nat} {R : Room} {μ : Mem} {L : List (Nat × Value)} {S : List Value} (X : Cx E C bs RX1 nL R) {o : Nat} (ho : o < 20) (d : decode bs pc = .ok (.getfield 18, 3)) (kk : KF E C k n μ (pc + 3) L (.ref (ad E 14 o) :: S)) : KF E C k n μ pc L (.ref (ad E 11 o) :: S) := k_getf (a := 11) (fi := 2) (Cn := RX1) (T := TX1) (N := 10) (ref := "CallForker$Call") X rfl ho rfl rfl wu_X1 (by decide) rfl wf_X1_18 d kk
theorem gt_X1_21 {E : EE} {C : Ctx} {bs : ByteArray} {nL k n pc : Nat} {R : Room} {μ : Mem} {L : List (Nat × Value)} {S : List Value} (X : Cx E C bs RX1 nL R) {o : Nat} (ho : o < 20) (d : decode bs pc = .ok (.getfield 21, 3)) (kk : KF E C k n μ (pc + 3) L (.ref (ad E 15 o) :: S)) : KF E C k n μ pc L (.ref (ad E 11 o) :: S) := k_getf (a := 11) (fi := 3) (Cn := RX1) (T := TX1) (N := 10) (ref := "CallForker$Call") X rfl ho rfl rfl wu_X1 (by decide) rfl wf_X1_21 d kk
theorem gt_X1_25 {E : EE} {C : Ctx} {bs : ByteArray} {nL k n pc : Nat} {R : Room} {μ : Mem} {L : List (Nat × Value)} {S : List Value} (X : Cx E C bs RX1 nL R) {o : Nat} (ho : o < 20) (d : decode bs pc = .ok (.getfield 25, 3)) (kk : KF E C k n μ (pc + 3) L (.int (μ 11 o 4) :: S)) : KF E C k n μ pc L (.ref (ad E 11 o) :: S) := k_getf (a := 11) (fi := 4) (Cn := RX1) (T := TX1) (N := 10) (ref := "CallForker$Call") X rfl ho rfl rfl wu_X1 (by decide) rfl wf_X1_25 d kk
theorem pt_X1_25 {E : EE} {C : Ctx} {bs : ByteArray} {nL k n pc : Nat} {R : Room} {μ : Mem} {L : List (Nat × Value)} {S : List Value} (X : Cx E C bs RX1 nL R) {o : Nat} (ho : o < 20) {y : Int32} (d : decode bs pc = .ok (.putfield 25, 3)) (kk : KF E C k n (st μ 11 o 4 y) (pc + 3) L S) : KF E C k n μ pc L (.int y :: .ref (ad E 11 o) :: S) := k_putf (a := 11) (fi := 4) (Cn := RX1) (T := TX1) (N := 10) (ref := "CallForker$Call") (ty := .int) X tyX1 rfl ho (by simp [flds, st, List.set]) (by simp [flds]) rfl tyX1_ok nmX1 wu_X1 (by decide) rfl wf_X1_25 rfl (by decide +kernel) rfl rfl d kk
theorem gt_X1_29 {E : EE} {C : Ctx} {bs : ByteArray} {nL k n pc : Nat} {R : Room} {μ : Mem} {L : List (Nat × Value)} {S : List Value} (X : Cx E C bs RX1 nL R) {o : Nat} (ho : o < 20) (d : decode bs pc = .ok (.getfield 29, 3)) (kk : KF E C k n μ (pc + 3) L (.int (μ 11 o 5) :: S)) : KF E C k n μ pc L (.ref (ad E 11 o) :: S) := k_getf (a := 11) (fi := 5) (Cn := RX1) (T := TX1) (N := 10) (ref := "CallForker$Call") X rfl ho rfl rfl wu_X1 (by decide) rfl wf_X1_29 d kk
theorem pt_X1_29 {E : EE} {C : Ctx} {bs : ByteArray} {nL k n pc : Nat} {R : Room} {μ : Mem} {L : List (Nat × Value)} {S : List Value} (X : Cx E C bs RX1 nL R) {o : Nat} (ho : o < 20) {y : Int32} (d : decode bs pc = .ok (.putfield 29, 3)) (kk : KF E C k n (st μ 11 o 5 y) (pc + 3) L S) : KF E C k n μ pc L (.int y :: .ref (ad E 11 o) :: S) := k_putf (a := 11) (fi := 5) (Cn := RX1) (T := TX1) (N := 10) (ref := "CallForker$Call") (ty := .int) X tyX1 rfl ho (by simp [flds, st, List.set]) (by simp [flds]) rfl tyX1_ok nmX1 wu_X1 (by decide) rfl wf_X1_29 rfl (by decide +kernel) rfl rfl d kk
theorem gt_X1_32 {E : EE} {C : Ctx} {bs : ByteArray} {nL k n pc : Nat} {R : Room} {μ : Mem} {L : List (Nat × Value)} {S : List Value} (X : Cx E C bs RX1 nL R) {o : Nat} (ho : o < 20) (d : decode bs pc = .ok (.getfield 32, 3)) (kk : KF E C k n μ (pc + 3) L (.int (μ 11 o 6) :: S)) : KF E C k n μ pc L (.ref (ad E 11 o) :: S) := k_getf (a := 11) (fi := 6) (Cn := RX1) (T := TX1) (N := 10) (ref := "CallForker$Call") X rfl ho rfl rfl wu_X1 (by decide) rfl wf_X1_32 d kk
theorem pt_X1_32 {E : EE} {C : Ctx} {bs : ByteArray} {nL k n pc : Nat} {R : Room} {μ : Mem} {L : List (Nat × Value)} {S : List Value} (X : Cx E C bs RX1 nL R) {o : Nat} (ho : o < 20) {y : Int32} (d : decode bs pc = .ok (.putfield 32, 3)) (kk : KF E C k n (st μ 11 o 6 y) (pc + 3) L S) : KF E C k n μ pc L (.int y :: .ref (ad E 11 o) :: S) := k_putf (a := 11) (fi := 6) (Cn := RX1) (T := TX1) (N := 10) (ref := "CallForker$Call") (ty := .int) X tyX1 rfl ho (by simp [flds, st, List.set]) (by simp [flds]) rfl tyX1_ok nmX1 wu_X1 (by decide) rfl wf_X1_32 rfl (by decide +kernel) rfl rfl d kk
theorem gt_X1_35 {E : EE} {C : Ctx} {bs : ByteArray} {nL k n pc : Nat} {R : Room} {μ : Mem} {L : List (Nat × Value)} {S : List Value} (X : Cx E C bs RX1 nL R) {o : Nat} (ho : o < 20) (d : decode bs pc = .ok (.getfield 35, 3)) (kk : KF E C k n μ (pc + 3) L (.int (μ 11 o 7) :: S)) : KF E C k n μ pc L (.ref (ad E 11 o) :: S) := k_getf (a := 11) (fi := 7) (Cn := RX1) (T := TX1) (N := 10) (ref := "CallForker$Call") X rfl ho rfl rfl wu_X1 (by decide) rfl wf_X1_35 d kk
theorem pt_X1_35 {E : EE} {C : Ctx} {bs : ByteArray} {nL k n pc : Nat} {R : Room} {μ : Mem} {L : List (Nat × Value)} {S : List Value} (X : Cx E C bs RX1 nL R) {o : Nat} (ho : o < 20) {y : Int32} (d : decode bs pc = .ok (.putfield 35, 3)) (kk : KF E C k n (st μ 11 o 7 y) (pc + 3) L S) : KF E C k n μ pc L (.int y :: .ref (ad E 11 o) :: S) := k_putf (a := 11) (fi := 7) (Cn := RX1) (T := TX1) (N := 10) (ref := "CallForker$Call") (ty := .int) X tyX1 rfl ho (by simp [flds, st, List.set]) (by simp [flds]) rfl tyX1_ok nmX1 wu_X1 (by decide) rfl wf_X1_35 rfl (by decide +kernel) rfl rfl d kk
theorem gt_X1_38 {E : EE} {C : Ctx} {bs : ByteArray} {nL k n pc : Nat} {R : Room} {μ : Mem} {L : List (Nat × Value)} {S : List Value} (X : Cx E C bs RX1 nL R) {o : Nat} (ho : o < 20) (d : decode bs pc = .ok (.getfield 38, 3)) (kk : KF E C k n μ (pc + 3) L (.int (μ 11 o 8) :: S)) : KF E C k n μ pc L (.ref (ad E 11 o) :: S) := k_getf (a := 11) (fi := 8) (Cn := RX1) (T := TX1) (N := 10) (ref := "CallForker$Call") X rfl ho rfl rfl wu_X1 (by decide) rfl wf_X1_38 d kk
theorem pt_X1_38 {E : EE} {C : Ctx} {bs : ByteArray} {nL k n pc : Nat} {R : Room} {μ : Mem} {L : List (Nat × Value)} {S : List Value} (X : Cx E C bs RX1 nL R) {o : Nat} (ho : o < 20) {y : Int32} (d : decode bs pc = .ok (.putfield 38, 3)) (kk : KF E C k n (st μ 11 o 8 y) (pc + 3) L S) : KF E C k n μ pc L (.int y :: .ref (ad E 11 o) :: S) := k_putf (a := 11) (fi := 8) (Cn := RX1) (T := TX1) (N := 10) (ref := "CallForker$Call") (ty := .int) X tyX1 rfl ho (by simp [flds, st, List.set]) (by simp [flds]) rfl tyX1_ok nmX1 wu_X1 (by decide) rfl wf_X1_38 rfl (by decide +kernel) rfl rfl d kk
theorem gt_X1_41 {E : EE} {C : Ctx} {bs : ByteArray} {nL k n pc : Nat} {R : Room} {μ : Mem} {L : List (Nat × Value)} {S : List Value} (X : Cx E C bs RX1 nL R) {o : Nat} (ho : o < 20) (d : decode bs pc = .ok (.getfield 41, 3)) (kk : KF E C k n μ (pc + 3) L (.int (μ 11 o 9) :: S)) : KF E C k n μ pc L (.ref (ad E 11 o) :: S) := k_getf (a := 11) (fi := 9) (Cn := RX1) (T := TX1) (N := 10) (ref := "CallForker$Call") X rfl ho rfl rfl wu_X1 (by decide) rfl wf_X1_41 d kk
theorem pt_X1_41 {E : EE} {C : Ctx} {bs : ByteArray} {nL k n pc : Nat} {R : Room} {μ : Mem} {L : List (Nat × Value)} {S : List Value} (X : Cx E C bs RX1 nL R) {o : Nat} (ho : o < 20) {y : Int32} (hy : narrow .boolean (.int y) = .int y) (hy2 : fits .boolean (.int y) = true) (d : decode bs pc = .ok (.putfield 41, 3)) (kk : KF E C k n (st μ 11 o 9 y) (pc + 3) L S) : KF E C k n μ pc L (.int y :: .ref (ad E 11 o) :: S) := k_putf (a := 11) (fi := 9) (Cn := RX1) (T := TX1) (N := 10) (ref := "CallForker$Call") (ty := .boolean) X tyX1 rfl ho (by simp [flds, st, List.set]) (by simp [flds]) rfl tyX1_ok nmX1 wu_X1 (by decide) rfl wf_X1_41 rfl (by decide +kernel) hy hy2 d kk
theorem gt_X2_11 {E : EE} {C : Ctx} {bs : ByteArray} {nL k n pc : Nat} {R : Room} {μ : Mem} {L : List (Nat × Value)} {S : List Value} (X : Cx E C bs RX2 nL R) (d : decode bs pc = .ok (.getfield 11, 3)) (kk : KF E C k n μ (pc + 3) L (.ref (ad E 1 0) :: S)) : KF E C k n μ pc L (.ref (ad E 0 0) :: S) := k_getf (a := 0) (fi := 0) (Cn := RX2) (T := TX2) (N := 7) (ref := "CallForker") X rfl (by decide) rfl rfl wu_X2 (by decide) rfl wf_X2_11 d kk
theorem gt_X2_17 {E : EE} {C : Ctx} {bs : ByteArray} {nL k n pc : Nat} {R : Room} {μ : Mem} {L : List (Nat × Value)} {S : List Value} (X : Cx E C bs RX2 nL R) (d : decode bs pc = .ok (.getfield 17, 3)) (kk : KF E C k n μ (pc + 3) L (.ref (ad E 2 0) :: S)) : KF E C k n μ pc L (.ref (ad E 0 0) :: S) := k_getf (a := 0) (fi := 1) (Cn := RX2) (T := TX2) (N := 7) (ref := "CallForker") X rfl (by decide) rfl rfl wu_X2 (by decide) rfl wf_X2_17 d kk
theorem gt_X2_21 {E : EE} {C : Ctx} {bs : ByteArray} {nL k n pc : Nat} {R : Room} {μ : Mem} {L : List (Nat × Value)} {S : List Value} (X : Cx E C bs RX2 nL R) (d : decode bs pc = .ok (.getfield 21, 3)) (kk : KF E C k n μ (pc + 3) L (.ref (ad E 3 0) :: S)) : KF E C k n μ pc L (.ref (ad E 0 0) :: S) := k_getf (a := 0) (fi := 2) (Cn := RX2) (T := TX2) (N := 7) (ref := "CallForker") X rfl (by decide) rfl rfl wu_X2 (by decide) rfl wf_X2_21 d kk
theorem gt_X2_25 {E : EE} {C : Ctx} {bs : ByteArray} {nL k n pc : Nat} {R : Room} {μ : Mem} {L : List (Nat × Value)} {S : List Value} (X : Cx E C bs RX2 nL R) (d : decode bs pc = .ok (.getfield 25, 3)) (kk : KF E C k n μ (pc + 3) L (.ref (ad E 4 0) :: S)) : KF E C k n μ pc L (.ref (ad E 0 0) :: S) := k_getf (a := 0) (fi := 3) (Cn := RX2) (T := TX2) (N := 7) (ref := "CallForker") X rfl (by decide) rfl rfl wu_X2 (by decide) rfl wf_X2_25 d kk
theorem gt_X2_28 {E : EE} {C : Ctx} {bs : ByteArray} {nL k n pc : Nat} {R : Room} {μ : Mem} {L : List (Nat × Value)} {S : List Value} (X : Cx E C bs RX2 nL R) (d : decode bs pc = .ok (.getfield 28, 3)) (kk : KF E C k n μ (pc + 3) L (.ref (ad E 5 0) :: S)) : KF E C k n μ pc L (.ref (ad E 0 0) :: S) := k_getf (a := 0) (fi := 4) (Cn := RX2) (T := TX2) (N := 7) (ref := "CallForker") X rfl (by decide) rfl rfl wu_X2 (by decide) rfl wf_X2_28 d kk
theorem gt_X2_31 {E : EE} {C : Ctx} {bs : ByteArray} {nL k n pc : Nat} {R : Room} {μ : Mem} {L : List (Nat × Value)} {S : List Value} (X : Cx E C bs RX2 nL R) (d : decode bs pc = .ok (.getfield 31, 3)) (kk : KF E C k n μ (pc + 3) L (.int (μ 0 0 5) :: S)) : KF E C k n μ pc L (.ref (ad E 0 0) :: S) := k_getf (a := 0) (fi := 5) (Cn := RX2) (T := TX2) (N := 7) (ref := "CallForker") X rfl (by decide) rfl rfl wu_X2 (by decide) rfl wf_X2_31 d kk
theorem pt_X2_31 {E : EE} {C : Ctx} {bs : ByteArray} {nL k n pc : Nat} {R : Room} {μ : Mem} {L : List (Nat × Value)} {S : List Value} (X : Cx E C bs RX2 nL R) {y : Int32} (d : decode bs pc = .ok (.putfield 31, 3)) (kk : KF E C k n (st μ 0 0 5 y) (pc + 3) L S) : KF E C k n μ pc L (.int y :: .ref (ad E 0 0) :: S) := k_putf (a := 0) (fi := 5) (Cn := RX2) (T := TX2) (N := 7) (ref := "CallForker") (ty := .int) X tyX2 rfl (by decide) (by simp [flds, st, List.set]) (by simp [flds]) rfl tyX2_ok nmX2 wu_X2 (by decide) rfl wf_X2_31 rfl (by decide +kernel) rfl rfl d kk
theorem gt_X2_35 {E : EE} {C : Ctx} {bs : ByteArray} {nL k n pc : Nat} {R : Room} {μ : Mem} {L : List (Nat × Value)} {S : List Value} (X : Cx E C bs RX2 nL R) (d : decode bs pc = .ok (.getfield 35, 3)) (kk : KF E C k n μ (pc + 3) L (.int (μ 0 0 6) :: S)) : KF E C k n μ pc L (.ref (ad E 0 0) :: S) := k_getf (a := 0) (fi := 6) (Cn := RX2) (T := TX2) (N := 7) (ref := "CallForker") X rfl (by decide) rfl rfl wu_X2 (by decide) rfl wf_X2_35 d kk
theorem pt_X2_35 {E : EE} {C : Ctx} {bs : ByteArray} {nL k n pc : Nat} {R : Room} {μ : Mem} {L : List (Nat × Value)} {S : List Value} (X : Cx E C bs RX2 nL R) {y : Int32} (d : decode bs pc = .ok (.putfield 35, 3)) (kk : KF E C k n (st μ 0 0 6 y) (pc + 3) L S) : KF E C k n μ pc L (.int y :: .ref (ad E 0 0) :: S) := k_putf (a := 0) (fi := 6) (Cn := RX2) (T := TX2) (N := 7) (ref := "CallForker") (ty := .int) X tyX2 rfl (by decide) (by simp [flds, st, List.set]) (by simp [flds]) rfl tyX2_ok nmX2 wu_X2 (by decide) rfl wf_X2_35 rfl (by decide +kernel) rfl rfl d kk
theorem gn_X2_87 {E : EE} {C : Ctx} {bs : ByteArray} {nL k n pc : Nat} {R : Room} {μ : Mem} {L : List (Nat × Value)} {S : List Value} (X : Cx E C bs RX2 nL R) {o : Nat} (ho : o < 6) (d : decode bs pc = .ok (.getfield 87, 3)) (kk : KF E C k n μ (pc + 3) L (.ref (ad E 7 o) :: S)) : KF E C k n μ pc L (.ref (ad E 6 o) :: S) := k_getn (a := 6) (fi := 0) (Cn := RX0) (T := TX0) (N := 5) (ref := "CallForker$BindingRow") (host := "CallForker") X rfl ho rfl rfl wu_X0 (by decide) rfl (by decide +kernel) d kk
theorem gn_X2_57 {E : EE} {C : Ctx} {bs : ByteArray} {nL k n pc : Nat} {R : Room} {μ : Mem} {L : List (Nat × Value)} {S : List Value} (X : Cx E C bs RX2 nL R) {o : Nat} (ho : o < 6) (d : decode bs pc = .ok (.getfield 57, 3)) (kk : KF E C k n μ (pc + 3) L (.ref (ad E 9 o) :: S)) : KF E C k n μ pc L (.ref (ad E 6 o) :: S) := k_getn (a := 6) (fi := 2) (Cn := RX0) (T := TX0) (N := 5) (ref := "CallForker$BindingRow") (host := "CallForker") X rfl ho rfl rfl wu_X0 (by decide) rfl (by decide +kernel) d kk
theorem gn_X2_183 {E : EE} {C : Ctx} {bs : ByteArray} {nL k n pc : Nat} {R : Room} {μ : Mem} {L : List (Nat × Value)} {S : List Value} (X : Cx E C bs RX2 nL R) {o : Nat} (ho : o < 6) (d : decode bs pc = .ok (.getfield 183, 3)) (kk : KF E C k n μ (pc + 3) L (.ref (ad E 10 o) :: S)) : KF E C k n μ pc L (.ref (ad E 6 o) :: S) := k_getn (a := 6) (fi := 3) (Cn := RX0) (T := TX0) (N := 5) (ref := "CallForker$BindingRow") (host := "CallForker") X rfl ho rfl rfl wu_X0 (by decide) rfl (by decide +kernel) d kk
theorem gn_X2_180 {E : EE} {C : Ctx} {bs : ByteArray} {nL k n pc : Nat} {R : Room} {μ : Mem} {L : List (Nat × Value)} {S : List Value} (X : Cx E C bs RX2 nL R) {o : Nat} (ho : o < 6) (d : decode bs pc = .ok (.getfield 180, 3)) (kk : KF E C k n μ (pc + 3) L (.int (μ 6 o 4) :: S)) : KF E C k n μ pc L (.ref (ad E 6 o) :: S) := k_getn (a := 6) (fi := 4) (Cn := RX0) (T := TX0) (N := 5) (ref := "CallForker$BindingRow") (host := "CallForker") X rfl ho rfl rfl wu_X0 (by decide) rfl (by decide +kernel) d kk
theorem gn_X2_165 {E : EE} {C : Ctx} {bs : ByteArray} {nL k n pc : Nat} {R : Room} {μ : Mem} {L : List (Nat × Value)} {S : List Value} (X : Cx E C bs RX2 nL R) {o : Nat} (ho : o < 20) (d : decode bs pc = .ok (.getfield 165, 3)) (kk : KF E C k n μ (pc + 3) L (.ref (ad E 12 o) :: S)) : KF E C k n μ pc L (.ref (ad E 11 o) :: S) := k_getn (a := 11) (fi := 0) (Cn := RX1) (T := TX1) (N := 10) (ref := "CallForker$Call") (host := "CallForker") X rfl ho rfl rfl wu_X1 (by decide) rfl (by decide +kernel) d kk
theorem gn_X2_168 {E : EE} {C : Ctx} {bs : ByteArray} {nL k n pc : Nat} {R : Room} {μ : Mem} {L : List (Nat × Value)} {S : List Value} (X : Cx E C bs RX2 nL R) {o : Nat} (ho : o < 20) (d : decode bs pc = .ok (.getfield 168, 3)) (kk : KF E C k n μ (pc + 3) L (.ref (ad E 14 o) :: S)) : KF E C k n μ pc L (.ref (ad E 11 o) :: S) := k_getn (a := 11) (fi := 2) (Cn := RX1) (T := TX1) (N := 10) (ref := "CallForker$Call") (host := "CallForker") X rfl ho rfl rfl wu_X1 (by decide) rfl (by decide +kernel) d kk
theorem gn_X2_132 {E : EE} {C : Ctx} {bs : ByteArray} {nL k n pc : Nat} {R : Room} {μ : Mem} {L : List (Nat × Value)} {S : List Value} (X : Cx E C bs RX2 nL R) {o : Nat} (ho : o < 20) (d : decode bs pc = .ok (.getfield 132, 3)) (kk : KF E C k n μ (pc + 3) L (.ref (ad E 15 o) :: S)) : KF E C k n μ pc L (.ref (ad E 11 o) :: S) := k_getn (a := 11) (fi := 3) (Cn := RX1) (T := TX1) (N := 10) (ref := "CallForker$Call") (host := "CallForker") X rfl ho rfl rfl wu_X1 (by decide) rfl (by decide +kernel) d kk
theorem gn_X2_158 {E : EE} {C : Ctx} {bs : ByteArray} {nL k n pc : Nat} {R : Room} {μ : Mem} {L : List (Nat × Value)} {S : List Value} (X : Cx E C bs RX2 nL R) {o : Nat} (ho : o < 20) (d : decode bs pc = .ok (.getfield 158, 3)) (kk : KF E C k n μ (pc + 3) L (.int (μ 11 o 4) :: S)) : KF E C k n μ pc L (.ref (ad E 11 o) :: S) := k_getn (a := 11) (fi := 4) (Cn := RX1) (T := TX1) (N := 10) (ref := "CallForker$Call") (host := "CallForker") X rfl ho rfl rfl wu_X1 (by decide) rfl (by decide +kernel) d kk
theorem gn_X2_171 {E : EE} {C : Ctx} {bs : ByteArray} {nL k n pc : Nat} {R : Room} {μ : Mem} {L : List (Nat × Value)} {S : List Value} (X : Cx E C bs RX2 nL R) {o : Nat} (ho : o < 20) (d : decode bs pc = .ok (.getfield 171, 3)) (kk : KF E C k n μ (pc + 3) L (.int (μ 11 o 7) :: S)) : KF E C k n μ pc L (.ref (ad E 11 o) :: S) := k_getn (a := 11) (fi := 7) (Cn := RX1) (T := TX1) (N := 10) (ref := "CallForker$Call") (host := "CallForker") X rfl ho rfl rfl wu_X1 (by decide) rfl (by decide +kernel) d kk
theorem gn_X2_138 {E : EE} {C : Ctx} {bs : ByteArray} {nL k n pc : Nat} {R : Room} {μ : Mem} {L : List (Nat × Value)} {S : List Value} (X : Cx E C bs RX2 nL R) {o : Nat} (ho : o < 20) (d : decode bs pc = .ok (.getfield 138, 3)) (kk : KF E C k n μ (pc + 3) L (.int (μ 11 o 8) :: S)) : KF E C k n μ pc L (.ref (ad E 11 o) :: S) := k_getn (a := 11) (fi := 8) (Cn := RX1) (T := TX1) (N := 10) (ref := "CallForker$Call") (host := "CallForker") X rfl ho rfl rfl wu_X1 (by decide) rfl (by decide +kernel) d kk
end
section
/-! words for what the methods compute -/
def bp (P : Prop) [Decidable P] : Int32 := if P then 1 else 0
theorem bp_t {P : Prop} [Decidable P] (h : P) : bp P = 1 := if_pos h
theorem bp_f {P : Prop} [Decidable P] (h : ¬ P) : bp P = 0 := if_neg h
theorem bp_0 {P : Prop} [Decidable P] : bp P = 0 ↔ ¬ P := by
  by_cases h : P
  · rw [bp_t h]; exact ⟨fun q => absurd q (by decide), fun q => absurd h q⟩
  · rw [bp_f h]; exact ⟨fun _ => h, fun _ => rfl⟩
theorem bp_nar {P : Prop} [Decidable P] : narrow .boolean (.int (bp P)) = .int (bp P) := by
  by_cases h : P
  · rw [bp_t h]; rfl
  · rw [bp_f h]; rfl
theorem bp_cong {P Q : Prop} [Decidable P] [Decidable Q] (h : P ↔ Q) : bp P = bp Q := by
  by_cases hq : Q
  · rw [bp_t hq, bp_t (h.mpr hq)]
  · rw [bp_f hq, bp_f (fun q => hq (h.mp q))]
def anB (p : Nat → Bool) : Nat → Bool
  | 0 => false
  | n + 1 => anB p n || p n
theorem anB_of {p : Nat → Bool} {i : Nat} (hp : p i = true) : ∀ {n : Nat}, i < n → anB p n = true
  | 0, h => absurd h (Nat.not_lt_zero i)
  | n + 1, h => by
    unfold anB
    by_cases e : i = n
    · subst e; rw [hp, Bool.or_true]
    · rw [anB_of hp (by omega), Bool.true_or]
theorem anB_no {p : Nat → Bool} : ∀ {n : Nat}, (∀ i, i < n → p i = false) → anB p n = false
  | 0, _ => rfl
  | n + 1, h => by
    unfold anB
    rw [anB_no (fun i hi => h i (by omega)), h n (by omega)]
    rfl
theorem anB_ex {p : Nat → Bool} : ∀ {n : Nat}, anB p n = true → ∃ i, i < n ∧ p i = true
  | 0, h => by cases h
  | n + 1, h => by
    unfold anB at h
    rcases (Bool.or_eq_true _ _).mp h with h | h
    · obtain ⟨i, h1, h2⟩ := anB_ex h
      exact ⟨i, by omega, h2⟩
    · exact ⟨n, by omega, h⟩
theorem anB_all {p : Nat → Bool} {n : Nat} (h : anB p n = false) : ∀ i, i < n → p i = false := by
  intro i hi
  cases e : p i
  · rfl
  · rw [anB_of e hi] at h; cases h
theorem anB_cong {p q : Nat → Bool} : ∀ {n : Nat}, (∀ i, i < n → p i = q i) → anB p n = anB q n
  | 0, _ => rfl
  | n + 1, h => by
    unfold anB
    rw [anB_cong (fun i hi => h i (by omega)), h n (by omega)]
/-- the first i below n with p, else n -/
def fsB (p : Nat → Bool) : Nat → Nat
  | 0 => 0
  | n + 1 => if fsB p n < n then fsB p n else if p n then n else n + 1
theorem fsB_le (p : Nat → Bool) : ∀ n, fsB p n ≤ n
  | 0 => Nat.le_refl 0
  | n + 1 => by
    have := fsB_le p n
    unfold fsB
    split
    · omega
    · split <;> omega
theorem fsB_no {p : Nat → Bool} : ∀ {n : Nat}, (∀ i, i < n → p i = false) → fsB p n = n
  | 0, _ => rfl
  | n + 1, h => by
    unfold fsB
    rw [fsB_no (fun i hi => h i (by omega)), if_neg (Nat.lt_irrefl n), h n (by omega)]
    rfl
theorem fsB_at {p : Nat → Bool} {i : Nat} (hp : p i = true) (hb : ∀ j, j < i → p j = false) : ∀ {n : Nat}, i < n → fsB p n = i
  | 0, h => absurd h (Nat.not_lt_zero i)
  | n + 1, h => by
    unfold fsB
    by_cases e : i = n
    · subst e
      rw [fsB_no hb, if_neg (Nat.lt_irrefl i), hp]
      rfl
    · rw [fsB_at hp hb (n := n) (by omega), if_pos (by omega)]
theorem fsB_spec {p : Nat → Bool} : ∀ {n : Nat}, fsB p n < n → p (fsB p n) = true ∧ ∀ j, j < fsB p n → p j = false
  | 0, h => absurd h (Nat.not_lt_zero _)
  | n + 1, h => by
    by_cases e : fsB p n < n
    · have e2 : fsB p (n + 1) = fsB p n := by
        show (if fsB p n < n then fsB p n else if p n then n else n + 1) = _
        rw [if_pos e]
      rw [e2]
      exact fsB_spec e
    · have e1 : fsB p n = n := by
        have := fsB_le p n
        omega
      have hno : ∀ j, j < n → p j = false := by
        intro j hj
        cases hpj : p j
        · rfl
        · exfalso
          have : ∃ i, i < n ∧ p i = true ∧ ∀ k, k < i → p k = false := by
            clear h e e1
            induction j using Nat.strongRecOn with
            | ind j ih =>
              by_cases hk : ∃ k, k < j ∧ p k = true
              · obtain ⟨k, h1, h2⟩ := hk
                exact ih k h1 (by omega) h2
              · refine ⟨j, hj, hpj, fun k hk1 => ?_⟩
                cases hpk : p k
                · rfl
                · exact absurd ⟨k, hk1, hpk⟩ hk
          obtain ⟨i, h1, h2, h3⟩ := this
          have := fsB_at h2 h3 h1
          omega
      have e2 : fsB p (n + 1) = if p n then n else n + 1 := by
        show (if fsB p n < n then fsB p n else if p n then n else n + 1) = _
        rw [if_neg e]
      cases hpn : p n
      · rw [e2, hpn] at h
        exact absurd h (Nat.lt_irrefl _)
      · rw [e2, hpn]
        exact ⟨hpn, hno⟩
def frI (p : Nat → Bool) (n : Nat) : Int32 := if fsB p n < n then nI (fsB p n) else -1
theorem frI_at {p : Nat → Bool} {i n : Nat} (hp : p i = true) (hb : ∀ j, j < i → p j = false) (h : i < n) : frI p n = nI i := by
  unfold frI
  rw [fsB_at hp hb h, if_pos h]
theorem frI_no {p : Nat → Bool} {n : Nat} (h : ∀ i, i < n → p i = false) : frI p n = -1 := by
  unfold frI
  rw [fsB_no h, if_neg (Nat.lt_irrefl n)]
def ctB (p : Nat → Bool) : Nat → Nat
  | 0 => 0
  | n + 1 => ctB p n + (if p n then 1 else 0)
theorem ctB_le (p : Nat → Bool) : ∀ n, ctB p n ≤ n
  | 0 => Nat.le_refl 0
  | n + 1 => by
    have := ctB_le p n
    unfold ctB
    split <;> omega
theorem ctB_t {p : Nat → Bool} {n : Nat} (h : p n = true) : ctB p (n + 1) = ctB p n + 1 := by
  show ctB p n + (if p n then 1 else 0) = _
  rw [h]; rfl
theorem ctB_f {p : Nat → Bool} {n : Nat} (h : p n = false) : ctB p (n + 1) = ctB p n := by
  show ctB p n + (if p n then 1 else 0) = _
  rw [h]; rfl
theorem ctB_cong {p q : Nat → Bool} : ∀ {n : Nat}, (∀ i, i < n → p i = q i) → ctB p n = ctB q n
  | 0, _ => rfl
  | n + 1, h => by
    unfold ctB
    rw [ctB_cong (fun i hi => h i (by omega)), h n (by omega)]
/-- n places of a row from a on, put anew -/
def up (μ : Mem) (k o a n : Nat) (g : Nat → Int32) : Mem := fun k' o' i => if k' = k ∧ o' = o ∧ a ≤ i ∧ i < a + n then g (i - a) else μ k' o' i
theorem up_0 {μ : Mem} {k o a : Nat} {g : Nat → Int32} : up μ k o a 0 g = μ := by
  funext k' o' i
  unfold up
  rw [if_neg (by omega)]
theorem up_st {μ : Mem} {k o a i : Nat} {g : Nat → Int32} {x : Int32} (hx : x = g i) : st (up μ k o a i g) k o (a + i) x = up μ k o a (i + 1) g := by
  subst hx
  funext k' o' j
  unfold up st
  by_cases h : k' = k ∧ o' = o ∧ j = a + i
  · rw [if_pos h, if_pos (by omega), h.2.2, Nat.add_sub_cancel_left]
  · rw [if_neg h]
    show (if k' = k ∧ o' = o ∧ a ≤ j ∧ j < a + i then g (j - a) else μ k' o' j) = _
    by_cases h2 : k' = k ∧ o' = o ∧ a ≤ j ∧ j < a + i
    · rw [if_pos h2, if_pos (by omega)]
    · rw [if_neg h2, if_neg (by omega)]
theorem up_no {μ : Mem} {k o a i : Nat} {g : Nat → Int32} (hx : g i = μ k o (a + i)) : up μ k o a i g = up μ k o a (i + 1) g := by
  funext k' o' j
  unfold up
  by_cases h2 : k' = k ∧ o' = o ∧ a ≤ j ∧ j < a + i
  · rw [if_pos h2, if_pos (by omega)]
  · rw [if_neg h2]
    by_cases h : k' = k ∧ o' = o ∧ j = a + i
    · rw [if_pos (by omega)]
      obtain ⟨rfl, rfl, rfl⟩ := h
      rw [Nat.add_sub_cancel_left]
      exact hx.symm
    · rw [if_neg (by omega)]
theorem up_k {μ : Mem} {k o a n k' o' i : Nat} {g : Nat → Int32} (h : k' ≠ k) : up μ k o a n g k' o' i = μ k' o' i := if_neg (fun q => h q.1)
theorem up_o {μ : Mem} {k o a n k' o' i : Nat} {g : Nat → Int32} (h : o' ≠ o) : up μ k o a n g k' o' i = μ k' o' i := if_neg (fun q => h q.2.1)
theorem up_out {μ : Mem} {k o a n i : Nat} {g : Nat → Int32} (h : i < a ∨ a + n ≤ i) : up μ k o a n g k o i = μ k o i := if_neg (by omega)
theorem up_in {μ : Mem} {k o a n i : Nat} {g : Nat → Int32} (h : i < n) : up μ k o a n g k o (a + i) = g i := by
  unfold up
  rw [if_pos ⟨rfl, rfl, by omega, by omega⟩, Nat.add_sub_cancel_left]
theorem up_in0 {μ : Mem} {k o n i : Nat} {g : Nat → Int32} (h : i < n) : up μ k o 0 n g k o i = g i := by
  have := up_in (μ := μ) (k := k) (o := o) (a := 0) (g := g) h
  rwa [Nat.zero_add] at this
theorem st_k {μ : Mem} {k o i k' o' i' : Nat} {x : Int32} (h : k' ≠ k) : st μ k o i x k' o' i' = μ k' o' i' := if_neg (fun q => h q.1)
theorem st_o {μ : Mem} {k o i k' o' i' : Nat} {x : Int32} (h : o' ≠ o) : st μ k o i x k' o' i' = μ k' o' i' := if_neg (fun q => h q.2.1)
theorem st_i {μ : Mem} {k o i k' o' i' : Nat} {x : Int32} (h : i' ≠ i) : st μ k o i x k' o' i' = μ k' o' i' := if_neg (fun q => h q.2.2)
section KB
variable {E : EE} {C : Ctx} {bs : ByteArray} {own : String} {nL k n pc : Nat} {R : Room} {μ : Mem} {L : List (Nat × Value)} {S : List Value}
theorem k_if_eq_p (X : Cx E C bs own nL R) {P : Prop} [Decidable P] {off : Int} {tgt : Nat} (d : decode bs pc = .ok (.ifCond .eq off, 3)) (ht : (pc : Int) + off = (tgt : Int)) (kt : ¬ P → KF E C k n μ tgt L S) (kf : P → KF E C k n μ (pc + 3) L S) : KF E C k n μ pc L (.int (bp P) :: S) :=
  k_if_eq X d ht (fun h => kt (bp_0.mp h)) (fun h => kf (by by_cases q : P; exact q; exact absurd (bp_f q) h))
theorem k_if_ne_p (X : Cx E C bs own nL R) {P : Prop} [Decidable P] {off : Int} {tgt : Nat} (d : decode bs pc = .ok (.ifCond .ne off, 3)) (ht : (pc : Int) + off = (tgt : Int)) (kt : P → KF E C k n μ tgt L S) (kf : ¬ P → KF E C k n μ (pc + 3) L S) : KF E C k n μ pc L (.int (bp P) :: S) :=
  k_if_ne X d ht (fun h => kt (by by_cases q : P; exact q; exact absurd (bp_f q) h)) (fun h => kf (bp_0.mp h))
end KB
theorem up0_st {μ : Mem} {k o i : Nat} {g : Nat → Int32} {x : Int32} (hx : x = g i) : st (up μ k o 0 i g) k o i x = up μ k o 0 (i + 1) g := by
  have h := up_st (μ := μ) (k := k) (o := o) (a := 0) hx
  rwa [Nat.zero_add] at h
theorem up0_no {μ : Mem} {k o i : Nat} {g : Nat → Int32} (hx : g i = μ k o i) : up μ k o 0 i g = up μ k o 0 (i + 1) g := up_no (by rw [Nat.zero_add]; exact hx)
theorem up0_next {μ : Mem} {k o i : Nat} {g : Nat → Int32} : up μ k o 0 i g k o i = μ k o i := up_out (by omega)
theorem sub1 (x : Int32) : x + Int32.ofInt (-1) = x - 1 := by rw [Int32.sub_eq_add_neg]; rfl
/-! calls: rows and fields of the class's calls -/
def wtP (μ : Mem) (c : Nat) : Nat → Bool := fun b => decide (μ 11 c 5 ≤ μ 13 c b) && !decide (200 ≤ μ 14 c b)
def addM (μ : Mem) (c n : Nat) (x y z : Int32) : Mem := if n < 12 then st (st (st (st μ 12 c n x) 13 c n y) 14 c n z) 11 c 4 (nI (n + 1)) else μ
def sg1 (μ : Mem) (c n : Nat) (q : Int32) : Mem := up μ 14 c 0 n (fun b => if μ 13 c b = q ∧ ¬ 200 ≤ μ 14 c b then 100 else μ 14 c b)
def sgM (μ : Mem) (c n : Nat) (q now : Int32) : Mem := sg1 (st (st μ 11 c 5 q) 11 c 6 now) c n q
theorem sgM_n {μ : Mem} {c n : Nat} {q now : Int32} : sgM μ c n q now 11 c 4 = μ 11 c 4 := by simp [sgM, sg1, up, st]
def eoM (μ : Mem) (c n : Nat) : Mem := up μ 14 c 0 n (fun b => if 200 ≤ μ 14 c b then μ 14 c b else 487)
def eoN (μ : Mem) (c n : Nat) : Nat := ctB (fun b => !decide (200 ≤ μ 14 c b)) n
def rgM (μ : Mem) (c n : Nat) : Mem := up μ 14 c 0 n (fun b => if μ 11 c 5 ≤ μ 13 c b ∧ ¬ 200 ≤ μ 14 c b then 408 else μ 14 c b)
def beL (f : Nat → Int32) : Nat → Int32
  | 0 => -1
  | n + 1 => if f n = 487 then beL f n else if beL f n = -1 then f n else if f n < beL f n then f n else beL f n
def beG (f : Nat → Int32) : Nat → Int32
  | 0 => -1
  | n + 1 => if f n = 487 then beG f n else if beG f n < f n then f n else beG f n
theorem beL_0 {f : Nat → Int32} {n : Nat} (h : f n = 487) : beL f (n + 1) = beL f n := if_pos h
theorem beL_1 {f : Nat → Int32} {n : Nat} (h : ¬ f n = 487) (h2 : beL f n = -1) : beL f (n + 1) = f n := by
  show (if f n = 487 then beL f n else if beL f n = -1 then f n else if f n < beL f n then f n else beL f n) = _
  rw [if_neg h, if_pos h2]
theorem beL_2 {f : Nat → Int32} {n : Nat} (h : ¬ f n = 487) (h2 : ¬ beL f n = -1) : beL f (n + 1) = if f n < beL f n then f n else beL f n := by
  show (if f n = 487 then beL f n else if beL f n = -1 then f n else if f n < beL f n then f n else beL f n) = _
  rw [if_neg h, if_neg h2]
theorem beG_0 {f : Nat → Int32} {n : Nat} (h : f n = 487) : beG f (n + 1) = beG f n := if_pos h
theorem beG_1 {f : Nat → Int32} {n : Nat} (h : ¬ f n = 487) : beG f (n + 1) = if beG f n < f n then f n else beG f n := if_neg h
def beI (f : Nat → Int32) (n : Nat) : Int32 := if 600 ≤ beG f n then beG f n else if beL f n = -1 then 487 else beL f n
def goM (c n : Nat) (now : Int32) : Nat → Mem → Mem
  | 0, μ => μ
  | j + 1, μ => if anB (wtP μ c) n = true then μ else goM c n now j (sgM μ c n (nI j) now)
theorem goM_w {c n j : Nat} {now : Int32} {μ : Mem} (h : anB (wtP μ c) n = true) : goM c n now (j + 1) μ = μ := if_pos h
theorem goM_n {c n j : Nat} {now : Int32} {μ : Mem} (h : ¬ anB (wtP μ c) n = true) : goM c n now (j + 1) μ = goM c n now j (sgM μ c n (nI j) now) := if_neg h
def gfM (μ : Mem) (c n : Nat) : Mem := if anB (wtP μ c) n = true then μ else st μ 11 c 8 (beI (μ 14 c) n)
def goOnM (μ : Mem) (c n s : Nat) (now : Int32) : Mem := gfM (goM c n now s μ) c n
def taM (μ : Mem) (c n s b : Nat) (x now : Int32) : Mem :=
  if x = 180 then st μ 14 c b x
  else if 300 ≤ x then (if x < 600 then goOnM (st μ 14 c b x) c n s now else st (eoM (st μ 14 c b x) c n) 11 c 8 (beI (eoM (st μ 14 c b x) c n 14 c) n))
  else st (eoM (st (st μ 14 c b x) 11 c 7 (nI b)) c n) 11 c 8 x
def etM (μ : Mem) (c n s : Nat) (now : Int32) : Mem :=
  if μ 11 c 8 = -1 then (if 10 ≤ now - μ 11 c 6 then goOnM (rgM μ c n) c n s now else μ) else μ
def etI (μ : Mem) (c n s : Nat) (now : Int32) : Int32 :=
  if μ 11 c 8 = -1 then (if 10 ≤ now - μ 11 c 6 then bp (¬ goOnM (rgM μ c n) c n s now 11 c 8 = -1) else 0) else 0
def insM (x : Int32) : Nat → Mem → Mem
  | 0, μ => st μ 5 0 0 x
  | p + 1, μ => if μ 5 0 p ≤ x then st μ 5 0 (p + 1) x else insM x p (st μ 5 0 (p + 1) (μ 5 0 p))
def soN (f : Nat → Int32) : Nat → Nat
  | 0 => 0
  | n + 1 => if f n = 487 then soN f n else soN f n + 1
def soM (f : Nat → Int32) : Nat → Mem → Mem
  | 0, μ => μ
  | n + 1, μ => if f n = 487 then soM f n μ else insM (f n) (soN f n) (soM f n μ)
theorem soN_le (f : Nat → Int32) : ∀ n, soN f n ≤ n
  | 0 => Nat.le_refl 0
  | n + 1 => by
    have := soN_le f n
    unfold soN
    split <;> omega
theorem insM_k {x : Int32} {k o i : Nat} (h : k ≠ 5) : ∀ (p : Nat) (μ : Mem), insM x p μ k o i = μ k o i
  | 0, μ => st_k h
  | p + 1, μ => by
    show (if μ 5 0 p ≤ x then st μ 5 0 (p + 1) x else insM x p (st μ 5 0 (p + 1) (μ 5 0 p))) k o i = _
    split
    · exact st_k h
    · rw [insM_k h p]; exact st_k h
theorem soM_k {f : Nat → Int32} {k o i : Nat} (h : k ≠ 5) : ∀ (n : Nat) (μ : Mem), soM f n μ k o i = μ k o i
  | 0, μ => rfl
  | n + 1, μ => by
    show (if f n = 487 then soM f n μ else insM (f n) (soN f n) (soM f n μ)) k o i = _
    split
    · exact soM_k h n μ
    · rw [insM_k h]; exact soM_k h n μ
def fsI (μ : Mem) (c n : Nat) : Int32 :=
  if n = 0 then 480 else if ¬ μ 11 c 9 = 0 ∨ soN (μ 14 c) n = 0 then 487
  else if 600 ≤ soM (μ 14 c) n μ 5 0 (soN (μ 14 c) n - 1) then soM (μ 14 c) n μ 5 0 (soN (μ 14 c) n - 1) else soM (μ 14 c) n μ 5 0 0
theorem nI_z {n : Nat} (h : n < 2 ^ 31) : nI n = 0 ↔ n = 0 := by rw [← nI_0]; exact nI_eq h (by decide)
theorem nI_s1 {n : Nat} (h : 0 < n) : nI n - 1 = nI (n - 1) := by
  obtain ⟨m, rfl⟩ : ∃ m, n = m + 1 := ⟨n - 1, by omega⟩
  exact nI_pred m
def bgM (μ : Mem) (c n s : Nat) (now : Int32) : Mem := if n = 0 then st μ 11 c 8 480 else goOnM μ c n s now
def caM (μ : Mem) (c n : Nat) : Mem := st (st (eoM μ c n) 11 c 9 1) 11 c 8 487
def fsM (μ : Mem) (c n : Nat) : Mem := if n = 0 then μ else soM (μ 14 c) n μ
end
section
set_option maxHeartbeats 4000000 in
set_option maxRecDepth 100000 in
theorem C_X1_isStarted {E : EE} {μ : Mem} (c b : Nat) (hc : c < 20) (hb : b < 12) : MM E yX1_isStarted cX1_isStarted 2 (some .boolean) (rm 1 0) [.ref (ad E 11 c), .int (nI b)] μ (some (.int (bp (μ 11 c 5 ≤ μ 13 c b)))) μ := by
  refine MM.int (own := RX1) [(0, .ref (ad E 11 c)), (1, .int (nI b))] rfl rfl rfl (Nat.le_of_ble_eq_true rfl) bp_nar (fun C X hE => ?_)
  refine k_aload_n X 0 dX1_isStarted_0 rfl rfl ?_
  refine gt_X1_15 X hc dX1_isStarted_1 ?_
  refine k_iload_n X 1 dX1_isStarted_4 rfl rfl ?_
  refine k_iald (a := 13) (j := b) X rfl hc rfl hb (by decide) dX1_isStarted_5 ?_
  refine k_aload_n X 0 dX1_isStarted_6 rfl rfl ?_
  refine gt_X1_29 X hc dX1_isStarted_7 ?_
  refine k_icmp_lt (tgt := 17) X dX1_isStarted_10 (by decide) (fun c10 => ?_) (fun c10 => ?_)
  · refine k_iconst X 0 dX1_isStarted_17 (by decide) ?_
    exact k_iret dX1_isStarted_18 hE (bp_f (by first | exact Int32.not_lt.mp c10 | exact Int32.not_le.mpr c10)).symm rfl
  · refine k_iconst X 1 dX1_isStarted_13 (by decide) ?_
    refine k_goto (tgt := 18) X dX1_isStarted_14 (by decide) ?_
    exact k_iret dX1_isStarted_18 hE (bp_t (by first | exact Int32.not_lt.mp c10 | exact Int32.not_le.mpr c10)).symm rfl

set_option maxHeartbeats 4000000 in
set_option maxRecDepth 100000 in
theorem C_X1_isEnded {E : EE} {μ : Mem} (c b : Nat) (hc : c < 20) (hb : b < 12) : MM E yX1_isEnded cX1_isEnded 2 (some .boolean) (rm 1 0) [.ref (ad E 11 c), .int (nI b)] μ (some (.int (bp (200 ≤ μ 14 c b)))) μ := by
  refine MM.int (own := RX1) [(0, .ref (ad E 11 c)), (1, .int (nI b))] rfl rfl rfl (Nat.le_of_ble_eq_true rfl) bp_nar (fun C X hE => ?_)
  refine k_aload_n X 0 dX1_isEnded_0 rfl rfl ?_
  refine gt_X1_18 X hc dX1_isEnded_1 ?_
  refine k_iload_n X 1 dX1_isEnded_4 rfl rfl ?_
  refine k_iald (a := 14) (j := b) X rfl hc rfl hb (by decide) dX1_isEnded_5 ?_
  refine k_sipush X 200 dX1_isEnded_6 (by decide) ?_
  refine k_icmp_lt (tgt := 16) X dX1_isEnded_9 (by decide) (fun c9 => ?_) (fun c9 => ?_)
  · refine k_iconst X 0 dX1_isEnded_16 (by decide) ?_
    exact k_iret dX1_isEnded_17 hE (bp_f (by first | exact Int32.not_lt.mp c9 | exact Int32.not_le.mpr c9)).symm rfl
  · refine k_iconst X 1 dX1_isEnded_12 (by decide) ?_
    refine k_goto (tgt := 17) X dX1_isEnded_13 (by decide) ?_
    exact k_iret dX1_isEnded_17 hE (bp_t (by first | exact Int32.not_lt.mp c9 | exact Int32.not_le.mpr c9)).symm rfl

set_option maxHeartbeats 4000000 in
set_option maxRecDepth 100000 in
theorem C_X1_isTooMuch {E : EE} {μ : Mem} (c b : Nat) (x : Int32) (hc : c < 20) (hb : b < 12) : MM E yX1_isTooMuch cX1_isTooMuch 5 (some .boolean) (rm 1 0) [.ref (ad E 11 c), .int (nI b), .int x] μ (some (.int (bp ((¬ x < 200 ∧ ¬ 300 ≤ x) ∧ (μ 14 c b = 487 ∨ μ 14 c b = 408) ∧ μ 15 c b = 0)))) μ := by
  refine MM.int (own := RX1) [(0, .ref (ad E 11 c)), (1, .int (nI b)), (2, .int x)] rfl rfl rfl (Nat.le_of_ble_eq_true rfl) bp_nar (fun C X hE => ?_)
  refine k_iload_n X 2 dX1_isTooMuch_0 rfl rfl ?_
  refine k_sipush X 200 dX1_isTooMuch_1 (by decide) ?_
  refine k_icmp_lt (tgt := 18) X dX1_isTooMuch_4 (by decide) (fun c4 => ?_) (fun c4 => ?_)
  · refine k_iconst X 0 dX1_isTooMuch_18 (by decide) ?_
    refine k_istore_n (L' := [(3, .int 0), (0, .ref (ad E 11 c)), (1, .int (nI b)), (2, .int x)]) X dX1_isTooMuch_19 rfl (by decide) rfl ?_
    refine k_aload_n X 1 dX1_isTooMuch_20 rfl rfl ?_
    refine gt_X1_18 X hc dX1_isTooMuch_21 ?_
    refine k_iload_n X 2 dX1_isTooMuch_24 rfl rfl ?_
    refine k_iald (a := 14) (j := b) X rfl hc rfl hb (by decide) dX1_isTooMuch_25 ?_
    refine k_sipush X 487 dX1_isTooMuch_26 (by decide) ?_
    refine k_icmp_eq (tgt := 44) X dX1_isTooMuch_29 (by decide) (fun c29 => ?_) (fun c29 => ?_)
    · refine k_iconst X 1 dX1_isTooMuch_44 (by decide) ?_
      refine k_goto (tgt := 49) X dX1_isTooMuch_45 (by decide) ?_
      refine k_istore (L' := [(4, .int 1), (3, .int 0), (0, .ref (ad E 11 c)), (1, .int (nI b)), (2, .int x)]) X dX1_isTooMuch_49 (by decide) rfl ?_
      refine k_iload_n X 1 dX1_isTooMuch_51 rfl rfl ?_
      refine k_if_eq_t (tgt := 73) X dX1_isTooMuch_52 (by decide) rfl ?_
      refine k_iconst X 0 dX1_isTooMuch_73 (by decide) ?_
      exact k_iret dX1_isTooMuch_74 hE (bp_f (by simp_all)).symm rfl
    · refine k_aload_n X 1 dX1_isTooMuch_32 rfl rfl ?_
      refine gt_X1_18 X hc dX1_isTooMuch_33 ?_
      refine k_iload_n X 2 dX1_isTooMuch_36 rfl rfl ?_
      refine k_iald (a := 14) (j := b) X rfl hc rfl hb (by decide) dX1_isTooMuch_37 ?_
      refine k_sipush X 408 dX1_isTooMuch_38 (by decide) ?_
      refine k_icmp_ne (tgt := 48) X dX1_isTooMuch_41 (by decide) (fun c41 => ?_) (fun c41 => ?_)
      · refine k_iconst X 0 dX1_isTooMuch_48 (by decide) ?_
        refine k_istore (L' := [(4, .int 0), (3, .int 0), (0, .ref (ad E 11 c)), (1, .int (nI b)), (2, .int x)]) X dX1_isTooMuch_49 (by decide) rfl ?_
        refine k_iload_n X 1 dX1_isTooMuch_51 rfl rfl ?_
        refine k_if_eq_t (tgt := 73) X dX1_isTooMuch_52 (by decide) rfl ?_
        refine k_iconst X 0 dX1_isTooMuch_73 (by decide) ?_
        exact k_iret dX1_isTooMuch_74 hE (bp_f (by simp_all)).symm rfl
      · refine k_iconst X 1 dX1_isTooMuch_44 (by decide) ?_
        refine k_goto (tgt := 49) X dX1_isTooMuch_45 (by decide) ?_
        refine k_istore (L' := [(4, .int 1), (3, .int 0), (0, .ref (ad E 11 c)), (1, .int (nI b)), (2, .int x)]) X dX1_isTooMuch_49 (by decide) rfl ?_
        refine k_iload_n X 1 dX1_isTooMuch_51 rfl rfl ?_
        refine k_if_eq_t (tgt := 73) X dX1_isTooMuch_52 (by decide) rfl ?_
        refine k_iconst X 0 dX1_isTooMuch_73 (by decide) ?_
        exact k_iret dX1_isTooMuch_74 hE (bp_f (by simp_all)).symm rfl
  · refine k_iload_n X 2 dX1_isTooMuch_7 rfl rfl ?_
    refine k_sipush X 300 dX1_isTooMuch_8 (by decide) ?_
    refine k_icmp_ge (tgt := 18) X dX1_isTooMuch_11 (by decide) (fun c11 => ?_) (fun c11 => ?_)
    · refine k_iconst X 0 dX1_isTooMuch_18 (by decide) ?_
      refine k_istore_n (L' := [(3, .int 0), (0, .ref (ad E 11 c)), (1, .int (nI b)), (2, .int x)]) X dX1_isTooMuch_19 rfl (by decide) rfl ?_
      refine k_aload_n X 1 dX1_isTooMuch_20 rfl rfl ?_
      refine gt_X1_18 X hc dX1_isTooMuch_21 ?_
      refine k_iload_n X 2 dX1_isTooMuch_24 rfl rfl ?_
      refine k_iald (a := 14) (j := b) X rfl hc rfl hb (by decide) dX1_isTooMuch_25 ?_
      refine k_sipush X 487 dX1_isTooMuch_26 (by decide) ?_
      refine k_icmp_eq (tgt := 44) X dX1_isTooMuch_29 (by decide) (fun c29 => ?_) (fun c29 => ?_)
      · refine k_iconst X 1 dX1_isTooMuch_44 (by decide) ?_
        refine k_goto (tgt := 49) X dX1_isTooMuch_45 (by decide) ?_
        refine k_istore (L' := [(4, .int 1), (3, .int 0), (0, .ref (ad E 11 c)), (1, .int (nI b)), (2, .int x)]) X dX1_isTooMuch_49 (by decide) rfl ?_
        refine k_iload_n X 1 dX1_isTooMuch_51 rfl rfl ?_
        refine k_if_eq_t (tgt := 73) X dX1_isTooMuch_52 (by decide) rfl ?_
        refine k_iconst X 0 dX1_isTooMuch_73 (by decide) ?_
        exact k_iret dX1_isTooMuch_74 hE (bp_f (by simp_all)).symm rfl
      · refine k_aload_n X 1 dX1_isTooMuch_32 rfl rfl ?_
        refine gt_X1_18 X hc dX1_isTooMuch_33 ?_
        refine k_iload_n X 2 dX1_isTooMuch_36 rfl rfl ?_
        refine k_iald (a := 14) (j := b) X rfl hc rfl hb (by decide) dX1_isTooMuch_37 ?_
        refine k_sipush X 408 dX1_isTooMuch_38 (by decide) ?_
        refine k_icmp_ne (tgt := 48) X dX1_isTooMuch_41 (by decide) (fun c41 => ?_) (fun c41 => ?_)
        · refine k_iconst X 0 dX1_isTooMuch_48 (by decide) ?_
          refine k_istore (L' := [(4, .int 0), (3, .int 0), (0, .ref (ad E 11 c)), (1, .int (nI b)), (2, .int x)]) X dX1_isTooMuch_49 (by decide) rfl ?_
          refine k_iload_n X 1 dX1_isTooMuch_51 rfl rfl ?_
          refine k_if_eq_t (tgt := 73) X dX1_isTooMuch_52 (by decide) rfl ?_
          refine k_iconst X 0 dX1_isTooMuch_73 (by decide) ?_
          exact k_iret dX1_isTooMuch_74 hE (bp_f (by simp_all)).symm rfl
        · refine k_iconst X 1 dX1_isTooMuch_44 (by decide) ?_
          refine k_goto (tgt := 49) X dX1_isTooMuch_45 (by decide) ?_
          refine k_istore (L' := [(4, .int 1), (3, .int 0), (0, .ref (ad E 11 c)), (1, .int (nI b)), (2, .int x)]) X dX1_isTooMuch_49 (by decide) rfl ?_
          refine k_iload_n X 1 dX1_isTooMuch_51 rfl rfl ?_
          refine k_if_eq_t (tgt := 73) X dX1_isTooMuch_52 (by decide) rfl ?_
          refine k_iconst X 0 dX1_isTooMuch_73 (by decide) ?_
          exact k_iret dX1_isTooMuch_74 hE (bp_f (by simp_all)).symm rfl
    · refine k_iconst X 1 dX1_isTooMuch_14 (by decide) ?_
      refine k_goto (tgt := 19) X dX1_isTooMuch_15 (by decide) ?_
      refine k_istore_n (L' := [(3, .int 1), (0, .ref (ad E 11 c)), (1, .int (nI b)), (2, .int x)]) X dX1_isTooMuch_19 rfl (by decide) rfl ?_
      refine k_aload_n X 1 dX1_isTooMuch_20 rfl rfl ?_
      refine gt_X1_18 X hc dX1_isTooMuch_21 ?_
      refine k_iload_n X 2 dX1_isTooMuch_24 rfl rfl ?_
      refine k_iald (a := 14) (j := b) X rfl hc rfl hb (by decide) dX1_isTooMuch_25 ?_
      refine k_sipush X 487 dX1_isTooMuch_26 (by decide) ?_
      refine k_icmp_eq (tgt := 44) X dX1_isTooMuch_29 (by decide) (fun c29 => ?_) (fun c29 => ?_)
      · refine k_iconst X 1 dX1_isTooMuch_44 (by decide) ?_
        refine k_goto (tgt := 49) X dX1_isTooMuch_45 (by decide) ?_
        refine k_istore (L' := [(4, .int 1), (3, .int 1), (0, .ref (ad E 11 c)), (1, .int (nI b)), (2, .int x)]) X dX1_isTooMuch_49 (by decide) rfl ?_
        refine k_iload_n X 1 dX1_isTooMuch_51 rfl rfl ?_
        refine k_if_eq_f (tgt := 73) X dX1_isTooMuch_52 (by decide) (by decide) ?_
        refine k_iload X 0 dX1_isTooMuch_55 rfl ?_
        refine k_if_eq_f (tgt := 73) X dX1_isTooMuch_57 (by decide) (by decide) ?_
        refine k_aload_n X 2 dX1_isTooMuch_60 rfl rfl ?_
        refine gt_X1_21 X hc dX1_isTooMuch_61 ?_
        refine k_iload_n X 3 dX1_isTooMuch_64 rfl rfl ?_
        refine k_zald (a := 15) (j := b) X rfl hc rfl hb (by decide) dX1_isTooMuch_65 ?_
        refine k_if_ne (tgt := 73) X dX1_isTooMuch_66 (by decide) (fun c66 => ?_) (fun c66 => ?_)
        · refine k_iconst X 0 dX1_isTooMuch_73 (by decide) ?_
          exact k_iret dX1_isTooMuch_74 hE (bp_f (by simp_all)).symm rfl
        · refine k_iconst X 1 dX1_isTooMuch_69 (by decide) ?_
          refine k_goto (tgt := 74) X dX1_isTooMuch_70 (by decide) ?_
          exact k_iret dX1_isTooMuch_74 hE (bp_t (by simp_all)).symm rfl
      · refine k_aload_n X 1 dX1_isTooMuch_32 rfl rfl ?_
        refine gt_X1_18 X hc dX1_isTooMuch_33 ?_
        refine k_iload_n X 2 dX1_isTooMuch_36 rfl rfl ?_
        refine k_iald (a := 14) (j := b) X rfl hc rfl hb (by decide) dX1_isTooMuch_37 ?_
        refine k_sipush X 408 dX1_isTooMuch_38 (by decide) ?_
        refine k_icmp_ne (tgt := 48) X dX1_isTooMuch_41 (by decide) (fun c41 => ?_) (fun c41 => ?_)
        · refine k_iconst X 0 dX1_isTooMuch_48 (by decide) ?_
          refine k_istore (L' := [(4, .int 0), (3, .int 1), (0, .ref (ad E 11 c)), (1, .int (nI b)), (2, .int x)]) X dX1_isTooMuch_49 (by decide) rfl ?_
          refine k_iload_n X 1 dX1_isTooMuch_51 rfl rfl ?_
          refine k_if_eq_f (tgt := 73) X dX1_isTooMuch_52 (by decide) (by decide) ?_
          refine k_iload X 0 dX1_isTooMuch_55 rfl ?_
          refine k_if_eq_t (tgt := 73) X dX1_isTooMuch_57 (by decide) rfl ?_
          refine k_iconst X 0 dX1_isTooMuch_73 (by decide) ?_
          exact k_iret dX1_isTooMuch_74 hE (bp_f (by simp_all)).symm rfl
        · refine k_iconst X 1 dX1_isTooMuch_44 (by decide) ?_
          refine k_goto (tgt := 49) X dX1_isTooMuch_45 (by decide) ?_
          refine k_istore (L' := [(4, .int 1), (3, .int 1), (0, .ref (ad E 11 c)), (1, .int (nI b)), (2, .int x)]) X dX1_isTooMuch_49 (by decide) rfl ?_
          refine k_iload_n X 1 dX1_isTooMuch_51 rfl rfl ?_
          refine k_if_eq_f (tgt := 73) X dX1_isTooMuch_52 (by decide) (by decide) ?_
          refine k_iload X 0 dX1_isTooMuch_55 rfl ?_
          refine k_if_eq_f (tgt := 73) X dX1_isTooMuch_57 (by decide) (by decide) ?_
          refine k_aload_n X 2 dX1_isTooMuch_60 rfl rfl ?_
          refine gt_X1_21 X hc dX1_isTooMuch_61 ?_
          refine k_iload_n X 3 dX1_isTooMuch_64 rfl rfl ?_
          refine k_zald (a := 15) (j := b) X rfl hc rfl hb (by decide) dX1_isTooMuch_65 ?_
          refine k_if_ne (tgt := 73) X dX1_isTooMuch_66 (by decide) (fun c66 => ?_) (fun c66 => ?_)
          · refine k_iconst X 0 dX1_isTooMuch_73 (by decide) ?_
            exact k_iret dX1_isTooMuch_74 hE (bp_f (by simp_all)).symm rfl
          · refine k_iconst X 1 dX1_isTooMuch_69 (by decide) ?_
            refine k_goto (tgt := 74) X dX1_isTooMuch_70 (by decide) ?_
            exact k_iret dX1_isTooMuch_74 hE (bp_t (by simp_all)).symm rfl

set_option maxHeartbeats 4000000 in
set_option maxRecDepth 100000 in
theorem L_X1_branchOf {E : EE} {μ : Mem} {C : Ctx} (c n : Nat) (hc : c < 20) (hn : μ 11 c 4 = nI n) (hn12 : n ≤ 12) (x : Int32) (X : Cx E C cX1_branchOf RX1 3 (rm 1 0)) (hE : EndI E C cX1_branchOf 0 0 (frI (fun b => decide (μ 12 c b = x)) n) μ) : ∀ (f : Nat) (i : Nat), n - i < f → i ≤ n → (∀ j, j < i → decide (μ 12 c j = x) = false) → KF E C 0 0 μ 2 [(2, .int (nI i)), (0, .ref (ad E 11 c)), (1, .int x)] [] := by
  intro f
  induction f with
  | zero => intros; omega
  | succ f ih =>
    intro i hf hi hno
    refine k_iload_n X 0 dX1_branchOf_2 rfl rfl ?_
    refine k_aload_n X 1 dX1_branchOf_3 rfl rfl ?_
    refine gt_X1_25 X hc dX1_branchOf_4 ?_
    refine k_val (y := nI n) hn ?_
    refine k_ge_n (a := i) (b := n) (tgt := 28) X dX1_branchOf_7 (by decide) rfl rfl (by omega) (by omega) (fun c7 => ?_) (fun c7 => ?_)
    · refine k_iconst X (-1) dX1_branchOf_28 (by decide) ?_
      exact k_iret dX1_branchOf_29 hE (frI_no (fun j hj => hno j (by omega))).symm rfl
    · refine k_aload_n X 1 dX1_branchOf_10 rfl rfl ?_
      refine gt_X1_9 X hc dX1_branchOf_11 ?_
      refine k_iload_n X 0 dX1_branchOf_14 rfl rfl ?_
      refine k_iald (a := 12) (j := i) X rfl hc rfl (show i < 12 by omega) (by decide) dX1_branchOf_15 ?_
      refine k_iload_n X 2 dX1_branchOf_16 rfl rfl ?_
      refine k_icmp_ne (tgt := 22) X dX1_branchOf_17 (by decide) (fun c17 => ?_) (fun c17 => ?_)
      · refine k_iinc (v := nI (i + 1)) (L' := [(2, .int (nI (i + 1))), (0, .ref (ad E 11 c)), (1, .int x)]) X 0 dX1_branchOf_22 rfl (nI_1 i) (by decide) rfl ?_
        refine k_goto (tgt := 2) X dX1_branchOf_25 (by decide) ?_
        exact ih (i + 1) (by omega) (by omega) (fun j hj => if e : j = i then e ▸ decide_eq_false c17 else hno j (by omega))
      · refine k_iload_n X 0 dX1_branchOf_20 rfl rfl ?_
        exact k_iret dX1_branchOf_21 hE (frI_at (decide_eq_true c17) hno (by omega)).symm rfl

set_option maxHeartbeats 4000000 in
set_option maxRecDepth 100000 in
theorem C_X1_branchOf {E : EE} {μ : Mem} (c n : Nat) (hc : c < 20) (hn : μ 11 c 4 = nI n) (hn12 : n ≤ 12) (x : Int32) : MM E yX1_branchOf cX1_branchOf 3 (some .int) (rm 1 0) [.ref (ad E 11 c), .int x] μ (some (.int (frI (fun b => decide (μ 12 c b = x)) n))) μ := by
  refine MM.int (own := RX1) [(0, .ref (ad E 11 c)), (1, .int x)] rfl rfl rfl (Nat.le_of_ble_eq_true rfl) rfl (fun C X hE => ?_)
  refine k_iconst X (nI 0) dX1_branchOf_0 (by decide) ?_
  refine k_istore_n (L' := [(2, .int (nI 0)), (0, .ref (ad E 11 c)), (1, .int x)]) X dX1_branchOf_1 rfl (by decide) rfl ?_
  exact L_X1_branchOf c n hc hn hn12 x X hE (n + 1) 0 (by omega) (Nat.zero_le n) (fun j hj => absurd hj (Nat.not_lt_zero j))

set_option maxHeartbeats 4000000 in
set_option maxRecDepth 100000 in
theorem C_X1_add {E : EE} {μ : Mem} (c n : Nat) (hc : c < 20) (hn : μ 11 c 4 = nI n) (hn12 : n ≤ 12) (x y z : Int32) : MM E yX1_add cX1_add 4 none (rm 1 0) [.ref (ad E 11 c), .int x, .int y, .int z] μ none (addM μ c n x y z) := by
  refine MM.void (own := RX1) [(0, .ref (ad E 11 c)), (1, .int x), (2, .int y), (3, .int z)] rfl rfl rfl (Nat.le_of_ble_eq_true rfl) (fun C X hE => ?_)
  refine k_aload_n X 0 dX1_add_0 rfl rfl ?_
  refine gt_X1_25 X hc dX1_add_1 ?_
  refine k_val (y := nI n) hn ?_
  refine k_bipush X 12 dX1_add_4 (by decide) ?_
  refine k_ge_n (a := n) (b := 12) (tgt := 49) X dX1_add_6 (by decide) rfl rfl (by omega) (by decide) (fun c6 => ?_) (fun c6 => ?_)
  · exact k_vret dX1_add_49 hE (if_neg (by omega)).symm
  · refine k_aload_n X 0 dX1_add_9 rfl rfl ?_
    refine gt_X1_9 X hc dX1_add_10 ?_
    refine k_aload_n X 0 dX1_add_13 rfl rfl ?_
    refine gt_X1_25 X hc dX1_add_14 ?_
    refine k_val (y := nI n) hn ?_
    refine k_iload_n X 1 dX1_add_17 rfl rfl ?_
    refine k_iast (a := 12) (j := n) X rfl hc rfl c6 (by decide) dX1_add_18 ?_
    refine k_aload_n X 0 dX1_add_19 rfl rfl ?_
    refine gt_X1_15 X hc dX1_add_20 ?_
    refine k_aload_n X 0 dX1_add_23 rfl rfl ?_
    refine gt_X1_25 X hc dX1_add_24 ?_
    refine k_val (y := nI n) (by simp [st, up, sgM, sg1, eoM, rgM, hn]) ?_
    refine k_iload_n X 2 dX1_add_27 rfl rfl ?_
    refine k_iast (a := 13) (j := n) X rfl hc rfl c6 (by decide) dX1_add_28 ?_
    refine k_aload_n X 0 dX1_add_29 rfl rfl ?_
    refine gt_X1_18 X hc dX1_add_30 ?_
    refine k_aload_n X 0 dX1_add_33 rfl rfl ?_
    refine gt_X1_25 X hc dX1_add_34 ?_
    refine k_val (y := nI n) (by simp [st, up, sgM, sg1, eoM, rgM, hn]) ?_
    refine k_iload_n X 3 dX1_add_37 rfl rfl ?_
    refine k_iast (a := 14) (j := n) X rfl hc rfl c6 (by decide) dX1_add_38 ?_
    refine k_aload_n X 0 dX1_add_39 rfl rfl ?_
    refine k_dup X dX1_add_40 rfl ?_
    refine gt_X1_25 X hc dX1_add_41 ?_
    refine k_val (y := nI n) (by simp [st, up, sgM, sg1, eoM, rgM, hn]) ?_
    refine k_iconst X 1 dX1_add_44 (by decide) ?_
    refine k_iadd X dX1_add_45 ?_
    refine k_val (y := nI (n + 1)) (nI_1 n) ?_
    refine pt_X1_25 X hc dX1_add_46 ?_
    exact k_vret dX1_add_49 hE (if_pos c6).symm

set_option maxHeartbeats 4000000 in
set_option maxRecDepth 100000 in
theorem C_X1_addDevice {E : EE} {μ : Mem} (c n : Nat) (hc : c < 20) (hn : μ 11 c 4 = nI n) (hn12 : n ≤ 12) (x y : Int32) : MM E yX1_addDevice cX1_addDevice 3 none (rm 2 0) [.ref (ad E 11 c), .int x, .int y] μ none (if frI (fun b => decide (μ 12 c b = x)) n = -1 then addM μ c n x y 0 else μ) := by
  refine MM.void (own := RX1) [(0, .ref (ad E 11 c)), (1, .int x), (2, .int y)] rfl rfl rfl (Nat.le_of_ble_eq_true rfl) (fun C X hE => ?_)
  refine k_aload_n X 0 dX1_addDevice_0 rfl rfl ?_
  refine k_iload_n X 1 dX1_addDevice_1 rfl rfl ?_
  refine k_callV (a := 11) (o := c) (As := [.int x]) (S := []) X lk_X1_45 rfl hc rfl (C_X1_branchOf c n hc hn hn12 _) rfl rfl (Nat.le_of_ble_eq_true rfl) ⟨Nat.le_of_ble_eq_true rfl, Nat.le_of_ble_eq_true rfl⟩ ⟨Nat.le_of_ble_eq_true rfl, Nat.le_of_ble_eq_true rfl⟩ dX1_addDevice_2 ?_
  show KF E C 0 0 μ 5 _ [.int (frI (fun b => decide (μ 12 c b = x)) n)]
  refine k_iconst X (-1) dX1_addDevice_5 (by decide) ?_
  refine k_icmp_ne (tgt := 16) X dX1_addDevice_6 (by decide) (fun c6 => ?_) (fun c6 => ?_)
  · exact k_vret dX1_addDevice_16 hE (if_neg c6).symm
  · refine k_aload_n X 0 dX1_addDevice_9 rfl rfl ?_
    refine k_iload_n X 1 dX1_addDevice_10 rfl rfl ?_
    refine k_iload_n X 2 dX1_addDevice_11 rfl rfl ?_
    refine k_iconst X 0 dX1_addDevice_12 (by decide) ?_
    refine k_callV (a := 11) (o := c) (As := [.int x, .int y, .int 0]) (S := []) X lk_X1_49 rfl hc rfl (C_X1_add c n hc hn hn12 _ _ _) rfl rfl (Nat.le_of_ble_eq_true rfl) ⟨Nat.le_of_ble_eq_true rfl, Nat.le_of_ble_eq_true rfl⟩ ⟨Nat.le_of_ble_eq_true rfl, Nat.le_of_ble_eq_true rfl⟩ dX1_addDevice_13 ?_
    show KF E C 0 0 (addM μ c n x y 0) 16 _ []
    exact k_vret dX1_addDevice_16 hE (if_pos c6).symm

set_option maxHeartbeats 4000000 in
set_option maxRecDepth 100000 in
theorem C_X1_addEnded {E : EE} {μ : Mem} (c n : Nat) (hc : c < 20) (hn : μ 11 c 4 = nI n) (hn12 : n ≤ 12) (x y : Int32) : MM E yX1_addEnded cX1_addEnded 3 none (rm 2 0) [.ref (ad E 11 c), .int x, .int y] μ none (addM μ c n (-1) x y) := by
  refine MM.void (own := RX1) [(0, .ref (ad E 11 c)), (1, .int x), (2, .int y)] rfl rfl rfl (Nat.le_of_ble_eq_true rfl) (fun C X hE => ?_)
  refine k_aload_n X 0 dX1_addEnded_0 rfl rfl ?_
  refine k_iconst X (-1) dX1_addEnded_1 (by decide) ?_
  refine k_iload_n X 1 dX1_addEnded_2 rfl rfl ?_
  refine k_iload_n X 2 dX1_addEnded_3 rfl rfl ?_
  refine k_callV (a := 11) (o := c) (As := [.int (-1), .int x, .int y]) (S := []) X lk_X1_49 rfl hc rfl (C_X1_add c n hc hn hn12 _ _ _) rfl rfl (Nat.le_of_ble_eq_true rfl) ⟨Nat.le_of_ble_eq_true rfl, Nat.le_of_ble_eq_true rfl⟩ ⟨Nat.le_of_ble_eq_true rfl, Nat.le_of_ble_eq_true rfl⟩ dX1_addEnded_4 ?_
  show KF E C 0 0 (addM μ c n (-1) x y) 7 _ []
  exact k_vret dX1_addEnded_7 hE rfl

set_option maxHeartbeats 4000000 in
set_option maxRecDepth 100000 in
theorem L_X1_isWaiting {E : EE} {μ : Mem} {C : Ctx} (c n : Nat) (hc : c < 20) (hn : μ 11 c 4 = nI n) (hn12 : n ≤ 12) (X : Cx E C cX1_isWaiting RX1 2 (rm 2 0)) (hE : EndI E C cX1_isWaiting 0 0 (bp (anB (wtP μ c) n = true)) μ) : ∀ (f : Nat) (i : Nat), n - i < f → i ≤ n → (∀ j, j < i → wtP μ c j = false) → KF E C 0 0 μ 2 [(1, .int (nI i)), (0, .ref (ad E 11 c))] [] := by
  intro f
  induction f with
  | zero => intros; omega
  | succ f ih =>
    intro i hf hi hno
    refine k_iload_n X 0 dX1_isWaiting_2 rfl rfl ?_
    refine k_aload_n X 1 dX1_isWaiting_3 rfl rfl ?_
    refine gt_X1_25 X hc dX1_isWaiting_4 ?_
    refine k_val (y := nI n) hn ?_
    refine k_ge_n (a := i) (b := n) (tgt := 34) X dX1_isWaiting_7 (by decide) rfl rfl (by omega) (by omega) (fun c7 => ?_) (fun c7 => ?_)
    · refine k_iconst X 0 dX1_isWaiting_34 (by decide) ?_
      exact k_iret dX1_isWaiting_35 hE (bp_f (by rw [anB_no (fun j hj => hno j (by omega))]; decide)).symm rfl
    · refine k_aload_n X 1 dX1_isWaiting_10 rfl rfl ?_
      refine k_iload_n X 0 dX1_isWaiting_11 rfl rfl ?_
      refine k_callV (a := 11) (o := c) (As := [.int (nI i)]) (S := []) X lk_X1_69 rfl hc rfl (C_X1_isStarted c i hc (by omega)) rfl rfl (Nat.le_of_ble_eq_true rfl) ⟨Nat.le_of_ble_eq_true rfl, Nat.le_of_ble_eq_true rfl⟩ ⟨Nat.le_of_ble_eq_true rfl, Nat.le_of_ble_eq_true rfl⟩ dX1_isWaiting_12 ?_
      show KF E C 0 0 μ 15 _ [.int (bp (μ 11 c 5 ≤ μ 13 c i))]
      refine k_if_eq_p (tgt := 28) X dX1_isWaiting_15 (by decide) (fun c15 => ?_) (fun c15 => ?_)
      · refine k_iinc (v := nI (i + 1)) (L' := [(1, .int (nI (i + 1))), (0, .ref (ad E 11 c))]) X 0 dX1_isWaiting_28 rfl (nI_1 i) (by decide) rfl ?_
        refine k_goto (tgt := 2) X dX1_isWaiting_31 (by decide) ?_
        exact ih (i + 1) (by omega) (by omega) (fun j hj => if e : j = i then e ▸ (by unfold wtP; rw [decide_eq_false c15]; rfl) else hno j (by omega))
      · refine k_aload_n X 1 dX1_isWaiting_18 rfl rfl ?_
        refine k_iload_n X 0 dX1_isWaiting_19 rfl rfl ?_
        refine k_callV (a := 11) (o := c) (As := [.int (nI i)]) (S := []) X lk_X1_73 rfl hc rfl (C_X1_isEnded c i hc (by omega)) rfl rfl (Nat.le_of_ble_eq_true rfl) ⟨Nat.le_of_ble_eq_true rfl, Nat.le_of_ble_eq_true rfl⟩ ⟨Nat.le_of_ble_eq_true rfl, Nat.le_of_ble_eq_true rfl⟩ dX1_isWaiting_20 ?_
        show KF E C 0 0 μ 23 _ [.int (bp (200 ≤ μ 14 c i))]
        refine k_if_ne_p (tgt := 28) X dX1_isWaiting_23 (by decide) (fun c23 => ?_) (fun c23 => ?_)
        · refine k_iinc (v := nI (i + 1)) (L' := [(1, .int (nI (i + 1))), (0, .ref (ad E 11 c))]) X 0 dX1_isWaiting_28 rfl (nI_1 i) (by decide) rfl ?_
          refine k_goto (tgt := 2) X dX1_isWaiting_31 (by decide) ?_
          exact ih (i + 1) (by omega) (by omega) (fun j hj => if e : j = i then e ▸ (by unfold wtP; rw [decide_eq_true c23]; simp) else hno j (by omega))
        · refine k_iconst X 1 dX1_isWaiting_26 (by decide) ?_
          exact k_iret dX1_isWaiting_27 hE (bp_t (anB_of (i := i) (by unfold wtP; rw [decide_eq_true c15, decide_eq_false c23]; rfl) (by omega))).symm rfl

set_option maxHeartbeats 4000000 in
set_option maxRecDepth 100000 in
theorem C_X1_isWaiting {E : EE} {μ : Mem} (c n : Nat) (hc : c < 20) (hn : μ 11 c 4 = nI n) (hn12 : n ≤ 12) : MM E yX1_isWaiting cX1_isWaiting 2 (some .boolean) (rm 2 0) [.ref (ad E 11 c)] μ (some (.int (bp (anB (wtP μ c) n = true)))) μ := by
  refine MM.int (own := RX1) [(0, .ref (ad E 11 c))] rfl rfl rfl (Nat.le_of_ble_eq_true rfl) bp_nar (fun C X hE => ?_)
  refine k_iconst X (nI 0) dX1_isWaiting_0 (by decide) ?_
  refine k_istore_n (L' := [(1, .int (nI 0)), (0, .ref (ad E 11 c))]) X dX1_isWaiting_1 rfl (by decide) rfl ?_
  exact L_X1_isWaiting c n hc hn hn12 X hE (n + 1) 0 (by omega) (Nat.zero_le n) (fun j hj => absurd hj (Nat.not_lt_zero j))

set_option maxHeartbeats 4000000 in
set_option maxRecDepth 100000 in
theorem L_X1_startGroup {E : EE} {μ : Mem} {C : Ctx} (c n : Nat) (hc : c < 20) (hn : μ 11 c 4 = nI n) (hn12 : n ≤ 12) (q now : Int32) (X : Cx E C cX1_startGroup RX1 4 (rm 2 0)) (hE : EndV E C cX1_startGroup 0 0 (sg1 μ c n q)) : ∀ (f : Nat) (i : Nat), n - i < f → i ≤ n → KF E C 0 0 (up μ 14 c 0 i (fun b => if μ 13 c b = q ∧ ¬ 200 ≤ μ 14 c b then 100 else μ 14 c b)) 12 [(3, .int (nI i)), (0, .ref (ad E 11 c)), (1, .int q), (2, .int now)] [] := by
  intro f
  induction f with
  | zero => intros; omega
  | succ f ih =>
    intro i hf hi
    refine k_iload_n X 0 dX1_startGroup_12 rfl rfl ?_
    refine k_aload_n X 1 dX1_startGroup_13 rfl rfl ?_
    refine gt_X1_25 X hc dX1_startGroup_14 ?_
    refine k_val (y := nI n) (by simp [st, up, sgM, sg1, eoM, rgM, hn]) ?_
    refine k_ge_n (a := i) (b := n) (tgt := 52) X dX1_startGroup_17 (by decide) rfl rfl (by omega) (by omega) (fun c17 => ?_) (fun c17 => ?_)
    · exact k_vret dX1_startGroup_52 hE (by rw [show i = n by omega]; rfl)
    · refine k_aload_n X 1 dX1_startGroup_20 rfl rfl ?_
      refine gt_X1_15 X hc dX1_startGroup_21 ?_
      refine k_iload_n X 0 dX1_startGroup_24 rfl rfl ?_
      refine k_iald (a := 13) (j := i) X rfl hc rfl (show i < 12 by omega) (by decide) dX1_startGroup_25 ?_
      refine k_val (y := μ 13 c i) (up_k (by decide)) ?_
      refine k_iload_n X 2 dX1_startGroup_26 rfl rfl ?_
      refine k_icmp_ne (tgt := 46) X dX1_startGroup_27 (by decide) (fun c27 => ?_) (fun c27 => ?_)
      · refine k_iinc (v := nI (i + 1)) (L' := [(3, .int (nI (i + 1))), (0, .ref (ad E 11 c)), (1, .int q), (2, .int now)]) X 0 dX1_startGroup_46 rfl (nI_1 i) (by decide) rfl ?_
        refine k_goto (tgt := 12) X dX1_startGroup_49 (by decide) ?_
        refine k_mem (μ' := up μ 14 c 0 (i + 1) (fun b => if μ 13 c b = q ∧ ¬ 200 ≤ μ 14 c b then 100 else μ 14 c b)) (up0_no (if_neg (fun h => by simp_all))) ?_
        exact ih (i + 1) (by omega) (by omega)
      · refine k_aload_n X 1 dX1_startGroup_30 rfl rfl ?_
        refine k_iload_n X 0 dX1_startGroup_31 rfl rfl ?_
        refine k_callV (a := 11) (o := c) (As := [.int (nI i)]) (S := []) X lk_X1_73 rfl hc rfl (C_X1_isEnded c i hc (by omega)) rfl rfl (Nat.le_of_ble_eq_true rfl) ⟨Nat.le_of_ble_eq_true rfl, Nat.le_of_ble_eq_true rfl⟩ ⟨Nat.le_of_ble_eq_true rfl, Nat.le_of_ble_eq_true rfl⟩ dX1_startGroup_32 ?_
        show KF E C 0 0 (up μ 14 c 0 i (fun b => if μ 13 c b = q ∧ ¬ 200 ≤ μ 14 c b then 100 else μ 14 c b)) 35 _ [.int (bp (200 ≤ (up μ 14 c 0 i (fun b => if μ 13 c b = q ∧ ¬ 200 ≤ μ 14 c b then 100 else μ 14 c b)) 14 c i))]
        refine k_val (y := bp (200 ≤ μ 14 c i)) (by rw [up0_next]) ?_
        refine k_if_ne_p (tgt := 46) X dX1_startGroup_35 (by decide) (fun c35 => ?_) (fun c35 => ?_)
        · refine k_iinc (v := nI (i + 1)) (L' := [(3, .int (nI (i + 1))), (0, .ref (ad E 11 c)), (1, .int q), (2, .int now)]) X 0 dX1_startGroup_46 rfl (nI_1 i) (by decide) rfl ?_
          refine k_goto (tgt := 12) X dX1_startGroup_49 (by decide) ?_
          refine k_mem (μ' := up μ 14 c 0 (i + 1) (fun b => if μ 13 c b = q ∧ ¬ 200 ≤ μ 14 c b then 100 else μ 14 c b)) (up0_no (if_neg (fun h => by simp_all))) ?_
          exact ih (i + 1) (by omega) (by omega)
        · refine k_aload_n X 1 dX1_startGroup_38 rfl rfl ?_
          refine gt_X1_18 X hc dX1_startGroup_39 ?_
          refine k_iload_n X 0 dX1_startGroup_42 rfl rfl ?_
          refine k_bipush X 100 dX1_startGroup_43 (by decide) ?_
          refine k_iast (a := 14) (j := i) X rfl hc rfl (show i < 12 by omega) (by decide) dX1_startGroup_45 ?_
          refine k_iinc (v := nI (i + 1)) (L' := [(3, .int (nI (i + 1))), (0, .ref (ad E 11 c)), (1, .int q), (2, .int now)]) X 0 dX1_startGroup_46 rfl (nI_1 i) (by decide) rfl ?_
          refine k_goto (tgt := 12) X dX1_startGroup_49 (by decide) ?_
          refine k_mem (μ' := up μ 14 c 0 (i + 1) (fun b => if μ 13 c b = q ∧ ¬ 200 ≤ μ 14 c b then 100 else μ 14 c b)) (up0_st (if_pos ⟨c27, c35⟩).symm) ?_
          exact ih (i + 1) (by omega) (by omega)

set_option maxHeartbeats 4000000 in
set_option maxRecDepth 100000 in
theorem C_X1_startGroup {E : EE} {μ : Mem} (c n : Nat) (hc : c < 20) (hn : μ 11 c 4 = nI n) (hn12 : n ≤ 12) (q now : Int32) : MM E yX1_startGroup cX1_startGroup 4 none (rm 2 0) [.ref (ad E 11 c), .int q, .int now] μ none (sgM μ c n q now) := by
  refine MM.void (own := RX1) [(0, .ref (ad E 11 c)), (1, .int q), (2, .int now)] rfl rfl rfl (Nat.le_of_ble_eq_true rfl) (fun C X hE => ?_)
  refine k_aload_n X 0 dX1_startGroup_0 rfl rfl ?_
  refine k_iload_n X 1 dX1_startGroup_1 rfl rfl ?_
  refine pt_X1_29 X hc dX1_startGroup_2 ?_
  refine k_aload_n X 0 dX1_startGroup_5 rfl rfl ?_
  refine k_iload_n X 2 dX1_startGroup_6 rfl rfl ?_
  refine pt_X1_32 X hc dX1_startGroup_7 ?_
  refine k_iconst X (nI 0) dX1_startGroup_10 (by decide) ?_
  refine k_istore_n (L' := [(3, .int (nI 0)), (0, .ref (ad E 11 c)), (1, .int q), (2, .int now)]) X dX1_startGroup_11 rfl (by decide) rfl ?_
  refine k_mem (μ' := up (st (st μ 11 c 5 q) 11 c 6 now) 14 c 0 0 (fun b => if (st (st μ 11 c 5 q) 11 c 6 now) 13 c b = q ∧ ¬ 200 ≤ (st (st μ 11 c 5 q) 11 c 6 now) 14 c b then 100 else (st (st μ 11 c 5 q) 11 c 6 now) 14 c b)) up_0.symm ?_
  exact L_X1_startGroup c n hc (by simp [st, hn]) hn12 q now X hE (n + 1) 0 (by omega) (Nat.zero_le n)

set_option maxHeartbeats 4000000 in
set_option maxRecDepth 100000 in
theorem L_X1_bestEnd {E : EE} {μ : Mem} {C : Ctx} (c n : Nat) (hc : c < 20) (hn : μ 11 c 4 = nI n) (hn12 : n ≤ 12) (X : Cx E C cX1_bestEnd RX1 5 (rm 2 0)) (hE : EndI E C cX1_bestEnd 0 0 (beI (μ 14 c) n) μ) : ∀ (f : Nat) (i : Nat), n - i < f → i ≤ n → KF E C 0 0 μ 6 [(3, .int (nI i)), (2, .int (beG (μ 14 c) i)), (1, .int (beL (μ 14 c) i)), (0, .ref (ad E 11 c))] [] := by
  intro f
  induction f with
  | zero => intros; omega
  | succ f ih =>
    intro i hf hi
    refine k_iload_n X 0 dX1_bestEnd_6 rfl rfl ?_
    refine k_aload_n X 3 dX1_bestEnd_7 rfl rfl ?_
    refine gt_X1_25 X hc dX1_bestEnd_8 ?_
    refine k_val (y := nI n) hn ?_
    refine k_ge_n (a := i) (b := n) (tgt := 60) X dX1_bestEnd_11 (by decide) rfl rfl (by omega) (by omega) (fun c11 => ?_) (fun c11 => ?_)
    · refine k_iload_n X 1 dX1_bestEnd_60 rfl rfl ?_
      refine k_sipush X 600 dX1_bestEnd_61 (by decide) ?_
      refine k_icmp_lt (tgt := 69) X dX1_bestEnd_64 (by decide) (fun c64 => ?_) (fun c64 => ?_)
      · refine k_iload_n X 2 dX1_bestEnd_69 rfl rfl ?_
        refine k_iconst X (-1) dX1_bestEnd_70 (by decide) ?_
        refine k_icmp_ne (tgt := 80) X dX1_bestEnd_71 (by decide) (fun c71 => ?_) (fun c71 => ?_)
        · refine k_iload_n X 2 dX1_bestEnd_80 rfl rfl ?_
          exact k_iret dX1_bestEnd_81 hE (by have e : i = n := (by omega); subst e; unfold beI; rw [if_neg (Int32.not_le.mpr c64), if_neg c71]) rfl
        · refine k_sipush X 487 dX1_bestEnd_74 (by decide) ?_
          refine k_goto (tgt := 81) X dX1_bestEnd_77 (by decide) ?_
          exact k_iret dX1_bestEnd_81 hE (by have e : i = n := (by omega); subst e; unfold beI; rw [if_neg (Int32.not_le.mpr c64), if_pos c71]) rfl
      · refine k_iload_n X 1 dX1_bestEnd_67 rfl rfl ?_
        exact k_iret dX1_bestEnd_68 hE (by have e : i = n := (by omega); subst e; unfold beI; rw [if_pos (Int32.not_lt.mp c64)]) rfl
    · refine k_aload_n X 3 dX1_bestEnd_14 rfl rfl ?_
      refine gt_X1_18 X hc dX1_bestEnd_15 ?_
      refine k_iload_n X 0 dX1_bestEnd_18 rfl rfl ?_
      refine k_iald (a := 14) (j := i) X rfl hc rfl (show i < 12 by omega) (by decide) dX1_bestEnd_19 ?_
      refine k_istore (L' := [(4, .int (μ 14 c i)), (3, .int (nI i)), (2, .int (beG (μ 14 c) i)), (1, .int (beL (μ 14 c) i)), (0, .ref (ad E 11 c))]) X dX1_bestEnd_20 (by decide) rfl ?_
      refine k_iload X 0 dX1_bestEnd_22 rfl ?_
      refine k_sipush X 487 dX1_bestEnd_24 (by decide) ?_
      refine k_icmp_eq (tgt := 54) X dX1_bestEnd_27 (by decide) (fun c27 => ?_) (fun c27 => ?_)
      · refine k_iinc (v := nI (i + 1)) (L' := [(3, .int (nI (i + 1))), (4, .int (μ 14 c i)), (2, .int (beG (μ 14 c) i)), (1, .int (beL (μ 14 c) i)), (0, .ref (ad E 11 c))]) X 1 dX1_bestEnd_54 rfl (nI_1 i) (by decide) rfl ?_
        refine k_goto (tgt := 6) X dX1_bestEnd_57 (by decide) ?_
        have e1 := beL_0 c27
        have e2 := beG_0 c27
        refine k_pick (L' := [(3, .int (nI (i + 1))), (2, .int (beG (μ 14 c) i)), (1, .int (beL (μ 14 c) i)), (0, .ref (ad E 11 c))]) [0, 2, 3, 4] rfl ?_
        rw [← e1, ← e2]
        exact ih (i + 1) (by omega) (by omega)
      · refine k_iload_n X 3 dX1_bestEnd_30 rfl rfl ?_
        refine k_iconst X (-1) dX1_bestEnd_31 (by decide) ?_
        refine k_icmp_ne (tgt := 40) X dX1_bestEnd_32 (by decide) (fun c32 => ?_) (fun c32 => ?_)
        · refine k_iload_n X 3 dX1_bestEnd_40 rfl rfl ?_
          refine k_iload X 0 dX1_bestEnd_41 rfl ?_
          refine k_mmin X wm_X1_79 dX1_bestEnd_43 ⟨Nat.le_of_ble_eq_true rfl, Nat.le_of_ble_eq_true rfl, Nat.le_of_ble_eq_true rfl, Nat.le_of_ble_eq_true rfl⟩ ?_
          refine k_val (y := beL (μ 14 c) (i + 1)) (by rw [beL_2 c27 c32]) ?_
          refine k_istore_n (L' := [(1, .int (beL (μ 14 c) (i + 1))), (4, .int (μ 14 c i)), (3, .int (nI i)), (2, .int (beG (μ 14 c) i)), (0, .ref (ad E 11 c))]) X dX1_bestEnd_46 rfl (by decide) rfl ?_
          refine k_iload_n X 3 dX1_bestEnd_47 rfl rfl ?_
          refine k_iload X 1 dX1_bestEnd_48 rfl ?_
          refine k_mmax X wm_X1_85 dX1_bestEnd_50 ⟨Nat.le_of_ble_eq_true rfl, Nat.le_of_ble_eq_true rfl, Nat.le_of_ble_eq_true rfl, Nat.le_of_ble_eq_true rfl⟩ ?_
          refine k_val (y := beG (μ 14 c) (i + 1)) (by rw [beG_1 c27]) ?_
          refine k_istore_n (L' := [(2, .int (beG (μ 14 c) (i + 1))), (1, .int (beL (μ 14 c) (i + 1))), (4, .int (μ 14 c i)), (3, .int (nI i)), (0, .ref (ad E 11 c))]) X dX1_bestEnd_53 rfl (by decide) rfl ?_
          refine k_iinc (v := nI (i + 1)) (L' := [(3, .int (nI (i + 1))), (2, .int (beG (μ 14 c) (i + 1))), (1, .int (beL (μ 14 c) (i + 1))), (4, .int (μ 14 c i)), (0, .ref (ad E 11 c))]) X 3 dX1_bestEnd_54 rfl (nI_1 i) (by decide) rfl ?_
          refine k_goto (tgt := 6) X dX1_bestEnd_57 (by decide) ?_
          refine k_pick (L' := [(3, .int (nI (i + 1))), (2, .int (beG (μ 14 c) (i + 1))), (1, .int (beL (μ 14 c) (i + 1))), (0, .ref (ad E 11 c))]) [0, 1, 2, 4] rfl ?_
          exact ih (i + 1) (by omega) (by omega)
        · refine k_iload X 0 dX1_bestEnd_35 rfl ?_
          refine k_goto (tgt := 46) X dX1_bestEnd_37 (by decide) ?_
          refine k_val (y := beL (μ 14 c) (i + 1)) (by rw [beL_1 c27 c32]) ?_
          refine k_istore_n (L' := [(1, .int (beL (μ 14 c) (i + 1))), (4, .int (μ 14 c i)), (3, .int (nI i)), (2, .int (beG (μ 14 c) i)), (0, .ref (ad E 11 c))]) X dX1_bestEnd_46 rfl (by decide) rfl ?_
          refine k_iload_n X 3 dX1_bestEnd_47 rfl rfl ?_
          refine k_iload X 1 dX1_bestEnd_48 rfl ?_
          refine k_mmax X wm_X1_85 dX1_bestEnd_50 ⟨Nat.le_of_ble_eq_true rfl, Nat.le_of_ble_eq_true rfl, Nat.le_of_ble_eq_true rfl, Nat.le_of_ble_eq_true rfl⟩ ?_
          refine k_val (y := beG (μ 14 c) (i + 1)) (by rw [beG_1 c27]) ?_
          refine k_istore_n (L' := [(2, .int (beG (μ 14 c) (i + 1))), (1, .int (beL (μ 14 c) (i + 1))), (4, .int (μ 14 c i)), (3, .int (nI i)), (0, .ref (ad E 11 c))]) X dX1_bestEnd_53 rfl (by decide) rfl ?_
          refine k_iinc (v := nI (i + 1)) (L' := [(3, .int (nI (i + 1))), (2, .int (beG (μ 14 c) (i + 1))), (1, .int (beL (μ 14 c) (i + 1))), (4, .int (μ 14 c i)), (0, .ref (ad E 11 c))]) X 3 dX1_bestEnd_54 rfl (nI_1 i) (by decide) rfl ?_
          refine k_goto (tgt := 6) X dX1_bestEnd_57 (by decide) ?_
          refine k_pick (L' := [(3, .int (nI (i + 1))), (2, .int (beG (μ 14 c) (i + 1))), (1, .int (beL (μ 14 c) (i + 1))), (0, .ref (ad E 11 c))]) [0, 1, 2, 4] rfl ?_
          exact ih (i + 1) (by omega) (by omega)

set_option maxHeartbeats 4000000 in
set_option maxRecDepth 100000 in
theorem C_X1_bestEnd {E : EE} {μ : Mem} (c n : Nat) (hc : c < 20) (hn : μ 11 c 4 = nI n) (hn12 : n ≤ 12) : MM E yX1_bestEnd cX1_bestEnd 5 (some .int) (rm 2 0) [.ref (ad E 11 c)] μ (some (.int (beI (μ 14 c) n))) μ := by
  refine MM.int (own := RX1) [(0, .ref (ad E 11 c))] rfl rfl rfl (Nat.le_of_ble_eq_true rfl) rfl (fun C X hE => ?_)
  refine k_iconst X (-1) dX1_bestEnd_0 (by decide) ?_
  refine k_istore_n (L' := [(1, .int (-1)), (0, .ref (ad E 11 c))]) X dX1_bestEnd_1 rfl (by decide) rfl ?_
  refine k_iconst X (-1) dX1_bestEnd_2 (by decide) ?_
  refine k_istore_n (L' := [(2, .int (-1)), (1, .int (-1)), (0, .ref (ad E 11 c))]) X dX1_bestEnd_3 rfl (by decide) rfl ?_
  refine k_iconst X (nI 0) dX1_bestEnd_4 (by decide) ?_
  refine k_istore_n (L' := [(3, .int (nI 0)), (2, .int (-1)), (1, .int (-1)), (0, .ref (ad E 11 c))]) X dX1_bestEnd_5 rfl (by decide) rfl ?_
  exact L_X1_bestEnd c n hc hn hn12 X hE (n + 1) 0 (by omega) (Nat.zero_le n)
end
section
set_option maxHeartbeats 4000000 in
set_option maxRecDepth 100000 in
theorem L_X1_goOn {E : EE} {C : Ctx} (c n : Nat) (hc : c < 20) (hn12 : n ≤ 12) (now : Int32) (X : Cx E C cX1_goOn RX1 3 (rm 3 0)) : ∀ (j : Nat) (μ : Mem) (x : Int32), j ≤ 11 → x = nI j - 1 → μ 11 c 4 = nI n → EndV E C cX1_goOn 0 0 (gfM (goM c n now j μ) c n) → KF E C 0 0 μ 7 [(2, .int x), (0, .ref (ad E 11 c)), (1, .int now)] [] := by
  intro j
  induction j with
  | zero =>
    intro μ x hj hx hn hE
    obtain rfl : x = -1 := by rw [hx]; decide
    refine k_iload_n X 0 dX1_goOn_7 rfl rfl ?_
    refine k_if_lt_t (tgt := 30) X dX1_goOn_8 (by decide) (by decide) ?_
    refine k_aload_n X 1 dX1_goOn_30 rfl rfl ?_
    refine k_callV (a := 11) (o := c) (As := []) (S := []) X lk_X1_57 rfl hc rfl (C_X1_isWaiting c n hc hn hn12) rfl rfl (Nat.le_of_ble_eq_true rfl) ⟨Nat.le_of_ble_eq_true rfl, Nat.le_of_ble_eq_true rfl⟩ ⟨Nat.le_of_ble_eq_true rfl, Nat.le_of_ble_eq_true rfl⟩ dX1_goOn_31 ?_
    show KF E C 0 0 μ 34 _ [.int (bp (anB (wtP μ c) n = true))]
    refine k_if_ne_p (tgt := 45) X dX1_goOn_34 (by decide) (fun c34 => ?_) (fun c34 => ?_)
    · exact k_vret dX1_goOn_45 hE (if_pos c34).symm
    · refine k_aload_n X 1 dX1_goOn_37 rfl rfl ?_
      refine k_aload_n X 1 dX1_goOn_38 rfl rfl ?_
      refine k_callV (a := 11) (o := c) (As := []) (S := [.ref (ad E 11 c)]) X lk_X1_65 rfl hc rfl (C_X1_bestEnd c n hc hn hn12) rfl rfl (Nat.le_of_ble_eq_true rfl) ⟨Nat.le_of_ble_eq_true rfl, Nat.le_of_ble_eq_true rfl⟩ ⟨Nat.le_of_ble_eq_true rfl, Nat.le_of_ble_eq_true rfl⟩ dX1_goOn_39 ?_
      show KF E C 0 0 μ 42 _ [.int (beI (μ 14 c) n), .ref (ad E 11 c)]
      refine pt_X1_38 X hc dX1_goOn_42 ?_
      exact k_vret dX1_goOn_45 hE (if_neg c34).symm
  | succ j ih =>
    intro μ x hj hx hn hE
    obtain rfl : x = nI j := by rw [hx]; exact nI_pred j
    refine k_iload_n X 0 dX1_goOn_7 rfl rfl ?_
    refine k_if_lt_f (tgt := 30) X dX1_goOn_8 (by decide) (nI_pos (by omega)) ?_
    refine k_aload_n X 1 dX1_goOn_11 rfl rfl ?_
    refine k_callV (a := 11) (o := c) (As := []) (S := []) X lk_X1_57 rfl hc rfl (C_X1_isWaiting c n hc hn hn12) rfl rfl (Nat.le_of_ble_eq_true rfl) ⟨Nat.le_of_ble_eq_true rfl, Nat.le_of_ble_eq_true rfl⟩ ⟨Nat.le_of_ble_eq_true rfl, Nat.le_of_ble_eq_true rfl⟩ dX1_goOn_12 ?_
    show KF E C 0 0 μ 15 _ [.int (bp (anB (wtP μ c) n = true))]
    refine k_if_ne_p (tgt := 30) X dX1_goOn_15 (by decide) (fun c15 => ?_) (fun c15 => ?_)
    · refine k_aload_n X 1 dX1_goOn_30 rfl rfl ?_
      refine k_callV (a := 11) (o := c) (As := []) (S := []) X lk_X1_57 rfl hc rfl (C_X1_isWaiting c n hc hn hn12) rfl rfl (Nat.le_of_ble_eq_true rfl) ⟨Nat.le_of_ble_eq_true rfl, Nat.le_of_ble_eq_true rfl⟩ ⟨Nat.le_of_ble_eq_true rfl, Nat.le_of_ble_eq_true rfl⟩ dX1_goOn_31 ?_
      show KF E C 0 0 μ 34 _ [.int (bp (anB (wtP μ c) n = true))]
      refine k_if_ne_t (tgt := 45) X dX1_goOn_34 (by decide) (by rw [bp_t c15]; decide) ?_
      exact k_vret dX1_goOn_45 hE (by rw [goM_w c15]; exact (if_pos c15).symm)
    · refine k_aload_n X 1 dX1_goOn_18 rfl rfl ?_
      refine k_iload_n X 0 dX1_goOn_19 rfl rfl ?_
      refine k_iload_n X 2 dX1_goOn_20 rfl rfl ?_
      refine k_callV (a := 11) (o := c) (As := [.int (nI j), .int now]) (S := []) X lk_X1_61 rfl hc rfl (C_X1_startGroup c n hc hn hn12 _ _) rfl rfl (Nat.le_of_ble_eq_true rfl) ⟨Nat.le_of_ble_eq_true rfl, Nat.le_of_ble_eq_true rfl⟩ ⟨Nat.le_of_ble_eq_true rfl, Nat.le_of_ble_eq_true rfl⟩ dX1_goOn_21 ?_
      show KF E C 0 0 (sgM μ c n (nI j) now) 24 _ []
      refine k_iinc (v := nI j - 1) (L' := [(2, .int (nI j - 1)), (0, .ref (ad E 11 c)), (1, .int now)]) X 0 dX1_goOn_24 rfl (sub1 _) (by decide) rfl ?_
      refine k_goto (tgt := 7) X dX1_goOn_27 (by decide) ?_
      exact ih (sgM μ c n (nI j) now) _ (by omega) rfl (by rw [sgM_n]; exact hn) (by rw [← goM_n c15]; exact hE)

set_option maxHeartbeats 4000000 in
set_option maxRecDepth 100000 in
theorem C_X1_goOn {E : EE} {μ : Mem} (c n : Nat) (hc : c < 20) (hn : μ 11 c 4 = nI n) (hn12 : n ≤ 12) (s : Nat) (hs : μ 11 c 5 = nI s) (hs11 : s ≤ 11) (now : Int32) : MM E yX1_goOn cX1_goOn 3 none (rm 3 0) [.ref (ad E 11 c), .int now] μ none (goOnM μ c n s now) := by
  refine MM.void (own := RX1) [(0, .ref (ad E 11 c)), (1, .int now)] rfl rfl rfl (Nat.le_of_ble_eq_true rfl) (fun C X hE => ?_)
  refine k_aload_n X 0 dX1_goOn_0 rfl rfl ?_
  refine gt_X1_29 X hc dX1_goOn_1 ?_
  refine k_val (y := nI s) hs ?_
  refine k_iconst X 1 dX1_goOn_4 (by decide) ?_
  refine k_isub X dX1_goOn_5 ?_
  refine k_istore_n (L' := [(2, .int ((nI s) - 1)), (0, .ref (ad E 11 c)), (1, .int now)]) X dX1_goOn_6 rfl (by decide) rfl ?_
  exact L_X1_goOn c n hc hn12 now X s μ _ hs11 rfl hn hE

set_option maxHeartbeats 4000000 in
set_option maxRecDepth 100000 in
theorem C_X1_begin {E : EE} {μ : Mem} (c n : Nat) (hc : c < 20) (hn : μ 11 c 4 = nI n) (hn12 : n ≤ 12) (s : Nat) (hs : μ 11 c 5 = nI s) (hs11 : s ≤ 11) (now : Int32) : MM E yX1_begin cX1_begin 2 none (rm 4 0) [.ref (ad E 11 c), .int now] μ none (bgM μ c n s now) := by
  refine MM.void (own := RX1) [(0, .ref (ad E 11 c)), (1, .int now)] rfl rfl rfl (Nat.le_of_ble_eq_true rfl) (fun C X hE => ?_)
  refine k_aload_n X 0 dX1_begin_0 rfl rfl ?_
  refine gt_X1_25 X hc dX1_begin_1 ?_
  refine k_val (y := nI n) hn ?_
  refine k_if_ne (tgt := 17) X dX1_begin_4 (by decide) (fun c4 => ?_) (fun c4 => ?_)
  · refine k_aload_n X 0 dX1_begin_17 rfl rfl ?_
    refine k_iload_n X 1 dX1_begin_18 rfl rfl ?_
    refine k_callV (a := 11) (o := c) (As := [.int now]) (S := []) X lk_X1_53 rfl hc rfl (C_X1_goOn c n hc hn hn12 s hs hs11 _) rfl rfl (Nat.le_of_ble_eq_true rfl) ⟨Nat.le_of_ble_eq_true rfl, Nat.le_of_ble_eq_true rfl⟩ ⟨Nat.le_of_ble_eq_true rfl, Nat.le_of_ble_eq_true rfl⟩ dX1_begin_19 ?_
    show KF E C 0 0 (goOnM μ c n s now) 22 _ []
    exact k_vret dX1_begin_22 hE (if_neg (fun h => c4 ((nI_z (by omega)).mpr h))).symm
  · refine k_aload_n X 0 dX1_begin_7 rfl rfl ?_
    refine k_sipush X 480 dX1_begin_8 (by decide) ?_
    refine pt_X1_38 X hc dX1_begin_11 ?_
    refine k_goto (tgt := 22) X dX1_begin_14 (by decide) ?_
    exact k_vret dX1_begin_22 hE (if_pos ((nI_z (by omega)).mp c4)).symm

set_option maxHeartbeats 4000000 in
set_option maxRecDepth 100000 in
theorem L_X1_endOpen {E : EE} {μ : Mem} {C : Ctx} (c n : Nat) (hc : c < 20) (hn : μ 11 c 4 = nI n) (hn12 : n ≤ 12) (X : Cx E C cX1_endOpen RX1 3 (rm 2 0)) (hE : EndI E C cX1_endOpen 0 0 (nI (eoN μ c n)) (eoM μ c n)) : ∀ (f : Nat) (i : Nat), n - i < f → i ≤ n → KF E C 0 0 (up μ 14 c 0 i (fun b => if 200 ≤ μ 14 c b then μ 14 c b else 487)) 4 [(2, .int (nI i)), (1, .int (nI (ctB (fun b => !decide (200 ≤ μ 14 c b)) i))), (0, .ref (ad E 11 c))] [] := by
  intro f
  induction f with
  | zero => intros; omega
  | succ f ih =>
    intro i hf hi
    refine k_iload_n X 0 dX1_endOpen_4 rfl rfl ?_
    refine k_aload_n X 2 dX1_endOpen_5 rfl rfl ?_
    refine gt_X1_25 X hc dX1_endOpen_6 ?_
    refine k_val (y := nI n) (by simp [st, up, sgM, sg1, eoM, rgM, hn]) ?_
    refine k_ge_n (a := i) (b := n) (tgt := 38) X dX1_endOpen_9 (by decide) rfl rfl (by omega) (by omega) (fun c9 => ?_) (fun c9 => ?_)
    · refine k_iload_n X 1 dX1_endOpen_38 rfl rfl ?_
      exact k_iret dX1_endOpen_39 hE (by rw [show i = n by omega]; rfl) (by rw [show i = n by omega]; rfl)
    · refine k_aload_n X 2 dX1_endOpen_12 rfl rfl ?_
      refine k_iload_n X 0 dX1_endOpen_13 rfl rfl ?_
      refine k_callV (a := 11) (o := c) (As := [.int (nI i)]) (S := []) X lk_X1_73 rfl hc rfl (C_X1_isEnded c i hc (by omega)) rfl rfl (Nat.le_of_ble_eq_true rfl) ⟨Nat.le_of_ble_eq_true rfl, Nat.le_of_ble_eq_true rfl⟩ ⟨Nat.le_of_ble_eq_true rfl, Nat.le_of_ble_eq_true rfl⟩ dX1_endOpen_14 ?_
      show KF E C 0 0 (up μ 14 c 0 i (fun b => if 200 ≤ μ 14 c b then μ 14 c b else 487)) 17 _ [.int (bp (200 ≤ (up μ 14 c 0 i (fun b => if 200 ≤ μ 14 c b then μ 14 c b else 487)) 14 c i))]
      refine k_val (y := bp (200 ≤ μ 14 c i)) (by rw [up0_next]) ?_
      refine k_if_ne_p (tgt := 32) X dX1_endOpen_17 (by decide) (fun c17 => ?_) (fun c17 => ?_)
      · refine k_iinc (v := nI (i + 1)) (L' := [(2, .int (nI (i + 1))), (1, .int (nI (ctB (fun b => !decide (200 ≤ μ 14 c b)) i))), (0, .ref (ad E 11 c))]) X 0 dX1_endOpen_32 rfl (nI_1 i) (by decide) rfl ?_
        refine k_goto (tgt := 4) X dX1_endOpen_35 (by decide) ?_
        have e1 := ctB_f (p := (fun b => !decide (200 ≤ μ 14 c b))) (n := i) (by rw [decide_eq_true c17]; rfl)
        refine k_mem (μ' := up μ 14 c 0 (i + 1) (fun b => if 200 ≤ μ 14 c b then μ 14 c b else 487)) (up0_no (if_pos c17)) ?_
        rw [← e1]
        exact ih (i + 1) (by omega) (by omega)
      · refine k_aload_n X 2 dX1_endOpen_20 rfl rfl ?_
        refine gt_X1_18 X hc dX1_endOpen_21 ?_
        refine k_iload_n X 0 dX1_endOpen_24 rfl rfl ?_
        refine k_sipush X 487 dX1_endOpen_25 (by decide) ?_
        refine k_iast (a := 14) (j := i) X rfl hc rfl (show i < 12 by omega) (by decide) dX1_endOpen_28 ?_
        refine k_iinc (v := nI (ctB (fun b => !decide (200 ≤ μ 14 c b)) i + 1)) (L' := [(1, .int (nI (ctB (fun b => !decide (200 ≤ μ 14 c b)) i + 1))), (2, .int (nI i)), (0, .ref (ad E 11 c))]) X 1 dX1_endOpen_29 rfl (nI_1 _) (by decide) rfl ?_
        refine k_iinc (v := nI (i + 1)) (L' := [(2, .int (nI (i + 1))), (1, .int (nI (ctB (fun b => !decide (200 ≤ μ 14 c b)) i + 1))), (0, .ref (ad E 11 c))]) X 1 dX1_endOpen_32 rfl (nI_1 i) (by decide) rfl ?_
        refine k_goto (tgt := 4) X dX1_endOpen_35 (by decide) ?_
        have e1 := ctB_t (p := (fun b => !decide (200 ≤ μ 14 c b))) (n := i) (by rw [decide_eq_false c17]; rfl)
        refine k_mem (μ' := up μ 14 c 0 (i + 1) (fun b => if 200 ≤ μ 14 c b then μ 14 c b else 487)) (up0_st (if_neg c17).symm) ?_
        rw [← e1]
        exact ih (i + 1) (by omega) (by omega)

set_option maxHeartbeats 4000000 in
set_option maxRecDepth 100000 in
theorem C_X1_endOpen {E : EE} {μ : Mem} (c n : Nat) (hc : c < 20) (hn : μ 11 c 4 = nI n) (hn12 : n ≤ 12) : MM E yX1_endOpen cX1_endOpen 3 (some .int) (rm 2 0) [.ref (ad E 11 c)] μ (some (.int (nI (eoN μ c n)))) (eoM μ c n) := by
  refine MM.int (own := RX1) [(0, .ref (ad E 11 c))] rfl rfl rfl (Nat.le_of_ble_eq_true rfl) rfl (fun C X hE => ?_)
  refine k_iconst X (nI 0) dX1_endOpen_0 (by decide) ?_
  refine k_istore_n (L' := [(1, .int (nI 0)), (0, .ref (ad E 11 c))]) X dX1_endOpen_1 rfl (by decide) rfl ?_
  refine k_iconst X (nI 0) dX1_endOpen_2 (by decide) ?_
  refine k_istore_n (L' := [(2, .int (nI 0)), (1, .int (nI 0)), (0, .ref (ad E 11 c))]) X dX1_endOpen_3 rfl (by decide) rfl ?_
  refine k_mem (μ' := up μ 14 c 0 0 (fun b => if 200 ≤ μ 14 c b then μ 14 c b else 487)) up_0.symm ?_
  exact L_X1_endOpen c n hc hn hn12 X hE (n + 1) 0 (by omega) (Nat.zero_le n)

set_option maxHeartbeats 4000000 in
set_option maxRecDepth 100000 in
theorem C_X1_takeAnswer {E : EE} {μ : Mem} (c n : Nat) (hc : c < 20) (hn : μ 11 c 4 = nI n) (hn12 : n ≤ 12) (s : Nat) (hs : μ 11 c 5 = nI s) (hs11 : s ≤ 11) (b : Nat) (hb : b < 12) (x now : Int32) : MM E yX1_takeAnswer cX1_takeAnswer 4 none (rm 4 0) [.ref (ad E 11 c), .int (nI b), .int x, .int now] μ none (taM μ c n s b x now) := by
  refine MM.void (own := RX1) [(0, .ref (ad E 11 c)), (1, .int (nI b)), (2, .int x), (3, .int now)] rfl rfl rfl (Nat.le_of_ble_eq_true rfl) (fun C X hE => ?_)
  refine k_aload_n X 0 dX1_takeAnswer_0 rfl rfl ?_
  refine gt_X1_18 X hc dX1_takeAnswer_1 ?_
  refine k_iload_n X 1 dX1_takeAnswer_4 rfl rfl ?_
  refine k_iload_n X 2 dX1_takeAnswer_5 rfl rfl ?_
  refine k_iast (a := 14) (j := b) X rfl hc rfl hb (by decide) dX1_takeAnswer_6 ?_
  refine k_iload_n X 2 dX1_takeAnswer_7 rfl rfl ?_
  refine k_sipush X 180 dX1_takeAnswer_8 (by decide) ?_
  refine k_icmp_ne (tgt := 15) X dX1_takeAnswer_11 (by decide) (fun c11 => ?_) (fun c11 => ?_)
  · refine k_iload_n X 2 dX1_takeAnswer_15 rfl rfl ?_
    refine k_sipush X 300 dX1_takeAnswer_16 (by decide) ?_
    refine k_icmp_ge (tgt := 40) X dX1_takeAnswer_19 (by decide) (fun c19 => ?_) (fun c19 => ?_)
    · refine k_iload_n X 2 dX1_takeAnswer_40 rfl rfl ?_
      refine k_sipush X 600 dX1_takeAnswer_41 (by decide) ?_
      refine k_icmp_lt (tgt := 63) X dX1_takeAnswer_44 (by decide) (fun c44 => ?_) (fun c44 => ?_)
      · refine k_aload_n X 0 dX1_takeAnswer_63 rfl rfl ?_
        refine k_iload_n X 3 dX1_takeAnswer_64 rfl rfl ?_
        refine k_callV (a := 11) (o := c) (As := [.int now]) (S := []) X lk_X1_53 rfl hc rfl (C_X1_goOn c n hc (by simp [st, up, sgM, sg1, eoM, rgM, hn]) hn12 s (by simp [st, up, rgM, hs]) hs11 _) rfl rfl (Nat.le_of_ble_eq_true rfl) ⟨Nat.le_of_ble_eq_true rfl, Nat.le_of_ble_eq_true rfl⟩ ⟨Nat.le_of_ble_eq_true rfl, Nat.le_of_ble_eq_true rfl⟩ dX1_takeAnswer_65 ?_
        show KF E C 0 0 (goOnM (st μ 14 c b x) c n s now) 68 _ []
        exact k_vret dX1_takeAnswer_68 hE (by unfold taM; rw [if_neg c11, if_pos c19, if_pos c44])
      · refine k_aload_n X 0 dX1_takeAnswer_47 rfl rfl ?_
        refine k_callV (a := 11) (o := c) (As := []) (S := []) X lk_X1_76 rfl hc rfl (C_X1_endOpen c n hc (by simp [st, up, sgM, sg1, eoM, rgM, hn]) hn12) rfl rfl (Nat.le_of_ble_eq_true rfl) ⟨Nat.le_of_ble_eq_true rfl, Nat.le_of_ble_eq_true rfl⟩ ⟨Nat.le_of_ble_eq_true rfl, Nat.le_of_ble_eq_true rfl⟩ dX1_takeAnswer_48 ?_
        show KF E C 0 0 (eoM (st μ 14 c b x) c n) 51 _ [.int (nI (eoN (st μ 14 c b x) c n))]
        refine k_pop X dX1_takeAnswer_51 rfl ?_
        refine k_aload_n X 0 dX1_takeAnswer_52 rfl rfl ?_
        refine k_aload_n X 0 dX1_takeAnswer_53 rfl rfl ?_
        refine k_callV (a := 11) (o := c) (As := []) (S := [.ref (ad E 11 c)]) X lk_X1_65 rfl hc rfl (C_X1_bestEnd c n hc (by simp [st, up, sgM, sg1, eoM, rgM, hn]) hn12) rfl rfl (Nat.le_of_ble_eq_true rfl) ⟨Nat.le_of_ble_eq_true rfl, Nat.le_of_ble_eq_true rfl⟩ ⟨Nat.le_of_ble_eq_true rfl, Nat.le_of_ble_eq_true rfl⟩ dX1_takeAnswer_54 ?_
        show KF E C 0 0 (eoM (st μ 14 c b x) c n) 57 _ [.int (beI ((eoM (st μ 14 c b x) c n) 14 c) n), .ref (ad E 11 c)]
        refine pt_X1_38 X hc dX1_takeAnswer_57 ?_
        refine k_goto (tgt := 68) X dX1_takeAnswer_60 (by decide) ?_
        exact k_vret dX1_takeAnswer_68 hE (by unfold taM; rw [if_neg c11, if_pos c19, if_neg c44])
    · refine k_aload_n X 0 dX1_takeAnswer_22 rfl rfl ?_
      refine k_iload_n X 1 dX1_takeAnswer_23 rfl rfl ?_
      refine pt_X1_35 X hc dX1_takeAnswer_24 ?_
      refine k_aload_n X 0 dX1_takeAnswer_27 rfl rfl ?_
      refine k_callV (a := 11) (o := c) (As := []) (S := []) X lk_X1_76 rfl hc rfl (C_X1_endOpen c n hc (by simp [st, up, sgM, sg1, eoM, rgM, hn]) hn12) rfl rfl (Nat.le_of_ble_eq_true rfl) ⟨Nat.le_of_ble_eq_true rfl, Nat.le_of_ble_eq_true rfl⟩ ⟨Nat.le_of_ble_eq_true rfl, Nat.le_of_ble_eq_true rfl⟩ dX1_takeAnswer_28 ?_
      show KF E C 0 0 (eoM (st (st μ 14 c b x) 11 c 7 (nI b)) c n) 31 _ [.int (nI (eoN (st (st μ 14 c b x) 11 c 7 (nI b)) c n))]
      refine k_pop X dX1_takeAnswer_31 rfl ?_
      refine k_aload_n X 0 dX1_takeAnswer_32 rfl rfl ?_
      refine k_iload_n X 2 dX1_takeAnswer_33 rfl rfl ?_
      refine pt_X1_38 X hc dX1_takeAnswer_34 ?_
      refine k_goto (tgt := 68) X dX1_takeAnswer_37 (by decide) ?_
      exact k_vret dX1_takeAnswer_68 hE (by unfold taM; rw [if_neg c11, if_neg c19])
  · exact k_vret dX1_takeAnswer_14 hE (by unfold taM; rw [if_pos c11])

set_option maxHeartbeats 4000000 in
set_option maxRecDepth 100000 in
theorem C_X1_cancelAll {E : EE} {μ : Mem} (c n : Nat) (hc : c < 20) (hn : μ 11 c 4 = nI n) (hn12 : n ≤ 12) : MM E yX1_cancelAll cX1_cancelAll 2 (some .int) (rm 3 0) [.ref (ad E 11 c)] μ (some (.int (nI (eoN μ c n)))) (caM μ c n) := by
  refine MM.int (own := RX1) [(0, .ref (ad E 11 c))] rfl rfl rfl (Nat.le_of_ble_eq_true rfl) rfl (fun C X hE => ?_)
  refine k_aload_n X 0 dX1_cancelAll_0 rfl rfl ?_
  refine k_callV (a := 11) (o := c) (As := []) (S := []) X lk_X1_76 rfl hc rfl (C_X1_endOpen c n hc hn hn12) rfl rfl (Nat.le_of_ble_eq_true rfl) ⟨Nat.le_of_ble_eq_true rfl, Nat.le_of_ble_eq_true rfl⟩ ⟨Nat.le_of_ble_eq_true rfl, Nat.le_of_ble_eq_true rfl⟩ dX1_cancelAll_1 ?_
  show KF E C 0 0 (eoM μ c n) 4 _ [.int (nI (eoN μ c n))]
  refine k_istore_n (L' := [(1, .int (nI (eoN μ c n))), (0, .ref (ad E 11 c))]) X dX1_cancelAll_4 rfl (by decide) rfl ?_
  refine k_aload_n X 1 dX1_cancelAll_5 rfl rfl ?_
  refine k_iconst X 1 dX1_cancelAll_6 (by decide) ?_
  refine pt_X1_41 X hc (by decide) (by decide) dX1_cancelAll_7 ?_
  refine k_aload_n X 1 dX1_cancelAll_10 rfl rfl ?_
  refine k_sipush X 487 dX1_cancelAll_11 (by decide) ?_
  refine pt_X1_38 X hc dX1_cancelAll_14 ?_
  refine k_iload_n X 0 dX1_cancelAll_17 rfl rfl ?_
  exact k_iret dX1_cancelAll_18 hE rfl rfl

set_option maxHeartbeats 4000000 in
set_option maxRecDepth 100000 in
theorem L_X1_endsWithTick {E : EE} {μ : Mem} {C : Ctx} (c n : Nat) (hc : c < 20) (hn : μ 11 c 4 = nI n) (hn12 : n ≤ 12) (s : Nat) (hs : μ 11 c 5 = nI s) (hs11 : s ≤ 11) (now : Int32) (X : Cx E C cX1_endsWithTick RX1 3 (rm 4 0)) (hE : EndI E C cX1_endsWithTick 0 0 (bp (¬ goOnM (rgM μ c n) c n s now 11 c 8 = -1)) (goOnM (rgM μ c n) c n s now)) : ∀ (f : Nat) (i : Nat), n - i < f → i ≤ n → KF E C 0 0 (up μ 14 c 0 i (fun b => if μ 11 c 5 ≤ μ 13 c b ∧ ¬ 200 ≤ μ 14 c b then 408 else μ 14 c b)) 23 [(2, .int (nI i)), (0, .ref (ad E 11 c)), (1, .int now)] [] := by
  intro f
  induction f with
  | zero => intros; omega
  | succ f ih =>
    intro i hf hi
    refine k_iload_n X 0 dX1_endsWithTick_23 rfl rfl ?_
    refine k_aload_n X 1 dX1_endsWithTick_24 rfl rfl ?_
    refine gt_X1_25 X hc dX1_endsWithTick_25 ?_
    refine k_val (y := nI n) (by simp [st, up, sgM, sg1, eoM, rgM, hn]) ?_
    refine k_ge_n (a := i) (b := n) (tgt := 62) X dX1_endsWithTick_28 (by decide) rfl rfl (by omega) (by omega) (fun c28 => ?_) (fun c28 => ?_)
    · refine k_mem (μ' := rgM μ c n) (by rw [show i = n by omega]; rfl) ?_
      refine k_aload_n X 1 dX1_endsWithTick_62 rfl rfl ?_
      refine k_iload_n X 2 dX1_endsWithTick_63 rfl rfl ?_
      refine k_callV (a := 11) (o := c) (As := [.int now]) (S := []) X lk_X1_53 rfl hc rfl (C_X1_goOn c n hc (by simp [st, up, sgM, sg1, eoM, rgM, hn]) hn12 s (by simp [st, up, rgM, hs]) hs11 _) rfl rfl (Nat.le_of_ble_eq_true rfl) ⟨Nat.le_of_ble_eq_true rfl, Nat.le_of_ble_eq_true rfl⟩ ⟨Nat.le_of_ble_eq_true rfl, Nat.le_of_ble_eq_true rfl⟩ dX1_endsWithTick_64 ?_
      show KF E C 0 0 (goOnM (rgM μ c n) c n s now) 67 _ []
      refine k_aload_n X 1 dX1_endsWithTick_67 rfl rfl ?_
      refine gt_X1_38 X hc dX1_endsWithTick_68 ?_
      refine k_iconst X (-1) dX1_endsWithTick_71 (by decide) ?_
      refine k_icmp_eq (tgt := 79) X dX1_endsWithTick_72 (by decide) (fun c72 => ?_) (fun c72 => ?_)
      · refine k_iconst X 0 dX1_endsWithTick_79 (by decide) ?_
        exact k_iret dX1_endsWithTick_80 hE (bp_f (fun h => h c72)).symm rfl
      · refine k_iconst X 1 dX1_endsWithTick_75 (by decide) ?_
        refine k_goto (tgt := 80) X dX1_endsWithTick_76 (by decide) ?_
        exact k_iret dX1_endsWithTick_80 hE (bp_t c72).symm rfl
    · refine k_aload_n X 1 dX1_endsWithTick_31 rfl rfl ?_
      refine k_iload_n X 0 dX1_endsWithTick_32 rfl rfl ?_
      refine k_callV (a := 11) (o := c) (As := [.int (nI i)]) (S := []) X lk_X1_69 rfl hc rfl (C_X1_isStarted c i hc (by omega)) rfl rfl (Nat.le_of_ble_eq_true rfl) ⟨Nat.le_of_ble_eq_true rfl, Nat.le_of_ble_eq_true rfl⟩ ⟨Nat.le_of_ble_eq_true rfl, Nat.le_of_ble_eq_true rfl⟩ dX1_endsWithTick_33 ?_
      show KF E C 0 0 (up μ 14 c 0 i (fun b => if μ 11 c 5 ≤ μ 13 c b ∧ ¬ 200 ≤ μ 14 c b then 408 else μ 14 c b)) 36 _ [.int (bp ((up μ 14 c 0 i (fun b => if μ 11 c 5 ≤ μ 13 c b ∧ ¬ 200 ≤ μ 14 c b then 408 else μ 14 c b)) 11 c 5 ≤ (up μ 14 c 0 i (fun b => if μ 11 c 5 ≤ μ 13 c b ∧ ¬ 200 ≤ μ 14 c b then 408 else μ 14 c b)) 13 c i))]
      refine k_val (y := bp (μ 11 c 5 ≤ μ 13 c i)) (by rw [up_k (by decide), up_k (by decide)]) ?_
      refine k_if_eq_p (tgt := 56) X dX1_endsWithTick_36 (by decide) (fun c36 => ?_) (fun c36 => ?_)
      · refine k_iinc (v := nI (i + 1)) (L' := [(2, .int (nI (i + 1))), (0, .ref (ad E 11 c)), (1, .int now)]) X 0 dX1_endsWithTick_56 rfl (nI_1 i) (by decide) rfl ?_
        refine k_goto (tgt := 23) X dX1_endsWithTick_59 (by decide) ?_
        refine k_mem (μ' := up μ 14 c 0 (i + 1) (fun b => if μ 11 c 5 ≤ μ 13 c b ∧ ¬ 200 ≤ μ 14 c b then 408 else μ 14 c b)) (up0_no (if_neg (fun h => c36 h.1))) ?_
        exact ih (i + 1) (by omega) (by omega)
      · refine k_aload_n X 1 dX1_endsWithTick_39 rfl rfl ?_
        refine k_iload_n X 0 dX1_endsWithTick_40 rfl rfl ?_
        refine k_callV (a := 11) (o := c) (As := [.int (nI i)]) (S := []) X lk_X1_73 rfl hc rfl (C_X1_isEnded c i hc (by omega)) rfl rfl (Nat.le_of_ble_eq_true rfl) ⟨Nat.le_of_ble_eq_true rfl, Nat.le_of_ble_eq_true rfl⟩ ⟨Nat.le_of_ble_eq_true rfl, Nat.le_of_ble_eq_true rfl⟩ dX1_endsWithTick_41 ?_
        show KF E C 0 0 (up μ 14 c 0 i (fun b => if μ 11 c 5 ≤ μ 13 c b ∧ ¬ 200 ≤ μ 14 c b then 408 else μ 14 c b)) 44 _ [.int (bp (200 ≤ (up μ 14 c 0 i (fun b => if μ 11 c 5 ≤ μ 13 c b ∧ ¬ 200 ≤ μ 14 c b then 408 else μ 14 c b)) 14 c i))]
        refine k_val (y := bp (200 ≤ μ 14 c i)) (by rw [up0_next]) ?_
        refine k_if_ne_p (tgt := 56) X dX1_endsWithTick_44 (by decide) (fun c44 => ?_) (fun c44 => ?_)
        · refine k_iinc (v := nI (i + 1)) (L' := [(2, .int (nI (i + 1))), (0, .ref (ad E 11 c)), (1, .int now)]) X 0 dX1_endsWithTick_56 rfl (nI_1 i) (by decide) rfl ?_
          refine k_goto (tgt := 23) X dX1_endsWithTick_59 (by decide) ?_
          refine k_mem (μ' := up μ 14 c 0 (i + 1) (fun b => if μ 11 c 5 ≤ μ 13 c b ∧ ¬ 200 ≤ μ 14 c b then 408 else μ 14 c b)) (up0_no (if_neg (fun h => h.2 c44))) ?_
          exact ih (i + 1) (by omega) (by omega)
        · refine k_aload_n X 1 dX1_endsWithTick_47 rfl rfl ?_
          refine gt_X1_18 X hc dX1_endsWithTick_48 ?_
          refine k_iload_n X 0 dX1_endsWithTick_51 rfl rfl ?_
          refine k_sipush X 408 dX1_endsWithTick_52 (by decide) ?_
          refine k_iast (a := 14) (j := i) X rfl hc rfl (show i < 12 by omega) (by decide) dX1_endsWithTick_55 ?_
          refine k_iinc (v := nI (i + 1)) (L' := [(2, .int (nI (i + 1))), (0, .ref (ad E 11 c)), (1, .int now)]) X 0 dX1_endsWithTick_56 rfl (nI_1 i) (by decide) rfl ?_
          refine k_goto (tgt := 23) X dX1_endsWithTick_59 (by decide) ?_
          refine k_mem (μ' := up μ 14 c 0 (i + 1) (fun b => if μ 11 c 5 ≤ μ 13 c b ∧ ¬ 200 ≤ μ 14 c b then 408 else μ 14 c b)) (up0_st (if_pos ⟨c36, c44⟩).symm) ?_
          exact ih (i + 1) (by omega) (by omega)

set_option maxHeartbeats 4000000 in
set_option maxRecDepth 100000 in
theorem C_X1_endsWithTick {E : EE} {μ : Mem} (c n : Nat) (hc : c < 20) (hn : μ 11 c 4 = nI n) (hn12 : n ≤ 12) (s : Nat) (hs : μ 11 c 5 = nI s) (hs11 : s ≤ 11) (now : Int32) : MM E yX1_endsWithTick cX1_endsWithTick 3 (some .boolean) (rm 4 0) [.ref (ad E 11 c), .int now] μ (some (.int (etI μ c n s now))) (etM μ c n s now) := by
  refine MM.int (own := RX1) [(0, .ref (ad E 11 c)), (1, .int now)] rfl rfl rfl (Nat.le_of_ble_eq_true rfl) (by unfold etI; split; split; exact bp_nar; rfl; rfl) (fun C X hE => ?_)
  refine k_aload_n X 0 dX1_endsWithTick_0 rfl rfl ?_
  refine gt_X1_38 X hc dX1_endsWithTick_1 ?_
  refine k_iconst X (-1) dX1_endsWithTick_4 (by decide) ?_
  refine k_icmp_ne (tgt := 19) X dX1_endsWithTick_5 (by decide) (fun c5 => ?_) (fun c5 => ?_)
  · refine k_iconst X 0 dX1_endsWithTick_19 (by decide) ?_
    exact k_iret dX1_endsWithTick_20 hE (by unfold etI; rw [if_neg c5]) (by unfold etM; rw [if_neg c5])
  · refine k_iload_n X 1 dX1_endsWithTick_8 rfl rfl ?_
    refine k_aload_n X 0 dX1_endsWithTick_9 rfl rfl ?_
    refine gt_X1_32 X hc dX1_endsWithTick_10 ?_
    refine k_isub X dX1_endsWithTick_13 ?_
    refine k_bipush X 10 dX1_endsWithTick_14 (by decide) ?_
    refine k_icmp_ge (tgt := 21) X dX1_endsWithTick_16 (by decide) (fun c16 => ?_) (fun c16 => ?_)
    · refine k_iconst X (nI 0) dX1_endsWithTick_21 (by decide) ?_
      refine k_istore_n (L' := [(2, .int (nI 0)), (0, .ref (ad E 11 c)), (1, .int now)]) X dX1_endsWithTick_22 rfl (by decide) rfl ?_
      refine k_mem (μ' := up μ 14 c 0 0 (fun b => if μ 11 c 5 ≤ μ 13 c b ∧ ¬ 200 ≤ μ 14 c b then 408 else μ 14 c b)) up_0.symm ?_
      exact L_X1_endsWithTick c n hc hn hn12 s hs hs11 now X (by unfold etI etM at hE; rw [if_pos c5, if_pos c16] at hE; rw [if_pos c5, if_pos c16] at hE; exact hE) (n + 1) 0 (by omega) (Nat.zero_le n)
    · refine k_iconst X 0 dX1_endsWithTick_19 (by decide) ?_
      exact k_iret dX1_endsWithTick_20 hE (by unfold etI; rw [if_pos c5, if_neg c16]) (by unfold etM; rw [if_pos c5, if_neg c16])

set_option maxHeartbeats 4000000 in
set_option maxRecDepth 100000 in
theorem L_X1_insert {E : EE} {C : Ctx} (len : Nat) (x : Int32) (X : Cx E C cX1_insert RX1 4 (rm 1 0)) : ∀ (p : Nat) (μ : Mem), p ≤ 11 → EndV E C cX1_insert 0 0 (insM x p μ) → KF E C 0 0 μ 2 [(3, .int (nI p)), (0, .ref (ad E 5 0)), (1, .int (nI len)), (2, .int x)] [] := by
  intro p
  induction p with
  | zero =>
    intro μ hp hE
    refine k_iload_n X 0 dX1_insert_2 rfl rfl ?_
    refine k_if_le_t (tgt := 29) X dX1_insert_3 (by decide) (by decide) ?_
    refine k_aload_n X 1 dX1_insert_29 rfl rfl ?_
    refine k_iload_n X 0 dX1_insert_30 rfl rfl ?_
    refine k_iload_n X 3 dX1_insert_31 rfl rfl ?_
    refine k_iast (a := 5) (j := 0) X rfl (by decide) rfl (by decide) (by decide) dX1_insert_32 ?_
    exact k_vret dX1_insert_33 hE rfl
  | succ p ih =>
    intro μ hp hE
    refine k_iload_n X 0 dX1_insert_2 rfl rfl ?_
    refine k_if_le_f (tgt := 29) X dX1_insert_3 (by decide) (nI_nle (by omega) (by omega)) ?_
    refine k_aload_n X 1 dX1_insert_6 rfl rfl ?_
    refine k_iload_n X 0 dX1_insert_7 rfl rfl ?_
    refine k_iconst X 1 dX1_insert_8 (by decide) ?_
    refine k_isub X dX1_insert_9 ?_
    refine k_val (y := nI p) (nI_pred p) ?_
    refine k_iald (a := 5) (j := p) X rfl (by decide) rfl (show p < 12 by omega) (by decide) dX1_insert_10 ?_
    refine k_iload_n X 3 dX1_insert_11 rfl rfl ?_
    refine k_icmp_le (tgt := 29) X dX1_insert_12 (by decide) (fun c12 => ?_) (fun c12 => ?_)
    · refine k_aload_n X 1 dX1_insert_29 rfl rfl ?_
      refine k_iload_n X 0 dX1_insert_30 rfl rfl ?_
      refine k_iload_n X 3 dX1_insert_31 rfl rfl ?_
      refine k_iast (a := 5) (j := (p + 1)) X rfl (by decide) rfl (show (p + 1) < 12 by omega) (by decide) dX1_insert_32 ?_
      exact k_vret dX1_insert_33 hE (if_pos c12).symm
    · refine k_aload_n X 1 dX1_insert_15 rfl rfl ?_
      refine k_iload_n X 0 dX1_insert_16 rfl rfl ?_
      refine k_aload_n X 1 dX1_insert_17 rfl rfl ?_
      refine k_iload_n X 0 dX1_insert_18 rfl rfl ?_
      refine k_iconst X 1 dX1_insert_19 (by decide) ?_
      refine k_isub X dX1_insert_20 ?_
      refine k_val (y := nI p) (nI_pred p) ?_
      refine k_iald (a := 5) (j := p) X rfl (by decide) rfl (show p < 12 by omega) (by decide) dX1_insert_21 ?_
      refine k_iast (a := 5) (j := (p + 1)) X rfl (by decide) rfl (show (p + 1) < 12 by omega) (by decide) dX1_insert_22 ?_
      refine k_iinc (v := nI p) (L' := [(3, .int (nI p)), (0, .ref (ad E 5 0)), (1, .int (nI len)), (2, .int x)]) X 0 dX1_insert_23 rfl ((sub1 _).trans (nI_pred p)) (by decide) rfl ?_
      refine k_goto (tgt := 2) X dX1_insert_26 (by decide) ?_
      exact ih _ (by omega) (by rw [show insM x (p + 1) μ = _ from if_neg c12] at hE; exact hE)

set_option maxHeartbeats 4000000 in
set_option maxRecDepth 100000 in
theorem C_X1_insert {E : EE} {μ : Mem} (len : Nat) (hlen : len ≤ 11) (x : Int32) : MM E yX1_insert cX1_insert 4 none (rm 1 0) [.ref (ad E 5 0), .int (nI len), .int x] μ none (insM x len μ) := by
  refine MM.void (own := RX1) [(0, .ref (ad E 5 0)), (1, .int (nI len)), (2, .int x)] rfl rfl rfl (Nat.le_of_ble_eq_true rfl) (fun C X hE => ?_)
  refine k_iload_n X 1 dX1_insert_0 rfl rfl ?_
  refine k_istore_n (L' := [(3, .int (nI len)), (0, .ref (ad E 5 0)), (1, .int (nI len)), (2, .int x)]) X dX1_insert_1 rfl (by decide) rfl ?_
  exact L_X1_insert len x X len μ hlen hE

set_option maxHeartbeats 4000000 in
set_option maxRecDepth 100000 in
theorem L_X1_sortEnds {E : EE} {μ : Mem} {C : Ctx} (c n : Nat) (hc : c < 20) (hn : μ 11 c 4 = nI n) (hn12 : n ≤ 12) (X : Cx E C cX1_sortEnds RX1 4 (rm 2 0)) (hE : EndI E C cX1_sortEnds 0 0 (nI (soN (μ 14 c) n)) (soM (μ 14 c) n μ)) : ∀ (f : Nat) (i : Nat), n - i < f → i ≤ n → KF E C 0 0 (soM (μ 14 c) i μ) 4 [(3, .int (nI i)), (2, .int (nI (soN (μ 14 c) i))), (0, .ref (ad E 11 c)), (1, .ref (ad E 5 0))] [] := by
  intro f
  induction f with
  | zero => intros; omega
  | succ f ih =>
    intro i hf hi
    refine k_iload_n X 0 dX1_sortEnds_4 rfl rfl ?_
    refine k_aload_n X 2 dX1_sortEnds_5 rfl rfl ?_
    refine gt_X1_25 X hc dX1_sortEnds_6 ?_
    refine k_val (y := nI n) ((soM_k (by decide) i μ).trans hn) ?_
    refine k_ge_n (a := i) (b := n) (tgt := 50) X dX1_sortEnds_9 (by decide) rfl rfl (by omega) (by omega) (fun c9 => ?_) (fun c9 => ?_)
    · refine k_iload_n X 1 dX1_sortEnds_50 rfl rfl ?_
      exact k_iret dX1_sortEnds_51 hE (by rw [show i = n by omega]) (by rw [show i = n by omega])
    · refine k_iload_n X 1 dX1_sortEnds_12 rfl rfl ?_
      refine k_aload_n X 3 dX1_sortEnds_13 rfl rfl ?_
      refine k_ialen (a := 5) X rfl (by decide) dX1_sortEnds_14 ?_
      refine k_ge_n (a := soN (μ 14 c) i) (b := 12) (tgt := 50) X dX1_sortEnds_15 (by decide) rfl rfl (by have := soN_le (μ 14 c) i; omega) (by decide) (fun c15 => ?_) (fun c15 => ?_)
      · exact absurd (soN_le (μ 14 c) i) (by omega)
      · refine k_aload_n X 2 dX1_sortEnds_18 rfl rfl ?_
        refine gt_X1_18 X hc dX1_sortEnds_19 ?_
        refine k_iload_n X 0 dX1_sortEnds_22 rfl rfl ?_
        refine k_iald (a := 14) (j := i) X rfl hc rfl (show i < 12 by omega) (by decide) dX1_sortEnds_23 ?_
        refine k_val (y := μ 14 c i) (soM_k (by decide) i μ) ?_
        refine k_sipush X 487 dX1_sortEnds_24 (by decide) ?_
        refine k_icmp_eq (tgt := 44) X dX1_sortEnds_27 (by decide) (fun c27 => ?_) (fun c27 => ?_)
        · refine k_iinc (v := nI (i + 1)) (L' := [(3, .int (nI (i + 1))), (2, .int (nI (soN (μ 14 c) i))), (0, .ref (ad E 11 c)), (1, .ref (ad E 5 0))]) X 0 dX1_sortEnds_44 rfl (nI_1 i) (by decide) rfl ?_
          refine k_goto (tgt := 4) X dX1_sortEnds_47 (by decide) ?_
          have e1 : soN (μ 14 c) (i + 1) = _ := if_pos c27
          have e2 : soM (μ 14 c) (i + 1) μ = _ := if_pos c27
          rw [← e1, ← e2]
          exact ih (i + 1) (by omega) (by omega)
        · refine k_aload_n X 3 dX1_sortEnds_30 rfl rfl ?_
          refine k_iload_n X 1 dX1_sortEnds_31 rfl rfl ?_
          refine k_aload_n X 2 dX1_sortEnds_32 rfl rfl ?_
          refine gt_X1_18 X hc dX1_sortEnds_33 ?_
          refine k_iload_n X 0 dX1_sortEnds_36 rfl rfl ?_
          refine k_iald (a := 14) (j := i) X rfl hc rfl (show i < 12 by omega) (by decide) dX1_sortEnds_37 ?_
          refine k_val (y := μ 14 c i) (soM_k (by decide) i μ) ?_
          refine k_callS (As := [.ref (ad E 5 0), .int (nI (soN (μ 14 c) i)), .int (μ 14 c i)]) (S := []) X lk_X1_92 (C_X1_insert (soN (μ 14 c) i) (by have := soN_le (μ 14 c) i; omega) _) rfl rfl (Nat.le_of_ble_eq_true rfl) ⟨Nat.le_of_ble_eq_true rfl, Nat.le_of_ble_eq_true rfl⟩ ⟨Nat.le_of_ble_eq_true rfl, Nat.le_of_ble_eq_true rfl⟩ dX1_sortEnds_38 ?_
          show KF E C 0 0 (insM (μ 14 c i) (soN (μ 14 c) i) (soM (μ 14 c) i μ)) 41 _ []
          refine k_iinc (v := nI (soN (μ 14 c) i + 1)) (L' := [(2, .int (nI (soN (μ 14 c) i + 1))), (3, .int (nI i)), (0, .ref (ad E 11 c)), (1, .ref (ad E 5 0))]) X 1 dX1_sortEnds_41 rfl (nI_1 _) (by decide) rfl ?_
          refine k_iinc (v := nI (i + 1)) (L' := [(3, .int (nI (i + 1))), (2, .int (nI (soN (μ 14 c) i + 1))), (0, .ref (ad E 11 c)), (1, .ref (ad E 5 0))]) X 1 dX1_sortEnds_44 rfl (nI_1 i) (by decide) rfl ?_
          refine k_goto (tgt := 4) X dX1_sortEnds_47 (by decide) ?_
          have e1 : soN (μ 14 c) (i + 1) = _ := if_neg c27
          have e2 : soM (μ 14 c) (i + 1) μ = _ := if_neg c27
          rw [← e1, ← e2]
          exact ih (i + 1) (by omega) (by omega)

set_option maxHeartbeats 4000000 in
set_option maxRecDepth 100000 in
theorem C_X1_sortEnds {E : EE} {μ : Mem} (c n : Nat) (hc : c < 20) (hn : μ 11 c 4 = nI n) (hn12 : n ≤ 12) : MM E yX1_sortEnds cX1_sortEnds 4 (some .int) (rm 2 0) [.ref (ad E 11 c), .ref (ad E 5 0)] μ (some (.int (nI (soN (μ 14 c) n)))) (soM (μ 14 c) n μ) := by
  refine MM.int (own := RX1) [(0, .ref (ad E 11 c)), (1, .ref (ad E 5 0))] rfl rfl rfl (Nat.le_of_ble_eq_true rfl) rfl (fun C X hE => ?_)
  refine k_iconst X (nI 0) dX1_sortEnds_0 (by decide) ?_
  refine k_istore_n (L' := [(2, .int (nI 0)), (0, .ref (ad E 11 c)), (1, .ref (ad E 5 0))]) X dX1_sortEnds_1 rfl (by decide) rfl ?_
  refine k_iconst X (nI 0) dX1_sortEnds_2 (by decide) ?_
  refine k_istore_n (L' := [(3, .int (nI 0)), (2, .int (nI 0)), (0, .ref (ad E 11 c)), (1, .ref (ad E 5 0))]) X dX1_sortEnds_3 rfl (by decide) rfl ?_
  exact L_X1_sortEnds c n hc hn hn12 X hE (n + 1) 0 (by omega) (Nat.zero_le n)

set_option maxHeartbeats 4000000 in
set_option maxRecDepth 100000 in
theorem C_X1_finalFromSorted {E : EE} {μ : Mem} (c n : Nat) (hc : c < 20) (hn : μ 11 c 4 = nI n) (hn12 : n ≤ 12) : MM E yX1_finalFromSorted cX1_finalFromSorted 3 (some .int) (rm 3 0) [.ref (ad E 11 c), .ref (ad E 5 0)] μ (some (.int (fsI μ c n))) (fsM μ c n) := by
  refine MM.int (own := RX1) [(0, .ref (ad E 11 c)), (1, .ref (ad E 5 0))] rfl rfl rfl (Nat.le_of_ble_eq_true rfl) rfl (fun C X hE => ?_)
  refine k_aload_n X 0 dX1_finalFromSorted_0 rfl rfl ?_
  refine gt_X1_25 X hc dX1_finalFromSorted_1 ?_
  refine k_val (y := nI n) hn ?_
  refine k_if_ne (tgt := 11) X dX1_finalFromSorted_4 (by decide) (fun c4 => ?_) (fun c4 => ?_)
  · refine k_aload_n X 0 dX1_finalFromSorted_11 rfl rfl ?_
    refine k_aload_n X 1 dX1_finalFromSorted_12 rfl rfl ?_
    refine k_callV (a := 11) (o := c) (As := [.ref (ad E 5 0)]) (S := []) X lk_X1_88 rfl hc rfl (C_X1_sortEnds c n hc hn hn12) rfl rfl (Nat.le_of_ble_eq_true rfl) ⟨Nat.le_of_ble_eq_true rfl, Nat.le_of_ble_eq_true rfl⟩ ⟨Nat.le_of_ble_eq_true rfl, Nat.le_of_ble_eq_true rfl⟩ dX1_finalFromSorted_13 ?_
    show KF E C 0 0 (soM (μ 14 c) n μ) 16 _ [.int (nI (soN (μ 14 c) n))]
    refine k_istore_n (L' := [(2, .int (nI (soN (μ 14 c) n))), (0, .ref (ad E 11 c)), (1, .ref (ad E 5 0))]) X dX1_finalFromSorted_16 rfl (by decide) rfl ?_
    refine k_aload_n X 1 dX1_finalFromSorted_17 rfl rfl ?_
    refine gt_X1_41 X hc dX1_finalFromSorted_18 ?_
    refine k_val (y := μ 11 c 9) (soM_k (by decide) n μ) ?_
    refine k_if_ne (tgt := 28) X dX1_finalFromSorted_21 (by decide) (fun c21 => ?_) (fun c21 => ?_)
    · refine k_sipush X 487 dX1_finalFromSorted_28 (by decide) ?_
      exact k_iret dX1_finalFromSorted_31 hE (by unfold fsI; rw [if_neg (fun h => c4 ((nI_z (by omega)).mpr h)), if_pos (Or.inl c21)]) (by unfold fsM; rw [if_neg (fun h => c4 ((nI_z (by omega)).mpr h))])
    · refine k_iload_n X 0 dX1_finalFromSorted_24 rfl rfl ?_
      refine k_if_ne (tgt := 32) X dX1_finalFromSorted_25 (by decide) (fun c25 => ?_) (fun c25 => ?_)
      · refine k_aload_n X 2 dX1_finalFromSorted_32 rfl rfl ?_
        refine k_iload_n X 0 dX1_finalFromSorted_33 rfl rfl ?_
        refine k_iconst X 1 dX1_finalFromSorted_34 (by decide) ?_
        refine k_isub X dX1_finalFromSorted_35 ?_
        refine k_val (y := nI (soN (μ 14 c) n - 1)) (nI_s1 (Nat.pos_of_ne_zero (fun h => c25 (by rw [h]; rfl)))) ?_
        refine k_iald (a := 5) (j := (soN (μ 14 c) n - 1)) X rfl (by decide) rfl (show soN (μ 14 c) n - 1 < 12 by have := soN_le (μ 14 c) n; omega) (by decide) dX1_finalFromSorted_36 ?_
        refine k_sipush X 600 dX1_finalFromSorted_37 (by decide) ?_
        refine k_icmp_lt (tgt := 51) X dX1_finalFromSorted_40 (by decide) (fun c40 => ?_) (fun c40 => ?_)
        · refine k_aload_n X 2 dX1_finalFromSorted_51 rfl rfl ?_
          refine k_iconst X (nI 0) dX1_finalFromSorted_52 (by decide) ?_
          refine k_iald (a := 5) (j := 0) X rfl (by decide) rfl (by decide) (by decide) dX1_finalFromSorted_53 ?_
          exact k_iret dX1_finalFromSorted_54 hE (by unfold fsI; rw [if_neg (fun h => c4 ((nI_z (by omega)).mpr h)), if_neg (fun h => h.elim (fun q => q c21) (fun q => c25 ((nI_z (by have := soN_le (μ 14 c) n; omega)).mpr q))), if_neg (Int32.not_le.mpr c40)]) (by unfold fsM; rw [if_neg (fun h => c4 ((nI_z (by omega)).mpr h))])
        · refine k_aload_n X 2 dX1_finalFromSorted_43 rfl rfl ?_
          refine k_iload_n X 0 dX1_finalFromSorted_44 rfl rfl ?_
          refine k_iconst X 1 dX1_finalFromSorted_45 (by decide) ?_
          refine k_isub X dX1_finalFromSorted_46 ?_
          refine k_val (y := nI (soN (μ 14 c) n - 1)) (nI_s1 (Nat.pos_of_ne_zero (fun h => c25 (by rw [h]; rfl)))) ?_
          refine k_iald (a := 5) (j := (soN (μ 14 c) n - 1)) X rfl (by decide) rfl (show soN (μ 14 c) n - 1 < 12 by have := soN_le (μ 14 c) n; omega) (by decide) dX1_finalFromSorted_47 ?_
          refine k_goto (tgt := 54) X dX1_finalFromSorted_48 (by decide) ?_
          exact k_iret dX1_finalFromSorted_54 hE (by unfold fsI; rw [if_neg (fun h => c4 ((nI_z (by omega)).mpr h)), if_neg (fun h => h.elim (fun q => q c21) (fun q => c25 ((nI_z (by have := soN_le (μ 14 c) n; omega)).mpr q))), if_pos (Int32.not_lt.mp c40)]) (by unfold fsM; rw [if_neg (fun h => c4 ((nI_z (by omega)).mpr h))])
      · refine k_sipush X 487 dX1_finalFromSorted_28 (by decide) ?_
        exact k_iret dX1_finalFromSorted_31 hE (by unfold fsI; rw [if_neg (fun h => c4 ((nI_z (by omega)).mpr h)), if_pos (Or.inr ((nI_z (by have := soN_le (μ 14 c) n; omega)).mp c25))]) (by unfold fsM; rw [if_neg (fun h => c4 ((nI_z (by omega)).mpr h))])
  · refine k_sipush X 480 dX1_finalFromSorted_7 (by decide) ?_
    exact k_iret dX1_finalFromSorted_10 hE (by unfold fsI; rw [if_pos ((nI_z (by omega)).mp c4)]) (by unfold fsM; rw [if_pos ((nI_z (by omega)).mp c4)])
end
section
/-! numbers that are small, by their value -/
def tN (x : Int32) : Nat := x.toNatClampNeg
def vN (x : Int32) (m : Nat) : Prop := x = nI (tN x) ∧ tN x ≤ m
theorem tN_nI {n : Nat} (h : n < 2 ^ 31) : tN (nI n) = n := nI_clamp h
theorem vN_nI {n m : Nat} (h : n ≤ m) (hm : m < 2 ^ 31) : vN (nI n) m := by
  unfold vN
  rw [tN_nI (by omega)]
  exact ⟨rfl, h⟩
theorem vN_of {x : Int32} {m : Nat} {M : Int32} (hM : M.toInt = m) (h0 : ¬ x < 0) (h : ¬ M < x) : vN x m := by
  obtain ⟨j, hj, rfl⟩ := nI_of2 hM h0 (Int32.not_lt.mp h)
  exact vN_nI hj (by have := Int32.toInt_lt M; omega)
/-! the registrar's rows -/
def thP (μ : Mem) (u : Nat) (now : Int32) (t : Nat) : Prop := ¬ μ 9 u t = -1 ∧ ¬ μ 8 u t ≤ now
theorem thP_dec (μ : Mem) (u : Nat) (now : Int32) (t : Nat) : (thP μ u now t ∨ ¬ thP μ u now t) := Classical.em _
def thB (μ : Mem) (u : Nat) (now : Int32) (t : Nat) : Bool := !decide (μ 9 u t = -1) && !decide (μ 8 u t ≤ now)
def coB (μ : Mem) (u : Nat) (left now : Int32) (t : Nat) : Bool := !decide (nI t = left) && thB μ u now t
def coN (μ : Mem) (u : Nat) (left now : Int32) : Nat := ctB (coB μ u left now) 16
def taP (μ : Mem) (u : Nat) (now w : Int32) (p : Nat) : Bool := thB μ u now (tN (μ 10 u p)) && decide (nI (ctB (fun j => thB μ u now (tN (μ 10 u j))) p) = w)
def taI (μ : Mem) (u m : Nat) (w now : Int32) : Int32 := if fsB (taP μ u now w) m < m then μ 10 u (fsB (taP μ u now w) m) else -1
theorem taI_no {μ : Mem} {u m : Nat} {w now : Int32} (h : ∀ i, i < m → taP μ u now w i = false) : taI μ u m w now = -1 := by
  unfold taI
  rw [fsB_no h, if_neg (Nat.lt_irrefl m)]
theorem taI_at {μ : Mem} {u m i : Nat} {w now : Int32} (hp : taP μ u now w i = true) (hb : ∀ j, j < i → taP μ u now w j = false) (h : i < m) : taI μ u m w now = μ 10 u i := by
  unfold taI
  rw [fsB_at hp hb h, if_pos h]
def puM (μ : Mem) (u m t : Nat) (q e s : Int32) : Mem :=
  st (st (st (if μ 9 u t = -1 ∧ m < 16 then st (st μ 10 u m (nI t)) 6 u 4 (nI (m + 1)) else μ) 7 u t q) 8 u t e) 9 u t s
/-! what the class's numbers keep to, so that no index leaves its row -/
def BI (μ : Mem) : Prop := ∀ u, u < 6 → vN (μ 6 u 4) 16 ∧ ∀ p, p < tN (μ 6 u 4) → vN (μ 10 u p) 15
def KI (μ : Mem) : Prop := ∀ c, c < 20 → vN (μ 11 c 4) 12 ∧ vN (μ 11 c 5) 11
def CI (μ : Mem) : Prop := vN (μ 0 0 5) 20 ∧ BI μ ∧ KI μ
/-! the forker's own -/
def outP (v most : Int32) : Prop := v < 0 ∨ most < v
theorem outP_n {v : Int32} {m : Nat} {M : Int32} (hM : M.toInt = m) (h : ¬ (v < 0 ∨ M < v)) : vN v m := vN_of hM (fun q => h (Or.inl q)) (fun q => h (Or.inr q))
def okU (u : Int32) : Prop := ¬ (u < 0 ∨ 5 < u)
def okC (μ : Mem) (x : Int32) : Prop := ¬ (x < 0 ∨ μ 0 0 5 - 1 < x)
theorem okU_n {u : Int32} (h : okU u) : u = nI (tN u) ∧ tN u < 6 := by
  have := outP_n (m := 5) (by decide) h
  exact ⟨this.1, Nat.lt_succ_of_le this.2⟩
theorem nI_T {n : Nat} (h : n < 2 ^ 31) : (nI n).toInt = n := nI_toInt h
theorem okC_n {μ : Mem} {x : Int32} (hK : vN (μ 0 0 5) 20) (h : okC μ x) : x = nI (tN x) ∧ tN x < tN (μ 0 0 5) ∧ tN x < 20 := by
  obtain ⟨h1, h2⟩ := hK
  unfold okC at h
  rcases Nat.eq_zero_or_pos (tN (μ 0 0 5)) with h0 | h0
  · exfalso
    rw [h1, h0] at h
    apply h
    rcases Int32.lt_or_le x 0 with q | q
    · exact Or.inl q
    · refine Or.inr ?_
      have e : (nI 0 - 1 : Int32) = -1 := by decide
      rw [e]
      exact Int32.lt_of_lt_of_le (by decide) q
  · rw [h1, nI_s1 h0] at h
    have := outP_n (M := nI (tN (μ 0 0 5) - 1)) (nI_T (by omega)) h
    exact ⟨this.1, by have := this.2; omega, by have := this.2; omega⟩
def naP (x : Int32) : Prop := ¬ x = 180 ∧ (x < 200 ∨ 699 < x)
def adM (μ : Mem) (c : Nat) (x y : Int32) : Mem := if frI (fun b => decide (μ 12 c b = x)) (tN (μ 11 c 4)) = -1 then addM μ c (tN (μ 11 c 4)) x y 0 else μ
def aeM (μ : Mem) (c : Nat) (y z : Int32) : Mem := addM μ c (tN (μ 11 c 4)) (-1) y z
/-- the way's first b places hold u -/
def owB (μ : Mem) (u : Int32) (b : Nat) : Bool := anB (fun p => decide (μ 4 0 p = u)) b
/-- to come to a user: behind is b, and F follows on -/
def cuG (F : Nat → Int32 → Mem → Mem) (b c u : Nat) (q : Int32) (μ : Mem) : Mem := if owB μ (nI u) b = true then aeM μ c q 482 else if 2 < b then aeM μ c q 483 else F u q μ
def fuS (G : Nat → Int32 → Mem → Mem) (b c u : Nat) (qw : Int32) (p : Nat) (μ : Mem) : Mem :=
  if thB μ u (μ 0 0 6) (tN (μ 10 u p)) = true then
    (if tN (μ 10 u p) < 10 then adM μ c (nI (tN (μ 10 u p))) (if b = 0 then μ 7 u (tN (μ 10 u p)) else qw)
     else G (tN (μ 10 u p) - 10) (if b = 0 then μ 7 u (tN (μ 10 u p)) else qw) μ)
  else μ
def fuL (G : Nat → Int32 → Mem → Mem) (b c u : Nat) (qw : Int32) : Nat → Mem → Mem
  | 0, μ => μ
  | p + 1, μ => fuS G b c u qw p (fuL G b c u qw p μ)
def fuG (G : Nat → Int32 → Mem → Mem) (b c u : Nat) (qw : Int32) (μ : Mem) : Mem := fuL G b c u qw (tN (μ 6 u 4)) (st μ 4 0 b (nI u))
def cu3 (c u : Nat) (q : Int32) (μ : Mem) : Mem := cuG (fun _ _ μ => μ) 3 c u q μ
def fu2 (c u : Nat) (q : Int32) (μ : Mem) : Mem := fuG (cu3 c) 2 c u q μ
def cu2 (c u : Nat) (q : Int32) (μ : Mem) : Mem := cuG (fu2 c) 2 c u q μ
def fu1 (c u : Nat) (q : Int32) (μ : Mem) : Mem := fuG (cu2 c) 1 c u q μ
def cu1 (c u : Nat) (q : Int32) (μ : Mem) : Mem := cuG (fu1 c) 1 c u q μ
def fu0 (c u : Nat) (q : Int32) (μ : Mem) : Mem := fuG (cu1 c) 0 c u q μ
/-- kinds of cells that the finding of branches leaves alone -/
def FR (μ μ' : Mem) : Prop := (∀ k o i, k ≠ 4 → k ≠ 11 → k ≠ 12 → k ≠ 13 → k ≠ 14 → μ' k o i = μ k o i) ∧ ∀ o i, i ≠ 4 → μ' 11 o i = μ 11 o i
theorem FR.refl (μ : Mem) : FR μ μ := ⟨fun _ _ _ _ _ _ _ _ => rfl, fun _ _ _ => rfl⟩
theorem FR.trans {a b d : Mem} (h : FR a b) (h2 : FR b d) : FR a d := ⟨fun k o i a1 a2 a3 a4 a5 => (h2.1 k o i a1 a2 a3 a4 a5).trans (h.1 k o i a1 a2 a3 a4 a5), fun o i hi => (h2.2 o i hi).trans (h.2 o i hi)⟩
/-- .. and how many branches there are stays small, the other calls' stay -/
def FC (c : Nat) (μ μ' : Mem) : Prop := FR μ μ' ∧ (vN (μ 11 c 4) 12 → vN (μ' 11 c 4) 12) ∧ ∀ k o i, 11 ≤ k → o ≠ c → μ' k o i = μ k o i
theorem FC.refl (c : Nat) (μ : Mem) : FC c μ μ := ⟨FR.refl μ, fun h => h, fun _ _ _ _ _ => rfl⟩
theorem FC.trans {c : Nat} {a b d : Mem} (h : FC c a b) (h2 : FC c b d) : FC c a d := ⟨h.1.trans h2.1, fun q => h2.2.1 (h.2.1 q), fun k o i hk ho => (h2.2.2 k o i hk ho).trans (h.2.2 k o i hk ho)⟩
theorem addM_FC {μ : Mem} {c n : Nat} {x y z : Int32} (hn : n ≤ 12) : FC c μ (addM μ c n x y z) := by
  unfold addM
  split
  · refine ⟨⟨fun k o i a1 a2 a3 a4 a5 => by simp [st, a2, a3, a4, a5], fun o i hi => by simp [st, hi]⟩, fun _ => ?_, fun k o i hk ho => by simp [st, ho]⟩
    rw [show st (st (st (st μ 12 c n x) 13 c n y) 14 c n z) 11 c 4 (nI (n + 1)) 11 c 4 = nI (n + 1) from st_same]
    exact vN_nI (by omega) (by decide)
  · exact FC.refl c μ
theorem adM_FC {μ : Mem} {c : Nat} {x y : Int32} (h : vN (μ 11 c 4) 12) : FC c μ (adM μ c x y) := by
  unfold adM
  split
  · exact addM_FC h.2
  · exact FC.refl c μ
theorem aeM_FC {μ : Mem} {c : Nat} {y z : Int32} (h : vN (μ 11 c 4) 12) : FC c μ (aeM μ c y z) := addM_FC h.2
theorem cuG_FC {F : Nat → Int32 → Mem → Mem} {b c u : Nat} {q : Int32} {μ : Mem} (h : vN (μ 11 c 4) 12) (hF : b ≤ 2 → FC c μ (F u q μ)) : FC c μ (cuG F b c u q μ) := by
  unfold cuG
  split
  · exact aeM_FC h
  · split
    · exact aeM_FC h
    · exact hF (by omega)
theorem fuS_FC {G : Nat → Int32 → Mem → Mem} {b c u p : Nat} {qw : Int32} {μ : Mem} (h : vN (μ 11 c 4) 12) (hG : ∀ u q, FC c μ (G u q μ)) : FC c μ (fuS G b c u qw p μ) := by
  unfold fuS
  split
  · split
    · exact adM_FC h
    · exact hG _ _
  · exact FC.refl c μ
theorem fuL_FC {G : Nat → Int32 → Mem → Mem} {b c u : Nat} {qw : Int32} {μ : Mem} (h : vN (μ 11 c 4) 12) (hG : ∀ μ u q, vN (μ 11 c 4) 12 → FC c μ (G u q μ)) : ∀ p, FC c μ (fuL G b c u qw p μ)
  | 0 => FC.refl c μ
  | p + 1 => by
    have h1 := fuL_FC h hG (b := b) (u := u) (qw := qw) p
    exact h1.trans (fuS_FC (h1.2.1 h) (fun u q => hG _ u q (h1.2.1 h)))
theorem way_FC {μ : Mem} {c b : Nat} {x : Int32} : FC c μ (st μ 4 0 b x) := ⟨⟨fun k o i a1 _ _ _ _ => st_k a1, fun o i _ => st_k (by decide)⟩, fun h => by rw [st_k (by decide)]; exact h, fun k o i hk _ => st_k (by omega)⟩
theorem fuG_FC {G : Nat → Int32 → Mem → Mem} {b c u : Nat} {qw : Int32} {μ : Mem} (h : vN (μ 11 c 4) 12) (hG : ∀ μ u q, vN (μ 11 c 4) 12 → FC c μ (G u q μ)) : FC c μ (fuG G b c u qw μ) :=
  (way_FC (b := b) (x := nI u)).trans (fuL_FC (by rw [st_k (by decide)]; exact h) hG _)
theorem cu3_FC {c : Nat} (μ : Mem) (u : Nat) (q : Int32) (h : vN (μ 11 c 4) 12) : FC c μ (cu3 c u q μ) := cuG_FC h (fun q => absurd q (by decide))
theorem fu2_FC {c : Nat} (μ : Mem) (u : Nat) (q : Int32) (h : vN (μ 11 c 4) 12) : FC c μ (fu2 c u q μ) := fuG_FC h cu3_FC
theorem cu2_FC {c : Nat} (μ : Mem) (u : Nat) (q : Int32) (h : vN (μ 11 c 4) 12) : FC c μ (cu2 c u q μ) := cuG_FC h (fun _ => fu2_FC μ u q h)
theorem fu1_FC {c : Nat} (μ : Mem) (u : Nat) (q : Int32) (h : vN (μ 11 c 4) 12) : FC c μ (fu1 c u q μ) := fuG_FC h cu2_FC
theorem cu1_FC {c : Nat} (μ : Mem) (u : Nat) (q : Int32) (h : vN (μ 11 c 4) 12) : FC c μ (cu1 c u q μ) := cuG_FC h (fun _ => fu1_FC μ u q h)
theorem fu0_FC {c : Nat} (μ : Mem) (u : Nat) (q : Int32) (h : vN (μ 11 c 4) 12) : FC c μ (fu0 c u q μ) := fuG_FC h cu1_FC
theorem BI.fr {μ μ' : Mem} (h : BI μ) (f : FR μ μ') : BI μ' := by
  intro u hu
  obtain ⟨h1, h2⟩ := h u hu
  have e6 : μ' 6 u 4 = μ 6 u 4 := f.1 6 u 4 (by decide) (by decide) (by decide) (by decide) (by decide)
  rw [e6]
  refine ⟨h1, fun p hp => ?_⟩
  rw [f.1 10 u p (by decide) (by decide) (by decide) (by decide) (by decide)]
  exact h2 p hp
def clM (μ : Mem) (u : Nat) : Mem :=
  st (bgM (fu0 (tN (μ 0 0 5)) u (-1) μ) (tN (μ 0 0 5)) (tN (fu0 (tN (μ 0 0 5)) u (-1) μ 11 (tN (μ 0 0 5)) 4)) (tN (μ 11 (tN (μ 0 0 5)) 5)) (μ 0 0 6)) 0 0 5 (nI (tN (μ 0 0 5) + 1))
def etM' (μ : Mem) (c : Nat) : Mem := etM μ c (tN (μ 11 c 4)) (tN (μ 11 c 5)) (μ 0 0 6)
def etI' (μ : Mem) (c : Nat) : Int32 := etI μ c (tN (μ 11 c 4)) (tN (μ 11 c 5)) (μ 0 0 6)
def lcM : Nat → Mem → Mem
  | 0, μ => μ
  | c + 1, μ => etM' (lcM c μ) c
def lcN : Nat → Mem → Nat
  | 0, _ => 0
  | c + 1, μ => lcN c μ + (if etI' (lcM c μ) c = 0 then 0 else 1)
def tkM (μ : Mem) : Mem := st μ 0 0 6 (μ 0 0 6 + 1)
def psM : Nat → Mem → Mem
  | 0, μ => μ
  | i + 1, μ => lcM (tN (μ 0 0 5)) (tkM (psM i μ))
def psN : Nat → Mem → Int32
  | 0, _ => 0
  | i + 1, μ => psN i μ + nI (lcN (tN (μ 0 0 5)) (tkM (psM i μ)))

theorem taI_v {μ : Mem} {u m : Nat} {w now : Int32} (hv : ∀ p, p < m → vN (μ 10 u p) 15) (h : ¬ taI μ u m w now = -1) : vN (taI μ u m w now) 15 := by
  unfold taI at h ⊢
  split
  · exact hv _ (by assumption)
  · rename_i q
    rw [if_neg q] at h
    exact absurd rfl h
theorem frI_b {p : Nat → Bool} {n : Nat} (h : ¬ frI p n = -1) : fsB p n < n ∧ frI p n = nI (fsB p n) := by
  unfold frI at h ⊢
  by_cases q : fsB p n < n
  · exact ⟨q, if_pos q⟩
  · rw [if_neg q] at h
    exact absurd rfl h
def okB (μ : Mem) (x y : Int32) : Prop := ¬ (y < 0 ∨ μ 11 (tN x) 4 - 1 < y)
theorem okB_n {μ : Mem} {x y : Int32} (hn : vN (μ 11 (tN x) 4) 12) (h : okB μ x y) : y = nI (tN y) ∧ tN y < tN (μ 11 (tN x) 4) ∧ tN y < 12 := by
  obtain ⟨h1, h2⟩ := hn
  unfold okB at h
  rcases Nat.eq_zero_or_pos (tN (μ 11 (tN x) 4)) with h0 | h0
  · exfalso
    rw [h1, h0] at h
    apply h
    rcases Int32.lt_or_le y 0 with q | q
    · exact Or.inl q
    · refine Or.inr ?_
      have e : (nI 0 - 1 : Int32) = -1 := by decide
      rw [e]
      exact Int32.lt_of_lt_of_le (by decide) q
  · rw [h1, nI_s1 h0] at h
    have := outP_n (M := nI (tN (μ 11 (tN x) 4) - 1)) (nI_T (by omega)) h
    exact ⟨this.1, by have := this.2; omega, by have := this.2; omega⟩
def rgOk (tg q tk sq : Int32) : Prop := ¬ (tg < 0 ∨ 15 < tg) ∧ ¬ (q < 0 ∨ 10 < q) ∧ ¬ (tk < 0 ∨ 1000 < tk) ∧ ¬ (sq < 0 ∨ 10000 < sq)
def rgOk2 (μ : Mem) (u : Nat) (tg tk sq : Int32) : Prop := μ 9 u (tN tg) < sq ∧ (tk = 0 ∨ nI (coN μ u tg (μ 0 0 6)) < 6)
def rgM' (μ : Mem) (u : Nat) (tg q tk sq : Int32) : Mem := puM μ u (tN (μ 6 u 4)) (tN tg) q (μ 0 0 6 + tk) sq
def anOk (dv cd : Int32) : Prop := ¬ (dv < 0 ∨ 9 < dv) ∧ ¬ (¬ cd = 180 ∧ (cd < 200 ∨ 699 < cd))
def anBr (μ : Mem) (c : Nat) (dv : Int32) : Nat := fsB (fun b => decide (μ 12 c b = dv)) (tN (μ 11 c 4))
def anOk2 (μ : Mem) (c : Nat) (dv cd : Int32) : Prop :=
  ¬ frI (fun b => decide (μ 12 c b = dv)) (tN (μ 11 c 4)) = -1 ∧ μ 11 c 5 ≤ μ 13 c (anBr μ c dv) ∧
  (¬ 200 ≤ μ 14 c (anBr μ c dv) ∨ ((¬ cd < 200 ∧ ¬ 300 ≤ cd) ∧ (μ 14 c (anBr μ c dv) = 487 ∨ μ 14 c (anBr μ c dv) = 408) ∧ μ 15 c (anBr μ c dv) = 0))
def anM (μ : Mem) (c : Nat) (dv cd : Int32) : Mem :=
  if 200 ≤ μ 14 c (anBr μ c dv) then st (st μ 15 c (anBr μ c dv) 1) 3 0 (tN dv) (μ 3 0 (tN dv) + 1)
  else taM μ c (tN (μ 11 c 4)) (tN (μ 11 c 5)) (anBr μ c dv) cd (μ 0 0 6)
end
section
set_option maxHeartbeats 4000000 in
set_option maxRecDepth 100000 in
theorem C_X0_isThere {E : EE} {μ : Mem} (u t : Nat) (x now : Int32) (hu : u < 6) (ht : t < 16) (hx : x = nI t) : MM E yX0_isThere cX0_isThere 3 (some .boolean) (rm 1 0) [.ref (ad E 6 u), .int x, .int now] μ (some (.int (bp (thB μ u now t = true)))) μ := by
  refine MM.int (own := RX0) [(0, .ref (ad E 6 u)), (1, .int x), (2, .int now)] rfl rfl rfl (Nat.le_of_ble_eq_true rfl) bp_nar (fun C X hE => ?_)
  refine k_aload_n X 0 dX0_isThere_0 rfl rfl ?_
  refine gt_X0_18 X hu dX0_isThere_1 ?_
  refine k_iload_n X 1 dX0_isThere_4 rfl rfl ?_
  refine k_iald (a := 9) (j := t) X rfl hu hx ht (by decide) dX0_isThere_5 ?_
  refine k_iconst X (-1) dX0_isThere_6 (by decide) ?_
  refine k_icmp_eq (tgt := 24) X dX0_isThere_7 (by decide) (fun c7 => ?_) (fun c7 => ?_)
  · refine k_iconst X 0 dX0_isThere_24 (by decide) ?_
    exact k_iret dX0_isThere_25 hE (bp_f (by unfold thB; rw [decide_eq_true c7]; simp)).symm rfl
  · refine k_iload_n X 2 dX0_isThere_10 rfl rfl ?_
    refine k_aload_n X 0 dX0_isThere_11 rfl rfl ?_
    refine gt_X0_15 X hu dX0_isThere_12 ?_
    refine k_iload_n X 1 dX0_isThere_15 rfl rfl ?_
    refine k_iald (a := 8) (j := t) X rfl hu hx ht (by decide) dX0_isThere_16 ?_
    refine k_icmp_ge (tgt := 24) X dX0_isThere_17 (by decide) (fun c17 => ?_) (fun c17 => ?_)
    · refine k_iconst X 0 dX0_isThere_24 (by decide) ?_
      exact k_iret dX0_isThere_25 hE (bp_f (by unfold thB; rw [decide_eq_true c17]; simp)).symm rfl
    · refine k_iconst X 1 dX0_isThere_20 (by decide) ?_
      refine k_goto (tgt := 25) X dX0_isThere_21 (by decide) ?_
      exact k_iret dX0_isThere_25 hE (bp_t (by unfold thB; rw [decide_eq_false c7, decide_eq_false c17]; rfl)).symm rfl

set_option maxHeartbeats 4000000 in
set_option maxRecDepth 100000 in
theorem L_X0_countOthers {E : EE} {μ : Mem} {C : Ctx} (u : Nat) (left now : Int32) (hu : u < 6) (X : Cx E C cX0_countOthers RX0 5 (rm 2 0)) (hE : EndI E C cX0_countOthers 0 0 (nI (coN μ u left now)) μ) : ∀ (f : Nat) (i : Nat), 16 - i < f → i ≤ 16 → KF E C 0 0 μ 5 [(4, .int (nI i)), (3, .int (nI (ctB (coB μ u left now) i))), (0, .ref (ad E 6 u)), (1, .int left), (2, .int now)] [] := by
  intro f
  induction f with
  | zero => intros; omega
  | succ f ih =>
    intro i hf hi
    refine k_iload X 0 dX0_countOthers_5 rfl ?_
    refine k_bipush X 16 dX0_countOthers_7 (by decide) ?_
    refine k_ge_n (a := i) (b := 16) (tgt := 37) X dX0_countOthers_9 (by decide) rfl rfl (by omega) (by decide) (fun c9 => ?_) (fun c9 => ?_)
    · refine k_iload_n X 1 dX0_countOthers_37 rfl rfl ?_
      exact k_iret dX0_countOthers_38 hE (by rw [show i = 16 by omega]; rfl) rfl
    · refine k_iload X 0 dX0_countOthers_12 rfl ?_
      refine k_iload_n X 3 dX0_countOthers_14 rfl rfl ?_
      refine k_icmp_eq (tgt := 31) X dX0_countOthers_15 (by decide) (fun c15 => ?_) (fun c15 => ?_)
      · refine k_iinc (v := nI (i + 1)) (L' := [(4, .int (nI (i + 1))), (3, .int (nI (ctB (coB μ u left now) i))), (0, .ref (ad E 6 u)), (1, .int left), (2, .int now)]) X 0 dX0_countOthers_31 rfl (nI_1 i) (by decide) rfl ?_
        refine k_goto (tgt := 5) X dX0_countOthers_34 (by decide) ?_
        have e1 := ctB_f (p := (coB μ u left now)) (n := i) (by unfold coB; rw [decide_eq_true c15]; rfl)
        rw [← e1]
        exact ih (i + 1) (by omega) (by omega)
      · refine k_aload_n X 2 dX0_countOthers_18 rfl rfl ?_
        refine k_iload X 0 dX0_countOthers_19 rfl ?_
        refine k_iload_n X 4 dX0_countOthers_21 rfl rfl ?_
        refine k_callV (a := 6) (o := u) (As := [.int (nI i), .int now]) (S := []) X lk_X0_32 rfl hu rfl (C_X0_isThere u i _ _ hu (by omega) rfl) rfl rfl (Nat.le_of_ble_eq_true rfl) ⟨Nat.le_of_ble_eq_true rfl, Nat.le_of_ble_eq_true rfl⟩ ⟨Nat.le_of_ble_eq_true rfl, Nat.le_of_ble_eq_true rfl⟩ dX0_countOthers_22 ?_
        show KF E C 0 0 μ 25 _ [.int (bp (thB μ u now i = true))]
        refine k_if_eq_p (tgt := 31) X dX0_countOthers_25 (by decide) (fun c25 => ?_) (fun c25 => ?_)
        · refine k_iinc (v := nI (i + 1)) (L' := [(4, .int (nI (i + 1))), (3, .int (nI (ctB (coB μ u left now) i))), (0, .ref (ad E 6 u)), (1, .int left), (2, .int now)]) X 0 dX0_countOthers_31 rfl (nI_1 i) (by decide) rfl ?_
          refine k_goto (tgt := 5) X dX0_countOthers_34 (by decide) ?_
          have e1 := ctB_f (p := (coB μ u left now)) (n := i) (by unfold coB; rw [decide_eq_false c15, Bool.eq_false_iff.mpr c25]; rfl)
          rw [← e1]
          exact ih (i + 1) (by omega) (by omega)
        · refine k_iinc (v := nI (ctB (coB μ u left now) i + 1)) (L' := [(3, .int (nI (ctB (coB μ u left now) i + 1))), (4, .int (nI i)), (0, .ref (ad E 6 u)), (1, .int left), (2, .int now)]) X 1 dX0_countOthers_28 rfl (nI_1 _) (by decide) rfl ?_
          refine k_iinc (v := nI (i + 1)) (L' := [(4, .int (nI (i + 1))), (3, .int (nI (ctB (coB μ u left now) i + 1))), (0, .ref (ad E 6 u)), (1, .int left), (2, .int now)]) X 1 dX0_countOthers_31 rfl (nI_1 i) (by decide) rfl ?_
          refine k_goto (tgt := 5) X dX0_countOthers_34 (by decide) ?_
          have e1 := ctB_t (p := (coB μ u left now)) (n := i) (by unfold coB; rw [decide_eq_false c15, c25]; rfl)
          rw [← e1]
          exact ih (i + 1) (by omega) (by omega)

set_option maxHeartbeats 4000000 in
set_option maxRecDepth 100000 in
theorem C_X0_countOthers {E : EE} {μ : Mem} (u : Nat) (left now : Int32) (hu : u < 6) : MM E yX0_countOthers cX0_countOthers 5 (some .int) (rm 2 0) [.ref (ad E 6 u), .int left, .int now] μ (some (.int (nI (coN μ u left now)))) μ := by
  refine MM.int (own := RX0) [(0, .ref (ad E 6 u)), (1, .int left), (2, .int now)] rfl rfl rfl (Nat.le_of_ble_eq_true rfl) rfl (fun C X hE => ?_)
  refine k_iconst X (nI 0) dX0_countOthers_0 (by decide) ?_
  refine k_istore_n (L' := [(3, .int (nI 0)), (0, .ref (ad E 6 u)), (1, .int left), (2, .int now)]) X dX0_countOthers_1 rfl (by decide) rfl ?_
  refine k_iconst X (nI 0) dX0_countOthers_2 (by decide) ?_
  refine k_istore (L' := [(4, .int (nI 0)), (3, .int (nI 0)), (0, .ref (ad E 6 u)), (1, .int left), (2, .int now)]) X dX0_countOthers_3 (by decide) rfl ?_
  exact L_X0_countOthers u left now hu X hE 17 0 (by decide) (by decide)

set_option maxHeartbeats 4000000 in
set_option maxRecDepth 100000 in
theorem C_X0_count {E : EE} {μ : Mem} (u : Nat) (now : Int32) (hu : u < 6) : MM E yX0_count cX0_count 2 (some .int) (rm 3 0) [.ref (ad E 6 u), .int now] μ (some (.int (nI (coN μ u (-1) now)))) μ := by
  refine MM.int (own := RX0) [(0, .ref (ad E 6 u)), (1, .int now)] rfl rfl rfl (Nat.le_of_ble_eq_true rfl) rfl (fun C X hE => ?_)
  refine k_aload_n X 0 dX0_count_0 rfl rfl ?_
  refine k_iconst X (-1) dX0_count_1 (by decide) ?_
  refine k_iload_n X 1 dX0_count_2 rfl rfl ?_
  refine k_callV (a := 6) (o := u) (As := [.int (-1), .int now]) (S := []) X lk_X0_28 rfl hu rfl (C_X0_countOthers u _ _ hu) rfl rfl (Nat.le_of_ble_eq_true rfl) ⟨Nat.le_of_ble_eq_true rfl, Nat.le_of_ble_eq_true rfl⟩ ⟨Nat.le_of_ble_eq_true rfl, Nat.le_of_ble_eq_true rfl⟩ dX0_count_3 ?_
  show KF E C 0 0 μ 6 _ [.int (nI (coN μ u (-1) now))]
  exact k_iret dX0_count_6 hE rfl rfl

set_option maxHeartbeats 4000000 in
set_option maxRecDepth 100000 in
theorem L_X0_targetAt {E : EE} {μ : Mem} {C : Ctx} (u m : Nat) (w now : Int32) (hu : u < 6) (hm : μ 6 u 4 = nI m) (hm16 : m ≤ 16) (hv : ∀ p, p < m → vN (μ 10 u p) 15) (X : Cx E C cX0_targetAt RX0 6 (rm 2 0)) (hE : EndI E C cX0_targetAt 0 0 (taI μ u m w now) μ) : ∀ (f : Nat) (i : Nat), m - i < f → i ≤ m → (∀ j, j < i → taP μ u now w j = false) → KF E C 0 0 μ 5 [(4, .int (nI i)), (3, .int (nI (ctB (fun j => thB μ u now (tN (μ 10 u j))) i))), (0, .ref (ad E 6 u)), (1, .int w), (2, .int now)] [] := by
  intro f
  induction f with
  | zero => intros; omega
  | succ f ih =>
    intro i hf hi hno
    refine k_iload X 0 dX0_targetAt_5 rfl ?_
    refine k_aload_n X 2 dX0_targetAt_7 rfl rfl ?_
    refine gt_X0_24 X hu dX0_targetAt_8 ?_
    refine k_val (y := nI m) hm ?_
    refine k_ge_n (a := i) (b := m) (tgt := 50) X dX0_targetAt_11 (by decide) rfl rfl (by omega) (by omega) (fun c11 => ?_) (fun c11 => ?_)
    · refine k_iconst X (-1) dX0_targetAt_50 (by decide) ?_
      exact k_iret dX0_targetAt_51 hE (taI_no (fun j hj => hno j (by omega))).symm rfl
    · refine k_aload_n X 2 dX0_targetAt_14 rfl rfl ?_
      refine gt_X0_21 X hu dX0_targetAt_15 ?_
      refine k_iload X 0 dX0_targetAt_18 rfl ?_
      refine k_iald (a := 10) (j := i) X rfl hu rfl (show i < 16 by omega) (by decide) dX0_targetAt_20 ?_
      refine k_val (y := nI (tN (μ 10 u i))) (hv i c11).1 ?_
      refine k_istore (L' := [(5, .int (nI (tN (μ 10 u i)))), (4, .int (nI i)), (3, .int (nI (ctB (fun j => thB μ u now (tN (μ 10 u j))) i))), (0, .ref (ad E 6 u)), (1, .int w), (2, .int now)]) X dX0_targetAt_21 (by decide) rfl ?_
      refine k_aload_n X 3 dX0_targetAt_23 rfl rfl ?_
      refine k_iload X 0 dX0_targetAt_24 rfl ?_
      refine k_iload_n X 5 dX0_targetAt_26 rfl rfl ?_
      refine k_callV (a := 6) (o := u) (As := [.int (nI (tN (μ 10 u i))), .int now]) (S := []) X lk_X0_32 rfl hu rfl (C_X0_isThere u (tN (μ 10 u i)) _ _ hu (Nat.lt_succ_of_le (hv i c11).2) rfl) rfl rfl (Nat.le_of_ble_eq_true rfl) ⟨Nat.le_of_ble_eq_true rfl, Nat.le_of_ble_eq_true rfl⟩ ⟨Nat.le_of_ble_eq_true rfl, Nat.le_of_ble_eq_true rfl⟩ dX0_targetAt_27 ?_
      show KF E C 0 0 μ 30 _ [.int (bp (thB μ u now (tN (μ 10 u i)) = true))]
      refine k_if_eq_p (tgt := 44) X dX0_targetAt_30 (by decide) (fun c30 => ?_) (fun c30 => ?_)
      · refine k_iinc (v := nI (i + 1)) (L' := [(4, .int (nI (i + 1))), (5, .int (nI (tN (μ 10 u i)))), (3, .int (nI (ctB (fun j => thB μ u now (tN (μ 10 u j))) i))), (0, .ref (ad E 6 u)), (1, .int w), (2, .int now)]) X 1 dX0_targetAt_44 rfl (nI_1 i) (by decide) rfl ?_
        refine k_goto (tgt := 5) X dX0_targetAt_47 (by decide) ?_
        have e1 := ctB_f (p := (fun j => thB μ u now (tN (μ 10 u j)))) (n := i) (Bool.eq_false_iff.mpr c30)
        refine k_pick (L' := [(4, .int (nI (i + 1))), (3, .int (nI (ctB (fun j => thB μ u now (tN (μ 10 u j))) i))), (0, .ref (ad E 6 u)), (1, .int w), (2, .int now)]) [0, 2, 3, 4, 5] rfl ?_
        rw [← e1]
        exact ih (i + 1) (by omega) (by omega) (fun j hj => if e : j = i then e ▸ (by unfold taP; rw [Bool.eq_false_iff.mpr c30]; rfl) else hno j (by omega))
      · refine k_iload_n X 2 dX0_targetAt_33 rfl rfl ?_
        refine k_iload_n X 4 dX0_targetAt_34 rfl rfl ?_
        refine k_icmp_ne (tgt := 41) X dX0_targetAt_35 (by decide) (fun c35 => ?_) (fun c35 => ?_)
        · refine k_iinc (v := nI (ctB (fun j => thB μ u now (tN (μ 10 u j))) i + 1)) (L' := [(3, .int (nI (ctB (fun j => thB μ u now (tN (μ 10 u j))) i + 1))), (5, .int (nI (tN (μ 10 u i)))), (4, .int (nI i)), (0, .ref (ad E 6 u)), (1, .int w), (2, .int now)]) X 2 dX0_targetAt_41 rfl (nI_1 _) (by decide) rfl ?_
          refine k_iinc (v := nI (i + 1)) (L' := [(4, .int (nI (i + 1))), (3, .int (nI (ctB (fun j => thB μ u now (tN (μ 10 u j))) i + 1))), (5, .int (nI (tN (μ 10 u i)))), (0, .ref (ad E 6 u)), (1, .int w), (2, .int now)]) X 2 dX0_targetAt_44 rfl (nI_1 i) (by decide) rfl ?_
          refine k_goto (tgt := 5) X dX0_targetAt_47 (by decide) ?_
          have e1 := ctB_t (p := (fun j => thB μ u now (tN (μ 10 u j)))) (n := i) c30
          refine k_pick (L' := [(4, .int (nI (i + 1))), (3, .int (nI (ctB (fun j => thB μ u now (tN (μ 10 u j))) i + 1))), (0, .ref (ad E 6 u)), (1, .int w), (2, .int now)]) [0, 1, 3, 4, 5] rfl ?_
          rw [← e1]
          exact ih (i + 1) (by omega) (by omega) (fun j hj => if e : j = i then e ▸ (by unfold taP; rw [decide_eq_false c35]; simp) else hno j (by omega))
        · refine k_iload X 0 dX0_targetAt_38 rfl ?_
          exact k_iret dX0_targetAt_40 hE ((hv i c11).1.symm.trans (taI_at (by unfold taP; rw [c30, decide_eq_true c35]; rfl) hno (by omega)).symm) rfl

set_option maxHeartbeats 4000000 in
set_option maxRecDepth 100000 in
theorem C_X0_targetAt {E : EE} {μ : Mem} (u m : Nat) (w now : Int32) (hu : u < 6) (hm : μ 6 u 4 = nI m) (hm16 : m ≤ 16) (hv : ∀ p, p < m → vN (μ 10 u p) 15) : MM E yX0_targetAt cX0_targetAt 6 (some .int) (rm 2 0) [.ref (ad E 6 u), .int w, .int now] μ (some (.int (taI μ u m w now))) μ := by
  refine MM.int (own := RX0) [(0, .ref (ad E 6 u)), (1, .int w), (2, .int now)] rfl rfl rfl (Nat.le_of_ble_eq_true rfl) rfl (fun C X hE => ?_)
  refine k_iconst X (nI 0) dX0_targetAt_0 (by decide) ?_
  refine k_istore_n (L' := [(3, .int (nI 0)), (0, .ref (ad E 6 u)), (1, .int w), (2, .int now)]) X dX0_targetAt_1 rfl (by decide) rfl ?_
  refine k_iconst X (nI 0) dX0_targetAt_2 (by decide) ?_
  refine k_istore (L' := [(4, .int (nI 0)), (3, .int (nI 0)), (0, .ref (ad E 6 u)), (1, .int w), (2, .int now)]) X dX0_targetAt_3 (by decide) rfl ?_
  exact L_X0_targetAt u m w now hu hm hm16 hv X hE (m + 1) 0 (by omega) (Nat.zero_le m) (fun j hj => absurd hj (Nat.not_lt_zero j))

set_option maxHeartbeats 4000000 in
set_option maxRecDepth 100000 in
theorem C_X0_put {E : EE} {μ : Mem} (u m t : Nat) (x q e s : Int32) (hu : u < 6) (hm : μ 6 u 4 = nI m) (hm16 : m ≤ 16) (ht : t < 16) (hx : x = nI t) : MM E yX0_put cX0_put 5 none (rm 1 0) [.ref (ad E 6 u), .int x, .int q, .int e, .int s] μ none (puM μ u m t q e s) := by
  refine MM.void (own := RX0) [(0, .ref (ad E 6 u)), (1, .int x), (2, .int q), (3, .int e), (4, .int s)] rfl rfl rfl (Nat.le_of_ble_eq_true rfl) (fun C X hE => ?_)
  refine k_aload_n X 0 dX0_put_0 rfl rfl ?_
  refine gt_X0_18 X hu dX0_put_1 ?_
  refine k_iload_n X 1 dX0_put_4 rfl rfl ?_
  refine k_iald (a := 9) (j := t) X rfl hu hx ht (by decide) dX0_put_5 ?_
  refine k_iconst X (-1) dX0_put_6 (by decide) ?_
  refine k_icmp_ne (tgt := 39) X dX0_put_7 (by decide) (fun c7 => ?_) (fun c7 => ?_)
  · refine k_aload_n X 0 dX0_put_39 rfl rfl ?_
    refine gt_X0_9 X hu dX0_put_40 ?_
    refine k_iload_n X 1 dX0_put_43 rfl rfl ?_
    refine k_iload_n X 2 dX0_put_44 rfl rfl ?_
    refine k_iast (a := 7) (j := t) X rfl hu hx ht (by decide) dX0_put_45 ?_
    refine k_aload_n X 0 dX0_put_46 rfl rfl ?_
    refine gt_X0_15 X hu dX0_put_47 ?_
    refine k_iload_n X 1 dX0_put_50 rfl rfl ?_
    refine k_iload_n X 3 dX0_put_51 rfl rfl ?_
    refine k_iast (a := 8) (j := t) X rfl hu hx ht (by decide) dX0_put_52 ?_
    refine k_aload_n X 0 dX0_put_53 rfl rfl ?_
    refine gt_X0_18 X hu dX0_put_54 ?_
    refine k_iload_n X 1 dX0_put_57 rfl rfl ?_
    refine k_iload X 4 dX0_put_58 rfl ?_
    refine k_iast (a := 9) (j := t) X rfl hu hx ht (by decide) dX0_put_60 ?_
    exact k_vret dX0_put_61 hE (by unfold puM; rw [if_neg (fun h => c7 h.1)])
  · refine k_aload_n X 0 dX0_put_10 rfl rfl ?_
    refine gt_X0_24 X hu dX0_put_11 ?_
    refine k_val (y := nI m) hm ?_
    refine k_bipush X 16 dX0_put_14 (by decide) ?_
    refine k_ge_n (a := m) (b := 16) (tgt := 39) X dX0_put_16 (by decide) rfl rfl (by omega) (by decide) (fun c16 => ?_) (fun c16 => ?_)
    · refine k_aload_n X 0 dX0_put_39 rfl rfl ?_
      refine gt_X0_9 X hu dX0_put_40 ?_
      refine k_iload_n X 1 dX0_put_43 rfl rfl ?_
      refine k_iload_n X 2 dX0_put_44 rfl rfl ?_
      refine k_iast (a := 7) (j := t) X rfl hu hx ht (by decide) dX0_put_45 ?_
      refine k_aload_n X 0 dX0_put_46 rfl rfl ?_
      refine gt_X0_15 X hu dX0_put_47 ?_
      refine k_iload_n X 1 dX0_put_50 rfl rfl ?_
      refine k_iload_n X 3 dX0_put_51 rfl rfl ?_
      refine k_iast (a := 8) (j := t) X rfl hu hx ht (by decide) dX0_put_52 ?_
      refine k_aload_n X 0 dX0_put_53 rfl rfl ?_
      refine gt_X0_18 X hu dX0_put_54 ?_
      refine k_iload_n X 1 dX0_put_57 rfl rfl ?_
      refine k_iload X 4 dX0_put_58 rfl ?_
      refine k_iast (a := 9) (j := t) X rfl hu hx ht (by decide) dX0_put_60 ?_
      exact k_vret dX0_put_61 hE (by unfold puM; rw [if_neg (fun h => absurd h.2 (by omega))])
    · subst hx
      refine k_aload_n X 0 dX0_put_19 rfl rfl ?_
      refine gt_X0_21 X hu dX0_put_20 ?_
      refine k_aload_n X 0 dX0_put_23 rfl rfl ?_
      refine gt_X0_24 X hu dX0_put_24 ?_
      refine k_val (y := nI m) hm ?_
      refine k_iload_n X 1 dX0_put_27 rfl rfl ?_
      refine k_iast (a := 10) (j := m) X rfl hu rfl (show m < 16 by omega) (by decide) dX0_put_28 ?_
      refine k_aload_n X 0 dX0_put_29 rfl rfl ?_
      refine k_dup X dX0_put_30 rfl ?_
      refine gt_X0_24 X hu dX0_put_31 ?_
      refine k_val (y := nI m) (by simp [st, hm]) ?_
      refine k_iconst X 1 dX0_put_34 (by decide) ?_
      refine k_iadd X dX0_put_35 ?_
      refine k_val (y := nI (m + 1)) (nI_1 m) ?_
      refine pt_X0_24 X hu dX0_put_36 ?_
      refine k_aload_n X 0 dX0_put_39 rfl rfl ?_
      refine gt_X0_9 X hu dX0_put_40 ?_
      refine k_iload_n X 1 dX0_put_43 rfl rfl ?_
      refine k_iload_n X 2 dX0_put_44 rfl rfl ?_
      refine k_iast (a := 7) (j := t) X rfl hu rfl ht (by decide) dX0_put_45 ?_
      refine k_aload_n X 0 dX0_put_46 rfl rfl ?_
      refine gt_X0_15 X hu dX0_put_47 ?_
      refine k_iload_n X 1 dX0_put_50 rfl rfl ?_
      refine k_iload_n X 3 dX0_put_51 rfl rfl ?_
      refine k_iast (a := 8) (j := t) X rfl hu rfl ht (by decide) dX0_put_52 ?_
      refine k_aload_n X 0 dX0_put_53 rfl rfl ?_
      refine gt_X0_18 X hu dX0_put_54 ?_
      refine k_iload_n X 1 dX0_put_57 rfl rfl ?_
      refine k_iload X 4 dX0_put_58 rfl ?_
      refine k_iast (a := 9) (j := t) X rfl hu rfl ht (by decide) dX0_put_60 ?_
      exact k_vret dX0_put_61 hE (by unfold puM; rw [if_pos ⟨c7, c16⟩])
end
section
set_option maxHeartbeats 4000000 in
set_option maxRecDepth 100000 in
theorem C_X2_isOutside {E : EE} {μ : Mem} (v m : Int32) : MM E yX2_isOutside cX2_isOutside 2 (some .boolean) (rm 1 0) [.int v, .int m] μ (some (.int (bp (v < 0 ∨ m < v)))) μ := by
  refine MM.int (own := RX2) [(0, .int v), (1, .int m)] rfl rfl rfl (Nat.le_of_ble_eq_true rfl) bp_nar (fun C X hE => ?_)
  refine k_iload_n X 0 dX2_isOutside_0 rfl rfl ?_
  refine k_if_lt (tgt := 9) X dX2_isOutside_1 (by decide) (fun c1 => ?_) (fun c1 => ?_)
  · refine k_iconst X 1 dX2_isOutside_9 (by decide) ?_
    refine k_goto (tgt := 14) X dX2_isOutside_10 (by decide) ?_
    exact k_iret dX2_isOutside_14 hE (bp_t (Or.inl c1)).symm rfl
  · refine k_iload_n X 0 dX2_isOutside_4 rfl rfl ?_
    refine k_iload_n X 1 dX2_isOutside_5 rfl rfl ?_
    refine k_icmp_le (tgt := 13) X dX2_isOutside_6 (by decide) (fun c6 => ?_) (fun c6 => ?_)
    · refine k_iconst X 0 dX2_isOutside_13 (by decide) ?_
      exact k_iret dX2_isOutside_14 hE (bp_f (fun h => h.elim c1 (fun q => Int32.not_lt.mpr c6 q))).symm rfl
    · refine k_iconst X 1 dX2_isOutside_9 (by decide) ?_
      refine k_goto (tgt := 14) X dX2_isOutside_10 (by decide) ?_
      exact k_iret dX2_isOutside_14 hE (bp_t (Or.inr (Int32.not_le.mp c6))).symm rfl

set_option maxHeartbeats 4000000 in
set_option maxRecDepth 100000 in
theorem C_X2_isNoAnswer {E : EE} {μ : Mem} (x : Int32) : MM E yX2_isNoAnswer cX2_isNoAnswer 1 (some .boolean) (rm 1 0) [.int x] μ (some (.int (bp (¬ x = 180 ∧ (x < 200 ∨ 699 < x))))) μ := by
  refine MM.int (own := RX2) [(0, .int x)] rfl rfl rfl (Nat.le_of_ble_eq_true rfl) bp_nar (fun C X hE => ?_)
  refine k_iload_n X 0 dX2_isNoAnswer_0 rfl rfl ?_
  refine k_sipush X 180 dX2_isNoAnswer_1 (by decide) ?_
  refine k_icmp_eq (tgt := 25) X dX2_isNoAnswer_4 (by decide) (fun c4 => ?_) (fun c4 => ?_)
  · refine k_iconst X 0 dX2_isNoAnswer_25 (by decide) ?_
    exact k_iret dX2_isNoAnswer_26 hE (bp_f (fun h => h.1 c4)).symm rfl
  · refine k_iload_n X 0 dX2_isNoAnswer_7 rfl rfl ?_
    refine k_sipush X 200 dX2_isNoAnswer_8 (by decide) ?_
    refine k_icmp_lt (tgt := 21) X dX2_isNoAnswer_11 (by decide) (fun c11 => ?_) (fun c11 => ?_)
    · refine k_iconst X 1 dX2_isNoAnswer_21 (by decide) ?_
      refine k_goto (tgt := 26) X dX2_isNoAnswer_22 (by decide) ?_
      exact k_iret dX2_isNoAnswer_26 hE (bp_t ⟨c4, Or.inl c11⟩).symm rfl
    · refine k_iload_n X 0 dX2_isNoAnswer_14 rfl rfl ?_
      refine k_sipush X 699 dX2_isNoAnswer_15 (by decide) ?_
      refine k_icmp_le (tgt := 25) X dX2_isNoAnswer_18 (by decide) (fun c18 => ?_) (fun c18 => ?_)
      · refine k_iconst X 0 dX2_isNoAnswer_25 (by decide) ?_
        exact k_iret dX2_isNoAnswer_26 hE (bp_f (fun h => h.2.elim c11 (fun q => Int32.not_lt.mpr c18 q))).symm rfl
      · refine k_iconst X 1 dX2_isNoAnswer_21 (by decide) ?_
        refine k_goto (tgt := 26) X dX2_isNoAnswer_22 (by decide) ?_
        exact k_iret dX2_isNoAnswer_26 hE (bp_t ⟨c4, Or.inr (Int32.not_le.mp c18)⟩).symm rfl

set_option maxHeartbeats 4000000 in
set_option maxRecDepth 100000 in
theorem C_X2_rowOf {E : EE} {μ : Mem} (x : Int32) (hx : okU x) : MM E yX2_rowOf cX2_rowOf 2 (some (.object "CallForker$BindingRow")) (rm 2 0) [.ref (ad E 0 0), .int x] μ (some (.ref (ad E 6 (tN x)))) μ := by
  refine MM.ref (own := RX2) [(0, .ref (ad E 0 0)), (1, .int x)] rfl rfl rfl (Nat.le_of_ble_eq_true rfl) (fun C X hE => ?_)
  refine k_iload_n X 1 dX2_rowOf_0 rfl rfl ?_
  refine k_iconst X 5 dX2_rowOf_1 (by decide) ?_
  refine k_callS (As := [.int x, .int 5]) (S := []) X lk_X2_44 (C_X2_isOutside _ _) rfl rfl (Nat.le_of_ble_eq_true rfl) ⟨Nat.le_of_ble_eq_true rfl, Nat.le_of_ble_eq_true rfl⟩ ⟨Nat.le_of_ble_eq_true rfl, Nat.le_of_ble_eq_true rfl⟩ dX2_rowOf_2 ?_
  show KF E C 0 0 μ 5 _ [.int (bp (x < 0 ∨ 5 < x))]
  refine k_if_eq_p (tgt := 18) X dX2_rowOf_5 (by decide) (fun c5 => ?_) (fun c5 => ?_)
  · refine k_aload_n X 0 dX2_rowOf_18 rfl rfl ?_
    refine gt_X2_11 X dX2_rowOf_19 ?_
    refine k_iload_n X 1 dX2_rowOf_22 rfl rfl ?_
    refine k_rald (j := (tN x)) X (okU_n c5).1 (okU_n c5).2 dX2_rowOf_23 ?_
    exact k_aret dX2_rowOf_24 hE rfl
  · exact (hx c5).elim

set_option maxHeartbeats 4000000 in
set_option maxRecDepth 100000 in
theorem C_X2_callAt {E : EE} {μ : Mem} (x : Int32) (hK : vN (μ 0 0 5) 20) (hx : okC μ x) : MM E yX2_callAt cX2_callAt 2 (some (.object "CallForker$Call")) (rm 2 0) [.ref (ad E 0 0), .int x] μ (some (.ref (ad E 11 (tN x)))) μ := by
  refine MM.ref (own := RX2) [(0, .ref (ad E 0 0)), (1, .int x)] rfl rfl rfl (Nat.le_of_ble_eq_true rfl) (fun C X hE => ?_)
  refine k_iload_n X 1 dX2_callAt_0 rfl rfl ?_
  refine k_aload_n X 0 dX2_callAt_1 rfl rfl ?_
  refine gt_X2_31 X dX2_callAt_2 ?_
  refine k_iconst X 1 dX2_callAt_5 (by decide) ?_
  refine k_isub X dX2_callAt_6 ?_
  refine k_callS (As := [.int x, .int ((μ 0 0 5) - 1)]) (S := []) X lk_X2_44 (C_X2_isOutside _ _) rfl rfl (Nat.le_of_ble_eq_true rfl) ⟨Nat.le_of_ble_eq_true rfl, Nat.le_of_ble_eq_true rfl⟩ ⟨Nat.le_of_ble_eq_true rfl, Nat.le_of_ble_eq_true rfl⟩ dX2_callAt_7 ?_
  show KF E C 0 0 μ 10 _ [.int (bp (x < 0 ∨ ((μ 0 0 5) - 1) < x))]
  refine k_if_eq_p (tgt := 23) X dX2_callAt_10 (by decide) (fun c10 => ?_) (fun c10 => ?_)
  · refine k_aload_n X 0 dX2_callAt_23 rfl rfl ?_
    refine gt_X2_17 X dX2_callAt_24 ?_
    refine k_iload_n X 1 dX2_callAt_27 rfl rfl ?_
    refine k_cald (j := (tN x)) X (okC_n hK c10).1 (okC_n hK c10).2.2 dX2_callAt_28 ?_
    exact k_aret dX2_callAt_29 hE rfl
  · exact (hx c10).elim

set_option maxHeartbeats 4000000 in
set_option maxRecDepth 100000 in
theorem C_X2_callWith {E : EE} {μ : Mem} (x y : Int32) (hK : vN (μ 0 0 5) 20) (hx : okC μ x) (hy : okB μ x y) : MM E yX2_callWith cX2_callWith 4 (some (.object "CallForker$Call")) (rm 3 0) [.ref (ad E 0 0), .int x, .int y] μ (some (.ref (ad E 11 (tN x)))) μ := by
  refine MM.ref (own := RX2) [(0, .ref (ad E 0 0)), (1, .int x), (2, .int y)] rfl rfl rfl (Nat.le_of_ble_eq_true rfl) (fun C X hE => ?_)
  refine k_aload_n X 0 dX2_callWith_0 rfl rfl ?_
  refine k_iload_n X 1 dX2_callWith_1 rfl rfl ?_
  refine k_callV (a := 0) (o := 0) (As := [.int x]) (S := []) X lk_X2_102 rfl (by decide) rfl (C_X2_callAt _ hK hx) rfl rfl (Nat.le_of_ble_eq_true rfl) ⟨Nat.le_of_ble_eq_true rfl, Nat.le_of_ble_eq_true rfl⟩ ⟨Nat.le_of_ble_eq_true rfl, Nat.le_of_ble_eq_true rfl⟩ dX2_callWith_2 ?_
  show KF E C 0 0 μ 5 _ [.ref (ad E 11 (tN x))]
  have hc := (okC_n hK hx).2.2
  refine k_astore_n (L' := [(3, .ref (ad E 11 (tN x))), (0, .ref (ad E 0 0)), (1, .int x), (2, .int y)]) X dX2_callWith_5 rfl (by decide) rfl ?_
  refine k_iload_n X 3 dX2_callWith_6 rfl rfl ?_
  refine k_aload_n X 0 dX2_callWith_7 rfl rfl ?_
  refine gn_X2_158 X hc dX2_callWith_8 ?_
  refine k_iconst X 1 dX2_callWith_11 (by decide) ?_
  refine k_isub X dX2_callWith_12 ?_
  refine k_callS (As := [.int y, .int ((μ 11 (tN x) 4) - 1)]) (S := []) X lk_X2_44 (C_X2_isOutside _ _) rfl rfl (Nat.le_of_ble_eq_true rfl) ⟨Nat.le_of_ble_eq_true rfl, Nat.le_of_ble_eq_true rfl⟩ ⟨Nat.le_of_ble_eq_true rfl, Nat.le_of_ble_eq_true rfl⟩ dX2_callWith_13 ?_
  show KF E C 0 0 μ 16 _ [.int (bp (y < 0 ∨ ((μ 11 (tN x) 4) - 1) < y))]
  refine k_if_eq_p (tgt := 29) X dX2_callWith_16 (by decide) (fun c16 => ?_) (fun c16 => ?_)
  · refine k_aload_n X 0 dX2_callWith_29 rfl rfl ?_
    exact k_aret dX2_callWith_30 hE rfl
  · exact (hy c16).elim

set_option maxHeartbeats 4000000 in
set_option maxRecDepth 100000 in
theorem C_X2_time {E : EE} {μ : Mem}  : MM E yX2_time cX2_time 1 (some .int) (rm 1 0) [.ref (ad E 0 0)] μ (some (.int (μ 0 0 6))) μ := by
  refine MM.int (own := RX2) [(0, .ref (ad E 0 0))] rfl rfl rfl (Nat.le_of_ble_eq_true rfl) rfl (fun C X hE => ?_)
  refine k_aload_n X 0 dX2_time_0 rfl rfl ?_
  refine gt_X2_35 X dX2_time_1 ?_
  exact k_iret dX2_time_4 hE rfl rfl

set_option maxHeartbeats 4000000 in
set_option maxRecDepth 100000 in
theorem C_X2_calls {E : EE} {μ : Mem}  : MM E yX2_calls cX2_calls 1 (some .int) (rm 1 0) [.ref (ad E 0 0)] μ (some (.int (μ 0 0 5))) μ := by
  refine MM.int (own := RX2) [(0, .ref (ad E 0 0))] rfl rfl rfl (Nat.le_of_ble_eq_true rfl) rfl (fun C X hE => ?_)
  refine k_aload_n X 0 dX2_calls_0 rfl rfl ?_
  refine gt_X2_31 X dX2_calls_1 ?_
  exact k_iret dX2_calls_4 hE rfl rfl

set_option maxHeartbeats 4000000 in
set_option maxRecDepth 100000 in
theorem C_X2_finalOf {E : EE} {μ : Mem} (x : Int32) (hK : vN (μ 0 0 5) 20) (hx : okC μ x) : MM E yX2_finalOf cX2_finalOf 2 (some .int) (rm 3 0) [.ref (ad E 0 0), .int x] μ (some (.int (μ 11 (tN x) 8))) μ := by
  refine MM.int (own := RX2) [(0, .ref (ad E 0 0)), (1, .int x)] rfl rfl rfl (Nat.le_of_ble_eq_true rfl) rfl (fun C X hE => ?_)
  refine k_aload_n X 0 dX2_finalOf_0 rfl rfl ?_
  refine k_iload_n X 1 dX2_finalOf_1 rfl rfl ?_
  refine k_callV (a := 0) (o := 0) (As := [.int x]) (S := []) X lk_X2_102 rfl (by decide) rfl (C_X2_callAt _ hK hx) rfl rfl (Nat.le_of_ble_eq_true rfl) ⟨Nat.le_of_ble_eq_true rfl, Nat.le_of_ble_eq_true rfl⟩ ⟨Nat.le_of_ble_eq_true rfl, Nat.le_of_ble_eq_true rfl⟩ dX2_finalOf_2 ?_
  show KF E C 0 0 μ 5 _ [.ref (ad E 11 (tN x))]
  have hc := (okC_n hK hx).2.2
  refine gn_X2_138 X hc dX2_finalOf_5 ?_
  exact k_iret dX2_finalOf_8 hE rfl rfl

set_option maxHeartbeats 4000000 in
set_option maxRecDepth 100000 in
theorem C_X2_branches {E : EE} {μ : Mem} (x : Int32) (hK : vN (μ 0 0 5) 20) (hx : okC μ x) : MM E yX2_branches cX2_branches 2 (some .int) (rm 3 0) [.ref (ad E 0 0), .int x] μ (some (.int (μ 11 (tN x) 4))) μ := by
  refine MM.int (own := RX2) [(0, .ref (ad E 0 0)), (1, .int x)] rfl rfl rfl (Nat.le_of_ble_eq_true rfl) rfl (fun C X hE => ?_)
  refine k_aload_n X 0 dX2_branches_0 rfl rfl ?_
  refine k_iload_n X 1 dX2_branches_1 rfl rfl ?_
  refine k_callV (a := 0) (o := 0) (As := [.int x]) (S := []) X lk_X2_102 rfl (by decide) rfl (C_X2_callAt _ hK hx) rfl rfl (Nat.le_of_ble_eq_true rfl) ⟨Nat.le_of_ble_eq_true rfl, Nat.le_of_ble_eq_true rfl⟩ ⟨Nat.le_of_ble_eq_true rfl, Nat.le_of_ble_eq_true rfl⟩ dX2_branches_2 ?_
  show KF E C 0 0 μ 5 _ [.ref (ad E 11 (tN x))]
  have hc := (okC_n hK hx).2.2
  refine gn_X2_158 X hc dX2_branches_5 ?_
  exact k_iret dX2_branches_8 hE rfl rfl

set_option maxHeartbeats 4000000 in
set_option maxRecDepth 100000 in
theorem C_X2_answered {E : EE} {μ : Mem} (x : Int32) (hK : vN (μ 0 0 5) 20) (hx : okC μ x) : MM E yX2_answered cX2_answered 2 (some .int) (rm 3 0) [.ref (ad E 0 0), .int x] μ (some (.int (μ 11 (tN x) 7))) μ := by
  refine MM.int (own := RX2) [(0, .ref (ad E 0 0)), (1, .int x)] rfl rfl rfl (Nat.le_of_ble_eq_true rfl) rfl (fun C X hE => ?_)
  refine k_aload_n X 0 dX2_answered_0 rfl rfl ?_
  refine k_iload_n X 1 dX2_answered_1 rfl rfl ?_
  refine k_callV (a := 0) (o := 0) (As := [.int x]) (S := []) X lk_X2_102 rfl (by decide) rfl (C_X2_callAt _ hK hx) rfl rfl (Nat.le_of_ble_eq_true rfl) ⟨Nat.le_of_ble_eq_true rfl, Nat.le_of_ble_eq_true rfl⟩ ⟨Nat.le_of_ble_eq_true rfl, Nat.le_of_ble_eq_true rfl⟩ dX2_answered_2 ?_
  show KF E C 0 0 μ 5 _ [.ref (ad E 11 (tN x))]
  have hc := (okC_n hK hx).2.2
  refine gn_X2_171 X hc dX2_answered_5 ?_
  exact k_iret dX2_answered_8 hE rfl rfl

set_option maxHeartbeats 4000000 in
set_option maxRecDepth 100000 in
theorem C_X2_device {E : EE} {μ : Mem} (x y : Int32) (hK : vN (μ 0 0 5) 20) (hn : ∀ c, c < 20 → vN (μ 11 c 4) 12) (hx : okC μ x) (hy : okB μ x y) : MM E yX2_device cX2_device 3 (some .int) (rm 4 0) [.ref (ad E 0 0), .int x, .int y] μ (some (.int (μ 12 (tN x) (tN y)))) μ := by
  refine MM.int (own := RX2) [(0, .ref (ad E 0 0)), (1, .int x), (2, .int y)] rfl rfl rfl (Nat.le_of_ble_eq_true rfl) rfl (fun C X hE => ?_)
  refine k_aload_n X 0 dX2_device_0 rfl rfl ?_
  refine k_iload_n X 1 dX2_device_1 rfl rfl ?_
  refine k_iload_n X 2 dX2_device_2 rfl rfl ?_
  refine k_callV (a := 0) (o := 0) (As := [.int x, .int y]) (S := []) X lk_X2_161 rfl (by decide) rfl (C_X2_callWith _ _ hK hx hy) rfl rfl (Nat.le_of_ble_eq_true rfl) ⟨Nat.le_of_ble_eq_true rfl, Nat.le_of_ble_eq_true rfl⟩ ⟨Nat.le_of_ble_eq_true rfl, Nat.le_of_ble_eq_true rfl⟩ dX2_device_3 ?_
  show KF E C 0 0 μ 6 _ [.ref (ad E 11 (tN x))]
  have hc := (okC_n hK hx).2.2
  have hb := okB_n (hn _ hc) hy
  refine gn_X2_165 X hc dX2_device_6 ?_
  refine k_iload_n X 2 dX2_device_9 rfl rfl ?_
  refine k_iald (a := 12) (j := (tN y)) X rfl hc hb.1 hb.2.2 (by decide) dX2_device_10 ?_
  exact k_iret dX2_device_11 hE rfl rfl

set_option maxHeartbeats 4000000 in
set_option maxRecDepth 100000 in
theorem C_X2_state {E : EE} {μ : Mem} (x y : Int32) (hK : vN (μ 0 0 5) 20) (hn : ∀ c, c < 20 → vN (μ 11 c 4) 12) (hx : okC μ x) (hy : okB μ x y) : MM E yX2_state cX2_state 3 (some .int) (rm 4 0) [.ref (ad E 0 0), .int x, .int y] μ (some (.int (μ 14 (tN x) (tN y)))) μ := by
  refine MM.int (own := RX2) [(0, .ref (ad E 0 0)), (1, .int x), (2, .int y)] rfl rfl rfl (Nat.le_of_ble_eq_true rfl) rfl (fun C X hE => ?_)
  refine k_aload_n X 0 dX2_state_0 rfl rfl ?_
  refine k_iload_n X 1 dX2_state_1 rfl rfl ?_
  refine k_iload_n X 2 dX2_state_2 rfl rfl ?_
  refine k_callV (a := 0) (o := 0) (As := [.int x, .int y]) (S := []) X lk_X2_161 rfl (by decide) rfl (C_X2_callWith _ _ hK hx hy) rfl rfl (Nat.le_of_ble_eq_true rfl) ⟨Nat.le_of_ble_eq_true rfl, Nat.le_of_ble_eq_true rfl⟩ ⟨Nat.le_of_ble_eq_true rfl, Nat.le_of_ble_eq_true rfl⟩ dX2_state_3 ?_
  show KF E C 0 0 μ 6 _ [.ref (ad E 11 (tN x))]
  have hc := (okC_n hK hx).2.2
  have hb := okB_n (hn _ hc) hy
  refine gn_X2_168 X hc dX2_state_6 ?_
  refine k_iload_n X 2 dX2_state_9 rfl rfl ?_
  refine k_iald (a := 14) (j := (tN y)) X rfl hc hb.1 hb.2.2 (by decide) dX2_state_10 ?_
  exact k_iret dX2_state_11 hE rfl rfl

set_option maxHeartbeats 4000000 in
set_option maxRecDepth 100000 in
theorem C_X2_hungUp {E : EE} {μ : Mem} (x : Int32) (hx : ¬ (x < 0 ∨ 9 < x)) : MM E yX2_hungUp cX2_hungUp 2 (some .int) (rm 2 0) [.ref (ad E 0 0), .int x] μ (some (.int (μ 3 0 (tN x)))) μ := by
  refine MM.int (own := RX2) [(0, .ref (ad E 0 0)), (1, .int x)] rfl rfl rfl (Nat.le_of_ble_eq_true rfl) rfl (fun C X hE => ?_)
  refine k_iload_n X 1 dX2_hungUp_0 rfl rfl ?_
  refine k_bipush X 9 dX2_hungUp_1 (by decide) ?_
  refine k_callS (As := [.int x, .int 9]) (S := []) X lk_X2_44 (C_X2_isOutside _ _) rfl rfl (Nat.le_of_ble_eq_true rfl) ⟨Nat.le_of_ble_eq_true rfl, Nat.le_of_ble_eq_true rfl⟩ ⟨Nat.le_of_ble_eq_true rfl, Nat.le_of_ble_eq_true rfl⟩ dX2_hungUp_3 ?_
  show KF E C 0 0 μ 6 _ [.int (bp (x < 0 ∨ 9 < x))]
  refine k_if_eq_p (tgt := 19) X dX2_hungUp_6 (by decide) (fun c6 => ?_) (fun c6 => ?_)
  · refine k_aload_n X 0 dX2_hungUp_19 rfl rfl ?_
    refine gt_X2_21 X dX2_hungUp_20 ?_
    refine k_iload_n X 1 dX2_hungUp_23 rfl rfl ?_
    refine k_iald (a := 3) (j := (tN x)) X rfl (by decide) (outP_n (m := 9) (by decide) c6).1 (show tN x < 10 from Nat.lt_succ_of_le (outP_n (m := 9) (by decide) c6).2) (by decide) dX2_hungUp_24 ?_
    exact k_iret dX2_hungUp_25 hE rfl rfl
  · exact (hx c6).elim

set_option maxHeartbeats 4000000 in
set_option maxRecDepth 100000 in
theorem C_X2_bindings {E : EE} {μ : Mem} (x : Int32) (hx : okU x) : MM E yX2_bindings cX2_bindings 2 (some .int) (rm 4 0) [.ref (ad E 0 0), .int x] μ (some (.int (nI (coN μ (tN x) (-1) (μ 0 0 6))))) μ := by
  refine MM.int (own := RX2) [(0, .ref (ad E 0 0)), (1, .int x)] rfl rfl rfl (Nat.le_of_ble_eq_true rfl) rfl (fun C X hE => ?_)
  refine k_aload_n X 0 dX2_bindings_0 rfl rfl ?_
  refine k_iload_n X 1 dX2_bindings_1 rfl rfl ?_
  refine k_callV (a := 0) (o := 0) (As := [.int x]) (S := []) X lk_X2_40 rfl (by decide) rfl (C_X2_rowOf _ hx) rfl rfl (Nat.le_of_ble_eq_true rfl) ⟨Nat.le_of_ble_eq_true rfl, Nat.le_of_ble_eq_true rfl⟩ ⟨Nat.le_of_ble_eq_true rfl, Nat.le_of_ble_eq_true rfl⟩ dX2_bindings_2 ?_
  show KF E C 0 0 μ 5 _ [.ref (ad E 6 (tN x))]
  have hu := (okU_n hx).2
  refine k_aload_n X 0 dX2_bindings_5 rfl rfl ?_
  refine gt_X2_35 X dX2_bindings_6 ?_
  refine k_callV (a := 6) (o := (tN x)) (As := [.int (μ 0 0 6)]) (S := []) X lk_X2_75 rfl hu rfl (C_X0_count (tN x) _ hu) rfl rfl (Nat.le_of_ble_eq_true rfl) ⟨Nat.le_of_ble_eq_true rfl, Nat.le_of_ble_eq_true rfl⟩ ⟨Nat.le_of_ble_eq_true rfl, Nat.le_of_ble_eq_true rfl⟩ dX2_bindings_9 ?_
  show KF E C 0 0 μ 12 _ [.int (nI (coN μ (tN x) (-1) (μ 0 0 6)))]
  exact k_iret dX2_bindings_12 hE rfl rfl

set_option maxHeartbeats 4000000 in
set_option maxRecDepth 100000 in
theorem C_X2_binding {E : EE} {μ : Mem} (x y : Int32) (hB : BI μ) (hx : okU x) (hy : ¬ taI μ (tN x) (tN (μ 6 (tN x) 4)) y (μ 0 0 6) = -1) : MM E yX2_binding cX2_binding 5 (some .int) (rm 3 0) [.ref (ad E 0 0), .int x, .int y] μ (some (.int (100 * (taI μ (tN x) (tN (μ 6 (tN x) 4)) y (μ 0 0 6)) + μ 7 (tN x) (tN (taI μ (tN x) (tN (μ 6 (tN x) 4)) y (μ 0 0 6)))))) μ := by
  refine MM.int (own := RX2) [(0, .ref (ad E 0 0)), (1, .int x), (2, .int y)] rfl rfl rfl (Nat.le_of_ble_eq_true rfl) rfl (fun C X hE => ?_)
  refine k_aload_n X 0 dX2_binding_0 rfl rfl ?_
  refine k_iload_n X 1 dX2_binding_1 rfl rfl ?_
  refine k_callV (a := 0) (o := 0) (As := [.int x]) (S := []) X lk_X2_40 rfl (by decide) rfl (C_X2_rowOf _ hx) rfl rfl (Nat.le_of_ble_eq_true rfl) ⟨Nat.le_of_ble_eq_true rfl, Nat.le_of_ble_eq_true rfl⟩ ⟨Nat.le_of_ble_eq_true rfl, Nat.le_of_ble_eq_true rfl⟩ dX2_binding_2 ?_
  show KF E C 0 0 μ 5 _ [.ref (ad E 6 (tN x))]
  have hu := (okU_n hx).2
  refine k_astore_n (L' := [(3, .ref (ad E 6 (tN x))), (0, .ref (ad E 0 0)), (1, .int x), (2, .int y)]) X dX2_binding_5 rfl (by decide) rfl ?_
  refine k_aload_n X 0 dX2_binding_6 rfl rfl ?_
  refine k_iload_n X 3 dX2_binding_7 rfl rfl ?_
  refine k_aload_n X 1 dX2_binding_8 rfl rfl ?_
  refine gt_X2_35 X dX2_binding_9 ?_
  refine k_callV (a := 6) (o := (tN x)) (As := [.int y, .int (μ 0 0 6)]) (S := []) X lk_X2_79 rfl hu rfl (C_X0_targetAt (tN x) _ _ _ hu (hB _ hu).1.1 (hB _ hu).1.2 (hB _ hu).2) rfl rfl (Nat.le_of_ble_eq_true rfl) ⟨Nat.le_of_ble_eq_true rfl, Nat.le_of_ble_eq_true rfl⟩ ⟨Nat.le_of_ble_eq_true rfl, Nat.le_of_ble_eq_true rfl⟩ dX2_binding_12 ?_
  show KF E C 0 0 μ 15 _ [.int (taI μ (tN x) (tN (μ 6 (tN x) 4)) y (μ 0 0 6))]
  refine k_istore (L' := [(4, .int (taI μ (tN x) (tN (μ 6 (tN x) 4)) y (μ 0 0 6))), (3, .ref (ad E 6 (tN x))), (0, .ref (ad E 0 0)), (1, .int x), (2, .int y)]) X dX2_binding_15 (by decide) rfl ?_
  refine k_iload X 0 dX2_binding_17 rfl ?_
  refine k_iconst X (-1) dX2_binding_19 (by decide) ?_
  refine k_icmp_ne (tgt := 33) X dX2_binding_20 (by decide) (fun c20 => ?_) (fun c20 => ?_)
  · refine k_bipush X 100 dX2_binding_33 (by decide) ?_
    refine k_iload X 0 dX2_binding_35 rfl ?_
    refine k_imul X dX2_binding_37 ?_
    refine k_aload_n X 1 dX2_binding_38 rfl rfl ?_
    refine gn_X2_87 X hu dX2_binding_39 ?_
    refine k_iload X 0 dX2_binding_42 rfl ?_
    refine k_iald (a := 7) (j := (tN (taI μ (tN x) (tN (μ 6 (tN x) 4)) y (μ 0 0 6)))) X rfl hu (taI_v (hB _ hu).2 c20).1 (show tN (taI μ (tN x) (tN (μ 6 (tN x) 4)) y (μ 0 0 6)) < 16 from Nat.lt_succ_of_le (taI_v (hB _ hu).2 c20).2) (by decide) dX2_binding_44 ?_
    refine k_iadd X dX2_binding_45 ?_
    exact k_iret dX2_binding_46 hE rfl rfl
  · exact (hy c20).elim

set_option maxHeartbeats 4000000 in
set_option maxRecDepth 100000 in
theorem C_X2_register {E : EE} {μ : Mem} (x tg q tk sq : Int32) (hB : BI μ) (hx : okU x) (hr : rgOk tg q tk sq) (hr2 : rgOk2 μ (tN x) tg tk sq) : MM E yX2_register cX2_register 7 (some .int) (rm 4 0) [.ref (ad E 0 0), .int x, .int tg, .int q, .int tk, .int sq] μ (some (.int (nI (coN (rgM' μ (tN x) tg q tk sq) (tN x) (-1) ((rgM' μ (tN x) tg q tk sq) 0 0 6))))) (rgM' μ (tN x) tg q tk sq) := by
  refine MM.int (own := RX2) [(0, .ref (ad E 0 0)), (1, .int x), (2, .int tg), (3, .int q), (4, .int tk), (5, .int sq)] rfl rfl rfl (Nat.le_of_ble_eq_true rfl) rfl (fun C X hE => ?_)
  refine k_aload_n X 0 dX2_register_0 rfl rfl ?_
  refine k_iload_n X 1 dX2_register_1 rfl rfl ?_
  refine k_callV (a := 0) (o := 0) (As := [.int x]) (S := []) X lk_X2_40 rfl (by decide) rfl (C_X2_rowOf _ hx) rfl rfl (Nat.le_of_ble_eq_true rfl) ⟨Nat.le_of_ble_eq_true rfl, Nat.le_of_ble_eq_true rfl⟩ ⟨Nat.le_of_ble_eq_true rfl, Nat.le_of_ble_eq_true rfl⟩ dX2_register_2 ?_
  show KF E C 0 0 μ 5 _ [.ref (ad E 6 (tN x))]
  have hu := (okU_n hx).2
  refine k_astore (L' := [(6, .ref (ad E 6 (tN x))), (0, .ref (ad E 0 0)), (1, .int x), (2, .int tg), (3, .int q), (4, .int tk), (5, .int sq)]) X dX2_register_5 (by decide) rfl ?_
  refine k_iload_n X 3 dX2_register_7 rfl rfl ?_
  refine k_bipush X 15 dX2_register_8 (by decide) ?_
  refine k_callS (As := [.int tg, .int 15]) (S := []) X lk_X2_44 (C_X2_isOutside _ _) rfl rfl (Nat.le_of_ble_eq_true rfl) ⟨Nat.le_of_ble_eq_true rfl, Nat.le_of_ble_eq_true rfl⟩ ⟨Nat.le_of_ble_eq_true rfl, Nat.le_of_ble_eq_true rfl⟩ dX2_register_10 ?_
  show KF E C 0 0 μ 13 _ [.int (bp (tg < 0 ∨ 15 < tg))]
  refine k_if_ne_p (tgt := 25) X dX2_register_13 (by decide) (fun c13 => ?_) (fun c13 => ?_)
  · exact (hr.1 c13).elim
  · refine k_iload_n X 4 dX2_register_16 rfl rfl ?_
    refine k_bipush X 10 dX2_register_17 (by decide) ?_
    refine k_callS (As := [.int q, .int 10]) (S := []) X lk_X2_44 (C_X2_isOutside _ _) rfl rfl (Nat.le_of_ble_eq_true rfl) ⟨Nat.le_of_ble_eq_true rfl, Nat.le_of_ble_eq_true rfl⟩ ⟨Nat.le_of_ble_eq_true rfl, Nat.le_of_ble_eq_true rfl⟩ dX2_register_19 ?_
    show KF E C 0 0 μ 22 _ [.int (bp (q < 0 ∨ 10 < q))]
    refine k_if_eq_p (tgt := 35) X dX2_register_22 (by decide) (fun c22 => ?_) (fun c22 => ?_)
    · refine k_iload X 5 dX2_register_35 rfl ?_
      refine k_sipush X 1000 dX2_register_37 (by decide) ?_
      refine k_callS (As := [.int tk, .int 1000]) (S := []) X lk_X2_44 (C_X2_isOutside _ _) rfl rfl (Nat.le_of_ble_eq_true rfl) ⟨Nat.le_of_ble_eq_true rfl, Nat.le_of_ble_eq_true rfl⟩ ⟨Nat.le_of_ble_eq_true rfl, Nat.le_of_ble_eq_true rfl⟩ dX2_register_40 ?_
      show KF E C 0 0 μ 43 _ [.int (bp (tk < 0 ∨ 1000 < tk))]
      refine k_if_ne_p (tgt := 57) X dX2_register_43 (by decide) (fun c43 => ?_) (fun c43 => ?_)
      · exact (hr.2.2.1 c43).elim
      · refine k_iload X 6 dX2_register_46 rfl ?_
        refine k_sipush X 10000 dX2_register_48 (by decide) ?_
        refine k_callS (As := [.int sq, .int 10000]) (S := []) X lk_X2_44 (C_X2_isOutside _ _) rfl rfl (Nat.le_of_ble_eq_true rfl) ⟨Nat.le_of_ble_eq_true rfl, Nat.le_of_ble_eq_true rfl⟩ ⟨Nat.le_of_ble_eq_true rfl, Nat.le_of_ble_eq_true rfl⟩ dX2_register_51 ?_
        show KF E C 0 0 μ 54 _ [.int (bp (sq < 0 ∨ 10000 < sq))]
        refine k_if_eq_p (tgt := 67) X dX2_register_54 (by decide) (fun c54 => ?_) (fun c54 => ?_)
        · refine k_iload X 6 dX2_register_67 rfl ?_
          refine k_aload X 0 dX2_register_69 rfl ?_
          refine gn_X2_57 X hu dX2_register_71 ?_
          refine k_iload_n X 3 dX2_register_74 rfl rfl ?_
          refine k_iald (a := 9) (j := (tN tg)) X rfl hu (outP_n (m := 15) (by decide) c13).1 (show tN tg < 16 from Nat.lt_succ_of_le (outP_n (m := 15) (by decide) c13).2) (by decide) dX2_register_75 ?_
          refine k_icmp_gt (tgt := 89) X dX2_register_76 (by decide) (fun c76 => ?_) (fun c76 => ?_)
          · refine k_iload X 5 dX2_register_89 rfl ?_
            refine k_if_eq (tgt := 119) X dX2_register_91 (by decide) (fun c91 => ?_) (fun c91 => ?_)
            · refine k_aload X 0 dX2_register_119 rfl ?_
              refine k_iload_n X 3 dX2_register_121 rfl rfl ?_
              refine k_iload_n X 4 dX2_register_122 rfl rfl ?_
              refine k_aload_n X 1 dX2_register_123 rfl rfl ?_
              refine gt_X2_35 X dX2_register_124 ?_
              refine k_iload X 5 dX2_register_127 rfl ?_
              refine k_iadd X dX2_register_129 ?_
              refine k_iload X 6 dX2_register_130 rfl ?_
              refine k_callV (a := 6) (o := (tN x)) (As := [.int tg, .int q, .int ((μ 0 0 6) + tk), .int sq]) (S := []) X lk_X2_71 rfl hu rfl (C_X0_put (tN x) _ (tN tg) _ _ _ _ hu (hB _ hu).1.1 (hB _ hu).1.2 (Nat.lt_succ_of_le (outP_n (m := 15) (by decide) c13).2) (outP_n (m := 15) (by decide) c13).1) rfl rfl (Nat.le_of_ble_eq_true rfl) ⟨Nat.le_of_ble_eq_true rfl, Nat.le_of_ble_eq_true rfl⟩ ⟨Nat.le_of_ble_eq_true rfl, Nat.le_of_ble_eq_true rfl⟩ dX2_register_132 ?_
              show KF E C 0 0 (rgM' μ (tN x) tg q tk sq) 135 _ []
              refine k_aload X 0 dX2_register_135 rfl ?_
              refine k_aload_n X 1 dX2_register_137 rfl rfl ?_
              refine gt_X2_35 X dX2_register_138 ?_
              refine k_callV (a := 6) (o := (tN x)) (As := [.int ((rgM' μ (tN x) tg q tk sq) 0 0 6)]) (S := []) X lk_X2_75 rfl hu rfl (C_X0_count (tN x) _ hu) rfl rfl (Nat.le_of_ble_eq_true rfl) ⟨Nat.le_of_ble_eq_true rfl, Nat.le_of_ble_eq_true rfl⟩ ⟨Nat.le_of_ble_eq_true rfl, Nat.le_of_ble_eq_true rfl⟩ dX2_register_141 ?_
              show KF E C 0 0 (rgM' μ (tN x) tg q tk sq) 144 _ [.int (nI (coN (rgM' μ (tN x) tg q tk sq) (tN x) (-1) ((rgM' μ (tN x) tg q tk sq) 0 0 6)))]
              exact k_iret dX2_register_144 hE rfl rfl
            · refine k_aload X 0 dX2_register_94 rfl ?_
              refine k_iload_n X 3 dX2_register_96 rfl rfl ?_
              refine k_aload_n X 1 dX2_register_97 rfl rfl ?_
              refine gt_X2_35 X dX2_register_98 ?_
              refine k_callV (a := 6) (o := (tN x)) (As := [.int tg, .int (μ 0 0 6)]) (S := []) X lk_X2_65 rfl hu rfl (C_X0_countOthers (tN x) _ _ hu) rfl rfl (Nat.le_of_ble_eq_true rfl) ⟨Nat.le_of_ble_eq_true rfl, Nat.le_of_ble_eq_true rfl⟩ ⟨Nat.le_of_ble_eq_true rfl, Nat.le_of_ble_eq_true rfl⟩ dX2_register_101 ?_
              show KF E C 0 0 μ 104 _ [.int (nI (coN μ (tN x) tg (μ 0 0 6)))]
              refine k_bipush X 6 dX2_register_104 (by decide) ?_
              refine k_icmp_lt (tgt := 119) X dX2_register_106 (by decide) (fun c106 => ?_) (fun c106 => ?_)
              · refine k_aload X 0 dX2_register_119 rfl ?_
                refine k_iload_n X 3 dX2_register_121 rfl rfl ?_
                refine k_iload_n X 4 dX2_register_122 rfl rfl ?_
                refine k_aload_n X 1 dX2_register_123 rfl rfl ?_
                refine gt_X2_35 X dX2_register_124 ?_
                refine k_iload X 5 dX2_register_127 rfl ?_
                refine k_iadd X dX2_register_129 ?_
                refine k_iload X 6 dX2_register_130 rfl ?_
                refine k_callV (a := 6) (o := (tN x)) (As := [.int tg, .int q, .int ((μ 0 0 6) + tk), .int sq]) (S := []) X lk_X2_71 rfl hu rfl (C_X0_put (tN x) _ (tN tg) _ _ _ _ hu (hB _ hu).1.1 (hB _ hu).1.2 (Nat.lt_succ_of_le (outP_n (m := 15) (by decide) c13).2) (outP_n (m := 15) (by decide) c13).1) rfl rfl (Nat.le_of_ble_eq_true rfl) ⟨Nat.le_of_ble_eq_true rfl, Nat.le_of_ble_eq_true rfl⟩ ⟨Nat.le_of_ble_eq_true rfl, Nat.le_of_ble_eq_true rfl⟩ dX2_register_132 ?_
                show KF E C 0 0 (rgM' μ (tN x) tg q tk sq) 135 _ []
                refine k_aload X 0 dX2_register_135 rfl ?_
                refine k_aload_n X 1 dX2_register_137 rfl rfl ?_
                refine gt_X2_35 X dX2_register_138 ?_
                refine k_callV (a := 6) (o := (tN x)) (As := [.int ((rgM' μ (tN x) tg q tk sq) 0 0 6)]) (S := []) X lk_X2_75 rfl hu rfl (C_X0_count (tN x) _ hu) rfl rfl (Nat.le_of_ble_eq_true rfl) ⟨Nat.le_of_ble_eq_true rfl, Nat.le_of_ble_eq_true rfl⟩ ⟨Nat.le_of_ble_eq_true rfl, Nat.le_of_ble_eq_true rfl⟩ dX2_register_141 ?_
                show KF E C 0 0 (rgM' μ (tN x) tg q tk sq) 144 _ [.int (nI (coN (rgM' μ (tN x) tg q tk sq) (tN x) (-1) ((rgM' μ (tN x) tg q tk sq) 0 0 6)))]
                exact k_iret dX2_register_144 hE rfl rfl
              · exact (hr2.2.elim c91 c106).elim
          · exact (c76 hr2.1).elim
        · exact (hr.2.2.2 c54).elim
    · exact (hr.2.1 c22).elim

set_option maxHeartbeats 4000000 in
set_option maxRecDepth 100000 in
theorem C_X2_cancel {E : EE} {μ : Mem} (x : Int32) (hK : vN (μ 0 0 5) 20) (hx : okC μ x) (hI : KI μ) (hf : μ 11 (tN x) 8 = -1) : MM E yX2_cancel cX2_cancel 3 (some .int) (rm 4 0) [.ref (ad E 0 0), .int x] μ (some (.int (nI (eoN μ (tN x) (tN (μ 11 (tN x) 4)))))) (caM μ (tN x) (tN (μ 11 (tN x) 4))) := by
  refine MM.int (own := RX2) [(0, .ref (ad E 0 0)), (1, .int x)] rfl rfl rfl (Nat.le_of_ble_eq_true rfl) rfl (fun C X hE => ?_)
  refine k_aload_n X 0 dX2_cancel_0 rfl rfl ?_
  refine k_iload_n X 1 dX2_cancel_1 rfl rfl ?_
  refine k_callV (a := 0) (o := 0) (As := [.int x]) (S := []) X lk_X2_102 rfl (by decide) rfl (C_X2_callAt _ hK hx) rfl rfl (Nat.le_of_ble_eq_true rfl) ⟨Nat.le_of_ble_eq_true rfl, Nat.le_of_ble_eq_true rfl⟩ ⟨Nat.le_of_ble_eq_true rfl, Nat.le_of_ble_eq_true rfl⟩ dX2_cancel_2 ?_
  show KF E C 0 0 μ 5 _ [.ref (ad E 11 (tN x))]
  have hc := (okC_n hK hx).2.2
  refine k_astore_n (L' := [(2, .ref (ad E 11 (tN x))), (0, .ref (ad E 0 0)), (1, .int x)]) X dX2_cancel_5 rfl (by decide) rfl ?_
  refine k_aload_n X 0 dX2_cancel_6 rfl rfl ?_
  refine gn_X2_138 X hc dX2_cancel_7 ?_
  refine k_iconst X (-1) dX2_cancel_10 (by decide) ?_
  refine k_icmp_eq (tgt := 24) X dX2_cancel_11 (by decide) (fun c11 => ?_) (fun c11 => ?_)
  · refine k_aload_n X 0 dX2_cancel_24 rfl rfl ?_
    refine k_callV (a := 11) (o := (tN x)) (As := []) (S := []) X lk_X2_143 rfl hc rfl (C_X1_cancelAll _ _ hc (hI _ hc).1.1 (hI _ hc).1.2) rfl rfl (Nat.le_of_ble_eq_true rfl) ⟨Nat.le_of_ble_eq_true rfl, Nat.le_of_ble_eq_true rfl⟩ ⟨Nat.le_of_ble_eq_true rfl, Nat.le_of_ble_eq_true rfl⟩ dX2_cancel_25 ?_
    show KF E C 0 0 (caM μ (tN x) (tN (μ 11 (tN x) 4))) 28 _ [.int (nI (eoN μ (tN x) (tN (μ 11 (tN x) 4))))]
    exact k_iret dX2_cancel_28 hE rfl rfl
  · exact (c11 hf).elim

set_option maxHeartbeats 4000000 in
set_option maxRecDepth 100000 in
theorem C_X2_finalBySorting {E : EE} {μ : Mem} (x : Int32) (hK : vN (μ 0 0 5) 20) (hx : okC μ x) (hI : KI μ) (hf : ¬ μ 11 (tN x) 8 = -1) : MM E yX2_finalBySorting cX2_finalBySorting 3 (some .int) (rm 4 0) [.ref (ad E 0 0), .int x] μ (some (.int (fsI μ (tN x) (tN (μ 11 (tN x) 4))))) (fsM μ (tN x) (tN (μ 11 (tN x) 4))) := by
  refine MM.int (own := RX2) [(0, .ref (ad E 0 0)), (1, .int x)] rfl rfl rfl (Nat.le_of_ble_eq_true rfl) rfl (fun C X hE => ?_)
  refine k_aload_n X 0 dX2_finalBySorting_0 rfl rfl ?_
  refine k_iload_n X 1 dX2_finalBySorting_1 rfl rfl ?_
  refine k_callV (a := 0) (o := 0) (As := [.int x]) (S := []) X lk_X2_102 rfl (by decide) rfl (C_X2_callAt _ hK hx) rfl rfl (Nat.le_of_ble_eq_true rfl) ⟨Nat.le_of_ble_eq_true rfl, Nat.le_of_ble_eq_true rfl⟩ ⟨Nat.le_of_ble_eq_true rfl, Nat.le_of_ble_eq_true rfl⟩ dX2_finalBySorting_2 ?_
  show KF E C 0 0 μ 5 _ [.ref (ad E 11 (tN x))]
  have hc := (okC_n hK hx).2.2
  refine k_astore_n (L' := [(2, .ref (ad E 11 (tN x))), (0, .ref (ad E 0 0)), (1, .int x)]) X dX2_finalBySorting_5 rfl (by decide) rfl ?_
  refine k_aload_n X 0 dX2_finalBySorting_6 rfl rfl ?_
  refine gn_X2_138 X hc dX2_finalBySorting_7 ?_
  refine k_iconst X (-1) dX2_finalBySorting_10 (by decide) ?_
  refine k_icmp_ne (tgt := 24) X dX2_finalBySorting_11 (by decide) (fun c11 => ?_) (fun c11 => ?_)
  · refine k_aload_n X 0 dX2_finalBySorting_24 rfl rfl ?_
    refine k_aload_n X 1 dX2_finalBySorting_25 rfl rfl ?_
    refine gt_X2_28 X dX2_finalBySorting_26 ?_
    refine k_callV (a := 11) (o := (tN x)) (As := [.ref (ad E 5 0)]) (S := []) X lk_X2_154 rfl hc rfl (C_X1_finalFromSorted _ _ hc (hI _ hc).1.1 (hI _ hc).1.2) rfl rfl (Nat.le_of_ble_eq_true rfl) ⟨Nat.le_of_ble_eq_true rfl, Nat.le_of_ble_eq_true rfl⟩ ⟨Nat.le_of_ble_eq_true rfl, Nat.le_of_ble_eq_true rfl⟩ dX2_finalBySorting_29 ?_
    show KF E C 0 0 (fsM μ (tN x) (tN (μ 11 (tN x) 4))) 32 _ [.int (fsI μ (tN x) (tN (μ 11 (tN x) 4)))]
    exact k_iret dX2_finalBySorting_32 hE rfl rfl
  · exact (hf c11).elim

set_option maxHeartbeats 4000000 in
set_option maxRecDepth 100000 in
theorem C_X2_answer {E : EE} {μ : Mem} (x dv cd : Int32) (hK : vN (μ 0 0 5) 20) (hI : KI μ) (hx : okC μ x) (ha : anOk dv cd) (hb : anOk2 μ (tN x) dv cd) : MM E yX2_answer cX2_answer 6 (some .int) (rm 5 0) [.ref (ad E 0 0), .int x, .int dv, .int cd] μ (some (.int (anM μ (tN x) dv cd 11 (tN x) 8))) (anM μ (tN x) dv cd) := by
  refine MM.int (own := RX2) [(0, .ref (ad E 0 0)), (1, .int x), (2, .int dv), (3, .int cd)] rfl rfl rfl (Nat.le_of_ble_eq_true rfl) rfl (fun C X hE => ?_)
  refine k_aload_n X 0 dX2_answer_0 rfl rfl ?_
  refine k_iload_n X 1 dX2_answer_1 rfl rfl ?_
  refine k_callV (a := 0) (o := 0) (As := [.int x]) (S := []) X lk_X2_102 rfl (by decide) rfl (C_X2_callAt _ hK hx) rfl rfl (Nat.le_of_ble_eq_true rfl) ⟨Nat.le_of_ble_eq_true rfl, Nat.le_of_ble_eq_true rfl⟩ ⟨Nat.le_of_ble_eq_true rfl, Nat.le_of_ble_eq_true rfl⟩ dX2_answer_2 ?_
  show KF E C 0 0 μ 5 _ [.ref (ad E 11 (tN x))]
  have hc := (okC_n hK hx).2.2
  refine k_astore (L' := [(4, .ref (ad E 11 (tN x))), (0, .ref (ad E 0 0)), (1, .int x), (2, .int dv), (3, .int cd)]) X dX2_answer_5 (by decide) rfl ?_
  refine k_iload_n X 3 dX2_answer_7 rfl rfl ?_
  refine k_bipush X 9 dX2_answer_8 (by decide) ?_
  refine k_callS (As := [.int dv, .int 9]) (S := []) X lk_X2_44 (C_X2_isOutside _ _) rfl rfl (Nat.le_of_ble_eq_true rfl) ⟨Nat.le_of_ble_eq_true rfl, Nat.le_of_ble_eq_true rfl⟩ ⟨Nat.le_of_ble_eq_true rfl, Nat.le_of_ble_eq_true rfl⟩ dX2_answer_10 ?_
  show KF E C 0 0 μ 13 _ [.int (bp (dv < 0 ∨ 9 < dv))]
  refine k_if_ne_p (tgt := 23) X dX2_answer_13 (by decide) (fun c13 => ?_) (fun c13 => ?_)
  · exact (ha.1 c13).elim
  · refine k_iload_n X 4 dX2_answer_16 rfl rfl ?_
    refine k_callS (As := [.int cd]) (S := []) X lk_X2_106 (C_X2_isNoAnswer _) rfl rfl (Nat.le_of_ble_eq_true rfl) ⟨Nat.le_of_ble_eq_true rfl, Nat.le_of_ble_eq_true rfl⟩ ⟨Nat.le_of_ble_eq_true rfl, Nat.le_of_ble_eq_true rfl⟩ dX2_answer_17 ?_
    show KF E C 0 0 μ 20 _ [.int (bp (¬ cd = 180 ∧ (cd < 200 ∨ 699 < cd)))]
    refine k_if_eq_p (tgt := 33) X dX2_answer_20 (by decide) (fun c20 => ?_) (fun c20 => ?_)
    · refine k_aload X 0 dX2_answer_33 rfl ?_
      refine k_iload_n X 3 dX2_answer_35 rfl rfl ?_
      refine k_callV (a := 11) (o := (tN x)) (As := [.int dv]) (S := []) X lk_X2_112 rfl hc rfl (C_X1_branchOf _ _ hc (hI _ hc).1.1 (hI _ hc).1.2 _) rfl rfl (Nat.le_of_ble_eq_true rfl) ⟨Nat.le_of_ble_eq_true rfl, Nat.le_of_ble_eq_true rfl⟩ ⟨Nat.le_of_ble_eq_true rfl, Nat.le_of_ble_eq_true rfl⟩ dX2_answer_36 ?_
      show KF E C 0 0 μ 39 _ [.int (frI (fun b => decide (μ 12 (tN x) b = dv)) (tN (μ 11 (tN x) 4)))]
      refine k_istore (L' := [(5, .int (frI (fun b => decide (μ 12 (tN x) b = dv)) (tN (μ 11 (tN x) 4)))), (4, .ref (ad E 11 (tN x))), (0, .ref (ad E 0 0)), (1, .int x), (2, .int dv), (3, .int cd)]) X dX2_answer_39 (by decide) rfl ?_
      refine k_iload X 0 dX2_answer_41 rfl ?_
      refine k_iconst X (-1) dX2_answer_43 (by decide) ?_
      refine k_icmp_ne (tgt := 57) X dX2_answer_44 (by decide) (fun c44 => ?_) (fun c44 => ?_)
      · rw [show frI (fun b => decide (μ 12 (tN x) b = dv)) (tN (μ 11 (tN x) 4)) = nI (anBr μ (tN x) dv) from (frI_b c44).2]
        refine k_aload X 1 dX2_answer_57 rfl ?_
        refine k_iload X 0 dX2_answer_59 rfl ?_
        refine k_callV (a := 11) (o := (tN x)) (As := [.int (nI (anBr μ (tN x) dv))]) (S := []) X lk_X2_117 rfl hc rfl (C_X1_isStarted _ _ hc (Nat.lt_of_lt_of_le (frI_b c44).1 (hI _ hc).1.2)) rfl rfl (Nat.le_of_ble_eq_true rfl) ⟨Nat.le_of_ble_eq_true rfl, Nat.le_of_ble_eq_true rfl⟩ ⟨Nat.le_of_ble_eq_true rfl, Nat.le_of_ble_eq_true rfl⟩ dX2_answer_61 ?_
        show KF E C 0 0 μ 64 _ [.int (bp (μ 11 (tN x) 5 ≤ μ 13 (tN x) (anBr μ (tN x) dv)))]
        refine k_if_ne_p (tgt := 77) X dX2_answer_64 (by decide) (fun c64 => ?_) (fun c64 => ?_)
        · refine k_aload X 1 dX2_answer_77 rfl ?_
          refine k_iload X 0 dX2_answer_79 rfl ?_
          refine k_callV (a := 11) (o := (tN x)) (As := [.int (nI (anBr μ (tN x) dv))]) (S := []) X lk_X2_122 rfl hc rfl (C_X1_isEnded _ _ hc (Nat.lt_of_lt_of_le (frI_b c44).1 (hI _ hc).1.2)) rfl rfl (Nat.le_of_ble_eq_true rfl) ⟨Nat.le_of_ble_eq_true rfl, Nat.le_of_ble_eq_true rfl⟩ ⟨Nat.le_of_ble_eq_true rfl, Nat.le_of_ble_eq_true rfl⟩ dX2_answer_81 ?_
          show KF E C 0 0 μ 84 _ [.int (bp (200 ≤ μ 14 (tN x) (anBr μ (tN x) dv)))]
          refine k_if_ne_p (tgt := 102) X dX2_answer_84 (by decide) (fun c84 => ?_) (fun c84 => ?_)
          · refine k_aload X 1 dX2_answer_102 rfl ?_
            refine k_iload X 0 dX2_answer_104 rfl ?_
            refine k_iload_n X 5 dX2_answer_106 rfl rfl ?_
            refine k_callV (a := 11) (o := (tN x)) (As := [.int (nI (anBr μ (tN x) dv)), .int cd]) (S := []) X lk_X2_129 rfl hc rfl (C_X1_isTooMuch _ _ _ hc (Nat.lt_of_lt_of_le (frI_b c44).1 (hI _ hc).1.2)) rfl rfl (Nat.le_of_ble_eq_true rfl) ⟨Nat.le_of_ble_eq_true rfl, Nat.le_of_ble_eq_true rfl⟩ ⟨Nat.le_of_ble_eq_true rfl, Nat.le_of_ble_eq_true rfl⟩ dX2_answer_107 ?_
            show KF E C 0 0 μ 110 _ [.int (bp ((¬ cd < 200 ∧ ¬ 300 ≤ cd) ∧ (μ 14 (tN x) (anBr μ (tN x) dv) = 487 ∨ μ 14 (tN x) (anBr μ (tN x) dv) = 408) ∧ μ 15 (tN x) (anBr μ (tN x) dv) = 0))]
            refine k_if_eq_p (tgt := 135) X dX2_answer_110 (by decide) (fun c110 => ?_) (fun c110 => ?_)
            · exact (hb.2.2.elim (fun q => q c84) c110).elim
            · refine k_aload X 1 dX2_answer_113 rfl ?_
              refine gn_X2_132 X hc dX2_answer_115 ?_
              refine k_iload X 0 dX2_answer_118 rfl ?_
              refine k_iconst X 1 dX2_answer_120 (by decide) ?_
              refine k_zast (a := 15) (j := (anBr μ (tN x) dv)) X rfl hc rfl (show anBr μ (tN x) dv < 12 from (Nat.lt_of_lt_of_le (frI_b c44).1 (hI _ hc).1.2)) (by decide) (by decide) dX2_answer_121 ?_
              refine k_aload_n X 2 dX2_answer_122 rfl rfl ?_
              refine gt_X2_21 X dX2_answer_123 ?_
              refine k_iload_n X 4 dX2_answer_126 rfl rfl ?_
              refine k_dup2 X dX2_answer_127 rfl rfl ?_
              refine k_iald (a := 3) (j := (tN dv)) X rfl (by decide) (outP_n (m := 9) (by decide) c13).1 (show tN dv < 10 from Nat.lt_succ_of_le (outP_n (m := 9) (by decide) c13).2) (by decide) dX2_answer_128 ?_
              refine k_val (y := μ 3 0 (tN dv)) (st_k (by decide)) ?_
              refine k_iconst X 1 dX2_answer_129 (by decide) ?_
              refine k_iadd X dX2_answer_130 ?_
              refine k_iast (a := 3) (j := (tN dv)) X rfl (by decide) (outP_n (m := 9) (by decide) c13).1 (show tN dv < 10 from Nat.lt_succ_of_le (outP_n (m := 9) (by decide) c13).2) (by decide) dX2_answer_131 ?_
              refine k_goto (tgt := 145) X dX2_answer_132 (by decide) ?_
              refine k_aload X 1 dX2_answer_145 rfl ?_
              refine gn_X2_138 X hc dX2_answer_147 ?_
              exact k_iret dX2_answer_150 hE (by unfold anM; rw [if_pos c84]) (by unfold anM; rw [if_pos c84])
          · refine k_aload X 1 dX2_answer_87 rfl ?_
            refine k_iload X 0 dX2_answer_89 rfl ?_
            refine k_iload_n X 5 dX2_answer_91 rfl rfl ?_
            refine k_aload_n X 2 dX2_answer_92 rfl rfl ?_
            refine gt_X2_35 X dX2_answer_93 ?_
            refine k_callV (a := 11) (o := (tN x)) (As := [.int (nI (anBr μ (tN x) dv)), .int cd, .int (μ 0 0 6)]) (S := []) X lk_X2_125 rfl hc rfl (C_X1_takeAnswer _ _ hc (hI _ hc).1.1 (hI _ hc).1.2 _ (hI _ hc).2.1 (hI _ hc).2.2 _ (Nat.lt_of_lt_of_le (frI_b c44).1 (hI _ hc).1.2) _ _) rfl rfl (Nat.le_of_ble_eq_true rfl) ⟨Nat.le_of_ble_eq_true rfl, Nat.le_of_ble_eq_true rfl⟩ ⟨Nat.le_of_ble_eq_true rfl, Nat.le_of_ble_eq_true rfl⟩ dX2_answer_96 ?_
            show KF E C 0 0 (taM μ (tN x) (tN (μ 11 (tN x) 4)) (tN (μ 11 (tN x) 5)) (anBr μ (tN x) dv) cd (μ 0 0 6)) 99 _ []
            refine k_goto (tgt := 145) X dX2_answer_99 (by decide) ?_
            refine k_aload X 1 dX2_answer_145 rfl ?_
            refine gn_X2_138 X hc dX2_answer_147 ?_
            exact k_iret dX2_answer_150 hE (by unfold anM; rw [if_neg c84]) (by unfold anM; rw [if_neg c84])
        · exact (c64 hb.2.1).elim
      · exact (hb.1 c44).elim
    · exact (ha.2 c20).elim
end
section
/-! what a call's own methods leave alone -/
def GC (c : Nat) (μ μ' : Mem) : Prop := (∀ k o i, ¬ (k = 14 ∧ o = c) → ¬ (k = 11 ∧ o = c ∧ i ≠ 4) → μ' k o i = μ k o i) ∧ (vN (μ 11 c 5) 11 → vN (μ' 11 c 5) 11)
theorem GC.refl (c : Nat) (μ : Mem) : GC c μ μ := ⟨fun _ _ _ _ _ => rfl, fun h => h⟩
theorem GC.trans {c : Nat} {a b d : Mem} (h : GC c a b) (h2 : GC c b d) : GC c a d := ⟨fun k o i a1 a2 => (h2.1 k o i a1 a2).trans (h.1 k o i a1 a2), fun q => h2.2 (h.2 q)⟩
theorem GC.k {c : Nat} {μ μ' : Mem} (h : GC c μ μ') {k o i : Nat} (h1 : k ≠ 14) (h2 : k ≠ 11) : μ' k o i = μ k o i := h.1 k o i (fun q => h1 q.1) (fun q => h2 q.1)
theorem GC.o {c : Nat} {μ μ' : Mem} (h : GC c μ μ') {k o i : Nat} (h1 : o ≠ c) : μ' k o i = μ k o i := h.1 k o i (fun q => h1 q.2) (fun q => h1 q.2.1)
theorem GC.n {c : Nat} {μ μ' : Mem} (h : GC c μ μ') {o : Nat} : μ' 11 o 4 = μ 11 o 4 := h.1 11 o 4 (fun q => absurd q.1 (by decide)) (fun q => q.2.2 rfl)
theorem GC_st14 {c b : Nat} {μ : Mem} {x : Int32} : GC c μ (st μ 14 c b x) := ⟨fun k o i a1 _ => if_neg (fun q => a1 ⟨q.1, q.2.1⟩), fun h => by rw [st_k (by decide)]; exact h⟩
theorem GC_up {c a n : Nat} {μ : Mem} {g : Nat → Int32} : GC c μ (up μ 14 c a n g) := ⟨fun k o i a1 _ => if_neg (fun q => a1 ⟨q.1, q.2.1⟩), fun h => by rw [up_k (by decide)]; exact h⟩
theorem GC_st11 {c i : Nat} {μ : Mem} {x : Int32} (h4 : i ≠ 4) (h5 : i ≠ 5) : GC c μ (st μ 11 c i x) := ⟨fun k o j _ a2 => if_neg (fun q => a2 ⟨q.1, q.2.1, by rw [q.2.2]; exact h4⟩), fun h => by rw [st_i (Ne.symm h5)]; exact h⟩
theorem GC_st5 {c j : Nat} {μ : Mem} (hj : j ≤ 11) : GC c μ (st μ 11 c 5 (nI j)) := ⟨fun k o i _ a2 => if_neg (fun q => a2 ⟨q.1, q.2.1, by rw [q.2.2]; decide⟩), fun _ => by rw [st_same]; exact vN_nI hj (by decide)⟩
theorem GC_sgM {c n j : Nat} {μ : Mem} {now : Int32} (hj : j ≤ 11) : GC c μ (sgM μ c n (nI j) now) := by
  unfold sgM sg1
  exact ((GC_st5 hj).trans (GC_st11 (i := 6) (x := now) (by decide) (by decide))).trans GC_up
theorem GC_goM {c n : Nat} {now : Int32} : ∀ {j : Nat} {μ : Mem}, j ≤ 11 → GC c μ (goM c n now j μ)
  | 0, μ, _ => GC.refl c μ
  | j + 1, μ, h => by
    show GC c μ (if anB (wtP μ c) n = true then μ else goM c n now j (sgM μ c n (nI j) now))
    split
    · exact GC.refl c μ
    · exact (GC_sgM (by omega)).trans (GC_goM (by omega))
theorem GC_gfM {c n : Nat} {μ : Mem} : GC c μ (gfM μ c n) := by
  unfold gfM
  split
  · exact GC.refl c μ
  · exact GC_st11 (by decide) (by decide)
theorem GC_goOnM {c n s : Nat} {μ : Mem} {now : Int32} (hs : s ≤ 11) : GC c μ (goOnM μ c n s now) := (GC_goM hs).trans GC_gfM
theorem GC_eoM {c n : Nat} {μ : Mem} : GC c μ (eoM μ c n) := GC_up
theorem GC_bgM {c n s : Nat} {μ : Mem} {now : Int32} (hs : s ≤ 11) : GC c μ (bgM μ c n s now) := by
  unfold bgM
  split
  · exact GC_st11 (by decide) (by decide)
  · exact GC_goOnM hs
theorem GC_taM {c n s b : Nat} {μ : Mem} {x now : Int32} (hs : s ≤ 11) : GC c μ (taM μ c n s b x now) := by
  unfold taM
  split
  · exact GC_st14
  · split
    · split
      · exact GC_st14.trans (GC_goOnM hs)
      · exact (GC_st14.trans GC_eoM).trans (GC_st11 (by decide) (by decide))
    · exact ((GC_st14.trans (GC_st11 (by decide) (by decide))).trans GC_eoM).trans (GC_st11 (by decide) (by decide))
theorem GC_etM {c n s : Nat} {μ : Mem} {now : Int32} (hs : s ≤ 11) : GC c μ (etM μ c n s now) := by
  unfold etM
  split
  · split
    · exact GC_up.trans (GC_goOnM hs)
    · exact GC.refl c μ
  · exact GC.refl c μ
theorem GC_caM {c n : Nat} {μ : Mem} : GC c μ (caM μ c n) := (GC_eoM.trans (GC_st11 (by decide) (by decide))).trans (GC_st11 (by decide) (by decide))
theorem KI.gc {c : Nat} {μ μ' : Mem} (h : KI μ) (hc : c < 20) (g : GC c μ μ') : KI μ' := by
  intro o ho
  rw [g.n]
  refine ⟨(h o ho).1, ?_⟩
  by_cases e : o = c
  · subst e; exact g.2 (h o ho).2
  · rw [g.o e]; exact (h o ho).2
theorem lcM_ok {μ : Mem} (hI : KI μ) : ∀ c, c ≤ 20 → KI (lcM c μ) ∧ (∀ k o i, k ≠ 14 → k ≠ 11 → lcM c μ k o i = μ k o i)
  | 0, _ => ⟨hI, fun _ _ _ _ _ => rfl⟩
  | c + 1, h => by
    obtain ⟨h1, h2⟩ := lcM_ok hI c (by omega)
    have g : GC c (lcM c μ) (lcM (c + 1) μ) := GC_etM (h1 c (by omega)).2.2
    exact ⟨h1.gc (by omega) g, fun k o i a1 a2 => (g.k a1 a2).trans (h2 k o i a1 a2)⟩
theorem tkM_ok {μ : Mem} (hI : KI μ) : KI (tkM μ) := fun o ho => by
  unfold tkM
  rw [st_k (by decide), st_k (by decide)]
  exact hI o ho
theorem psM_ok {μ : Mem} (hI : KI μ) (hK : tN (μ 0 0 5) ≤ 20) : ∀ i, KI (psM i μ) ∧ (∀ k o j, k ≠ 14 → k ≠ 11 → ¬ (k = 0 ∧ j = 6) → psM i μ k o j = μ k o j)
  | 0 => ⟨hI, fun _ _ _ _ _ _ => rfl⟩
  | i + 1 => by
    obtain ⟨h1, h2⟩ := psM_ok hI hK i
    obtain ⟨h3, h4⟩ := lcM_ok (tkM_ok h1) (tN (μ 0 0 5)) hK
    refine ⟨h3, fun k o j a1 a2 a3 => ?_⟩
    show lcM (tN (μ 0 0 5)) (tkM (psM i μ)) k o j = _
    rw [h4 k o j a1 a2]
    unfold tkM
    rw [show st (psM i μ) 0 0 6 (psM i μ 0 0 6 + 1) k o j = psM i μ k o j from if_neg (fun q => a3 ⟨q.1, q.2.2⟩)]
    exact h2 k o j a1 a2 a3
theorem lt20 {x : Int32} {m : Nat} (hm : m < 2 ^ 31) (h : vN x m) {n : Nat} (hn : n < 2 ^ 31) (q : x < nI n) : tN x < n := by
  obtain ⟨h1, h2⟩ := h
  rw [h1] at q
  exact (nI_ltI (by omega) hn).mp q
end
section
set_option maxHeartbeats 4000000 in
set_option maxRecDepth 100000 in
theorem L_X2_isOnWay {E : EE} {μ : Mem} {C : Ctx} (b : Nat) (hb : b ≤ 3) (x : Int32) (X : Cx E C cX2_isOnWay RX2 4 (rm 1 0)) (hE : EndI E C cX2_isOnWay 0 0 (bp (owB μ x b = true)) μ) : ∀ (f : Nat) (i : Nat), b - i < f → i ≤ b → (∀ j, j < i → decide (μ 4 0 j = x) = false) → KF E C 0 0 μ 2 [(3, .int (nI i)), (0, .ref (ad E 0 0)), (1, .int x), (2, .int (nI b))] [] := by
  intro f
  induction f with
  | zero => intros; omega
  | succ f ih =>
    intro i hf hi hno
    refine k_iload_n X 0 dX2_isOnWay_2 rfl rfl ?_
    refine k_iload_n X 3 dX2_isOnWay_3 rfl rfl ?_
    refine k_ge_n (a := i) (b := b) (tgt := 34) X dX2_isOnWay_4 (by decide) rfl rfl (by omega) (by omega) (fun c4 => ?_) (fun c4 => ?_)
    · refine k_iconst X 0 dX2_isOnWay_34 (by decide) ?_
      exact k_iret dX2_isOnWay_35 hE (bp_f (by unfold owB; rw [anB_no (fun j hj => hno j (by omega))]; decide)).symm rfl
    · refine k_iload_n X 0 dX2_isOnWay_7 rfl rfl ?_
      refine k_aload_n X 1 dX2_isOnWay_8 rfl rfl ?_
      refine gt_X2_25 X dX2_isOnWay_9 ?_
      refine k_ialen (a := 4) X rfl (by decide) dX2_isOnWay_12 ?_
      refine k_ge_n (a := i) (b := 3) (tgt := 34) X dX2_isOnWay_13 (by decide) rfl rfl (by omega) (by decide) (fun c13 => ?_) (fun c13 => ?_)
      · exact absurd c13 (by omega)
      · refine k_aload_n X 1 dX2_isOnWay_16 rfl rfl ?_
        refine gt_X2_25 X dX2_isOnWay_17 ?_
        refine k_iload_n X 0 dX2_isOnWay_20 rfl rfl ?_
        refine k_iald (a := 4) (j := i) X rfl (by decide) rfl (show i < 3 by omega) (by decide) dX2_isOnWay_21 ?_
        refine k_iload_n X 2 dX2_isOnWay_22 rfl rfl ?_
        refine k_icmp_ne (tgt := 28) X dX2_isOnWay_23 (by decide) (fun c23 => ?_) (fun c23 => ?_)
        · refine k_iinc (v := nI (i + 1)) (L' := [(3, .int (nI (i + 1))), (0, .ref (ad E 0 0)), (1, .int x), (2, .int (nI b))]) X 0 dX2_isOnWay_28 rfl (nI_1 i) (by decide) rfl ?_
          refine k_goto (tgt := 2) X dX2_isOnWay_31 (by decide) ?_
          exact ih (i + 1) (by omega) (by omega) (fun j hj => if e : j = i then e ▸ decide_eq_false c23 else hno j (by omega))
        · refine k_iconst X 1 dX2_isOnWay_26 (by decide) ?_
          exact k_iret dX2_isOnWay_27 hE (bp_t (anB_of (i := i) (decide_eq_true c23) (by omega))).symm rfl

set_option maxHeartbeats 4000000 in
set_option maxRecDepth 100000 in
theorem C_X2_isOnWay {E : EE} {μ : Mem} (b : Nat) (hb : b ≤ 3) (x : Int32) : MM E yX2_isOnWay cX2_isOnWay 4 (some .boolean) (rm 1 0) [.ref (ad E 0 0), .int x, .int (nI b)] μ (some (.int (bp (owB μ x b = true)))) μ := by
  refine MM.int (own := RX2) [(0, .ref (ad E 0 0)), (1, .int x), (2, .int (nI b))] rfl rfl rfl (Nat.le_of_ble_eq_true rfl) bp_nar (fun C X hE => ?_)
  refine k_iconst X (nI 0) dX2_isOnWay_0 (by decide) ?_
  refine k_istore_n (L' := [(3, .int (nI 0)), (0, .ref (ad E 0 0)), (1, .int x), (2, .int (nI b))]) X dX2_isOnWay_1 rfl (by decide) rfl ?_
  exact L_X2_isOnWay b hb x X hE (b + 1) 0 (by omega) (Nat.zero_le b) (fun j hj => absurd hj (Nat.not_lt_zero j))

set_option maxHeartbeats 4000000 in
set_option maxRecDepth 100000 in
theorem C_cu3 {E : EE} {μ : Mem} (c u : Nat) (q : Int32) (hc : c < 20) (hu : u < 6) (hB : BI μ) (hn : vN (μ 11 c 4) 12) : MM E yX2_comeToUser cX2_comeToUser 5 none (rm 3 0) [.ref (ad E 0 0), .ref (ad E 11 c), .int (nI u), .int q, .int (nI 3)] μ none (cu3 c u q μ) := by
  refine MM.void (own := RX2) [(0, .ref (ad E 0 0)), (1, .ref (ad E 11 c)), (2, .int (nI u)), (3, .int q), (4, .int (nI 3))] rfl rfl rfl (Nat.le_of_ble_eq_true rfl) (fun C X hE => ?_)
  refine k_aload_n X 0 dX2_comeToUser_0 rfl rfl ?_
  refine k_iload_n X 2 dX2_comeToUser_1 rfl rfl ?_
  refine k_iload X 4 dX2_comeToUser_2 rfl ?_
  refine k_callV (a := 0) (o := 0) (As := [.int (nI u), .int (nI 3)]) (S := []) X lk_X2_196 rfl (by decide) rfl (C_X2_isOnWay 3 (by decide) _) rfl rfl (Nat.le_of_ble_eq_true rfl) ⟨Nat.le_of_ble_eq_true rfl, Nat.le_of_ble_eq_true rfl⟩ ⟨Nat.le_of_ble_eq_true rfl, Nat.le_of_ble_eq_true rfl⟩ dX2_comeToUser_4 ?_
  show KF E C 0 0 μ 7 _ [.int (bp (owB μ (nI u) 3 = true))]
  refine k_if_eq_p (tgt := 21) X dX2_comeToUser_7 (by decide) (fun c7 => ?_) (fun c7 => ?_)
  · refine k_iload X 4 dX2_comeToUser_21 rfl ?_
    refine k_iconst X 2 dX2_comeToUser_23 (by decide) ?_
    refine k_icmp_le_f (tgt := 38) X dX2_comeToUser_24 (by decide) (by decide) ?_
    refine k_aload_n X 1 dX2_comeToUser_27 rfl rfl ?_
    refine k_iload_n X 3 dX2_comeToUser_28 rfl rfl ?_
    refine k_sipush X 483 dX2_comeToUser_29 (by decide) ?_
    refine k_callV (a := 11) (o := c) (As := [.int q, .int 483]) (S := []) X lk_X2_199 rfl hc rfl (C_X1_addEnded c _ hc hn.1 hn.2 _ _) rfl rfl (Nat.le_of_ble_eq_true rfl) ⟨Nat.le_of_ble_eq_true rfl, Nat.le_of_ble_eq_true rfl⟩ ⟨Nat.le_of_ble_eq_true rfl, Nat.le_of_ble_eq_true rfl⟩ dX2_comeToUser_32 ?_
    show KF E C 0 0 (aeM μ c q 483) 35 _ []
    refine k_goto (tgt := 47) X dX2_comeToUser_35 (by decide) ?_
    exact k_vret dX2_comeToUser_47 hE (by unfold cu3 cuG; rw [if_neg c7, if_pos (by decide)])
  · refine k_aload_n X 1 dX2_comeToUser_10 rfl rfl ?_
    refine k_iload_n X 3 dX2_comeToUser_11 rfl rfl ?_
    refine k_sipush X 482 dX2_comeToUser_12 (by decide) ?_
    refine k_callV (a := 11) (o := c) (As := [.int q, .int 482]) (S := []) X lk_X2_199 rfl hc rfl (C_X1_addEnded c _ hc hn.1 hn.2 _ _) rfl rfl (Nat.le_of_ble_eq_true rfl) ⟨Nat.le_of_ble_eq_true rfl, Nat.le_of_ble_eq_true rfl⟩ ⟨Nat.le_of_ble_eq_true rfl, Nat.le_of_ble_eq_true rfl⟩ dX2_comeToUser_15 ?_
    show KF E C 0 0 (aeM μ c q 482) 18 _ []
    refine k_goto (tgt := 47) X dX2_comeToUser_18 (by decide) ?_
    exact k_vret dX2_comeToUser_47 hE (by unfold cu3 cuG; rw [if_pos c7])

set_option maxHeartbeats 4000000 in
set_option maxRecDepth 100000 in
theorem L_fu2 {E : EE} {μ : Mem} {C : Ctx} (c u m : Nat) (q : Int32) (hc : c < 20) (hu : u < 6) (hm : μ 6 u 4 = nI m) (hm16 : m ≤ 16) (hB : BI μ) (hn : vN (μ 11 c 4) 12) (X : Cx E C cX2_followUser RX2 9 (rm 4 0)) (hE : EndV E C cX2_followUser 0 0 (fuL (cu3 c) 2 c u q m μ)) : ∀ (f : Nat) (i : Nat), m - i < f → i ≤ m → KF E C 0 0 (fuL (cu3 c) 2 c u q i μ) 30 [(6, .int (nI i)), (5, .ref (ad E 6 u)), (0, .ref (ad E 0 0)), (1, .ref (ad E 11 c)), (2, .int (nI u)), (3, .int q), (4, .int (nI 2))] [] := by
  intro f
  induction f with
  | zero => intros; omega
  | succ f ih =>
    intro i hf hi
    have hf9 := fuL_FC (b := 2) (u := u) (qw := q) hn cu3_FC i
    have hBM := hB.fr hf9.1
    have hnM := hf9.2.1 hn
    have e6 := hf9.1.1 6 u 4 (by decide) (by decide) (by decide) (by decide) (by decide)
    refine k_iload X 0 dX2_followUser_30 rfl ?_
    refine k_aload X 1 dX2_followUser_32 rfl ?_
    refine gn_X2_180 X hu dX2_followUser_34 ?_
    refine k_val (y := nI m) (e6.trans hm) ?_
    refine k_ge_n (a := i) (b := m) (tgt := 126) X dX2_followUser_37 (by decide) rfl rfl (by omega) (by omega) (fun c37 => ?_) (fun c37 => ?_)
    · exact k_vret dX2_followUser_126 hE (by rw [show i = m by omega])
    · have hv : vN ((fuL (cu3 c) 2 c u q i μ) 10 u i) 15 := (hBM u hu).2 i (by rw [e6, hm, tN_nI (by omega)]; exact c37)
      refine k_aload X 1 dX2_followUser_40 rfl ?_
      refine gn_X2_183 X hu dX2_followUser_42 ?_
      refine k_iload X 0 dX2_followUser_45 rfl ?_
      refine k_iald (a := 10) (j := i) X rfl hu rfl (show i < 16 by omega) (by decide) dX2_followUser_47 ?_
      refine k_val (y := nI (tN ((fuL (cu3 c) 2 c u q i μ) 10 u i))) hv.1 ?_
      refine k_istore (L' := [(7, .int (nI (tN ((fuL (cu3 c) 2 c u q i μ) 10 u i)))), (6, .int (nI i)), (5, .ref (ad E 6 u)), (0, .ref (ad E 0 0)), (1, .ref (ad E 11 c)), (2, .int (nI u)), (3, .int q), (4, .int (nI 2))]) X dX2_followUser_48 (by decide) rfl ?_
      refine k_aload X 2 dX2_followUser_50 rfl ?_
      refine k_iload X 0 dX2_followUser_52 rfl ?_
      refine k_aload_n X 3 dX2_followUser_54 rfl rfl ?_
      refine gt_X2_35 X dX2_followUser_55 ?_
      refine k_callV (a := 6) (o := u) (As := [.int (nI (tN ((fuL (cu3 c) 2 c u q i μ) 10 u i))), .int ((fuL (cu3 c) 2 c u q i μ) 0 0 6)]) (S := []) X lk_X2_186 rfl hu rfl (C_X0_isThere u (tN ((fuL (cu3 c) 2 c u q i μ) 10 u i)) _ _ hu (Nat.lt_succ_of_le hv.2) rfl) rfl rfl (Nat.le_of_ble_eq_true rfl) ⟨Nat.le_of_ble_eq_true rfl, Nat.le_of_ble_eq_true rfl⟩ ⟨Nat.le_of_ble_eq_true rfl, Nat.le_of_ble_eq_true rfl⟩ dX2_followUser_58 ?_
      show KF E C 0 0 (fuL (cu3 c) 2 c u q i μ) 61 _ [.int (bp (thB (fuL (cu3 c) 2 c u q i μ) u ((fuL (cu3 c) 2 c u q i μ) 0 0 6) (tN ((fuL (cu3 c) 2 c u q i μ) 10 u i)) = true))]
      refine k_if_ne_p (tgt := 67) X dX2_followUser_61 (by decide) (fun c61 => ?_) (fun c61 => ?_)
      · refine k_iload X 7 dX2_followUser_67 rfl ?_
        refine k_if_ne_t (tgt := 83) X dX2_followUser_69 (by decide) (by decide) ?_
        refine k_iload_n X 6 dX2_followUser_83 rfl rfl ?_
        refine k_istore (L' := [(8, .int q), (7, .int (nI (tN ((fuL (cu3 c) 2 c u q i μ) 10 u i)))), (6, .int (nI i)), (5, .ref (ad E 6 u)), (0, .ref (ad E 0 0)), (1, .ref (ad E 11 c)), (2, .int (nI u)), (3, .int q), (4, .int (nI 2))]) X dX2_followUser_84 (by decide) rfl ?_
        refine k_iload X 1 dX2_followUser_86 rfl ?_
        refine k_bipush X 10 dX2_followUser_88 (by decide) ?_
        refine k_ge_n (a := tN ((fuL (cu3 c) 2 c u q i μ) 10 u i)) (b := 10) (tgt := 104) X dX2_followUser_90 (by decide) rfl rfl (by have := hv.2; omega) (by decide) (fun c90 => ?_) (fun c90 => ?_)
        · refine k_aload_n X 4 dX2_followUser_104 rfl rfl ?_
          refine k_aload_n X 5 dX2_followUser_105 rfl rfl ?_
          refine k_iload X 1 dX2_followUser_106 rfl ?_
          refine k_bipush X 10 dX2_followUser_108 (by decide) ?_
          refine k_isub X dX2_followUser_110 ?_
          refine k_val (y := nI (tN ((fuL (cu3 c) 2 c u q i μ) 10 u i) - 10)) (pk_sub c90) ?_
          refine k_iload X 0 dX2_followUser_111 rfl ?_
          refine k_iload X 8 dX2_followUser_113 rfl ?_
          refine k_iconst X 1 dX2_followUser_115 (by decide) ?_
          refine k_iadd X dX2_followUser_116 ?_
          refine k_val (y := nI 3) (by decide) ?_
          refine k_callV (a := 0) (o := 0) (As := [.ref (ad E 11 c), .int (nI (tN ((fuL (cu3 c) 2 c u q i μ) 10 u i) - 10)), .int q, .int (nI 3)]) (S := []) X lk_X2_193 rfl (by decide) rfl (C_cu3 c (tN ((fuL (cu3 c) 2 c u q i μ) 10 u i) - 10) _ hc (by have := hv.2; omega) hBM hnM) rfl rfl (Nat.le_of_ble_eq_true rfl) ⟨Nat.le_of_ble_eq_true rfl, Nat.le_of_ble_eq_true rfl⟩ ⟨Nat.le_of_ble_eq_true rfl, Nat.le_of_ble_eq_true rfl⟩ dX2_followUser_117 ?_
          show KF E C 0 0 (cu3 c (tN ((fuL (cu3 c) 2 c u q i μ) 10 u i) - 10) q (fuL (cu3 c) 2 c u q i μ)) 120 _ []
          refine k_iinc (v := nI (i + 1)) (L' := [(6, .int (nI (i + 1))), (8, .int q), (7, .int (nI (tN ((fuL (cu3 c) 2 c u q i μ) 10 u i)))), (5, .ref (ad E 6 u)), (0, .ref (ad E 0 0)), (1, .ref (ad E 11 c)), (2, .int (nI u)), (3, .int q), (4, .int (nI 2))]) X 2 dX2_followUser_120 rfl (nI_1 i) (by decide) rfl ?_
          refine k_goto (tgt := 30) X dX2_followUser_123 (by decide) ?_
          have e1 : fuL (cu3 c) 2 c u q (i + 1) μ = cu3 c (tN ((fuL (cu3 c) 2 c u q i μ) 10 u i) - 10) q (fuL (cu3 c) 2 c u q i μ) := by show fuS _ _ _ _ _ _ _ = _; unfold fuS; rw [if_pos c61, if_neg (Nat.not_lt.mpr c90)]; rfl
          refine k_mem (μ' := fuL (cu3 c) 2 c u q (i + 1) μ) e1.symm ?_
          refine k_pick (L' := [(6, .int (nI (i + 1))), (5, .ref (ad E 6 u)), (0, .ref (ad E 0 0)), (1, .ref (ad E 11 c)), (2, .int (nI u)), (3, .int q), (4, .int (nI 2))]) [0, 3, 4, 5, 6, 7, 8] rfl ?_
          exact ih (i + 1) (by omega) (by omega)
        · refine k_aload_n X 5 dX2_followUser_93 rfl rfl ?_
          refine k_iload X 1 dX2_followUser_94 rfl ?_
          refine k_iload X 0 dX2_followUser_96 rfl ?_
          refine k_callV (a := 11) (o := c) (As := [.int (nI (tN ((fuL (cu3 c) 2 c u q i μ) 10 u i))), .int q]) (S := []) X lk_X2_189 rfl hc rfl (C_X1_addDevice c _ hc hnM.1 hnM.2 _ _) rfl rfl (Nat.le_of_ble_eq_true rfl) ⟨Nat.le_of_ble_eq_true rfl, Nat.le_of_ble_eq_true rfl⟩ ⟨Nat.le_of_ble_eq_true rfl, Nat.le_of_ble_eq_true rfl⟩ dX2_followUser_98 ?_
          show KF E C 0 0 (adM (fuL (cu3 c) 2 c u q i μ) c (nI (tN ((fuL (cu3 c) 2 c u q i μ) 10 u i))) q) 101 _ []
          refine k_goto (tgt := 120) X dX2_followUser_101 (by decide) ?_
          refine k_iinc (v := nI (i + 1)) (L' := [(6, .int (nI (i + 1))), (8, .int q), (7, .int (nI (tN ((fuL (cu3 c) 2 c u q i μ) 10 u i)))), (5, .ref (ad E 6 u)), (0, .ref (ad E 0 0)), (1, .ref (ad E 11 c)), (2, .int (nI u)), (3, .int q), (4, .int (nI 2))]) X 2 dX2_followUser_120 rfl (nI_1 i) (by decide) rfl ?_
          refine k_goto (tgt := 30) X dX2_followUser_123 (by decide) ?_
          have e1 : fuL (cu3 c) 2 c u q (i + 1) μ = adM (fuL (cu3 c) 2 c u q i μ) c (nI (tN ((fuL (cu3 c) 2 c u q i μ) 10 u i))) q := by show fuS _ _ _ _ _ _ _ = _; unfold fuS; rw [if_pos c61, if_pos c90]; rfl
          refine k_mem (μ' := fuL (cu3 c) 2 c u q (i + 1) μ) e1.symm ?_
          refine k_pick (L' := [(6, .int (nI (i + 1))), (5, .ref (ad E 6 u)), (0, .ref (ad E 0 0)), (1, .ref (ad E 11 c)), (2, .int (nI u)), (3, .int q), (4, .int (nI 2))]) [0, 3, 4, 5, 6, 7, 8] rfl ?_
          exact ih (i + 1) (by omega) (by omega)
      · refine k_goto (tgt := 120) X dX2_followUser_64 (by decide) ?_
        refine k_iinc (v := nI (i + 1)) (L' := [(6, .int (nI (i + 1))), (7, .int (nI (tN ((fuL (cu3 c) 2 c u q i μ) 10 u i)))), (5, .ref (ad E 6 u)), (0, .ref (ad E 0 0)), (1, .ref (ad E 11 c)), (2, .int (nI u)), (3, .int q), (4, .int (nI 2))]) X 1 dX2_followUser_120 rfl (nI_1 i) (by decide) rfl ?_
        refine k_goto (tgt := 30) X dX2_followUser_123 (by decide) ?_
        have e1 : fuL (cu3 c) 2 c u q (i + 1) μ = fuL (cu3 c) 2 c u q i μ := by show fuS _ _ _ _ _ _ _ = _; unfold fuS; rw [if_neg c61]
        refine k_mem (μ' := fuL (cu3 c) 2 c u q (i + 1) μ) e1.symm ?_
        refine k_pick (L' := [(6, .int (nI (i + 1))), (5, .ref (ad E 6 u)), (0, .ref (ad E 0 0)), (1, .ref (ad E 11 c)), (2, .int (nI u)), (3, .int q), (4, .int (nI 2))]) [0, 2, 3, 4, 5, 6, 7] rfl ?_
        exact ih (i + 1) (by omega) (by omega)

set_option maxHeartbeats 4000000 in
set_option maxRecDepth 100000 in
theorem C_fu2 {E : EE} {μ : Mem} (c u : Nat) (q x : Int32) (hc : c < 20) (hu : u < 6) (hB : BI μ) (hn : vN (μ 11 c 4) 12) (hx : x = nI u) : MM E yX2_followUser cX2_followUser 9 none (rm 4 0) [.ref (ad E 0 0), .ref (ad E 11 c), .int x, .int q, .int (nI 2)] μ none (fu2 c u q μ) := by
  refine MM.void (own := RX2) [(0, .ref (ad E 0 0)), (1, .ref (ad E 11 c)), (2, .int x), (3, .int q), (4, .int (nI 2))] rfl rfl rfl (Nat.le_of_ble_eq_true rfl) (fun C X hE => ?_)
  subst hx
  refine k_iload X 4 dX2_followUser_0 rfl ?_
  refine k_aload_n X 0 dX2_followUser_2 rfl rfl ?_
  refine gt_X2_25 X dX2_followUser_3 ?_
  refine k_ialen (a := 4) X rfl (by decide) dX2_followUser_6 ?_
  refine k_icmp_lt_t (tgt := 11) X dX2_followUser_7 (by decide) (by decide) ?_
  refine k_aload_n X 0 dX2_followUser_11 rfl rfl ?_
  refine gt_X2_25 X dX2_followUser_12 ?_
  refine k_iload X 4 dX2_followUser_15 rfl ?_
  refine k_iload_n X 2 dX2_followUser_17 rfl rfl ?_
  refine k_iast (a := 4) (j := 2) X rfl (by decide) rfl (by decide) (by decide) dX2_followUser_18 ?_
  refine k_aload_n X 0 dX2_followUser_19 rfl rfl ?_
  refine gt_X2_11 X dX2_followUser_20 ?_
  refine k_iload_n X 2 dX2_followUser_23 rfl rfl ?_
  refine k_rald (j := u) X rfl hu dX2_followUser_24 ?_
  refine k_astore (L' := [(5, .ref (ad E 6 u)), (0, .ref (ad E 0 0)), (1, .ref (ad E 11 c)), (2, .int (nI u)), (3, .int q), (4, .int (nI 2))]) X dX2_followUser_25 (by decide) rfl ?_
  refine k_iconst X (nI 0) dX2_followUser_27 (by decide) ?_
  refine k_istore (L' := [(6, .int (nI 0)), (5, .ref (ad E 6 u)), (0, .ref (ad E 0 0)), (1, .ref (ad E 11 c)), (2, .int (nI u)), (3, .int q), (4, .int (nI 2))]) X dX2_followUser_28 (by decide) rfl ?_
  refine k_mem (μ' := fuL (cu3 c) 2 c u q 0 (st μ 4 0 2 (nI u))) rfl ?_
  exact L_fu2 c u (tN (μ 6 u 4)) q hc hu ((st_k (by decide)).trans (hB u hu).1.1) (hB u hu).1.2 (hB.fr (way_FC (c := c)).1) (by rw [st_k (by decide)]; exact hn) X hE (tN (μ 6 u 4) + 1) 0 (by omega) (Nat.zero_le _)

set_option maxHeartbeats 4000000 in
set_option maxRecDepth 100000 in
theorem C_cu2 {E : EE} {μ : Mem} (c u : Nat) (q : Int32) (hc : c < 20) (hu : u < 6) (hB : BI μ) (hn : vN (μ 11 c 4) 12) : MM E yX2_comeToUser cX2_comeToUser 5 none (rm 5 0) [.ref (ad E 0 0), .ref (ad E 11 c), .int (nI u), .int q, .int (nI 2)] μ none (cu2 c u q μ) := by
  refine MM.void (own := RX2) [(0, .ref (ad E 0 0)), (1, .ref (ad E 11 c)), (2, .int (nI u)), (3, .int q), (4, .int (nI 2))] rfl rfl rfl (Nat.le_of_ble_eq_true rfl) (fun C X hE => ?_)
  refine k_aload_n X 0 dX2_comeToUser_0 rfl rfl ?_
  refine k_iload_n X 2 dX2_comeToUser_1 rfl rfl ?_
  refine k_iload X 4 dX2_comeToUser_2 rfl ?_
  refine k_callV (a := 0) (o := 0) (As := [.int (nI u), .int (nI 2)]) (S := []) X lk_X2_196 rfl (by decide) rfl (C_X2_isOnWay 2 (by decide) _) rfl rfl (Nat.le_of_ble_eq_true rfl) ⟨Nat.le_of_ble_eq_true rfl, Nat.le_of_ble_eq_true rfl⟩ ⟨Nat.le_of_ble_eq_true rfl, Nat.le_of_ble_eq_true rfl⟩ dX2_comeToUser_4 ?_
  show KF E C 0 0 μ 7 _ [.int (bp (owB μ (nI u) 2 = true))]
  refine k_if_eq_p (tgt := 21) X dX2_comeToUser_7 (by decide) (fun c7 => ?_) (fun c7 => ?_)
  · refine k_iload X 4 dX2_comeToUser_21 rfl ?_
    refine k_iconst X 2 dX2_comeToUser_23 (by decide) ?_
    refine k_icmp_le_t (tgt := 38) X dX2_comeToUser_24 (by decide) (by decide) ?_
    refine k_aload_n X 0 dX2_comeToUser_38 rfl rfl ?_
    refine k_aload_n X 1 dX2_comeToUser_39 rfl rfl ?_
    refine k_iload_n X 2 dX2_comeToUser_40 rfl rfl ?_
    refine k_iload_n X 3 dX2_comeToUser_41 rfl rfl ?_
    refine k_iload X 4 dX2_comeToUser_42 rfl ?_
    refine k_callV (a := 0) (o := 0) (As := [.ref (ad E 11 c), .int (nI u), .int q, .int (nI 2)]) (S := []) X lk_X2_94 rfl (by decide) rfl (C_fu2 c u q _ hc hu hB hn rfl) rfl rfl (Nat.le_of_ble_eq_true rfl) ⟨Nat.le_of_ble_eq_true rfl, Nat.le_of_ble_eq_true rfl⟩ ⟨Nat.le_of_ble_eq_true rfl, Nat.le_of_ble_eq_true rfl⟩ dX2_comeToUser_44 ?_
    show KF E C 0 0 (fu2 c u q μ) 47 _ []
    exact k_vret dX2_comeToUser_47 hE (by unfold cu2 cuG; rw [if_neg c7, if_neg (by decide)])
  · refine k_aload_n X 1 dX2_comeToUser_10 rfl rfl ?_
    refine k_iload_n X 3 dX2_comeToUser_11 rfl rfl ?_
    refine k_sipush X 482 dX2_comeToUser_12 (by decide) ?_
    refine k_callV (a := 11) (o := c) (As := [.int q, .int 482]) (S := []) X lk_X2_199 rfl hc rfl (C_X1_addEnded c _ hc hn.1 hn.2 _ _) rfl rfl (Nat.le_of_ble_eq_true rfl) ⟨Nat.le_of_ble_eq_true rfl, Nat.le_of_ble_eq_true rfl⟩ ⟨Nat.le_of_ble_eq_true rfl, Nat.le_of_ble_eq_true rfl⟩ dX2_comeToUser_15 ?_
    show KF E C 0 0 (aeM μ c q 482) 18 _ []
    refine k_goto (tgt := 47) X dX2_comeToUser_18 (by decide) ?_
    exact k_vret dX2_comeToUser_47 hE (by unfold cu2 cuG; rw [if_pos c7])

set_option maxHeartbeats 4000000 in
set_option maxRecDepth 100000 in
theorem L_fu1 {E : EE} {μ : Mem} {C : Ctx} (c u m : Nat) (q : Int32) (hc : c < 20) (hu : u < 6) (hm : μ 6 u 4 = nI m) (hm16 : m ≤ 16) (hB : BI μ) (hn : vN (μ 11 c 4) 12) (X : Cx E C cX2_followUser RX2 9 (rm 6 0)) (hE : EndV E C cX2_followUser 0 0 (fuL (cu2 c) 1 c u q m μ)) : ∀ (f : Nat) (i : Nat), m - i < f → i ≤ m → KF E C 0 0 (fuL (cu2 c) 1 c u q i μ) 30 [(6, .int (nI i)), (5, .ref (ad E 6 u)), (0, .ref (ad E 0 0)), (1, .ref (ad E 11 c)), (2, .int (nI u)), (3, .int q), (4, .int (nI 1))] [] := by
  intro f
  induction f with
  | zero => intros; omega
  | succ f ih =>
    intro i hf hi
    have hf9 := fuL_FC (b := 1) (u := u) (qw := q) hn cu2_FC i
    have hBM := hB.fr hf9.1
    have hnM := hf9.2.1 hn
    have e6 := hf9.1.1 6 u 4 (by decide) (by decide) (by decide) (by decide) (by decide)
    refine k_iload X 0 dX2_followUser_30 rfl ?_
    refine k_aload X 1 dX2_followUser_32 rfl ?_
    refine gn_X2_180 X hu dX2_followUser_34 ?_
    refine k_val (y := nI m) (e6.trans hm) ?_
    refine k_ge_n (a := i) (b := m) (tgt := 126) X dX2_followUser_37 (by decide) rfl rfl (by omega) (by omega) (fun c37 => ?_) (fun c37 => ?_)
    · exact k_vret dX2_followUser_126 hE (by rw [show i = m by omega])
    · have hv : vN ((fuL (cu2 c) 1 c u q i μ) 10 u i) 15 := (hBM u hu).2 i (by rw [e6, hm, tN_nI (by omega)]; exact c37)
      refine k_aload X 1 dX2_followUser_40 rfl ?_
      refine gn_X2_183 X hu dX2_followUser_42 ?_
      refine k_iload X 0 dX2_followUser_45 rfl ?_
      refine k_iald (a := 10) (j := i) X rfl hu rfl (show i < 16 by omega) (by decide) dX2_followUser_47 ?_
      refine k_val (y := nI (tN ((fuL (cu2 c) 1 c u q i μ) 10 u i))) hv.1 ?_
      refine k_istore (L' := [(7, .int (nI (tN ((fuL (cu2 c) 1 c u q i μ) 10 u i)))), (6, .int (nI i)), (5, .ref (ad E 6 u)), (0, .ref (ad E 0 0)), (1, .ref (ad E 11 c)), (2, .int (nI u)), (3, .int q), (4, .int (nI 1))]) X dX2_followUser_48 (by decide) rfl ?_
      refine k_aload X 2 dX2_followUser_50 rfl ?_
      refine k_iload X 0 dX2_followUser_52 rfl ?_
      refine k_aload_n X 3 dX2_followUser_54 rfl rfl ?_
      refine gt_X2_35 X dX2_followUser_55 ?_
      refine k_callV (a := 6) (o := u) (As := [.int (nI (tN ((fuL (cu2 c) 1 c u q i μ) 10 u i))), .int ((fuL (cu2 c) 1 c u q i μ) 0 0 6)]) (S := []) X lk_X2_186 rfl hu rfl (C_X0_isThere u (tN ((fuL (cu2 c) 1 c u q i μ) 10 u i)) _ _ hu (Nat.lt_succ_of_le hv.2) rfl) rfl rfl (Nat.le_of_ble_eq_true rfl) ⟨Nat.le_of_ble_eq_true rfl, Nat.le_of_ble_eq_true rfl⟩ ⟨Nat.le_of_ble_eq_true rfl, Nat.le_of_ble_eq_true rfl⟩ dX2_followUser_58 ?_
      show KF E C 0 0 (fuL (cu2 c) 1 c u q i μ) 61 _ [.int (bp (thB (fuL (cu2 c) 1 c u q i μ) u ((fuL (cu2 c) 1 c u q i μ) 0 0 6) (tN ((fuL (cu2 c) 1 c u q i μ) 10 u i)) = true))]
      refine k_if_ne_p (tgt := 67) X dX2_followUser_61 (by decide) (fun c61 => ?_) (fun c61 => ?_)
      · refine k_iload X 7 dX2_followUser_67 rfl ?_
        refine k_if_ne_t (tgt := 83) X dX2_followUser_69 (by decide) (by decide) ?_
        refine k_iload_n X 6 dX2_followUser_83 rfl rfl ?_
        refine k_istore (L' := [(8, .int q), (7, .int (nI (tN ((fuL (cu2 c) 1 c u q i μ) 10 u i)))), (6, .int (nI i)), (5, .ref (ad E 6 u)), (0, .ref (ad E 0 0)), (1, .ref (ad E 11 c)), (2, .int (nI u)), (3, .int q), (4, .int (nI 1))]) X dX2_followUser_84 (by decide) rfl ?_
        refine k_iload X 1 dX2_followUser_86 rfl ?_
        refine k_bipush X 10 dX2_followUser_88 (by decide) ?_
        refine k_ge_n (a := tN ((fuL (cu2 c) 1 c u q i μ) 10 u i)) (b := 10) (tgt := 104) X dX2_followUser_90 (by decide) rfl rfl (by have := hv.2; omega) (by decide) (fun c90 => ?_) (fun c90 => ?_)
        · refine k_aload_n X 4 dX2_followUser_104 rfl rfl ?_
          refine k_aload_n X 5 dX2_followUser_105 rfl rfl ?_
          refine k_iload X 1 dX2_followUser_106 rfl ?_
          refine k_bipush X 10 dX2_followUser_108 (by decide) ?_
          refine k_isub X dX2_followUser_110 ?_
          refine k_val (y := nI (tN ((fuL (cu2 c) 1 c u q i μ) 10 u i) - 10)) (pk_sub c90) ?_
          refine k_iload X 0 dX2_followUser_111 rfl ?_
          refine k_iload X 8 dX2_followUser_113 rfl ?_
          refine k_iconst X 1 dX2_followUser_115 (by decide) ?_
          refine k_iadd X dX2_followUser_116 ?_
          refine k_val (y := nI 2) (by decide) ?_
          refine k_callV (a := 0) (o := 0) (As := [.ref (ad E 11 c), .int (nI (tN ((fuL (cu2 c) 1 c u q i μ) 10 u i) - 10)), .int q, .int (nI 2)]) (S := []) X lk_X2_193 rfl (by decide) rfl (C_cu2 c (tN ((fuL (cu2 c) 1 c u q i μ) 10 u i) - 10) _ hc (by have := hv.2; omega) hBM hnM) rfl rfl (Nat.le_of_ble_eq_true rfl) ⟨Nat.le_of_ble_eq_true rfl, Nat.le_of_ble_eq_true rfl⟩ ⟨Nat.le_of_ble_eq_true rfl, Nat.le_of_ble_eq_true rfl⟩ dX2_followUser_117 ?_
          show KF E C 0 0 (cu2 c (tN ((fuL (cu2 c) 1 c u q i μ) 10 u i) - 10) q (fuL (cu2 c) 1 c u q i μ)) 120 _ []
          refine k_iinc (v := nI (i + 1)) (L' := [(6, .int (nI (i + 1))), (8, .int q), (7, .int (nI (tN ((fuL (cu2 c) 1 c u q i μ) 10 u i)))), (5, .ref (ad E 6 u)), (0, .ref (ad E 0 0)), (1, .ref (ad E 11 c)), (2, .int (nI u)), (3, .int q), (4, .int (nI 1))]) X 2 dX2_followUser_120 rfl (nI_1 i) (by decide) rfl ?_
          refine k_goto (tgt := 30) X dX2_followUser_123 (by decide) ?_
          have e1 : fuL (cu2 c) 1 c u q (i + 1) μ = cu2 c (tN ((fuL (cu2 c) 1 c u q i μ) 10 u i) - 10) q (fuL (cu2 c) 1 c u q i μ) := by show fuS _ _ _ _ _ _ _ = _; unfold fuS; rw [if_pos c61, if_neg (Nat.not_lt.mpr c90)]; rfl
          refine k_mem (μ' := fuL (cu2 c) 1 c u q (i + 1) μ) e1.symm ?_
          refine k_pick (L' := [(6, .int (nI (i + 1))), (5, .ref (ad E 6 u)), (0, .ref (ad E 0 0)), (1, .ref (ad E 11 c)), (2, .int (nI u)), (3, .int q), (4, .int (nI 1))]) [0, 3, 4, 5, 6, 7, 8] rfl ?_
          exact ih (i + 1) (by omega) (by omega)
        · refine k_aload_n X 5 dX2_followUser_93 rfl rfl ?_
          refine k_iload X 1 dX2_followUser_94 rfl ?_
          refine k_iload X 0 dX2_followUser_96 rfl ?_
          refine k_callV (a := 11) (o := c) (As := [.int (nI (tN ((fuL (cu2 c) 1 c u q i μ) 10 u i))), .int q]) (S := []) X lk_X2_189 rfl hc rfl (C_X1_addDevice c _ hc hnM.1 hnM.2 _ _) rfl rfl (Nat.le_of_ble_eq_true rfl) ⟨Nat.le_of_ble_eq_true rfl, Nat.le_of_ble_eq_true rfl⟩ ⟨Nat.le_of_ble_eq_true rfl, Nat.le_of_ble_eq_true rfl⟩ dX2_followUser_98 ?_
          show KF E C 0 0 (adM (fuL (cu2 c) 1 c u q i μ) c (nI (tN ((fuL (cu2 c) 1 c u q i μ) 10 u i))) q) 101 _ []
          refine k_goto (tgt := 120) X dX2_followUser_101 (by decide) ?_
          refine k_iinc (v := nI (i + 1)) (L' := [(6, .int (nI (i + 1))), (8, .int q), (7, .int (nI (tN ((fuL (cu2 c) 1 c u q i μ) 10 u i)))), (5, .ref (ad E 6 u)), (0, .ref (ad E 0 0)), (1, .ref (ad E 11 c)), (2, .int (nI u)), (3, .int q), (4, .int (nI 1))]) X 2 dX2_followUser_120 rfl (nI_1 i) (by decide) rfl ?_
          refine k_goto (tgt := 30) X dX2_followUser_123 (by decide) ?_
          have e1 : fuL (cu2 c) 1 c u q (i + 1) μ = adM (fuL (cu2 c) 1 c u q i μ) c (nI (tN ((fuL (cu2 c) 1 c u q i μ) 10 u i))) q := by show fuS _ _ _ _ _ _ _ = _; unfold fuS; rw [if_pos c61, if_pos c90]; rfl
          refine k_mem (μ' := fuL (cu2 c) 1 c u q (i + 1) μ) e1.symm ?_
          refine k_pick (L' := [(6, .int (nI (i + 1))), (5, .ref (ad E 6 u)), (0, .ref (ad E 0 0)), (1, .ref (ad E 11 c)), (2, .int (nI u)), (3, .int q), (4, .int (nI 1))]) [0, 3, 4, 5, 6, 7, 8] rfl ?_
          exact ih (i + 1) (by omega) (by omega)
      · refine k_goto (tgt := 120) X dX2_followUser_64 (by decide) ?_
        refine k_iinc (v := nI (i + 1)) (L' := [(6, .int (nI (i + 1))), (7, .int (nI (tN ((fuL (cu2 c) 1 c u q i μ) 10 u i)))), (5, .ref (ad E 6 u)), (0, .ref (ad E 0 0)), (1, .ref (ad E 11 c)), (2, .int (nI u)), (3, .int q), (4, .int (nI 1))]) X 1 dX2_followUser_120 rfl (nI_1 i) (by decide) rfl ?_
        refine k_goto (tgt := 30) X dX2_followUser_123 (by decide) ?_
        have e1 : fuL (cu2 c) 1 c u q (i + 1) μ = fuL (cu2 c) 1 c u q i μ := by show fuS _ _ _ _ _ _ _ = _; unfold fuS; rw [if_neg c61]
        refine k_mem (μ' := fuL (cu2 c) 1 c u q (i + 1) μ) e1.symm ?_
        refine k_pick (L' := [(6, .int (nI (i + 1))), (5, .ref (ad E 6 u)), (0, .ref (ad E 0 0)), (1, .ref (ad E 11 c)), (2, .int (nI u)), (3, .int q), (4, .int (nI 1))]) [0, 2, 3, 4, 5, 6, 7] rfl ?_
        exact ih (i + 1) (by omega) (by omega)

set_option maxHeartbeats 4000000 in
set_option maxRecDepth 100000 in
theorem C_fu1 {E : EE} {μ : Mem} (c u : Nat) (q x : Int32) (hc : c < 20) (hu : u < 6) (hB : BI μ) (hn : vN (μ 11 c 4) 12) (hx : x = nI u) : MM E yX2_followUser cX2_followUser 9 none (rm 6 0) [.ref (ad E 0 0), .ref (ad E 11 c), .int x, .int q, .int (nI 1)] μ none (fu1 c u q μ) := by
  refine MM.void (own := RX2) [(0, .ref (ad E 0 0)), (1, .ref (ad E 11 c)), (2, .int x), (3, .int q), (4, .int (nI 1))] rfl rfl rfl (Nat.le_of_ble_eq_true rfl) (fun C X hE => ?_)
  subst hx
  refine k_iload X 4 dX2_followUser_0 rfl ?_
  refine k_aload_n X 0 dX2_followUser_2 rfl rfl ?_
  refine gt_X2_25 X dX2_followUser_3 ?_
  refine k_ialen (a := 4) X rfl (by decide) dX2_followUser_6 ?_
  refine k_icmp_lt_t (tgt := 11) X dX2_followUser_7 (by decide) (by decide) ?_
  refine k_aload_n X 0 dX2_followUser_11 rfl rfl ?_
  refine gt_X2_25 X dX2_followUser_12 ?_
  refine k_iload X 4 dX2_followUser_15 rfl ?_
  refine k_iload_n X 2 dX2_followUser_17 rfl rfl ?_
  refine k_iast (a := 4) (j := 1) X rfl (by decide) rfl (by decide) (by decide) dX2_followUser_18 ?_
  refine k_aload_n X 0 dX2_followUser_19 rfl rfl ?_
  refine gt_X2_11 X dX2_followUser_20 ?_
  refine k_iload_n X 2 dX2_followUser_23 rfl rfl ?_
  refine k_rald (j := u) X rfl hu dX2_followUser_24 ?_
  refine k_astore (L' := [(5, .ref (ad E 6 u)), (0, .ref (ad E 0 0)), (1, .ref (ad E 11 c)), (2, .int (nI u)), (3, .int q), (4, .int (nI 1))]) X dX2_followUser_25 (by decide) rfl ?_
  refine k_iconst X (nI 0) dX2_followUser_27 (by decide) ?_
  refine k_istore (L' := [(6, .int (nI 0)), (5, .ref (ad E 6 u)), (0, .ref (ad E 0 0)), (1, .ref (ad E 11 c)), (2, .int (nI u)), (3, .int q), (4, .int (nI 1))]) X dX2_followUser_28 (by decide) rfl ?_
  refine k_mem (μ' := fuL (cu2 c) 1 c u q 0 (st μ 4 0 1 (nI u))) rfl ?_
  exact L_fu1 c u (tN (μ 6 u 4)) q hc hu ((st_k (by decide)).trans (hB u hu).1.1) (hB u hu).1.2 (hB.fr (way_FC (c := c)).1) (by rw [st_k (by decide)]; exact hn) X hE (tN (μ 6 u 4) + 1) 0 (by omega) (Nat.zero_le _)

set_option maxHeartbeats 4000000 in
set_option maxRecDepth 100000 in
theorem C_cu1 {E : EE} {μ : Mem} (c u : Nat) (q : Int32) (hc : c < 20) (hu : u < 6) (hB : BI μ) (hn : vN (μ 11 c 4) 12) : MM E yX2_comeToUser cX2_comeToUser 5 none (rm 7 0) [.ref (ad E 0 0), .ref (ad E 11 c), .int (nI u), .int q, .int (nI 1)] μ none (cu1 c u q μ) := by
  refine MM.void (own := RX2) [(0, .ref (ad E 0 0)), (1, .ref (ad E 11 c)), (2, .int (nI u)), (3, .int q), (4, .int (nI 1))] rfl rfl rfl (Nat.le_of_ble_eq_true rfl) (fun C X hE => ?_)
  refine k_aload_n X 0 dX2_comeToUser_0 rfl rfl ?_
  refine k_iload_n X 2 dX2_comeToUser_1 rfl rfl ?_
  refine k_iload X 4 dX2_comeToUser_2 rfl ?_
  refine k_callV (a := 0) (o := 0) (As := [.int (nI u), .int (nI 1)]) (S := []) X lk_X2_196 rfl (by decide) rfl (C_X2_isOnWay 1 (by decide) _) rfl rfl (Nat.le_of_ble_eq_true rfl) ⟨Nat.le_of_ble_eq_true rfl, Nat.le_of_ble_eq_true rfl⟩ ⟨Nat.le_of_ble_eq_true rfl, Nat.le_of_ble_eq_true rfl⟩ dX2_comeToUser_4 ?_
  show KF E C 0 0 μ 7 _ [.int (bp (owB μ (nI u) 1 = true))]
  refine k_if_eq_p (tgt := 21) X dX2_comeToUser_7 (by decide) (fun c7 => ?_) (fun c7 => ?_)
  · refine k_iload X 4 dX2_comeToUser_21 rfl ?_
    refine k_iconst X 2 dX2_comeToUser_23 (by decide) ?_
    refine k_icmp_le_t (tgt := 38) X dX2_comeToUser_24 (by decide) (by decide) ?_
    refine k_aload_n X 0 dX2_comeToUser_38 rfl rfl ?_
    refine k_aload_n X 1 dX2_comeToUser_39 rfl rfl ?_
    refine k_iload_n X 2 dX2_comeToUser_40 rfl rfl ?_
    refine k_iload_n X 3 dX2_comeToUser_41 rfl rfl ?_
    refine k_iload X 4 dX2_comeToUser_42 rfl ?_
    refine k_callV (a := 0) (o := 0) (As := [.ref (ad E 11 c), .int (nI u), .int q, .int (nI 1)]) (S := []) X lk_X2_94 rfl (by decide) rfl (C_fu1 c u q _ hc hu hB hn rfl) rfl rfl (Nat.le_of_ble_eq_true rfl) ⟨Nat.le_of_ble_eq_true rfl, Nat.le_of_ble_eq_true rfl⟩ ⟨Nat.le_of_ble_eq_true rfl, Nat.le_of_ble_eq_true rfl⟩ dX2_comeToUser_44 ?_
    show KF E C 0 0 (fu1 c u q μ) 47 _ []
    exact k_vret dX2_comeToUser_47 hE (by unfold cu1 cuG; rw [if_neg c7, if_neg (by decide)])
  · refine k_aload_n X 1 dX2_comeToUser_10 rfl rfl ?_
    refine k_iload_n X 3 dX2_comeToUser_11 rfl rfl ?_
    refine k_sipush X 482 dX2_comeToUser_12 (by decide) ?_
    refine k_callV (a := 11) (o := c) (As := [.int q, .int 482]) (S := []) X lk_X2_199 rfl hc rfl (C_X1_addEnded c _ hc hn.1 hn.2 _ _) rfl rfl (Nat.le_of_ble_eq_true rfl) ⟨Nat.le_of_ble_eq_true rfl, Nat.le_of_ble_eq_true rfl⟩ ⟨Nat.le_of_ble_eq_true rfl, Nat.le_of_ble_eq_true rfl⟩ dX2_comeToUser_15 ?_
    show KF E C 0 0 (aeM μ c q 482) 18 _ []
    refine k_goto (tgt := 47) X dX2_comeToUser_18 (by decide) ?_
    exact k_vret dX2_comeToUser_47 hE (by unfold cu1 cuG; rw [if_pos c7])

set_option maxHeartbeats 4000000 in
set_option maxRecDepth 100000 in
theorem L_fu0 {E : EE} {μ : Mem} {C : Ctx} (c u m : Nat) (q : Int32) (hc : c < 20) (hu : u < 6) (hm : μ 6 u 4 = nI m) (hm16 : m ≤ 16) (hB : BI μ) (hn : vN (μ 11 c 4) 12) (X : Cx E C cX2_followUser RX2 9 (rm 8 0)) (hE : EndV E C cX2_followUser 0 0 (fuL (cu1 c) 0 c u q m μ)) : ∀ (f : Nat) (i : Nat), m - i < f → i ≤ m → KF E C 0 0 (fuL (cu1 c) 0 c u q i μ) 30 [(6, .int (nI i)), (5, .ref (ad E 6 u)), (0, .ref (ad E 0 0)), (1, .ref (ad E 11 c)), (2, .int (nI u)), (3, .int q), (4, .int (nI 0))] [] := by
  intro f
  induction f with
  | zero => intros; omega
  | succ f ih =>
    intro i hf hi
    have hf9 := fuL_FC (b := 0) (u := u) (qw := q) hn cu1_FC i
    have hBM := hB.fr hf9.1
    have hnM := hf9.2.1 hn
    have e6 := hf9.1.1 6 u 4 (by decide) (by decide) (by decide) (by decide) (by decide)
    refine k_iload X 0 dX2_followUser_30 rfl ?_
    refine k_aload X 1 dX2_followUser_32 rfl ?_
    refine gn_X2_180 X hu dX2_followUser_34 ?_
    refine k_val (y := nI m) (e6.trans hm) ?_
    refine k_ge_n (a := i) (b := m) (tgt := 126) X dX2_followUser_37 (by decide) rfl rfl (by omega) (by omega) (fun c37 => ?_) (fun c37 => ?_)
    · exact k_vret dX2_followUser_126 hE (by rw [show i = m by omega])
    · have hv : vN ((fuL (cu1 c) 0 c u q i μ) 10 u i) 15 := (hBM u hu).2 i (by rw [e6, hm, tN_nI (by omega)]; exact c37)
      refine k_aload X 1 dX2_followUser_40 rfl ?_
      refine gn_X2_183 X hu dX2_followUser_42 ?_
      refine k_iload X 0 dX2_followUser_45 rfl ?_
      refine k_iald (a := 10) (j := i) X rfl hu rfl (show i < 16 by omega) (by decide) dX2_followUser_47 ?_
      refine k_val (y := nI (tN ((fuL (cu1 c) 0 c u q i μ) 10 u i))) hv.1 ?_
      refine k_istore (L' := [(7, .int (nI (tN ((fuL (cu1 c) 0 c u q i μ) 10 u i)))), (6, .int (nI i)), (5, .ref (ad E 6 u)), (0, .ref (ad E 0 0)), (1, .ref (ad E 11 c)), (2, .int (nI u)), (3, .int q), (4, .int (nI 0))]) X dX2_followUser_48 (by decide) rfl ?_
      refine k_aload X 2 dX2_followUser_50 rfl ?_
      refine k_iload X 0 dX2_followUser_52 rfl ?_
      refine k_aload_n X 3 dX2_followUser_54 rfl rfl ?_
      refine gt_X2_35 X dX2_followUser_55 ?_
      refine k_callV (a := 6) (o := u) (As := [.int (nI (tN ((fuL (cu1 c) 0 c u q i μ) 10 u i))), .int ((fuL (cu1 c) 0 c u q i μ) 0 0 6)]) (S := []) X lk_X2_186 rfl hu rfl (C_X0_isThere u (tN ((fuL (cu1 c) 0 c u q i μ) 10 u i)) _ _ hu (Nat.lt_succ_of_le hv.2) rfl) rfl rfl (Nat.le_of_ble_eq_true rfl) ⟨Nat.le_of_ble_eq_true rfl, Nat.le_of_ble_eq_true rfl⟩ ⟨Nat.le_of_ble_eq_true rfl, Nat.le_of_ble_eq_true rfl⟩ dX2_followUser_58 ?_
      show KF E C 0 0 (fuL (cu1 c) 0 c u q i μ) 61 _ [.int (bp (thB (fuL (cu1 c) 0 c u q i μ) u ((fuL (cu1 c) 0 c u q i μ) 0 0 6) (tN ((fuL (cu1 c) 0 c u q i μ) 10 u i)) = true))]
      refine k_if_ne_p (tgt := 67) X dX2_followUser_61 (by decide) (fun c61 => ?_) (fun c61 => ?_)
      · refine k_iload X 7 dX2_followUser_67 rfl ?_
        refine k_if_ne_f (tgt := 83) X dX2_followUser_69 (by decide) (by decide) ?_
        refine k_aload X 2 dX2_followUser_72 rfl ?_
        refine gn_X2_87 X hu dX2_followUser_74 ?_
        refine k_iload X 0 dX2_followUser_77 rfl ?_
        refine k_iald (a := 7) (j := (tN ((fuL (cu1 c) 0 c u q i μ) 10 u i))) X rfl hu rfl (show tN ((fuL (cu1 c) 0 c u q i μ) 10 u i) < 16 from Nat.lt_succ_of_le hv.2) (by decide) dX2_followUser_79 ?_
        refine k_goto (tgt := 84) X dX2_followUser_80 (by decide) ?_
        refine k_istore (L' := [(8, .int ((fuL (cu1 c) 0 c u q i μ) 7 u (tN ((fuL (cu1 c) 0 c u q i μ) 10 u i)))), (7, .int (nI (tN ((fuL (cu1 c) 0 c u q i μ) 10 u i)))), (6, .int (nI i)), (5, .ref (ad E 6 u)), (0, .ref (ad E 0 0)), (1, .ref (ad E 11 c)), (2, .int (nI u)), (3, .int q), (4, .int (nI 0))]) X dX2_followUser_84 (by decide) rfl ?_
        refine k_iload X 1 dX2_followUser_86 rfl ?_
        refine k_bipush X 10 dX2_followUser_88 (by decide) ?_
        refine k_ge_n (a := tN ((fuL (cu1 c) 0 c u q i μ) 10 u i)) (b := 10) (tgt := 104) X dX2_followUser_90 (by decide) rfl rfl (by have := hv.2; omega) (by decide) (fun c90 => ?_) (fun c90 => ?_)
        · refine k_aload_n X 4 dX2_followUser_104 rfl rfl ?_
          refine k_aload_n X 5 dX2_followUser_105 rfl rfl ?_
          refine k_iload X 1 dX2_followUser_106 rfl ?_
          refine k_bipush X 10 dX2_followUser_108 (by decide) ?_
          refine k_isub X dX2_followUser_110 ?_
          refine k_val (y := nI (tN ((fuL (cu1 c) 0 c u q i μ) 10 u i) - 10)) (pk_sub c90) ?_
          refine k_iload X 0 dX2_followUser_111 rfl ?_
          refine k_iload X 8 dX2_followUser_113 rfl ?_
          refine k_iconst X 1 dX2_followUser_115 (by decide) ?_
          refine k_iadd X dX2_followUser_116 ?_
          refine k_val (y := nI 1) (by decide) ?_
          refine k_callV (a := 0) (o := 0) (As := [.ref (ad E 11 c), .int (nI (tN ((fuL (cu1 c) 0 c u q i μ) 10 u i) - 10)), .int ((fuL (cu1 c) 0 c u q i μ) 7 u (tN ((fuL (cu1 c) 0 c u q i μ) 10 u i))), .int (nI 1)]) (S := []) X lk_X2_193 rfl (by decide) rfl (C_cu1 c (tN ((fuL (cu1 c) 0 c u q i μ) 10 u i) - 10) _ hc (by have := hv.2; omega) hBM hnM) rfl rfl (Nat.le_of_ble_eq_true rfl) ⟨Nat.le_of_ble_eq_true rfl, Nat.le_of_ble_eq_true rfl⟩ ⟨Nat.le_of_ble_eq_true rfl, Nat.le_of_ble_eq_true rfl⟩ dX2_followUser_117 ?_
          show KF E C 0 0 (cu1 c (tN ((fuL (cu1 c) 0 c u q i μ) 10 u i) - 10) ((fuL (cu1 c) 0 c u q i μ) 7 u (tN ((fuL (cu1 c) 0 c u q i μ) 10 u i))) (fuL (cu1 c) 0 c u q i μ)) 120 _ []
          refine k_iinc (v := nI (i + 1)) (L' := [(6, .int (nI (i + 1))), (8, .int ((fuL (cu1 c) 0 c u q i μ) 7 u (tN ((fuL (cu1 c) 0 c u q i μ) 10 u i)))), (7, .int (nI (tN ((fuL (cu1 c) 0 c u q i μ) 10 u i)))), (5, .ref (ad E 6 u)), (0, .ref (ad E 0 0)), (1, .ref (ad E 11 c)), (2, .int (nI u)), (3, .int q), (4, .int (nI 0))]) X 2 dX2_followUser_120 rfl (nI_1 i) (by decide) rfl ?_
          refine k_goto (tgt := 30) X dX2_followUser_123 (by decide) ?_
          have e1 : fuL (cu1 c) 0 c u q (i + 1) μ = cu1 c (tN ((fuL (cu1 c) 0 c u q i μ) 10 u i) - 10) ((fuL (cu1 c) 0 c u q i μ) 7 u (tN ((fuL (cu1 c) 0 c u q i μ) 10 u i))) (fuL (cu1 c) 0 c u q i μ) := by show fuS _ _ _ _ _ _ _ = _; unfold fuS; rw [if_pos c61, if_neg (Nat.not_lt.mpr c90)]; rfl
          refine k_mem (μ' := fuL (cu1 c) 0 c u q (i + 1) μ) e1.symm ?_
          refine k_pick (L' := [(6, .int (nI (i + 1))), (5, .ref (ad E 6 u)), (0, .ref (ad E 0 0)), (1, .ref (ad E 11 c)), (2, .int (nI u)), (3, .int q), (4, .int (nI 0))]) [0, 3, 4, 5, 6, 7, 8] rfl ?_
          exact ih (i + 1) (by omega) (by omega)
        · refine k_aload_n X 5 dX2_followUser_93 rfl rfl ?_
          refine k_iload X 1 dX2_followUser_94 rfl ?_
          refine k_iload X 0 dX2_followUser_96 rfl ?_
          refine k_callV (a := 11) (o := c) (As := [.int (nI (tN ((fuL (cu1 c) 0 c u q i μ) 10 u i))), .int ((fuL (cu1 c) 0 c u q i μ) 7 u (tN ((fuL (cu1 c) 0 c u q i μ) 10 u i)))]) (S := []) X lk_X2_189 rfl hc rfl (C_X1_addDevice c _ hc hnM.1 hnM.2 _ _) rfl rfl (Nat.le_of_ble_eq_true rfl) ⟨Nat.le_of_ble_eq_true rfl, Nat.le_of_ble_eq_true rfl⟩ ⟨Nat.le_of_ble_eq_true rfl, Nat.le_of_ble_eq_true rfl⟩ dX2_followUser_98 ?_
          show KF E C 0 0 (adM (fuL (cu1 c) 0 c u q i μ) c (nI (tN ((fuL (cu1 c) 0 c u q i μ) 10 u i))) ((fuL (cu1 c) 0 c u q i μ) 7 u (tN ((fuL (cu1 c) 0 c u q i μ) 10 u i)))) 101 _ []
          refine k_goto (tgt := 120) X dX2_followUser_101 (by decide) ?_
          refine k_iinc (v := nI (i + 1)) (L' := [(6, .int (nI (i + 1))), (8, .int ((fuL (cu1 c) 0 c u q i μ) 7 u (tN ((fuL (cu1 c) 0 c u q i μ) 10 u i)))), (7, .int (nI (tN ((fuL (cu1 c) 0 c u q i μ) 10 u i)))), (5, .ref (ad E 6 u)), (0, .ref (ad E 0 0)), (1, .ref (ad E 11 c)), (2, .int (nI u)), (3, .int q), (4, .int (nI 0))]) X 2 dX2_followUser_120 rfl (nI_1 i) (by decide) rfl ?_
          refine k_goto (tgt := 30) X dX2_followUser_123 (by decide) ?_
          have e1 : fuL (cu1 c) 0 c u q (i + 1) μ = adM (fuL (cu1 c) 0 c u q i μ) c (nI (tN ((fuL (cu1 c) 0 c u q i μ) 10 u i))) ((fuL (cu1 c) 0 c u q i μ) 7 u (tN ((fuL (cu1 c) 0 c u q i μ) 10 u i))) := by show fuS _ _ _ _ _ _ _ = _; unfold fuS; rw [if_pos c61, if_pos c90]; rfl
          refine k_mem (μ' := fuL (cu1 c) 0 c u q (i + 1) μ) e1.symm ?_
          refine k_pick (L' := [(6, .int (nI (i + 1))), (5, .ref (ad E 6 u)), (0, .ref (ad E 0 0)), (1, .ref (ad E 11 c)), (2, .int (nI u)), (3, .int q), (4, .int (nI 0))]) [0, 3, 4, 5, 6, 7, 8] rfl ?_
          exact ih (i + 1) (by omega) (by omega)
      · refine k_goto (tgt := 120) X dX2_followUser_64 (by decide) ?_
        refine k_iinc (v := nI (i + 1)) (L' := [(6, .int (nI (i + 1))), (7, .int (nI (tN ((fuL (cu1 c) 0 c u q i μ) 10 u i)))), (5, .ref (ad E 6 u)), (0, .ref (ad E 0 0)), (1, .ref (ad E 11 c)), (2, .int (nI u)), (3, .int q), (4, .int (nI 0))]) X 1 dX2_followUser_120 rfl (nI_1 i) (by decide) rfl ?_
        refine k_goto (tgt := 30) X dX2_followUser_123 (by decide) ?_
        have e1 : fuL (cu1 c) 0 c u q (i + 1) μ = fuL (cu1 c) 0 c u q i μ := by show fuS _ _ _ _ _ _ _ = _; unfold fuS; rw [if_neg c61]
        refine k_mem (μ' := fuL (cu1 c) 0 c u q (i + 1) μ) e1.symm ?_
        refine k_pick (L' := [(6, .int (nI (i + 1))), (5, .ref (ad E 6 u)), (0, .ref (ad E 0 0)), (1, .ref (ad E 11 c)), (2, .int (nI u)), (3, .int q), (4, .int (nI 0))]) [0, 2, 3, 4, 5, 6, 7] rfl ?_
        exact ih (i + 1) (by omega) (by omega)

set_option maxHeartbeats 4000000 in
set_option maxRecDepth 100000 in
theorem C_fu0 {E : EE} {μ : Mem} (c u : Nat) (q x : Int32) (hc : c < 20) (hu : u < 6) (hB : BI μ) (hn : vN (μ 11 c 4) 12) (hx : x = nI u) : MM E yX2_followUser cX2_followUser 9 none (rm 8 0) [.ref (ad E 0 0), .ref (ad E 11 c), .int x, .int q, .int (nI 0)] μ none (fu0 c u q μ) := by
  refine MM.void (own := RX2) [(0, .ref (ad E 0 0)), (1, .ref (ad E 11 c)), (2, .int x), (3, .int q), (4, .int (nI 0))] rfl rfl rfl (Nat.le_of_ble_eq_true rfl) (fun C X hE => ?_)
  subst hx
  refine k_iload X 4 dX2_followUser_0 rfl ?_
  refine k_aload_n X 0 dX2_followUser_2 rfl rfl ?_
  refine gt_X2_25 X dX2_followUser_3 ?_
  refine k_ialen (a := 4) X rfl (by decide) dX2_followUser_6 ?_
  refine k_icmp_lt_t (tgt := 11) X dX2_followUser_7 (by decide) (by decide) ?_
  refine k_aload_n X 0 dX2_followUser_11 rfl rfl ?_
  refine gt_X2_25 X dX2_followUser_12 ?_
  refine k_iload X 4 dX2_followUser_15 rfl ?_
  refine k_iload_n X 2 dX2_followUser_17 rfl rfl ?_
  refine k_iast (a := 4) (j := 0) X rfl (by decide) rfl (by decide) (by decide) dX2_followUser_18 ?_
  refine k_aload_n X 0 dX2_followUser_19 rfl rfl ?_
  refine gt_X2_11 X dX2_followUser_20 ?_
  refine k_iload_n X 2 dX2_followUser_23 rfl rfl ?_
  refine k_rald (j := u) X rfl hu dX2_followUser_24 ?_
  refine k_astore (L' := [(5, .ref (ad E 6 u)), (0, .ref (ad E 0 0)), (1, .ref (ad E 11 c)), (2, .int (nI u)), (3, .int q), (4, .int (nI 0))]) X dX2_followUser_25 (by decide) rfl ?_
  refine k_iconst X (nI 0) dX2_followUser_27 (by decide) ?_
  refine k_istore (L' := [(6, .int (nI 0)), (5, .ref (ad E 6 u)), (0, .ref (ad E 0 0)), (1, .ref (ad E 11 c)), (2, .int (nI u)), (3, .int q), (4, .int (nI 0))]) X dX2_followUser_28 (by decide) rfl ?_
  refine k_mem (μ' := fuL (cu1 c) 0 c u q 0 (st μ 4 0 0 (nI u))) rfl ?_
  exact L_fu0 c u (tN (μ 6 u 4)) q hc hu ((st_k (by decide)).trans (hB u hu).1.1) (hB u hu).1.2 (hB.fr (way_FC (c := c)).1) (by rw [st_k (by decide)]; exact hn) X hE (tN (μ 6 u 4) + 1) 0 (by omega) (Nat.zero_le _)

set_option maxHeartbeats 4000000 in
set_option maxRecDepth 100000 in
theorem C_X2_call {E : EE} {μ : Mem} (x : Int32) (hK : vN (μ 0 0 5) 20) (hB : BI μ) (hI : KI μ) (hx : okU x) (hk9 : μ 0 0 5 < 20) : MM E yX2_call cX2_call 3 (some .int) (rm 9 0) [.ref (ad E 0 0), .int x] μ (some (.int (μ 0 0 5))) (clM μ (tN x)) := by
  refine MM.int (own := RX2) [(0, .ref (ad E 0 0)), (1, .int x)] rfl rfl rfl (Nat.le_of_ble_eq_true rfl) rfl (fun C X hE => ?_)
  refine k_iload_n X 1 dX2_call_0 rfl rfl ?_
  refine k_iconst X 5 dX2_call_1 (by decide) ?_
  refine k_callS (As := [.int x, .int 5]) (S := []) X lk_X2_44 (C_X2_isOutside _ _) rfl rfl (Nat.le_of_ble_eq_true rfl) ⟨Nat.le_of_ble_eq_true rfl, Nat.le_of_ble_eq_true rfl⟩ ⟨Nat.le_of_ble_eq_true rfl, Nat.le_of_ble_eq_true rfl⟩ dX2_call_2 ?_
  show KF E C 0 0 μ 5 _ [.int (bp (x < 0 ∨ 5 < x))]
  refine k_if_eq_p (tgt := 18) X dX2_call_5 (by decide) (fun c5 => ?_) (fun c5 => ?_)
  · refine k_aload_n X 0 dX2_call_18 rfl rfl ?_
    refine gt_X2_31 X dX2_call_19 ?_
    refine k_bipush X 20 dX2_call_22 (by decide) ?_
    refine k_icmp_lt (tgt := 37) X dX2_call_24 (by decide) (fun c24 => ?_) (fun c24 => ?_)
    · have hk : tN (μ 0 0 5) < 20 := lt20 (by decide) hK (by decide) c24
      refine k_aload_n X 0 dX2_call_37 rfl rfl ?_
      refine gt_X2_17 X dX2_call_38 ?_
      refine k_aload_n X 0 dX2_call_41 rfl rfl ?_
      refine gt_X2_31 X dX2_call_42 ?_
      refine k_cald (j := (tN (μ 0 0 5))) X hK.1 hk dX2_call_45 ?_
      refine k_astore_n (L' := [(2, .ref (ad E 11 (tN (μ 0 0 5)))), (0, .ref (ad E 0 0)), (1, .int x)]) X dX2_call_46 rfl (by decide) rfl ?_
      refine k_aload_n X 1 dX2_call_47 rfl rfl ?_
      refine k_aload_n X 0 dX2_call_48 rfl rfl ?_
      refine k_iload_n X 2 dX2_call_49 rfl rfl ?_
      refine k_iconst X (-1) dX2_call_50 (by decide) ?_
      refine k_iconst X 0 dX2_call_51 (by decide) ?_
      refine k_callV (a := 0) (o := 0) (As := [.ref (ad E 11 (tN (μ 0 0 5))), .int x, .int (-1), .int 0]) (S := []) X lk_X2_94 rfl (by decide) rfl (C_fu0 _ _ _ _ hk (okU_n c5).2 hB (hI _ hk).1 (okU_n c5).1) rfl rfl (Nat.le_of_ble_eq_true rfl) ⟨Nat.le_of_ble_eq_true rfl, Nat.le_of_ble_eq_true rfl⟩ ⟨Nat.le_of_ble_eq_true rfl, Nat.le_of_ble_eq_true rfl⟩ dX2_call_52 ?_
      show KF E C 0 0 (fu0 (tN (μ 0 0 5)) (tN x) (-1) μ) 55 _ []
      have hF := fu0_FC (c := tN (μ 0 0 5)) μ (tN x) (-1) (hI _ hk).1
      refine k_aload_n X 0 dX2_call_55 rfl rfl ?_
      refine k_aload_n X 1 dX2_call_56 rfl rfl ?_
      refine gt_X2_35 X dX2_call_57 ?_
      refine k_val (y := μ 0 0 6) (hF.1.1 0 0 6 (by decide) (by decide) (by decide) (by decide) (by decide)) ?_
      refine k_callV (a := 11) (o := (tN (μ 0 0 5))) (As := [.int (μ 0 0 6)]) (S := []) X lk_X2_98 rfl hk rfl (C_X1_begin _ _ hk (hF.2.1 (hI _ hk).1).1 (hF.2.1 (hI _ hk).1).2 _ ((hF.1.2 _ 5 (by decide)).trans (hI _ hk).2.1) (hI _ hk).2.2 _) rfl rfl (Nat.le_of_ble_eq_true rfl) ⟨Nat.le_of_ble_eq_true rfl, Nat.le_of_ble_eq_true rfl⟩ ⟨Nat.le_of_ble_eq_true rfl, Nat.le_of_ble_eq_true rfl⟩ dX2_call_60 ?_
      show KF E C 0 0 (bgM (fu0 (tN (μ 0 0 5)) (tN x) (-1) μ) (tN (μ 0 0 5)) (tN ((fu0 (tN (μ 0 0 5)) (tN x) (-1) μ) 11 (tN (μ 0 0 5)) 4)) (tN (μ 11 (tN (μ 0 0 5)) 5)) (μ 0 0 6)) 63 _ []
      have hG := GC_bgM (μ := fu0 (tN (μ 0 0 5)) (tN x) (-1) μ) (c := tN (μ 0 0 5)) (n := tN ((fu0 (tN (μ 0 0 5)) (tN x) (-1) μ) 11 (tN (μ 0 0 5)) 4)) (now := μ 0 0 6) (hI _ hk).2.2
      refine k_aload_n X 1 dX2_call_63 rfl rfl ?_
      refine k_dup X dX2_call_64 rfl ?_
      refine gt_X2_31 X dX2_call_65 ?_
      refine k_val (y := nI (tN (μ 0 0 5))) (((hG.k (by decide) (by decide)).trans (hF.1.1 0 0 5 (by decide) (by decide) (by decide) (by decide) (by decide))).trans hK.1) ?_
      refine k_iconst X 1 dX2_call_68 (by decide) ?_
      refine k_iadd X dX2_call_69 ?_
      refine k_val (y := nI (tN (μ 0 0 5) + 1)) (nI_1 _) ?_
      refine pt_X2_31 X dX2_call_70 ?_
      refine k_aload_n X 1 dX2_call_73 rfl rfl ?_
      refine gt_X2_31 X dX2_call_74 ?_
      refine k_val (y := nI (tN (μ 0 0 5) + 1)) st_same ?_
      refine k_iconst X 1 dX2_call_77 (by decide) ?_
      refine k_isub X dX2_call_78 ?_
      refine k_val (y := nI (tN (μ 0 0 5))) (nI_pred _) ?_
      exact k_iret dX2_call_79 hE hK.1.symm rfl
    · exact (c24 hk9).elim
  · exact (hx c5).elim

set_option maxHeartbeats 4000000 in
set_option maxRecDepth 100000 in
theorem L_X2_lookAtCalls {E : EE} {μ : Mem} {C : Ctx} (m : Nat) (hm : μ 0 0 5 = nI m) (hm20 : m ≤ 20) (hI : KI μ) (X : Cx E C cX2_lookAtCalls RX2 3 (rm 5 0)) (hE : EndI E C cX2_lookAtCalls 0 0 (nI (lcN m μ)) (lcM m μ)) : ∀ (f : Nat) (i : Nat), m - i < f → i ≤ m → KF E C 0 0 (lcM i μ) 4 [(2, .int (nI i)), (1, .int (nI (lcN i μ))), (0, .ref (ad E 0 0))] [] := by
  intro f
  induction f with
  | zero => intros; omega
  | succ f ih =>
    intro i hf hi
    have hok := lcM_ok hI i (by omega)
    refine k_iload_n X 0 dX2_lookAtCalls_4 rfl rfl ?_
    refine k_aload_n X 2 dX2_lookAtCalls_5 rfl rfl ?_
    refine gt_X2_31 X dX2_lookAtCalls_6 ?_
    refine k_val (y := nI m) ((hok.2 0 0 5 (by decide) (by decide)).trans hm) ?_
    refine k_ge_n (a := i) (b := m) (tgt := 37) X dX2_lookAtCalls_9 (by decide) rfl rfl (by omega) (by omega) (fun c9 => ?_) (fun c9 => ?_)
    · refine k_iload_n X 1 dX2_lookAtCalls_37 rfl rfl ?_
      exact k_iret dX2_lookAtCalls_38 hE (by rw [show i = m by omega]) (by rw [show i = m by omega])
    · refine k_aload_n X 2 dX2_lookAtCalls_12 rfl rfl ?_
      refine gt_X2_17 X dX2_lookAtCalls_13 ?_
      refine k_iload_n X 0 dX2_lookAtCalls_16 rfl rfl ?_
      refine k_cald (j := i) X rfl (show i < 20 by omega) dX2_lookAtCalls_17 ?_
      refine k_aload_n X 2 dX2_lookAtCalls_18 rfl rfl ?_
      refine gt_X2_35 X dX2_lookAtCalls_19 ?_
      refine k_callV (a := 11) (o := i) (As := [.int ((lcM i μ) 0 0 6)]) (S := []) X lk_X2_202 rfl (show i < 20 by omega) rfl (C_X1_endsWithTick _ _ (show i < 20 by omega) (hok.1 i (by omega)).1.1 (hok.1 i (by omega)).1.2 _ (hok.1 i (by omega)).2.1 (hok.1 i (by omega)).2.2 _) rfl rfl (Nat.le_of_ble_eq_true rfl) ⟨Nat.le_of_ble_eq_true rfl, Nat.le_of_ble_eq_true rfl⟩ ⟨Nat.le_of_ble_eq_true rfl, Nat.le_of_ble_eq_true rfl⟩ dX2_lookAtCalls_22 ?_
      show KF E C 0 0 (etM' (lcM i μ) i) 25 _ [.int (etI' (lcM i μ) i)]
      refine k_if_eq (tgt := 31) X dX2_lookAtCalls_25 (by decide) (fun c25 => ?_) (fun c25 => ?_)
      · refine k_iinc (v := nI (i + 1)) (L' := [(2, .int (nI (i + 1))), (1, .int (nI (lcN i μ))), (0, .ref (ad E 0 0))]) X 0 dX2_lookAtCalls_31 rfl (nI_1 i) (by decide) rfl ?_
        refine k_goto (tgt := 4) X dX2_lookAtCalls_34 (by decide) ?_
        have e1 : lcN (i + 1) μ = _ := (congrArg (lcN i μ + ·) (if_pos c25 : (if etI' (lcM i μ) i = 0 then 0 else 1) = _))
        refine k_mem (μ' := lcM (i + 1) μ) rfl ?_
        rw [show lcN i μ = lcN (i + 1) μ from e1.symm]
        exact ih (i + 1) (by omega) (by omega)
      · refine k_iinc (v := nI (lcN i μ + 1)) (L' := [(1, .int (nI (lcN i μ + 1))), (2, .int (nI i)), (0, .ref (ad E 0 0))]) X 1 dX2_lookAtCalls_28 rfl (nI_1 _) (by decide) rfl ?_
        refine k_iinc (v := nI (i + 1)) (L' := [(2, .int (nI (i + 1))), (1, .int (nI (lcN i μ + 1))), (0, .ref (ad E 0 0))]) X 1 dX2_lookAtCalls_31 rfl (nI_1 i) (by decide) rfl ?_
        refine k_goto (tgt := 4) X dX2_lookAtCalls_34 (by decide) ?_
        have e1 : lcN (i + 1) μ = _ := (congrArg (lcN i μ + ·) (if_neg c25 : (if etI' (lcM i μ) i = 0 then 0 else 1) = _))
        refine k_mem (μ' := lcM (i + 1) μ) rfl ?_
        rw [show lcN i μ + 1 = lcN (i + 1) μ from e1.symm]
        exact ih (i + 1) (by omega) (by omega)

set_option maxHeartbeats 4000000 in
set_option maxRecDepth 100000 in
theorem C_X2_lookAtCalls {E : EE} {μ : Mem} (m : Nat) (hm : μ 0 0 5 = nI m) (hm20 : m ≤ 20) (hI : KI μ) : MM E yX2_lookAtCalls cX2_lookAtCalls 3 (some .int) (rm 5 0) [.ref (ad E 0 0)] μ (some (.int (nI (lcN m μ)))) (lcM m μ) := by
  refine MM.int (own := RX2) [(0, .ref (ad E 0 0))] rfl rfl rfl (Nat.le_of_ble_eq_true rfl) rfl (fun C X hE => ?_)
  refine k_iconst X (nI 0) dX2_lookAtCalls_0 (by decide) ?_
  refine k_istore_n (L' := [(1, .int (nI 0)), (0, .ref (ad E 0 0))]) X dX2_lookAtCalls_1 rfl (by decide) rfl ?_
  refine k_iconst X (nI 0) dX2_lookAtCalls_2 (by decide) ?_
  refine k_istore_n (L' := [(2, .int (nI 0)), (1, .int (nI 0)), (0, .ref (ad E 0 0))]) X dX2_lookAtCalls_3 rfl (by decide) rfl ?_
  refine k_mem (μ' := lcM 0 μ) rfl ?_
  exact L_X2_lookAtCalls m hm hm20 hI X hE (m + 1) 0 (by omega) (Nat.zero_le m)

set_option maxHeartbeats 4000000 in
set_option maxRecDepth 100000 in
theorem L_X2_pass {E : EE} {μ : Mem} {C : Ctx} (T : Nat) (x : Int32) (hT : x = nI T) (hT1 : T ≤ 100) (hK : vN (μ 0 0 5) 20) (hI : KI μ) (X : Cx E C cX2_pass RX2 4 (rm 6 0)) (hE : EndI E C cX2_pass 0 0 (psN T μ) (psM T μ)) : ∀ (f : Nat) (i : Nat), T - i < f → i ≤ T → KF E C 0 0 (psM i μ) 25 [(3, .int (nI i)), (2, .int (psN i μ)), (0, .ref (ad E 0 0)), (1, .int x)] [] := by
  intro f
  induction f with
  | zero => intros; omega
  | succ f ih =>
    intro i hf hi
    have hok := psM_ok hI hK.2 i
    refine k_iload_n X 0 dX2_pass_25 rfl rfl ?_
    refine k_iload_n X 3 dX2_pass_26 rfl rfl ?_
    refine k_ge_n (a := i) (b := T) (tgt := 53) X dX2_pass_27 (by decide) rfl hT (by omega) (by omega) (fun c27 => ?_) (fun c27 => ?_)
    · refine k_iload_n X 1 dX2_pass_53 rfl rfl ?_
      exact k_iret dX2_pass_54 hE (by rw [show i = T by omega]) (by rw [show i = T by omega])
    · refine k_aload_n X 2 dX2_pass_30 rfl rfl ?_
      refine k_dup X dX2_pass_31 rfl ?_
      refine gt_X2_35 X dX2_pass_32 ?_
      refine k_iconst X 1 dX2_pass_35 (by decide) ?_
      refine k_iadd X dX2_pass_36 ?_
      refine pt_X2_35 X dX2_pass_37 ?_
      refine k_mem (μ' := tkM (psM i μ)) rfl ?_
      refine k_iload_n X 1 dX2_pass_40 rfl rfl ?_
      refine k_aload_n X 2 dX2_pass_41 rfl rfl ?_
      refine k_callV (a := 0) (o := 0) (As := []) (S := [.int (psN i μ)]) X lk_X2_149 rfl (by decide) rfl (C_X2_lookAtCalls (tN (μ 0 0 5)) (by unfold tkM; rw [st_i (by decide)]; exact (hok.2 0 0 5 (by decide) (by decide) (by decide)).trans hK.1) hK.2 (tkM_ok hok.1)) rfl rfl (Nat.le_of_ble_eq_true rfl) ⟨Nat.le_of_ble_eq_true rfl, Nat.le_of_ble_eq_true rfl⟩ ⟨Nat.le_of_ble_eq_true rfl, Nat.le_of_ble_eq_true rfl⟩ dX2_pass_42 ?_
      show KF E C 0 0 (psM (i + 1) μ) 45 _ [.int (nI (lcN (tN (μ 0 0 5)) (tkM (psM i μ)))), .int (psN i μ)]
      refine k_iadd X dX2_pass_45 ?_
      refine k_val (y := psN (i + 1) μ) rfl ?_
      refine k_istore_n (L' := [(2, .int (psN (i + 1) μ)), (3, .int (nI i)), (0, .ref (ad E 0 0)), (1, .int x)]) X dX2_pass_46 rfl (by decide) rfl ?_
      refine k_iinc (v := nI (i + 1)) (L' := [(3, .int (nI (i + 1))), (2, .int (psN (i + 1) μ)), (0, .ref (ad E 0 0)), (1, .int x)]) X 1 dX2_pass_47 rfl (nI_1 i) (by decide) rfl ?_
      refine k_goto (tgt := 25) X dX2_pass_50 (by decide) ?_
      exact ih (i + 1) (by omega) (by omega)

set_option maxHeartbeats 4000000 in
set_option maxRecDepth 100000 in
theorem C_X2_pass {E : EE} {μ : Mem} (x : Int32) (hK : vN (μ 0 0 5) 20) (hI : KI μ) (hx : ¬ x < 1 ∧ ¬ 100 < x) : MM E yX2_pass cX2_pass 4 (some .int) (rm 6 0) [.ref (ad E 0 0), .int x] μ (some (.int (psN (tN x) μ))) (psM (tN x) μ) := by
  refine MM.int (own := RX2) [(0, .ref (ad E 0 0)), (1, .int x)] rfl rfl rfl (Nat.le_of_ble_eq_true rfl) rfl (fun C X hE => ?_)
  refine k_iload_n X 1 dX2_pass_0 rfl rfl ?_
  refine k_iconst X 1 dX2_pass_1 (by decide) ?_
  refine k_icmp_lt (tgt := 11) X dX2_pass_2 (by decide) (fun c2 => ?_) (fun c2 => ?_)
  · exact (hx.1 c2).elim
  · refine k_iload_n X 1 dX2_pass_5 rfl rfl ?_
    refine k_bipush X 100 dX2_pass_6 (by decide) ?_
    refine k_icmp_le (tgt := 21) X dX2_pass_8 (by decide) (fun c8 => ?_) (fun c8 => ?_)
    · refine k_iconst X (nI 0) dX2_pass_21 (by decide) ?_
      refine k_istore_n (L' := [(2, .int (nI 0)), (0, .ref (ad E 0 0)), (1, .int x)]) X dX2_pass_22 rfl (by decide) rfl ?_
      refine k_iconst X (nI 0) dX2_pass_23 (by decide) ?_
      refine k_istore_n (L' := [(3, .int (nI 0)), (2, .int (nI 0)), (0, .ref (ad E 0 0)), (1, .int x)]) X dX2_pass_24 rfl (by decide) rfl ?_
      have hv := vN_of (m := 100) (M := 100) (by decide) (fun q => c2 (Int32.lt_of_lt_of_le q (by decide))) (Int32.not_lt.mpr c8)
      refine k_mem (μ' := psM 0 μ) rfl ?_
      exact L_X2_pass (tN x) x hv.1 hv.2 hK hI X hE (tN x + 1) 0 (by omega) (Nat.zero_le _)
    · exact (hx.2 (Int32.not_le.mp c8)).elim
end
section
/-! BIRTH: the cells of the two systems, one after another; a field that holds a reference has a mark in Mem, at 100 and more -/
def offs (k o : Nat) : Nat := if k < 6 then k else if k < 11 then k + 5 * o else if k < 16 then k + 25 + 5 * o else k + 120
theorem vn_ok {k o : Nat} (h : o < vn k) : k < 17 ∧ (k < 6 → o = 0) ∧ (6 ≤ k → k < 11 → o < 6) ∧ (11 ≤ k → k < 16 → o < 20) ∧ (16 ≤ k → o = 0) := by
  unfold vn at h
  split at h <;> omega
theorem offs_inj {k o k' o' : Nat} (h : o < vn k) (h' : o' < vn k') (e : offs k o = offs k' o') : k = k' ∧ o = o' := by
  obtain ⟨a1, a2, a3, a4, a5⟩ := vn_ok h
  obtain ⟨b1, b2, b3, b4, b5⟩ := vn_ok h'
  unfold offs at e
  split at e <;> split at e <;> (try split at e) <;> (try split at e) <;> (try split at e) <;> (try split at e) <;> omega
def fl (f : Nat → Int32) (j a : Nat) : Value := if f (100 + j) = 1 then .ref a else .null
def fldn (E : EE) (k o : Nat) (f : Nat → Int32) : List Value := match k with
  | 0 => [fl f 0 (ad E 1 0), fl f 1 (ad E 2 0), fl f 2 (ad E 3 0), fl f 3 (ad E 4 0), fl f 4 (ad E 5 0), .int (f 5), .int (f 6)]
  | 6 => [fl f 0 (ad E 7 o), fl f 1 (ad E 8 o), fl f 2 (ad E 9 o), fl f 3 (ad E 10 o), .int (f 4)]
  | 11 => [fl f 0 (ad E 12 o), fl f 1 (ad E 13 o), fl f 2 (ad E 14 o), fl f 3 (ad E 15 o), .int (f 4), .int (f 5), .int (f 6), .int (f 7), .int (f 8), .int (f 9)]
  | _ => []
def fo (f : Nat → Int32) (g : Nat → Nat) (i : Nat) : Option Nat := if f (100 + i) = 1 then some (g i) else none
def cntn (E : EE) (k o : Nat) (f : Nat → Int32) : va_E := match kt k with
  | 0 => .inr (oc k, fldn E k o f)
  | 1 => .inl (E.2.2.1 0, kl k, .inl f)
  | 2 => .inl (E.2.2.1 1, kl k, .inl f)
  | 3 => .inl (E.2.2.1 3, 6, .inr (.inr (.inr (.inr (fo f (fun i => ad E 6 i))))))
  | _ => .inl (E.2.2.1 4, 20, .inr (.inr (.inr (.inr (fo f (fun i => ad E 11 i))))))
def Wn (E : EE) (μ : Mem) (N : Nat) (H : Heap) : Prop := ∀ k o : Nat, o < vn k → offs k o < N → va_at E.2.1 vwCl (ad E k o, cntn E k o (μ k o)) H
def AD (E : EE) (b : Nat) : Prop := ∀ k o : Nat, ad E k o = b + offs k o
theorem AD.inj {E : EE} {b : Nat} (h : AD E b) : Inj E := by
  intro k o k' o' h1 h2 e
  rw [h k o, h k' o'] at e
  exact offs_inj h1 h2 (by omega)
/-- a row put to noughts -/
def zr (μ : Mem) (k o : Nat) : Mem := fun a b i => if a = k ∧ b = o then 0 else μ a b i
theorem zr_same {μ : Mem} {k o : Nat} : zr μ k o k o = fun _ => 0 := by
  funext i
  exact if_pos ⟨rfl, rfl⟩
theorem zr_row {μ : Mem} {k o a b : Nat} (h : ¬ (a = k ∧ b = o)) : zr μ k o a b = μ a b := by
  funext i
  exact if_neg h
theorem Wn.kept {E : EE} {μ : Mem} {N : Nat} {H H1 : Heap} (h : Wn E μ N H) (hq : ∀ q : Nat, q < H.size → H1[q]? = H[q]?) : Wn E μ N H1 := fun k o ho hN => (h k o ho hN).kept (hq _ (h k o ho hN).lt)
theorem Wn.set {E : EE} {μ : Mem} {N b : Nat} {H H1 : Heap} {k o i : Nat} {x : Int32} (hb : AD E b) (h : Wn E μ N H) (ho : o < vn k) (oq : ∀ q : Nat, q ≠ ad E k o → H1[q]? = H[q]?) (h1 : va_at E.2.1 vwCl (ad E k o, cntn E k o (st μ k o i x k o)) H1) : Wn E (st μ k o i x) N H1 := by
  intro a d hd hN
  by_cases e : a = k ∧ d = o
  · obtain ⟨rfl, rfl⟩ := e
    exact h1
  · rw [st_row e]
    exact (h a d hd hN).kept (oq _ (fun q => e (hb.inj a d k o hd ho q)))
theorem Wn.push {E : EE} {μ : Mem} {N : Nat} {H H1 : Heap} {k o : Nat} (h : Wn E μ N H) (ho : o < vn k) (hN : offs k o = N) (oq : ∀ q : Nat, q < H.size → H1[q]? = H[q]?) (h1 : va_at E.2.1 vwCl (ad E k o, cntn E k o (fun _ => 0)) H1) : Wn E (zr μ k o) (N + 1) H1 := by
  intro a d hd hL
  by_cases e : a = k ∧ d = o
  · obtain ⟨rfl, rfl⟩ := e
    rw [zr_same]
    exact h1
  · rw [zr_row e]
    have hlt : offs a d < N := by
      rcases Nat.lt_or_ge (offs a d) N with q | q
      · exact q
      · exact absurd (offs_inj hd ho (by omega)) e
    exact (h a d hd hlt).kept (oq _ (h a d hd hlt).lt)
/-- all marks are there -/
def FL (μ : Mem) : Prop := (∀ j, j < 5 → μ 0 0 (100 + j) = 1) ∧ (∀ i, i < 6 → μ 1 0 (100 + i) = 1) ∧ (∀ i, i < 20 → μ 2 0 (100 + i) = 1) ∧ (∀ u, u < 6 → ∀ j, j < 4 → μ 6 u (100 + j) = 1) ∧ (∀ c, c < 20 → ∀ j, j < 4 → μ 11 c (100 + j) = 1)
theorem arrV_ext {cI : ClassId} {N : Nat} {f g : Nat → Value} (h : ∀ j, j < N → f j = g j) : arrV cI N f = arrV cI N g := by
  unfold arrV
  congr 1
  congr 1
  funext j
  exact h j.val j.isLt
theorem fl_1 {f : Nat → Int32} {j a : Nat} (h : f (100 + j) = 1) : fl f j a = .ref a := if_pos h
theorem Wn.all {E : EE} {μ : Mem} {H : Heap} (h : Wn E μ 137 H) (hF : FL μ) : Wd E μ H := by
  obtain ⟨f0, f1, f2, f6, f11⟩ := hF
  intro k o ho
  have ok := vn_ok ho
  have hk := h k o ho (by
    unfold offs
    split
    · omega
    · split
      · omega
      · split <;> omega)
  by_cases h0 : k = 0
  · subst h0
    obtain rfl : o = 0 := by omega
    have e : cntn E 0 0 (μ 0 0) = cont E 0 0 (μ 0 0) := by
      have e2 : fldn E 0 0 (μ 0 0) = flds E 0 0 (μ 0 0) := by simp only [fldn, flds, fl_1 (f0 0 (by decide)), fl_1 (f0 1 (by decide)), fl_1 (f0 2 (by decide)), fl_1 (f0 3 (by decide)), fl_1 (f0 4 (by decide))]
      show (Sum.inr (oc 0, fldn E 0 0 (μ 0 0)) : va_E) = .inr (oc 0, flds E 0 0 (μ 0 0))
      rw [e2]
    rw [← e]; exact hk
  by_cases h6 : k = 6
  · subst h6
    have ho6 : o < 6 := by omega
    have e : cntn E 6 o (μ 6 o) = cont E 6 o (μ 6 o) := by
      have e2 : fldn E 6 o (μ 6 o) = flds E 6 o (μ 6 o) := by simp only [fldn, flds, fl_1 (f6 o ho6 0 (by decide)), fl_1 (f6 o ho6 1 (by decide)), fl_1 (f6 o ho6 2 (by decide)), fl_1 (f6 o ho6 3 (by decide))]
      show (Sum.inr (oc 6, fldn E 6 o (μ 6 o)) : va_E) = .inr (oc 6, flds E 6 o (μ 6 o))
      rw [e2]
    rw [← e]; exact hk
  by_cases h11 : k = 11
  · subst h11
    have ho6 : o < 20 := by omega
    have e : cntn E 11 o (μ 11 o) = cont E 11 o (μ 11 o) := by
      have e2 : fldn E 11 o (μ 11 o) = flds E 11 o (μ 11 o) := by simp only [fldn, flds, fl_1 (f11 o ho6 0 (by decide)), fl_1 (f11 o ho6 1 (by decide)), fl_1 (f11 o ho6 2 (by decide)), fl_1 (f11 o ho6 3 (by decide))]
      show (Sum.inr (oc 11, fldn E 11 o (μ 11 o)) : va_E) = .inr (oc 11, flds E 11 o (μ 11 o))
      rw [e2]
    rw [← e]; exact hk
  by_cases h1 : k = 1
  · subst h1
    obtain rfl : o = 0 := by omega
    show H[ad E 1 0]? = some (vp_cell _ _)
    have h9 : H[ad E 1 0]? = some (vp_cell (E.2.2.1 3) (6, .inr (.inr (.inr (.inr (fo (μ 1 0) (fun i => ad E 6 i))))))) := hk
    rw [h9, vp_cell_q, vp_cell_q]
    exact congrArg some (arrV_ext fun j hj => by unfold fo; rw [if_pos (f1 j hj)])
  by_cases h2 : k = 2
  · subst h2
    obtain rfl : o = 0 := by omega
    show H[ad E 2 0]? = some (vp_cell _ _)
    have h9 : H[ad E 2 0]? = some (vp_cell (E.2.2.1 4) (20, .inr (.inr (.inr (.inr (fo (μ 2 0) (fun i => ad E 11 i))))))) := hk
    rw [h9, vp_cell_q, vp_cell_q]
    exact congrArg some (arrV_ext fun j hj => by unfold fo; rw [if_pos (f2 j hj)])
  have e : cntn E k o (μ k o) = cont E k o (μ k o) := by
    have h9 : kt k = 1 ∨ kt k = 2 := by
      unfold kt
      split <;> first | exact Or.inl rfl | exact Or.inr rfl | (exfalso; omega)
    unfold cntn cont
    rcases h9 with q | q <;> rw [q] <;> rfl
  rw [← e]; exact hk
end
section
/-! the judgement of a frame while the cells are born: N of them are there -/
def KN (E : EE) (C : Ctx) (b k n N : Nat) (μ : Mem) (pc : Nat) (L : List (Nat × Value)) (S : List Value) : Prop :=
  ∀ (H : Heap) (locs : List Loc) (ls : Array Slot), H.size = b + N → Wn E μ N H → va_S (cA C) (cs C).heap H locs → lv_has ls (cN C) L → WC E C H locs k n (F0 (cm C) pc ls S)
def rmN (d c n : Nat) : Room := { frames := d, cells := c, slots := n, locals := 40 * d }
section BROWS
variable {E : EE} {C : Ctx} {bs : ByteArray} {own : String} {nL b k n N pc : Nat} {R : Room} {μ : Mem} {L L' : List (Nat × Value)} {S : List Value}
theorem n_pick (ks : List Nat) (h : lv_pick L ks = L') (kk : KN E C b k n N μ pc L' S) : KN E C b k n N μ pc L S := fun H locs ls hz hw hs hl => kk H locs ls hz hw hs (lv_sub hl ks h)
theorem n_mem {μ' : Mem} (h : μ = μ') (kk : KN E C b k n N μ' pc L S) : KN E C b k n N μ pc L S := h ▸ kk
theorem n_val {x y : Int32} (h : x = y) (kk : KN E C b k n N μ pc L (.int y :: S)) : KN E C b k n N μ pc L (.int x :: S) := h ▸ kk
theorem n_wide {k' n' : Nat} (h1 : k ≤ k') (h2 : n ≤ n') (kk : KN E C b k' n' N μ pc L S) : KN E C b k n N μ pc L S := fun H locs ls hz hw hs hl => W.widen h1 h2 (kk H locs ls hz hw hs hl)
theorem n_iconst (X : Cx E C bs own nL R) {i : Int} (v : Int32) (d : decode bs pc = .ok (.iconst i, 1)) (hv : Int32.ofInt i = v) (kk : KN E C b k n N μ (pc + 1) L (.int v :: S)) : KN E C b k n N μ pc L S := fun H locs ls hz hw hs hl => lv_iconst X.1 X.2.1 d hv (kk H locs ls hz hw hs hl)
theorem n_bipush (X : Cx E C bs own nL R) {i : Int} (v : Int32) (d : decode bs pc = .ok (.bipush i, 2)) (hv : (Int8.ofInt i).toInt32 = v) (kk : KN E C b k n N μ (pc + 2) L (.int v :: S)) : KN E C b k n N μ pc L S := fun H locs ls hz hw hs hl => lv_bipush X.1 X.2.1 d hv (kk H locs ls hz hw hs hl)
theorem n_sipush (X : Cx E C bs own nL R) {i : Int} (v : Int32) (d : decode bs pc = .ok (.sipush i, 3)) (hv : (Int16.ofInt i).toInt32 = v) (kk : KN E C b k n N μ (pc + 3) L (.int v :: S)) : KN E C b k n N μ pc L S := fun H locs ls hz hw hs hl => lv_sipush X.1 X.2.1 d hv (kk H locs ls hz hw hs hl)
theorem n_aload_n (X : Cx E C bs own nL R) {r : Fin 4} {i x : Nat} (j : Nat) (d : decode bs pc = .ok (.aload_n r, 1)) (hi : (r : Nat) = i) (h : L[j]? = some (i, .ref x)) (kk : KN E C b k n N μ (pc + 1) L (.ref x :: S)) : KN E C b k n N μ pc L S := fun H locs ls hz hw hs hl => lv_aload_n X.1 X.2.1 d hi (lv_at hl j h) (kk H locs ls hz hw hs hl)
theorem n_iload_n (X : Cx E C bs own nL R) {r : Fin 4} {i : Nat} {x : Int32} (j : Nat) (d : decode bs pc = .ok (.iload_n r, 1)) (hi : (r : Nat) = i) (h : L[j]? = some (i, .int x)) (kk : KN E C b k n N μ (pc + 1) L (.int x :: S)) : KN E C b k n N μ pc L S := fun H locs ls hz hw hs hl => lv_iload_n X.1 X.2.1 d hi (lv_at hl j h) (kk H locs ls hz hw hs hl)
theorem n_istore_n (X : Cx E C bs own nL R) {r : Fin 4} {i : Nat} {x : Int32} (d : decode bs pc = .ok (.istore_n r, 1)) (hi : (r : Nat) = i) (hn : i < nL) (h : (i, Value.int x) :: L.filter (fun q => !(q.1 == i) && !(q.1 + 1 == i && q.2.category == 2)) = L') (kk : KN E C b k n N μ (pc + 1) L' S) : KN E C b k n N μ pc L (.int x :: S) := fun H locs ls hz hw hs hl => lv_istore_n X.1 X.2.1 d hi hl (X.2.2.2.2.2.2.2.2.2.2.1 ▸ hn) h (fun ls' hl' => kk H locs ls' hz hw hs hl')
theorem n_astore_n (X : Cx E C bs own nL R) {r : Fin 4} {i x : Nat} (d : decode bs pc = .ok (.astore_n r, 1)) (hi : (r : Nat) = i) (hn : i < nL) (h : (i, Value.ref x) :: L.filter (fun q => !(q.1 == i) && !(q.1 + 1 == i && q.2.category == 2)) = L') (kk : KN E C b k n N μ (pc + 1) L' S) : KN E C b k n N μ pc L (.ref x :: S) := fun H locs ls hz hw hs hl => lv_astore_n X.1 X.2.1 d hi hl (X.2.2.2.2.2.2.2.2.2.2.1 ▸ hn) h (fun ls' hl' => kk H locs ls' hz hw hs hl')
theorem n_iinc (X : Cx E C bs own nL R) {i : Nat} {q : Int} {x v : Int32} (j : Nat) (d : decode bs pc = .ok (.iinc i q, 3)) (h : L[j]? = some (i, .int x)) (hv : x + Int32.ofInt q = v) (hn : i < nL) (hL : (i, Value.int v) :: L.filter (fun q => !(q.1 == i) && !(q.1 + 1 == i && q.2.category == 2)) = L') (kk : KN E C b k n N μ (pc + 3) L' S) : KN E C b k n N μ pc L S := fun H locs ls hz hw hs hl => lv_iinc X.1 X.2.1 d hl h hv (X.2.2.2.2.2.2.2.2.2.2.1 ▸ hn) hL (fun ls' hl' => kk H locs ls' hz hw hs hl')
theorem n_goto (X : Cx E C bs own nL R) {off : Int} {tgt : Nat} (d : decode bs pc = .ok (.goto off, 3)) (ht : (pc : Int) + off = (tgt : Int)) (kk : KN E C b k n N μ tgt L S) : KN E C b k n N μ pc L S := fun H locs ls hz hw hs hl => lv_goto X.1 X.2.1 d ht (kk H locs ls hz hw hs hl)
theorem n_dup (X : Cx E C bs own nL R) {v : Value} (d : decode bs pc = .ok (.dup, 1)) (hv : v.category = 1) (kk : KN E C b k n N μ (pc + 1) L (v :: v :: S)) : KN E C b k n N μ pc L (v :: S) := fun H locs ls hz hw hs hl => lv_dup X.1 X.2.1 d hv (kk H locs ls hz hw hs hl)
theorem n_icmp_ge (X : Cx E C bs own nL R) {x y : Nat} {off : Int} {tgt : Nat} (d : decode bs pc = .ok (.if_icmp .ge off, 3)) (ht : (pc : Int) + off = (tgt : Int)) (hx : x < 2 ^ 31) (hy : y < 2 ^ 31) (kt : y ≤ x → KN E C b k n N μ tgt L S) (kf : x < y → KN E C b k n N μ (pc + 3) L S) : KN E C b k n N μ pc L (.int (nI y) :: .int (nI x) :: S) := fun H locs ls hz hw hs hl => lv_icmp_ge X.1 X.2.1 d ht (fun h => kt ((nI_leI hy hx).mp h) H locs ls hz hw hs hl) (fun h => kf (Nat.lt_of_not_le fun q => h ((nI_leI hy hx).mpr q)) H locs ls hz hw hs hl)
theorem n_objInit (X : Cx E C bs own nL R) {idx a : Nat} (hl : Cond.methodLink own idx objectInit ∈ WALL) (hf : 1 ≤ R.frames) (hlo : (S.map fun v => v.category).sum + 12 ≤ R.locals) (hml : (cc C).maxLocals = cN C) (d : decode bs pc = .ok (.invokespecial idx, 3)) (kk : KN E C b k n N μ (pc + 3) L S) : KN E C b k n N μ pc L (.ref a :: S) := by
  intro H locs ls hz hw hs hl1
  have hRR : cR C = R := X.2.2.2.2.2.2.2.2.2.1
  refine W.objInit X.1 X.2.1 X.2.2.2.1 (X.2.2.2.2.1 _ hl) (X.2.2.2.2.1 _ wi_objectInit) (X.2.2.2.2.1 _ wc_objectInit) rfl (hl1.1.trans hml.symm) rfl d (by rw [hRR]; exact hf) (by rw [hRR]; show 2 * 0 + _ + 12 ≤ _; omega) ?_
  exact W.eq (g2 := F0 (cm C) (pc + 3) ls S) rfl (kk H locs ls hz hw hs hl1)
theorem va_S.push {A : Nat → Prop} {H0 H H1 : Heap} {locs : List Loc} (h : va_S A H0 H locs) (z : H1.size = H.size + 1) (oq : ∀ q : Nat, q < H.size → H1[q]? = H[q]?) : va_S A H0 H1 locs := ⟨Nat.le_trans h.1 (by omega), fun x h1 h2 => (oq x (Nat.lt_of_lt_of_le h1 h.1)).trans (h.2.1 x h1 h2), h.2.2⟩
theorem n_newi (X : Cx E C bs own nL R) (hb : AD E b) {a o : Nat} (hk : kt a = 1) (ho : o < vn a) (hN : offs a o = N) (hl9 : kl a < 1000) (hc : k + 1 ≤ R.cells) (hs9 : n + kl a ≤ R.slots) (d : decode bs pc = .ok (.newarray .int, 2)) (kk : KN E C b (k + 1) (n + kl a) (N + 1) (zr μ a o) (pc + 2) L (.ref (ad E a o) :: S)) : KN E C b k n N μ pc L (.int (nI (kl a)) :: S) := by
  intro H locs ls hz hw hs hl
  have hRR : cR C = R := X.2.2.2.2.2.2.2.2.2.1
  have hq : ad E a o = H.size := by rw [hb a o, hN, hz]
  refine va_newaK (atype := .int) (N := kl a) X.1 X.2.1 (X.2.2.2.2.1 _ wa_int) rfl d rfl (nI_pos (by omega)) (nI_clamp (by omega)) (by show kl a * 4 ≤ _; omega) (by rw [hRR]; exact hc) (by rw [hRR]; exact hs9) rfl fun H1 cI e1 z1 o1 hAr hNm => ?_
  obtain rfl : cI = E.2.2.1 0 := Option.some.inj (hNm.symm.trans (X.2.2.2.2.2.1.1.2 0 _ rfl).2)
  rw [← hq]
  refine W.eq (g2 := F0 (cm C) (pc + 2) ls (.ref (ad E a o) :: S)) rfl (kk H1 locs ls (by omega) (hw.push ho hN o1 ?_) (hs.push z1 o1) hl)
  have e9 : cntn E a o (fun _ => 0) = .inl (E.2.2.1 0, kl a, .inl (fun _ => 0)) := by unfold cntn; rw [hk]; rfl
  rw [e9]
  show H1[ad E a o]? = some (vp_cell _ _)
  rw [hq]
  exact e1
theorem n_newz (X : Cx E C bs own nL R) (hb : AD E b) {a o : Nat} (hk : kt a = 2) (ho : o < vn a) (hN : offs a o = N) (hl9 : kl a < 1000) (hc : k + 1 ≤ R.cells) (hs9 : n + kl a ≤ R.slots) (d : decode bs pc = .ok (.newarray .boolean, 2)) (kk : KN E C b (k + 1) (n + kl a) (N + 1) (zr μ a o) (pc + 2) L (.ref (ad E a o) :: S)) : KN E C b k n N μ pc L (.int (nI (kl a)) :: S) := by
  intro H locs ls hz hw hs hl
  have hRR : cR C = R := X.2.2.2.2.2.2.2.2.2.1
  have hq : ad E a o = H.size := by rw [hb a o, hN, hz]
  refine va_newaK (atype := .boolean) (N := kl a) X.1 X.2.1 (X.2.2.2.2.1 _ wa_boolean) rfl d rfl (nI_pos (by omega)) (nI_clamp (by omega)) (by show kl a * 1 ≤ _; omega) (by rw [hRR]; exact hc) (by rw [hRR]; exact hs9) rfl fun H1 cI e1 z1 o1 hAr hNm => ?_
  obtain rfl : cI = E.2.2.1 1 := Option.some.inj (hNm.symm.trans (X.2.2.2.2.2.1.1.2 1 _ rfl).2)
  rw [← hq]
  refine W.eq (g2 := F0 (cm C) (pc + 2) ls (.ref (ad E a o) :: S)) rfl (kk H1 locs ls (by omega) (hw.push ho hN o1 ?_) (hs.push z1 o1) hl)
  have e9 : cntn E a o (fun _ => 0) = .inl (E.2.2.1 1, kl a, .inl (fun _ => 0)) := by unfold cntn; rw [hk]; rfl
  rw [e9]
  show H1[ad E a o]? = some (vp_cell _ _)
  rw [hq]
  exact e1
theorem n_newq (X : Cx E C bs own nL R) (hb : AD E b) {a t len idx : Nat} {Cn : String} (ho : 0 < vn a) (hc9 : cntn E a 0 (fun _ => 0) = .inl (E.2.2.1 t, len, .inr (.inr (.inr (.inr (fun _ => none)))))) (ht : (tysG E)[t]? = some (E.2.2.1 t, .object Cn)) (hN : offs a 0 = N) (hl9 : len < 1000) (hlk : Cond.classLink own idx Cn ∈ WALL) (hao : va_AO Cn (cs C)) (hc : k + 1 ≤ R.cells) (hs9 : n + len ≤ R.slots) (d : decode bs pc = .ok (.anewarray idx, 3)) (kk : KN E C b (k + 1) (n + len) (N + 1) (zr μ a 0) (pc + 3) L (.ref (ad E a 0) :: S)) : KN E C b k n N μ pc L (.int (nI len) :: S) := by
  intro H locs ls hz hw hs hl
  have hRR : cR C = R := X.2.2.2.2.2.2.2.2.2.1
  have hq : ad E a 0 = H.size := by rw [hb a 0, hN, hz]
  have hcl : (nI len).toNatClampNeg = len := nI_clamp (by omega)
  refine W.anew X.1 X.2.1 X.2.2.2.1 (X.2.2.2.2.1 _ hlk) (va_AO.use hao) rfl d rfl (nI_pos (by omega)) (by rw [hcl]; omega) (by rw [hRR]; exact hc) (by rw [hRR, hcl]; exact hs9) fun cI kA comp f1 f2 f3 f4 => ?_
  rw [hcl]
  have hK := (X.2.2.2.2.2.1.1.2 t _ ht).2
  obtain ⟨kA', comp', k1, k2, k3, k4⟩ := hK
  obtain rfl : cI = E.2.2.1 t := Option.some.inj (f1.symm.trans k4)
  generalize hH1 : H.push ({ cls := E.2.2.1 t, slots := Array.replicate len .null, vm := .none } : Cell) = H1
  have z1 : H1.size = H.size + 1 := by rw [← hH1, Array.size_push]
  have e1 : H1[H.size]? = some (arrV (E.2.2.1 t) len (fun _ => .null)) := by rw [← hH1, Array.getElem?_push_size, ← arrV_new]
  have o1 : ∀ q : Nat, q < H.size → H1[q]? = H[q]? := fun q hq => by rw [← hH1, Array.getElem?_push, if_neg (Nat.ne_of_lt hq)]
  rw [← hq]
  refine W.eq (g2 := F0 (cm C) (pc + 3) ls (.ref (ad E a 0) :: S)) rfl (kk H1 locs ls (by omega) (hw.push ho hN o1 ?_) (hs.push z1 o1) hl)
  rw [hc9]
  show H1[ad E a 0]? = some (vp_cell _ _)
  rw [hq]
  exact e1
/-- a new object -/
theorem n_new (X : Cx E C bs own nL R) (hb : AD E b) {a o NN idx : Nat} {Cn : String} {T : u_T} (ty0 : Nat → FieldType) (hk : kt a = 0) (ho : o < vn a) (hN : offs a o = N) (hcl : vwCl[oc a]? = some (Cn, T, NN)) (hty : ∀ k, k < NN → parseFieldDescriptor (T k).2.2.1 = some (ty0 k)) (hin : ∀ w ∈ u_ws Cn T NN, w ∈ WALL) (hlk : Cond.classLink own idx Cn ∈ WALL) (hins : Cond.instantiable Cn NN ∈ WALL) (hini : Cond.initialized Cn ∈ WALL) (hfs : ∀ j, j < NN → defaultValue (ty0 j) = vp_V (fldn E a o (fun _ => 0)) j) (hc : k + 1 ≤ R.cells) (hs9 : n + NN ≤ R.slots) (d : decode bs pc = .ok (.new idx, 3)) (kk : KN E C b (k + 1) (n + NN) (N + 1) (zr μ a o) (pc + 3) L (.ref (ad E a o) :: S)) : KN E C b k n N μ pc L S := by
  intro H locs ls hz hw hs hl
  have hRR : cR C = R := X.2.2.2.2.2.2.2.2.2.1
  have hq : ad E a o = H.size := by rw [hb a o, hN, hz]
  have hKn := X.2.2.2.2.2.1.1.1 (oc a) _ hcl
  refine W.newcK X.1 X.2.1 X.2.2.2.1 (X.2.2.2.2.1 _ hlk) (X.2.2.2.2.1 _ hins) (X.2.2.2.2.1 _ hini) rfl d (by rw [hRR]; exact hc) (by rw [hRR]; exact hs9) hKn.2.1 rfl fun H1 kC hkC e1 z1 o1 => ?_
  rw [← hq]
  refine W.eq (g2 := F0 (cm C) (pc + 3) ls (.ref (ad E a o) :: S)) rfl (kk H1 locs ls (by omega) (hw.push ho hN o1 ?_) (hs.push z1 o1) hl)
  have e9 : cntn E a o (fun _ => 0) = .inr (oc a, fldn E a o (fun _ => 0)) := by unfold cntn; rw [hk]; rfl
  rw [e9]
  refine ⟨_, hcl, (u_born ty0 X.2.2.2.2.1 hin hKn hkC ?_ hty).to hfs⟩
  rw [hq]
  exact e1
/-- a field of references is set, once -/
theorem n_putr (X : Cx E C bs own nL R) (hb : AD E b) {a o fi NN idx x : Nat} {T : u_T} {ty : FieldType} (ty0 : Nat → FieldType) (hm : (cM C).name = "<init>") (hk : kt a = 0) (ho : o < vn a) (hNlt : offs a o < N) (hf : fldn E a o (st μ a o (100 + fi) 1 a o) = (fldn E a o (μ a o)).set fi (.ref x)) (hlen : fi < (fldn E a o (μ a o)).length) (hc : vwCl[oc a]? = some (own, T, NN)) (hty : ∀ k, k < NN → parseFieldDescriptor (T k).2.2.1 = some (ty0 k)) (hnm : ∀ a, a < NN → ∀ b, b < NN → a ≠ b → (T a).2.1 ≠ (T b).2.1) (hin : ∀ w ∈ u_ws own T NN, w ∈ WALL) (hfi : fi < NN) (hr : (T fi).1 = own) (hl9 : Cond.fieldLink own idx own (T fi).2.1 (T fi).2.2.1 ∈ WALL) (hfin : (T fi).2.2.2 = true) (hd : parseFieldDescriptor (T fi).2.2.1 = some ty) (hn : narrow ty (.ref x) = .ref x) (hfit : fits ty (.ref x) = true) (d : decode bs pc = .ok (.putfield idx, 3)) (kk : KN E C b k n N (st μ a o (100 + fi) 1) (pc + 3) L S) : KN E C b k n N μ pc L (.ref x :: .ref (ad E a o) :: S) := by
  intro H locs ls hz hw hs hl
  have hc1 : ∀ f, cntn E a o f = .inr (oc a, fldn E a o f) := fun f => by unfold cntn; rw [hk]; rfl
  have h0 := hw a o ho hNlt
  rw [hc1] at h0
  have hap := va_apart (own := own) X.2.2.2.2.1 hin ty0 hty hnm X.2.2.2.2.2.1.1 hc
  obtain ⟨r, h1, cell, q1, q2, q3, q4⟩ := h0
  have hr9 : r = (own, T, NN) := Option.some.inj (h1.symm.trans hc)
  subst hr9
  obtain ⟨hS, hfc, kC, hkC, hkind⟩ := X.2.2.2.2.2.1.1.1 (oc a) _ hc
  obtain ⟨cf, kf, fi9, f, hi, hsl⟩ := hS fi hfi
  have hlay := X.2.2.2.2.1 _ (hin _ (u_in_lay hfi))
  unfold u_lay at hlay
  rw [if_pos hfin] at hlay
  have hst := (u_facts hfc hkC (u_lays X.2.2.2.2.1 hin hfi) hi).1
  have hcf : (cm C).cls = cf := by
    obtain ⟨_, _, c', _, _, _, -, -, hf', -, -, -, hown2, -⟩ := Cond.laysFinal_spec hlay
    have e1 : c' = cf := by have := hi.symm.trans hf'; simp at this; exact this.1.symm
    rw [hr] at hown2
    rw [← e1]; exact Option.some.inj (X.2.2.2.1.symm.trans hown2)
  have h6 := u_fits hfc hkC hkind (Or.inr hlay) hi hd hn hfit
  refine W.putFinK X.1 X.2.1 X.2.2.2.1 (X.2.2.2.2.1 _ hl9) (by rw [← hr]; exact hi) hst hcf hm (by rw [q2]; exact h6) q1 q3 (by rw [hsl]; exact k2_hasslot (q4 fi hfi)) rfl rfl d fun H' e1 e2 e3 => ?_
  rw [hsl] at e1 ⊢
  refine kk H' _ ls (by omega) (hw.set hb ho e3 ?_) (hs.put e2 e3 (X.2.2.2.2.2.2.2.1 a o ho)) hl
  rw [hc1, hf]
  exact ⟨_, hc, t_OB.to (V := updV (vp_V (fldn E a o (μ a o))) fi (.ref x)) ⟨_, e1, q2, q3, t_set q4 hap hfi (.ref x)⟩ (fun j _ => vp_updV_set hlen (.ref x) j)⟩
theorem n_puti (X : Cx E C bs own nL R) (hb : AD E b) {a o fi NN idx : Nat} {T : u_T} {ty : FieldType} {y : Int32} (ty0 : Nat → FieldType) (hk : kt a = 0) (ho : o < vn a) (hNlt : offs a o < N) (hf : fldn E a o (st μ a o fi y a o) = (fldn E a o (μ a o)).set fi (.int y)) (hlen : fi < (fldn E a o (μ a o)).length) (hc : vwCl[oc a]? = some (own, T, NN)) (hty : ∀ k, k < NN → parseFieldDescriptor (T k).2.2.1 = some (ty0 k)) (hnm : ∀ a, a < NN → ∀ b, b < NN → a ≠ b → (T a).2.1 ≠ (T b).2.1) (hin : ∀ w ∈ u_ws own T NN, w ∈ WALL) (hfi : fi < NN) (hr : (T fi).1 = own) (hl9 : Cond.fieldLink own idx own (T fi).2.1 (T fi).2.2.1 ∈ WALL) (hfin : (T fi).2.2.2 = false) (hd : parseFieldDescriptor (T fi).2.2.1 = some ty) (hn : narrow ty (.int y) = .int y) (hfit : fits ty (.int y) = true) (d : decode bs pc = .ok (.putfield idx, 3)) (kk : KN E C b k n N (st μ a o fi y) (pc + 3) L S) : KN E C b k n N μ pc L (.int y :: .ref (ad E a o) :: S) := by
  intro H locs ls hz hw hs hl
  have hc1 : ∀ f, cntn E a o f = .inr (oc a, fldn E a o f) := fun f => by unfold cntn; rw [hk]; rfl
  have h0 := hw a o ho hNlt
  rw [hc1] at h0
  have hap := va_apart (own := own) X.2.2.2.2.1 hin ty0 hty hnm X.2.2.2.2.2.1.1 hc
  obtain ⟨r, h1, cell, q1, q2, q3, q4⟩ := h0
  have hr9 : r = (own, T, NN) := Option.some.inj (h1.symm.trans hc)
  subst hr9
  obtain ⟨hS, hfc, kC, hkC, hkind⟩ := X.2.2.2.2.2.1.1.1 (oc a) _ hc
  obtain ⟨cf, kf, fi9, f, hi, hsl⟩ := hS fi hfi
  have hlay := X.2.2.2.2.1 _ (hin _ (u_in_lay hfi))
  unfold u_lay at hlay
  rw [if_neg (by rw [hfin]; decide)] at hlay
  have hst := (u_facts hfc hkC (u_lays X.2.2.2.2.1 hin hfi) hi).1
  have h6 := u_store hfc hkC hkind hlay hi hd hn hfit
  refine W.putK X.1 X.2.1 (f := f) ⟨X.2.2.2.1, X.2.2.2.2.1 _ hl9, ⟨_, _, _, by rw [← hr]; exact hi⟩, hst⟩ (by rw [q2]; exact h6) q1 q3 (by rw [hsl]; exact k2_hasslot (q4 fi hfi)) rfl rfl d fun H' e1 e2 e3 => ?_
  rw [hsl] at e1 ⊢
  refine kk H' _ ls (by omega) (hw.set hb ho e3 ?_) (hs.put e2 e3 (X.2.2.2.2.2.2.2.1 a o ho)) hl
  rw [hc1, hf]
  exact ⟨_, hc, t_OB.to (V := updV (vp_V (fldn E a o (μ a o))) fi (.int y)) ⟨_, e1, q2, q3, t_set q4 hap hfi (.int y)⟩ (fun j _ => vp_updV_set hlen (.int y) j)⟩
theorem n_getf (X : Cx E C bs own nL R) {a o fi NN idx : Nat} {T : u_T} {v : Value} (hk : kt a = 0) (ho : o < vn a) (hNlt : offs a o < N) (hv : (fldn E a o (μ a o))[fi]? = some v) (hc : vwCl[oc a]? = some (own, T, NN)) (hin : ∀ w ∈ u_ws own T NN, w ∈ WALL) (hfi : fi < NN) (hr : (T fi).1 = own) (hl9 : Cond.fieldLink own idx own (T fi).2.1 (T fi).2.2.1 ∈ WALL) (d : decode bs pc = .ok (.getfield idx, 3)) (kk : KN E C b k n N μ (pc + 3) L (v :: S)) : KN E C b k n N μ pc L (.ref (ad E a o) :: S) := by
  intro H locs ls hz hw hs hl
  have hc1 : cntn E a o (μ a o) = .inr (oc a, fldn E a o (μ a o)) := by unfold cntn; rw [hk]; rfl
  have hP : va_P E.2.1 vwCl [(ad E a o, .inr (oc a, fldn E a o (μ a o)))] H := by
    intro q e he
    match q, he with
    | 0, he => cases he; rw [← hc1]; exact hw a o ho hNlt
  exact va_get (Ts := WALL) X.1 X.2.1 X.2.2.2.2.1 hin X.2.2.2.1 X.2.2.2.2.2.1.1 hP 0 rfl hc fi hfi (X.2.2.2.2.1 _ hl9) (by rw [← hr]; exact fun _ h => h) hv d (kk H locs ls hz hw hs hl)
theorem n_iast (X : Cx E C bs own nL R) (hb : AD E b) {a o j : Nat} {y : Int32} (hk : kt a = 1) (ho : o < vn a) (hNlt : offs a o < N) (hj : j < kl a) (hj2 : kl a < 2 ^ 31) (d : decode bs pc = .ok (.iastore, 1)) (kk : KN E C b k n N (st μ a o j y) (pc + 1) L S) : KN E C b k n N μ pc L (.int y :: .int (nI j) :: .ref (ad E a o) :: S) := by
  intro H locs ls hz hw hs hl
  have hc : ∀ f, cntn E a o f = .inl (E.2.2.1 0, kl a, .inl f) := fun f => by unfold cntn; rw [hk]; rfl
  have h0 := hw a o ho hNlt
  rw [hc] at h0
  have hin := vp_in_nI hj hj2
  refine W.iast X.1 X.2.1 h0 ((X.2.2.2.2.2.1.1.2 0 _ rfl).1 (kl a) (fun i => .int (μ a o i))) (fun q => by cases q) (by show ¬ (nI j < 0 ∨ (arrV _ _ _).slots.size ≤ _); rw [arrV_size]; exact hin) rfl rfl d fun H1 e z oq => ?_
  refine kk H1 _ ls (by omega) (hw.set hb ho oq ?_) (hs.put z oq (X.2.2.2.2.2.2.2.1 a o ho)) hl
  rw [hc, st_upd]
  show H1[ad E a o]? = some (vp_cell _ _)
  rw [e]
  show some ((arrV _ (kl a) (fun i => Value.int (μ a o i))).setSlot _ _) = some (arrV _ (kl a) (fun i => Value.int (upd (μ a o) j y i)))
  rw [arrV_store]
  congr 2
  funext q
  rw [nI_clamp (Nat.lt_trans hj hj2)]
  by_cases hq : q = j
  · subst hq
    simp [updV, upd]
  · simp [updV, upd, hq]
/-- a new object comes into a row -/
theorem n_aast (X : Cx E C bs own nL R) (hb : AD E b) {a a2 o2 t len j NN : Nat} {Cn : String} {T : u_T} (ho : 0 < vn a) (ho2 : o2 < vn a2) (hk2 : kt a2 = 0) (g : Nat → Nat) (hg : g j = ad E a2 o2) (hc9 : ∀ f, cntn E a 0 f = .inl (E.2.2.1 t, len, .inr (.inr (.inr (.inr (fo f g)))))) (ht : (tysG E)[t]? = some (E.2.2.1 t, .object Cn)) (hcl : vwCl[oc a2]? = some (Cn, T, NN)) (hN1 : offs a 0 < N) (hN2 : offs a2 o2 < N) (hj : j < len) (hl9 : len < 2 ^ 31) (d : decode bs pc = .ok (.aastore, 1)) (kk : KN E C b k n N (st μ a 0 (100 + j) 1) (pc + 1) L S) : KN E C b k n N μ pc L (.ref (ad E a2 o2) :: .int (nI j) :: .ref (ad E a 0) :: S) := by
  intro H locs ls hz hw hs hl
  have h0 := hw a 0 ho hN1
  rw [hc9] at h0
  have h2 := hw a2 o2 ho2 hN2
  rw [show cntn E a2 o2 (μ a2 o2) = .inr (oc a2, fldn E a2 o2 (μ a2 o2)) by unfold cntn; rw [hk2]; rfl] at h2
  obtain ⟨r', hr', cellV, g1, g2, g3, -⟩ := h2
  obtain rfl : r' = (Cn, T, NN) := Option.some.inj (hr'.symm.trans hcl)
  have hcls := (X.2.2.2.2.2.1.1.1 (oc a2) _ hcl).2
  have hKt := X.2.2.2.2.2.1.1.2 t _ ht
  obtain ⟨kA, comp, k1, k2, k3, -⟩ := hKt.2
  have hcomp : comp = E.2.1.1 (oc a2) := Option.some.inj (k3.symm.trans hcls.1)
  subst hcomp
  obtain ⟨kC, hkC, -⟩ := hcls.2
  have hjc : (nI j).toNatClampNeg = j := nI_clamp (by omega)
  refine W.aast X.1 X.2.1 (cell := arrV (E.2.2.1 t) len (fun i => va_rf (fo (μ a 0) g i))) h0 (fun q h => by cases h) (fun h => by cases h) k1 k2 rfl hkC ⟨nI_pos (by omega), by rw [arrV_size, hjc]; exact hj⟩ g1 (fun q h => by rw [g3] at h; cases h) (by rw [g2]; exact hkC) (by rw [g2]; exact va_assign hcls) rfl rfl d fun H1 e z oq => ?_
  refine kk H1 _ ls (by omega) (hw.set hb ho oq ?_) (hs.put z oq (X.2.2.2.2.2.2.2.1 a 0 ho)) hl
  rw [hc9]
  show H1[ad E a 0]? = some (vp_cell _ _)
  rw [e, vp_cell_q, arrV_store, hjc]
  congr 2
  funext q
  by_cases hq : q = j
  · subst hq
    simp only [updV, if_pos]
    unfold fo
    rw [if_pos st_same, hg]
    rfl
  · simp only [updV, if_neg hq]
    unfold fo
    rw [st_i (by omega)]
end BROWS
end
section
/-! contracts of constructors -/
def WSn (E : EE) (b N : Nat) (μ : Mem) (sz : Nat) (U : State) : Prop := U.heap.size = sz ∧ sz = b + N ∧ Wn E μ N U.heap ∧ SX E U ∧ ZQ (Aw E sz) U U.heap ∧ va_AO "CallForker$BindingRow" U ∧ va_AO "CallForker$Call" U
theorem WSn.blind {E : EE} {b N : Nat} {μ : Mem} {sz : Nat} {av : List Value} : FrameBlind (va_Pc av (WSn E b N μ sz)) := by
  rintro a U g mk ⟨h0, h1, h2, h3, h4, h5, h6, h7⟩
  exact ⟨h0, h1, h2, h3, h4.calling, ⟨vx_Zq.moved (u := U) (U := U.calling g mk a) (Vm.Alike.refl U.vm) h5.1, vx_Zq.moved (u := U) (U := U.calling g mk a) (Vm.Alike.refl U.vm) h5.2⟩, va_AO.moved (u := U) (U := U.calling g mk a) (Vm.Alike.refl U.vm) h6, va_AO.moved (u := U) (U := U.calling g mk a) (Vm.Alike.refl U.vm) h7⟩
def Qn (E : EE) (b N' : Nat) (sz : Nat) (μ' : Mem) : Array Value → State → Outcome → State → Prop := fun _ s o t => (o = .returned none ∧ t.heap.size = b + N' ∧ Wn E μ' N' t.heap) ∧ va_F (Aw E sz) s t
def MN (E : EE) (b N N' : Nat) (y : MethodName) (bs : ByteArray) (maxL : Nat) (R : Room) (av : List Value) (μ μ' : Mem) : Prop :=
  ∀ sz : Nat, Met E.1 y (Cond.code y bs maxL none :: WALL) R (va_Pc av (WSn E b N μ sz)) (Qn E b N' sz μ') R.cells R.slots (Aw E sz)
def EndN (E : EE) (C : Ctx) (bs : ByteArray) (b N' k n : Nat) (μ : Mem) : Prop := ∀ (pc : Nat) (H : Heap) (locs : List Loc) (ls : Array Slot), decode bs pc = .ok (.return_, 1) → H.size = b + N' → Wn E μ N' H → va_S (cA C) (cs C).heap H locs → WC E C H locs k n (F0 (cm C) pc ls [])
theorem n_vret {E : EE} {C : Ctx} {bs : ByteArray} {b N k n pc : Nat} {μ μ' : Mem} {L : List (Nat × Value)} (d : decode bs pc = .ok (.return_, 1)) (h : EndN E C bs b N k n μ') (e2 : μ = μ') : KN E C b k n N μ pc L [] := by
  subst e2
  exact fun H locs ls hz hw hs _ => h pc H locs ls d hz hw hs
theorem n_cast {E : EE} {C : Ctx} {b N N' k k' n n' pc : Nat} {μ : Mem} {L : List (Nat × Value)} {S : List Value} (h1 : k = k') (h2 : n = n') (h3 : N = N') (kk : KN E C b k' n' N' μ pc L S) : KN E C b k n N μ pc L S := by
  subst h1; subst h2; subst h3; exact kk
theorem MN.of {E : EE} {b N N' : Nat} {y : MethodName} {own : String} {bs : ByteArray} {maxL : Nat} {R : Room} {av : List Value} {μ μ' : Mem} (L0 : List (Nat × Value)) (hy : plainName y.cls = true) (hy2 : y.name = "<init>") (how : y.cls = own) (hL0 : lv_args 0 av = L0) (hlen : (lg_sl av).length ≤ maxL)
    (body : ∀ C : Ctx, Cx E C bs own maxL R → (cM C).name = "<init>" → (cc C).maxLocals = cN C → va_AO "CallForker$BindingRow" (cs C) → va_AO "CallForker$Call" (cs C) → EndN E C bs b N' R.cells R.slots μ' → KN E C b 0 0 N μ 0 L0 []) : MN E b N N' y bs maxL R av μ μ' := by
  intro sz
  refine Met.ofW (cc := bs) (maxL := maxL) (ret := none) hy rfl ?_
  intro p e s m av2 below meth c s₁ B hml hv
  obtain ⟨rfl, hsz, hbN, hw, hx, hz, ha1, ha2⟩ := hv
  have hts := atoms_spec (ws := Cond.code y bs maxL none :: WALL) B.pre
  have hown : s.vm.findClass own = some m.cls := how ▸ findClass_of_methodNamed B.named
  have hin : meth.name = "<init>" := (name_of_methodNamed B.named B.method).1.trans hy2
  subst hsz
  have K := body (p, e, R, s, m, av.toArray, below, meth, c, MQ below (Qn E b N' s.heap.size μ') av.toArray s R.cells R.slots (Aw E s.heap.size), Aw E s.heap.size, maxL)
    ⟨B.exec, B.bytes, hml, hown, fun w hw => hts w (List.mem_cons_of_mem _ hw), hx, hz, fun k o h => Or.inl ⟨k, o, h, rfl⟩, fun q h => Or.inr h, rfl, rfl, B.notSynchronized⟩ hin hml ha1 ha2
    (fun pc H locs ls d hz hw hs => W.vret B.exec B.bytes B.returns (fun t ht hW => ⟨⟨rfl, by rw [ht]; exact hz, by rw [ht]; exact hw⟩, hs.F ht⟩) hs.2.2 d B.notSynchronized)
  rw [lg_entry_eq]
  exact K s.heap [] _ hbN hw va_S.rf (hL0 ▸ lv_entry av hlen)
section NCALL
variable {E : EE} {C : Ctx} {bs : ByteArray} {own : String} {nL b k n N pc : Nat} {R : Room} {μ : Mem} {L : List (Nat × Value)} {S : List Value}
theorem Cx.wsn (X : Cx E C bs own nL R) (ha1 : va_AO "CallForker$BindingRow" (cs C)) (ha2 : va_AO "CallForker$Call" (cs C)) {H : Heap} {locs : List Loc} (hz : H.size = b + N) (hw : Wn E μ N H) (hs : va_S (cA C) (cs C).heap H locs) {U : State} (hU : U.heap = H) (hW : (cs C).WarmedH U.vm) : WSn E b N μ H.size U := by
  refine ⟨by rw [hU], hz, by rw [hU]; exact hw, X.2.2.2.2.2.1.warm hW, ⟨?_, ?_⟩, va_AO.moved hW.alike ha1, va_AO.moved hW.alike ha2⟩
  · rw [hU]; exact vx_Zq.moved hW.alike ((X.2.2.2.2.2.2.1.1.kept hs.2.1).narrow (X.ownq hs))
  · rw [hU]; exact vx_Zq.moved hW.alike ((X.2.2.2.2.2.2.1.2.kept hs.2.1).narrow (X.ownq hs))
theorem n_back {μ' : Mem} {N' : Nat} {H : Heap} {locs : List Loc} {ls : Array Slot} {mc ms : Nat} {st0 : List Value} {a : Array Value} (X : Cx E C bs own nL R) (hs : va_S (cA C) (cs C).heap H locs) (hl : lv_has ls (cN C) L)
    (hr : va_Run (cp C) E.1 (ce C) (cR C) (cs C) (cm C) (ca C) (cb C) (cM C) (cc C) H locs k n mc ms (F0 (cm C) pc ls st0) S (Qn E b N' H.size μ' a) (Aw E H.size)) (kk : KN E C b (k + mc) (n + ms) N' μ' (pc + 3) L S) : WC E C H locs k n (F0 (cm C) pc ls st0) := by
  intro T hT X0
  obtain ⟨v, st₀, t, T', Lc, h0, X', hL, e1, e2, ⟨⟨hv, hz', hw'⟩, hF⟩, stp⟩ := hr T hT X0
  obtain rfl : v = none := by injection hv
  obtain ⟨-, -, k3⟩ := vx_keep h0 e1 hs (fun q _ h => X.ownq hs q h) (X.ownq hs) hL hF
  obtain ⟨t2, a1, b1⟩ := kk T'.heap (locs ++ Lc) ls (by rw [e1]; exact hz') (by rw [e1]; exact hw') k3 hl T' rfl X'
  exact ⟨t2, stp t2 a1, b1⟩
theorem n_callI (X : Cx E C bs own nL R) (ha1 : va_AO "CallForker$BindingRow" (cs C)) (ha2 : va_AO "CallForker$Call" (cs C)) {a idx maxL N' : Nat} {y : MethodName} {bs' : ByteArray} {R' : Room} {μ' : Mem}
    (hc : Cond.code y bs' maxL none ∈ WALL) (hl9 : Cond.methodLink own idx y ∈ WALL) (hi9 : Cond.instanceMethod y ∈ WALL) (hn9 : Cond.initialized y.cls ∈ WALL) (hy : y.name = "<init>") (hd : y.cls ≠ "java/lang/invoke/MethodHandle" ∧ y.cls ≠ "java/lang/invoke/VarHandle" ∧ (parseMethodDescriptor y.desc).map (fun d => d.parameters.length) = some 0)
    (h : MN E b N N' y bs' maxL R' [.ref a] μ μ') (hcat : (S.map fun v => v.category).sum ≤ 8) (hR : R'.frames + 1 ≤ R.frames ∧ 8 + (maxL + 11) + R'.locals ≤ R.locals) (hf : k + R'.cells ≤ R.cells ∧ n + R'.slots ≤ R.slots) (d : decode bs pc = .ok (.invokespecial idx, 3)) (kk : KN E C b (k + R'.cells) (n + R'.slots) N' μ' (pc + 3) L S) : KN E C b k n N μ pc L (.ref a :: S) := by
  intro H locs ls hz hw hs hl
  have hRR : cR C = R := X.2.2.2.2.2.2.2.2.2.1
  have hNN : cN C = nL := X.2.2.2.2.2.2.2.2.2.2.1
  refine n_back (a := (Value.ref a :: []).toArray) X hs hl ?_ kk
  exact va_runI (As := []) (rest := S) ⟨X.1, X.2.1, X.2.2.1, X.2.2.2.1, X.2.2.2.2.1⟩ (h H.size) (cwI 0 X.2.2.2.2.1 (GW hc) rfl rfl rfl (X.2.2.2.2.1 _ hn9) (X.2.2.2.2.1 _ hl9) (X.2.2.2.2.1 _ hi9) hy hd (hRR ▸ hR)) ⟨WSn.blind, fun U hU hW => ⟨rfl, X.wsn ha1 ha2 hz hw hs hU hW⟩⟩ rfl rfl (hl.1.trans hNN) rfl (lv_room hcat) d (hRR ▸ hf)
theorem n_callIN (X : Cx E C bs own nL R) (ha1 : va_AO "CallForker$BindingRow" (cs C)) (ha2 : va_AO "CallForker$Call" (cs C)) {a idx maxL N' : Nat} {y : MethodName} {host : String} {bs' : ByteArray} {R' : Room} {μ' : Mem}
    (hc : Cond.code y bs' maxL none ∈ WALL) (hl9 : Cond.methodLinkNest own idx y host ∈ WN) (hi9 : Cond.instanceMethod y ∈ WALL) (hn9 : Cond.initialized y.cls ∈ WALL) (hy : y.name = "<init>") (hd : y.cls ≠ "java/lang/invoke/MethodHandle" ∧ y.cls ≠ "java/lang/invoke/VarHandle" ∧ (parseMethodDescriptor y.desc).map (fun d => d.parameters.length) = some 0)
    (h : MN E b N N' y bs' maxL R' [.ref a] μ μ') (hcat : (S.map fun v => v.category).sum ≤ 8) (hR : R'.frames + 1 ≤ R.frames ∧ 8 + (maxL + 11) + R'.locals ≤ R.locals) (hf : k + R'.cells ≤ R.cells ∧ n + R'.slots ≤ R.slots) (d : decode bs pc = .ok (.invokespecial idx, 3)) (kk : KN E C b (k + R'.cells) (n + R'.slots) N' μ' (pc + 3) L S) : KN E C b k n N μ pc L (.ref a :: S) := by
  intro H locs ls hz hw hs hl
  have hRR : cR C = R := X.2.2.2.2.2.2.2.2.2.1
  have hNN : cN C = nL := X.2.2.2.2.2.2.2.2.2.2.1
  refine n_back (a := (Value.ref a :: []).toArray) X hs hl ?_ kk
  exact va_runIN (As := []) (rest := S) ⟨X.1, X.2.1, X.2.2.1, X.2.2.2.1, X.2.2.2.2.1⟩ (h H.size) ⟨va_cnB 0 X.2.2.2.2.1 (GW hc) rfl rfl rfl (X.2.2.2.2.2.1.2.2.2.1 _ hl9) (X.2.2.2.2.1 _ hn9) hd (hRR ▸ hR), hy, X.2.2.2.2.1 _ hi9⟩ ⟨WSn.blind, fun U hU hW => ⟨rfl, X.wsn ha1 ha2 hz hw hs hU hW⟩⟩ rfl rfl (hl.1.trans hNN) rfl (lv_room hcat) d (hRR ▸ hf)
end NCALL
/-- what the constructors leave behind -/
def x0f (μ : Mem) (u : Nat) : Mem := st (st (zr (st (zr (st (zr (st (zr (μ) 7 u) 6 u (100 + 0) 1) 8 u) 6 u (100 + 1) 1) 9 u) 6 u (100 + 2) 1) 10 u) 6 u (100 + 3) 1) 6 u 4 0
def x0M (μ : Mem) (u : Nat) : Mem := up (x0f μ u) 9 u 0 16 (fun _ => -1)
def x1M (μ : Mem) (c : Nat) : Mem := st (st (st (st (st (st (st (zr (st (zr (st (zr (st (zr (μ) 12 c) 11 c (100 + 0) 1) 13 c) 11 c (100 + 1) 1) 14 c) 11 c (100 + 2) 1) 15 c) 11 c (100 + 3) 1) 11 c 4 0) 11 c 5 11) 11 c 6 0) 11 c 7 (-1)) 11 c 8 (-1)) 11 c 9 0
def x2f (μ : Mem) : Mem := st (st (st (zr (st (zr (st (zr (st (zr (st (zr (μ) 1 0) 0 0 (100 + 0) 1) 2 0) 0 0 (100 + 1) 1) 3 0) 0 0 (100 + 2) 1) 4 0) 0 0 (100 + 3) 1) 5 0) 0 0 (100 + 4) 1) 0 0 5 0) 0 0 6 0
def x2r (μ : Mem) : Nat → Mem
  | 0 => μ
  | u + 1 => st (x0M (zr (x2r μ u) 6 u) u) 1 0 (100 + u) 1
def x2c (μ : Mem) : Nat → Mem
  | 0 => μ
  | c + 1 => st (x1M (zr (x2c μ c) 11 c) c) 2 0 (100 + c) 1
def x2M (μ : Mem) : Mem := x2c (x2r (x2f μ) 6) 20
theorem L_X0_init {E : EE} {b u k : Nat} {n : Nat} {μ : Mem} {C : Ctx} (hu : u < 6) (hb : AD E b) (X : Cx E C cX0_init RX0 2 (rmN 1 4 64)) (hf : μ 6 u (100 + 2) = 1) (hE : EndN E C cX0_init b (11 + 5 * u) 4 64 (up μ 9 u 0 16 (fun _ => -1))) : ∀ (f i : Nat), 16 - i < f → i ≤ 16 → KN E C b 4 64 (11 + 5 * u) (up μ 9 u 0 i (fun _ => -1)) 43 [(1, .int (nI i)), (0, .ref (ad E 6 u))] [] := by
  intro f
  induction f with
  | zero => intro i h; omega
  | succ f ih =>
    intro i h hi
    refine n_iload_n X 0 dX0_init_43 rfl rfl ?_
    refine n_bipush X (nI 16) dX0_init_44 (by decide) ?_
    refine n_icmp_ge X (tgt := 62) dX0_init_46 (by decide) (by omega) (by decide) (fun h1 => ?_) (fun h1 => ?_)
    · obtain rfl : i = 16 := by omega
      exact n_vret dX0_init_62 hE rfl
    · refine n_aload_n X 1 dX0_init_49 rfl rfl ?_
      refine n_getf X (a := 6) (o := u) (fi := 2) (v := .ref (ad E 9 u)) rfl hu (by show 6 + 5 * u < _; omega) ?_ rfl wu_X0 (by decide) rfl wf_X0_18 dX0_init_50 ?_
      · show some (fl (up μ 9 u 0 i (fun _ => -1) 6 u) 2 (ad E 9 u)) = _
        unfold fl
        rw [if_pos (by rw [up_k (by decide)]; exact hf)]
      refine n_iload_n X 0 dX0_init_53 rfl rfl ?_
      refine n_iconst X (-1) dX0_init_54 (by decide) ?_
      refine n_iast X hb (a := 9) (o := u) rfl hu (by show 9 + 5 * u < _; omega) h1 (by decide) dX0_init_55 ?_
      refine n_mem (up0_st rfl) ?_
      refine n_iinc X 0 dX0_init_56 (v := nI (i + 1)) rfl (by rw [show Int32.ofInt 1 = (1 : Int32) by decide]; exact (nI_succ i).symm) (by decide) rfl ?_
      refine n_goto X (tgt := 43) dX0_init_59 (by decide) ?_
      exact ih (i + 1) (by omega) (by omega)
theorem C_X0_init {E : EE} {b u : Nat} {μ : Mem} (hu : u < 6) (hb : AD E b) : MN E b (7 + 5 * u) (11 + 5 * u) yX0_init cX0_init 2 (rmN 1 4 64) [.ref (ad E 6 u)] μ (x0M μ u) := by
  refine MN.of [(0, .ref (ad E 6 u))] (by decide) rfl rfl rfl (Nat.le_of_ble_eq_true rfl) fun C X hm hml ha1 ha2 hE => ?_
  refine n_aload_n X 0 dX0_init_0 rfl rfl ?_
  refine n_objInit X wm_X0_3 (by decide) (by decide) hml dX0_init_1 ?_
  refine n_aload_n X 0 dX0_init_4 rfl rfl ?_
  refine n_bipush X (nI 16) dX0_init_5 (by decide) ?_
  refine n_newi X hb (a := 7) (o := u) rfl hu (by show (7 + 5 * u) = _; omega) (by decide) (by decide) (by decide) dX0_init_7 ?_
  refine n_putr X hb (a := 6) (o := u) (fi := 0) (ty := .array .int) tyX0 hm rfl hu (by show (6 + 5 * u) < _; omega) (by simp [fldn, fl, st, List.set]) (by simp [fldn]) rfl tyX0_ok nmX0 wu_X0 (by decide) rfl wf_X0_9 rfl (by decide +kernel) rfl rfl dX0_init_9 ?_
  refine n_aload_n X 0 dX0_init_12 rfl rfl ?_
  refine n_bipush X (nI 16) dX0_init_13 (by decide) ?_
  refine n_newi X hb (a := 8) (o := u) rfl hu (by show (8 + 5 * u) = _; omega) (by decide) (by decide) (by decide) dX0_init_15 ?_
  refine n_putr X hb (a := 6) (o := u) (fi := 1) (ty := .array .int) tyX0 hm rfl hu (by show (6 + 5 * u) < _; omega) (by simp [fldn, fl, st, List.set]) (by simp [fldn]) rfl tyX0_ok nmX0 wu_X0 (by decide) rfl wf_X0_15 rfl (by decide +kernel) rfl rfl dX0_init_17 ?_
  refine n_aload_n X 0 dX0_init_20 rfl rfl ?_
  refine n_bipush X (nI 16) dX0_init_21 (by decide) ?_
  refine n_newi X hb (a := 9) (o := u) rfl hu (by show (9 + 5 * u) = _; omega) (by decide) (by decide) (by decide) dX0_init_23 ?_
  refine n_putr X hb (a := 6) (o := u) (fi := 2) (ty := .array .int) tyX0 hm rfl hu (by show (6 + 5 * u) < _; omega) (by simp [fldn, fl, st, List.set]) (by simp [fldn]) rfl tyX0_ok nmX0 wu_X0 (by decide) rfl wf_X0_18 rfl (by decide +kernel) rfl rfl dX0_init_25 ?_
  refine n_aload_n X 0 dX0_init_28 rfl rfl ?_
  refine n_bipush X (nI 16) dX0_init_29 (by decide) ?_
  refine n_newi X hb (a := 10) (o := u) rfl hu (by show (10 + 5 * u) = _; omega) (by decide) (by decide) (by decide) dX0_init_31 ?_
  refine n_putr X hb (a := 6) (o := u) (fi := 3) (ty := .array .int) tyX0 hm rfl hu (by show (6 + 5 * u) < _; omega) (by simp [fldn, fl, st, List.set]) (by simp [fldn]) rfl tyX0_ok nmX0 wu_X0 (by decide) rfl wf_X0_21 rfl (by decide +kernel) rfl rfl dX0_init_33 ?_
  refine n_aload_n X 0 dX0_init_36 rfl rfl ?_
  refine n_iconst X (0) dX0_init_37 (by decide) ?_
  refine n_puti X hb (a := 6) (o := u) (fi := 4) (ty := .int) tyX0 rfl hu (by show (6 + 5 * u) < _; omega) (by simp [fldn, fl, st, List.set]) (by simp [fldn]) rfl tyX0_ok nmX0 wu_X0 (by decide) rfl wf_X0_24 rfl (by decide +kernel) rfl rfl dX0_init_38 ?_
  refine n_iconst X (nI 0) dX0_init_41 (by decide) ?_
  refine n_istore_n X dX0_init_42 rfl (by decide) rfl ?_
  refine n_cast (k' := 4) (n' := 64) (N' := 11 + 5 * u) rfl rfl (by omega) ?_
  refine n_mem (μ' := up (x0f μ u) 9 u 0 0 (fun _ => -1)) up_0.symm ?_
  exact L_X0_init (k := 0) (n := 0) hu hb X (by simp [x0f, st, zr]) hE 17 0 (by decide) (by decide)
theorem C_X1_init {E : EE} {b c : Nat} {μ : Mem} (hc : c < 20) (hb : AD E b) : MN E b (37 + 5 * c) (41 + 5 * c) yX1_init cX1_init 1 (rmN 1 4 48) [.ref (ad E 11 c)] μ (x1M μ c) := by
  refine MN.of [(0, .ref (ad E 11 c))] (by decide) rfl rfl rfl (Nat.le_of_ble_eq_true rfl) fun C X hm hml ha1 ha2 hE => ?_
  refine n_aload_n X 0 dX1_init_0 rfl rfl ?_
  refine n_objInit X wm_X1_3 (by decide) (by decide) hml dX1_init_1 ?_
  refine n_aload_n X 0 dX1_init_4 rfl rfl ?_
  refine n_bipush X (nI 12) dX1_init_5 (by decide) ?_
  refine n_newi X hb (a := 12) (o := c) rfl hc (by show (37 + 5 * c) = _; omega) (by decide) (by decide) (by decide) dX1_init_7 ?_
  refine n_putr X hb (a := 11) (o := c) (fi := 0) (ty := .array .int) tyX1 hm rfl hc (by show (36 + 5 * c) < _; omega) (by simp [fldn, fl, st, List.set]) (by simp [fldn]) rfl tyX1_ok nmX1 wu_X1 (by decide) rfl wf_X1_9 rfl (by decide +kernel) rfl rfl dX1_init_9 ?_
  refine n_aload_n X 0 dX1_init_12 rfl rfl ?_
  refine n_bipush X (nI 12) dX1_init_13 (by decide) ?_
  refine n_newi X hb (a := 13) (o := c) rfl hc (by show (38 + 5 * c) = _; omega) (by decide) (by decide) (by decide) dX1_init_15 ?_
  refine n_putr X hb (a := 11) (o := c) (fi := 1) (ty := .array .int) tyX1 hm rfl hc (by show (36 + 5 * c) < _; omega) (by simp [fldn, fl, st, List.set]) (by simp [fldn]) rfl tyX1_ok nmX1 wu_X1 (by decide) rfl wf_X1_15 rfl (by decide +kernel) rfl rfl dX1_init_17 ?_
  refine n_aload_n X 0 dX1_init_20 rfl rfl ?_
  refine n_bipush X (nI 12) dX1_init_21 (by decide) ?_
  refine n_newi X hb (a := 14) (o := c) rfl hc (by show (39 + 5 * c) = _; omega) (by decide) (by decide) (by decide) dX1_init_23 ?_
  refine n_putr X hb (a := 11) (o := c) (fi := 2) (ty := .array .int) tyX1 hm rfl hc (by show (36 + 5 * c) < _; omega) (by simp [fldn, fl, st, List.set]) (by simp [fldn]) rfl tyX1_ok nmX1 wu_X1 (by decide) rfl wf_X1_18 rfl (by decide +kernel) rfl rfl dX1_init_25 ?_
  refine n_aload_n X 0 dX1_init_28 rfl rfl ?_
  refine n_bipush X (nI 12) dX1_init_29 (by decide) ?_
  refine n_newz X hb (a := 15) (o := c) rfl hc (by show (40 + 5 * c) = _; omega) (by decide) (by decide) (by decide) dX1_init_31 ?_
  refine n_putr X hb (a := 11) (o := c) (fi := 3) (ty := .array .boolean) tyX1 hm rfl hc (by show (36 + 5 * c) < _; omega) (by simp [fldn, fl, st, List.set]) (by simp [fldn]) rfl tyX1_ok nmX1 wu_X1 (by decide) rfl wf_X1_21 rfl (by decide +kernel) rfl rfl dX1_init_33 ?_
  refine n_aload_n X 0 dX1_init_36 rfl rfl ?_
  refine n_iconst X (0) dX1_init_37 (by decide) ?_
  refine n_puti X hb (a := 11) (o := c) (fi := 4) (ty := .int) tyX1 rfl hc (by show (36 + 5 * c) < _; omega) (by simp [fldn, fl, st, List.set]) (by simp [fldn]) rfl tyX1_ok nmX1 wu_X1 (by decide) rfl wf_X1_25 rfl (by decide +kernel) rfl rfl dX1_init_38 ?_
  refine n_aload_n X 0 dX1_init_41 rfl rfl ?_
  refine n_bipush X (11) dX1_init_42 (by decide) ?_
  refine n_puti X hb (a := 11) (o := c) (fi := 5) (ty := .int) tyX1 rfl hc (by show (36 + 5 * c) < _; omega) (by simp [fldn, fl, st, List.set]) (by simp [fldn]) rfl tyX1_ok nmX1 wu_X1 (by decide) rfl wf_X1_29 rfl (by decide +kernel) rfl rfl dX1_init_44 ?_
  refine n_aload_n X 0 dX1_init_47 rfl rfl ?_
  refine n_iconst X (0) dX1_init_48 (by decide) ?_
  refine n_puti X hb (a := 11) (o := c) (fi := 6) (ty := .int) tyX1 rfl hc (by show (36 + 5 * c) < _; omega) (by simp [fldn, fl, st, List.set]) (by simp [fldn]) rfl tyX1_ok nmX1 wu_X1 (by decide) rfl wf_X1_32 rfl (by decide +kernel) rfl rfl dX1_init_49 ?_
  refine n_aload_n X 0 dX1_init_52 rfl rfl ?_
  refine n_iconst X (-1) dX1_init_53 (by decide) ?_
  refine n_puti X hb (a := 11) (o := c) (fi := 7) (ty := .int) tyX1 rfl hc (by show (36 + 5 * c) < _; omega) (by simp [fldn, fl, st, List.set]) (by simp [fldn]) rfl tyX1_ok nmX1 wu_X1 (by decide) rfl wf_X1_35 rfl (by decide +kernel) rfl rfl dX1_init_54 ?_
  refine n_aload_n X 0 dX1_init_57 rfl rfl ?_
  refine n_iconst X (-1) dX1_init_58 (by decide) ?_
  refine n_puti X hb (a := 11) (o := c) (fi := 8) (ty := .int) tyX1 rfl hc (by show (36 + 5 * c) < _; omega) (by simp [fldn, fl, st, List.set]) (by simp [fldn]) rfl tyX1_ok nmX1 wu_X1 (by decide) rfl wf_X1_38 rfl (by decide +kernel) rfl rfl dX1_init_59 ?_
  refine n_aload_n X 0 dX1_init_62 rfl rfl ?_
  refine n_iconst X (0) dX1_init_63 (by decide) ?_
  refine n_puti X hb (a := 11) (o := c) (fi := 9) (ty := .boolean) tyX1 rfl hc (by show (36 + 5 * c) < _; omega) (by simp [fldn, fl, st, List.set]) (by simp [fldn]) rfl tyX1_ok nmX1 wu_X1 (by decide) rfl wf_X1_41 rfl (by decide +kernel) rfl rfl dX1_init_64 ?_
  refine n_cast (k' := 4) (n' := 48) (N' := 41 + 5 * c) rfl rfl (by omega) ?_
  exact n_vret dX1_init_67 hE rfl
theorem x2r_f {μ : Mem} {k o i : Nat} (h : k < 6) (h1 : k ≠ 1) : ∀ u, x2r μ u k o i = μ k o i
  | 0 => rfl
  | u + 1 => by
    show st (x0M (zr (x2r μ u) 6 u) u) 1 0 (100 + u) 1 k o i = _
    rw [st_k h1]
    unfold x0M
    rw [up_k (by omega)]
    unfold x0f
    have e : ∀ a b, a ≠ k → zr (x2r μ u) a b k o i = x2r μ u k o i := fun a b h => by rw [zr_row (fun q => h q.1.symm)]
    have h6 : k ≠ 6 := by omega
    have h7 : k ≠ 7 := by omega
    have h8 : k ≠ 8 := by omega
    have h9 : k ≠ 9 := by omega
    have h10 : k ≠ 10 := by omega
    simp only [st, zr, h6, h7, h8, h9, h10, false_and, if_false]
    exact x2r_f h h1 u
theorem x2c_f {μ : Mem} {k o i : Nat} (h : k < 11) (h1 : k ≠ 2) : ∀ u, x2c μ u k o i = μ k o i
  | 0 => rfl
  | u + 1 => by
    show st (x1M (zr (x2c μ u) 11 u) u) 2 0 (100 + u) 1 k o i = _
    rw [st_k h1]
    unfold x1M
    have h6 : k ≠ 11 := by omega
    have h7 : k ≠ 12 := by omega
    have h8 : k ≠ 13 := by omega
    have h9 : k ≠ 14 := by omega
    have h10 : k ≠ 15 := by omega
    simp only [st, zr, h6, h7, h8, h9, h10, false_and, if_false]
    exact x2c_f h h1 u
theorem L_X2_init_c {E : EE} {b : Nat} {μ : Mem} {C : Ctx} (hb : AD E b) (X : Cx E C cX2_init RX2 2 (rmN 2 135 1900)) (ha1 : va_AO "CallForker$BindingRow" (cs C)) (ha2 : va_AO "CallForker$Call" (cs C)) (hf : μ 0 0 (100 + 1) = 1) (hE : EndN E C cX2_init b 136 135 1900 (x2c μ 20)) : ∀ (f i : Nat), 20 - i < f → i ≤ 20 → KN E C b (35 + 5 * i) (500 + 58 * i) (36 + 5 * i) (x2c μ i) 84 [(1, .int (nI i)), (0, .ref (ad E 0 0))] [] := by
  intro f
  induction f with
  | zero => intro i h; omega
  | succ f ih =>
    intro i h hi
    refine n_iload_n X 0 dX2_init_84 rfl rfl ?_
    refine n_bipush X (nI 20) dX2_init_85 (by decide) ?_
    refine n_icmp_ge X (tgt := 109) dX2_init_87 (by decide) (by omega) (by decide) (fun h1 => ?_) (fun h1 => ?_)
    · obtain rfl : i = 20 := by omega
      refine n_wide (k' := 135) (n' := 1900) (by decide) (by decide) ?_
      exact n_vret dX2_init_109 hE rfl
    · refine n_aload_n X 1 dX2_init_90 rfl rfl ?_
      refine n_getf X (a := 0) (o := 0) (fi := 1) (v := .ref (ad E 2 0)) rfl (by decide) (by show 0 < _; omega) ?_ rfl wu_X2 (by decide) rfl wf_X2_17 dX2_init_91 ?_
      · show some (fl (x2c μ i 0 0) 1 (ad E 2 0)) = _
        unfold fl
        rw [if_pos (by rw [x2c_f (by decide) (by decide)]; exact hf)]
      refine n_iload_n X 0 dX2_init_94 rfl rfl ?_
      refine n_new X hb (a := 11) (o := i) tyX1 rfl h1 rfl rfl tyX1_ok wu_X1 wk_X2_15 wx_X1 wn_X1 (fun j hj => by rcases (show j = 0 ∨ j = 1 ∨ j = 2 ∨ j = 3 ∨ j = 4 ∨ j = 5 ∨ j = 6 ∨ j = 7 ∨ j = 8 ∨ j = 9 by omega) with rfl | rfl | rfl | rfl | rfl | rfl | rfl | rfl | rfl | rfl <;> rfl) (by show _ ≤ 135; omega) (by show _ ≤ 1900; omega) dX2_init_95 ?_
      refine n_dup X dX2_init_98 rfl ?_
      refine n_cast (k' := 36 + 5 * i) (n' := 510 + 58 * i) (N' := 37 + 5 * i) (by omega) (by omega) (by omega) ?_
      refine n_callIN X (host := "CallForker") ha1 ha2 wc_X1_init (by decide +kernel) wi_X1_init wn_X1 rfl (by decide) (C_X1_init h1 hb) (by simp [Value.category]) ⟨by decide, by decide⟩ ⟨by show _ + 4 ≤ 135; omega, by show _ + 48 ≤ 1900; omega⟩ dX2_init_99 ?_
      refine n_aast X hb (a := 2) (a2 := 11) (o2 := i) (t := 4) (len := 20) (by decide) h1 rfl (fun i => ad E 11 i) rfl (fun _ => rfl) rfl rfl (by show 2 < _; omega) (by show 36 + 5 * i < _; omega) h1 (by decide) dX2_init_102 ?_
      refine n_iinc X 0 dX2_init_103 (v := nI (i + 1)) rfl (by rw [show Int32.ofInt 1 = (1 : Int32) by decide]; exact (nI_succ i).symm) (by decide) rfl ?_
      refine n_goto X (tgt := 84) dX2_init_106 (by decide) ?_
      refine n_cast (k' := 35 + 5 * (i + 1)) (n' := 500 + 58 * (i + 1)) (N' := 36 + 5 * (i + 1)) (by show 36 + 5 * i + 4 = _; omega) (by show 510 + 58 * i + 48 = _; omega) (by omega) ?_
      exact ih (i + 1) (by omega) (by omega)
theorem L_X2_init_r {E : EE} {b : Nat} {μ : Mem} {C : Ctx} (hb : AD E b) (X : Cx E C cX2_init RX2 2 (rmN 2 135 1900)) (ha1 : va_AO "CallForker$BindingRow" (cs C)) (ha2 : va_AO "CallForker$Call" (cs C)) (hf : μ 0 0 (100 + 0) = 1) (hf1 : μ 0 0 (100 + 1) = 1) (hE : EndN E C cX2_init b 136 135 1900 (x2c (x2r μ 6) 20)) : ∀ (f i : Nat), 6 - i < f → i ≤ 6 → KN E C b (5 + 5 * i) (51 + 69 * i) (6 + 5 * i) (x2r μ i) 57 [(1, .int (nI i)), (0, .ref (ad E 0 0))] [] := by
  intro f
  induction f with
  | zero => intro i h; omega
  | succ f ih =>
    intro i h hi
    refine n_iload_n X 0 dX2_init_57 rfl rfl ?_
    refine n_bipush X (nI 6) dX2_init_58 (by decide) ?_
    refine n_icmp_ge X (tgt := 82) dX2_init_60 (by decide) (by omega) (by decide) (fun h1 => ?_) (fun h1 => ?_)
    · obtain rfl : i = 6 := by omega
      refine n_iconst X (nI 0) dX2_init_82 (by decide) ?_
      refine n_istore_n X dX2_init_83 rfl (by decide) rfl ?_
      refine n_wide (k' := 35 + 5 * 0) (n' := 500 + 58 * 0) (by decide) (by decide) ?_
      exact L_X2_init_c hb X ha1 ha2 (by rw [x2r_f (by decide) (by decide)]; exact hf1) hE 21 0 (by decide) (by decide)
    · refine n_aload_n X 1 dX2_init_63 rfl rfl ?_
      refine n_getf X (a := 0) (o := 0) (fi := 0) (v := .ref (ad E 1 0)) rfl (by decide) (by show 0 < _; omega) ?_ rfl wu_X2 (by decide) rfl wf_X2_11 dX2_init_64 ?_
      · show some (fl (x2r μ i 0 0) 0 (ad E 1 0)) = _
        unfold fl
        rw [if_pos (by rw [x2r_f (by decide) (by decide)]; exact hf)]
      refine n_iload_n X 0 dX2_init_67 rfl rfl ?_
      refine n_new X hb (a := 6) (o := i) tyX0 rfl h1 rfl rfl tyX0_ok wu_X0 wk_X2_9 wx_X0 wn_X0 (fun j hj => by rcases (show j = 0 ∨ j = 1 ∨ j = 2 ∨ j = 3 ∨ j = 4 by omega) with rfl | rfl | rfl | rfl | rfl <;> rfl) (by show _ ≤ 135; omega) (by show _ ≤ 1900; omega) dX2_init_68 ?_
      refine n_dup X dX2_init_71 rfl ?_
      refine n_cast (k' := 6 + 5 * i) (n' := 56 + 69 * i) (N' := 7 + 5 * i) (by omega) (by omega) (by omega) ?_
      refine n_callI X ha1 ha2 wc_X0_init wm_X2_38 wi_X0_init wn_X0 rfl (by decide) (C_X0_init h1 hb) (by simp [Value.category]) ⟨by decide, by decide⟩ ⟨by show _ + 4 ≤ 135; omega, by show _ + 64 ≤ 1900; omega⟩ dX2_init_72 ?_
      refine n_aast X hb (a := 1) (a2 := 6) (o2 := i) (t := 3) (len := 6) (by decide) h1 rfl (fun i => ad E 6 i) rfl (fun _ => rfl) rfl rfl (by show 1 < _; omega) (by show 6 + 5 * i < _; omega) h1 (by decide) dX2_init_75 ?_
      refine n_iinc X 0 dX2_init_76 (v := nI (i + 1)) rfl (by rw [show Int32.ofInt 1 = (1 : Int32) by decide]; exact (nI_succ i).symm) (by decide) rfl ?_
      refine n_goto X (tgt := 57) dX2_init_79 (by decide) ?_
      refine n_cast (k' := 5 + 5 * (i + 1)) (n' := 51 + 69 * (i + 1)) (N' := 6 + 5 * (i + 1)) (by show 6 + 5 * i + 4 = _; omega) (by show 56 + 69 * i + 64 = _; omega) (by omega) ?_
      exact ih (i + 1) (by omega) (by omega)
theorem C_X2_init {E : EE} {b : Nat} {μ : Mem} (hb : AD E b) : MN E b 1 136 yX2_init cX2_init 2 (rmN 2 135 1900) [.ref (ad E 0 0)] μ (x2M μ) := by
  refine MN.of [(0, .ref (ad E 0 0))] (by decide) rfl rfl rfl (Nat.le_of_ble_eq_true rfl) fun C X hm hml ha1 ha2 hE => ?_
  refine n_aload_n X 0 dX2_init_0 rfl rfl ?_
  refine n_objInit X wm_X2_3 (by decide) (by decide) hml dX2_init_1 ?_
  refine n_aload_n X 0 dX2_init_4 rfl rfl ?_
  refine n_bipush X (nI 6) dX2_init_5 (by decide) ?_
  refine n_newq X hb (a := 1) (t := 3) (len := 6) (Cn := "CallForker$BindingRow") (by decide) rfl rfl rfl (by decide) wk_X2_9 ha1 (by decide) (by decide) dX2_init_7 ?_
  refine n_putr X hb (a := 0) (o := 0) (fi := 0) (ty := .array (.object "CallForker$BindingRow")) tyX2 hm rfl (by decide) (by show 0 < _; omega) (by simp [fldn, fl, st, List.set]) (by simp [fldn]) rfl tyX2_ok nmX2 wu_X2 (by decide) rfl wf_X2_11 rfl (by decide +kernel) rfl rfl dX2_init_10 ?_
  refine n_aload_n X 0 dX2_init_13 rfl rfl ?_
  refine n_bipush X (nI 20) dX2_init_14 (by decide) ?_
  refine n_newq X hb (a := 2) (t := 4) (len := 20) (Cn := "CallForker$Call") (by decide) rfl rfl rfl (by decide) wk_X2_15 ha2 (by decide) (by decide) dX2_init_16 ?_
  refine n_putr X hb (a := 0) (o := 0) (fi := 1) (ty := .array (.object "CallForker$Call")) tyX2 hm rfl (by decide) (by show 0 < _; omega) (by simp [fldn, fl, st, List.set]) (by simp [fldn]) rfl tyX2_ok nmX2 wu_X2 (by decide) rfl wf_X2_17 rfl (by decide +kernel) rfl rfl dX2_init_19 ?_
  refine n_aload_n X 0 dX2_init_22 rfl rfl ?_
  refine n_bipush X (nI 10) dX2_init_23 (by decide) ?_
  refine n_newi X hb (a := 3) (o := 0) rfl (by decide) (by show 3 = _; omega) (by decide) (by decide) (by decide) dX2_init_25 ?_
  refine n_putr X hb (a := 0) (o := 0) (fi := 2) (ty := .array .int) tyX2 hm rfl (by decide) (by show 0 < _; omega) (by simp [fldn, fl, st, List.set]) (by simp [fldn]) rfl tyX2_ok nmX2 wu_X2 (by decide) rfl wf_X2_21 rfl (by decide +kernel) rfl rfl dX2_init_27 ?_
  refine n_aload_n X 0 dX2_init_30 rfl rfl ?_
  refine n_iconst X (nI 3) dX2_init_31 (by decide) ?_
  refine n_newi X hb (a := 4) (o := 0) rfl (by decide) (by show 4 = _; omega) (by decide) (by decide) (by decide) dX2_init_32 ?_
  refine n_putr X hb (a := 0) (o := 0) (fi := 3) (ty := .array .int) tyX2 hm rfl (by decide) (by show 0 < _; omega) (by simp [fldn, fl, st, List.set]) (by simp [fldn]) rfl tyX2_ok nmX2 wu_X2 (by decide) rfl wf_X2_25 rfl (by decide +kernel) rfl rfl dX2_init_34 ?_
  refine n_aload_n X 0 dX2_init_37 rfl rfl ?_
  refine n_bipush X (nI 12) dX2_init_38 (by decide) ?_
  refine n_newi X hb (a := 5) (o := 0) rfl (by decide) (by show 5 = _; omega) (by decide) (by decide) (by decide) dX2_init_40 ?_
  refine n_putr X hb (a := 0) (o := 0) (fi := 4) (ty := .array .int) tyX2 hm rfl (by decide) (by show 0 < _; omega) (by simp [fldn, fl, st, List.set]) (by simp [fldn]) rfl tyX2_ok nmX2 wu_X2 (by decide) rfl wf_X2_28 rfl (by decide +kernel) rfl rfl dX2_init_42 ?_
  refine n_aload_n X 0 dX2_init_45 rfl rfl ?_
  refine n_iconst X (0) dX2_init_46 (by decide) ?_
  refine n_puti X hb (a := 0) (o := 0) (fi := 5) (ty := .int) tyX2 rfl (by decide) (by show 0 < _; omega) (by simp [fldn, fl, st, List.set]) (by simp [fldn]) rfl tyX2_ok nmX2 wu_X2 (by decide) rfl wf_X2_31 rfl (by decide +kernel) rfl rfl dX2_init_47 ?_
  refine n_aload_n X 0 dX2_init_50 rfl rfl ?_
  refine n_iconst X (0) dX2_init_51 (by decide) ?_
  refine n_puti X hb (a := 0) (o := 0) (fi := 6) (ty := .int) tyX2 rfl (by decide) (by show 0 < _; omega) (by simp [fldn, fl, st, List.set]) (by simp [fldn]) rfl tyX2_ok nmX2 wu_X2 (by decide) rfl wf_X2_35 rfl (by decide +kernel) rfl rfl dX2_init_52 ?_
  refine n_iconst X (nI 0) dX2_init_55 (by decide) ?_
  refine n_istore_n X dX2_init_56 rfl (by decide) rfl ?_
  exact L_X2_init_r (μ := x2f μ) hb X ha1 ha2 (by simp [x2f, st, zr]) (by simp [x2f, st, zr]) hE 7 0 (by decide) (by decide)
end
section
/-! the memory at the law's start of its loop -/
def μ0 : Mem := fun _ _ _ => 0
def μA : Mem := x2M (zr μ0 0 0)
def μI : Mem := zr μA 16 0
theorem x0M_o {μ : Mem} {u k o i : Nat} (h : o ≠ u) : x0M (zr μ 6 u) u k o i = μ k o i := by
  unfold x0M
  rw [up_o h]
  simp only [x0f, st, zr, h, and_false, false_and, if_false]
theorem x1M_o {μ : Mem} {u k o i : Nat} (h : o ≠ u) : x1M (zr μ 11 u) u k o i = μ k o i := by
  simp only [x1M, st, zr, h, and_false, false_and, if_false]
theorem x2r_row {μ : Mem} {k i : Nat} (hk : 6 ≤ k) : ∀ n u, u < n → x2r μ n k u i = x0M (zr (x2r μ u) 6 u) u k u i
  | 0, u, h => absurd h (Nat.not_lt_zero u)
  | n + 1, u, h => by
    show st (x0M (zr (x2r μ n) 6 n) n) 1 0 (100 + n) 1 k u i = _
    rw [st_k (by omega)]
    by_cases e : u = n
    · subst e; rfl
    · rw [x0M_o e]
      exact x2r_row hk n u (by omega)
theorem x2c_row {μ : Mem} {k i : Nat} (hk : 11 ≤ k) : ∀ n u, u < n → x2c μ n k u i = x1M (zr (x2c μ u) 11 u) u k u i
  | 0, u, h => absurd h (Nat.not_lt_zero u)
  | n + 1, u, h => by
    show st (x1M (zr (x2c μ n) 11 n) n) 2 0 (100 + n) 1 k u i = _
    rw [st_k (by omega)]
    by_cases e : u = n
    · subst e; rfl
    · rw [x1M_o e]
      exact x2c_row hk n u (by omega)
theorem x2r_1 {μ : Mem} : ∀ n u, u < n → x2r μ n 1 0 (100 + u) = 1
  | 0, u, h => absurd h (Nat.not_lt_zero u)
  | n + 1, u, h => by
    show st (x0M (zr (x2r μ n) 6 n) n) 1 0 (100 + n) 1 1 0 (100 + u) = _
    by_cases e : u = n
    · subst e; exact st_same
    · rw [st_i (by omega)]
      have e2 : x0M (zr (x2r μ n) 6 n) n 1 0 (100 + u) = x2r μ n 1 0 (100 + u) := by simp [x0M, x0f, up, st, zr]
      rw [e2]
      exact x2r_1 n u (by omega)
theorem x2c_2 {μ : Mem} : ∀ n u, u < n → x2c μ n 2 0 (100 + u) = 1
  | 0, u, h => absurd h (Nat.not_lt_zero u)
  | n + 1, u, h => by
    show st (x1M (zr (x2c μ n) 11 n) n) 2 0 (100 + n) 1 2 0 (100 + u) = _
    by_cases e : u = n
    · subst e; exact st_same
    · rw [st_i (by omega)]
      have e2 : x1M (zr (x2c μ n) 11 n) n 2 0 (100 + u) = x2c μ n 2 0 (100 + u) := by simp [x1M, st, zr]
      rw [e2]
      exact x2c_2 n u (by omega)
theorem μI_k {k o i : Nat} (h : k < 16) : μI k o i = μA k o i := congrFun (zr_row (by omega)) i
theorem μI_0 {i : Nat} : μI 0 0 i = x2f (zr μ0 0 0) 0 0 i := by
  rw [μI_k (by decide)]
  show x2c (x2r (x2f (zr μ0 0 0)) 6) 20 0 0 i = _
  rw [x2c_f (by decide) (by decide), x2r_f (by decide) (by decide)]
theorem μI_3 {i : Nat} : μI 3 0 i = 0 := by
  rw [μI_k (by decide)]
  show x2c (x2r (x2f (zr μ0 0 0)) 6) 20 3 0 i = _
  rw [x2c_f (by decide) (by decide), x2r_f (by decide) (by decide)]
  simp [x2f, st, zr]
theorem μI_row {k u i : Nat} (hk : 6 ≤ k) (hk2 : k < 11) (hu : u < 6) : μI k u i = x0M (zr (x2r (x2f (zr μ0 0 0)) u) 6 u) u k u i := by
  rw [μI_k (by omega)]
  show x2c (x2r (x2f (zr μ0 0 0)) 6) 20 k u i = _
  rw [x2c_f hk2 (by omega), x2r_row hk 6 u hu]
theorem μI_call {k c i : Nat} (hk : 11 ≤ k) (hk2 : k < 16) (hc : c < 20) : μI k c i = x1M (zr (x2c (x2r (x2f (zr μ0 0 0)) 6) c) 11 c) c k c i := by
  rw [μI_k hk2]
  show x2c (x2r (x2f (zr μ0 0 0)) 6) 20 k c i = _
  rw [x2c_row hk 20 c hc]
theorem μI_FL : FL μI := by
  refine ⟨fun j hj => ?_, fun i hi => ?_, fun i hi => ?_, fun u hu j hj => ?_, fun c hc j hj => ?_⟩
  · rw [μI_0]
    rcases (show j = 0 ∨ j = 1 ∨ j = 2 ∨ j = 3 ∨ j = 4 by omega) with rfl | rfl | rfl | rfl | rfl <;> simp [x2f, st, zr]
  · rw [μI_k (by decide)]
    show x2c (x2r (x2f (zr μ0 0 0)) 6) 20 1 0 (100 + i) = _
    rw [x2c_f (by decide) (by decide)]
    exact x2r_1 6 i hi
  · rw [μI_k (by decide)]
    exact x2c_2 20 i hi
  · rw [μI_row (by decide) (by decide) hu]
    rcases (show j = 0 ∨ j = 1 ∨ j = 2 ∨ j = 3 by omega) with rfl | rfl | rfl | rfl <;> simp [x0M, x0f, up, st, zr]
  · rw [μI_call (by decide) (by decide) hc]
    rcases (show j = 0 ∨ j = 1 ∨ j = 2 ∨ j = 3 by omega) with rfl | rfl | rfl | rfl <;> simp [x1M, st, zr]
theorem μI_05 : μI 0 0 5 = 0 := by rw [μI_0]; simp [x2f, st, zr]
theorem μI_06 : μI 0 0 6 = 0 := by rw [μI_0]; simp [x2f, st, zr]
theorem μI_64 {u : Nat} (hu : u < 6) : μI 6 u 4 = 0 := by rw [μI_row (by decide) (by decide) hu]; simp [x0M, x0f, up, st, zr]
theorem μI_9 {u t : Nat} (hu : u < 6) (ht : t < 16) : μI 9 u t = -1 := by
  rw [μI_row (by decide) (by decide) hu]
  unfold x0M
  exact up_in0 ht
theorem μI_11 {c : Nat} (hc : c < 20) : μI 11 c 4 = 0 ∧ μI 11 c 5 = 11 ∧ μI 11 c 7 = -1 ∧ μI 11 c 8 = -1 ∧ μI 11 c 9 = 0 := by
  refine ⟨?_, ?_, ?_, ?_, ?_⟩ <;> (rw [μI_call (by decide) (by decide) hc]; simp [x1M, st, zr])
theorem μI_15 {c i : Nat} (hc : c < 20) : μI 15 c i = 0 := by
  rw [μI_call (by decide) (by decide) hc]
  simp [x1M, st, zr]
theorem μI_16 {i : Nat} : μI 16 0 i = 0 := congrFun zr_same i
theorem μI_116 {c : Nat} (hc : c < 20) : μI 11 c 6 = 0 := by rw [μI_call (by decide) (by decide) hc]; simp [x1M, st, zr]
end
section
/-! the best end, by its least and its greatest and by sorting -/
theorem imI {n : Nat} (h : n < 2 ^ 31) : (nI n).toInt = (n : Int) := nI_T h
theorem i0 : (0 : Int32).toInt = 0 := by decide
theorem im1 : (-1 : Int32).toInt = -1 := by decide
theorem i11 : (11 : Int32).toInt = 11 := by decide
theorem i100 : (100 : Int32).toInt = 100 := by decide
theorem i180 : (180 : Int32).toInt = 180 := by decide
theorem i200 : (200 : Int32).toInt = 200 := by decide
theorem i300 : (300 : Int32).toInt = 300 := by decide
theorem i408 : (408 : Int32).toInt = 408 := by decide
theorem i480 : (480 : Int32).toInt = 480 := by decide
theorem i482 : (482 : Int32).toInt = 482 := by decide
theorem i483 : (483 : Int32).toInt = 483 := by decide
theorem i487 : (487 : Int32).toInt = 487 := by decide
theorem i600 : (600 : Int32).toInt = 600 := by decide
theorem beL_3 {f : Nat → Int32} {n : Nat} (h : ¬ f n = 487) (h2 : ¬ beL f n = -1) (h3 : f n < beL f n) : beL f (n + 1) = f n := by rw [beL_2 h h2, if_pos h3]
theorem beL_4 {f : Nat → Int32} {n : Nat} (h : ¬ f n = 487) (h2 : ¬ beL f n = -1) (h3 : ¬ f n < beL f n) : beL f (n + 1) = beL f n := by rw [beL_2 h h2, if_neg h3]
theorem be_cong {f g : Nat → Int32} : ∀ {n : Nat}, (∀ b, b < n → f b = g b) → beL f n = beL g n ∧ beG f n = beG g n
  | 0, _ => ⟨rfl, rfl⟩
  | n + 1, h => by
    obtain ⟨h1, h2⟩ := be_cong (n := n) (fun b hb => h b (by omega))
    have e := h n (by omega)
    refine ⟨?_, ?_⟩
    · show (if f n = 487 then beL f n else if beL f n = -1 then f n else if f n < beL f n then f n else beL f n) = (if g n = 487 then beL g n else if beL g n = -1 then g n else if g n < beL g n then g n else beL g n)
      rw [e, h1]
    · show (if f n = 487 then beG f n else if beG f n < f n then f n else beG f n) = (if g n = 487 then beG g n else if beG g n < g n then g n else beG g n)
      rw [e, h2]
theorem beI_cong {f g : Nat → Int32} {n : Nat} (h : ∀ b, b < n → f b = g b) : beI f n = beI g n := by
  obtain ⟨h1, h2⟩ := be_cong h
  unfold beI
  rw [h1, h2]
/-! the least and the greatest end, and the sorted row -/
theorem beL_sp {f : Nat → Int32} : ∀ {n : Nat}, (∀ b, b < n → 0 ≤ f b) → (beL f n = -1 ∧ ∀ b, b < n → f b = 487) ∨ (¬ beL f n = -1 ∧ (∃ b, b < n ∧ ¬ f b = 487 ∧ f b = beL f n) ∧ ∀ b, b < n → ¬ f b = 487 → beL f n ≤ f b)
  | 0, _ => Or.inl ⟨rfl, fun b hb => absurd hb (Nat.not_lt_zero b)⟩
  | n + 1, h => by
    have ih := beL_sp (f := f) (n := n) (fun b hb => h b (by omega))
    have hx := h n (by omega)
    have hx1 : ¬ f n = -1 := fun q => by rw [q] at hx; exact absurd hx (by decide)
    by_cases e : f n = 487
    · rw [beL_0 e]
      rcases ih with ⟨a, b⟩ | ⟨a, ⟨b, hb, b1, b2⟩, d⟩
      · refine Or.inl ⟨a, fun i hi => ?_⟩
        by_cases q : i = n
        · rw [q]; exact e
        · exact b i (by omega)
      · refine Or.inr ⟨a, ⟨b, by omega, b1, b2⟩, fun i hi q => ?_⟩
        by_cases z : i = n
        · rw [z] at q; exact absurd e q
        · exact d i (by omega) q
    · rcases ih with ⟨a, b⟩ | ⟨a, ⟨b, hb, b1, b2⟩, d⟩
      · rw [beL_1 e a]
        refine Or.inr ⟨hx1, ⟨n, by omega, e, rfl⟩, fun i hi q => ?_⟩
        by_cases z : i = n
        · rw [z]; exact Int32.le_refl _
        · exact absurd (b i (by omega)) q
      · by_cases k : f n < beL f n
        · rw [beL_3 e a k]
          refine Or.inr ⟨hx1, ⟨n, by omega, e, rfl⟩, fun i hi q => ?_⟩
          by_cases z : i = n
          · rw [z]; exact Int32.le_refl _
          · have := d i (by omega) q
            simp only [Int32.le_iff_toInt_le, Int32.lt_iff_toInt_lt] at this k ⊢; omega
        · rw [beL_4 e a k]
          refine Or.inr ⟨a, ⟨b, by omega, b1, b2⟩, fun i hi q => ?_⟩
          by_cases z : i = n
          · rw [z]; simp only [Int32.le_iff_toInt_le, Int32.lt_iff_toInt_lt] at k ⊢; omega
          · exact d i (by omega) q
theorem beG_sp {f : Nat → Int32} : ∀ {n : Nat}, (∀ b, b < n → ¬ f b = 487 → f b ≤ beG f n) ∧ (beG f n = -1 ∨ ∃ b, b < n ∧ ¬ f b = 487 ∧ beG f n = f b)
  | 0 => ⟨fun b hb => absurd hb (Nat.not_lt_zero b), Or.inl rfl⟩
  | n + 1 => by
    obtain ⟨i1, i2⟩ := beG_sp (f := f) (n := n)
    by_cases e : f n = 487
    · rw [beG_0 e]
      refine ⟨fun b hb q => ?_, ?_⟩
      · by_cases z : b = n
        · rw [z] at q; exact absurd e q
        · exact i1 b (by omega) q
      · rcases i2 with a | ⟨b, hb, h1, h2⟩
        · exact Or.inl a
        · exact Or.inr ⟨b, by omega, h1, h2⟩
    · rw [beG_1 e]
      by_cases k : beG f n < f n
      · rw [if_pos k]
        refine ⟨fun b hb q => ?_, Or.inr ⟨n, by omega, e, rfl⟩⟩
        by_cases z : b = n
        · rw [z]; exact Int32.le_refl _
        · have := i1 b (by omega) q
          simp only [Int32.le_iff_toInt_le, Int32.lt_iff_toInt_lt] at this k ⊢; omega
      · rw [if_neg k]
        refine ⟨fun b hb q => ?_, ?_⟩
        · by_cases z : b = n
          · rw [z]; simp only [Int32.le_iff_toInt_le, Int32.lt_iff_toInt_lt] at k ⊢; omega
          · exact i1 b (by omega) q
        · rcases i2 with a | ⟨b, hb, h1, h2⟩
          · exact Or.inl a
          · exact Or.inr ⟨b, by omega, h1, h2⟩
/-- an answer is the least end, and there is none for all -/
theorem be_ans {f : Nat → Int32} {n b : Nat} {x : Int32} (hb : b < n) (hx : f b = x) (h2 : 200 ≤ x) (h3 : ¬ 300 ≤ x) (hall : ∀ i, i < n → i ≠ b → 300 ≤ f i ∧ ¬ 600 ≤ f i) : beI f n = x := by
  have hx0 : ¬ f b = 487 := fun q => by rw [hx] at q; rw [q] at h3; exact absurd h3 (by decide)
  have hnn : ∀ i, i < n → 0 ≤ f i := fun i hi => by
    by_cases e : i = b
    · rw [e, hx]; simp only [Int32.le_iff_toInt_le, i200, i0] at h2 ⊢; omega
    · have := (hall i hi e).1; simp only [Int32.le_iff_toInt_le, i300, i0] at this ⊢; omega
  have hG : ¬ 600 ≤ beG f n := by
    intro q
    rcases (beG_sp (f := f) (n := n)).2 with a | ⟨i, hi, -, a⟩
    · rw [a] at q; exact absurd q (by decide)
    · rw [a] at q
      by_cases e : i = b
      · rw [e, hx] at q; simp only [Int32.le_iff_toInt_le, i300, i600] at q h3; omega
      · exact (hall i hi e).2 q
  have hL : beL f n = x := by
    rcases beL_sp hnn with ⟨-, a⟩ | ⟨-, ⟨i, hi, a1, a2⟩, a3⟩
    · exact absurd (a b hb) hx0
    · have u := a3 b hb hx0
      by_cases e : i = b
      · rw [← a2, e, hx]
      · have := (hall i hi e).1
        rw [a2] at this
        rw [hx] at u
        simp only [Int32.le_iff_toInt_le, i300] at this u h3
        omega
  unfold beI
  rw [if_neg hG, if_neg (by rw [hL]; intro q; rw [q] at h2; exact absurd h2 (by decide)), hL]
/-! the sorting -/
def SRT (r : Nat → Int32) (p : Nat) : Prop := ∀ i j, i ≤ j → j < p → r i ≤ r j
theorem insM_sp {x : Int32} : ∀ (p : Nat) (μ : Mem), SRT (μ 5 0) p → (∀ i, p < i → insM x p μ 5 0 i = μ 5 0 i) ∧ SRT (insM x p μ 5 0) (p + 1) ∧ ∀ y, (∃ i, i < p + 1 ∧ insM x p μ 5 0 i = y) ↔ (y = x ∨ ∃ i, i < p ∧ μ 5 0 i = y)
  | 0, μ, _ => by
    refine ⟨fun i hi => st_i (by omega), fun i j hij hj => ?_, fun y => ⟨?_, ?_⟩⟩
    · obtain rfl : j = 0 := by omega
      obtain rfl : i = 0 := by omega
      exact Int32.le_refl _
    · rintro ⟨i, hi, e⟩
      obtain rfl : i = 0 := by omega
      have e2 : insM x 0 μ 5 0 0 = x := st_same
      exact Or.inl (e.symm.trans e2)
    · rintro (e | ⟨i, hi, -⟩)
      · exact ⟨0, by omega, (st_same : insM x 0 μ 5 0 0 = x).trans e.symm⟩
      · omega
  | p + 1, μ, h => by
    by_cases k : μ 5 0 p ≤ x
    · have e : insM x (p + 1) μ = st μ 5 0 (p + 1) x := if_pos k
      rw [e]
      refine ⟨fun i hi => st_i (by omega), fun i j hij hj => ?_, fun y => ⟨?_, ?_⟩⟩
      · by_cases ej : j = p + 1
        · subst ej
          rw [st_same]
          by_cases ei : i = p + 1
          · subst ei; rw [st_same]; exact Int32.le_refl _
          · rw [st_i (by omega)]
            have := h i p (by omega) (by omega)
            simp only [Int32.le_iff_toInt_le] at this k ⊢; omega
        · rw [st_i ej, st_i (by omega)]
          exact h i j hij (by omega)
      · rintro ⟨i, hi, e2⟩
        by_cases ei : i = p + 1
        · subst ei; rw [st_same] at e2; exact Or.inl e2.symm
        · rw [st_i ei] at e2; exact Or.inr ⟨i, by omega, e2⟩
      · rintro (e2 | ⟨i, hi, e2⟩)
        · exact ⟨p + 1, by omega, by rw [st_same]; exact e2.symm⟩
        · exact ⟨i, by omega, by rw [st_i (by omega)]; exact e2⟩
    · have e : insM x (p + 1) μ = insM x p (st μ 5 0 (p + 1) (μ 5 0 p)) := if_neg k
      have h1 : SRT (st μ 5 0 (p + 1) (μ 5 0 p) 5 0) p := fun i j hij hj => by
        rw [st_i (by omega), st_i (by omega)]
        exact h i j hij (by omega)
      obtain ⟨g1, g2, g3⟩ := insM_sp p (st μ 5 0 (p + 1) (μ 5 0 p)) h1
      rw [e]
      have top : insM x p (st μ 5 0 (p + 1) (μ 5 0 p)) 5 0 (p + 1) = μ 5 0 p := by rw [g1 (p + 1) (by omega), st_same]
      have mem : ∀ i, i < p + 1 → insM x p (st μ 5 0 (p + 1) (μ 5 0 p)) 5 0 i = x ∨ ∃ i', i' < p ∧ μ 5 0 i' = insM x p (st μ 5 0 (p + 1) (μ 5 0 p)) 5 0 i := by
        intro i hi
        rcases (g3 (insM x p (st μ 5 0 (p + 1) (μ 5 0 p)) 5 0 i)).mp ⟨i, hi, rfl⟩ with q | ⟨i', hi', q⟩
        · exact Or.inl q
        · rw [st_i (by omega)] at q
          exact Or.inr ⟨i', hi', q⟩
      refine ⟨fun i hi => by rw [g1 i (by omega), st_i (by omega)], fun i j hij hj => ?_, fun y => ⟨?_, ?_⟩⟩
      · by_cases ej : j = p + 1
        · subst ej
          rw [top]
          by_cases ei : i = p + 1
          · subst ei; rw [top]; exact Int32.le_refl _
          · rcases mem i (by omega) with q | ⟨i', hi', q⟩
            · rw [q]; simp only [Int32.le_iff_toInt_le] at k ⊢; omega
            · rw [← q]; exact h i' p (by omega) (by omega)
        · exact g2 i j hij (by omega)
      · rintro ⟨i, hi, e2⟩
        by_cases ei : i = p + 1
        · subst ei; rw [top] at e2; exact Or.inr ⟨p, by omega, e2⟩
        · rcases mem i (by omega) with q | ⟨i', hi', q⟩
          · exact Or.inl (e2.symm.trans q)
          · exact Or.inr ⟨i', by omega, q.trans e2⟩
      · rintro (e2 | ⟨i, hi, e2⟩)
        · obtain ⟨i, hi, q⟩ := (g3 y).mpr (Or.inl e2)
          exact ⟨i, by omega, q⟩
        · by_cases ei : i = p
          · subst ei; exact ⟨i + 1, by omega, top.trans e2⟩
          · obtain ⟨i', hi', q⟩ := (g3 y).mpr (Or.inr ⟨i, by omega, by rw [st_i (by omega)]; exact e2⟩)
            exact ⟨i', by omega, q⟩
theorem soM_sp {f : Nat → Int32} {μ : Mem} : ∀ n, SRT (soM f n μ 5 0) (soN f n) ∧ ∀ y, (∃ i, i < soN f n ∧ soM f n μ 5 0 i = y) ↔ ∃ b, b < n ∧ ¬ f b = 487 ∧ f b = y
  | 0 => ⟨fun i j hij hj => absurd hj (Nat.not_lt_zero j), fun y => ⟨fun ⟨i, hi, _⟩ => absurd hi (Nat.not_lt_zero i), fun ⟨b, hb, _⟩ => absurd hb (Nat.not_lt_zero b)⟩⟩
  | n + 1 => by
    obtain ⟨h1, h2⟩ := soM_sp (f := f) (μ := μ) n
    by_cases e : f n = 487
    · have e1 : soM f (n + 1) μ = soM f n μ := if_pos e
      have e2 : soN f (n + 1) = soN f n := if_pos e
      rw [e1, e2]
      refine ⟨h1, fun y => (h2 y).trans ⟨?_, ?_⟩⟩
      · rintro ⟨b, hb, q1, q2⟩; exact ⟨b, by omega, q1, q2⟩
      · rintro ⟨b, hb, q1, q2⟩
        by_cases z : b = n
        · rw [z] at q1; exact absurd e q1
        · exact ⟨b, by omega, q1, q2⟩
    · have e1 : soM f (n + 1) μ = insM (f n) (soN f n) (soM f n μ) := if_neg e
      have e2 : soN f (n + 1) = soN f n + 1 := if_neg e
      rw [e1, e2]
      obtain ⟨-, g2, g3⟩ := insM_sp (x := f n) (soN f n) (soM f n μ) h1
      refine ⟨g2, fun y => (g3 y).trans ⟨?_, ?_⟩⟩
      · rintro (q | q)
        · exact ⟨n, by omega, e, q.symm⟩
        · obtain ⟨b, hb, q1, q2⟩ := (h2 y).mp q
          exact ⟨b, by omega, q1, q2⟩
      · rintro ⟨b, hb, q1, q2⟩
        by_cases z : b = n
        · rw [z] at q2; exact Or.inl q2.symm
        · exact Or.inr ((h2 y).mpr ⟨b, by omega, q1, q2⟩)
theorem fsI_eq {μ : Mem} {c n : Nat} (hn : n ≠ 0) (h9 : μ 11 c 9 = 0) (hall : ∀ b, b < n → 200 ≤ μ 14 c b) : fsI μ c n = beI (μ 14 c) n := by
  have hnn : ∀ b, b < n → 0 ≤ μ 14 c b := fun b hb => by have := hall b hb; simp only [Int32.le_iff_toInt_le, i200, i0] at this ⊢; omega
  obtain ⟨h1, h2⟩ := soM_sp (f := μ 14 c) (μ := μ) n
  unfold fsI beI
  rw [if_neg hn]
  obtain ⟨u1, u2⟩ := beG_sp (f := μ 14 c) (n := n)
  rcases beL_sp hnn with ⟨a1, a2⟩ | ⟨a1, ⟨b, hb, a2, a3⟩, a4⟩
  · have k0 : soN (μ 14 c) n = 0 := by
      rcases Nat.eq_zero_or_pos (soN (μ 14 c) n) with k | k
      · exact k
      · obtain ⟨b, hb, q, -⟩ := (h2 _).mp ⟨0, k, rfl⟩
        exact absurd (a2 b hb) q
    have hG : ¬ 600 ≤ beG (μ 14 c) n := by
      rcases u2 with q | ⟨b, hb, q, -⟩
      · rw [q]; decide
      · exact absurd (a2 b hb) q
    rw [if_pos (Or.inr k0), if_neg hG, if_pos a1]
  · have kp : 0 < soN (μ 14 c) n := by
      obtain ⟨i, hi, -⟩ := (h2 _).mpr ⟨b, hb, a2, rfl⟩
      omega
    rw [if_neg (by rintro (q | q); exact q h9; omega)]
    have low : soM (μ 14 c) n μ 5 0 0 = beL (μ 14 c) n := by
      obtain ⟨b1, hb1, q1, q2⟩ := (h2 _).mp ⟨0, kp, rfl⟩
      obtain ⟨i, hi, q3⟩ := (h2 _).mpr ⟨b, hb, a2, rfl⟩
      have v1 := a4 b1 hb1 q1
      have v2 := h1 0 i (by omega) hi
      rw [q3, a3] at v2
      rw [q2] at v1
      apply Int32.toInt_inj.mp
      simp only [Int32.le_iff_toInt_le] at v1 v2; omega
    have high : soM (μ 14 c) n μ 5 0 (soN (μ 14 c) n - 1) = beG (μ 14 c) n := by
      obtain ⟨b1, hb1, q1, q2⟩ := (h2 _).mp ⟨soN (μ 14 c) n - 1, by omega, rfl⟩
      have v1 := u1 b1 hb1 q1
      rw [q2] at v1
      rcases u2 with q | ⟨b2, hb2, q3, q4⟩
      · have := hall b1 hb1
        rw [q2] at this
        rw [q] at v1
        simp only [Int32.le_iff_toInt_le, i200, im1] at this v1; omega
      · obtain ⟨i, hi, q5⟩ := (h2 _).mpr ⟨b2, hb2, q3, rfl⟩
        have v2 := h1 i (soN (μ 14 c) n - 1) (by omega) (by omega)
        rw [q5, ← q4] at v2
        apply Int32.toInt_inj.mp
        simp only [Int32.le_iff_toInt_le] at v1 v2; omega
    rw [high, low, if_neg a1]
theorem be_pos {f : Nat → Int32} {n : Nat} (h : ∀ b, b < n → 200 ≤ f b) : 200 ≤ beI f n := by
  unfold beI
  split
  · rename_i q; simp only [Int32.le_iff_toInt_le, i200, i600] at q ⊢; omega
  · split
    · decide
    · rename_i q1 q2
      rcases beL_sp (f := f) (n := n) (fun b hb => by have := h b hb; simp only [Int32.le_iff_toInt_le, i200, i0] at this ⊢; omega) with ⟨a, -⟩ | ⟨-, ⟨b, hb, -, a⟩, -⟩
      · exact absurd a q2
      · rw [← a]; exact h b hb
theorem eoM_14 {μ : Mem} {c n b : Nat} (hb : b < n) : eoM μ c n 14 c b = if 200 ≤ μ 14 c b then μ 14 c b else 487 := up_in0 hb
theorem eoM_k {μ : Mem} {c n k o i : Nat} (h : k ≠ 14) : eoM μ c n k o i = μ k o i := up_k h
theorem rgM_14 {μ : Mem} {c n b : Nat} (hb : b < n) : rgM μ c n 14 c b = if μ 11 c 5 ≤ μ 13 c b ∧ ¬ 200 ≤ μ 14 c b then 408 else μ 14 c b := up_in0 hb
theorem rgM_k {μ : Mem} {c n k o i : Nat} (h : k ≠ 14) : rgM μ c n k o i = μ k o i := up_k h
theorem sgM_14 {μ : Mem} {c n b : Nat} {q now : Int32} (hb : b < n) : sgM μ c n q now 14 c b = if μ 13 c b = q ∧ ¬ 200 ≤ μ 14 c b then 100 else μ 14 c b := by
  unfold sgM sg1
  rw [up_in0 hb]
  simp [st]
theorem sgM_5 {μ : Mem} {c n : Nat} {q now : Int32} : sgM μ c n q now 11 c 5 = q := by simp [sgM, sg1, up, st]
theorem sgM_11 {μ : Mem} {c n i : Nat} {q now : Int32} (h5 : i ≠ 5) (h6 : i ≠ 6) : sgM μ c n q now 11 c i = μ 11 c i := by simp [sgM, sg1, up, st, h5, h6]
theorem sgM_k {μ : Mem} {c n k o i : Nat} {q now : Int32} (h : k ≠ 11) (h2 : k ≠ 14) : sgM μ c n q now k o i = μ k o i := by simp [sgM, sg1, up, st, h, h2]
end
section
/-! what holds of a call, from its beginning on -/
def dvP (x : Int32) : Prop := x = -1 ∨ ∃ d, d < 10 ∧ x = nI d
def CA (c n : Nat) (μ : Mem) : Prop := n ≤ 12 ∧ μ 11 c 4 = nI n ∧ (∀ b, b < n → dvP (μ 12 c b)) ∧ (∀ b b', b < n → b' < n → μ 12 c b = μ 12 c b' → ¬ μ 12 c b = -1 → b = b') ∧ (∀ b, b < n → ∃ q, q ≤ 10 ∧ μ 13 c b = nI q) ∧ ∃ s, s ≤ 11 ∧ μ 11 c 5 = nI s
def sOp (x : Int32) : Prop := x = 100 ∨ x = 180
def SB (μ : Mem) (c b : Nat) : Prop :=
  (μ 14 c b = 0 ∧ μ 13 c b < μ 11 c 5 ∧ ¬ μ 12 c b = -1 ∧ μ 15 c b = 0) ∨ (sOp (μ 14 c b) ∧ μ 11 c 5 ≤ μ 13 c b ∧ ¬ μ 12 c b = -1 ∧ μ 15 c b = 0) ∨ 200 ≤ μ 14 c b
def CS (c n : Nat) (μ : Mem) : Prop := ∀ b, b < n → SB μ c b
def EO (c n : Nat) (μ : Mem) : Prop := ∀ b, b < n → 200 ≤ μ 14 c b → 300 ≤ μ 14 c b ∧ ¬ 600 ≤ μ 14 c b
def CO (c n : Nat) (μ : Mem) : Prop := μ 11 c 8 = -1 ∧ μ 11 c 7 = -1 ∧ μ 11 c 9 = 0 ∧ EO c n μ
def CW (c n : Nat) (μ : Mem) : Prop := ∃ b, b < n ∧ sOp (μ 14 c b)
def CE (c n : Nat) (μ : Mem) : Prop := ¬ μ 11 c 8 = -1 ∧ (∀ b, b < n → 200 ≤ μ 14 c b) ∧
  ((n = 0 ∧ μ 11 c 8 = 480 ∧ μ 11 c 7 = -1 ∧ μ 11 c 9 = 0) ∨
   (n ≠ 0 ∧ ¬ μ 11 c 9 = 0 ∧ μ 11 c 8 = 487 ∧ μ 11 c 7 = -1 ∧ ∀ b, b < n → 300 ≤ μ 14 c b) ∨
   (n ≠ 0 ∧ μ 11 c 9 = 0 ∧ μ 11 c 8 = beI (μ 14 c) n ∧ μ 11 c 7 = -1 ∧ ∀ b, b < n → 300 ≤ μ 14 c b) ∨
   (n ≠ 0 ∧ μ 11 c 9 = 0 ∧ ∃ a, a < n ∧ μ 11 c 7 = nI a ∧ μ 14 c a = μ 11 c 8 ∧ ¬ 300 ≤ μ 14 c a ∧ ∀ b, b < n → b ≠ a → 300 ≤ μ 14 c b ∧ ¬ 600 ≤ μ 14 c b))
def CR (c n : Nat) (μ : Mem) : Prop := CA c n μ ∧ CS c n μ ∧ ((CO c n μ ∧ CW c n μ) ∨ CE c n μ)
theorem sOp_lt {x : Int32} (h : sOp x) : ¬ 200 ≤ x := by rcases h with rfl | rfl <;> decide
theorem CA.sub {c n : Nat} {μ μ' : Mem} (h : CA c n μ) (e4 : μ' 11 c 4 = μ 11 c 4) (e5 : μ' 11 c 5 = μ 11 c 5 ∨ ∃ s, s ≤ 11 ∧ μ' 11 c 5 = nI s) (h12 : ∀ b, μ' 12 c b = μ 12 c b) (h13 : ∀ b, μ' 13 c b = μ 13 c b) : CA c n μ' := by
  obtain ⟨a1, a2, a3, a4, a5, a6⟩ := h
  refine ⟨a1, e4.trans a2, fun b hb => by rw [h12]; exact a3 b hb, fun b b' hb hb' q1 q2 => ?_, fun b hb => by rw [h13]; exact a5 b hb, ?_⟩
  · rw [h12] at q1 q2; rw [h12] at q1
    exact a4 b b' hb hb' q1 q2
  · rcases e5 with e5 | e5
    · rw [e5]; exact a6
    · exact e5
theorem wait_no {μ : Mem} {c n b : Nat} (hw : ¬ anB (wtP μ c) n = true) (hb : b < n) (hs : μ 11 c 5 ≤ μ 13 c b) : 200 ≤ μ 14 c b := by
  by_cases h : 200 ≤ μ 14 c b
  · exact h
  · exfalso
    apply hw
    refine anB_of (i := b) ?_ hb
    unfold wtP
    rw [decide_eq_true hs, decide_eq_false h]
    rfl
/-- a call that starts groups until there is one to wait for -/
def GI (c n j : Nat) (μ : Mem) : Prop := CA c n μ ∧ CS c n μ ∧ CO c n μ ∧ μ 11 c 5 = nI j
theorem GI.start {c n j : Nat} {now : Int32} {μ : Mem} (hj : j ≤ 10) (h : GI c n (j + 1) μ) (hw : ¬ anB (wtP μ c) n = true) : GI c n j (sgM μ c n (nI j) now) := by
  obtain ⟨hA, hS, ⟨o1, o2, o3, o4⟩, h5⟩ := h
  refine ⟨hA.sub sgM_n (Or.inr ⟨j, by omega, sgM_5⟩) (fun b => sgM_k (by decide) (by decide)) (fun b => sgM_k (by decide) (by decide)), fun b hb => ?_, ⟨(sgM_11 (by decide) (by decide)).trans o1, (sgM_11 (by decide) (by decide)).trans o2, (sgM_11 (by decide) (by decide)).trans o3, fun b hb q => ?_⟩, sgM_5⟩
  · unfold SB
    rw [sgM_14 hb, sgM_5, sgM_k (k := 13) (by decide) (by decide), sgM_k (k := 12) (by decide) (by decide), sgM_k (k := 15) (by decide) (by decide)]
    rcases hS b hb with ⟨a1, a2, a3, a4⟩ | ⟨a1, a2, a3, a4⟩ | a1
    · obtain ⟨Q, hQ, e⟩ := hA.2.2.2.2.1 b hb
      rw [h5, e] at a2
      have hlt : Q < j + 1 := (nI_ltI (by omega) (by omega)).mp a2
      by_cases ej : μ 13 c b = nI j
      · rw [if_pos ⟨ej, by rw [a1]; decide⟩, ej]
        exact Or.inr (Or.inl ⟨Or.inl rfl, Int32.le_refl _, a3, a4⟩)
      · rw [if_neg (fun q => ej q.1), e]
        refine Or.inl ⟨a1, (nI_ltI (by omega) (by omega)).mpr ?_, a3, a4⟩
        have : ¬ Q = j := fun q => ej (by rw [e, q])
        omega
    · exact absurd (wait_no hw hb a2) (sOp_lt a1)
    · rw [if_neg (fun q => q.2 a1)]
      exact Or.inr (Or.inr a1)
  · rw [sgM_14 hb] at q ⊢
    split at q
    · exact absurd q (by decide)
    · rename_i z
      rw [if_neg z]
      exact o4 b hb q
theorem GI.go {c n : Nat} {now : Int32} : ∀ (j : Nat) (μ : Mem), j ≤ 11 → GI c n j μ → ∃ j', GI c n j' (goM c n now j μ) ∧ (anB (wtP (goM c n now j μ) c) n = true ∨ (j' = 0 ∧ ¬ anB (wtP (goM c n now j μ) c) n = true))
  | 0, μ, _, h => by
    refine ⟨0, h, ?_⟩
    by_cases hw : anB (wtP μ c) n = true
    · exact Or.inl hw
    · exact Or.inr ⟨rfl, hw⟩
  | j + 1, μ, hj, h => by
    by_cases hw : anB (wtP μ c) n = true
    · rw [goM_w hw]
      exact ⟨j + 1, h, Or.inl hw⟩
    · rw [goM_n hw]
      exact GI.go j _ (by omega) (h.start (by omega) hw)
theorem CO.wait {c n : Nat} {μ : Mem} (hS : CS c n μ) (hw : anB (wtP μ c) n = true) : CW c n μ := by
  obtain ⟨b, hb, q⟩ := anB_ex hw
  refine ⟨b, hb, ?_⟩
  unfold wtP at q
  rcases (Bool.and_eq_true _ _).mp q with ⟨q1, q2⟩
  have q1' := of_decide_eq_true q1
  have q2' : ¬ 200 ≤ μ 14 c b := fun z => by rw [decide_eq_true z] at q2; cases q2
  rcases hS b hb with ⟨-, a2, -, -⟩ | ⟨a1, -, -, -⟩ | a1
  · exfalso; simp only [Int32.le_iff_toInt_le, Int32.lt_iff_toInt_lt] at a2 q1'; omega
  · exact a1
  · exact absurd a1 q2'
theorem goOn_CR {c n s : Nat} {now : Int32} {μ : Mem} (hn0 : n ≠ 0) (hs : s ≤ 11) (h : GI c n s μ) : CR c n (goOnM μ c n s now) := by
  obtain ⟨j', ⟨hA, hS, hO, h5⟩, hx⟩ := GI.go (now := now) s μ hs h
  unfold goOnM gfM
  rcases hx with hw | ⟨rfl, hw⟩
  · rw [if_pos hw]
    exact ⟨hA, hS, Or.inl ⟨hO, CO.wait hS hw⟩⟩
  · rw [if_neg hw]
    have hall : ∀ b, b < n → 200 ≤ goM c n now s μ 14 c b := fun b hb => by
      refine wait_no hw hb ?_
      obtain ⟨Q, hQ, e⟩ := hA.2.2.2.2.1 b hb
      rw [h5, e]
      exact (nI_leI (by decide) (by omega)).mpr (Nat.zero_le _)
    obtain ⟨o1, o2, o3, o4⟩ := hO
    refine ⟨hA.sub (st_i (by decide)) (Or.inl (st_i (by decide))) (fun b => st_k (by decide)) (fun b => st_k (by decide)), fun b hb => Or.inr (Or.inr ?_), Or.inr ⟨?_, fun b hb => ?_, Or.inr (Or.inr (Or.inl ⟨hn0, ?_, ?_, ?_, fun b hb => ?_⟩))⟩⟩
    · rw [st_k (by decide)]; exact hall b hb
    · rw [st_same]
      intro q
      have := be_pos hall
      rw [q] at this
      exact absurd this (by decide)
    · rw [st_k (by decide)]; exact hall b hb
    · rw [st_i (by decide)]; exact o3
    · rw [st_same]
      exact beI_cong fun b _ => (st_k (by decide)).symm
    · rw [st_i (by decide)]; exact o2
    · rw [st_k (by decide)]; exact (o4 b hb (hall b hb)).1
/-- one branch put anew -/
theorem CS.set {c n b : Nat} {x : Int32} {μ : Mem} (hS : CS c n μ) (hx : 200 ≤ x ∨ (x = 180 ∧ μ 11 c 5 ≤ μ 13 c b ∧ ¬ μ 12 c b = -1 ∧ μ 15 c b = 0)) : CS c n (st μ 14 c b x) := by
  intro i hi
  unfold SB
  rw [st_k (k' := 11) (by decide), st_k (k' := 12) (by decide), st_k (k' := 13) (by decide), st_k (k' := 15) (by decide)]
  by_cases e : i = b
  · subst e
    rw [st_same]
    rcases hx with hx | ⟨rfl, hx⟩
    · exact Or.inr (Or.inr hx)
    · exact Or.inr (Or.inl ⟨Or.inr rfl, hx⟩)
  · rw [st_i e]
    exact hS i hi
theorem CA.s14 {c n b : Nat} {x : Int32} {μ : Mem} (hA : CA c n μ) : CA c n (st μ 14 c b x) := hA.sub (st_k (by decide)) (Or.inl (st_k (by decide))) (fun b => st_k (by decide)) (fun b => st_k (by decide))
theorem EO.set {c n b : Nat} {x : Int32} {μ : Mem} (h : EO c n μ) (hx : ¬ 200 ≤ x ∨ (300 ≤ x ∧ ¬ 600 ≤ x)) : EO c n (st μ 14 c b x) := by
  intro i hi q
  by_cases e : i = b
  · subst e
    rw [st_same] at q ⊢
    rcases hx with hx | hx
    · exact absurd q hx
    · exact hx
  · rw [st_i e] at q ⊢
    exact h i hi q
theorem CA.eo {c n : Nat} {μ : Mem} (hA : CA c n μ) : CA c n (eoM μ c n) := hA.sub (eoM_k (by decide)) (Or.inl (eoM_k (by decide))) (fun b => eoM_k (by decide)) (fun b => eoM_k (by decide))
theorem eo_end {c n b : Nat} {μ : Mem} (hb : b < n) : 200 ≤ eoM μ c n 14 c b := by
  rw [eoM_14 hb]
  split
  · assumption
  · decide
theorem CA.s11 {c n i : Nat} {x : Int32} {μ : Mem} (h4 : i ≠ 4) (h5 : i ≠ 5) (hA : CA c n μ) : CA c n (st μ 11 c i x) := hA.sub (st_i (Ne.symm h4)) (Or.inl (st_i (Ne.symm h5))) (fun b => st_k (by decide)) (fun b => st_k (by decide))
theorem go_14 {c n b : Nat} {now : Int32} (hb : b < n) : ∀ (j : Nat) (μ : Mem), 200 ≤ μ 14 c b → goM c n now j μ 14 c b = μ 14 c b
  | 0, _, _ => rfl
  | j + 1, μ, h => by
    show (if anB (wtP μ c) n = true then μ else goM c n now j (sgM μ c n (nI j) now)) 14 c b = _
    split
    · rfl
    · have e : sgM μ c n (nI j) now 14 c b = μ 14 c b := by rw [sgM_14 hb, if_neg (fun q => q.2 h)]
      rw [go_14 hb j _ (by rw [e]; exact h), e]
theorem go_11 {c n i : Nat} {now : Int32} (h5 : i ≠ 5) (h6 : i ≠ 6) : ∀ (j : Nat) (μ : Mem), goM c n now j μ 11 c i = μ 11 c i
  | 0, _ => rfl
  | j + 1, μ => by
    show (if anB (wtP μ c) n = true then μ else goM c n now j (sgM μ c n (nI j) now)) 11 c i = _
    split
    · rfl
    · rw [go_11 h5 h6 j, sgM_11 h5 h6]
theorem go_keep {c n s b : Nat} {now : Int32} {μ : Mem} (_ : s ≤ 11) (h : GI c n s μ) (hb : b < n) (h2 : 200 ≤ μ 14 c b) : goOnM μ c n s now 14 c b = μ 14 c b ∧ goOnM μ c n s now 11 c 7 = -1 := by
  unfold goOnM gfM
  split
  · exact ⟨go_14 hb s μ h2, (go_11 (by decide) (by decide) s μ).trans h.2.2.1.2.1⟩
  · rw [st_k (by decide), st_i (by decide)]
    exact ⟨go_14 hb s μ h2, (go_11 (by decide) (by decide) s μ).trans h.2.2.1.2.1⟩
/-- an answer to a branch that is open -/
theorem CR_ans {c n b s : Nat} {x now : Int32} {μ : Mem} (h : CR c n μ) (hb : b < n) (ho : sOp (μ 14 c b)) (hs11 : s ≤ 11) (es : μ 11 c 5 = nI s) (hx : x = 180 ∨ 200 ≤ x) : CR c n (taM μ c n s b x now) ∧ taM μ c n s b x now 14 c b = x ∧ (x = 180 → taM μ c n s b x now 11 c 8 = -1) ∧ (¬ x = 180 → ¬ 300 ≤ x → taM μ c n s b x now 11 c 8 = x ∧ taM μ c n s b x now 11 c 7 = nI b ∧ ∀ i, i < n → 200 ≤ taM μ c n s b x now 14 c i) ∧ (x = 180 ∨ 300 ≤ x → taM μ c n s b x now 11 c 7 = -1) ∧ (600 ≤ x → taM μ c n s b x now 11 c 8 = x ∧ ∀ i, i < n → 200 ≤ taM μ c n s b x now 14 c i) := by
  obtain ⟨hA, hS, hx2⟩ := h
  have hne := sOp_lt ho
  have hO : CO c n μ := by
    rcases hx2 with q | q
    · exact q.1
    · exact absurd (q.2.1 b hb) hne
  obtain ⟨o1, o2, o3, o4⟩ := hO
  have hbb : μ 11 c 5 ≤ μ 13 c b ∧ ¬ μ 12 c b = -1 ∧ μ 15 c b = 0 := by
    rcases hS b hb with ⟨a1, -, -, -⟩ | ⟨-, a2, a3, a4⟩ | a1
    · rw [a1] at ho
      rcases ho with q | q <;> exact absurd q (by decide)
    · exact ⟨a2, a3, a4⟩
    · exact absurd a1 hne
  have hn0 : n ≠ 0 := by omega
  unfold taM
  by_cases e1 : x = 180
  · subst e1
    rw [if_pos rfl]
    refine ⟨⟨hA.s14, hS.set (Or.inr ⟨rfl, hbb⟩), Or.inl ⟨⟨?_, ?_, ?_, o4.set (Or.inl (by decide))⟩, b, hb, ?_⟩⟩, st_same, fun _ => ?_, fun q => absurd rfl q, fun _ => ?_, fun q => absurd q (by decide)⟩
    · rw [st_k (by decide)]; exact o1
    · rw [st_k (by decide)]; exact o2
    · rw [st_k (by decide)]; exact o3
    · rw [st_same]; exact Or.inr rfl
    · rw [st_k (by decide)]; exact o1
    · rw [st_k (by decide)]; exact o2
  · rw [if_neg e1]
    have h2 : 200 ≤ x := hx.resolve_left e1
    by_cases e3 : 300 ≤ x
    · rw [if_pos e3]
      by_cases e6 : x < 600
      · rw [if_pos e6]
        have e6' : ¬ 600 ≤ x := Int32.not_le.mpr e6
        have hG : GI c n s (st μ 14 c b x) := ⟨hA.s14, hS.set (Or.inl h2), ⟨(st_k (by decide)).trans o1, (st_k (by decide)).trans o2, (st_k (by decide)).trans o3, o4.set (Or.inr ⟨e3, e6'⟩)⟩, (st_k (by decide)).trans es⟩
        have hR := goOn_CR (now := now) hn0 hs11 hG
        obtain ⟨g1, g2⟩ := go_keep (now := now) (b := b) hs11 hG hb (by rw [st_same]; exact h2)
        exact ⟨hR, g1.trans st_same, fun q => absurd q e1, fun _ q => absurd e3 q, fun _ => g2, fun q => absurd q e6'⟩
      · rw [if_neg e6]
        have e6' : 600 ≤ x := Int32.not_lt.mp e6
        have eb : eoM (st μ 14 c b x) c n 14 c b = x := by rw [eoM_14 hb, st_same, if_pos h2]
        have hoth : ∀ i, i < n → i ≠ b → 300 ≤ eoM (st μ 14 c b x) c n 14 c i ∧ ¬ 600 ≤ eoM (st μ 14 c b x) c n 14 c i := fun i hi hib => by
          rw [eoM_14 hi, st_i hib]
          split
          · rename_i q; exact o4 i hi q
          · decide
        have hbe : beI (eoM (st μ 14 c b x) c n 14 c) n = x := by
          have hG : beG (eoM (st μ 14 c b x) c n 14 c) n = x := by
            obtain ⟨u1, u2⟩ := beG_sp (f := eoM (st μ 14 c b x) c n 14 c) (n := n)
            have x4 : ¬ x = 487 := fun q => by rw [q] at e6'; exact absurd e6' (by decide)
            have v := u1 b hb (by rw [eb]; exact x4)
            rw [eb] at v
            rcases u2 with q | ⟨i, hi, -, q⟩
            · rw [q] at v; exfalso; simp only [Int32.le_iff_toInt_le, i200, im1] at v h2; omega
            · by_cases ei : i = b
              · rw [q, ei, eb]
              · have := (hoth i hi ei).2
                rw [← q] at this
                exfalso; simp only [Int32.le_iff_toInt_le, i600] at v e6' this; omega
          unfold beI
          rw [hG, if_pos e6']
        have x1 : ¬ x = -1 := fun q => by rw [q] at h2; exact absurd h2 (by decide)
        refine ⟨⟨hA.s14.eo.s11 (by decide) (by decide), fun i hi => Or.inr (Or.inr ?_), Or.inr ⟨?_, fun i hi => ?_, Or.inr (Or.inr (Or.inl ⟨hn0, ?_, ?_, ?_, fun i hi => ?_⟩))⟩⟩, ?_, fun q => absurd q e1, fun _ q => absurd e3 q, fun _ => ?_, fun _ => ⟨?_, fun i hi => ?_⟩⟩
        · rw [st_k (by decide)]; exact eo_end hi
        · rw [st_same, hbe]; exact x1
        · rw [st_k (by decide)]; exact eo_end hi
        · rw [st_i (by decide), eoM_k (by decide), st_k (by decide)]; exact o3
        · rw [st_same]; exact beI_cong fun i _ => (st_k (by decide)).symm
        · rw [st_i (by decide), eoM_k (by decide), st_k (by decide)]; exact o2
        · rw [st_k (by decide)]
          by_cases ei : i = b
          · rw [ei, eb]; exact e3
          · exact (hoth i hi ei).1
        · rw [st_k (by decide)]; exact eb
        · rw [st_i (by decide), eoM_k (by decide), st_k (by decide)]; exact o2
        · rw [st_same, hbe]
        · rw [st_k (by decide)]; exact eo_end hi
    · rw [if_neg e3]
      have x1 : ¬ x = -1 := fun q => by rw [q] at h2; exact absurd h2 (by decide)
      have eb : eoM (st (st μ 14 c b x) 11 c 7 (nI b)) c n 14 c b = x := by rw [eoM_14 hb, st_k (by decide), st_same, if_pos h2]
      have hoth : ∀ i, i < n → i ≠ b → 300 ≤ eoM (st (st μ 14 c b x) 11 c 7 (nI b)) c n 14 c i ∧ ¬ 600 ≤ eoM (st (st μ 14 c b x) 11 c 7 (nI b)) c n 14 c i := fun i hi hib => by
        rw [eoM_14 hi, st_k (by decide), st_i hib]
        split
        · rename_i q; exact o4 i hi q
        · decide
      refine ⟨⟨(hA.s14.s11 (by decide) (by decide)).eo.s11 (by decide) (by decide), fun i hi => Or.inr (Or.inr ?_), Or.inr ⟨?_, fun i hi => ?_, Or.inr (Or.inr (Or.inr ⟨hn0, ?_, b, hb, ?_, ?_, ?_, fun i hi hib => ?_⟩))⟩⟩, ?_, fun q => absurd q e1, fun _ _ => ⟨st_same, ?_, fun i hi => ?_⟩, fun q => absurd (q.resolve_left e1) e3, fun q => ?_⟩
      · rw [st_k (by decide)]; exact eo_end hi
      · rw [st_same]; exact x1
      · rw [st_k (by decide)]; exact eo_end hi
      · rw [st_i (by decide), eoM_k (by decide), st_i (by decide), st_k (by decide)]; exact o3
      · rw [st_i (by decide), eoM_k (by decide), st_same]
      · rw [st_k (by decide), st_same]; exact eb
      · rw [st_k (by decide), eb]; exact e3
      · rw [st_k (by decide)]; exact hoth i hi hib
      · rw [st_k (by decide)]; exact eb
      · rw [st_i (by decide), eoM_k (by decide), st_same]
      · rw [st_k (by decide)]; exact eo_end hi
      · exfalso; simp only [Int32.le_iff_toInt_le, i300, i600] at q e3; omega
end
section
/-! a call that is cancelled, hung up, looked at, begun -/
theorem CR.n {c n : Nat} {μ : Mem} (h : CR c n μ) : n ≤ 12 ∧ μ 11 c 4 = nI n := ⟨h.1.1, h.1.2.1⟩
theorem CR_cancel {c n : Nat} {μ : Mem} (h : CR c n μ) (hf : μ 11 c 8 = -1) : CR c n (caM μ c n) ∧ caM μ c n 11 c 8 = 487 ∧ caM μ c n 11 c 7 = -1 ∧ ¬ caM μ c n 11 c 9 = 0 ∧ ∀ b, b < n → caM μ c n 14 c b = if 200 ≤ μ 14 c b then μ 14 c b else 487 := by
  obtain ⟨hA, hS, hx⟩ := h
  have hOW : CO c n μ ∧ CW c n μ := by
    rcases hx with q | q
    · exact q
    · exact absurd hf q.1
  obtain ⟨⟨o1, o2, o3, o4⟩, b0, hb0, -⟩ := hOW
  have e7 : caM μ c n 11 c 7 = -1 := by
    unfold caM
    rw [st_i (by decide), st_i (by decide), eoM_k (by decide)]
    exact o2
  have e8 : caM μ c n 11 c 8 = 487 := st_same
  have e9 : ¬ caM μ c n 11 c 9 = 0 := by
    unfold caM
    rw [st_i (by decide), st_same]
    decide
  have e14 : ∀ b, b < n → caM μ c n 14 c b = if 200 ≤ μ 14 c b then μ 14 c b else 487 := fun b hb => by
    unfold caM
    rw [st_k (by decide), st_k (by decide), eoM_14 hb]
  have hend : ∀ b, b < n → 200 ≤ caM μ c n 14 c b := fun b hb => by
    rw [e14 b hb]
    split
    · assumption
    · decide
  refine ⟨⟨(hA.eo.s11 (i := 9) (x := 1) (by decide) (by decide)).s11 (by decide) (by decide), fun b hb => Or.inr (Or.inr (hend b hb)), Or.inr ⟨by rw [e8]; decide, hend, Or.inr (Or.inl ⟨by omega, e9, e8, e7, fun b hb => ?_⟩)⟩⟩, e8, e7, e9, e14⟩
  rw [e14 b hb]
  split
  · rename_i q; exact (o4 b hb q).1
  · decide
theorem CR_hung {c n b : Nat} {μ : Mem} (h : CR c n μ) (hb2 : 200 ≤ μ 14 c b) : CR c n (st μ 15 c b 1) := by
  obtain ⟨hA, hS, hx⟩ := h
  refine ⟨hA.sub (st_k (by decide)) (Or.inl (st_k (by decide))) (fun b => st_k (by decide)) (fun b => st_k (by decide)), fun i hi => ?_, ?_⟩
  · unfold SB
    rw [st_k (k' := 14) (by decide), st_k (k' := 13) (by decide), st_k (k' := 12) (by decide), st_k (k' := 11) (by decide)]
    by_cases e : i = b
    · subst e; exact Or.inr (Or.inr hb2)
    · rw [st_i e]; exact hS i hi
  · have e14 : st μ 15 c b 1 14 c = μ 14 c := by funext i; exact st_k (by decide)
    have e11 : ∀ i, st μ 15 c b 1 11 c i = μ 11 c i := fun i => st_k (by decide)
    unfold CO CW CE EO
    simp only [e14, e11]
    exact hx
theorem CR.cong {c n : Nat} {μ μ' : Mem} (hA : ∀ k i, 11 ≤ k → k < 16 → μ' k c i = μ k c i) (h : CR c n μ) : CR c n μ' := by
  have e11 : ∀ i, μ' 11 c i = μ 11 c i := fun i => hA 11 i (by decide) (by decide)
  have e12 : ∀ i, μ' 12 c i = μ 12 c i := fun i => hA 12 i (by decide) (by decide)
  have e13 : ∀ i, μ' 13 c i = μ 13 c i := fun i => hA 13 i (by decide) (by decide)
  have e14 : μ' 14 c = μ 14 c := funext fun i => hA 14 i (by decide) (by decide)
  have e15 : ∀ i, μ' 15 c i = μ 15 c i := fun i => hA 15 i (by decide) (by decide)
  unfold CR CA CS SB CO CW CE EO at h ⊢
  simp only [e11, e12, e13, e14, e15]
  exact h
/-- a call looked at with a tick -/
theorem CR_tick {c n : Nat} {now : Int32} {μ : Mem} (h : CR c n μ) : CR c n (etM μ c n (tN (μ 11 c 5)) now) ∧ (etI μ c n (tN (μ 11 c 5)) now = 0 ↔ (μ 11 c 8 = -1 → etM μ c n (tN (μ 11 c 5)) now 11 c 8 = -1)) ∧ (¬ μ 11 c 8 = -1 → ¬ etM μ c n (tN (μ 11 c 5)) now 11 c 8 = -1) := by
  have h0 := h
  obtain ⟨hA, hS, hx⟩ := h
  unfold etM etI
  by_cases e8 : μ 11 c 8 = -1
  · have hOW : CO c n μ ∧ CW c n μ := by
      rcases hx with q | q
      · exact q
      · exact absurd e8 q.1
    obtain ⟨⟨o1, o2, o3, o4⟩, b0, hb0, hs0⟩ := hOW
    rw [if_pos e8, if_pos e8]
    by_cases e10 : 10 ≤ now - μ 11 c 6
    · rw [if_pos e10, if_pos e10]
      obtain ⟨s, hs, es⟩ := hA.2.2.2.2.2
      have hts : tN (μ 11 c 5) = s := by rw [es, tN_nI (by omega)]
      rw [hts]
      have hG : GI c n s (rgM μ c n) := by
        refine ⟨hA.sub (rgM_k (by decide)) (Or.inl (rgM_k (by decide))) (fun b => rgM_k (by decide)) (fun b => rgM_k (by decide)), fun b hb => ?_, ⟨(rgM_k (by decide)).trans o1, (rgM_k (by decide)).trans o2, (rgM_k (by decide)).trans o3, fun b hb q => ?_⟩, (rgM_k (by decide)).trans es⟩
        · unfold SB
          rw [rgM_14 hb, rgM_k (k := 13) (by decide), rgM_k (k := 12) (by decide), rgM_k (k := 11) (by decide), rgM_k (k := 15) (by decide)]
          rcases hS b hb with ⟨a1, a2, a3, a4⟩ | ⟨a1, a2, a3, a4⟩ | a1
          · rw [if_neg (fun q => by have := q.1; simp only [Int32.le_iff_toInt_le, Int32.lt_iff_toInt_lt] at a2 this; omega)]
            exact Or.inl ⟨a1, a2, a3, a4⟩
          · rw [if_pos ⟨a2, sOp_lt a1⟩]
            exact Or.inr (Or.inr (by decide))
          · rw [if_neg (fun q => q.2 a1)]
            exact Or.inr (Or.inr a1)
        · rw [rgM_14 hb] at q ⊢
          split
          · decide
          · rename_i z
            rw [if_neg z] at q
            exact o4 b hb q
      refine ⟨goOn_CR (by omega) hs hG, ⟨fun q _ => ?_, fun q => ?_⟩, fun q => absurd e8 q⟩
      · exact Classical.byContradiction fun z => bp_0.mp q z
      · exact bp_0.mpr fun z => z (q e8)
    · rw [if_neg e10, if_neg e10]
      exact ⟨h0, ⟨fun _ q => q, fun _ => rfl⟩, fun q => absurd e8 q⟩
  · rw [if_neg e8, if_neg e8]
    exact ⟨h0, ⟨fun _ q => absurd q e8, fun _ => rfl⟩, fun q => q⟩
/-- a call whose branches have been found, and none is started -/
def PC (c n : Nat) (μ : Mem) : Prop := n ≤ 12 ∧ μ 11 c 4 = nI n ∧ (∀ b, b < n → dvP (μ 12 c b)) ∧ (∀ b b', b < n → b' < n → μ 12 c b = μ 12 c b' → ¬ μ 12 c b = -1 → b = b') ∧ (∀ b, b < n → ∃ q, q ≤ 10 ∧ μ 13 c b = nI q) ∧ ∀ b, b < n → (μ 14 c b = 0 ∧ ¬ μ 12 c b = -1) ∨ ((μ 14 c b = 482 ∨ μ 14 c b = 483) ∧ μ 12 c b = -1)
def RNew (c : Nat) (μ : Mem) : Prop := μ 11 c 4 = 0 ∧ μ 11 c 5 = 11 ∧ μ 11 c 7 = -1 ∧ μ 11 c 8 = -1 ∧ μ 11 c 9 = 0 ∧ ∀ b, b < 12 → μ 15 c b = 0
theorem go_st {c n b : Nat} {now : Int32} (hb : b < n) : ∀ (j : Nat) (μ : Mem), goM c n now j μ 14 c b = μ 14 c b ∨ goM c n now j μ 14 c b = 100
  | 0, _ => Or.inl rfl
  | j + 1, μ => by
    show (if anB (wtP μ c) n = true then μ else goM c n now j (sgM μ c n (nI j) now)) 14 c b = _ ∨ (if anB (wtP μ c) n = true then μ else goM c n now j (sgM μ c n (nI j) now)) 14 c b = _
    split
    · exact Or.inl rfl
    · rcases go_st hb j (sgM μ c n (nI j) now) with q | q
      · rw [sgM_14 hb] at q
        split at q
        · exact Or.inr q
        · exact Or.inl q
      · exact Or.inr q
theorem go_k {c n k o i : Nat} {now : Int32} (h : k ≠ 11) (h2 : k ≠ 14) : ∀ (j : Nat) (μ : Mem), goM c n now j μ k o i = μ k o i
  | 0, _ => rfl
  | j + 1, μ => by
    show (if anB (wtP μ c) n = true then μ else goM c n now j (sgM μ c n (nI j) now)) k o i = _
    split
    · rfl
    · rw [go_k h h2 j, sgM_k h h2]
theorem goOn_k {c n s k o i : Nat} {now : Int32} {μ : Mem} (h : k ≠ 11) (h2 : k ≠ 14) : goOnM μ c n s now k o i = μ k o i := by
  unfold goOnM gfM
  split
  · exact go_k h h2 s μ
  · rw [st_k h]; exact go_k h h2 s μ
theorem CR_begin {c n : Nat} {now : Int32} {μ : Mem} (h : PC c n μ) (a5 : μ 11 c 5 = 11) (a7 : μ 11 c 7 = -1) (a8 : μ 11 c 8 = -1) (a9 : μ 11 c 9 = 0) (a15 : ∀ b, b < 12 → μ 15 c b = 0) : CR c n (bgM μ c n 11 now) ∧ bgM μ c n 11 now 11 c 7 = -1 ∧ (n = 0 → bgM μ c n 11 now 11 c 8 = 480) ∧ bgM μ c n 11 now 11 c 9 = 0 ∧ (∀ b, bgM μ c n 11 now 12 c b = μ 12 c b) ∧ ∀ b, b < n → bgM μ c n 11 now 14 c b = μ 14 c b ∨ bgM μ c n 11 now 14 c b = 100 := by
  obtain ⟨p1, p2, p3, p4, p5, p6⟩ := h
  have hA : CA c n μ := ⟨p1, p2, p3, p4, p5, 11, by decide, a5⟩
  have hS : CS c n μ := fun b hb => by
    unfold SB
    rcases p6 b hb with ⟨q1, q2⟩ | ⟨q1, -⟩
    · refine Or.inl ⟨q1, ?_, q2, a15 b (by omega)⟩
      obtain ⟨Q, hQ, e⟩ := p5 b hb
      rw [e, a5]
      exact (nI_ltI (b := 11) (by omega) (by decide)).mpr (by omega)
    · refine Or.inr (Or.inr ?_)
      rcases q1 with q1 | q1 <;> (rw [q1]; decide)
  unfold bgM
  by_cases e : n = 0
  · subst e
    rw [if_pos rfl]
    refine ⟨⟨hA.s11 (by decide) (by decide), fun b hb => absurd hb (Nat.not_lt_zero b), Or.inr ⟨by rw [st_same]; decide, fun b hb => absurd hb (Nat.not_lt_zero b), Or.inl ⟨rfl, st_same, ?_, ?_⟩⟩⟩, ?_, fun _ => st_same, ?_, fun b => st_k (by decide), fun b hb => absurd hb (Nat.not_lt_zero b)⟩
    · rw [st_i (by decide)]; exact a7
    · rw [st_i (by decide)]; exact a9
    · rw [st_i (by decide)]; exact a7
    · rw [st_i (by decide)]; exact a9
  · rw [if_neg e]
    have hG : GI c n 11 μ := ⟨hA, hS, ⟨a8, a7, a9, fun b hb q => by
      rcases p6 b hb with ⟨q1, -⟩ | ⟨q1 | q1, -⟩
      · rw [q1] at q; exact absurd q (by decide)
      · rw [q1]; decide
      · rw [q1]; decide⟩, a5⟩
    refine ⟨goOn_CR e (by decide) hG, ?_, fun q => absurd q e, ?_, fun b => goOn_k (by decide) (by decide), fun b hb => ?_⟩
    · unfold goOnM gfM
      split
      · exact (go_11 (by decide) (by decide) 11 μ).trans a7
      · rw [st_i (by decide)]; exact (go_11 (by decide) (by decide) 11 μ).trans a7
    · unfold goOnM gfM
      split
      · exact (go_11 (by decide) (by decide) 11 μ).trans a9
      · rw [st_i (by decide)]; exact (go_11 (by decide) (by decide) 11 μ).trans a9
    · unfold goOnM gfM
      split
      · exact go_st hb 11 μ
      · rw [st_k (by decide)]; exact go_st hb 11 μ
end
section
/-! counting -/
theorem ctB_left {p : Nat → Bool} {t : Nat} : ∀ {n : Nat}, t < n → n < 2 ^ 31 → ctB (fun j => !decide (nI j = nI t) && p j) n + (if p t then 1 else 0) = ctB p n
  | 0, h, _ => absurd h (Nat.not_lt_zero t)
  | n + 1, h, hn => by
    by_cases e : t = n
    · subst e
      have h1 : ctB (fun j => !decide (nI j = nI t) && p j) t = ctB p t := ctB_cong fun j hj => by
        show (!decide (nI j = nI t) && p j) = p j
        rw [decide_eq_false (fun q => by have := (nI_eq (by omega) (by omega)).mp q; omega)]; rfl
      show ctB (fun j => !decide (nI j = nI t) && p j) t + (if (!decide (nI t = nI t) && p t) = true then 1 else 0) + (if p t then 1 else 0) = ctB p t + (if p t then 1 else 0)
      rw [h1, decide_eq_true rfl]
      rfl
    · have ih := ctB_left (p := p) (t := t) (n := n) (by omega) (by omega)
      show ctB (fun j => !decide (nI j = nI t) && p j) n + (if (!decide (nI n = nI t) && p n) = true then 1 else 0) + (if p t then 1 else 0) = ctB p n + (if p n then 1 else 0)
      rw [decide_eq_false (show ¬ nI n = nI t from fun q => by have := (nI_eq (by omega) (by omega)).mp q; omega), Bool.not_false, Bool.true_and, ← ih]
      omega
theorem ctB_none {p : Nat → Bool} : ∀ {n : Nat}, (∀ i, i < n → p i = false) → ctB p n = 0
  | 0, _ => rfl
  | n + 1, h => by rw [ctB_f (h n (by omega)), ctB_none (fun i hi => h i (by omega))]
/-- counting by the order in which they came is counting by the targets -/
theorem ctB_ord {o : Nat → Nat} : ∀ (m : Nat) (P : Nat → Bool), (∀ p p', p < m → p' < m → o p = o p' → p = p') → (∀ p, p < m → o p < 16) → (∀ t, t < 16 → P t = true → ∃ p, p < m ∧ o p = t) → ctB (fun p => P (o p)) m = ctB P 16
  | 0, P, _, _, h => (ctB_none (p := P) (n := 16) fun t ht => by
      cases e : P t
      · rfl
      · obtain ⟨p, hp, -⟩ := h t ht e
        exact absurd hp (Nat.not_lt_zero p)).symm
  | m + 1, P, hi, ho, h => by
    have ih := ctB_ord (o := o) m (fun j => !decide (nI j = nI (o m)) && P j) (fun p p' a b => hi p p' (by omega) (by omega)) (fun p hp => ho p (by omega)) (fun t ht e => by
      obtain ⟨e1, e2⟩ := (Bool.and_eq_true _ _).mp e
      obtain ⟨p, hp, q⟩ := h t ht e2
      refine ⟨p, ?_, q⟩
      by_cases z : p = m
      · subst z
        rw [q, decide_eq_true rfl] at e1
        cases e1
      · omega)
    have hl := ctB_left (p := P) (t := o m) (n := 16) (ho m (by omega)) (by decide)
    show ctB (fun p => P (o p)) m + (if P (o m) then 1 else 0) = _
    rw [← hl, ← ih]
    congr 1
    refine ctB_cong fun p hp => ?_
    show P (o p) = (!decide (nI (o p) = nI (o m)) && P (o p))
    rw [decide_eq_false (fun q => by
      have := (nI_eq (by have := ho p (by omega); omega) (by have := ho m (by omega); omega)).mp q
      have := hi p m (by omega) (by omega) this
      omega)]
    rfl
theorem ctB_full {p : Nat → Bool} : ∀ {n : Nat}, ctB p n = n → ∀ i, i < n → p i = true
  | 0, _, i, h => absurd h (Nat.not_lt_zero i)
  | n + 1, e, i, h => by
    have hle := ctB_le p n
    have e2 : ctB p n + (if p n then 1 else 0) = n + 1 := e
    have hp : p n = true := by
      cases q : p n
      · rw [q] at e2; simp at e2; omega
      · rfl
    rw [hp] at e2
    by_cases z : i = n
    · rw [z]; exact hp
    · exact ctB_full (n := n) (by simp at e2; exact e2) i (by omega)
theorem pigeon {o : Nat → Nat} {m t : Nat} (hm : m ≤ 16) (hi : ∀ p p', p < m → p' < m → o p = o p' → p = p') (ho : ∀ p, p < m → o p < 16) (ht : t < 16) (hn : ∀ p, p < m → o p ≠ t) : m < 16 := by
  rcases Nat.lt_or_ge m 16 with q | q
  · exact q
  · exfalso
    obtain rfl : m = 16 := by omega
    have h1 := ctB_ord (o := o) 16 (fun j => anB (fun p => decide (o p = j)) 16) hi ho (fun t ht e => by
      obtain ⟨p, hp, e2⟩ := anB_ex e
      exact ⟨p, hp, of_decide_eq_true e2⟩)
    have h2 : ctB (fun p => anB (fun p' => decide (o p' = o p)) 16) 16 = 16 := by
      have : ∀ n, n ≤ 16 → ctB (fun p => anB (fun p' => decide (o p' = o p)) 16) n = n := by
        intro n
        induction n with
        | zero => intro; rfl
        | succ n ih =>
          intro hn
          rw [ctB_t (p := fun p => anB (fun p' => decide (o p' = o p)) 16) (show anB (fun p' => decide (o p' = o n)) 16 = true from anB_of (i := n) (decide_eq_true rfl) (by omega)), ih (by omega)]
      exact this 16 (by decide)
    rw [h2] at h1
    obtain ⟨p, hp, e⟩ := anB_ex (ctB_full h1.symm t ht)
    exact hn p hp (of_decide_eq_true e)
theorem fsB_cong {p q : Nat → Bool} : ∀ {n : Nat}, (∀ i, i < n → p i = q i) → fsB p n = fsB q n
  | 0, _ => rfl
  | n + 1, h => by
    show (if fsB p n < n then fsB p n else if p n then n else n + 1) = (if fsB q n < n then fsB q n else if q n then n else n + 1)
    rw [fsB_cong (fun i hi => h i (by omega)), h n (by omega)]
theorem fs_ex {p : Nat → Bool} {n i : Nat} (hi : i < n) (h : p i = true) : fsB p n < n := by
  induction i using Nat.strongRecOn with
  | ind i ih =>
    by_cases hk : ∃ k, k < i ∧ p k = true
    · obtain ⟨k, k1, k2⟩ := hk
      exact ih k k1 (by omega) k2
    · have := fsB_at h (fun j hj => by
        cases w : p j
        · rfl
        · exact absurd ⟨j, hj, w⟩ hk) hi
      omega
theorem ct_find {Q : Nat → Bool} {w : Nat} : ∀ {m : Nat}, w < ctB Q m → ∃ p, p < m ∧ Q p = true ∧ ctB Q p = w
  | 0, h => absurd h (Nat.not_lt_zero w)
  | m + 1, h => by
    by_cases e : w < ctB Q m
    · obtain ⟨p, a, b, d⟩ := ct_find e
      exact ⟨p, by omega, b, d⟩
    · cases q : Q m
      · rw [ctB_f q] at h; exact absurd h e
      · rw [ctB_t q] at h
        exact ⟨m, by omega, q, by omega⟩
theorem ct_lt {Q : Nat → Bool} {p : Nat} (hq : Q p = true) : ∀ {m : Nat}, p < m → ctB Q p < ctB Q m
  | 0, h => absurd h (Nat.not_lt_zero p)
  | m + 1, h => by
    by_cases e : p = m
    · subst e; rw [ctB_t hq]; omega
    · have := ct_lt hq (m := m) (by omega)
      have h2 : ctB Q m ≤ ctB Q (m + 1) := Nat.le_add_right _ _
      omega

/-! the registrar: what holds of a user's row -/
def RB (q u : Nat) (μ : Mem) : Prop := ∃ (m : Nat) (o : Nat → Nat), m ≤ 16 ∧ μ 6 u 4 = nI m ∧ (∀ p, p < m → o p < 16 ∧ μ 10 u p = nI (o p)) ∧ (∀ p p', p < m → p' < m → o p = o p' → p = p') ∧ ∀ t, t < 16 → (μ 9 u t = -1 ∧ ∀ p, p < m → o p ≠ t) ∨ ((∃ s, s < q ∧ μ 9 u t = nI s) ∧ (∃ p, p < m ∧ o p = t) ∧ ∃ Q, Q ≤ 10 ∧ μ 7 u t = nI Q)
theorem nI_m1 {n : Nat} (h : n < 2 ^ 31) : ¬ nI n = -1 := fun q => by
  have h1 := nI_toInt h
  rw [q, im1] at h1
  omega
theorem RB.cong {q q' u : Nat} {μ μ' : Mem} (hq : q ≤ q') (h : RB q u μ) (hA : ∀ k i, 6 ≤ k → k < 11 → μ' k u i = μ k u i) : RB q' u μ' := by
  obtain ⟨m, o, b1, b2, b3, b4, b5⟩ := h
  refine ⟨m, o, b1, (hA 6 4 (by decide) (by decide)).trans b2, fun p hp => ⟨(b3 p hp).1, (hA 10 p (by decide) (by decide)).trans (b3 p hp).2⟩, b4, fun t ht => ?_⟩
  rw [hA 9 t (by decide) (by decide), hA 7 t (by decide) (by decide)]
  rcases b5 t ht with c | ⟨⟨s, c1, c2⟩, c3⟩
  · exact Or.inl c
  · exact Or.inr ⟨⟨s, by omega, c2⟩, c3⟩
theorem RB.bi {q u : Nat} {μ : Mem} (h : RB q u μ) : vN (μ 6 u 4) 16 ∧ ∀ p, p < tN (μ 6 u 4) → vN (μ 10 u p) 15 := by
  obtain ⟨m, o, b1, b2, b3, b4, b5⟩ := h
  rw [b2, tN_nI (by omega)]
  refine ⟨vN_nI b1 (by decide), fun p hp => ?_⟩
  rw [(b3 p hp).2]
  exact vN_nI (by have := (b3 p hp).1; omega) (by decide)
theorem coB_m1 {μ : Mem} {u t : Nat} {now : Int32} (ht : t < 16) : coB μ u (-1) now t = thB μ u now t := by
  unfold coB
  rw [decide_eq_false (nI_m1 (by omega))]
  rfl
theorem coN_m1 {μ : Mem} {u : Nat} {now : Int32} : coN μ u (-1) now = ctB (thB μ u now) 16 := ctB_cong fun t ht => coB_m1 ht
theorem coN_left {μ : Mem} {u t : Nat} {now : Int32} (ht : t < 16) : coN μ u (nI t) now + (if thB μ u now t then 1 else 0) = coN μ u (-1) now := by
  rw [coN_m1]
  exact ctB_left (p := thB μ u now) ht (by decide)
/-- the bindings that are there, by their places -/
theorem RB.pl {q u : Nat} {μ : Mem} (now : Int32) (h : RB q u μ) : ∃ tg : Nat → Nat, (∀ k, k < coN μ u (-1) now → tg k < 16 ∧ thB μ u now (tg k) = true ∧ taI μ u (tN (μ 6 u 4)) (nI k) now = nI (tg k) ∧ ∃ Q, Q ≤ 10 ∧ μ 7 u (tg k) = nI Q) ∧ (∀ k k', k < coN μ u (-1) now → k' < coN μ u (-1) now → tg k = tg k' → k = k') ∧ ∀ t, t < 16 → thB μ u now t = true → ∃ k, k < coN μ u (-1) now ∧ tg k = t := by
  obtain ⟨m, o, b1, b2, b3, b4, b5⟩ := h
  have em : tN (μ 6 u 4) = m := by rw [b2, tN_nI (by omega)]
  rw [em]
  have hto : ∀ p, p < m → tN (μ 10 u p) = o p := fun p hp => by rw [(b3 p hp).2, tN_nI (by have := (b3 p hp).1; omega)]
  have hex : ∀ t, t < 16 → thB μ u now t = true → ∃ p, p < m ∧ o p = t := fun t ht e => by
    rcases b5 t ht with ⟨c, -⟩ | ⟨-, c, -⟩
    · exfalso
      unfold thB at e
      rw [decide_eq_true c] at e
      cases e
    · exact c
  have htot : ctB (fun p => thB μ u now (o p)) m = coN μ u (-1) now := by
    rw [coN_m1]
    exact ctB_ord m (thB μ u now) b4 (fun p hp => (b3 p hp).1) hex
  have hle : coN μ u (-1) now ≤ 16 := ctB_le _ _
  have hct : ∀ p, p ≤ m → ctB (fun j => thB μ u now (tN (μ 10 u j))) p = ctB (fun j => thB μ u now (o j)) p := fun p hp => ctB_cong fun j hj => by rw [hto j (by omega)]
  have hta : ∀ k p, p < m → taP μ u now (nI k) p = (thB μ u now (o p) && decide (nI (ctB (fun j => thB μ u now (o j)) p) = nI k)) := fun k p hp => by
    unfold taP
    rw [hto p hp, hct p (by omega)]
  have hfs : ∀ k, k < coN μ u (-1) now → fsB (taP μ u now (nI k)) m < m := fun k hk => by
    obtain ⟨p, p1, p2, p3⟩ := ct_find (Q := fun j => thB μ u now (o j)) (w := k) (m := m) (by rw [htot]; exact hk)
    refine fs_ex p1 ?_
    rw [hta k p p1, p2, p3, decide_eq_true rfl]
    rfl
  have hpl : ∀ k, k < coN μ u (-1) now → thB μ u now (o (fsB (taP μ u now (nI k)) m)) = true ∧ ctB (fun j => thB μ u now (o j)) (fsB (taP μ u now (nI k)) m) = k := fun k hk => by
    have h1 := (fsB_spec (hfs k hk)).1
    rw [hta k _ (hfs k hk)] at h1
    obtain ⟨p1, p2⟩ := (Bool.and_eq_true _ _).mp h1
    refine ⟨p1, ?_⟩
    have p3 := of_decide_eq_true p2
    have hc : ctB (fun j => thB μ u now (o j)) (fsB (taP μ u now (nI k)) m) ≤ fsB (taP μ u now (nI k)) m := ctB_le _ _
    have := hfs k hk
    exact (nI_eq (by omega) (by omega)).mp p3
  refine ⟨fun k => o (fsB (taP μ u now (nI k)) m), fun k hk => ?_, fun k k' hk hk' e => ?_, fun t ht e => ?_⟩
  · have hf := hfs k hk
    refine ⟨(b3 _ hf).1, (hpl k hk).1, ?_, ?_⟩
    · unfold taI
      rw [if_pos hf]
      exact (b3 _ hf).2
    · rcases b5 _ (b3 _ hf).1 with ⟨-, c⟩ | ⟨-, -, c⟩
      · exact absurd rfl (c _ hf)
      · exact c
  · have := b4 _ _ (hfs k hk) (hfs k' hk') e
    rw [← (hpl k hk).2, ← (hpl k' hk').2, this]
  · obtain ⟨p, hp, e2⟩ := hex t ht e
    have hQ : thB μ u now (o p) = true := by rw [e2]; exact e
    have hlt := ct_lt (Q := fun j => thB μ u now (o j)) hQ hp
    rw [htot] at hlt
    refine ⟨ctB (fun j => thB μ u now (o j)) p, hlt, ?_⟩
    show o (fsB (taP μ u now (nI (ctB (fun j => thB μ u now (o j)) p))) m) = t
    have hat : fsB (taP μ u now (nI (ctB (fun j => thB μ u now (o j)) p))) m = p := by
      refine fsB_at ?_ (fun j hj => ?_) hp
      · rw [hta _ p hp, hQ, decide_eq_true rfl]; rfl
      · rw [hta _ j (by omega)]
        cases ej : thB μ u now (o j)
        · rfl
        · have h9 := ct_lt (Q := fun j => thB μ u now (o j)) ej hj
          have hc2 : ctB (fun j => thB μ u now (o j)) j ≤ j := ctB_le _ _
          rw [decide_eq_false (fun q => by
            have := (nI_eq (by omega) (by omega)).mp q
            omega)]
          rfl
    rw [hat, e2]
theorem taI_cong {μ μ' : Mem} {u m : Nat} {w now : Int32} (h10 : ∀ p, p < m → μ' 10 u p = μ 10 u p) (hth : ∀ p, p < m → thB μ' u now (tN (μ 10 u p)) = thB μ u now (tN (μ 10 u p))) : taI μ' u m w now = taI μ u m w now := by
  have e : fsB (taP μ' u now w) m = fsB (taP μ u now w) m := fsB_cong fun p hp => by
    unfold taP
    rw [h10 p hp, hth p hp]
    congr 3
    exact congrArg nI (ctB_cong fun j hj => by rw [h10 j (by omega), hth j (by omega)])
  unfold taI
  rw [e]
  split
  · rename_i q
    exact h10 _ q
  · rfl
theorem puM_k {μ : Mem} {u m t k o i : Nat} {q e s : Int32} (h : k < 6 ∨ 11 ≤ k ∨ o ≠ u) : puM μ u m t q e s k o i = μ k o i := by
  unfold puM
  rcases h with h | h | h
  · rw [st_k (by omega), st_k (by omega), st_k (by omega)]
    split
    · rw [st_k (by omega), st_k (by omega)]
    · rfl
  · rw [st_k (by omega), st_k (by omega), st_k (by omega)]
    split
    · rw [st_k (by omega), st_k (by omega)]
    · rfl
  · rw [st_o h, st_o h, st_o h]
    split
    · rw [st_o h, st_o h]
    · rfl
theorem pu9 {μ : Mem} {u m t i : Nat} {q e s : Int32} : puM μ u m t q e s 9 u i = if i = t then s else μ 9 u i := by
  unfold puM
  by_cases z : i = t
  · subst z; rw [st_same, if_pos rfl]
  · rw [st_i z, if_neg z, st_k (by decide), st_k (by decide)]
    split
    · rw [st_k (by decide), st_k (by decide)]
    · rfl
theorem pu8 {μ : Mem} {u m t i : Nat} {q e s : Int32} : puM μ u m t q e s 8 u i = if i = t then e else μ 8 u i := by
  unfold puM
  rw [st_k (by decide)]
  by_cases z : i = t
  · subst z; rw [st_same, if_pos rfl]
  · rw [st_i z, if_neg z, st_k (by decide)]
    split
    · rw [st_k (by decide), st_k (by decide)]
    · rfl
theorem pu7 {μ : Mem} {u m t i : Nat} {q e s : Int32} : puM μ u m t q e s 7 u i = if i = t then q else μ 7 u i := by
  unfold puM
  rw [st_k (by decide), st_k (by decide)]
  by_cases z : i = t
  · subst z; rw [st_same, if_pos rfl]
  · rw [st_i z, if_neg z]
    split
    · rw [st_k (by decide), st_k (by decide)]
    · rfl
theorem pu6 {μ : Mem} {u m t : Nat} {q e s : Int32} : puM μ u m t q e s 6 u 4 = if μ 9 u t = -1 ∧ m < 16 then nI (m + 1) else μ 6 u 4 := by
  unfold puM
  rw [st_k (by decide), st_k (by decide), st_k (by decide)]
  split
  · rw [st_same]
  · rfl
theorem pu10 {μ : Mem} {u m t p : Nat} {q e s : Int32} : puM μ u m t q e s 10 u p = if (μ 9 u t = -1 ∧ m < 16) ∧ p = m then nI t else μ 10 u p := by
  unfold puM
  rw [st_k (by decide), st_k (by decide), st_k (by decide)]
  by_cases z : μ 9 u t = -1 ∧ m < 16
  · rw [if_pos z, st_k (by decide)]
    by_cases y : p = m
    · subst y; rw [st_same, if_pos ⟨z, rfl⟩]
    · rw [st_i y, if_neg (fun q => y q.2)]
  · rw [if_neg z, if_neg (fun q => z q.1)]
theorem RB.pu {q u t Q sq : Nat} {e : Int32} {μ : Mem} (h : RB q u μ) (hq : q < 2 ^ 31) (ht : t < 16) (hQ : Q ≤ 10) (hs : sq < q + 1) : RB (q + 1) u (puM μ u (tN (μ 6 u 4)) t (nI Q) e (nI sq)) := by
  obtain ⟨m, o, b1, b2, b3, b4, b5⟩ := h
  rw [b2, tN_nI (by omega)]
  by_cases hn : μ 9 u t = -1
  · have hno : ∀ p, p < m → o p ≠ t := by
      rcases b5 t ht with ⟨-, c⟩ | ⟨⟨s, hs2, c⟩, -, -⟩
      · exact c
      · rw [hn] at c
        exact absurd c.symm (nI_m1 (by omega))
    have hm : m < 16 := pigeon b1 b4 (fun p hp => (b3 p hp).1) ht hno
    refine ⟨m + 1, fun p => if p = m then t else o p, hm, by rw [pu6, if_pos ⟨hn, hm⟩], fun p hp => ?_, fun p p' hp hp' ep => ?_, fun t' ht' => ?_⟩
    · rw [pu10]
      by_cases z : p = m
      · rw [if_pos ⟨⟨hn, hm⟩, z⟩]
        show (if p = m then t else o p) < 16 ∧ nI t = nI (if p = m then t else o p)
        rw [if_pos z]
        exact ⟨ht, rfl⟩
      · rw [if_neg (fun q => z q.2)]
        show (if p = m then t else o p) < 16 ∧ μ 10 u p = nI (if p = m then t else o p)
        rw [if_neg z]
        exact b3 p (by omega)
    · have ep' : (if p = m then t else o p) = (if p' = m then t else o p') := ep
      by_cases z : p = m
      · by_cases z' : p' = m
        · rw [z, z']
        · rw [if_pos z, if_neg z'] at ep'
          exact absurd ep'.symm (hno p' (by omega))
      · by_cases z' : p' = m
        · rw [if_neg z, if_pos z'] at ep'
          exact absurd ep' (hno p (by omega))
        · rw [if_neg z, if_neg z'] at ep'
          exact b4 p p' (by omega) (by omega) ep'
    · rw [pu9, pu7]
      by_cases z : t' = t
      · rw [if_pos z, if_pos z]
        exact Or.inr ⟨⟨sq, hs, rfl⟩, ⟨m, by omega, by show (if m = m then t else o m) = t'; rw [if_pos rfl, z]⟩, Q, hQ, rfl⟩
      · rw [if_neg z, if_neg z]
        rcases b5 t' ht' with ⟨c1, c2⟩ | ⟨⟨s, c1, c2⟩, ⟨p, c3, c4⟩, c5⟩
        · refine Or.inl ⟨c1, fun p hp => ?_⟩
          show (if p = m then t else o p) ≠ t'
          by_cases y : p = m
          · rw [if_pos y]; exact fun q => z q.symm
          · rw [if_neg y]; exact c2 p (by omega)
        · exact Or.inr ⟨⟨s, by omega, c2⟩, ⟨p, by omega, by show (if p = m then t else o p) = t'; rw [if_neg (by omega)]; exact c4⟩, c5⟩
  · refine ⟨m, o, b1, by rw [pu6, if_neg (fun q => hn q.1)]; exact b2, fun p hp => ?_, b4, fun t' ht' => ?_⟩
    · rw [pu10, if_neg (fun q => hn q.1.1)]
      exact b3 p hp
    · rw [pu9, pu7]
      by_cases z : t' = t
      · rw [if_pos z, if_pos z]
        rcases b5 t ht with ⟨c, -⟩ | ⟨-, c, -⟩
        · exact absurd c hn
        · rw [z]
          exact Or.inr ⟨⟨sq, hs, rfl⟩, c, Q, hQ, rfl⟩
      · rw [if_neg z, if_neg z]
        rcases b5 t' ht' with c | ⟨⟨s, c1, c2⟩, c3⟩
        · exact Or.inl c
        · exact Or.inr ⟨⟨s, by omega, c2⟩, c3⟩
/-- which bindings are there, after a registration -/
theorem th_pu {μ : Mem} {u m t i : Nat} {q e s now : Int32} : thB (puM μ u m t q e s) u now i = if i = t then (!decide (s = -1) && !decide (e ≤ now)) else thB μ u now i := by
  unfold thB
  rw [pu9, pu8]
  by_cases z : i = t
  · rw [if_pos z, if_pos z, if_pos z]
  · rw [if_neg z, if_neg z, if_neg z]
theorem co_pu {μ : Mem} {u m t : Nat} {q e s now : Int32} (ht : t < 16) : coN (puM μ u m t q e s) u (-1) now + (if thB μ u now t then 1 else 0) = coN μ u (-1) now + (if (!decide (s = -1) && !decide (e ≤ now)) = true then 1 else 0) := by
  have h1 := coN_left (μ := μ) (u := u) (now := now) ht
  have h2 := coN_left (μ := puM μ u m t q e s) (u := u) (now := now) ht
  have h3 : coN (puM μ u m t q e s) u (nI t) now = coN μ u (nI t) now := ctB_cong fun i hi => by
    unfold coB
    rw [th_pu]
    by_cases z : i = t
    · subst z; rw [decide_eq_true rfl]; rfl
    · rw [if_neg z]
  rw [th_pu, if_pos rfl] at h2
  omega
theorem ctB_mono {p q : Nat → Bool} : ∀ {n : Nat}, (∀ i, i < n → p i = true → q i = true) → ctB p n ≤ ctB q n
  | 0, _ => by show 0 ≤ 0; omega
  | n + 1, h => by
    have ih := ctB_mono (p := p) (q := q) (n := n) (fun i hi => h i (by omega))
    show ctB p n + (if p n then 1 else 0) ≤ ctB q n + (if q n then 1 else 0)
    by_cases z : p n = true
    · rw [if_pos z, if_pos (h n (by omega) z)]; omega
    · rw [if_neg z]; omega
theorem co_later {μ μ' : Mem} {u : Nat} {x y : Int32} (h9 : ∀ i, μ' 9 u i = μ 9 u i) (h8 : ∀ i, μ' 8 u i = μ 8 u i) (hxy : x ≤ y) : coN μ' u (-1) y ≤ coN μ u (-1) x := by
  rw [coN_m1, coN_m1]
  refine ctB_mono fun n _ => ?_
  unfold thB
  rw [h9, h8]
  intro q
  obtain ⟨q1, q2⟩ := (Bool.and_eq_true _ _).mp q
  rw [q1, Bool.true_and]
  by_cases z : μ 8 u n ≤ x
  · exfalso
    rw [decide_eq_true (Int32.le_trans z hxy)] at q2
    cases q2
  · rw [decide_eq_false z]; rfl
end
section
/-! finding branches -/
def BQ (μ : Mem) : Prop := ∃ q, ∀ u, u < 6 → RB q u μ
theorem BQ.fr {μ μ' : Mem} (h : BQ μ) (f : FR μ μ') : BQ μ' := by
  obtain ⟨q, h⟩ := h
  exact ⟨q, fun u hu => (h u hu).cong (Nat.le_refl q) (fun k i a b => f.1 k u i (by omega) (by omega) (by omega) (by omega) (by omega))⟩
theorem BQ.bi {μ : Mem} (h : BQ μ) : BI μ := by
  obtain ⟨q, h⟩ := h
  exact fun u hu => (h u hu).bi
theorem BQ.at {μ : Mem} (h : BQ μ) {u p : Nat} (hu : u < 6) (hp : p < tN (μ 6 u 4)) : ∃ T, T < 16 ∧ μ 10 u p = nI T ∧ tN (μ 10 u p) = T ∧ ∃ Q, Q ≤ 10 ∧ μ 7 u T = nI Q := by
  obtain ⟨q, h⟩ := h
  obtain ⟨m, o, b1, b2, b3, b4, b5⟩ := h u hu
  rw [b2, tN_nI (by omega)] at hp
  obtain ⟨h1, h2⟩ := b3 p hp
  refine ⟨o p, h1, h2, by rw [h2, tN_nI (by omega)], ?_⟩
  rcases b5 (o p) h1 with ⟨-, c⟩ | ⟨-, -, c⟩
  · exact absurd rfl (c p hp)
  · exact c
theorem PC.vn {c n : Nat} {μ : Mem} (h : PC c n μ) : vN (μ 11 c 4) 12 ∧ tN (μ 11 c 4) = n := by
  rw [h.2.1, tN_nI (by have := h.1; omega)]
  exact ⟨vN_nI h.1 (by decide), rfl⟩
theorem PC_push {c n Q : Nat} {x y z : Int32} {μ : Mem} (h : PC c n μ) (hn : n < 12) (hy : y = nI Q) (hQ : Q ≤ 10) (hz : (z = 0 ∧ ¬ x = -1) ∨ ((z = 482 ∨ z = 483) ∧ x = -1)) (hx0 : dvP x) (hx : x = -1 ∨ ∀ b, b < n → ¬ μ 12 c b = x) : PC c (n + 1) (addM μ c n x y z) ∧ (∀ b, b < n → addM μ c n x y z 12 c b = μ 12 c b) ∧ addM μ c n x y z 12 c n = x := by
  obtain ⟨p1, p2, p3, p4, p5, p6⟩ := h
  have e12 : ∀ b, addM μ c n x y z 12 c b = if b = n then x else μ 12 c b := fun b => by
    unfold addM
    rw [if_pos hn]
    by_cases e : b = n <;> simp [st, e]
  have e13 : ∀ b, addM μ c n x y z 13 c b = if b = n then y else μ 13 c b := fun b => by
    unfold addM
    rw [if_pos hn]
    by_cases e : b = n <;> simp [st, e]
  have e14 : ∀ b, addM μ c n x y z 14 c b = if b = n then z else μ 14 c b := fun b => by
    unfold addM
    rw [if_pos hn]
    by_cases e : b = n <;> simp [st, e]
  have e4 : addM μ c n x y z 11 c 4 = nI (n + 1) := by
    unfold addM
    rw [if_pos hn, st_same]
  refine ⟨⟨hn, e4, fun b hb => ?_, fun b b' hb hb' q1 q2 => ?_, fun b hb => ?_, fun b hb => ?_⟩, fun b hb => by rw [e12, if_neg (by omega)], by rw [e12, if_pos rfl]⟩
  · rw [e12]
    split
    · exact hx0
    · exact p3 b (by omega)
  · rw [e12] at q1 q2
    rw [e12] at q1
    by_cases a : b = n
    · by_cases a' : b' = n
      · rw [a, a']
      · rw [if_pos a, if_neg a'] at q1
        rw [if_pos a] at q2
        rcases hx with hx | hx
        · exact absurd hx q2
        · exact absurd q1.symm (hx b' (by omega))
    · by_cases a' : b' = n
      · rw [if_neg a, if_pos a'] at q1
        rw [if_neg a] at q2
        rcases hx with hx | hx
        · rw [q1] at q2; exact absurd hx q2
        · exact absurd q1 (hx b (by omega))
      · rw [if_neg a, if_neg a'] at q1
        rw [if_neg a] at q2
        exact p4 b b' (by omega) (by omega) q1 q2
  · rw [e13]
    split
    · exact ⟨Q, hQ, hy⟩
    · exact p5 b (by omega)
  · rw [e14, e12]
    split
    · exact hz
    · exact p6 b (by omega)
/-- what finding does to the branches found so far: nothing -/
def FX (c : Nat) (μ μ' : Mem) : Prop := FC c μ μ' ∧ ∀ n, PC c n μ → ∃ n', n ≤ n' ∧ PC c n' μ' ∧ ∀ b, b < n → μ' 12 c b = μ 12 c b
theorem FX.refl (c : Nat) (μ : Mem) : FX c μ μ := ⟨FC.refl c μ, fun n h => ⟨n, Nat.le_refl n, h, fun _ _ => rfl⟩⟩
theorem FX.trans {c : Nat} {a b d : Mem} (h : FX c a b) (h2 : FX c b d) : FX c a d := ⟨h.1.trans h2.1, fun n hp => by
  obtain ⟨n1, a1, a2, a3⟩ := h.2 n hp
  obtain ⟨n2, b1, b2, b3⟩ := h2.2 n1 a2
  exact ⟨n2, by omega, b2, fun i hi => (b3 i (by omega)).trans (a3 i hi)⟩⟩
def HasD (c : Nat) (x : Int32) (μ : Mem) : Prop := (∃ b, b < tN (μ 11 c 4) ∧ μ 12 c b = x) ∨ tN (μ 11 c 4) = 12
theorem FX.has {c n : Nat} {x : Int32} {μ μ' : Mem} (h : FX c μ μ') (hp : PC c n μ) (hd : HasD c x μ) : HasD c x μ' := by
  obtain ⟨n', a1, a2, a3⟩ := h.2 n hp
  unfold HasD at hd ⊢
  rw [hp.vn.2] at hd
  rw [a2.vn.2]
  rcases hd with ⟨b, hb, e⟩ | e
  · exact Or.inl ⟨b, by omega, (a3 b hb).trans e⟩
  · have := a2.1
    exact Or.inr (by omega)
theorem nI_lt10 {T : Nat} (h : T < 10) : dvP (nI T) ∧ ¬ nI T = -1 := ⟨Or.inr ⟨T, h, rfl⟩, nI_m1 (by omega)⟩
theorem ad_FX {c n T Q : Nat} {y : Int32} {μ : Mem} (hp : PC c n μ) (hT : T < 10) (hy : y = nI Q) (hQ : Q ≤ 10) : FX c μ (adM μ c (nI T) y) ∧ HasD c (nI T) (adM μ c (nI T) y) := by
  have hv := hp.vn
  refine ⟨⟨adM_FC hv.1, fun n2 h2 => ?_⟩, ?_⟩
  · have e : n2 = n := by rw [← hv.2, h2.vn.2]
    subst e
    unfold adM
    rw [hv.2]
    by_cases z : frI (fun b => decide (μ 12 c b = nI T)) n2 = -1
    · rw [if_pos z]
      have hno : ∀ b, b < n2 → ¬ μ 12 c b = nI T := fun b hb q => by
        have h1 := fs_ex (p := fun b => decide (μ 12 c b = nI T)) hb (decide_eq_true q)
        unfold frI at z
        rw [if_pos h1] at z
        exact nI_m1 (by have := hp.1; omega) z
      by_cases h12 : n2 < 12
      · obtain ⟨g1, g2, -⟩ := PC_push (x := nI T) (y := y) (z := 0) hp h12 hy hQ (Or.inl ⟨rfl, (nI_lt10 hT).2⟩) (nI_lt10 hT).1 (Or.inr hno)
        exact ⟨n2 + 1, by omega, g1, g2⟩
      · unfold addM
        rw [if_neg h12]
        exact ⟨n2, Nat.le_refl _, hp, fun _ _ => rfl⟩
    · rw [if_neg z]
      exact ⟨n2, Nat.le_refl _, hp, fun _ _ => rfl⟩
  · unfold adM HasD
    rw [hv.2]
    by_cases z : frI (fun b => decide (μ 12 c b = nI T)) n = -1
    · rw [if_pos z]
      have hno : ∀ b, b < n → ¬ μ 12 c b = nI T := fun b hb q => by
        have h1 := fs_ex (p := fun b => decide (μ 12 c b = nI T)) hb (decide_eq_true q)
        unfold frI at z
        rw [if_pos h1] at z
        exact nI_m1 (by have := hp.1; omega) z
      by_cases h12 : n < 12
      · obtain ⟨g1, g2, g3⟩ := PC_push (x := nI T) (y := y) (z := 0) hp h12 hy hQ (Or.inl ⟨rfl, (nI_lt10 hT).2⟩) (nI_lt10 hT).1 (Or.inr hno)
        rw [g1.vn.2]
        exact Or.inl ⟨n, by omega, g3⟩
      · unfold addM
        rw [if_neg h12, hv.2]
        exact Or.inr (by have := hp.1; omega)
    · rw [if_neg z, hv.2]
      obtain ⟨h1, h2⟩ := frI_b z
      exact Or.inl ⟨_, h1, of_decide_eq_true (fsB_spec h1).1⟩
theorem ae_FX {c Q : Nat} {y z : Int32} {μ : Mem} (hv : vN (μ 11 c 4) 12) (hy : y = nI Q) (hQ : Q ≤ 10) (hz : z = 482 ∨ z = 483) : FX c μ (aeM μ c y z) := by
  refine ⟨aeM_FC hv, fun n hp => ?_⟩
  unfold aeM
  rw [hp.vn.2]
  by_cases h12 : n < 12
  · obtain ⟨g1, g2, -⟩ := PC_push (x := -1) (y := y) (z := z) hp h12 hy hQ (Or.inr ⟨hz, rfl⟩) (Or.inl rfl) (Or.inl rfl)
    exact ⟨n + 1, by omega, g1, g2⟩
  · unfold addM
    rw [if_neg h12]
    exact ⟨n, Nat.le_refl _, hp, fun _ _ => rfl⟩
theorem PC.cong {c n : Nat} {μ μ' : Mem} (hA : ∀ k i, 11 ≤ k → k < 16 → μ' k c i = μ k c i) (h : PC c n μ) : PC c n μ' := by
  have e11 : ∀ i, μ' 11 c i = μ 11 c i := fun i => hA 11 i (by decide) (by decide)
  have e12 : ∀ i, μ' 12 c i = μ 12 c i := fun i => hA 12 i (by decide) (by decide)
  have e13 : ∀ i, μ' 13 c i = μ 13 c i := fun i => hA 13 i (by decide) (by decide)
  have e14 : ∀ i, μ' 14 c i = μ 14 c i := fun i => hA 14 i (by decide) (by decide)
  unfold PC at h ⊢
  simp only [e11, e12, e13, e14]
  exact h
theorem way_FX {μ : Mem} {c b : Nat} {x : Int32} : FX c μ (st μ 4 0 b x) := ⟨way_FC, fun n h => ⟨n, Nat.le_refl n, h.cong (fun k i hk _ => st_k (by omega)), fun _ _ => st_k (by decide)⟩⟩
/-- what a follower of users keeps to -/
def FY (c : Nat) (G : Nat → Int32 → Mem → Mem) : Prop := ∀ (μ : Mem) (u Q : Nat), u < 6 → Q ≤ 10 → BQ μ → (∃ n, PC c n μ) → FX c μ (G u (nI Q) μ)
theorem FX.keep {c n : Nat} {μ μ' : Mem} (h : FX c μ μ') (hB : BQ μ) (hp : PC c n μ) : BQ μ' ∧ ∃ n, PC c n μ' := by
  obtain ⟨n', -, a2, -⟩ := h.2 n hp
  exact ⟨hB.fr h.1.1, n', a2⟩
theorem cuG_FX {c b : Nat} {F : Nat → Int32 → Mem → Mem} (hF : b ≤ 2 → FY c F) : FY c (cuG F b c) := by
  intro μ u Q hu hQ hB ⟨n, hp⟩
  unfold cuG
  split
  · exact ae_FX hp.vn.1 rfl hQ (Or.inl rfl)
  · split
    · exact ae_FX hp.vn.1 rfl hQ (Or.inr rfl)
    · exact hF (by omega) μ u Q hu hQ hB ⟨n, hp⟩
theorem fuS_FX {c b u p n Q : Nat} {qw : Int32} {G : Nat → Int32 → Mem → Mem} {μ : Mem} (hG : FY c G) (hu : u < 6) (hB : BQ μ) (hp : PC c n μ) (hpm : p < tN (μ 6 u 4)) (hq : b = 0 ∨ (qw = nI Q ∧ Q ≤ 10)) : FX c μ (fuS G b c u qw p μ) := by
  obtain ⟨T, h1, h2, h3, Q2, h4, h5⟩ := hB.at hu hpm
  unfold fuS
  rw [h3]
  split
  · have hqq : ∃ Q3, Q3 ≤ 10 ∧ (if b = 0 then μ 7 u T else qw) = nI Q3 := by
      by_cases z : b = 0
      · rw [if_pos z]; exact ⟨Q2, h4, h5⟩
      · rw [if_neg z]
        rcases hq with q | ⟨q, q2⟩
        · exact absurd q z
        · exact ⟨Q, q2, q⟩
    obtain ⟨Q3, h6, h7⟩ := hqq
    split
    · rename_i hT
      exact (ad_FX hp hT h7 h6).1
    · rw [h7]
      exact hG μ (T - 10) Q3 (by omega) h6 hB ⟨n, hp⟩
  · exact FX.refl c μ
theorem fuL_FX {c b u Q : Nat} {qw : Int32} {G : Nat → Int32 → Mem → Mem} {μ : Mem} {n : Nat} (hG : FY c G) (hu : u < 6) (hB : BQ μ) (hp : PC c n μ) (hq : b = 0 ∨ (qw = nI Q ∧ Q ≤ 10)) : ∀ p, p ≤ tN (μ 6 u 4) → FX c μ (fuL G b c u qw p μ)
  | 0, _ => FX.refl c μ
  | p + 1, h => by
    have h1 := fuL_FX hG hu hB hp hq p (by omega)
    obtain ⟨k1, n1, k2⟩ := h1.keep hB hp
    have e6 : fuL G b c u qw p μ 6 u 4 = μ 6 u 4 := h1.1.1.1 6 u 4 (by decide) (by decide) (by decide) (by decide) (by decide)
    exact h1.trans (fuS_FX hG hu k1 k2 (by rw [e6]; omega) hq)
theorem fuG_FX {c b : Nat} {G : Nat → Int32 → Mem → Mem} (hG : FY c G) : FY c (fuG G b c) := by
  intro μ u Q hu hQ hB ⟨n, hp⟩
  have hw := way_FX (μ := μ) (c := c) (b := b) (x := nI u)
  obtain ⟨k1, n1, k2⟩ := hw.keep hB hp
  exact hw.trans (fuL_FX hG hu k1 k2 (Or.inr ⟨rfl, hQ⟩) _ (by rw [st_k (by decide)]; exact Nat.le_refl _))
theorem cu3_FY (c : Nat) : FY c (cu3 c) := cuG_FX (fun q => absurd q (by decide))
theorem fu2_FY (c : Nat) : FY c (fu2 c) := fuG_FX (cu3_FY c)
theorem cu2_FY (c : Nat) : FY c (cu2 c) := cuG_FX (fun _ => fu2_FY c)
theorem fu1_FY (c : Nat) : FY c (fu1 c) := fuG_FX (cu2_FY c)
theorem cu1_FY (c : Nat) : FY c (cu1 c) := cuG_FX (fun _ => fu1_FY c)
/-- all branches of a call are found -/
theorem fu0_sp {c u : Nat} {μ : Mem} (hu : u < 6) (hB : BQ μ) (hp : PC c 0 μ) : ∃ n', PC c n' (fu0 c u (-1) μ) ∧ FC c μ (fu0 c u (-1) μ) ∧ (coN μ u (-1) (μ 0 0 6) = 0 → n' = 0) ∧ ∀ t, t < 10 → thB μ u (μ 0 0 6) t = true → (∃ b, b < n' ∧ fu0 c u (-1) μ 12 c b = nI t) ∨ n' = 12 := by
  have hw := way_FX (μ := μ) (c := c) (b := 0) (x := nI u)
  obtain ⟨k1, -, -⟩ := hw.keep hB hp
  have k2 : PC c 0 (st μ 4 0 0 (nI u)) := hp.cong (fun k i hk _ => st_k (by omega))
  have em : tN (st μ 4 0 0 (nI u) 6 u 4) = tN (μ 6 u 4) := by rw [st_k (by decide)]
  have hth : ∀ t, thB (st μ 4 0 0 (nI u)) u (μ 0 0 6) t = thB μ u (μ 0 0 6) t := fun t => by
    unfold thB
    rw [st_k (by decide), st_k (by decide)]
  have key : ∀ p, p ≤ tN (μ 6 u 4) → FX c (st μ 4 0 0 (nI u)) (fuL (cu1 c) 0 c u (-1) p (st μ 4 0 0 (nI u))) ∧
      ((∀ j, j < p → thB μ u (μ 0 0 6) (tN (μ 10 u j)) = false) → fuL (cu1 c) 0 c u (-1) p (st μ 4 0 0 (nI u)) = st μ 4 0 0 (nI u)) ∧
      ∀ j, j < p → tN (μ 10 u j) < 10 → thB μ u (μ 0 0 6) (tN (μ 10 u j)) = true → HasD c (nI (tN (μ 10 u j))) (fuL (cu1 c) 0 c u (-1) p (st μ 4 0 0 (nI u))) := by
    intro p
    induction p with
    | zero => exact fun _ => ⟨FX.refl c _, fun _ => rfl, fun j hj => absurd hj (Nat.not_lt_zero j)⟩
    | succ p ih =>
      intro hle
      obtain ⟨i1, i2, i3⟩ := ih (by omega)
      obtain ⟨m1, n1, m2⟩ := i1.keep k1 k2
      have f := i1.1.1.1
      have e6 : fuL (cu1 c) 0 c u (-1) p (st μ 4 0 0 (nI u)) 6 u 4 = μ 6 u 4 := (f 6 u 4 (by decide) (by decide) (by decide) (by decide) (by decide)).trans (st_k (by decide))
      have e10 : fuL (cu1 c) 0 c u (-1) p (st μ 4 0 0 (nI u)) 10 u p = μ 10 u p := (f 10 u p (by decide) (by decide) (by decide) (by decide) (by decide)).trans (st_k (by decide))
      have e06 : fuL (cu1 c) 0 c u (-1) p (st μ 4 0 0 (nI u)) 0 0 6 = μ 0 0 6 := (f 0 0 6 (by decide) (by decide) (by decide) (by decide) (by decide)).trans (st_k (by decide))
      have eth : ∀ t, thB (fuL (cu1 c) 0 c u (-1) p (st μ 4 0 0 (nI u))) u (μ 0 0 6) t = thB μ u (μ 0 0 6) t := fun t => by
        rw [← hth t]
        unfold thB
        rw [f 9 u t (by decide) (by decide) (by decide) (by decide) (by decide), f 8 u t (by decide) (by decide) (by decide) (by decide) (by decide)]
      have hS := fuS_FX (b := 0) (p := p) (Q := 0) (qw := -1) (cu1_FY c) hu m1 m2 (by rw [e6]; omega) (Or.inl rfl)
      refine ⟨i1.trans hS, fun hz => ?_, fun j hj hT ht => ?_⟩
      · show fuS (cu1 c) 0 c u (-1) p (fuL (cu1 c) 0 c u (-1) p (st μ 4 0 0 (nI u))) = _
        unfold fuS
        rw [e06, e10, eth, hz p (by omega)]
        exact i2 fun j hj => hz j (by omega)
      · by_cases e : j = p
        · subst e
          show HasD c _ (fuS (cu1 c) 0 c u (-1) j (fuL (cu1 c) 0 c u (-1) j (st μ 4 0 0 (nI u))))
          unfold fuS
          obtain ⟨T, h1, h2, h3, Q2, h4, h5⟩ := m1.at hu (p := j) (by rw [e6]; omega)
          rw [e10] at h2 h3
          rw [e06, e10, eth, if_pos ht, if_pos hT, if_pos rfl, h3]
          rw [h3] at hT
          exact (ad_FX m2 hT h5 h4).2
        · exact hS.has m2 (i3 j (by omega) hT ht)
  obtain ⟨g1, g2, g3⟩ := key (tN (μ 6 u 4)) (Nat.le_refl _)
  obtain ⟨n', a1, a2, a3⟩ := g1.2 0 k2
  have eM : fu0 c u (-1) μ = fuL (cu1 c) 0 c u (-1) (tN (μ 6 u 4)) (st μ 4 0 0 (nI u)) := rfl
  rw [eM]
  obtain ⟨q, hq⟩ := hB
  obtain ⟨m, o, b1, b2, b3, b4, b5⟩ := hq u hu
  have hm : tN (μ 6 u 4) = m := by rw [b2, tN_nI (by omega)]
  refine ⟨n', a2, hw.1.trans g1.1, fun hz => ?_, fun t ht hth9 => ?_⟩
  · have := g2 fun j hj => by
      rw [hm] at hj
      obtain ⟨h1, h2⟩ := b3 j hj
      rw [h2, tN_nI (by omega)]
      rw [coN_m1] at hz
      cases e : thB μ u (μ 0 0 6) (o j)
      · rfl
      · have := ct_lt e (m := 16) h1
        omega
    rw [this] at a2
    have h1 := a2.vn.2
    have h2 := k2.vn.2
    omega
  · have hex : ∃ p, p < m ∧ o p = t := by
      rcases b5 t (by omega) with ⟨c9, -⟩ | ⟨-, c9, -⟩
      · exfalso
        unfold thB at hth9
        rw [decide_eq_true c9] at hth9
        cases hth9
      · exact c9
    obtain ⟨p, hp1, hp2⟩ := hex
    have e10 : tN (μ 10 u p) = t := by rw [(b3 p hp1).2, tN_nI (by have := (b3 p hp1).1; omega), hp2]
    have := g3 p (by omega) (by rw [e10]; exact ht) (by rw [e10]; exact hth9)
    rw [e10] at this
    unfold HasD at this
    rw [a2.vn.2] at this
    exact this
end
section
/-! what holds of the object: K calls, the time t, q registrations -/
def IX (K t q : Nat) (μ : Mem) : Prop := K ≤ 12 ∧ μ 0 0 5 = nI K ∧ μ 0 0 6 = nI t ∧ t < 2 ^ 20 ∧ q < 2 ^ 20 ∧ (∀ u, u < 6 → RB q u μ ∧ coN μ u (-1) (nI t) ≤ 6) ∧ (∀ c, c < K → ∃ n, CR c n μ) ∧ ∀ c, K ≤ c → c < 20 → RNew c μ
theorem IX.K5 {K t q : Nat} {μ : Mem} (h : IX K t q μ) : tN (μ 0 0 5) = K ∧ vN (μ 0 0 5) 20 := by
  have := h.1
  rw [h.2.1, tN_nI (by omega)]
  exact ⟨rfl, vN_nI (by omega) (by decide)⟩
theorem IX.bq {K t q : Nat} {μ : Mem} (h : IX K t q μ) : BQ μ := ⟨q, fun u hu => (h.2.2.2.2.2.1 u hu).1⟩
theorem IX.ki {K t q : Nat} {μ : Mem} (h : IX K t q μ) : KI μ := by
  intro c hc
  by_cases e : c < K
  · obtain ⟨n, ⟨a1, a2, -, -, -, s, a3, a4⟩, -⟩ := h.2.2.2.2.2.2.1 c e
    rw [a2, a4]
    exact ⟨vN_nI a1 (by decide), vN_nI a3 (by decide)⟩
  · obtain ⟨a1, a2, -⟩ := h.2.2.2.2.2.2.2 c (by omega) hc
    rw [a1, a2]
    exact ⟨vN_nI (n := 0) (by decide) (by decide), vN_nI (n := 11) (by decide) (by decide)⟩
theorem ok_c {K c : Nat} {μ : Mem} (h : μ 0 0 5 = nI K) (hK : K ≤ 20) (hc : c < K) : okC μ (nI c) := by
  unfold okC
  rw [h, nI_s1 (by omega)]
  rintro (q | q)
  · exact nI_pos (by omega) q
  · rw [nI_ltI (by omega) (by omega)] at q
    omega
theorem ok_b {c n b : Nat} {μ : Mem} (h : μ 11 c 4 = nI n) (hc : c < 20) (hn : n ≤ 12) (hb : b < n) : okB μ (nI c) (nI b) := by
  unfold okB
  rw [tN_nI (by omega), h, nI_s1 (by omega)]
  rintro (q | q)
  · exact nI_pos (by omega) q
  · rw [nI_ltI (by omega) (by omega)] at q
    omega
theorem RNew.cong {c : Nat} {μ μ' : Mem} (h : RNew c μ) (h11 : ∀ i, μ' 11 c i = μ 11 c i) (h15 : ∀ i, μ' 15 c i = μ 15 c i) : RNew c μ' := by
  unfold RNew at h ⊢
  simp only [h11, h15]
  exact h
theorem coN_cong {μ μ' : Mem} {u : Nat} {x now : Int32} (h9 : ∀ i, μ' 9 u i = μ 9 u i) (h8 : ∀ i, μ' 8 u i = μ 8 u i) : coN μ' u x now = coN μ u x now := ctB_cong fun i _ => by unfold coB thB; rw [h9, h8]
/-- nothing but one call, the sorting row, the way and the counts of hang-ups has changed -/
theorem IX.call1 {K t q c : Nat} {μ μ' : Mem} (h : IX K t q μ) (hcr : ∃ n, CR c n μ') (hc : c < K) (hA : ∀ k o i, k < 16 → k ≠ 3 → k ≠ 4 → k ≠ 5 → ¬ (11 ≤ k ∧ o = c) → μ' k o i = μ k o i) : IX K t q μ' := by
  obtain ⟨h1, h2, h3, h4, h5, h6, h7, h8⟩ := h
  have g : ∀ k o i, k < 11 → k ≠ 3 → k ≠ 4 → k ≠ 5 → μ' k o i = μ k o i := fun k o i a b d e => hA k o i (by omega) b d e (by omega)
  refine ⟨h1, by rw [g 0 0 5 (by decide) (by decide) (by decide) (by decide)]; exact h2, by rw [g 0 0 6 (by decide) (by decide) (by decide) (by decide)]; exact h3, h4, h5, fun u hu => ⟨(h6 u hu).1.cong (Nat.le_refl q) (fun k i a b => g k u i b (by omega) (by omega) (by omega)), ?_⟩, fun d hd => ?_, fun d hd1 hd2 => ?_⟩
  · rw [coN_cong (fun i => g 9 u i (by decide) (by decide) (by decide) (by decide)) (fun i => g 8 u i (by decide) (by decide) (by decide) (by decide))]
    exact (h6 u hu).2
  · by_cases e : d = c
    · subst e; exact hcr
    · obtain ⟨n, hn⟩ := h7 d hd
      exact ⟨n, hn.cong fun k i a b => hA k d i b (by omega) (by omega) (by omega) (fun q => e q.2)⟩
  · exact (h8 d hd1 hd2).cong (fun i => hA 11 d i (by decide) (by decide) (by decide) (by decide) (fun q => by omega)) (fun i => hA 15 d i (by decide) (by decide) (by decide) (by decide) (fun q => by omega))
theorem IX.cong {K t q : Nat} {μ μ' : Mem} (h : IX K t q μ) (hA : ∀ k o i, k < 16 → k ≠ 3 → k ≠ 4 → k ≠ 5 → μ' k o i = μ k o i) : IX K t q μ' := by
  obtain ⟨h1, h2, h3, h4, h5, h6, h7, h8⟩ := h
  refine ⟨h1, by rw [hA 0 0 5 (by decide) (by decide) (by decide) (by decide)]; exact h2, by rw [hA 0 0 6 (by decide) (by decide) (by decide) (by decide)]; exact h3, h4, h5, fun u hu => ⟨(h6 u hu).1.cong (Nat.le_refl q) (fun k i a b => hA k u i (by omega) (by omega) (by omega) (by omega)), ?_⟩, fun d hd => ?_, fun d hd1 hd2 => ?_⟩
  · rw [coN_cong (fun i => hA 9 u i (by decide) (by decide) (by decide) (by decide)) (fun i => hA 8 u i (by decide) (by decide) (by decide) (by decide))]
    exact (h6 u hu).2
  · obtain ⟨n, hn⟩ := h7 d hd
    exact ⟨n, hn.cong fun k i a b => hA k d i b (by omega) (by omega) (by omega)⟩
  · exact (h8 d hd1 hd2).cong (fun i => hA 11 d i (by decide) (by decide) (by decide) (by decide)) (fun i => hA 15 d i (by decide) (by decide) (by decide) (by decide))
/-- a registration -/
theorem IX.reg {K t q u tg Q T : Nat} {μ : Mem} (h : IX K t q μ) (hu : u < 6) (htg : tg < 16) (hQ : Q ≤ 10) (hT : T ≤ 1000) (hq1 : q + 1 < 2 ^ 20) (hc : 0 < T → coN μ u (nI tg) (nI t) < 6) :
    IX K t (q + 1) (rgM' μ u (nI tg) (nI Q) (nI T) (nI q)) ∧ coN (rgM' μ u (nI tg) (nI Q) (nI T) (nI q)) u (-1) (nI t) + (if thB μ u (nI t) tg = true then 1 else 0) = coN μ u (-1) (nI t) + (if 0 < T then 1 else 0) ∧ (∀ k o i, k < 6 ∨ 11 ≤ k ∨ o ≠ u → rgM' μ u (nI tg) (nI Q) (nI T) (nI q) k o i = μ k o i) := by
  obtain ⟨h1, h2, h3, h4, h5, h6, h7, h8⟩ := h
  have eM : rgM' μ u (nI tg) (nI Q) (nI T) (nI q) = puM μ u (tN (μ 6 u 4)) tg (nI Q) (nI (t + T)) (nI q) := by
    unfold rgM'
    rw [h3, nI_add, tN_nI (by omega)]
  rw [eM]
  have e8 : (!decide (nI q = -1) && !decide (nI (t + T) ≤ nI t)) = decide (0 < T) := by
    rw [decide_eq_false (nI_m1 (by omega)), Bool.not_false, Bool.true_and]
    by_cases z : 0 < T
    · rw [decide_eq_true z, decide_eq_false (fun q => by have := (nI_leI (by omega) (by omega)).mp q; omega)]; rfl
    · rw [decide_eq_false z, decide_eq_true ((nI_leI (by omega) (by omega)).mpr (by omega))]; rfl
  have hcp := co_pu (μ := μ) (u := u) (m := tN (μ 6 u 4)) (q := nI Q) (e := nI (t + T)) (s := nI q) (now := nI t) htg
  rw [e8] at hcp
  have hcp2 : coN (puM μ u (tN (μ 6 u 4)) tg (nI Q) (nI (t + T)) (nI q)) u (-1) (nI t) + (if thB μ u (nI t) tg = true then 1 else 0) = coN μ u (-1) (nI t) + (if 0 < T then 1 else 0) := by
    rw [hcp]
    by_cases z : 0 < T
    · rw [if_pos z, if_pos (decide_eq_true z)]
    · rw [if_neg z, if_neg (by rw [decide_eq_false z]; decide)]
  have hk : ∀ k o i, k < 6 ∨ 11 ≤ k ∨ o ≠ u → puM μ u (tN (μ 6 u 4)) tg (nI Q) (nI (t + T)) (nI q) k o i = μ k o i := fun k o i hh => puM_k hh
  refine ⟨⟨h1, by rw [hk 0 0 5 (Or.inl (by decide))]; exact h2, by rw [hk 0 0 6 (Or.inl (by decide))]; exact h3, h4, hq1, fun v hv => ?_, fun d hd => ?_, fun d hd1 hd2 => ?_⟩, hcp2, hk⟩
  · by_cases e : v = u
    · subst e
      refine ⟨(h6 v hv).1.pu (by omega) htg hQ (by omega), ?_⟩
      by_cases z : 0 < T
      · have hl := coN_left (μ := μ) (u := v) (now := nI t) htg
        have := hc z
        rw [if_pos z] at hcp2
        omega
      · rw [if_neg z] at hcp2
        have := (h6 v hv).2
        omega
    · refine ⟨(h6 v hv).1.cong (Nat.le_succ q) (fun k i _ _ => hk k v i (Or.inr (Or.inr e))), ?_⟩
      rw [coN_cong (fun i => hk 9 v i (Or.inr (Or.inr e))) (fun i => hk 8 v i (Or.inr (Or.inr e)))]
      exact (h6 v hv).2
  · obtain ⟨n, hn⟩ := h7 d hd
    exact ⟨n, hn.cong fun k i a b => hk k d i (Or.inr (Or.inl a))⟩
  · exact (h8 d hd1 hd2).cong (fun i => hk 11 d i (Or.inr (Or.inl (by decide)))) (fun i => hk 15 d i (Or.inr (Or.inl (by decide))))
/-! time goes by -/
def EN (μ : Mem) (K : Nat) : Nat := ctB (fun c => !decide (μ 11 c 8 = -1)) K
theorem etM_9 {c n s : Nat} {now : Int32} {μ : Mem} : etM μ c n s now 11 c 9 = μ 11 c 9 := by
  have hgo : ∀ ν : Mem, goOnM ν c n s now 11 c 9 = ν 11 c 9 := fun ν => by
    unfold goOnM gfM
    split
    · exact go_11 (by decide) (by decide) s ν
    · rw [st_i (by decide)]; exact go_11 (by decide) (by decide) s ν
  unfold etM
  split
  · split
    · rw [hgo]; exact rgM_k (by decide)
    · rfl
  · rfl
theorem lc_sp {K : Nat} {μ : Mem} (hK : K ≤ 20) (hI : KI μ) (hR : ∀ c, c < K → ∃ n, CR c n μ) : ∀ c, c ≤ K → (∀ c', c' < K → ∃ n, CR c' n (lcM c μ)) ∧ (∀ k o i, c ≤ o → lcM c μ k o i = μ k o i) ∧ (∀ k o i, ¬ (k = 14 ∨ (k = 11 ∧ i ≠ 9)) → lcM c μ k o i = μ k o i) ∧ EN (lcM c μ) c = EN μ c + lcN c μ
  | 0, _ => ⟨hR, fun _ _ _ _ => rfl, fun _ _ _ _ => rfl, rfl⟩
  | c + 1, h => by
    obtain ⟨h1, h2, h3, h4⟩ := lc_sp hK hI hR c (by omega)
    obtain ⟨kI, -⟩ := lcM_ok hI c (by omega)
    have g : GC c (lcM c μ) (lcM (c + 1) μ) := GC_etM (kI c (by omega)).2.2
    obtain ⟨n, hn⟩ := h1 c (by omega)
    have e4 : tN (lcM c μ 11 c 4) = n := by rw [hn.n.2, tN_nI (by have := hn.n.1; omega)]
    have eM : lcM (c + 1) μ = etM (lcM c μ) c n (tN (lcM c μ 11 c 5)) (lcM c μ 0 0 6) := by
      show etM' (lcM c μ) c = _
      unfold etM'
      rw [e4]
    have eI : etI' (lcM c μ) c = etI (lcM c μ) c n (tN (lcM c μ 11 c 5)) (lcM c μ 0 0 6) := by
      unfold etI'
      rw [e4]
    obtain ⟨t1, t2, t3⟩ := CR_tick (now := lcM c μ 0 0 6) hn
    rw [← eM] at t1 t2 t3
    rw [← eI] at t2
    refine ⟨fun c' hc' => ?_, fun k o i ho => ?_, fun k o i hk => ?_, ?_⟩
    · by_cases e : c' = c
      · subst e; exact ⟨n, t1⟩
      · obtain ⟨n', hn'⟩ := h1 c' hc'
        exact ⟨n', hn'.cong fun k i _ _ => g.o e⟩
    · rw [g.o (by omega)]; exact h2 k o i (by omega)
    · by_cases e : o = c
      · subst e
        by_cases e11 : k = 11 ∧ i = 9
        · obtain ⟨rfl, rfl⟩ := e11
          rw [eM, etM_9]
          exact h3 11 o 9 (by omega)
        · rw [g.k (by omega) (by omega)]; exact h3 k o i hk
      · rw [g.o e]; exact h3 k o i hk
    · have e8 : lcM c μ 11 c 8 = μ 11 c 8 := h2 11 c 8 (Nat.le_refl c)
      have ec : ctB (fun o => !decide (lcM (c + 1) μ 11 o 8 = -1)) c = EN (lcM c μ) c := ctB_cong fun o ho => by rw [g.o (by omega)]
      show ctB (fun o => !decide (lcM (c + 1) μ 11 o 8 = -1)) c + (if (!decide (lcM (c + 1) μ 11 c 8 = -1)) = true then 1 else 0) = EN μ c + (if (!decide (μ 11 c 8 = -1)) = true then 1 else 0) + (lcN c μ + (if etI' (lcM c μ) c = 0 then 0 else 1))
      rw [ec, h4]
      rw [e8] at t2 t3
      by_cases z : μ 11 c 8 = -1
      · rw [decide_eq_true z]
        by_cases y : lcM (c + 1) μ 11 c 8 = -1
        · rw [decide_eq_true y, if_pos (t2.mpr fun _ => y)]
          simp
        · rw [decide_eq_false y, if_neg (fun q => y (t2.mp q z))]
          simp
          omega
      · rw [decide_eq_false z, decide_eq_false (t3 z), if_pos (t2.mpr fun q => absurd q z)]
        simp
        omega
theorem IX.tick {K t q : Nat} {μ : Mem} (h : IX K t q μ) (ht : t + 1 < 2 ^ 20) : IX K (t + 1) q (lcM K (tkM μ)) ∧ EN (lcM K (tkM μ)) K = EN μ K + lcN K (tkM μ) ∧ ∀ k o i, ¬ (k = 14 ∨ (k = 11 ∧ i ≠ 9)) → ¬ (k = 0 ∧ i = 6) → lcM K (tkM μ) k o i = μ k o i := by
  have hki := h.ki
  obtain ⟨h1, h2, h3, h4, h5, h6, h7, h8⟩ := h
  have etk : ∀ k o i, ¬ (k = 0 ∧ i = 6) → tkM μ k o i = μ k o i := fun k o i hh => if_neg (fun q => hh ⟨q.1, q.2.2⟩)
  have e06 : tkM μ 0 0 6 = nI (t + 1) := by
    show st μ 0 0 6 (μ 0 0 6 + 1) 0 0 6 = _
    rw [st_same, h3, nI_1]
  obtain ⟨g1, g2, g3, g4⟩ := lc_sp (by omega) (tkM_ok hki) (fun c hc => by
    obtain ⟨n, hn⟩ := h7 c hc
    exact ⟨n, hn.cong fun k i a b => etk k c i (by omega)⟩) K (Nat.le_refl K)
  have gk : ∀ k o i, ¬ (k = 14 ∨ (k = 11 ∧ i ≠ 9)) → ¬ (k = 0 ∧ i = 6) → lcM K (tkM μ) k o i = μ k o i := fun k o i a b => (g3 k o i a).trans (etk k o i b)
  refine ⟨⟨h1, by rw [gk 0 0 5 (by decide) (by decide)]; exact h2, by rw [g3 0 0 6 (by decide)]; exact e06, ht, h5, fun u hu => ⟨(h6 u hu).1.cong (Nat.le_refl q) (fun k i a b => gk k u i (by omega) (by omega)), ?_⟩, g1, fun c hc1 hc2 => ?_⟩, ?_, gk⟩
  · exact Nat.le_trans (co_later (fun i => gk 9 u i (by omega) (by omega)) (fun i => gk 8 u i (by omega) (by omega)) ((nI_leI (by omega) (by omega)).mpr (Nat.le_succ t))) (h6 u hu).2
  · exact (h8 c hc1 hc2).cong (fun i => (g2 11 c i hc1).trans (etk 11 c i (by omega))) (fun i => (g2 15 c i hc1).trans (etk 15 c i (by omega)))
  · rw [g4]
    congr 1
theorem IX.ps {K t q : Nat} {μ : Mem} (h : IX K t q μ) : ∀ i, t + i < 2 ^ 20 → IX K (t + i) q (psM i μ) ∧ (∃ d, psN i μ = nI d ∧ EN (psM i μ) K = EN μ K + d) ∧ ∀ k o j, ¬ (k = 14 ∨ (k = 11 ∧ j ≠ 9)) → ¬ (k = 0 ∧ j = 6) → psM i μ k o j = μ k o j
  | 0, _ => ⟨h, ⟨0, rfl, rfl⟩, fun _ _ _ _ _ => rfl⟩
  | i + 1, hi => by
    obtain ⟨g1, ⟨d, g2, g3⟩, g4⟩ := IX.ps h i (by omega)
    obtain ⟨f1, f2, f3⟩ := g1.tick (by omega)
    have eK := h.K5.1
    have eM : psM (i + 1) μ = lcM K (tkM (psM i μ)) := by
      show lcM (tN (μ 0 0 5)) _ = _
      rw [eK]
    have eN : psN (i + 1) μ = psN i μ + nI (lcN K (tkM (psM i μ))) := by
      show psN i μ + nI (lcN (tN (μ 0 0 5)) _) = _
      rw [eK]
    rw [eM, eN]
    refine ⟨f1, ⟨d + lcN K (tkM (psM i μ)), by rw [g2, nI_add], by rw [f2, g3]; omega⟩, fun k o j a b => (f3 k o j a b).trans (g4 k o j a b)⟩
end
section
/-! a call begins, is answered, is cancelled -/
theorem IX.call {K t q u : Nat} {μ : Mem} (h : IX K t q μ) (hK : K < 12) (hu : u < 6) :
    IX (K + 1) t q (clM μ u) ∧ (∀ k o i, (k < 4 ∨ (5 < k ∧ k < 11) ∨ 15 < k) → ¬ (k = 0 ∧ i = 5) → clM μ u k o i = μ k o i) ∧ (∀ k o i, 11 ≤ k → o ≠ K → clM μ u k o i = μ k o i) ∧ clM μ u 11 K 7 = -1 ∧ clM μ u 11 K 9 = 0 ∧
    ∃ n, CR K n (clM μ u) ∧ (coN μ u (-1) (nI t) = 0 → n = 0) ∧ (n = 0 → clM μ u 11 K 8 = 480) ∧ (∀ b, b < n → (clM μ u 12 K b = -1 ∧ (clM μ u 14 K b = 482 ∨ clM μ u 14 K b = 483)) ∨ (¬ clM μ u 12 K b = -1 ∧ (clM μ u 14 K b = 0 ∨ clM μ u 14 K b = 100))) ∧
      ∀ tg, tg < 10 → thB μ u (nI t) tg = true → (∃ b, b < n ∧ clM μ u 12 K b = nI tg) ∨ n = 12 := by
  have hB := h.bq
  have eK := h.K5.1
  obtain ⟨h1, h2, h3, h4, h5, h6, h7, h8⟩ := h
  obtain ⟨a4, a5, a7, a8, a9, a15⟩ := h8 K (Nat.le_refl K) (by omega)
  have hp0 : PC K 0 μ := ⟨by decide, by rw [a4]; decide, fun b hb => absurd hb (Nat.not_lt_zero b), fun b b' hb => absurd hb (Nat.not_lt_zero b), fun b hb => absurd hb (Nat.not_lt_zero b), fun b hb => absurd hb (Nat.not_lt_zero b)⟩
  obtain ⟨n, f1, f2, f3, f4⟩ := fu0_sp hu hB hp0
  rw [h3] at f3 f4
  have fr := f2.1
  have c11 : ∀ i, i ≠ 4 → fu0 K u (-1) μ 11 K i = μ 11 K i := fun i hi => fr.2 K i hi
  have c15 : ∀ o i, fu0 K u (-1) μ 15 o i = μ 15 o i := fun o i => fr.1 15 o i (by decide) (by decide) (by decide) (by decide) (by decide)
  obtain ⟨g1, g2, g3, g4, g5, g6⟩ := CR_begin (now := nI t) f1 ((c11 5 (by decide)).trans a5) ((c11 7 (by decide)).trans a7) ((c11 8 (by decide)).trans a8) ((c11 9 (by decide)).trans a9) (fun b hb => (c15 K b).trans (a15 b hb))
  have eM : clM μ u = st (bgM (fu0 K u (-1) μ) K n 11 (nI t)) 0 0 5 (nI (K + 1)) := by
    unfold clM
    rw [eK, f1.vn.2, a5, h3]
    rfl
  have hG : GC K (fu0 K u (-1) μ) (bgM (fu0 K u (-1) μ) K n 11 (nI t)) := GC_bgM (by decide)
  have e11 : ∀ k i, 11 ≤ k → clM μ u k K i = bgM (fu0 K u (-1) μ) K n 11 (nI t) k K i := fun k i hk => by rw [eM, st_k (by omega)]
  have e5 : clM μ u 0 0 5 = nI (K + 1) := by rw [eM, st_same]
  have ek : ∀ k o i, (k < 4 ∨ (5 < k ∧ k < 11) ∨ 15 < k) → ¬ (k = 0 ∧ i = 5) → clM μ u k o i = μ k o i := fun k o i hk hh => by
    rw [eM, show st (bgM (fu0 K u (-1) μ) K n 11 (nI t)) 0 0 5 (nI (K + 1)) k o i = bgM (fu0 K u (-1) μ) K n 11 (nI t) k o i from if_neg (fun q => hh ⟨q.1, q.2.2⟩), hG.k (by omega) (by omega)]
    exact fr.1 k o i (by omega) (by omega) (by omega) (by omega) (by omega)
  have eo : ∀ k o i, 11 ≤ k → o ≠ K → clM μ u k o i = μ k o i := fun k o i hk ho => by
    rw [eM, st_k (by omega), hG.o ho]
    exact f2.2.2 k o i hk ho
  have hcr : CR K n (clM μ u) := g1.cong fun k i a b => e11 k i a
  have e14 : ∀ b, clM μ u 14 K b = bgM (fu0 K u (-1) μ) K n 11 (nI t) 14 K b := fun b => e11 14 b (by decide)
  have e12 : ∀ b, clM μ u 12 K b = fu0 K u (-1) μ 12 K b := fun b => (e11 12 b (by decide)).trans (g5 b)
  refine ⟨⟨by omega, e5, by rw [ek 0 0 6 (Or.inl (by decide)) (by decide)]; exact h3, h4, h5, fun v hv => ⟨(h6 v hv).1.cong (Nat.le_refl q) (fun k i a b => ek k v i (Or.inr (Or.inl ⟨by omega, b⟩)) (by omega)), ?_⟩, fun c hc => ?_, fun c hc1 hc2 => ?_⟩, ek, eo, (e11 11 7 (by decide)).trans g2, (e11 11 9 (by decide)).trans g4, n, hcr, f3, fun q => (e11 11 8 (by decide)).trans (g3 q), fun b hb => ?_, fun tg htg hth => ?_⟩
  · rw [coN_cong (fun i => ek 9 v i (Or.inr (Or.inl ⟨by decide, by decide⟩)) (by omega)) (fun i => ek 8 v i (Or.inr (Or.inl ⟨by decide, by decide⟩)) (by omega))]
    exact (h6 v hv).2
  · by_cases e : c = K
    · subst e; exact ⟨n, hcr⟩
    · obtain ⟨n', hn'⟩ := h7 c (by omega)
      exact ⟨n', hn'.cong fun k i a b => eo k c i a e⟩
  · exact (h8 c (by omega) hc2).cong (fun i => eo 11 c i (by decide) (by omega)) (fun i => eo 15 c i (by decide) (by omega))
  · rcases f1.2.2.2.2.2 b hb with ⟨q1, q2⟩ | ⟨q1, q2⟩
    · refine Or.inr ⟨by rw [e12]; exact q2, ?_⟩
      rw [e14]
      rcases g6 b hb with r | r
      · exact Or.inl (r.trans q1)
      · exact Or.inr r
    · refine Or.inl ⟨by rw [e12]; exact q2, ?_⟩
      rw [e14]
      rcases g6 b hb with r | r
      · rw [r]; exact q1
      · exfalso
        rcases hcr.2.1 b hb with ⟨r1, -⟩ | ⟨-, -, r1, -⟩ | r1
        · rw [e14, r] at r1; exact absurd r1 (by decide)
        · rw [e12] at r1; exact r1 q2
        · rw [e14, r] at r1; exact absurd r1 (by decide)
  · rcases f4 tg htg hth with ⟨b, hb, e⟩ | e
    · exact Or.inl ⟨b, hb, by rw [e12]; exact e⟩
    · exact Or.inr e
/-- an answer to an open branch -/
theorem an_open {c n b : Nat} {μ : Mem} {d : Nat} {cd : Int32} (h : CR c n μ) (hb : b < n) (ho : sOp (μ 14 c b)) (hd : μ 12 c b = nI d) (hd10 : d < 10) :
    anBr μ c (nI d) = b ∧ anOk2 μ c (nI d) cd ∧ anM μ c (nI d) cd = taM μ c n (tN (μ 11 c 5)) b cd (μ 0 0 6) := by
  have hn := h.n
  have en : tN (μ 11 c 4) = n := by rw [hn.2, tN_nI (by omega)]
  have hbr : fsB (fun i => decide (μ 12 c i = nI d)) n = b := by
    refine fsB_at (decide_eq_true hd) (fun j hj => decide_eq_false fun q => ?_) hb
    have := h.1.2.2.2.1 j b (by omega) hb (q.trans hd.symm) (by rw [q]; exact nI_m1 (by omega))
    omega
  have e1 : anBr μ c (nI d) = b := by
    unfold anBr
    rw [en, hbr]
  have hne := sOp_lt ho
  refine ⟨e1, ⟨?_, ?_, Or.inl ?_⟩, ?_⟩
  · unfold frI
    rw [en, hbr, if_pos hb]
    exact nI_m1 (by omega)
  · rw [e1]
    rcases h.2.1 b hb with ⟨q, -⟩ | ⟨-, q, -⟩ | q
    · rw [q] at ho; rcases ho with z | z <;> exact absurd z (by decide)
    · exact q
    · exact absurd q hne
  · rw [e1]; exact hne
  · unfold anM
    rw [e1, if_neg hne, en]
theorem IX.answer {K t q c n b d : Nat} {cd : Int32} {μ : Mem} (h : IX K t q μ) (hc : c < K) (hn : CR c n μ) (hb : b < n) (ho : sOp (μ 14 c b)) (hd : μ 12 c b = nI d) (hd10 : d < 10) (hx : cd = 180 ∨ 200 ≤ cd) :
    IX K t q (anM μ c (nI d) cd) ∧ CR c n (anM μ c (nI d) cd) ∧ (∀ k o i, k ≠ 14 → k ≠ 11 → anM μ c (nI d) cd k o i = μ k o i) ∧ (∀ o, anM μ c (nI d) cd 11 o 9 = μ 11 o 9) ∧ anM μ c (nI d) cd 14 c b = cd ∧ (cd = 180 → anM μ c (nI d) cd 11 c 8 = -1) ∧ (¬ cd = 180 → ¬ 300 ≤ cd → anM μ c (nI d) cd 11 c 8 = cd ∧ anM μ c (nI d) cd 11 c 7 = nI b ∧ ∀ i, i < n → 200 ≤ anM μ c (nI d) cd 14 c i) ∧ (cd = 180 ∨ 300 ≤ cd → anM μ c (nI d) cd 11 c 7 = -1) ∧ (600 ≤ cd → anM μ c (nI d) cd 11 c 8 = cd ∧ ∀ i, i < n → 200 ≤ anM μ c (nI d) cd 14 c i) := by
  obtain ⟨-, -, e⟩ := an_open (cd := cd) hn hb ho hd hd10
  rw [e]
  obtain ⟨s, hs, es⟩ := hn.1.2.2.2.2.2
  have ets : tN (μ 11 c 5) = s := by rw [es, tN_nI (by omega)]
  rw [ets]
  obtain ⟨r1, r2, r3, r4, r5, r6⟩ := CR_ans (now := μ 0 0 6) hn hb ho hs es hx
  have g : GC c μ (taM μ c n s b cd (μ 0 0 6)) := GC_taM hs
  have g9 : taM μ c n s b cd (μ 0 0 6) 11 c 9 = μ 11 c 9 := by
    unfold taM
    split
    · exact st_k (by decide)
    · split
      · split
        · unfold goOnM gfM
          split
          · exact (go_11 (by decide) (by decide) s _).trans (st_k (by decide))
          · rw [st_i (by decide)]; exact (go_11 (by decide) (by decide) s _).trans (st_k (by decide))
        · rw [st_i (by decide), eoM_k (by decide)]; exact st_k (by decide)
      · rw [st_i (by decide), eoM_k (by decide), st_i (by decide)]; exact st_k (by decide)
  refine ⟨h.call1 ⟨n, r1⟩ hc (fun k o i hk h3 h4 h5 hh => ?_), r1, fun k o i a b => g.k a b, fun o => ?_, r2, r3, r4, r5, r6⟩
  · by_cases z : o = c
    · exact g.k (by omega) (by omega)
    · exact g.o z
  · by_cases z : o = c
    · subst z; exact g9
    · exact g.o z
/-- a call is cancelled -/
theorem IX.cancel {K t q c n : Nat} {μ : Mem} (h : IX K t q μ) (hc : c < K) (hn : CR c n μ) (hf : μ 11 c 8 = -1) :
    IX K t q (caM μ c n) ∧ (∀ k o i, k ≠ 14 → k ≠ 11 → caM μ c n k o i = μ k o i) ∧ (∀ o i, o ≠ c → caM μ c n 11 o i = μ 11 o i) := by
  have g : GC c μ (caM μ c n) := GC_caM
  refine ⟨h.call1 ⟨n, (CR_cancel hn hf).1⟩ hc (fun k o i hk h3 h4 h5 hh => ?_), fun k o i a b => g.k a b, fun o i ho => g.o ho⟩
  by_cases z : o = c
  · exact g.k (by omega) (by omega)
  · exact g.o z
/-- an answer too much is hung up -/
theorem IX.hung {K t q c n b d : Nat} {μ : Mem} (h : IX K t q μ) (hc : c < K) (hn : CR c n μ) (hb : b < n) (hd : μ 12 c b = nI d) (hd10 : d < 10) (hs : μ 11 c 5 ≤ μ 13 c b) (h14 : μ 14 c b = 487) (h15 : μ 15 c b = 0) :
    anOk2 μ c (nI d) 200 ∧ anM μ c (nI d) 200 = st (st μ 15 c b 1) 3 0 d (μ 3 0 d + 1) ∧ IX K t q (anM μ c (nI d) 200) := by
  have hn4 := hn.n
  have en : tN (μ 11 c 4) = n := by rw [hn4.2, tN_nI (by omega)]
  have hbr : fsB (fun i => decide (μ 12 c i = nI d)) n = b := by
    refine fsB_at (decide_eq_true hd) (fun j hj => decide_eq_false fun q => ?_) hb
    have := hn.1.2.2.2.1 j b (by omega) hb (q.trans hd.symm) (by rw [q]; exact nI_m1 (by omega))
    omega
  have e1 : anBr μ c (nI d) = b := by
    unfold anBr
    rw [en, hbr]
  have h2 : 200 ≤ μ 14 c b := by rw [h14]; decide
  have eM : anM μ c (nI d) 200 = st (st μ 15 c b 1) 3 0 d (μ 3 0 d + 1) := by
    unfold anM
    rw [e1, if_pos h2, tN_nI (by omega)]
  refine ⟨⟨?_, ?_, Or.inr ⟨⟨by decide, by decide⟩, Or.inl ?_, ?_⟩⟩, eM, ?_⟩
  · unfold frI
    rw [en, hbr, if_pos hb]
    exact nI_m1 (by omega)
  · rw [e1]; exact hs
  · rw [e1]; exact h14
  · rw [e1]; exact h15
  · rw [eM]
    refine h.call1 ⟨n, (CR_hung hn h2).cong fun k i a b => st_k (by omega)⟩ hc (fun k o i hk h3 h4 h5 hh => ?_)
    rw [st_k h3]
    exact if_neg (fun q => hh ⟨by omega, q.2.1⟩)
theorem fsM_k {μ : Mem} {c n k o i : Nat} (h : k ≠ 5) : fsM μ c n k o i = μ k o i := by
  unfold fsM
  split
  · rfl
  · exact soM_k h n μ
/-- what is told by sorting -/
theorem CR.sort {c n : Nat} {μ : Mem} (h : CR c n μ) (hf : ¬ μ 11 c 8 = -1) : fsI μ c n = μ 11 c 8 := by
  obtain ⟨-, -, hx⟩ := h
  rcases hx with ⟨q, -⟩ | ⟨e1, e2, e3⟩
  · exact absurd q.1 hf
  · rcases e3 with ⟨r1, r2, -⟩ | ⟨r1, r2, r3, -⟩ | ⟨r1, r2, r3, -⟩ | ⟨r1, r2, a, ha, r3, r4, r5, r6⟩
    · unfold fsI
      rw [if_pos r1, r2]
    · unfold fsI
      rw [if_neg r1, if_pos (Or.inl r2), r3]
    · rw [fsI_eq r1 r2 e2, r3]
    · rw [fsI_eq r1 r2 e2, be_ans ha rfl (e2 a ha) r5 r6, r4]
end
section
/-! the class's calls, as the law makes them: in numbers -/
section NPUB
variable {E : EE} {μ : Mem} {K t q : Nat}
theorem okU_nI {u : Nat} (h : u < 6) : okU (nI u) := by
  unfold okU
  rintro (z | z)
  · exact nI_pos (by omega) z
  · have := (nI_ltI (a := 5) (b := u) (by decide) (by omega)).mp z
    omega
theorem N_bindings (h : IX K t q μ) (u th : Nat) (hu : u < 6) (hv : coN μ u (-1) (nI t) = th) : MM E yX2_bindings cX2_bindings 2 (some .int) (rm 4 0) [.ref (ad E 0 0), .int (nI u)] μ (some (.int (nI th))) μ := by
  have hh := C_X2_bindings (E := E) (μ := μ) (nI u) (okU_nI hu)
  rwa [tN_nI (by omega), h.2.2.1, hv] at hh
theorem N_binding (h : IX K t q μ) (u k : Nat) (v : Int32) (hu : u < 6) (hk : ¬ taI μ u (tN (μ 6 u 4)) (nI k) (nI t) = -1) (hv : 100 * taI μ u (tN (μ 6 u 4)) (nI k) (nI t) + μ 7 u (tN (taI μ u (tN (μ 6 u 4)) (nI k) (nI t))) = v) : MM E yX2_binding cX2_binding 5 (some .int) (rm 3 0) [.ref (ad E 0 0), .int (nI u), .int (nI k)] μ (some (.int v)) μ := by
  have e : tN (nI u) = u := tN_nI (by omega)
  have hh := C_X2_binding (E := E) (μ := μ) (nI u) (nI k) h.bq.bi (okU_nI hu) (by rw [e, h.2.2.1]; exact hk)
  rwa [e, h.2.2.1, hv] at hh
theorem N_register (h : IX K t q μ) (u tg Q T : Nat) (v : Nat) (hu : u < 6) (htg : tg < 16) (hQ : Q ≤ 10) (hT : T ≤ 1000) (hq : q ≤ 10000) (hc : 0 < T → coN μ u (nI tg) (nI t) < 6) (hv : coN (rgM' μ u (nI tg) (nI Q) (nI T) (nI q)) u (-1) (nI t) = v) : MM E yX2_register cX2_register 7 (some .int) (rm 4 0) [.ref (ad E 0 0), .int (nI u), .int (nI tg), .int (nI Q), .int (nI T), .int (nI q)] μ (some (.int (nI v))) (rgM' μ u (nI tg) (nI Q) (nI T) (nI q)) := by
  have e : tN (nI u) = u := tN_nI (by omega)
  have et : tN (nI tg) = tg := tN_nI (by omega)
  have ou : ∀ (a M : Nat), a ≤ M → M < 2 ^ 31 → ¬ (nI a < 0 ∨ nI M < nI a) := fun a M h1 h2 => by
    rintro (z | z)
    · exact nI_pos (by omega) z
    · have := (nI_ltI h2 (by omega)).mp z
      omega
  have hh := C_X2_register (E := E) (μ := μ) (nI u) (nI tg) (nI Q) (nI T) (nI q) h.bq.bi (okU_nI hu) ⟨ou tg 15 (by omega) (by decide), ou Q 10 hQ (by decide), ou T 1000 hT (by decide), ou q 10000 hq (by decide)⟩ (by
    rw [e]
    refine ⟨?_, ?_⟩
    · rw [et]
      obtain ⟨m, o, b1, b2, b3, b4, b5⟩ := (h.2.2.2.2.2.1 u hu).1
      rcases b5 tg htg with ⟨c, -⟩ | ⟨⟨s, c1, c2⟩, -⟩
      · rw [c]
        have := nI_toInt (n := q) (by omega)
        simp only [Int32.lt_iff_toInt_lt, im1]; omega
      · rw [c2]; exact (nI_ltI (by omega) (by omega)).mpr c1
    · by_cases z : 0 < T
      · rw [h.2.2.1]
        exact Or.inr ((nI_ltI (b := 6) (by have := ctB_le (coB μ u (nI tg) (nI t)) 16; unfold coN; omega) (by decide)).mpr (hc z))
      · exact Or.inl (by rw [show T = 0 by omega]; decide))
  have e6 : rgM' μ u (nI tg) (nI Q) (nI T) (nI q) 0 0 6 = nI t := by
    unfold rgM'
    rw [puM_k (Or.inl (by decide))]
    exact h.2.2.1
  rwa [e, e6, hv] at hh
theorem N_call (h : IX K t q μ) (u : Nat) (hu : u < 6) (hK : K < 12) : MM E yX2_call cX2_call 3 (some .int) (rm 9 0) [.ref (ad E 0 0), .int (nI u)] μ (some (.int (nI K))) (clM μ u) := by
  have hh := C_X2_call (E := E) (μ := μ) (nI u) h.K5.2 h.bq.bi h.ki (okU_nI hu) (by rw [h.2.1]; exact (nI_ltI (b := 20) (by omega) (by decide)).mpr (by omega))
  rwa [tN_nI (by omega), h.2.1] at hh
theorem N_calls (h : IX K t q μ) : MM E yX2_calls cX2_calls 1 (some .int) (rm 1 0) [.ref (ad E 0 0)] μ (some (.int (nI K))) μ := by
  have hh := C_X2_calls (E := E) (μ := μ)
  rwa [h.2.1] at hh
theorem N_time (h : IX K t q μ) : MM E yX2_time cX2_time 1 (some .int) (rm 1 0) [.ref (ad E 0 0)] μ (some (.int (nI t))) μ := by
  have hh := C_X2_time (E := E) (μ := μ)
  rwa [h.2.2.1] at hh
theorem N_finalOf (h : IX K t q μ) (c : Nat) (hc : c < K) : MM E yX2_finalOf cX2_finalOf 2 (some .int) (rm 3 0) [.ref (ad E 0 0), .int (nI c)] μ (some (.int (μ 11 c 8))) μ := by
  have := h.1
  have hh := C_X2_finalOf (E := E) (μ := μ) (nI c) h.K5.2 (ok_c h.2.1 (by omega) hc)
  rwa [tN_nI (by omega)] at hh
theorem N_branches (h : IX K t q μ) (c n : Nat) (hc : c < K) (hn : μ 11 c 4 = nI n) : MM E yX2_branches cX2_branches 2 (some .int) (rm 3 0) [.ref (ad E 0 0), .int (nI c)] μ (some (.int (nI n))) μ := by
  have := h.1
  have hh := C_X2_branches (E := E) (μ := μ) (nI c) h.K5.2 (ok_c h.2.1 (by omega) hc)
  rwa [tN_nI (by omega), hn] at hh
theorem N_answered (h : IX K t q μ) (c : Nat) (hc : c < K) : MM E yX2_answered cX2_answered 2 (some .int) (rm 3 0) [.ref (ad E 0 0), .int (nI c)] μ (some (.int (μ 11 c 7))) μ := by
  have := h.1
  have hh := C_X2_answered (E := E) (μ := μ) (nI c) h.K5.2 (ok_c h.2.1 (by omega) hc)
  rwa [tN_nI (by omega)] at hh
theorem N_device (h : IX K t q μ) (c n b : Nat) (hc : c < K) (hn12 : n ≤ 12) (hn : μ 11 c 4 = nI n) (hb : b < n) : MM E yX2_device cX2_device 3 (some .int) (rm 4 0) [.ref (ad E 0 0), .int (nI c), .int (nI b)] μ (some (.int (μ 12 c b))) μ := by
  have := h.1
  have hh := C_X2_device (E := E) (μ := μ) (nI c) (nI b) h.K5.2 (fun c hc => (h.ki c hc).1) (ok_c h.2.1 (by omega) hc) (ok_b hn (by omega) hn12 hb)
  rwa [tN_nI (by omega), tN_nI (by omega)] at hh
theorem N_state (h : IX K t q μ) (c n b : Nat) (hc : c < K) (hn12 : n ≤ 12) (hn : μ 11 c 4 = nI n) (hb : b < n) : MM E yX2_state cX2_state 3 (some .int) (rm 4 0) [.ref (ad E 0 0), .int (nI c), .int (nI b)] μ (some (.int (μ 14 c b))) μ := by
  have := h.1
  have hh := C_X2_state (E := E) (μ := μ) (nI c) (nI b) h.K5.2 (fun c hc => (h.ki c hc).1) (ok_c h.2.1 (by omega) hc) (ok_b hn (by omega) hn12 hb)
  rwa [tN_nI (by omega), tN_nI (by omega)] at hh
theorem N_hungUp (d : Nat) (hd : d < 10) : MM E yX2_hungUp cX2_hungUp 2 (some .int) (rm 2 0) [.ref (ad E 0 0), .int (nI d)] μ (some (.int (μ 3 0 d))) μ := by
  have hh := C_X2_hungUp (E := E) (μ := μ) (nI d) (by
    rintro (z | z)
    · exact nI_pos (by omega) z
    · have := (nI_ltI (a := 9) (by decide) (by omega)).mp z
      omega)
  rwa [tN_nI (by omega)] at hh
theorem N_cancel (h : IX K t q μ) (c n : Nat) (hc : c < K) (hn12 : n ≤ 12) (hn : μ 11 c 4 = nI n) (hf : μ 11 c 8 = -1) : MM E yX2_cancel cX2_cancel 3 (some .int) (rm 4 0) [.ref (ad E 0 0), .int (nI c)] μ (some (.int (nI (eoN μ c n)))) (caM μ c n) := by
  have := h.1
  have e : tN (nI c) = c := tN_nI (by omega)
  have hh := C_X2_cancel (E := E) (μ := μ) (nI c) h.K5.2 (ok_c h.2.1 (by omega) hc) h.ki (by rw [e]; exact hf)
  rwa [e, hn, tN_nI (by omega)] at hh
theorem N_fs (h : IX K t q μ) (c n : Nat) (hc : c < K) (hn : CR c n μ) (hf : ¬ μ 11 c 8 = -1) : MM E yX2_finalBySorting cX2_finalBySorting 3 (some .int) (rm 4 0) [.ref (ad E 0 0), .int (nI c)] μ (some (.int (μ 11 c 8))) (fsM μ c n) := by
  have := h.1
  have e : tN (nI c) = c := tN_nI (by omega)
  have hh := C_X2_finalBySorting (E := E) (μ := μ) (nI c) h.K5.2 (ok_c h.2.1 (by omega) hc) h.ki (by rw [e]; exact hf)
  rwa [e, hn.n.2, tN_nI (by have := hn.n.1; omega), hn.sort hf] at hh
theorem N_answer (h : IX K t q μ) (c d : Nat) (cd : Int32) (hc : c < K) (hd : d < 10) (hcd : ¬ (¬ cd = 180 ∧ (cd < 200 ∨ 699 < cd))) (hok : anOk2 μ c (nI d) cd) : MM E yX2_answer cX2_answer 6 (some .int) (rm 5 0) [.ref (ad E 0 0), .int (nI c), .int (nI d), .int cd] μ (some (.int (anM μ c (nI d) cd 11 c 8))) (anM μ c (nI d) cd) := by
  have := h.1
  have e : tN (nI c) = c := tN_nI (by omega)
  have hh := C_X2_answer (E := E) (μ := μ) (nI c) (nI d) cd h.K5.2 h.ki (ok_c h.2.1 (by omega) hc) ⟨by
    rintro (z | z)
    · exact nI_pos (by omega) z
    · have := (nI_ltI (a := 9) (by decide) (by omega)).mp z
      omega, hcd⟩ (by rw [e]; exact hok)
  rwa [e] at hh
theorem N_pass (h : IX K t q μ) (T : Nat) (hT : 1 ≤ T) (hT2 : T ≤ 100) : MM E yX2_pass cX2_pass 4 (some .int) (rm 6 0) [.ref (ad E 0 0), .int (nI T)] μ (some (.int (psN T μ))) (psM T μ) := by
  have hh := C_X2_pass (E := E) (μ := μ) (nI T) h.K5.2 h.ki ⟨fun z => by have := (nI_ltI (b := 1) (by omega) (by decide)).mp z; omega, fun z => by have := (nI_ltI (a := 100) (by decide) (by omega)).mp z; omega⟩
  rwa [tN_nI (by omega)] at hh
end NPUB
end
section
/-! the law's own methods: the last of its kind -/
def laI (p : Nat → Bool) : Nat → Int32
  | 0 => -1
  | n + 1 => if p n = true then nI n else laI p n
theorem laI_t {p : Nat → Bool} {n : Nat} (h : p n = true) : laI p (n + 1) = nI n := if_pos h
theorem laI_f {p : Nat → Bool} {n : Nat} (h : p n = false) : laI p (n + 1) = laI p n := if_neg (by rw [h]; decide)
theorem laI_sp {p : Nat → Bool} : ∀ n, (laI p n = -1 ∧ ∀ i, i < n → p i = false) ∨ ∃ i, i < n ∧ p i = true ∧ laI p n = nI i ∧ ∀ j, i < j → j < n → p j = false
  | 0 => Or.inl ⟨rfl, fun i hi => absurd hi (Nat.not_lt_zero i)⟩
  | n + 1 => by
    cases e : p n
    · rw [laI_f e]
      rcases laI_sp n with ⟨a, b⟩ | ⟨i, a, b, d, g⟩
      · refine Or.inl ⟨a, fun i hi => ?_⟩
        by_cases z : i = n
        · rw [z]; exact e
        · exact b i (by omega)
      · refine Or.inr ⟨i, by omega, b, d, fun j h1 h2 => ?_⟩
        by_cases z : j = n
        · rw [z]; exact e
        · exact g j h1 (by omega)
    · rw [laI_t e]
      exact Or.inr ⟨n, by omega, e, rfl, fun j h1 h2 => by omega⟩
theorem laI_at {p : Nat → Bool} {n i : Nat} (hi : i < n) (hp : p i = true) (hu : ∀ j, j < n → p j = true → j = i) : laI p n = nI i := by
  rcases laI_sp (p := p) n with ⟨-, b⟩ | ⟨j, a, b, d, -⟩
  · rw [b i hi] at hp; cases hp
  · rw [d, hu j a b]
theorem laI_no {p : Nat → Bool} {n : Nat} (h : ∀ i, i < n → p i = false) : laI p n = -1 := by
  rcases laI_sp (p := p) n with ⟨a, -⟩ | ⟨j, a, b, -⟩
  · exact a
  · rw [h j a] at b; cases b
theorem laI_cong {p q : Nat → Bool} : ∀ {n : Nat}, (∀ i, i < n → p i = q i) → laI p n = laI q n
  | 0, _ => rfl
  | n + 1, h => by
    show (if p n = true then nI n else laI p n) = (if q n = true then nI n else laI q n)
    rw [h n (by omega), laI_cong (fun i hi => h i (by omega))]

set_option maxHeartbeats 4000000 in
set_option maxRecDepth 100000 in
theorem L_L_branchOf {E : EE} {μ : Mem} {C : Ctx} {K t q : Nat} (h : IX K t q μ) (c n : Nat) (hc : c < K) (hn12 : n ≤ 12) (hn : μ 11 c 4 = nI n) (x : Int32) (X : Cx E C cL_branchOf RL 5 (rm 5 0)) (hE : EndI E C cL_branchOf 0 0 (laI (fun j => decide (μ 12 c j = x)) n) μ) : ∀ (f : Nat) (i : Nat), n - i < f → i ≤ n → KF E C 0 0 μ 5 [(4, .int (nI i)), (3, .int (laI (fun j => decide (μ 12 c j = x)) i)), (0, .ref (ad E 0 0)), (1, .int (nI c)), (2, .int x)] [] := by
  intro f
  induction f with
  | zero => intros; omega
  | succ f ih =>
    intro i hf hi
    refine k_iload X 0 dL_branchOf_5 rfl ?_
    refine k_aload_n X 2 dL_branchOf_7 rfl rfl ?_
    refine k_iload_n X 3 dL_branchOf_8 rfl rfl ?_
    refine k_callV (a := 0) (o := 0) (As := [.int (nI c)]) (S := [.int (nI i)]) X lk_L_53 rfl (by decide) rfl (N_branches h c n hc hn) rfl rfl (Nat.le_of_ble_eq_true rfl) ⟨Nat.le_of_ble_eq_true rfl, Nat.le_of_ble_eq_true rfl⟩ ⟨Nat.le_of_ble_eq_true rfl, Nat.le_of_ble_eq_true rfl⟩ dL_branchOf_9 ?_
    show KF E C 0 0 μ 12 _ [.int (nI n), .int (nI i)]
    refine k_ge_n (a := i) (b := n) (tgt := 39) X dL_branchOf_12 (by decide) rfl rfl (by omega) (by omega) (fun c12 => ?_) (fun c12 => ?_)
    · refine k_iload_n X 1 dL_branchOf_39 rfl rfl ?_
      exact k_iret dL_branchOf_40 hE (by rw [show i = n by omega]) rfl
    · refine k_aload_n X 2 dL_branchOf_15 rfl rfl ?_
      refine k_iload_n X 3 dL_branchOf_16 rfl rfl ?_
      refine k_iload X 0 dL_branchOf_17 rfl ?_
      refine k_callV (a := 0) (o := 0) (As := [.int (nI c), .int (nI i)]) (S := []) X lk_L_59 rfl (by decide) rfl (N_device h c n i hc hn12 hn c12) rfl rfl (Nat.le_of_ble_eq_true rfl) ⟨Nat.le_of_ble_eq_true rfl, Nat.le_of_ble_eq_true rfl⟩ ⟨Nat.le_of_ble_eq_true rfl, Nat.le_of_ble_eq_true rfl⟩ dL_branchOf_19 ?_
      show KF E C 0 0 μ 22 _ [.int (μ 12 c i)]
      refine k_iload_n X 4 dL_branchOf_22 rfl rfl ?_
      refine k_icmp_ne (tgt := 31) X dL_branchOf_23 (by decide) (fun c23 => ?_) (fun c23 => ?_)
      · refine k_iload_n X 1 dL_branchOf_31 rfl rfl ?_
        refine k_val (y := laI (fun j => decide (μ 12 c j = x)) (i + 1)) (laI_f (decide_eq_false c23)).symm ?_
        refine k_istore_n (L' := [(3, .int (laI (fun j => decide (μ 12 c j = x)) (i + 1))), (4, .int (nI i)), (0, .ref (ad E 0 0)), (1, .int (nI c)), (2, .int x)]) X dL_branchOf_32 rfl (by decide) rfl ?_
        refine k_iinc (v := nI (i + 1)) (L' := [(4, .int (nI (i + 1))), (3, .int (laI (fun j => decide (μ 12 c j = x)) (i + 1))), (0, .ref (ad E 0 0)), (1, .int (nI c)), (2, .int x)]) X 1 dL_branchOf_33 rfl (nI_1 i) (by decide) rfl ?_
        refine k_goto (tgt := 5) X dL_branchOf_36 (by decide) ?_
        exact ih (i + 1) (by omega) (by omega)
      · refine k_iload X 0 dL_branchOf_26 rfl ?_
        refine k_goto (tgt := 32) X dL_branchOf_28 (by decide) ?_
        refine k_val (y := laI (fun j => decide (μ 12 c j = x)) (i + 1)) (laI_t (decide_eq_true c23)).symm ?_
        refine k_istore_n (L' := [(3, .int (laI (fun j => decide (μ 12 c j = x)) (i + 1))), (4, .int (nI i)), (0, .ref (ad E 0 0)), (1, .int (nI c)), (2, .int x)]) X dL_branchOf_32 rfl (by decide) rfl ?_
        refine k_iinc (v := nI (i + 1)) (L' := [(4, .int (nI (i + 1))), (3, .int (laI (fun j => decide (μ 12 c j = x)) (i + 1))), (0, .ref (ad E 0 0)), (1, .int (nI c)), (2, .int x)]) X 1 dL_branchOf_33 rfl (nI_1 i) (by decide) rfl ?_
        refine k_goto (tgt := 5) X dL_branchOf_36 (by decide) ?_
        exact ih (i + 1) (by omega) (by omega)

set_option maxHeartbeats 4000000 in
set_option maxRecDepth 100000 in
theorem C_L_branchOf {E : EE} {μ : Mem} {K t q : Nat} (h : IX K t q μ) (c n : Nat) (hc : c < K) (hn12 : n ≤ 12) (hn : μ 11 c 4 = nI n) (x : Int32) : MM E yL_branchOf cL_branchOf 5 (some .int) (rm 5 0) [.ref (ad E 0 0), .int (nI c), .int x] μ (some (.int (laI (fun j => decide (μ 12 c j = x)) n))) μ := by
  refine MM.int (own := RL) [(0, .ref (ad E 0 0)), (1, .int (nI c)), (2, .int x)] rfl rfl rfl (Nat.le_of_ble_eq_true rfl) rfl (fun C X hE => ?_)
  refine k_iconst X (-1) dL_branchOf_0 (by decide) ?_
  refine k_istore_n (L' := [(3, .int (-1)), (0, .ref (ad E 0 0)), (1, .int (nI c)), (2, .int x)]) X dL_branchOf_1 rfl (by decide) rfl ?_
  refine k_iconst X (nI 0) dL_branchOf_2 (by decide) ?_
  refine k_istore (L' := [(4, .int (nI 0)), (3, .int (-1)), (0, .ref (ad E 0 0)), (1, .int (nI c)), (2, .int x)]) X dL_branchOf_3 (by decide) rfl ?_
  exact L_L_branchOf h c n hc hn12 hn x X hE (n + 1) 0 (by omega) (Nat.zero_le n)
end
section
/-! isCall: the ends of a call's branches, counted -/
def pG (f : Nat → Int32) : Nat → Bool := fun b => decide (f b = 100 ∨ f b = 180)
def pT (f : Nat → Int32) : Nat → Bool := fun b => decide (200 ≤ f b ∧ f b < 300)
def moG (f : Nat → Int32) : Nat → Int32
  | 0 => -1
  | n + 1 => if f n ≤ moG f n then moG f n else f n
theorem moG_t {f : Nat → Int32} {n : Nat} (h : f n ≤ moG f n) : moG f (n + 1) = moG f n := if_pos h
theorem moG_f {f : Nat → Int32} {n : Nat} (h : ¬ f n ≤ moG f n) : moG f (n + 1) = f n := if_neg h
theorem pG_t {f : Nat → Int32} {n : Nat} (h : f n = 100 ∨ f n = 180) : nI (ctB (pG f) n + 1) = nI (ctB (pG f) (n + 1)) := congrArg nI (ctB_t (p := pG f) (decide_eq_true h)).symm
theorem pG_f {f : Nat → Int32} {n : Nat} (h : ¬ (f n = 100 ∨ f n = 180)) : nI (ctB (pG f) n + 0) = nI (ctB (pG f) (n + 1)) := congrArg nI (ctB_f (p := pG f) (decide_eq_false h)).symm
theorem pT_t {f : Nat → Int32} {n : Nat} (h : 200 ≤ f n) (h2 : f n < 300) : nI n = laI (pT f) (n + 1) := (laI_t (p := pT f) (decide_eq_true ⟨h, h2⟩)).symm
theorem pT_f {f : Nat → Int32} {n : Nat} (h : ¬ (200 ≤ f n ∧ f n < 300)) : laI (pT f) n = laI (pT f) (n + 1) := (laI_f (p := pT f) (decide_eq_false h)).symm

set_option maxHeartbeats 4000000 in
set_option maxRecDepth 100000 in
theorem L_L_isCall {E : EE} {μ : Mem} {C : Ctx} {K t q : Nat} (h : IX K t q μ) (c n : Nat) (hc : c < K) (hn12 : n ≤ 12) (hn : μ 11 c 4 = nI n) (X : Cx E C cL_isCall RL 9 (rm 5 0)) (hx : KF E C 0 0 μ 131 [(6, .int (laI (pT (μ 14 c)) n)), (5, .int (nI (ctB (pG (μ 14 c)) n))), (4, .int (moG (μ 14 c) n)), (3, .int (beL (μ 14 c) n)), (0, .ref (ad E 0 0)), (1, .ref (ad E 16 0)), (2, .int (nI c))] []) : ∀ (f : Nat) (i : Nat), n - i < f → i ≤ n → KF E C 0 0 μ 14 [(7, .int (nI i)), (6, .int (laI (pT (μ 14 c)) i)), (5, .int (nI (ctB (pG (μ 14 c)) i))), (4, .int (moG (μ 14 c) i)), (3, .int (beL (μ 14 c) i)), (0, .ref (ad E 0 0)), (1, .ref (ad E 16 0)), (2, .int (nI c))] [] := by
  intro f
  induction f with
  | zero => intros; omega
  | succ f ih =>
    intro i hf hi
    refine k_iload X 0 dL_isCall_14 rfl ?_
    refine k_aload_n X 5 dL_isCall_16 rfl rfl ?_
    refine k_iload_n X 7 dL_isCall_17 rfl rfl ?_
    refine k_callV (a := 0) (o := 0) (As := [.int (nI c)]) (S := [.int (nI i)]) X lk_L_53 rfl (by decide) rfl (N_branches h c n hc hn) rfl rfl (Nat.le_of_ble_eq_true rfl) ⟨Nat.le_of_ble_eq_true rfl, Nat.le_of_ble_eq_true rfl⟩ ⟨Nat.le_of_ble_eq_true rfl, Nat.le_of_ble_eq_true rfl⟩ dL_isCall_18 ?_
    show KF E C 0 0 μ 21 _ [.int (nI n), .int (nI i)]
    refine k_ge_n (a := i) (b := n) (tgt := 131) X dL_isCall_21 (by decide) rfl rfl (by omega) (by omega) (fun c21 => ?_) (fun c21 => ?_)
    · obtain rfl : i = n := by omega
      refine k_pick (L' := [(6, .int (laI (pT (μ 14 c)) i)), (5, .int (nI (ctB (pG (μ 14 c)) i))), (4, .int (moG (μ 14 c) i)), (3, .int (beL (μ 14 c) i)), (0, .ref (ad E 0 0)), (1, .ref (ad E 16 0)), (2, .int (nI c))]) [1, 2, 3, 4, 5, 6, 7] rfl ?_
      exact hx
    · have k_125 : KF E C 0 0 μ 125 [(7, .int (nI i)), (6, .int (laI (pT (μ 14 c)) (i + 1))), (5, .int (nI (ctB (pG (μ 14 c)) (i + 1)))), (4, .int (moG (μ 14 c) (i + 1))), (3, .int (beL (μ 14 c) (i + 1))), (0, .ref (ad E 0 0)), (1, .ref (ad E 16 0)), (2, .int (nI c))] [] := by
        refine k_iinc (v := nI (i + 1)) (L' := [(7, .int (nI (i + 1))), (6, .int (laI (pT (μ 14 c)) (i + 1))), (5, .int (nI (ctB (pG (μ 14 c)) (i + 1)))), (4, .int (moG (μ 14 c) (i + 1))), (3, .int (beL (μ 14 c) (i + 1))), (0, .ref (ad E 0 0)), (1, .ref (ad E 16 0)), (2, .int (nI c))]) X 0 dL_isCall_125 rfl (nI_1 i) (by decide) rfl ?_
        refine k_goto (tgt := 14) X dL_isCall_128 (by decide) ?_
        exact ih (i + 1) (by omega) (by omega)
      have k_99 : KF E C 0 0 μ 99 [(8, .int (μ 14 c i)), (7, .int (nI i)), (6, .int (laI (pT (μ 14 c)) (i + 1))), (5, .int (nI (ctB (pG (μ 14 c)) (i + 1)))), (4, .int (moG (μ 14 c) (i + 1))), (3, .int (beL (μ 14 c) i)), (0, .ref (ad E 0 0)), (1, .ref (ad E 16 0)), (2, .int (nI c))] [] := by
        refine k_iload X 0 dL_isCall_99 rfl ?_
        refine k_sipush X 487 dL_isCall_101 (by decide) ?_
        refine k_icmp_eq (tgt := 123) X dL_isCall_104 (by decide) (fun c104 => ?_) (fun c104 => ?_)
        · refine k_iload_n X 5 dL_isCall_123 rfl rfl ?_
          refine k_val (y := beL (μ 14 c) (i + 1)) (beL_0 c104).symm ?_
          refine k_istore_n (L' := [(3, .int (beL (μ 14 c) (i + 1))), (8, .int (μ 14 c i)), (7, .int (nI i)), (6, .int (laI (pT (μ 14 c)) (i + 1))), (5, .int (nI (ctB (pG (μ 14 c)) (i + 1)))), (4, .int (moG (μ 14 c) (i + 1))), (0, .ref (ad E 0 0)), (1, .ref (ad E 16 0)), (2, .int (nI c))]) X dL_isCall_124 rfl (by decide) rfl ?_
          refine k_pick (L' := [(7, .int (nI i)), (6, .int (laI (pT (μ 14 c)) (i + 1))), (5, .int (nI (ctB (pG (μ 14 c)) (i + 1)))), (4, .int (moG (μ 14 c) (i + 1))), (3, .int (beL (μ 14 c) (i + 1))), (0, .ref (ad E 0 0)), (1, .ref (ad E 16 0)), (2, .int (nI c))]) [2, 3, 4, 5, 0, 6, 7, 8] rfl ?_
          exact k_125
        · refine k_iload_n X 5 dL_isCall_107 rfl rfl ?_
          refine k_iconst X (-1) dL_isCall_108 (by decide) ?_
          refine k_icmp_eq (tgt := 118) X dL_isCall_109 (by decide) (fun c109 => ?_) (fun c109 => ?_)
          · refine k_iload X 0 dL_isCall_118 rfl ?_
            refine k_goto (tgt := 124) X dL_isCall_120 (by decide) ?_
            refine k_val (y := beL (μ 14 c) (i + 1)) (beL_1 c104 c109).symm ?_
            refine k_istore_n (L' := [(3, .int (beL (μ 14 c) (i + 1))), (8, .int (μ 14 c i)), (7, .int (nI i)), (6, .int (laI (pT (μ 14 c)) (i + 1))), (5, .int (nI (ctB (pG (μ 14 c)) (i + 1)))), (4, .int (moG (μ 14 c) (i + 1))), (0, .ref (ad E 0 0)), (1, .ref (ad E 16 0)), (2, .int (nI c))]) X dL_isCall_124 rfl (by decide) rfl ?_
            refine k_pick (L' := [(7, .int (nI i)), (6, .int (laI (pT (μ 14 c)) (i + 1))), (5, .int (nI (ctB (pG (μ 14 c)) (i + 1)))), (4, .int (moG (μ 14 c) (i + 1))), (3, .int (beL (μ 14 c) (i + 1))), (0, .ref (ad E 0 0)), (1, .ref (ad E 16 0)), (2, .int (nI c))]) [2, 3, 4, 5, 0, 6, 7, 8] rfl ?_
            exact k_125
          · refine k_iload X 0 dL_isCall_112 rfl ?_
            refine k_iload_n X 5 dL_isCall_114 rfl rfl ?_
            refine k_icmp_ge (tgt := 123) X dL_isCall_115 (by decide) (fun c115 => ?_) (fun c115 => ?_)
            · refine k_iload_n X 5 dL_isCall_123 rfl rfl ?_
              refine k_val (y := beL (μ 14 c) (i + 1)) (beL_4 c104 c109 (Int32.not_lt.mpr c115)).symm ?_
              refine k_istore_n (L' := [(3, .int (beL (μ 14 c) (i + 1))), (8, .int (μ 14 c i)), (7, .int (nI i)), (6, .int (laI (pT (μ 14 c)) (i + 1))), (5, .int (nI (ctB (pG (μ 14 c)) (i + 1)))), (4, .int (moG (μ 14 c) (i + 1))), (0, .ref (ad E 0 0)), (1, .ref (ad E 16 0)), (2, .int (nI c))]) X dL_isCall_124 rfl (by decide) rfl ?_
              refine k_pick (L' := [(7, .int (nI i)), (6, .int (laI (pT (μ 14 c)) (i + 1))), (5, .int (nI (ctB (pG (μ 14 c)) (i + 1)))), (4, .int (moG (μ 14 c) (i + 1))), (3, .int (beL (μ 14 c) (i + 1))), (0, .ref (ad E 0 0)), (1, .ref (ad E 16 0)), (2, .int (nI c))]) [2, 3, 4, 5, 0, 6, 7, 8] rfl ?_
              exact k_125
            · refine k_iload X 0 dL_isCall_118 rfl ?_
              refine k_goto (tgt := 124) X dL_isCall_120 (by decide) ?_
              refine k_val (y := beL (μ 14 c) (i + 1)) (beL_3 c104 c109 (Int32.not_le.mp c115)).symm ?_
              refine k_istore_n (L' := [(3, .int (beL (μ 14 c) (i + 1))), (8, .int (μ 14 c i)), (7, .int (nI i)), (6, .int (laI (pT (μ 14 c)) (i + 1))), (5, .int (nI (ctB (pG (μ 14 c)) (i + 1)))), (4, .int (moG (μ 14 c) (i + 1))), (0, .ref (ad E 0 0)), (1, .ref (ad E 16 0)), (2, .int (nI c))]) X dL_isCall_124 rfl (by decide) rfl ?_
              refine k_pick (L' := [(7, .int (nI i)), (6, .int (laI (pT (μ 14 c)) (i + 1))), (5, .int (nI (ctB (pG (μ 14 c)) (i + 1)))), (4, .int (moG (μ 14 c) (i + 1))), (3, .int (beL (μ 14 c) (i + 1))), (0, .ref (ad E 0 0)), (1, .ref (ad E 16 0)), (2, .int (nI c))]) [2, 3, 4, 5, 0, 6, 7, 8] rfl ?_
              exact k_125
      have k_83 : KF E C 0 0 μ 83 [(8, .int (μ 14 c i)), (7, .int (nI i)), (6, .int (laI (pT (μ 14 c)) (i + 1))), (5, .int (nI (ctB (pG (μ 14 c)) (i + 1)))), (4, .int (moG (μ 14 c) i)), (3, .int (beL (μ 14 c) i)), (0, .ref (ad E 0 0)), (1, .ref (ad E 16 0)), (2, .int (nI c))] [] := by
        refine k_iload X 0 dL_isCall_83 rfl ?_
        refine k_iload X 4 dL_isCall_85 rfl ?_
        refine k_icmp_le (tgt := 95) X dL_isCall_87 (by decide) (fun c87 => ?_) (fun c87 => ?_)
        · refine k_iload X 4 dL_isCall_95 rfl ?_
          refine k_val (y := moG (μ 14 c) (i + 1)) (moG_t c87).symm ?_
          refine k_istore (L' := [(4, .int (moG (μ 14 c) (i + 1))), (8, .int (μ 14 c i)), (7, .int (nI i)), (6, .int (laI (pT (μ 14 c)) (i + 1))), (5, .int (nI (ctB (pG (μ 14 c)) (i + 1)))), (3, .int (beL (μ 14 c) i)), (0, .ref (ad E 0 0)), (1, .ref (ad E 16 0)), (2, .int (nI c))]) X dL_isCall_97 (by decide) rfl ?_
          refine k_pick (L' := [(8, .int (μ 14 c i)), (7, .int (nI i)), (6, .int (laI (pT (μ 14 c)) (i + 1))), (5, .int (nI (ctB (pG (μ 14 c)) (i + 1)))), (4, .int (moG (μ 14 c) (i + 1))), (3, .int (beL (μ 14 c) i)), (0, .ref (ad E 0 0)), (1, .ref (ad E 16 0)), (2, .int (nI c))]) [1, 2, 3, 4, 0, 5, 6, 7, 8] rfl ?_
          exact k_99
        · refine k_iload X 0 dL_isCall_90 rfl ?_
          refine k_goto (tgt := 97) X dL_isCall_92 (by decide) ?_
          refine k_val (y := moG (μ 14 c) (i + 1)) (moG_f c87).symm ?_
          refine k_istore (L' := [(4, .int (moG (μ 14 c) (i + 1))), (8, .int (μ 14 c i)), (7, .int (nI i)), (6, .int (laI (pT (μ 14 c)) (i + 1))), (5, .int (nI (ctB (pG (μ 14 c)) (i + 1)))), (3, .int (beL (μ 14 c) i)), (0, .ref (ad E 0 0)), (1, .ref (ad E 16 0)), (2, .int (nI c))]) X dL_isCall_97 (by decide) rfl ?_
          refine k_pick (L' := [(8, .int (μ 14 c i)), (7, .int (nI i)), (6, .int (laI (pT (μ 14 c)) (i + 1))), (5, .int (nI (ctB (pG (μ 14 c)) (i + 1)))), (4, .int (moG (μ 14 c) (i + 1))), (3, .int (beL (μ 14 c) i)), (0, .ref (ad E 0 0)), (1, .ref (ad E 16 0)), (2, .int (nI c))]) [1, 2, 3, 4, 0, 5, 6, 7, 8] rfl ?_
          exact k_99
      have k_58 : KF E C 0 0 μ 58 [(8, .int (μ 14 c i)), (7, .int (nI i)), (6, .int (laI (pT (μ 14 c)) i)), (5, .int (nI (ctB (pG (μ 14 c)) (i + 1)))), (4, .int (moG (μ 14 c) i)), (3, .int (beL (μ 14 c) i)), (0, .ref (ad E 0 0)), (1, .ref (ad E 16 0)), (2, .int (nI c))] [] := by
        refine k_iload X 0 dL_isCall_58 rfl ?_
        refine k_sipush X 200 dL_isCall_60 (by decide) ?_
        refine k_icmp_lt (tgt := 79) X dL_isCall_63 (by decide) (fun c63 => ?_) (fun c63 => ?_)
        · refine k_iload X 2 dL_isCall_79 rfl ?_
          refine k_val (y := laI (pT (μ 14 c)) (i + 1)) (pT_f (fun q => Int32.not_lt.mpr q.1 c63)) ?_
          refine k_istore (L' := [(6, .int (laI (pT (μ 14 c)) (i + 1))), (8, .int (μ 14 c i)), (7, .int (nI i)), (5, .int (nI (ctB (pG (μ 14 c)) (i + 1)))), (4, .int (moG (μ 14 c) i)), (3, .int (beL (μ 14 c) i)), (0, .ref (ad E 0 0)), (1, .ref (ad E 16 0)), (2, .int (nI c))]) X dL_isCall_81 (by decide) rfl ?_
          refine k_pick (L' := [(8, .int (μ 14 c i)), (7, .int (nI i)), (6, .int (laI (pT (μ 14 c)) (i + 1))), (5, .int (nI (ctB (pG (μ 14 c)) (i + 1)))), (4, .int (moG (μ 14 c) i)), (3, .int (beL (μ 14 c) i)), (0, .ref (ad E 0 0)), (1, .ref (ad E 16 0)), (2, .int (nI c))]) [1, 2, 0, 3, 4, 5, 6, 7, 8] rfl ?_
          exact k_83
        · refine k_iload X 0 dL_isCall_66 rfl ?_
          refine k_sipush X 300 dL_isCall_68 (by decide) ?_
          refine k_icmp_ge (tgt := 79) X dL_isCall_71 (by decide) (fun c71 => ?_) (fun c71 => ?_)
          · refine k_iload X 2 dL_isCall_79 rfl ?_
            refine k_val (y := laI (pT (μ 14 c)) (i + 1)) (pT_f (fun q => Int32.not_lt.mpr c71 q.2)) ?_
            refine k_istore (L' := [(6, .int (laI (pT (μ 14 c)) (i + 1))), (8, .int (μ 14 c i)), (7, .int (nI i)), (5, .int (nI (ctB (pG (μ 14 c)) (i + 1)))), (4, .int (moG (μ 14 c) i)), (3, .int (beL (μ 14 c) i)), (0, .ref (ad E 0 0)), (1, .ref (ad E 16 0)), (2, .int (nI c))]) X dL_isCall_81 (by decide) rfl ?_
            refine k_pick (L' := [(8, .int (μ 14 c i)), (7, .int (nI i)), (6, .int (laI (pT (μ 14 c)) (i + 1))), (5, .int (nI (ctB (pG (μ 14 c)) (i + 1)))), (4, .int (moG (μ 14 c) i)), (3, .int (beL (μ 14 c) i)), (0, .ref (ad E 0 0)), (1, .ref (ad E 16 0)), (2, .int (nI c))]) [1, 2, 0, 3, 4, 5, 6, 7, 8] rfl ?_
            exact k_83
          · refine k_iload X 1 dL_isCall_74 rfl ?_
            refine k_goto (tgt := 81) X dL_isCall_76 (by decide) ?_
            refine k_val (y := laI (pT (μ 14 c)) (i + 1)) (pT_t (Int32.not_lt.mp c63) (Int32.not_le.mp c71)) ?_
            refine k_istore (L' := [(6, .int (laI (pT (μ 14 c)) (i + 1))), (8, .int (μ 14 c i)), (7, .int (nI i)), (5, .int (nI (ctB (pG (μ 14 c)) (i + 1)))), (4, .int (moG (μ 14 c) i)), (3, .int (beL (μ 14 c) i)), (0, .ref (ad E 0 0)), (1, .ref (ad E 16 0)), (2, .int (nI c))]) X dL_isCall_81 (by decide) rfl ?_
            refine k_pick (L' := [(8, .int (μ 14 c i)), (7, .int (nI i)), (6, .int (laI (pT (μ 14 c)) (i + 1))), (5, .int (nI (ctB (pG (μ 14 c)) (i + 1)))), (4, .int (moG (μ 14 c) i)), (3, .int (beL (μ 14 c) i)), (0, .ref (ad E 0 0)), (1, .ref (ad E 16 0)), (2, .int (nI c))]) [1, 2, 0, 3, 4, 5, 6, 7, 8] rfl ?_
            exact k_83
      refine k_aload_n X 5 dL_isCall_24 rfl rfl ?_
      refine k_iload_n X 7 dL_isCall_25 rfl rfl ?_
      refine k_iload X 0 dL_isCall_26 rfl ?_
      refine k_callV (a := 0) (o := 0) (As := [.int (nI c), .int (nI i)]) (S := []) X lk_L_62 rfl (by decide) rfl (N_state h c n i hc hn12 hn c21) rfl rfl (Nat.le_of_ble_eq_true rfl) ⟨Nat.le_of_ble_eq_true rfl, Nat.le_of_ble_eq_true rfl⟩ ⟨Nat.le_of_ble_eq_true rfl, Nat.le_of_ble_eq_true rfl⟩ dL_isCall_28 ?_
      show KF E C 0 0 μ 31 _ [.int (μ 14 c i)]
      refine k_istore (L' := [(8, .int (μ 14 c i)), (7, .int (nI i)), (6, .int (laI (pT (μ 14 c)) i)), (5, .int (nI (ctB (pG (μ 14 c)) i))), (4, .int (moG (μ 14 c) i)), (3, .int (beL (μ 14 c) i)), (0, .ref (ad E 0 0)), (1, .ref (ad E 16 0)), (2, .int (nI c))]) X dL_isCall_31 (by decide) rfl ?_
      refine k_iload X 3 dL_isCall_33 rfl ?_
      refine k_iload X 0 dL_isCall_35 rfl ?_
      refine k_bipush X 100 dL_isCall_37 (by decide) ?_
      refine k_icmp_eq (tgt := 50) X dL_isCall_39 (by decide) (fun c39 => ?_) (fun c39 => ?_)
      · refine k_iconst X (nI 1) dL_isCall_50 (by decide) ?_
        refine k_goto (tgt := 55) X dL_isCall_51 (by decide) ?_
        refine k_iadd X dL_isCall_55 ?_
        refine k_val (y := nI ((ctB (pG (μ 14 c)) i) + 1)) (nI_add _ _) ?_
        refine k_val (y := nI (ctB (pG (μ 14 c)) (i + 1))) (pG_t (Or.inl c39)) ?_
        refine k_istore (L' := [(5, .int (nI (ctB (pG (μ 14 c)) (i + 1)))), (8, .int (μ 14 c i)), (7, .int (nI i)), (6, .int (laI (pT (μ 14 c)) i)), (4, .int (moG (μ 14 c) i)), (3, .int (beL (μ 14 c) i)), (0, .ref (ad E 0 0)), (1, .ref (ad E 16 0)), (2, .int (nI c))]) X dL_isCall_56 (by decide) rfl ?_
        refine k_pick (L' := [(8, .int (μ 14 c i)), (7, .int (nI i)), (6, .int (laI (pT (μ 14 c)) i)), (5, .int (nI (ctB (pG (μ 14 c)) (i + 1)))), (4, .int (moG (μ 14 c) i)), (3, .int (beL (μ 14 c) i)), (0, .ref (ad E 0 0)), (1, .ref (ad E 16 0)), (2, .int (nI c))]) [1, 2, 3, 0, 4, 5, 6, 7, 8] rfl ?_
        exact k_58
      · refine k_iload X 0 dL_isCall_42 rfl ?_
        refine k_sipush X 180 dL_isCall_44 (by decide) ?_
        refine k_icmp_ne (tgt := 54) X dL_isCall_47 (by decide) (fun c47 => ?_) (fun c47 => ?_)
        · refine k_iconst X (nI 0) dL_isCall_54 (by decide) ?_
          refine k_iadd X dL_isCall_55 ?_
          refine k_val (y := nI ((ctB (pG (μ 14 c)) i) + 0)) (nI_add _ _) ?_
          refine k_val (y := nI (ctB (pG (μ 14 c)) (i + 1))) (pG_f (fun q => q.elim c39 c47)) ?_
          refine k_istore (L' := [(5, .int (nI (ctB (pG (μ 14 c)) (i + 1)))), (8, .int (μ 14 c i)), (7, .int (nI i)), (6, .int (laI (pT (μ 14 c)) i)), (4, .int (moG (μ 14 c) i)), (3, .int (beL (μ 14 c) i)), (0, .ref (ad E 0 0)), (1, .ref (ad E 16 0)), (2, .int (nI c))]) X dL_isCall_56 (by decide) rfl ?_
          refine k_pick (L' := [(8, .int (μ 14 c i)), (7, .int (nI i)), (6, .int (laI (pT (μ 14 c)) i)), (5, .int (nI (ctB (pG (μ 14 c)) (i + 1)))), (4, .int (moG (μ 14 c) i)), (3, .int (beL (μ 14 c) i)), (0, .ref (ad E 0 0)), (1, .ref (ad E 16 0)), (2, .int (nI c))]) [1, 2, 3, 0, 4, 5, 6, 7, 8] rfl ?_
          exact k_58
        · refine k_iconst X (nI 1) dL_isCall_50 (by decide) ?_
          refine k_goto (tgt := 55) X dL_isCall_51 (by decide) ?_
          refine k_iadd X dL_isCall_55 ?_
          refine k_val (y := nI ((ctB (pG (μ 14 c)) i) + 1)) (nI_add _ _) ?_
          refine k_val (y := nI (ctB (pG (μ 14 c)) (i + 1))) (pG_t (Or.inr c47)) ?_
          refine k_istore (L' := [(5, .int (nI (ctB (pG (μ 14 c)) (i + 1)))), (8, .int (μ 14 c i)), (7, .int (nI i)), (6, .int (laI (pT (μ 14 c)) i)), (4, .int (moG (μ 14 c) i)), (3, .int (beL (μ 14 c) i)), (0, .ref (ad E 0 0)), (1, .ref (ad E 16 0)), (2, .int (nI c))]) X dL_isCall_56 (by decide) rfl ?_
          refine k_pick (L' := [(8, .int (μ 14 c i)), (7, .int (nI i)), (6, .int (laI (pT (μ 14 c)) i)), (5, .int (nI (ctB (pG (μ 14 c)) (i + 1)))), (4, .int (moG (μ 14 c) i)), (3, .int (beL (μ 14 c) i)), (0, .ref (ad E 0 0)), (1, .ref (ad E 16 0)), (2, .int (nI c))]) [1, 2, 3, 0, 4, 5, 6, 7, 8] rfl ?_
          exact k_58

set_option maxHeartbeats 4000000 in
set_option maxRecDepth 100000 in
theorem C_L_isCall {E : EE} {μ : Mem} {K t q : Nat} (h : IX K t q μ) (c n : Nat) (hc : c < K) (hn12 : n ≤ 12) (hn : μ 11 c 4 = nI n) (bt : Nat) (hbt : (μ 16 0 3 >>> (nI c &&& 31)) &&& nI 1 = nI bt) (hR : CR c n μ) (hopen : μ 11 c 8 = -1 → 0 < nI (ctB (pG (μ 14 c)) n) ∧ laI (pT (μ 14 c)) n = -1 ∧ μ 11 c 7 = -1 ∧ ¬ 600 ≤ moG (μ 14 c) n) (hend : ¬ μ 11 c 8 = -1 → nI (ctB (pG (μ 14 c)) n) = 0 ∧ μ 11 c 8 = (if nI bt = nI 1 then 487 else if nI n = 0 then 480 else if ¬ laI (pT (μ 14 c)) n = -1 then μ 14 c (tN (laI (pT (μ 14 c)) n)) else if 600 ≤ moG (μ 14 c) n then moG (μ 14 c) n else if beL (μ 14 c) n = -1 then 487 else beL (μ 14 c) n) ∧ μ 11 c 7 = laI (pT (μ 14 c)) n) : MM E yL_isCall cL_isCall 9 (some .boolean) (rm 5 0) [.ref (ad E 0 0), .ref (ad E 16 0), .int (nI c)] μ (some (.int 1)) (if μ 11 c 8 = -1 then μ else fsM μ c n) := by
  refine MM.int (own := RL) [(0, .ref (ad E 0 0)), (1, .ref (ad E 16 0)), (2, .int (nI c))] rfl rfl rfl (Nat.le_of_ble_eq_true rfl) rfl (fun C X hE => ?_)
  have k_131 : KF E C 0 0 μ 131 [(6, .int (laI (pT (μ 14 c)) n)), (5, .int (nI (ctB (pG (μ 14 c)) n))), (4, .int (moG (μ 14 c) n)), (3, .int (beL (μ 14 c) n)), (0, .ref (ad E 0 0)), (1, .ref (ad E 16 0)), (2, .int (nI c))] [] := by
    refine k_aload_n X 4 dL_isCall_131 rfl rfl ?_
    refine k_iload_n X 6 dL_isCall_132 rfl rfl ?_
    refine k_callV (a := 0) (o := 0) (As := [.int (nI c)]) (S := []) X lk_L_56 rfl (by decide) rfl (N_finalOf h c hc) rfl rfl (Nat.le_of_ble_eq_true rfl) ⟨Nat.le_of_ble_eq_true rfl, Nat.le_of_ble_eq_true rfl⟩ ⟨Nat.le_of_ble_eq_true rfl, Nat.le_of_ble_eq_true rfl⟩ dL_isCall_133 ?_
    show KF E C 0 0 μ 136 _ [.int (μ 11 c 8)]
    refine k_istore (L' := [(7, .int (μ 11 c 8)), (6, .int (laI (pT (μ 14 c)) n)), (5, .int (nI (ctB (pG (μ 14 c)) n))), (4, .int (moG (μ 14 c) n)), (3, .int (beL (μ 14 c) n)), (0, .ref (ad E 0 0)), (1, .ref (ad E 16 0)), (2, .int (nI c))]) X dL_isCall_136 (by decide) rfl ?_
    refine k_iload X 0 dL_isCall_138 rfl ?_
    refine k_iconst X (-1) dL_isCall_140 (by decide) ?_
    refine k_icmp_ne (tgt := 178) X dL_isCall_141 (by decide) (fun c141 => ?_) (fun c141 => ?_)
    · refine k_aload_n X 6 dL_isCall_178 rfl rfl ?_
      refine k_iconst X (nI 3) dL_isCall_179 (by decide) ?_
      have k_250 : KF E C 0 0 μ 250 [(7, .int (μ 11 c 8)), (6, .int (laI (pT (μ 14 c)) n)), (5, .int (nI (ctB (pG (μ 14 c)) n))), (0, .ref (ad E 0 0)), (1, .ref (ad E 16 0)), (2, .int (nI c))] [.int (μ 11 c 8)] := by
        refine k_istore (L' := [(8, .int (μ 11 c 8)), (7, .int (μ 11 c 8)), (6, .int (laI (pT (μ 14 c)) n)), (5, .int (nI (ctB (pG (μ 14 c)) n))), (0, .ref (ad E 0 0)), (1, .ref (ad E 16 0)), (2, .int (nI c))]) X dL_isCall_250 (by decide) rfl ?_
        refine k_iload X 3 dL_isCall_252 rfl ?_
        refine k_if_ne_f (tgt := 288) X dL_isCall_254 (by decide) (hend c141).1 ?_
        refine k_iload X 1 dL_isCall_257 rfl ?_
        refine k_iload X 0 dL_isCall_259 rfl ?_
        refine k_icmp_ne_f (tgt := 288) X dL_isCall_261 (by decide) rfl ?_
        refine k_aload_n X 4 dL_isCall_264 rfl rfl ?_
        refine k_iload_n X 6 dL_isCall_265 rfl rfl ?_
        refine k_callV (a := 0) (o := 0) (As := [.int (nI c)]) (S := []) X lk_L_50 rfl (by decide) rfl (N_answered h c hc) rfl rfl (Nat.le_of_ble_eq_true rfl) ⟨Nat.le_of_ble_eq_true rfl, Nat.le_of_ble_eq_true rfl⟩ ⟨Nat.le_of_ble_eq_true rfl, Nat.le_of_ble_eq_true rfl⟩ dL_isCall_266 ?_
        show KF E C 0 0 μ 269 _ [.int (μ 11 c 7)]
        refine k_iload X 2 dL_isCall_269 rfl ?_
        refine k_icmp_ne_f (tgt := 288) X dL_isCall_271 (by decide) (hend c141).2.2 ?_
        refine k_aload_n X 4 dL_isCall_274 rfl rfl ?_
        refine k_iload_n X 6 dL_isCall_275 rfl rfl ?_
        refine k_callV (a := 0) (o := 0) (As := [.int (nI c)]) (S := []) X lk_L_73 rfl (by decide) rfl (N_fs h c n hc hR c141) rfl rfl (Nat.le_of_ble_eq_true rfl) ⟨Nat.le_of_ble_eq_true rfl, Nat.le_of_ble_eq_true rfl⟩ ⟨Nat.le_of_ble_eq_true rfl, Nat.le_of_ble_eq_true rfl⟩ dL_isCall_276 ?_
        show KF E C 0 0 (fsM μ c n) 279 _ [.int (μ 11 c 8)]
        refine k_iload X 1 dL_isCall_279 rfl ?_
        refine k_icmp_ne_f (tgt := 288) X dL_isCall_281 (by decide) rfl ?_
        refine k_iconst X (nI 1) dL_isCall_284 (by decide) ?_
        refine k_goto (tgt := 289) X dL_isCall_285 (by decide) ?_
        exact k_iret dL_isCall_289 hE (by decide) (if_neg c141).symm
      refine k_iald (a := 16) (j := 3) X rfl (by decide) rfl (show 3 < 14 by omega) (by decide) dL_isCall_180 ?_
      refine k_iload_n X 7 dL_isCall_181 rfl rfl ?_
      refine k_ishr X dL_isCall_182 ?_
      refine k_iconst X (nI 1) dL_isCall_183 (by decide) ?_
      refine k_iand X dL_isCall_184 ?_
      refine k_val (y := nI bt) hbt ?_
      refine k_iconst X (nI 1) dL_isCall_185 (by decide) ?_
      refine k_icmp_ne (tgt := 195) X dL_isCall_186 (by decide) (fun c186 => ?_) (fun c186 => ?_)
      · refine k_aload_n X 5 dL_isCall_195 rfl rfl ?_
        refine k_iload_n X 7 dL_isCall_196 rfl rfl ?_
        refine k_callV (a := 0) (o := 0) (As := [.int (nI c)]) (S := []) X lk_L_53 rfl (by decide) rfl (N_branches h c n hc hn) rfl rfl (Nat.le_of_ble_eq_true rfl) ⟨Nat.le_of_ble_eq_true rfl, Nat.le_of_ble_eq_true rfl⟩ ⟨Nat.le_of_ble_eq_true rfl, Nat.le_of_ble_eq_true rfl⟩ dL_isCall_197 ?_
        show KF E C 0 0 μ 200 _ [.int (nI n)]
        refine k_if_ne (tgt := 209) X dL_isCall_200 (by decide) (fun c200 => ?_) (fun c200 => ?_)
        · refine k_iload X 1 dL_isCall_209 rfl ?_
          refine k_iconst X (-1) dL_isCall_211 (by decide) ?_
          refine k_icmp_eq (tgt := 225) X dL_isCall_212 (by decide) (fun c212 => ?_) (fun c212 => ?_)
          · refine k_iload X 3 dL_isCall_225 rfl ?_
            refine k_sipush X 600 dL_isCall_227 (by decide) ?_
            refine k_icmp_lt (tgt := 238) X dL_isCall_230 (by decide) (fun c230 => ?_) (fun c230 => ?_)
            · refine k_iload_n X 4 dL_isCall_238 rfl rfl ?_
              refine k_iconst X (-1) dL_isCall_239 (by decide) ?_
              refine k_icmp_ne (tgt := 249) X dL_isCall_240 (by decide) (fun c240 => ?_) (fun c240 => ?_)
              · refine k_iload_n X 4 dL_isCall_249 rfl rfl ?_
                refine k_val (y := μ 11 c 8) (((hend c141).2.1).trans (by rw [if_neg c186, if_neg c200, if_neg (fun q => q c212), if_neg (Int32.not_le.mpr c230), if_neg c240])).symm ?_
                refine k_pick (L' := [(7, .int (μ 11 c 8)), (6, .int (laI (pT (μ 14 c)) n)), (5, .int (nI (ctB (pG (μ 14 c)) n))), (0, .ref (ad E 0 0)), (1, .ref (ad E 16 0)), (2, .int (nI c))]) [0, 1, 2, 5, 6, 7] rfl ?_
                exact k_250
              · refine k_sipush X 487 dL_isCall_243 (by decide) ?_
                refine k_goto (tgt := 250) X dL_isCall_246 (by decide) ?_
                refine k_val (y := μ 11 c 8) (((hend c141).2.1).trans (by rw [if_neg c186, if_neg c200, if_neg (fun q => q c212), if_neg (Int32.not_le.mpr c230), if_pos c240])).symm ?_
                refine k_pick (L' := [(7, .int (μ 11 c 8)), (6, .int (laI (pT (μ 14 c)) n)), (5, .int (nI (ctB (pG (μ 14 c)) n))), (0, .ref (ad E 0 0)), (1, .ref (ad E 16 0)), (2, .int (nI c))]) [0, 1, 2, 5, 6, 7] rfl ?_
                exact k_250
            · refine k_iload X 3 dL_isCall_233 rfl ?_
              refine k_goto (tgt := 250) X dL_isCall_235 (by decide) ?_
              refine k_val (y := μ 11 c 8) (((hend c141).2.1).trans (by rw [if_neg c186, if_neg c200, if_neg (fun q => q c212), if_pos (Int32.not_lt.mp c230)])).symm ?_
              refine k_pick (L' := [(7, .int (μ 11 c 8)), (6, .int (laI (pT (μ 14 c)) n)), (5, .int (nI (ctB (pG (μ 14 c)) n))), (0, .ref (ad E 0 0)), (1, .ref (ad E 16 0)), (2, .int (nI c))]) [0, 1, 2, 5, 6, 7] rfl ?_
              exact k_250
          · obtain ⟨a, ha, -, ea, -⟩ := (laI_sp (p := pT (μ 14 c)) n).resolve_left (fun q => c212 q.1)
            refine k_aload_n X 5 dL_isCall_215 rfl rfl ?_
            refine k_iload_n X 7 dL_isCall_216 rfl rfl ?_
            refine k_iload X 1 dL_isCall_217 rfl ?_
            refine k_val (y := nI a) ea ?_
            refine k_callV (a := 0) (o := 0) (As := [.int (nI c), .int (nI a)]) (S := []) X lk_L_62 rfl (by decide) rfl (N_state h c n a hc hn12 hn ha) rfl rfl (Nat.le_of_ble_eq_true rfl) ⟨Nat.le_of_ble_eq_true rfl, Nat.le_of_ble_eq_true rfl⟩ ⟨Nat.le_of_ble_eq_true rfl, Nat.le_of_ble_eq_true rfl⟩ dL_isCall_219 ?_
            show KF E C 0 0 μ 222 _ [.int (μ 14 c a)]
            refine k_goto (tgt := 250) X dL_isCall_222 (by decide) ?_
            refine k_val (y := μ 11 c 8) (((hend c141).2.1).trans (by rw [if_neg c186, if_neg c200, if_pos c212, ea, tN_nI (by omega)])).symm ?_
            refine k_pick (L' := [(7, .int (μ 11 c 8)), (6, .int (laI (pT (μ 14 c)) n)), (5, .int (nI (ctB (pG (μ 14 c)) n))), (0, .ref (ad E 0 0)), (1, .ref (ad E 16 0)), (2, .int (nI c))]) [0, 1, 2, 5, 6, 7] rfl ?_
            exact k_250
        · refine k_sipush X 480 dL_isCall_203 (by decide) ?_
          refine k_goto (tgt := 250) X dL_isCall_206 (by decide) ?_
          refine k_val (y := μ 11 c 8) (((hend c141).2.1).trans (by rw [if_neg c186, if_pos c200])).symm ?_
          refine k_pick (L' := [(7, .int (μ 11 c 8)), (6, .int (laI (pT (μ 14 c)) n)), (5, .int (nI (ctB (pG (μ 14 c)) n))), (0, .ref (ad E 0 0)), (1, .ref (ad E 16 0)), (2, .int (nI c))]) [0, 1, 2, 5, 6, 7] rfl ?_
          exact k_250
      · refine k_sipush X 487 dL_isCall_189 (by decide) ?_
        refine k_goto (tgt := 250) X dL_isCall_192 (by decide) ?_
        refine k_val (y := μ 11 c 8) (((hend c141).2.1).trans (by rw [if_pos c186])).symm ?_
        refine k_pick (L' := [(7, .int (μ 11 c 8)), (6, .int (laI (pT (μ 14 c)) n)), (5, .int (nI (ctB (pG (μ 14 c)) n))), (0, .ref (ad E 0 0)), (1, .ref (ad E 16 0)), (2, .int (nI c))]) [0, 1, 2, 5, 6, 7] rfl ?_
        exact k_250
    · refine k_iload X 2 dL_isCall_144 rfl ?_
      refine k_if_le_f (tgt := 176) X dL_isCall_146 (by decide) (Int32.not_le.mpr (hopen c141).1) ?_
      refine k_iload X 1 dL_isCall_149 rfl ?_
      refine k_iconst X (-1) dL_isCall_151 (by decide) ?_
      refine k_icmp_ne_f (tgt := 176) X dL_isCall_152 (by decide) (hopen c141).2.1 ?_
      refine k_aload_n X 5 dL_isCall_155 rfl rfl ?_
      refine k_iload_n X 7 dL_isCall_156 rfl rfl ?_
      refine k_callV (a := 0) (o := 0) (As := [.int (nI c)]) (S := []) X lk_L_50 rfl (by decide) rfl (N_answered h c hc) rfl rfl (Nat.le_of_ble_eq_true rfl) ⟨Nat.le_of_ble_eq_true rfl, Nat.le_of_ble_eq_true rfl⟩ ⟨Nat.le_of_ble_eq_true rfl, Nat.le_of_ble_eq_true rfl⟩ dL_isCall_157 ?_
      show KF E C 0 0 μ 160 _ [.int (μ 11 c 7)]
      refine k_iconst X (-1) dL_isCall_160 (by decide) ?_
      refine k_icmp_ne_f (tgt := 176) X dL_isCall_161 (by decide) (hopen c141).2.2.1 ?_
      refine k_iload X 3 dL_isCall_164 rfl ?_
      refine k_sipush X 600 dL_isCall_166 (by decide) ?_
      refine k_icmp_ge_f (tgt := 176) X dL_isCall_169 (by decide) (hopen c141).2.2.2 ?_
      refine k_iconst X (nI 1) dL_isCall_172 (by decide) ?_
      refine k_goto (tgt := 177) X dL_isCall_173 (by decide) ?_
      exact k_iret dL_isCall_177 hE (by decide) (if_pos c141).symm
  refine k_iconst X (-1) dL_isCall_0 (by decide) ?_
  refine k_istore_n (L' := [(3, .int (-1)), (0, .ref (ad E 0 0)), (1, .ref (ad E 16 0)), (2, .int (nI c))]) X dL_isCall_1 rfl (by decide) rfl ?_
  refine k_iconst X (-1) dL_isCall_2 (by decide) ?_
  refine k_istore (L' := [(4, .int (-1)), (3, .int (-1)), (0, .ref (ad E 0 0)), (1, .ref (ad E 16 0)), (2, .int (nI c))]) X dL_isCall_3 (by decide) rfl ?_
  refine k_iconst X (nI 0) dL_isCall_5 (by decide) ?_
  refine k_istore (L' := [(5, .int (nI 0)), (4, .int (-1)), (3, .int (-1)), (0, .ref (ad E 0 0)), (1, .ref (ad E 16 0)), (2, .int (nI c))]) X dL_isCall_6 (by decide) rfl ?_
  refine k_iconst X (-1) dL_isCall_8 (by decide) ?_
  refine k_istore (L' := [(6, .int (-1)), (5, .int (nI 0)), (4, .int (-1)), (3, .int (-1)), (0, .ref (ad E 0 0)), (1, .ref (ad E 16 0)), (2, .int (nI c))]) X dL_isCall_9 (by decide) rfl ?_
  refine k_iconst X (nI 0) dL_isCall_11 (by decide) ?_
  refine k_istore (L' := [(7, .int (nI 0)), (6, .int (-1)), (5, .int (nI 0)), (4, .int (-1)), (3, .int (-1)), (0, .ref (ad E 0 0)), (1, .ref (ad E 16 0)), (2, .int (nI c))]) X dL_isCall_12 (by decide) rfl ?_
  exact L_L_isCall h c n hc hn12 hn X k_131 (n + 1) 0 (by omega) (Nat.zero_le n)
end
section
/-! bits of the law's two masks -/
theorem fa_or (a b : Nat) : nI a ||| nI b = nI (a ||| b) := by
  apply Int32.toBitVec_inj.mp
  show (nI a).toBitVec ||| (nI b).toBitVec = (nI (a ||| b)).toBitVec
  show BitVec.ofNat 32 a ||| BitVec.ofNat 32 b = BitVec.ofNat 32 (a ||| b)
  exact (BitVec.ofNat_or).symm
theorem sm_12 : ∀ c, c < 12 → ((nI c).toBitVec.smod 32).toNat = c ∧ nI c &&& 31 = nI c := by decide
/-- the bit of a mask -/
theorem bit_at {M c : Nat} (hM : M < 2 ^ 12) (hc : c < 12) : (nI M >>> (nI c &&& 31)) &&& nI 1 = nI (M / 2 ^ c % 2) ∧ M.testBit c = decide (M / 2 ^ c % 2 = 1) := by
  obtain ⟨h1, h2⟩ := sm_12 c hc
  have hd : M / 2 ^ c ≤ M := Nat.div_le_self _ _
  refine ⟨?_, Nat.testBit_eq_decide_div_mod_eq⟩
  rw [h2, pk_shrN (by omega) (nI c) c h1, pk_andN (by omega) 1 (by decide)]
theorem bit_set {M c : Nat} (hM : M < 2 ^ 12) (hc : c < 12) : nI M ||| (nI 1 <<< (nI c &&& 31)) = nI (M ||| 2 ^ c) ∧ M ||| 2 ^ c < 2 ^ 12 ∧ ∀ i, (M ||| 2 ^ c).testBit i = (M.testBit i || decide (i = c)) := by
  obtain ⟨h1, h2⟩ := sm_12 c hc
  have hp : 2 ^ c < 2 ^ 12 := Nat.pow_lt_pow_right (by decide) hc
  refine ⟨?_, Nat.or_lt_two_pow hM hp, fun i => ?_⟩
  · rw [h2, pk_shlN (n := 1) (nI c) c h1 (by omega), Nat.one_mul, fa_or]
  · rw [Nat.testBit_or]
    congr 1
    by_cases e : i = c
    · subst e; rw [Nat.testBit_two_pow_self, decide_eq_true rfl]
    · rw [Nat.testBit_two_pow_of_ne (fun q => e q.symm), decide_eq_false e]
end
section
/-! the law's row beside the object, and its look at a call -/
def LX (K t q : Nat) (μ : Mem) : Prop := μ 16 0 0 = nI t ∧ μ 16 0 1 = nI K ∧ μ 16 0 2 = nI q ∧ (∀ d, d < 10 → μ 16 0 (4 + d) = μ 3 0 d) ∧ ∃ M, M < 2 ^ 12 ∧ μ 16 0 3 = nI M ∧ ∀ c, c < 12 → M.testBit c = !decide (μ 11 c 9 = 0)
def JX (K t q : Nat) (μ : Mem) : Prop := IX K t q μ ∧ LX K t q μ
theorem LX.cong {K t q : Nat} {μ μ' : Mem} (h : LX K t q μ) (h16 : ∀ i, μ' 16 0 i = μ 16 0 i) (h3 : ∀ i, μ' 3 0 i = μ 3 0 i) (h9 : ∀ c, μ' 11 c 9 = μ 11 c 9) : LX K t q μ' := by
  unfold LX at h ⊢
  simp only [h16, h3, h9]
  exact h
theorem JX.cong {K t q : Nat} {μ μ' : Mem} (h : JX K t q μ) (hA : ∀ k o i, k ≠ 5 → μ' k o i = μ k o i) : JX K t q μ' :=
  ⟨h.1.cong (fun k o i _ _ _ a => hA k o i a), h.2.cong (fun i => hA 16 0 i (by decide)) (fun i => hA 3 0 i (by decide)) (fun c => hA 11 c 9 (by decide))⟩
theorem moG_sp {f : Nat → Int32} : ∀ {n : Nat}, (∀ b, b < n → f b ≤ moG f n) ∧ (moG f n = -1 ∨ ∃ b, b < n ∧ moG f n = f b)
  | 0 => ⟨fun b hb => absurd hb (Nat.not_lt_zero b), Or.inl rfl⟩
  | n + 1 => by
    obtain ⟨i1, i2⟩ := moG_sp (f := f) (n := n)
    by_cases k : f n ≤ moG f n
    · rw [moG_t k]
      refine ⟨fun b hb => ?_, ?_⟩
      · by_cases z : b = n
        · rw [z]; exact k
        · exact i1 b (by omega)
      · rcases i2 with a | ⟨b, hb, h1⟩
        · exact Or.inl a
        · exact Or.inr ⟨b, by omega, h1⟩
    · rw [moG_f k]
      refine ⟨fun b hb => ?_, Or.inr ⟨n, by omega, rfl⟩⟩
      by_cases z : b = n
      · rw [z]; exact Int32.le_refl _
      · have := i1 b (by omega)
        simp only [Int32.le_iff_toInt_le] at this k ⊢; omega
theorem mo_be {f : Nat → Int32} {n : Nat} : (if 600 ≤ moG f n then moG f n else if beL f n = -1 then 487 else beL f n) = beI f n := by
  obtain ⟨a1, a2⟩ := moG_sp (f := f) (n := n)
  obtain ⟨b1, b2⟩ := beG_sp (f := f) (n := n)
  unfold beI
  by_cases k : 600 ≤ moG f n
  · have e : beG f n = moG f n := by
      rcases a2 with q | ⟨b, hb, q⟩
      · rw [q] at k; exact absurd k (by decide)
      · have h487 : ¬ f b = 487 := fun z => by rw [q, z] at k; exact absurd k (by decide)
        have h1 := b1 b hb h487
        rcases b2 with r | ⟨b', hb', -, r⟩
        · rw [q] at k; rw [r] at h1; exfalso; simp only [Int32.le_iff_toInt_le, i600, im1] at k h1; omega
        · have h2 := a1 b' hb'
          apply Int32.toInt_inj.mp
          rw [q] at h2 ⊢
          rw [← r] at h2
          simp only [Int32.le_iff_toInt_le] at h1 h2; omega
    rw [if_pos k, e, if_pos k]
  · have e : ¬ 600 ≤ beG f n := fun z => by
      rcases b2 with r | ⟨b', hb', -, r⟩
      · rw [r] at z; exact absurd z (by decide)
      · have h2 := a1 b' hb'
        rw [← r] at h2
        simp only [Int32.le_iff_toInt_le, i600] at z h2 k; omega
    rw [if_neg k, if_neg e]
theorem C_isCall {E : EE} {K t q c : Nat} {μ : Mem} (h : JX K t q μ) (hc : c < K) : ∃ μ', MM E yL_isCall cL_isCall 9 (some .boolean) (rm 5 0) [.ref (ad E 0 0), .ref (ad E 16 0), .int (nI c)] μ (some (.int 1)) μ' ∧ JX K t q μ' := by
  have hJ := h
  obtain ⟨hI, l0, l1, l2, l3, M, hM, l4, l5⟩ := h
  have hK := hI.1
  obtain ⟨n, hR⟩ := hI.2.2.2.2.2.2.1 c hc
  obtain ⟨hn12, hn⟩ := hR.n
  obtain ⟨g1, g2⟩ := bit_at hM (show c < 12 by omega)
  have hbt : (μ 16 0 3 >>> (nI c &&& 31)) &&& nI 1 = nI (M / 2 ^ c % 2) := by rw [l4]; exact g1
  have hb2 : M / 2 ^ c % 2 = 1 ↔ ¬ μ 11 c 9 = 0 := by
    rw [l5 c (by omega)] at g2
    by_cases z : μ 11 c 9 = 0
    · rw [decide_eq_true z] at g2
      exact ⟨fun y => absurd (decide_eq_true y) (by rw [← g2]; decide), fun y => absurd z y⟩
    · rw [decide_eq_false z] at g2
      exact ⟨fun _ => z, fun _ => of_decide_eq_true g2.symm⟩
  have hbn : nI (M / 2 ^ c % 2) = nI 1 ↔ ¬ μ 11 c 9 = 0 := (nI_eq (by omega) (by decide)).trans hb2
  have hopen : μ 11 c 8 = -1 → 0 < nI (ctB (pG (μ 14 c)) n) ∧ laI (pT (μ 14 c)) n = -1 ∧ μ 11 c 7 = -1 ∧ ¬ 600 ≤ moG (μ 14 c) n := by
    intro hf
    rcases hR.2.2 with ⟨⟨o1, o2, o3, o4⟩, b, hb, hs⟩ | hE
    · refine ⟨?_, laI_no fun i hi => decide_eq_false fun z => ?_, o2, fun z => ?_⟩
      · have h1 := ct_lt (Q := pG (μ 14 c)) (p := b) (decide_eq_true hs) hb
        have h2 : ctB (pG (μ 14 c)) n ≤ n := ctB_le _ _
        exact (nI_ltI (a := 0) (by decide) (by omega)).mpr (by omega)
      · have := (o4 i hi z.1).1
        exact absurd z.2 (Int32.not_lt.mpr this)
      · rcases (moG_sp (f := μ 14 c) (n := n)).2 with r | ⟨b', hb', r⟩
        · rw [r] at z; exact absurd z (by decide)
        · rw [r] at z
          exact (o4 b' hb' (by simp only [Int32.le_iff_toInt_le, i600, i200] at z ⊢; omega)).2 z
    · exact absurd hf hE.1
  have hend : ¬ μ 11 c 8 = -1 → nI (ctB (pG (μ 14 c)) n) = 0 ∧ μ 11 c 8 = (if nI (M / 2 ^ c % 2) = nI 1 then 487 else if nI n = 0 then 480 else if ¬ laI (pT (μ 14 c)) n = -1 then μ 14 c (tN (laI (pT (μ 14 c)) n)) else if 600 ≤ moG (μ 14 c) n then moG (μ 14 c) n else if beL (μ 14 c) n = -1 then 487 else beL (μ 14 c) n) ∧ μ 11 c 7 = laI (pT (μ 14 c)) n := by
    intro hf
    rcases hR.2.2 with ⟨o, -⟩ | ⟨-, e1, e2⟩
    · exact absurd o.1 hf
    · have hg : nI (ctB (pG (μ 14 c)) n) = 0 := by
        rw [show ctB (pG (μ 14 c)) n = 0 from ctB_none fun i hi => decide_eq_false (p := μ 14 c i = 100 ∨ μ 14 c i = 180) fun z => absurd (e1 i hi) (sOp_lt z)]
        decide
      have h300 : (∀ b, b < n → 300 ≤ μ 14 c b) → laI (pT (μ 14 c)) n = -1 := fun hh => laI_no fun i hi => decide_eq_false fun z => absurd z.2 (Int32.not_lt.mpr (hh i hi))
      refine ⟨hg, ?_⟩
      rcases e2 with ⟨r1, r2, r3, r4⟩ | ⟨r1, r2, r3, r4, r5⟩ | ⟨r1, r2, r3, r4, r5⟩ | ⟨r1, r2, a, ha, r3, r4, r5, r6⟩
      · rw [if_neg (fun z => hbn.mp z r4), if_pos (by rw [r1]; decide), r2, r3]
        exact ⟨rfl, (laI_no fun i hi => by omega).symm⟩
      · rw [if_pos (hbn.mpr r2), r3, r4]
        exact ⟨rfl, (h300 r5).symm⟩
      · rw [if_neg (fun z => hbn.mp z r2), if_neg (nI_ne0 (by omega) (by omega)), if_neg (fun z => z (h300 r5)), mo_be, r4]
        exact ⟨r3, (h300 r5).symm⟩
      · have hl : laI (pT (μ 14 c)) n = nI a := laI_at ha (decide_eq_true ⟨e1 a ha, Int32.not_le.mp r5⟩) fun j hj z => by
          by_cases y : j = a
          · exact y
          · exact absurd (of_decide_eq_true z).2 (Int32.not_lt.mpr (r6 j hj y).1)
        rw [if_neg (fun z => hbn.mp z r2), if_neg (nI_ne0 (by omega) (by omega)), hl, if_pos (nI_m1 (by omega)), tN_nI (by omega), r3]
        exact ⟨r4.symm, rfl⟩
  refine ⟨_, C_L_isCall hI c n hc hn12 hn (M / 2 ^ c % 2) hbt hR hopen hend, ?_⟩
  split
  · exact hJ
  · exact hJ.cong fun k o i hk => fsM_k hk
end
section
/-! passes: time goes by -/
theorem en_t {μ : Mem} {n : Nat} (h : ¬ μ 11 n 8 = -1) : nI (EN μ n + 1) = nI (EN μ (n + 1)) := congrArg nI (ctB_t (p := fun c => !decide (μ 11 c 8 = -1)) (by rw [decide_eq_false h]; rfl)).symm
theorem en_f {μ : Mem} {n : Nat} (h : μ 11 n 8 = -1) : nI (EN μ n + 0) = nI (EN μ (n + 1)) := congrArg nI (ctB_f (p := fun c => !decide (μ 11 c 8 = -1)) (by rw [decide_eq_true h]; rfl)).symm

set_option maxHeartbeats 4000000 in
set_option maxRecDepth 100000 in
theorem L1_L_passes {E : EE} {μ : Mem} {C : Ctx} {K t q : Nat} (h : IX K t q μ) (hk : μ 16 0 1 = nI K) (hK : K ≤ 12) (x : Int32) (X : Cx E C cL_passes RL 8 (rm 7 0)) (hx : KF E C 0 0 μ 37 [(3, .int (nI (EN μ K))), (0, .ref (ad E 0 0)), (1, .ref (ad E 16 0)), (2, .int x)] []) : ∀ (f : Nat) (i : Nat), K - i < f → i ≤ K → KF E C 0 0 μ 5 [(4, .int (nI i)), (3, .int (nI (EN μ i))), (0, .ref (ad E 0 0)), (1, .ref (ad E 16 0)), (2, .int x)] [] := by
  intro f
  induction f with
  | zero => intros; omega
  | succ f ih =>
    intro i hf hi
    refine k_iload X 0 dL_passes_5 rfl ?_
    refine k_aload_n X 3 dL_passes_7 rfl rfl ?_
    refine k_iconst X (nI 1) dL_passes_8 (by decide) ?_
    refine k_iald (a := 16) (j := 1) X rfl (by decide) rfl (show 1 < 14 by omega) (by decide) dL_passes_9 ?_
    refine k_val (y := nI K) hk ?_
    refine k_ge_n (a := i) (b := K) (tgt := 37) X dL_passes_10 (by decide) rfl rfl (by omega) (by omega) (fun c10 => ?_) (fun c10 => ?_)
    · obtain rfl : i = K := by omega
      refine k_pick (L' := [(3, .int (nI (EN μ i))), (0, .ref (ad E 0 0)), (1, .ref (ad E 16 0)), (2, .int x)]) [1, 2, 3, 4] rfl ?_
      exact hx
    · refine k_iload_n X 1 dL_passes_13 rfl rfl ?_
      refine k_aload_n X 2 dL_passes_14 rfl rfl ?_
      refine k_iload X 0 dL_passes_15 rfl ?_
      refine k_callV (a := 0) (o := 0) (As := [.int (nI i)]) (S := [.int (nI (EN μ i))]) X lk_L_56 rfl (by decide) rfl (N_finalOf h i c10) rfl rfl (Nat.le_of_ble_eq_true rfl) ⟨Nat.le_of_ble_eq_true rfl, Nat.le_of_ble_eq_true rfl⟩ ⟨Nat.le_of_ble_eq_true rfl, Nat.le_of_ble_eq_true rfl⟩ dL_passes_17 ?_
      show KF E C 0 0 μ 20 _ [.int (μ 11 i 8), .int (nI (EN μ i))]
      refine k_iconst X (-1) dL_passes_20 (by decide) ?_
      refine k_icmp_eq (tgt := 28) X dL_passes_21 (by decide) (fun c21 => ?_) (fun c21 => ?_)
      · refine k_iconst X (nI 0) dL_passes_28 (by decide) ?_
        refine k_iadd X dL_passes_29 ?_
        refine k_val (y := nI ((EN μ i) + 0)) (nI_add _ _) ?_
        refine k_val (y := nI (EN μ (i + 1))) (en_f c21) ?_
        refine k_istore_n (L' := [(3, .int (nI (EN μ (i + 1)))), (4, .int (nI i)), (0, .ref (ad E 0 0)), (1, .ref (ad E 16 0)), (2, .int x)]) X dL_passes_30 rfl (by decide) rfl ?_
        refine k_iinc (v := nI (i + 1)) (L' := [(4, .int (nI (i + 1))), (3, .int (nI (EN μ (i + 1)))), (0, .ref (ad E 0 0)), (1, .ref (ad E 16 0)), (2, .int x)]) X 1 dL_passes_31 rfl (nI_1 i) (by decide) rfl ?_
        refine k_goto (tgt := 5) X dL_passes_34 (by decide) ?_
        exact ih (i + 1) (by omega) (by omega)
      · refine k_iconst X (nI 1) dL_passes_24 (by decide) ?_
        refine k_goto (tgt := 29) X dL_passes_25 (by decide) ?_
        refine k_iadd X dL_passes_29 ?_
        refine k_val (y := nI ((EN μ i) + 1)) (nI_add _ _) ?_
        refine k_val (y := nI (EN μ (i + 1))) (en_t c21) ?_
        refine k_istore_n (L' := [(3, .int (nI (EN μ (i + 1)))), (4, .int (nI i)), (0, .ref (ad E 0 0)), (1, .ref (ad E 16 0)), (2, .int x)]) X dL_passes_30 rfl (by decide) rfl ?_
        refine k_iinc (v := nI (i + 1)) (L' := [(4, .int (nI (i + 1))), (3, .int (nI (EN μ (i + 1)))), (0, .ref (ad E 0 0)), (1, .ref (ad E 16 0)), (2, .int x)]) X 1 dL_passes_31 rfl (nI_1 i) (by decide) rfl ?_
        refine k_goto (tgt := 5) X dL_passes_34 (by decide) ?_
        exact ih (i + 1) (by omega) (by omega)

set_option maxHeartbeats 4000000 in
set_option maxRecDepth 100000 in
theorem L2_L_passes {E : EE} {μ : Mem} {C : Ctx} {K t q : Nat} (h : IX K t q μ) (hk : μ 16 0 1 = nI K) (hK : K ≤ 12) (x a b : Int32) (hT : x < 120) (X : Cx E C cL_passes RL 8 (rm 7 0)) (hx : KF E C 0 0 μ 136 [(6, .int (nI 1)), (5, .int (nI (EN μ K))), (0, .ref (ad E 0 0)), (1, .ref (ad E 16 0)), (2, .int x), (3, .int a), (4, .int b)] []) : ∀ (f : Nat) (i : Nat), K - i < f → i ≤ K → KF E C 0 0 μ 74 [(7, .int (nI i)), (6, .int (nI 1)), (5, .int (nI (EN μ i))), (0, .ref (ad E 0 0)), (1, .ref (ad E 16 0)), (2, .int x), (3, .int a), (4, .int b)] [] := by
  intro f
  induction f with
  | zero => intros; omega
  | succ f ih =>
    intro i hf hi
    refine k_iload X 0 dL_passes_74 rfl ?_
    refine k_aload_n X 4 dL_passes_76 rfl rfl ?_
    refine k_iconst X (nI 1) dL_passes_77 (by decide) ?_
    refine k_iald (a := 16) (j := 1) X rfl (by decide) rfl (show 1 < 14 by omega) (by decide) dL_passes_78 ?_
    refine k_val (y := nI K) hk ?_
    refine k_ge_n (a := i) (b := K) (tgt := 136) X dL_passes_79 (by decide) rfl rfl (by omega) (by omega) (fun c79 => ?_) (fun c79 => ?_)
    · obtain rfl : i = K := by omega
      refine k_pick (L' := [(6, .int (nI 1)), (5, .int (nI (EN μ i))), (0, .ref (ad E 0 0)), (1, .ref (ad E 16 0)), (2, .int x), (3, .int a), (4, .int b)]) [1, 2, 3, 4, 5, 6, 7] rfl ?_
      exact hx
    · refine k_iload X 1 dL_passes_82 rfl ?_
      refine k_if_eq_f (tgt := 136) X dL_passes_84 (by decide) (by decide) ?_
      refine k_iload X 2 dL_passes_87 rfl ?_
      refine k_aload_n X 3 dL_passes_89 rfl rfl ?_
      refine k_iload X 0 dL_passes_90 rfl ?_
      refine k_callV (a := 0) (o := 0) (As := [.int (nI i)]) (S := [.int (nI (EN μ i))]) X lk_L_56 rfl (by decide) rfl (N_finalOf h i c79) rfl rfl (Nat.le_of_ble_eq_true rfl) ⟨Nat.le_of_ble_eq_true rfl, Nat.le_of_ble_eq_true rfl⟩ ⟨Nat.le_of_ble_eq_true rfl, Nat.le_of_ble_eq_true rfl⟩ dL_passes_92 ?_
      show KF E C 0 0 μ 95 _ [.int (μ 11 i 8), .int (nI (EN μ i))]
      refine k_iconst X (-1) dL_passes_95 (by decide) ?_
      refine k_icmp_eq (tgt := 103) X dL_passes_96 (by decide) (fun c96 => ?_) (fun c96 => ?_)
      · refine k_iconst X (nI 0) dL_passes_103 (by decide) ?_
        refine k_iadd X dL_passes_104 ?_
        refine k_val (y := nI ((EN μ i) + 0)) (nI_add _ _) ?_
        refine k_val (y := nI (EN μ (i + 1))) (en_f c96) ?_
        refine k_istore (L' := [(5, .int (nI (EN μ (i + 1)))), (7, .int (nI i)), (6, .int (nI 1)), (0, .ref (ad E 0 0)), (1, .ref (ad E 16 0)), (2, .int x), (3, .int a), (4, .int b)]) X dL_passes_105 (by decide) rfl ?_
        refine k_iload_n X 5 dL_passes_107 rfl rfl ?_
        refine k_bipush X 120 dL_passes_108 (by decide) ?_
        refine k_icmp_lt_t (tgt := 123) X dL_passes_110 (by decide) hT ?_
        refine k_iconst X (nI 1) dL_passes_123 (by decide) ?_
        refine k_goto (tgt := 128) X dL_passes_124 (by decide) ?_
        refine k_istore (L' := [(6, .int (nI 1)), (5, .int (nI (EN μ (i + 1)))), (7, .int (nI i)), (0, .ref (ad E 0 0)), (1, .ref (ad E 16 0)), (2, .int x), (3, .int a), (4, .int b)]) X dL_passes_128 (by decide) rfl ?_
        refine k_iinc (v := nI (i + 1)) (L' := [(7, .int (nI (i + 1))), (6, .int (nI 1)), (5, .int (nI (EN μ (i + 1)))), (0, .ref (ad E 0 0)), (1, .ref (ad E 16 0)), (2, .int x), (3, .int a), (4, .int b)]) X 2 dL_passes_130 rfl (nI_1 i) (by decide) rfl ?_
        refine k_goto (tgt := 74) X dL_passes_133 (by decide) ?_
        exact ih (i + 1) (by omega) (by omega)
      · refine k_iconst X (nI 1) dL_passes_99 (by decide) ?_
        refine k_goto (tgt := 104) X dL_passes_100 (by decide) ?_
        refine k_iadd X dL_passes_104 ?_
        refine k_val (y := nI ((EN μ i) + 1)) (nI_add _ _) ?_
        refine k_val (y := nI (EN μ (i + 1))) (en_t c96) ?_
        refine k_istore (L' := [(5, .int (nI (EN μ (i + 1)))), (7, .int (nI i)), (6, .int (nI 1)), (0, .ref (ad E 0 0)), (1, .ref (ad E 16 0)), (2, .int x), (3, .int a), (4, .int b)]) X dL_passes_105 (by decide) rfl ?_
        refine k_iload_n X 5 dL_passes_107 rfl rfl ?_
        refine k_bipush X 120 dL_passes_108 (by decide) ?_
        refine k_icmp_lt_t (tgt := 123) X dL_passes_110 (by decide) hT ?_
        refine k_iconst X (nI 1) dL_passes_123 (by decide) ?_
        refine k_goto (tgt := 128) X dL_passes_124 (by decide) ?_
        refine k_istore (L' := [(6, .int (nI 1)), (5, .int (nI (EN μ (i + 1)))), (7, .int (nI i)), (0, .ref (ad E 0 0)), (1, .ref (ad E 16 0)), (2, .int x), (3, .int a), (4, .int b)]) X dL_passes_128 (by decide) rfl ?_
        refine k_iinc (v := nI (i + 1)) (L' := [(7, .int (nI (i + 1))), (6, .int (nI 1)), (5, .int (nI (EN μ (i + 1)))), (0, .ref (ad E 0 0)), (1, .ref (ad E 16 0)), (2, .int x), (3, .int a), (4, .int b)]) X 2 dL_passes_130 rfl (nI_1 i) (by decide) rfl ?_
        refine k_goto (tgt := 74) X dL_passes_133 (by decide) ?_
        exact ih (i + 1) (by omega) (by omega)

set_option maxHeartbeats 4000000 in
set_option maxRecDepth 100000 in
theorem C_L_passes {E : EE} {μ : Mem} {K t q : Nat} (h : IX K t q μ) (hk : μ 16 0 1 = nI K) (hK : K ≤ 12) (T d : Nat) (μ1 : Mem) (hT : nI T < 120) (h0 : μ1 16 0 0 = nI t) (h2 : IX K (t + T) q (st μ1 16 0 0 (nI (t + T)))) (hk2 : (st μ1 16 0 0 (nI (t + T))) 16 0 1 = nI K) (hEN : EN (st μ1 16 0 0 (nI (t + T))) K = EN μ K + d) (hp : MM E yX2_pass cX2_pass 4 (some .int) (rm 6 0) [.ref (ad E 0 0), .int (nI T)] μ (some (.int (nI d))) μ1) : MM E yL_passes cL_passes 8 (some .boolean) (rm 7 0) [.ref (ad E 0 0), .ref (ad E 16 0), .int (nI T)] μ (some (.int 1)) (st μ1 16 0 0 (nI (t + T))) := by
  refine MM.int (own := RL) [(0, .ref (ad E 0 0)), (1, .ref (ad E 16 0)), (2, .int (nI T))] rfl rfl rfl (Nat.le_of_ble_eq_true rfl) rfl (fun C X hE => ?_)
  have k_136 : KF E C 0 0 (st μ1 16 0 0 (nI (t + T))) 136 [(6, .int (nI 1)), (5, .int (nI (EN (st μ1 16 0 0 (nI (t + T))) K))), (0, .ref (ad E 0 0)), (1, .ref (ad E 16 0)), (2, .int (nI T)), (3, .int (nI (EN μ K))), (4, .int (nI d))] [] := by
    refine k_iload X 0 dL_passes_136 rfl ?_
    refine k_if_eq_f (tgt := 154) X dL_passes_138 (by decide) (by decide) ?_
    refine k_iload X 1 dL_passes_141 rfl ?_
    refine k_iload_n X 5 dL_passes_143 rfl rfl ?_
    refine k_iload X 6 dL_passes_144 rfl ?_
    refine k_iadd X dL_passes_146 ?_
    refine k_val (y := nI (EN μ K + d)) (nI_add _ _) ?_
    refine k_icmp_ne_f (tgt := 154) X dL_passes_147 (by decide) (congrArg nI hEN) ?_
    refine k_iconst X (nI 1) dL_passes_150 (by decide) ?_
    refine k_goto (tgt := 155) X dL_passes_151 (by decide) ?_
    exact k_iret dL_passes_155 hE (by decide) rfl
  have k_37 : KF E C 0 0 μ 37 [(3, .int (nI (EN μ K))), (0, .ref (ad E 0 0)), (1, .ref (ad E 16 0)), (2, .int (nI T))] [] := by
    refine k_aload_n X 1 dL_passes_37 rfl rfl ?_
    refine k_iload_n X 3 dL_passes_38 rfl rfl ?_
    refine k_callV (a := 0) (o := 0) (As := [.int (nI T)]) (S := []) X lk_L_82 rfl (by decide) rfl hp rfl rfl (Nat.le_of_ble_eq_true rfl) ⟨Nat.le_of_ble_eq_true rfl, Nat.le_of_ble_eq_true rfl⟩ ⟨Nat.le_of_ble_eq_true rfl, Nat.le_of_ble_eq_true rfl⟩ dL_passes_39 ?_
    show KF E C 0 0 μ1 42 _ [.int (nI d)]
    refine k_istore (L' := [(4, .int (nI d)), (3, .int (nI (EN μ K))), (0, .ref (ad E 0 0)), (1, .ref (ad E 16 0)), (2, .int (nI T))]) X dL_passes_42 (by decide) rfl ?_
    refine k_aload_n X 3 dL_passes_44 rfl rfl ?_
    refine k_iconst X (nI 0) dL_passes_45 (by decide) ?_
    refine k_dup2 X dL_passes_46 rfl rfl ?_
    refine k_iald (a := 16) (j := 0) X rfl (by decide) rfl (show 0 < 14 by omega) (by decide) dL_passes_47 ?_
    refine k_val (y := nI t) h0 ?_
    refine k_iload_n X 4 dL_passes_48 rfl rfl ?_
    refine k_iadd X dL_passes_49 ?_
    refine k_val (y := nI (t + T)) (nI_add _ _) ?_
    refine k_iast (a := 16) (j := 0) X rfl (by decide) rfl (show 0 < 14 by omega) (by decide) dL_passes_50 ?_
    refine k_iconst X (nI 0) dL_passes_51 (by decide) ?_
    refine k_istore (L' := [(5, .int (nI 0)), (4, .int (nI d)), (3, .int (nI (EN μ K))), (0, .ref (ad E 0 0)), (1, .ref (ad E 16 0)), (2, .int (nI T))]) X dL_passes_52 (by decide) rfl ?_
    refine k_aload_n X 3 dL_passes_54 rfl rfl ?_
    refine k_callV (a := 0) (o := 0) (As := []) (S := []) X lk_L_85 rfl (by decide) rfl (N_time h2) rfl rfl (Nat.le_of_ble_eq_true rfl) ⟨Nat.le_of_ble_eq_true rfl, Nat.le_of_ble_eq_true rfl⟩ ⟨Nat.le_of_ble_eq_true rfl, Nat.le_of_ble_eq_true rfl⟩ dL_passes_55 ?_
    show KF E C 0 0 (st μ1 16 0 0 (nI (t + T))) 58 _ [.int (nI (t + T))]
    refine k_aload_n X 4 dL_passes_58 rfl rfl ?_
    refine k_iconst X (nI 0) dL_passes_59 (by decide) ?_
    refine k_iald (a := 16) (j := 0) X rfl (by decide) rfl (show 0 < 14 by omega) (by decide) dL_passes_60 ?_
    refine k_val (y := nI (t + T)) st_same ?_
    refine k_icmp_ne_f (tgt := 68) X dL_passes_61 (by decide) rfl ?_
    refine k_iconst X (nI 1) dL_passes_64 (by decide) ?_
    refine k_goto (tgt := 69) X dL_passes_65 (by decide) ?_
    refine k_istore (L' := [(6, .int (nI 1)), (5, .int (nI 0)), (4, .int (nI d)), (3, .int (nI (EN μ K))), (0, .ref (ad E 0 0)), (1, .ref (ad E 16 0)), (2, .int (nI T))]) X dL_passes_69 (by decide) rfl ?_
    refine k_iconst X (nI 0) dL_passes_71 (by decide) ?_
    refine k_istore (L' := [(7, .int (nI 0)), (6, .int (nI 1)), (5, .int (nI 0)), (4, .int (nI d)), (3, .int (nI (EN μ K))), (0, .ref (ad E 0 0)), (1, .ref (ad E 16 0)), (2, .int (nI T))]) X dL_passes_72 (by decide) rfl ?_
    refine k_pick (L' := [(7, .int (nI 0)), (6, .int (nI 1)), (5, .int (nI 0)), (0, .ref (ad E 0 0)), (1, .ref (ad E 16 0)), (2, .int (nI T)), (3, .int (nI (EN μ K))), (4, .int (nI d))]) [0, 1, 2, 5, 6, 7, 4, 3] rfl ?_
    exact L2_L_passes h2 hk2 hK _ _ _ hT X k_136 (K + 1) 0 (by omega) (Nat.zero_le K)
  refine k_iconst X (nI 0) dL_passes_0 (by decide) ?_
  refine k_istore_n (L' := [(3, .int (nI 0)), (0, .ref (ad E 0 0)), (1, .ref (ad E 16 0)), (2, .int (nI T))]) X dL_passes_1 rfl (by decide) rfl ?_
  refine k_iconst X (nI 0) dL_passes_2 (by decide) ?_
  refine k_istore (L' := [(4, .int (nI 0)), (3, .int (nI 0)), (0, .ref (ad E 0 0)), (1, .ref (ad E 16 0)), (2, .int (nI T))]) X dL_passes_3 (by decide) rfl ?_
  exact L1_L_passes h hk hK _ X k_37 (K + 1) 0 (by omega) (Nat.zero_le K)
end
section
/-! registers -/
def pP (f : Nat → Nat) (tg : Nat) : Nat → Bool := fun k => decide (nI (f k) = nI tg)
theorem dv100 {a b : Nat} (ha : a < 16) (hb : b ≤ 10) : nI (100 * a + b) / nI 100 = nI a := by
  rw [pk_div (by omega) (by decide) (by decide)]
  congr 1
  omega
theorem sb1 (q : Nat) : nI (q + 1) - nI 1 = nI q := by rw [pk_sub (by omega)]; rfl

set_option maxHeartbeats 4000000 in
set_option maxRecDepth 100000 in
theorem L_L_registers {E : EE} {μ : Mem} {C : Ctx} (u tg Q T th : Nat) (fT gT : Nat → Nat) (hth : th ≤ 6) (hfg : ∀ k, k < th → fT k < 16 ∧ gT k ≤ 10) (hbd : ∀ k, k < th → MM E yX2_binding cX2_binding 5 (some .int) (rm 3 0) [.ref (ad E 0 0), .int (nI u), .int (nI k)] μ (some (.int (nI (100 * fT k + gT k)))) μ) (X : Cx E C cL_registers RL 10 (rm 5 0)) (hx : KF E C 0 0 μ 49 [(7, .int (laI (pP fT tg) th)), (6, .int (nI th)), (0, .ref (ad E 0 0)), (1, .ref (ad E 16 0)), (2, .int (nI u)), (3, .int (nI tg)), (4, .int (nI Q)), (5, .int (nI T))] []) : ∀ (f : Nat) (i : Nat), th - i < f → i ≤ th → KF E C 0 0 μ 13 [(8, .int (nI i)), (7, .int (laI (pP fT tg) i)), (6, .int (nI th)), (0, .ref (ad E 0 0)), (1, .ref (ad E 16 0)), (2, .int (nI u)), (3, .int (nI tg)), (4, .int (nI Q)), (5, .int (nI T))] [] := by
  intro f
  induction f with
  | zero => intros; omega
  | succ f ih =>
    intro i hf hi
    refine k_iload X 0 dL_registers_13 rfl ?_
    refine k_iload X 2 dL_registers_15 rfl ?_
    refine k_ge_n (a := i) (b := th) (tgt := 49) X dL_registers_17 (by decide) rfl rfl (by omega) (by omega) (fun c17 => ?_) (fun c17 => ?_)
    · obtain rfl : i = th := by omega
      refine k_pick (L' := [(7, .int (laI (pP fT tg) i)), (6, .int (nI i)), (0, .ref (ad E 0 0)), (1, .ref (ad E 16 0)), (2, .int (nI u)), (3, .int (nI tg)), (4, .int (nI Q)), (5, .int (nI T))]) [1, 2, 3, 4, 5, 6, 7, 8] rfl ?_
      exact hx
    · refine k_aload_n X 3 dL_registers_20 rfl rfl ?_
      refine k_iload_n X 5 dL_registers_21 rfl rfl ?_
      refine k_iload X 0 dL_registers_22 rfl ?_
      refine k_callV (a := 0) (o := 0) (As := [.int (nI u), .int (nI i)]) (S := []) X lk_L_36 rfl (by decide) rfl (hbd i c17) rfl rfl (Nat.le_of_ble_eq_true rfl) ⟨Nat.le_of_ble_eq_true rfl, Nat.le_of_ble_eq_true rfl⟩ ⟨Nat.le_of_ble_eq_true rfl, Nat.le_of_ble_eq_true rfl⟩ dL_registers_24 ?_
      show KF E C 0 0 μ 27 _ [.int (nI (100 * fT i + gT i))]
      refine k_bipush X (nI 100) dL_registers_27 (by decide) ?_
      refine k_idiv X dL_registers_29 (by decide) ?_
      refine k_val (y := nI (fT i)) (dv100 (hfg i c17).1 (hfg i c17).2) ?_
      refine k_iload_n X 6 dL_registers_30 rfl rfl ?_
      refine k_icmp_ne (tgt := 39) X dL_registers_31 (by decide) (fun c31 => ?_) (fun c31 => ?_)
      · refine k_iload X 1 dL_registers_39 rfl ?_
        refine k_val (y := laI (pP fT tg) (i + 1)) (laI_f (p := pP fT tg) (decide_eq_false c31)).symm ?_
        refine k_istore (L' := [(7, .int (laI (pP fT tg) (i + 1))), (8, .int (nI i)), (6, .int (nI th)), (0, .ref (ad E 0 0)), (1, .ref (ad E 16 0)), (2, .int (nI u)), (3, .int (nI tg)), (4, .int (nI Q)), (5, .int (nI T))]) X dL_registers_41 (by decide) rfl ?_
        refine k_iinc (v := nI (i + 1)) (L' := [(8, .int (nI (i + 1))), (7, .int (laI (pP fT tg) (i + 1))), (6, .int (nI th)), (0, .ref (ad E 0 0)), (1, .ref (ad E 16 0)), (2, .int (nI u)), (3, .int (nI tg)), (4, .int (nI Q)), (5, .int (nI T))]) X 1 dL_registers_43 rfl (nI_1 i) (by decide) rfl ?_
        refine k_goto (tgt := 13) X dL_registers_46 (by decide) ?_
        exact ih (i + 1) (by omega) (by omega)
      · refine k_iload X 0 dL_registers_34 rfl ?_
        refine k_goto (tgt := 41) X dL_registers_36 (by decide) ?_
        refine k_val (y := laI (pP fT tg) (i + 1)) (laI_t (p := pP fT tg) (decide_eq_true c31)).symm ?_
        refine k_istore (L' := [(7, .int (laI (pP fT tg) (i + 1))), (8, .int (nI i)), (6, .int (nI th)), (0, .ref (ad E 0 0)), (1, .ref (ad E 16 0)), (2, .int (nI u)), (3, .int (nI tg)), (4, .int (nI Q)), (5, .int (nI T))]) X dL_registers_41 (by decide) rfl ?_
        refine k_iinc (v := nI (i + 1)) (L' := [(8, .int (nI (i + 1))), (7, .int (laI (pP fT tg) (i + 1))), (6, .int (nI th)), (0, .ref (ad E 0 0)), (1, .ref (ad E 16 0)), (2, .int (nI u)), (3, .int (nI tg)), (4, .int (nI Q)), (5, .int (nI T))]) X 1 dL_registers_43 rfl (nI_1 i) (by decide) rfl ?_
        refine k_goto (tgt := 13) X dL_registers_46 (by decide) ?_
        exact ih (i + 1) (by omega) (by omega)

set_option maxHeartbeats 4000000 in
set_option maxRecDepth 100000 in
theorem C_L_registers_s {E : EE} {μ : Mem} (u tg Q T th : Nat) (fT gT : Nat → Nat) (hth : th ≤ 6) (hfg : ∀ k, k < th → fT k < 16 ∧ gT k ≤ 10) (hbd : ∀ k, k < th → MM E yX2_binding cX2_binding 5 (some .int) (rm 3 0) [.ref (ad E 0 0), .int (nI u), .int (nI k)] μ (some (.int (nI (100 * fT k + gT k)))) μ) (hb0 : MM E yX2_bindings cX2_bindings 2 (some .int) (rm 4 0) [.ref (ad E 0 0), .int (nI u)] μ (some (.int (nI th))) μ) (q : Nat) (hq : μ 16 0 2 = nI q) (hq2 : ¬ 10000 < nI q) (hT : ¬ nI T ≤ 0) (hP : laI (pP fT tg) th = -1) (h6 : nI th = nI 6) : MM E yL_registers cL_registers 10 (some .boolean) (rm 5 0) [.ref (ad E 0 0), .ref (ad E 16 0), .int (nI u), .int (nI tg), .int (nI Q), .int (nI T)] μ (some (.int 1)) μ := by
  refine MM.int (own := RL) [(0, .ref (ad E 0 0)), (1, .ref (ad E 16 0)), (2, .int (nI u)), (3, .int (nI tg)), (4, .int (nI Q)), (5, .int (nI T))] rfl rfl rfl (Nat.le_of_ble_eq_true rfl) rfl (fun C X hE => ?_)
  have k_49 : KF E C 0 0 μ 49 [(7, .int (laI (pP fT tg) th)), (6, .int (nI th)), (0, .ref (ad E 0 0)), (1, .ref (ad E 16 0)), (2, .int (nI u)), (3, .int (nI tg)), (4, .int (nI Q)), (5, .int (nI T))] [] := by
    refine k_aload_n X 3 dL_registers_49 rfl rfl ?_
    refine k_iconst X (nI 2) dL_registers_50 (by decide) ?_
    refine k_iald (a := 16) (j := 2) X rfl (by decide) rfl (show 2 < 14 by omega) (by decide) dL_registers_51 ?_
    refine k_val (y := nI q) hq ?_
    refine k_sipush X 10000 dL_registers_52 (by decide) ?_
    refine k_icmp_gt_f (tgt := 76) X dL_registers_55 (by decide) hq2 ?_
    refine k_iload X 7 dL_registers_58 rfl ?_
    refine k_if_le_f (tgt := 89) X dL_registers_60 (by decide) hT ?_
    refine k_iload X 0 dL_registers_63 rfl ?_
    refine k_iconst X (-1) dL_registers_65 (by decide) ?_
    refine k_icmp_ne_f (tgt := 89) X dL_registers_66 (by decide) hP ?_
    refine k_iload X 1 dL_registers_69 rfl ?_
    refine k_bipush X (nI 6) dL_registers_71 (by decide) ?_
    refine k_icmp_ne_f (tgt := 89) X dL_registers_73 (by decide) h6 ?_
    refine k_iload X 1 dL_registers_76 rfl ?_
    refine k_bipush X (nI 6) dL_registers_78 (by decide) ?_
    refine k_icmp_gt_f (tgt := 87) X dL_registers_80 (by decide) (Int32.not_lt.mpr ((nI_leI (by omega) (by decide)).mpr hth)) ?_
    refine k_iconst X (nI 1) dL_registers_83 (by decide) ?_
    refine k_goto (tgt := 88) X dL_registers_84 (by decide) ?_
    exact k_iret dL_registers_88 hE (by decide) rfl
  refine k_aload_n X 0 dL_registers_0 rfl rfl ?_
  refine k_iload_n X 2 dL_registers_1 rfl rfl ?_
  refine k_callV (a := 0) (o := 0) (As := [.int (nI u)]) (S := []) X lk_L_30 rfl (by decide) rfl hb0 rfl rfl (Nat.le_of_ble_eq_true rfl) ⟨Nat.le_of_ble_eq_true rfl, Nat.le_of_ble_eq_true rfl⟩ ⟨Nat.le_of_ble_eq_true rfl, Nat.le_of_ble_eq_true rfl⟩ dL_registers_2 ?_
  show KF E C 0 0 μ 5 _ [.int (nI th)]
  refine k_istore (L' := [(6, .int (nI th)), (0, .ref (ad E 0 0)), (1, .ref (ad E 16 0)), (2, .int (nI u)), (3, .int (nI tg)), (4, .int (nI Q)), (5, .int (nI T))]) X dL_registers_5 (by decide) rfl ?_
  refine k_iconst X (-1) dL_registers_7 (by decide) ?_
  refine k_istore (L' := [(7, .int (-1)), (6, .int (nI th)), (0, .ref (ad E 0 0)), (1, .ref (ad E 16 0)), (2, .int (nI u)), (3, .int (nI tg)), (4, .int (nI Q)), (5, .int (nI T))]) X dL_registers_8 (by decide) rfl ?_
  refine k_iconst X (nI 0) dL_registers_10 (by decide) ?_
  refine k_istore (L' := [(8, .int (nI 0)), (7, .int (-1)), (6, .int (nI th)), (0, .ref (ad E 0 0)), (1, .ref (ad E 16 0)), (2, .int (nI u)), (3, .int (nI tg)), (4, .int (nI Q)), (5, .int (nI T))]) X dL_registers_11 (by decide) rfl ?_
  exact L_L_registers u tg Q T th fT gT hth hfg hbd X k_49 (th + 1) 0 (by omega) (Nat.zero_le th)

set_option maxHeartbeats 4000000 in
set_option maxRecDepth 100000 in
theorem C_L_registers_g {E : EE} {μ : Mem} (u tg Q T th : Nat) (fT gT : Nat → Nat) (hth : th ≤ 6) (hfg : ∀ k, k < th → fT k < 16 ∧ gT k ≤ 10) (hbd : ∀ k, k < th → MM E yX2_binding cX2_binding 5 (some .int) (rm 3 0) [.ref (ad E 0 0), .int (nI u), .int (nI k)] μ (some (.int (nI (100 * fT k + gT k)))) μ) (hb0 : MM E yX2_bindings cX2_bindings 2 (some .int) (rm 4 0) [.ref (ad E 0 0), .int (nI u)] μ (some (.int (nI th))) μ) (q : Nat) (hq : μ 16 0 2 = nI q) (hq2 : ¬ 10000 < nI q) (v : Nat) (μr : Mem) (hns : ¬ (¬ nI T ≤ 0 ∧ laI (pP fT tg) th = -1 ∧ nI th = nI 6)) (hT0 : nI T ≤ 0 → nI T = 0) (hT1 : ¬ nI T ≤ 0 → ¬ nI T = 0) (hA : nI T ≤ 0 → laI (pP fT tg) th = -1 → nI (th + 0) - nI 0 = nI v) (hB : nI T ≤ 0 → ¬ laI (pP fT tg) th = -1 → nI (th + 0) - nI 1 = nI v) (hC : ¬ nI T ≤ 0 → ¬ laI (pP fT tg) th = -1 → nI (th + 0) - nI 0 = nI v) (hD : ¬ nI T ≤ 0 → laI (pP fT tg) th = -1 → nI (th + 1) - nI 0 = nI v) (hreg : MM E yX2_register cX2_register 7 (some .int) (rm 4 0) [.ref (ad E 0 0), .int (nI u), .int (nI tg), .int (nI Q), .int (nI T), .int (nI q)] (st μ 16 0 2 (nI (q + 1))) (some (.int (nI v))) μr) (hb2 : MM E yX2_bindings cX2_bindings 2 (some .int) (rm 4 0) [.ref (ad E 0 0), .int (nI u)] μr (some (.int (nI v))) μr) (hb3 : ¬ nI T = 0 → ¬ laI (pP fT tg) th = -1 → MM E yX2_binding cX2_binding 5 (some .int) (rm 3 0) [.ref (ad E 0 0), .int (nI u), .int (laI (pP fT tg) th)] μr (some (.int (nI (100 * tg + Q)))) μr) : MM E yL_registers cL_registers 10 (some .boolean) (rm 5 0) [.ref (ad E 0 0), .ref (ad E 16 0), .int (nI u), .int (nI tg), .int (nI Q), .int (nI T)] μ (some (.int 1)) μr := by
  refine MM.int (own := RL) [(0, .ref (ad E 0 0)), (1, .ref (ad E 16 0)), (2, .int (nI u)), (3, .int (nI tg)), (4, .int (nI Q)), (5, .int (nI T))] rfl rfl rfl (Nat.le_of_ble_eq_true rfl) rfl (fun C X hE => ?_)
  have k_134 : KF E C 0 0 (st μ 16 0 2 (nI (q + 1))) 134 [(8, .int (nI v)), (7, .int (laI (pP fT tg) th)), (6, .int (nI th)), (0, .ref (ad E 0 0)), (1, .ref (ad E 16 0)), (2, .int (nI u)), (3, .int (nI tg)), (4, .int (nI Q)), (5, .int (nI T))] [] := by
    refine k_aload_n X 3 dL_registers_134 rfl rfl ?_
    refine k_iload_n X 5 dL_registers_135 rfl rfl ?_
    refine k_iload_n X 6 dL_registers_136 rfl rfl ?_
    refine k_iload X 7 dL_registers_137 rfl ?_
    refine k_iload X 8 dL_registers_139 rfl ?_
    refine k_aload_n X 4 dL_registers_141 rfl rfl ?_
    refine k_iconst X (nI 2) dL_registers_142 (by decide) ?_
    refine k_iald (a := 16) (j := 2) X rfl (by decide) rfl (show 2 < 14 by omega) (by decide) dL_registers_143 ?_
    refine k_val (y := nI (q + 1)) st_same ?_
    refine k_iconst X (nI 1) dL_registers_144 (by decide) ?_
    refine k_isub X dL_registers_145 ?_
    refine k_val (y := nI q) (sb1 q) ?_
    refine k_callV (a := 0) (o := 0) (As := [.int (nI u), .int (nI tg), .int (nI Q), .int (nI T), .int (nI q)]) (S := []) X lk_L_40 rfl (by decide) rfl hreg rfl rfl (Nat.le_of_ble_eq_true rfl) ⟨Nat.le_of_ble_eq_true rfl, Nat.le_of_ble_eq_true rfl⟩ ⟨Nat.le_of_ble_eq_true rfl, Nat.le_of_ble_eq_true rfl⟩ dL_registers_146 ?_
    show KF E C 0 0 μr 149 _ [.int (nI v)]
    refine k_iload X 0 dL_registers_149 rfl ?_
    refine k_icmp_ne_f (tgt := 168) X dL_registers_151 (by decide) rfl ?_
    refine k_aload_n X 3 dL_registers_154 rfl rfl ?_
    refine k_iload_n X 5 dL_registers_155 rfl rfl ?_
    refine k_callV (a := 0) (o := 0) (As := [.int (nI u)]) (S := []) X lk_L_30 rfl (by decide) rfl hb2 rfl rfl (Nat.le_of_ble_eq_true rfl) ⟨Nat.le_of_ble_eq_true rfl, Nat.le_of_ble_eq_true rfl⟩ ⟨Nat.le_of_ble_eq_true rfl, Nat.le_of_ble_eq_true rfl⟩ dL_registers_156 ?_
    show KF E C 0 0 μr 159 _ [.int (nI v)]
    refine k_iload X 0 dL_registers_159 rfl ?_
    refine k_icmp_ne_f (tgt := 168) X dL_registers_161 (by decide) rfl ?_
    refine k_iconst X (nI 1) dL_registers_164 (by decide) ?_
    refine k_goto (tgt := 169) X dL_registers_165 (by decide) ?_
    refine k_istore (L' := [(9, .int (nI 1)), (8, .int (nI v)), (7, .int (laI (pP fT tg) th)), (6, .int (nI th)), (0, .ref (ad E 0 0)), (1, .ref (ad E 16 0)), (2, .int (nI u)), (3, .int (nI tg)), (4, .int (nI Q)), (5, .int (nI T))]) X dL_registers_169 (by decide) rfl ?_
    refine k_iload X 0 dL_registers_171 rfl ?_
    refine k_if_eq_f (tgt := 208) X dL_registers_173 (by decide) (by decide) ?_
    refine k_iload X 9 dL_registers_176 rfl ?_
    refine k_if_eq (tgt := 204) X dL_registers_178 (by decide) (fun c178 => ?_) (fun c178 => ?_)
    · refine k_iconst X (nI 1) dL_registers_204 (by decide) ?_
      refine k_goto (tgt := 209) X dL_registers_205 (by decide) ?_
      exact k_iret dL_registers_209 hE (by decide) rfl
    · refine k_iload X 2 dL_registers_181 rfl ?_
      refine k_iconst X (-1) dL_registers_183 (by decide) ?_
      refine k_icmp_eq (tgt := 204) X dL_registers_184 (by decide) (fun c184 => ?_) (fun c184 => ?_)
      · refine k_iconst X (nI 1) dL_registers_204 (by decide) ?_
        refine k_goto (tgt := 209) X dL_registers_205 (by decide) ?_
        exact k_iret dL_registers_209 hE (by decide) rfl
      · refine k_aload_n X 4 dL_registers_187 rfl rfl ?_
        refine k_iload_n X 6 dL_registers_188 rfl rfl ?_
        refine k_iload X 2 dL_registers_189 rfl ?_
        refine k_callV (a := 0) (o := 0) (As := [.int (nI u), .int (laI (pP fT tg) th)]) (S := []) X lk_L_36 rfl (by decide) rfl (hb3 c178 c184) rfl rfl (Nat.le_of_ble_eq_true rfl) ⟨Nat.le_of_ble_eq_true rfl, Nat.le_of_ble_eq_true rfl⟩ ⟨Nat.le_of_ble_eq_true rfl, Nat.le_of_ble_eq_true rfl⟩ dL_registers_191 ?_
        show KF E C 0 0 μr 194 _ [.int (nI (100 * tg + Q))]
        refine k_bipush X (nI 100) dL_registers_194 (by decide) ?_
        refine k_iload_n X 7 dL_registers_196 rfl rfl ?_
        refine k_imul X dL_registers_197 ?_
        refine k_val (y := nI (100 * tg)) (pk_mul _ _) ?_
        refine k_iload X 8 dL_registers_198 rfl ?_
        refine k_iadd X dL_registers_200 ?_
        refine k_val (y := nI ((100 * tg) + Q)) (nI_add _ _) ?_
        refine k_icmp_ne_f (tgt := 208) X dL_registers_201 (by decide) rfl ?_
        refine k_iconst X (nI 1) dL_registers_204 (by decide) ?_
        refine k_goto (tgt := 209) X dL_registers_205 (by decide) ?_
        exact k_iret dL_registers_209 hE (by decide) rfl
  have k_49 : KF E C 0 0 μ 49 [(7, .int (laI (pP fT tg) th)), (6, .int (nI th)), (0, .ref (ad E 0 0)), (1, .ref (ad E 16 0)), (2, .int (nI u)), (3, .int (nI tg)), (4, .int (nI Q)), (5, .int (nI T))] [] := by
    refine k_aload_n X 3 dL_registers_49 rfl rfl ?_
    refine k_iconst X (nI 2) dL_registers_50 (by decide) ?_
    refine k_iald (a := 16) (j := 2) X rfl (by decide) rfl (show 2 < 14 by omega) (by decide) dL_registers_51 ?_
    refine k_val (y := nI q) hq ?_
    refine k_sipush X 10000 dL_registers_52 (by decide) ?_
    refine k_icmp_gt_f (tgt := 76) X dL_registers_55 (by decide) hq2 ?_
    refine k_iload X 7 dL_registers_58 rfl ?_
    refine k_if_le (tgt := 89) X dL_registers_60 (by decide) (fun c60 => ?_) (fun c60 => ?_)
    · refine k_aload_n X 3 dL_registers_89 rfl rfl ?_
      refine k_iconst X (nI 2) dL_registers_90 (by decide) ?_
      refine k_dup2 X dL_registers_91 rfl rfl ?_
      refine k_iald (a := 16) (j := 2) X rfl (by decide) rfl (show 2 < 14 by omega) (by decide) dL_registers_92 ?_
      refine k_val (y := nI q) hq ?_
      refine k_iconst X (nI 1) dL_registers_93 (by decide) ?_
      refine k_iadd X dL_registers_94 ?_
      refine k_val (y := nI (q + 1)) (nI_add _ _) ?_
      refine k_iast (a := 16) (j := 2) X rfl (by decide) rfl (show 2 < 14 by omega) (by decide) dL_registers_95 ?_
      refine k_iload X 1 dL_registers_96 rfl ?_
      refine k_iload X 7 dL_registers_98 rfl ?_
      refine k_if_le_t (tgt := 113) X dL_registers_100 (by decide) c60 ?_
      refine k_iconst X (nI 0) dL_registers_113 (by decide) ?_
      refine k_iadd X dL_registers_114 ?_
      refine k_val (y := nI (th + 0)) (nI_add _ _) ?_
      refine k_iload X 7 dL_registers_115 rfl ?_
      refine k_if_ne_f (tgt := 130) X dL_registers_117 (by decide) (hT0 c60) ?_
      refine k_iload X 0 dL_registers_120 rfl ?_
      refine k_iconst X (-1) dL_registers_122 (by decide) ?_
      refine k_icmp_eq (tgt := 130) X dL_registers_123 (by decide) (fun c123 => ?_) (fun c123 => ?_)
      · refine k_iconst X (nI 0) dL_registers_130 (by decide) ?_
        refine k_isub X dL_registers_131 ?_
        refine k_val (y := nI v) (hA c60 c123) ?_
        refine k_istore (L' := [(8, .int (nI v)), (7, .int (laI (pP fT tg) th)), (6, .int (nI th)), (0, .ref (ad E 0 0)), (1, .ref (ad E 16 0)), (2, .int (nI u)), (3, .int (nI tg)), (4, .int (nI Q)), (5, .int (nI T))]) X dL_registers_132 (by decide) rfl ?_
        exact k_134
      · refine k_iconst X (nI 1) dL_registers_126 (by decide) ?_
        refine k_goto (tgt := 131) X dL_registers_127 (by decide) ?_
        refine k_isub X dL_registers_131 ?_
        refine k_val (y := nI v) (hB c60 c123) ?_
        refine k_istore (L' := [(8, .int (nI v)), (7, .int (laI (pP fT tg) th)), (6, .int (nI th)), (0, .ref (ad E 0 0)), (1, .ref (ad E 16 0)), (2, .int (nI u)), (3, .int (nI tg)), (4, .int (nI Q)), (5, .int (nI T))]) X dL_registers_132 (by decide) rfl ?_
        exact k_134
    · refine k_iload X 0 dL_registers_63 rfl ?_
      refine k_iconst X (-1) dL_registers_65 (by decide) ?_
      refine k_icmp_ne (tgt := 89) X dL_registers_66 (by decide) (fun c66 => ?_) (fun c66 => ?_)
      · refine k_aload_n X 3 dL_registers_89 rfl rfl ?_
        refine k_iconst X (nI 2) dL_registers_90 (by decide) ?_
        refine k_dup2 X dL_registers_91 rfl rfl ?_
        refine k_iald (a := 16) (j := 2) X rfl (by decide) rfl (show 2 < 14 by omega) (by decide) dL_registers_92 ?_
        refine k_val (y := nI q) hq ?_
        refine k_iconst X (nI 1) dL_registers_93 (by decide) ?_
        refine k_iadd X dL_registers_94 ?_
        refine k_val (y := nI (q + 1)) (nI_add _ _) ?_
        refine k_iast (a := 16) (j := 2) X rfl (by decide) rfl (show 2 < 14 by omega) (by decide) dL_registers_95 ?_
        refine k_iload X 1 dL_registers_96 rfl ?_
        refine k_iload X 7 dL_registers_98 rfl ?_
        refine k_if_le_f (tgt := 113) X dL_registers_100 (by decide) c60 ?_
        refine k_iload X 0 dL_registers_103 rfl ?_
        refine k_iconst X (-1) dL_registers_105 (by decide) ?_
        refine k_icmp_ne_t (tgt := 113) X dL_registers_106 (by decide) c66 ?_
        refine k_iconst X (nI 0) dL_registers_113 (by decide) ?_
        refine k_iadd X dL_registers_114 ?_
        refine k_val (y := nI (th + 0)) (nI_add _ _) ?_
        refine k_iload X 7 dL_registers_115 rfl ?_
        refine k_if_ne_t (tgt := 130) X dL_registers_117 (by decide) (hT1 c60) ?_
        refine k_iconst X (nI 0) dL_registers_130 (by decide) ?_
        refine k_isub X dL_registers_131 ?_
        refine k_val (y := nI v) (hC c60 c66) ?_
        refine k_istore (L' := [(8, .int (nI v)), (7, .int (laI (pP fT tg) th)), (6, .int (nI th)), (0, .ref (ad E 0 0)), (1, .ref (ad E 16 0)), (2, .int (nI u)), (3, .int (nI tg)), (4, .int (nI Q)), (5, .int (nI T))]) X dL_registers_132 (by decide) rfl ?_
        exact k_134
      · refine k_iload X 1 dL_registers_69 rfl ?_
        refine k_bipush X (nI 6) dL_registers_71 (by decide) ?_
        refine k_icmp_ne (tgt := 89) X dL_registers_73 (by decide) (fun c73 => ?_) (fun c73 => ?_)
        · refine k_aload_n X 3 dL_registers_89 rfl rfl ?_
          refine k_iconst X (nI 2) dL_registers_90 (by decide) ?_
          refine k_dup2 X dL_registers_91 rfl rfl ?_
          refine k_iald (a := 16) (j := 2) X rfl (by decide) rfl (show 2 < 14 by omega) (by decide) dL_registers_92 ?_
          refine k_val (y := nI q) hq ?_
          refine k_iconst X (nI 1) dL_registers_93 (by decide) ?_
          refine k_iadd X dL_registers_94 ?_
          refine k_val (y := nI (q + 1)) (nI_add _ _) ?_
          refine k_iast (a := 16) (j := 2) X rfl (by decide) rfl (show 2 < 14 by omega) (by decide) dL_registers_95 ?_
          refine k_iload X 1 dL_registers_96 rfl ?_
          refine k_iload X 7 dL_registers_98 rfl ?_
          refine k_if_le_f (tgt := 113) X dL_registers_100 (by decide) c60 ?_
          refine k_iload X 0 dL_registers_103 rfl ?_
          refine k_iconst X (-1) dL_registers_105 (by decide) ?_
          refine k_icmp_ne_f (tgt := 113) X dL_registers_106 (by decide) c66 ?_
          refine k_iconst X (nI 1) dL_registers_109 (by decide) ?_
          refine k_goto (tgt := 114) X dL_registers_110 (by decide) ?_
          refine k_iadd X dL_registers_114 ?_
          refine k_val (y := nI (th + 1)) (nI_add _ _) ?_
          refine k_iload X 7 dL_registers_115 rfl ?_
          refine k_if_ne_t (tgt := 130) X dL_registers_117 (by decide) (hT1 c60) ?_
          refine k_iconst X (nI 0) dL_registers_130 (by decide) ?_
          refine k_isub X dL_registers_131 ?_
          refine k_val (y := nI v) (hD c60 c66) ?_
          refine k_istore (L' := [(8, .int (nI v)), (7, .int (laI (pP fT tg) th)), (6, .int (nI th)), (0, .ref (ad E 0 0)), (1, .ref (ad E 16 0)), (2, .int (nI u)), (3, .int (nI tg)), (4, .int (nI Q)), (5, .int (nI T))]) X dL_registers_132 (by decide) rfl ?_
          exact k_134
        · exact (hns ⟨c60, c66, c73⟩).elim
  refine k_aload_n X 0 dL_registers_0 rfl rfl ?_
  refine k_iload_n X 2 dL_registers_1 rfl rfl ?_
  refine k_callV (a := 0) (o := 0) (As := [.int (nI u)]) (S := []) X lk_L_30 rfl (by decide) rfl hb0 rfl rfl (Nat.le_of_ble_eq_true rfl) ⟨Nat.le_of_ble_eq_true rfl, Nat.le_of_ble_eq_true rfl⟩ ⟨Nat.le_of_ble_eq_true rfl, Nat.le_of_ble_eq_true rfl⟩ dL_registers_2 ?_
  show KF E C 0 0 μ 5 _ [.int (nI th)]
  refine k_istore (L' := [(6, .int (nI th)), (0, .ref (ad E 0 0)), (1, .ref (ad E 16 0)), (2, .int (nI u)), (3, .int (nI tg)), (4, .int (nI Q)), (5, .int (nI T))]) X dL_registers_5 (by decide) rfl ?_
  refine k_iconst X (-1) dL_registers_7 (by decide) ?_
  refine k_istore (L' := [(7, .int (-1)), (6, .int (nI th)), (0, .ref (ad E 0 0)), (1, .ref (ad E 16 0)), (2, .int (nI u)), (3, .int (nI tg)), (4, .int (nI Q)), (5, .int (nI T))]) X dL_registers_8 (by decide) rfl ?_
  refine k_iconst X (nI 0) dL_registers_10 (by decide) ?_
  refine k_istore (L' := [(8, .int (nI 0)), (7, .int (-1)), (6, .int (nI th)), (0, .ref (ad E 0 0)), (1, .ref (ad E 16 0)), (2, .int (nI u)), (3, .int (nI tg)), (4, .int (nI Q)), (5, .int (nI T))]) X dL_registers_11 (by decide) rfl ?_
  exact L_L_registers u tg Q T th fT gT hth hfg hbd X k_49 (th + 1) 0 (by omega) (Nat.zero_le th)
end
