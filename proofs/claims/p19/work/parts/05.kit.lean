
/-! THE WORLD: every cell of the two systems, by kind and number; the numbers they hold are one function Mem -/
abbrev Mem : Type := Nat → Nat → Nat → Int32
def st (μ : Mem) (k o i : Nat) (x : Int32) : Mem := fun a b j => if a = k ∧ b = o ∧ j = i then x else μ a b j
abbrev EE : Type := Launch × va_G × (Nat → ClassId) × (Nat → Nat → Nat)
def ad (E : EE) (k o : Nat) : Nat := E.2.2.2 k o
def tysG (E : EE) : List (ClassId × FieldType) := [(E.2.2.1 0, .int), (E.2.2.1 1, .boolean), (E.2.2.1 2, .int), (E.2.2.1 3, .object "CallForker$BindingRow"), (E.2.2.1 4, .object "CallForker$Call")]
def vn : Nat → Nat
  | 0 => 1 | 1 => 1 | 2 => 1 | 3 => 1 | 4 => 1 | 5 => 1
  | 6 => 6 | 7 => 6 | 8 => 6 | 9 => 6 | 10 => 6
  | 11 => 20 | 12 => 20 | 13 => 20 | 14 => 20 | 15 => 20
  | 16 => 1
  | _ => 0
/-- 0 an object, 1 ints, 2 booleans, 3 BindingRows, 4 Calls, 5 longs -/
def kt : Nat → Nat
  | 0 => 0 | 6 => 0 | 11 => 0 | 1 => 3 | 2 => 4 | 15 => 2 | _ => 1
def kl : Nat → Nat
  | 3 => 10 | 4 => 3 | 5 => 12 | 7 => 16 | 8 => 16 | 9 => 16 | 10 => 16 | 12 => 12 | 13 => 12 | 14 => 12 | 15 => 12
  | 16 => 14 | _ => 0
def oc : Nat → Nat
  | 0 => 2 | 6 => 0 | _ => 1
def flds (E : EE) (k o : Nat) (f : Nat → Int32) : List Value := match k with
  | 0 => [.ref (ad E 1 0), .ref (ad E 2 0), .ref (ad E 3 0), .ref (ad E 4 0), .ref (ad E 5 0), .int (f 5), .int (f 6)]
  | 6 => [.ref (ad E 7 o), .ref (ad E 8 o), .ref (ad E 9 o), .ref (ad E 10 o), .int (f 4)]
  | 11 => [.ref (ad E 12 o), .ref (ad E 13 o), .ref (ad E 14 o), .ref (ad E 15 o), .int (f 4), .int (f 5), .int (f 6), .int (f 7), .int (f 8), .int (f 9)]
  | _ => []
def cont (E : EE) (k o : Nat) (f : Nat → Int32) : va_E := match kt k with
  | 0 => .inr (oc k, flds E k o f)
  | 1 => .inl (E.2.2.1 0, kl k, .inl f)
  | 2 => .inl (E.2.2.1 1, kl k, .inl f)
  | 3 => .inl (E.2.2.1 3, 6, .inr (.inr (.inr (.inr (fun i => some (ad E 6 i))))))
  | _ => .inl (E.2.2.1 4, 20, .inr (.inr (.inr (.inr (fun i => some (ad E 11 i))))))
def Wd (E : EE) (μ : Mem) (H : Heap) : Prop := ∀ k o : Nat, o < vn k → va_at E.2.1 vwCl (ad E k o, cont E k o (μ k o)) H
def Inj (E : EE) : Prop := ∀ k o k' o' : Nat, o < vn k → o' < vn k' → ad E k o = ad E k' o' → k = k' ∧ o = o'
def Aw (E : EE) (sz : Nat) : Nat → Prop := fun q => (∃ k o : Nat, o < vn k ∧ q = ad E k o) ∨ sz ≤ q
theorem st_row {μ : Mem} {k o i a b : Nat} {x : Int32} (h : ¬ (a = k ∧ b = o)) : st μ k o i x a b = μ a b := by
  funext j
  unfold st
  rw [if_neg (fun q => h ⟨q.1, q.2.1⟩)]
theorem st_same {μ : Mem} {k o i : Nat} {x : Int32} : st μ k o i x k o i = x := if_pos ⟨rfl, rfl, rfl⟩
theorem st_idx {μ : Mem} {k o i j : Nat} {x : Int32} (h : j ≠ i) : st μ k o i x k o j = μ k o j := if_neg (fun q => h q.2.2)
theorem st_upd {μ : Mem} {k o i : Nat} {x : Int32} : st μ k o i x k o = upd (μ k o) i x := by
  funext j
  unfold st upd
  by_cases h : j = i
  · rw [if_pos ⟨rfl, rfl, h⟩, if_pos h]
  · rw [if_neg (fun q => h q.2.2), if_neg h]
theorem Wd.set {E : EE} {μ : Mem} {H H1 : Heap} {k o i : Nat} {x : Int32} (hI : Inj E) (h : Wd E μ H) (ho : o < vn k) (oq : ∀ q : Nat, q ≠ ad E k o → H1[q]? = H[q]?) (h1 : va_at E.2.1 vwCl (ad E k o, cont E k o (st μ k o i x k o)) H1) : Wd E (st μ k o i x) H1 := by
  intro a b hb
  by_cases e : a = k ∧ b = o
  · obtain ⟨rfl, rfl⟩ := e
    exact h1
  · rw [st_row e]
    exact (h a b hb).kept (oq _ (fun q => e (hI a b k o hb ho q)))
theorem Wd.kept {E : EE} {μ : Mem} {H H1 : Heap} (h : Wd E μ H) (hq : ∀ q : Nat, q < H.size → H1[q]? = H[q]?) : Wd E μ H1 := fun k o ho => (h k o ho).kept (hq _ (h k o ho).lt)
/-! what the tables say and nobody changes -/
theorem gw {w : Cond} (h : w ∈ WALL) : (w.onTables && w.keeps) = true ∨ ∃ ty, w = .arrayClass ty := good_of_word (List.mem_filter.mp h).2
theorem GW {y : Cond} (h : y ∈ WALL) : GoodIn WALL (y :: WALL) := fun w hw => (List.mem_cons.mp hw).elim (fun e => by rw [e]; exact ⟨h, gw h⟩) (fun h => ⟨h, gw h⟩)
theorem GV {own C : String} {idx : Nat} {y : MethodName} {c : Cond} (h1 : Cond.methodLink own idx y ∈ WALL) (h2 : Cond.instanceMethod y ∈ WALL) (h3 : Cond.selects C y y ∈ WALL) (h4 : Cond.initialized C ∈ WALL) (h5 : c ∈ WALL) : GoodIn WALL (wsV own idx C y (c :: WALL)) := by
  intro w hw
  unfold wsV at hw
  simp only [List.mem_append, List.mem_cons, List.not_mem_nil, or_false] at hw
  rcases hw with (rfl | rfl | rfl | rfl) | (rfl | hw)
  · exact ⟨h1, gw h1⟩
  · exact ⟨h2, gw h2⟩
  · exact ⟨h3, gw h3⟩
  · exact ⟨h4, gw h4⟩
  · exact ⟨h5, gw h5⟩
  · exact ⟨hw, gw hw⟩
theorem GS {own : String} {idx : Nat} {y : MethodName} {c : Cond} (h1 : Cond.methodLink own idx y ∈ WALL) (h2 : Cond.static y ∈ WALL) (h4 : Cond.initialized own ∈ WALL) (h5 : c ∈ WALL) : GoodIn WALL (wsS own idx y (c :: WALL)) := by
  intro w hw
  unfold wsS at hw
  simp only [List.mem_append, List.mem_cons, List.not_mem_nil, or_false] at hw
  rcases hw with (rfl | rfl | rfl) | (rfl | hw)
  · exact ⟨h1, gw h1⟩
  · exact ⟨h2, gw h2⟩
  · exact ⟨h4, gw h4⟩
  · exact ⟨h5, gw h5⟩
  · exact ⟨hw, gw hw⟩
def nwk : Cond → Bool
  | .fieldLinkNest .. => true | .methodLinkNest .. => true | .declares _ => true | .castable .. => true | _ => false
theorem nw_warm {w : Cond} {s U : State} (h : nwk w = true) (hW : s.WarmedH U.vm) (hZ : va_Nw w s) : va_Nw w U := by
  cases w <;> first | exact va_Nw.warmF hW hZ | exact va_Nw.warmM hW hZ | exact va_Nw.warmD hW hZ | exact va_Nw.warmC hW hZ | cases h

def WN : List Cond := [.fieldLinkNest "CallForker" 87 "CallForker$BindingRow" "qualities" "[I" "CallForker", .fieldLinkNest "CallForker" 57 "CallForker$BindingRow" "sequences" "[I" "CallForker", .fieldLinkNest "CallForker" 183 "CallForker$BindingRow" "order" "[I" "CallForker", .fieldLinkNest "CallForker" 180 "CallForker$BindingRow" "orderCount" "I" "CallForker", .fieldLinkNest "CallForker" 165 "CallForker$Call" "devices" "[I" "CallForker", .fieldLinkNest "CallForker" 168 "CallForker$Call" "states" "[I" "CallForker", .fieldLinkNest "CallForker" 132 "CallForker$Call" "hungUpAt" "[Z" "CallForker", .fieldLinkNest "CallForker" 158 "CallForker$Call" "branchCount" "I" "CallForker", .fieldLinkNest "CallForker" 171 "CallForker$Call" "answeredBranch" "I" "CallForker", .fieldLinkNest "CallForker" 138 "CallForker$Call" "finalCode" "I" "CallForker", .methodLinkNest "CallForker" 39 ⟨"CallForker$Call", "<init>", "()V"⟩ "CallForker", .declares ⟨"java/lang/RuntimeException", "<init>", "()V"⟩, .declares ⟨"java/lang/RuntimeException", "<init>", "(Ljava/lang/String;)V"⟩, .declares ⟨"java/lang/Exception", "<init>", "()V"⟩, .declares ⟨"java/lang/Exception", "<init>", "(Ljava/lang/String;)V"⟩, .declares ⟨"java/lang/Throwable", "<init>", "()V"⟩, .declares ⟨"java/lang/Throwable", "<init>", "(Ljava/lang/String;)V"⟩, .castable "java/lang/IllegalArgumentException" "java/lang/IllegalArgumentException", .castable "java/lang/IndexOutOfBoundsException" "java/lang/IndexOutOfBoundsException", .castable "java/lang/IllegalStateException" "java/lang/IllegalStateException"]
theorem WN_ok : WN.all nwk = true := by decide +kernel
def STRS : List (Nat × String) := [(90, "no such user"), (174, "no such device"), (84, "no such binding"), (50, "no such target or quality"), (55, "no such ticks or sequence"), (62, "the sequence number is not greater"), (69, "too many bindings"), (92, "too many calls"), (176, "no such call"), (178, "no such branch"), (110, "no such device or code"), (115, "the call has no branch for the device"), (120, "the group of the branch is not started"), (136, "the branch has ended"), (152, "the call has not ended"), (141, "the call has ended"), (147, "no such ticks")]
def NCS : List (String × String) := []

def SX (E : EE) (U : State) : Prop := va_K E.2.1 vwCl (tysG E) U ∧ Inj E ∧ E.1.stackTraces = false ∧ (∀ w ∈ WN, va_Nw w U) ∧ (∀ q ∈ NCS, va_Nc q.1 q.2 U) ∧ (∀ q ∈ STRS, ∃ a : Nat, vk_R "CallForker" q.1 q.2 a U)
theorem SX.warm {E : EE} {s U : State} (hW : s.WarmedH U.vm) (h : SX E s) : SX E U := by
  obtain ⟨h1, h2, h3, h4, h5, h6⟩ := h
  exact ⟨va_K.moved hW.alike h1, h2, h3, fun w hw => nw_warm (List.all_eq_true.mp WN_ok w hw) hW (h4 w hw), fun q hq => va_Nc.moved hW.alike (h5 q hq), fun q hq => (h6 q hq).elim fun a ha => ⟨a, vk_R.warm hW ha⟩⟩
theorem SX.calling {E : EE} {U : State} {g : JFrame} {mk : MethodId} {a : Array Value} (h : SX E U) : SX E (U.calling g mk a) := by
  obtain ⟨h1, h2, h3, h4, h5, h6⟩ := h
  refine ⟨va_K.moved (u := U) (U := U.calling g mk a) (Vm.Alike.refl U.vm) h1, h2, h3, fun w hw => ?_, fun q hq => va_Nc.moved (u := U) (U := U.calling g mk a) (Vm.Alike.refl U.vm) (h5 q hq), fun q hq => (h6 q hq).elim fun b hb => ⟨b, vk_R.same (u := U) rfl hb⟩⟩
  have hk := List.all_eq_true.mp WN_ok w hw
  refine va_Nw.same ?_ (u := U) rfl (h4 w hw)
  cases w <;> first | rfl | cases hk
def ZQ (A : Nat → Prop) (U : State) (H : Heap) : Prop := vx_Zq Bundle.tN "UNASSIGNED_STACK" Bundle.steD A U H ∧ vx_Zq Bundle.tN "SUPPRESSED_SENTINEL" Bundle.listD A U H
def WS (E : EE) (μ : Mem) (sz : Nat) (U : State) : Prop := U.heap.size = sz ∧ Wd E μ U.heap ∧ SX E U ∧ ZQ (Aw E sz) U U.heap
theorem WS.blind {E : EE} {μ : Mem} {sz : Nat} {av : List Value} : FrameBlind (va_Pc av (WS E μ sz)) := by
  rintro a U g mk ⟨h0, h1, h2, h3, h4⟩
  exact ⟨h0, h1, h2, h3.calling, vx_Zq.moved (u := U) (U := U.calling g mk a) (Vm.Alike.refl U.vm) h4.1, vx_Zq.moved (u := U) (U := U.calling g mk a) (Vm.Alike.refl U.vm) h4.2⟩
/-! the context of a walk: program, environment, room, start, method, arguments, stack below, code, goal, own cells, locals -/
abbrev Ctx : Type := Program × Env × Room × State × MethodId × Array Value × List Frame × Method × Code × (State → Prop) × (Nat → Prop) × Nat
abbrev cp (C : Ctx) : Program := C.1
abbrev ce (C : Ctx) : Env := C.2.1
abbrev cR (C : Ctx) : Room := C.2.2.1
abbrev cs (C : Ctx) : State := C.2.2.2.1
abbrev cm (C : Ctx) : MethodId := C.2.2.2.2.1
abbrev ca (C : Ctx) : Array Value := C.2.2.2.2.2.1
abbrev cb (C : Ctx) : List Frame := C.2.2.2.2.2.2.1
abbrev cM (C : Ctx) : Method := C.2.2.2.2.2.2.2.1
abbrev cc (C : Ctx) : Code := C.2.2.2.2.2.2.2.2.1
abbrev cQ (C : Ctx) : State → Prop := C.2.2.2.2.2.2.2.2.2.1
abbrev cA (C : Ctx) : Nat → Prop := C.2.2.2.2.2.2.2.2.2.2.1
abbrev cN (C : Ctx) : Nat := C.2.2.2.2.2.2.2.2.2.2.2
def WC (E : EE) (C : Ctx) (H : Heap) (locs : List Loc) (k n : Nat) (g : JFrame) : Prop := W (cp C) E.1 (ce C) (cR C) (cs C) (cm C) (ca C) (cb C) (cM C) (cc C) H locs k n (cQ C) g
/-- THE JUDGEMENT: from pc, with these locals, this stack, this memory, the machine comes to the goal -/
def KF (E : EE) (C : Ctx) (k n : Nat) (μ : Mem) (pc : Nat) (L : List (Nat × Value)) (S : List Value) : Prop :=
  ∀ (H : Heap) (locs : List Loc) (ls : Array Slot), Wd E μ H → va_S (cA C) (cs C).heap H locs → lv_has ls (cN C) L → WC E C H locs k n (F0 (cm C) pc ls S)
def Cx (E : EE) (C : Ctx) (bs : ByteArray) (own : String) (nL : Nat) (R : Room) : Prop :=
  (cp C).tables.exec = Jvm.exec ∧ (cc C).code = bs ∧ (cc C).maxLocals = nL ∧ (cs C).vm.findClass own = some (cm C).cls ∧ (∀ w ∈ WALL, w.before (ca C) (cs C) = true) ∧ SX E (cs C) ∧ ZQ (cA C) (cs C) (cs C).heap ∧ (∀ k o : Nat, o < vn k → cA C (ad E k o)) ∧ (∀ q : Nat, (cs C).heap.size ≤ q → cA C q) ∧ cR C = R ∧ cN C = nL ∧ (cM C).locks = false
section KROWS
variable {E : EE} {C : Ctx} {bs : ByteArray} {own : String} {nL k n pc : Nat} {R : Room} {μ : Mem} {L L' : List (Nat × Value)} {S : List Value}
theorem k_pick (ks : List Nat) (h : lv_pick L ks = L') (kk : KF E C k n μ pc L' S) : KF E C k n μ pc L S := fun H locs ls hw hs hl => kk H locs ls hw hs (lv_sub hl ks h)
theorem k_mem {μ' : Mem} (h : μ = μ') (kk : KF E C k n μ' pc L S) : KF E C k n μ pc L S := h ▸ kk
theorem k_wide {k' n' : Nat} (h1 : k ≤ k') (h2 : n ≤ n') (kk : KF E C k' n' μ pc L S) : KF E C k n μ pc L S := fun H locs ls hw hs hl => W.widen h1 h2 (kk H locs ls hw hs hl)
theorem k_name {x : Int32} (kk : ∀ y : Int32, y = x → KF E C k n μ pc L (.int y :: S)) : KF E C k n μ pc L (.int x :: S) := kk x rfl
theorem k_val {x y : Int32} (h : x = y) (kk : KF E C k n μ pc L (.int y :: S)) : KF E C k n μ pc L (.int x :: S) := h ▸ kk

theorem k_iconst (X : Cx E C bs own nL R) {i : Int} (v : Int32) (d : decode bs pc = .ok (.iconst i, 1)) (hv : Int32.ofInt i = v) (kk : KF E C k n μ (pc + 1) L (.int v :: S)) : KF E C k n μ pc L S := fun H locs ls hw hs hl => lv_iconst X.1 X.2.1 d hv (kk H locs ls hw hs hl)
theorem k_bipush (X : Cx E C bs own nL R) {i : Int} (v : Int32) (d : decode bs pc = .ok (.bipush i, 2)) (hv : (Int8.ofInt i).toInt32 = v) (kk : KF E C k n μ (pc + 2) L (.int v :: S)) : KF E C k n μ pc L S := fun H locs ls hw hs hl => lv_bipush X.1 X.2.1 d hv (kk H locs ls hw hs hl)
theorem k_sipush (X : Cx E C bs own nL R) {i : Int} (v : Int32) (d : decode bs pc = .ok (.sipush i, 3)) (hv : (Int16.ofInt i).toInt32 = v) (kk : KF E C k n μ (pc + 3) L (.int v :: S)) : KF E C k n μ pc L S := fun H locs ls hw hs hl => lv_sipush X.1 X.2.1 d hv (kk H locs ls hw hs hl)
theorem k_iload_n (X : Cx E C bs own nL R) {r : Fin 4} {i : Nat} {x : Int32} (j : Nat) (d : decode bs pc = .ok (.iload_n r, 1)) (hi : (r : Nat) = i) (h : L[j]? = some (i, .int x)) (kk : KF E C k n μ (pc + 1) L (.int x :: S)) : KF E C k n μ pc L S := fun H locs ls hw hs hl => lv_iload_n X.1 X.2.1 d hi (lv_at hl j h) (kk H locs ls hw hs hl)
theorem k_iload (X : Cx E C bs own nL R) {i : Nat} {x : Int32} (j : Nat) (d : decode bs pc = .ok (.iload i, 2)) (h : L[j]? = some (i, .int x)) (kk : KF E C k n μ (pc + 2) L (.int x :: S)) : KF E C k n μ pc L S := fun H locs ls hw hs hl => lv_iload X.1 X.2.1 d (lv_at hl j h) (kk H locs ls hw hs hl)
theorem k_istore_n (X : Cx E C bs own nL R) {r : Fin 4} {i : Nat} {x : Int32} (d : decode bs pc = .ok (.istore_n r, 1)) (hi : (r : Nat) = i) (hn : i < nL) (h : (i, Value.int x) :: L.filter (fun q => !(q.1 == i) && !(q.1 + 1 == i && q.2.category == 2)) = L') (kk : KF E C k n μ (pc + 1) L' S) : KF E C k n μ pc L (.int x :: S) := fun H locs ls hw hs hl => lv_istore_n X.1 X.2.1 d hi hl (X.2.2.2.2.2.2.2.2.2.2.1 ▸ hn) h (fun ls' hl' => kk H locs ls' hw hs hl')
theorem k_istore (X : Cx E C bs own nL R) {i : Nat} {x : Int32} (d : decode bs pc = .ok (.istore i, 2)) (hn : i < nL) (h : (i, Value.int x) :: L.filter (fun q => !(q.1 == i) && !(q.1 + 1 == i && q.2.category == 2)) = L') (kk : KF E C k n μ (pc + 2) L' S) : KF E C k n μ pc L (.int x :: S) := fun H locs ls hw hs hl => lv_istore X.1 X.2.1 d hl (X.2.2.2.2.2.2.2.2.2.2.1 ▸ hn) h (fun ls' hl' => kk H locs ls' hw hs hl')
theorem k_aload_n (X : Cx E C bs own nL R) {r : Fin 4} {i : Nat} {x : Nat} (j : Nat) (d : decode bs pc = .ok (.aload_n r, 1)) (hi : (r : Nat) = i) (h : L[j]? = some (i, .ref x)) (kk : KF E C k n μ (pc + 1) L (.ref x :: S)) : KF E C k n μ pc L S := fun H locs ls hw hs hl => lv_aload_n X.1 X.2.1 d hi (lv_at hl j h) (kk H locs ls hw hs hl)
theorem k_aload (X : Cx E C bs own nL R) {i : Nat} {x : Nat} (j : Nat) (d : decode bs pc = .ok (.aload i, 2)) (h : L[j]? = some (i, .ref x)) (kk : KF E C k n μ (pc + 2) L (.ref x :: S)) : KF E C k n μ pc L S := fun H locs ls hw hs hl => lv_aload X.1 X.2.1 d (lv_at hl j h) (kk H locs ls hw hs hl)
theorem k_astore_n (X : Cx E C bs own nL R) {r : Fin 4} {i : Nat} {x : Nat} (d : decode bs pc = .ok (.astore_n r, 1)) (hi : (r : Nat) = i) (hn : i < nL) (h : (i, Value.ref x) :: L.filter (fun q => !(q.1 == i) && !(q.1 + 1 == i && q.2.category == 2)) = L') (kk : KF E C k n μ (pc + 1) L' S) : KF E C k n μ pc L (.ref x :: S) := fun H locs ls hw hs hl => lv_astore_n X.1 X.2.1 d hi hl (X.2.2.2.2.2.2.2.2.2.2.1 ▸ hn) h (fun ls' hl' => kk H locs ls' hw hs hl')
theorem k_astore (X : Cx E C bs own nL R) {i : Nat} {x : Nat} (d : decode bs pc = .ok (.astore i, 2)) (hn : i < nL) (h : (i, Value.ref x) :: L.filter (fun q => !(q.1 == i) && !(q.1 + 1 == i && q.2.category == 2)) = L') (kk : KF E C k n μ (pc + 2) L' S) : KF E C k n μ pc L (.ref x :: S) := fun H locs ls hw hs hl => lv_astore X.1 X.2.1 d hl (X.2.2.2.2.2.2.2.2.2.2.1 ▸ hn) h (fun ls' hl' => kk H locs ls' hw hs hl')
theorem k_iinc (X : Cx E C bs own nL R) {i : Nat} {z : Int} {x v : Int32} (j : Nat) (d : decode bs pc = .ok (.iinc i z, 3)) (hj : L[j]? = some (i, .int x)) (hv : x + Int32.ofInt z = v) (hn : i < nL) (h : (i, Value.int v) :: L.filter (fun q => !(q.1 == i) && !(q.1 + 1 == i && q.2.category == 2)) = L') (kk : KF E C k n μ (pc + 3) L' S) : KF E C k n μ pc L S := fun H locs ls hw hs hl => lv_iinc X.1 X.2.1 d hl hj hv (X.2.2.2.2.2.2.2.2.2.2.1 ▸ hn) h (fun ls' hl' => kk H locs ls' hw hs hl')
theorem k_iadd (X : Cx E C bs own nL R) {x y : Int32} (d : decode bs pc = .ok (.iadd, 1)) (kk : KF E C k n μ (pc + 1) L (.int (x + y) :: S)) : KF E C k n μ pc L (.int y :: .int x :: S) := fun H locs ls hw hs hl => lv_iadd X.1 X.2.1 d (kk H locs ls hw hs hl)
theorem k_isub (X : Cx E C bs own nL R) {x y : Int32} (d : decode bs pc = .ok (.isub, 1)) (kk : KF E C k n μ (pc + 1) L (.int (x - y) :: S)) : KF E C k n μ pc L (.int y :: .int x :: S) := fun H locs ls hw hs hl => lv_isub X.1 X.2.1 d (kk H locs ls hw hs hl)
theorem k_imul (X : Cx E C bs own nL R) {x y : Int32} (d : decode bs pc = .ok (.imul, 1)) (kk : KF E C k n μ (pc + 1) L (.int (x * y) :: S)) : KF E C k n μ pc L (.int y :: .int x :: S) := fun H locs ls hw hs hl => lv_imul X.1 X.2.1 d (kk H locs ls hw hs hl)
theorem k_iand (X : Cx E C bs own nL R) {x y : Int32} (d : decode bs pc = .ok (.iand, 1)) (kk : KF E C k n μ (pc + 1) L (.int (x &&& y) :: S)) : KF E C k n μ pc L (.int y :: .int x :: S) := fun H locs ls hw hs hl => lv_iand X.1 X.2.1 d (kk H locs ls hw hs hl)
theorem k_ior (X : Cx E C bs own nL R) {x y : Int32} (d : decode bs pc = .ok (.ior, 1)) (kk : KF E C k n μ (pc + 1) L (.int (x ||| y) :: S)) : KF E C k n μ pc L (.int y :: .int x :: S) := fun H locs ls hw hs hl => lv_ior X.1 X.2.1 d (kk H locs ls hw hs hl)
theorem k_ishl (X : Cx E C bs own nL R) {x y : Int32} (d : decode bs pc = .ok (.ishl, 1)) (kk : KF E C k n μ (pc + 1) L (.int (x <<< (y &&& 31)) :: S)) : KF E C k n μ pc L (.int y :: .int x :: S) := fun H locs ls hw hs hl => lv_ishl X.1 X.2.1 d (kk H locs ls hw hs hl)
theorem k_ishr (X : Cx E C bs own nL R) {x y : Int32} (d : decode bs pc = .ok (.ishr, 1)) (kk : KF E C k n μ (pc + 1) L (.int (x >>> (y &&& 31)) :: S)) : KF E C k n μ pc L (.int y :: .int x :: S) := fun H locs ls hw hs hl => lv_ishr X.1 X.2.1 d (kk H locs ls hw hs hl)
theorem k_i2l (X : Cx E C bs own nL R) {x : Int32} (d : decode bs pc = .ok (.i2l, 1)) (kk : KF E C k n μ (pc + 1) L (.long x.toInt64 :: S)) : KF E C k n μ pc L (.int x :: S) := fun H locs ls hw hs hl => lv_i2l X.1 X.2.1 d rfl (kk H locs ls hw hs hl)
theorem k_lcmp (X : Cx E C bs own nL R) {x y : Int64} (d : decode bs pc = .ok (.lcmp, 1)) (kk : KF E C k n μ (pc + 1) L (.int (lg_cmp x y) :: S)) : KF E C k n μ pc L (.long y :: .long x :: S) := fun H locs ls hw hs hl => W.lcmp X.1 X.2.1 d (kk H locs ls hw hs hl)
theorem k_dup (X : Cx E C bs own nL R) {v : Value} (d : decode bs pc = .ok (.dup, 1)) (hv : v.category = 1) (kk : KF E C k n μ (pc + 1) L (v :: v :: S)) : KF E C k n μ pc L (v :: S) := fun H locs ls hw hs hl => lv_dup X.1 X.2.1 d hv (kk H locs ls hw hs hl)
theorem k_dup2 (X : Cx E C bs own nL R) {v u : Value} (d : decode bs pc = .ok (.dup2, 1)) (hv : v.category = 1) (hu : u.category = 1) (kk : KF E C k n μ (pc + 1) L (v :: u :: v :: u :: S)) : KF E C k n μ pc L (v :: u :: S) := fun H locs ls hw hs hl => lv_dup2_11 X.1 X.2.1 d hv hu (kk H locs ls hw hs hl)
theorem k_pop (X : Cx E C bs own nL R) {v : Value} (d : decode bs pc = .ok (.pop, 1)) (hv : v.category = 1) (kk : KF E C k n μ (pc + 1) L S) : KF E C k n μ pc L (v :: S) := fun H locs ls hw hs hl => lv_pop X.1 X.2.1 d hv (kk H locs ls hw hs hl)
theorem k_goto (X : Cx E C bs own nL R) {off : Int} {tgt : Nat} (d : decode bs pc = .ok (.goto off, 3)) (ht : (pc : Int) + off = (tgt : Int)) (kk : KF E C k n μ tgt L S) : KF E C k n μ pc L S := fun H locs ls hw hs hl => lv_goto X.1 X.2.1 d ht (kk H locs ls hw hs hl)
theorem k_if_eq (X : Cx E C bs own nL R) {x : Int32} {off : Int} {tgt : Nat} (d : decode bs pc = .ok (.ifCond .eq off, 3)) (ht : (pc : Int) + off = (tgt : Int)) (kt : x = 0 → KF E C k n μ tgt L S) (kf : ¬ (x = 0) → KF E C k n μ (pc + 3) L S) : KF E C k n μ pc L (.int x :: S) := fun H locs ls hw hs hl => lv_if_eq X.1 X.2.1 d ht (fun h => kt h H locs ls hw hs hl) (fun h => kf h H locs ls hw hs hl)
theorem k_icmp_eq (X : Cx E C bs own nL R) {x y : Int32} {off : Int} {tgt : Nat} (d : decode bs pc = .ok (.if_icmp .eq off, 3)) (ht : (pc : Int) + off = (tgt : Int)) (kt : x = y → KF E C k n μ tgt L S) (kf : ¬ (x = y) → KF E C k n μ (pc + 3) L S) : KF E C k n μ pc L (.int y :: .int x :: S) := fun H locs ls hw hs hl => lv_icmp_eq X.1 X.2.1 d ht (fun h => kt h H locs ls hw hs hl) (fun h => kf h H locs ls hw hs hl)
theorem k_if_ne (X : Cx E C bs own nL R) {x : Int32} {off : Int} {tgt : Nat} (d : decode bs pc = .ok (.ifCond .ne off, 3)) (ht : (pc : Int) + off = (tgt : Int)) (kt : ¬ x = 0 → KF E C k n μ tgt L S) (kf : x = 0 → KF E C k n μ (pc + 3) L S) : KF E C k n μ pc L (.int x :: S) := fun H locs ls hw hs hl => lv_if_ne X.1 X.2.1 d ht (fun h => kt h H locs ls hw hs hl) (fun h => kf h H locs ls hw hs hl)
theorem k_icmp_ne (X : Cx E C bs own nL R) {x y : Int32} {off : Int} {tgt : Nat} (d : decode bs pc = .ok (.if_icmp .ne off, 3)) (ht : (pc : Int) + off = (tgt : Int)) (kt : ¬ x = y → KF E C k n μ tgt L S) (kf : x = y → KF E C k n μ (pc + 3) L S) : KF E C k n μ pc L (.int y :: .int x :: S) := fun H locs ls hw hs hl => lv_icmp_ne X.1 X.2.1 d ht (fun h => kt h H locs ls hw hs hl) (fun h => kf h H locs ls hw hs hl)
theorem k_if_lt (X : Cx E C bs own nL R) {x : Int32} {off : Int} {tgt : Nat} (d : decode bs pc = .ok (.ifCond .lt off, 3)) (ht : (pc : Int) + off = (tgt : Int)) (kt : x < 0 → KF E C k n μ tgt L S) (kf : ¬ (x < 0) → KF E C k n μ (pc + 3) L S) : KF E C k n μ pc L (.int x :: S) := fun H locs ls hw hs hl => lv_if_lt X.1 X.2.1 d ht (fun h => kt h H locs ls hw hs hl) (fun h => kf h H locs ls hw hs hl)
theorem k_icmp_lt (X : Cx E C bs own nL R) {x y : Int32} {off : Int} {tgt : Nat} (d : decode bs pc = .ok (.if_icmp .lt off, 3)) (ht : (pc : Int) + off = (tgt : Int)) (kt : x < y → KF E C k n μ tgt L S) (kf : ¬ (x < y) → KF E C k n μ (pc + 3) L S) : KF E C k n μ pc L (.int y :: .int x :: S) := fun H locs ls hw hs hl => lv_icmp_lt X.1 X.2.1 d ht (fun h => kt h H locs ls hw hs hl) (fun h => kf h H locs ls hw hs hl)
theorem k_if_ge (X : Cx E C bs own nL R) {x : Int32} {off : Int} {tgt : Nat} (d : decode bs pc = .ok (.ifCond .ge off, 3)) (ht : (pc : Int) + off = (tgt : Int)) (kt : 0 ≤ x → KF E C k n μ tgt L S) (kf : ¬ (0 ≤ x) → KF E C k n μ (pc + 3) L S) : KF E C k n μ pc L (.int x :: S) := fun H locs ls hw hs hl => lv_if_ge X.1 X.2.1 d ht (fun h => kt h H locs ls hw hs hl) (fun h => kf h H locs ls hw hs hl)
theorem k_icmp_ge (X : Cx E C bs own nL R) {x y : Int32} {off : Int} {tgt : Nat} (d : decode bs pc = .ok (.if_icmp .ge off, 3)) (ht : (pc : Int) + off = (tgt : Int)) (kt : y ≤ x → KF E C k n μ tgt L S) (kf : ¬ (y ≤ x) → KF E C k n μ (pc + 3) L S) : KF E C k n μ pc L (.int y :: .int x :: S) := fun H locs ls hw hs hl => lv_icmp_ge X.1 X.2.1 d ht (fun h => kt h H locs ls hw hs hl) (fun h => kf h H locs ls hw hs hl)
theorem k_if_gt (X : Cx E C bs own nL R) {x : Int32} {off : Int} {tgt : Nat} (d : decode bs pc = .ok (.ifCond .gt off, 3)) (ht : (pc : Int) + off = (tgt : Int)) (kt : 0 < x → KF E C k n μ tgt L S) (kf : ¬ (0 < x) → KF E C k n μ (pc + 3) L S) : KF E C k n μ pc L (.int x :: S) := fun H locs ls hw hs hl => lv_if_gt X.1 X.2.1 d ht (fun h => kt h H locs ls hw hs hl) (fun h => kf h H locs ls hw hs hl)
theorem k_icmp_gt (X : Cx E C bs own nL R) {x y : Int32} {off : Int} {tgt : Nat} (d : decode bs pc = .ok (.if_icmp .gt off, 3)) (ht : (pc : Int) + off = (tgt : Int)) (kt : y < x → KF E C k n μ tgt L S) (kf : ¬ (y < x) → KF E C k n μ (pc + 3) L S) : KF E C k n μ pc L (.int y :: .int x :: S) := fun H locs ls hw hs hl => lv_icmp_gt X.1 X.2.1 d ht (fun h => kt h H locs ls hw hs hl) (fun h => kf h H locs ls hw hs hl)
theorem k_if_le (X : Cx E C bs own nL R) {x : Int32} {off : Int} {tgt : Nat} (d : decode bs pc = .ok (.ifCond .le off, 3)) (ht : (pc : Int) + off = (tgt : Int)) (kt : x ≤ 0 → KF E C k n μ tgt L S) (kf : ¬ (x ≤ 0) → KF E C k n μ (pc + 3) L S) : KF E C k n μ pc L (.int x :: S) := fun H locs ls hw hs hl => lv_if_le X.1 X.2.1 d ht (fun h => kt h H locs ls hw hs hl) (fun h => kf h H locs ls hw hs hl)
theorem k_icmp_le (X : Cx E C bs own nL R) {x y : Int32} {off : Int} {tgt : Nat} (d : decode bs pc = .ok (.if_icmp .le off, 3)) (ht : (pc : Int) + off = (tgt : Int)) (kt : x ≤ y → KF E C k n μ tgt L S) (kf : ¬ (x ≤ y) → KF E C k n μ (pc + 3) L S) : KF E C k n μ pc L (.int y :: .int x :: S) := fun H locs ls hw hs hl => lv_icmp_le X.1 X.2.1 d ht (fun h => kt h H locs ls hw hs hl) (fun h => kf h H locs ls hw hs hl)
theorem k_idiv (X : Cx E C bs own nL R) {x y : Int32} (d : decode bs pc = .ok (.idiv, 1)) (hne : ¬ y = 0) (kk : KF E C k n μ (pc + 1) L (.int (x / y) :: S)) : KF E C k n μ pc L (.int y :: .int x :: S) := fun H locs ls hw hs hl => lv_idiv X.1 X.2.1 d hne (kk H locs ls hw hs hl)
theorem k_irem (X : Cx E C bs own nL R) {x y : Int32} (d : decode bs pc = .ok (.irem, 1)) (hne : ¬ y = 0) (kk : KF E C k n μ (pc + 1) L (.int (x - x / y * y) :: S)) : KF E C k n μ pc L (.int y :: .int x :: S) := fun H locs ls hw hs hl => lv_irem X.1 X.2.1 d hne (kk H locs ls hw hs hl)
theorem k_ldc (X : Cx E C bs own nL R) {idx : Nat} {v : Int32} (hw9 : Cond.constant own idx v ∈ WALL) (d : decode bs pc = .ok (.ldc idx, 2)) (kk : KF E C k n μ (pc + 2) L (.int v :: S)) : KF E C k n μ pc L S := fun H locs ls hw hs hl => lv_ldc X.1 X.2.1 X.2.2.2.1 (X.2.2.2.2.1 _ hw9) d (kk H locs ls hw hs hl)
theorem k_if_eq_t (X : Cx E C bs own nL R) {x : Int32} {off : Int} {tgt : Nat} (d : decode bs pc = .ok (.ifCond .eq off, 3)) (ht : (pc : Int) + off = (tgt : Int)) (hc : x = 0) (kk : KF E C k n μ tgt L S) : KF E C k n μ pc L (.int x :: S) := k_if_eq X d ht (fun _ => kk) (fun h => absurd hc h)
theorem k_if_eq_f (X : Cx E C bs own nL R) {x : Int32} {off : Int} {tgt : Nat} (d : decode bs pc = .ok (.ifCond .eq off, 3)) (ht : (pc : Int) + off = (tgt : Int)) (hc : ¬ (x = 0)) (kk : KF E C k n μ (pc + 3) L S) : KF E C k n μ pc L (.int x :: S) := k_if_eq X d ht (fun h => absurd h hc) (fun _ => kk)
theorem k_icmp_eq_t (X : Cx E C bs own nL R) {x y : Int32} {off : Int} {tgt : Nat} (d : decode bs pc = .ok (.if_icmp .eq off, 3)) (ht : (pc : Int) + off = (tgt : Int)) (hc : x = y) (kk : KF E C k n μ tgt L S) : KF E C k n μ pc L (.int y :: .int x :: S) := k_icmp_eq X d ht (fun _ => kk) (fun h => absurd hc h)
theorem k_icmp_eq_f (X : Cx E C bs own nL R) {x y : Int32} {off : Int} {tgt : Nat} (d : decode bs pc = .ok (.if_icmp .eq off, 3)) (ht : (pc : Int) + off = (tgt : Int)) (hc : ¬ (x = y)) (kk : KF E C k n μ (pc + 3) L S) : KF E C k n μ pc L (.int y :: .int x :: S) := k_icmp_eq X d ht (fun h => absurd h hc) (fun _ => kk)
theorem k_if_ne_t (X : Cx E C bs own nL R) {x : Int32} {off : Int} {tgt : Nat} (d : decode bs pc = .ok (.ifCond .ne off, 3)) (ht : (pc : Int) + off = (tgt : Int)) (hc : ¬ x = 0) (kk : KF E C k n μ tgt L S) : KF E C k n μ pc L (.int x :: S) := k_if_ne X d ht (fun _ => kk) (fun h => absurd h hc)
theorem k_if_ne_f (X : Cx E C bs own nL R) {x : Int32} {off : Int} {tgt : Nat} (d : decode bs pc = .ok (.ifCond .ne off, 3)) (ht : (pc : Int) + off = (tgt : Int)) (hc : x = 0) (kk : KF E C k n μ (pc + 3) L S) : KF E C k n μ pc L (.int x :: S) := k_if_ne X d ht (fun h => absurd hc h) (fun _ => kk)
theorem k_icmp_ne_t (X : Cx E C bs own nL R) {x y : Int32} {off : Int} {tgt : Nat} (d : decode bs pc = .ok (.if_icmp .ne off, 3)) (ht : (pc : Int) + off = (tgt : Int)) (hc : ¬ x = y) (kk : KF E C k n μ tgt L S) : KF E C k n μ pc L (.int y :: .int x :: S) := k_icmp_ne X d ht (fun _ => kk) (fun h => absurd h hc)
theorem k_icmp_ne_f (X : Cx E C bs own nL R) {x y : Int32} {off : Int} {tgt : Nat} (d : decode bs pc = .ok (.if_icmp .ne off, 3)) (ht : (pc : Int) + off = (tgt : Int)) (hc : x = y) (kk : KF E C k n μ (pc + 3) L S) : KF E C k n μ pc L (.int y :: .int x :: S) := k_icmp_ne X d ht (fun h => absurd hc h) (fun _ => kk)
theorem k_if_lt_t (X : Cx E C bs own nL R) {x : Int32} {off : Int} {tgt : Nat} (d : decode bs pc = .ok (.ifCond .lt off, 3)) (ht : (pc : Int) + off = (tgt : Int)) (hc : x < 0) (kk : KF E C k n μ tgt L S) : KF E C k n μ pc L (.int x :: S) := k_if_lt X d ht (fun _ => kk) (fun h => absurd hc h)
theorem k_if_lt_f (X : Cx E C bs own nL R) {x : Int32} {off : Int} {tgt : Nat} (d : decode bs pc = .ok (.ifCond .lt off, 3)) (ht : (pc : Int) + off = (tgt : Int)) (hc : ¬ (x < 0)) (kk : KF E C k n μ (pc + 3) L S) : KF E C k n μ pc L (.int x :: S) := k_if_lt X d ht (fun h => absurd h hc) (fun _ => kk)
theorem k_icmp_lt_t (X : Cx E C bs own nL R) {x y : Int32} {off : Int} {tgt : Nat} (d : decode bs pc = .ok (.if_icmp .lt off, 3)) (ht : (pc : Int) + off = (tgt : Int)) (hc : x < y) (kk : KF E C k n μ tgt L S) : KF E C k n μ pc L (.int y :: .int x :: S) := k_icmp_lt X d ht (fun _ => kk) (fun h => absurd hc h)
theorem k_icmp_lt_f (X : Cx E C bs own nL R) {x y : Int32} {off : Int} {tgt : Nat} (d : decode bs pc = .ok (.if_icmp .lt off, 3)) (ht : (pc : Int) + off = (tgt : Int)) (hc : ¬ (x < y)) (kk : KF E C k n μ (pc + 3) L S) : KF E C k n μ pc L (.int y :: .int x :: S) := k_icmp_lt X d ht (fun h => absurd h hc) (fun _ => kk)
theorem k_if_ge_t (X : Cx E C bs own nL R) {x : Int32} {off : Int} {tgt : Nat} (d : decode bs pc = .ok (.ifCond .ge off, 3)) (ht : (pc : Int) + off = (tgt : Int)) (hc : 0 ≤ x) (kk : KF E C k n μ tgt L S) : KF E C k n μ pc L (.int x :: S) := k_if_ge X d ht (fun _ => kk) (fun h => absurd hc h)
theorem k_if_ge_f (X : Cx E C bs own nL R) {x : Int32} {off : Int} {tgt : Nat} (d : decode bs pc = .ok (.ifCond .ge off, 3)) (ht : (pc : Int) + off = (tgt : Int)) (hc : ¬ (0 ≤ x)) (kk : KF E C k n μ (pc + 3) L S) : KF E C k n μ pc L (.int x :: S) := k_if_ge X d ht (fun h => absurd h hc) (fun _ => kk)
theorem k_icmp_ge_t (X : Cx E C bs own nL R) {x y : Int32} {off : Int} {tgt : Nat} (d : decode bs pc = .ok (.if_icmp .ge off, 3)) (ht : (pc : Int) + off = (tgt : Int)) (hc : y ≤ x) (kk : KF E C k n μ tgt L S) : KF E C k n μ pc L (.int y :: .int x :: S) := k_icmp_ge X d ht (fun _ => kk) (fun h => absurd hc h)
theorem k_icmp_ge_f (X : Cx E C bs own nL R) {x y : Int32} {off : Int} {tgt : Nat} (d : decode bs pc = .ok (.if_icmp .ge off, 3)) (ht : (pc : Int) + off = (tgt : Int)) (hc : ¬ (y ≤ x)) (kk : KF E C k n μ (pc + 3) L S) : KF E C k n μ pc L (.int y :: .int x :: S) := k_icmp_ge X d ht (fun h => absurd h hc) (fun _ => kk)
theorem k_if_gt_t (X : Cx E C bs own nL R) {x : Int32} {off : Int} {tgt : Nat} (d : decode bs pc = .ok (.ifCond .gt off, 3)) (ht : (pc : Int) + off = (tgt : Int)) (hc : 0 < x) (kk : KF E C k n μ tgt L S) : KF E C k n μ pc L (.int x :: S) := k_if_gt X d ht (fun _ => kk) (fun h => absurd hc h)
theorem k_if_gt_f (X : Cx E C bs own nL R) {x : Int32} {off : Int} {tgt : Nat} (d : decode bs pc = .ok (.ifCond .gt off, 3)) (ht : (pc : Int) + off = (tgt : Int)) (hc : ¬ (0 < x)) (kk : KF E C k n μ (pc + 3) L S) : KF E C k n μ pc L (.int x :: S) := k_if_gt X d ht (fun h => absurd h hc) (fun _ => kk)
theorem k_icmp_gt_t (X : Cx E C bs own nL R) {x y : Int32} {off : Int} {tgt : Nat} (d : decode bs pc = .ok (.if_icmp .gt off, 3)) (ht : (pc : Int) + off = (tgt : Int)) (hc : y < x) (kk : KF E C k n μ tgt L S) : KF E C k n μ pc L (.int y :: .int x :: S) := k_icmp_gt X d ht (fun _ => kk) (fun h => absurd hc h)
theorem k_icmp_gt_f (X : Cx E C bs own nL R) {x y : Int32} {off : Int} {tgt : Nat} (d : decode bs pc = .ok (.if_icmp .gt off, 3)) (ht : (pc : Int) + off = (tgt : Int)) (hc : ¬ (y < x)) (kk : KF E C k n μ (pc + 3) L S) : KF E C k n μ pc L (.int y :: .int x :: S) := k_icmp_gt X d ht (fun h => absurd h hc) (fun _ => kk)
theorem k_if_le_t (X : Cx E C bs own nL R) {x : Int32} {off : Int} {tgt : Nat} (d : decode bs pc = .ok (.ifCond .le off, 3)) (ht : (pc : Int) + off = (tgt : Int)) (hc : x ≤ 0) (kk : KF E C k n μ tgt L S) : KF E C k n μ pc L (.int x :: S) := k_if_le X d ht (fun _ => kk) (fun h => absurd hc h)
theorem k_if_le_f (X : Cx E C bs own nL R) {x : Int32} {off : Int} {tgt : Nat} (d : decode bs pc = .ok (.ifCond .le off, 3)) (ht : (pc : Int) + off = (tgt : Int)) (hc : ¬ (x ≤ 0)) (kk : KF E C k n μ (pc + 3) L S) : KF E C k n μ pc L (.int x :: S) := k_if_le X d ht (fun h => absurd h hc) (fun _ => kk)
theorem k_icmp_le_t (X : Cx E C bs own nL R) {x y : Int32} {off : Int} {tgt : Nat} (d : decode bs pc = .ok (.if_icmp .le off, 3)) (ht : (pc : Int) + off = (tgt : Int)) (hc : x ≤ y) (kk : KF E C k n μ tgt L S) : KF E C k n μ pc L (.int y :: .int x :: S) := k_icmp_le X d ht (fun _ => kk) (fun h => absurd hc h)
theorem k_icmp_le_f (X : Cx E C bs own nL R) {x y : Int32} {off : Int} {tgt : Nat} (d : decode bs pc = .ok (.if_icmp .le off, 3)) (ht : (pc : Int) + off = (tgt : Int)) (hc : ¬ (x ≤ y)) (kk : KF E C k n μ (pc + 3) L S) : KF E C k n μ pc L (.int y :: .int x :: S) := k_icmp_le X d ht (fun h => absurd h hc) (fun _ => kk)

/-- a branch on natural numbers: the loop's test -/
theorem k_ge_n (X : Cx E C bs own nL R) {a b : Nat} {x y : Int32} {off : Int} {tgt : Nat} (d : decode bs pc = .ok (.if_icmp .ge off, 3)) (ht : (pc : Int) + off = (tgt : Int)) (hx : x = nI a) (hy : y = nI b) (ha : a < 2 ^ 31) (hb : b < 2 ^ 31) (kt : b ≤ a → KF E C k n μ tgt L S) (kf : a < b → KF E C k n μ (pc + 3) L S) : KF E C k n μ pc L (.int y :: .int x :: S) := by
  subst hx; subst hy
  exact k_icmp_ge X d ht (fun h => kt ((nI_leI hb ha).mp h)) (fun h => kf (Nat.lt_of_not_le fun q => h ((nI_leI hb ha).mpr q)))
/-! arrays -/
theorem k_iald (X : Cx E C bs own nL R) {a o j : Nat} {x : Int32} (hk : kt a = 1) (ho : o < vn a) (hx : x = nI j) (hj : j < kl a) (hj2 : kl a < 2 ^ 31) (d : decode bs pc = .ok (.iaload, 1)) (kk : KF E C k n μ (pc + 1) L (.int (μ a o j) :: S)) : KF E C k n μ pc L (.int x :: .ref (ad E a o) :: S) := by
  subst hx
  intro H locs ls hw hs hl
  have hc : cont E a o (μ a o) = .inl (E.2.2.1 0, kl a, .inl (μ a o)) := by unfold cont; rw [hk]; rfl
  have hP : va_P E.2.1 vwCl [(ad E a o, .inl (E.2.2.1 0, kl a, .inl (μ a o)))] H := by
    intro q e he
    match q, he with
    | 0, he => cases he; rw [← hc]; exact hw a o ho
  have h2 := kk H locs ls hw hs hl
  rw [← nI_clamp (Nat.lt_trans hj hj2)] at h2
  exact va_iald X.1 X.2.1 X.2.2.2.2.2.1.1 hP 0 0 rfl rfl (vp_in_nI hj hj2) d h2
theorem k_zald (X : Cx E C bs own nL R) {a o j : Nat} {x : Int32} (hk : kt a = 2) (ho : o < vn a) (hx : x = nI j) (hj : j < kl a) (hj2 : kl a < 2 ^ 31) (d : decode bs pc = .ok (.baload, 1)) (kk : KF E C k n μ (pc + 1) L (.int (μ a o j) :: S)) : KF E C k n μ pc L (.int x :: .ref (ad E a o) :: S) := by
  subst hx
  intro H locs ls hw hs hl
  have hc : cont E a o (μ a o) = .inl (E.2.2.1 1, kl a, .inl (μ a o)) := by unfold cont; rw [hk]; rfl
  have hP : va_P E.2.1 vwCl [(ad E a o, .inl (E.2.2.1 1, kl a, .inl (μ a o)))] H := by
    intro q e he
    match q, he with
    | 0, he => cases he; rw [← hc]; exact hw a o ho
  have h2 := kk H locs ls hw hs hl
  rw [← nI_clamp (Nat.lt_trans hj hj2)] at h2
  exact va_zald X.1 X.2.1 X.2.2.2.2.2.1.1 hP 0 1 rfl rfl (vp_in_nI hj hj2) d h2
theorem k_ialen (X : Cx E C bs own nL R) {a o : Nat} (hk : kt a = 1) (ho : o < vn a) (d : decode bs pc = .ok (.arraylength, 1)) (kk : KF E C k n μ (pc + 1) L (.int (nI (kl a)) :: S)) : KF E C k n μ pc L (.ref (ad E a o) :: S) := by
  intro H locs ls hw hs hl
  have hc : cont E a o (μ a o) = .inl (E.2.2.1 0, kl a, .inl (μ a o)) := by unfold cont; rw [hk]; rfl
  have hP : va_P E.2.1 vwCl [(ad E a o, .inl (E.2.2.1 0, kl a, .inl (μ a o)))] H := by
    intro q e he
    match q, he with
    | 0, he => cases he; rw [← hc]; exact hw a o ho
  exact va_alen (x := (kl a, .inl (μ a o))) (v := nI (kl a)) X.1 X.2.1 X.2.2.2.2.2.1.1 hP 0 0 rfl rfl rfl d (kk H locs ls hw hs hl)
theorem k_rald (X : Cx E C bs own nL R) {j : Nat} {x : Int32} (hx : x = nI j) (hj : j < 6) (d : decode bs pc = .ok (.aaload, 1)) (kk : KF E C k n μ (pc + 1) L (.ref (ad E 6 j) :: S)) : KF E C k n μ pc L (.int x :: .ref (ad E 1 0) :: S) := by
  subst hx
  intro H locs ls hw hs hl
  have hP : va_P E.2.1 vwCl [(ad E 1 0, .inl (E.2.2.1 3, 6, .inr (.inr (.inr (.inr (fun i => some (ad E 6 i)))))))] H := by
    intro q e he
    match q, he with
    | 0, he => cases he; exact hw 1 0 (by decide)
  have h2 := kk H locs ls hw hs hl
  rw [← nI_clamp (Nat.lt_trans hj (by decide))] at h2
  exact va_aldq X.1 X.2.1 X.2.2.2.2.2.1.1 hP 0 3 rfl rfl (vp_in_nI hj (by decide)) d h2
theorem k_cald (X : Cx E C bs own nL R) {j : Nat} {x : Int32} (hx : x = nI j) (hj : j < 20) (d : decode bs pc = .ok (.aaload, 1)) (kk : KF E C k n μ (pc + 1) L (.ref (ad E 11 j) :: S)) : KF E C k n μ pc L (.int x :: .ref (ad E 2 0) :: S) := by
  subst hx
  intro H locs ls hw hs hl
  have hP : va_P E.2.1 vwCl [(ad E 2 0, .inl (E.2.2.1 4, 20, .inr (.inr (.inr (.inr (fun i => some (ad E 11 i)))))))] H := by
    intro q e he
    match q, he with
    | 0, he => cases he; exact hw 2 0 (by decide)
  have h2 := kk H locs ls hw hs hl
  rw [← nI_clamp (Nat.lt_trans hj (by decide))] at h2
  exact va_aldq X.1 X.2.1 X.2.2.2.2.2.1.1 hP 0 4 rfl rfl (vp_in_nI hj (by decide)) d h2
theorem k_iast (X : Cx E C bs own nL R) {a o j : Nat} {x y : Int32} (hk : kt a = 1) (ho : o < vn a) (hx : x = nI j) (hj : j < kl a) (hj2 : kl a < 2 ^ 31) (d : decode bs pc = .ok (.iastore, 1)) (kk : KF E C k n (st μ a o j y) (pc + 1) L S) : KF E C k n μ pc L (.int y :: .int x :: .ref (ad E a o) :: S) := by
  subst hx
  intro H locs ls hw hs hl
  have hc : ∀ f, cont E a o f = .inl (E.2.2.1 0, kl a, .inl f) := fun f => by unfold cont; rw [hk]; rfl
  have h0 := hw a o ho
  rw [hc] at h0
  have hin := vp_in_nI hj hj2
  refine W.iast X.1 X.2.1 h0 ((X.2.2.2.2.2.1.1.2 0 _ rfl).1 (kl a) (fun i => .int (μ a o i))) (fun q => by cases q) (by show ¬ (nI j < 0 ∨ (arrV _ _ _).slots.size ≤ _); rw [arrV_size]; exact hin) rfl rfl d fun H1 e z oq => ?_
  refine kk H1 _ ls (hw.set X.2.2.2.2.2.1.2.1 ho oq ?_) (hs.put z oq (X.2.2.2.2.2.2.2.1 a o ho)) hl
  rw [hc, st_upd]
  show H1[ad E a o]? = some (vp_cell _ _)
  rw [e]
  show some ((arrV _ (kl a) (fun i => Value.int (μ a o i))).setSlot _ _) = some (arrV _ (kl a) (fun i => Value.int (upd (μ a o) j y i)))
  rw [arrV_store]
  congr 2
  funext q
  rw [nI_clamp (Nat.lt_trans hj hj2)]
  by_cases hq : q = j
  · subst hq
    simp [updV, upd]
  · simp [updV, upd, hq]
theorem k_zast (X : Cx E C bs own nL R) {a o j : Nat} {x y : Int32} (hk : kt a = 2) (ho : o < vn a) (hx : x = nI j) (hj : j < kl a) (hj2 : kl a < 2 ^ 31) (hy : vp_nar .boolean y = y) (d : decode bs pc = .ok (.bastore, 1)) (kk : KF E C k n (st μ a o j y) (pc + 1) L S) : KF E C k n μ pc L (.int y :: .int x :: .ref (ad E a o) :: S) := by
  subst hx
  intro H locs ls hw hs hl
  have hc : ∀ f, cont E a o f = .inl (E.2.2.1 1, kl a, .inl f) := fun f => by unfold cont; rw [hk]; rfl
  have h0 := hw a o ho
  rw [hc] at h0
  have hin := vp_in_nI hj hj2
  refine W.zast X.1 X.2.1 h0 ((X.2.2.2.2.2.1.1.2 1 _ rfl).1 (kl a) (fun i => .int (μ a o i))) (fun q => by cases q) (by show ¬ (nI j < 0 ∨ (arrV _ _ _).slots.size ≤ _); rw [arrV_size]; exact hin) rfl rfl d fun H1 e z oq => ?_
  refine kk H1 _ ls (hw.set X.2.2.2.2.2.1.2.1 ho oq ?_) (hs.put z oq (X.2.2.2.2.2.2.2.1 a o ho)) hl
  rw [hc, st_upd]
  show H1[ad E a o]? = some (vp_cell _ _)
  rw [e]
  show some ((arrV _ (kl a) (fun i => Value.int (μ a o i))).setSlot _ _) = some (arrV _ (kl a) (fun i => Value.int (upd (μ a o) j y i)))
  rw [arrV_store]
  congr 2
  funext q
  rw [nI_clamp (Nat.lt_trans hj hj2)]
  by_cases hq : q = j
  · subst hq
    have hy2 := hy
    simp only [vp_nar] at hy2
    simp [updV, upd]
    first | exact hy2 | (rw [hy2]) | (simp [narrow] at hy2 ⊢; exact hy2)
  · simp [updV, upd, hq]
/-! fields -/
theorem k_getf (X : Cx E C bs own nL R) {a o fi N idx : Nat} {Cn ref : String} {T : u_T} {v : Value} (hk : kt a = 0) (ho : o < vn a) (hv : (flds E a o (μ a o))[fi]? = some v) (hc : vwCl[oc a]? = some (Cn, T, N)) (hin : ∀ w ∈ u_ws Cn T N, w ∈ WALL) (hfi : fi < N) (hr : (T fi).1 = ref) (hl9 : Cond.fieldLink own idx ref (T fi).2.1 (T fi).2.2.1 ∈ WALL) (d : decode bs pc = .ok (.getfield idx, 3)) (kk : KF E C k n μ (pc + 3) L (v :: S)) : KF E C k n μ pc L (.ref (ad E a o) :: S) := by
  intro H locs ls hw hs hl
  have hc1 : cont E a o (μ a o) = .inr (oc a, flds E a o (μ a o)) := by unfold cont; rw [hk]; rfl
  have hP : va_P E.2.1 vwCl [(ad E a o, .inr (oc a, flds E a o (μ a o)))] H := by
    intro q e he
    match q, he with
    | 0, he => cases he; rw [← hc1]; exact hw a o ho
  exact va_get (Ts := WALL) X.1 X.2.1 X.2.2.2.2.1 hin X.2.2.2.1 X.2.2.2.2.2.1.1 hP 0 rfl hc fi hfi (X.2.2.2.2.1 _ hl9) (by rw [← hr]; exact fun _ h => h) hv d (kk H locs ls hw hs hl)
theorem k_getn (X : Cx E C bs own nL R) {a o fi N idx : Nat} {Cn ref host : String} {T : u_T} {v : Value} (hk : kt a = 0) (ho : o < vn a) (hv : (flds E a o (μ a o))[fi]? = some v) (hc : vwCl[oc a]? = some (Cn, T, N)) (hin : ∀ w ∈ u_ws Cn T N, w ∈ WALL) (hfi : fi < N) (hr : (T fi).1 = ref) (hl9 : Cond.fieldLinkNest own idx ref (T fi).2.1 (T fi).2.2.1 host ∈ WN) (d : decode bs pc = .ok (.getfield idx, 3)) (kk : KF E C k n μ (pc + 3) L (v :: S)) : KF E C k n μ pc L (.ref (ad E a o) :: S) := by
  intro H locs ls hw hs hl
  have hc1 : cont E a o (μ a o) = .inr (oc a, flds E a o (μ a o)) := by unfold cont; rw [hk]; rfl
  have hP : va_P E.2.1 vwCl [(ad E a o, .inr (oc a, flds E a o (μ a o)))] H := by
    intro q e he
    match q, he with
    | 0, he => cases he; rw [← hc1]; exact hw a o ho
  exact va_getN (Ts := WALL) X.1 X.2.1 X.2.2.2.2.1 hin X.2.2.2.1 X.2.2.2.2.2.1.1 hP 0 rfl hc fi hfi (va_Nw.use rfl (X.2.2.2.2.2.1.2.2.2.1 _ hl9)) (by rw [← hr]; exact fun _ h => h) hv d (kk H locs ls hw hs hl)
theorem k_putf (X : Cx E C bs own nL R) {a o fi N idx : Nat} {Cn ref : String} {T : u_T} {ty : FieldType} {y : Int32} (ty0 : Nat → FieldType) (hk : kt a = 0) (ho : o < vn a) (hf : flds E a o (st μ a o fi y a o) = (flds E a o (μ a o)).set fi (.int y)) (hlen : fi < (flds E a o (μ a o)).length) (hc : vwCl[oc a]? = some (Cn, T, N)) (hty : ∀ k, k < N → parseFieldDescriptor (T k).2.2.1 = some (ty0 k)) (hnm : ∀ a, a < N → ∀ b, b < N → a ≠ b → (T a).2.1 ≠ (T b).2.1) (hin : ∀ w ∈ u_ws Cn T N, w ∈ WALL) (hfi : fi < N) (hr : (T fi).1 = ref) (hl9 : Cond.fieldLink own idx ref (T fi).2.1 (T fi).2.2.1 ∈ WALL) (hfin : (T fi).2.2.2 = false) (hd : parseFieldDescriptor (T fi).2.2.1 = some ty) (hn : narrow ty (.int y) = .int y) (hfit : fits ty (.int y) = true) (d : decode bs pc = .ok (.putfield idx, 3)) (kk : KF E C k n (st μ a o fi y) (pc + 3) L S) : KF E C k n μ pc L (.int y :: .ref (ad E a o) :: S) := by
  intro H locs ls hw hs hl
  have hc1 : ∀ f, cont E a o f = .inr (oc a, flds E a o f) := fun f => by unfold cont; rw [hk]; rfl
  have h0 := hw a o ho
  rw [hc1] at h0
  have hap := va_apart (own := own) X.2.2.2.2.1 hin ty0 hty hnm X.2.2.2.2.2.1.1 hc
  obtain ⟨r, h1, cell, q1, q2, q3, q4⟩ := h0
  have hr9 : r = (Cn, T, N) := Option.some.inj (h1.symm.trans hc)
  subst hr9
  obtain ⟨hS, hfc, kC, hkC, hkind⟩ := X.2.2.2.2.2.1.1.1 (oc a) _ hc
  obtain ⟨cf, kf, fi9, f, hi, hsl⟩ := hS fi hfi
  have hlay := X.2.2.2.2.1 _ (hin _ (u_in_lay hfi))
  unfold u_lay at hlay
  rw [if_neg (by rw [hfin]; decide)] at hlay
  have hst := (u_facts hfc hkC (u_lays X.2.2.2.2.1 hin hfi) hi).1
  have h6 := u_store hfc hkC hkind hlay hi hd hn hfit
  refine W.putK X.1 X.2.1 (f := f) ⟨X.2.2.2.1, X.2.2.2.2.1 _ hl9, ⟨_, _, _, by rw [← hr]; exact hi⟩, hst⟩ (by rw [q2]; exact h6) q1 q3 (by rw [hsl]; exact k2_hasslot (q4 fi hfi)) rfl rfl d fun H' e1 e2 e3 => ?_
  rw [hsl] at e1 ⊢
  refine kk H' _ ls (hw.set X.2.2.2.2.2.1.2.1 ho e3 ?_) (hs.put e2 e3 (X.2.2.2.2.2.2.2.1 a o ho)) hl
  rw [hc1, hf]
  exact ⟨_, hc, t_OB.to (V := updV (vp_V (flds E a o (μ a o))) fi (.int y)) ⟨_, e1, q2, q3, t_set q4 hap hfi (.int y)⟩ (fun j _ => vp_updV_set hlen (.int y) j)⟩
end KROWS

