/-! contracts of constructors -/
def WSn (E : EE) (b N : Nat) (μ : Mem) (sz : Nat) (U : State) : Prop := U.heap.size = sz ∧ sz = b + N ∧ Wn E μ N U.heap ∧ SX E U ∧ ZQ (Aw E sz) U U.heap ∧ va_AO "CallForker$BindingRow" U ∧ va_AO "CallForker$Call" U
theorem WSn.blind {E : EE} {b N : Nat} {μ : Mem} {sz : Nat} {av : List Value} : FrameBlind (va_Pc av (WSn E b N μ sz)) := by
  rintro a U g mk ⟨h0, h1, h2, h3, h4, h5, h6, h7⟩
  exact ⟨h0, h1, h2, h3, h4.calling, ⟨vx_Zq.moved (u := U) (U := U.calling g mk a) (Vm.Alike.refl U.vm) h5.1, vx_Zq.moved (u := U) (U := U.calling g mk a) (Vm.Alike.refl U.vm) h5.2⟩, va_AO.moved (u := U) (U := U.calling g mk a) (Vm.Alike.refl U.vm) h6, va_AO.moved (u := U) (U := U.calling g mk a) (Vm.Alike.refl U.vm) h7⟩
def Qn (E : EE) (b N' : Nat) (sz : Nat) (μ' : Mem) : Array Value → State → Outcome → State → Prop := fun _ s o t => (o = .returned none ∧ t.heap.size = b + N' ∧ Wn E μ' N' t.heap) ∧ va_F (Aw E sz) s t
def MN (E : EE) (b N N' : Nat) (y : MethodName) (bs : ByteArray) (maxL : Nat) (R : Room) (av : List Value) (μ μ' : Mem) : Prop :=
  ∀ sz : Nat, Met E.1 y (Cond.code y bs maxL none :: WALL) R (va_Pc av (WSn E b N μ sz)) (Qn E b N' sz μ') R.cells R.slots (Aw E sz)
def EndN (E : EE) (C : Ctx) (bs : ByteArray) (b N' k n : Nat) (μ : Mem) : Prop := ∀ (pc : Nat) (H : Heap) (locs : List Loc) (ls : Array Slot), decode bs pc = .ok (.return_, 1) → H.size = b + N' → Wn E μ N' H → va_S (cA C) (cs C).heap H locs → WC E C H locs k n (F0 (cm C) pc ls [])
theorem n_vret {E : EE} {C : Ctx} {bs : ByteArray} {b N k n pc : Nat} {μ μ' : Mem} {L : List (Nat × Value)} (d : decode bs pc = .ok (.return_, 1)) (h : EndN E C bs b N k n μ') (e2 : μ = μ') : KN E C b k n N μ pc L [] := by
  subst e2
  exact fun H locs ls hz hw hs _ => h pc H locs ls d hz hw hs
theorem n_cast {E : EE} {C : Ctx} {b N N' k k' n n' pc : Nat} {μ : Mem} {L : List (Nat × Value)} {S : List Value} (h1 : k = k') (h2 : n = n') (h3 : N = N') (kk : KN E C b k' n' N' μ pc L S) : KN E C b k n N μ pc L S := by
  subst h1; subst h2; subst h3; exact kk
theorem MN.of {E : EE} {b N N' : Nat} {y : MethodName} {own : String} {bs : ByteArray} {maxL : Nat} {R : Room} {av : List Value} {μ μ' : Mem} (L0 : List (Nat × Value)) (hy : plainName y.cls = true) (hy2 : y.name = "<init>") (how : y.cls = own) (hL0 : lv_args 0 av = L0) (hlen : (lg_sl av).length ≤ maxL)
    (body : ∀ C : Ctx, Cx E C bs own maxL R → (cM C).name = "<init>" → (cc C).maxLocals = cN C → va_AO "CallForker$BindingRow" (cs C) → va_AO "CallForker$Call" (cs C) → EndN E C bs b N' R.cells R.slots μ' → KN E C b 0 0 N μ 0 L0 []) : MN E b N N' y bs maxL R av μ μ' := by
  intro sz
  refine Met.ofW (cc := bs) (maxL := maxL) (ret := none) hy rfl ?_
  intro p e s m av2 below meth c s₁ B hml hv
  obtain ⟨rfl, hsz, hbN, hw, hx, hz, ha1, ha2⟩ := hv
  have hts := atoms_spec (ws := Cond.code y bs maxL none :: WALL) B.pre
  have hown : s.vm.findClass own = some m.cls := how ▸ findClass_of_methodNamed B.named
  have hin : meth.name = "<init>" := (name_of_methodNamed B.named B.method).1.trans hy2
  subst hsz
  have K := body (p, e, R, s, m, av.toArray, below, meth, c, MQ below (Qn E b N' s.heap.size μ') av.toArray s R.cells R.slots (Aw E s.heap.size), Aw E s.heap.size, maxL)
    ⟨B.exec, B.bytes, hml, hown, fun w hw => hts w (List.mem_cons_of_mem _ hw), hx, hz, fun k o h => Or.inl ⟨k, o, h, rfl⟩, fun q h => Or.inr h, rfl, rfl, B.notSynchronized⟩ hin hml ha1 ha2
    (fun pc H locs ls d hz hw hs => W.vret B.exec B.bytes B.returns (fun t ht hW => ⟨⟨rfl, by rw [ht]; exact hz, by rw [ht]; exact hw⟩, hs.F ht⟩) hs.2.2 d B.notSynchronized)
  rw [lg_entry_eq]
  exact K s.heap [] _ hbN hw va_S.rf (hL0 ▸ lv_entry av hlen)
section NCALL
variable {E : EE} {C : Ctx} {bs : ByteArray} {own : String} {nL b k n N pc : Nat} {R : Room} {μ : Mem} {L : List (Nat × Value)} {S : List Value}
theorem Cx.wsn (X : Cx E C bs own nL R) (ha1 : va_AO "CallForker$BindingRow" (cs C)) (ha2 : va_AO "CallForker$Call" (cs C)) {H : Heap} {locs : List Loc} (hz : H.size = b + N) (hw : Wn E μ N H) (hs : va_S (cA C) (cs C).heap H locs) {U : State} (hU : U.heap = H) (hW : (cs C).WarmedH U.vm) : WSn E b N μ H.size U := by
  refine ⟨by rw [hU], hz, by rw [hU]; exact hw, X.2.2.2.2.2.1.warm hW, ⟨?_, ?_⟩, va_AO.moved hW.alike ha1, va_AO.moved hW.alike ha2⟩
  · rw [hU]; exact vx_Zq.moved hW.alike ((X.2.2.2.2.2.2.1.1.kept hs.2.1).narrow (X.ownq hs))
  · rw [hU]; exact vx_Zq.moved hW.alike ((X.2.2.2.2.2.2.1.2.kept hs.2.1).narrow (X.ownq hs))
theorem n_back {μ' : Mem} {N' : Nat} {H : Heap} {locs : List Loc} {ls : Array Slot} {mc ms : Nat} {st0 : List Value} {a : Array Value} (X : Cx E C bs own nL R) (hs : va_S (cA C) (cs C).heap H locs) (hl : lv_has ls (cN C) L)
    (hr : va_Run (cp C) E.1 (ce C) (cR C) (cs C) (cm C) (ca C) (cb C) (cM C) (cc C) H locs k n mc ms (F0 (cm C) pc ls st0) S (Qn E b N' H.size μ' a) (Aw E H.size)) (kk : KN E C b (k + mc) (n + ms) N' μ' (pc + 3) L S) : WC E C H locs k n (F0 (cm C) pc ls st0) := by
  intro T hT X0
  obtain ⟨v, st₀, t, T', Lc, h0, X', hL, e1, e2, ⟨⟨hv, hz', hw'⟩, hF⟩, stp⟩ := hr T hT X0
  obtain rfl : v = none := by injection hv
  obtain ⟨-, -, k3⟩ := vx_keep h0 e1 hs (fun q _ h => X.ownq hs q h) (X.ownq hs) hL hF
  obtain ⟨t2, a1, b1⟩ := kk T'.heap (locs ++ Lc) ls (by rw [e1]; exact hz') (by rw [e1]; exact hw') k3 hl T' rfl X'
  exact ⟨t2, stp t2 a1, b1⟩
theorem n_callI (X : Cx E C bs own nL R) (ha1 : va_AO "CallForker$BindingRow" (cs C)) (ha2 : va_AO "CallForker$Call" (cs C)) {a idx maxL N' : Nat} {y : MethodName} {bs' : ByteArray} {R' : Room} {μ' : Mem}
    (hc : Cond.code y bs' maxL none ∈ WALL) (hl9 : Cond.methodLink own idx y ∈ WALL) (hi9 : Cond.instanceMethod y ∈ WALL) (hn9 : Cond.initialized y.cls ∈ WALL) (hy : y.name = "<init>") (hd : y.cls ≠ "java/lang/invoke/MethodHandle" ∧ y.cls ≠ "java/lang/invoke/VarHandle" ∧ (parseMethodDescriptor y.desc).map (fun d => d.parameters.length) = some 0)
    (h : MN E b N N' y bs' maxL R' [.ref a] μ μ') (hcat : (S.map fun v => v.category).sum ≤ 8) (hR : R'.frames + 1 ≤ R.frames ∧ 8 + (maxL + 11) + R'.locals ≤ R.locals) (hf : k + R'.cells ≤ R.cells ∧ n + R'.slots ≤ R.slots) (d : decode bs pc = .ok (.invokespecial idx, 3)) (kk : KN E C b (k + R'.cells) (n + R'.slots) N' μ' (pc + 3) L S) : KN E C b k n N μ pc L (.ref a :: S) := by
  intro H locs ls hz hw hs hl
  have hRR : cR C = R := X.2.2.2.2.2.2.2.2.2.1
  have hNN : cN C = nL := X.2.2.2.2.2.2.2.2.2.2.1
  refine n_back (a := (Value.ref a :: []).toArray) X hs hl ?_ kk
  exact va_runI (As := []) (rest := S) ⟨X.1, X.2.1, X.2.2.1, X.2.2.2.1, X.2.2.2.2.1⟩ (h H.size) (cwI 0 X.2.2.2.2.1 (GW hc) rfl rfl rfl (X.2.2.2.2.1 _ hn9) (X.2.2.2.2.1 _ hl9) (X.2.2.2.2.1 _ hi9) hy hd (hRR ▸ hR)) ⟨WSn.blind, fun U hU hW => ⟨rfl, X.wsn ha1 ha2 hz hw hs hU hW⟩⟩ rfl rfl (hl.1.trans hNN) rfl (lv_room hcat) d (hRR ▸ hf)
theorem n_callIN (X : Cx E C bs own nL R) (ha1 : va_AO "CallForker$BindingRow" (cs C)) (ha2 : va_AO "CallForker$Call" (cs C)) {a idx maxL N' : Nat} {y : MethodName} {host : String} {bs' : ByteArray} {R' : Room} {μ' : Mem}
    (hc : Cond.code y bs' maxL none ∈ WALL) (hl9 : Cond.methodLinkNest own idx y host ∈ WN) (hi9 : Cond.instanceMethod y ∈ WALL) (hn9 : Cond.initialized y.cls ∈ WALL) (hy : y.name = "<init>") (hd : y.cls ≠ "java/lang/invoke/MethodHandle" ∧ y.cls ≠ "java/lang/invoke/VarHandle" ∧ (parseMethodDescriptor y.desc).map (fun d => d.parameters.length) = some 0)
    (h : MN E b N N' y bs' maxL R' [.ref a] μ μ') (hcat : (S.map fun v => v.category).sum ≤ 8) (hR : R'.frames + 1 ≤ R.frames ∧ 8 + (maxL + 11) + R'.locals ≤ R.locals) (hf : k + R'.cells ≤ R.cells ∧ n + R'.slots ≤ R.slots) (d : decode bs pc = .ok (.invokespecial idx, 3)) (kk : KN E C b (k + R'.cells) (n + R'.slots) N' μ' (pc + 3) L S) : KN E C b k n N μ pc L (.ref a :: S) := by
  intro H locs ls hz hw hs hl
  have hRR : cR C = R := X.2.2.2.2.2.2.2.2.2.1
  have hNN : cN C = nL := X.2.2.2.2.2.2.2.2.2.2.1
  refine n_back (a := (Value.ref a :: []).toArray) X hs hl ?_ kk
  exact va_runIN (As := []) (rest := S) ⟨X.1, X.2.1, X.2.2.1, X.2.2.2.1, X.2.2.2.2.1⟩ (h H.size) ⟨va_cnB 0 X.2.2.2.2.1 (GW hc) rfl rfl rfl (X.2.2.2.2.2.1.2.2.2.1 _ hl9) (X.2.2.2.2.1 _ hn9) hd (hRR ▸ hR), hy, X.2.2.2.2.1 _ hi9⟩ ⟨WSn.blind, fun U hU hW => ⟨rfl, X.wsn ha1 ha2 hz hw hs hU hW⟩⟩ rfl rfl (hl.1.trans hNN) rfl (lv_room hcat) d (hRR ▸ hf)
end NCALL
/-- what the constructors leave behind -/
def x0f (μ : Mem) (u : Nat) : Mem := st (st (zr (st (zr (st (zr (st (zr (μ) 7 u) 6 u (100 + 0) 1) 8 u) 6 u (100 + 1) 1) 9 u) 6 u (100 + 2) 1) 10 u) 6 u (100 + 3) 1) 6 u 4 0
def x0M (μ : Mem) (u : Nat) : Mem := up (x0f μ u) 9 u 0 16 (fun _ => -1)
def x1M (μ : Mem) (c : Nat) : Mem := st (st (st (st (st (st (st (zr (st (zr (st (zr (st (zr (μ) 12 c) 11 c (100 + 0) 1) 13 c) 11 c (100 + 1) 1) 14 c) 11 c (100 + 2) 1) 15 c) 11 c (100 + 3) 1) 11 c 4 0) 11 c 5 11) 11 c 6 0) 11 c 7 (-1)) 11 c 8 (-1)) 11 c 9 0
def x2f (μ : Mem) : Mem := st (st (st (zr (st (zr (st (zr (st (zr (st (zr (μ) 1 0) 0 0 (100 + 0) 1) 2 0) 0 0 (100 + 1) 1) 3 0) 0 0 (100 + 2) 1) 4 0) 0 0 (100 + 3) 1) 5 0) 0 0 (100 + 4) 1) 0 0 5 0) 0 0 6 0
def x2r (μ : Mem) : Nat → Mem
  | 0 => μ
  | u + 1 => st (x0M (zr (x2r μ u) 6 u) u) 1 0 (100 + u) 1
def x2c (μ : Mem) : Nat → Mem
  | 0 => μ
  | c + 1 => st (x1M (zr (x2c μ c) 11 c) c) 2 0 (100 + c) 1
def x2M (μ : Mem) : Mem := x2c (x2r (x2f μ) 6) 20
theorem L_X0_init {E : EE} {b u k : Nat} {n : Nat} {μ : Mem} {C : Ctx} (hu : u < 6) (hb : AD E b) (X : Cx E C cX0_init RX0 2 (rmN 1 4 64)) (hf : μ 6 u (100 + 2) = 1) (hE : EndN E C cX0_init b (11 + 5 * u) 4 64 (up μ 9 u 0 16 (fun _ => -1))) : ∀ (f i : Nat), 16 - i < f → i ≤ 16 → KN E C b 4 64 (11 + 5 * u) (up μ 9 u 0 i (fun _ => -1)) 43 [(1, .int (nI i)), (0, .ref (ad E 6 u))] [] := by
  intro f
  induction f with
  | zero => intro i h; omega
  | succ f ih =>
    intro i h hi
    refine n_iload_n X 0 dX0_init_43 rfl rfl ?_
    refine n_bipush X (nI 16) dX0_init_44 (by decide) ?_
    refine n_icmp_ge X (tgt := 62) dX0_init_46 (by decide) (by omega) (by decide) (fun h1 => ?_) (fun h1 => ?_)
    · obtain rfl : i = 16 := by omega
      exact n_vret dX0_init_62 hE rfl
    · refine n_aload_n X 1 dX0_init_49 rfl rfl ?_
      refine n_getf X (a := 6) (o := u) (fi := 2) (v := .ref (ad E 9 u)) rfl hu (by show 6 + 5 * u < _; omega) ?_ rfl wu_X0 (by decide) rfl wf_X0_18 dX0_init_50 ?_
      · show some (fl (up μ 9 u 0 i (fun _ => -1) 6 u) 2 (ad E 9 u)) = _
        unfold fl
        rw [if_pos (by rw [up_k (by decide)]; exact hf)]
      refine n_iload_n X 0 dX0_init_53 rfl rfl ?_
      refine n_iconst X (-1) dX0_init_54 (by decide) ?_
      refine n_iast X hb (a := 9) (o := u) rfl hu (by show 9 + 5 * u < _; omega) h1 (by decide) dX0_init_55 ?_
      refine n_mem (up0_st rfl) ?_
      refine n_iinc X 0 dX0_init_56 (v := nI (i + 1)) rfl (by rw [show Int32.ofInt 1 = (1 : Int32) by decide]; exact (nI_succ i).symm) (by decide) rfl ?_
      refine n_goto X (tgt := 43) dX0_init_59 (by decide) ?_
      exact ih (i + 1) (by omega) (by omega)
theorem C_X0_init {E : EE} {b u : Nat} {μ : Mem} (hu : u < 6) (hb : AD E b) : MN E b (7 + 5 * u) (11 + 5 * u) yX0_init cX0_init 2 (rmN 1 4 64) [.ref (ad E 6 u)] μ (x0M μ u) := by
  refine MN.of [(0, .ref (ad E 6 u))] (by decide) rfl rfl rfl (Nat.le_of_ble_eq_true rfl) fun C X hm hml ha1 ha2 hE => ?_
  refine n_aload_n X 0 dX0_init_0 rfl rfl ?_
  refine n_objInit X wm_X0_3 (by decide) (by decide) hml dX0_init_1 ?_
  refine n_aload_n X 0 dX0_init_4 rfl rfl ?_
  refine n_bipush X (nI 16) dX0_init_5 (by decide) ?_
  refine n_newi X hb (a := 7) (o := u) rfl hu (by show (7 + 5 * u) = _; omega) (by decide) (by decide) (by decide) dX0_init_7 ?_
  refine n_putr X hb (a := 6) (o := u) (fi := 0) (ty := .array .int) tyX0 hm rfl hu (by show (6 + 5 * u) < _; omega) (by simp [fldn, fl, st, List.set]) (by simp [fldn]) rfl tyX0_ok nmX0 wu_X0 (by decide) rfl wf_X0_9 rfl (by decide +kernel) rfl rfl dX0_init_9 ?_
  refine n_aload_n X 0 dX0_init_12 rfl rfl ?_
  refine n_bipush X (nI 16) dX0_init_13 (by decide) ?_
  refine n_newi X hb (a := 8) (o := u) rfl hu (by show (8 + 5 * u) = _; omega) (by decide) (by decide) (by decide) dX0_init_15 ?_
  refine n_putr X hb (a := 6) (o := u) (fi := 1) (ty := .array .int) tyX0 hm rfl hu (by show (6 + 5 * u) < _; omega) (by simp [fldn, fl, st, List.set]) (by simp [fldn]) rfl tyX0_ok nmX0 wu_X0 (by decide) rfl wf_X0_15 rfl (by decide +kernel) rfl rfl dX0_init_17 ?_
  refine n_aload_n X 0 dX0_init_20 rfl rfl ?_
  refine n_bipush X (nI 16) dX0_init_21 (by decide) ?_
  refine n_newi X hb (a := 9) (o := u) rfl hu (by show (9 + 5 * u) = _; omega) (by decide) (by decide) (by decide) dX0_init_23 ?_
  refine n_putr X hb (a := 6) (o := u) (fi := 2) (ty := .array .int) tyX0 hm rfl hu (by show (6 + 5 * u) < _; omega) (by simp [fldn, fl, st, List.set]) (by simp [fldn]) rfl tyX0_ok nmX0 wu_X0 (by decide) rfl wf_X0_18 rfl (by decide +kernel) rfl rfl dX0_init_25 ?_
  refine n_aload_n X 0 dX0_init_28 rfl rfl ?_
  refine n_bipush X (nI 16) dX0_init_29 (by decide) ?_
  refine n_newi X hb (a := 10) (o := u) rfl hu (by show (10 + 5 * u) = _; omega) (by decide) (by decide) (by decide) dX0_init_31 ?_
  refine n_putr X hb (a := 6) (o := u) (fi := 3) (ty := .array .int) tyX0 hm rfl hu (by show (6 + 5 * u) < _; omega) (by simp [fldn, fl, st, List.set]) (by simp [fldn]) rfl tyX0_ok nmX0 wu_X0 (by decide) rfl wf_X0_21 rfl (by decide +kernel) rfl rfl dX0_init_33 ?_
  refine n_aload_n X 0 dX0_init_36 rfl rfl ?_
  refine n_iconst X (0) dX0_init_37 (by decide) ?_
  refine n_puti X hb (a := 6) (o := u) (fi := 4) (ty := .int) tyX0 rfl hu (by show (6 + 5 * u) < _; omega) (by simp [fldn, fl, st, List.set]) (by simp [fldn]) rfl tyX0_ok nmX0 wu_X0 (by decide) rfl wf_X0_24 rfl (by decide +kernel) rfl rfl dX0_init_38 ?_
  refine n_iconst X (nI 0) dX0_init_41 (by decide) ?_
  refine n_istore_n X dX0_init_42 rfl (by decide) rfl ?_
  refine n_cast (k' := 4) (n' := 64) (N' := 11 + 5 * u) rfl rfl (by omega) ?_
  refine n_mem (μ' := up (x0f μ u) 9 u 0 0 (fun _ => -1)) up_0.symm ?_
  exact L_X0_init (k := 0) (n := 0) hu hb X (by simp [x0f, st, zr]) hE 17 0 (by decide) (by decide)
theorem C_X1_init {E : EE} {b c : Nat} {μ : Mem} (hc : c < 20) (hb : AD E b) : MN E b (37 + 5 * c) (41 + 5 * c) yX1_init cX1_init 1 (rmN 1 4 48) [.ref (ad E 11 c)] μ (x1M μ c) := by
  refine MN.of [(0, .ref (ad E 11 c))] (by decide) rfl rfl rfl (Nat.le_of_ble_eq_true rfl) fun C X hm hml ha1 ha2 hE => ?_
  refine n_aload_n X 0 dX1_init_0 rfl rfl ?_
  refine n_objInit X wm_X1_3 (by decide) (by decide) hml dX1_init_1 ?_
  refine n_aload_n X 0 dX1_init_4 rfl rfl ?_
  refine n_bipush X (nI 12) dX1_init_5 (by decide) ?_
  refine n_newi X hb (a := 12) (o := c) rfl hc (by show (37 + 5 * c) = _; omega) (by decide) (by decide) (by decide) dX1_init_7 ?_
  refine n_putr X hb (a := 11) (o := c) (fi := 0) (ty := .array .int) tyX1 hm rfl hc (by show (36 + 5 * c) < _; omega) (by simp [fldn, fl, st, List.set]) (by simp [fldn]) rfl tyX1_ok nmX1 wu_X1 (by decide) rfl wf_X1_9 rfl (by decide +kernel) rfl rfl dX1_init_9 ?_
  refine n_aload_n X 0 dX1_init_12 rfl rfl ?_
  refine n_bipush X (nI 12) dX1_init_13 (by decide) ?_
  refine n_newi X hb (a := 13) (o := c) rfl hc (by show (38 + 5 * c) = _; omega) (by decide) (by decide) (by decide) dX1_init_15 ?_
  refine n_putr X hb (a := 11) (o := c) (fi := 1) (ty := .array .int) tyX1 hm rfl hc (by show (36 + 5 * c) < _; omega) (by simp [fldn, fl, st, List.set]) (by simp [fldn]) rfl tyX1_ok nmX1 wu_X1 (by decide) rfl wf_X1_15 rfl (by decide +kernel) rfl rfl dX1_init_17 ?_
  refine n_aload_n X 0 dX1_init_20 rfl rfl ?_
  refine n_bipush X (nI 12) dX1_init_21 (by decide) ?_
  refine n_newi X hb (a := 14) (o := c) rfl hc (by show (39 + 5 * c) = _; omega) (by decide) (by decide) (by decide) dX1_init_23 ?_
  refine n_putr X hb (a := 11) (o := c) (fi := 2) (ty := .array .int) tyX1 hm rfl hc (by show (36 + 5 * c) < _; omega) (by simp [fldn, fl, st, List.set]) (by simp [fldn]) rfl tyX1_ok nmX1 wu_X1 (by decide) rfl wf_X1_18 rfl (by decide +kernel) rfl rfl dX1_init_25 ?_
  refine n_aload_n X 0 dX1_init_28 rfl rfl ?_
  refine n_bipush X (nI 12) dX1_init_29 (by decide) ?_
  refine n_newz X hb (a := 15) (o := c) rfl hc (by show (40 + 5 * c) = _; omega) (by decide) (by decide) (by decide) dX1_init_31 ?_
  refine n_putr X hb (a := 11) (o := c) (fi := 3) (ty := .array .boolean) tyX1 hm rfl hc (by show (36 + 5 * c) < _; omega) (by simp [fldn, fl, st, List.set]) (by simp [fldn]) rfl tyX1_ok nmX1 wu_X1 (by decide) rfl wf_X1_21 rfl (by decide +kernel) rfl rfl dX1_init_33 ?_
  refine n_aload_n X 0 dX1_init_36 rfl rfl ?_
  refine n_iconst X (0) dX1_init_37 (by decide) ?_
  refine n_puti X hb (a := 11) (o := c) (fi := 4) (ty := .int) tyX1 rfl hc (by show (36 + 5 * c) < _; omega) (by simp [fldn, fl, st, List.set]) (by simp [fldn]) rfl tyX1_ok nmX1 wu_X1 (by decide) rfl wf_X1_25 rfl (by decide +kernel) rfl rfl dX1_init_38 ?_
  refine n_aload_n X 0 dX1_init_41 rfl rfl ?_
  refine n_bipush X (11) dX1_init_42 (by decide) ?_
  refine n_puti X hb (a := 11) (o := c) (fi := 5) (ty := .int) tyX1 rfl hc (by show (36 + 5 * c) < _; omega) (by simp [fldn, fl, st, List.set]) (by simp [fldn]) rfl tyX1_ok nmX1 wu_X1 (by decide) rfl wf_X1_29 rfl (by decide +kernel) rfl rfl dX1_init_44 ?_
  refine n_aload_n X 0 dX1_init_47 rfl rfl ?_
  refine n_iconst X (0) dX1_init_48 (by decide) ?_
  refine n_puti X hb (a := 11) (o := c) (fi := 6) (ty := .int) tyX1 rfl hc (by show (36 + 5 * c) < _; omega) (by simp [fldn, fl, st, List.set]) (by simp [fldn]) rfl tyX1_ok nmX1 wu_X1 (by decide) rfl wf_X1_32 rfl (by decide +kernel) rfl rfl dX1_init_49 ?_
  refine n_aload_n X 0 dX1_init_52 rfl rfl ?_
  refine n_iconst X (-1) dX1_init_53 (by decide) ?_
  refine n_puti X hb (a := 11) (o := c) (fi := 7) (ty := .int) tyX1 rfl hc (by show (36 + 5 * c) < _; omega) (by simp [fldn, fl, st, List.set]) (by simp [fldn]) rfl tyX1_ok nmX1 wu_X1 (by decide) rfl wf_X1_35 rfl (by decide +kernel) rfl rfl dX1_init_54 ?_
  refine n_aload_n X 0 dX1_init_57 rfl rfl ?_
  refine n_iconst X (-1) dX1_init_58 (by decide) ?_
  refine n_puti X hb (a := 11) (o := c) (fi := 8) (ty := .int) tyX1 rfl hc (by show (36 + 5 * c) < _; omega) (by simp [fldn, fl, st, List.set]) (by simp [fldn]) rfl tyX1_ok nmX1 wu_X1 (by decide) rfl wf_X1_38 rfl (by decide +kernel) rfl rfl dX1_init_59 ?_
  refine n_aload_n X 0 dX1_init_62 rfl rfl ?_
  refine n_iconst X (0) dX1_init_63 (by decide) ?_
  refine n_puti X hb (a := 11) (o := c) (fi := 9) (ty := .boolean) tyX1 rfl hc (by show (36 + 5 * c) < _; omega) (by simp [fldn, fl, st, List.set]) (by simp [fldn]) rfl tyX1_ok nmX1 wu_X1 (by decide) rfl wf_X1_41 rfl (by decide +kernel) rfl rfl dX1_init_64 ?_
  refine n_cast (k' := 4) (n' := 48) (N' := 41 + 5 * c) rfl rfl (by omega) ?_
  exact n_vret dX1_init_67 hE rfl
theorem x2r_f {μ : Mem} {k o i : Nat} (h : k < 6) (h1 : k ≠ 1) : ∀ u, x2r μ u k o i = μ k o i
  | 0 => rfl
  | u + 1 => by
    show st (x0M (zr (x2r μ u) 6 u) u) 1 0 (100 + u) 1 k o i = _
    rw [st_k h1]
    unfold x0M
    rw [up_k (by omega)]
    unfold x0f
    have e : ∀ a b, a ≠ k → zr (x2r μ u) a b k o i = x2r μ u k o i := fun a b h => by rw [zr_row (fun q => h q.1.symm)]
    have h6 : k ≠ 6 := by omega
    have h7 : k ≠ 7 := by omega
    have h8 : k ≠ 8 := by omega
    have h9 : k ≠ 9 := by omega
    have h10 : k ≠ 10 := by omega
    simp only [st, zr, h6, h7, h8, h9, h10, false_and, if_false]
    exact x2r_f h h1 u
theorem x2c_f {μ : Mem} {k o i : Nat} (h : k < 11) (h1 : k ≠ 2) : ∀ u, x2c μ u k o i = μ k o i
  | 0 => rfl
  | u + 1 => by
    show st (x1M (zr (x2c μ u) 11 u) u) 2 0 (100 + u) 1 k o i = _
    rw [st_k h1]
    unfold x1M
    have h6 : k ≠ 11 := by omega
    have h7 : k ≠ 12 := by omega
    have h8 : k ≠ 13 := by omega
    have h9 : k ≠ 14 := by omega
    have h10 : k ≠ 15 := by omega
    simp only [st, zr, h6, h7, h8, h9, h10, false_and, if_false]
    exact x2c_f h h1 u
theorem L_X2_init_c {E : EE} {b : Nat} {μ : Mem} {C : Ctx} (hb : AD E b) (X : Cx E C cX2_init RX2 2 (rmN 2 135 1900)) (ha1 : va_AO "CallForker$BindingRow" (cs C)) (ha2 : va_AO "CallForker$Call" (cs C)) (hf : μ 0 0 (100 + 1) = 1) (hE : EndN E C cX2_init b 136 135 1900 (x2c μ 20)) : ∀ (f i : Nat), 20 - i < f → i ≤ 20 → KN E C b (35 + 5 * i) (500 + 58 * i) (36 + 5 * i) (x2c μ i) 84 [(1, .int (nI i)), (0, .ref (ad E 0 0))] [] := by
  intro f
  induction f with
  | zero => intro i h; omega
  | succ f ih =>
    intro i h hi
    refine n_iload_n X 0 dX2_init_84 rfl rfl ?_
    refine n_bipush X (nI 20) dX2_init_85 (by decide) ?_
    refine n_icmp_ge X (tgt := 109) dX2_init_87 (by decide) (by omega) (by decide) (fun h1 => ?_) (fun h1 => ?_)
    · obtain rfl : i = 20 := by omega
      refine n_wide (k' := 135) (n' := 1900) (by decide) (by decide) ?_
      exact n_vret dX2_init_109 hE rfl
    · refine n_aload_n X 1 dX2_init_90 rfl rfl ?_
      refine n_getf X (a := 0) (o := 0) (fi := 1) (v := .ref (ad E 2 0)) rfl (by decide) (by show 0 < _; omega) ?_ rfl wu_X2 (by decide) rfl wf_X2_17 dX2_init_91 ?_
      · show some (fl (x2c μ i 0 0) 1 (ad E 2 0)) = _
        unfold fl
        rw [if_pos (by rw [x2c_f (by decide) (by decide)]; exact hf)]
      refine n_iload_n X 0 dX2_init_94 rfl rfl ?_
      refine n_new X hb (a := 11) (o := i) tyX1 rfl h1 rfl rfl tyX1_ok wu_X1 wk_X2_15 wx_X1 wn_X1 (fun j hj => by rcases (show j = 0 ∨ j = 1 ∨ j = 2 ∨ j = 3 ∨ j = 4 ∨ j = 5 ∨ j = 6 ∨ j = 7 ∨ j = 8 ∨ j = 9 by omega) with rfl | rfl | rfl | rfl | rfl | rfl | rfl | rfl | rfl | rfl <;> rfl) (by show _ ≤ 135; omega) (by show _ ≤ 1900; omega) dX2_init_95 ?_
      refine n_dup X dX2_init_98 rfl ?_
      refine n_cast (k' := 36 + 5 * i) (n' := 510 + 58 * i) (N' := 37 + 5 * i) (by omega) (by omega) (by omega) ?_
      refine n_callIN X (host := "CallForker") ha1 ha2 wc_X1_init (by decide +kernel) wi_X1_init wn_X1 rfl (by decide) (C_X1_init h1 hb) (by simp [Value.category]) ⟨by decide, by decide⟩ ⟨by show _ + 4 ≤ 135; omega, by show _ + 48 ≤ 1900; omega⟩ dX2_init_99 ?_
      refine n_aast X hb (a := 2) (a2 := 11) (o2 := i) (t := 4) (len := 20) (by decide) h1 rfl (fun i => ad E 11 i) rfl (fun _ => rfl) rfl rfl (by show 2 < _; omega) (by show 36 + 5 * i < _; omega) h1 (by decide) dX2_init_102 ?_
      refine n_iinc X 0 dX2_init_103 (v := nI (i + 1)) rfl (by rw [show Int32.ofInt 1 = (1 : Int32) by decide]; exact (nI_succ i).symm) (by decide) rfl ?_
      refine n_goto X (tgt := 84) dX2_init_106 (by decide) ?_
      refine n_cast (k' := 35 + 5 * (i + 1)) (n' := 500 + 58 * (i + 1)) (N' := 36 + 5 * (i + 1)) (by show 36 + 5 * i + 4 = _; omega) (by show 510 + 58 * i + 48 = _; omega) (by omega) ?_
      exact ih (i + 1) (by omega) (by omega)
theorem L_X2_init_r {E : EE} {b : Nat} {μ : Mem} {C : Ctx} (hb : AD E b) (X : Cx E C cX2_init RX2 2 (rmN 2 135 1900)) (ha1 : va_AO "CallForker$BindingRow" (cs C)) (ha2 : va_AO "CallForker$Call" (cs C)) (hf : μ 0 0 (100 + 0) = 1) (hf1 : μ 0 0 (100 + 1) = 1) (hE : EndN E C cX2_init b 136 135 1900 (x2c (x2r μ 6) 20)) : ∀ (f i : Nat), 6 - i < f → i ≤ 6 → KN E C b (5 + 5 * i) (51 + 69 * i) (6 + 5 * i) (x2r μ i) 57 [(1, .int (nI i)), (0, .ref (ad E 0 0))] [] := by
  intro f
  induction f with
  | zero => intro i h; omega
  | succ f ih =>
    intro i h hi
    refine n_iload_n X 0 dX2_init_57 rfl rfl ?_
    refine n_bipush X (nI 6) dX2_init_58 (by decide) ?_
    refine n_icmp_ge X (tgt := 82) dX2_init_60 (by decide) (by omega) (by decide) (fun h1 => ?_) (fun h1 => ?_)
    · obtain rfl : i = 6 := by omega
      refine n_iconst X (nI 0) dX2_init_82 (by decide) ?_
      refine n_istore_n X dX2_init_83 rfl (by decide) rfl ?_
      refine n_wide (k' := 35 + 5 * 0) (n' := 500 + 58 * 0) (by decide) (by decide) ?_
      exact L_X2_init_c hb X ha1 ha2 (by rw [x2r_f (by decide) (by decide)]; exact hf1) hE 21 0 (by decide) (by decide)
    · refine n_aload_n X 1 dX2_init_63 rfl rfl ?_
      refine n_getf X (a := 0) (o := 0) (fi := 0) (v := .ref (ad E 1 0)) rfl (by decide) (by show 0 < _; omega) ?_ rfl wu_X2 (by decide) rfl wf_X2_11 dX2_init_64 ?_
      · show some (fl (x2r μ i 0 0) 0 (ad E 1 0)) = _
        unfold fl
        rw [if_pos (by rw [x2r_f (by decide) (by decide)]; exact hf)]
      refine n_iload_n X 0 dX2_init_67 rfl rfl ?_
      refine n_new X hb (a := 6) (o := i) tyX0 rfl h1 rfl rfl tyX0_ok wu_X0 wk_X2_9 wx_X0 wn_X0 (fun j hj => by rcases (show j = 0 ∨ j = 1 ∨ j = 2 ∨ j = 3 ∨ j = 4 by omega) with rfl | rfl | rfl | rfl | rfl <;> rfl) (by show _ ≤ 135; omega) (by show _ ≤ 1900; omega) dX2_init_68 ?_
      refine n_dup X dX2_init_71 rfl ?_
      refine n_cast (k' := 6 + 5 * i) (n' := 56 + 69 * i) (N' := 7 + 5 * i) (by omega) (by omega) (by omega) ?_
      refine n_callI X ha1 ha2 wc_X0_init wm_X2_38 wi_X0_init wn_X0 rfl (by decide) (C_X0_init h1 hb) (by simp [Value.category]) ⟨by decide, by decide⟩ ⟨by show _ + 4 ≤ 135; omega, by show _ + 64 ≤ 1900; omega⟩ dX2_init_72 ?_
      refine n_aast X hb (a := 1) (a2 := 6) (o2 := i) (t := 3) (len := 6) (by decide) h1 rfl (fun i => ad E 6 i) rfl (fun _ => rfl) rfl rfl (by show 1 < _; omega) (by show 6 + 5 * i < _; omega) h1 (by decide) dX2_init_75 ?_
      refine n_iinc X 0 dX2_init_76 (v := nI (i + 1)) rfl (by rw [show Int32.ofInt 1 = (1 : Int32) by decide]; exact (nI_succ i).symm) (by decide) rfl ?_
      refine n_goto X (tgt := 57) dX2_init_79 (by decide) ?_
      refine n_cast (k' := 5 + 5 * (i + 1)) (n' := 51 + 69 * (i + 1)) (N' := 6 + 5 * (i + 1)) (by show 6 + 5 * i + 4 = _; omega) (by show 56 + 69 * i + 64 = _; omega) (by omega) ?_
      exact ih (i + 1) (by omega) (by omega)
theorem C_X2_init {E : EE} {b : Nat} {μ : Mem} (hb : AD E b) : MN E b 1 136 yX2_init cX2_init 2 (rmN 2 135 1900) [.ref (ad E 0 0)] μ (x2M μ) := by
  refine MN.of [(0, .ref (ad E 0 0))] (by decide) rfl rfl rfl (Nat.le_of_ble_eq_true rfl) fun C X hm hml ha1 ha2 hE => ?_
  refine n_aload_n X 0 dX2_init_0 rfl rfl ?_
  refine n_objInit X wm_X2_3 (by decide) (by decide) hml dX2_init_1 ?_
  refine n_aload_n X 0 dX2_init_4 rfl rfl ?_
  refine n_bipush X (nI 6) dX2_init_5 (by decide) ?_
  refine n_newq X hb (a := 1) (t := 3) (len := 6) (Cn := "CallForker$BindingRow") (by decide) rfl rfl rfl (by decide) wk_X2_9 ha1 (by decide) (by decide) dX2_init_7 ?_
  refine n_putr X hb (a := 0) (o := 0) (fi := 0) (ty := .array (.object "CallForker$BindingRow")) tyX2 hm rfl (by decide) (by show 0 < _; omega) (by simp [fldn, fl, st, List.set]) (by simp [fldn]) rfl tyX2_ok nmX2 wu_X2 (by decide) rfl wf_X2_11 rfl (by decide +kernel) rfl rfl dX2_init_10 ?_
  refine n_aload_n X 0 dX2_init_13 rfl rfl ?_
  refine n_bipush X (nI 20) dX2_init_14 (by decide) ?_
  refine n_newq X hb (a := 2) (t := 4) (len := 20) (Cn := "CallForker$Call") (by decide) rfl rfl rfl (by decide) wk_X2_15 ha2 (by decide) (by decide) dX2_init_16 ?_
  refine n_putr X hb (a := 0) (o := 0) (fi := 1) (ty := .array (.object "CallForker$Call")) tyX2 hm rfl (by decide) (by show 0 < _; omega) (by simp [fldn, fl, st, List.set]) (by simp [fldn]) rfl tyX2_ok nmX2 wu_X2 (by decide) rfl wf_X2_17 rfl (by decide +kernel) rfl rfl dX2_init_19 ?_
  refine n_aload_n X 0 dX2_init_22 rfl rfl ?_
  refine n_bipush X (nI 10) dX2_init_23 (by decide) ?_
  refine n_newi X hb (a := 3) (o := 0) rfl (by decide) (by show 3 = _; omega) (by decide) (by decide) (by decide) dX2_init_25 ?_
  refine n_putr X hb (a := 0) (o := 0) (fi := 2) (ty := .array .int) tyX2 hm rfl (by decide) (by show 0 < _; omega) (by simp [fldn, fl, st, List.set]) (by simp [fldn]) rfl tyX2_ok nmX2 wu_X2 (by decide) rfl wf_X2_21 rfl (by decide +kernel) rfl rfl dX2_init_27 ?_
  refine n_aload_n X 0 dX2_init_30 rfl rfl ?_
  refine n_iconst X (nI 3) dX2_init_31 (by decide) ?_
  refine n_newi X hb (a := 4) (o := 0) rfl (by decide) (by show 4 = _; omega) (by decide) (by decide) (by decide) dX2_init_32 ?_
  refine n_putr X hb (a := 0) (o := 0) (fi := 3) (ty := .array .int) tyX2 hm rfl (by decide) (by show 0 < _; omega) (by simp [fldn, fl, st, List.set]) (by simp [fldn]) rfl tyX2_ok nmX2 wu_X2 (by decide) rfl wf_X2_25 rfl (by decide +kernel) rfl rfl dX2_init_34 ?_
  refine n_aload_n X 0 dX2_init_37 rfl rfl ?_
  refine n_bipush X (nI 12) dX2_init_38 (by decide) ?_
  refine n_newi X hb (a := 5) (o := 0) rfl (by decide) (by show 5 = _; omega) (by decide) (by decide) (by decide) dX2_init_40 ?_
  refine n_putr X hb (a := 0) (o := 0) (fi := 4) (ty := .array .int) tyX2 hm rfl (by decide) (by show 0 < _; omega) (by simp [fldn, fl, st, List.set]) (by simp [fldn]) rfl tyX2_ok nmX2 wu_X2 (by decide) rfl wf_X2_28 rfl (by decide +kernel) rfl rfl dX2_init_42 ?_
  refine n_aload_n X 0 dX2_init_45 rfl rfl ?_
  refine n_iconst X (0) dX2_init_46 (by decide) ?_
  refine n_puti X hb (a := 0) (o := 0) (fi := 5) (ty := .int) tyX2 rfl (by decide) (by show 0 < _; omega) (by simp [fldn, fl, st, List.set]) (by simp [fldn]) rfl tyX2_ok nmX2 wu_X2 (by decide) rfl wf_X2_31 rfl (by decide +kernel) rfl rfl dX2_init_47 ?_
  refine n_aload_n X 0 dX2_init_50 rfl rfl ?_
  refine n_iconst X (0) dX2_init_51 (by decide) ?_
  refine n_puti X hb (a := 0) (o := 0) (fi := 6) (ty := .int) tyX2 rfl (by decide) (by show 0 < _; omega) (by simp [fldn, fl, st, List.set]) (by simp [fldn]) rfl tyX2_ok nmX2 wu_X2 (by decide) rfl wf_X2_35 rfl (by decide +kernel) rfl rfl dX2_init_52 ?_
  refine n_iconst X (nI 0) dX2_init_55 (by decide) ?_
  refine n_istore_n X dX2_init_56 rfl (by decide) rfl ?_
  exact L_X2_init_r (μ := x2f μ) hb X ha1 ha2 (by simp [x2f, st, zr]) (by simp [x2f, st, zr]) hE 7 0 (by decide) (by decide)
