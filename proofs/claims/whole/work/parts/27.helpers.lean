/-! the law's helpers: what is thrown is caught -/
theorem Met.ofWH {l : Launch} {y : MethodName} {ws ws' : List Cond} {rm : Room} {Pc : Array Value → State → Prop} {Qc : Array Value → State → Outcome → State → Prop} {mc ms : Nat} {free : Addr → Prop} {cc : ByteArray} {maxL : Nat} {ret : Option FieldType} {hh : List (Nat × Nat × Nat × Nat)}
    (hy : plainName y.cls = true) (hw : ws = Cond.codeWith y cc maxL ret hh :: ws')
    (body : ∀ p e s m args below meth c s₁, BodyLoose p l y (headSpec ws rm) cc maxL ret e s m args below meth c s₁ → c.maxLocals = maxL → Pc args s →
      W p l e (headSpec ws rm).room s m args below meth c s.heap [] 0 0 (MQ below Qc args s mc ms free) (entryFrame m args maxL)) : Met l y ws rm Pc Qc mc ms free := by
  refine MetFree.of_bodyS (code := cc) (maxLocals := maxL) (ret := ret) hy ?_ ?_
  · intro args s m h hn
    obtain ⟨m9, meth, c, hn9, h1, h2, h3, h4, -, h5, h6, -⟩ := Cond.codeWith_spec (atoms_spec (ws := ws) h _ (by rw [hw]; exact List.mem_cons_self))
    cases hn.symm.trans hn9
    exact ⟨meth, c, h1, h2, h3, h4, h5, h6⟩
  · intro p e s m args below meth c s₁ B hml hP _
    have hh0 : s₁.heap = s.heap := by rw [B.state]; rfl
    obtain ⟨t, a1, o, b1, b2, b3⟩ := body p e s m args below meth c s₁ B hml hP s₁ hh0 (Stand.of_body B)
    exact ⟨t, o, a1, b1, b2, ⟨b3.1, b3.2⟩⟩
/-- a helper of the law, with its table: with args in memory μ it answers r, and leaves μ' -/
def MH (E : EE) (y : MethodName) (bs : ByteArray) (maxL : Nat) (hh : List (Nat × Nat × Nat × Nat)) (R : Room) (av : List Value) (μ : Mem) (vo : Option Value) (μ' : Mem) : Prop :=
  ∀ sz : Nat, Met E.1 y (Cond.codeWith y bs maxL (some .int) hh :: WALL) R (va_Pc av (WS E μ sz)) (Qg E sz vo μ') R.cells R.slots (Aw E sz)
theorem MH.int {E : EE} {y : MethodName} {bs : ByteArray} {own : String} {maxL : Nat} {hh : List (Nat × Nat × Nat × Nat)} {R : Room} {av : List Value} {μ μ' : Mem} {r : Int32} (L0 : List (Nat × Value)) (hy : plainName y.cls = true) (how : y.cls = own) (hL0 : lv_args 0 av = L0) (hlen : (lg_sl av).length ≤ maxL)
    (body : ∀ C : Ctx, Cx E C bs own maxL R → (cc C).exceptionTable.toList = tableOf hh → EndI E C bs R.cells R.slots r μ' → KF E C 0 0 μ 0 L0 []) : MH E y bs maxL hh R av μ (some (.int r)) μ' := by
  intro sz
  refine Met.ofWH (cc := bs) (maxL := maxL) (ret := some .int) (hh := hh) hy rfl ?_
  intro p e s m av2 below meth c s₁ B hml hv
  obtain ⟨rfl, hsz, hw, hx, hz⟩ := hv
  have hts := atoms_spec (ws := Cond.codeWith y bs maxL (some .int) hh :: WALL) B.pre
  have hown : s.vm.findClass own = some m.cls := how ▸ findClass_of_methodNamed B.named
  subst hsz
  have K := body (p, e, R, s, m, av.toArray, below, meth, c, MQ below (Qg E s.heap.size (some (.int r)) μ') av.toArray s R.cells R.slots (Aw E s.heap.size), Aw E s.heap.size, maxL)
    ⟨B.exec, B.bytes, hml, hown, fun w hw => hts w (List.mem_cons_of_mem _ hw), hx, hz, fun k o h => Or.inl ⟨k, o, h, rfl⟩, fun q h => Or.inr h, rfl, rfl, B.notSynchronized⟩ (vx_table (x := y) B (hts _ List.mem_cons_self))
    (fun pc H locs ls d hw hs => W.zret B.exec B.bytes B.returns rfl (fun t ht hW => ⟨⟨rfl, by rw [ht]; exact hw⟩, hs.F ht⟩) hs.2.2 d B.notSynchronized)
  rw [lg_entry_eq]
  exact K s.heap [] _ hw va_S.rf (hL0 ▸ lv_entry av hlen)
section KTRY
variable {E : EE} {C : Ctx} {bs : ByteArray} {own : String} {nL k n pc : Nat} {R : Room} {μ : Mem} {L L' : List (Nat × Value)} {S : List Value}
/-- a frame over which q is thrown, of the class Z -/
def KX (E : EE) (C : Ctx) (k n : Nat) (μ : Mem) (pc : Nat) (Z : String) : Prop :=
  ∀ (H : Heap) (locs : List Loc) (ls : Array Slot) (S : List Value) (q : Nat) (cell : Cell), Wd E μ H → va_S (cA C) (cs C).heap H locs → lv_has ls (cN C) [] → H[q]? = some cell → cell.vm = .none → (cs C).vm.findClass Z = some cell.cls → vx_W (cp C) E.1 (ce C) (cR C) (cs C) (cm C) (ca C) (cb C) (cM C) (cc C) H locs k n (cQ C) (F0 (cm C) pc ls S) q
theorem k_callVT (X : Cx E C bs own nL R) {a o N idx maxL n' : Nat} {Cn : String} {T : u_T} {y : MethodName} {bs' : ByteArray} {ret : Option FieldType} {R' : Room} {As : List Value} {S0 : List Value} {ok : Prop} {vo : Option Value} {μ' : Mem} {ex : String → Prop}
    (lk : LinkV own idx Cn y bs' maxL ret n') (hk : kt a = 0) (ho : o < vn a) (hc : vwCl[oc a]? = some (Cn, T, N)) (h : MX E y bs' maxL ret R' (.ref (ad E a o) :: As) μ ok vo μ' ex) (hn : As.length = n') (hst : S0 = As.reverse ++ .ref (ad E a o) :: S) (hcat : (S.map fun v => v.category).sum ≤ 8)
    (hR : R'.frames + 1 ≤ R.frames ∧ 8 + (maxL + 11) + R'.locals ≤ R.locals) (hf : k + R'.cells ≤ R.cells ∧ n + R'.slots ≤ R.slots) (d : decode bs pc = .ok (.invokevirtual idx, 3)) (kx : ∀ Z, ex Z → KX E C (k + R'.cells) (n + R'.slots) μ pc Z) (kk : ok → KF E C (k + R'.cells) (n + R'.slots) μ' (pc + 3) L (vo.toList ++ S)) : KF E C k n μ pc L S0 := by
  intro H locs ls hw hs hl
  have hRR : cR C = R := X.2.2.2.2.2.2.2.2.2.1
  have hNN : cN C = nL := X.2.2.2.2.2.2.2.2.2.2.1
  have hr := vx_runV (As := As) (rest := S) (cells := k) (slots := n) (l := E.1) (e := ce C) (below := cb C) (meth := cM C) (locs := locs) (g := F0 (cm C) pc ls S0) ⟨X.1, X.2.1, X.2.2.1, X.2.2.2.1, X.2.2.2.2.1⟩ (h H.size) (cwV n' X.2.2.2.2.1 lk.1 rfl rfl rfl lk.2 (hRR ▸ hR)) ⟨WS.blind, X.recv hw hk ho hc, fun U hU hW => ⟨rfl, X.ws hw hs hU hW⟩⟩ rfl hn (hl.1.trans hNN) hst (lv_room hcat) d (hRR ▸ hf)
  intro T hT X0
  rcases hr T hT X0 with ⟨v, st₀, t, T', Lc, h0, X', hL, e1, e2, ⟨hok, ⟨hv, hw'⟩, hF⟩, stp⟩ | ⟨q, st₀, t, T', Lc, Z, cell, h0, X', hL, e1, e2, ⟨hx1, hx2, hF⟩, hce, hcv, hcl, stp⟩
  · obtain rfl : v = vo := by injection hv
    obtain ⟨-, -, k3⟩ := vx_keep h0 e1 hs (fun q _ h => X.ownq hs q h) (X.ownq hs) hL hF
    obtain ⟨t2, a1, b1⟩ := kk hok T'.heap (locs ++ Lc) ls (by rw [e1]; exact hw') k3 hl T' rfl X'
    exact ⟨t2, stp t2 a1, b1⟩
  · obtain ⟨-, -, k3⟩ := vx_keep h0 e1 hs (fun q _ h => X.ownq hs q h) (X.ownq hs) hL hF
    obtain ⟨t2, a1, b1⟩ := kx Z hx1 T'.heap (locs ++ Lc) ls S q cell (by rw [e1]; exact hx2) k3 (lv_sub hl [] rfl) (by rw [e1]; exact hce) hcv hcl T' rfl X'
    exact ⟨t2, stp.trans a1, b1⟩
/-- caught by the row after pre -/
theorem k_catch (X : Cx E C bs own nL R) {Z : String} {hh : List (Nat × Nat × Nat × Nat)} (ht : (cc C).exceptionTable.toList = tableOf hh) (pre : List (Nat × Nat × Nat × Nat)) (x : Nat × Nat × Nat × Nat) (suf : List (Nat × Nat × Nat × Nat)) (hsp : hh = pre ++ x :: suf)
    (hpass : ∀ z ∈ pre, z.2.2.2 ≠ 0 ∧ ∃ nm : String, Cond.classLink own z.2.2.2 nm ∈ WALL ∧ (Z, nm) ∈ NCS) (hx : covers ⟨x.1, x.2.1, x.2.2.1, x.2.2.2⟩ pc = true) (h0 : x.2.2.2 ≠ 0) (hlk : Cond.classLink own x.2.2.2 Z ∈ WALL) (hca : Cond.castable Z Z ∈ WN) (kk : ∀ q : Nat, KF E C k n μ x.2.2.1 [] [.ref q]) : KX E C k n μ pc Z := by
  intro H locs ls S q cell hw hs hl hce hcv hcl
  refine vx_catch (own := own) (name := Z) X.2.2.2.1 (tableOf pre) ⟨x.1, x.2.1, x.2.2.1, x.2.2.2⟩ (tableOf suf) (by rw [ht, hsp]; simp [tableOf]) ?_ hx h0 (X.2.2.2.2.1 _ hlk) (va_Nw.use rfl (X.2.2.2.2.2.1.2.2.2.1 _ hca)) hce hcv hcl (kk q H locs ls hw hs hl)
  intro z hz
  obtain ⟨z0, hz0, rfl⟩ := List.mem_map.mp hz
  obtain ⟨p1, nm, p2, p3⟩ := hpass z0 hz0
  exact Or.inr ⟨p1, nm, X.2.2.2.2.1 _ p2, X.2.2.2.2.2.1.2.2.2.2.1 (Z, nm) p3⟩
end KTRY
abbrev sIA : String := "java/lang/IllegalArgumentException"
abbrev sIS : String := "java/lang/IllegalStateException"
abbrev sIO : String := "java/lang/IndexOutOfBoundsException"
theorem H_register {E : EE} {μ μ1 μ' : Mem} {ok : Prop} {v r : Int32} {ex : String → Prop} (x0 x1 x2 x3 x4 : Int32) (h : MX E yX2_register cX2_register 7 (some .int) (rm 7 2) [.ref (ad E 0 0), .int x0, .int x1, .int x2, .int x3, .int x4] μ ok (some (.int v)) μ1 ex) (hex : ∀ Z, ex Z → Z = sIA ∨ Z = sIS) (h0 : ok → r = 0 ∧ μ' = st μ1 33 0 0 v) (h1 : ex sIA → r = 1 ∧ μ' = μ) (h2 : ex sIS → r = 2 ∧ μ' = μ) : MH E yL_register cL_register 8 [(0, 16, 19, 13), (0, 16, 23, 15)] (rm 8 2) [.ref (ad E 0 0), .int x0, .int x1, .int x2, .int x3, .int x4, .ref (ad E 33 0)] μ (some (.int r)) μ' := by
  refine MH.int [(0, .ref (ad E 0 0)), (1, .int x0), (2, .int x1), (3, .int x2), (4, .int x3), (5, .int x4), (6, .ref (ad E 33 0))] (by decide) rfl rfl (Nat.le_of_ble_eq_true rfl) fun C X ht hE => ?_
  refine k_aload X 6 dL_register_0 rfl ?_
  refine k_iconst X 0 dL_register_2 (by decide) ?_
  refine k_aload_n X 0 dL_register_3 rfl rfl ?_
  refine k_iload_n X 1 dL_register_4 rfl rfl ?_
  refine k_iload_n X 2 dL_register_5 rfl rfl ?_
  refine k_iload_n X 3 dL_register_6 rfl rfl ?_
  refine k_iload X 4 dL_register_7 rfl ?_
  refine k_iload X 5 dL_register_9 rfl ?_
  refine k_callVT (Cn := RX2) X lk_L_7 rfl (by decide) rfl h rfl rfl (by simp [Value.category]) ⟨by decide, by decide⟩ ⟨by decide, by decide⟩ dL_register_11 (fun Z hZ => ?_) (fun hok => ?_)
  · rcases hex Z hZ with rfl | rfl
    · obtain ⟨rfl, rfl⟩ := h1 hZ
      refine k_catch X ht [] (0, 16, 19, 13) [(0, 16, 23, 15)] rfl (fun _ hz => absurd hz List.not_mem_nil) (by decide) (by decide) wk_L_13 (by decide +kernel) (fun q => ?_)
      refine k_astore X dL_register_19 (by decide) rfl ?_
      refine k_iconst X 1 dL_register_21 (by decide) ?_
      refine k_wide (k' := 2) (n' := 12) (by decide) (by decide) ?_
      exact k_iret dL_register_22 hE rfl rfl
    · obtain ⟨rfl, rfl⟩ := h2 hZ
      refine k_catch X ht [(0, 16, 19, 13)] (0, 16, 23, 15) [] rfl (fun z hz => by
          obtain rfl := List.mem_singleton.mp hz
          exact ⟨by decide, _, wk_L_13, by decide +kernel⟩) (by decide) (by decide) wk_L_15 (by decide +kernel) (fun q => ?_)
      refine k_astore X dL_register_23 (by decide) rfl ?_
      refine k_iconst X 2 dL_register_25 (by decide) ?_
      refine k_wide (k' := 2) (n' := 12) (by decide) (by decide) ?_
      exact k_iret dL_register_26 hE rfl rfl
  obtain ⟨rfl, rfl⟩ := h0 hok
  refine k_i2l X dL_register_14 ?_
  refine k_last X rfl dL_register_15 ?_
  refine k_goto X (tgt := 27) dL_register_16 (by decide) ?_
  refine k_iconst X 0 dL_register_27 (by decide) ?_
  refine k_wide (k' := 2) (n' := 12) (by decide) (by decide) ?_
  exact k_iret dL_register_28 hE rfl rfl
theorem H_bindings {E : EE} {μ μ1 μ' : Mem} {ok : Prop} {v r : Int32} {ex : String → Prop} (x0 : Int32) (h : MX E yX2_bindings cX2_bindings 2 (some .int) (rm 7 1) [.ref (ad E 0 0), .int x0] μ ok (some (.int v)) μ1 ex) (hex : ∀ Z, ex Z → Z = sIA) (h0 : ok → r = 0 ∧ μ' = st μ1 33 0 0 v) (h1 : ex sIA → r = 1 ∧ μ' = μ) : MH E yL_bindings cL_bindings 4 [(0, 9, 12, 13)] (rm 8 1) [.ref (ad E 0 0), .int x0, .ref (ad E 33 0)] μ (some (.int r)) μ' := by
  refine MH.int [(0, .ref (ad E 0 0)), (1, .int x0), (2, .ref (ad E 33 0))] (by decide) rfl rfl (Nat.le_of_ble_eq_true rfl) fun C X ht hE => ?_
  refine k_aload_n X 2 dL_bindings_0 rfl rfl ?_
  refine k_iconst X 0 dL_bindings_1 (by decide) ?_
  refine k_aload_n X 0 dL_bindings_2 rfl rfl ?_
  refine k_iload_n X 1 dL_bindings_3 rfl rfl ?_
  refine k_callVT (Cn := RX2) X lk_L_17 rfl (by decide) rfl h rfl rfl (by simp [Value.category]) ⟨by decide, by decide⟩ ⟨by decide, by decide⟩ dL_bindings_4 (fun Z hZ => ?_) (fun hok => ?_)
  · rcases hex Z hZ with rfl
    · obtain ⟨rfl, rfl⟩ := h1 hZ
      refine k_catch X ht [] (0, 9, 12, 13) [] rfl (fun _ hz => absurd hz List.not_mem_nil) (by decide) (by decide) wk_L_13 (by decide +kernel) (fun q => ?_)
      refine k_astore_n X dL_bindings_12 rfl (by decide) rfl ?_
      refine k_iconst X 1 dL_bindings_13 (by decide) ?_
      refine k_wide (k' := 1) (n' := 6) (by decide) (by decide) ?_
      exact k_iret dL_bindings_14 hE rfl rfl
  obtain ⟨rfl, rfl⟩ := h0 hok
  refine k_i2l X dL_bindings_7 ?_
  refine k_last X rfl dL_bindings_8 ?_
  refine k_goto X (tgt := 15) dL_bindings_9 (by decide) ?_
  refine k_iconst X 0 dL_bindings_15 (by decide) ?_
  refine k_wide (k' := 1) (n' := 6) (by decide) (by decide) ?_
  exact k_iret dL_bindings_16 hE rfl rfl
theorem H_binding {E : EE} {μ μ1 μ' : Mem} {ok : Prop} {v r : Int32} {ex : String → Prop} (x0 x1 : Int32) (h : MX E yX2_binding cX2_binding 5 (some .int) (rm 7 2) [.ref (ad E 0 0), .int x0, .int x1] μ ok (some (.int v)) μ1 ex) (hex : ∀ Z, ex Z → Z = sIA ∨ Z = sIO) (h0 : ok → r = 0 ∧ μ' = st μ1 33 0 0 v) (h1 : ex sIA → r = 1 ∧ μ' = μ) (h2 : ex sIO → r = 2 ∧ μ' = μ) : MH E yL_binding cL_binding 5 [(0, 10, 13, 13), (0, 10, 17, 25)] (rm 8 2) [.ref (ad E 0 0), .int x0, .int x1, .ref (ad E 33 0)] μ (some (.int r)) μ' := by
  refine MH.int [(0, .ref (ad E 0 0)), (1, .int x0), (2, .int x1), (3, .ref (ad E 33 0))] (by decide) rfl rfl (Nat.le_of_ble_eq_true rfl) fun C X ht hE => ?_
  refine k_aload_n X 3 dL_binding_0 rfl rfl ?_
  refine k_iconst X 0 dL_binding_1 (by decide) ?_
  refine k_aload_n X 0 dL_binding_2 rfl rfl ?_
  refine k_iload_n X 1 dL_binding_3 rfl rfl ?_
  refine k_iload_n X 2 dL_binding_4 rfl rfl ?_
  refine k_callVT (Cn := RX2) X lk_L_21 rfl (by decide) rfl h rfl rfl (by simp [Value.category]) ⟨by decide, by decide⟩ ⟨by decide, by decide⟩ dL_binding_5 (fun Z hZ => ?_) (fun hok => ?_)
  · rcases hex Z hZ with rfl | rfl
    · obtain ⟨rfl, rfl⟩ := h1 hZ
      refine k_catch X ht [] (0, 10, 13, 13) [(0, 10, 17, 25)] rfl (fun _ hz => absurd hz List.not_mem_nil) (by decide) (by decide) wk_L_13 (by decide +kernel) (fun q => ?_)
      refine k_astore X dL_binding_13 (by decide) rfl ?_
      refine k_iconst X 1 dL_binding_15 (by decide) ?_
      refine k_wide (k' := 2) (n' := 12) (by decide) (by decide) ?_
      exact k_iret dL_binding_16 hE rfl rfl
    · obtain ⟨rfl, rfl⟩ := h2 hZ
      refine k_catch X ht [(0, 10, 13, 13)] (0, 10, 17, 25) [] rfl (fun z hz => by
          obtain rfl := List.mem_singleton.mp hz
          exact ⟨by decide, _, wk_L_13, by decide +kernel⟩) (by decide) (by decide) wk_L_25 (by decide +kernel) (fun q => ?_)
      refine k_astore X dL_binding_17 (by decide) rfl ?_
      refine k_iconst X 2 dL_binding_19 (by decide) ?_
      refine k_wide (k' := 2) (n' := 12) (by decide) (by decide) ?_
      exact k_iret dL_binding_20 hE rfl rfl
  obtain ⟨rfl, rfl⟩ := h0 hok
  refine k_i2l X dL_binding_8 ?_
  refine k_last X rfl dL_binding_9 ?_
  refine k_goto X (tgt := 21) dL_binding_10 (by decide) ?_
  refine k_iconst X 0 dL_binding_21 (by decide) ?_
  refine k_wide (k' := 2) (n' := 12) (by decide) (by decide) ?_
  exact k_iret dL_binding_22 hE rfl rfl
theorem H_call {E : EE} {μ μ1 μ' : Mem} {ok : Prop} {v r : Int32} {ex : String → Prop} (x0 : Int32) (h : MX E yX2_call cX2_call 3 (some .int) (rm 9 1) [.ref (ad E 0 0), .int x0] μ ok (some (.int v)) μ1 ex) (hex : ∀ Z, ex Z → Z = sIA ∨ Z = sIS) (h0 : ok → r = 0 ∧ μ' = st μ1 33 0 0 v) (h1 : ex sIA → r = 1 ∧ μ' = μ) (h2 : ex sIS → r = 2 ∧ μ' = μ) : MH E yL_call cL_call 4 [(0, 9, 12, 13), (0, 9, 15, 15)] (rm 10 1) [.ref (ad E 0 0), .int x0, .ref (ad E 33 0)] μ (some (.int r)) μ' := by
  refine MH.int [(0, .ref (ad E 0 0)), (1, .int x0), (2, .ref (ad E 33 0))] (by decide) rfl rfl (Nat.le_of_ble_eq_true rfl) fun C X ht hE => ?_
  refine k_aload_n X 2 dL_call_0 rfl rfl ?_
  refine k_iconst X 0 dL_call_1 (by decide) ?_
  refine k_aload_n X 0 dL_call_2 rfl rfl ?_
  refine k_iload_n X 1 dL_call_3 rfl rfl ?_
  refine k_callVT (Cn := RX2) X lk_L_27 rfl (by decide) rfl h rfl rfl (by simp [Value.category]) ⟨by decide, by decide⟩ ⟨by decide, by decide⟩ dL_call_4 (fun Z hZ => ?_) (fun hok => ?_)
  · rcases hex Z hZ with rfl | rfl
    · obtain ⟨rfl, rfl⟩ := h1 hZ
      refine k_catch X ht [] (0, 9, 12, 13) [(0, 9, 15, 15)] rfl (fun _ hz => absurd hz List.not_mem_nil) (by decide) (by decide) wk_L_13 (by decide +kernel) (fun q => ?_)
      refine k_astore_n X dL_call_12 rfl (by decide) rfl ?_
      refine k_iconst X 1 dL_call_13 (by decide) ?_
      refine k_wide (k' := 1) (n' := 6) (by decide) (by decide) ?_
      exact k_iret dL_call_14 hE rfl rfl
    · obtain ⟨rfl, rfl⟩ := h2 hZ
      refine k_catch X ht [(0, 9, 12, 13)] (0, 9, 15, 15) [] rfl (fun z hz => by
          obtain rfl := List.mem_singleton.mp hz
          exact ⟨by decide, _, wk_L_13, by decide +kernel⟩) (by decide) (by decide) wk_L_15 (by decide +kernel) (fun q => ?_)
      refine k_astore_n X dL_call_15 rfl (by decide) rfl ?_
      refine k_iconst X 2 dL_call_16 (by decide) ?_
      refine k_wide (k' := 1) (n' := 6) (by decide) (by decide) ?_
      exact k_iret dL_call_17 hE rfl rfl
  obtain ⟨rfl, rfl⟩ := h0 hok
  refine k_i2l X dL_call_7 ?_
  refine k_last X rfl dL_call_8 ?_
  refine k_goto X (tgt := 18) dL_call_9 (by decide) ?_
  refine k_iconst X 0 dL_call_18 (by decide) ?_
  refine k_wide (k' := 1) (n' := 6) (by decide) (by decide) ?_
  exact k_iret dL_call_19 hE rfl rfl
theorem H_answer {E : EE} {μ μ1 μ' : Mem} {ok : Prop} {v r : Int32} {ex : String → Prop} (x0 x1 x2 : Int32) (h : MX E yX2_answer cX2_answer 6 (some .int) (rm 7 2) [.ref (ad E 0 0), .int x0, .int x1, .int x2] μ ok (some (.int v)) μ1 ex) (hex : ∀ Z, ex Z → Z = sIO ∨ Z = sIA ∨ Z = sIS) (h0 : ok → r = 0 ∧ μ' = st μ1 33 0 0 v) (h1 : ex sIO → r = 1 ∧ μ' = μ) (h2 : ex sIA → r = 2 ∧ μ' = μ) (h3 : ex sIS → r = 3 ∧ μ' = μ) : MH E yL_answer cL_answer 6 [(0, 12, 15, 25), (0, 12, 19, 13), (0, 12, 23, 15)] (rm 8 2) [.ref (ad E 0 0), .int x0, .int x1, .int x2, .ref (ad E 33 0)] μ (some (.int r)) μ' := by
  refine MH.int [(0, .ref (ad E 0 0)), (1, .int x0), (2, .int x1), (3, .int x2), (4, .ref (ad E 33 0))] (by decide) rfl rfl (Nat.le_of_ble_eq_true rfl) fun C X ht hE => ?_
  refine k_aload X 4 dL_answer_0 rfl ?_
  refine k_iconst X 0 dL_answer_2 (by decide) ?_
  refine k_aload_n X 0 dL_answer_3 rfl rfl ?_
  refine k_iload_n X 1 dL_answer_4 rfl rfl ?_
  refine k_iload_n X 2 dL_answer_5 rfl rfl ?_
  refine k_iload_n X 3 dL_answer_6 rfl rfl ?_
  refine k_callVT (Cn := RX2) X lk_L_30 rfl (by decide) rfl h rfl rfl (by simp [Value.category]) ⟨by decide, by decide⟩ ⟨by decide, by decide⟩ dL_answer_7 (fun Z hZ => ?_) (fun hok => ?_)
  · rcases hex Z hZ with rfl | rfl | rfl
    · obtain ⟨rfl, rfl⟩ := h1 hZ
      refine k_catch X ht [] (0, 12, 15, 25) [(0, 12, 19, 13), (0, 12, 23, 15)] rfl (fun _ hz => absurd hz List.not_mem_nil) (by decide) (by decide) wk_L_25 (by decide +kernel) (fun q => ?_)
      refine k_astore X dL_answer_15 (by decide) rfl ?_
      refine k_iconst X 1 dL_answer_17 (by decide) ?_
      refine k_wide (k' := 2) (n' := 12) (by decide) (by decide) ?_
      exact k_iret dL_answer_18 hE rfl rfl
    · obtain ⟨rfl, rfl⟩ := h2 hZ
      refine k_catch X ht [(0, 12, 15, 25)] (0, 12, 19, 13) [(0, 12, 23, 15)] rfl (fun z hz => by
          obtain rfl := List.mem_singleton.mp hz
          exact ⟨by decide, _, wk_L_25, by decide +kernel⟩) (by decide) (by decide) wk_L_13 (by decide +kernel) (fun q => ?_)
      refine k_astore X dL_answer_19 (by decide) rfl ?_
      refine k_iconst X 2 dL_answer_21 (by decide) ?_
      refine k_wide (k' := 2) (n' := 12) (by decide) (by decide) ?_
      exact k_iret dL_answer_22 hE rfl rfl
    · obtain ⟨rfl, rfl⟩ := h3 hZ
      refine k_catch X ht [(0, 12, 15, 25), (0, 12, 19, 13)] (0, 12, 23, 15) [] rfl (fun z hz => by
          rcases List.mem_cons.mp hz with rfl | hz
          · exact ⟨by decide, _, wk_L_25, by decide +kernel⟩
          obtain rfl := List.mem_singleton.mp hz
          exact ⟨by decide, _, wk_L_13, by decide +kernel⟩) (by decide) (by decide) wk_L_15 (by decide +kernel) (fun q => ?_)
      refine k_astore X dL_answer_23 (by decide) rfl ?_
      refine k_iconst X 3 dL_answer_25 (by decide) ?_
      refine k_wide (k' := 2) (n' := 12) (by decide) (by decide) ?_
      exact k_iret dL_answer_26 hE rfl rfl
  obtain ⟨rfl, rfl⟩ := h0 hok
  refine k_i2l X dL_answer_10 ?_
  refine k_last X rfl dL_answer_11 ?_
  refine k_goto X (tgt := 27) dL_answer_12 (by decide) ?_
  refine k_iconst X 0 dL_answer_27 (by decide) ?_
  refine k_wide (k' := 2) (n' := 12) (by decide) (by decide) ?_
  exact k_iret dL_answer_28 hE rfl rfl
theorem H_cancel {E : EE} {μ μ1 μ' : Mem} {ok : Prop} {v r : Int32} {ex : String → Prop} (x0 : Int32) (h : MX E yX2_cancel cX2_cancel 3 (some .int) (rm 7 2) [.ref (ad E 0 0), .int x0] μ ok (some (.int v)) μ1 ex) (hex : ∀ Z, ex Z → Z = sIO ∨ Z = sIS) (h0 : ok → r = 0 ∧ μ' = st μ1 33 0 0 v) (h1 : ex sIO → r = 1 ∧ μ' = μ) (h2 : ex sIS → r = 2 ∧ μ' = μ) : MH E yL_cancel cL_cancel 4 [(0, 9, 12, 25), (0, 9, 15, 15)] (rm 8 2) [.ref (ad E 0 0), .int x0, .ref (ad E 33 0)] μ (some (.int r)) μ' := by
  refine MH.int [(0, .ref (ad E 0 0)), (1, .int x0), (2, .ref (ad E 33 0))] (by decide) rfl rfl (Nat.le_of_ble_eq_true rfl) fun C X ht hE => ?_
  refine k_aload_n X 2 dL_cancel_0 rfl rfl ?_
  refine k_iconst X 0 dL_cancel_1 (by decide) ?_
  refine k_aload_n X 0 dL_cancel_2 rfl rfl ?_
  refine k_iload_n X 1 dL_cancel_3 rfl rfl ?_
  refine k_callVT (Cn := RX2) X lk_L_34 rfl (by decide) rfl h rfl rfl (by simp [Value.category]) ⟨by decide, by decide⟩ ⟨by decide, by decide⟩ dL_cancel_4 (fun Z hZ => ?_) (fun hok => ?_)
  · rcases hex Z hZ with rfl | rfl
    · obtain ⟨rfl, rfl⟩ := h1 hZ
      refine k_catch X ht [] (0, 9, 12, 25) [(0, 9, 15, 15)] rfl (fun _ hz => absurd hz List.not_mem_nil) (by decide) (by decide) wk_L_25 (by decide +kernel) (fun q => ?_)
      refine k_astore_n X dL_cancel_12 rfl (by decide) rfl ?_
      refine k_iconst X 1 dL_cancel_13 (by decide) ?_
      refine k_wide (k' := 2) (n' := 12) (by decide) (by decide) ?_
      exact k_iret dL_cancel_14 hE rfl rfl
    · obtain ⟨rfl, rfl⟩ := h2 hZ
      refine k_catch X ht [(0, 9, 12, 25)] (0, 9, 15, 15) [] rfl (fun z hz => by
          obtain rfl := List.mem_singleton.mp hz
          exact ⟨by decide, _, wk_L_25, by decide +kernel⟩) (by decide) (by decide) wk_L_15 (by decide +kernel) (fun q => ?_)
      refine k_astore_n X dL_cancel_15 rfl (by decide) rfl ?_
      refine k_iconst X 2 dL_cancel_16 (by decide) ?_
      refine k_wide (k' := 2) (n' := 12) (by decide) (by decide) ?_
      exact k_iret dL_cancel_17 hE rfl rfl
  obtain ⟨rfl, rfl⟩ := h0 hok
  refine k_i2l X dL_cancel_7 ?_
  refine k_last X rfl dL_cancel_8 ?_
  refine k_goto X (tgt := 18) dL_cancel_9 (by decide) ?_
  refine k_iconst X 0 dL_cancel_18 (by decide) ?_
  refine k_wide (k' := 2) (n' := 12) (by decide) (by decide) ?_
  exact k_iret dL_cancel_19 hE rfl rfl
theorem H_pass {E : EE} {μ μ1 μ' : Mem} {ok : Prop} {v r : Int32} {ex : String → Prop} (x0 : Int32) (h : MX E yX2_pass cX2_pass 4 (some .int) (rm 6 1) [.ref (ad E 0 0), .int x0] μ ok (some (.int v)) μ1 ex) (hex : ∀ Z, ex Z → Z = sIA) (h0 : ok → r = 0 ∧ μ' = st μ1 33 0 0 v) (h1 : ex sIA → r = 1 ∧ μ' = μ) : MH E yL_pass cL_pass 4 [(0, 9, 12, 13)] (rm 7 1) [.ref (ad E 0 0), .int x0, .ref (ad E 33 0)] μ (some (.int r)) μ' := by
  refine MH.int [(0, .ref (ad E 0 0)), (1, .int x0), (2, .ref (ad E 33 0))] (by decide) rfl rfl (Nat.le_of_ble_eq_true rfl) fun C X ht hE => ?_
  refine k_aload_n X 2 dL_pass_0 rfl rfl ?_
  refine k_iconst X 0 dL_pass_1 (by decide) ?_
  refine k_aload_n X 0 dL_pass_2 rfl rfl ?_
  refine k_iload_n X 1 dL_pass_3 rfl rfl ?_
  refine k_callVT (Cn := RX2) X lk_L_37 rfl (by decide) rfl h rfl rfl (by simp [Value.category]) ⟨by decide, by decide⟩ ⟨by decide, by decide⟩ dL_pass_4 (fun Z hZ => ?_) (fun hok => ?_)
  · rcases hex Z hZ with rfl
    · obtain ⟨rfl, rfl⟩ := h1 hZ
      refine k_catch X ht [] (0, 9, 12, 13) [] rfl (fun _ hz => absurd hz List.not_mem_nil) (by decide) (by decide) wk_L_13 (by decide +kernel) (fun q => ?_)
      refine k_astore_n X dL_pass_12 rfl (by decide) rfl ?_
      refine k_iconst X 1 dL_pass_13 (by decide) ?_
      refine k_wide (k' := 1) (n' := 6) (by decide) (by decide) ?_
      exact k_iret dL_pass_14 hE rfl rfl
  obtain ⟨rfl, rfl⟩ := h0 hok
  refine k_i2l X dL_pass_7 ?_
  refine k_last X rfl dL_pass_8 ?_
  refine k_goto X (tgt := 15) dL_pass_9 (by decide) ?_
  refine k_iconst X 0 dL_pass_15 (by decide) ?_
  refine k_wide (k' := 1) (n' := 6) (by decide) (by decide) ?_
  exact k_iret dL_pass_16 hE rfl rfl
theorem H_finalOf {E : EE} {μ μ1 μ' : Mem} {ok : Prop} {v r : Int32} {ex : String → Prop} (x0 : Int32) (h : MX E yX2_finalOf cX2_finalOf 2 (some .int) (rm 7 1) [.ref (ad E 0 0), .int x0] μ ok (some (.int v)) μ1 ex) (hex : ∀ Z, ex Z → Z = sIO) (h0 : ok → r = 0 ∧ μ' = st μ1 33 0 0 v) (h1 : ex sIO → r = 1 ∧ μ' = μ) : MH E yL_finalOf cL_finalOf 4 [(0, 9, 12, 25)] (rm 8 1) [.ref (ad E 0 0), .int x0, .ref (ad E 33 0)] μ (some (.int r)) μ' := by
  refine MH.int [(0, .ref (ad E 0 0)), (1, .int x0), (2, .ref (ad E 33 0))] (by decide) rfl rfl (Nat.le_of_ble_eq_true rfl) fun C X ht hE => ?_
  refine k_aload_n X 2 dL_finalOf_0 rfl rfl ?_
  refine k_iconst X 0 dL_finalOf_1 (by decide) ?_
  refine k_aload_n X 0 dL_finalOf_2 rfl rfl ?_
  refine k_iload_n X 1 dL_finalOf_3 rfl rfl ?_
  refine k_callVT (Cn := RX2) X lk_L_40 rfl (by decide) rfl h rfl rfl (by simp [Value.category]) ⟨by decide, by decide⟩ ⟨by decide, by decide⟩ dL_finalOf_4 (fun Z hZ => ?_) (fun hok => ?_)
  · rcases hex Z hZ with rfl
    · obtain ⟨rfl, rfl⟩ := h1 hZ
      refine k_catch X ht [] (0, 9, 12, 25) [] rfl (fun _ hz => absurd hz List.not_mem_nil) (by decide) (by decide) wk_L_25 (by decide +kernel) (fun q => ?_)
      refine k_astore_n X dL_finalOf_12 rfl (by decide) rfl ?_
      refine k_iconst X 1 dL_finalOf_13 (by decide) ?_
      refine k_wide (k' := 1) (n' := 6) (by decide) (by decide) ?_
      exact k_iret dL_finalOf_14 hE rfl rfl
  obtain ⟨rfl, rfl⟩ := h0 hok
  refine k_i2l X dL_finalOf_7 ?_
  refine k_last X rfl dL_finalOf_8 ?_
  refine k_goto X (tgt := 15) dL_finalOf_9 (by decide) ?_
  refine k_iconst X 0 dL_finalOf_15 (by decide) ?_
  refine k_wide (k' := 1) (n' := 6) (by decide) (by decide) ?_
  exact k_iret dL_finalOf_16 hE rfl rfl
theorem H_finalBySorting {E : EE} {μ μ1 μ' : Mem} {ok : Prop} {v r : Int32} {ex : String → Prop} (x0 : Int32) (h : MX E yX2_finalBySorting cX2_finalBySorting 3 (some .int) (rm 7 2) [.ref (ad E 0 0), .int x0] μ ok (some (.int v)) μ1 ex) (hex : ∀ Z, ex Z → Z = sIO ∨ Z = sIS) (h0 : ok → r = 0 ∧ μ' = st μ1 33 0 0 v) (h1 : ex sIO → r = 1 ∧ μ' = μ) (h2 : ex sIS → r = 2 ∧ μ' = μ) : MH E yL_finalBySorting cL_finalBySorting 4 [(0, 9, 12, 25), (0, 9, 15, 15)] (rm 8 2) [.ref (ad E 0 0), .int x0, .ref (ad E 33 0)] μ (some (.int r)) μ' := by
  refine MH.int [(0, .ref (ad E 0 0)), (1, .int x0), (2, .ref (ad E 33 0))] (by decide) rfl rfl (Nat.le_of_ble_eq_true rfl) fun C X ht hE => ?_
  refine k_aload_n X 2 dL_finalBySorting_0 rfl rfl ?_
  refine k_iconst X 0 dL_finalBySorting_1 (by decide) ?_
  refine k_aload_n X 0 dL_finalBySorting_2 rfl rfl ?_
  refine k_iload_n X 1 dL_finalBySorting_3 rfl rfl ?_
  refine k_callVT (Cn := RX2) X lk_L_43 rfl (by decide) rfl h rfl rfl (by simp [Value.category]) ⟨by decide, by decide⟩ ⟨by decide, by decide⟩ dL_finalBySorting_4 (fun Z hZ => ?_) (fun hok => ?_)
  · rcases hex Z hZ with rfl | rfl
    · obtain ⟨rfl, rfl⟩ := h1 hZ
      refine k_catch X ht [] (0, 9, 12, 25) [(0, 9, 15, 15)] rfl (fun _ hz => absurd hz List.not_mem_nil) (by decide) (by decide) wk_L_25 (by decide +kernel) (fun q => ?_)
      refine k_astore_n X dL_finalBySorting_12 rfl (by decide) rfl ?_
      refine k_iconst X 1 dL_finalBySorting_13 (by decide) ?_
      refine k_wide (k' := 2) (n' := 12) (by decide) (by decide) ?_
      exact k_iret dL_finalBySorting_14 hE rfl rfl
    · obtain ⟨rfl, rfl⟩ := h2 hZ
      refine k_catch X ht [(0, 9, 12, 25)] (0, 9, 15, 15) [] rfl (fun z hz => by
          obtain rfl := List.mem_singleton.mp hz
          exact ⟨by decide, _, wk_L_25, by decide +kernel⟩) (by decide) (by decide) wk_L_15 (by decide +kernel) (fun q => ?_)
      refine k_astore_n X dL_finalBySorting_15 rfl (by decide) rfl ?_
      refine k_iconst X 2 dL_finalBySorting_16 (by decide) ?_
      refine k_wide (k' := 2) (n' := 12) (by decide) (by decide) ?_
      exact k_iret dL_finalBySorting_17 hE rfl rfl
  obtain ⟨rfl, rfl⟩ := h0 hok
  refine k_i2l X dL_finalBySorting_7 ?_
  refine k_last X rfl dL_finalBySorting_8 ?_
  refine k_goto X (tgt := 18) dL_finalBySorting_9 (by decide) ?_
  refine k_iconst X 0 dL_finalBySorting_18 (by decide) ?_
  refine k_wide (k' := 2) (n' := 12) (by decide) (by decide) ?_
  exact k_iret dL_finalBySorting_19 hE rfl rfl
theorem H_branches {E : EE} {μ μ1 μ' : Mem} {ok : Prop} {v r : Int32} {ex : String → Prop} (x0 : Int32) (h : MX E yX2_branches cX2_branches 2 (some .int) (rm 7 1) [.ref (ad E 0 0), .int x0] μ ok (some (.int v)) μ1 ex) (hex : ∀ Z, ex Z → Z = sIO) (h0 : ok → r = 0 ∧ μ' = st μ1 33 0 0 v) (h1 : ex sIO → r = 1 ∧ μ' = μ) : MH E yL_branches cL_branches 4 [(0, 9, 12, 25)] (rm 8 1) [.ref (ad E 0 0), .int x0, .ref (ad E 33 0)] μ (some (.int r)) μ' := by
  refine MH.int [(0, .ref (ad E 0 0)), (1, .int x0), (2, .ref (ad E 33 0))] (by decide) rfl rfl (Nat.le_of_ble_eq_true rfl) fun C X ht hE => ?_
  refine k_aload_n X 2 dL_branches_0 rfl rfl ?_
  refine k_iconst X 0 dL_branches_1 (by decide) ?_
  refine k_aload_n X 0 dL_branches_2 rfl rfl ?_
  refine k_iload_n X 1 dL_branches_3 rfl rfl ?_
  refine k_callVT (Cn := RX2) X lk_L_46 rfl (by decide) rfl h rfl rfl (by simp [Value.category]) ⟨by decide, by decide⟩ ⟨by decide, by decide⟩ dL_branches_4 (fun Z hZ => ?_) (fun hok => ?_)
  · rcases hex Z hZ with rfl
    · obtain ⟨rfl, rfl⟩ := h1 hZ
      refine k_catch X ht [] (0, 9, 12, 25) [] rfl (fun _ hz => absurd hz List.not_mem_nil) (by decide) (by decide) wk_L_25 (by decide +kernel) (fun q => ?_)
      refine k_astore_n X dL_branches_12 rfl (by decide) rfl ?_
      refine k_iconst X 1 dL_branches_13 (by decide) ?_
      refine k_wide (k' := 1) (n' := 6) (by decide) (by decide) ?_
      exact k_iret dL_branches_14 hE rfl rfl
  obtain ⟨rfl, rfl⟩ := h0 hok
  refine k_i2l X dL_branches_7 ?_
  refine k_last X rfl dL_branches_8 ?_
  refine k_goto X (tgt := 15) dL_branches_9 (by decide) ?_
  refine k_iconst X 0 dL_branches_15 (by decide) ?_
  refine k_wide (k' := 1) (n' := 6) (by decide) (by decide) ?_
  exact k_iret dL_branches_16 hE rfl rfl
theorem H_device {E : EE} {μ μ1 μ' : Mem} {ok : Prop} {v r : Int32} {ex : String → Prop} (x0 x1 : Int32) (h : MX E yX2_device cX2_device 3 (some .int) (rm 8 2) [.ref (ad E 0 0), .int x0, .int x1] μ ok (some (.int v)) μ1 ex) (hex : ∀ Z, ex Z → Z = sIO) (h0 : ok → r = 0 ∧ μ' = st μ1 33 0 0 v) (h1 : ex sIO → r = 1 ∧ μ' = μ) : MH E yL_device cL_device 5 [(0, 10, 13, 25)] (rm 9 2) [.ref (ad E 0 0), .int x0, .int x1, .ref (ad E 33 0)] μ (some (.int r)) μ' := by
  refine MH.int [(0, .ref (ad E 0 0)), (1, .int x0), (2, .int x1), (3, .ref (ad E 33 0))] (by decide) rfl rfl (Nat.le_of_ble_eq_true rfl) fun C X ht hE => ?_
  refine k_aload_n X 3 dL_device_0 rfl rfl ?_
  refine k_iconst X 0 dL_device_1 (by decide) ?_
  refine k_aload_n X 0 dL_device_2 rfl rfl ?_
  refine k_iload_n X 1 dL_device_3 rfl rfl ?_
  refine k_iload_n X 2 dL_device_4 rfl rfl ?_
  refine k_callVT (Cn := RX2) X lk_L_49 rfl (by decide) rfl h rfl rfl (by simp [Value.category]) ⟨by decide, by decide⟩ ⟨by decide, by decide⟩ dL_device_5 (fun Z hZ => ?_) (fun hok => ?_)
  · rcases hex Z hZ with rfl
    · obtain ⟨rfl, rfl⟩ := h1 hZ
      refine k_catch X ht [] (0, 10, 13, 25) [] rfl (fun _ hz => absurd hz List.not_mem_nil) (by decide) (by decide) wk_L_25 (by decide +kernel) (fun q => ?_)
      refine k_astore X dL_device_13 (by decide) rfl ?_
      refine k_iconst X 1 dL_device_15 (by decide) ?_
      refine k_wide (k' := 2) (n' := 12) (by decide) (by decide) ?_
      exact k_iret dL_device_16 hE rfl rfl
  obtain ⟨rfl, rfl⟩ := h0 hok
  refine k_i2l X dL_device_8 ?_
  refine k_last X rfl dL_device_9 ?_
  refine k_goto X (tgt := 17) dL_device_10 (by decide) ?_
  refine k_iconst X 0 dL_device_17 (by decide) ?_
  refine k_wide (k' := 2) (n' := 12) (by decide) (by decide) ?_
  exact k_iret dL_device_18 hE rfl rfl
theorem H_state {E : EE} {μ μ1 μ' : Mem} {ok : Prop} {v r : Int32} {ex : String → Prop} (x0 x1 : Int32) (h : MX E yX2_state cX2_state 3 (some .int) (rm 8 2) [.ref (ad E 0 0), .int x0, .int x1] μ ok (some (.int v)) μ1 ex) (hex : ∀ Z, ex Z → Z = sIO) (h0 : ok → r = 0 ∧ μ' = st μ1 33 0 0 v) (h1 : ex sIO → r = 1 ∧ μ' = μ) : MH E yL_state cL_state 5 [(0, 10, 13, 25)] (rm 9 2) [.ref (ad E 0 0), .int x0, .int x1, .ref (ad E 33 0)] μ (some (.int r)) μ' := by
  refine MH.int [(0, .ref (ad E 0 0)), (1, .int x0), (2, .int x1), (3, .ref (ad E 33 0))] (by decide) rfl rfl (Nat.le_of_ble_eq_true rfl) fun C X ht hE => ?_
  refine k_aload_n X 3 dL_state_0 rfl rfl ?_
  refine k_iconst X 0 dL_state_1 (by decide) ?_
  refine k_aload_n X 0 dL_state_2 rfl rfl ?_
  refine k_iload_n X 1 dL_state_3 rfl rfl ?_
  refine k_iload_n X 2 dL_state_4 rfl rfl ?_
  refine k_callVT (Cn := RX2) X lk_L_52 rfl (by decide) rfl h rfl rfl (by simp [Value.category]) ⟨by decide, by decide⟩ ⟨by decide, by decide⟩ dL_state_5 (fun Z hZ => ?_) (fun hok => ?_)
  · rcases hex Z hZ with rfl
    · obtain ⟨rfl, rfl⟩ := h1 hZ
      refine k_catch X ht [] (0, 10, 13, 25) [] rfl (fun _ hz => absurd hz List.not_mem_nil) (by decide) (by decide) wk_L_25 (by decide +kernel) (fun q => ?_)
      refine k_astore X dL_state_13 (by decide) rfl ?_
      refine k_iconst X 1 dL_state_15 (by decide) ?_
      refine k_wide (k' := 2) (n' := 12) (by decide) (by decide) ?_
      exact k_iret dL_state_16 hE rfl rfl
  obtain ⟨rfl, rfl⟩ := h0 hok
  refine k_i2l X dL_state_8 ?_
  refine k_last X rfl dL_state_9 ?_
  refine k_goto X (tgt := 17) dL_state_10 (by decide) ?_
  refine k_iconst X 0 dL_state_17 (by decide) ?_
  refine k_wide (k' := 2) (n' := 12) (by decide) (by decide) ?_
  exact k_iret dL_state_18 hE rfl rfl
theorem H_answered {E : EE} {μ μ1 μ' : Mem} {ok : Prop} {v r : Int32} {ex : String → Prop} (x0 : Int32) (h : MX E yX2_answered cX2_answered 2 (some .int) (rm 7 1) [.ref (ad E 0 0), .int x0] μ ok (some (.int v)) μ1 ex) (hex : ∀ Z, ex Z → Z = sIO) (h0 : ok → r = 0 ∧ μ' = st μ1 33 0 0 v) (h1 : ex sIO → r = 1 ∧ μ' = μ) : MH E yL_answered cL_answered 4 [(0, 9, 12, 25)] (rm 8 1) [.ref (ad E 0 0), .int x0, .ref (ad E 33 0)] μ (some (.int r)) μ' := by
  refine MH.int [(0, .ref (ad E 0 0)), (1, .int x0), (2, .ref (ad E 33 0))] (by decide) rfl rfl (Nat.le_of_ble_eq_true rfl) fun C X ht hE => ?_
  refine k_aload_n X 2 dL_answered_0 rfl rfl ?_
  refine k_iconst X 0 dL_answered_1 (by decide) ?_
  refine k_aload_n X 0 dL_answered_2 rfl rfl ?_
  refine k_iload_n X 1 dL_answered_3 rfl rfl ?_
  refine k_callVT (Cn := RX2) X lk_L_55 rfl (by decide) rfl h rfl rfl (by simp [Value.category]) ⟨by decide, by decide⟩ ⟨by decide, by decide⟩ dL_answered_4 (fun Z hZ => ?_) (fun hok => ?_)
  · rcases hex Z hZ with rfl
    · obtain ⟨rfl, rfl⟩ := h1 hZ
      refine k_catch X ht [] (0, 9, 12, 25) [] rfl (fun _ hz => absurd hz List.not_mem_nil) (by decide) (by decide) wk_L_25 (by decide +kernel) (fun q => ?_)
      refine k_astore_n X dL_answered_12 rfl (by decide) rfl ?_
      refine k_iconst X 1 dL_answered_13 (by decide) ?_
      refine k_wide (k' := 1) (n' := 6) (by decide) (by decide) ?_
      exact k_iret dL_answered_14 hE rfl rfl
  obtain ⟨rfl, rfl⟩ := h0 hok
  refine k_i2l X dL_answered_7 ?_
  refine k_last X rfl dL_answered_8 ?_
  refine k_goto X (tgt := 15) dL_answered_9 (by decide) ?_
  refine k_iconst X 0 dL_answered_15 (by decide) ?_
  refine k_wide (k' := 1) (n' := 6) (by decide) (by decide) ?_
  exact k_iret dL_answered_16 hE rfl rfl
theorem H_hungUp {E : EE} {μ μ1 μ' : Mem} {ok : Prop} {v r : Int32} {ex : String → Prop} (x0 : Int32) (h : MX E yX2_hungUp cX2_hungUp 2 (some .int) (rm 6 1) [.ref (ad E 0 0), .int x0] μ ok (some (.int v)) μ1 ex) (hex : ∀ Z, ex Z → Z = sIA) (h0 : ok → r = 0 ∧ μ' = st μ1 33 0 0 v) (h1 : ex sIA → r = 1 ∧ μ' = μ) : MH E yL_hungUp cL_hungUp 4 [(0, 9, 12, 13)] (rm 7 1) [.ref (ad E 0 0), .int x0, .ref (ad E 33 0)] μ (some (.int r)) μ' := by
  refine MH.int [(0, .ref (ad E 0 0)), (1, .int x0), (2, .ref (ad E 33 0))] (by decide) rfl rfl (Nat.le_of_ble_eq_true rfl) fun C X ht hE => ?_
  refine k_aload_n X 2 dL_hungUp_0 rfl rfl ?_
  refine k_iconst X 0 dL_hungUp_1 (by decide) ?_
  refine k_aload_n X 0 dL_hungUp_2 rfl rfl ?_
  refine k_iload_n X 1 dL_hungUp_3 rfl rfl ?_
  refine k_callVT (Cn := RX2) X lk_L_58 rfl (by decide) rfl h rfl rfl (by simp [Value.category]) ⟨by decide, by decide⟩ ⟨by decide, by decide⟩ dL_hungUp_4 (fun Z hZ => ?_) (fun hok => ?_)
  · rcases hex Z hZ with rfl
    · obtain ⟨rfl, rfl⟩ := h1 hZ
      refine k_catch X ht [] (0, 9, 12, 13) [] rfl (fun _ hz => absurd hz List.not_mem_nil) (by decide) (by decide) wk_L_13 (by decide +kernel) (fun q => ?_)
      refine k_astore_n X dL_hungUp_12 rfl (by decide) rfl ?_
      refine k_iconst X 1 dL_hungUp_13 (by decide) ?_
      refine k_wide (k' := 1) (n' := 6) (by decide) (by decide) ?_
      exact k_iret dL_hungUp_14 hE rfl rfl
  obtain ⟨rfl, rfl⟩ := h0 hok
  refine k_i2l X dL_hungUp_7 ?_
  refine k_last X rfl dL_hungUp_8 ?_
  refine k_goto X (tgt := 15) dL_hungUp_9 (by decide) ?_
  refine k_iconst X 0 dL_hungUp_15 (by decide) ?_
  refine k_wide (k' := 1) (n' := 6) (by decide) (by decide) ?_
  exact k_iret dL_hungUp_16 hE rfl rfl
