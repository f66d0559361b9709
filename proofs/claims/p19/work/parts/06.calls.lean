
/-! contracts and calls -/
def rm (d c : Nat) : Room := { frames := d, cells := c, slots := 6 * c, locals := 40 * d }
def EndI (E : EE) (C : Ctx) (bs : ByteArray) (k n : Nat) (r : Int32) (μ : Mem) : Prop := ∀ (pc : Nat) (H : Heap) (locs : List Loc) (ls : Array Slot), decode bs pc = .ok (.ireturn, 1) → Wd E μ H → va_S (cA C) (cs C).heap H locs → WC E C H locs k n (F0 (cm C) pc ls [.int r])
def EndA (E : EE) (C : Ctx) (bs : ByteArray) (k n : Nat) (r : Nat) (μ : Mem) : Prop := ∀ (pc : Nat) (H : Heap) (locs : List Loc) (ls : Array Slot), decode bs pc = .ok (.areturn, 1) → Wd E μ H → va_S (cA C) (cs C).heap H locs → WC E C H locs k n (F0 (cm C) pc ls [.ref r])
def EndV (E : EE) (C : Ctx) (bs : ByteArray) (k n : Nat) (μ : Mem) : Prop := ∀ (pc : Nat) (H : Heap) (locs : List Loc) (ls : Array Slot), decode bs pc = .ok (.return_, 1) → Wd E μ H → va_S (cA C) (cs C).heap H locs → WC E C H locs k n (F0 (cm C) pc ls [])
def Qg (E : EE) (sz : Nat) (vo : Option Value) (μ' : Mem) : Array Value → State → Outcome → State → Prop := fun _ s o t => (o = .returned vo ∧ Wd E μ' t.heap) ∧ va_F (Aw E sz) s t
/-- a method that returns: with args in memory μ it answers vo, and leaves μ' -/
def MM (E : EE) (y : MethodName) (bs : ByteArray) (maxL : Nat) (ret : Option FieldType) (R : Room) (av : List Value) (μ : Mem) (vo : Option Value) (μ' : Mem) : Prop :=
  ∀ sz : Nat, Met E.1 y (Cond.code y bs maxL ret :: WALL) R (va_Pc av (WS E μ sz)) (Qg E sz vo μ') R.cells R.slots (Aw E sz)
/-- a method that returns (then ok) or throws a class X with ex X (then nothing has changed) -/
def MX (E : EE) (y : MethodName) (bs : ByteArray) (maxL : Nat) (ret : Option FieldType) (R : Room) (av : List Value) (μ : Mem) (ok : Prop) (vo : Option Value) (μ' : Mem) (ex : String → Prop) : Prop :=
  ∀ sz : Nat, vx_Met E.1 y (Cond.code y bs maxL ret :: WALL) R (va_Pc av (WS E μ sz)) (fun a s o t => ok ∧ Qg E sz vo μ' a s o t) (fun X s t => ex X ∧ Wd E μ t.heap ∧ va_F (Aw E sz) s t) R.cells R.slots (Aw E sz)
def XQ (E : EE) (C : Ctx) (R : Room) (μ : Mem) (ex : String → Prop) : Prop :=
  (∃ Qc, cQ C = vx_MQ (cb C) Qc (fun X s t => ex X ∧ Wd E μ t.heap ∧ va_F (cA C) s t) (ca C) (cs C) R.cells R.slots (cA C)) ∧ ∀ x ∈ (cc C).exceptionTable.toList, False
def LinkV (own : String) (idx : Nat) (Cn : String) (y : MethodName) (bs : ByteArray) (maxL : Nat) (ret : Option FieldType) (n : Nat) : Prop :=
  GoodIn WALL (wsV own idx Cn y (Cond.code y bs maxL ret :: WALL)) ∧ (y.cls = Cn ∧ y.cls ≠ "java/lang/invoke/MethodHandle" ∧ y.cls ≠ "java/lang/invoke/VarHandle" ∧ (parseMethodDescriptor y.desc).map (fun d => d.parameters.length) = some n)
def LinkS (own : String) (idx : Nat) (y : MethodName) (bs : ByteArray) (maxL : Nat) (ret : Option FieldType) (n : Nat) : Prop :=
  GoodIn WALL (wsS own idx y (Cond.code y bs maxL ret :: WALL)) ∧ (y.cls = own ∧ y.cls ≠ "java/lang/invoke/MethodHandle" ∧ y.cls ≠ "java/lang/invoke/VarHandle" ∧ (parseMethodDescriptor y.desc).map (fun d => d.parameters.length) = some n)
section KEND
variable {E : EE} {C : Ctx} {bs : ByteArray} {own : String} {nL k n pc : Nat} {R : Room} {μ : Mem} {L L' : List (Nat × Value)} {S : List Value}
theorem k_iret {r r' : Int32} {μ' : Mem} (d : decode bs pc = .ok (.ireturn, 1)) (h : EndI E C bs k n r' μ') (e1 : r = r') (e2 : μ = μ') : KF E C k n μ pc L [.int r] := by
  subst e1; subst e2
  exact fun H locs ls hw hs _ => h pc H locs ls d hw hs
theorem k_aret {r : Nat} {μ' : Mem} (d : decode bs pc = .ok (.areturn, 1)) (h : EndA E C bs k n r μ') (e2 : μ = μ') : KF E C k n μ pc L [.ref r] := by
  subst e2
  exact fun H locs ls hw hs _ => h pc H locs ls d hw hs
theorem k_vret {μ' : Mem} (d : decode bs pc = .ok (.return_, 1)) (h : EndV E C bs k n μ') (e2 : μ = μ') : KF E C k n μ pc L [] := by
  subst e2
  exact fun H locs ls hw hs _ => h pc H locs ls d hw hs
/-- what the callee's start asks, out of what the caller has -/
theorem Cx.ws (X : Cx E C bs own nL R) {H : Heap} {locs : List Loc} (hw : Wd E μ H) (hs : va_S (cA C) (cs C).heap H locs) {U : State} (hU : U.heap = H) (hW : (cs C).WarmedH U.vm) : WS E μ H.size U := by
  have hA : ∀ q, Aw E H.size q → cA C q := by
    rintro q (⟨k, o, ho, rfl⟩ | h)
    · exact X.2.2.2.2.2.2.2.1 k o ho
    · exact X.2.2.2.2.2.2.2.2.1 q (Nat.le_trans hs.1 h)
  refine ⟨by rw [hU], by rw [hU]; exact hw, X.2.2.2.2.2.1.warm hW, ?_, ?_⟩
  · rw [hU]; exact vx_Zq.moved hW.alike ((X.2.2.2.2.2.2.1.1.kept hs.2.1).narrow hA)
  · rw [hU]; exact vx_Zq.moved hW.alike ((X.2.2.2.2.2.2.1.2.kept hs.2.1).narrow hA)
theorem Cx.ownq (X : Cx E C bs own nL R) {H : Heap} {locs : List Loc} (hs : va_S (cA C) (cs C).heap H locs) : ∀ q, Aw E H.size q → cA C q := by
  rintro q (⟨k, o, ho, rfl⟩ | h)
  · exact X.2.2.2.2.2.2.2.1 k o ho
  · exact X.2.2.2.2.2.2.2.2.1 q (Nat.le_trans hs.1 h)
theorem Cx.recv (X : Cx E C bs own nL R) {a o N : Nat} {Cn : String} {T : u_T} {H : Heap} (hw : Wd E μ H) (hk : kt a = 0) (ho : o < vn a) (hc : vwCl[oc a]? = some (Cn, T, N)) : ∃ cell : Cell, H[ad E a o]? = some cell ∧ cell.vm.isStatics = false ∧ (cs C).vm.findClass Cn = some cell.cls := by
  have hc1 : cont E a o (μ a o) = .inr (oc a, flds E a o (μ a o)) := by unfold cont; rw [hk]; rfl
  have hP : va_P E.2.1 vwCl [(ad E a o, .inr (oc a, flds E a o (μ a o)))] H := by
    intro q e he
    match q, he with
    | 0, he => cases he; rw [← hc1]; exact hw a o ho
  exact va_recv X.2.2.2.2.2.1.1 hP hc (q0 := 0) rfl
theorem k_back {y : MethodName} {vo : Option Value} {μ' : Mem} {H : Heap} {locs : List Loc} {ls : Array Slot} {mc ms : Nat} {st0 : List Value} {a : Array Value} (X : Cx E C bs own nL R) (hs : va_S (cA C) (cs C).heap H locs) (hl : lv_has ls (cN C) L)
    (hr : va_Run (cp C) E.1 (ce C) (cR C) (cs C) (cm C) (ca C) (cb C) (cM C) (cc C) H locs k n mc ms (F0 (cm C) pc ls st0) S (Qg E H.size vo μ' a) (Aw E H.size)) (kk : KF E C (k + mc) (n + ms) μ' (pc + 3) L (vo.toList ++ S)) : WC E C H locs k n (F0 (cm C) pc ls st0) := by
  intro T hT X0
  obtain ⟨v, st₀, t, T', Lc, h0, X', hL, e1, e2, ⟨⟨hv, hw'⟩, hF⟩, stp⟩ := hr T hT X0
  obtain rfl : v = vo := by injection hv
  obtain ⟨-, -, k3⟩ := vx_keep h0 e1 hs (fun q _ h => X.ownq hs q h) (X.ownq hs) hL hF
  obtain ⟨t2, a1, b1⟩ := kk T'.heap (locs ++ Lc) ls (by rw [e1]; exact hw') k3 hl T' rfl X'
  exact ⟨t2, stp t2 a1, b1⟩
theorem k_callV (X : Cx E C bs own nL R) {a o N idx maxL n' : Nat} {Cn : String} {T : u_T} {y : MethodName} {bs' : ByteArray} {ret : Option FieldType} {R' : Room} {As : List Value} {S0 : List Value} {vo : Option Value} {μ' : Mem}
    (lk : LinkV own idx Cn y bs' maxL ret n') (hk : kt a = 0) (ho : o < vn a) (hc : vwCl[oc a]? = some (Cn, T, N)) (h : MM E y bs' maxL ret R' (.ref (ad E a o) :: As) μ vo μ') (hn : As.length = n') (hst : S0 = As.reverse ++ .ref (ad E a o) :: S) (hcat : (S.map fun v => v.category).sum ≤ 8)
    (hR : R'.frames + 1 ≤ R.frames ∧ 8 + (maxL + 11) + R'.locals ≤ R.locals) (hf : k + R'.cells ≤ R.cells ∧ n + R'.slots ≤ R.slots) (d : decode bs pc = .ok (.invokevirtual idx, 3)) (kk : KF E C (k + R'.cells) (n + R'.slots) μ' (pc + 3) L (vo.toList ++ S)) : KF E C k n μ pc L S0 := by
  intro H locs ls hw hs hl
  have hRR : cR C = R := X.2.2.2.2.2.2.2.2.2.1
  have hNN : cN C = nL := X.2.2.2.2.2.2.2.2.2.2.1
  refine k_back (y := y) (a := (Value.ref (ad E a o) :: As).toArray) X hs hl ?_ kk
  exact va_runV (As := As) (rest := S) ⟨X.1, X.2.1, X.2.2.1, X.2.2.2.1, X.2.2.2.2.1⟩ (h H.size) (cwV n' X.2.2.2.2.1 lk.1 rfl rfl rfl lk.2 (hRR ▸ hR)) ⟨WS.blind, X.recv hw hk ho hc, fun U hU hW => ⟨rfl, X.ws hw hs hU hW⟩⟩ rfl hn (hl.1.trans hNN) hst (lv_room hcat) d (hRR ▸ hf)
theorem k_callS (X : Cx E C bs own nL R) {idx maxL n' : Nat} {y : MethodName} {bs' : ByteArray} {ret : Option FieldType} {R' : Room} {As : List Value} {S0 : List Value} {vo : Option Value} {μ' : Mem}
    (lk : LinkS own idx y bs' maxL ret n') (h : MM E y bs' maxL ret R' As μ vo μ') (hn : As.length = n') (hst : S0 = As.reverse ++ S) (hcat : (S.map fun v => v.category).sum ≤ 8)
    (hR : R'.frames + 1 ≤ R.frames ∧ 8 + (maxL + 11) + R'.locals ≤ R.locals) (hf : k + R'.cells ≤ R.cells ∧ n + R'.slots ≤ R.slots) (d : decode bs pc = .ok (.invokestatic idx, 3)) (kk : KF E C (k + R'.cells) (n + R'.slots) μ' (pc + 3) L (vo.toList ++ S)) : KF E C k n μ pc L S0 := by
  intro H locs ls hw hs hl
  have hRR : cR C = R := X.2.2.2.2.2.2.2.2.2.1
  have hNN : cN C = nL := X.2.2.2.2.2.2.2.2.2.2.1
  refine k_back (y := y) (a := As.toArray) X hs hl ?_ kk
  exact va_runS (As := As) (rest := S) ⟨X.1, X.2.1, X.2.2.1, X.2.2.2.1, X.2.2.2.2.1⟩ (h H.size) (cwS n' X.2.2.2.2.1 lk.1 rfl rfl rfl lk.2 (hRR ▸ hR)) ⟨WS.blind, fun U hU hW => ⟨rfl, X.ws hw hs hU hW⟩⟩ rfl hn (hl.1.trans hNN) hst (lv_room hcat) d (hRR ▸ hf)
/-- a call that returns or throws; what is thrown goes on to the caller -/
theorem k_callVX (X : Cx E C bs own nL R) {a o N idx maxL n' : Nat} {Cn : String} {T : u_T} {y : MethodName} {bs' : ByteArray} {ret : Option FieldType} {R' : Room} {As : List Value} {S0 : List Value} {ok : Prop} {vo : Option Value} {μ' : Mem} {ex ex' : String → Prop}
    (Q : XQ E C R μ ex) (lk : LinkV own idx Cn y bs' maxL ret n') (hk : kt a = 0) (ho : o < vn a) (hc : vwCl[oc a]? = some (Cn, T, N)) (h : MX E y bs' maxL ret R' (.ref (ad E a o) :: As) μ ok vo μ' ex') (hex : ∀ Z, ex' Z → ex Z) (hn : As.length = n') (hst : S0 = As.reverse ++ .ref (ad E a o) :: S) (hcat : (S.map fun v => v.category).sum ≤ 8)
    (hR : R'.frames + 1 ≤ R.frames ∧ 8 + (maxL + 11) + R'.locals ≤ R.locals) (hf : k + R'.cells ≤ R.cells ∧ n + R'.slots ≤ R.slots) (d : decode bs pc = .ok (.invokevirtual idx, 3)) (kk : ok → KF E C (k + R'.cells) (n + R'.slots) μ' (pc + 3) L (vo.toList ++ S)) : KF E C k n μ pc L S0 := by
  intro H locs ls hw hs hl
  have hRR : cR C = R := X.2.2.2.2.2.2.2.2.2.1
  have hNN : cN C = nL := X.2.2.2.2.2.2.2.2.2.2.1
  have hr := vx_runV (As := As) (rest := S) (cells := k) (slots := n) (l := E.1) (e := ce C) (below := cb C) (meth := cM C) (locs := locs) (g := F0 (cm C) pc ls S0) ⟨X.1, X.2.1, X.2.2.1, X.2.2.2.1, X.2.2.2.2.1⟩ (h H.size) (cwV n' X.2.2.2.2.1 lk.1 rfl rfl rfl lk.2 (hRR ▸ hR)) ⟨WS.blind, X.recv hw hk ho hc, fun U hU hW => ⟨rfl, X.ws hw hs hU hW⟩⟩ rfl hn (hl.1.trans hNN) hst (lv_room hcat) d (hRR ▸ hf)
  intro T hT X0
  rcases hr T hT X0 with ⟨v, st₀, t, T', Lc, h0, X', hL, e1, e2, ⟨hok, ⟨hv, hw'⟩, hF⟩, stp⟩ | ⟨q, st₀, t, T', Lc, Z, cell, h0, X', hL, e1, e2, ⟨hx1, hx2, hF⟩, hce, hcv, hcl, stp⟩
  · obtain rfl : v = vo := by injection hv
    obtain ⟨-, -, k3⟩ := vx_keep h0 e1 hs (fun q _ h => X.ownq hs q h) (X.ownq hs) hL hF
    obtain ⟨t2, a1, b1⟩ := kk hok T'.heap (locs ++ Lc) ls (by rw [e1]; exact hw') k3 hl T' rfl X'
    exact ⟨t2, stp t2 a1, b1⟩
  · obtain ⟨-, -, k3⟩ := vx_keep h0 e1 hs (fun q _ h => X.ownq hs q h) (X.ownq hs) hL hF
    obtain ⟨⟨Qc, hQ⟩, htab⟩ := Q
    have hvx : vx_W (cp C) E.1 (ce C) (cR C) (cs C) (cm C) (ca C) (cb C) (cM C) (cc C) T'.heap (locs ++ Lc) (k + R'.cells) (n + R'.slots) (cQ C) (F0 (cm C) pc ls S) q := by
      rw [hQ]
      exact vx_out (fun x hx => (htab x hx).elim) X.2.2.2.2.2.2.2.2.2.2.2 (by rw [e1]; exact hce) hcv hcl (fun t9 h9 _ => ⟨hex _ hx1, by rw [h9, e1]; exact hx2, k3.F h9⟩) k3.2.2 hf.1 hf.2
    obtain ⟨t2, a1, b1⟩ := hvx T' rfl X'
    exact ⟨t2, stp.trans a1, b1⟩
theorem MM.int {y : MethodName} {maxL : Nat} {ty : FieldType} {av : List Value} {μ' : Mem} {r : Int32} (L0 : List (Nat × Value)) (hy : plainName y.cls = true) (how : y.cls = own) (hL0 : lv_args 0 av = L0) (hlen : (lg_sl av).length ≤ maxL) (hn : narrow ty (.int r) = .int r)
    (body : ∀ C : Ctx, Cx E C bs own maxL R → EndI E C bs R.cells R.slots r μ' → KF E C 0 0 μ 0 L0 []) : MM E y bs maxL (some ty) R av μ (some (.int r)) μ' := by
  intro sz
  refine Met.ofW (cc := bs) (maxL := maxL) (ret := some ty) hy rfl ?_
  intro p e s m av2 below meth c s₁ B hml hv
  obtain ⟨rfl, hsz, hw, hx, hz⟩ := hv
  have hts := atoms_spec (ws := Cond.code y bs maxL (some ty) :: WALL) B.pre
  have hown : s.vm.findClass own = some m.cls := how ▸ findClass_of_methodNamed B.named
  subst hsz
  have K := body (p, e, R, s, m, av.toArray, below, meth, c, MQ below (Qg E s.heap.size (some (.int r)) μ') av.toArray s R.cells R.slots (Aw E s.heap.size), Aw E s.heap.size, maxL)
    ⟨B.exec, B.bytes, hml, hown, fun w hw => hts w (List.mem_cons_of_mem _ hw), hx, hz, fun k o h => Or.inl ⟨k, o, h, rfl⟩, fun q h => Or.inr h, rfl, rfl, B.notSynchronized⟩
    (fun pc H locs ls d hw hs => W.zret B.exec B.bytes B.returns hn (fun t ht hW => ⟨⟨rfl, by rw [ht]; exact hw⟩, hs.F ht⟩) hs.2.2 d B.notSynchronized)
  rw [lg_entry_eq]
  exact K s.heap [] _ hw va_S.rf (hL0 ▸ lv_entry av hlen)
theorem MM.void {y : MethodName} {maxL : Nat} {av : List Value} {μ' : Mem} (L0 : List (Nat × Value)) (hy : plainName y.cls = true) (how : y.cls = own) (hL0 : lv_args 0 av = L0) (hlen : (lg_sl av).length ≤ maxL)
    (body : ∀ C : Ctx, Cx E C bs own maxL R → EndV E C bs R.cells R.slots μ' → KF E C 0 0 μ 0 L0 []) : MM E y bs maxL none R av μ none μ' := by
  intro sz
  refine Met.ofW (cc := bs) (maxL := maxL) (ret := none) hy rfl ?_
  intro p e s m av2 below meth c s₁ B hml hv
  obtain ⟨rfl, hsz, hw, hx, hz⟩ := hv
  have hts := atoms_spec (ws := Cond.code y bs maxL none :: WALL) B.pre
  have hown : s.vm.findClass own = some m.cls := how ▸ findClass_of_methodNamed B.named
  subst hsz
  have K := body (p, e, R, s, m, av.toArray, below, meth, c, MQ below (Qg E s.heap.size none μ') av.toArray s R.cells R.slots (Aw E s.heap.size), Aw E s.heap.size, maxL)
    ⟨B.exec, B.bytes, hml, hown, fun w hw => hts w (List.mem_cons_of_mem _ hw), hx, hz, fun k o h => Or.inl ⟨k, o, h, rfl⟩, fun q h => Or.inr h, rfl, rfl, B.notSynchronized⟩
    (fun pc H locs ls d hw hs => W.vret B.exec B.bytes B.returns (fun t ht hW => ⟨⟨rfl, by rw [ht]; exact hw⟩, hs.F ht⟩) hs.2.2 d B.notSynchronized)
  rw [lg_entry_eq]
  exact K s.heap [] _ hw va_S.rf (hL0 ▸ lv_entry av hlen)
theorem MM.ref {y : MethodName} {maxL : Nat} {nm : String} {av : List Value} {μ' : Mem} {r : Nat} (L0 : List (Nat × Value)) (hy : plainName y.cls = true) (how : y.cls = own) (hL0 : lv_args 0 av = L0) (hlen : (lg_sl av).length ≤ maxL)
    (body : ∀ C : Ctx, Cx E C bs own maxL R → EndA E C bs R.cells R.slots r μ' → KF E C 0 0 μ 0 L0 []) : MM E y bs maxL (some (.object nm)) R av μ (some (.ref r)) μ' := by
  intro sz
  refine Met.ofW (cc := bs) (maxL := maxL) (ret := some (.object nm)) hy rfl ?_
  intro p e s m av2 below meth c s₁ B hml hv
  obtain ⟨rfl, hsz, hw, hx, hz⟩ := hv
  have hts := atoms_spec (ws := Cond.code y bs maxL (some (.object nm)) :: WALL) B.pre
  have hown : s.vm.findClass own = some m.cls := how ▸ findClass_of_methodNamed B.named
  subst hsz
  have K := body (p, e, R, s, m, av.toArray, below, meth, c, MQ below (Qg E s.heap.size (some (.ref r)) μ') av.toArray s R.cells R.slots (Aw E s.heap.size), Aw E s.heap.size, maxL)
    ⟨B.exec, B.bytes, hml, hown, fun w hw => hts w (List.mem_cons_of_mem _ hw), hx, hz, fun k o h => Or.inl ⟨k, o, h, rfl⟩, fun q h => Or.inr h, rfl, rfl, B.notSynchronized⟩
    (fun pc H locs ls d hw hs => W.aret B.exec B.bytes B.returns (Or.inl ⟨_, rfl⟩) (Or.inr ⟨_, rfl⟩) (fun t ht hW => ⟨⟨rfl, by rw [ht]; exact hw⟩, hs.F ht⟩) hs.2.2 d B.notSynchronized)
  rw [lg_entry_eq]
  exact K s.heap [] _ hw va_S.rf (hL0 ▸ lv_entry av hlen)
theorem k_mmin (X : Cx E C bs own nL R) {idx : Nat} {x y : Int32} (hm : Cond.methodLink own idx Lib.Math.min.name ∈ WALL) (d : decode bs pc = .ok (.invokestatic idx, 3)) (hR : 1 ≤ R.frames ∧ (S.map fun v => v.category).sum + 13 ≤ R.locals ∧ k ≤ R.cells ∧ n ≤ R.slots) (kk : KF E C k n μ (pc + 3) L (.int (if y < x then y else x) :: S)) : KF E C k n μ pc L (.int y :: .int x :: S) := by
  intro H locs ls hw hs hl
  have hRR : cR C = R := X.2.2.2.2.2.2.2.2.2.1
  exact va_mmin X.1 X.2.1 ((X.2.2.1.trans X.2.2.2.2.2.2.2.2.2.2.1.symm).trans hl.1.symm) X.2.2.2.1 (X.2.2.2.2.1 _ hm) (X.2.2.2.2.1 _ wt_min) (X.2.2.2.2.1 _ wn_Math) (X.2.2.2.2.1 _ wc_min) (by rw [hRR]; exact hR.1) (by rw [hRR]; exact hR.2.1) (by rw [hRR]; exact hR.2.2.1) (by rw [hRR]; exact hR.2.2.2) d (kk H locs ls hw hs hl)
theorem k_mmax (X : Cx E C bs own nL R) {idx : Nat} {x y : Int32} (hm : Cond.methodLink own idx Lib.Math.max.name ∈ WALL) (d : decode bs pc = .ok (.invokestatic idx, 3)) (hR : 1 ≤ R.frames ∧ (S.map fun v => v.category).sum + 13 ≤ R.locals ∧ k ≤ R.cells ∧ n ≤ R.slots) (kk : KF E C k n μ (pc + 3) L (.int (if x < y then y else x) :: S)) : KF E C k n μ pc L (.int y :: .int x :: S) := by
  intro H locs ls hw hs hl
  have hRR : cR C = R := X.2.2.2.2.2.2.2.2.2.1
  exact va_mmax X.1 X.2.1 ((X.2.2.1.trans X.2.2.2.2.2.2.2.2.2.2.1.symm).trans hl.1.symm) X.2.2.2.1 (X.2.2.2.2.1 _ hm) (X.2.2.2.2.1 _ wt_max) (X.2.2.2.2.1 _ wn_Math) (X.2.2.2.2.1 _ wc_max) (by rw [hRR]; exact hR.1) (by rw [hRR]; exact hR.2.1) (by rw [hRR]; exact hR.2.2.1) (by rw [hRR]; exact hR.2.2.2) d (kk H locs ls hw hs hl)
end KEND

theorem lk_L_30 : LinkV RL 30 RX2 yX2_bindings cX2_bindings 2 (some .int) 1 := ⟨GV wm_L_30 wi_X2_bindings ws_X2_bindings wn_X2 wc_X2_bindings, by decide +kernel⟩
theorem lk_X2_40 : LinkV RX2 40 RX2 yX2_rowOf cX2_rowOf 2 (some (.object "CallForker$BindingRow")) 1 := ⟨GV wm_X2_40 wi_X2_rowOf ws_X2_rowOf wn_X2 wc_X2_rowOf, by decide +kernel⟩
theorem lk_X2_44 : LinkS RX2 44 yX2_isOutside cX2_isOutside 2 (some .boolean) 2 := ⟨GS wm_X2_44 wt_X2_isOutside wn_X2 wc_X2_isOutside, by decide +kernel⟩
theorem lk_X2_75 : LinkV RX2 75 RX0 yX0_count cX0_count 2 (some .int) 1 := ⟨GV wm_X2_75 wi_X0_count ws_X0_count wn_X0 wc_X0_count, by decide +kernel⟩
theorem lk_X0_28 : LinkV RX0 28 RX0 yX0_countOthers cX0_countOthers 5 (some .int) 2 := ⟨GV wm_X0_28 wi_X0_countOthers ws_X0_countOthers wn_X0 wc_X0_countOthers, by decide +kernel⟩
theorem lk_X0_32 : LinkV RX0 32 RX0 yX0_isThere cX0_isThere 3 (some .boolean) 2 := ⟨GV wm_X0_32 wi_X0_isThere ws_X0_isThere wn_X0 wc_X0_isThere, by decide +kernel⟩
theorem lk_L_85 : LinkV RL 85 RX2 yX2_time cX2_time 1 (some .int) 0 := ⟨GV wm_L_85 wi_X2_time ws_X2_time wn_X2 wc_X2_time, by decide +kernel⟩
theorem lk_L_47 : LinkV RL 47 RX2 yX2_calls cX2_calls 1 (some .int) 0 := ⟨GV wm_L_47 wi_X2_calls ws_X2_calls wn_X2 wc_X2_calls, by decide +kernel⟩
theorem lk_L_79 : LinkV RL 79 RX2 yX2_hungUp cX2_hungUp 2 (some .int) 1 := ⟨GV wm_L_79 wi_X2_hungUp ws_X2_hungUp wn_X2 wc_X2_hungUp, by decide +kernel⟩
theorem lk_L_89 : LinkS RL 89 yL_draw cL_draw 2 (some .int) 2 := ⟨GS wm_L_89 wt_L_draw wn_L wc_L_draw, by decide +kernel⟩
theorem lk_L_93 : LinkS RL 93 yL_step cL_step 7 (some .boolean) 5 := ⟨GS wm_L_93 wt_L_step wn_L wc_L_step, by decide +kernel⟩
theorem lk_L_10 : LinkS RL 10 yL_registers cL_registers 10 (some .boolean) 6 := ⟨GS wm_L_10 wt_L_registers wn_L wc_L_registers, by decide +kernel⟩
theorem lk_L_36 : LinkV RL 36 RX2 yX2_binding cX2_binding 5 (some .int) 2 := ⟨GV wm_L_36 wi_X2_binding ws_X2_binding wn_X2 wc_X2_binding, by decide +kernel⟩
theorem lk_X2_79 : LinkV RX2 79 RX0 yX0_targetAt cX0_targetAt 6 (some .int) 2 := ⟨GV wm_X2_79 wi_X0_targetAt ws_X0_targetAt wn_X0 wc_X0_targetAt, by decide +kernel⟩
theorem lk_L_40 : LinkV RL 40 RX2 yX2_register cX2_register 7 (some .int) 5 := ⟨GV wm_L_40 wi_X2_register ws_X2_register wn_X2 wc_X2_register, by decide +kernel⟩
theorem lk_X2_65 : LinkV RX2 65 RX0 yX0_countOthers cX0_countOthers 5 (some .int) 2 := ⟨GV wm_X2_65 wi_X0_countOthers ws_X0_countOthers wn_X0 wc_X0_countOthers, by decide +kernel⟩
theorem lk_X2_71 : LinkV RX2 71 RX0 yX0_put cX0_put 5 none 4 := ⟨GV wm_X2_71 wi_X0_put ws_X0_put wn_X0 wc_X0_put, by decide +kernel⟩
theorem lk_L_16 : LinkS RL 16 yL_calls cL_calls 10 (some .boolean) 3 := ⟨GS wm_L_16 wt_L_calls wn_L wc_L_calls, by decide +kernel⟩
theorem lk_L_44 : LinkV RL 44 RX2 yX2_call cX2_call 3 (some .int) 1 := ⟨GV wm_L_44 wi_X2_call ws_X2_call wn_X2 wc_X2_call, by decide +kernel⟩
theorem lk_X2_94 : LinkV RX2 94 RX2 yX2_followUser cX2_followUser 9 none 4 := ⟨GV wm_X2_94 wi_X2_followUser ws_X2_followUser wn_X2 wc_X2_followUser, by decide +kernel⟩
theorem lk_X2_186 : LinkV RX2 186 RX0 yX0_isThere cX0_isThere 3 (some .boolean) 2 := ⟨GV wm_X2_186 wi_X0_isThere ws_X0_isThere wn_X0 wc_X0_isThere, by decide +kernel⟩
theorem lk_X2_189 : LinkV RX2 189 RX1 yX1_addDevice cX1_addDevice 3 none 2 := ⟨GV wm_X2_189 wi_X1_addDevice ws_X1_addDevice wn_X1 wc_X1_addDevice, by decide +kernel⟩
theorem lk_X1_45 : LinkV RX1 45 RX1 yX1_branchOf cX1_branchOf 3 (some .int) 1 := ⟨GV wm_X1_45 wi_X1_branchOf ws_X1_branchOf wn_X1 wc_X1_branchOf, by decide +kernel⟩
theorem lk_X1_49 : LinkV RX1 49 RX1 yX1_add cX1_add 4 none 3 := ⟨GV wm_X1_49 wi_X1_add ws_X1_add wn_X1 wc_X1_add, by decide +kernel⟩
theorem lk_X2_193 : LinkV RX2 193 RX2 yX2_comeToUser cX2_comeToUser 5 none 4 := ⟨GV wm_X2_193 wi_X2_comeToUser ws_X2_comeToUser wn_X2 wc_X2_comeToUser, by decide +kernel⟩
theorem lk_X2_196 : LinkV RX2 196 RX2 yX2_isOnWay cX2_isOnWay 4 (some .boolean) 2 := ⟨GV wm_X2_196 wi_X2_isOnWay ws_X2_isOnWay wn_X2 wc_X2_isOnWay, by decide +kernel⟩
theorem lk_X2_199 : LinkV RX2 199 RX1 yX1_addEnded cX1_addEnded 3 none 2 := ⟨GV wm_X2_199 wi_X1_addEnded ws_X1_addEnded wn_X1 wc_X1_addEnded, by decide +kernel⟩
theorem lk_X2_98 : LinkV RX2 98 RX1 yX1_begin cX1_begin 2 none 1 := ⟨GV wm_X2_98 wi_X1_begin ws_X1_begin wn_X1 wc_X1_begin, by decide +kernel⟩
theorem lk_X1_53 : LinkV RX1 53 RX1 yX1_goOn cX1_goOn 3 none 1 := ⟨GV wm_X1_53 wi_X1_goOn ws_X1_goOn wn_X1 wc_X1_goOn, by decide +kernel⟩
theorem lk_X1_57 : LinkV RX1 57 RX1 yX1_isWaiting cX1_isWaiting 2 (some .boolean) 0 := ⟨GV wm_X1_57 wi_X1_isWaiting ws_X1_isWaiting wn_X1 wc_X1_isWaiting, by decide +kernel⟩
theorem lk_X1_69 : LinkV RX1 69 RX1 yX1_isStarted cX1_isStarted 2 (some .boolean) 1 := ⟨GV wm_X1_69 wi_X1_isStarted ws_X1_isStarted wn_X1 wc_X1_isStarted, by decide +kernel⟩
theorem lk_X1_73 : LinkV RX1 73 RX1 yX1_isEnded cX1_isEnded 2 (some .boolean) 1 := ⟨GV wm_X1_73 wi_X1_isEnded ws_X1_isEnded wn_X1 wc_X1_isEnded, by decide +kernel⟩
theorem lk_X1_61 : LinkV RX1 61 RX1 yX1_startGroup cX1_startGroup 4 none 2 := ⟨GV wm_X1_61 wi_X1_startGroup ws_X1_startGroup wn_X1 wc_X1_startGroup, by decide +kernel⟩
theorem lk_X1_65 : LinkV RX1 65 RX1 yX1_bestEnd cX1_bestEnd 5 (some .int) 0 := ⟨GV wm_X1_65 wi_X1_bestEnd ws_X1_bestEnd wn_X1 wc_X1_bestEnd, by decide +kernel⟩
theorem lk_L_50 : LinkV RL 50 RX2 yX2_answered cX2_answered 2 (some .int) 1 := ⟨GV wm_L_50 wi_X2_answered ws_X2_answered wn_X2 wc_X2_answered, by decide +kernel⟩
theorem lk_X2_102 : LinkV RX2 102 RX2 yX2_callAt cX2_callAt 2 (some (.object "CallForker$Call")) 1 := ⟨GV wm_X2_102 wi_X2_callAt ws_X2_callAt wn_X2 wc_X2_callAt, by decide +kernel⟩
theorem lk_L_53 : LinkV RL 53 RX2 yX2_branches cX2_branches 2 (some .int) 1 := ⟨GV wm_L_53 wi_X2_branches ws_X2_branches wn_X2 wc_X2_branches, by decide +kernel⟩
theorem lk_L_56 : LinkV RL 56 RX2 yX2_finalOf cX2_finalOf 2 (some .int) 1 := ⟨GV wm_L_56 wi_X2_finalOf ws_X2_finalOf wn_X2 wc_X2_finalOf, by decide +kernel⟩
theorem lk_L_59 : LinkV RL 59 RX2 yX2_device cX2_device 3 (some .int) 2 := ⟨GV wm_L_59 wi_X2_device ws_X2_device wn_X2 wc_X2_device, by decide +kernel⟩
theorem lk_X2_161 : LinkV RX2 161 RX2 yX2_callWith cX2_callWith 4 (some (.object "CallForker$Call")) 2 := ⟨GV wm_X2_161 wi_X2_callWith ws_X2_callWith wn_X2 wc_X2_callWith, by decide +kernel⟩
theorem lk_L_62 : LinkV RL 62 RX2 yX2_state cX2_state 3 (some .int) 2 := ⟨GV wm_L_62 wi_X2_state ws_X2_state wn_X2 wc_X2_state, by decide +kernel⟩
theorem lk_L_20 : LinkS RL 20 yL_answers cL_answers 16 (some .boolean) 5 := ⟨GS wm_L_20 wt_L_answers wn_L wc_L_answers, by decide +kernel⟩
theorem lk_L_65 : LinkV RL 65 RX2 yX2_answer cX2_answer 6 (some .int) 3 := ⟨GV wm_L_65 wi_X2_answer ws_X2_answer wn_X2 wc_X2_answer, by decide +kernel⟩
theorem lk_X2_106 : LinkS RX2 106 yX2_isNoAnswer cX2_isNoAnswer 1 (some .boolean) 1 := ⟨GS wm_X2_106 wt_X2_isNoAnswer wn_X2 wc_X2_isNoAnswer, by decide +kernel⟩
theorem lk_X2_112 : LinkV RX2 112 RX1 yX1_branchOf cX1_branchOf 3 (some .int) 1 := ⟨GV wm_X2_112 wi_X1_branchOf ws_X1_branchOf wn_X1 wc_X1_branchOf, by decide +kernel⟩
theorem lk_X2_117 : LinkV RX2 117 RX1 yX1_isStarted cX1_isStarted 2 (some .boolean) 1 := ⟨GV wm_X2_117 wi_X1_isStarted ws_X1_isStarted wn_X1 wc_X1_isStarted, by decide +kernel⟩
theorem lk_X2_122 : LinkV RX2 122 RX1 yX1_isEnded cX1_isEnded 2 (some .boolean) 1 := ⟨GV wm_X2_122 wi_X1_isEnded ws_X1_isEnded wn_X1 wc_X1_isEnded, by decide +kernel⟩
theorem lk_X2_125 : LinkV RX2 125 RX1 yX1_takeAnswer cX1_takeAnswer 4 none 3 := ⟨GV wm_X2_125 wi_X1_takeAnswer ws_X1_takeAnswer wn_X1 wc_X1_takeAnswer, by decide +kernel⟩
theorem lk_X1_76 : LinkV RX1 76 RX1 yX1_endOpen cX1_endOpen 3 (some .int) 0 := ⟨GV wm_X1_76 wi_X1_endOpen ws_X1_endOpen wn_X1 wc_X1_endOpen, by decide +kernel⟩
theorem lk_X2_129 : LinkV RX2 129 RX1 yX1_isTooMuch cX1_isTooMuch 5 (some .boolean) 2 := ⟨GV wm_X2_129 wi_X1_isTooMuch ws_X1_isTooMuch wn_X1 wc_X1_isTooMuch, by decide +kernel⟩
theorem lk_L_69 : LinkS RL 69 yL_branchOf cL_branchOf 5 (some .int) 3 := ⟨GS wm_L_69 wt_L_branchOf wn_L wc_L_branchOf, by decide +kernel⟩
theorem lk_L_24 : LinkS RL 24 yL_cancels cL_cancels 7 (some .boolean) 3 := ⟨GS wm_L_24 wt_L_cancels wn_L wc_L_cancels, by decide +kernel⟩
theorem lk_L_73 : LinkV RL 73 RX2 yX2_finalBySorting cX2_finalBySorting 3 (some .int) 1 := ⟨GV wm_L_73 wi_X2_finalBySorting ws_X2_finalBySorting wn_X2 wc_X2_finalBySorting, by decide +kernel⟩
theorem lk_X2_154 : LinkV RX2 154 RX1 yX1_finalFromSorted cX1_finalFromSorted 3 (some .int) 1 := ⟨GV wm_X2_154 wi_X1_finalFromSorted ws_X1_finalFromSorted wn_X1 wc_X1_finalFromSorted, by decide +kernel⟩
theorem lk_X1_88 : LinkV RX1 88 RX1 yX1_sortEnds cX1_sortEnds 4 (some .int) 1 := ⟨GV wm_X1_88 wi_X1_sortEnds ws_X1_sortEnds wn_X1 wc_X1_sortEnds, by decide +kernel⟩
theorem lk_X1_92 : LinkS RX1 92 yX1_insert cX1_insert 4 none 3 := ⟨GS wm_X1_92 wt_X1_insert wn_X1 wc_X1_insert, by decide +kernel⟩
theorem lk_L_76 : LinkV RL 76 RX2 yX2_cancel cX2_cancel 3 (some .int) 1 := ⟨GV wm_L_76 wi_X2_cancel ws_X2_cancel wn_X2 wc_X2_cancel, by decide +kernel⟩
theorem lk_X2_143 : LinkV RX2 143 RX1 yX1_cancelAll cX1_cancelAll 2 (some .int) 0 := ⟨GV wm_X2_143 wi_X1_cancelAll ws_X1_cancelAll wn_X1 wc_X1_cancelAll, by decide +kernel⟩
theorem lk_L_27 : LinkS RL 27 yL_passes cL_passes 8 (some .boolean) 3 := ⟨GS wm_L_27 wt_L_passes wn_L wc_L_passes, by decide +kernel⟩
theorem lk_L_82 : LinkV RL 82 RX2 yX2_pass cX2_pass 4 (some .int) 1 := ⟨GV wm_L_82 wi_X2_pass ws_X2_pass wn_X2 wc_X2_pass, by decide +kernel⟩
theorem lk_X2_149 : LinkV RX2 149 RX2 yX2_lookAtCalls cX2_lookAtCalls 3 (some .int) 0 := ⟨GV wm_X2_149 wi_X2_lookAtCalls ws_X2_lookAtCalls wn_X2 wc_X2_lookAtCalls, by decide +kernel⟩
theorem lk_X2_202 : LinkV RX2 202 RX1 yX1_endsWithTick cX1_endsWithTick 3 (some .boolean) 1 := ⟨GV wm_X2_202 wi_X1_endsWithTick ws_X1_endsWithTick wn_X1 wc_X1_endsWithTick, by decide +kernel⟩
theorem lk_L_96 : LinkS RL 96 yL_isCall cL_isCall 9 (some .boolean) 3 := ⟨GS wm_L_96 wt_L_isCall wn_L wc_L_isCall, by decide +kernel⟩
theorem gt_X0_9 {E : EE} {C : Ctx} {bs : ByteArray} {nL k n pc : Nat} {R : Room} {μ : Mem} {L : List (Nat × Value)} {S : List Value} (X : Cx E C bs RX0 nL R) {o : Nat} (ho : o < 6) (d : decode bs pc = .ok (.getfield 9, 3)) (kk : KF E C k n μ (pc + 3) L (.ref (ad E 7 o) :: S)) : KF E C k n μ pc L (.ref (ad E 6 o) :: S) := k_getf (a := 6) (fi := 0) (Cn := RX0) (T := TX0) (N := 5) (ref := "CallForker$BindingRow") X rfl ho rfl rfl wu_X0 (by decide) rfl wf_X0_9 d kk
theorem gt_X0_15 {E : EE} {C : Ctx} {bs : ByteArray} {nL k n pc : Nat} {R : Room} {μ : Mem} {L : List (Nat × Value)} {S : List Value} (X : Cx E C bs RX0 nL R) {o : Nat} (ho : o < 6) (d : decode bs pc = .ok (.getfield 15, 3)) (kk : KF E C k n μ (pc + 3) L (.ref (ad E 8 o) :: S)) : KF E C k n μ pc L (.ref (ad E 6 o) :: S) := k_getf (a := 6) (fi := 1) (Cn := RX0) (T := TX0) (N := 5) (ref := "CallForker$BindingRow") X rfl ho rfl rfl wu_X0 (by decide) rfl wf_X0_15 d kk
theorem gt_X0_18 {E : EE} {C : Ctx} {bs : ByteArray} {nL k n pc : Nat} {R : Room} {μ : Mem} {L : List (Nat × Value)} {S : List Value} (X : Cx E C bs RX0 nL R) {o : Nat} (ho : o < 6) (d : decode bs pc = .ok (.getfield 18, 3)) (kk : KF E C k n μ (pc + 3) L (.ref (ad E 9 o) :: S)) : KF E C k n μ pc L (.ref (ad E 6 o) :: S) := k_getf (a := 6) (fi := 2) (Cn := RX0) (T := TX0) (N := 5) (ref := "CallForker$BindingRow") X rfl ho rfl rfl wu_X0 (by decide) rfl wf_X0_18 d kk
theorem gt_X0_21 {E : EE} {C : Ctx} {bs : ByteArray} {nL k n pc : Nat} {R : Room} {μ : Mem} {L : List (Nat × Value)} {S : List Value} (X : Cx E C bs RX0 nL R) {o : Nat} (ho : o < 6) (d : decode bs pc = .ok (.getfield 21, 3)) (kk : KF E C k n μ (pc + 3) L (.ref (ad E 10 o) :: S)) : KF E C k n μ pc L (.ref (ad E 6 o) :: S) := k_getf (a := 6) (fi := 3) (Cn := RX0) (T := TX0) (N := 5) (ref := "CallForker$BindingRow") X rfl ho rfl rfl wu_X0 (by decide) rfl wf_X0_21 d kk
theorem gt_X0_24 {E : EE} {C : Ctx} {bs : ByteArray} {nL k n pc : Nat} {R : Room} {μ : Mem} {L : List (Nat × Value)} {S : List Value} (X : Cx E C bs RX0 nL R) {o : Nat} (ho : o < 6) (d : decode bs pc = .ok (.getfield 24, 3)) (kk : KF E C k n μ (pc + 3) L (.int (μ 6 o 4) :: S)) : KF E C k n μ pc L (.ref (ad E 6 o) :: S) := k_getf (a := 6) (fi := 4) (Cn := RX0) (T := TX0) (N := 5) (ref := "CallForker$BindingRow") X rfl ho rfl rfl wu_X0 (by decide) rfl wf_X0_24 d kk
theorem pt_X0_24 {E : EE} {C : Ctx} {bs : ByteArray} {nL k n pc : Nat} {R : Room} {μ : Mem} {L : List (Nat × Value)} {S : List Value} (X : Cx E C bs RX0 nL R) {o : Nat} (ho : o < 6) {y : Int32} (d : decode bs pc = .ok (.putfield 24, 3)) (kk : KF E C k n (st μ 6 o 4 y) (pc + 3) L S) : KF E C k n μ pc L (.int y :: .ref (ad E 6 o) :: S) := k_putf (a := 6) (fi := 4) (Cn := RX0) (T := TX0) (N := 5) (ref := "CallForker$BindingRow") (ty := .int) X tyX0 rfl ho (by simp [flds, st, List.set]) (by simp [flds]) rfl tyX0_ok nmX0 wu_X0 (by decide) rfl wf_X0_24 rfl (by decide +kernel) rfl rfl d kk
theorem gt_X1_9 {E : EE} {C : Ctx} {bs : ByteArray} {nL k n pc : Nat} {R : Room} {μ : Mem} {L : List (Nat × Value)} {S : List Value} (X : Cx E C bs RX1 nL R) {o : Nat} (ho : o < 20) (d : decode bs pc = .ok (.getfield 9, 3)) (kk : KF E C k n μ (pc + 3) L (.ref (ad E 12 o) :: S)) : KF E C k n μ pc L (.ref (ad E 11 o) :: S) := k_getf (a := 11) (fi := 0) (Cn := RX1) (T := TX1) (N := 10) (ref := "CallForker$Call") X rfl ho rfl rfl wu_X1 (by decide) rfl wf_X1_9 d kk
theorem gt_X1_15 {E : EE} {C : Ctx} {bs : ByteArray} {nL k n pc : Nat} {R : Room} {μ : Mem} {L : List (Nat × Value)} {S : List Value} (X : Cx E C bs RX1 nL R) {o : Nat} (ho : o < 20) (d : decode bs pc = .ok (.getfield 15, 3)) (kk : KF E C k n μ (pc + 3) L (.ref (ad E 13 o) :: S)) : KF E C k n μ pc L (.ref (ad E 11 o) :: S) := k_getf (a := 11) (fi := 1) (Cn := RX1) (T := TX1) (N := 10) (ref := "CallForker$Call") X rfl ho rfl rfl wu_X1 (by decide) rfl wf_X1_15 d kk
theorem gt_X1_18 {E : EE} {C : Ctx} {bs : ByteArray} {nL k n pc : Nat} {R : Room} {μ : Mem} {L : List (Nat × Value)} {S : List Value} (X : Cx E C bs RX1 nL R) {o : Nat} (ho : o < 20) (d : decode bs pc = .ok (.getfield 18, 3)) (kk : KF E C k n μ (pc + 3) L (.ref (ad E 14 o) :: S)) : KF E C k n μ pc L (.ref (ad E 11 o) :: S) := k_getf (a := 11) (fi := 2) (Cn := RX1) (T := TX1) (N := 10) (ref := "CallForker$Call") X rfl ho rfl rfl wu_X1 (by decide) rfl wf_X1_18 d kk
theorem gt_X1_21 {E : EE} {C : Ctx} {bs : ByteArray} {nL k n pc : Nat} {R : Room} {μ : Mem} {L : List (Nat × Value)} {S : List Value} (X : Cx E C bs RX1 nL R) {o : Nat} (ho : o < 20) (d : decode bs pc = .ok (.getfield 21, 3)) (kk : KF E C k n μ (pc + 3) L (.ref (ad E 15 o) :: S)) : KF E C k n μ pc L (.ref (ad E 11 o) :: S) := k_getf (a := 11) (fi := 3) (Cn := RX1) (T := TX1) (N := 10) (ref := "CallForker$Call") X rfl ho rfl rfl wu_X1 (by decide) rfl wf_X1_21 d kk
theorem gt_X1_25 {E : EE} {C : Ctx} {bs : ByteArray} {nL k n pc : Nat} {R : Room} {μ : Mem} {L : List (Nat × Value)} {S : List Value} (X : Cx E C bs RX1 nL R) {o : Nat} (ho : o < 20) (d : decode bs pc = .ok (.getfield 25, 3)) (kk : KF E C k n μ (pc + 3) L (.int (μ 11 o 4) :: S)) : KF E C k n μ pc L (.ref (ad E 11 o) :: S) := k_getf (a := 11) (fi := 4) (Cn := RX1) (T := TX1) (N := 10) (ref := "CallForker$Call") X rfl ho rfl rfl wu_X1 (by decide) rfl wf_X1_25 d kk
theorem pt_X1_25 {E : EE} {C : Ctx} {bs : ByteArray} {nL k n pc : Nat} {R : Room} {μ : Mem} {L : List (Nat × Value)} {S : List Value} (X : Cx E C bs RX1 nL R) {o : Nat} (ho : o < 20) {y : Int32} (d : decode bs pc = .ok (.putfield 25, 3)) (kk : KF E C k n (st μ 11 o 4 y) (pc + 3) L S) : KF E C k n μ pc L (.int y :: .ref (ad E 11 o) :: S) := k_putf (a := 11) (fi := 4) (Cn := RX1) (T := TX1) (N := 10) (ref := "CallForker$Call") (ty := .int) X tyX1 rfl ho (by simp [flds, st, List.set]) (by simp [flds]) rfl tyX1_ok nmX1 wu_X1 (by decide) rfl wf_X1_25 rfl (by decide +kernel) rfl rfl d kk
theorem gt_X1_29 {E : EE} {C : Ctx} {bs : ByteArray} {nL k n pc : Nat} {R : Room} {μ : Mem} {L : List (Nat × Value)} {S : List Value} (X : Cx E C bs RX1 nL R) {o : Nat} (ho : o < 20) (d : decode bs pc = .ok (.getfield 29, 3)) (kk : KF E C k n μ (pc + 3) L (.int (μ 11 o 5) :: S)) : KF E C k n μ pc L (.ref (ad E 11 o) :: S) := k_getf (a := 11) (fi := 5) (Cn := RX1) (T := TX1) (N := 10) (ref := "CallForker$Call") X rfl ho rfl rfl wu_X1 (by decide) rfl wf_X1_29 d kk
theorem pt_X1_29 {E : EE} {C : Ctx} {bs : ByteArray} {nL k n pc : Nat} {R : Room} {μ : Mem} {L : List (Nat × Value)} {S : List Value} (X : Cx E C bs RX1 nL R) {o : Nat} (ho : o < 20) {y : Int32} (d : decode bs pc = .ok (.putfield 29, 3)) (kk : KF E C k n (st μ 11 o 5 y) (pc + 3) L S) : KF E C k n μ pc L (.int y :: .ref (ad E 11 o) :: S) := k_putf (a := 11) (fi := 5) (Cn := RX1) (T := TX1) (N := 10) (ref := "CallForker$Call") (ty := .int) X tyX1 rfl ho (by simp [flds, st, List.set]) (by simp [flds]) rfl tyX1_ok nmX1 wu_X1 (by decide) rfl wf_X1_29 rfl (by decide +kernel) rfl rfl d kk
theorem gt_X1_32 {E : EE} {C : Ctx} {bs : ByteArray} {nL k n pc : Nat} {R : Room} {μ : Mem} {L : List (Nat × Value)} {S : List Value} (X : Cx E C bs RX1 nL R) {o : Nat} (ho : o < 20) (d : decode bs pc = .ok (.getfield 32, 3)) (kk : KF E C k n μ (pc + 3) L (.int (μ 11 o 6) :: S)) : KF E C k n μ pc L (.ref (ad E 11 o) :: S) := k_getf (a := 11) (fi := 6) (Cn := RX1) (T := TX1) (N := 10) (ref := "CallForker$Call") X rfl ho rfl rfl wu_X1 (by decide) rfl wf_X1_32 d kk
theorem pt_X1_32 {E : EE} {C : Ctx} {bs : ByteArray} {nL k n pc : Nat} {R : Room} {μ : Mem} {L : List (Nat × Value)} {S : List Value} (X : Cx E C bs RX1 nL R) {o : Nat} (ho : o < 20) {y : Int32} (d : decode bs pc = .ok (.putfield 32, 3)) (kk : KF E C k n (st μ 11 o 6 y) (pc + 3) L S) : KF E C k n μ pc L (.int y :: .ref (ad E 11 o) :: S) := k_putf (a := 11) (fi := 6) (Cn := RX1) (T := TX1) (N := 10) (ref := "CallForker$Call") (ty := .int) X tyX1 rfl ho (by simp [flds, st, List.set]) (by simp [flds]) rfl tyX1_ok nmX1 wu_X1 (by decide) rfl wf_X1_32 rfl (by decide +kernel) rfl rfl d kk
theorem gt_X1_35 {E : EE} {C : Ctx} {bs : ByteArray} {nL k n pc : Nat} {R : Room} {μ : Mem} {L : List (Nat × Value)} {S : List Value} (X : Cx E C bs RX1 nL R) {o : Nat} (ho : o < 20) (d : decode bs pc = .ok (.getfield 35, 3)) (kk : KF E C k n μ (pc + 3) L (.int (μ 11 o 7) :: S)) : KF E C k n μ pc L (.ref (ad E 11 o) :: S) := k_getf (a := 11) (fi := 7) (Cn := RX1) (T := TX1) (N := 10) (ref := "CallForker$Call") X rfl ho rfl rfl wu_X1 (by decide) rfl wf_X1_35 d kk
theorem pt_X1_35 {E : EE} {C : Ctx} {bs : ByteArray} {nL k n pc : Nat} {R : Room} {μ : Mem} {L : List (Nat × Value)} {S : List Value} (X : Cx E C bs RX1 nL R) {o : Nat} (ho : o < 20) {y : Int32} (d : decode bs pc = .ok (.putfield 35, 3)) (kk : KF E C k n (st μ 11 o 7 y) (pc + 3) L S) : KF E C k n μ pc L (.int y :: .ref (ad E 11 o) :: S) := k_putf (a := 11) (fi := 7) (Cn := RX1) (T := TX1) (N := 10) (ref := "CallForker$Call") (ty := .int) X tyX1 rfl ho (by simp [flds, st, List.set]) (by simp [flds]) rfl tyX1_ok nmX1 wu_X1 (by decide) rfl wf_X1_35 rfl (by decide +kernel) rfl rfl d kk
theorem gt_X1_38 {E : EE} {C : Ctx} {bs : ByteArray} {nL k n pc : Nat} {R : Room} {μ : Mem} {L : List (Nat × Value)} {S : List Value} (X : Cx E C bs RX1 nL R) {o : Nat} (ho : o < 20) (d : decode bs pc = .ok (.getfield 38, 3)) (kk : KF E C k n μ (pc + 3) L (.int (μ 11 o 8) :: S)) : KF E C k n μ pc L (.ref (ad E 11 o) :: S) := k_getf (a := 11) (fi := 8) (Cn := RX1) (T := TX1) (N := 10) (ref := "CallForker$Call") X rfl ho rfl rfl wu_X1 (by decide) rfl wf_X1_38 d kk
theorem pt_X1_38 {E : EE} {C : Ctx} {bs : ByteArray} {nL k n pc : Nat} {R : Room} {μ : Mem} {L : List (Nat × Value)} {S : List Value} (X : Cx E C bs RX1 nL R) {o : Nat} (ho : o < 20) {y : Int32} (d : decode bs pc = .ok (.putfield 38, 3)) (kk : KF E C k n (st μ 11 o 8 y) (pc + 3) L S) : KF E C k n μ pc L (.int y :: .ref (ad E 11 o) :: S) := k_putf (a := 11) (fi := 8) (Cn := RX1) (T := TX1) (N := 10) (ref := "CallForker$Call") (ty := .int) X tyX1 rfl ho (by simp [flds, st, List.set]) (by simp [flds]) rfl tyX1_ok nmX1 wu_X1 (by decide) rfl wf_X1_38 rfl (by decide +kernel) rfl rfl d kk
theorem gt_X1_41 {E : EE} {C : Ctx} {bs : ByteArray} {nL k n pc : Nat} {R : Room} {μ : Mem} {L : List (Nat × Value)} {S : List Value} (X : Cx E C bs RX1 nL R) {o : Nat} (ho : o < 20) (d : decode bs pc = .ok (.getfield 41, 3)) (kk : KF E C k n μ (pc + 3) L (.int (μ 11 o 9) :: S)) : KF E C k n μ pc L (.ref (ad E 11 o) :: S) := k_getf (a := 11) (fi := 9) (Cn := RX1) (T := TX1) (N := 10) (ref := "CallForker$Call") X rfl ho rfl rfl wu_X1 (by decide) rfl wf_X1_41 d kk
theorem pt_X1_41 {E : EE} {C : Ctx} {bs : ByteArray} {nL k n pc : Nat} {R : Room} {μ : Mem} {L : List (Nat × Value)} {S : List Value} (X : Cx E C bs RX1 nL R) {o : Nat} (ho : o < 20) {y : Int32} (hy : narrow .boolean (.int y) = .int y) (hy2 : fits .boolean (.int y) = true) (d : decode bs pc = .ok (.putfield 41, 3)) (kk : KF E C k n (st μ 11 o 9 y) (pc + 3) L S) : KF E C k n μ pc L (.int y :: .ref (ad E 11 o) :: S) := k_putf (a := 11) (fi := 9) (Cn := RX1) (T := TX1) (N := 10) (ref := "CallForker$Call") (ty := .boolean) X tyX1 rfl ho (by simp [flds, st, List.set]) (by simp [flds]) rfl tyX1_ok nmX1 wu_X1 (by decide) rfl wf_X1_41 rfl (by decide +kernel) hy hy2 d kk
theorem gt_X2_11 {E : EE} {C : Ctx} {bs : ByteArray} {nL k n pc : Nat} {R : Room} {μ : Mem} {L : List (Nat × Value)} {S : List Value} (X : Cx E C bs RX2 nL R) (d : decode bs pc = .ok (.getfield 11, 3)) (kk : KF E C k n μ (pc + 3) L (.ref (ad E 1 0) :: S)) : KF E C k n μ pc L (.ref (ad E 0 0) :: S) := k_getf (a := 0) (fi := 0) (Cn := RX2) (T := TX2) (N := 7) (ref := "CallForker") X rfl (by decide) rfl rfl wu_X2 (by decide) rfl wf_X2_11 d kk
theorem gt_X2_17 {E : EE} {C : Ctx} {bs : ByteArray} {nL k n pc : Nat} {R : Room} {μ : Mem} {L : List (Nat × Value)} {S : List Value} (X : Cx E C bs RX2 nL R) (d : decode bs pc = .ok (.getfield 17, 3)) (kk : KF E C k n μ (pc + 3) L (.ref (ad E 2 0) :: S)) : KF E C k n μ pc L (.ref (ad E 0 0) :: S) := k_getf (a := 0) (fi := 1) (Cn := RX2) (T := TX2) (N := 7) (ref := "CallForker") X rfl (by decide) rfl rfl wu_X2 (by decide) rfl wf_X2_17 d kk
theorem gt_X2_21 {E : EE} {C : Ctx} {bs : ByteArray} {nL k n pc : Nat} {R : Room} {μ : Mem} {L : List (Nat × Value)} {S : List Value} (X : Cx E C bs RX2 nL R) (d : decode bs pc = .ok (.getfield 21, 3)) (kk : KF E C k n μ (pc + 3) L (.ref (ad E 3 0) :: S)) : KF E C k n μ pc L (.ref (ad E 0 0) :: S) := k_getf (a := 0) (fi := 2) (Cn := RX2) (T := TX2) (N := 7) (ref := "CallForker") X rfl (by decide) rfl rfl wu_X2 (by decide) rfl wf_X2_21 d kk
theorem gt_X2_25 {E : EE} {C : Ctx} {bs : ByteArray} {nL k n pc : Nat} {R : Room} {μ : Mem} {L : List (Nat × Value)} {S : List Value} (X : Cx E C bs RX2 nL R) (d : decode bs pc = .ok (.getfield 25, 3)) (kk : KF E C k n μ (pc + 3) L (.ref (ad E 4 0) :: S)) : KF E C k n μ pc L (.ref (ad E 0 0) :: S) := k_getf (a := 0) (fi := 3) (Cn := RX2) (T := TX2) (N := 7) (ref := "CallForker") X rfl (by decide) rfl rfl wu_X2 (by decide) rfl wf_X2_25 d kk
theorem gt_X2_28 {E : EE} {C : Ctx} {bs : ByteArray} {nL k n pc : Nat} {R : Room} {μ : Mem} {L : List (Nat × Value)} {S : List Value} (X : Cx E C bs RX2 nL R) (d : decode bs pc = .ok (.getfield 28, 3)) (kk : KF E C k n μ (pc + 3) L (.ref (ad E 5 0) :: S)) : KF E C k n μ pc L (.ref (ad E 0 0) :: S) := k_getf (a := 0) (fi := 4) (Cn := RX2) (T := TX2) (N := 7) (ref := "CallForker") X rfl (by decide) rfl rfl wu_X2 (by decide) rfl wf_X2_28 d kk
theorem gt_X2_31 {E : EE} {C : Ctx} {bs : ByteArray} {nL k n pc : Nat} {R : Room} {μ : Mem} {L : List (Nat × Value)} {S : List Value} (X : Cx E C bs RX2 nL R) (d : decode bs pc = .ok (.getfield 31, 3)) (kk : KF E C k n μ (pc + 3) L (.int (μ 0 0 5) :: S)) : KF E C k n μ pc L (.ref (ad E 0 0) :: S) := k_getf (a := 0) (fi := 5) (Cn := RX2) (T := TX2) (N := 7) (ref := "CallForker") X rfl (by decide) rfl rfl wu_X2 (by decide) rfl wf_X2_31 d kk
theorem pt_X2_31 {E : EE} {C : Ctx} {bs : ByteArray} {nL k n pc : Nat} {R : Room} {μ : Mem} {L : List (Nat × Value)} {S : List Value} (X : Cx E C bs RX2 nL R) {y : Int32} (d : decode bs pc = .ok (.putfield 31, 3)) (kk : KF E C k n (st μ 0 0 5 y) (pc + 3) L S) : KF E C k n μ pc L (.int y :: .ref (ad E 0 0) :: S) := k_putf (a := 0) (fi := 5) (Cn := RX2) (T := TX2) (N := 7) (ref := "CallForker") (ty := .int) X tyX2 rfl (by decide) (by simp [flds, st, List.set]) (by simp [flds]) rfl tyX2_ok nmX2 wu_X2 (by decide) rfl wf_X2_31 rfl (by decide +kernel) rfl rfl d kk
theorem gt_X2_35 {E : EE} {C : Ctx} {bs : ByteArray} {nL k n pc : Nat} {R : Room} {μ : Mem} {L : List (Nat × Value)} {S : List Value} (X : Cx E C bs RX2 nL R) (d : decode bs pc = .ok (.getfield 35, 3)) (kk : KF E C k n μ (pc + 3) L (.int (μ 0 0 6) :: S)) : KF E C k n μ pc L (.ref (ad E 0 0) :: S) := k_getf (a := 0) (fi := 6) (Cn := RX2) (T := TX2) (N := 7) (ref := "CallForker") X rfl (by decide) rfl rfl wu_X2 (by decide) rfl wf_X2_35 d kk
theorem pt_X2_35 {E : EE} {C : Ctx} {bs : ByteArray} {nL k n pc : Nat} {R : Room} {μ : Mem} {L : List (Nat × Value)} {S : List Value} (X : Cx E C bs RX2 nL R) {y : Int32} (d : decode bs pc = .ok (.putfield 35, 3)) (kk : KF E C k n (st μ 0 0 6 y) (pc + 3) L S) : KF E C k n μ pc L (.int y :: .ref (ad E 0 0) :: S) := k_putf (a := 0) (fi := 6) (Cn := RX2) (T := TX2) (N := 7) (ref := "CallForker") (ty := .int) X tyX2 rfl (by decide) (by simp [flds, st, List.set]) (by simp [flds]) rfl tyX2_ok nmX2 wu_X2 (by decide) rfl wf_X2_35 rfl (by decide +kernel) rfl rfl d kk
theorem gn_X2_87 {E : EE} {C : Ctx} {bs : ByteArray} {nL k n pc : Nat} {R : Room} {μ : Mem} {L : List (Nat × Value)} {S : List Value} (X : Cx E C bs RX2 nL R) {o : Nat} (ho : o < 6) (d : decode bs pc = .ok (.getfield 87, 3)) (kk : KF E C k n μ (pc + 3) L (.ref (ad E 7 o) :: S)) : KF E C k n μ pc L (.ref (ad E 6 o) :: S) := k_getn (a := 6) (fi := 0) (Cn := RX0) (T := TX0) (N := 5) (ref := "CallForker$BindingRow") (host := "CallForker") X rfl ho rfl rfl wu_X0 (by decide) rfl (by decide +kernel) d kk
theorem gn_X2_57 {E : EE} {C : Ctx} {bs : ByteArray} {nL k n pc : Nat} {R : Room} {μ : Mem} {L : List (Nat × Value)} {S : List Value} (X : Cx E C bs RX2 nL R) {o : Nat} (ho : o < 6) (d : decode bs pc = .ok (.getfield 57, 3)) (kk : KF E C k n μ (pc + 3) L (.ref (ad E 9 o) :: S)) : KF E C k n μ pc L (.ref (ad E 6 o) :: S) := k_getn (a := 6) (fi := 2) (Cn := RX0) (T := TX0) (N := 5) (ref := "CallForker$BindingRow") (host := "CallForker") X rfl ho rfl rfl wu_X0 (by decide) rfl (by decide +kernel) d kk
theorem gn_X2_183 {E : EE} {C : Ctx} {bs : ByteArray} {nL k n pc : Nat} {R : Room} {μ : Mem} {L : List (Nat × Value)} {S : List Value} (X : Cx E C bs RX2 nL R) {o : Nat} (ho : o < 6) (d : decode bs pc = .ok (.getfield 183, 3)) (kk : KF E C k n μ (pc + 3) L (.ref (ad E 10 o) :: S)) : KF E C k n μ pc L (.ref (ad E 6 o) :: S) := k_getn (a := 6) (fi := 3) (Cn := RX0) (T := TX0) (N := 5) (ref := "CallForker$BindingRow") (host := "CallForker") X rfl ho rfl rfl wu_X0 (by decide) rfl (by decide +kernel) d kk
theorem gn_X2_180 {E : EE} {C : Ctx} {bs : ByteArray} {nL k n pc : Nat} {R : Room} {μ : Mem} {L : List (Nat × Value)} {S : List Value} (X : Cx E C bs RX2 nL R) {o : Nat} (ho : o < 6) (d : decode bs pc = .ok (.getfield 180, 3)) (kk : KF E C k n μ (pc + 3) L (.int (μ 6 o 4) :: S)) : KF E C k n μ pc L (.ref (ad E 6 o) :: S) := k_getn (a := 6) (fi := 4) (Cn := RX0) (T := TX0) (N := 5) (ref := "CallForker$BindingRow") (host := "CallForker") X rfl ho rfl rfl wu_X0 (by decide) rfl (by decide +kernel) d kk
theorem gn_X2_165 {E : EE} {C : Ctx} {bs : ByteArray} {nL k n pc : Nat} {R : Room} {μ : Mem} {L : List (Nat × Value)} {S : List Value} (X : Cx E C bs RX2 nL R) {o : Nat} (ho : o < 20) (d : decode bs pc = .ok (.getfield 165, 3)) (kk : KF E C k n μ (pc + 3) L (.ref (ad E 12 o) :: S)) : KF E C k n μ pc L (.ref (ad E 11 o) :: S) := k_getn (a := 11) (fi := 0) (Cn := RX1) (T := TX1) (N := 10) (ref := "CallForker$Call") (host := "CallForker") X rfl ho rfl rfl wu_X1 (by decide) rfl (by decide +kernel) d kk
theorem gn_X2_168 {E : EE} {C : Ctx} {bs : ByteArray} {nL k n pc : Nat} {R : Room} {μ : Mem} {L : List (Nat × Value)} {S : List Value} (X : Cx E C bs RX2 nL R) {o : Nat} (ho : o < 20) (d : decode bs pc = .ok (.getfield 168, 3)) (kk : KF E C k n μ (pc + 3) L (.ref (ad E 14 o) :: S)) : KF E C k n μ pc L (.ref (ad E 11 o) :: S) := k_getn (a := 11) (fi := 2) (Cn := RX1) (T := TX1) (N := 10) (ref := "CallForker$Call") (host := "CallForker") X rfl ho rfl rfl wu_X1 (by decide) rfl (by decide +kernel) d kk
theorem gn_X2_132 {E : EE} {C : Ctx} {bs : ByteArray} {nL k n pc : Nat} {R : Room} {μ : Mem} {L : List (Nat × Value)} {S : List Value} (X : Cx E C bs RX2 nL R) {o : Nat} (ho : o < 20) (d : decode bs pc = .ok (.getfield 132, 3)) (kk : KF E C k n μ (pc + 3) L (.ref (ad E 15 o) :: S)) : KF E C k n μ pc L (.ref (ad E 11 o) :: S) := k_getn (a := 11) (fi := 3) (Cn := RX1) (T := TX1) (N := 10) (ref := "CallForker$Call") (host := "CallForker") X rfl ho rfl rfl wu_X1 (by decide) rfl (by decide +kernel) d kk
theorem gn_X2_158 {E : EE} {C : Ctx} {bs : ByteArray} {nL k n pc : Nat} {R : Room} {μ : Mem} {L : List (Nat × Value)} {S : List Value} (X : Cx E C bs RX2 nL R) {o : Nat} (ho : o < 20) (d : decode bs pc = .ok (.getfield 158, 3)) (kk : KF E C k n μ (pc + 3) L (.int (μ 11 o 4) :: S)) : KF E C k n μ pc L (.ref (ad E 11 o) :: S) := k_getn (a := 11) (fi := 4) (Cn := RX1) (T := TX1) (N := 10) (ref := "CallForker$Call") (host := "CallForker") X rfl ho rfl rfl wu_X1 (by decide) rfl (by decide +kernel) d kk
theorem gn_X2_171 {E : EE} {C : Ctx} {bs : ByteArray} {nL k n pc : Nat} {R : Room} {μ : Mem} {L : List (Nat × Value)} {S : List Value} (X : Cx E C bs RX2 nL R) {o : Nat} (ho : o < 20) (d : decode bs pc = .ok (.getfield 171, 3)) (kk : KF E C k n μ (pc + 3) L (.int (μ 11 o 7) :: S)) : KF E C k n μ pc L (.ref (ad E 11 o) :: S) := k_getn (a := 11) (fi := 7) (Cn := RX1) (T := TX1) (N := 10) (ref := "CallForker$Call") (host := "CallForker") X rfl ho rfl rfl wu_X1 (by decide) rfl (by decide +kernel) d kk
theorem gn_X2_138 {E : EE} {C : Ctx} {bs : ByteArray} {nL k n pc : Nat} {R : Room} {μ : Mem} {L : List (Nat × Value)} {S : List Value} (X : Cx E C bs RX2 nL R) {o : Nat} (ho : o < 20) (d : decode bs pc = .ok (.getfield 138, 3)) (kk : KF E C k n μ (pc + 3) L (.int (μ 11 o 8) :: S)) : KF E C k n μ pc L (.ref (ad E 11 o) :: S) := k_getn (a := 11) (fi := 8) (Cn := RX1) (T := TX1) (N := 10) (ref := "CallForker$Call") (host := "CallForker") X rfl ho rfl rfl wu_X1 (by decide) rfl (by decide +kernel) d kk
