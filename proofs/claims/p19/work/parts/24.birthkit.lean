/-! the judgement of a frame while the cells are born: N of them are there -/
def KN (E : EE) (C : Ctx) (b k n N : Nat) (μ : Mem) (pc : Nat) (L : List (Nat × Value)) (S : List Value) : Prop :=
  ∀ (H : Heap) (locs : List Loc) (ls : Array Slot), H.size = b + N → Wn E μ N H → va_S (cA C) (cs C).heap H locs → lv_has ls (cN C) L → WC E C H locs k n (F0 (cm C) pc ls S)
def rmN (d c n : Nat) : Room := { frames := d, cells := c, slots := n, locals := 40 * d }
section BROWS
variable {E : EE} {C : Ctx} {bs : ByteArray} {own : String} {nL b k n N pc : Nat} {R : Room} {μ : Mem} {L L' : List (Nat × Value)} {S : List Value}
theorem n_pick (ks : List Nat) (h : lv_pick L ks = L') (kk : KN E C b k n N μ pc L' S) : KN E C b k n N μ pc L S := fun H locs ls hz hw hs hl => kk H locs ls hz hw hs (lv_sub hl ks h)
theorem n_mem {μ' : Mem} (h : μ = μ') (kk : KN E C b k n N μ' pc L S) : KN E C b k n N μ pc L S := h ▸ kk
theorem n_val {x y : Int32} (h : x = y) (kk : KN E C b k n N μ pc L (.int y :: S)) : KN E C b k n N μ pc L (.int x :: S) := h ▸ kk
theorem n_wide {k' n' : Nat} (h1 : k ≤ k') (h2 : n ≤ n') (kk : KN E C b k' n' N μ pc L S) : KN E C b k n N μ pc L S := fun H locs ls hz hw hs hl => W.widen h1 h2 (kk H locs ls hz hw hs hl)
theorem n_iconst (X : Cx E C bs own nL R) {i : Int} (v : Int32) (d : decode bs pc = .ok (.iconst i, 1)) (hv : Int32.ofInt i = v) (kk : KN E C b k n N μ (pc + 1) L (.int v :: S)) : KN E C b k n N μ pc L S := fun H locs ls hz hw hs hl => lv_iconst X.1 X.2.1 d hv (kk H locs ls hz hw hs hl)
theorem n_bipush (X : Cx E C bs own nL R) {i : Int} (v : Int32) (d : decode bs pc = .ok (.bipush i, 2)) (hv : (Int8.ofInt i).toInt32 = v) (kk : KN E C b k n N μ (pc + 2) L (.int v :: S)) : KN E C b k n N μ pc L S := fun H locs ls hz hw hs hl => lv_bipush X.1 X.2.1 d hv (kk H locs ls hz hw hs hl)
theorem n_sipush (X : Cx E C bs own nL R) {i : Int} (v : Int32) (d : decode bs pc = .ok (.sipush i, 3)) (hv : (Int16.ofInt i).toInt32 = v) (kk : KN E C b k n N μ (pc + 3) L (.int v :: S)) : KN E C b k n N μ pc L S := fun H locs ls hz hw hs hl => lv_sipush X.1 X.2.1 d hv (kk H locs ls hz hw hs hl)
theorem n_aload_n (X : Cx E C bs own nL R) {r : Fin 4} {i x : Nat} (j : Nat) (d : decode bs pc = .ok (.aload_n r, 1)) (hi : (r : Nat) = i) (h : L[j]? = some (i, .ref x)) (kk : KN E C b k n N μ (pc + 1) L (.ref x :: S)) : KN E C b k n N μ pc L S := fun H locs ls hz hw hs hl => lv_aload_n X.1 X.2.1 d hi (lv_at hl j h) (kk H locs ls hz hw hs hl)
theorem n_iload_n (X : Cx E C bs own nL R) {r : Fin 4} {i : Nat} {x : Int32} (j : Nat) (d : decode bs pc = .ok (.iload_n r, 1)) (hi : (r : Nat) = i) (h : L[j]? = some (i, .int x)) (kk : KN E C b k n N μ (pc + 1) L (.int x :: S)) : KN E C b k n N μ pc L S := fun H locs ls hz hw hs hl => lv_iload_n X.1 X.2.1 d hi (lv_at hl j h) (kk H locs ls hz hw hs hl)
theorem n_istore_n (X : Cx E C bs own nL R) {r : Fin 4} {i : Nat} {x : Int32} (d : decode bs pc = .ok (.istore_n r, 1)) (hi : (r : Nat) = i) (hn : i < nL) (h : (i, Value.int x) :: L.filter (fun q => !(q.1 == i) && !(q.1 + 1 == i && q.2.category == 2)) = L') (kk : KN E C b k n N μ (pc + 1) L' S) : KN E C b k n N μ pc L (.int x :: S) := fun H locs ls hz hw hs hl => lv_istore_n X.1 X.2.1 d hi hl (X.2.2.2.2.2.2.2.2.2.2.1 ▸ hn) h (fun ls' hl' => kk H locs ls' hz hw hs hl')
theorem n_astore_n (X : Cx E C bs own nL R) {r : Fin 4} {i x : Nat} (d : decode bs pc = .ok (.astore_n r, 1)) (hi : (r : Nat) = i) (hn : i < nL) (h : (i, Value.ref x) :: L.filter (fun q => !(q.1 == i) && !(q.1 + 1 == i && q.2.category == 2)) = L') (kk : KN E C b k n N μ (pc + 1) L' S) : KN E C b k n N μ pc L (.ref x :: S) := fun H locs ls hz hw hs hl => lv_astore_n X.1 X.2.1 d hi hl (X.2.2.2.2.2.2.2.2.2.2.1 ▸ hn) h (fun ls' hl' => kk H locs ls' hz hw hs hl')
theorem n_iinc (X : Cx E C bs own nL R) {i : Nat} {q : Int} {x v : Int32} (j : Nat) (d : decode bs pc = .ok (.iinc i q, 3)) (h : L[j]? = some (i, .int x)) (hv : x + Int32.ofInt q = v) (hn : i < nL) (hL : (i, Value.int v) :: L.filter (fun q => !(q.1 == i) && !(q.1 + 1 == i && q.2.category == 2)) = L') (kk : KN E C b k n N μ (pc + 3) L' S) : KN E C b k n N μ pc L S := fun H locs ls hz hw hs hl => lv_iinc X.1 X.2.1 d hl h hv (X.2.2.2.2.2.2.2.2.2.2.1 ▸ hn) hL (fun ls' hl' => kk H locs ls' hz hw hs hl')
theorem n_goto (X : Cx E C bs own nL R) {off : Int} {tgt : Nat} (d : decode bs pc = .ok (.goto off, 3)) (ht : (pc : Int) + off = (tgt : Int)) (kk : KN E C b k n N μ tgt L S) : KN E C b k n N μ pc L S := fun H locs ls hz hw hs hl => lv_goto X.1 X.2.1 d ht (kk H locs ls hz hw hs hl)
theorem n_dup (X : Cx E C bs own nL R) {v : Value} (d : decode bs pc = .ok (.dup, 1)) (hv : v.category = 1) (kk : KN E C b k n N μ (pc + 1) L (v :: v :: S)) : KN E C b k n N μ pc L (v :: S) := fun H locs ls hz hw hs hl => lv_dup X.1 X.2.1 d hv (kk H locs ls hz hw hs hl)
theorem n_icmp_ge (X : Cx E C bs own nL R) {x y : Nat} {off : Int} {tgt : Nat} (d : decode bs pc = .ok (.if_icmp .ge off, 3)) (ht : (pc : Int) + off = (tgt : Int)) (hx : x < 2 ^ 31) (hy : y < 2 ^ 31) (kt : y ≤ x → KN E C b k n N μ tgt L S) (kf : x < y → KN E C b k n N μ (pc + 3) L S) : KN E C b k n N μ pc L (.int (nI y) :: .int (nI x) :: S) := fun H locs ls hz hw hs hl => lv_icmp_ge X.1 X.2.1 d ht (fun h => kt ((nI_leI hy hx).mp h) H locs ls hz hw hs hl) (fun h => kf (Nat.lt_of_not_le fun q => h ((nI_leI hy hx).mpr q)) H locs ls hz hw hs hl)
theorem n_objInit (X : Cx E C bs own nL R) {idx a : Nat} (hl : Cond.methodLink own idx objectInit ∈ WALL) (hf : 1 ≤ R.frames) (hlo : (S.map fun v => v.category).sum + 12 ≤ R.locals) (hml : (cc C).maxLocals = cN C) (d : decode bs pc = .ok (.invokespecial idx, 3)) (kk : KN E C b k n N μ (pc + 3) L S) : KN E C b k n N μ pc L (.ref a :: S) := by
  intro H locs ls hz hw hs hl1
  have hRR : cR C = R := X.2.2.2.2.2.2.2.2.2.1
  refine W.objInit X.1 X.2.1 X.2.2.2.1 (X.2.2.2.2.1 _ hl) (X.2.2.2.2.1 _ wi_objectInit) (X.2.2.2.2.1 _ wc_objectInit) rfl (hl1.1.trans hml.symm) rfl d (by rw [hRR]; exact hf) (by rw [hRR]; show 2 * 0 + _ + 12 ≤ _; omega) ?_
  exact W.eq (g2 := F0 (cm C) (pc + 3) ls S) rfl (kk H locs ls hz hw hs hl1)
theorem va_S.push {A : Nat → Prop} {H0 H H1 : Heap} {locs : List Loc} (h : va_S A H0 H locs) (z : H1.size = H.size + 1) (oq : ∀ q : Nat, q < H.size → H1[q]? = H[q]?) : va_S A H0 H1 locs := ⟨Nat.le_trans h.1 (by omega), fun x h1 h2 => (oq x (Nat.lt_of_lt_of_le h1 h.1)).trans (h.2.1 x h1 h2), h.2.2⟩
theorem n_newi (X : Cx E C bs own nL R) (hb : AD E b) {a o : Nat} (hk : kt a = 1) (ho : o < vn a) (hN : offs a o = N) (hl9 : kl a < 1000) (hc : k + 1 ≤ R.cells) (hs9 : n + kl a ≤ R.slots) (d : decode bs pc = .ok (.newarray .int, 2)) (kk : KN E C b (k + 1) (n + kl a) (N + 1) (zr μ a o) (pc + 2) L (.ref (ad E a o) :: S)) : KN E C b k n N μ pc L (.int (nI (kl a)) :: S) := by
  intro H locs ls hz hw hs hl
  have hRR : cR C = R := X.2.2.2.2.2.2.2.2.2.1
  have hq : ad E a o = H.size := by rw [hb a o, hN, hz]
  refine va_newaK (atype := .int) (N := kl a) X.1 X.2.1 (X.2.2.2.2.1 _ wa_int) rfl d rfl (nI_pos (by omega)) (nI_clamp (by omega)) (by show kl a * 4 ≤ _; omega) (by rw [hRR]; exact hc) (by rw [hRR]; exact hs9) rfl fun H1 cI e1 z1 o1 hAr hNm => ?_
  obtain rfl : cI = E.2.2.1 0 := Option.some.inj (hNm.symm.trans (X.2.2.2.2.2.1.1.2 0 _ rfl).2)
  rw [← hq]
  refine W.eq (g2 := F0 (cm C) (pc + 2) ls (.ref (ad E a o) :: S)) rfl (kk H1 locs ls (by omega) (hw.push ho hN o1 ?_) (hs.push z1 o1) hl)
  have e9 : cntn E a o (fun _ => 0) = .inl (E.2.2.1 0, kl a, .inl (fun _ => 0)) := by unfold cntn; rw [hk]; rfl
  rw [e9]
  show H1[ad E a o]? = some (vp_cell _ _)
  rw [hq]
  exact e1
theorem n_newz (X : Cx E C bs own nL R) (hb : AD E b) {a o : Nat} (hk : kt a = 2) (ho : o < vn a) (hN : offs a o = N) (hl9 : kl a < 1000) (hc : k + 1 ≤ R.cells) (hs9 : n + kl a ≤ R.slots) (d : decode bs pc = .ok (.newarray .boolean, 2)) (kk : KN E C b (k + 1) (n + kl a) (N + 1) (zr μ a o) (pc + 2) L (.ref (ad E a o) :: S)) : KN E C b k n N μ pc L (.int (nI (kl a)) :: S) := by
  intro H locs ls hz hw hs hl
  have hRR : cR C = R := X.2.2.2.2.2.2.2.2.2.1
  have hq : ad E a o = H.size := by rw [hb a o, hN, hz]
  refine va_newaK (atype := .boolean) (N := kl a) X.1 X.2.1 (X.2.2.2.2.1 _ wa_boolean) rfl d rfl (nI_pos (by omega)) (nI_clamp (by omega)) (by show kl a * 1 ≤ _; omega) (by rw [hRR]; exact hc) (by rw [hRR]; exact hs9) rfl fun H1 cI e1 z1 o1 hAr hNm => ?_
  obtain rfl : cI = E.2.2.1 1 := Option.some.inj (hNm.symm.trans (X.2.2.2.2.2.1.1.2 1 _ rfl).2)
  rw [← hq]
  refine W.eq (g2 := F0 (cm C) (pc + 2) ls (.ref (ad E a o) :: S)) rfl (kk H1 locs ls (by omega) (hw.push ho hN o1 ?_) (hs.push z1 o1) hl)
  have e9 : cntn E a o (fun _ => 0) = .inl (E.2.2.1 1, kl a, .inl (fun _ => 0)) := by unfold cntn; rw [hk]; rfl
  rw [e9]
  show H1[ad E a o]? = some (vp_cell _ _)
  rw [hq]
  exact e1
theorem n_newq (X : Cx E C bs own nL R) (hb : AD E b) {a t len idx : Nat} {Cn : String} (ho : 0 < vn a) (hc9 : cntn E a 0 (fun _ => 0) = .inl (E.2.2.1 t, len, .inr (.inr (.inr (.inr (fun _ => none)))))) (ht : (tysG E)[t]? = some (E.2.2.1 t, .object Cn)) (hN : offs a 0 = N) (hl9 : len < 1000) (hlk : Cond.classLink own idx Cn ∈ WALL) (hao : va_AO Cn (cs C)) (hc : k + 1 ≤ R.cells) (hs9 : n + len ≤ R.slots) (d : decode bs pc = .ok (.anewarray idx, 3)) (kk : KN E C b (k + 1) (n + len) (N + 1) (zr μ a 0) (pc + 3) L (.ref (ad E a 0) :: S)) : KN E C b k n N μ pc L (.int (nI len) :: S) := by
  intro H locs ls hz hw hs hl
  have hRR : cR C = R := X.2.2.2.2.2.2.2.2.2.1
  have hq : ad E a 0 = H.size := by rw [hb a 0, hN, hz]
  have hcl : (nI len).toNatClampNeg = len := nI_clamp (by omega)
  refine W.anew X.1 X.2.1 X.2.2.2.1 (X.2.2.2.2.1 _ hlk) (va_AO.use hao) rfl d rfl (nI_pos (by omega)) (by rw [hcl]; omega) (by rw [hRR]; exact hc) (by rw [hRR, hcl]; exact hs9) fun cI kA comp f1 f2 f3 f4 => ?_
  rw [hcl]
  have hK := (X.2.2.2.2.2.1.1.2 t _ ht).2
  obtain ⟨kA', comp', k1, k2, k3, k4⟩ := hK
  obtain rfl : cI = E.2.2.1 t := Option.some.inj (f1.symm.trans k4)
  generalize hH1 : H.push ({ cls := E.2.2.1 t, slots := Array.replicate len .null, vm := .none } : Cell) = H1
  have z1 : H1.size = H.size + 1 := by rw [← hH1, Array.size_push]
  have e1 : H1[H.size]? = some (arrV (E.2.2.1 t) len (fun _ => .null)) := by rw [← hH1, Array.getElem?_push_size, ← arrV_new]
  have o1 : ∀ q : Nat, q < H.size → H1[q]? = H[q]? := fun q hq => by rw [← hH1, Array.getElem?_push, if_neg (Nat.ne_of_lt hq)]
  rw [← hq]
  refine W.eq (g2 := F0 (cm C) (pc + 3) ls (.ref (ad E a 0) :: S)) rfl (kk H1 locs ls (by omega) (hw.push ho hN o1 ?_) (hs.push z1 o1) hl)
  rw [hc9]
  show H1[ad E a 0]? = some (vp_cell _ _)
  rw [hq]
  exact e1
/-- a new object -/
theorem n_new (X : Cx E C bs own nL R) (hb : AD E b) {a o NN idx : Nat} {Cn : String} {T : u_T} (ty0 : Nat → FieldType) (hk : kt a = 0) (ho : o < vn a) (hN : offs a o = N) (hcl : vwCl[oc a]? = some (Cn, T, NN)) (hty : ∀ k, k < NN → parseFieldDescriptor (T k).2.2.1 = some (ty0 k)) (hin : ∀ w ∈ u_ws Cn T NN, w ∈ WALL) (hlk : Cond.classLink own idx Cn ∈ WALL) (hins : Cond.instantiable Cn NN ∈ WALL) (hini : Cond.initialized Cn ∈ WALL) (hfs : ∀ j, j < NN → defaultValue (ty0 j) = vp_V (fldn E a o (fun _ => 0)) j) (hc : k + 1 ≤ R.cells) (hs9 : n + NN ≤ R.slots) (d : decode bs pc = .ok (.new idx, 3)) (kk : KN E C b (k + 1) (n + NN) (N + 1) (zr μ a o) (pc + 3) L (.ref (ad E a o) :: S)) : KN E C b k n N μ pc L S := by
  intro H locs ls hz hw hs hl
  have hRR : cR C = R := X.2.2.2.2.2.2.2.2.2.1
  have hq : ad E a o = H.size := by rw [hb a o, hN, hz]
  have hKn := X.2.2.2.2.2.1.1.1 (oc a) _ hcl
  refine W.newcK X.1 X.2.1 X.2.2.2.1 (X.2.2.2.2.1 _ hlk) (X.2.2.2.2.1 _ hins) (X.2.2.2.2.1 _ hini) rfl d (by rw [hRR]; exact hc) (by rw [hRR]; exact hs9) hKn.2.1 rfl fun H1 kC hkC e1 z1 o1 => ?_
  rw [← hq]
  refine W.eq (g2 := F0 (cm C) (pc + 3) ls (.ref (ad E a o) :: S)) rfl (kk H1 locs ls (by omega) (hw.push ho hN o1 ?_) (hs.push z1 o1) hl)
  have e9 : cntn E a o (fun _ => 0) = .inr (oc a, fldn E a o (fun _ => 0)) := by unfold cntn; rw [hk]; rfl
  rw [e9]
  refine ⟨_, hcl, (u_born ty0 X.2.2.2.2.1 hin hKn hkC ?_ hty).to hfs⟩
  rw [hq]
  exact e1
/-- a field of references is set, once -/
theorem n_putr (X : Cx E C bs own nL R) (hb : AD E b) {a o fi NN idx x : Nat} {T : u_T} {ty : FieldType} (ty0 : Nat → FieldType) (hm : (cM C).name = "<init>") (hk : kt a = 0) (ho : o < vn a) (hNlt : offs a o < N) (hf : fldn E a o (st μ a o (100 + fi) 1 a o) = (fldn E a o (μ a o)).set fi (.ref x)) (hlen : fi < (fldn E a o (μ a o)).length) (hc : vwCl[oc a]? = some (own, T, NN)) (hty : ∀ k, k < NN → parseFieldDescriptor (T k).2.2.1 = some (ty0 k)) (hnm : ∀ a, a < NN → ∀ b, b < NN → a ≠ b → (T a).2.1 ≠ (T b).2.1) (hin : ∀ w ∈ u_ws own T NN, w ∈ WALL) (hfi : fi < NN) (hr : (T fi).1 = own) (hl9 : Cond.fieldLink own idx own (T fi).2.1 (T fi).2.2.1 ∈ WALL) (hfin : (T fi).2.2.2 = true) (hd : parseFieldDescriptor (T fi).2.2.1 = some ty) (hn : narrow ty (.ref x) = .ref x) (hfit : fits ty (.ref x) = true) (d : decode bs pc = .ok (.putfield idx, 3)) (kk : KN E C b k n N (st μ a o (100 + fi) 1) (pc + 3) L S) : KN E C b k n N μ pc L (.ref x :: .ref (ad E a o) :: S) := by
  intro H locs ls hz hw hs hl
  have hc1 : ∀ f, cntn E a o f = .inr (oc a, fldn E a o f) := fun f => by unfold cntn; rw [hk]; rfl
  have h0 := hw a o ho hNlt
  rw [hc1] at h0
  have hap := va_apart (own := own) X.2.2.2.2.1 hin ty0 hty hnm X.2.2.2.2.2.1.1 hc
  obtain ⟨r, h1, cell, q1, q2, q3, q4⟩ := h0
  have hr9 : r = (own, T, NN) := Option.some.inj (h1.symm.trans hc)
  subst hr9
  obtain ⟨hS, hfc, kC, hkC, hkind⟩ := X.2.2.2.2.2.1.1.1 (oc a) _ hc
  obtain ⟨cf, kf, fi9, f, hi, hsl⟩ := hS fi hfi
  have hlay := X.2.2.2.2.1 _ (hin _ (u_in_lay hfi))
  unfold u_lay at hlay
  rw [if_pos hfin] at hlay
  have hst := (u_facts hfc hkC (u_lays X.2.2.2.2.1 hin hfi) hi).1
  have hcf : (cm C).cls = cf := by
    obtain ⟨_, _, c', _, _, _, -, -, hf', -, -, -, hown2, -⟩ := Cond.laysFinal_spec hlay
    have e1 : c' = cf := by have := hi.symm.trans hf'; simp at this; exact this.1.symm
    rw [hr] at hown2
    rw [← e1]; exact Option.some.inj (X.2.2.2.1.symm.trans hown2)
  have h6 := u_fits hfc hkC hkind (Or.inr hlay) hi hd hn hfit
  refine W.putFinK X.1 X.2.1 X.2.2.2.1 (X.2.2.2.2.1 _ hl9) (by rw [← hr]; exact hi) hst hcf hm (by rw [q2]; exact h6) q1 q3 (by rw [hsl]; exact k2_hasslot (q4 fi hfi)) rfl rfl d fun H' e1 e2 e3 => ?_
  rw [hsl] at e1 ⊢
  refine kk H' _ ls (by omega) (hw.set hb ho e3 ?_) (hs.put e2 e3 (X.2.2.2.2.2.2.2.1 a o ho)) hl
  rw [hc1, hf]
  exact ⟨_, hc, t_OB.to (V := updV (vp_V (fldn E a o (μ a o))) fi (.ref x)) ⟨_, e1, q2, q3, t_set q4 hap hfi (.ref x)⟩ (fun j _ => vp_updV_set hlen (.ref x) j)⟩
theorem n_puti (X : Cx E C bs own nL R) (hb : AD E b) {a o fi NN idx : Nat} {T : u_T} {ty : FieldType} {y : Int32} (ty0 : Nat → FieldType) (hk : kt a = 0) (ho : o < vn a) (hNlt : offs a o < N) (hf : fldn E a o (st μ a o fi y a o) = (fldn E a o (μ a o)).set fi (.int y)) (hlen : fi < (fldn E a o (μ a o)).length) (hc : vwCl[oc a]? = some (own, T, NN)) (hty : ∀ k, k < NN → parseFieldDescriptor (T k).2.2.1 = some (ty0 k)) (hnm : ∀ a, a < NN → ∀ b, b < NN → a ≠ b → (T a).2.1 ≠ (T b).2.1) (hin : ∀ w ∈ u_ws own T NN, w ∈ WALL) (hfi : fi < NN) (hr : (T fi).1 = own) (hl9 : Cond.fieldLink own idx own (T fi).2.1 (T fi).2.2.1 ∈ WALL) (hfin : (T fi).2.2.2 = false) (hd : parseFieldDescriptor (T fi).2.2.1 = some ty) (hn : narrow ty (.int y) = .int y) (hfit : fits ty (.int y) = true) (d : decode bs pc = .ok (.putfield idx, 3)) (kk : KN E C b k n N (st μ a o fi y) (pc + 3) L S) : KN E C b k n N μ pc L (.int y :: .ref (ad E a o) :: S) := by
  intro H locs ls hz hw hs hl
  have hc1 : ∀ f, cntn E a o f = .inr (oc a, fldn E a o f) := fun f => by unfold cntn; rw [hk]; rfl
  have h0 := hw a o ho hNlt
  rw [hc1] at h0
  have hap := va_apart (own := own) X.2.2.2.2.1 hin ty0 hty hnm X.2.2.2.2.2.1.1 hc
  obtain ⟨r, h1, cell, q1, q2, q3, q4⟩ := h0
  have hr9 : r = (own, T, NN) := Option.some.inj (h1.symm.trans hc)
  subst hr9
  obtain ⟨hS, hfc, kC, hkC, hkind⟩ := X.2.2.2.2.2.1.1.1 (oc a) _ hc
  obtain ⟨cf, kf, fi9, f, hi, hsl⟩ := hS fi hfi
  have hlay := X.2.2.2.2.1 _ (hin _ (u_in_lay hfi))
  unfold u_lay at hlay
  rw [if_neg (by rw [hfin]; decide)] at hlay
  have hst := (u_facts hfc hkC (u_lays X.2.2.2.2.1 hin hfi) hi).1
  have h6 := u_store hfc hkC hkind hlay hi hd hn hfit
  refine W.putK X.1 X.2.1 (f := f) ⟨X.2.2.2.1, X.2.2.2.2.1 _ hl9, ⟨_, _, _, by rw [← hr]; exact hi⟩, hst⟩ (by rw [q2]; exact h6) q1 q3 (by rw [hsl]; exact k2_hasslot (q4 fi hfi)) rfl rfl d fun H' e1 e2 e3 => ?_
  rw [hsl] at e1 ⊢
  refine kk H' _ ls (by omega) (hw.set hb ho e3 ?_) (hs.put e2 e3 (X.2.2.2.2.2.2.2.1 a o ho)) hl
  rw [hc1, hf]
  exact ⟨_, hc, t_OB.to (V := updV (vp_V (fldn E a o (μ a o))) fi (.int y)) ⟨_, e1, q2, q3, t_set q4 hap hfi (.int y)⟩ (fun j _ => vp_updV_set hlen (.int y) j)⟩
theorem n_getf (X : Cx E C bs own nL R) {a o fi NN idx : Nat} {T : u_T} {v : Value} (hk : kt a = 0) (ho : o < vn a) (hNlt : offs a o < N) (hv : (fldn E a o (μ a o))[fi]? = some v) (hc : vwCl[oc a]? = some (own, T, NN)) (hin : ∀ w ∈ u_ws own T NN, w ∈ WALL) (hfi : fi < NN) (hr : (T fi).1 = own) (hl9 : Cond.fieldLink own idx own (T fi).2.1 (T fi).2.2.1 ∈ WALL) (d : decode bs pc = .ok (.getfield idx, 3)) (kk : KN E C b k n N μ (pc + 3) L (v :: S)) : KN E C b k n N μ pc L (.ref (ad E a o) :: S) := by
  intro H locs ls hz hw hs hl
  have hc1 : cntn E a o (μ a o) = .inr (oc a, fldn E a o (μ a o)) := by unfold cntn; rw [hk]; rfl
  have hP : va_P E.2.1 vwCl [(ad E a o, .inr (oc a, fldn E a o (μ a o)))] H := by
    intro q e he
    match q, he with
    | 0, he => cases he; rw [← hc1]; exact hw a o ho hNlt
  exact va_get (Ts := WALL) X.1 X.2.1 X.2.2.2.2.1 hin X.2.2.2.1 X.2.2.2.2.2.1.1 hP 0 rfl hc fi hfi (X.2.2.2.2.1 _ hl9) (by rw [← hr]; exact fun _ h => h) hv d (kk H locs ls hz hw hs hl)
theorem n_iast (X : Cx E C bs own nL R) (hb : AD E b) {a o j : Nat} {y : Int32} (hk : kt a = 1) (ho : o < vn a) (hNlt : offs a o < N) (hj : j < kl a) (hj2 : kl a < 2 ^ 31) (d : decode bs pc = .ok (.iastore, 1)) (kk : KN E C b k n N (st μ a o j y) (pc + 1) L S) : KN E C b k n N μ pc L (.int y :: .int (nI j) :: .ref (ad E a o) :: S) := by
  intro H locs ls hz hw hs hl
  have hc : ∀ f, cntn E a o f = .inl (E.2.2.1 0, kl a, .inl f) := fun f => by unfold cntn; rw [hk]; rfl
  have h0 := hw a o ho hNlt
  rw [hc] at h0
  have hin := vp_in_nI hj hj2
  refine W.iast X.1 X.2.1 h0 ((X.2.2.2.2.2.1.1.2 0 _ rfl).1 (kl a) (fun i => .int (μ a o i))) (fun q => by cases q) (by show ¬ (nI j < 0 ∨ (arrV _ _ _).slots.size ≤ _); rw [arrV_size]; exact hin) rfl rfl d fun H1 e z oq => ?_
  refine kk H1 _ ls (by omega) (hw.set hb ho oq ?_) (hs.put z oq (X.2.2.2.2.2.2.2.1 a o ho)) hl
  rw [hc, st_upd]
  show H1[ad E a o]? = some (vp_cell _ _)
  rw [e]
  show some ((arrV _ (kl a) (fun i => Value.int (μ a o i))).setSlot _ _) = some (arrV _ (kl a) (fun i => Value.int (upd (μ a o) j y i)))
  rw [arrV_store]
  congr 2
  funext q
  rw [nI_clamp (Nat.lt_trans hj hj2)]
  by_cases hq : q = j
  · subst hq
    simp [updV, upd]
  · simp [updV, upd, hq]
/-- a new object comes into a row -/
theorem n_aast (X : Cx E C bs own nL R) (hb : AD E b) {a a2 o2 t len j NN : Nat} {Cn : String} {T : u_T} (ho : 0 < vn a) (ho2 : o2 < vn a2) (hk2 : kt a2 = 0) (g : Nat → Nat) (hg : g j = ad E a2 o2) (hc9 : ∀ f, cntn E a 0 f = .inl (E.2.2.1 t, len, .inr (.inr (.inr (.inr (fo f g)))))) (ht : (tysG E)[t]? = some (E.2.2.1 t, .object Cn)) (hcl : vwCl[oc a2]? = some (Cn, T, NN)) (hN1 : offs a 0 < N) (hN2 : offs a2 o2 < N) (hj : j < len) (hl9 : len < 2 ^ 31) (d : decode bs pc = .ok (.aastore, 1)) (kk : KN E C b k n N (st μ a 0 (100 + j) 1) (pc + 1) L S) : KN E C b k n N μ pc L (.ref (ad E a2 o2) :: .int (nI j) :: .ref (ad E a 0) :: S) := by
  intro H locs ls hz hw hs hl
  have h0 := hw a 0 ho hN1
  rw [hc9] at h0
  have h2 := hw a2 o2 ho2 hN2
  rw [show cntn E a2 o2 (μ a2 o2) = .inr (oc a2, fldn E a2 o2 (μ a2 o2)) by unfold cntn; rw [hk2]; rfl] at h2
  obtain ⟨r', hr', cellV, g1, g2, g3, -⟩ := h2
  obtain rfl : r' = (Cn, T, NN) := Option.some.inj (hr'.symm.trans hcl)
  have hcls := (X.2.2.2.2.2.1.1.1 (oc a2) _ hcl).2
  have hKt := X.2.2.2.2.2.1.1.2 t _ ht
  obtain ⟨kA, comp, k1, k2, k3, -⟩ := hKt.2
  have hcomp : comp = E.2.1.1 (oc a2) := Option.some.inj (k3.symm.trans hcls.1)
  subst hcomp
  obtain ⟨kC, hkC, -⟩ := hcls.2
  have hjc : (nI j).toNatClampNeg = j := nI_clamp (by omega)
  refine W.aast X.1 X.2.1 (cell := arrV (E.2.2.1 t) len (fun i => va_rf (fo (μ a 0) g i))) h0 (fun q h => by cases h) (fun h => by cases h) k1 k2 rfl hkC ⟨nI_pos (by omega), by rw [arrV_size, hjc]; exact hj⟩ g1 (fun q h => by rw [g3] at h; cases h) (by rw [g2]; exact hkC) (by rw [g2]; exact va_assign hcls) rfl rfl d fun H1 e z oq => ?_
  refine kk H1 _ ls (by omega) (hw.set hb ho oq ?_) (hs.put z oq (X.2.2.2.2.2.2.2.1 a 0 ho)) hl
  rw [hc9]
  show H1[ad E a 0]? = some (vp_cell _ _)
  rw [e, vp_cell_q, arrV_store, hjc]
  congr 2
  funext q
  by_cases hq : q = j
  · subst hq
    simp only [updV, if_pos]
    unfold fo
    rw [if_pos st_same, hg]
    rfl
  · simp only [updV, if_neg hq]
    unfold fo
    rw [st_i (by omega)]
end BROWS
