/-! THE CLAIM OUT OF ONE WALK OF THE LAW'S BODY. Your part is whole_start (and what it stands on); all else here is the same for every law, but numbers. -/
def R_law : String := "CallForkerLaw"
def lw_P (b : Addr) (xs : List Int32) (args : Array Value) (s : State) : Prop := args = #[.ref b] ∧ s.IntsAt b xs ∧ xs.length ≤ 3072 ∧ (Jvm.Cond.and given_1 narrow_1).before args s = true
def lw_Q (_ : Array Value) (s : State) (o : Outcome) (t : State) : Prop := o = .returned (some (.int 1)) ∧ Framed s o t [] 601024 7293034
def lw_Z (below : List Frame) (a : Array Value) (s : State) : State → Prop := fun t => ∃ o, t.status = .running ∧ Ended t below o ∧ lw_Q a s o t
/-- the law's own end, with 1 on the stack, nothing written that was there before, its room as the claim has it -/
theorem lw_ret {p : Program} {l : Launch} {e : Env} {s : State} {m : MethodId} {below : List Frame} {meth : Method} {c : Code} {b : Nat} (hx : p.tables.exec = Jvm.exec) (hb : c.code = code) (hr : meth.sig.returnType = ret) (hlocks : meth.locks = false) {pc : Nat} {H : Heap} {ls : Array Slot} (hdg : decode code pc = .ok (.ireturn, 1)) : W p l e room_1 s m #[Value.ref b] below meth c H [] 601024 7293034 (lw_Z below #[Value.ref b] s) (F0 m pc ls [.int 1]) := by
  intro T hT X
  obtain ⟨fs, hret, hrun, hended, hW, hframe⟩ := X.leave (v := some (.int 1)) (hlocks := hlocks) (fun h => by rw [hr] at h; cases h)
  have hmeth' : T.vm.method? m = some meth := X.method'
  refine ⟨T.setFrames fs, ?_, .returned (some (.int 1)), hrun, hended, rfl, ⟨_, rfl⟩, hW, hframe⟩
  jvm_step X.here [X.here.top, hx, hb, hdg, hmeth', hr, ret, narrow_b1]
  (try refine ⟨rfl, ?_⟩); (try refine ⟨rfl, ?_⟩)
  first | (intro acts; rw [hret _ acts rfl rfl rfl]) | rw [hret _ _ rfl rfl rfl]
  exact Steps.refl _
/-- what holds at the law's entry: the machine, the code, the tables' words (any of lw_tbl by 'hts w (by decide +kernel)'), the script of L ints xs at the cell b, what the Statement gives of the start (any of its parts by flat_of_before) -/
def lw_At (p : Program) (s : State) (m : MethodId) (meth : Method) (c : Code) (b L : Nat) (xs : Nat → Int32) : Prop :=
  p.tables.exec = Jvm.exec ∧ c.code = code ∧ meth.sig.returnType = ret ∧ c.maxLocals = 7 ∧ s.vm.findClass R_law = some m.cls ∧ (∀ w ∈ lw_tbl, w.before #[Value.ref b] s = true) ∧ va_X b L xs s s.heap ∧ b < s.heap.size ∧ meth.locks = false ∧ (Jvm.Cond.and given_1 narrow_1).before #[Value.ref b] s = true
theorem n_toK {E : EE} {C : Ctx} {b k n pc : Nat} {μ : Mem} {L : List (Nat × Value)} {S : List Value} (hF : FL μ) (kk : KF E C k n μ pc L S) : KN E C b k n 154 μ pc L S := fun H locs ls _ hw hs hl => kk H locs ls (hw.all hF) hs hl
theorem arr_of {s : State} {args : Array Value} {ty : FieldType} (h : (Cond.arrayClass ty).before args s = true) : ∃ cA : ClassId, ArrOfT s cA ty ∧ s.vm.findClass ("[" ++ ty.toString) = some cA := by
  obtain ⟨cA, kA, comp, h1, h2, h3⟩ := Cond.arrayClass_spec h
  exact ⟨cA, fun n z => ⟨fun k h => (by cases h), kA, h2, comp, h3⟩, h1⟩
theorem arr_ofq {s : State} {args : Array Value} {Cn : String} (h : (Cond.arrayOver (.object Cn)).before args s = true) : ∃ cA : ClassId, ArrOfT s cA (.object Cn) ∧ va_RA s cA (.object Cn) := by
  obtain ⟨comp, cA, kA, h1, h2, h3, h4, h5⟩ := Cond.arrayOver_spec h
  exact ⟨cA, fun n z => ⟨fun k h => (by cases h), kA, h3, comp, h4⟩, kA, comp, h3, h4, h1, h5⟩
theorem flat_nc : ∀ q ∈ NCS, Cond.not (.castable q.1 q.2) ∈ flatC (Jvm.Cond.and given_1 narrow_1) := by decide +kernel
theorem flat_str : ∀ q ∈ STRS, Cond.exactly (.string "CallForker" q.1) "java/lang/String" ∈ flatC (Jvm.Cond.and given_1 narrow_1) := by decide +kernel
theorem tbl_str : ∀ q ∈ STRS, Cond.stringRef "CallForker" q.1 q.2 ∈ lw_tbl := by decide +kernel
theorem tbl_WN : ∀ w ∈ WN, w ∈ lw_tbl := by decide +kernel
theorem nw_onT {w : Cond} (h : nwk w = true) : w.onTables = true := by cases w <;> first | rfl | cases h
/-- the walk of the law, whatever holds between the two from operation to operation -/
theorem start_of {Rel : Nat → Mem → Prop} (hR0 : Rel 0 μI) (hstep : ∀ (E : EE) (n : Nat) (μ : Mem), n < 512 → Rel n μ → StepAll E μ (Rel (n + 1))) {p : Program} {e : Env} {s : State} {m : MethodId} {below : List Frame} {meth : Method} {c : Code} (l : Launch) (hflags : l.flags = flags0) {b L : Nat} {xs : Nat → Int32} (hL : L ≤ 3072) (C0 : lw_At p s m meth c b L xs) : W p l e room_1 s m #[Value.ref b] below meth c s.heap [] 0 0 (lw_Z below #[Value.ref b] s) (entryFrame m ([Value.ref b] : List Value).toArray 7) := by
  obtain ⟨hx, hcode, hret, hml, hown, hts, hX, hbl, hlocks, hgv⟩ := C0
  have hgf := flat_of_before _ hgv
  have hW : ∀ w ∈ WALL, w.before #[Value.ref b] s = true := fun w hw => hts w (List.mem_filter.mp hw).1
  obtain ⟨c0, i0, K0⟩ := u_known (C := RX0) (T := TX0) (N := 5) hW wu_X0 (hW _ wx_X0)
  obtain ⟨c1, i1, K1⟩ := u_known (C := RX1) (T := TX1) (N := 10) hW wu_X1 (hW _ wx_X1)
  obtain ⟨c2, i2, K2⟩ := u_known (C := RX2) (T := TX2) (N := 7) hW wu_X2 (hW _ wx_X2)
  obtain ⟨c3, i3, K3⟩ := u_known (C := RX3) (T := TX3) (N := 19) hW wu_X3 (hW _ wx_X3)
  obtain ⟨a0, ta0, na0⟩ := arr_of (hW _ wa_int)
  obtain ⟨a1, ta1, na1⟩ := arr_of (hW _ wa_boolean)
  obtain ⟨a2, ta2, na2⟩ := arr_of (hW _ wa_long)
  have ho3 : (Cond.arrayOver (.object "CallForker$BindingRow")).before #[Value.ref b] s = true := hts _ (by decide +kernel)
  have ho4 : (Cond.arrayOver (.object "CallForker$Call")).before #[Value.ref b] s = true := hts _ (by decide +kernel)
  obtain ⟨a3, ta3, ra3⟩ := arr_ofq ho3
  obtain ⟨a4, ta4, ra4⟩ := arr_ofq ho4
  have hE : ∃ E : EE, E = (l, ((fun k => match k with | 0 => c0 | 1 => c1 | 2 => c2 | _ => c3), (fun k => match k with | 0 => i0 | 1 => i1 | 2 => i2 | _ => i3)), (fun k => match k with | 0 => a0 | 1 => a1 | 2 => a2 | 3 => a3 | _ => a4), fun k o => s.heap.size + offs k o) := ⟨_, rfl⟩
  obtain ⟨E, hE⟩ := hE
  have hAD : AD E s.heap.size := by rw [hE]; intro k o; rfl
  have hl1 : E.1 = l := by rw [hE]
  have hK : va_K E.2.1 vwCl (tysG E) s := by
    rw [hE]
    refine ⟨fun k q hq => ?_, fun k q hq => ?_⟩
    · rcases Nat.lt_or_ge k 4 with hk | hk
      · rcases (show k = 0 ∨ k = 1 ∨ k = 2 ∨ k = 3 by omega) with rfl | rfl | rfl | rfl <;> (cases hq; assumption)
      · rw [List.getElem?_eq_none hk] at hq; cases hq
    · rcases Nat.lt_or_ge k 5 with hk | hk
      · rcases (show k = 0 ∨ k = 1 ∨ k = 2 ∨ k = 3 ∨ k = 4 by omega) with rfl | rfl | rfl | rfl | rfl <;> cases hq
        · exact ⟨ta0, na0⟩
        · exact ⟨ta1, na1⟩
        · exact ⟨ta2, na2⟩
        · exact ⟨ta3, ra3⟩
        · exact ⟨ta4, ra4⟩
      · rw [List.getElem?_eq_none hk] at hq; cases hq
  have hst : l.stackTraces = false := by unfold Launch.stackTraces; rw [hflags]; decide
  have hSX : SX E s := by
    refine ⟨hK, hAD.inj, by rw [hl1]; exact hst, fun w hw => va_Nw.of (nw_onT (List.all_eq_true.mp WN_ok w hw)) (hts w (tbl_WN w hw)), fun q hq => va_Nc.of (hgf _ (flat_nc q hq)), fun q hq => ?_⟩
    obtain ⟨a, c9, cell, k9, q1, -⟩ := Cond.exactly_spec (hgf _ (flat_str q hq))
    refine ⟨a, ?_⟩
    have h1 : (Cond.stringRef "CallForker" q.1 q.2).before #[Value.ref b] s = true := hts _ (tbl_str q hq)
    have h2 := vk_R.of h1 (by exact q1)
    exact h2
  have hAno : ∀ a : Nat, a < s.heap.size → ¬ (fun q : Nat => s.heap.size ≤ q) a := fun a h1 h2 => absurd h1 (Nat.not_lt.mpr h2)
  have hZQ : ZQ (fun q : Nat => s.heap.size ≤ q) s s.heap := ⟨vx_Zqof (hts _ (by decide +kernel)) (hts _ (by decide +kernel)) (hgf _ (by decide +kernel)) hAno, vx_Zqof (hts _ (by decide +kernel)) (hts _ (by decide +kernel)) (hgf _ (by decide +kernel)) hAno⟩
  have hC : ∃ C : Ctx, C = (p, e, room_1, s, m, #[Value.ref b], below, meth, c, lw_Z below #[Value.ref b] s, (fun q : Nat => s.heap.size ≤ q), 7) := ⟨_, rfl⟩
  obtain ⟨C, hC⟩ := hC
  have X : Cx E C cL_law RL 7 room_1 := by
    rw [hC]
    exact ⟨hx, hcode, hml, hown, hW, hSX, hZQ, fun k o _ => by show s.heap.size ≤ ad E k o; rw [hAD k o]; omega, fun q h => h, rfl, rfl, hlocks⟩
  have hao1 : va_AO "CallForker$BindingRow" (cs C) := by rw [hC]; exact va_AO.of ho3
  have hao2 : va_AO "CallForker$Call" (cs C) := by rw [hC]; exact va_AO.of ho4
  have hEnd : ∀ (H : Heap) (locs : List Loc) (ls : Array Slot), va_S (cA C) (cs C).heap H locs → WC E C H locs 601024 7293034 (F0 (cm C) 1045 ls [.int 1]) := by
    rw [hC]
    intro H locs ls hs
    show W p E.1 e room_1 s m #[Value.ref b] below meth c H locs 601024 7293034 (lw_Z below #[Value.ref b] s) (F0 m 1045 ls [.int 1])
    rw [hl1]
    exact va_forget hs.2.2 (lw_ret hx hcode hret hlocks dL_law_1045)
  have hX' : va_X b L xs (cs C) (cs C).heap := by rw [hC]; exact hX
  have hbl' : b < (cs C).heap.size := by rw [hC]; exact hbl
  have hbA : ¬ cA C b := by rw [hC]; exact hAno b hbl
  have hlaw := L_law (kc0 := 154) (sc0 := 8000) X hX' hbl' hbA hL (by decide) (by decide) (hstep E) hEnd 513 0 μI (by decide) (by omega) hR0
  have K : KN E C s.heap.size 0 0 0 μ0 0 [(0, .ref b)] [] := by
    refine n_new X hAD (a := 0) (o := 0) tyX2 rfl (by decide) rfl rfl tyX2_ok wu_X2 wk_L_8 wx_X2 wn_X2 (fun j hj => by rcases (show j = 0 ∨ j = 1 ∨ j = 2 ∨ j = 3 ∨ j = 4 ∨ j = 5 ∨ j = 6 by omega) with rfl | rfl | rfl | rfl | rfl | rfl | rfl <;> rfl) (by decide) (by decide) dL_law_0 ?_
    refine n_dup X dL_law_3 rfl ?_
    refine n_callI X hao1 hao2 wc_X2_init wm_L_61 wi_X2_init wn_X2 rfl (by decide) (C_X2_init hAD) (by simp [Value.category]) ⟨by decide, by decide⟩ ⟨by decide, by decide⟩ dL_law_4 ?_
    refine n_astore_n X dL_law_7 rfl (by decide) rfl ?_
    refine n_new X hAD (a := 16) (o := 0) tyX3 rfl (by decide) rfl rfl tyX3_ok wu_X3 wk_L_62 wx_X3 wn_X3 (fun j hj => by rcases (show j = 0 ∨ j = 1 ∨ j = 2 ∨ j = 3 ∨ j = 4 ∨ j = 5 ∨ j = 6 ∨ j = 7 ∨ j = 8 ∨ j = 9 ∨ j = 10 ∨ j = 11 ∨ j = 12 ∨ j = 13 ∨ j = 14 ∨ j = 15 ∨ j = 16 ∨ j = 17 ∨ j = 18 by omega) with rfl | rfl | rfl | rfl | rfl | rfl | rfl | rfl | rfl | rfl | rfl | rfl | rfl | rfl | rfl | rfl | rfl | rfl | rfl <;> rfl) (by decide) (by decide) dL_law_8 ?_
    refine n_dup X dL_law_11 rfl ?_
    refine n_callI X hao1 hao2 wc_X3_init wm_L_64 wi_X3_init wn_X3 rfl (by decide) (C_X3_init hAD) (by simp [Value.category]) ⟨by decide, by decide⟩ ⟨by decide, by decide⟩ dL_law_12 ?_
    refine n_astore_n X dL_law_15 rfl (by decide) rfl ?_
    refine n_iconst X (nI 1) dL_law_16 (by decide) ?_
    refine n_newl X hAD rfl (by decide) (by decide) dL_law_17 ?_
    refine n_astore_n X dL_law_19 rfl (by decide) rfl ?_
    refine n_toK μI_FL ?_
    refine k_iconst X (nI 0) dL_law_20 (by decide) ?_
    refine k_istore X dL_law_21 (by decide) rfl ?_
    refine k_wide (k' := 154 + 2 * 0) (n' := 8000 + 12 * 0) (by decide) (by decide) ?_
    exact hlaw
  have hl := lv_entry ([.ref b]) (n := 7) (Nat.le_of_ble_eq_true rfl)
  rw [lg_entry_eq]
  have K2 := K s.heap [] _ rfl (fun k o _ h => absurd h (Nat.not_lt_zero _)) (by rw [hC]; exact va_S.rf) (by rw [hC]; exact hl)
  rw [hC] at K2
  have K3 : W p E.1 e room_1 s m #[Value.ref b] below meth c s.heap [] 0 0 (lw_Z below #[Value.ref b] s) _ := K2
  rw [hl1] at K3
  exact K3
