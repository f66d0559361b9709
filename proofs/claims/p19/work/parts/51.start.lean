/-! THE CLAIM OUT OF ONE WALK OF THE LAW'S BODY. Your part is whole_start (and what it stands on); all else here is the same for every law, but numbers. -/
def R_law : String := "CallForkerLaw"
def lw_P (b : Addr) (xs : List Int32) (args : Array Value) (s : State) : Prop := args = #[.ref b] ∧ s.IntsAt b xs ∧ xs.length ≤ 260 ∧ (Jvm.Cond.and given_1 narrow_1).before args s = true
def lw_Q (_ : Array Value) (s : State) (o : Outcome) (t : State) : Prop := o = .returned (some (.int 1)) ∧ Framed s o t [] 600086 7301442
def lw_Z (below : List Frame) (a : Array Value) (s : State) : State → Prop := fun t => ∃ o, t.status = .running ∧ Ended t below o ∧ lw_Q a s o t
/-- the law's own end, with 1 on the stack, nothing written that was there before, its room as the claim has it -/
theorem lw_ret {p : Program} {l : Launch} {e : Env} {s : State} {m : MethodId} {below : List Frame} {meth : Method} {c : Code} {b : Nat} (hx : p.tables.exec = Jvm.exec) (hb : c.code = code) (hr : meth.sig.returnType = ret) (hlocks : meth.locks = false) {pc : Nat} {H : Heap} {ls : Array Slot} (hdg : decode code pc = .ok (.ireturn, 1)) : W p l e room_1 s m #[Value.ref b] below meth c H [] 600086 7301442 (lw_Z below #[Value.ref b] s) (F0 m pc ls [.int 1]) := by
  intro T hT X
  obtain ⟨fs, hret, hrun, hended, hW, hframe⟩ := X.leave (v := some (.int 1)) (hlocks := hlocks) (fun h => by rw [hr] at h; cases h)
  have hmeth' : T.vm.method? m = some meth := X.method'
  refine ⟨T.setFrames fs, ?_, .returned (some (.int 1)), hrun, hended, rfl, ⟨_, rfl⟩, hW, hframe⟩
  jvm_step X.here [X.here.top, hx, hb, hdg, hmeth', hr, ret, narrow_b1]
  (try refine ⟨rfl, ?_⟩); (try refine ⟨rfl, ?_⟩)
  first | (intro acts; rw [hret _ acts rfl rfl rfl]) | rw [hret _ _ rfl rfl rfl]
  exact Steps.refl _
/-- what holds at the law's entry: the machine, the code, the tables' words (any of lw_tbl by 'hts w (by decide +kernel)'), the script of L ints xs at the cell b, what the Statement gives of the start (any of its parts by flat_of_before) -/
def lw_At (p : Program) (s : State) (m : MethodId) (meth : Method) (c : Code) (b L : Nat) (xs : Nat → Int32) : Prop :=
  p.tables.exec = Jvm.exec ∧ c.code = code ∧ meth.sig.returnType = ret ∧ c.maxLocals = 9 ∧ s.vm.findClass R_law = some m.cls ∧ (∀ w ∈ lw_tbl, w.before #[Value.ref b] s = true) ∧ va_X b L xs s s.heap ∧ b < s.heap.size ∧ meth.locks = false ∧ (Jvm.Cond.and given_1 narrow_1).before #[Value.ref b] s = true

theorem n_toK {E : EE} {C : Ctx} {b k n pc : Nat} {μ : Mem} {L : List (Nat × Value)} {S : List Value} (hF : FL μ) (kk : KF E C k n μ pc L S) : KN E C b k n 137 μ pc L S := fun H locs ls _ hw hs hl => kk H locs ls (hw.all hF) hs hl

theorem arr_of {s : State} {args : Array Value} {ty : FieldType} (h : (Cond.arrayClass ty).before args s = true) : ∃ cA : ClassId, ArrOfT s cA ty ∧ s.vm.findClass ("[" ++ ty.toString) = some cA := by
  obtain ⟨cA, kA, comp, h1, h2, h3⟩ := Cond.arrayClass_spec h
  exact ⟨cA, fun n z => ⟨fun k h => (by cases h), kA, h2, comp, h3⟩, h1⟩

theorem arr_ofq {s : State} {args : Array Value} {Cn : String} (h : (Cond.arrayOver (.object Cn)).before args s = true) : ∃ cA : ClassId, ArrOfT s cA (.object Cn) ∧ va_RA s cA (.object Cn) := by
  obtain ⟨comp, cA, kA, h1, h2, h3, h4, h5⟩ := Cond.arrayOver_spec h
  exact ⟨cA, fun n z => ⟨fun k h => (by cases h), kA, h3, comp, h4⟩, kA, comp, h3, h4, h1, h5⟩

theorem flat_str : ∀ q ∈ STRS, Cond.exactly (.string "CallForker" q.1) "java/lang/String" ∈ flatC (Jvm.Cond.and given_1 narrow_1) := by decide +kernel

theorem tbl_str : ∀ q ∈ STRS, Cond.stringRef "CallForker" q.1 q.2 ∈ lw_tbl := by decide +kernel

theorem tbl_WN : ∀ w ∈ WN, w ∈ lw_tbl := by decide +kernel

theorem nw_onT {w : Cond} (h : nwk w = true) : w.onTables = true := by cases w <;> first | rfl | cases h

theorem J0 : JX 0 0 0 μI := by
  have e : ∀ u i, u < 6 → i < 16 → thB μI u (nI 0) i = false := fun u i hu hi => by
    unfold thB
    rw [μI_9 hu hi, decide_eq_true rfl]
    rfl
  refine ⟨⟨by decide, by rw [μI_05]; decide, by rw [μI_06]; decide, by decide, by decide, fun u hu => ⟨⟨0, fun p => p, by decide, by rw [μI_64 hu]; decide, fun p hp => absurd hp (Nat.not_lt_zero p), fun p p' hp => absurd hp (Nat.not_lt_zero p), fun t ht => Or.inl ⟨μI_9 hu ht, fun p hp => absurd hp (Nat.not_lt_zero p)⟩⟩, ?_⟩, fun c hc => absurd hc (Nat.not_lt_zero c), fun c _ hc => ?_⟩, by rw [μI_16]; decide, by rw [μI_16]; decide, by rw [μI_16]; decide, fun d hd => by rw [μI_16, μI_3], 0, by decide, by rw [μI_16]; decide, fun c hc => ?_⟩
  · rw [coN_m1, ctB_none fun i hi => e u i hu hi]
    decide
  · obtain ⟨a1, a2, a3, a4, a5⟩ := μI_11 hc
    exact ⟨a1, a2, a3, a4, a5, fun b _ => μI_15 hc⟩
  · rw [Nat.zero_testBit, (μI_11 (show c < 20 by omega)).2.2.2.2, decide_eq_true rfl]
    rfl
theorem J0_b : coN μI 5 (-1) (nI 0) = 0 := by
  rw [coN_m1]
  exact ctB_none fun i hi => by
    unfold thB
    rw [μI_9 (by decide) hi, decide_eq_true rfl]
    rfl

set_option maxHeartbeats 4000000 in
set_option maxRecDepth 100000 in
theorem L0_L_law {E : EE} {C : Ctx} (X : Cx E C cL_law RL 9 room_1) {b LL kc sc : Nat} {xs : Nat → Int32} (hX : va_X b LL xs (cs C) (cs C).heap) (hbl : b < (cs C).heap.size) (hbA : ¬ cA C b) (hL : LL ≤ 260) (hkc : kc ≤ 600086 ∧ sc ≤ 7301442) (hx : ∀ n9, n9 ≤ 80 → 3 * n9 ≤ LL → KF E C kc sc μI 73 [(5, .int (nI 0)), (4, .int (nI n9)), (3, .int (nI 1)), (0, .ref b), (1, .ref (ad E 0 0)), (2, .ref (ad E 16 0))] []) : KF E C kc sc μI 13 [(2, .ref (ad E 16 0)), (1, .ref (ad E 0 0)), (0, .ref b)] [] := by
  refine k_aload_n X 1 dL_law_13 rfl rfl ?_
  refine k_callV (a := 0) (o := 0) (As := []) (S := []) X lk_L_85 rfl (by decide) rfl (N_time J0.1) rfl rfl (Nat.le_of_ble_eq_true rfl) ⟨Nat.le_of_ble_eq_true rfl, Nat.le_of_ble_eq_true rfl⟩ ⟨(by show kc + 0 ≤ 600086; omega), (by show sc + 0 ≤ 7301442; omega)⟩ dL_law_14 ?_
  show KF E C kc sc μI 17 _ [.int (nI 0)]
  refine k_if_ne_f (tgt := 48) X dL_law_17 (by decide) (by decide) ?_
  refine k_aload_n X 1 dL_law_20 rfl rfl ?_
  refine k_callV (a := 0) (o := 0) (As := []) (S := []) X lk_L_47 rfl (by decide) rfl (N_calls J0.1) rfl rfl (Nat.le_of_ble_eq_true rfl) ⟨Nat.le_of_ble_eq_true rfl, Nat.le_of_ble_eq_true rfl⟩ ⟨(by show kc + 0 ≤ 600086; omega), (by show sc + 0 ≤ 7301442; omega)⟩ dL_law_21 ?_
  show KF E C kc sc μI 24 _ [.int (nI 0)]
  refine k_if_ne_f (tgt := 48) X dL_law_24 (by decide) (by decide) ?_
  refine k_aload_n X 1 dL_law_27 rfl rfl ?_
  refine k_iconst X (nI 5) dL_law_28 (by decide) ?_
  refine k_callV (a := 0) (o := 0) (As := [.int (nI 5)]) (S := []) X lk_L_30 rfl (by decide) rfl (N_bindings J0.1 5 0 (by decide) J0_b) rfl rfl (Nat.le_of_ble_eq_true rfl) ⟨Nat.le_of_ble_eq_true rfl, Nat.le_of_ble_eq_true rfl⟩ ⟨(by show kc + 0 ≤ 600086; omega), (by show sc + 0 ≤ 7301442; omega)⟩ dL_law_29 ?_
  show KF E C kc sc μI 32 _ [.int (nI 0)]
  refine k_if_ne_f (tgt := 48) X dL_law_32 (by decide) (by decide) ?_
  refine k_aload_n X 1 dL_law_35 rfl rfl ?_
  refine k_bipush X (nI 9) dL_law_36 (by decide) ?_
  refine k_callV (a := 0) (o := 0) (As := [.int (nI 9)]) (S := []) X lk_L_79 rfl (by decide) rfl (N_hungUp 9 (by decide)) rfl rfl (Nat.le_of_ble_eq_true rfl) ⟨Nat.le_of_ble_eq_true rfl, Nat.le_of_ble_eq_true rfl⟩ ⟨(by show kc + 0 ≤ 600086; omega), (by show sc + 0 ≤ 7301442; omega)⟩ dL_law_38 ?_
  show KF E C kc sc μI 41 _ [.int (μI 3 0 9)]
  refine k_if_ne_f (tgt := 48) X dL_law_41 (by decide) μI_3 ?_
  refine k_iconst X (nI 1) dL_law_44 (by decide) ?_
  refine k_goto (tgt := 49) X dL_law_45 (by decide) ?_
  refine k_istore_n (L' := [(3, .int (nI 1)), (2, .ref (ad E 16 0)), (1, .ref (ad E 0 0)), (0, .ref b)]) X dL_law_49 rfl (by decide) rfl ?_
  refine k_aload_n X 3 dL_law_50 rfl rfl ?_
  refine k_slen X hX hbl hbA dL_law_51 ?_
  refine k_iconst X (nI 3) dL_law_52 (by decide) ?_
  refine k_idiv X dL_law_53 (by decide) ?_
  refine k_val (y := nI (LL / 3)) (pk_div (by omega) (by omega) (by omega)) ?_
  refine k_bipush X (nI 80) dL_law_54 (by decide) ?_
  refine k_icmp_le (tgt := 64) X dL_law_56 (by decide) (fun c56 => ?_) (fun c56 => ?_)
  · refine k_aload_n X 3 dL_law_64 rfl rfl ?_
    refine k_slen X hX hbl hbA dL_law_65 ?_
    refine k_iconst X (nI 3) dL_law_66 (by decide) ?_
    refine k_idiv X dL_law_67 (by decide) ?_
    refine k_val (y := nI (LL / 3)) (pk_div (by omega) (by omega) (by omega)) ?_
    refine k_istore (L' := [(4, .int (nI (LL / 3))), (3, .int (nI 1)), (2, .ref (ad E 16 0)), (1, .ref (ad E 0 0)), (0, .ref b)]) X dL_law_68 (by decide) rfl ?_
    refine k_iconst X (nI 0) dL_law_70 (by decide) ?_
    refine k_istore (L' := [(5, .int (nI 0)), (4, .int (nI (LL / 3))), (3, .int (nI 1)), (2, .ref (ad E 16 0)), (1, .ref (ad E 0 0)), (0, .ref b)]) X dL_law_71 (by decide) rfl ?_
    refine k_pick (L' := [(5, .int (nI 0)), (4, .int (nI (LL / 3))), (3, .int (nI 1)), (0, .ref b), (1, .ref (ad E 0 0)), (2, .ref (ad E 16 0))]) [0, 1, 2, 5, 4, 3] rfl ?_
    exact hx (LL / 3) ((nI_leI (by omega) (by decide)).mp c56) (by omega)
  · refine k_bipush X (nI 80) dL_law_59 (by decide) ?_
    refine k_goto (tgt := 68) X dL_law_61 (by decide) ?_
    refine k_istore (L' := [(4, .int (nI 80)), (3, .int (nI 1)), (2, .ref (ad E 16 0)), (1, .ref (ad E 0 0)), (0, .ref b)]) X dL_law_68 (by decide) rfl ?_
    refine k_iconst X (nI 0) dL_law_70 (by decide) ?_
    refine k_istore (L' := [(5, .int (nI 0)), (4, .int (nI 80)), (3, .int (nI 1)), (2, .ref (ad E 16 0)), (1, .ref (ad E 0 0)), (0, .ref b)]) X dL_law_71 (by decide) rfl ?_
    refine k_pick (L' := [(5, .int (nI 0)), (4, .int (nI 80)), (3, .int (nI 1)), (0, .ref b), (1, .ref (ad E 0 0)), (2, .ref (ad E 16 0))]) [0, 1, 2, 5, 4, 3] rfl ?_
    exact hx 80 (Nat.le_refl _) (by have : ¬ LL / 3 ≤ 80 := fun z => c56 ((nI_leI (by omega) (by decide)).mpr z); omega)

/-- the walk of the law -/
theorem start_of {p : Program} {e : Env} {s : State} {m : MethodId} {below : List Frame} {meth : Method} {c : Code} (l : Launch) (hflags : l.flags = flags0) {b L : Nat} {xs : Nat → Int32} (hL : L ≤ 260) (C0 : lw_At p s m meth c b L xs) : W p l e room_1 s m #[Value.ref b] below meth c s.heap [] 0 0 (lw_Z below #[Value.ref b] s) (entryFrame m ([Value.ref b] : List Value).toArray 9) := by
  obtain ⟨hx, hcode, hret, hml, hown, hts, hX, hbl, hlocks, hgv⟩ := C0
  have hgf := flat_of_before _ hgv
  have hW : ∀ w ∈ WALL, w.before #[Value.ref b] s = true := fun w hw => hts w (List.mem_filter.mp hw).1
  obtain ⟨c0, i0, K0⟩ := u_known (C := RX0) (T := TX0) (N := 5) hW wu_X0 (hW _ wx_X0)
  obtain ⟨c1, i1, K1⟩ := u_known (C := RX1) (T := TX1) (N := 10) hW wu_X1 (hW _ wx_X1)
  obtain ⟨c2, i2, K2⟩ := u_known (C := RX2) (T := TX2) (N := 7) hW wu_X2 (hW _ wx_X2)
  obtain ⟨a0, ta0, na0⟩ := arr_of (hW _ wa_int)
  obtain ⟨a1, ta1, na1⟩ := arr_of (hW _ wa_boolean)
  have ho3 : (Cond.arrayOver (.object "CallForker$BindingRow")).before #[Value.ref b] s = true := hts _ (by decide +kernel)
  have ho4 : (Cond.arrayOver (.object "CallForker$Call")).before #[Value.ref b] s = true := hts _ (by decide +kernel)
  obtain ⟨a3, ta3, ra3⟩ := arr_ofq ho3
  obtain ⟨a4, ta4, ra4⟩ := arr_ofq ho4
  have hE : ∃ E : EE, E = (l, ((fun k => match k with | 0 => c0 | 1 => c1 | _ => c2), (fun k => match k with | 0 => i0 | 1 => i1 | _ => i2)), (fun k => match k with | 0 => a0 | 1 => a1 | 2 => a0 | 3 => a3 | _ => a4), fun k o => s.heap.size + offs k o) := ⟨_, rfl⟩
  obtain ⟨E, hE⟩ := hE
  have hAD : AD E s.heap.size := by rw [hE]; intro k o; rfl
  have hl1 : E.1 = l := by rw [hE]
  have hK : va_K E.2.1 vwCl (tysG E) s := by
    rw [hE]
    refine ⟨fun k q hq => ?_, fun k q hq => ?_⟩
    · rcases Nat.lt_or_ge k 3 with hk | hk
      · rcases (show k = 0 ∨ k = 1 ∨ k = 2 by omega) with rfl | rfl | rfl <;> (cases hq; assumption)
      · rw [List.getElem?_eq_none hk] at hq; cases hq
    · rcases Nat.lt_or_ge k 5 with hk | hk
      · rcases (show k = 0 ∨ k = 1 ∨ k = 2 ∨ k = 3 ∨ k = 4 by omega) with rfl | rfl | rfl | rfl | rfl <;> cases hq
        · exact ⟨ta0, na0⟩
        · exact ⟨ta1, na1⟩
        · exact ⟨ta0, na0⟩
        · exact ⟨ta3, ra3⟩
        · exact ⟨ta4, ra4⟩
      · rw [List.getElem?_eq_none hk] at hq; cases hq
  have hst : l.stackTraces = false := by unfold Launch.stackTraces; rw [hflags]; decide
  have hSX : SX E s := by
    refine ⟨hK, hAD.inj, by rw [hl1]; exact hst, fun w hw => va_Nw.of (nw_onT (List.all_eq_true.mp WN_ok w hw)) (hts w (tbl_WN w hw)), fun q hq => absurd hq List.not_mem_nil, fun q hq => ?_⟩
    obtain ⟨a, c9, cell, k9, q1, -⟩ := Cond.exactly_spec (hgf _ (flat_str q hq))
    refine ⟨a, ?_⟩
    have h1 : (Cond.stringRef "CallForker" q.1 q.2).before #[Value.ref b] s = true := hts _ (tbl_str q hq)
    have h2 := vk_R.of h1 (by exact q1)
    exact h2
  have hAno : ∀ a : Nat, a < s.heap.size → ¬ (fun q : Nat => s.heap.size ≤ q) a := fun a h1 h2 => absurd h1 (Nat.not_lt.mpr h2)
  have hZQ : ZQ (fun q : Nat => s.heap.size ≤ q) s s.heap := ⟨vx_Zqof (hts _ (by decide +kernel)) (hts _ (by decide +kernel)) (hgf _ (by decide +kernel)) hAno, vx_Zqof (hts _ (by decide +kernel)) (hts _ (by decide +kernel)) (hgf _ (by decide +kernel)) hAno⟩
  have hC : ∃ C : Ctx, C = (p, e, room_1, s, m, #[Value.ref b], below, meth, c, lw_Z below #[Value.ref b] s, (fun q : Nat => s.heap.size ≤ q), 9) := ⟨_, rfl⟩
  obtain ⟨C, hC⟩ := hC
  have X : Cx E C cL_law RL 9 room_1 := by
    rw [hC]
    exact ⟨hx, hcode, hml, hown, hW, hSX, hZQ, fun k o _ => by show s.heap.size ≤ ad E k o; rw [hAD k o]; omega, fun q h => h, rfl, rfl, hlocks⟩
  have hao1 : va_AO "CallForker$BindingRow" (cs C) := by rw [hC]; exact va_AO.of ho3
  have hao2 : va_AO "CallForker$Call" (cs C) := by rw [hC]; exact va_AO.of ho4
  have hEnd : ∀ (H : Heap) (locs : List Loc) (ls : Array Slot), va_S (cA C) (cs C).heap H locs → WC E C H locs 600086 7301442 (F0 (cm C) 191 ls [.int 1]) := by
    rw [hC]
    intro H locs ls hs
    show W p E.1 e room_1 s m #[Value.ref b] below meth c H locs 600086 7301442 (lw_Z below #[Value.ref b] s) (F0 m 191 ls [.int 1])
    rw [hl1]
    exact va_forget hs.2.2 (lw_ret hx hcode hret hlocks dL_law_191)
  have hX' : va_X b L xs (cs C) (cs C).heap := by rw [hC]; exact hX
  have hbl' : b < (cs C).heap.size := by rw [hC]; exact hbl
  have hbA : ¬ cA C b := by rw [hC]; exact hAno b hbl
  have hx190 : ∀ μ : Mem, KF E C 137 1921 μ 190 [(3, .int (nI 1))] [] := fun μ => by
    refine k_iload_n X 0 dL_law_190 rfl rfl ?_
    refine k_val (y := 1) (by decide) ?_
    refine k_wide (k' := 600086) (n' := 7301442) (by decide) (by decide) ?_
    exact fun H locs ls _ hs _ => hEnd H locs ls hs
  have hlaw : KF E C 137 1921 μI 13 [(2, .ref (ad E 16 0)), (1, .ref (ad E 0 0)), (0, .ref b)] [] :=
    L0_L_law X hX' hbl' hbA hL ⟨by decide, by decide⟩ fun n9 h1 h2 => L2_L_law n9 h1 hX' hbl' hbA hL ⟨by decide, by decide⟩ h2 X hx190 (n9 + 1) 0 μI 0 0 0 (by omega) (Nat.zero_le _) (Nat.le_refl _) (Nat.le_refl _) J0
  have K : KN E C s.heap.size 0 0 0 μ0 0 [(0, .ref b)] [] := by
    refine n_new X hAD (a := 0) (o := 0) tyX2 rfl (by decide) rfl rfl tyX2_ok wu_X2 wk_L_31 wx_X2 wn_X2 (fun j hj => by rcases (show j = 0 ∨ j = 1 ∨ j = 2 ∨ j = 3 ∨ j = 4 ∨ j = 5 ∨ j = 6 by omega) with rfl | rfl | rfl | rfl | rfl | rfl | rfl <;> rfl) (by decide) (by decide) dL_law_0 ?_
    refine n_dup X dL_law_3 rfl ?_
    refine n_callI X hao1 hao2 wc_X2_init wm_L_88 wi_X2_init wn_X2 rfl (by decide) (C_X2_init hAD) (by simp [Value.category]) ⟨by decide, by decide⟩ ⟨by decide, by decide⟩ dL_law_4 ?_
    refine n_astore_n X dL_law_7 rfl (by decide) rfl ?_
    refine n_bipush X (nI 14) dL_law_8 (by decide) ?_
    refine n_newi X hAD (a := 16) (o := 0) rfl (by decide) rfl (by decide) (by decide) (by decide) dL_law_10 ?_
    refine n_astore_n X dL_law_12 rfl (by decide) rfl ?_
    refine n_toK μI_FL ?_
    refine k_wide (k' := 137) (n' := 1921) (by decide) (by decide) ?_
    exact hlaw
  have hl := lv_entry ([.ref b]) (n := 9) (Nat.le_of_ble_eq_true rfl)
  rw [lg_entry_eq]
  have K2 := K s.heap [] _ rfl (fun k o _ h => absurd h (Nat.not_lt_zero _)) (by rw [hC]; exact va_S.rf) (by rw [hC]; exact hl)
  rw [hC] at K2
  have K3 : W p E.1 e room_1 s m #[Value.ref b] below meth c s.heap [] 0 0 (lw_Z below #[Value.ref b] s) _ := K2
  rw [hl1] at K3
  exact K3
