set_option maxHeartbeats 4000000 in
set_option maxRecDepth 100000 in
theorem L_X1_goOn {E : EE} {C : Ctx} (c n : Nat) (hc : c < 20) (hn12 : n ≤ 12) (now : Int32) (X : Cx E C cX1_goOn RX1 3 (rm 3 0)) : ∀ (j : Nat) (μ : Mem) (x : Int32), j ≤ 11 → x = nI j - 1 → μ 11 c 4 = nI n → EndV E C cX1_goOn 0 0 (gfM (goM c n now j μ) c n) → KF E C 0 0 μ 7 [(2, .int x), (0, .ref (ad E 11 c)), (1, .int now)] [] := by
  intro j
  induction j with
  | zero =>
    intro μ x hj hx hn hE
    obtain rfl : x = -1 := by rw [hx]; decide
    refine k_iload_n X 0 dX1_goOn_7 rfl rfl ?_
    refine k_if_lt_t (tgt := 30) X dX1_goOn_8 (by decide) (by decide) ?_
    refine k_aload_n X 1 dX1_goOn_30 rfl rfl ?_
    refine k_callV (a := 11) (o := c) (As := []) (S := []) X lk_X1_57 rfl hc rfl (C_X1_isWaiting c n hc hn hn12) rfl rfl (Nat.le_of_ble_eq_true rfl) ⟨Nat.le_of_ble_eq_true rfl, Nat.le_of_ble_eq_true rfl⟩ ⟨Nat.le_of_ble_eq_true rfl, Nat.le_of_ble_eq_true rfl⟩ dX1_goOn_31 ?_
    show KF E C 0 0 μ 34 _ [.int (bp (anB (wtP μ c) n = true))]
    refine k_if_ne_p (tgt := 45) X dX1_goOn_34 (by decide) (fun c34 => ?_) (fun c34 => ?_)
    · exact k_vret dX1_goOn_45 hE (if_pos c34).symm
    · refine k_aload_n X 1 dX1_goOn_37 rfl rfl ?_
      refine k_aload_n X 1 dX1_goOn_38 rfl rfl ?_
      refine k_callV (a := 11) (o := c) (As := []) (S := [.ref (ad E 11 c)]) X lk_X1_65 rfl hc rfl (C_X1_bestEnd c n hc hn hn12) rfl rfl (Nat.le_of_ble_eq_true rfl) ⟨Nat.le_of_ble_eq_true rfl, Nat.le_of_ble_eq_true rfl⟩ ⟨Nat.le_of_ble_eq_true rfl, Nat.le_of_ble_eq_true rfl⟩ dX1_goOn_39 ?_
      show KF E C 0 0 μ 42 _ [.int (beI (μ 14 c) n), .ref (ad E 11 c)]
      refine pt_X1_38 X hc dX1_goOn_42 ?_
      exact k_vret dX1_goOn_45 hE (if_neg c34).symm
  | succ j ih =>
    intro μ x hj hx hn hE
    obtain rfl : x = nI j := by rw [hx]; exact nI_pred j
    refine k_iload_n X 0 dX1_goOn_7 rfl rfl ?_
    refine k_if_lt_f (tgt := 30) X dX1_goOn_8 (by decide) (nI_pos (by omega)) ?_
    refine k_aload_n X 1 dX1_goOn_11 rfl rfl ?_
    refine k_callV (a := 11) (o := c) (As := []) (S := []) X lk_X1_57 rfl hc rfl (C_X1_isWaiting c n hc hn hn12) rfl rfl (Nat.le_of_ble_eq_true rfl) ⟨Nat.le_of_ble_eq_true rfl, Nat.le_of_ble_eq_true rfl⟩ ⟨Nat.le_of_ble_eq_true rfl, Nat.le_of_ble_eq_true rfl⟩ dX1_goOn_12 ?_
    show KF E C 0 0 μ 15 _ [.int (bp (anB (wtP μ c) n = true))]
    refine k_if_ne_p (tgt := 30) X dX1_goOn_15 (by decide) (fun c15 => ?_) (fun c15 => ?_)
    · refine k_aload_n X 1 dX1_goOn_30 rfl rfl ?_
      refine k_callV (a := 11) (o := c) (As := []) (S := []) X lk_X1_57 rfl hc rfl (C_X1_isWaiting c n hc hn hn12) rfl rfl (Nat.le_of_ble_eq_true rfl) ⟨Nat.le_of_ble_eq_true rfl, Nat.le_of_ble_eq_true rfl⟩ ⟨Nat.le_of_ble_eq_true rfl, Nat.le_of_ble_eq_true rfl⟩ dX1_goOn_31 ?_
      show KF E C 0 0 μ 34 _ [.int (bp (anB (wtP μ c) n = true))]
      refine k_if_ne_t (tgt := 45) X dX1_goOn_34 (by decide) (by rw [bp_t c15]; decide) ?_
      exact k_vret dX1_goOn_45 hE (by rw [goM_w c15]; exact (if_pos c15).symm)
    · refine k_aload_n X 1 dX1_goOn_18 rfl rfl ?_
      refine k_iload_n X 0 dX1_goOn_19 rfl rfl ?_
      refine k_iload_n X 2 dX1_goOn_20 rfl rfl ?_
      refine k_callV (a := 11) (o := c) (As := [.int (nI j), .int now]) (S := []) X lk_X1_61 rfl hc rfl (C_X1_startGroup c n hc hn hn12 _ _) rfl rfl (Nat.le_of_ble_eq_true rfl) ⟨Nat.le_of_ble_eq_true rfl, Nat.le_of_ble_eq_true rfl⟩ ⟨Nat.le_of_ble_eq_true rfl, Nat.le_of_ble_eq_true rfl⟩ dX1_goOn_21 ?_
      show KF E C 0 0 (sgM μ c n (nI j) now) 24 _ []
      refine k_iinc (v := nI j - 1) (L' := [(2, .int (nI j - 1)), (0, .ref (ad E 11 c)), (1, .int now)]) X 0 dX1_goOn_24 rfl (sub1 _) (by decide) rfl ?_
      refine k_goto (tgt := 7) X dX1_goOn_27 (by decide) ?_
      exact ih (sgM μ c n (nI j) now) _ (by omega) rfl (by rw [sgM_n]; exact hn) (by rw [← goM_n c15]; exact hE)

set_option maxHeartbeats 4000000 in
set_option maxRecDepth 100000 in
theorem C_X1_goOn {E : EE} {μ : Mem} (c n : Nat) (hc : c < 20) (hn : μ 11 c 4 = nI n) (hn12 : n ≤ 12) (s : Nat) (hs : μ 11 c 5 = nI s) (hs11 : s ≤ 11) (now : Int32) : MM E yX1_goOn cX1_goOn 3 none (rm 3 0) [.ref (ad E 11 c), .int now] μ none (goOnM μ c n s now) := by
  refine MM.void (own := RX1) [(0, .ref (ad E 11 c)), (1, .int now)] rfl rfl rfl (Nat.le_of_ble_eq_true rfl) (fun C X hE => ?_)
  refine k_aload_n X 0 dX1_goOn_0 rfl rfl ?_
  refine gt_X1_29 X hc dX1_goOn_1 ?_
  refine k_val (y := nI s) hs ?_
  refine k_iconst X 1 dX1_goOn_4 (by decide) ?_
  refine k_isub X dX1_goOn_5 ?_
  refine k_istore_n (L' := [(2, .int ((nI s) - 1)), (0, .ref (ad E 11 c)), (1, .int now)]) X dX1_goOn_6 rfl (by decide) rfl ?_
  exact L_X1_goOn c n hc hn12 now X s μ _ hs11 rfl hn hE

set_option maxHeartbeats 4000000 in
set_option maxRecDepth 100000 in
theorem C_X1_begin {E : EE} {μ : Mem} (c n : Nat) (hc : c < 20) (hn : μ 11 c 4 = nI n) (hn12 : n ≤ 12) (s : Nat) (hs : μ 11 c 5 = nI s) (hs11 : s ≤ 11) (now : Int32) : MM E yX1_begin cX1_begin 2 none (rm 4 0) [.ref (ad E 11 c), .int now] μ none (bgM μ c n s now) := by
  refine MM.void (own := RX1) [(0, .ref (ad E 11 c)), (1, .int now)] rfl rfl rfl (Nat.le_of_ble_eq_true rfl) (fun C X hE => ?_)
  refine k_aload_n X 0 dX1_begin_0 rfl rfl ?_
  refine gt_X1_25 X hc dX1_begin_1 ?_
  refine k_val (y := nI n) hn ?_
  refine k_if_ne (tgt := 17) X dX1_begin_4 (by decide) (fun c4 => ?_) (fun c4 => ?_)
  · refine k_aload_n X 0 dX1_begin_17 rfl rfl ?_
    refine k_iload_n X 1 dX1_begin_18 rfl rfl ?_
    refine k_callV (a := 11) (o := c) (As := [.int now]) (S := []) X lk_X1_53 rfl hc rfl (C_X1_goOn c n hc hn hn12 s hs hs11 _) rfl rfl (Nat.le_of_ble_eq_true rfl) ⟨Nat.le_of_ble_eq_true rfl, Nat.le_of_ble_eq_true rfl⟩ ⟨Nat.le_of_ble_eq_true rfl, Nat.le_of_ble_eq_true rfl⟩ dX1_begin_19 ?_
    show KF E C 0 0 (goOnM μ c n s now) 22 _ []
    exact k_vret dX1_begin_22 hE (if_neg (fun h => c4 ((nI_z (by omega)).mpr h))).symm
  · refine k_aload_n X 0 dX1_begin_7 rfl rfl ?_
    refine k_sipush X 480 dX1_begin_8 (by decide) ?_
    refine pt_X1_38 X hc dX1_begin_11 ?_
    refine k_goto (tgt := 22) X dX1_begin_14 (by decide) ?_
    exact k_vret dX1_begin_22 hE (if_pos ((nI_z (by omega)).mp c4)).symm

set_option maxHeartbeats 4000000 in
set_option maxRecDepth 100000 in
theorem L_X1_endOpen {E : EE} {μ : Mem} {C : Ctx} (c n : Nat) (hc : c < 20) (hn : μ 11 c 4 = nI n) (hn12 : n ≤ 12) (X : Cx E C cX1_endOpen RX1 3 (rm 2 0)) (hE : EndI E C cX1_endOpen 0 0 (nI (eoN μ c n)) (eoM μ c n)) : ∀ (f : Nat) (i : Nat), n - i < f → i ≤ n → KF E C 0 0 (up μ 14 c 0 i (fun b => if 200 ≤ μ 14 c b then μ 14 c b else 487)) 4 [(2, .int (nI i)), (1, .int (nI (ctB (fun b => !decide (200 ≤ μ 14 c b)) i))), (0, .ref (ad E 11 c))] [] := by
  intro f
  induction f with
  | zero => intros; omega
  | succ f ih =>
    intro i hf hi
    refine k_iload_n X 0 dX1_endOpen_4 rfl rfl ?_
    refine k_aload_n X 2 dX1_endOpen_5 rfl rfl ?_
    refine gt_X1_25 X hc dX1_endOpen_6 ?_
    refine k_val (y := nI n) (by simp [st, up, sgM, sg1, eoM, rgM, hn]) ?_
    refine k_ge_n (a := i) (b := n) (tgt := 38) X dX1_endOpen_9 (by decide) rfl rfl (by omega) (by omega) (fun c9 => ?_) (fun c9 => ?_)
    · refine k_iload_n X 1 dX1_endOpen_38 rfl rfl ?_
      exact k_iret dX1_endOpen_39 hE (by rw [show i = n by omega]; rfl) (by rw [show i = n by omega]; rfl)
    · refine k_aload_n X 2 dX1_endOpen_12 rfl rfl ?_
      refine k_iload_n X 0 dX1_endOpen_13 rfl rfl ?_
      refine k_callV (a := 11) (o := c) (As := [.int (nI i)]) (S := []) X lk_X1_73 rfl hc rfl (C_X1_isEnded c i hc (by omega)) rfl rfl (Nat.le_of_ble_eq_true rfl) ⟨Nat.le_of_ble_eq_true rfl, Nat.le_of_ble_eq_true rfl⟩ ⟨Nat.le_of_ble_eq_true rfl, Nat.le_of_ble_eq_true rfl⟩ dX1_endOpen_14 ?_
      show KF E C 0 0 (up μ 14 c 0 i (fun b => if 200 ≤ μ 14 c b then μ 14 c b else 487)) 17 _ [.int (bp (200 ≤ (up μ 14 c 0 i (fun b => if 200 ≤ μ 14 c b then μ 14 c b else 487)) 14 c i))]
      refine k_val (y := bp (200 ≤ μ 14 c i)) (by rw [up0_next]) ?_
      refine k_if_ne_p (tgt := 32) X dX1_endOpen_17 (by decide) (fun c17 => ?_) (fun c17 => ?_)
      · refine k_iinc (v := nI (i + 1)) (L' := [(2, .int (nI (i + 1))), (1, .int (nI (ctB (fun b => !decide (200 ≤ μ 14 c b)) i))), (0, .ref (ad E 11 c))]) X 0 dX1_endOpen_32 rfl (nI_1 i) (by decide) rfl ?_
        refine k_goto (tgt := 4) X dX1_endOpen_35 (by decide) ?_
        have e1 := ctB_f (p := (fun b => !decide (200 ≤ μ 14 c b))) (n := i) (by rw [decide_eq_true c17]; rfl)
        refine k_mem (μ' := up μ 14 c 0 (i + 1) (fun b => if 200 ≤ μ 14 c b then μ 14 c b else 487)) (up0_no (if_pos c17)) ?_
        rw [← e1]
        exact ih (i + 1) (by omega) (by omega)
      · refine k_aload_n X 2 dX1_endOpen_20 rfl rfl ?_
        refine gt_X1_18 X hc dX1_endOpen_21 ?_
        refine k_iload_n X 0 dX1_endOpen_24 rfl rfl ?_
        refine k_sipush X 487 dX1_endOpen_25 (by decide) ?_
        refine k_iast (a := 14) (j := i) X rfl hc rfl (show i < 12 by omega) (by decide) dX1_endOpen_28 ?_
        refine k_iinc (v := nI (ctB (fun b => !decide (200 ≤ μ 14 c b)) i + 1)) (L' := [(1, .int (nI (ctB (fun b => !decide (200 ≤ μ 14 c b)) i + 1))), (2, .int (nI i)), (0, .ref (ad E 11 c))]) X 1 dX1_endOpen_29 rfl (nI_1 _) (by decide) rfl ?_
        refine k_iinc (v := nI (i + 1)) (L' := [(2, .int (nI (i + 1))), (1, .int (nI (ctB (fun b => !decide (200 ≤ μ 14 c b)) i + 1))), (0, .ref (ad E 11 c))]) X 1 dX1_endOpen_32 rfl (nI_1 i) (by decide) rfl ?_
        refine k_goto (tgt := 4) X dX1_endOpen_35 (by decide) ?_
        have e1 := ctB_t (p := (fun b => !decide (200 ≤ μ 14 c b))) (n := i) (by rw [decide_eq_false c17]; rfl)
        refine k_mem (μ' := up μ 14 c 0 (i + 1) (fun b => if 200 ≤ μ 14 c b then μ 14 c b else 487)) (up0_st (if_neg c17).symm) ?_
        rw [← e1]
        exact ih (i + 1) (by omega) (by omega)

set_option maxHeartbeats 4000000 in
set_option maxRecDepth 100000 in
theorem C_X1_endOpen {E : EE} {μ : Mem} (c n : Nat) (hc : c < 20) (hn : μ 11 c 4 = nI n) (hn12 : n ≤ 12) : MM E yX1_endOpen cX1_endOpen 3 (some .int) (rm 2 0) [.ref (ad E 11 c)] μ (some (.int (nI (eoN μ c n)))) (eoM μ c n) := by
  refine MM.int (own := RX1) [(0, .ref (ad E 11 c))] rfl rfl rfl (Nat.le_of_ble_eq_true rfl) rfl (fun C X hE => ?_)
  refine k_iconst X (nI 0) dX1_endOpen_0 (by decide) ?_
  refine k_istore_n (L' := [(1, .int (nI 0)), (0, .ref (ad E 11 c))]) X dX1_endOpen_1 rfl (by decide) rfl ?_
  refine k_iconst X (nI 0) dX1_endOpen_2 (by decide) ?_
  refine k_istore_n (L' := [(2, .int (nI 0)), (1, .int (nI 0)), (0, .ref (ad E 11 c))]) X dX1_endOpen_3 rfl (by decide) rfl ?_
  refine k_mem (μ' := up μ 14 c 0 0 (fun b => if 200 ≤ μ 14 c b then μ 14 c b else 487)) up_0.symm ?_
  exact L_X1_endOpen c n hc hn hn12 X hE (n + 1) 0 (by omega) (Nat.zero_le n)

set_option maxHeartbeats 4000000 in
set_option maxRecDepth 100000 in
theorem C_X1_takeAnswer {E : EE} {μ : Mem} (c n : Nat) (hc : c < 20) (hn : μ 11 c 4 = nI n) (hn12 : n ≤ 12) (s : Nat) (hs : μ 11 c 5 = nI s) (hs11 : s ≤ 11) (b : Nat) (hb : b < 12) (x now : Int32) : MM E yX1_takeAnswer cX1_takeAnswer 4 none (rm 4 0) [.ref (ad E 11 c), .int (nI b), .int x, .int now] μ none (taM μ c n s b x now) := by
  refine MM.void (own := RX1) [(0, .ref (ad E 11 c)), (1, .int (nI b)), (2, .int x), (3, .int now)] rfl rfl rfl (Nat.le_of_ble_eq_true rfl) (fun C X hE => ?_)
  refine k_aload_n X 0 dX1_takeAnswer_0 rfl rfl ?_
  refine gt_X1_18 X hc dX1_takeAnswer_1 ?_
  refine k_iload_n X 1 dX1_takeAnswer_4 rfl rfl ?_
  refine k_iload_n X 2 dX1_takeAnswer_5 rfl rfl ?_
  refine k_iast (a := 14) (j := b) X rfl hc rfl hb (by decide) dX1_takeAnswer_6 ?_
  refine k_iload_n X 2 dX1_takeAnswer_7 rfl rfl ?_
  refine k_sipush X 180 dX1_takeAnswer_8 (by decide) ?_
  refine k_icmp_ne (tgt := 15) X dX1_takeAnswer_11 (by decide) (fun c11 => ?_) (fun c11 => ?_)
  · refine k_iload_n X 2 dX1_takeAnswer_15 rfl rfl ?_
    refine k_sipush X 300 dX1_takeAnswer_16 (by decide) ?_
    refine k_icmp_ge (tgt := 40) X dX1_takeAnswer_19 (by decide) (fun c19 => ?_) (fun c19 => ?_)
    · refine k_iload_n X 2 dX1_takeAnswer_40 rfl rfl ?_
      refine k_sipush X 600 dX1_takeAnswer_41 (by decide) ?_
      refine k_icmp_lt (tgt := 63) X dX1_takeAnswer_44 (by decide) (fun c44 => ?_) (fun c44 => ?_)
      · refine k_aload_n X 0 dX1_takeAnswer_63 rfl rfl ?_
        refine k_iload_n X 3 dX1_takeAnswer_64 rfl rfl ?_
        refine k_callV (a := 11) (o := c) (As := [.int now]) (S := []) X lk_X1_53 rfl hc rfl (C_X1_goOn c n hc (by simp [st, up, sgM, sg1, eoM, rgM, hn]) hn12 s (by simp [st, up, rgM, hs]) hs11 _) rfl rfl (Nat.le_of_ble_eq_true rfl) ⟨Nat.le_of_ble_eq_true rfl, Nat.le_of_ble_eq_true rfl⟩ ⟨Nat.le_of_ble_eq_true rfl, Nat.le_of_ble_eq_true rfl⟩ dX1_takeAnswer_65 ?_
        show KF E C 0 0 (goOnM (st μ 14 c b x) c n s now) 68 _ []
        exact k_vret dX1_takeAnswer_68 hE (by unfold taM; rw [if_neg c11, if_pos c19, if_pos c44])
      · refine k_aload_n X 0 dX1_takeAnswer_47 rfl rfl ?_
        refine k_callV (a := 11) (o := c) (As := []) (S := []) X lk_X1_76 rfl hc rfl (C_X1_endOpen c n hc (by simp [st, up, sgM, sg1, eoM, rgM, hn]) hn12) rfl rfl (Nat.le_of_ble_eq_true rfl) ⟨Nat.le_of_ble_eq_true rfl, Nat.le_of_ble_eq_true rfl⟩ ⟨Nat.le_of_ble_eq_true rfl, Nat.le_of_ble_eq_true rfl⟩ dX1_takeAnswer_48 ?_
        show KF E C 0 0 (eoM (st μ 14 c b x) c n) 51 _ [.int (nI (eoN (st μ 14 c b x) c n))]
        refine k_pop X dX1_takeAnswer_51 rfl ?_
        refine k_aload_n X 0 dX1_takeAnswer_52 rfl rfl ?_
        refine k_aload_n X 0 dX1_takeAnswer_53 rfl rfl ?_
        refine k_callV (a := 11) (o := c) (As := []) (S := [.ref (ad E 11 c)]) X lk_X1_65 rfl hc rfl (C_X1_bestEnd c n hc (by simp [st, up, sgM, sg1, eoM, rgM, hn]) hn12) rfl rfl (Nat.le_of_ble_eq_true rfl) ⟨Nat.le_of_ble_eq_true rfl, Nat.le_of_ble_eq_true rfl⟩ ⟨Nat.le_of_ble_eq_true rfl, Nat.le_of_ble_eq_true rfl⟩ dX1_takeAnswer_54 ?_
        show KF E C 0 0 (eoM (st μ 14 c b x) c n) 57 _ [.int (beI ((eoM (st μ 14 c b x) c n) 14 c) n), .ref (ad E 11 c)]
        refine pt_X1_38 X hc dX1_takeAnswer_57 ?_
        refine k_goto (tgt := 68) X dX1_takeAnswer_60 (by decide) ?_
        exact k_vret dX1_takeAnswer_68 hE (by unfold taM; rw [if_neg c11, if_pos c19, if_neg c44])
    · refine k_aload_n X 0 dX1_takeAnswer_22 rfl rfl ?_
      refine k_iload_n X 1 dX1_takeAnswer_23 rfl rfl ?_
      refine pt_X1_35 X hc dX1_takeAnswer_24 ?_
      refine k_aload_n X 0 dX1_takeAnswer_27 rfl rfl ?_
      refine k_callV (a := 11) (o := c) (As := []) (S := []) X lk_X1_76 rfl hc rfl (C_X1_endOpen c n hc (by simp [st, up, sgM, sg1, eoM, rgM, hn]) hn12) rfl rfl (Nat.le_of_ble_eq_true rfl) ⟨Nat.le_of_ble_eq_true rfl, Nat.le_of_ble_eq_true rfl⟩ ⟨Nat.le_of_ble_eq_true rfl, Nat.le_of_ble_eq_true rfl⟩ dX1_takeAnswer_28 ?_
      show KF E C 0 0 (eoM (st (st μ 14 c b x) 11 c 7 (nI b)) c n) 31 _ [.int (nI (eoN (st (st μ 14 c b x) 11 c 7 (nI b)) c n))]
      refine k_pop X dX1_takeAnswer_31 rfl ?_
      refine k_aload_n X 0 dX1_takeAnswer_32 rfl rfl ?_
      refine k_iload_n X 2 dX1_takeAnswer_33 rfl rfl ?_
      refine pt_X1_38 X hc dX1_takeAnswer_34 ?_
      refine k_goto (tgt := 68) X dX1_takeAnswer_37 (by decide) ?_
      exact k_vret dX1_takeAnswer_68 hE (by unfold taM; rw [if_neg c11, if_neg c19])
  · exact k_vret dX1_takeAnswer_14 hE (by unfold taM; rw [if_pos c11])

set_option maxHeartbeats 4000000 in
set_option maxRecDepth 100000 in
theorem C_X1_cancelAll {E : EE} {μ : Mem} (c n : Nat) (hc : c < 20) (hn : μ 11 c 4 = nI n) (hn12 : n ≤ 12) : MM E yX1_cancelAll cX1_cancelAll 2 (some .int) (rm 3 0) [.ref (ad E 11 c)] μ (some (.int (nI (eoN μ c n)))) (caM μ c n) := by
  refine MM.int (own := RX1) [(0, .ref (ad E 11 c))] rfl rfl rfl (Nat.le_of_ble_eq_true rfl) rfl (fun C X hE => ?_)
  refine k_aload_n X 0 dX1_cancelAll_0 rfl rfl ?_
  refine k_callV (a := 11) (o := c) (As := []) (S := []) X lk_X1_76 rfl hc rfl (C_X1_endOpen c n hc hn hn12) rfl rfl (Nat.le_of_ble_eq_true rfl) ⟨Nat.le_of_ble_eq_true rfl, Nat.le_of_ble_eq_true rfl⟩ ⟨Nat.le_of_ble_eq_true rfl, Nat.le_of_ble_eq_true rfl⟩ dX1_cancelAll_1 ?_
  show KF E C 0 0 (eoM μ c n) 4 _ [.int (nI (eoN μ c n))]
  refine k_istore_n (L' := [(1, .int (nI (eoN μ c n))), (0, .ref (ad E 11 c))]) X dX1_cancelAll_4 rfl (by decide) rfl ?_
  refine k_aload_n X 1 dX1_cancelAll_5 rfl rfl ?_
  refine k_iconst X 1 dX1_cancelAll_6 (by decide) ?_
  refine pt_X1_41 X hc (by decide) (by decide) dX1_cancelAll_7 ?_
  refine k_aload_n X 1 dX1_cancelAll_10 rfl rfl ?_
  refine k_sipush X 487 dX1_cancelAll_11 (by decide) ?_
  refine pt_X1_38 X hc dX1_cancelAll_14 ?_
  refine k_iload_n X 0 dX1_cancelAll_17 rfl rfl ?_
  exact k_iret dX1_cancelAll_18 hE rfl rfl

set_option maxHeartbeats 4000000 in
set_option maxRecDepth 100000 in
theorem L_X1_endsWithTick {E : EE} {μ : Mem} {C : Ctx} (c n : Nat) (hc : c < 20) (hn : μ 11 c 4 = nI n) (hn12 : n ≤ 12) (s : Nat) (hs : μ 11 c 5 = nI s) (hs11 : s ≤ 11) (now : Int32) (X : Cx E C cX1_endsWithTick RX1 3 (rm 4 0)) (hE : EndI E C cX1_endsWithTick 0 0 (bp (¬ goOnM (rgM μ c n) c n s now 11 c 8 = -1)) (goOnM (rgM μ c n) c n s now)) : ∀ (f : Nat) (i : Nat), n - i < f → i ≤ n → KF E C 0 0 (up μ 14 c 0 i (fun b => if μ 11 c 5 ≤ μ 13 c b ∧ ¬ 200 ≤ μ 14 c b then 408 else μ 14 c b)) 23 [(2, .int (nI i)), (0, .ref (ad E 11 c)), (1, .int now)] [] := by
  intro f
  induction f with
  | zero => intros; omega
  | succ f ih =>
    intro i hf hi
    refine k_iload_n X 0 dX1_endsWithTick_23 rfl rfl ?_
    refine k_aload_n X 1 dX1_endsWithTick_24 rfl rfl ?_
    refine gt_X1_25 X hc dX1_endsWithTick_25 ?_
    refine k_val (y := nI n) (by simp [st, up, sgM, sg1, eoM, rgM, hn]) ?_
    refine k_ge_n (a := i) (b := n) (tgt := 62) X dX1_endsWithTick_28 (by decide) rfl rfl (by omega) (by omega) (fun c28 => ?_) (fun c28 => ?_)
    · refine k_mem (μ' := rgM μ c n) (by rw [show i = n by omega]; rfl) ?_
      refine k_aload_n X 1 dX1_endsWithTick_62 rfl rfl ?_
      refine k_iload_n X 2 dX1_endsWithTick_63 rfl rfl ?_
      refine k_callV (a := 11) (o := c) (As := [.int now]) (S := []) X lk_X1_53 rfl hc rfl (C_X1_goOn c n hc (by simp [st, up, sgM, sg1, eoM, rgM, hn]) hn12 s (by simp [st, up, rgM, hs]) hs11 _) rfl rfl (Nat.le_of_ble_eq_true rfl) ⟨Nat.le_of_ble_eq_true rfl, Nat.le_of_ble_eq_true rfl⟩ ⟨Nat.le_of_ble_eq_true rfl, Nat.le_of_ble_eq_true rfl⟩ dX1_endsWithTick_64 ?_
      show KF E C 0 0 (goOnM (rgM μ c n) c n s now) 67 _ []
      refine k_aload_n X 1 dX1_endsWithTick_67 rfl rfl ?_
      refine gt_X1_38 X hc dX1_endsWithTick_68 ?_
      refine k_iconst X (-1) dX1_endsWithTick_71 (by decide) ?_
      refine k_icmp_eq (tgt := 79) X dX1_endsWithTick_72 (by decide) (fun c72 => ?_) (fun c72 => ?_)
      · refine k_iconst X 0 dX1_endsWithTick_79 (by decide) ?_
        exact k_iret dX1_endsWithTick_80 hE (bp_f (fun h => h c72)).symm rfl
      · refine k_iconst X 1 dX1_endsWithTick_75 (by decide) ?_
        refine k_goto (tgt := 80) X dX1_endsWithTick_76 (by decide) ?_
        exact k_iret dX1_endsWithTick_80 hE (bp_t c72).symm rfl
    · refine k_aload_n X 1 dX1_endsWithTick_31 rfl rfl ?_
      refine k_iload_n X 0 dX1_endsWithTick_32 rfl rfl ?_
      refine k_callV (a := 11) (o := c) (As := [.int (nI i)]) (S := []) X lk_X1_69 rfl hc rfl (C_X1_isStarted c i hc (by omega)) rfl rfl (Nat.le_of_ble_eq_true rfl) ⟨Nat.le_of_ble_eq_true rfl, Nat.le_of_ble_eq_true rfl⟩ ⟨Nat.le_of_ble_eq_true rfl, Nat.le_of_ble_eq_true rfl⟩ dX1_endsWithTick_33 ?_
      show KF E C 0 0 (up μ 14 c 0 i (fun b => if μ 11 c 5 ≤ μ 13 c b ∧ ¬ 200 ≤ μ 14 c b then 408 else μ 14 c b)) 36 _ [.int (bp ((up μ 14 c 0 i (fun b => if μ 11 c 5 ≤ μ 13 c b ∧ ¬ 200 ≤ μ 14 c b then 408 else μ 14 c b)) 11 c 5 ≤ (up μ 14 c 0 i (fun b => if μ 11 c 5 ≤ μ 13 c b ∧ ¬ 200 ≤ μ 14 c b then 408 else μ 14 c b)) 13 c i))]
      refine k_val (y := bp (μ 11 c 5 ≤ μ 13 c i)) (by rw [up_k (by decide), up_k (by decide)]) ?_
      refine k_if_eq_p (tgt := 56) X dX1_endsWithTick_36 (by decide) (fun c36 => ?_) (fun c36 => ?_)
      · refine k_iinc (v := nI (i + 1)) (L' := [(2, .int (nI (i + 1))), (0, .ref (ad E 11 c)), (1, .int now)]) X 0 dX1_endsWithTick_56 rfl (nI_1 i) (by decide) rfl ?_
        refine k_goto (tgt := 23) X dX1_endsWithTick_59 (by decide) ?_
        refine k_mem (μ' := up μ 14 c 0 (i + 1) (fun b => if μ 11 c 5 ≤ μ 13 c b ∧ ¬ 200 ≤ μ 14 c b then 408 else μ 14 c b)) (up0_no (if_neg (fun h => c36 h.1))) ?_
        exact ih (i + 1) (by omega) (by omega)
      · refine k_aload_n X 1 dX1_endsWithTick_39 rfl rfl ?_
        refine k_iload_n X 0 dX1_endsWithTick_40 rfl rfl ?_
        refine k_callV (a := 11) (o := c) (As := [.int (nI i)]) (S := []) X lk_X1_73 rfl hc rfl (C_X1_isEnded c i hc (by omega)) rfl rfl (Nat.le_of_ble_eq_true rfl) ⟨Nat.le_of_ble_eq_true rfl, Nat.le_of_ble_eq_true rfl⟩ ⟨Nat.le_of_ble_eq_true rfl, Nat.le_of_ble_eq_true rfl⟩ dX1_endsWithTick_41 ?_
        show KF E C 0 0 (up μ 14 c 0 i (fun b => if μ 11 c 5 ≤ μ 13 c b ∧ ¬ 200 ≤ μ 14 c b then 408 else μ 14 c b)) 44 _ [.int (bp (200 ≤ (up μ 14 c 0 i (fun b => if μ 11 c 5 ≤ μ 13 c b ∧ ¬ 200 ≤ μ 14 c b then 408 else μ 14 c b)) 14 c i))]
        refine k_val (y := bp (200 ≤ μ 14 c i)) (by rw [up0_next]) ?_
        refine k_if_ne_p (tgt := 56) X dX1_endsWithTick_44 (by decide) (fun c44 => ?_) (fun c44 => ?_)
        · refine k_iinc (v := nI (i + 1)) (L' := [(2, .int (nI (i + 1))), (0, .ref (ad E 11 c)), (1, .int now)]) X 0 dX1_endsWithTick_56 rfl (nI_1 i) (by decide) rfl ?_
          refine k_goto (tgt := 23) X dX1_endsWithTick_59 (by decide) ?_
          refine k_mem (μ' := up μ 14 c 0 (i + 1) (fun b => if μ 11 c 5 ≤ μ 13 c b ∧ ¬ 200 ≤ μ 14 c b then 408 else μ 14 c b)) (up0_no (if_neg (fun h => h.2 c44))) ?_
          exact ih (i + 1) (by omega) (by omega)
        · refine k_aload_n X 1 dX1_endsWithTick_47 rfl rfl ?_
          refine gt_X1_18 X hc dX1_endsWithTick_48 ?_
          refine k_iload_n X 0 dX1_endsWithTick_51 rfl rfl ?_
          refine k_sipush X 408 dX1_endsWithTick_52 (by decide) ?_
          refine k_iast (a := 14) (j := i) X rfl hc rfl (show i < 12 by omega) (by decide) dX1_endsWithTick_55 ?_
          refine k_iinc (v := nI (i + 1)) (L' := [(2, .int (nI (i + 1))), (0, .ref (ad E 11 c)), (1, .int now)]) X 0 dX1_endsWithTick_56 rfl (nI_1 i) (by decide) rfl ?_
          refine k_goto (tgt := 23) X dX1_endsWithTick_59 (by decide) ?_
          refine k_mem (μ' := up μ 14 c 0 (i + 1) (fun b => if μ 11 c 5 ≤ μ 13 c b ∧ ¬ 200 ≤ μ 14 c b then 408 else μ 14 c b)) (up0_st (if_pos ⟨c36, c44⟩).symm) ?_
          exact ih (i + 1) (by omega) (by omega)

set_option maxHeartbeats 4000000 in
set_option maxRecDepth 100000 in
theorem C_X1_endsWithTick {E : EE} {μ : Mem} (c n : Nat) (hc : c < 20) (hn : μ 11 c 4 = nI n) (hn12 : n ≤ 12) (s : Nat) (hs : μ 11 c 5 = nI s) (hs11 : s ≤ 11) (now : Int32) : MM E yX1_endsWithTick cX1_endsWithTick 3 (some .boolean) (rm 4 0) [.ref (ad E 11 c), .int now] μ (some (.int (etI μ c n s now))) (etM μ c n s now) := by
  refine MM.int (own := RX1) [(0, .ref (ad E 11 c)), (1, .int now)] rfl rfl rfl (Nat.le_of_ble_eq_true rfl) (by unfold etI; split; split; exact bp_nar; rfl; rfl) (fun C X hE => ?_)
  refine k_aload_n X 0 dX1_endsWithTick_0 rfl rfl ?_
  refine gt_X1_38 X hc dX1_endsWithTick_1 ?_
  refine k_iconst X (-1) dX1_endsWithTick_4 (by decide) ?_
  refine k_icmp_ne (tgt := 19) X dX1_endsWithTick_5 (by decide) (fun c5 => ?_) (fun c5 => ?_)
  · refine k_iconst X 0 dX1_endsWithTick_19 (by decide) ?_
    exact k_iret dX1_endsWithTick_20 hE (by unfold etI; rw [if_neg c5]) (by unfold etM; rw [if_neg c5])
  · refine k_iload_n X 1 dX1_endsWithTick_8 rfl rfl ?_
    refine k_aload_n X 0 dX1_endsWithTick_9 rfl rfl ?_
    refine gt_X1_32 X hc dX1_endsWithTick_10 ?_
    refine k_isub X dX1_endsWithTick_13 ?_
    refine k_bipush X 10 dX1_endsWithTick_14 (by decide) ?_
    refine k_icmp_ge (tgt := 21) X dX1_endsWithTick_16 (by decide) (fun c16 => ?_) (fun c16 => ?_)
    · refine k_iconst X (nI 0) dX1_endsWithTick_21 (by decide) ?_
      refine k_istore_n (L' := [(2, .int (nI 0)), (0, .ref (ad E 11 c)), (1, .int now)]) X dX1_endsWithTick_22 rfl (by decide) rfl ?_
      refine k_mem (μ' := up μ 14 c 0 0 (fun b => if μ 11 c 5 ≤ μ 13 c b ∧ ¬ 200 ≤ μ 14 c b then 408 else μ 14 c b)) up_0.symm ?_
      exact L_X1_endsWithTick c n hc hn hn12 s hs hs11 now X (by unfold etI etM at hE; rw [if_pos c5, if_pos c16] at hE; rw [if_pos c5, if_pos c16] at hE; exact hE) (n + 1) 0 (by omega) (Nat.zero_le n)
    · refine k_iconst X 0 dX1_endsWithTick_19 (by decide) ?_
      exact k_iret dX1_endsWithTick_20 hE (by unfold etI; rw [if_pos c5, if_neg c16]) (by unfold etM; rw [if_pos c5, if_neg c16])

set_option maxHeartbeats 4000000 in
set_option maxRecDepth 100000 in
theorem L_X1_insert {E : EE} {C : Ctx} (len : Nat) (x : Int32) (X : Cx E C cX1_insert RX1 4 (rm 1 0)) : ∀ (p : Nat) (μ : Mem), p ≤ 11 → EndV E C cX1_insert 0 0 (insM x p μ) → KF E C 0 0 μ 2 [(3, .int (nI p)), (0, .ref (ad E 5 0)), (1, .int (nI len)), (2, .int x)] [] := by
  intro p
  induction p with
  | zero =>
    intro μ hp hE
    refine k_iload_n X 0 dX1_insert_2 rfl rfl ?_
    refine k_if_le_t (tgt := 29) X dX1_insert_3 (by decide) (by decide) ?_
    refine k_aload_n X 1 dX1_insert_29 rfl rfl ?_
    refine k_iload_n X 0 dX1_insert_30 rfl rfl ?_
    refine k_iload_n X 3 dX1_insert_31 rfl rfl ?_
    refine k_iast (a := 5) (j := 0) X rfl (by decide) rfl (by decide) (by decide) dX1_insert_32 ?_
    exact k_vret dX1_insert_33 hE rfl
  | succ p ih =>
    intro μ hp hE
    refine k_iload_n X 0 dX1_insert_2 rfl rfl ?_
    refine k_if_le_f (tgt := 29) X dX1_insert_3 (by decide) (nI_nle (by omega) (by omega)) ?_
    refine k_aload_n X 1 dX1_insert_6 rfl rfl ?_
    refine k_iload_n X 0 dX1_insert_7 rfl rfl ?_
    refine k_iconst X 1 dX1_insert_8 (by decide) ?_
    refine k_isub X dX1_insert_9 ?_
    refine k_val (y := nI p) (nI_pred p) ?_
    refine k_iald (a := 5) (j := p) X rfl (by decide) rfl (show p < 12 by omega) (by decide) dX1_insert_10 ?_
    refine k_iload_n X 3 dX1_insert_11 rfl rfl ?_
    refine k_icmp_le (tgt := 29) X dX1_insert_12 (by decide) (fun c12 => ?_) (fun c12 => ?_)
    · refine k_aload_n X 1 dX1_insert_29 rfl rfl ?_
      refine k_iload_n X 0 dX1_insert_30 rfl rfl ?_
      refine k_iload_n X 3 dX1_insert_31 rfl rfl ?_
      refine k_iast (a := 5) (j := (p + 1)) X rfl (by decide) rfl (show (p + 1) < 12 by omega) (by decide) dX1_insert_32 ?_
      exact k_vret dX1_insert_33 hE (if_pos c12).symm
    · refine k_aload_n X 1 dX1_insert_15 rfl rfl ?_
      refine k_iload_n X 0 dX1_insert_16 rfl rfl ?_
      refine k_aload_n X 1 dX1_insert_17 rfl rfl ?_
      refine k_iload_n X 0 dX1_insert_18 rfl rfl ?_
      refine k_iconst X 1 dX1_insert_19 (by decide) ?_
      refine k_isub X dX1_insert_20 ?_
      refine k_val (y := nI p) (nI_pred p) ?_
      refine k_iald (a := 5) (j := p) X rfl (by decide) rfl (show p < 12 by omega) (by decide) dX1_insert_21 ?_
      refine k_iast (a := 5) (j := (p + 1)) X rfl (by decide) rfl (show (p + 1) < 12 by omega) (by decide) dX1_insert_22 ?_
      refine k_iinc (v := nI p) (L' := [(3, .int (nI p)), (0, .ref (ad E 5 0)), (1, .int (nI len)), (2, .int x)]) X 0 dX1_insert_23 rfl ((sub1 _).trans (nI_pred p)) (by decide) rfl ?_
      refine k_goto (tgt := 2) X dX1_insert_26 (by decide) ?_
      exact ih _ (by omega) (by rw [show insM x (p + 1) μ = _ from if_neg c12] at hE; exact hE)

set_option maxHeartbeats 4000000 in
set_option maxRecDepth 100000 in
theorem C_X1_insert {E : EE} {μ : Mem} (len : Nat) (hlen : len ≤ 11) (x : Int32) : MM E yX1_insert cX1_insert 4 none (rm 1 0) [.ref (ad E 5 0), .int (nI len), .int x] μ none (insM x len μ) := by
  refine MM.void (own := RX1) [(0, .ref (ad E 5 0)), (1, .int (nI len)), (2, .int x)] rfl rfl rfl (Nat.le_of_ble_eq_true rfl) (fun C X hE => ?_)
  refine k_iload_n X 1 dX1_insert_0 rfl rfl ?_
  refine k_istore_n (L' := [(3, .int (nI len)), (0, .ref (ad E 5 0)), (1, .int (nI len)), (2, .int x)]) X dX1_insert_1 rfl (by decide) rfl ?_
  exact L_X1_insert len x X len μ hlen hE

set_option maxHeartbeats 4000000 in
set_option maxRecDepth 100000 in
theorem L_X1_sortEnds {E : EE} {μ : Mem} {C : Ctx} (c n : Nat) (hc : c < 20) (hn : μ 11 c 4 = nI n) (hn12 : n ≤ 12) (X : Cx E C cX1_sortEnds RX1 4 (rm 2 0)) (hE : EndI E C cX1_sortEnds 0 0 (nI (soN (μ 14 c) n)) (soM (μ 14 c) n μ)) : ∀ (f : Nat) (i : Nat), n - i < f → i ≤ n → KF E C 0 0 (soM (μ 14 c) i μ) 4 [(3, .int (nI i)), (2, .int (nI (soN (μ 14 c) i))), (0, .ref (ad E 11 c)), (1, .ref (ad E 5 0))] [] := by
  intro f
  induction f with
  | zero => intros; omega
  | succ f ih =>
    intro i hf hi
    refine k_iload_n X 0 dX1_sortEnds_4 rfl rfl ?_
    refine k_aload_n X 2 dX1_sortEnds_5 rfl rfl ?_
    refine gt_X1_25 X hc dX1_sortEnds_6 ?_
    refine k_val (y := nI n) ((soM_k (by decide) i μ).trans hn) ?_
    refine k_ge_n (a := i) (b := n) (tgt := 50) X dX1_sortEnds_9 (by decide) rfl rfl (by omega) (by omega) (fun c9 => ?_) (fun c9 => ?_)
    · refine k_iload_n X 1 dX1_sortEnds_50 rfl rfl ?_
      exact k_iret dX1_sortEnds_51 hE (by rw [show i = n by omega]) (by rw [show i = n by omega])
    · refine k_iload_n X 1 dX1_sortEnds_12 rfl rfl ?_
      refine k_aload_n X 3 dX1_sortEnds_13 rfl rfl ?_
      refine k_ialen (a := 5) X rfl (by decide) dX1_sortEnds_14 ?_
      refine k_ge_n (a := soN (μ 14 c) i) (b := 12) (tgt := 50) X dX1_sortEnds_15 (by decide) rfl rfl (by have := soN_le (μ 14 c) i; omega) (by decide) (fun c15 => ?_) (fun c15 => ?_)
      · exact absurd (soN_le (μ 14 c) i) (by omega)
      · refine k_aload_n X 2 dX1_sortEnds_18 rfl rfl ?_
        refine gt_X1_18 X hc dX1_sortEnds_19 ?_
        refine k_iload_n X 0 dX1_sortEnds_22 rfl rfl ?_
        refine k_iald (a := 14) (j := i) X rfl hc rfl (show i < 12 by omega) (by decide) dX1_sortEnds_23 ?_
        refine k_val (y := μ 14 c i) (soM_k (by decide) i μ) ?_
        refine k_sipush X 487 dX1_sortEnds_24 (by decide) ?_
        refine k_icmp_eq (tgt := 44) X dX1_sortEnds_27 (by decide) (fun c27 => ?_) (fun c27 => ?_)
        · refine k_iinc (v := nI (i + 1)) (L' := [(3, .int (nI (i + 1))), (2, .int (nI (soN (μ 14 c) i))), (0, .ref (ad E 11 c)), (1, .ref (ad E 5 0))]) X 0 dX1_sortEnds_44 rfl (nI_1 i) (by decide) rfl ?_
          refine k_goto (tgt := 4) X dX1_sortEnds_47 (by decide) ?_
          have e1 : soN (μ 14 c) (i + 1) = _ := if_pos c27
          have e2 : soM (μ 14 c) (i + 1) μ = _ := if_pos c27
          rw [← e1, ← e2]
          exact ih (i + 1) (by omega) (by omega)
        · refine k_aload_n X 3 dX1_sortEnds_30 rfl rfl ?_
          refine k_iload_n X 1 dX1_sortEnds_31 rfl rfl ?_
          refine k_aload_n X 2 dX1_sortEnds_32 rfl rfl ?_
          refine gt_X1_18 X hc dX1_sortEnds_33 ?_
          refine k_iload_n X 0 dX1_sortEnds_36 rfl rfl ?_
          refine k_iald (a := 14) (j := i) X rfl hc rfl (show i < 12 by omega) (by decide) dX1_sortEnds_37 ?_
          refine k_val (y := μ 14 c i) (soM_k (by decide) i μ) ?_
          refine k_callS (As := [.ref (ad E 5 0), .int (nI (soN (μ 14 c) i)), .int (μ 14 c i)]) (S := []) X lk_X1_92 (C_X1_insert (soN (μ 14 c) i) (by have := soN_le (μ 14 c) i; omega) _) rfl rfl (Nat.le_of_ble_eq_true rfl) ⟨Nat.le_of_ble_eq_true rfl, Nat.le_of_ble_eq_true rfl⟩ ⟨Nat.le_of_ble_eq_true rfl, Nat.le_of_ble_eq_true rfl⟩ dX1_sortEnds_38 ?_
          show KF E C 0 0 (insM (μ 14 c i) (soN (μ 14 c) i) (soM (μ 14 c) i μ)) 41 _ []
          refine k_iinc (v := nI (soN (μ 14 c) i + 1)) (L' := [(2, .int (nI (soN (μ 14 c) i + 1))), (3, .int (nI i)), (0, .ref (ad E 11 c)), (1, .ref (ad E 5 0))]) X 1 dX1_sortEnds_41 rfl (nI_1 _) (by decide) rfl ?_
          refine k_iinc (v := nI (i + 1)) (L' := [(3, .int (nI (i + 1))), (2, .int (nI (soN (μ 14 c) i + 1))), (0, .ref (ad E 11 c)), (1, .ref (ad E 5 0))]) X 1 dX1_sortEnds_44 rfl (nI_1 i) (by decide) rfl ?_
          refine k_goto (tgt := 4) X dX1_sortEnds_47 (by decide) ?_
          have e1 : soN (μ 14 c) (i + 1) = _ := if_neg c27
          have e2 : soM (μ 14 c) (i + 1) μ = _ := if_neg c27
          rw [← e1, ← e2]
          exact ih (i + 1) (by omega) (by omega)

set_option maxHeartbeats 4000000 in
set_option maxRecDepth 100000 in
theorem C_X1_sortEnds {E : EE} {μ : Mem} (c n : Nat) (hc : c < 20) (hn : μ 11 c 4 = nI n) (hn12 : n ≤ 12) : MM E yX1_sortEnds cX1_sortEnds 4 (some .int) (rm 2 0) [.ref (ad E 11 c), .ref (ad E 5 0)] μ (some (.int (nI (soN (μ 14 c) n)))) (soM (μ 14 c) n μ) := by
  refine MM.int (own := RX1) [(0, .ref (ad E 11 c)), (1, .ref (ad E 5 0))] rfl rfl rfl (Nat.le_of_ble_eq_true rfl) rfl (fun C X hE => ?_)
  refine k_iconst X (nI 0) dX1_sortEnds_0 (by decide) ?_
  refine k_istore_n (L' := [(2, .int (nI 0)), (0, .ref (ad E 11 c)), (1, .ref (ad E 5 0))]) X dX1_sortEnds_1 rfl (by decide) rfl ?_
  refine k_iconst X (nI 0) dX1_sortEnds_2 (by decide) ?_
  refine k_istore_n (L' := [(3, .int (nI 0)), (2, .int (nI 0)), (0, .ref (ad E 11 c)), (1, .ref (ad E 5 0))]) X dX1_sortEnds_3 rfl (by decide) rfl ?_
  exact L_X1_sortEnds c n hc hn hn12 X hE (n + 1) 0 (by omega) (Nat.zero_le n)

set_option maxHeartbeats 4000000 in
set_option maxRecDepth 100000 in
theorem C_X1_finalFromSorted {E : EE} {μ : Mem} (c n : Nat) (hc : c < 20) (hn : μ 11 c 4 = nI n) (hn12 : n ≤ 12) : MM E yX1_finalFromSorted cX1_finalFromSorted 3 (some .int) (rm 3 0) [.ref (ad E 11 c), .ref (ad E 5 0)] μ (some (.int (fsI μ c n))) (fsM μ c n) := by
  refine MM.int (own := RX1) [(0, .ref (ad E 11 c)), (1, .ref (ad E 5 0))] rfl rfl rfl (Nat.le_of_ble_eq_true rfl) rfl (fun C X hE => ?_)
  refine k_aload_n X 0 dX1_finalFromSorted_0 rfl rfl ?_
  refine gt_X1_25 X hc dX1_finalFromSorted_1 ?_
  refine k_val (y := nI n) hn ?_
  refine k_if_ne (tgt := 11) X dX1_finalFromSorted_4 (by decide) (fun c4 => ?_) (fun c4 => ?_)
  · refine k_aload_n X 0 dX1_finalFromSorted_11 rfl rfl ?_
    refine k_aload_n X 1 dX1_finalFromSorted_12 rfl rfl ?_
    refine k_callV (a := 11) (o := c) (As := [.ref (ad E 5 0)]) (S := []) X lk_X1_88 rfl hc rfl (C_X1_sortEnds c n hc hn hn12) rfl rfl (Nat.le_of_ble_eq_true rfl) ⟨Nat.le_of_ble_eq_true rfl, Nat.le_of_ble_eq_true rfl⟩ ⟨Nat.le_of_ble_eq_true rfl, Nat.le_of_ble_eq_true rfl⟩ dX1_finalFromSorted_13 ?_
    show KF E C 0 0 (soM (μ 14 c) n μ) 16 _ [.int (nI (soN (μ 14 c) n))]
    refine k_istore_n (L' := [(2, .int (nI (soN (μ 14 c) n))), (0, .ref (ad E 11 c)), (1, .ref (ad E 5 0))]) X dX1_finalFromSorted_16 rfl (by decide) rfl ?_
    refine k_aload_n X 1 dX1_finalFromSorted_17 rfl rfl ?_
    refine gt_X1_41 X hc dX1_finalFromSorted_18 ?_
    refine k_val (y := μ 11 c 9) (soM_k (by decide) n μ) ?_
    refine k_if_ne (tgt := 28) X dX1_finalFromSorted_21 (by decide) (fun c21 => ?_) (fun c21 => ?_)
    · refine k_sipush X 487 dX1_finalFromSorted_28 (by decide) ?_
      exact k_iret dX1_finalFromSorted_31 hE (by unfold fsI; rw [if_neg (fun h => c4 ((nI_z (by omega)).mpr h)), if_pos (Or.inl c21)]) (by unfold fsM; rw [if_neg (fun h => c4 ((nI_z (by omega)).mpr h))])
    · refine k_iload_n X 0 dX1_finalFromSorted_24 rfl rfl ?_
      refine k_if_ne (tgt := 32) X dX1_finalFromSorted_25 (by decide) (fun c25 => ?_) (fun c25 => ?_)
      · refine k_aload_n X 2 dX1_finalFromSorted_32 rfl rfl ?_
        refine k_iload_n X 0 dX1_finalFromSorted_33 rfl rfl ?_
        refine k_iconst X 1 dX1_finalFromSorted_34 (by decide) ?_
        refine k_isub X dX1_finalFromSorted_35 ?_
        refine k_val (y := nI (soN (μ 14 c) n - 1)) (nI_s1 (Nat.pos_of_ne_zero (fun h => c25 (by rw [h]; rfl)))) ?_
        refine k_iald (a := 5) (j := (soN (μ 14 c) n - 1)) X rfl (by decide) rfl (show soN (μ 14 c) n - 1 < 12 by have := soN_le (μ 14 c) n; omega) (by decide) dX1_finalFromSorted_36 ?_
        refine k_sipush X 600 dX1_finalFromSorted_37 (by decide) ?_
        refine k_icmp_lt (tgt := 51) X dX1_finalFromSorted_40 (by decide) (fun c40 => ?_) (fun c40 => ?_)
        · refine k_aload_n X 2 dX1_finalFromSorted_51 rfl rfl ?_
          refine k_iconst X (nI 0) dX1_finalFromSorted_52 (by decide) ?_
          refine k_iald (a := 5) (j := 0) X rfl (by decide) rfl (by decide) (by decide) dX1_finalFromSorted_53 ?_
          exact k_iret dX1_finalFromSorted_54 hE (by unfold fsI; rw [if_neg (fun h => c4 ((nI_z (by omega)).mpr h)), if_neg (fun h => h.elim (fun q => q c21) (fun q => c25 ((nI_z (by have := soN_le (μ 14 c) n; omega)).mpr q))), if_neg (Int32.not_le.mpr c40)]) (by unfold fsM; rw [if_neg (fun h => c4 ((nI_z (by omega)).mpr h))])
        · refine k_aload_n X 2 dX1_finalFromSorted_43 rfl rfl ?_
          refine k_iload_n X 0 dX1_finalFromSorted_44 rfl rfl ?_
          refine k_iconst X 1 dX1_finalFromSorted_45 (by decide) ?_
          refine k_isub X dX1_finalFromSorted_46 ?_
          refine k_val (y := nI (soN (μ 14 c) n - 1)) (nI_s1 (Nat.pos_of_ne_zero (fun h => c25 (by rw [h]; rfl)))) ?_
          refine k_iald (a := 5) (j := (soN (μ 14 c) n - 1)) X rfl (by decide) rfl (show soN (μ 14 c) n - 1 < 12 by have := soN_le (μ 14 c) n; omega) (by decide) dX1_finalFromSorted_47 ?_
          refine k_goto (tgt := 54) X dX1_finalFromSorted_48 (by decide) ?_
          exact k_iret dX1_finalFromSorted_54 hE (by unfold fsI; rw [if_neg (fun h => c4 ((nI_z (by omega)).mpr h)), if_neg (fun h => h.elim (fun q => q c21) (fun q => c25 ((nI_z (by have := soN_le (μ 14 c) n; omega)).mpr q))), if_pos (Int32.not_lt.mp c40)]) (by unfold fsM; rw [if_neg (fun h => c4 ((nI_z (by omega)).mpr h))])
      · refine k_sipush X 487 dX1_finalFromSorted_28 (by decide) ?_
        exact k_iret dX1_finalFromSorted_31 hE (by unfold fsI; rw [if_neg (fun h => c4 ((nI_z (by omega)).mpr h)), if_pos (Or.inr ((nI_z (by have := soN_le (μ 14 c) n; omega)).mp c25))]) (by unfold fsM; rw [if_neg (fun h => c4 ((nI_z (by omega)).mpr h))])
  · refine k_sipush X 480 dX1_finalFromSorted_7 (by decide) ?_
    exact k_iret dX1_finalFromSorted_10 hE (by unfold fsI; rw [if_pos ((nI_z (by omega)).mp c4)]) (by unfold fsM; rw [if_pos ((nI_z (by omega)).mp c4)])
