set_option maxHeartbeats 4000000 in
set_option maxRecDepth 100000 in
theorem C_X1_isStarted {E : EE} {μ : Mem} (c b : Nat) (hc : c < 20) (hb : b < 12) : MM E yX1_isStarted cX1_isStarted 2 (some .boolean) (rm 1 0) [.ref (ad E 11 c), .int (nI b)] μ (some (.int (bp (μ 11 c 5 ≤ μ 13 c b)))) μ := by
  refine MM.int (own := RX1) [(0, .ref (ad E 11 c)), (1, .int (nI b))] rfl rfl rfl (Nat.le_of_ble_eq_true rfl) bp_nar (fun C X hE => ?_)
  refine k_aload_n X 0 dX1_isStarted_0 rfl rfl ?_
  refine gt_X1_15 X hc dX1_isStarted_1 ?_
  refine k_iload_n X 1 dX1_isStarted_4 rfl rfl ?_
  refine k_iald (a := 13) (j := b) X rfl hc rfl hb (by decide) dX1_isStarted_5 ?_
  refine k_aload_n X 0 dX1_isStarted_6 rfl rfl ?_
  refine gt_X1_29 X hc dX1_isStarted_7 ?_
  refine k_icmp_lt (tgt := 17) X dX1_isStarted_10 (by decide) (fun c10 => ?_) (fun c10 => ?_)
  · refine k_iconst X 0 dX1_isStarted_17 (by decide) ?_
    exact k_iret dX1_isStarted_18 hE (bp_f (by first | exact Int32.not_lt.mp c10 | exact Int32.not_le.mpr c10)).symm rfl
  · refine k_iconst X 1 dX1_isStarted_13 (by decide) ?_
    refine k_goto (tgt := 18) X dX1_isStarted_14 (by decide) ?_
    exact k_iret dX1_isStarted_18 hE (bp_t (by first | exact Int32.not_lt.mp c10 | exact Int32.not_le.mpr c10)).symm rfl

set_option maxHeartbeats 4000000 in
set_option maxRecDepth 100000 in
theorem C_X1_isEnded {E : EE} {μ : Mem} (c b : Nat) (hc : c < 20) (hb : b < 12) : MM E yX1_isEnded cX1_isEnded 2 (some .boolean) (rm 1 0) [.ref (ad E 11 c), .int (nI b)] μ (some (.int (bp (200 ≤ μ 14 c b)))) μ := by
  refine MM.int (own := RX1) [(0, .ref (ad E 11 c)), (1, .int (nI b))] rfl rfl rfl (Nat.le_of_ble_eq_true rfl) bp_nar (fun C X hE => ?_)
  refine k_aload_n X 0 dX1_isEnded_0 rfl rfl ?_
  refine gt_X1_18 X hc dX1_isEnded_1 ?_
  refine k_iload_n X 1 dX1_isEnded_4 rfl rfl ?_
  refine k_iald (a := 14) (j := b) X rfl hc rfl hb (by decide) dX1_isEnded_5 ?_
  refine k_sipush X 200 dX1_isEnded_6 (by decide) ?_
  refine k_icmp_lt (tgt := 16) X dX1_isEnded_9 (by decide) (fun c9 => ?_) (fun c9 => ?_)
  · refine k_iconst X 0 dX1_isEnded_16 (by decide) ?_
    exact k_iret dX1_isEnded_17 hE (bp_f (by first | exact Int32.not_lt.mp c9 | exact Int32.not_le.mpr c9)).symm rfl
  · refine k_iconst X 1 dX1_isEnded_12 (by decide) ?_
    refine k_goto (tgt := 17) X dX1_isEnded_13 (by decide) ?_
    exact k_iret dX1_isEnded_17 hE (bp_t (by first | exact Int32.not_lt.mp c9 | exact Int32.not_le.mpr c9)).symm rfl

set_option maxHeartbeats 4000000 in
set_option maxRecDepth 100000 in
theorem C_X1_isTooMuch {E : EE} {μ : Mem} (c b : Nat) (x : Int32) (hc : c < 20) (hb : b < 12) : MM E yX1_isTooMuch cX1_isTooMuch 5 (some .boolean) (rm 1 0) [.ref (ad E 11 c), .int (nI b), .int x] μ (some (.int (bp ((¬ x < 200 ∧ ¬ 300 ≤ x) ∧ (μ 14 c b = 487 ∨ μ 14 c b = 408) ∧ μ 15 c b = 0)))) μ := by
  refine MM.int (own := RX1) [(0, .ref (ad E 11 c)), (1, .int (nI b)), (2, .int x)] rfl rfl rfl (Nat.le_of_ble_eq_true rfl) bp_nar (fun C X hE => ?_)
  refine k_iload_n X 2 dX1_isTooMuch_0 rfl rfl ?_
  refine k_sipush X 200 dX1_isTooMuch_1 (by decide) ?_
  refine k_icmp_lt (tgt := 18) X dX1_isTooMuch_4 (by decide) (fun c4 => ?_) (fun c4 => ?_)
  · refine k_iconst X 0 dX1_isTooMuch_18 (by decide) ?_
    refine k_istore_n (L' := [(3, .int 0), (0, .ref (ad E 11 c)), (1, .int (nI b)), (2, .int x)]) X dX1_isTooMuch_19 rfl (by decide) rfl ?_
    refine k_aload_n X 1 dX1_isTooMuch_20 rfl rfl ?_
    refine gt_X1_18 X hc dX1_isTooMuch_21 ?_
    refine k_iload_n X 2 dX1_isTooMuch_24 rfl rfl ?_
    refine k_iald (a := 14) (j := b) X rfl hc rfl hb (by decide) dX1_isTooMuch_25 ?_
    refine k_sipush X 487 dX1_isTooMuch_26 (by decide) ?_
    refine k_icmp_eq (tgt := 44) X dX1_isTooMuch_29 (by decide) (fun c29 => ?_) (fun c29 => ?_)
    · refine k_iconst X 1 dX1_isTooMuch_44 (by decide) ?_
      refine k_goto (tgt := 49) X dX1_isTooMuch_45 (by decide) ?_
      refine k_istore (L' := [(4, .int 1), (3, .int 0), (0, .ref (ad E 11 c)), (1, .int (nI b)), (2, .int x)]) X dX1_isTooMuch_49 (by decide) rfl ?_
      refine k_iload_n X 1 dX1_isTooMuch_51 rfl rfl ?_
      refine k_if_eq_t (tgt := 73) X dX1_isTooMuch_52 (by decide) rfl ?_
      refine k_iconst X 0 dX1_isTooMuch_73 (by decide) ?_
      exact k_iret dX1_isTooMuch_74 hE (bp_f (by simp_all)).symm rfl
    · refine k_aload_n X 1 dX1_isTooMuch_32 rfl rfl ?_
      refine gt_X1_18 X hc dX1_isTooMuch_33 ?_
      refine k_iload_n X 2 dX1_isTooMuch_36 rfl rfl ?_
      refine k_iald (a := 14) (j := b) X rfl hc rfl hb (by decide) dX1_isTooMuch_37 ?_
      refine k_sipush X 408 dX1_isTooMuch_38 (by decide) ?_
      refine k_icmp_ne (tgt := 48) X dX1_isTooMuch_41 (by decide) (fun c41 => ?_) (fun c41 => ?_)
      · refine k_iconst X 0 dX1_isTooMuch_48 (by decide) ?_
        refine k_istore (L' := [(4, .int 0), (3, .int 0), (0, .ref (ad E 11 c)), (1, .int (nI b)), (2, .int x)]) X dX1_isTooMuch_49 (by decide) rfl ?_
        refine k_iload_n X 1 dX1_isTooMuch_51 rfl rfl ?_
        refine k_if_eq_t (tgt := 73) X dX1_isTooMuch_52 (by decide) rfl ?_
        refine k_iconst X 0 dX1_isTooMuch_73 (by decide) ?_
        exact k_iret dX1_isTooMuch_74 hE (bp_f (by simp_all)).symm rfl
      · refine k_iconst X 1 dX1_isTooMuch_44 (by decide) ?_
        refine k_goto (tgt := 49) X dX1_isTooMuch_45 (by decide) ?_
        refine k_istore (L' := [(4, .int 1), (3, .int 0), (0, .ref (ad E 11 c)), (1, .int (nI b)), (2, .int x)]) X dX1_isTooMuch_49 (by decide) rfl ?_
        refine k_iload_n X 1 dX1_isTooMuch_51 rfl rfl ?_
        refine k_if_eq_t (tgt := 73) X dX1_isTooMuch_52 (by decide) rfl ?_
        refine k_iconst X 0 dX1_isTooMuch_73 (by decide) ?_
        exact k_iret dX1_isTooMuch_74 hE (bp_f (by simp_all)).symm rfl
  · refine k_iload_n X 2 dX1_isTooMuch_7 rfl rfl ?_
    refine k_sipush X 300 dX1_isTooMuch_8 (by decide) ?_
    refine k_icmp_ge (tgt := 18) X dX1_isTooMuch_11 (by decide) (fun c11 => ?_) (fun c11 => ?_)
    · refine k_iconst X 0 dX1_isTooMuch_18 (by decide) ?_
      refine k_istore_n (L' := [(3, .int 0), (0, .ref (ad E 11 c)), (1, .int (nI b)), (2, .int x)]) X dX1_isTooMuch_19 rfl (by decide) rfl ?_
      refine k_aload_n X 1 dX1_isTooMuch_20 rfl rfl ?_
      refine gt_X1_18 X hc dX1_isTooMuch_21 ?_
      refine k_iload_n X 2 dX1_isTooMuch_24 rfl rfl ?_
      refine k_iald (a := 14) (j := b) X rfl hc rfl hb (by decide) dX1_isTooMuch_25 ?_
      refine k_sipush X 487 dX1_isTooMuch_26 (by decide) ?_
      refine k_icmp_eq (tgt := 44) X dX1_isTooMuch_29 (by decide) (fun c29 => ?_) (fun c29 => ?_)
      · refine k_iconst X 1 dX1_isTooMuch_44 (by decide) ?_
        refine k_goto (tgt := 49) X dX1_isTooMuch_45 (by decide) ?_
        refine k_istore (L' := [(4, .int 1), (3, .int 0), (0, .ref (ad E 11 c)), (1, .int (nI b)), (2, .int x)]) X dX1_isTooMuch_49 (by decide) rfl ?_
        refine k_iload_n X 1 dX1_isTooMuch_51 rfl rfl ?_
        refine k_if_eq_t (tgt := 73) X dX1_isTooMuch_52 (by decide) rfl ?_
        refine k_iconst X 0 dX1_isTooMuch_73 (by decide) ?_
        exact k_iret dX1_isTooMuch_74 hE (bp_f (by simp_all)).symm rfl
      · refine k_aload_n X 1 dX1_isTooMuch_32 rfl rfl ?_
        refine gt_X1_18 X hc dX1_isTooMuch_33 ?_
        refine k_iload_n X 2 dX1_isTooMuch_36 rfl rfl ?_
        refine k_iald (a := 14) (j := b) X rfl hc rfl hb (by decide) dX1_isTooMuch_37 ?_
        refine k_sipush X 408 dX1_isTooMuch_38 (by decide) ?_
        refine k_icmp_ne (tgt := 48) X dX1_isTooMuch_41 (by decide) (fun c41 => ?_) (fun c41 => ?_)
        · refine k_iconst X 0 dX1_isTooMuch_48 (by decide) ?_
          refine k_istore (L' := [(4, .int 0), (3, .int 0), (0, .ref (ad E 11 c)), (1, .int (nI b)), (2, .int x)]) X dX1_isTooMuch_49 (by decide) rfl ?_
          refine k_iload_n X 1 dX1_isTooMuch_51 rfl rfl ?_
          refine k_if_eq_t (tgt := 73) X dX1_isTooMuch_52 (by decide) rfl ?_
          refine k_iconst X 0 dX1_isTooMuch_73 (by decide) ?_
          exact k_iret dX1_isTooMuch_74 hE (bp_f (by simp_all)).symm rfl
        · refine k_iconst X 1 dX1_isTooMuch_44 (by decide) ?_
          refine k_goto (tgt := 49) X dX1_isTooMuch_45 (by decide) ?_
          refine k_istore (L' := [(4, .int 1), (3, .int 0), (0, .ref (ad E 11 c)), (1, .int (nI b)), (2, .int x)]) X dX1_isTooMuch_49 (by decide) rfl ?_
          refine k_iload_n X 1 dX1_isTooMuch_51 rfl rfl ?_
          refine k_if_eq_t (tgt := 73) X dX1_isTooMuch_52 (by decide) rfl ?_
          refine k_iconst X 0 dX1_isTooMuch_73 (by decide) ?_
          exact k_iret dX1_isTooMuch_74 hE (bp_f (by simp_all)).symm rfl
    · refine k_iconst X 1 dX1_isTooMuch_14 (by decide) ?_
      refine k_goto (tgt := 19) X dX1_isTooMuch_15 (by decide) ?_
      refine k_istore_n (L' := [(3, .int 1), (0, .ref (ad E 11 c)), (1, .int (nI b)), (2, .int x)]) X dX1_isTooMuch_19 rfl (by decide) rfl ?_
      refine k_aload_n X 1 dX1_isTooMuch_20 rfl rfl ?_
      refine gt_X1_18 X hc dX1_isTooMuch_21 ?_
      refine k_iload_n X 2 dX1_isTooMuch_24 rfl rfl ?_
      refine k_iald (a := 14) (j := b) X rfl hc rfl hb (by decide) dX1_isTooMuch_25 ?_
      refine k_sipush X 487 dX1_isTooMuch_26 (by decide) ?_
      refine k_icmp_eq (tgt := 44) X dX1_isTooMuch_29 (by decide) (fun c29 => ?_) (fun c29 => ?_)
      · refine k_iconst X 1 dX1_isTooMuch_44 (by decide) ?_
        refine k_goto (tgt := 49) X dX1_isTooMuch_45 (by decide) ?_
        refine k_istore (L' := [(4, .int 1), (3, .int 1), (0, .ref (ad E 11 c)), (1, .int (nI b)), (2, .int x)]) X dX1_isTooMuch_49 (by decide) rfl ?_
        refine k_iload_n X 1 dX1_isTooMuch_51 rfl rfl ?_
        refine k_if_eq_f (tgt := 73) X dX1_isTooMuch_52 (by decide) (by decide) ?_
        refine k_iload X 0 dX1_isTooMuch_55 rfl ?_
        refine k_if_eq_f (tgt := 73) X dX1_isTooMuch_57 (by decide) (by decide) ?_
        refine k_aload_n X 2 dX1_isTooMuch_60 rfl rfl ?_
        refine gt_X1_21 X hc dX1_isTooMuch_61 ?_
        refine k_iload_n X 3 dX1_isTooMuch_64 rfl rfl ?_
        refine k_zald (a := 15) (j := b) X rfl hc rfl hb (by decide) dX1_isTooMuch_65 ?_
        refine k_if_ne (tgt := 73) X dX1_isTooMuch_66 (by decide) (fun c66 => ?_) (fun c66 => ?_)
        · refine k_iconst X 0 dX1_isTooMuch_73 (by decide) ?_
          exact k_iret dX1_isTooMuch_74 hE (bp_f (by simp_all)).symm rfl
        · refine k_iconst X 1 dX1_isTooMuch_69 (by decide) ?_
          refine k_goto (tgt := 74) X dX1_isTooMuch_70 (by decide) ?_
          exact k_iret dX1_isTooMuch_74 hE (bp_t (by simp_all)).symm rfl
      · refine k_aload_n X 1 dX1_isTooMuch_32 rfl rfl ?_
        refine gt_X1_18 X hc dX1_isTooMuch_33 ?_
        refine k_iload_n X 2 dX1_isTooMuch_36 rfl rfl ?_
        refine k_iald (a := 14) (j := b) X rfl hc rfl hb (by decide) dX1_isTooMuch_37 ?_
        refine k_sipush X 408 dX1_isTooMuch_38 (by decide) ?_
        refine k_icmp_ne (tgt := 48) X dX1_isTooMuch_41 (by decide) (fun c41 => ?_) (fun c41 => ?_)
        · refine k_iconst X 0 dX1_isTooMuch_48 (by decide) ?_
          refine k_istore (L' := [(4, .int 0), (3, .int 1), (0, .ref (ad E 11 c)), (1, .int (nI b)), (2, .int x)]) X dX1_isTooMuch_49 (by decide) rfl ?_
          refine k_iload_n X 1 dX1_isTooMuch_51 rfl rfl ?_
          refine k_if_eq_f (tgt := 73) X dX1_isTooMuch_52 (by decide) (by decide) ?_
          refine k_iload X 0 dX1_isTooMuch_55 rfl ?_
          refine k_if_eq_t (tgt := 73) X dX1_isTooMuch_57 (by decide) rfl ?_
          refine k_iconst X 0 dX1_isTooMuch_73 (by decide) ?_
          exact k_iret dX1_isTooMuch_74 hE (bp_f (by simp_all)).symm rfl
        · refine k_iconst X 1 dX1_isTooMuch_44 (by decide) ?_
          refine k_goto (tgt := 49) X dX1_isTooMuch_45 (by decide) ?_
          refine k_istore (L' := [(4, .int 1), (3, .int 1), (0, .ref (ad E 11 c)), (1, .int (nI b)), (2, .int x)]) X dX1_isTooMuch_49 (by decide) rfl ?_
          refine k_iload_n X 1 dX1_isTooMuch_51 rfl rfl ?_
          refine k_if_eq_f (tgt := 73) X dX1_isTooMuch_52 (by decide) (by decide) ?_
          refine k_iload X 0 dX1_isTooMuch_55 rfl ?_
          refine k_if_eq_f (tgt := 73) X dX1_isTooMuch_57 (by decide) (by decide) ?_
          refine k_aload_n X 2 dX1_isTooMuch_60 rfl rfl ?_
          refine gt_X1_21 X hc dX1_isTooMuch_61 ?_
          refine k_iload_n X 3 dX1_isTooMuch_64 rfl rfl ?_
          refine k_zald (a := 15) (j := b) X rfl hc rfl hb (by decide) dX1_isTooMuch_65 ?_
          refine k_if_ne (tgt := 73) X dX1_isTooMuch_66 (by decide) (fun c66 => ?_) (fun c66 => ?_)
          · refine k_iconst X 0 dX1_isTooMuch_73 (by decide) ?_
            exact k_iret dX1_isTooMuch_74 hE (bp_f (by simp_all)).symm rfl
          · refine k_iconst X 1 dX1_isTooMuch_69 (by decide) ?_
            refine k_goto (tgt := 74) X dX1_isTooMuch_70 (by decide) ?_
            exact k_iret dX1_isTooMuch_74 hE (bp_t (by simp_all)).symm rfl

set_option maxHeartbeats 4000000 in
set_option maxRecDepth 100000 in
theorem L_X1_branchOf {E : EE} {μ : Mem} {C : Ctx} (c n : Nat) (hc : c < 20) (hn : μ 11 c 4 = nI n) (hn12 : n ≤ 12) (x : Int32) (X : Cx E C cX1_branchOf RX1 3 (rm 1 0)) (hE : EndI E C cX1_branchOf 0 0 (frI (fun b => decide (μ 12 c b = x)) n) μ) : ∀ (f : Nat) (i : Nat), n - i < f → i ≤ n → (∀ j, j < i → decide (μ 12 c j = x) = false) → KF E C 0 0 μ 2 [(2, .int (nI i)), (0, .ref (ad E 11 c)), (1, .int x)] [] := by
  intro f
  induction f with
  | zero => intros; omega
  | succ f ih =>
    intro i hf hi hno
    refine k_iload_n X 0 dX1_branchOf_2 rfl rfl ?_
    refine k_aload_n X 1 dX1_branchOf_3 rfl rfl ?_
    refine gt_X1_25 X hc dX1_branchOf_4 ?_
    refine k_val (y := nI n) hn ?_
    refine k_ge_n (a := i) (b := n) (tgt := 28) X dX1_branchOf_7 (by decide) rfl rfl (by omega) (by omega) (fun c7 => ?_) (fun c7 => ?_)
    · refine k_iconst X (-1) dX1_branchOf_28 (by decide) ?_
      exact k_iret dX1_branchOf_29 hE (frI_no (fun j hj => hno j (by omega))).symm rfl
    · refine k_aload_n X 1 dX1_branchOf_10 rfl rfl ?_
      refine gt_X1_9 X hc dX1_branchOf_11 ?_
      refine k_iload_n X 0 dX1_branchOf_14 rfl rfl ?_
      refine k_iald (a := 12) (j := i) X rfl hc rfl (show i < 12 by omega) (by decide) dX1_branchOf_15 ?_
      refine k_iload_n X 2 dX1_branchOf_16 rfl rfl ?_
      refine k_icmp_ne (tgt := 22) X dX1_branchOf_17 (by decide) (fun c17 => ?_) (fun c17 => ?_)
      · refine k_iinc (v := nI (i + 1)) (L' := [(2, .int (nI (i + 1))), (0, .ref (ad E 11 c)), (1, .int x)]) X 0 dX1_branchOf_22 rfl (nI_1 i) (by decide) rfl ?_
        refine k_goto (tgt := 2) X dX1_branchOf_25 (by decide) ?_
        exact ih (i + 1) (by omega) (by omega) (fun j hj => if e : j = i then e ▸ decide_eq_false c17 else hno j (by omega))
      · refine k_iload_n X 0 dX1_branchOf_20 rfl rfl ?_
        exact k_iret dX1_branchOf_21 hE (frI_at (decide_eq_true c17) hno (by omega)).symm rfl

set_option maxHeartbeats 4000000 in
set_option maxRecDepth 100000 in
theorem C_X1_branchOf {E : EE} {μ : Mem} (c n : Nat) (hc : c < 20) (hn : μ 11 c 4 = nI n) (hn12 : n ≤ 12) (x : Int32) : MM E yX1_branchOf cX1_branchOf 3 (some .int) (rm 1 0) [.ref (ad E 11 c), .int x] μ (some (.int (frI (fun b => decide (μ 12 c b = x)) n))) μ := by
  refine MM.int (own := RX1) [(0, .ref (ad E 11 c)), (1, .int x)] rfl rfl rfl (Nat.le_of_ble_eq_true rfl) rfl (fun C X hE => ?_)
  refine k_iconst X (nI 0) dX1_branchOf_0 (by decide) ?_
  refine k_istore_n (L' := [(2, .int (nI 0)), (0, .ref (ad E 11 c)), (1, .int x)]) X dX1_branchOf_1 rfl (by decide) rfl ?_
  exact L_X1_branchOf c n hc hn hn12 x X hE (n + 1) 0 (by omega) (Nat.zero_le n) (fun j hj => absurd hj (Nat.not_lt_zero j))

set_option maxHeartbeats 4000000 in
set_option maxRecDepth 100000 in
theorem C_X1_add {E : EE} {μ : Mem} (c n : Nat) (hc : c < 20) (hn : μ 11 c 4 = nI n) (hn12 : n ≤ 12) (x y z : Int32) : MM E yX1_add cX1_add 4 none (rm 1 0) [.ref (ad E 11 c), .int x, .int y, .int z] μ none (addM μ c n x y z) := by
  refine MM.void (own := RX1) [(0, .ref (ad E 11 c)), (1, .int x), (2, .int y), (3, .int z)] rfl rfl rfl (Nat.le_of_ble_eq_true rfl) (fun C X hE => ?_)
  refine k_aload_n X 0 dX1_add_0 rfl rfl ?_
  refine gt_X1_25 X hc dX1_add_1 ?_
  refine k_val (y := nI n) hn ?_
  refine k_bipush X 12 dX1_add_4 (by decide) ?_
  refine k_ge_n (a := n) (b := 12) (tgt := 49) X dX1_add_6 (by decide) rfl rfl (by omega) (by decide) (fun c6 => ?_) (fun c6 => ?_)
  · exact k_vret dX1_add_49 hE (if_neg (by omega)).symm
  · refine k_aload_n X 0 dX1_add_9 rfl rfl ?_
    refine gt_X1_9 X hc dX1_add_10 ?_
    refine k_aload_n X 0 dX1_add_13 rfl rfl ?_
    refine gt_X1_25 X hc dX1_add_14 ?_
    refine k_val (y := nI n) hn ?_
    refine k_iload_n X 1 dX1_add_17 rfl rfl ?_
    refine k_iast (a := 12) (j := n) X rfl hc rfl c6 (by decide) dX1_add_18 ?_
    refine k_aload_n X 0 dX1_add_19 rfl rfl ?_
    refine gt_X1_15 X hc dX1_add_20 ?_
    refine k_aload_n X 0 dX1_add_23 rfl rfl ?_
    refine gt_X1_25 X hc dX1_add_24 ?_
    refine k_val (y := nI n) (by simp [st, up, sgM, sg1, eoM, rgM, hn]) ?_
    refine k_iload_n X 2 dX1_add_27 rfl rfl ?_
    refine k_iast (a := 13) (j := n) X rfl hc rfl c6 (by decide) dX1_add_28 ?_
    refine k_aload_n X 0 dX1_add_29 rfl rfl ?_
    refine gt_X1_18 X hc dX1_add_30 ?_
    refine k_aload_n X 0 dX1_add_33 rfl rfl ?_
    refine gt_X1_25 X hc dX1_add_34 ?_
    refine k_val (y := nI n) (by simp [st, up, sgM, sg1, eoM, rgM, hn]) ?_
    refine k_iload_n X 3 dX1_add_37 rfl rfl ?_
    refine k_iast (a := 14) (j := n) X rfl hc rfl c6 (by decide) dX1_add_38 ?_
    refine k_aload_n X 0 dX1_add_39 rfl rfl ?_
    refine k_dup X dX1_add_40 rfl ?_
    refine gt_X1_25 X hc dX1_add_41 ?_
    refine k_val (y := nI n) (by simp [st, up, sgM, sg1, eoM, rgM, hn]) ?_
    refine k_iconst X 1 dX1_add_44 (by decide) ?_
    refine k_iadd X dX1_add_45 ?_
    refine k_val (y := nI (n + 1)) (nI_1 n) ?_
    refine pt_X1_25 X hc dX1_add_46 ?_
    exact k_vret dX1_add_49 hE (if_pos c6).symm

set_option maxHeartbeats 4000000 in
set_option maxRecDepth 100000 in
theorem C_X1_addDevice {E : EE} {μ : Mem} (c n : Nat) (hc : c < 20) (hn : μ 11 c 4 = nI n) (hn12 : n ≤ 12) (x y : Int32) : MM E yX1_addDevice cX1_addDevice 3 none (rm 2 0) [.ref (ad E 11 c), .int x, .int y] μ none (if frI (fun b => decide (μ 12 c b = x)) n = -1 then addM μ c n x y 0 else μ) := by
  refine MM.void (own := RX1) [(0, .ref (ad E 11 c)), (1, .int x), (2, .int y)] rfl rfl rfl (Nat.le_of_ble_eq_true rfl) (fun C X hE => ?_)
  refine k_aload_n X 0 dX1_addDevice_0 rfl rfl ?_
  refine k_iload_n X 1 dX1_addDevice_1 rfl rfl ?_
  refine k_callV (a := 11) (o := c) (As := [.int x]) (S := []) X lk_X1_45 rfl hc rfl (C_X1_branchOf c n hc hn hn12 _) rfl rfl (Nat.le_of_ble_eq_true rfl) ⟨Nat.le_of_ble_eq_true rfl, Nat.le_of_ble_eq_true rfl⟩ ⟨Nat.le_of_ble_eq_true rfl, Nat.le_of_ble_eq_true rfl⟩ dX1_addDevice_2 ?_
  show KF E C 0 0 μ 5 _ [.int (frI (fun b => decide (μ 12 c b = x)) n)]
  refine k_iconst X (-1) dX1_addDevice_5 (by decide) ?_
  refine k_icmp_ne (tgt := 16) X dX1_addDevice_6 (by decide) (fun c6 => ?_) (fun c6 => ?_)
  · exact k_vret dX1_addDevice_16 hE (if_neg c6).symm
  · refine k_aload_n X 0 dX1_addDevice_9 rfl rfl ?_
    refine k_iload_n X 1 dX1_addDevice_10 rfl rfl ?_
    refine k_iload_n X 2 dX1_addDevice_11 rfl rfl ?_
    refine k_iconst X 0 dX1_addDevice_12 (by decide) ?_
    refine k_callV (a := 11) (o := c) (As := [.int x, .int y, .int 0]) (S := []) X lk_X1_49 rfl hc rfl (C_X1_add c n hc hn hn12 _ _ _) rfl rfl (Nat.le_of_ble_eq_true rfl) ⟨Nat.le_of_ble_eq_true rfl, Nat.le_of_ble_eq_true rfl⟩ ⟨Nat.le_of_ble_eq_true rfl, Nat.le_of_ble_eq_true rfl⟩ dX1_addDevice_13 ?_
    show KF E C 0 0 (addM μ c n x y 0) 16 _ []
    exact k_vret dX1_addDevice_16 hE (if_pos c6).symm

set_option maxHeartbeats 4000000 in
set_option maxRecDepth 100000 in
theorem C_X1_addEnded {E : EE} {μ : Mem} (c n : Nat) (hc : c < 20) (hn : μ 11 c 4 = nI n) (hn12 : n ≤ 12) (x y : Int32) : MM E yX1_addEnded cX1_addEnded 3 none (rm 2 0) [.ref (ad E 11 c), .int x, .int y] μ none (addM μ c n (-1) x y) := by
  refine MM.void (own := RX1) [(0, .ref (ad E 11 c)), (1, .int x), (2, .int y)] rfl rfl rfl (Nat.le_of_ble_eq_true rfl) (fun C X hE => ?_)
  refine k_aload_n X 0 dX1_addEnded_0 rfl rfl ?_
  refine k_iconst X (-1) dX1_addEnded_1 (by decide) ?_
  refine k_iload_n X 1 dX1_addEnded_2 rfl rfl ?_
  refine k_iload_n X 2 dX1_addEnded_3 rfl rfl ?_
  refine k_callV (a := 11) (o := c) (As := [.int (-1), .int x, .int y]) (S := []) X lk_X1_49 rfl hc rfl (C_X1_add c n hc hn hn12 _ _ _) rfl rfl (Nat.le_of_ble_eq_true rfl) ⟨Nat.le_of_ble_eq_true rfl, Nat.le_of_ble_eq_true rfl⟩ ⟨Nat.le_of_ble_eq_true rfl, Nat.le_of_ble_eq_true rfl⟩ dX1_addEnded_4 ?_
  show KF E C 0 0 (addM μ c n (-1) x y) 7 _ []
  exact k_vret dX1_addEnded_7 hE rfl

set_option maxHeartbeats 4000000 in
set_option maxRecDepth 100000 in
theorem L_X1_isWaiting {E : EE} {μ : Mem} {C : Ctx} (c n : Nat) (hc : c < 20) (hn : μ 11 c 4 = nI n) (hn12 : n ≤ 12) (X : Cx E C cX1_isWaiting RX1 2 (rm 2 0)) (hE : EndI E C cX1_isWaiting 0 0 (bp (anB (wtP μ c) n = true)) μ) : ∀ (f : Nat) (i : Nat), n - i < f → i ≤ n → (∀ j, j < i → wtP μ c j = false) → KF E C 0 0 μ 2 [(1, .int (nI i)), (0, .ref (ad E 11 c))] [] := by
  intro f
  induction f with
  | zero => intros; omega
  | succ f ih =>
    intro i hf hi hno
    refine k_iload_n X 0 dX1_isWaiting_2 rfl rfl ?_
    refine k_aload_n X 1 dX1_isWaiting_3 rfl rfl ?_
    refine gt_X1_25 X hc dX1_isWaiting_4 ?_
    refine k_val (y := nI n) hn ?_
    refine k_ge_n (a := i) (b := n) (tgt := 34) X dX1_isWaiting_7 (by decide) rfl rfl (by omega) (by omega) (fun c7 => ?_) (fun c7 => ?_)
    · refine k_iconst X 0 dX1_isWaiting_34 (by decide) ?_
      exact k_iret dX1_isWaiting_35 hE (bp_f (by rw [anB_no (fun j hj => hno j (by omega))]; decide)).symm rfl
    · refine k_aload_n X 1 dX1_isWaiting_10 rfl rfl ?_
      refine k_iload_n X 0 dX1_isWaiting_11 rfl rfl ?_
      refine k_callV (a := 11) (o := c) (As := [.int (nI i)]) (S := []) X lk_X1_69 rfl hc rfl (C_X1_isStarted c i hc (by omega)) rfl rfl (Nat.le_of_ble_eq_true rfl) ⟨Nat.le_of_ble_eq_true rfl, Nat.le_of_ble_eq_true rfl⟩ ⟨Nat.le_of_ble_eq_true rfl, Nat.le_of_ble_eq_true rfl⟩ dX1_isWaiting_12 ?_
      show KF E C 0 0 μ 15 _ [.int (bp (μ 11 c 5 ≤ μ 13 c i))]
      refine k_if_eq_p (tgt := 28) X dX1_isWaiting_15 (by decide) (fun c15 => ?_) (fun c15 => ?_)
      · refine k_iinc (v := nI (i + 1)) (L' := [(1, .int (nI (i + 1))), (0, .ref (ad E 11 c))]) X 0 dX1_isWaiting_28 rfl (nI_1 i) (by decide) rfl ?_
        refine k_goto (tgt := 2) X dX1_isWaiting_31 (by decide) ?_
        exact ih (i + 1) (by omega) (by omega) (fun j hj => if e : j = i then e ▸ (by unfold wtP; rw [decide_eq_false c15]; rfl) else hno j (by omega))
      · refine k_aload_n X 1 dX1_isWaiting_18 rfl rfl ?_
        refine k_iload_n X 0 dX1_isWaiting_19 rfl rfl ?_
        refine k_callV (a := 11) (o := c) (As := [.int (nI i)]) (S := []) X lk_X1_73 rfl hc rfl (C_X1_isEnded c i hc (by omega)) rfl rfl (Nat.le_of_ble_eq_true rfl) ⟨Nat.le_of_ble_eq_true rfl, Nat.le_of_ble_eq_true rfl⟩ ⟨Nat.le_of_ble_eq_true rfl, Nat.le_of_ble_eq_true rfl⟩ dX1_isWaiting_20 ?_
        show KF E C 0 0 μ 23 _ [.int (bp (200 ≤ μ 14 c i))]
        refine k_if_ne_p (tgt := 28) X dX1_isWaiting_23 (by decide) (fun c23 => ?_) (fun c23 => ?_)
        · refine k_iinc (v := nI (i + 1)) (L' := [(1, .int (nI (i + 1))), (0, .ref (ad E 11 c))]) X 0 dX1_isWaiting_28 rfl (nI_1 i) (by decide) rfl ?_
          refine k_goto (tgt := 2) X dX1_isWaiting_31 (by decide) ?_
          exact ih (i + 1) (by omega) (by omega) (fun j hj => if e : j = i then e ▸ (by unfold wtP; rw [decide_eq_true c23]; simp) else hno j (by omega))
        · refine k_iconst X 1 dX1_isWaiting_26 (by decide) ?_
          exact k_iret dX1_isWaiting_27 hE (bp_t (anB_of (i := i) (by unfold wtP; rw [decide_eq_true c15, decide_eq_false c23]; rfl) (by omega))).symm rfl

set_option maxHeartbeats 4000000 in
set_option maxRecDepth 100000 in
theorem C_X1_isWaiting {E : EE} {μ : Mem} (c n : Nat) (hc : c < 20) (hn : μ 11 c 4 = nI n) (hn12 : n ≤ 12) : MM E yX1_isWaiting cX1_isWaiting 2 (some .boolean) (rm 2 0) [.ref (ad E 11 c)] μ (some (.int (bp (anB (wtP μ c) n = true)))) μ := by
  refine MM.int (own := RX1) [(0, .ref (ad E 11 c))] rfl rfl rfl (Nat.le_of_ble_eq_true rfl) bp_nar (fun C X hE => ?_)
  refine k_iconst X (nI 0) dX1_isWaiting_0 (by decide) ?_
  refine k_istore_n (L' := [(1, .int (nI 0)), (0, .ref (ad E 11 c))]) X dX1_isWaiting_1 rfl (by decide) rfl ?_
  exact L_X1_isWaiting c n hc hn hn12 X hE (n + 1) 0 (by omega) (Nat.zero_le n) (fun j hj => absurd hj (Nat.not_lt_zero j))

set_option maxHeartbeats 4000000 in
set_option maxRecDepth 100000 in
theorem L_X1_startGroup {E : EE} {μ : Mem} {C : Ctx} (c n : Nat) (hc : c < 20) (hn : μ 11 c 4 = nI n) (hn12 : n ≤ 12) (q now : Int32) (X : Cx E C cX1_startGroup RX1 4 (rm 2 0)) (hE : EndV E C cX1_startGroup 0 0 (sg1 μ c n q)) : ∀ (f : Nat) (i : Nat), n - i < f → i ≤ n → KF E C 0 0 (up μ 14 c 0 i (fun b => if μ 13 c b = q ∧ ¬ 200 ≤ μ 14 c b then 100 else μ 14 c b)) 12 [(3, .int (nI i)), (0, .ref (ad E 11 c)), (1, .int q), (2, .int now)] [] := by
  intro f
  induction f with
  | zero => intros; omega
  | succ f ih =>
    intro i hf hi
    refine k_iload_n X 0 dX1_startGroup_12 rfl rfl ?_
    refine k_aload_n X 1 dX1_startGroup_13 rfl rfl ?_
    refine gt_X1_25 X hc dX1_startGroup_14 ?_
    refine k_val (y := nI n) (by simp [st, up, sgM, sg1, eoM, rgM, hn]) ?_
    refine k_ge_n (a := i) (b := n) (tgt := 52) X dX1_startGroup_17 (by decide) rfl rfl (by omega) (by omega) (fun c17 => ?_) (fun c17 => ?_)
    · exact k_vret dX1_startGroup_52 hE (by rw [show i = n by omega]; rfl)
    · refine k_aload_n X 1 dX1_startGroup_20 rfl rfl ?_
      refine gt_X1_15 X hc dX1_startGroup_21 ?_
      refine k_iload_n X 0 dX1_startGroup_24 rfl rfl ?_
      refine k_iald (a := 13) (j := i) X rfl hc rfl (show i < 12 by omega) (by decide) dX1_startGroup_25 ?_
      refine k_val (y := μ 13 c i) (up_k (by decide)) ?_
      refine k_iload_n X 2 dX1_startGroup_26 rfl rfl ?_
      refine k_icmp_ne (tgt := 46) X dX1_startGroup_27 (by decide) (fun c27 => ?_) (fun c27 => ?_)
      · refine k_iinc (v := nI (i + 1)) (L' := [(3, .int (nI (i + 1))), (0, .ref (ad E 11 c)), (1, .int q), (2, .int now)]) X 0 dX1_startGroup_46 rfl (nI_1 i) (by decide) rfl ?_
        refine k_goto (tgt := 12) X dX1_startGroup_49 (by decide) ?_
        refine k_mem (μ' := up μ 14 c 0 (i + 1) (fun b => if μ 13 c b = q ∧ ¬ 200 ≤ μ 14 c b then 100 else μ 14 c b)) (up0_no (if_neg (fun h => by simp_all))) ?_
        exact ih (i + 1) (by omega) (by omega)
      · refine k_aload_n X 1 dX1_startGroup_30 rfl rfl ?_
        refine k_iload_n X 0 dX1_startGroup_31 rfl rfl ?_
        refine k_callV (a := 11) (o := c) (As := [.int (nI i)]) (S := []) X lk_X1_73 rfl hc rfl (C_X1_isEnded c i hc (by omega)) rfl rfl (Nat.le_of_ble_eq_true rfl) ⟨Nat.le_of_ble_eq_true rfl, Nat.le_of_ble_eq_true rfl⟩ ⟨Nat.le_of_ble_eq_true rfl, Nat.le_of_ble_eq_true rfl⟩ dX1_startGroup_32 ?_
        show KF E C 0 0 (up μ 14 c 0 i (fun b => if μ 13 c b = q ∧ ¬ 200 ≤ μ 14 c b then 100 else μ 14 c b)) 35 _ [.int (bp (200 ≤ (up μ 14 c 0 i (fun b => if μ 13 c b = q ∧ ¬ 200 ≤ μ 14 c b then 100 else μ 14 c b)) 14 c i))]
        refine k_val (y := bp (200 ≤ μ 14 c i)) (by rw [up0_next]) ?_
        refine k_if_ne_p (tgt := 46) X dX1_startGroup_35 (by decide) (fun c35 => ?_) (fun c35 => ?_)
        · refine k_iinc (v := nI (i + 1)) (L' := [(3, .int (nI (i + 1))), (0, .ref (ad E 11 c)), (1, .int q), (2, .int now)]) X 0 dX1_startGroup_46 rfl (nI_1 i) (by decide) rfl ?_
          refine k_goto (tgt := 12) X dX1_startGroup_49 (by decide) ?_
          refine k_mem (μ' := up μ 14 c 0 (i + 1) (fun b => if μ 13 c b = q ∧ ¬ 200 ≤ μ 14 c b then 100 else μ 14 c b)) (up0_no (if_neg (fun h => by simp_all))) ?_
          exact ih (i + 1) (by omega) (by omega)
        · refine k_aload_n X 1 dX1_startGroup_38 rfl rfl ?_
          refine gt_X1_18 X hc dX1_startGroup_39 ?_
          refine k_iload_n X 0 dX1_startGroup_42 rfl rfl ?_
          refine k_bipush X 100 dX1_startGroup_43 (by decide) ?_
          refine k_iast (a := 14) (j := i) X rfl hc rfl (show i < 12 by omega) (by decide) dX1_startGroup_45 ?_
          refine k_iinc (v := nI (i + 1)) (L' := [(3, .int (nI (i + 1))), (0, .ref (ad E 11 c)), (1, .int q), (2, .int now)]) X 0 dX1_startGroup_46 rfl (nI_1 i) (by decide) rfl ?_
          refine k_goto (tgt := 12) X dX1_startGroup_49 (by decide) ?_
          refine k_mem (μ' := up μ 14 c 0 (i + 1) (fun b => if μ 13 c b = q ∧ ¬ 200 ≤ μ 14 c b then 100 else μ 14 c b)) (up0_st (if_pos ⟨c27, c35⟩).symm) ?_
          exact ih (i + 1) (by omega) (by omega)

set_option maxHeartbeats 4000000 in
set_option maxRecDepth 100000 in
theorem C_X1_startGroup {E : EE} {μ : Mem} (c n : Nat) (hc : c < 20) (hn : μ 11 c 4 = nI n) (hn12 : n ≤ 12) (q now : Int32) : MM E yX1_startGroup cX1_startGroup 4 none (rm 2 0) [.ref (ad E 11 c), .int q, .int now] μ none (sgM μ c n q now) := by
  refine MM.void (own := RX1) [(0, .ref (ad E 11 c)), (1, .int q), (2, .int now)] rfl rfl rfl (Nat.le_of_ble_eq_true rfl) (fun C X hE => ?_)
  refine k_aload_n X 0 dX1_startGroup_0 rfl rfl ?_
  refine k_iload_n X 1 dX1_startGroup_1 rfl rfl ?_
  refine pt_X1_29 X hc dX1_startGroup_2 ?_
  refine k_aload_n X 0 dX1_startGroup_5 rfl rfl ?_
  refine k_iload_n X 2 dX1_startGroup_6 rfl rfl ?_
  refine pt_X1_32 X hc dX1_startGroup_7 ?_
  refine k_iconst X (nI 0) dX1_startGroup_10 (by decide) ?_
  refine k_istore_n (L' := [(3, .int (nI 0)), (0, .ref (ad E 11 c)), (1, .int q), (2, .int now)]) X dX1_startGroup_11 rfl (by decide) rfl ?_
  refine k_mem (μ' := up (st (st μ 11 c 5 q) 11 c 6 now) 14 c 0 0 (fun b => if (st (st μ 11 c 5 q) 11 c 6 now) 13 c b = q ∧ ¬ 200 ≤ (st (st μ 11 c 5 q) 11 c 6 now) 14 c b then 100 else (st (st μ 11 c 5 q) 11 c 6 now) 14 c b)) up_0.symm ?_
  exact L_X1_startGroup c n hc (by simp [st, hn]) hn12 q now X hE (n + 1) 0 (by omega) (Nat.zero_le n)

set_option maxHeartbeats 4000000 in
set_option maxRecDepth 100000 in
theorem L_X1_bestEnd {E : EE} {μ : Mem} {C : Ctx} (c n : Nat) (hc : c < 20) (hn : μ 11 c 4 = nI n) (hn12 : n ≤ 12) (X : Cx E C cX1_bestEnd RX1 5 (rm 2 0)) (hE : EndI E C cX1_bestEnd 0 0 (beI (μ 14 c) n) μ) : ∀ (f : Nat) (i : Nat), n - i < f → i ≤ n → KF E C 0 0 μ 6 [(3, .int (nI i)), (2, .int (beG (μ 14 c) i)), (1, .int (beL (μ 14 c) i)), (0, .ref (ad E 11 c))] [] := by
  intro f
  induction f with
  | zero => intros; omega
  | succ f ih =>
    intro i hf hi
    refine k_iload_n X 0 dX1_bestEnd_6 rfl rfl ?_
    refine k_aload_n X 3 dX1_bestEnd_7 rfl rfl ?_
    refine gt_X1_25 X hc dX1_bestEnd_8 ?_
    refine k_val (y := nI n) hn ?_
    refine k_ge_n (a := i) (b := n) (tgt := 60) X dX1_bestEnd_11 (by decide) rfl rfl (by omega) (by omega) (fun c11 => ?_) (fun c11 => ?_)
    · refine k_iload_n X 1 dX1_bestEnd_60 rfl rfl ?_
      refine k_sipush X 600 dX1_bestEnd_61 (by decide) ?_
      refine k_icmp_lt (tgt := 69) X dX1_bestEnd_64 (by decide) (fun c64 => ?_) (fun c64 => ?_)
      · refine k_iload_n X 2 dX1_bestEnd_69 rfl rfl ?_
        refine k_iconst X (-1) dX1_bestEnd_70 (by decide) ?_
        refine k_icmp_ne (tgt := 80) X dX1_bestEnd_71 (by decide) (fun c71 => ?_) (fun c71 => ?_)
        · refine k_iload_n X 2 dX1_bestEnd_80 rfl rfl ?_
          exact k_iret dX1_bestEnd_81 hE (by have e : i = n := (by omega); subst e; unfold beI; rw [if_neg (Int32.not_le.mpr c64), if_neg c71]) rfl
        · refine k_sipush X 487 dX1_bestEnd_74 (by decide) ?_
          refine k_goto (tgt := 81) X dX1_bestEnd_77 (by decide) ?_
          exact k_iret dX1_bestEnd_81 hE (by have e : i = n := (by omega); subst e; unfold beI; rw [if_neg (Int32.not_le.mpr c64), if_pos c71]) rfl
      · refine k_iload_n X 1 dX1_bestEnd_67 rfl rfl ?_
        exact k_iret dX1_bestEnd_68 hE (by have e : i = n := (by omega); subst e; unfold beI; rw [if_pos (Int32.not_lt.mp c64)]) rfl
    · refine k_aload_n X 3 dX1_bestEnd_14 rfl rfl ?_
      refine gt_X1_18 X hc dX1_bestEnd_15 ?_
      refine k_iload_n X 0 dX1_bestEnd_18 rfl rfl ?_
      refine k_iald (a := 14) (j := i) X rfl hc rfl (show i < 12 by omega) (by decide) dX1_bestEnd_19 ?_
      refine k_istore (L' := [(4, .int (μ 14 c i)), (3, .int (nI i)), (2, .int (beG (μ 14 c) i)), (1, .int (beL (μ 14 c) i)), (0, .ref (ad E 11 c))]) X dX1_bestEnd_20 (by decide) rfl ?_
      refine k_iload X 0 dX1_bestEnd_22 rfl ?_
      refine k_sipush X 487 dX1_bestEnd_24 (by decide) ?_
      refine k_icmp_eq (tgt := 54) X dX1_bestEnd_27 (by decide) (fun c27 => ?_) (fun c27 => ?_)
      · refine k_iinc (v := nI (i + 1)) (L' := [(3, .int (nI (i + 1))), (4, .int (μ 14 c i)), (2, .int (beG (μ 14 c) i)), (1, .int (beL (μ 14 c) i)), (0, .ref (ad E 11 c))]) X 1 dX1_bestEnd_54 rfl (nI_1 i) (by decide) rfl ?_
        refine k_goto (tgt := 6) X dX1_bestEnd_57 (by decide) ?_
        have e1 := beL_0 c27
        have e2 := beG_0 c27
        refine k_pick (L' := [(3, .int (nI (i + 1))), (2, .int (beG (μ 14 c) i)), (1, .int (beL (μ 14 c) i)), (0, .ref (ad E 11 c))]) [0, 2, 3, 4] rfl ?_
        rw [← e1, ← e2]
        exact ih (i + 1) (by omega) (by omega)
      · refine k_iload_n X 3 dX1_bestEnd_30 rfl rfl ?_
        refine k_iconst X (-1) dX1_bestEnd_31 (by decide) ?_
        refine k_icmp_ne (tgt := 40) X dX1_bestEnd_32 (by decide) (fun c32 => ?_) (fun c32 => ?_)
        · refine k_iload_n X 3 dX1_bestEnd_40 rfl rfl ?_
          refine k_iload X 0 dX1_bestEnd_41 rfl ?_
          refine k_mmin X wm_X1_79 dX1_bestEnd_43 ⟨Nat.le_of_ble_eq_true rfl, Nat.le_of_ble_eq_true rfl, Nat.le_of_ble_eq_true rfl, Nat.le_of_ble_eq_true rfl⟩ ?_
          refine k_val (y := beL (μ 14 c) (i + 1)) (by rw [beL_2 c27 c32]) ?_
          refine k_istore_n (L' := [(1, .int (beL (μ 14 c) (i + 1))), (4, .int (μ 14 c i)), (3, .int (nI i)), (2, .int (beG (μ 14 c) i)), (0, .ref (ad E 11 c))]) X dX1_bestEnd_46 rfl (by decide) rfl ?_
          refine k_iload_n X 3 dX1_bestEnd_47 rfl rfl ?_
          refine k_iload X 1 dX1_bestEnd_48 rfl ?_
          refine k_mmax X wm_X1_85 dX1_bestEnd_50 ⟨Nat.le_of_ble_eq_true rfl, Nat.le_of_ble_eq_true rfl, Nat.le_of_ble_eq_true rfl, Nat.le_of_ble_eq_true rfl⟩ ?_
          refine k_val (y := beG (μ 14 c) (i + 1)) (by rw [beG_1 c27]) ?_
          refine k_istore_n (L' := [(2, .int (beG (μ 14 c) (i + 1))), (1, .int (beL (μ 14 c) (i + 1))), (4, .int (μ 14 c i)), (3, .int (nI i)), (0, .ref (ad E 11 c))]) X dX1_bestEnd_53 rfl (by decide) rfl ?_
          refine k_iinc (v := nI (i + 1)) (L' := [(3, .int (nI (i + 1))), (2, .int (beG (μ 14 c) (i + 1))), (1, .int (beL (μ 14 c) (i + 1))), (4, .int (μ 14 c i)), (0, .ref (ad E 11 c))]) X 3 dX1_bestEnd_54 rfl (nI_1 i) (by decide) rfl ?_
          refine k_goto (tgt := 6) X dX1_bestEnd_57 (by decide) ?_
          refine k_pick (L' := [(3, .int (nI (i + 1))), (2, .int (beG (μ 14 c) (i + 1))), (1, .int (beL (μ 14 c) (i + 1))), (0, .ref (ad E 11 c))]) [0, 1, 2, 4] rfl ?_
          exact ih (i + 1) (by omega) (by omega)
        · refine k_iload X 0 dX1_bestEnd_35 rfl ?_
          refine k_goto (tgt := 46) X dX1_bestEnd_37 (by decide) ?_
          refine k_val (y := beL (μ 14 c) (i + 1)) (by rw [beL_1 c27 c32]) ?_
          refine k_istore_n (L' := [(1, .int (beL (μ 14 c) (i + 1))), (4, .int (μ 14 c i)), (3, .int (nI i)), (2, .int (beG (μ 14 c) i)), (0, .ref (ad E 11 c))]) X dX1_bestEnd_46 rfl (by decide) rfl ?_
          refine k_iload_n X 3 dX1_bestEnd_47 rfl rfl ?_
          refine k_iload X 1 dX1_bestEnd_48 rfl ?_
          refine k_mmax X wm_X1_85 dX1_bestEnd_50 ⟨Nat.le_of_ble_eq_true rfl, Nat.le_of_ble_eq_true rfl, Nat.le_of_ble_eq_true rfl, Nat.le_of_ble_eq_true rfl⟩ ?_
          refine k_val (y := beG (μ 14 c) (i + 1)) (by rw [beG_1 c27]) ?_
          refine k_istore_n (L' := [(2, .int (beG (μ 14 c) (i + 1))), (1, .int (beL (μ 14 c) (i + 1))), (4, .int (μ 14 c i)), (3, .int (nI i)), (0, .ref (ad E 11 c))]) X dX1_bestEnd_53 rfl (by decide) rfl ?_
          refine k_iinc (v := nI (i + 1)) (L' := [(3, .int (nI (i + 1))), (2, .int (beG (μ 14 c) (i + 1))), (1, .int (beL (μ 14 c) (i + 1))), (4, .int (μ 14 c i)), (0, .ref (ad E 11 c))]) X 3 dX1_bestEnd_54 rfl (nI_1 i) (by decide) rfl ?_
          refine k_goto (tgt := 6) X dX1_bestEnd_57 (by decide) ?_
          refine k_pick (L' := [(3, .int (nI (i + 1))), (2, .int (beG (μ 14 c) (i + 1))), (1, .int (beL (μ 14 c) (i + 1))), (0, .ref (ad E 11 c))]) [0, 1, 2, 4] rfl ?_
          exact ih (i + 1) (by omega) (by omega)

set_option maxHeartbeats 4000000 in
set_option maxRecDepth 100000 in
theorem C_X1_bestEnd {E : EE} {μ : Mem} (c n : Nat) (hc : c < 20) (hn : μ 11 c 4 = nI n) (hn12 : n ≤ 12) : MM E yX1_bestEnd cX1_bestEnd 5 (some .int) (rm 2 0) [.ref (ad E 11 c)] μ (some (.int (beI (μ 14 c) n))) μ := by
  refine MM.int (own := RX1) [(0, .ref (ad E 11 c))] rfl rfl rfl (Nat.le_of_ble_eq_true rfl) rfl (fun C X hE => ?_)
  refine k_iconst X (-1) dX1_bestEnd_0 (by decide) ?_
  refine k_istore_n (L' := [(1, .int (-1)), (0, .ref (ad E 11 c))]) X dX1_bestEnd_1 rfl (by decide) rfl ?_
  refine k_iconst X (-1) dX1_bestEnd_2 (by decide) ?_
  refine k_istore_n (L' := [(2, .int (-1)), (1, .int (-1)), (0, .ref (ad E 11 c))]) X dX1_bestEnd_3 rfl (by decide) rfl ?_
  refine k_iconst X (nI 0) dX1_bestEnd_4 (by decide) ?_
  refine k_istore_n (L' := [(3, .int (nI 0)), (2, .int (-1)), (1, .int (-1)), (0, .ref (ad E 11 c))]) X dX1_bestEnd_5 rfl (by decide) rfl ?_
  exact L_X1_bestEnd c n hc hn hn12 X hE (n + 1) 0 (by omega) (Nat.zero_le n)
