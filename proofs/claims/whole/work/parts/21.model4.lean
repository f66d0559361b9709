set_option maxHeartbeats 4000000 in
set_option maxRecDepth 100000 in
theorem C_X3_finalOf {E : EE} {μ : Mem} (c : Nat) (hc : c < 20) (h : ¬ (nI c < 0 ∨ μ 16 0 8 - 1 < nI c)) : MM E yX3_finalOf cX3_finalOf 2 (some .int) (rm 3 0) [.ref (ad E 16 0), .int (nI c)] μ (some (.int (μ 23 0 c))) (st μ 16 0 0 0) := by
  refine MM.int (own := RX3) [(0, .ref (ad E 16 0)), (1, .int (nI c))] rfl rfl rfl (Nat.le_of_ble_eq_true rfl) rfl (fun C X hE => ?_)
  refine k_aload_n X 0 dX3_finalOf_0 rfl rfl ?_
  refine k_aload_n X 0 dX3_finalOf_1 rfl rfl ?_
  refine k_iload_n X 1 dX3_finalOf_2 rfl rfl ?_
  refine k_callV (a := 16) (o := 0) (As := [.int (nI c)]) (S := [.ref (ad E 16 0)]) X lk_X3_126 rfl (by decide) rfl (C_X3_isCall _) rfl rfl (Nat.le_of_ble_eq_true rfl) ⟨Nat.le_of_ble_eq_true rfl, Nat.le_of_ble_eq_true rfl⟩ ⟨Nat.le_of_ble_eq_true rfl, Nat.le_of_ble_eq_true rfl⟩ dX3_finalOf_3 ?_
  show KF E C 0 0 μ 6 _ [.int (bp (¬ ((nI c) < 0 ∨ μ 16 0 8 - 1 < (nI c)))), .ref (ad E 16 0)]
  refine k_val (y := 1) (bp_t h) ?_
  refine k_if_eq_f (tgt := 13) X dX3_finalOf_6 (by decide) (by decide) ?_
  refine k_iconst X 0 dX3_finalOf_9 (by decide) ?_
  refine k_goto (tgt := 14) X dX3_finalOf_10 (by decide) ?_
  refine k_callV (a := 16) (o := 0) (As := [.int 0]) (S := []) X lk_X3_82 rfl (by decide) rfl (C_X3_holds _) rfl rfl (Nat.le_of_ble_eq_true rfl) ⟨Nat.le_of_ble_eq_true rfl, Nat.le_of_ble_eq_true rfl⟩ ⟨Nat.le_of_ble_eq_true rfl, Nat.le_of_ble_eq_true rfl⟩ dX3_finalOf_14 ?_
  show KF E C 0 0 (st μ 16 0 0 0) 17 _ [.int (bp (0 = 0))]
  refine k_val (y := 1) (bp_t rfl) ?_
  refine k_if_eq_f (tgt := 29) X dX3_finalOf_17 (by decide) (by decide) ?_
  refine k_aload_n X 0 dX3_finalOf_20 rfl rfl ?_
  refine gt_X3_29 X dX3_finalOf_21 ?_
  refine k_iload_n X 1 dX3_finalOf_24 rfl rfl ?_
  refine k_iald (a := 23) (j := c) X rfl (by decide) rfl (show c < 20 by omega) (by decide) dX3_finalOf_25 ?_
  refine k_val (y := μ 23 0 c) (st_k (by decide)) ?_
  refine k_goto (tgt := 30) X dX3_finalOf_26 (by decide) ?_
  exact k_iret dX3_finalOf_30 hE rfl rfl

set_option maxHeartbeats 4000000 in
set_option maxRecDepth 100000 in
theorem F_X3_finalOf {E : EE} {μ : Mem} (x : Int32) (h : (x < 0 ∨ μ 16 0 8 - 1 < x)) : MM E yX3_finalOf cX3_finalOf 2 (some .int) (rm 3 0) [.ref (ad E 16 0), .int x] μ (some (.int 0)) (st μ 16 0 0 1) := by
  refine MM.int (own := RX3) [(0, .ref (ad E 16 0)), (1, .int x)] rfl rfl rfl (Nat.le_of_ble_eq_true rfl) rfl (fun C X hE => ?_)
  refine k_aload_n X 0 dX3_finalOf_0 rfl rfl ?_
  refine k_aload_n X 0 dX3_finalOf_1 rfl rfl ?_
  refine k_iload_n X 1 dX3_finalOf_2 rfl rfl ?_
  refine k_callV (a := 16) (o := 0) (As := [.int x]) (S := [.ref (ad E 16 0)]) X lk_X3_126 rfl (by decide) rfl (C_X3_isCall _) rfl rfl (Nat.le_of_ble_eq_true rfl) ⟨Nat.le_of_ble_eq_true rfl, Nat.le_of_ble_eq_true rfl⟩ ⟨Nat.le_of_ble_eq_true rfl, Nat.le_of_ble_eq_true rfl⟩ dX3_finalOf_3 ?_
  show KF E C 0 0 μ 6 _ [.int (bp (¬ (x < 0 ∨ μ 16 0 8 - 1 < x))), .ref (ad E 16 0)]
  refine k_val (y := 0) (bp_f (fun q => q h)) ?_
  refine k_if_eq_t (tgt := 13) X dX3_finalOf_6 (by decide) rfl ?_
  refine k_iconst X 1 dX3_finalOf_13 (by decide) ?_
  refine k_callV (a := 16) (o := 0) (As := [.int 1]) (S := []) X lk_X3_82 rfl (by decide) rfl (C_X3_holds _) rfl rfl (Nat.le_of_ble_eq_true rfl) ⟨Nat.le_of_ble_eq_true rfl, Nat.le_of_ble_eq_true rfl⟩ ⟨Nat.le_of_ble_eq_true rfl, Nat.le_of_ble_eq_true rfl⟩ dX3_finalOf_14 ?_
  show KF E C 0 0 (st μ 16 0 0 1) 17 _ [.int (bp (1 = 0))]
  refine k_val (y := 0) (bp_f (by decide)) ?_
  refine k_if_eq_t (tgt := 29) X dX3_finalOf_17 (by decide) rfl ?_
  refine k_iconst X 0 dX3_finalOf_29 (by decide) ?_
  exact k_iret dX3_finalOf_30 hE rfl rfl

set_option maxHeartbeats 4000000 in
set_option maxRecDepth 100000 in
theorem C_X3_branches {E : EE} {μ : Mem} (c : Nat) (hc : c < 20) (h : ¬ (nI c < 0 ∨ μ 16 0 8 - 1 < nI c)) : MM E yX3_branches cX3_branches 2 (some .int) (rm 3 0) [.ref (ad E 16 0), .int (nI c)] μ (some (.int (μ 25 0 c))) (st μ 16 0 0 0) := by
  refine MM.int (own := RX3) [(0, .ref (ad E 16 0)), (1, .int (nI c))] rfl rfl rfl (Nat.le_of_ble_eq_true rfl) rfl (fun C X hE => ?_)
  refine k_aload_n X 0 dX3_branches_0 rfl rfl ?_
  refine k_aload_n X 0 dX3_branches_1 rfl rfl ?_
  refine k_iload_n X 1 dX3_branches_2 rfl rfl ?_
  refine k_callV (a := 16) (o := 0) (As := [.int (nI c)]) (S := [.ref (ad E 16 0)]) X lk_X3_126 rfl (by decide) rfl (C_X3_isCall _) rfl rfl (Nat.le_of_ble_eq_true rfl) ⟨Nat.le_of_ble_eq_true rfl, Nat.le_of_ble_eq_true rfl⟩ ⟨Nat.le_of_ble_eq_true rfl, Nat.le_of_ble_eq_true rfl⟩ dX3_branches_3 ?_
  show KF E C 0 0 μ 6 _ [.int (bp (¬ ((nI c) < 0 ∨ μ 16 0 8 - 1 < (nI c)))), .ref (ad E 16 0)]
  refine k_val (y := 1) (bp_t h) ?_
  refine k_if_eq_f (tgt := 13) X dX3_branches_6 (by decide) (by decide) ?_
  refine k_iconst X 0 dX3_branches_9 (by decide) ?_
  refine k_goto (tgt := 14) X dX3_branches_10 (by decide) ?_
  refine k_callV (a := 16) (o := 0) (As := [.int 0]) (S := []) X lk_X3_82 rfl (by decide) rfl (C_X3_holds _) rfl rfl (Nat.le_of_ble_eq_true rfl) ⟨Nat.le_of_ble_eq_true rfl, Nat.le_of_ble_eq_true rfl⟩ ⟨Nat.le_of_ble_eq_true rfl, Nat.le_of_ble_eq_true rfl⟩ dX3_branches_14 ?_
  show KF E C 0 0 (st μ 16 0 0 0) 17 _ [.int (bp (0 = 0))]
  refine k_val (y := 1) (bp_t rfl) ?_
  refine k_if_eq_f (tgt := 29) X dX3_branches_17 (by decide) (by decide) ?_
  refine k_aload_n X 0 dX3_branches_20 rfl rfl ?_
  refine gt_X3_35 X dX3_branches_21 ?_
  refine k_iload_n X 1 dX3_branches_24 rfl rfl ?_
  refine k_iald (a := 25) (j := c) X rfl (by decide) rfl (show c < 20 by omega) (by decide) dX3_branches_25 ?_
  refine k_val (y := μ 25 0 c) (st_k (by decide)) ?_
  refine k_goto (tgt := 30) X dX3_branches_26 (by decide) ?_
  exact k_iret dX3_branches_30 hE rfl rfl

set_option maxHeartbeats 4000000 in
set_option maxRecDepth 100000 in
theorem F_X3_branches {E : EE} {μ : Mem} (x : Int32) (h : (x < 0 ∨ μ 16 0 8 - 1 < x)) : MM E yX3_branches cX3_branches 2 (some .int) (rm 3 0) [.ref (ad E 16 0), .int x] μ (some (.int 0)) (st μ 16 0 0 1) := by
  refine MM.int (own := RX3) [(0, .ref (ad E 16 0)), (1, .int x)] rfl rfl rfl (Nat.le_of_ble_eq_true rfl) rfl (fun C X hE => ?_)
  refine k_aload_n X 0 dX3_branches_0 rfl rfl ?_
  refine k_aload_n X 0 dX3_branches_1 rfl rfl ?_
  refine k_iload_n X 1 dX3_branches_2 rfl rfl ?_
  refine k_callV (a := 16) (o := 0) (As := [.int x]) (S := [.ref (ad E 16 0)]) X lk_X3_126 rfl (by decide) rfl (C_X3_isCall _) rfl rfl (Nat.le_of_ble_eq_true rfl) ⟨Nat.le_of_ble_eq_true rfl, Nat.le_of_ble_eq_true rfl⟩ ⟨Nat.le_of_ble_eq_true rfl, Nat.le_of_ble_eq_true rfl⟩ dX3_branches_3 ?_
  show KF E C 0 0 μ 6 _ [.int (bp (¬ (x < 0 ∨ μ 16 0 8 - 1 < x))), .ref (ad E 16 0)]
  refine k_val (y := 0) (bp_f (fun q => q h)) ?_
  refine k_if_eq_t (tgt := 13) X dX3_branches_6 (by decide) rfl ?_
  refine k_iconst X 1 dX3_branches_13 (by decide) ?_
  refine k_callV (a := 16) (o := 0) (As := [.int 1]) (S := []) X lk_X3_82 rfl (by decide) rfl (C_X3_holds _) rfl rfl (Nat.le_of_ble_eq_true rfl) ⟨Nat.le_of_ble_eq_true rfl, Nat.le_of_ble_eq_true rfl⟩ ⟨Nat.le_of_ble_eq_true rfl, Nat.le_of_ble_eq_true rfl⟩ dX3_branches_14 ?_
  show KF E C 0 0 (st μ 16 0 0 1) 17 _ [.int (bp (1 = 0))]
  refine k_val (y := 0) (bp_f (by decide)) ?_
  refine k_if_eq_t (tgt := 29) X dX3_branches_17 (by decide) rfl ?_
  refine k_iconst X 0 dX3_branches_29 (by decide) ?_
  exact k_iret dX3_branches_30 hE rfl rfl

set_option maxHeartbeats 4000000 in
set_option maxRecDepth 100000 in
theorem C_X3_answered {E : EE} {μ : Mem} (c : Nat) (hc : c < 20) (h : ¬ (nI c < 0 ∨ μ 16 0 8 - 1 < nI c)) : MM E yX3_answered cX3_answered 2 (some .int) (rm 3 0) [.ref (ad E 16 0), .int (nI c)] μ (some (.int (μ 24 0 c))) (st μ 16 0 0 0) := by
  refine MM.int (own := RX3) [(0, .ref (ad E 16 0)), (1, .int (nI c))] rfl rfl rfl (Nat.le_of_ble_eq_true rfl) rfl (fun C X hE => ?_)
  refine k_aload_n X 0 dX3_answered_0 rfl rfl ?_
  refine k_aload_n X 0 dX3_answered_1 rfl rfl ?_
  refine k_iload_n X 1 dX3_answered_2 rfl rfl ?_
  refine k_callV (a := 16) (o := 0) (As := [.int (nI c)]) (S := [.ref (ad E 16 0)]) X lk_X3_126 rfl (by decide) rfl (C_X3_isCall _) rfl rfl (Nat.le_of_ble_eq_true rfl) ⟨Nat.le_of_ble_eq_true rfl, Nat.le_of_ble_eq_true rfl⟩ ⟨Nat.le_of_ble_eq_true rfl, Nat.le_of_ble_eq_true rfl⟩ dX3_answered_3 ?_
  show KF E C 0 0 μ 6 _ [.int (bp (¬ ((nI c) < 0 ∨ μ 16 0 8 - 1 < (nI c)))), .ref (ad E 16 0)]
  refine k_val (y := 1) (bp_t h) ?_
  refine k_if_eq_f (tgt := 13) X dX3_answered_6 (by decide) (by decide) ?_
  refine k_iconst X 0 dX3_answered_9 (by decide) ?_
  refine k_goto (tgt := 14) X dX3_answered_10 (by decide) ?_
  refine k_callV (a := 16) (o := 0) (As := [.int 0]) (S := []) X lk_X3_82 rfl (by decide) rfl (C_X3_holds _) rfl rfl (Nat.le_of_ble_eq_true rfl) ⟨Nat.le_of_ble_eq_true rfl, Nat.le_of_ble_eq_true rfl⟩ ⟨Nat.le_of_ble_eq_true rfl, Nat.le_of_ble_eq_true rfl⟩ dX3_answered_14 ?_
  show KF E C 0 0 (st μ 16 0 0 0) 17 _ [.int (bp (0 = 0))]
  refine k_val (y := 1) (bp_t rfl) ?_
  refine k_if_eq_f (tgt := 29) X dX3_answered_17 (by decide) (by decide) ?_
  refine k_aload_n X 0 dX3_answered_20 rfl rfl ?_
  refine gt_X3_32 X dX3_answered_21 ?_
  refine k_iload_n X 1 dX3_answered_24 rfl rfl ?_
  refine k_iald (a := 24) (j := c) X rfl (by decide) rfl (show c < 20 by omega) (by decide) dX3_answered_25 ?_
  refine k_val (y := μ 24 0 c) (st_k (by decide)) ?_
  refine k_goto (tgt := 30) X dX3_answered_26 (by decide) ?_
  exact k_iret dX3_answered_30 hE rfl rfl

set_option maxHeartbeats 4000000 in
set_option maxRecDepth 100000 in
theorem F_X3_answered {E : EE} {μ : Mem} (x : Int32) (h : (x < 0 ∨ μ 16 0 8 - 1 < x)) : MM E yX3_answered cX3_answered 2 (some .int) (rm 3 0) [.ref (ad E 16 0), .int x] μ (some (.int 0)) (st μ 16 0 0 1) := by
  refine MM.int (own := RX3) [(0, .ref (ad E 16 0)), (1, .int x)] rfl rfl rfl (Nat.le_of_ble_eq_true rfl) rfl (fun C X hE => ?_)
  refine k_aload_n X 0 dX3_answered_0 rfl rfl ?_
  refine k_aload_n X 0 dX3_answered_1 rfl rfl ?_
  refine k_iload_n X 1 dX3_answered_2 rfl rfl ?_
  refine k_callV (a := 16) (o := 0) (As := [.int x]) (S := [.ref (ad E 16 0)]) X lk_X3_126 rfl (by decide) rfl (C_X3_isCall _) rfl rfl (Nat.le_of_ble_eq_true rfl) ⟨Nat.le_of_ble_eq_true rfl, Nat.le_of_ble_eq_true rfl⟩ ⟨Nat.le_of_ble_eq_true rfl, Nat.le_of_ble_eq_true rfl⟩ dX3_answered_3 ?_
  show KF E C 0 0 μ 6 _ [.int (bp (¬ (x < 0 ∨ μ 16 0 8 - 1 < x))), .ref (ad E 16 0)]
  refine k_val (y := 0) (bp_f (fun q => q h)) ?_
  refine k_if_eq_t (tgt := 13) X dX3_answered_6 (by decide) rfl ?_
  refine k_iconst X 1 dX3_answered_13 (by decide) ?_
  refine k_callV (a := 16) (o := 0) (As := [.int 1]) (S := []) X lk_X3_82 rfl (by decide) rfl (C_X3_holds _) rfl rfl (Nat.le_of_ble_eq_true rfl) ⟨Nat.le_of_ble_eq_true rfl, Nat.le_of_ble_eq_true rfl⟩ ⟨Nat.le_of_ble_eq_true rfl, Nat.le_of_ble_eq_true rfl⟩ dX3_answered_14 ?_
  show KF E C 0 0 (st μ 16 0 0 1) 17 _ [.int (bp (1 = 0))]
  refine k_val (y := 0) (bp_f (by decide)) ?_
  refine k_if_eq_t (tgt := 29) X dX3_answered_17 (by decide) rfl ?_
  refine k_iconst X 0 dX3_answered_29 (by decide) ?_
  exact k_iret dX3_answered_30 hE rfl rfl

set_option maxHeartbeats 4000000 in
set_option maxRecDepth 100000 in
theorem C_X3_finalBySorting {E : EE} {μ : Mem} (c : Nat) (hc : c < 20) (h : ¬ (nI c < 0 ∨ μ 16 0 8 - 1 < nI c)) (hf : ¬ μ 23 0 c = -1) : MM E yX3_finalBySorting cX3_finalBySorting 3 (some .int) (rm 3 0) [.ref (ad E 16 0), .int (nI c)] μ (some (.int (μ 23 0 c))) (st μ 16 0 0 0) := by
  refine MM.int (own := RX3) [(0, .ref (ad E 16 0)), (1, .int (nI c))] rfl rfl rfl (Nat.le_of_ble_eq_true rfl) rfl (fun C X hE => ?_)
  refine k_aload_n X 0 dX3_finalBySorting_0 rfl rfl ?_
  refine k_iload_n X 1 dX3_finalBySorting_1 rfl rfl ?_
  refine k_callV (a := 16) (o := 0) (As := [.int (nI c)]) (S := []) X lk_X3_126 rfl (by decide) rfl (C_X3_isCall _) rfl rfl (Nat.le_of_ble_eq_true rfl) ⟨Nat.le_of_ble_eq_true rfl, Nat.le_of_ble_eq_true rfl⟩ ⟨Nat.le_of_ble_eq_true rfl, Nat.le_of_ble_eq_true rfl⟩ dX3_finalBySorting_2 ?_
  show KF E C 0 0 μ 5 _ [.int (bp (¬ ((nI c) < 0 ∨ μ 16 0 8 - 1 < (nI c))))]
  refine k_val (y := 1) (bp_t h) ?_
  refine k_istore_n (L' := [(2, .int 1), (0, .ref (ad E 16 0)), (1, .int (nI c))]) X dX3_finalBySorting_5 rfl (by decide) rfl ?_
  refine k_aload_n X 1 dX3_finalBySorting_6 rfl rfl ?_
  refine k_iload_n X 0 dX3_finalBySorting_7 rfl rfl ?_
  refine k_if_ne_t (tgt := 15) X dX3_finalBySorting_8 (by decide) (by decide) ?_
  refine k_aload_n X 1 dX3_finalBySorting_15 rfl rfl ?_
  refine gt_X3_29 X dX3_finalBySorting_16 ?_
  refine k_iload_n X 2 dX3_finalBySorting_19 rfl rfl ?_
  refine k_iald (a := 23) (j := c) X rfl (by decide) rfl (show c < 20 by omega) (by decide) dX3_finalBySorting_20 ?_
  refine k_val (y := μ 23 0 c) rfl ?_
  refine k_iconst X (-1) dX3_finalBySorting_21 (by decide) ?_
  refine k_icmp_ne_t (tgt := 29) X dX3_finalBySorting_22 (by decide) hf ?_
  refine k_iconst X 0 dX3_finalBySorting_29 (by decide) ?_
  refine k_callV (a := 16) (o := 0) (As := [.int 0]) (S := []) X lk_X3_82 rfl (by decide) rfl (C_X3_holds _) rfl rfl (Nat.le_of_ble_eq_true rfl) ⟨Nat.le_of_ble_eq_true rfl, Nat.le_of_ble_eq_true rfl⟩ ⟨Nat.le_of_ble_eq_true rfl, Nat.le_of_ble_eq_true rfl⟩ dX3_finalBySorting_30 ?_
  show KF E C 0 0 (st μ 16 0 0 0) 33 _ [.int (bp (0 = 0))]
  refine k_val (y := 1) (bp_t rfl) ?_
  refine k_if_eq_f (tgt := 45) X dX3_finalBySorting_33 (by decide) (by decide) ?_
  refine k_aload_n X 1 dX3_finalBySorting_36 rfl rfl ?_
  refine gt_X3_29 X dX3_finalBySorting_37 ?_
  refine k_iload_n X 2 dX3_finalBySorting_40 rfl rfl ?_
  refine k_iald (a := 23) (j := c) X rfl (by decide) rfl (show c < 20 by omega) (by decide) dX3_finalBySorting_41 ?_
  refine k_val (y := μ 23 0 c) (st_k (by decide)) ?_
  refine k_goto (tgt := 46) X dX3_finalBySorting_42 (by decide) ?_
  exact k_iret dX3_finalBySorting_46 hE rfl rfl

set_option maxHeartbeats 4000000 in
set_option maxRecDepth 100000 in
theorem F1_X3_finalBySorting {E : EE} {μ : Mem} (x : Int32) (h : (x < 0 ∨ μ 16 0 8 - 1 < x)) : MM E yX3_finalBySorting cX3_finalBySorting 3 (some .int) (rm 3 0) [.ref (ad E 16 0), .int x] μ (some (.int 0)) (st μ 16 0 0 1) := by
  refine MM.int (own := RX3) [(0, .ref (ad E 16 0)), (1, .int x)] rfl rfl rfl (Nat.le_of_ble_eq_true rfl) rfl (fun C X hE => ?_)
  refine k_aload_n X 0 dX3_finalBySorting_0 rfl rfl ?_
  refine k_iload_n X 1 dX3_finalBySorting_1 rfl rfl ?_
  refine k_callV (a := 16) (o := 0) (As := [.int x]) (S := []) X lk_X3_126 rfl (by decide) rfl (C_X3_isCall _) rfl rfl (Nat.le_of_ble_eq_true rfl) ⟨Nat.le_of_ble_eq_true rfl, Nat.le_of_ble_eq_true rfl⟩ ⟨Nat.le_of_ble_eq_true rfl, Nat.le_of_ble_eq_true rfl⟩ dX3_finalBySorting_2 ?_
  show KF E C 0 0 μ 5 _ [.int (bp (¬ (x < 0 ∨ μ 16 0 8 - 1 < x)))]
  refine k_val (y := 0) (bp_f (fun q => q h)) ?_
  refine k_istore_n (L' := [(2, .int 0), (0, .ref (ad E 16 0)), (1, .int x)]) X dX3_finalBySorting_5 rfl (by decide) rfl ?_
  refine k_aload_n X 1 dX3_finalBySorting_6 rfl rfl ?_
  refine k_iload_n X 0 dX3_finalBySorting_7 rfl rfl ?_
  refine k_if_ne_f (tgt := 15) X dX3_finalBySorting_8 (by decide) rfl ?_
  refine k_iconst X 1 dX3_finalBySorting_11 (by decide) ?_
  refine k_goto (tgt := 30) X dX3_finalBySorting_12 (by decide) ?_
  refine k_callV (a := 16) (o := 0) (As := [.int 1]) (S := []) X lk_X3_82 rfl (by decide) rfl (C_X3_holds _) rfl rfl (Nat.le_of_ble_eq_true rfl) ⟨Nat.le_of_ble_eq_true rfl, Nat.le_of_ble_eq_true rfl⟩ ⟨Nat.le_of_ble_eq_true rfl, Nat.le_of_ble_eq_true rfl⟩ dX3_finalBySorting_30 ?_
  show KF E C 0 0 (st μ 16 0 0 1) 33 _ [.int (bp (1 = 0))]
  refine k_val (y := 0) (bp_f (by decide)) ?_
  refine k_if_eq_t (tgt := 45) X dX3_finalBySorting_33 (by decide) rfl ?_
  refine k_iconst X 0 dX3_finalBySorting_45 (by decide) ?_
  exact k_iret dX3_finalBySorting_46 hE rfl rfl

set_option maxHeartbeats 4000000 in
set_option maxRecDepth 100000 in
theorem F2_X3_finalBySorting {E : EE} {μ : Mem} (c : Nat) (hc : c < 20) (h : ¬ (nI c < 0 ∨ μ 16 0 8 - 1 < nI c)) (hf : μ 23 0 c = -1) : MM E yX3_finalBySorting cX3_finalBySorting 3 (some .int) (rm 3 0) [.ref (ad E 16 0), .int (nI c)] μ (some (.int 0)) (st μ 16 0 0 2) := by
  refine MM.int (own := RX3) [(0, .ref (ad E 16 0)), (1, .int (nI c))] rfl rfl rfl (Nat.le_of_ble_eq_true rfl) rfl (fun C X hE => ?_)
  refine k_aload_n X 0 dX3_finalBySorting_0 rfl rfl ?_
  refine k_iload_n X 1 dX3_finalBySorting_1 rfl rfl ?_
  refine k_callV (a := 16) (o := 0) (As := [.int (nI c)]) (S := []) X lk_X3_126 rfl (by decide) rfl (C_X3_isCall _) rfl rfl (Nat.le_of_ble_eq_true rfl) ⟨Nat.le_of_ble_eq_true rfl, Nat.le_of_ble_eq_true rfl⟩ ⟨Nat.le_of_ble_eq_true rfl, Nat.le_of_ble_eq_true rfl⟩ dX3_finalBySorting_2 ?_
  show KF E C 0 0 μ 5 _ [.int (bp (¬ ((nI c) < 0 ∨ μ 16 0 8 - 1 < (nI c))))]
  refine k_val (y := 1) (bp_t h) ?_
  refine k_istore_n (L' := [(2, .int 1), (0, .ref (ad E 16 0)), (1, .int (nI c))]) X dX3_finalBySorting_5 rfl (by decide) rfl ?_
  refine k_aload_n X 1 dX3_finalBySorting_6 rfl rfl ?_
  refine k_iload_n X 0 dX3_finalBySorting_7 rfl rfl ?_
  refine k_if_ne_t (tgt := 15) X dX3_finalBySorting_8 (by decide) (by decide) ?_
  refine k_aload_n X 1 dX3_finalBySorting_15 rfl rfl ?_
  refine gt_X3_29 X dX3_finalBySorting_16 ?_
  refine k_iload_n X 2 dX3_finalBySorting_19 rfl rfl ?_
  refine k_iald (a := 23) (j := c) X rfl (by decide) rfl (show c < 20 by omega) (by decide) dX3_finalBySorting_20 ?_
  refine k_val (y := μ 23 0 c) rfl ?_
  refine k_iconst X (-1) dX3_finalBySorting_21 (by decide) ?_
  refine k_icmp_ne_f (tgt := 29) X dX3_finalBySorting_22 (by decide) hf ?_
  refine k_iconst X 2 dX3_finalBySorting_25 (by decide) ?_
  refine k_goto (tgt := 30) X dX3_finalBySorting_26 (by decide) ?_
  refine k_callV (a := 16) (o := 0) (As := [.int 2]) (S := []) X lk_X3_82 rfl (by decide) rfl (C_X3_holds _) rfl rfl (Nat.le_of_ble_eq_true rfl) ⟨Nat.le_of_ble_eq_true rfl, Nat.le_of_ble_eq_true rfl⟩ ⟨Nat.le_of_ble_eq_true rfl, Nat.le_of_ble_eq_true rfl⟩ dX3_finalBySorting_30 ?_
  show KF E C 0 0 (st μ 16 0 0 2) 33 _ [.int (bp (2 = 0))]
  refine k_val (y := 0) (bp_f (by decide)) ?_
  refine k_if_eq_t (tgt := 45) X dX3_finalBySorting_33 (by decide) rfl ?_
  refine k_iconst X 0 dX3_finalBySorting_45 (by decide) ?_
  exact k_iret dX3_finalBySorting_46 hE rfl rfl

set_option maxHeartbeats 4000000 in
set_option maxRecDepth 100000 in
theorem C_X3_cancel {E : EE} {μ : Mem} (c : Nat) (hc : c < 20) (hv : vN (μ 25 0 c) 12) (h : ¬ (nI c < 0 ∨ μ 16 0 8 - 1 < nI c)) (hf : μ 23 0 c = -1) : MM E yX3_cancel cX3_cancel 3 (some .int) (rm 3 0) [.ref (ad E 16 0), .int (nI c)] μ (some (.int (nI (mcN (st (st μ 16 0 0 0) 23 0 c 487) c (tN (μ 25 0 c)))))) (mcM (st (st μ 16 0 0 0) 23 0 c 487) c (tN (μ 25 0 c))) := by
  refine MM.int (own := RX3) [(0, .ref (ad E 16 0)), (1, .int (nI c))] rfl rfl rfl (Nat.le_of_ble_eq_true rfl) rfl (fun C X hE => ?_)
  refine k_aload_n X 0 dX3_cancel_0 rfl rfl ?_
  refine k_iload_n X 1 dX3_cancel_1 rfl rfl ?_
  refine k_callV (a := 16) (o := 0) (As := [.int (nI c)]) (S := []) X lk_X3_126 rfl (by decide) rfl (C_X3_isCall _) rfl rfl (Nat.le_of_ble_eq_true rfl) ⟨Nat.le_of_ble_eq_true rfl, Nat.le_of_ble_eq_true rfl⟩ ⟨Nat.le_of_ble_eq_true rfl, Nat.le_of_ble_eq_true rfl⟩ dX3_cancel_2 ?_
  show KF E C 0 0 μ 5 _ [.int (bp (¬ ((nI c) < 0 ∨ μ 16 0 8 - 1 < (nI c))))]
  refine k_val (y := 1) (bp_t h) ?_
  refine k_istore_n (L' := [(2, .int 1), (0, .ref (ad E 16 0)), (1, .int (nI c))]) X dX3_cancel_5 rfl (by decide) rfl ?_
  refine k_aload_n X 1 dX3_cancel_6 rfl rfl ?_
  refine k_iload_n X 0 dX3_cancel_7 rfl rfl ?_
  refine k_if_ne_t (tgt := 15) X dX3_cancel_8 (by decide) (by decide) ?_
  refine k_aload_n X 1 dX3_cancel_15 rfl rfl ?_
  refine gt_X3_29 X dX3_cancel_16 ?_
  refine k_iload_n X 2 dX3_cancel_19 rfl rfl ?_
  refine k_iald (a := 23) (j := c) X rfl (by decide) rfl (show c < 20 by omega) (by decide) dX3_cancel_20 ?_
  refine k_val (y := μ 23 0 c) rfl ?_
  refine k_iconst X (-1) dX3_cancel_21 (by decide) ?_
  refine k_icmp_eq_t (tgt := 29) X dX3_cancel_22 (by decide) hf ?_
  refine k_iconst X 0 dX3_cancel_29 (by decide) ?_
  refine k_callV (a := 16) (o := 0) (As := [.int 0]) (S := []) X lk_X3_82 rfl (by decide) rfl (C_X3_holds _) rfl rfl (Nat.le_of_ble_eq_true rfl) ⟨Nat.le_of_ble_eq_true rfl, Nat.le_of_ble_eq_true rfl⟩ ⟨Nat.le_of_ble_eq_true rfl, Nat.le_of_ble_eq_true rfl⟩ dX3_cancel_30 ?_
  show KF E C 0 0 (st μ 16 0 0 0) 33 _ [.int (bp (0 = 0))]
  refine k_val (y := 1) (bp_t rfl) ?_
  refine k_if_ne_t (tgt := 38) X dX3_cancel_33 (by decide) (by decide) ?_
  refine k_aload_n X 1 dX3_cancel_38 rfl rfl ?_
  refine gt_X3_29 X dX3_cancel_39 ?_
  refine k_iload_n X 2 dX3_cancel_42 rfl rfl ?_
  refine k_sipush X 487 dX3_cancel_43 (by decide) ?_
  refine k_iast (a := 23) (j := c) X rfl (by decide) rfl (show c < 20 by omega) (by decide) dX3_cancel_46 ?_
  refine k_aload_n X 1 dX3_cancel_47 rfl rfl ?_
  refine k_iload_n X 2 dX3_cancel_48 rfl rfl ?_
  refine k_callV (a := 16) (o := 0) (As := [.int (nI c)]) (S := []) X lk_X3_123 rfl (by decide) rfl (C_X3_cuts c _ hc (by simp only [st]; exact hv.1) hv.2) rfl rfl (Nat.le_of_ble_eq_true rfl) ⟨Nat.le_of_ble_eq_true rfl, Nat.le_of_ble_eq_true rfl⟩ ⟨Nat.le_of_ble_eq_true rfl, Nat.le_of_ble_eq_true rfl⟩ dX3_cancel_49 ?_
  show KF E C 0 0 (mcM (st (st μ 16 0 0 0) 23 0 c 487) c (tN (μ 25 0 c))) 52 _ [.int (nI (mcN (st (st μ 16 0 0 0) 23 0 c 487) c (tN (μ 25 0 c))))]
  exact k_iret dX3_cancel_52 hE rfl rfl

set_option maxHeartbeats 4000000 in
set_option maxRecDepth 100000 in
theorem F1_X3_cancel {E : EE} {μ : Mem} (x : Int32) (h : (x < 0 ∨ μ 16 0 8 - 1 < x)) : MM E yX3_cancel cX3_cancel 3 (some .int) (rm 3 0) [.ref (ad E 16 0), .int x] μ (some (.int 0)) (st μ 16 0 0 1) := by
  refine MM.int (own := RX3) [(0, .ref (ad E 16 0)), (1, .int x)] rfl rfl rfl (Nat.le_of_ble_eq_true rfl) rfl (fun C X hE => ?_)
  refine k_aload_n X 0 dX3_cancel_0 rfl rfl ?_
  refine k_iload_n X 1 dX3_cancel_1 rfl rfl ?_
  refine k_callV (a := 16) (o := 0) (As := [.int x]) (S := []) X lk_X3_126 rfl (by decide) rfl (C_X3_isCall _) rfl rfl (Nat.le_of_ble_eq_true rfl) ⟨Nat.le_of_ble_eq_true rfl, Nat.le_of_ble_eq_true rfl⟩ ⟨Nat.le_of_ble_eq_true rfl, Nat.le_of_ble_eq_true rfl⟩ dX3_cancel_2 ?_
  show KF E C 0 0 μ 5 _ [.int (bp (¬ (x < 0 ∨ μ 16 0 8 - 1 < x)))]
  refine k_val (y := 0) (bp_f (fun q => q h)) ?_
  refine k_istore_n (L' := [(2, .int 0), (0, .ref (ad E 16 0)), (1, .int x)]) X dX3_cancel_5 rfl (by decide) rfl ?_
  refine k_aload_n X 1 dX3_cancel_6 rfl rfl ?_
  refine k_iload_n X 0 dX3_cancel_7 rfl rfl ?_
  refine k_if_ne_f (tgt := 15) X dX3_cancel_8 (by decide) rfl ?_
  refine k_iconst X 1 dX3_cancel_11 (by decide) ?_
  refine k_goto (tgt := 30) X dX3_cancel_12 (by decide) ?_
  refine k_callV (a := 16) (o := 0) (As := [.int 1]) (S := []) X lk_X3_82 rfl (by decide) rfl (C_X3_holds _) rfl rfl (Nat.le_of_ble_eq_true rfl) ⟨Nat.le_of_ble_eq_true rfl, Nat.le_of_ble_eq_true rfl⟩ ⟨Nat.le_of_ble_eq_true rfl, Nat.le_of_ble_eq_true rfl⟩ dX3_cancel_30 ?_
  show KF E C 0 0 (st μ 16 0 0 1) 33 _ [.int (bp (1 = 0))]
  refine k_val (y := 0) (bp_f (by decide)) ?_
  refine k_if_ne_f (tgt := 38) X dX3_cancel_33 (by decide) rfl ?_
  refine k_iconst X 0 dX3_cancel_36 (by decide) ?_
  exact k_iret dX3_cancel_37 hE rfl rfl

set_option maxHeartbeats 4000000 in
set_option maxRecDepth 100000 in
theorem F2_X3_cancel {E : EE} {μ : Mem} (c : Nat) (hc : c < 20) (h : ¬ (nI c < 0 ∨ μ 16 0 8 - 1 < nI c)) (hf : ¬ μ 23 0 c = -1) : MM E yX3_cancel cX3_cancel 3 (some .int) (rm 3 0) [.ref (ad E 16 0), .int (nI c)] μ (some (.int 0)) (st μ 16 0 0 2) := by
  refine MM.int (own := RX3) [(0, .ref (ad E 16 0)), (1, .int (nI c))] rfl rfl rfl (Nat.le_of_ble_eq_true rfl) rfl (fun C X hE => ?_)
  refine k_aload_n X 0 dX3_cancel_0 rfl rfl ?_
  refine k_iload_n X 1 dX3_cancel_1 rfl rfl ?_
  refine k_callV (a := 16) (o := 0) (As := [.int (nI c)]) (S := []) X lk_X3_126 rfl (by decide) rfl (C_X3_isCall _) rfl rfl (Nat.le_of_ble_eq_true rfl) ⟨Nat.le_of_ble_eq_true rfl, Nat.le_of_ble_eq_true rfl⟩ ⟨Nat.le_of_ble_eq_true rfl, Nat.le_of_ble_eq_true rfl⟩ dX3_cancel_2 ?_
  show KF E C 0 0 μ 5 _ [.int (bp (¬ ((nI c) < 0 ∨ μ 16 0 8 - 1 < (nI c))))]
  refine k_val (y := 1) (bp_t h) ?_
  refine k_istore_n (L' := [(2, .int 1), (0, .ref (ad E 16 0)), (1, .int (nI c))]) X dX3_cancel_5 rfl (by decide) rfl ?_
  refine k_aload_n X 1 dX3_cancel_6 rfl rfl ?_
  refine k_iload_n X 0 dX3_cancel_7 rfl rfl ?_
  refine k_if_ne_t (tgt := 15) X dX3_cancel_8 (by decide) (by decide) ?_
  refine k_aload_n X 1 dX3_cancel_15 rfl rfl ?_
  refine gt_X3_29 X dX3_cancel_16 ?_
  refine k_iload_n X 2 dX3_cancel_19 rfl rfl ?_
  refine k_iald (a := 23) (j := c) X rfl (by decide) rfl (show c < 20 by omega) (by decide) dX3_cancel_20 ?_
  refine k_val (y := μ 23 0 c) rfl ?_
  refine k_iconst X (-1) dX3_cancel_21 (by decide) ?_
  refine k_icmp_eq_f (tgt := 29) X dX3_cancel_22 (by decide) hf ?_
  refine k_iconst X 2 dX3_cancel_25 (by decide) ?_
  refine k_goto (tgt := 30) X dX3_cancel_26 (by decide) ?_
  refine k_callV (a := 16) (o := 0) (As := [.int 2]) (S := []) X lk_X3_82 rfl (by decide) rfl (C_X3_holds _) rfl rfl (Nat.le_of_ble_eq_true rfl) ⟨Nat.le_of_ble_eq_true rfl, Nat.le_of_ble_eq_true rfl⟩ ⟨Nat.le_of_ble_eq_true rfl, Nat.le_of_ble_eq_true rfl⟩ dX3_cancel_30 ?_
  show KF E C 0 0 (st μ 16 0 0 2) 33 _ [.int (bp (2 = 0))]
  refine k_val (y := 0) (bp_f (by decide)) ?_
  refine k_if_ne_f (tgt := 38) X dX3_cancel_33 (by decide) rfl ?_
  refine k_iconst X 0 dX3_cancel_36 (by decide) ?_
  exact k_iret dX3_cancel_37 hE rfl rfl

set_option maxHeartbeats 4000000 in
set_option maxRecDepth 100000 in
theorem C_X3_isBranch {E : EE} {μ : Mem} (c : Nat) (y : Int32) (hc : c < 20) (h : ¬ (nI c < 0 ∨ μ 16 0 8 - 1 < nI c)) (h2 : ¬ (y < 0 ∨ μ 25 0 c - 1 < y)) : MM E yX3_isBranch cX3_isBranch 4 (some .boolean) (rm 3 0) [.ref (ad E 16 0), .int (nI c), .int y] μ (some (.int 1)) (st μ 16 0 0 0) := by
  refine MM.int (own := RX3) [(0, .ref (ad E 16 0)), (1, .int (nI c)), (2, .int y)] rfl rfl rfl (Nat.le_of_ble_eq_true rfl) rfl (fun C X hE => ?_)
  refine k_aload_n X 0 dX3_isBranch_0 rfl rfl ?_
  refine k_iload_n X 1 dX3_isBranch_1 rfl rfl ?_
  refine k_callV (a := 16) (o := 0) (As := [.int (nI c)]) (S := []) X lk_X3_126 rfl (by decide) rfl (C_X3_isCall _) rfl rfl (Nat.le_of_ble_eq_true rfl) ⟨Nat.le_of_ble_eq_true rfl, Nat.le_of_ble_eq_true rfl⟩ ⟨Nat.le_of_ble_eq_true rfl, Nat.le_of_ble_eq_true rfl⟩ dX3_isBranch_2 ?_
  show KF E C 0 0 μ 5 _ [.int (bp (¬ ((nI c) < 0 ∨ μ 16 0 8 - 1 < (nI c))))]
  refine k_val (y := 1) (bp_t h) ?_
  refine k_istore_n (L' := [(3, .int 1), (0, .ref (ad E 16 0)), (1, .int (nI c)), (2, .int y)]) X dX3_isBranch_5 rfl (by decide) rfl ?_
  refine k_aload_n X 1 dX3_isBranch_6 rfl rfl ?_
  refine k_iload_n X 0 dX3_isBranch_7 rfl rfl ?_
  refine k_if_eq_f (tgt := 31) X dX3_isBranch_8 (by decide) (by decide) ?_
  refine k_iload_n X 3 dX3_isBranch_11 rfl rfl ?_
  refine k_iconst X 0 dX3_isBranch_12 (by decide) ?_
  refine k_aload_n X 1 dX3_isBranch_13 rfl rfl ?_
  refine gt_X3_35 X dX3_isBranch_14 ?_
  refine k_iload_n X 2 dX3_isBranch_17 rfl rfl ?_
  refine k_iald (a := 25) (j := c) X rfl (by decide) rfl (show c < 20 by omega) (by decide) dX3_isBranch_18 ?_
  refine k_iconst X 1 dX3_isBranch_19 (by decide) ?_
  refine k_isub X dX3_isBranch_20 ?_
  refine k_callS (As := [.int y, .int 0, .int ((μ 25 0 c) - 1)]) (S := [.ref (ad E 16 0)]) X lk_X3_63 (C_X3_isIn _ _ _) rfl rfl (Nat.le_of_ble_eq_true rfl) ⟨Nat.le_of_ble_eq_true rfl, Nat.le_of_ble_eq_true rfl⟩ ⟨Nat.le_of_ble_eq_true rfl, Nat.le_of_ble_eq_true rfl⟩ dX3_isBranch_21 ?_
  show KF E C 0 0 μ 24 _ [.int (bp (¬ (y < 0 ∨ ((μ 25 0 c) - 1) < y))), .ref (ad E 16 0)]
  refine k_val (y := 1) (bp_t h2) ?_
  refine k_if_eq_f (tgt := 31) X dX3_isBranch_24 (by decide) (by decide) ?_
  refine k_iconst X 0 dX3_isBranch_27 (by decide) ?_
  refine k_goto (tgt := 32) X dX3_isBranch_28 (by decide) ?_
  refine k_callV (a := 16) (o := 0) (As := [.int 0]) (S := []) X lk_X3_82 rfl (by decide) rfl (C_X3_holds _) rfl rfl (Nat.le_of_ble_eq_true rfl) ⟨Nat.le_of_ble_eq_true rfl, Nat.le_of_ble_eq_true rfl⟩ ⟨Nat.le_of_ble_eq_true rfl, Nat.le_of_ble_eq_true rfl⟩ dX3_isBranch_32 ?_
  show KF E C 0 0 (st μ 16 0 0 0) 35 _ [.int (bp (0 = 0))]
  refine k_val (y := 1) (bp_t rfl) ?_
  exact k_iret dX3_isBranch_35 hE rfl rfl

set_option maxHeartbeats 4000000 in
set_option maxRecDepth 100000 in
theorem F1_X3_isBranch {E : EE} {μ : Mem} (x y : Int32) (h : (x < 0 ∨ μ 16 0 8 - 1 < x)) : MM E yX3_isBranch cX3_isBranch 4 (some .boolean) (rm 3 0) [.ref (ad E 16 0), .int x, .int y] μ (some (.int 0)) (st μ 16 0 0 1) := by
  refine MM.int (own := RX3) [(0, .ref (ad E 16 0)), (1, .int x), (2, .int y)] rfl rfl rfl (Nat.le_of_ble_eq_true rfl) rfl (fun C X hE => ?_)
  refine k_aload_n X 0 dX3_isBranch_0 rfl rfl ?_
  refine k_iload_n X 1 dX3_isBranch_1 rfl rfl ?_
  refine k_callV (a := 16) (o := 0) (As := [.int x]) (S := []) X lk_X3_126 rfl (by decide) rfl (C_X3_isCall _) rfl rfl (Nat.le_of_ble_eq_true rfl) ⟨Nat.le_of_ble_eq_true rfl, Nat.le_of_ble_eq_true rfl⟩ ⟨Nat.le_of_ble_eq_true rfl, Nat.le_of_ble_eq_true rfl⟩ dX3_isBranch_2 ?_
  show KF E C 0 0 μ 5 _ [.int (bp (¬ (x < 0 ∨ μ 16 0 8 - 1 < x)))]
  refine k_val (y := 0) (bp_f (fun q => q h)) ?_
  refine k_istore_n (L' := [(3, .int 0), (0, .ref (ad E 16 0)), (1, .int x), (2, .int y)]) X dX3_isBranch_5 rfl (by decide) rfl ?_
  refine k_aload_n X 1 dX3_isBranch_6 rfl rfl ?_
  refine k_iload_n X 0 dX3_isBranch_7 rfl rfl ?_
  refine k_if_eq_t (tgt := 31) X dX3_isBranch_8 (by decide) rfl ?_
  refine k_iconst X 1 dX3_isBranch_31 (by decide) ?_
  refine k_callV (a := 16) (o := 0) (As := [.int 1]) (S := []) X lk_X3_82 rfl (by decide) rfl (C_X3_holds _) rfl rfl (Nat.le_of_ble_eq_true rfl) ⟨Nat.le_of_ble_eq_true rfl, Nat.le_of_ble_eq_true rfl⟩ ⟨Nat.le_of_ble_eq_true rfl, Nat.le_of_ble_eq_true rfl⟩ dX3_isBranch_32 ?_
  show KF E C 0 0 (st μ 16 0 0 1) 35 _ [.int (bp (1 = 0))]
  refine k_val (y := 0) (bp_f (by decide)) ?_
  exact k_iret dX3_isBranch_35 hE rfl rfl

set_option maxHeartbeats 4000000 in
set_option maxRecDepth 100000 in
theorem F2_X3_isBranch {E : EE} {μ : Mem} (c : Nat) (y : Int32) (hc : c < 20) (h : ¬ (nI c < 0 ∨ μ 16 0 8 - 1 < nI c)) (h2 : (y < 0 ∨ μ 25 0 c - 1 < y)) : MM E yX3_isBranch cX3_isBranch 4 (some .boolean) (rm 3 0) [.ref (ad E 16 0), .int (nI c), .int y] μ (some (.int 0)) (st μ 16 0 0 1) := by
  refine MM.int (own := RX3) [(0, .ref (ad E 16 0)), (1, .int (nI c)), (2, .int y)] rfl rfl rfl (Nat.le_of_ble_eq_true rfl) rfl (fun C X hE => ?_)
  refine k_aload_n X 0 dX3_isBranch_0 rfl rfl ?_
  refine k_iload_n X 1 dX3_isBranch_1 rfl rfl ?_
  refine k_callV (a := 16) (o := 0) (As := [.int (nI c)]) (S := []) X lk_X3_126 rfl (by decide) rfl (C_X3_isCall _) rfl rfl (Nat.le_of_ble_eq_true rfl) ⟨Nat.le_of_ble_eq_true rfl, Nat.le_of_ble_eq_true rfl⟩ ⟨Nat.le_of_ble_eq_true rfl, Nat.le_of_ble_eq_true rfl⟩ dX3_isBranch_2 ?_
  show KF E C 0 0 μ 5 _ [.int (bp (¬ ((nI c) < 0 ∨ μ 16 0 8 - 1 < (nI c))))]
  refine k_val (y := 1) (bp_t h) ?_
  refine k_istore_n (L' := [(3, .int 1), (0, .ref (ad E 16 0)), (1, .int (nI c)), (2, .int y)]) X dX3_isBranch_5 rfl (by decide) rfl ?_
  refine k_aload_n X 1 dX3_isBranch_6 rfl rfl ?_
  refine k_iload_n X 0 dX3_isBranch_7 rfl rfl ?_
  refine k_if_eq_f (tgt := 31) X dX3_isBranch_8 (by decide) (by decide) ?_
  refine k_iload_n X 3 dX3_isBranch_11 rfl rfl ?_
  refine k_iconst X 0 dX3_isBranch_12 (by decide) ?_
  refine k_aload_n X 1 dX3_isBranch_13 rfl rfl ?_
  refine gt_X3_35 X dX3_isBranch_14 ?_
  refine k_iload_n X 2 dX3_isBranch_17 rfl rfl ?_
  refine k_iald (a := 25) (j := c) X rfl (by decide) rfl (show c < 20 by omega) (by decide) dX3_isBranch_18 ?_
  refine k_iconst X 1 dX3_isBranch_19 (by decide) ?_
  refine k_isub X dX3_isBranch_20 ?_
  refine k_callS (As := [.int y, .int 0, .int ((μ 25 0 c) - 1)]) (S := [.ref (ad E 16 0)]) X lk_X3_63 (C_X3_isIn _ _ _) rfl rfl (Nat.le_of_ble_eq_true rfl) ⟨Nat.le_of_ble_eq_true rfl, Nat.le_of_ble_eq_true rfl⟩ ⟨Nat.le_of_ble_eq_true rfl, Nat.le_of_ble_eq_true rfl⟩ dX3_isBranch_21 ?_
  show KF E C 0 0 μ 24 _ [.int (bp (¬ (y < 0 ∨ ((μ 25 0 c) - 1) < y))), .ref (ad E 16 0)]
  refine k_val (y := 0) (bp_f (fun q => q h2)) ?_
  refine k_if_eq_t (tgt := 31) X dX3_isBranch_24 (by decide) rfl ?_
  refine k_iconst X 1 dX3_isBranch_31 (by decide) ?_
  refine k_callV (a := 16) (o := 0) (As := [.int 1]) (S := []) X lk_X3_82 rfl (by decide) rfl (C_X3_holds _) rfl rfl (Nat.le_of_ble_eq_true rfl) ⟨Nat.le_of_ble_eq_true rfl, Nat.le_of_ble_eq_true rfl⟩ ⟨Nat.le_of_ble_eq_true rfl, Nat.le_of_ble_eq_true rfl⟩ dX3_isBranch_32 ?_
  show KF E C 0 0 (st μ 16 0 0 1) 35 _ [.int (bp (1 = 0))]
  refine k_val (y := 0) (bp_f (by decide)) ?_
  exact k_iret dX3_isBranch_35 hE rfl rfl

set_option maxHeartbeats 4000000 in
set_option maxRecDepth 100000 in
theorem C_X3_device {E : EE} {μ : Mem} (c b : Nat) (hc : c < 20) (hb : b < 12) (h : ¬ (nI c < 0 ∨ μ 16 0 8 - 1 < nI c)) (h2 : ¬ (nI b < 0 ∨ μ 25 0 c - 1 < nI b)) : MM E yX3_device cX3_device 3 (some .int) (rm 4 0) [.ref (ad E 16 0), .int (nI c), .int (nI b)] μ (some (.int (μ 28 0 (12 * c + b)))) (st μ 16 0 0 0) := by
  refine MM.int (own := RX3) [(0, .ref (ad E 16 0)), (1, .int (nI c)), (2, .int (nI b))] rfl rfl rfl (Nat.le_of_ble_eq_true rfl) rfl (fun C X hE => ?_)
  refine k_aload_n X 0 dX3_device_0 rfl rfl ?_
  refine k_iload_n X 1 dX3_device_1 rfl rfl ?_
  refine k_iload_n X 2 dX3_device_2 rfl rfl ?_
  refine k_callV (a := 16) (o := 0) (As := [.int (nI c), .int (nI b)]) (S := []) X lk_X3_139 rfl (by decide) rfl (C_X3_isBranch c _ hc h h2) rfl rfl (Nat.le_of_ble_eq_true rfl) ⟨Nat.le_of_ble_eq_true rfl, Nat.le_of_ble_eq_true rfl⟩ ⟨Nat.le_of_ble_eq_true rfl, Nat.le_of_ble_eq_true rfl⟩ dX3_device_3 ?_
  show KF E C 0 0 (st μ 16 0 0 0) 6 _ [.int 1]
  refine k_if_eq_f (tgt := 23) X dX3_device_6 (by decide) (by decide) ?_
  refine k_aload_n X 0 dX3_device_9 rfl rfl ?_
  refine gt_X3_44 X dX3_device_10 ?_
  refine k_bipush X 12 dX3_device_13 (by decide) ?_
  refine k_iload_n X 1 dX3_device_15 rfl rfl ?_
  refine k_imul X dX3_device_16 ?_
  refine k_val (y := nI (12 * c)) (pk_mul _ _) ?_
  refine k_iload_n X 2 dX3_device_17 rfl rfl ?_
  refine k_iadd X dX3_device_18 ?_
  refine k_val (y := nI ((12 * c) + b)) (nI_add _ _) ?_
  refine k_iald (a := 28) (j := ((12 * c) + b)) X rfl (by decide) rfl (show ((12 * c) + b) < 240 by omega) (by decide) dX3_device_19 ?_
  refine k_val (y := μ 28 0 (12 * c + b)) (st_k (by decide)) ?_
  refine k_goto (tgt := 24) X dX3_device_20 (by decide) ?_
  exact k_iret dX3_device_24 hE rfl rfl

set_option maxHeartbeats 4000000 in
set_option maxRecDepth 100000 in
theorem F1_X3_device {E : EE} {μ : Mem} (x y : Int32) (h : (x < 0 ∨ μ 16 0 8 - 1 < x)) : MM E yX3_device cX3_device 3 (some .int) (rm 4 0) [.ref (ad E 16 0), .int x, .int y] μ (some (.int 0)) (st μ 16 0 0 1) := by
  refine MM.int (own := RX3) [(0, .ref (ad E 16 0)), (1, .int x), (2, .int y)] rfl rfl rfl (Nat.le_of_ble_eq_true rfl) rfl (fun C X hE => ?_)
  refine k_aload_n X 0 dX3_device_0 rfl rfl ?_
  refine k_iload_n X 1 dX3_device_1 rfl rfl ?_
  refine k_iload_n X 2 dX3_device_2 rfl rfl ?_
  refine k_callV (a := 16) (o := 0) (As := [.int x, .int y]) (S := []) X lk_X3_139 rfl (by decide) rfl (F1_X3_isBranch _ _ h) rfl rfl (Nat.le_of_ble_eq_true rfl) ⟨Nat.le_of_ble_eq_true rfl, Nat.le_of_ble_eq_true rfl⟩ ⟨Nat.le_of_ble_eq_true rfl, Nat.le_of_ble_eq_true rfl⟩ dX3_device_3 ?_
  show KF E C 0 0 (st μ 16 0 0 1) 6 _ [.int 0]
  refine k_if_eq_t (tgt := 23) X dX3_device_6 (by decide) rfl ?_
  refine k_iconst X 0 dX3_device_23 (by decide) ?_
  exact k_iret dX3_device_24 hE rfl rfl

set_option maxHeartbeats 4000000 in
set_option maxRecDepth 100000 in
theorem F2_X3_device {E : EE} {μ : Mem} (c : Nat) (y : Int32) (hc : c < 20) (h : ¬ (nI c < 0 ∨ μ 16 0 8 - 1 < nI c)) (h2 : (y < 0 ∨ μ 25 0 c - 1 < y)) : MM E yX3_device cX3_device 3 (some .int) (rm 4 0) [.ref (ad E 16 0), .int (nI c), .int y] μ (some (.int 0)) (st μ 16 0 0 1) := by
  refine MM.int (own := RX3) [(0, .ref (ad E 16 0)), (1, .int (nI c)), (2, .int y)] rfl rfl rfl (Nat.le_of_ble_eq_true rfl) rfl (fun C X hE => ?_)
  refine k_aload_n X 0 dX3_device_0 rfl rfl ?_
  refine k_iload_n X 1 dX3_device_1 rfl rfl ?_
  refine k_iload_n X 2 dX3_device_2 rfl rfl ?_
  refine k_callV (a := 16) (o := 0) (As := [.int (nI c), .int y]) (S := []) X lk_X3_139 rfl (by decide) rfl (F2_X3_isBranch c _ hc h h2) rfl rfl (Nat.le_of_ble_eq_true rfl) ⟨Nat.le_of_ble_eq_true rfl, Nat.le_of_ble_eq_true rfl⟩ ⟨Nat.le_of_ble_eq_true rfl, Nat.le_of_ble_eq_true rfl⟩ dX3_device_3 ?_
  show KF E C 0 0 (st μ 16 0 0 1) 6 _ [.int 0]
  refine k_if_eq_t (tgt := 23) X dX3_device_6 (by decide) rfl ?_
  refine k_iconst X 0 dX3_device_23 (by decide) ?_
  exact k_iret dX3_device_24 hE rfl rfl

set_option maxHeartbeats 4000000 in
set_option maxRecDepth 100000 in
theorem C_X3_state {E : EE} {μ : Mem} (c b : Nat) (hc : c < 20) (hb : b < 12) (h : ¬ (nI c < 0 ∨ μ 16 0 8 - 1 < nI c)) (h2 : ¬ (nI b < 0 ∨ μ 25 0 c - 1 < nI b)) : MM E yX3_state cX3_state 3 (some .int) (rm 4 0) [.ref (ad E 16 0), .int (nI c), .int (nI b)] μ (some (.int (μ 30 0 (12 * c + b)))) (st μ 16 0 0 0) := by
  refine MM.int (own := RX3) [(0, .ref (ad E 16 0)), (1, .int (nI c)), (2, .int (nI b))] rfl rfl rfl (Nat.le_of_ble_eq_true rfl) rfl (fun C X hE => ?_)
  refine k_aload_n X 0 dX3_state_0 rfl rfl ?_
  refine k_iload_n X 1 dX3_state_1 rfl rfl ?_
  refine k_iload_n X 2 dX3_state_2 rfl rfl ?_
  refine k_callV (a := 16) (o := 0) (As := [.int (nI c), .int (nI b)]) (S := []) X lk_X3_139 rfl (by decide) rfl (C_X3_isBranch c _ hc h h2) rfl rfl (Nat.le_of_ble_eq_true rfl) ⟨Nat.le_of_ble_eq_true rfl, Nat.le_of_ble_eq_true rfl⟩ ⟨Nat.le_of_ble_eq_true rfl, Nat.le_of_ble_eq_true rfl⟩ dX3_state_3 ?_
  show KF E C 0 0 (st μ 16 0 0 0) 6 _ [.int 1]
  refine k_if_eq_f (tgt := 23) X dX3_state_6 (by decide) (by decide) ?_
  refine k_aload_n X 0 dX3_state_9 rfl rfl ?_
  refine gt_X3_50 X dX3_state_10 ?_
  refine k_bipush X 12 dX3_state_13 (by decide) ?_
  refine k_iload_n X 1 dX3_state_15 rfl rfl ?_
  refine k_imul X dX3_state_16 ?_
  refine k_val (y := nI (12 * c)) (pk_mul _ _) ?_
  refine k_iload_n X 2 dX3_state_17 rfl rfl ?_
  refine k_iadd X dX3_state_18 ?_
  refine k_val (y := nI ((12 * c) + b)) (nI_add _ _) ?_
  refine k_iald (a := 30) (j := ((12 * c) + b)) X rfl (by decide) rfl (show ((12 * c) + b) < 240 by omega) (by decide) dX3_state_19 ?_
  refine k_val (y := μ 30 0 (12 * c + b)) (st_k (by decide)) ?_
  refine k_goto (tgt := 24) X dX3_state_20 (by decide) ?_
  exact k_iret dX3_state_24 hE rfl rfl

set_option maxHeartbeats 4000000 in
set_option maxRecDepth 100000 in
theorem F1_X3_state {E : EE} {μ : Mem} (x y : Int32) (h : (x < 0 ∨ μ 16 0 8 - 1 < x)) : MM E yX3_state cX3_state 3 (some .int) (rm 4 0) [.ref (ad E 16 0), .int x, .int y] μ (some (.int 0)) (st μ 16 0 0 1) := by
  refine MM.int (own := RX3) [(0, .ref (ad E 16 0)), (1, .int x), (2, .int y)] rfl rfl rfl (Nat.le_of_ble_eq_true rfl) rfl (fun C X hE => ?_)
  refine k_aload_n X 0 dX3_state_0 rfl rfl ?_
  refine k_iload_n X 1 dX3_state_1 rfl rfl ?_
  refine k_iload_n X 2 dX3_state_2 rfl rfl ?_
  refine k_callV (a := 16) (o := 0) (As := [.int x, .int y]) (S := []) X lk_X3_139 rfl (by decide) rfl (F1_X3_isBranch _ _ h) rfl rfl (Nat.le_of_ble_eq_true rfl) ⟨Nat.le_of_ble_eq_true rfl, Nat.le_of_ble_eq_true rfl⟩ ⟨Nat.le_of_ble_eq_true rfl, Nat.le_of_ble_eq_true rfl⟩ dX3_state_3 ?_
  show KF E C 0 0 (st μ 16 0 0 1) 6 _ [.int 0]
  refine k_if_eq_t (tgt := 23) X dX3_state_6 (by decide) rfl ?_
  refine k_iconst X 0 dX3_state_23 (by decide) ?_
  exact k_iret dX3_state_24 hE rfl rfl

set_option maxHeartbeats 4000000 in
set_option maxRecDepth 100000 in
theorem F2_X3_state {E : EE} {μ : Mem} (c : Nat) (y : Int32) (hc : c < 20) (h : ¬ (nI c < 0 ∨ μ 16 0 8 - 1 < nI c)) (h2 : (y < 0 ∨ μ 25 0 c - 1 < y)) : MM E yX3_state cX3_state 3 (some .int) (rm 4 0) [.ref (ad E 16 0), .int (nI c), .int y] μ (some (.int 0)) (st μ 16 0 0 1) := by
  refine MM.int (own := RX3) [(0, .ref (ad E 16 0)), (1, .int (nI c)), (2, .int y)] rfl rfl rfl (Nat.le_of_ble_eq_true rfl) rfl (fun C X hE => ?_)
  refine k_aload_n X 0 dX3_state_0 rfl rfl ?_
  refine k_iload_n X 1 dX3_state_1 rfl rfl ?_
  refine k_iload_n X 2 dX3_state_2 rfl rfl ?_
  refine k_callV (a := 16) (o := 0) (As := [.int (nI c), .int y]) (S := []) X lk_X3_139 rfl (by decide) rfl (F2_X3_isBranch c _ hc h h2) rfl rfl (Nat.le_of_ble_eq_true rfl) ⟨Nat.le_of_ble_eq_true rfl, Nat.le_of_ble_eq_true rfl⟩ ⟨Nat.le_of_ble_eq_true rfl, Nat.le_of_ble_eq_true rfl⟩ dX3_state_3 ?_
  show KF E C 0 0 (st μ 16 0 0 1) 6 _ [.int 0]
  refine k_if_eq_t (tgt := 23) X dX3_state_6 (by decide) rfl ?_
  refine k_iconst X 0 dX3_state_23 (by decide) ?_
  exact k_iret dX3_state_24 hE rfl rfl

set_option maxHeartbeats 4000000 in
set_option maxRecDepth 100000 in
theorem C_X3_hungUp {E : EE} {μ : Mem} (d : Nat) (hd : d < 10) (h : ¬ (nI d < 0 ∨ 9 < nI d)) : MM E yX3_hungUp cX3_hungUp 2 (some .int) (rm 2 0) [.ref (ad E 16 0), .int (nI d)] μ (some (.int (μ 32 0 d))) (st μ 16 0 0 0) := by
  refine MM.int (own := RX3) [(0, .ref (ad E 16 0)), (1, .int (nI d))] rfl rfl rfl (Nat.le_of_ble_eq_true rfl) rfl (fun C X hE => ?_)
  refine k_aload_n X 0 dX3_hungUp_0 rfl rfl ?_
  refine k_iload_n X 1 dX3_hungUp_1 rfl rfl ?_
  refine k_iconst X 0 dX3_hungUp_2 (by decide) ?_
  refine k_bipush X 9 dX3_hungUp_3 (by decide) ?_
  refine k_callS (As := [.int (nI d), .int 0, .int 9]) (S := [.ref (ad E 16 0)]) X lk_X3_63 (C_X3_isIn _ _ _) rfl rfl (Nat.le_of_ble_eq_true rfl) ⟨Nat.le_of_ble_eq_true rfl, Nat.le_of_ble_eq_true rfl⟩ ⟨Nat.le_of_ble_eq_true rfl, Nat.le_of_ble_eq_true rfl⟩ dX3_hungUp_5 ?_
  show KF E C 0 0 μ 8 _ [.int (bp (¬ ((nI d) < 0 ∨ 9 < (nI d)))), .ref (ad E 16 0)]
  refine k_val (y := 1) (bp_t h) ?_
  refine k_if_eq_f (tgt := 15) X dX3_hungUp_8 (by decide) (by decide) ?_
  refine k_iconst X 0 dX3_hungUp_11 (by decide) ?_
  refine k_goto (tgt := 16) X dX3_hungUp_12 (by decide) ?_
  refine k_callV (a := 16) (o := 0) (As := [.int 0]) (S := []) X lk_X3_82 rfl (by decide) rfl (C_X3_holds _) rfl rfl (Nat.le_of_ble_eq_true rfl) ⟨Nat.le_of_ble_eq_true rfl, Nat.le_of_ble_eq_true rfl⟩ ⟨Nat.le_of_ble_eq_true rfl, Nat.le_of_ble_eq_true rfl⟩ dX3_hungUp_16 ?_
  show KF E C 0 0 (st μ 16 0 0 0) 19 _ [.int (bp (0 = 0))]
  refine k_val (y := 1) (bp_t rfl) ?_
  refine k_if_eq_f (tgt := 31) X dX3_hungUp_19 (by decide) (by decide) ?_
  refine k_aload_n X 0 dX3_hungUp_22 rfl rfl ?_
  refine gt_X3_56 X dX3_hungUp_23 ?_
  refine k_iload_n X 1 dX3_hungUp_26 rfl rfl ?_
  refine k_iald (a := 32) (j := d) X rfl (by decide) rfl (show d < 10 by omega) (by decide) dX3_hungUp_27 ?_
  refine k_val (y := μ 32 0 d) (st_k (by decide)) ?_
  refine k_goto (tgt := 32) X dX3_hungUp_28 (by decide) ?_
  exact k_iret dX3_hungUp_32 hE rfl rfl

set_option maxHeartbeats 4000000 in
set_option maxRecDepth 100000 in
theorem F_X3_hungUp {E : EE} {μ : Mem} (x : Int32) (h : x < 0 ∨ 9 < x) : MM E yX3_hungUp cX3_hungUp 2 (some .int) (rm 2 0) [.ref (ad E 16 0), .int x] μ (some (.int 0)) (st μ 16 0 0 1) := by
  refine MM.int (own := RX3) [(0, .ref (ad E 16 0)), (1, .int x)] rfl rfl rfl (Nat.le_of_ble_eq_true rfl) rfl (fun C X hE => ?_)
  refine k_aload_n X 0 dX3_hungUp_0 rfl rfl ?_
  refine k_iload_n X 1 dX3_hungUp_1 rfl rfl ?_
  refine k_iconst X 0 dX3_hungUp_2 (by decide) ?_
  refine k_bipush X 9 dX3_hungUp_3 (by decide) ?_
  refine k_callS (As := [.int x, .int 0, .int 9]) (S := [.ref (ad E 16 0)]) X lk_X3_63 (C_X3_isIn _ _ _) rfl rfl (Nat.le_of_ble_eq_true rfl) ⟨Nat.le_of_ble_eq_true rfl, Nat.le_of_ble_eq_true rfl⟩ ⟨Nat.le_of_ble_eq_true rfl, Nat.le_of_ble_eq_true rfl⟩ dX3_hungUp_5 ?_
  show KF E C 0 0 μ 8 _ [.int (bp (¬ (x < 0 ∨ 9 < x))), .ref (ad E 16 0)]
  refine k_val (y := 0) (bp_f (fun q => q h)) ?_
  refine k_if_eq_t (tgt := 15) X dX3_hungUp_8 (by decide) rfl ?_
  refine k_iconst X 1 dX3_hungUp_15 (by decide) ?_
  refine k_callV (a := 16) (o := 0) (As := [.int 1]) (S := []) X lk_X3_82 rfl (by decide) rfl (C_X3_holds _) rfl rfl (Nat.le_of_ble_eq_true rfl) ⟨Nat.le_of_ble_eq_true rfl, Nat.le_of_ble_eq_true rfl⟩ ⟨Nat.le_of_ble_eq_true rfl, Nat.le_of_ble_eq_true rfl⟩ dX3_hungUp_16 ?_
  show KF E C 0 0 (st μ 16 0 0 1) 19 _ [.int (bp (1 = 0))]
  refine k_val (y := 0) (bp_f (by decide)) ?_
  refine k_if_eq_t (tgt := 31) X dX3_hungUp_19 (by decide) rfl ?_
  refine k_iconst X 0 dX3_hungUp_31 (by decide) ?_
  exact k_iret dX3_hungUp_32 hE rfl rfl

set_option maxHeartbeats 4000000 in
set_option maxRecDepth 100000 in
theorem C_X3_time {E : EE} {μ : Mem}  : MM E yX3_time cX3_time 1 (some .int) (rm 1 0) [.ref (ad E 16 0)] μ (some (.int (μ 16 0 1))) (st μ 16 0 0 0) := by
  refine MM.int (own := RX3) [(0, .ref (ad E 16 0))] rfl rfl rfl (Nat.le_of_ble_eq_true rfl) rfl (fun C X hE => ?_)
  refine k_aload_n X 0 dX3_time_0 rfl rfl ?_
  refine k_iconst X 0 dX3_time_1 (by decide) ?_
  refine pt_X3_59 X dX3_time_2 ?_
  refine k_aload_n X 0 dX3_time_5 rfl rfl ?_
  refine gt_X3_67 X dX3_time_6 ?_
  refine k_val (y := μ 16 0 1) (st_i (by decide)) ?_
  exact k_iret dX3_time_9 hE rfl rfl

set_option maxHeartbeats 4000000 in
set_option maxRecDepth 100000 in
theorem C_X3_calls {E : EE} {μ : Mem}  : MM E yX3_calls cX3_calls 1 (some .int) (rm 1 0) [.ref (ad E 16 0)] μ (some (.int (μ 16 0 8))) (st μ 16 0 0 0) := by
  refine MM.int (own := RX3) [(0, .ref (ad E 16 0))] rfl rfl rfl (Nat.le_of_ble_eq_true rfl) rfl (fun C X hE => ?_)
  refine k_aload_n X 0 dX3_calls_0 rfl rfl ?_
  refine k_iconst X 0 dX3_calls_1 (by decide) ?_
  refine pt_X3_59 X dX3_calls_2 ?_
  refine k_aload_n X 0 dX3_calls_5 rfl rfl ?_
  refine gt_X3_108 X dX3_calls_6 ?_
  refine k_val (y := μ 16 0 8) (st_i (by decide)) ?_
  exact k_iret dX3_calls_9 hE rfl rfl

set_option maxHeartbeats 4000000 in
set_option maxRecDepth 100000 in
theorem C_X3_bindings {E : EE} {μ : Mem} (u : Nat) (hu : u < 6) (h : okU (nI u)) : MM E yX3_bindings cX3_bindings 2 (some .int) (rm 3 0) [.ref (ad E 16 0), .int (nI u)] μ (some (.int (nI (mtN (st μ 16 0 0 0) u)))) (st μ 16 0 0 0) := by
  refine MM.int (own := RX3) [(0, .ref (ad E 16 0)), (1, .int (nI u))] rfl rfl rfl (Nat.le_of_ble_eq_true rfl) rfl (fun C X hE => ?_)
  refine k_aload_n X 0 dX3_bindings_0 rfl rfl ?_
  refine k_iload_n X 1 dX3_bindings_1 rfl rfl ?_
  refine k_callS (As := [.int (nI u)]) (S := [.ref (ad E 16 0)]) X lk_X3_74 (C_X3_isUser _) rfl rfl (Nat.le_of_ble_eq_true rfl) ⟨Nat.le_of_ble_eq_true rfl, Nat.le_of_ble_eq_true rfl⟩ ⟨Nat.le_of_ble_eq_true rfl, Nat.le_of_ble_eq_true rfl⟩ dX3_bindings_2 ?_
  show KF E C 0 0 μ 5 _ [.int (bp (¬ ((nI u) < 0 ∨ 5 < (nI u)))), .ref (ad E 16 0)]
  refine k_val (y := 1) (bp_t (show ¬ (nI u < 0 ∨ 5 < nI u) from h)) ?_
  refine k_if_eq_f (tgt := 12) X dX3_bindings_5 (by decide) (by decide) ?_
  refine k_iconst X 0 dX3_bindings_8 (by decide) ?_
  refine k_goto (tgt := 13) X dX3_bindings_9 (by decide) ?_
  refine k_callV (a := 16) (o := 0) (As := [.int 0]) (S := []) X lk_X3_82 rfl (by decide) rfl (C_X3_holds _) rfl rfl (Nat.le_of_ble_eq_true rfl) ⟨Nat.le_of_ble_eq_true rfl, Nat.le_of_ble_eq_true rfl⟩ ⟨Nat.le_of_ble_eq_true rfl, Nat.le_of_ble_eq_true rfl⟩ dX3_bindings_13 ?_
  show KF E C 0 0 (st μ 16 0 0 0) 16 _ [.int (bp (0 = 0))]
  refine k_val (y := 1) (bp_t rfl) ?_
  refine k_if_eq_f (tgt := 27) X dX3_bindings_16 (by decide) (by decide) ?_
  refine k_aload_n X 0 dX3_bindings_19 rfl rfl ?_
  refine k_iload_n X 1 dX3_bindings_20 rfl rfl ?_
  refine k_callV (a := 16) (o := 0) (As := [.int (nI u)]) (S := []) X lk_X3_78 rfl (by decide) rfl (C_X3_there u hu) rfl rfl (Nat.le_of_ble_eq_true rfl) ⟨Nat.le_of_ble_eq_true rfl, Nat.le_of_ble_eq_true rfl⟩ ⟨Nat.le_of_ble_eq_true rfl, Nat.le_of_ble_eq_true rfl⟩ dX3_bindings_21 ?_
  show KF E C 0 0 (st μ 16 0 0 0) 24 _ [.int (nI (mtN (st μ 16 0 0 0) u))]
  refine k_goto (tgt := 28) X dX3_bindings_24 (by decide) ?_
  exact k_iret dX3_bindings_28 hE rfl rfl

set_option maxHeartbeats 4000000 in
set_option maxRecDepth 100000 in
theorem F_X3_bindings {E : EE} {μ : Mem} (x : Int32) (h : ¬ okU x) : MM E yX3_bindings cX3_bindings 2 (some .int) (rm 3 0) [.ref (ad E 16 0), .int x] μ (some (.int 0)) (st μ 16 0 0 1) := by
  refine MM.int (own := RX3) [(0, .ref (ad E 16 0)), (1, .int x)] rfl rfl rfl (Nat.le_of_ble_eq_true rfl) rfl (fun C X hE => ?_)
  refine k_aload_n X 0 dX3_bindings_0 rfl rfl ?_
  refine k_iload_n X 1 dX3_bindings_1 rfl rfl ?_
  refine k_callS (As := [.int x]) (S := [.ref (ad E 16 0)]) X lk_X3_74 (C_X3_isUser _) rfl rfl (Nat.le_of_ble_eq_true rfl) ⟨Nat.le_of_ble_eq_true rfl, Nat.le_of_ble_eq_true rfl⟩ ⟨Nat.le_of_ble_eq_true rfl, Nat.le_of_ble_eq_true rfl⟩ dX3_bindings_2 ?_
  show KF E C 0 0 μ 5 _ [.int (bp (¬ (x < 0 ∨ 5 < x))), .ref (ad E 16 0)]
  refine k_val (y := 0) (bp_f (P := ¬ (x < 0 ∨ 5 < x)) h) ?_
  refine k_if_eq_t (tgt := 12) X dX3_bindings_5 (by decide) rfl ?_
  refine k_iconst X 1 dX3_bindings_12 (by decide) ?_
  refine k_callV (a := 16) (o := 0) (As := [.int 1]) (S := []) X lk_X3_82 rfl (by decide) rfl (C_X3_holds _) rfl rfl (Nat.le_of_ble_eq_true rfl) ⟨Nat.le_of_ble_eq_true rfl, Nat.le_of_ble_eq_true rfl⟩ ⟨Nat.le_of_ble_eq_true rfl, Nat.le_of_ble_eq_true rfl⟩ dX3_bindings_13 ?_
  show KF E C 0 0 (st μ 16 0 0 1) 16 _ [.int (bp (1 = 0))]
  refine k_val (y := 0) (bp_f (by decide)) ?_
  refine k_if_eq_t (tgt := 27) X dX3_bindings_16 (by decide) rfl ?_
  refine k_iconst X 0 dX3_bindings_27 (by decide) ?_
  exact k_iret dX3_bindings_28 hE rfl rfl

set_option maxHeartbeats 4000000 in
set_option maxRecDepth 100000 in
theorem C_X3_register {E : EE} {μ : Mem} (u t m : Nat) (q tk sq : Int32) (hu : u < 6) (ht : t < 16) (hU : okU (nI u)) (hR : rgOk (nI t) q tk sq) (hm : μ 22 0 u = nI m) (hm16 : μ 17 0 (16 * u + t) = 0 → m < 16) (hO : ¬ (¬ μ 17 0 (16 * u + t) = 0 ∧ ¬ μ 20 0 (16 * u + t) < sq)) (hF : ¬ (¬ tk ≤ 0 ∧ ¬ nI (mtN μ u) - bp (mtB μ u t = true) < 6)) : MM E yX3_register cX3_register 10 (some .int) (rm 3 0) [.ref (ad E 16 0), .int (nI u), .int (nI t), .int q, .int tk, .int sq] μ (some (.int (nI (mtN (mrg μ u t m q tk sq) u)))) (mrg μ u t m q tk sq) := by
  refine MM.int (own := RX3) [(0, .ref (ad E 16 0)), (1, .int (nI u)), (2, .int (nI t)), (3, .int q), (4, .int tk), (5, .int sq)] rfl rfl rfl (Nat.le_of_ble_eq_true rfl) rfl (fun C X hE => ?_)
  refine k_iload_n X 1 dX3_register_0 rfl rfl ?_
  refine k_callS (As := [.int (nI u)]) (S := []) X lk_X3_74 (C_X3_isUser _) rfl rfl (Nat.le_of_ble_eq_true rfl) ⟨Nat.le_of_ble_eq_true rfl, Nat.le_of_ble_eq_true rfl⟩ ⟨Nat.le_of_ble_eq_true rfl, Nat.le_of_ble_eq_true rfl⟩ dX3_register_1 ?_
  show KF E C 0 0 μ 4 _ [.int (bp (¬ ((nI u) < 0 ∨ 5 < (nI u))))]
  refine k_val (y := 1) (bp_t (show ¬ (nI u < 0 ∨ 5 < nI u) from hU)) ?_
  refine k_if_eq_f (tgt := 55) X dX3_register_4 (by decide) (by decide) ?_
  refine k_iload_n X 2 dX3_register_7 rfl rfl ?_
  refine k_iconst X 0 dX3_register_8 (by decide) ?_
  refine k_bipush X 15 dX3_register_9 (by decide) ?_
  refine k_callS (As := [.int (nI t), .int 0, .int 15]) (S := []) X lk_X3_63 (C_X3_isIn _ _ _) rfl rfl (Nat.le_of_ble_eq_true rfl) ⟨Nat.le_of_ble_eq_true rfl, Nat.le_of_ble_eq_true rfl⟩ ⟨Nat.le_of_ble_eq_true rfl, Nat.le_of_ble_eq_true rfl⟩ dX3_register_11 ?_
  show KF E C 0 0 μ 14 _ [.int (bp (¬ ((nI t) < 0 ∨ 15 < (nI t))))]
  refine k_val (y := 1) (bp_t hR.1) ?_
  refine k_if_eq_f (tgt := 55) X dX3_register_14 (by decide) (by decide) ?_
  refine k_iload_n X 3 dX3_register_17 rfl rfl ?_
  refine k_iconst X 0 dX3_register_18 (by decide) ?_
  refine k_bipush X 10 dX3_register_19 (by decide) ?_
  refine k_callS (As := [.int q, .int 0, .int 10]) (S := []) X lk_X3_63 (C_X3_isIn _ _ _) rfl rfl (Nat.le_of_ble_eq_true rfl) ⟨Nat.le_of_ble_eq_true rfl, Nat.le_of_ble_eq_true rfl⟩ ⟨Nat.le_of_ble_eq_true rfl, Nat.le_of_ble_eq_true rfl⟩ dX3_register_21 ?_
  show KF E C 0 0 μ 24 _ [.int (bp (¬ (q < 0 ∨ 10 < q)))]
  refine k_val (y := 1) (bp_t hR.2.1) ?_
  refine k_if_eq_f (tgt := 55) X dX3_register_24 (by decide) (by decide) ?_
  refine k_iload X 4 dX3_register_27 rfl ?_
  refine k_iconst X 0 dX3_register_29 (by decide) ?_
  refine k_sipush X 1000 dX3_register_30 (by decide) ?_
  refine k_callS (As := [.int tk, .int 0, .int 1000]) (S := []) X lk_X3_63 (C_X3_isIn _ _ _) rfl rfl (Nat.le_of_ble_eq_true rfl) ⟨Nat.le_of_ble_eq_true rfl, Nat.le_of_ble_eq_true rfl⟩ ⟨Nat.le_of_ble_eq_true rfl, Nat.le_of_ble_eq_true rfl⟩ dX3_register_33 ?_
  show KF E C 0 0 μ 36 _ [.int (bp (¬ (tk < 0 ∨ 1000 < tk)))]
  refine k_val (y := 1) (bp_t hR.2.2.1) ?_
  refine k_if_eq_f (tgt := 55) X dX3_register_36 (by decide) (by decide) ?_
  refine k_iload X 5 dX3_register_39 rfl ?_
  refine k_iconst X 0 dX3_register_41 (by decide) ?_
  refine k_sipush X 10000 dX3_register_42 (by decide) ?_
  refine k_callS (As := [.int sq, .int 0, .int 10000]) (S := []) X lk_X3_63 (C_X3_isIn _ _ _) rfl rfl (Nat.le_of_ble_eq_true rfl) ⟨Nat.le_of_ble_eq_true rfl, Nat.le_of_ble_eq_true rfl⟩ ⟨Nat.le_of_ble_eq_true rfl, Nat.le_of_ble_eq_true rfl⟩ dX3_register_45 ?_
  show KF E C 0 0 μ 48 _ [.int (bp (¬ (sq < 0 ∨ 10000 < sq)))]
  refine k_val (y := 1) (bp_t hR.2.2.2) ?_
  refine k_if_eq_f (tgt := 55) X dX3_register_48 (by decide) (by decide) ?_
  refine k_iconst X 1 dX3_register_51 (by decide) ?_
  refine k_goto (tgt := 56) X dX3_register_52 (by decide) ?_
  refine k_istore (L' := [(6, .int 1), (0, .ref (ad E 16 0)), (1, .int (nI u)), (2, .int (nI t)), (3, .int q), (4, .int tk), (5, .int sq)]) X dX3_register_56 (by decide) rfl ?_
  refine k_iload X 0 dX3_register_58 rfl ?_
  refine k_if_eq_f (tgt := 72) X dX3_register_60 (by decide) (by decide) ?_
  refine k_bipush X 16 dX3_register_63 (by decide) ?_
  refine k_iload_n X 2 dX3_register_65 rfl rfl ?_
  refine k_imul X dX3_register_66 ?_
  refine k_val (y := nI (16 * u)) (pk_mul _ _) ?_
  refine k_iload_n X 3 dX3_register_67 rfl rfl ?_
  refine k_iadd X dX3_register_68 ?_
  refine k_val (y := nI ((16 * u) + t)) (nI_add _ _) ?_
  refine k_goto (tgt := 73) X dX3_register_69 (by decide) ?_
  refine k_istore (L' := [(7, .int (nI ((16 * u) + t))), (6, .int 1), (0, .ref (ad E 16 0)), (1, .int (nI u)), (2, .int (nI t)), (3, .int q), (4, .int tk), (5, .int sq)]) X dX3_register_73 (by decide) rfl ?_
  refine k_iload X 1 dX3_register_75 rfl ?_
  refine k_if_eq_f (tgt := 106) X dX3_register_77 (by decide) (by decide) ?_
  refine k_aload_n X 2 dX3_register_80 rfl rfl ?_
  refine gt_X3_7 X dX3_register_81 ?_
  refine k_iload X 0 dX3_register_84 rfl ?_
  refine k_zald (a := 17) (j := ((16 * u) + t)) X rfl (by decide) rfl (show ((16 * u) + t) < 96 by omega) (by decide) dX3_register_86 ?_
  refine k_if_eq (tgt := 106) X dX3_register_87 (by decide) (fun c87 => ?_) (fun c87 => ?_)
  · refine k_iconst X 0 dX3_register_106 (by decide) ?_
    refine k_istore (L' := [(8, .int 0), (7, .int (nI ((16 * u) + t))), (6, .int 1), (0, .ref (ad E 16 0)), (1, .int (nI u)), (2, .int (nI t)), (3, .int q), (4, .int tk), (5, .int sq)]) X dX3_register_107 (by decide) rfl ?_
    refine k_iload X 2 dX3_register_109 rfl ?_
    refine k_if_eq_f (tgt := 148) X dX3_register_111 (by decide) (by decide) ?_
    refine k_iload X 7 dX3_register_114 rfl ?_
    refine k_if_le (tgt := 148) X dX3_register_116 (by decide) (fun c116 => ?_) (fun c116 => ?_)
    · refine k_iconst X 0 dX3_register_148 (by decide) ?_
      refine k_istore (L' := [(9, .int 0), (8, .int 0), (7, .int (nI ((16 * u) + t))), (6, .int 1), (0, .ref (ad E 16 0)), (1, .int (nI u)), (2, .int (nI t)), (3, .int q), (4, .int tk), (5, .int sq)]) X dX3_register_149 (by decide) rfl ?_
      refine k_aload_n X 4 dX3_register_151 rfl rfl ?_
      refine k_iload X 3 dX3_register_152 rfl ?_
      refine k_if_ne_t (tgt := 161) X dX3_register_154 (by decide) (by decide) ?_
      refine k_iload X 1 dX3_register_161 rfl ?_
      refine k_if_ne_f (tgt := 171) X dX3_register_163 (by decide) rfl ?_
      refine k_iload X 0 dX3_register_166 rfl ?_
      refine k_if_eq_t (tgt := 175) X dX3_register_168 (by decide) rfl ?_
      refine k_iconst X 0 dX3_register_175 (by decide) ?_
      refine k_callV (a := 16) (o := 0) (As := [.int 0]) (S := []) X lk_X3_82 rfl (by decide) rfl (C_X3_holds _) rfl rfl (Nat.le_of_ble_eq_true rfl) ⟨Nat.le_of_ble_eq_true rfl, Nat.le_of_ble_eq_true rfl⟩ ⟨Nat.le_of_ble_eq_true rfl, Nat.le_of_ble_eq_true rfl⟩ dX3_register_176 ?_
      show KF E C 0 0 (st μ 16 0 0 0) 179 _ [.int (bp (0 = 0))]
      refine k_val (y := 1) (bp_t rfl) ?_
      refine k_if_ne_t (tgt := 184) X dX3_register_179 (by decide) (by decide) ?_
      refine k_aload_n X 4 dX3_register_184 rfl rfl ?_
      refine gt_X3_7 X dX3_register_185 ?_
      refine k_iload X 2 dX3_register_188 rfl ?_
      refine k_zald (a := 17) (j := ((16 * u) + t)) X rfl (by decide) rfl (show ((16 * u) + t) < 96 by omega) (by decide) dX3_register_190 ?_
      refine k_val (y := μ 17 0 (16 * u + t)) (st_k (by decide)) ?_
      refine k_if_ne_f (tgt := 221) X dX3_register_191 (by decide) c87 ?_
      have hm9 := hm16 c87
      refine k_aload_n X 4 dX3_register_194 rfl rfl ?_
      refine gt_X3_23 X dX3_register_195 ?_
      refine k_bipush X 16 dX3_register_198 (by decide) ?_
      refine k_iload_n X 5 dX3_register_200 rfl rfl ?_
      refine k_imul X dX3_register_201 ?_
      refine k_val (y := nI (16 * u)) (pk_mul _ _) ?_
      refine k_aload_n X 4 dX3_register_202 rfl rfl ?_
      refine gt_X3_26 X dX3_register_203 ?_
      refine k_iload_n X 5 dX3_register_206 rfl rfl ?_
      refine k_iald (a := 22) (j := u) X rfl (by decide) rfl (show u < 6 by omega) (by decide) dX3_register_207 ?_
      refine k_val (y := nI m) (by simp [st, hm]) ?_
      refine k_iadd X dX3_register_208 ?_
      refine k_val (y := nI ((16 * u) + m)) (nI_add _ _) ?_
      refine k_iload_n X 6 dX3_register_209 rfl rfl ?_
      refine k_iast (a := 21) (j := ((16 * u) + m)) X rfl (by decide) rfl (show ((16 * u) + m) < 96 by omega) (by decide) dX3_register_210 ?_
      refine k_aload_n X 4 dX3_register_211 rfl rfl ?_
      refine gt_X3_26 X dX3_register_212 ?_
      refine k_iload_n X 5 dX3_register_215 rfl rfl ?_
      refine k_dup2 X dX3_register_216 rfl rfl ?_
      refine k_iald (a := 22) (j := u) X rfl (by decide) rfl (show u < 6 by omega) (by decide) dX3_register_217 ?_
      refine k_val (y := nI m) (by simp [st, hm]) ?_
      refine k_iconst X 1 dX3_register_218 (by decide) ?_
      refine k_iadd X dX3_register_219 ?_
      refine k_val (y := nI (m + 1)) (nI_add _ _) ?_
      refine k_iast (a := 22) (j := u) X rfl (by decide) rfl (show u < 6 by omega) (by decide) dX3_register_220 ?_
      refine k_aload_n X 4 dX3_register_221 rfl rfl ?_
      refine gt_X3_7 X dX3_register_222 ?_
      refine k_iload X 2 dX3_register_225 rfl ?_
      refine k_iconst X 1 dX3_register_227 (by decide) ?_
      refine k_zast (a := 17) (j := ((16 * u) + t)) X rfl (by decide) rfl (show ((16 * u) + t) < 96 by omega) (by decide) (by decide) dX3_register_228 ?_
      refine k_aload_n X 4 dX3_register_229 rfl rfl ?_
      refine gt_X3_13 X dX3_register_230 ?_
      refine k_iload X 2 dX3_register_233 rfl ?_
      refine k_aload_n X 4 dX3_register_235 rfl rfl ?_
      refine gt_X3_67 X dX3_register_236 ?_
      refine k_val (y := μ 16 0 1) (by simp [st]) ?_
      refine k_iload X 8 dX3_register_239 rfl ?_
      refine k_iadd X dX3_register_241 ?_
      refine k_iast (a := 18) (j := ((16 * u) + t)) X rfl (by decide) rfl (show ((16 * u) + t) < 96 by omega) (by decide) dX3_register_242 ?_
      refine k_aload_n X 4 dX3_register_243 rfl rfl ?_
      refine gt_X3_17 X dX3_register_244 ?_
      refine k_iload X 2 dX3_register_247 rfl ?_
      refine k_iload_n X 7 dX3_register_249 rfl rfl ?_
      refine k_iast (a := 19) (j := ((16 * u) + t)) X rfl (by decide) rfl (show ((16 * u) + t) < 96 by omega) (by decide) dX3_register_250 ?_
      refine k_aload_n X 4 dX3_register_251 rfl rfl ?_
      refine gt_X3_20 X dX3_register_252 ?_
      refine k_iload X 2 dX3_register_255 rfl ?_
      refine k_iload X 9 dX3_register_257 rfl ?_
      refine k_iast (a := 20) (j := ((16 * u) + t)) X rfl (by decide) rfl (show ((16 * u) + t) < 96 by omega) (by decide) dX3_register_259 ?_
      refine k_aload_n X 4 dX3_register_260 rfl rfl ?_
      refine k_iload_n X 5 dX3_register_261 rfl rfl ?_
      refine k_callV (a := 16) (o := 0) (As := [.int (nI u)]) (S := []) X lk_X3_78 rfl (by decide) rfl (C_X3_there u hu) rfl rfl (Nat.le_of_ble_eq_true rfl) ⟨Nat.le_of_ble_eq_true rfl, Nat.le_of_ble_eq_true rfl⟩ ⟨Nat.le_of_ble_eq_true rfl, Nat.le_of_ble_eq_true rfl⟩ dX3_register_262 ?_
      show KF E C 0 0 (st (st (st (st (st (st (st μ 16 0 0 0) 21 0 ((16 * u) + m) (nI t)) 22 0 u (nI (m + 1))) 17 0 ((16 * u) + t) 1) 18 0 ((16 * u) + t) ((μ 16 0 1) + tk)) 19 0 ((16 * u) + t) q) 20 0 ((16 * u) + t) sq) 265 _ [.int (nI (mtN (st (st (st (st (st (st (st μ 16 0 0 0) 21 0 ((16 * u) + m) (nI t)) 22 0 u (nI (m + 1))) 17 0 ((16 * u) + t) 1) 18 0 ((16 * u) + t) ((μ 16 0 1) + tk)) 19 0 ((16 * u) + t) q) 20 0 ((16 * u) + t) sq) u))]
      exact k_iret dX3_register_265 hE (by unfold mrg; rw [if_pos c87]) (by unfold mrg; rw [if_pos c87])
    · refine k_aload_n X 3 dX3_register_119 rfl rfl ?_
      refine k_iload_n X 4 dX3_register_120 rfl rfl ?_
      refine k_callV (a := 16) (o := 0) (As := [.int (nI u)]) (S := []) X lk_X3_78 rfl (by decide) rfl (C_X3_there u hu) rfl rfl (Nat.le_of_ble_eq_true rfl) ⟨Nat.le_of_ble_eq_true rfl, Nat.le_of_ble_eq_true rfl⟩ ⟨Nat.le_of_ble_eq_true rfl, Nat.le_of_ble_eq_true rfl⟩ dX3_register_121 ?_
      show KF E C 0 0 μ 124 _ [.int (nI (mtN (μ) u))]
      refine k_aload_n X 3 dX3_register_124 rfl rfl ?_
      refine k_iload_n X 4 dX3_register_125 rfl rfl ?_
      refine k_iload_n X 5 dX3_register_126 rfl rfl ?_
      refine k_callV (a := 16) (o := 0) (As := [.int (nI u), .int (nI t)]) (S := [.int (nI (mtN (μ) u))]) X lk_X3_70 rfl (by decide) rfl (C_X3_isThere u t hu ht) rfl rfl (Nat.le_of_ble_eq_true rfl) ⟨Nat.le_of_ble_eq_true rfl, Nat.le_of_ble_eq_true rfl⟩ ⟨Nat.le_of_ble_eq_true rfl, Nat.le_of_ble_eq_true rfl⟩ dX3_register_127 ?_
      show KF E C 0 0 μ 130 _ [.int (bp (mtB μ u t = true)), .int (nI (mtN (μ) u))]
      refine k_if_eq_p (tgt := 137) X dX3_register_130 (by decide) (fun c130 => ?_) (fun c130 => ?_)
      · refine k_iconst X 0 dX3_register_137 (by decide) ?_
        refine k_isub X dX3_register_138 ?_
        refine k_val (y := nI (mtN μ u) - bp (mtB μ u t = true)) (by rw [bp_f c130]) ?_
        refine k_bipush X 6 dX3_register_139 (by decide) ?_
        refine k_icmp_lt (tgt := 148) X dX3_register_141 (by decide) (fun c141 => ?_) (fun c141 => ?_)
        · refine k_iconst X 0 dX3_register_148 (by decide) ?_
          refine k_istore (L' := [(9, .int 0), (8, .int 0), (7, .int (nI ((16 * u) + t))), (6, .int 1), (0, .ref (ad E 16 0)), (1, .int (nI u)), (2, .int (nI t)), (3, .int q), (4, .int tk), (5, .int sq)]) X dX3_register_149 (by decide) rfl ?_
          refine k_aload_n X 4 dX3_register_151 rfl rfl ?_
          refine k_iload X 3 dX3_register_152 rfl ?_
          refine k_if_ne_t (tgt := 161) X dX3_register_154 (by decide) (by decide) ?_
          refine k_iload X 1 dX3_register_161 rfl ?_
          refine k_if_ne_f (tgt := 171) X dX3_register_163 (by decide) rfl ?_
          refine k_iload X 0 dX3_register_166 rfl ?_
          refine k_if_eq_t (tgt := 175) X dX3_register_168 (by decide) rfl ?_
          refine k_iconst X 0 dX3_register_175 (by decide) ?_
          refine k_callV (a := 16) (o := 0) (As := [.int 0]) (S := []) X lk_X3_82 rfl (by decide) rfl (C_X3_holds _) rfl rfl (Nat.le_of_ble_eq_true rfl) ⟨Nat.le_of_ble_eq_true rfl, Nat.le_of_ble_eq_true rfl⟩ ⟨Nat.le_of_ble_eq_true rfl, Nat.le_of_ble_eq_true rfl⟩ dX3_register_176 ?_
          show KF E C 0 0 (st μ 16 0 0 0) 179 _ [.int (bp (0 = 0))]
          refine k_val (y := 1) (bp_t rfl) ?_
          refine k_if_ne_t (tgt := 184) X dX3_register_179 (by decide) (by decide) ?_
          refine k_aload_n X 4 dX3_register_184 rfl rfl ?_
          refine gt_X3_7 X dX3_register_185 ?_
          refine k_iload X 2 dX3_register_188 rfl ?_
          refine k_zald (a := 17) (j := ((16 * u) + t)) X rfl (by decide) rfl (show ((16 * u) + t) < 96 by omega) (by decide) dX3_register_190 ?_
          refine k_val (y := μ 17 0 (16 * u + t)) (st_k (by decide)) ?_
          refine k_if_ne_f (tgt := 221) X dX3_register_191 (by decide) c87 ?_
          have hm9 := hm16 c87
          refine k_aload_n X 4 dX3_register_194 rfl rfl ?_
          refine gt_X3_23 X dX3_register_195 ?_
          refine k_bipush X 16 dX3_register_198 (by decide) ?_
          refine k_iload_n X 5 dX3_register_200 rfl rfl ?_
          refine k_imul X dX3_register_201 ?_
          refine k_val (y := nI (16 * u)) (pk_mul _ _) ?_
          refine k_aload_n X 4 dX3_register_202 rfl rfl ?_
          refine gt_X3_26 X dX3_register_203 ?_
          refine k_iload_n X 5 dX3_register_206 rfl rfl ?_
          refine k_iald (a := 22) (j := u) X rfl (by decide) rfl (show u < 6 by omega) (by decide) dX3_register_207 ?_
          refine k_val (y := nI m) (by simp [st, hm]) ?_
          refine k_iadd X dX3_register_208 ?_
          refine k_val (y := nI ((16 * u) + m)) (nI_add _ _) ?_
          refine k_iload_n X 6 dX3_register_209 rfl rfl ?_
          refine k_iast (a := 21) (j := ((16 * u) + m)) X rfl (by decide) rfl (show ((16 * u) + m) < 96 by omega) (by decide) dX3_register_210 ?_
          refine k_aload_n X 4 dX3_register_211 rfl rfl ?_
          refine gt_X3_26 X dX3_register_212 ?_
          refine k_iload_n X 5 dX3_register_215 rfl rfl ?_
          refine k_dup2 X dX3_register_216 rfl rfl ?_
          refine k_iald (a := 22) (j := u) X rfl (by decide) rfl (show u < 6 by omega) (by decide) dX3_register_217 ?_
          refine k_val (y := nI m) (by simp [st, hm]) ?_
          refine k_iconst X 1 dX3_register_218 (by decide) ?_
          refine k_iadd X dX3_register_219 ?_
          refine k_val (y := nI (m + 1)) (nI_add _ _) ?_
          refine k_iast (a := 22) (j := u) X rfl (by decide) rfl (show u < 6 by omega) (by decide) dX3_register_220 ?_
          refine k_aload_n X 4 dX3_register_221 rfl rfl ?_
          refine gt_X3_7 X dX3_register_222 ?_
          refine k_iload X 2 dX3_register_225 rfl ?_
          refine k_iconst X 1 dX3_register_227 (by decide) ?_
          refine k_zast (a := 17) (j := ((16 * u) + t)) X rfl (by decide) rfl (show ((16 * u) + t) < 96 by omega) (by decide) (by decide) dX3_register_228 ?_
          refine k_aload_n X 4 dX3_register_229 rfl rfl ?_
          refine gt_X3_13 X dX3_register_230 ?_
          refine k_iload X 2 dX3_register_233 rfl ?_
          refine k_aload_n X 4 dX3_register_235 rfl rfl ?_
          refine gt_X3_67 X dX3_register_236 ?_
          refine k_val (y := μ 16 0 1) (by simp [st]) ?_
          refine k_iload X 8 dX3_register_239 rfl ?_
          refine k_iadd X dX3_register_241 ?_
          refine k_iast (a := 18) (j := ((16 * u) + t)) X rfl (by decide) rfl (show ((16 * u) + t) < 96 by omega) (by decide) dX3_register_242 ?_
          refine k_aload_n X 4 dX3_register_243 rfl rfl ?_
          refine gt_X3_17 X dX3_register_244 ?_
          refine k_iload X 2 dX3_register_247 rfl ?_
          refine k_iload_n X 7 dX3_register_249 rfl rfl ?_
          refine k_iast (a := 19) (j := ((16 * u) + t)) X rfl (by decide) rfl (show ((16 * u) + t) < 96 by omega) (by decide) dX3_register_250 ?_
          refine k_aload_n X 4 dX3_register_251 rfl rfl ?_
          refine gt_X3_20 X dX3_register_252 ?_
          refine k_iload X 2 dX3_register_255 rfl ?_
          refine k_iload X 9 dX3_register_257 rfl ?_
          refine k_iast (a := 20) (j := ((16 * u) + t)) X rfl (by decide) rfl (show ((16 * u) + t) < 96 by omega) (by decide) dX3_register_259 ?_
          refine k_aload_n X 4 dX3_register_260 rfl rfl ?_
          refine k_iload_n X 5 dX3_register_261 rfl rfl ?_
          refine k_callV (a := 16) (o := 0) (As := [.int (nI u)]) (S := []) X lk_X3_78 rfl (by decide) rfl (C_X3_there u hu) rfl rfl (Nat.le_of_ble_eq_true rfl) ⟨Nat.le_of_ble_eq_true rfl, Nat.le_of_ble_eq_true rfl⟩ ⟨Nat.le_of_ble_eq_true rfl, Nat.le_of_ble_eq_true rfl⟩ dX3_register_262 ?_
          show KF E C 0 0 (st (st (st (st (st (st (st μ 16 0 0 0) 21 0 ((16 * u) + m) (nI t)) 22 0 u (nI (m + 1))) 17 0 ((16 * u) + t) 1) 18 0 ((16 * u) + t) ((μ 16 0 1) + tk)) 19 0 ((16 * u) + t) q) 20 0 ((16 * u) + t) sq) 265 _ [.int (nI (mtN (st (st (st (st (st (st (st μ 16 0 0 0) 21 0 ((16 * u) + m) (nI t)) 22 0 u (nI (m + 1))) 17 0 ((16 * u) + t) 1) 18 0 ((16 * u) + t) ((μ 16 0 1) + tk)) 19 0 ((16 * u) + t) q) 20 0 ((16 * u) + t) sq) u))]
          exact k_iret dX3_register_265 hE (by unfold mrg; rw [if_pos c87]) (by unfold mrg; rw [if_pos c87])
        · exact absurd ⟨c116, c141⟩ hF
      · refine k_iconst X 1 dX3_register_133 (by decide) ?_
        refine k_goto (tgt := 138) X dX3_register_134 (by decide) ?_
        refine k_isub X dX3_register_138 ?_
        refine k_val (y := nI (mtN μ u) - bp (mtB μ u t = true)) (by rw [bp_t c130]) ?_
        refine k_bipush X 6 dX3_register_139 (by decide) ?_
        refine k_icmp_lt (tgt := 148) X dX3_register_141 (by decide) (fun c141 => ?_) (fun c141 => ?_)
        · refine k_iconst X 0 dX3_register_148 (by decide) ?_
          refine k_istore (L' := [(9, .int 0), (8, .int 0), (7, .int (nI ((16 * u) + t))), (6, .int 1), (0, .ref (ad E 16 0)), (1, .int (nI u)), (2, .int (nI t)), (3, .int q), (4, .int tk), (5, .int sq)]) X dX3_register_149 (by decide) rfl ?_
          refine k_aload_n X 4 dX3_register_151 rfl rfl ?_
          refine k_iload X 3 dX3_register_152 rfl ?_
          refine k_if_ne_t (tgt := 161) X dX3_register_154 (by decide) (by decide) ?_
          refine k_iload X 1 dX3_register_161 rfl ?_
          refine k_if_ne_f (tgt := 171) X dX3_register_163 (by decide) rfl ?_
          refine k_iload X 0 dX3_register_166 rfl ?_
          refine k_if_eq_t (tgt := 175) X dX3_register_168 (by decide) rfl ?_
          refine k_iconst X 0 dX3_register_175 (by decide) ?_
          refine k_callV (a := 16) (o := 0) (As := [.int 0]) (S := []) X lk_X3_82 rfl (by decide) rfl (C_X3_holds _) rfl rfl (Nat.le_of_ble_eq_true rfl) ⟨Nat.le_of_ble_eq_true rfl, Nat.le_of_ble_eq_true rfl⟩ ⟨Nat.le_of_ble_eq_true rfl, Nat.le_of_ble_eq_true rfl⟩ dX3_register_176 ?_
          show KF E C 0 0 (st μ 16 0 0 0) 179 _ [.int (bp (0 = 0))]
          refine k_val (y := 1) (bp_t rfl) ?_
          refine k_if_ne_t (tgt := 184) X dX3_register_179 (by decide) (by decide) ?_
          refine k_aload_n X 4 dX3_register_184 rfl rfl ?_
          refine gt_X3_7 X dX3_register_185 ?_
          refine k_iload X 2 dX3_register_188 rfl ?_
          refine k_zald (a := 17) (j := ((16 * u) + t)) X rfl (by decide) rfl (show ((16 * u) + t) < 96 by omega) (by decide) dX3_register_190 ?_
          refine k_val (y := μ 17 0 (16 * u + t)) (st_k (by decide)) ?_
          refine k_if_ne_f (tgt := 221) X dX3_register_191 (by decide) c87 ?_
          have hm9 := hm16 c87
          refine k_aload_n X 4 dX3_register_194 rfl rfl ?_
          refine gt_X3_23 X dX3_register_195 ?_
          refine k_bipush X 16 dX3_register_198 (by decide) ?_
          refine k_iload_n X 5 dX3_register_200 rfl rfl ?_
          refine k_imul X dX3_register_201 ?_
          refine k_val (y := nI (16 * u)) (pk_mul _ _) ?_
          refine k_aload_n X 4 dX3_register_202 rfl rfl ?_
          refine gt_X3_26 X dX3_register_203 ?_
          refine k_iload_n X 5 dX3_register_206 rfl rfl ?_
          refine k_iald (a := 22) (j := u) X rfl (by decide) rfl (show u < 6 by omega) (by decide) dX3_register_207 ?_
          refine k_val (y := nI m) (by simp [st, hm]) ?_
          refine k_iadd X dX3_register_208 ?_
          refine k_val (y := nI ((16 * u) + m)) (nI_add _ _) ?_
          refine k_iload_n X 6 dX3_register_209 rfl rfl ?_
          refine k_iast (a := 21) (j := ((16 * u) + m)) X rfl (by decide) rfl (show ((16 * u) + m) < 96 by omega) (by decide) dX3_register_210 ?_
          refine k_aload_n X 4 dX3_register_211 rfl rfl ?_
          refine gt_X3_26 X dX3_register_212 ?_
          refine k_iload_n X 5 dX3_register_215 rfl rfl ?_
          refine k_dup2 X dX3_register_216 rfl rfl ?_
          refine k_iald (a := 22) (j := u) X rfl (by decide) rfl (show u < 6 by omega) (by decide) dX3_register_217 ?_
          refine k_val (y := nI m) (by simp [st, hm]) ?_
          refine k_iconst X 1 dX3_register_218 (by decide) ?_
          refine k_iadd X dX3_register_219 ?_
          refine k_val (y := nI (m + 1)) (nI_add _ _) ?_
          refine k_iast (a := 22) (j := u) X rfl (by decide) rfl (show u < 6 by omega) (by decide) dX3_register_220 ?_
          refine k_aload_n X 4 dX3_register_221 rfl rfl ?_
          refine gt_X3_7 X dX3_register_222 ?_
          refine k_iload X 2 dX3_register_225 rfl ?_
          refine k_iconst X 1 dX3_register_227 (by decide) ?_
          refine k_zast (a := 17) (j := ((16 * u) + t)) X rfl (by decide) rfl (show ((16 * u) + t) < 96 by omega) (by decide) (by decide) dX3_register_228 ?_
          refine k_aload_n X 4 dX3_register_229 rfl rfl ?_
          refine gt_X3_13 X dX3_register_230 ?_
          refine k_iload X 2 dX3_register_233 rfl ?_
          refine k_aload_n X 4 dX3_register_235 rfl rfl ?_
          refine gt_X3_67 X dX3_register_236 ?_
          refine k_val (y := μ 16 0 1) (by simp [st]) ?_
          refine k_iload X 8 dX3_register_239 rfl ?_
          refine k_iadd X dX3_register_241 ?_
          refine k_iast (a := 18) (j := ((16 * u) + t)) X rfl (by decide) rfl (show ((16 * u) + t) < 96 by omega) (by decide) dX3_register_242 ?_
          refine k_aload_n X 4 dX3_register_243 rfl rfl ?_
          refine gt_X3_17 X dX3_register_244 ?_
          refine k_iload X 2 dX3_register_247 rfl ?_
          refine k_iload_n X 7 dX3_register_249 rfl rfl ?_
          refine k_iast (a := 19) (j := ((16 * u) + t)) X rfl (by decide) rfl (show ((16 * u) + t) < 96 by omega) (by decide) dX3_register_250 ?_
          refine k_aload_n X 4 dX3_register_251 rfl rfl ?_
          refine gt_X3_20 X dX3_register_252 ?_
          refine k_iload X 2 dX3_register_255 rfl ?_
          refine k_iload X 9 dX3_register_257 rfl ?_
          refine k_iast (a := 20) (j := ((16 * u) + t)) X rfl (by decide) rfl (show ((16 * u) + t) < 96 by omega) (by decide) dX3_register_259 ?_
          refine k_aload_n X 4 dX3_register_260 rfl rfl ?_
          refine k_iload_n X 5 dX3_register_261 rfl rfl ?_
          refine k_callV (a := 16) (o := 0) (As := [.int (nI u)]) (S := []) X lk_X3_78 rfl (by decide) rfl (C_X3_there u hu) rfl rfl (Nat.le_of_ble_eq_true rfl) ⟨Nat.le_of_ble_eq_true rfl, Nat.le_of_ble_eq_true rfl⟩ ⟨Nat.le_of_ble_eq_true rfl, Nat.le_of_ble_eq_true rfl⟩ dX3_register_262 ?_
          show KF E C 0 0 (st (st (st (st (st (st (st μ 16 0 0 0) 21 0 ((16 * u) + m) (nI t)) 22 0 u (nI (m + 1))) 17 0 ((16 * u) + t) 1) 18 0 ((16 * u) + t) ((μ 16 0 1) + tk)) 19 0 ((16 * u) + t) q) 20 0 ((16 * u) + t) sq) 265 _ [.int (nI (mtN (st (st (st (st (st (st (st μ 16 0 0 0) 21 0 ((16 * u) + m) (nI t)) 22 0 u (nI (m + 1))) 17 0 ((16 * u) + t) 1) 18 0 ((16 * u) + t) ((μ 16 0 1) + tk)) 19 0 ((16 * u) + t) q) 20 0 ((16 * u) + t) sq) u))]
          exact k_iret dX3_register_265 hE (by unfold mrg; rw [if_pos c87]) (by unfold mrg; rw [if_pos c87])
        · exact absurd ⟨c116, c141⟩ hF
  · refine k_iload X 7 dX3_register_90 rfl ?_
    refine k_aload_n X 2 dX3_register_92 rfl rfl ?_
    refine gt_X3_20 X dX3_register_93 ?_
    refine k_iload X 0 dX3_register_96 rfl ?_
    refine k_iald (a := 20) (j := ((16 * u) + t)) X rfl (by decide) rfl (show ((16 * u) + t) < 96 by omega) (by decide) dX3_register_98 ?_
    refine k_icmp_gt (tgt := 106) X dX3_register_99 (by decide) (fun c99 => ?_) (fun c99 => ?_)
    · refine k_iconst X 0 dX3_register_106 (by decide) ?_
      refine k_istore (L' := [(8, .int 0), (7, .int (nI ((16 * u) + t))), (6, .int 1), (0, .ref (ad E 16 0)), (1, .int (nI u)), (2, .int (nI t)), (3, .int q), (4, .int tk), (5, .int sq)]) X dX3_register_107 (by decide) rfl ?_
      refine k_iload X 2 dX3_register_109 rfl ?_
      refine k_if_eq_f (tgt := 148) X dX3_register_111 (by decide) (by decide) ?_
      refine k_iload X 7 dX3_register_114 rfl ?_
      refine k_if_le (tgt := 148) X dX3_register_116 (by decide) (fun c116 => ?_) (fun c116 => ?_)
      · refine k_iconst X 0 dX3_register_148 (by decide) ?_
        refine k_istore (L' := [(9, .int 0), (8, .int 0), (7, .int (nI ((16 * u) + t))), (6, .int 1), (0, .ref (ad E 16 0)), (1, .int (nI u)), (2, .int (nI t)), (3, .int q), (4, .int tk), (5, .int sq)]) X dX3_register_149 (by decide) rfl ?_
        refine k_aload_n X 4 dX3_register_151 rfl rfl ?_
        refine k_iload X 3 dX3_register_152 rfl ?_
        refine k_if_ne_t (tgt := 161) X dX3_register_154 (by decide) (by decide) ?_
        refine k_iload X 1 dX3_register_161 rfl ?_
        refine k_if_ne_f (tgt := 171) X dX3_register_163 (by decide) rfl ?_
        refine k_iload X 0 dX3_register_166 rfl ?_
        refine k_if_eq_t (tgt := 175) X dX3_register_168 (by decide) rfl ?_
        refine k_iconst X 0 dX3_register_175 (by decide) ?_
        refine k_callV (a := 16) (o := 0) (As := [.int 0]) (S := []) X lk_X3_82 rfl (by decide) rfl (C_X3_holds _) rfl rfl (Nat.le_of_ble_eq_true rfl) ⟨Nat.le_of_ble_eq_true rfl, Nat.le_of_ble_eq_true rfl⟩ ⟨Nat.le_of_ble_eq_true rfl, Nat.le_of_ble_eq_true rfl⟩ dX3_register_176 ?_
        show KF E C 0 0 (st μ 16 0 0 0) 179 _ [.int (bp (0 = 0))]
        refine k_val (y := 1) (bp_t rfl) ?_
        refine k_if_ne_t (tgt := 184) X dX3_register_179 (by decide) (by decide) ?_
        refine k_aload_n X 4 dX3_register_184 rfl rfl ?_
        refine gt_X3_7 X dX3_register_185 ?_
        refine k_iload X 2 dX3_register_188 rfl ?_
        refine k_zald (a := 17) (j := ((16 * u) + t)) X rfl (by decide) rfl (show ((16 * u) + t) < 96 by omega) (by decide) dX3_register_190 ?_
        refine k_val (y := μ 17 0 (16 * u + t)) (st_k (by decide)) ?_
        refine k_if_ne_t (tgt := 221) X dX3_register_191 (by decide) c87 ?_
        refine k_aload_n X 4 dX3_register_221 rfl rfl ?_
        refine gt_X3_7 X dX3_register_222 ?_
        refine k_iload X 2 dX3_register_225 rfl ?_
        refine k_iconst X 1 dX3_register_227 (by decide) ?_
        refine k_zast (a := 17) (j := ((16 * u) + t)) X rfl (by decide) rfl (show ((16 * u) + t) < 96 by omega) (by decide) (by decide) dX3_register_228 ?_
        refine k_aload_n X 4 dX3_register_229 rfl rfl ?_
        refine gt_X3_13 X dX3_register_230 ?_
        refine k_iload X 2 dX3_register_233 rfl ?_
        refine k_aload_n X 4 dX3_register_235 rfl rfl ?_
        refine gt_X3_67 X dX3_register_236 ?_
        refine k_val (y := μ 16 0 1) (by simp [st]) ?_
        refine k_iload X 8 dX3_register_239 rfl ?_
        refine k_iadd X dX3_register_241 ?_
        refine k_iast (a := 18) (j := ((16 * u) + t)) X rfl (by decide) rfl (show ((16 * u) + t) < 96 by omega) (by decide) dX3_register_242 ?_
        refine k_aload_n X 4 dX3_register_243 rfl rfl ?_
        refine gt_X3_17 X dX3_register_244 ?_
        refine k_iload X 2 dX3_register_247 rfl ?_
        refine k_iload_n X 7 dX3_register_249 rfl rfl ?_
        refine k_iast (a := 19) (j := ((16 * u) + t)) X rfl (by decide) rfl (show ((16 * u) + t) < 96 by omega) (by decide) dX3_register_250 ?_
        refine k_aload_n X 4 dX3_register_251 rfl rfl ?_
        refine gt_X3_20 X dX3_register_252 ?_
        refine k_iload X 2 dX3_register_255 rfl ?_
        refine k_iload X 9 dX3_register_257 rfl ?_
        refine k_iast (a := 20) (j := ((16 * u) + t)) X rfl (by decide) rfl (show ((16 * u) + t) < 96 by omega) (by decide) dX3_register_259 ?_
        refine k_aload_n X 4 dX3_register_260 rfl rfl ?_
        refine k_iload_n X 5 dX3_register_261 rfl rfl ?_
        refine k_callV (a := 16) (o := 0) (As := [.int (nI u)]) (S := []) X lk_X3_78 rfl (by decide) rfl (C_X3_there u hu) rfl rfl (Nat.le_of_ble_eq_true rfl) ⟨Nat.le_of_ble_eq_true rfl, Nat.le_of_ble_eq_true rfl⟩ ⟨Nat.le_of_ble_eq_true rfl, Nat.le_of_ble_eq_true rfl⟩ dX3_register_262 ?_
        show KF E C 0 0 (st (st (st (st (st μ 16 0 0 0) 17 0 ((16 * u) + t) 1) 18 0 ((16 * u) + t) ((μ 16 0 1) + tk)) 19 0 ((16 * u) + t) q) 20 0 ((16 * u) + t) sq) 265 _ [.int (nI (mtN (st (st (st (st (st μ 16 0 0 0) 17 0 ((16 * u) + t) 1) 18 0 ((16 * u) + t) ((μ 16 0 1) + tk)) 19 0 ((16 * u) + t) q) 20 0 ((16 * u) + t) sq) u))]
        exact k_iret dX3_register_265 hE (by unfold mrg; rw [if_neg c87]) (by unfold mrg; rw [if_neg c87])
      · refine k_aload_n X 3 dX3_register_119 rfl rfl ?_
        refine k_iload_n X 4 dX3_register_120 rfl rfl ?_
        refine k_callV (a := 16) (o := 0) (As := [.int (nI u)]) (S := []) X lk_X3_78 rfl (by decide) rfl (C_X3_there u hu) rfl rfl (Nat.le_of_ble_eq_true rfl) ⟨Nat.le_of_ble_eq_true rfl, Nat.le_of_ble_eq_true rfl⟩ ⟨Nat.le_of_ble_eq_true rfl, Nat.le_of_ble_eq_true rfl⟩ dX3_register_121 ?_
        show KF E C 0 0 μ 124 _ [.int (nI (mtN (μ) u))]
        refine k_aload_n X 3 dX3_register_124 rfl rfl ?_
        refine k_iload_n X 4 dX3_register_125 rfl rfl ?_
        refine k_iload_n X 5 dX3_register_126 rfl rfl ?_
        refine k_callV (a := 16) (o := 0) (As := [.int (nI u), .int (nI t)]) (S := [.int (nI (mtN (μ) u))]) X lk_X3_70 rfl (by decide) rfl (C_X3_isThere u t hu ht) rfl rfl (Nat.le_of_ble_eq_true rfl) ⟨Nat.le_of_ble_eq_true rfl, Nat.le_of_ble_eq_true rfl⟩ ⟨Nat.le_of_ble_eq_true rfl, Nat.le_of_ble_eq_true rfl⟩ dX3_register_127 ?_
        show KF E C 0 0 μ 130 _ [.int (bp (mtB μ u t = true)), .int (nI (mtN (μ) u))]
        refine k_if_eq_p (tgt := 137) X dX3_register_130 (by decide) (fun c130 => ?_) (fun c130 => ?_)
        · refine k_iconst X 0 dX3_register_137 (by decide) ?_
          refine k_isub X dX3_register_138 ?_
          refine k_val (y := nI (mtN μ u) - bp (mtB μ u t = true)) (by rw [bp_f c130]) ?_
          refine k_bipush X 6 dX3_register_139 (by decide) ?_
          refine k_icmp_lt (tgt := 148) X dX3_register_141 (by decide) (fun c141 => ?_) (fun c141 => ?_)
          · refine k_iconst X 0 dX3_register_148 (by decide) ?_
            refine k_istore (L' := [(9, .int 0), (8, .int 0), (7, .int (nI ((16 * u) + t))), (6, .int 1), (0, .ref (ad E 16 0)), (1, .int (nI u)), (2, .int (nI t)), (3, .int q), (4, .int tk), (5, .int sq)]) X dX3_register_149 (by decide) rfl ?_
            refine k_aload_n X 4 dX3_register_151 rfl rfl ?_
            refine k_iload X 3 dX3_register_152 rfl ?_
            refine k_if_ne_t (tgt := 161) X dX3_register_154 (by decide) (by decide) ?_
            refine k_iload X 1 dX3_register_161 rfl ?_
            refine k_if_ne_f (tgt := 171) X dX3_register_163 (by decide) rfl ?_
            refine k_iload X 0 dX3_register_166 rfl ?_
            refine k_if_eq_t (tgt := 175) X dX3_register_168 (by decide) rfl ?_
            refine k_iconst X 0 dX3_register_175 (by decide) ?_
            refine k_callV (a := 16) (o := 0) (As := [.int 0]) (S := []) X lk_X3_82 rfl (by decide) rfl (C_X3_holds _) rfl rfl (Nat.le_of_ble_eq_true rfl) ⟨Nat.le_of_ble_eq_true rfl, Nat.le_of_ble_eq_true rfl⟩ ⟨Nat.le_of_ble_eq_true rfl, Nat.le_of_ble_eq_true rfl⟩ dX3_register_176 ?_
            show KF E C 0 0 (st μ 16 0 0 0) 179 _ [.int (bp (0 = 0))]
            refine k_val (y := 1) (bp_t rfl) ?_
            refine k_if_ne_t (tgt := 184) X dX3_register_179 (by decide) (by decide) ?_
            refine k_aload_n X 4 dX3_register_184 rfl rfl ?_
            refine gt_X3_7 X dX3_register_185 ?_
            refine k_iload X 2 dX3_register_188 rfl ?_
            refine k_zald (a := 17) (j := ((16 * u) + t)) X rfl (by decide) rfl (show ((16 * u) + t) < 96 by omega) (by decide) dX3_register_190 ?_
            refine k_val (y := μ 17 0 (16 * u + t)) (st_k (by decide)) ?_
            refine k_if_ne_t (tgt := 221) X dX3_register_191 (by decide) c87 ?_
            refine k_aload_n X 4 dX3_register_221 rfl rfl ?_
            refine gt_X3_7 X dX3_register_222 ?_
            refine k_iload X 2 dX3_register_225 rfl ?_
            refine k_iconst X 1 dX3_register_227 (by decide) ?_
            refine k_zast (a := 17) (j := ((16 * u) + t)) X rfl (by decide) rfl (show ((16 * u) + t) < 96 by omega) (by decide) (by decide) dX3_register_228 ?_
            refine k_aload_n X 4 dX3_register_229 rfl rfl ?_
            refine gt_X3_13 X dX3_register_230 ?_
            refine k_iload X 2 dX3_register_233 rfl ?_
            refine k_aload_n X 4 dX3_register_235 rfl rfl ?_
            refine gt_X3_67 X dX3_register_236 ?_
            refine k_val (y := μ 16 0 1) (by simp [st]) ?_
            refine k_iload X 8 dX3_register_239 rfl ?_
            refine k_iadd X dX3_register_241 ?_
            refine k_iast (a := 18) (j := ((16 * u) + t)) X rfl (by decide) rfl (show ((16 * u) + t) < 96 by omega) (by decide) dX3_register_242 ?_
            refine k_aload_n X 4 dX3_register_243 rfl rfl ?_
            refine gt_X3_17 X dX3_register_244 ?_
            refine k_iload X 2 dX3_register_247 rfl ?_
            refine k_iload_n X 7 dX3_register_249 rfl rfl ?_
            refine k_iast (a := 19) (j := ((16 * u) + t)) X rfl (by decide) rfl (show ((16 * u) + t) < 96 by omega) (by decide) dX3_register_250 ?_
            refine k_aload_n X 4 dX3_register_251 rfl rfl ?_
            refine gt_X3_20 X dX3_register_252 ?_
            refine k_iload X 2 dX3_register_255 rfl ?_
            refine k_iload X 9 dX3_register_257 rfl ?_
            refine k_iast (a := 20) (j := ((16 * u) + t)) X rfl (by decide) rfl (show ((16 * u) + t) < 96 by omega) (by decide) dX3_register_259 ?_
            refine k_aload_n X 4 dX3_register_260 rfl rfl ?_
            refine k_iload_n X 5 dX3_register_261 rfl rfl ?_
            refine k_callV (a := 16) (o := 0) (As := [.int (nI u)]) (S := []) X lk_X3_78 rfl (by decide) rfl (C_X3_there u hu) rfl rfl (Nat.le_of_ble_eq_true rfl) ⟨Nat.le_of_ble_eq_true rfl, Nat.le_of_ble_eq_true rfl⟩ ⟨Nat.le_of_ble_eq_true rfl, Nat.le_of_ble_eq_true rfl⟩ dX3_register_262 ?_
            show KF E C 0 0 (st (st (st (st (st μ 16 0 0 0) 17 0 ((16 * u) + t) 1) 18 0 ((16 * u) + t) ((μ 16 0 1) + tk)) 19 0 ((16 * u) + t) q) 20 0 ((16 * u) + t) sq) 265 _ [.int (nI (mtN (st (st (st (st (st μ 16 0 0 0) 17 0 ((16 * u) + t) 1) 18 0 ((16 * u) + t) ((μ 16 0 1) + tk)) 19 0 ((16 * u) + t) q) 20 0 ((16 * u) + t) sq) u))]
            exact k_iret dX3_register_265 hE (by unfold mrg; rw [if_neg c87]) (by unfold mrg; rw [if_neg c87])
          · exact absurd ⟨c116, c141⟩ hF
        · refine k_iconst X 1 dX3_register_133 (by decide) ?_
          refine k_goto (tgt := 138) X dX3_register_134 (by decide) ?_
          refine k_isub X dX3_register_138 ?_
          refine k_val (y := nI (mtN μ u) - bp (mtB μ u t = true)) (by rw [bp_t c130]) ?_
          refine k_bipush X 6 dX3_register_139 (by decide) ?_
          refine k_icmp_lt (tgt := 148) X dX3_register_141 (by decide) (fun c141 => ?_) (fun c141 => ?_)
          · refine k_iconst X 0 dX3_register_148 (by decide) ?_
            refine k_istore (L' := [(9, .int 0), (8, .int 0), (7, .int (nI ((16 * u) + t))), (6, .int 1), (0, .ref (ad E 16 0)), (1, .int (nI u)), (2, .int (nI t)), (3, .int q), (4, .int tk), (5, .int sq)]) X dX3_register_149 (by decide) rfl ?_
            refine k_aload_n X 4 dX3_register_151 rfl rfl ?_
            refine k_iload X 3 dX3_register_152 rfl ?_
            refine k_if_ne_t (tgt := 161) X dX3_register_154 (by decide) (by decide) ?_
            refine k_iload X 1 dX3_register_161 rfl ?_
            refine k_if_ne_f (tgt := 171) X dX3_register_163 (by decide) rfl ?_
            refine k_iload X 0 dX3_register_166 rfl ?_
            refine k_if_eq_t (tgt := 175) X dX3_register_168 (by decide) rfl ?_
            refine k_iconst X 0 dX3_register_175 (by decide) ?_
            refine k_callV (a := 16) (o := 0) (As := [.int 0]) (S := []) X lk_X3_82 rfl (by decide) rfl (C_X3_holds _) rfl rfl (Nat.le_of_ble_eq_true rfl) ⟨Nat.le_of_ble_eq_true rfl, Nat.le_of_ble_eq_true rfl⟩ ⟨Nat.le_of_ble_eq_true rfl, Nat.le_of_ble_eq_true rfl⟩ dX3_register_176 ?_
            show KF E C 0 0 (st μ 16 0 0 0) 179 _ [.int (bp (0 = 0))]
            refine k_val (y := 1) (bp_t rfl) ?_
            refine k_if_ne_t (tgt := 184) X dX3_register_179 (by decide) (by decide) ?_
            refine k_aload_n X 4 dX3_register_184 rfl rfl ?_
            refine gt_X3_7 X dX3_register_185 ?_
            refine k_iload X 2 dX3_register_188 rfl ?_
            refine k_zald (a := 17) (j := ((16 * u) + t)) X rfl (by decide) rfl (show ((16 * u) + t) < 96 by omega) (by decide) dX3_register_190 ?_
            refine k_val (y := μ 17 0 (16 * u + t)) (st_k (by decide)) ?_
            refine k_if_ne_t (tgt := 221) X dX3_register_191 (by decide) c87 ?_
            refine k_aload_n X 4 dX3_register_221 rfl rfl ?_
            refine gt_X3_7 X dX3_register_222 ?_
            refine k_iload X 2 dX3_register_225 rfl ?_
            refine k_iconst X 1 dX3_register_227 (by decide) ?_
            refine k_zast (a := 17) (j := ((16 * u) + t)) X rfl (by decide) rfl (show ((16 * u) + t) < 96 by omega) (by decide) (by decide) dX3_register_228 ?_
            refine k_aload_n X 4 dX3_register_229 rfl rfl ?_
            refine gt_X3_13 X dX3_register_230 ?_
            refine k_iload X 2 dX3_register_233 rfl ?_
            refine k_aload_n X 4 dX3_register_235 rfl rfl ?_
            refine gt_X3_67 X dX3_register_236 ?_
            refine k_val (y := μ 16 0 1) (by simp [st]) ?_
            refine k_iload X 8 dX3_register_239 rfl ?_
            refine k_iadd X dX3_register_241 ?_
            refine k_iast (a := 18) (j := ((16 * u) + t)) X rfl (by decide) rfl (show ((16 * u) + t) < 96 by omega) (by decide) dX3_register_242 ?_
            refine k_aload_n X 4 dX3_register_243 rfl rfl ?_
            refine gt_X3_17 X dX3_register_244 ?_
            refine k_iload X 2 dX3_register_247 rfl ?_
            refine k_iload_n X 7 dX3_register_249 rfl rfl ?_
            refine k_iast (a := 19) (j := ((16 * u) + t)) X rfl (by decide) rfl (show ((16 * u) + t) < 96 by omega) (by decide) dX3_register_250 ?_
            refine k_aload_n X 4 dX3_register_251 rfl rfl ?_
            refine gt_X3_20 X dX3_register_252 ?_
            refine k_iload X 2 dX3_register_255 rfl ?_
            refine k_iload X 9 dX3_register_257 rfl ?_
            refine k_iast (a := 20) (j := ((16 * u) + t)) X rfl (by decide) rfl (show ((16 * u) + t) < 96 by omega) (by decide) dX3_register_259 ?_
            refine k_aload_n X 4 dX3_register_260 rfl rfl ?_
            refine k_iload_n X 5 dX3_register_261 rfl rfl ?_
            refine k_callV (a := 16) (o := 0) (As := [.int (nI u)]) (S := []) X lk_X3_78 rfl (by decide) rfl (C_X3_there u hu) rfl rfl (Nat.le_of_ble_eq_true rfl) ⟨Nat.le_of_ble_eq_true rfl, Nat.le_of_ble_eq_true rfl⟩ ⟨Nat.le_of_ble_eq_true rfl, Nat.le_of_ble_eq_true rfl⟩ dX3_register_262 ?_
            show KF E C 0 0 (st (st (st (st (st μ 16 0 0 0) 17 0 ((16 * u) + t) 1) 18 0 ((16 * u) + t) ((μ 16 0 1) + tk)) 19 0 ((16 * u) + t) q) 20 0 ((16 * u) + t) sq) 265 _ [.int (nI (mtN (st (st (st (st (st μ 16 0 0 0) 17 0 ((16 * u) + t) 1) 18 0 ((16 * u) + t) ((μ 16 0 1) + tk)) 19 0 ((16 * u) + t) q) 20 0 ((16 * u) + t) sq) u))]
            exact k_iret dX3_register_265 hE (by unfold mrg; rw [if_neg c87]) (by unfold mrg; rw [if_neg c87])
          · exact absurd ⟨c116, c141⟩ hF
    · exact absurd ⟨c87, c99⟩ hO

set_option maxHeartbeats 4000000 in
set_option maxRecDepth 100000 in
theorem F1_X3_register {E : EE} {μ : Mem} (x tg q tk sq : Int32) (h : ¬ (okU x ∧ rgOk tg q tk sq)) : MM E yX3_register cX3_register 10 (some .int) (rm 3 0) [.ref (ad E 16 0), .int x, .int tg, .int q, .int tk, .int sq] μ (some (.int 0)) (st μ 16 0 0 1) := by
  refine MM.int (own := RX3) [(0, .ref (ad E 16 0)), (1, .int x), (2, .int tg), (3, .int q), (4, .int tk), (5, .int sq)] rfl rfl rfl (Nat.le_of_ble_eq_true rfl) rfl (fun C X hE => ?_)
  refine k_iload_n X 1 dX3_register_0 rfl rfl ?_
  refine k_callS (As := [.int x]) (S := []) X lk_X3_74 (C_X3_isUser _) rfl rfl (Nat.le_of_ble_eq_true rfl) ⟨Nat.le_of_ble_eq_true rfl, Nat.le_of_ble_eq_true rfl⟩ ⟨Nat.le_of_ble_eq_true rfl, Nat.le_of_ble_eq_true rfl⟩ dX3_register_1 ?_
  show KF E C 0 0 μ 4 _ [.int (bp (¬ (x < 0 ∨ 5 < x)))]
  refine k_if_eq_p (tgt := 55) X dX3_register_4 (by decide) (fun c4 => ?_) (fun c4 => ?_)
  · refine k_iconst X 0 dX3_register_55 (by decide) ?_
    refine k_istore (L' := [(6, .int 0), (0, .ref (ad E 16 0)), (1, .int x), (2, .int tg), (3, .int q), (4, .int tk), (5, .int sq)]) X dX3_register_56 (by decide) rfl ?_
    refine k_iload X 0 dX3_register_58 rfl ?_
    refine k_if_eq_t (tgt := 72) X dX3_register_60 (by decide) rfl ?_
    refine k_iconst X 0 dX3_register_72 (by decide) ?_
    refine k_istore (L' := [(7, .int 0), (6, .int 0), (0, .ref (ad E 16 0)), (1, .int x), (2, .int tg), (3, .int q), (4, .int tk), (5, .int sq)]) X dX3_register_73 (by decide) rfl ?_
    refine k_iload X 1 dX3_register_75 rfl ?_
    refine k_if_eq_t (tgt := 106) X dX3_register_77 (by decide) rfl ?_
    refine k_iconst X 0 dX3_register_106 (by decide) ?_
    refine k_istore (L' := [(8, .int 0), (7, .int 0), (6, .int 0), (0, .ref (ad E 16 0)), (1, .int x), (2, .int tg), (3, .int q), (4, .int tk), (5, .int sq)]) X dX3_register_107 (by decide) rfl ?_
    refine k_iload X 2 dX3_register_109 rfl ?_
    refine k_if_eq_t (tgt := 148) X dX3_register_111 (by decide) rfl ?_
    refine k_iconst X 0 dX3_register_148 (by decide) ?_
    refine k_istore (L' := [(9, .int 0), (8, .int 0), (7, .int 0), (6, .int 0), (0, .ref (ad E 16 0)), (1, .int x), (2, .int tg), (3, .int q), (4, .int tk), (5, .int sq)]) X dX3_register_149 (by decide) rfl ?_
    refine k_aload_n X 4 dX3_register_151 rfl rfl ?_
    refine k_iload X 3 dX3_register_152 rfl ?_
    refine k_if_ne_f (tgt := 161) X dX3_register_154 (by decide) rfl ?_
    refine k_iconst X 1 dX3_register_157 (by decide) ?_
    refine k_goto (tgt := 176) X dX3_register_158 (by decide) ?_
    refine k_callV (a := 16) (o := 0) (As := [.int 1]) (S := []) X lk_X3_82 rfl (by decide) rfl (C_X3_holds _) rfl rfl (Nat.le_of_ble_eq_true rfl) ⟨Nat.le_of_ble_eq_true rfl, Nat.le_of_ble_eq_true rfl⟩ ⟨Nat.le_of_ble_eq_true rfl, Nat.le_of_ble_eq_true rfl⟩ dX3_register_176 ?_
    show KF E C 0 0 (st μ 16 0 0 1) 179 _ [.int (bp (1 = 0))]
    refine k_val (y := 0) (bp_f (by decide)) ?_
    refine k_if_ne_f (tgt := 184) X dX3_register_179 (by decide) rfl ?_
    refine k_iconst X 0 dX3_register_182 (by decide) ?_
    exact k_iret dX3_register_183 hE rfl rfl
  · refine k_iload_n X 2 dX3_register_7 rfl rfl ?_
    refine k_iconst X 0 dX3_register_8 (by decide) ?_
    refine k_bipush X 15 dX3_register_9 (by decide) ?_
    refine k_callS (As := [.int tg, .int 0, .int 15]) (S := []) X lk_X3_63 (C_X3_isIn _ _ _) rfl rfl (Nat.le_of_ble_eq_true rfl) ⟨Nat.le_of_ble_eq_true rfl, Nat.le_of_ble_eq_true rfl⟩ ⟨Nat.le_of_ble_eq_true rfl, Nat.le_of_ble_eq_true rfl⟩ dX3_register_11 ?_
    show KF E C 0 0 μ 14 _ [.int (bp (¬ (tg < 0 ∨ 15 < tg)))]
    refine k_if_eq_p (tgt := 55) X dX3_register_14 (by decide) (fun c14 => ?_) (fun c14 => ?_)
    · refine k_iconst X 0 dX3_register_55 (by decide) ?_
      refine k_istore (L' := [(6, .int 0), (0, .ref (ad E 16 0)), (1, .int x), (2, .int tg), (3, .int q), (4, .int tk), (5, .int sq)]) X dX3_register_56 (by decide) rfl ?_
      refine k_iload X 0 dX3_register_58 rfl ?_
      refine k_if_eq_t (tgt := 72) X dX3_register_60 (by decide) rfl ?_
      refine k_iconst X 0 dX3_register_72 (by decide) ?_
      refine k_istore (L' := [(7, .int 0), (6, .int 0), (0, .ref (ad E 16 0)), (1, .int x), (2, .int tg), (3, .int q), (4, .int tk), (5, .int sq)]) X dX3_register_73 (by decide) rfl ?_
      refine k_iload X 1 dX3_register_75 rfl ?_
      refine k_if_eq_t (tgt := 106) X dX3_register_77 (by decide) rfl ?_
      refine k_iconst X 0 dX3_register_106 (by decide) ?_
      refine k_istore (L' := [(8, .int 0), (7, .int 0), (6, .int 0), (0, .ref (ad E 16 0)), (1, .int x), (2, .int tg), (3, .int q), (4, .int tk), (5, .int sq)]) X dX3_register_107 (by decide) rfl ?_
      refine k_iload X 2 dX3_register_109 rfl ?_
      refine k_if_eq_t (tgt := 148) X dX3_register_111 (by decide) rfl ?_
      refine k_iconst X 0 dX3_register_148 (by decide) ?_
      refine k_istore (L' := [(9, .int 0), (8, .int 0), (7, .int 0), (6, .int 0), (0, .ref (ad E 16 0)), (1, .int x), (2, .int tg), (3, .int q), (4, .int tk), (5, .int sq)]) X dX3_register_149 (by decide) rfl ?_
      refine k_aload_n X 4 dX3_register_151 rfl rfl ?_
      refine k_iload X 3 dX3_register_152 rfl ?_
      refine k_if_ne_f (tgt := 161) X dX3_register_154 (by decide) rfl ?_
      refine k_iconst X 1 dX3_register_157 (by decide) ?_
      refine k_goto (tgt := 176) X dX3_register_158 (by decide) ?_
      refine k_callV (a := 16) (o := 0) (As := [.int 1]) (S := []) X lk_X3_82 rfl (by decide) rfl (C_X3_holds _) rfl rfl (Nat.le_of_ble_eq_true rfl) ⟨Nat.le_of_ble_eq_true rfl, Nat.le_of_ble_eq_true rfl⟩ ⟨Nat.le_of_ble_eq_true rfl, Nat.le_of_ble_eq_true rfl⟩ dX3_register_176 ?_
      show KF E C 0 0 (st μ 16 0 0 1) 179 _ [.int (bp (1 = 0))]
      refine k_val (y := 0) (bp_f (by decide)) ?_
      refine k_if_ne_f (tgt := 184) X dX3_register_179 (by decide) rfl ?_
      refine k_iconst X 0 dX3_register_182 (by decide) ?_
      exact k_iret dX3_register_183 hE rfl rfl
    · refine k_iload_n X 3 dX3_register_17 rfl rfl ?_
      refine k_iconst X 0 dX3_register_18 (by decide) ?_
      refine k_bipush X 10 dX3_register_19 (by decide) ?_
      refine k_callS (As := [.int q, .int 0, .int 10]) (S := []) X lk_X3_63 (C_X3_isIn _ _ _) rfl rfl (Nat.le_of_ble_eq_true rfl) ⟨Nat.le_of_ble_eq_true rfl, Nat.le_of_ble_eq_true rfl⟩ ⟨Nat.le_of_ble_eq_true rfl, Nat.le_of_ble_eq_true rfl⟩ dX3_register_21 ?_
      show KF E C 0 0 μ 24 _ [.int (bp (¬ (q < 0 ∨ 10 < q)))]
      refine k_if_eq_p (tgt := 55) X dX3_register_24 (by decide) (fun c24 => ?_) (fun c24 => ?_)
      · refine k_iconst X 0 dX3_register_55 (by decide) ?_
        refine k_istore (L' := [(6, .int 0), (0, .ref (ad E 16 0)), (1, .int x), (2, .int tg), (3, .int q), (4, .int tk), (5, .int sq)]) X dX3_register_56 (by decide) rfl ?_
        refine k_iload X 0 dX3_register_58 rfl ?_
        refine k_if_eq_t (tgt := 72) X dX3_register_60 (by decide) rfl ?_
        refine k_iconst X 0 dX3_register_72 (by decide) ?_
        refine k_istore (L' := [(7, .int 0), (6, .int 0), (0, .ref (ad E 16 0)), (1, .int x), (2, .int tg), (3, .int q), (4, .int tk), (5, .int sq)]) X dX3_register_73 (by decide) rfl ?_
        refine k_iload X 1 dX3_register_75 rfl ?_
        refine k_if_eq_t (tgt := 106) X dX3_register_77 (by decide) rfl ?_
        refine k_iconst X 0 dX3_register_106 (by decide) ?_
        refine k_istore (L' := [(8, .int 0), (7, .int 0), (6, .int 0), (0, .ref (ad E 16 0)), (1, .int x), (2, .int tg), (3, .int q), (4, .int tk), (5, .int sq)]) X dX3_register_107 (by decide) rfl ?_
        refine k_iload X 2 dX3_register_109 rfl ?_
        refine k_if_eq_t (tgt := 148) X dX3_register_111 (by decide) rfl ?_
        refine k_iconst X 0 dX3_register_148 (by decide) ?_
        refine k_istore (L' := [(9, .int 0), (8, .int 0), (7, .int 0), (6, .int 0), (0, .ref (ad E 16 0)), (1, .int x), (2, .int tg), (3, .int q), (4, .int tk), (5, .int sq)]) X dX3_register_149 (by decide) rfl ?_
        refine k_aload_n X 4 dX3_register_151 rfl rfl ?_
        refine k_iload X 3 dX3_register_152 rfl ?_
        refine k_if_ne_f (tgt := 161) X dX3_register_154 (by decide) rfl ?_
        refine k_iconst X 1 dX3_register_157 (by decide) ?_
        refine k_goto (tgt := 176) X dX3_register_158 (by decide) ?_
        refine k_callV (a := 16) (o := 0) (As := [.int 1]) (S := []) X lk_X3_82 rfl (by decide) rfl (C_X3_holds _) rfl rfl (Nat.le_of_ble_eq_true rfl) ⟨Nat.le_of_ble_eq_true rfl, Nat.le_of_ble_eq_true rfl⟩ ⟨Nat.le_of_ble_eq_true rfl, Nat.le_of_ble_eq_true rfl⟩ dX3_register_176 ?_
        show KF E C 0 0 (st μ 16 0 0 1) 179 _ [.int (bp (1 = 0))]
        refine k_val (y := 0) (bp_f (by decide)) ?_
        refine k_if_ne_f (tgt := 184) X dX3_register_179 (by decide) rfl ?_
        refine k_iconst X 0 dX3_register_182 (by decide) ?_
        exact k_iret dX3_register_183 hE rfl rfl
      · refine k_iload X 4 dX3_register_27 rfl ?_
        refine k_iconst X 0 dX3_register_29 (by decide) ?_
        refine k_sipush X 1000 dX3_register_30 (by decide) ?_
        refine k_callS (As := [.int tk, .int 0, .int 1000]) (S := []) X lk_X3_63 (C_X3_isIn _ _ _) rfl rfl (Nat.le_of_ble_eq_true rfl) ⟨Nat.le_of_ble_eq_true rfl, Nat.le_of_ble_eq_true rfl⟩ ⟨Nat.le_of_ble_eq_true rfl, Nat.le_of_ble_eq_true rfl⟩ dX3_register_33 ?_
        show KF E C 0 0 μ 36 _ [.int (bp (¬ (tk < 0 ∨ 1000 < tk)))]
        refine k_if_eq_p (tgt := 55) X dX3_register_36 (by decide) (fun c36 => ?_) (fun c36 => ?_)
        · refine k_iconst X 0 dX3_register_55 (by decide) ?_
          refine k_istore (L' := [(6, .int 0), (0, .ref (ad E 16 0)), (1, .int x), (2, .int tg), (3, .int q), (4, .int tk), (5, .int sq)]) X dX3_register_56 (by decide) rfl ?_
          refine k_iload X 0 dX3_register_58 rfl ?_
          refine k_if_eq_t (tgt := 72) X dX3_register_60 (by decide) rfl ?_
          refine k_iconst X 0 dX3_register_72 (by decide) ?_
          refine k_istore (L' := [(7, .int 0), (6, .int 0), (0, .ref (ad E 16 0)), (1, .int x), (2, .int tg), (3, .int q), (4, .int tk), (5, .int sq)]) X dX3_register_73 (by decide) rfl ?_
          refine k_iload X 1 dX3_register_75 rfl ?_
          refine k_if_eq_t (tgt := 106) X dX3_register_77 (by decide) rfl ?_
          refine k_iconst X 0 dX3_register_106 (by decide) ?_
          refine k_istore (L' := [(8, .int 0), (7, .int 0), (6, .int 0), (0, .ref (ad E 16 0)), (1, .int x), (2, .int tg), (3, .int q), (4, .int tk), (5, .int sq)]) X dX3_register_107 (by decide) rfl ?_
          refine k_iload X 2 dX3_register_109 rfl ?_
          refine k_if_eq_t (tgt := 148) X dX3_register_111 (by decide) rfl ?_
          refine k_iconst X 0 dX3_register_148 (by decide) ?_
          refine k_istore (L' := [(9, .int 0), (8, .int 0), (7, .int 0), (6, .int 0), (0, .ref (ad E 16 0)), (1, .int x), (2, .int tg), (3, .int q), (4, .int tk), (5, .int sq)]) X dX3_register_149 (by decide) rfl ?_
          refine k_aload_n X 4 dX3_register_151 rfl rfl ?_
          refine k_iload X 3 dX3_register_152 rfl ?_
          refine k_if_ne_f (tgt := 161) X dX3_register_154 (by decide) rfl ?_
          refine k_iconst X 1 dX3_register_157 (by decide) ?_
          refine k_goto (tgt := 176) X dX3_register_158 (by decide) ?_
          refine k_callV (a := 16) (o := 0) (As := [.int 1]) (S := []) X lk_X3_82 rfl (by decide) rfl (C_X3_holds _) rfl rfl (Nat.le_of_ble_eq_true rfl) ⟨Nat.le_of_ble_eq_true rfl, Nat.le_of_ble_eq_true rfl⟩ ⟨Nat.le_of_ble_eq_true rfl, Nat.le_of_ble_eq_true rfl⟩ dX3_register_176 ?_
          show KF E C 0 0 (st μ 16 0 0 1) 179 _ [.int (bp (1 = 0))]
          refine k_val (y := 0) (bp_f (by decide)) ?_
          refine k_if_ne_f (tgt := 184) X dX3_register_179 (by decide) rfl ?_
          refine k_iconst X 0 dX3_register_182 (by decide) ?_
          exact k_iret dX3_register_183 hE rfl rfl
        · refine k_iload X 5 dX3_register_39 rfl ?_
          refine k_iconst X 0 dX3_register_41 (by decide) ?_
          refine k_sipush X 10000 dX3_register_42 (by decide) ?_
          refine k_callS (As := [.int sq, .int 0, .int 10000]) (S := []) X lk_X3_63 (C_X3_isIn _ _ _) rfl rfl (Nat.le_of_ble_eq_true rfl) ⟨Nat.le_of_ble_eq_true rfl, Nat.le_of_ble_eq_true rfl⟩ ⟨Nat.le_of_ble_eq_true rfl, Nat.le_of_ble_eq_true rfl⟩ dX3_register_45 ?_
          show KF E C 0 0 μ 48 _ [.int (bp (¬ (sq < 0 ∨ 10000 < sq)))]
          refine k_if_eq_p (tgt := 55) X dX3_register_48 (by decide) (fun c48 => ?_) (fun c48 => ?_)
          · refine k_iconst X 0 dX3_register_55 (by decide) ?_
            refine k_istore (L' := [(6, .int 0), (0, .ref (ad E 16 0)), (1, .int x), (2, .int tg), (3, .int q), (4, .int tk), (5, .int sq)]) X dX3_register_56 (by decide) rfl ?_
            refine k_iload X 0 dX3_register_58 rfl ?_
            refine k_if_eq_t (tgt := 72) X dX3_register_60 (by decide) rfl ?_
            refine k_iconst X 0 dX3_register_72 (by decide) ?_
            refine k_istore (L' := [(7, .int 0), (6, .int 0), (0, .ref (ad E 16 0)), (1, .int x), (2, .int tg), (3, .int q), (4, .int tk), (5, .int sq)]) X dX3_register_73 (by decide) rfl ?_
            refine k_iload X 1 dX3_register_75 rfl ?_
            refine k_if_eq_t (tgt := 106) X dX3_register_77 (by decide) rfl ?_
            refine k_iconst X 0 dX3_register_106 (by decide) ?_
            refine k_istore (L' := [(8, .int 0), (7, .int 0), (6, .int 0), (0, .ref (ad E 16 0)), (1, .int x), (2, .int tg), (3, .int q), (4, .int tk), (5, .int sq)]) X dX3_register_107 (by decide) rfl ?_
            refine k_iload X 2 dX3_register_109 rfl ?_
            refine k_if_eq_t (tgt := 148) X dX3_register_111 (by decide) rfl ?_
            refine k_iconst X 0 dX3_register_148 (by decide) ?_
            refine k_istore (L' := [(9, .int 0), (8, .int 0), (7, .int 0), (6, .int 0), (0, .ref (ad E 16 0)), (1, .int x), (2, .int tg), (3, .int q), (4, .int tk), (5, .int sq)]) X dX3_register_149 (by decide) rfl ?_
            refine k_aload_n X 4 dX3_register_151 rfl rfl ?_
            refine k_iload X 3 dX3_register_152 rfl ?_
            refine k_if_ne_f (tgt := 161) X dX3_register_154 (by decide) rfl ?_
            refine k_iconst X 1 dX3_register_157 (by decide) ?_
            refine k_goto (tgt := 176) X dX3_register_158 (by decide) ?_
            refine k_callV (a := 16) (o := 0) (As := [.int 1]) (S := []) X lk_X3_82 rfl (by decide) rfl (C_X3_holds _) rfl rfl (Nat.le_of_ble_eq_true rfl) ⟨Nat.le_of_ble_eq_true rfl, Nat.le_of_ble_eq_true rfl⟩ ⟨Nat.le_of_ble_eq_true rfl, Nat.le_of_ble_eq_true rfl⟩ dX3_register_176 ?_
            show KF E C 0 0 (st μ 16 0 0 1) 179 _ [.int (bp (1 = 0))]
            refine k_val (y := 0) (bp_f (by decide)) ?_
            refine k_if_ne_f (tgt := 184) X dX3_register_179 (by decide) rfl ?_
            refine k_iconst X 0 dX3_register_182 (by decide) ?_
            exact k_iret dX3_register_183 hE rfl rfl
          · exact absurd ⟨c4, c14, c24, c36, c48⟩ h

set_option maxHeartbeats 4000000 in
set_option maxRecDepth 100000 in
theorem F2_X3_register {E : EE} {μ : Mem} (u t : Nat) (q tk sq : Int32) (hu : u < 6) (ht : t < 16) (hU : okU (nI u)) (hR : rgOk (nI t) q tk sq) (hbad : (¬ μ 17 0 (16 * u + t) = 0 ∧ ¬ μ 20 0 (16 * u + t) < sq) ∨ (¬ tk ≤ 0 ∧ ¬ nI (mtN μ u) - bp (mtB μ u t = true) < 6)) : MM E yX3_register cX3_register 10 (some .int) (rm 3 0) [.ref (ad E 16 0), .int (nI u), .int (nI t), .int q, .int tk, .int sq] μ (some (.int 0)) (st μ 16 0 0 2) := by
  refine MM.int (own := RX3) [(0, .ref (ad E 16 0)), (1, .int (nI u)), (2, .int (nI t)), (3, .int q), (4, .int tk), (5, .int sq)] rfl rfl rfl (Nat.le_of_ble_eq_true rfl) rfl (fun C X hE => ?_)
  refine k_iload_n X 1 dX3_register_0 rfl rfl ?_
  refine k_callS (As := [.int (nI u)]) (S := []) X lk_X3_74 (C_X3_isUser _) rfl rfl (Nat.le_of_ble_eq_true rfl) ⟨Nat.le_of_ble_eq_true rfl, Nat.le_of_ble_eq_true rfl⟩ ⟨Nat.le_of_ble_eq_true rfl, Nat.le_of_ble_eq_true rfl⟩ dX3_register_1 ?_
  show KF E C 0 0 μ 4 _ [.int (bp (¬ ((nI u) < 0 ∨ 5 < (nI u))))]
  refine k_val (y := 1) (bp_t (show ¬ (nI u < 0 ∨ 5 < nI u) from hU)) ?_
  refine k_if_eq_f (tgt := 55) X dX3_register_4 (by decide) (by decide) ?_
  refine k_iload_n X 2 dX3_register_7 rfl rfl ?_
  refine k_iconst X 0 dX3_register_8 (by decide) ?_
  refine k_bipush X 15 dX3_register_9 (by decide) ?_
  refine k_callS (As := [.int (nI t), .int 0, .int 15]) (S := []) X lk_X3_63 (C_X3_isIn _ _ _) rfl rfl (Nat.le_of_ble_eq_true rfl) ⟨Nat.le_of_ble_eq_true rfl, Nat.le_of_ble_eq_true rfl⟩ ⟨Nat.le_of_ble_eq_true rfl, Nat.le_of_ble_eq_true rfl⟩ dX3_register_11 ?_
  show KF E C 0 0 μ 14 _ [.int (bp (¬ ((nI t) < 0 ∨ 15 < (nI t))))]
  refine k_val (y := 1) (bp_t hR.1) ?_
  refine k_if_eq_f (tgt := 55) X dX3_register_14 (by decide) (by decide) ?_
  refine k_iload_n X 3 dX3_register_17 rfl rfl ?_
  refine k_iconst X 0 dX3_register_18 (by decide) ?_
  refine k_bipush X 10 dX3_register_19 (by decide) ?_
  refine k_callS (As := [.int q, .int 0, .int 10]) (S := []) X lk_X3_63 (C_X3_isIn _ _ _) rfl rfl (Nat.le_of_ble_eq_true rfl) ⟨Nat.le_of_ble_eq_true rfl, Nat.le_of_ble_eq_true rfl⟩ ⟨Nat.le_of_ble_eq_true rfl, Nat.le_of_ble_eq_true rfl⟩ dX3_register_21 ?_
  show KF E C 0 0 μ 24 _ [.int (bp (¬ (q < 0 ∨ 10 < q)))]
  refine k_val (y := 1) (bp_t hR.2.1) ?_
  refine k_if_eq_f (tgt := 55) X dX3_register_24 (by decide) (by decide) ?_
  refine k_iload X 4 dX3_register_27 rfl ?_
  refine k_iconst X 0 dX3_register_29 (by decide) ?_
  refine k_sipush X 1000 dX3_register_30 (by decide) ?_
  refine k_callS (As := [.int tk, .int 0, .int 1000]) (S := []) X lk_X3_63 (C_X3_isIn _ _ _) rfl rfl (Nat.le_of_ble_eq_true rfl) ⟨Nat.le_of_ble_eq_true rfl, Nat.le_of_ble_eq_true rfl⟩ ⟨Nat.le_of_ble_eq_true rfl, Nat.le_of_ble_eq_true rfl⟩ dX3_register_33 ?_
  show KF E C 0 0 μ 36 _ [.int (bp (¬ (tk < 0 ∨ 1000 < tk)))]
  refine k_val (y := 1) (bp_t hR.2.2.1) ?_
  refine k_if_eq_f (tgt := 55) X dX3_register_36 (by decide) (by decide) ?_
  refine k_iload X 5 dX3_register_39 rfl ?_
  refine k_iconst X 0 dX3_register_41 (by decide) ?_
  refine k_sipush X 10000 dX3_register_42 (by decide) ?_
  refine k_callS (As := [.int sq, .int 0, .int 10000]) (S := []) X lk_X3_63 (C_X3_isIn _ _ _) rfl rfl (Nat.le_of_ble_eq_true rfl) ⟨Nat.le_of_ble_eq_true rfl, Nat.le_of_ble_eq_true rfl⟩ ⟨Nat.le_of_ble_eq_true rfl, Nat.le_of_ble_eq_true rfl⟩ dX3_register_45 ?_
  show KF E C 0 0 μ 48 _ [.int (bp (¬ (sq < 0 ∨ 10000 < sq)))]
  refine k_val (y := 1) (bp_t hR.2.2.2) ?_
  refine k_if_eq_f (tgt := 55) X dX3_register_48 (by decide) (by decide) ?_
  refine k_iconst X 1 dX3_register_51 (by decide) ?_
  refine k_goto (tgt := 56) X dX3_register_52 (by decide) ?_
  refine k_istore (L' := [(6, .int 1), (0, .ref (ad E 16 0)), (1, .int (nI u)), (2, .int (nI t)), (3, .int q), (4, .int tk), (5, .int sq)]) X dX3_register_56 (by decide) rfl ?_
  refine k_iload X 0 dX3_register_58 rfl ?_
  refine k_if_eq_f (tgt := 72) X dX3_register_60 (by decide) (by decide) ?_
  refine k_bipush X 16 dX3_register_63 (by decide) ?_
  refine k_iload_n X 2 dX3_register_65 rfl rfl ?_
  refine k_imul X dX3_register_66 ?_
  refine k_val (y := nI (16 * u)) (pk_mul _ _) ?_
  refine k_iload_n X 3 dX3_register_67 rfl rfl ?_
  refine k_iadd X dX3_register_68 ?_
  refine k_val (y := nI ((16 * u) + t)) (nI_add _ _) ?_
  refine k_goto (tgt := 73) X dX3_register_69 (by decide) ?_
  refine k_istore (L' := [(7, .int (nI ((16 * u) + t))), (6, .int 1), (0, .ref (ad E 16 0)), (1, .int (nI u)), (2, .int (nI t)), (3, .int q), (4, .int tk), (5, .int sq)]) X dX3_register_73 (by decide) rfl ?_
  refine k_iload X 1 dX3_register_75 rfl ?_
  refine k_if_eq_f (tgt := 106) X dX3_register_77 (by decide) (by decide) ?_
  refine k_aload_n X 2 dX3_register_80 rfl rfl ?_
  refine gt_X3_7 X dX3_register_81 ?_
  refine k_iload X 0 dX3_register_84 rfl ?_
  refine k_zald (a := 17) (j := ((16 * u) + t)) X rfl (by decide) rfl (show ((16 * u) + t) < 96 by omega) (by decide) dX3_register_86 ?_
  refine k_if_eq (tgt := 106) X dX3_register_87 (by decide) (fun c87 => ?_) (fun c87 => ?_)
  · refine k_iconst X 0 dX3_register_106 (by decide) ?_
    refine k_istore (L' := [(8, .int 0), (7, .int (nI ((16 * u) + t))), (6, .int 1), (0, .ref (ad E 16 0)), (1, .int (nI u)), (2, .int (nI t)), (3, .int q), (4, .int tk), (5, .int sq)]) X dX3_register_107 (by decide) rfl ?_
    refine k_iload X 2 dX3_register_109 rfl ?_
    refine k_if_eq_f (tgt := 148) X dX3_register_111 (by decide) (by decide) ?_
    refine k_iload X 7 dX3_register_114 rfl ?_
    refine k_if_le (tgt := 148) X dX3_register_116 (by decide) (fun c116 => ?_) (fun c116 => ?_)
    · refine k_iconst X 0 dX3_register_148 (by decide) ?_
      refine k_istore (L' := [(9, .int 0), (8, .int 0), (7, .int (nI ((16 * u) + t))), (6, .int 1), (0, .ref (ad E 16 0)), (1, .int (nI u)), (2, .int (nI t)), (3, .int q), (4, .int tk), (5, .int sq)]) X dX3_register_149 (by decide) rfl ?_
      refine k_aload_n X 4 dX3_register_151 rfl rfl ?_
      refine k_iload X 3 dX3_register_152 rfl ?_
      refine k_if_ne_t (tgt := 161) X dX3_register_154 (by decide) (by decide) ?_
      refine k_iload X 1 dX3_register_161 rfl ?_
      refine k_if_ne_f (tgt := 171) X dX3_register_163 (by decide) rfl ?_
      refine k_iload X 0 dX3_register_166 rfl ?_
      refine k_if_eq_t (tgt := 175) X dX3_register_168 (by decide) rfl ?_
      exact absurd hbad (fun h => h.elim (fun h => h.1 c87) (fun h => h.1 c116))
    · refine k_aload_n X 3 dX3_register_119 rfl rfl ?_
      refine k_iload_n X 4 dX3_register_120 rfl rfl ?_
      refine k_callV (a := 16) (o := 0) (As := [.int (nI u)]) (S := []) X lk_X3_78 rfl (by decide) rfl (C_X3_there u hu) rfl rfl (Nat.le_of_ble_eq_true rfl) ⟨Nat.le_of_ble_eq_true rfl, Nat.le_of_ble_eq_true rfl⟩ ⟨Nat.le_of_ble_eq_true rfl, Nat.le_of_ble_eq_true rfl⟩ dX3_register_121 ?_
      show KF E C 0 0 μ 124 _ [.int (nI (mtN (μ) u))]
      refine k_aload_n X 3 dX3_register_124 rfl rfl ?_
      refine k_iload_n X 4 dX3_register_125 rfl rfl ?_
      refine k_iload_n X 5 dX3_register_126 rfl rfl ?_
      refine k_callV (a := 16) (o := 0) (As := [.int (nI u), .int (nI t)]) (S := [.int (nI (mtN (μ) u))]) X lk_X3_70 rfl (by decide) rfl (C_X3_isThere u t hu ht) rfl rfl (Nat.le_of_ble_eq_true rfl) ⟨Nat.le_of_ble_eq_true rfl, Nat.le_of_ble_eq_true rfl⟩ ⟨Nat.le_of_ble_eq_true rfl, Nat.le_of_ble_eq_true rfl⟩ dX3_register_127 ?_
      show KF E C 0 0 μ 130 _ [.int (bp (mtB μ u t = true)), .int (nI (mtN (μ) u))]
      refine k_if_eq_p (tgt := 137) X dX3_register_130 (by decide) (fun c130 => ?_) (fun c130 => ?_)
      · refine k_iconst X 0 dX3_register_137 (by decide) ?_
        refine k_isub X dX3_register_138 ?_
        refine k_val (y := nI (mtN μ u) - bp (mtB μ u t = true)) (by rw [bp_f c130]) ?_
        refine k_bipush X 6 dX3_register_139 (by decide) ?_
        refine k_icmp_lt (tgt := 148) X dX3_register_141 (by decide) (fun c141 => ?_) (fun c141 => ?_)
        · refine k_iconst X 0 dX3_register_148 (by decide) ?_
          refine k_istore (L' := [(9, .int 0), (8, .int 0), (7, .int (nI ((16 * u) + t))), (6, .int 1), (0, .ref (ad E 16 0)), (1, .int (nI u)), (2, .int (nI t)), (3, .int q), (4, .int tk), (5, .int sq)]) X dX3_register_149 (by decide) rfl ?_
          refine k_aload_n X 4 dX3_register_151 rfl rfl ?_
          refine k_iload X 3 dX3_register_152 rfl ?_
          refine k_if_ne_t (tgt := 161) X dX3_register_154 (by decide) (by decide) ?_
          refine k_iload X 1 dX3_register_161 rfl ?_
          refine k_if_ne_f (tgt := 171) X dX3_register_163 (by decide) rfl ?_
          refine k_iload X 0 dX3_register_166 rfl ?_
          refine k_if_eq_t (tgt := 175) X dX3_register_168 (by decide) rfl ?_
          exact absurd hbad (fun h => h.elim (fun h => h.1 c87) (fun h => h.2 c141))
        · refine k_iconst X 1 dX3_register_144 (by decide) ?_
          refine k_goto (tgt := 149) X dX3_register_145 (by decide) ?_
          refine k_istore (L' := [(9, .int 1), (8, .int 0), (7, .int (nI ((16 * u) + t))), (6, .int 1), (0, .ref (ad E 16 0)), (1, .int (nI u)), (2, .int (nI t)), (3, .int q), (4, .int tk), (5, .int sq)]) X dX3_register_149 (by decide) rfl ?_
          refine k_aload_n X 4 dX3_register_151 rfl rfl ?_
          refine k_iload X 3 dX3_register_152 rfl ?_
          refine k_if_ne_t (tgt := 161) X dX3_register_154 (by decide) (by decide) ?_
          refine k_iload X 1 dX3_register_161 rfl ?_
          refine k_if_ne_f (tgt := 171) X dX3_register_163 (by decide) rfl ?_
          refine k_iload X 0 dX3_register_166 rfl ?_
          refine k_if_eq_f (tgt := 175) X dX3_register_168 (by decide) (by decide) ?_
          refine k_iconst X 2 dX3_register_171 (by decide) ?_
          refine k_goto (tgt := 176) X dX3_register_172 (by decide) ?_
          refine k_callV (a := 16) (o := 0) (As := [.int 2]) (S := []) X lk_X3_82 rfl (by decide) rfl (C_X3_holds _) rfl rfl (Nat.le_of_ble_eq_true rfl) ⟨Nat.le_of_ble_eq_true rfl, Nat.le_of_ble_eq_true rfl⟩ ⟨Nat.le_of_ble_eq_true rfl, Nat.le_of_ble_eq_true rfl⟩ dX3_register_176 ?_
          show KF E C 0 0 (st μ 16 0 0 2) 179 _ [.int (bp (2 = 0))]
          refine k_val (y := 0) (bp_f (by decide)) ?_
          refine k_if_ne_f (tgt := 184) X dX3_register_179 (by decide) rfl ?_
          refine k_iconst X 0 dX3_register_182 (by decide) ?_
          exact k_iret dX3_register_183 hE rfl rfl
      · refine k_iconst X 1 dX3_register_133 (by decide) ?_
        refine k_goto (tgt := 138) X dX3_register_134 (by decide) ?_
        refine k_isub X dX3_register_138 ?_
        refine k_val (y := nI (mtN μ u) - bp (mtB μ u t = true)) (by rw [bp_t c130]) ?_
        refine k_bipush X 6 dX3_register_139 (by decide) ?_
        refine k_icmp_lt (tgt := 148) X dX3_register_141 (by decide) (fun c141 => ?_) (fun c141 => ?_)
        · refine k_iconst X 0 dX3_register_148 (by decide) ?_
          refine k_istore (L' := [(9, .int 0), (8, .int 0), (7, .int (nI ((16 * u) + t))), (6, .int 1), (0, .ref (ad E 16 0)), (1, .int (nI u)), (2, .int (nI t)), (3, .int q), (4, .int tk), (5, .int sq)]) X dX3_register_149 (by decide) rfl ?_
          refine k_aload_n X 4 dX3_register_151 rfl rfl ?_
          refine k_iload X 3 dX3_register_152 rfl ?_
          refine k_if_ne_t (tgt := 161) X dX3_register_154 (by decide) (by decide) ?_
          refine k_iload X 1 dX3_register_161 rfl ?_
          refine k_if_ne_f (tgt := 171) X dX3_register_163 (by decide) rfl ?_
          refine k_iload X 0 dX3_register_166 rfl ?_
          refine k_if_eq_t (tgt := 175) X dX3_register_168 (by decide) rfl ?_
          exact absurd hbad (fun h => h.elim (fun h => h.1 c87) (fun h => h.2 c141))
        · refine k_iconst X 1 dX3_register_144 (by decide) ?_
          refine k_goto (tgt := 149) X dX3_register_145 (by decide) ?_
          refine k_istore (L' := [(9, .int 1), (8, .int 0), (7, .int (nI ((16 * u) + t))), (6, .int 1), (0, .ref (ad E 16 0)), (1, .int (nI u)), (2, .int (nI t)), (3, .int q), (4, .int tk), (5, .int sq)]) X dX3_register_149 (by decide) rfl ?_
          refine k_aload_n X 4 dX3_register_151 rfl rfl ?_
          refine k_iload X 3 dX3_register_152 rfl ?_
          refine k_if_ne_t (tgt := 161) X dX3_register_154 (by decide) (by decide) ?_
          refine k_iload X 1 dX3_register_161 rfl ?_
          refine k_if_ne_f (tgt := 171) X dX3_register_163 (by decide) rfl ?_
          refine k_iload X 0 dX3_register_166 rfl ?_
          refine k_if_eq_f (tgt := 175) X dX3_register_168 (by decide) (by decide) ?_
          refine k_iconst X 2 dX3_register_171 (by decide) ?_
          refine k_goto (tgt := 176) X dX3_register_172 (by decide) ?_
          refine k_callV (a := 16) (o := 0) (As := [.int 2]) (S := []) X lk_X3_82 rfl (by decide) rfl (C_X3_holds _) rfl rfl (Nat.le_of_ble_eq_true rfl) ⟨Nat.le_of_ble_eq_true rfl, Nat.le_of_ble_eq_true rfl⟩ ⟨Nat.le_of_ble_eq_true rfl, Nat.le_of_ble_eq_true rfl⟩ dX3_register_176 ?_
          show KF E C 0 0 (st μ 16 0 0 2) 179 _ [.int (bp (2 = 0))]
          refine k_val (y := 0) (bp_f (by decide)) ?_
          refine k_if_ne_f (tgt := 184) X dX3_register_179 (by decide) rfl ?_
          refine k_iconst X 0 dX3_register_182 (by decide) ?_
          exact k_iret dX3_register_183 hE rfl rfl
  · refine k_iload X 7 dX3_register_90 rfl ?_
    refine k_aload_n X 2 dX3_register_92 rfl rfl ?_
    refine gt_X3_20 X dX3_register_93 ?_
    refine k_iload X 0 dX3_register_96 rfl ?_
    refine k_iald (a := 20) (j := ((16 * u) + t)) X rfl (by decide) rfl (show ((16 * u) + t) < 96 by omega) (by decide) dX3_register_98 ?_
    refine k_icmp_gt (tgt := 106) X dX3_register_99 (by decide) (fun c99 => ?_) (fun c99 => ?_)
    · refine k_iconst X 0 dX3_register_106 (by decide) ?_
      refine k_istore (L' := [(8, .int 0), (7, .int (nI ((16 * u) + t))), (6, .int 1), (0, .ref (ad E 16 0)), (1, .int (nI u)), (2, .int (nI t)), (3, .int q), (4, .int tk), (5, .int sq)]) X dX3_register_107 (by decide) rfl ?_
      refine k_iload X 2 dX3_register_109 rfl ?_
      refine k_if_eq_f (tgt := 148) X dX3_register_111 (by decide) (by decide) ?_
      refine k_iload X 7 dX3_register_114 rfl ?_
      refine k_if_le (tgt := 148) X dX3_register_116 (by decide) (fun c116 => ?_) (fun c116 => ?_)
      · refine k_iconst X 0 dX3_register_148 (by decide) ?_
        refine k_istore (L' := [(9, .int 0), (8, .int 0), (7, .int (nI ((16 * u) + t))), (6, .int 1), (0, .ref (ad E 16 0)), (1, .int (nI u)), (2, .int (nI t)), (3, .int q), (4, .int tk), (5, .int sq)]) X dX3_register_149 (by decide) rfl ?_
        refine k_aload_n X 4 dX3_register_151 rfl rfl ?_
        refine k_iload X 3 dX3_register_152 rfl ?_
        refine k_if_ne_t (tgt := 161) X dX3_register_154 (by decide) (by decide) ?_
        refine k_iload X 1 dX3_register_161 rfl ?_
        refine k_if_ne_f (tgt := 171) X dX3_register_163 (by decide) rfl ?_
        refine k_iload X 0 dX3_register_166 rfl ?_
        refine k_if_eq_t (tgt := 175) X dX3_register_168 (by decide) rfl ?_
        exact absurd hbad (fun h => h.elim (fun h => h.2 c99) (fun h => h.1 c116))
      · refine k_aload_n X 3 dX3_register_119 rfl rfl ?_
        refine k_iload_n X 4 dX3_register_120 rfl rfl ?_
        refine k_callV (a := 16) (o := 0) (As := [.int (nI u)]) (S := []) X lk_X3_78 rfl (by decide) rfl (C_X3_there u hu) rfl rfl (Nat.le_of_ble_eq_true rfl) ⟨Nat.le_of_ble_eq_true rfl, Nat.le_of_ble_eq_true rfl⟩ ⟨Nat.le_of_ble_eq_true rfl, Nat.le_of_ble_eq_true rfl⟩ dX3_register_121 ?_
        show KF E C 0 0 μ 124 _ [.int (nI (mtN (μ) u))]
        refine k_aload_n X 3 dX3_register_124 rfl rfl ?_
        refine k_iload_n X 4 dX3_register_125 rfl rfl ?_
        refine k_iload_n X 5 dX3_register_126 rfl rfl ?_
        refine k_callV (a := 16) (o := 0) (As := [.int (nI u), .int (nI t)]) (S := [.int (nI (mtN (μ) u))]) X lk_X3_70 rfl (by decide) rfl (C_X3_isThere u t hu ht) rfl rfl (Nat.le_of_ble_eq_true rfl) ⟨Nat.le_of_ble_eq_true rfl, Nat.le_of_ble_eq_true rfl⟩ ⟨Nat.le_of_ble_eq_true rfl, Nat.le_of_ble_eq_true rfl⟩ dX3_register_127 ?_
        show KF E C 0 0 μ 130 _ [.int (bp (mtB μ u t = true)), .int (nI (mtN (μ) u))]
        refine k_if_eq_p (tgt := 137) X dX3_register_130 (by decide) (fun c130 => ?_) (fun c130 => ?_)
        · refine k_iconst X 0 dX3_register_137 (by decide) ?_
          refine k_isub X dX3_register_138 ?_
          refine k_val (y := nI (mtN μ u) - bp (mtB μ u t = true)) (by rw [bp_f c130]) ?_
          refine k_bipush X 6 dX3_register_139 (by decide) ?_
          refine k_icmp_lt (tgt := 148) X dX3_register_141 (by decide) (fun c141 => ?_) (fun c141 => ?_)
          · refine k_iconst X 0 dX3_register_148 (by decide) ?_
            refine k_istore (L' := [(9, .int 0), (8, .int 0), (7, .int (nI ((16 * u) + t))), (6, .int 1), (0, .ref (ad E 16 0)), (1, .int (nI u)), (2, .int (nI t)), (3, .int q), (4, .int tk), (5, .int sq)]) X dX3_register_149 (by decide) rfl ?_
            refine k_aload_n X 4 dX3_register_151 rfl rfl ?_
            refine k_iload X 3 dX3_register_152 rfl ?_
            refine k_if_ne_t (tgt := 161) X dX3_register_154 (by decide) (by decide) ?_
            refine k_iload X 1 dX3_register_161 rfl ?_
            refine k_if_ne_f (tgt := 171) X dX3_register_163 (by decide) rfl ?_
            refine k_iload X 0 dX3_register_166 rfl ?_
            refine k_if_eq_t (tgt := 175) X dX3_register_168 (by decide) rfl ?_
            exact absurd hbad (fun h => h.elim (fun h => h.2 c99) (fun h => h.2 c141))
          · refine k_iconst X 1 dX3_register_144 (by decide) ?_
            refine k_goto (tgt := 149) X dX3_register_145 (by decide) ?_
            refine k_istore (L' := [(9, .int 1), (8, .int 0), (7, .int (nI ((16 * u) + t))), (6, .int 1), (0, .ref (ad E 16 0)), (1, .int (nI u)), (2, .int (nI t)), (3, .int q), (4, .int tk), (5, .int sq)]) X dX3_register_149 (by decide) rfl ?_
            refine k_aload_n X 4 dX3_register_151 rfl rfl ?_
            refine k_iload X 3 dX3_register_152 rfl ?_
            refine k_if_ne_t (tgt := 161) X dX3_register_154 (by decide) (by decide) ?_
            refine k_iload X 1 dX3_register_161 rfl ?_
            refine k_if_ne_f (tgt := 171) X dX3_register_163 (by decide) rfl ?_
            refine k_iload X 0 dX3_register_166 rfl ?_
            refine k_if_eq_f (tgt := 175) X dX3_register_168 (by decide) (by decide) ?_
            refine k_iconst X 2 dX3_register_171 (by decide) ?_
            refine k_goto (tgt := 176) X dX3_register_172 (by decide) ?_
            refine k_callV (a := 16) (o := 0) (As := [.int 2]) (S := []) X lk_X3_82 rfl (by decide) rfl (C_X3_holds _) rfl rfl (Nat.le_of_ble_eq_true rfl) ⟨Nat.le_of_ble_eq_true rfl, Nat.le_of_ble_eq_true rfl⟩ ⟨Nat.le_of_ble_eq_true rfl, Nat.le_of_ble_eq_true rfl⟩ dX3_register_176 ?_
            show KF E C 0 0 (st μ 16 0 0 2) 179 _ [.int (bp (2 = 0))]
            refine k_val (y := 0) (bp_f (by decide)) ?_
            refine k_if_ne_f (tgt := 184) X dX3_register_179 (by decide) rfl ?_
            refine k_iconst X 0 dX3_register_182 (by decide) ?_
            exact k_iret dX3_register_183 hE rfl rfl
        · refine k_iconst X 1 dX3_register_133 (by decide) ?_
          refine k_goto (tgt := 138) X dX3_register_134 (by decide) ?_
          refine k_isub X dX3_register_138 ?_
          refine k_val (y := nI (mtN μ u) - bp (mtB μ u t = true)) (by rw [bp_t c130]) ?_
          refine k_bipush X 6 dX3_register_139 (by decide) ?_
          refine k_icmp_lt (tgt := 148) X dX3_register_141 (by decide) (fun c141 => ?_) (fun c141 => ?_)
          · refine k_iconst X 0 dX3_register_148 (by decide) ?_
            refine k_istore (L' := [(9, .int 0), (8, .int 0), (7, .int (nI ((16 * u) + t))), (6, .int 1), (0, .ref (ad E 16 0)), (1, .int (nI u)), (2, .int (nI t)), (3, .int q), (4, .int tk), (5, .int sq)]) X dX3_register_149 (by decide) rfl ?_
            refine k_aload_n X 4 dX3_register_151 rfl rfl ?_
            refine k_iload X 3 dX3_register_152 rfl ?_
            refine k_if_ne_t (tgt := 161) X dX3_register_154 (by decide) (by decide) ?_
            refine k_iload X 1 dX3_register_161 rfl ?_
            refine k_if_ne_f (tgt := 171) X dX3_register_163 (by decide) rfl ?_
            refine k_iload X 0 dX3_register_166 rfl ?_
            refine k_if_eq_t (tgt := 175) X dX3_register_168 (by decide) rfl ?_
            exact absurd hbad (fun h => h.elim (fun h => h.2 c99) (fun h => h.2 c141))
          · refine k_iconst X 1 dX3_register_144 (by decide) ?_
            refine k_goto (tgt := 149) X dX3_register_145 (by decide) ?_
            refine k_istore (L' := [(9, .int 1), (8, .int 0), (7, .int (nI ((16 * u) + t))), (6, .int 1), (0, .ref (ad E 16 0)), (1, .int (nI u)), (2, .int (nI t)), (3, .int q), (4, .int tk), (5, .int sq)]) X dX3_register_149 (by decide) rfl ?_
            refine k_aload_n X 4 dX3_register_151 rfl rfl ?_
            refine k_iload X 3 dX3_register_152 rfl ?_
            refine k_if_ne_t (tgt := 161) X dX3_register_154 (by decide) (by decide) ?_
            refine k_iload X 1 dX3_register_161 rfl ?_
            refine k_if_ne_f (tgt := 171) X dX3_register_163 (by decide) rfl ?_
            refine k_iload X 0 dX3_register_166 rfl ?_
            refine k_if_eq_f (tgt := 175) X dX3_register_168 (by decide) (by decide) ?_
            refine k_iconst X 2 dX3_register_171 (by decide) ?_
            refine k_goto (tgt := 176) X dX3_register_172 (by decide) ?_
            refine k_callV (a := 16) (o := 0) (As := [.int 2]) (S := []) X lk_X3_82 rfl (by decide) rfl (C_X3_holds _) rfl rfl (Nat.le_of_ble_eq_true rfl) ⟨Nat.le_of_ble_eq_true rfl, Nat.le_of_ble_eq_true rfl⟩ ⟨Nat.le_of_ble_eq_true rfl, Nat.le_of_ble_eq_true rfl⟩ dX3_register_176 ?_
            show KF E C 0 0 (st μ 16 0 0 2) 179 _ [.int (bp (2 = 0))]
            refine k_val (y := 0) (bp_f (by decide)) ?_
            refine k_if_ne_f (tgt := 184) X dX3_register_179 (by decide) rfl ?_
            refine k_iconst X 0 dX3_register_182 (by decide) ?_
            exact k_iret dX3_register_183 hE rfl rfl
    · refine k_iconst X 1 dX3_register_102 (by decide) ?_
      refine k_goto (tgt := 107) X dX3_register_103 (by decide) ?_
      refine k_istore (L' := [(8, .int 1), (7, .int (nI ((16 * u) + t))), (6, .int 1), (0, .ref (ad E 16 0)), (1, .int (nI u)), (2, .int (nI t)), (3, .int q), (4, .int tk), (5, .int sq)]) X dX3_register_107 (by decide) rfl ?_
      refine k_iload X 2 dX3_register_109 rfl ?_
      refine k_if_eq_f (tgt := 148) X dX3_register_111 (by decide) (by decide) ?_
      refine k_iload X 7 dX3_register_114 rfl ?_
      refine k_if_le (tgt := 148) X dX3_register_116 (by decide) (fun c116 => ?_) (fun c116 => ?_)
      · refine k_iconst X 0 dX3_register_148 (by decide) ?_
        refine k_istore (L' := [(9, .int 0), (8, .int 1), (7, .int (nI ((16 * u) + t))), (6, .int 1), (0, .ref (ad E 16 0)), (1, .int (nI u)), (2, .int (nI t)), (3, .int q), (4, .int tk), (5, .int sq)]) X dX3_register_149 (by decide) rfl ?_
        refine k_aload_n X 4 dX3_register_151 rfl rfl ?_
        refine k_iload X 3 dX3_register_152 rfl ?_
        refine k_if_ne_t (tgt := 161) X dX3_register_154 (by decide) (by decide) ?_
        refine k_iload X 1 dX3_register_161 rfl ?_
        refine k_if_ne_t (tgt := 171) X dX3_register_163 (by decide) (by decide) ?_
        refine k_iconst X 2 dX3_register_171 (by decide) ?_
        refine k_goto (tgt := 176) X dX3_register_172 (by decide) ?_
        refine k_callV (a := 16) (o := 0) (As := [.int 2]) (S := []) X lk_X3_82 rfl (by decide) rfl (C_X3_holds _) rfl rfl (Nat.le_of_ble_eq_true rfl) ⟨Nat.le_of_ble_eq_true rfl, Nat.le_of_ble_eq_true rfl⟩ ⟨Nat.le_of_ble_eq_true rfl, Nat.le_of_ble_eq_true rfl⟩ dX3_register_176 ?_
        show KF E C 0 0 (st μ 16 0 0 2) 179 _ [.int (bp (2 = 0))]
        refine k_val (y := 0) (bp_f (by decide)) ?_
        refine k_if_ne_f (tgt := 184) X dX3_register_179 (by decide) rfl ?_
        refine k_iconst X 0 dX3_register_182 (by decide) ?_
        exact k_iret dX3_register_183 hE rfl rfl
      · refine k_aload_n X 3 dX3_register_119 rfl rfl ?_
        refine k_iload_n X 4 dX3_register_120 rfl rfl ?_
        refine k_callV (a := 16) (o := 0) (As := [.int (nI u)]) (S := []) X lk_X3_78 rfl (by decide) rfl (C_X3_there u hu) rfl rfl (Nat.le_of_ble_eq_true rfl) ⟨Nat.le_of_ble_eq_true rfl, Nat.le_of_ble_eq_true rfl⟩ ⟨Nat.le_of_ble_eq_true rfl, Nat.le_of_ble_eq_true rfl⟩ dX3_register_121 ?_
        show KF E C 0 0 μ 124 _ [.int (nI (mtN (μ) u))]
        refine k_aload_n X 3 dX3_register_124 rfl rfl ?_
        refine k_iload_n X 4 dX3_register_125 rfl rfl ?_
        refine k_iload_n X 5 dX3_register_126 rfl rfl ?_
        refine k_callV (a := 16) (o := 0) (As := [.int (nI u), .int (nI t)]) (S := [.int (nI (mtN (μ) u))]) X lk_X3_70 rfl (by decide) rfl (C_X3_isThere u t hu ht) rfl rfl (Nat.le_of_ble_eq_true rfl) ⟨Nat.le_of_ble_eq_true rfl, Nat.le_of_ble_eq_true rfl⟩ ⟨Nat.le_of_ble_eq_true rfl, Nat.le_of_ble_eq_true rfl⟩ dX3_register_127 ?_
        show KF E C 0 0 μ 130 _ [.int (bp (mtB μ u t = true)), .int (nI (mtN (μ) u))]
        refine k_if_eq_p (tgt := 137) X dX3_register_130 (by decide) (fun c130 => ?_) (fun c130 => ?_)
        · refine k_iconst X 0 dX3_register_137 (by decide) ?_
          refine k_isub X dX3_register_138 ?_
          refine k_val (y := nI (mtN μ u) - bp (mtB μ u t = true)) (by rw [bp_f c130]) ?_
          refine k_bipush X 6 dX3_register_139 (by decide) ?_
          refine k_icmp_lt (tgt := 148) X dX3_register_141 (by decide) (fun c141 => ?_) (fun c141 => ?_)
          · refine k_iconst X 0 dX3_register_148 (by decide) ?_
            refine k_istore (L' := [(9, .int 0), (8, .int 1), (7, .int (nI ((16 * u) + t))), (6, .int 1), (0, .ref (ad E 16 0)), (1, .int (nI u)), (2, .int (nI t)), (3, .int q), (4, .int tk), (5, .int sq)]) X dX3_register_149 (by decide) rfl ?_
            refine k_aload_n X 4 dX3_register_151 rfl rfl ?_
            refine k_iload X 3 dX3_register_152 rfl ?_
            refine k_if_ne_t (tgt := 161) X dX3_register_154 (by decide) (by decide) ?_
            refine k_iload X 1 dX3_register_161 rfl ?_
            refine k_if_ne_t (tgt := 171) X dX3_register_163 (by decide) (by decide) ?_
            refine k_iconst X 2 dX3_register_171 (by decide) ?_
            refine k_goto (tgt := 176) X dX3_register_172 (by decide) ?_
            refine k_callV (a := 16) (o := 0) (As := [.int 2]) (S := []) X lk_X3_82 rfl (by decide) rfl (C_X3_holds _) rfl rfl (Nat.le_of_ble_eq_true rfl) ⟨Nat.le_of_ble_eq_true rfl, Nat.le_of_ble_eq_true rfl⟩ ⟨Nat.le_of_ble_eq_true rfl, Nat.le_of_ble_eq_true rfl⟩ dX3_register_176 ?_
            show KF E C 0 0 (st μ 16 0 0 2) 179 _ [.int (bp (2 = 0))]
            refine k_val (y := 0) (bp_f (by decide)) ?_
            refine k_if_ne_f (tgt := 184) X dX3_register_179 (by decide) rfl ?_
            refine k_iconst X 0 dX3_register_182 (by decide) ?_
            exact k_iret dX3_register_183 hE rfl rfl
          · refine k_iconst X 1 dX3_register_144 (by decide) ?_
            refine k_goto (tgt := 149) X dX3_register_145 (by decide) ?_
            refine k_istore (L' := [(9, .int 1), (8, .int 1), (7, .int (nI ((16 * u) + t))), (6, .int 1), (0, .ref (ad E 16 0)), (1, .int (nI u)), (2, .int (nI t)), (3, .int q), (4, .int tk), (5, .int sq)]) X dX3_register_149 (by decide) rfl ?_
            refine k_aload_n X 4 dX3_register_151 rfl rfl ?_
            refine k_iload X 3 dX3_register_152 rfl ?_
            refine k_if_ne_t (tgt := 161) X dX3_register_154 (by decide) (by decide) ?_
            refine k_iload X 1 dX3_register_161 rfl ?_
            refine k_if_ne_t (tgt := 171) X dX3_register_163 (by decide) (by decide) ?_
            refine k_iconst X 2 dX3_register_171 (by decide) ?_
            refine k_goto (tgt := 176) X dX3_register_172 (by decide) ?_
            refine k_callV (a := 16) (o := 0) (As := [.int 2]) (S := []) X lk_X3_82 rfl (by decide) rfl (C_X3_holds _) rfl rfl (Nat.le_of_ble_eq_true rfl) ⟨Nat.le_of_ble_eq_true rfl, Nat.le_of_ble_eq_true rfl⟩ ⟨Nat.le_of_ble_eq_true rfl, Nat.le_of_ble_eq_true rfl⟩ dX3_register_176 ?_
            show KF E C 0 0 (st μ 16 0 0 2) 179 _ [.int (bp (2 = 0))]
            refine k_val (y := 0) (bp_f (by decide)) ?_
            refine k_if_ne_f (tgt := 184) X dX3_register_179 (by decide) rfl ?_
            refine k_iconst X 0 dX3_register_182 (by decide) ?_
            exact k_iret dX3_register_183 hE rfl rfl
        · refine k_iconst X 1 dX3_register_133 (by decide) ?_
          refine k_goto (tgt := 138) X dX3_register_134 (by decide) ?_
          refine k_isub X dX3_register_138 ?_
          refine k_val (y := nI (mtN μ u) - bp (mtB μ u t = true)) (by rw [bp_t c130]) ?_
          refine k_bipush X 6 dX3_register_139 (by decide) ?_
          refine k_icmp_lt (tgt := 148) X dX3_register_141 (by decide) (fun c141 => ?_) (fun c141 => ?_)
          · refine k_iconst X 0 dX3_register_148 (by decide) ?_
            refine k_istore (L' := [(9, .int 0), (8, .int 1), (7, .int (nI ((16 * u) + t))), (6, .int 1), (0, .ref (ad E 16 0)), (1, .int (nI u)), (2, .int (nI t)), (3, .int q), (4, .int tk), (5, .int sq)]) X dX3_register_149 (by decide) rfl ?_
            refine k_aload_n X 4 dX3_register_151 rfl rfl ?_
            refine k_iload X 3 dX3_register_152 rfl ?_
            refine k_if_ne_t (tgt := 161) X dX3_register_154 (by decide) (by decide) ?_
            refine k_iload X 1 dX3_register_161 rfl ?_
            refine k_if_ne_t (tgt := 171) X dX3_register_163 (by decide) (by decide) ?_
            refine k_iconst X 2 dX3_register_171 (by decide) ?_
            refine k_goto (tgt := 176) X dX3_register_172 (by decide) ?_
            refine k_callV (a := 16) (o := 0) (As := [.int 2]) (S := []) X lk_X3_82 rfl (by decide) rfl (C_X3_holds _) rfl rfl (Nat.le_of_ble_eq_true rfl) ⟨Nat.le_of_ble_eq_true rfl, Nat.le_of_ble_eq_true rfl⟩ ⟨Nat.le_of_ble_eq_true rfl, Nat.le_of_ble_eq_true rfl⟩ dX3_register_176 ?_
            show KF E C 0 0 (st μ 16 0 0 2) 179 _ [.int (bp (2 = 0))]
            refine k_val (y := 0) (bp_f (by decide)) ?_
            refine k_if_ne_f (tgt := 184) X dX3_register_179 (by decide) rfl ?_
            refine k_iconst X 0 dX3_register_182 (by decide) ?_
            exact k_iret dX3_register_183 hE rfl rfl
          · refine k_iconst X 1 dX3_register_144 (by decide) ?_
            refine k_goto (tgt := 149) X dX3_register_145 (by decide) ?_
            refine k_istore (L' := [(9, .int 1), (8, .int 1), (7, .int (nI ((16 * u) + t))), (6, .int 1), (0, .ref (ad E 16 0)), (1, .int (nI u)), (2, .int (nI t)), (3, .int q), (4, .int tk), (5, .int sq)]) X dX3_register_149 (by decide) rfl ?_
            refine k_aload_n X 4 dX3_register_151 rfl rfl ?_
            refine k_iload X 3 dX3_register_152 rfl ?_
            refine k_if_ne_t (tgt := 161) X dX3_register_154 (by decide) (by decide) ?_
            refine k_iload X 1 dX3_register_161 rfl ?_
            refine k_if_ne_t (tgt := 171) X dX3_register_163 (by decide) (by decide) ?_
            refine k_iconst X 2 dX3_register_171 (by decide) ?_
            refine k_goto (tgt := 176) X dX3_register_172 (by decide) ?_
            refine k_callV (a := 16) (o := 0) (As := [.int 2]) (S := []) X lk_X3_82 rfl (by decide) rfl (C_X3_holds _) rfl rfl (Nat.le_of_ble_eq_true rfl) ⟨Nat.le_of_ble_eq_true rfl, Nat.le_of_ble_eq_true rfl⟩ ⟨Nat.le_of_ble_eq_true rfl, Nat.le_of_ble_eq_true rfl⟩ dX3_register_176 ?_
            show KF E C 0 0 (st μ 16 0 0 2) 179 _ [.int (bp (2 = 0))]
            refine k_val (y := 0) (bp_f (by decide)) ?_
            refine k_if_ne_f (tgt := 184) X dX3_register_179 (by decide) rfl ?_
            refine k_iconst X 0 dX3_register_182 (by decide) ?_
            exact k_iret dX3_register_183 hE rfl rfl

set_option maxHeartbeats 4000000 in
set_option maxRecDepth 100000 in
theorem L_X3_binding {E : EE} {μ : Mem} {C : Ctx} (u m : Nat) (y : Int32) (hu : u < 6) (hm : μ 22 0 u = nI m) (hm16 : m ≤ 16) (hv : ∀ p, p < m → vN (μ 21 0 (16 * u + p)) 15) (X : Cx E C cX3_binding RX3 9 (rm 3 0)) (hE : EndI E C cX3_binding 0 0 (mbV μ u m y) μ) : ∀ (f : Nat) (i : Nat), m - i < f → i ≤ m → (∀ j, j < i → mtaP μ u y j = false) → KF E C 0 0 μ 64 [(6, .int (nI i)), (5, .int (nI (ctB (fun j => mtB μ u (tN (μ 21 0 (16 * u + j)))) i))), (0, .ref (ad E 16 0)), (1, .int (nI u)), (2, .int y)] [] := by
  intro f
  induction f with
  | zero => intros; omega
  | succ f ih =>
    intro i hf hi hno
    refine k_iload X 0 dX3_binding_64 rfl ?_
    refine k_aload_n X 2 dX3_binding_66 rfl rfl ?_
    refine gt_X3_26 X dX3_binding_67 ?_
    refine k_iload_n X 3 dX3_binding_70 rfl rfl ?_
    refine k_iald (a := 22) (j := u) X rfl (by decide) rfl (show u < 6 by omega) (by decide) dX3_binding_71 ?_
    refine k_val (y := nI m) hm ?_
    refine k_ge_n (a := i) (b := m) (tgt := 149) X dX3_binding_72 (by decide) rfl rfl (by omega) (by omega) (fun c72 => ?_) (fun c72 => ?_)
    · refine k_iconst X 0 dX3_binding_149 (by decide) ?_
      exact k_iret dX3_binding_150 hE (mbV_no (fun j hj => hno j (by omega))).symm rfl
    · have hvi := hv i c72
      have h15 := hvi.2
      refine k_aload_n X 2 dX3_binding_75 rfl rfl ?_
      refine gt_X3_23 X dX3_binding_76 ?_
      refine k_bipush X 16 dX3_binding_79 (by decide) ?_
      refine k_iload_n X 3 dX3_binding_81 rfl rfl ?_
      refine k_imul X dX3_binding_82 ?_
      refine k_val (y := nI (16 * u)) (pk_mul _ _) ?_
      refine k_iload X 0 dX3_binding_83 rfl ?_
      refine k_iadd X dX3_binding_85 ?_
      refine k_val (y := nI ((16 * u) + i)) (nI_add _ _) ?_
      refine k_iald (a := 21) (j := ((16 * u) + i)) X rfl (by decide) rfl (show ((16 * u) + i) < 96 by omega) (by decide) dX3_binding_86 ?_
      refine k_val (y := nI (tN (μ 21 0 (16 * u + i)))) hvi.1 ?_
      refine k_istore (L' := [(7, .int (nI (tN (μ 21 0 (16 * u + i))))), (6, .int (nI i)), (5, .int (nI (ctB (fun j => mtB μ u (tN (μ 21 0 (16 * u + j)))) i))), (0, .ref (ad E 16 0)), (1, .int (nI u)), (2, .int y)]) X dX3_binding_87 (by decide) rfl ?_
      refine k_aload_n X 3 dX3_binding_89 rfl rfl ?_
      refine k_iload_n X 4 dX3_binding_90 rfl rfl ?_
      refine k_iload X 0 dX3_binding_91 rfl ?_
      refine k_callV (a := 16) (o := 0) (As := [.int (nI u), .int (nI (tN (μ 21 0 (16 * u + i))))]) (S := []) X lk_X3_70 rfl (by decide) rfl (C_X3_isThere u (tN (μ 21 0 (16 * u + i))) hu (Nat.lt_succ_of_le h15)) rfl rfl (Nat.le_of_ble_eq_true rfl) ⟨Nat.le_of_ble_eq_true rfl, Nat.le_of_ble_eq_true rfl⟩ ⟨Nat.le_of_ble_eq_true rfl, Nat.le_of_ble_eq_true rfl⟩ dX3_binding_93 ?_
      show KF E C 0 0 μ 96 _ [.int (bp (mtB μ u (tN (μ 21 0 (16 * u + i))) = true))]
      refine k_istore (L' := [(8, .int (bp (mtB μ u (tN (μ 21 0 (16 * u + i))) = true))), (7, .int (nI (tN (μ 21 0 (16 * u + i))))), (6, .int (nI i)), (5, .int (nI (ctB (fun j => mtB μ u (tN (μ 21 0 (16 * u + j)))) i))), (0, .ref (ad E 16 0)), (1, .int (nI u)), (2, .int y)]) X dX3_binding_96 (by decide) rfl ?_
      refine k_iload X 0 dX3_binding_98 rfl ?_
      refine k_if_eq_p (tgt := 128) X dX3_binding_100 (by decide) (fun c100 => ?_) (fun c100 => ?_)
      · refine k_iload X 3 dX3_binding_128 rfl ?_
        refine k_iload X 0 dX3_binding_130 rfl ?_
        refine k_if_eq_t (tgt := 139) X dX3_binding_132 (by decide) (bp_f c100) ?_
        refine k_iconst X 0 dX3_binding_139 (by decide) ?_
        refine k_iadd X dX3_binding_140 ?_
        refine k_val (y := nI (ctB (fun j => mtB μ u (tN (μ 21 0 (16 * u + j)))) (i + 1))) (by rw [ctB_f (p := (fun j => mtB μ u (tN (μ 21 0 (16 * u + j))))) (Bool.eq_false_iff.mpr c100)]; exact Int32.add_zero _) ?_
        refine k_istore (L' := [(5, .int (nI (ctB (fun j => mtB μ u (tN (μ 21 0 (16 * u + j)))) (i + 1)))), (8, .int (bp (mtB μ u (tN (μ 21 0 (16 * u + i))) = true))), (7, .int (nI (tN (μ 21 0 (16 * u + i))))), (6, .int (nI i)), (0, .ref (ad E 16 0)), (1, .int (nI u)), (2, .int y)]) X dX3_binding_141 (by decide) rfl ?_
        refine k_iinc (v := nI (i + 1)) (L' := [(6, .int (nI (i + 1))), (5, .int (nI (ctB (fun j => mtB μ u (tN (μ 21 0 (16 * u + j)))) (i + 1)))), (8, .int (bp (mtB μ u (tN (μ 21 0 (16 * u + i))) = true))), (7, .int (nI (tN (μ 21 0 (16 * u + i))))), (0, .ref (ad E 16 0)), (1, .int (nI u)), (2, .int y)]) X 3 dX3_binding_143 rfl (nI_1 i) (by decide) rfl ?_
        refine k_goto (tgt := 64) X dX3_binding_146 (by decide) ?_
        refine k_pick (L' := [(6, .int (nI (i + 1))), (5, .int (nI (ctB (fun j => mtB μ u (tN (μ 21 0 (16 * u + j)))) (i + 1)))), (0, .ref (ad E 16 0)), (1, .int (nI u)), (2, .int y)]) [0, 1, 4, 5, 6] rfl ?_
        exact ih (i + 1) (by omega) (by omega) (fun j hj => if e : j = i then e ▸ (by unfold mtaP; rw [Bool.eq_false_iff.mpr c100]; rfl) else hno j (by omega))
      · refine k_iload X 3 dX3_binding_103 rfl ?_
        refine k_iload_n X 6 dX3_binding_105 rfl rfl ?_
        refine k_icmp_ne (tgt := 128) X dX3_binding_106 (by decide) (fun c106 => ?_) (fun c106 => ?_)
        · refine k_iload X 3 dX3_binding_128 rfl ?_
          refine k_iload X 0 dX3_binding_130 rfl ?_
          refine k_if_eq_f (tgt := 139) X dX3_binding_132 (by decide) (by rw [bp_t c100]; decide) ?_
          refine k_iconst X 1 dX3_binding_135 (by decide) ?_
          refine k_goto (tgt := 140) X dX3_binding_136 (by decide) ?_
          refine k_iadd X dX3_binding_140 ?_
          refine k_val (y := nI (ctB (fun j => mtB μ u (tN (μ 21 0 (16 * u + j)))) (i + 1))) (by rw [ctB_t (p := (fun j => mtB μ u (tN (μ 21 0 (16 * u + j))))) c100]; exact nI_1 _) ?_
          refine k_istore (L' := [(5, .int (nI (ctB (fun j => mtB μ u (tN (μ 21 0 (16 * u + j)))) (i + 1)))), (8, .int (bp (mtB μ u (tN (μ 21 0 (16 * u + i))) = true))), (7, .int (nI (tN (μ 21 0 (16 * u + i))))), (6, .int (nI i)), (0, .ref (ad E 16 0)), (1, .int (nI u)), (2, .int y)]) X dX3_binding_141 (by decide) rfl ?_
          refine k_iinc (v := nI (i + 1)) (L' := [(6, .int (nI (i + 1))), (5, .int (nI (ctB (fun j => mtB μ u (tN (μ 21 0 (16 * u + j)))) (i + 1)))), (8, .int (bp (mtB μ u (tN (μ 21 0 (16 * u + i))) = true))), (7, .int (nI (tN (μ 21 0 (16 * u + i))))), (0, .ref (ad E 16 0)), (1, .int (nI u)), (2, .int y)]) X 3 dX3_binding_143 rfl (nI_1 i) (by decide) rfl ?_
          refine k_goto (tgt := 64) X dX3_binding_146 (by decide) ?_
          refine k_pick (L' := [(6, .int (nI (i + 1))), (5, .int (nI (ctB (fun j => mtB μ u (tN (μ 21 0 (16 * u + j)))) (i + 1)))), (0, .ref (ad E 16 0)), (1, .int (nI u)), (2, .int y)]) [0, 1, 4, 5, 6] rfl ?_
          exact ih (i + 1) (by omega) (by omega) (fun j hj => if e : j = i then e ▸ (by unfold mtaP; rw [decide_eq_false c106]; simp) else hno j (by omega))
        · refine k_bipush X 100 dX3_binding_109 (by decide) ?_
          refine k_iload X 1 dX3_binding_111 rfl ?_
          refine k_imul X dX3_binding_113 ?_
          refine k_val (y := nI (100 * (tN (μ 21 0 (16 * u + i))))) (pk_mul _ _) ?_
          refine k_aload_n X 4 dX3_binding_114 rfl rfl ?_
          refine gt_X3_17 X dX3_binding_115 ?_
          refine k_bipush X 16 dX3_binding_118 (by decide) ?_
          refine k_iload_n X 5 dX3_binding_120 rfl rfl ?_
          refine k_imul X dX3_binding_121 ?_
          refine k_val (y := nI (16 * u)) (pk_mul _ _) ?_
          refine k_iload X 1 dX3_binding_122 rfl ?_
          refine k_iadd X dX3_binding_124 ?_
          refine k_val (y := nI ((16 * u) + (tN (μ 21 0 (16 * u + i))))) (nI_add _ _) ?_
          refine k_iald (a := 19) (j := ((16 * u) + (tN (μ 21 0 (16 * u + i))))) X rfl (by decide) rfl (show ((16 * u) + (tN (μ 21 0 (16 * u + i)))) < 96 by omega) (by decide) dX3_binding_125 ?_
          refine k_iadd X dX3_binding_126 ?_
          exact k_iret dX3_binding_127 hE (mbV_at (i := i) (by unfold mtaP; rw [c100, decide_eq_true c106]; rfl) hno (by omega)).symm rfl

set_option maxHeartbeats 4000000 in
set_option maxRecDepth 100000 in
theorem C_X3_binding {E : EE} {μ : Mem} (u : Nat) (y : Int32) (hu : u < 6) (hB : MB μ) (hU : okU (nI u)) (h : ¬ (y < 0 ∨ nI (mtN μ u) - 1 < y)) : MM E yX3_binding cX3_binding 9 (some .int) (rm 3 0) [.ref (ad E 16 0), .int (nI u), .int y] μ (some (.int (mbV (st μ 16 0 0 0) u (tN (μ 22 0 u)) y))) (st μ 16 0 0 0) := by
  refine MM.int (own := RX3) [(0, .ref (ad E 16 0)), (1, .int (nI u)), (2, .int y)] rfl rfl rfl (Nat.le_of_ble_eq_true rfl) rfl (fun C X hE => ?_)
  refine k_iload_n X 1 dX3_binding_0 rfl rfl ?_
  refine k_callS (As := [.int (nI u)]) (S := []) X lk_X3_74 (C_X3_isUser _) rfl rfl (Nat.le_of_ble_eq_true rfl) ⟨Nat.le_of_ble_eq_true rfl, Nat.le_of_ble_eq_true rfl⟩ ⟨Nat.le_of_ble_eq_true rfl, Nat.le_of_ble_eq_true rfl⟩ dX3_binding_1 ?_
  show KF E C 0 0 μ 4 _ [.int (bp (¬ ((nI u) < 0 ∨ 5 < (nI u))))]
  refine k_val (y := 1) (bp_t (show ¬ (nI u < 0 ∨ 5 < nI u) from hU)) ?_
  refine k_istore_n (L' := [(3, .int 1), (0, .ref (ad E 16 0)), (1, .int (nI u)), (2, .int y)]) X dX3_binding_4 rfl (by decide) rfl ?_
  refine k_iload_n X 0 dX3_binding_5 rfl rfl ?_
  refine k_if_eq_f (tgt := 28) X dX3_binding_6 (by decide) (by decide) ?_
  refine k_iload_n X 3 dX3_binding_9 rfl rfl ?_
  refine k_iconst X 0 dX3_binding_10 (by decide) ?_
  refine k_aload_n X 1 dX3_binding_11 rfl rfl ?_
  refine k_iload_n X 2 dX3_binding_12 rfl rfl ?_
  refine k_callV (a := 16) (o := 0) (As := [.int (nI u)]) (S := [.int 0, .int y]) X lk_X3_78 rfl (by decide) rfl (C_X3_there u hu) rfl rfl (Nat.le_of_ble_eq_true rfl) ⟨Nat.le_of_ble_eq_true rfl, Nat.le_of_ble_eq_true rfl⟩ ⟨Nat.le_of_ble_eq_true rfl, Nat.le_of_ble_eq_true rfl⟩ dX3_binding_13 ?_
  show KF E C 0 0 μ 16 _ [.int (nI (mtN (μ) u)), .int 0, .int y]
  refine k_iconst X 1 dX3_binding_16 (by decide) ?_
  refine k_isub X dX3_binding_17 ?_
  refine k_callS (As := [.int y, .int 0, .int ((nI (mtN (μ) u)) - 1)]) (S := []) X lk_X3_63 (C_X3_isIn _ _ _) rfl rfl (Nat.le_of_ble_eq_true rfl) ⟨Nat.le_of_ble_eq_true rfl, Nat.le_of_ble_eq_true rfl⟩ ⟨Nat.le_of_ble_eq_true rfl, Nat.le_of_ble_eq_true rfl⟩ dX3_binding_18 ?_
  show KF E C 0 0 μ 21 _ [.int (bp (¬ (y < 0 ∨ ((nI (mtN (μ) u)) - 1) < y)))]
  refine k_val (y := 1) (bp_t h) ?_
  refine k_if_eq_f (tgt := 28) X dX3_binding_21 (by decide) (by decide) ?_
  refine k_iconst X 1 dX3_binding_24 (by decide) ?_
  refine k_goto (tgt := 29) X dX3_binding_25 (by decide) ?_
  refine k_istore (L' := [(4, .int 1), (3, .int 1), (0, .ref (ad E 16 0)), (1, .int (nI u)), (2, .int y)]) X dX3_binding_29 (by decide) rfl ?_
  refine k_aload_n X 2 dX3_binding_31 rfl rfl ?_
  refine k_iload_n X 1 dX3_binding_32 rfl rfl ?_
  refine k_if_ne_t (tgt := 40) X dX3_binding_33 (by decide) (by decide) ?_
  refine k_iload X 0 dX3_binding_40 rfl ?_
  refine k_if_eq_f (tgt := 49) X dX3_binding_42 (by decide) (by decide) ?_
  refine k_iconst X 0 dX3_binding_45 (by decide) ?_
  refine k_goto (tgt := 50) X dX3_binding_46 (by decide) ?_
  refine k_callV (a := 16) (o := 0) (As := [.int 0]) (S := []) X lk_X3_82 rfl (by decide) rfl (C_X3_holds _) rfl rfl (Nat.le_of_ble_eq_true rfl) ⟨Nat.le_of_ble_eq_true rfl, Nat.le_of_ble_eq_true rfl⟩ ⟨Nat.le_of_ble_eq_true rfl, Nat.le_of_ble_eq_true rfl⟩ dX3_binding_50 ?_
  show KF E C 0 0 (st μ 16 0 0 0) 53 _ [.int (bp (0 = 0))]
  refine k_val (y := 1) (bp_t rfl) ?_
  refine k_if_ne_t (tgt := 58) X dX3_binding_53 (by decide) (by decide) ?_
  refine k_iconst X (nI 0) dX3_binding_58 (by decide) ?_
  refine k_istore (L' := [(5, .int (nI 0)), (4, .int 1), (3, .int 1), (0, .ref (ad E 16 0)), (1, .int (nI u)), (2, .int y)]) X dX3_binding_59 (by decide) rfl ?_
  refine k_iconst X (nI 0) dX3_binding_61 (by decide) ?_
  refine k_istore (L' := [(6, .int (nI 0)), (5, .int (nI 0)), (4, .int 1), (3, .int 1), (0, .ref (ad E 16 0)), (1, .int (nI u)), (2, .int y)]) X dX3_binding_62 (by decide) rfl ?_
  refine k_pick (L' := [(6, .int (nI 0)), (5, .int (nI 0)), (0, .ref (ad E 16 0)), (1, .int (nI u)), (2, .int y)]) [0, 1, 4, 5, 6] rfl ?_
  exact L_X3_binding (μ := st μ 16 0 0 0) u (tN (μ 22 0 u)) y hu ((st_k (by decide)).trans (hB u hu).1.1) (hB u hu).1.2 (fun p hp => by rw [st_k (by decide)]; exact (hB u hu).2 p hp) X hE (tN (μ 22 0 u) + 1) 0 (by omega) (Nat.zero_le _) (fun j hj => absurd hj (Nat.not_lt_zero j))

set_option maxHeartbeats 4000000 in
set_option maxRecDepth 100000 in
theorem F1_X3_binding {E : EE} {μ : Mem} (x y : Int32) (h : ¬ okU x) : MM E yX3_binding cX3_binding 9 (some .int) (rm 3 0) [.ref (ad E 16 0), .int x, .int y] μ (some (.int 0)) (st μ 16 0 0 1) := by
  refine MM.int (own := RX3) [(0, .ref (ad E 16 0)), (1, .int x), (2, .int y)] rfl rfl rfl (Nat.le_of_ble_eq_true rfl) rfl (fun C X hE => ?_)
  refine k_iload_n X 1 dX3_binding_0 rfl rfl ?_
  refine k_callS (As := [.int x]) (S := []) X lk_X3_74 (C_X3_isUser _) rfl rfl (Nat.le_of_ble_eq_true rfl) ⟨Nat.le_of_ble_eq_true rfl, Nat.le_of_ble_eq_true rfl⟩ ⟨Nat.le_of_ble_eq_true rfl, Nat.le_of_ble_eq_true rfl⟩ dX3_binding_1 ?_
  show KF E C 0 0 μ 4 _ [.int (bp (¬ (x < 0 ∨ 5 < x)))]
  refine k_val (y := 0) (bp_f (P := ¬ (x < 0 ∨ 5 < x)) h) ?_
  refine k_istore_n (L' := [(3, .int 0), (0, .ref (ad E 16 0)), (1, .int x), (2, .int y)]) X dX3_binding_4 rfl (by decide) rfl ?_
  refine k_iload_n X 0 dX3_binding_5 rfl rfl ?_
  refine k_if_eq_t (tgt := 28) X dX3_binding_6 (by decide) rfl ?_
  refine k_iconst X 0 dX3_binding_28 (by decide) ?_
  refine k_istore (L' := [(4, .int 0), (3, .int 0), (0, .ref (ad E 16 0)), (1, .int x), (2, .int y)]) X dX3_binding_29 (by decide) rfl ?_
  refine k_aload_n X 2 dX3_binding_31 rfl rfl ?_
  refine k_iload_n X 1 dX3_binding_32 rfl rfl ?_
  refine k_if_ne_f (tgt := 40) X dX3_binding_33 (by decide) rfl ?_
  refine k_iconst X 1 dX3_binding_36 (by decide) ?_
  refine k_goto (tgt := 50) X dX3_binding_37 (by decide) ?_
  refine k_callV (a := 16) (o := 0) (As := [.int 1]) (S := []) X lk_X3_82 rfl (by decide) rfl (C_X3_holds _) rfl rfl (Nat.le_of_ble_eq_true rfl) ⟨Nat.le_of_ble_eq_true rfl, Nat.le_of_ble_eq_true rfl⟩ ⟨Nat.le_of_ble_eq_true rfl, Nat.le_of_ble_eq_true rfl⟩ dX3_binding_50 ?_
  show KF E C 0 0 (st μ 16 0 0 1) 53 _ [.int (bp (1 = 0))]
  refine k_val (y := 0) (bp_f (by decide)) ?_
  refine k_if_ne_f (tgt := 58) X dX3_binding_53 (by decide) rfl ?_
  refine k_iconst X 0 dX3_binding_56 (by decide) ?_
  exact k_iret dX3_binding_57 hE rfl rfl

set_option maxHeartbeats 4000000 in
set_option maxRecDepth 100000 in
theorem F2_X3_binding {E : EE} {μ : Mem} (u : Nat) (y : Int32) (hu : u < 6) (hU : okU (nI u)) (h : (y < 0 ∨ nI (mtN μ u) - 1 < y)) : MM E yX3_binding cX3_binding 9 (some .int) (rm 3 0) [.ref (ad E 16 0), .int (nI u), .int y] μ (some (.int 0)) (st μ 16 0 0 2) := by
  refine MM.int (own := RX3) [(0, .ref (ad E 16 0)), (1, .int (nI u)), (2, .int y)] rfl rfl rfl (Nat.le_of_ble_eq_true rfl) rfl (fun C X hE => ?_)
  refine k_iload_n X 1 dX3_binding_0 rfl rfl ?_
  refine k_callS (As := [.int (nI u)]) (S := []) X lk_X3_74 (C_X3_isUser _) rfl rfl (Nat.le_of_ble_eq_true rfl) ⟨Nat.le_of_ble_eq_true rfl, Nat.le_of_ble_eq_true rfl⟩ ⟨Nat.le_of_ble_eq_true rfl, Nat.le_of_ble_eq_true rfl⟩ dX3_binding_1 ?_
  show KF E C 0 0 μ 4 _ [.int (bp (¬ ((nI u) < 0 ∨ 5 < (nI u))))]
  refine k_val (y := 1) (bp_t (show ¬ (nI u < 0 ∨ 5 < nI u) from hU)) ?_
  refine k_istore_n (L' := [(3, .int 1), (0, .ref (ad E 16 0)), (1, .int (nI u)), (2, .int y)]) X dX3_binding_4 rfl (by decide) rfl ?_
  refine k_iload_n X 0 dX3_binding_5 rfl rfl ?_
  refine k_if_eq_f (tgt := 28) X dX3_binding_6 (by decide) (by decide) ?_
  refine k_iload_n X 3 dX3_binding_9 rfl rfl ?_
  refine k_iconst X 0 dX3_binding_10 (by decide) ?_
  refine k_aload_n X 1 dX3_binding_11 rfl rfl ?_
  refine k_iload_n X 2 dX3_binding_12 rfl rfl ?_
  refine k_callV (a := 16) (o := 0) (As := [.int (nI u)]) (S := [.int 0, .int y]) X lk_X3_78 rfl (by decide) rfl (C_X3_there u hu) rfl rfl (Nat.le_of_ble_eq_true rfl) ⟨Nat.le_of_ble_eq_true rfl, Nat.le_of_ble_eq_true rfl⟩ ⟨Nat.le_of_ble_eq_true rfl, Nat.le_of_ble_eq_true rfl⟩ dX3_binding_13 ?_
  show KF E C 0 0 μ 16 _ [.int (nI (mtN (μ) u)), .int 0, .int y]
  refine k_iconst X 1 dX3_binding_16 (by decide) ?_
  refine k_isub X dX3_binding_17 ?_
  refine k_callS (As := [.int y, .int 0, .int ((nI (mtN (μ) u)) - 1)]) (S := []) X lk_X3_63 (C_X3_isIn _ _ _) rfl rfl (Nat.le_of_ble_eq_true rfl) ⟨Nat.le_of_ble_eq_true rfl, Nat.le_of_ble_eq_true rfl⟩ ⟨Nat.le_of_ble_eq_true rfl, Nat.le_of_ble_eq_true rfl⟩ dX3_binding_18 ?_
  show KF E C 0 0 μ 21 _ [.int (bp (¬ (y < 0 ∨ ((nI (mtN (μ) u)) - 1) < y)))]
  refine k_val (y := 0) (bp_f (fun q => q h)) ?_
  refine k_if_eq_t (tgt := 28) X dX3_binding_21 (by decide) rfl ?_
  refine k_iconst X 0 dX3_binding_28 (by decide) ?_
  refine k_istore (L' := [(4, .int 0), (3, .int 1), (0, .ref (ad E 16 0)), (1, .int (nI u)), (2, .int y)]) X dX3_binding_29 (by decide) rfl ?_
  refine k_aload_n X 2 dX3_binding_31 rfl rfl ?_
  refine k_iload_n X 1 dX3_binding_32 rfl rfl ?_
  refine k_if_ne_t (tgt := 40) X dX3_binding_33 (by decide) (by decide) ?_
  refine k_iload X 0 dX3_binding_40 rfl ?_
  refine k_if_eq_t (tgt := 49) X dX3_binding_42 (by decide) rfl ?_
  refine k_iconst X 2 dX3_binding_49 (by decide) ?_
  refine k_callV (a := 16) (o := 0) (As := [.int 2]) (S := []) X lk_X3_82 rfl (by decide) rfl (C_X3_holds _) rfl rfl (Nat.le_of_ble_eq_true rfl) ⟨Nat.le_of_ble_eq_true rfl, Nat.le_of_ble_eq_true rfl⟩ ⟨Nat.le_of_ble_eq_true rfl, Nat.le_of_ble_eq_true rfl⟩ dX3_binding_50 ?_
  show KF E C 0 0 (st μ 16 0 0 2) 53 _ [.int (bp (2 = 0))]
  refine k_val (y := 0) (bp_f (by decide)) ?_
  refine k_if_ne_f (tgt := 58) X dX3_binding_53 (by decide) rfl ?_
  refine k_iconst X 0 dX3_binding_56 (by decide) ?_
  exact k_iret dX3_binding_57 hE rfl rfl

set_option maxHeartbeats 4000000 in
set_option maxRecDepth 100000 in
theorem C_X3_call {E : EE} {μ : Mem} (u K : Nat) (hu : u < 6) (hK : K < 20) (hU : okU (nI u)) (hk : μ 16 0 8 = nI K) (hB : MB μ) (hv1 : vN (mb1 μ K u 25 0 K) 12) (hW : QW (mb1 μ K u) K (tN (mb1 μ K u 25 0 K))) : MM E yX3_call cX3_call 3 (some .int) (rm 6 0) [.ref (ad E 16 0), .int (nI u)] μ (some (.int (nI K))) (mGo (mb1 μ K u) K) := by
  refine MM.int (own := RX3) [(0, .ref (ad E 16 0)), (1, .int (nI u))] rfl rfl rfl (Nat.le_of_ble_eq_true rfl) rfl (fun C X hE => ?_)
  have hB0 : MB (mb0 μ K) := fun a ha => by
    have h9 := hB a ha
    simpa [mb0, st] using h9
  have hv0 : vN (mb0 μ K 25 0 K) 12 := by
    rw [show mb0 μ K 25 0 K = nI 0 by simp [mb0, st]; rfl]
    exact vN_nI (by decide) (by decide)
  refine k_aload_n X 0 dX3_call_0 rfl rfl ?_
  refine k_iload_n X 1 dX3_call_1 rfl rfl ?_
  refine k_callS (As := [.int (nI u)]) (S := [.ref (ad E 16 0)]) X lk_X3_74 (C_X3_isUser _) rfl rfl (Nat.le_of_ble_eq_true rfl) ⟨Nat.le_of_ble_eq_true rfl, Nat.le_of_ble_eq_true rfl⟩ ⟨Nat.le_of_ble_eq_true rfl, Nat.le_of_ble_eq_true rfl⟩ dX3_call_2 ?_
  show KF E C 0 0 μ 5 _ [.int (bp (¬ ((nI u) < 0 ∨ 5 < (nI u)))), .ref (ad E 16 0)]
  refine k_val (y := 1) (bp_t (show ¬ (nI u < 0 ∨ 5 < nI u) from hU)) ?_
  refine k_if_ne_t (tgt := 12) X dX3_call_5 (by decide) (by decide) ?_
  refine k_aload_n X 0 dX3_call_12 rfl rfl ?_
  refine gt_X3_108 X dX3_call_13 ?_
  refine k_bipush X 20 dX3_call_16 (by decide) ?_
  refine k_icmp_ne_t (tgt := 25) X dX3_call_18 (by decide) (fun h => by rw [hk] at h; exact absurd ((nI_eq (by omega) (by decide : 20 < 2 ^ 31)).mp h) (by omega)) ?_
  refine k_iconst X 0 dX3_call_25 (by decide) ?_
  refine k_callV (a := 16) (o := 0) (As := [.int 0]) (S := []) X lk_X3_82 rfl (by decide) rfl (C_X3_holds _) rfl rfl (Nat.le_of_ble_eq_true rfl) ⟨Nat.le_of_ble_eq_true rfl, Nat.le_of_ble_eq_true rfl⟩ ⟨Nat.le_of_ble_eq_true rfl, Nat.le_of_ble_eq_true rfl⟩ dX3_call_26 ?_
  show KF E C 0 0 (st μ 16 0 0 0) 29 _ [.int (bp (0 = 0))]
  refine k_val (y := 1) (bp_t rfl) ?_
  refine k_if_ne_t (tgt := 34) X dX3_call_29 (by decide) (by decide) ?_
  refine k_aload_n X 0 dX3_call_34 rfl rfl ?_
  refine gt_X3_108 X dX3_call_35 ?_
  refine k_val (y := nI K) (by simp only [st]; exact hk) ?_
  refine k_istore_n (L' := [(2, .int (nI K)), (0, .ref (ad E 16 0)), (1, .int (nI u))]) X dX3_call_38 rfl (by decide) rfl ?_
  refine k_aload_n X 1 dX3_call_39 rfl rfl ?_
  refine gt_X3_29 X dX3_call_40 ?_
  refine k_iload_n X 0 dX3_call_43 rfl rfl ?_
  refine k_iconst X (-1) dX3_call_44 (by decide) ?_
  refine k_iast (a := 23) (j := K) X rfl (by decide) rfl (show K < 20 from hK) (by decide) dX3_call_45 ?_
  refine k_aload_n X 1 dX3_call_46 rfl rfl ?_
  refine gt_X3_32 X dX3_call_47 ?_
  refine k_iload_n X 0 dX3_call_50 rfl rfl ?_
  refine k_iconst X (-1) dX3_call_51 (by decide) ?_
  refine k_iast (a := 24) (j := K) X rfl (by decide) rfl (show K < 20 from hK) (by decide) dX3_call_52 ?_
  refine k_aload_n X 1 dX3_call_53 rfl rfl ?_
  refine gt_X3_35 X dX3_call_54 ?_
  refine k_iload_n X 0 dX3_call_57 rfl rfl ?_
  refine k_iconst X 0 dX3_call_58 (by decide) ?_
  refine k_iast (a := 25) (j := K) X rfl (by decide) rfl (show K < 20 from hK) (by decide) dX3_call_59 ?_
  refine k_aload_n X 1 dX3_call_60 rfl rfl ?_
  refine gt_X3_38 X dX3_call_61 ?_
  refine k_iload_n X 0 dX3_call_64 rfl rfl ?_
  refine k_bipush X 11 dX3_call_65 (by decide) ?_
  refine k_iast (a := 26) (j := K) X rfl (by decide) rfl (show K < 20 from hK) (by decide) dX3_call_67 ?_
  refine k_aload_n X 1 dX3_call_68 rfl rfl ?_
  refine k_iload_n X 0 dX3_call_69 rfl rfl ?_
  refine k_iload_n X 2 dX3_call_70 rfl rfl ?_
  refine k_callV (a := 16) (o := 0) (As := [.int (nI K), .int (nI u)]) (S := []) X lk_X3_111 rfl (by decide) rfl (C_v1 K u _ hK hu hB0 hv0 rfl) rfl rfl (Nat.le_of_ble_eq_true rfl) ⟨Nat.le_of_ble_eq_true rfl, Nat.le_of_ble_eq_true rfl⟩ ⟨Nat.le_of_ble_eq_true rfl, Nat.le_of_ble_eq_true rfl⟩ dX3_call_71 ?_
  show KF E C 0 0 (v1M K u (mb0 μ K)) 74 _ []
  have hM := v1L_MC (c := K) (a := u) (μ := mb0 μ K) (tN (mb0 μ K 22 0 u))
  refine k_aload_n X 1 dX3_call_74 rfl rfl ?_
  refine k_dup X dX3_call_75 rfl ?_
  refine gt_X3_108 X dX3_call_76 ?_
  refine k_val (y := nI K) ((hM.1 16 0 8 (by decide) (by decide) (by decide) (by decide) (by decide)).trans (by simp [mb0, st, hk])) ?_
  refine k_iconst X 1 dX3_call_79 (by decide) ?_
  refine k_iadd X dX3_call_80 ?_
  refine k_val (y := nI (K + 1)) (nI_1 K) ?_
  refine pt_X3_108 X dX3_call_81 ?_
  refine k_aload_n X 1 dX3_call_84 rfl rfl ?_
  refine k_iload_n X 0 dX3_call_85 rfl rfl ?_
  refine k_callV (a := 16) (o := 0) (As := [.int (nI K)]) (S := []) X lk_X3_115 rfl (by decide) rfl (C_X3_goesOn K hK hv1 hW) rfl rfl (Nat.le_of_ble_eq_true rfl) ⟨Nat.le_of_ble_eq_true rfl, Nat.le_of_ble_eq_true rfl⟩ ⟨Nat.le_of_ble_eq_true rfl, Nat.le_of_ble_eq_true rfl⟩ dX3_call_86 ?_
  show KF E C 0 0 (mGo (mb1 μ K u) K) 89 _ []
  refine k_iload_n X 0 dX3_call_89 rfl rfl ?_
  exact k_iret dX3_call_90 hE rfl rfl

set_option maxHeartbeats 4000000 in
set_option maxRecDepth 100000 in
theorem F1_X3_call {E : EE} {μ : Mem} (x : Int32) (h : ¬ okU x) : MM E yX3_call cX3_call 3 (some .int) (rm 6 0) [.ref (ad E 16 0), .int x] μ (some (.int 0)) (st μ 16 0 0 1) := by
  refine MM.int (own := RX3) [(0, .ref (ad E 16 0)), (1, .int x)] rfl rfl rfl (Nat.le_of_ble_eq_true rfl) rfl (fun C X hE => ?_)
  refine k_aload_n X 0 dX3_call_0 rfl rfl ?_
  refine k_iload_n X 1 dX3_call_1 rfl rfl ?_
  refine k_callS (As := [.int x]) (S := [.ref (ad E 16 0)]) X lk_X3_74 (C_X3_isUser _) rfl rfl (Nat.le_of_ble_eq_true rfl) ⟨Nat.le_of_ble_eq_true rfl, Nat.le_of_ble_eq_true rfl⟩ ⟨Nat.le_of_ble_eq_true rfl, Nat.le_of_ble_eq_true rfl⟩ dX3_call_2 ?_
  show KF E C 0 0 μ 5 _ [.int (bp (¬ (x < 0 ∨ 5 < x))), .ref (ad E 16 0)]
  refine k_val (y := 0) (bp_f (P := ¬ (x < 0 ∨ 5 < x)) h) ?_
  refine k_if_ne_f (tgt := 12) X dX3_call_5 (by decide) rfl ?_
  refine k_iconst X 1 dX3_call_8 (by decide) ?_
  refine k_goto (tgt := 26) X dX3_call_9 (by decide) ?_
  refine k_callV (a := 16) (o := 0) (As := [.int 1]) (S := []) X lk_X3_82 rfl (by decide) rfl (C_X3_holds _) rfl rfl (Nat.le_of_ble_eq_true rfl) ⟨Nat.le_of_ble_eq_true rfl, Nat.le_of_ble_eq_true rfl⟩ ⟨Nat.le_of_ble_eq_true rfl, Nat.le_of_ble_eq_true rfl⟩ dX3_call_26 ?_
  show KF E C 0 0 (st μ 16 0 0 1) 29 _ [.int (bp (1 = 0))]
  refine k_val (y := 0) (bp_f (by decide)) ?_
  refine k_if_ne_f (tgt := 34) X dX3_call_29 (by decide) rfl ?_
  refine k_iconst X 0 dX3_call_32 (by decide) ?_
  exact k_iret dX3_call_33 hE rfl rfl

set_option maxHeartbeats 4000000 in
set_option maxRecDepth 100000 in
theorem F2_X3_call {E : EE} {μ : Mem} (x : Int32) (hU : okU x) (hk : μ 16 0 8 = 20) : MM E yX3_call cX3_call 3 (some .int) (rm 6 0) [.ref (ad E 16 0), .int x] μ (some (.int 0)) (st μ 16 0 0 2) := by
  refine MM.int (own := RX3) [(0, .ref (ad E 16 0)), (1, .int x)] rfl rfl rfl (Nat.le_of_ble_eq_true rfl) rfl (fun C X hE => ?_)
  refine k_aload_n X 0 dX3_call_0 rfl rfl ?_
  refine k_iload_n X 1 dX3_call_1 rfl rfl ?_
  refine k_callS (As := [.int x]) (S := [.ref (ad E 16 0)]) X lk_X3_74 (C_X3_isUser _) rfl rfl (Nat.le_of_ble_eq_true rfl) ⟨Nat.le_of_ble_eq_true rfl, Nat.le_of_ble_eq_true rfl⟩ ⟨Nat.le_of_ble_eq_true rfl, Nat.le_of_ble_eq_true rfl⟩ dX3_call_2 ?_
  show KF E C 0 0 μ 5 _ [.int (bp (¬ (x < 0 ∨ 5 < x))), .ref (ad E 16 0)]
  refine k_val (y := 1) (bp_t (show ¬ (x < 0 ∨ 5 < x) from hU)) ?_
  refine k_if_ne_t (tgt := 12) X dX3_call_5 (by decide) (by decide) ?_
  refine k_aload_n X 0 dX3_call_12 rfl rfl ?_
  refine gt_X3_108 X dX3_call_13 ?_
  refine k_bipush X 20 dX3_call_16 (by decide) ?_
  refine k_icmp_ne_f (tgt := 25) X dX3_call_18 (by decide) hk ?_
  refine k_iconst X 2 dX3_call_21 (by decide) ?_
  refine k_goto (tgt := 26) X dX3_call_22 (by decide) ?_
  refine k_callV (a := 16) (o := 0) (As := [.int 2]) (S := []) X lk_X3_82 rfl (by decide) rfl (C_X3_holds _) rfl rfl (Nat.le_of_ble_eq_true rfl) ⟨Nat.le_of_ble_eq_true rfl, Nat.le_of_ble_eq_true rfl⟩ ⟨Nat.le_of_ble_eq_true rfl, Nat.le_of_ble_eq_true rfl⟩ dX3_call_26 ?_
  show KF E C 0 0 (st μ 16 0 0 2) 29 _ [.int (bp (2 = 0))]
  refine k_val (y := 0) (bp_f (by decide)) ?_
  refine k_if_ne_f (tgt := 34) X dX3_call_29 (by decide) rfl ?_
  refine k_iconst X 0 dX3_call_32 (by decide) ?_
  exact k_iret dX3_call_33 hE rfl rfl

set_option maxHeartbeats 4000000 in
set_option maxRecDepth 100000 in
theorem C_X3_takes {E : EE} {μ : Mem} (c b : Nat) (x : Int32) (hc : c < 20) (hv : vN (μ 25 0 c) 12) (hb : b < 12) (hW : QW μ c (tN (μ 25 0 c))) (hx : 0 ≤ x) : MM E yX3_takes cX3_takes 5 none (rm 4 0) [.ref (ad E 16 0), .int (nI c), .int (nI b), .int x] μ none (mtM μ c (tN (μ 25 0 c)) b x) := by
  refine MM.void (own := RX3) [(0, .ref (ad E 16 0)), (1, .int (nI c)), (2, .int (nI b)), (3, .int x)] rfl rfl rfl (Nat.le_of_ble_eq_true rfl) (fun C X hE => ?_)
  refine k_bipush X 12 dX3_takes_0 (by decide) ?_
  refine k_iload_n X 1 dX3_takes_2 rfl rfl ?_
  refine k_imul X dX3_takes_3 ?_
  refine k_val (y := nI (12 * c)) (pk_mul _ _) ?_
  refine k_iload_n X 2 dX3_takes_4 rfl rfl ?_
  refine k_iadd X dX3_takes_5 ?_
  refine k_val (y := nI ((12 * c) + b)) (nI_add _ _) ?_
  refine k_istore (L' := [(4, .int (nI ((12 * c) + b))), (0, .ref (ad E 16 0)), (1, .int (nI c)), (2, .int (nI b)), (3, .int x)]) X dX3_takes_6 (by decide) rfl ?_
  refine k_aload_n X 1 dX3_takes_8 rfl rfl ?_
  refine gt_X3_50 X dX3_takes_9 ?_
  refine k_iload X 0 dX3_takes_12 rfl ?_
  refine k_iload_n X 4 dX3_takes_14 rfl rfl ?_
  refine k_iast (a := 30) (j := ((12 * c) + b)) X rfl (by decide) rfl (show ((12 * c) + b) < 240 by omega) (by decide) dX3_takes_15 ?_
  refine k_iload_n X 4 dX3_takes_16 rfl rfl ?_
  refine k_sipush X 600 dX3_takes_17 (by decide) ?_
  refine k_icmp_ge (tgt := 37) X dX3_takes_20 (by decide) (fun c20 => ?_) (fun c20 => ?_)
  · refine k_aload_n X 1 dX3_takes_37 rfl rfl ?_
    refine k_iload_n X 2 dX3_takes_38 rfl rfl ?_
    refine k_callV (a := 16) (o := 0) (As := [.int (nI c)]) (S := []) X lk_X3_123 rfl (by decide) rfl (C_X3_cuts c _ hc (by rw [st_k (by decide)]; exact hv.1) hv.2) rfl rfl (Nat.le_of_ble_eq_true rfl) ⟨Nat.le_of_ble_eq_true rfl, Nat.le_of_ble_eq_true rfl⟩ ⟨Nat.le_of_ble_eq_true rfl, Nat.le_of_ble_eq_true rfl⟩ dX3_takes_39 ?_
    show KF E C 0 0 (mcM (st μ 30 0 (12 * c + b) x) c (tN (μ 25 0 c))) 42 _ [.int (nI (mcN (st μ 30 0 (12 * c + b) x) c (tN (μ 25 0 c))))]
    refine k_pop X dX3_takes_42 rfl ?_
    refine k_aload_n X 1 dX3_takes_43 rfl rfl ?_
    refine gt_X3_32 X dX3_takes_44 ?_
    refine k_iload_n X 2 dX3_takes_47 rfl rfl ?_
    refine k_iload_n X 4 dX3_takes_48 rfl rfl ?_
    refine k_sipush X 600 dX3_takes_49 (by decide) ?_
    refine k_icmp_lt_f (tgt := 59) X dX3_takes_52 (by decide) (Int32.not_lt.mpr c20) ?_
    refine k_iconst X (-1) dX3_takes_55 (by decide) ?_
    refine k_goto (tgt := 60) X dX3_takes_56 (by decide) ?_
    refine k_iast (a := 24) (j := c) X rfl (by decide) rfl (show c < 20 from hc) (by decide) dX3_takes_60 ?_
    refine k_aload_n X 1 dX3_takes_61 rfl rfl ?_
    refine gt_X3_29 X dX3_takes_62 ?_
    refine k_iload_n X 2 dX3_takes_65 rfl rfl ?_
    refine k_iload_n X 4 dX3_takes_66 rfl rfl ?_
    refine k_sipush X 600 dX3_takes_67 (by decide) ?_
    refine k_icmp_lt_f (tgt := 81) X dX3_takes_70 (by decide) (Int32.not_lt.mpr c20) ?_
    refine k_aload_n X 1 dX3_takes_73 rfl rfl ?_
    refine k_iload_n X 2 dX3_takes_74 rfl rfl ?_
    refine k_callV (a := 16) (o := 0) (As := [.int (nI c)]) (S := [.int (nI c), .ref (ad E 23 0)]) X lk_X3_105 rfl (by decide) rfl (C_X3_best c (tN (μ 25 0 c)) hc (by simp only [st, mcM, up]; exact hv.1) hv.2) rfl rfl (Nat.le_of_ble_eq_true rfl) ⟨Nat.le_of_ble_eq_true rfl, Nat.le_of_ble_eq_true rfl⟩ ⟨Nat.le_of_ble_eq_true rfl, Nat.le_of_ble_eq_true rfl⟩ dX3_takes_75 ?_
    show KF E C 0 0 (st (mcM (st μ 30 0 (12 * c + b) x) c (tN (μ 25 0 c))) 24 0 c (-1)) 78 _ [.int (mbI (mf (st (mcM (st μ 30 0 (12 * c + b) x) c (tN (μ 25 0 c))) 24 0 c (-1)) c) (tN (μ 25 0 c))), .int (nI c), .ref (ad E 23 0)]
    refine k_val (y := mbI (mf (mcM (st μ 30 0 (12 * c + b) x) c (tN (μ 25 0 c))) c) (tN (μ 25 0 c))) rfl ?_
    refine k_goto (tgt := 82) X dX3_takes_78 (by decide) ?_
    refine k_iast (a := 23) (j := c) X rfl (by decide) rfl (show c < 20 from hc) (by decide) dX3_takes_82 ?_
    refine k_goto (tgt := 98) X dX3_takes_83 (by decide) ?_
    exact k_vret dX3_takes_98 hE (by unfold mtM; rw [if_pos (Or.inl (Int32.not_lt.mpr c20)), if_neg (Int32.not_lt.mpr c20), if_neg (Int32.not_lt.mpr c20)])
  · refine k_iload_n X 4 dX3_takes_23 rfl rfl ?_
    refine k_sipush X 200 dX3_takes_24 (by decide) ?_
    refine k_icmp_lt (tgt := 86) X dX3_takes_27 (by decide) (fun c27 => ?_) (fun c27 => ?_)
    · refine k_iload_n X 4 dX3_takes_86 rfl rfl ?_
      refine k_sipush X 300 dX3_takes_87 (by decide) ?_
      refine k_icmp_lt (tgt := 98) X dX3_takes_90 (by decide) (fun c90 => ?_) (fun c90 => ?_)
      · exact k_vret dX3_takes_98 hE (by unfold mtM; rw [if_neg (fun h => h.elim (fun q => q (Int32.not_le.mp c20)) (fun q => q.1 c27)), if_pos c90])
      · refine k_aload_n X 1 dX3_takes_93 rfl rfl ?_
        refine k_iload_n X 2 dX3_takes_94 rfl rfl ?_
        refine k_callV (a := 16) (o := 0) (As := [.int (nI c)]) (S := []) X lk_X3_115 rfl (by decide) rfl (C_X3_goesOn c hc (by rw [st_k (by decide)]; exact hv) (by rw [show (st μ 30 0 (12 * c + b) x) 25 0 c = μ 25 0 c from st_k (by decide)]; exact QW_st hW hx)) rfl rfl (Nat.le_of_ble_eq_true rfl) ⟨Nat.le_of_ble_eq_true rfl, Nat.le_of_ble_eq_true rfl⟩ ⟨Nat.le_of_ble_eq_true rfl, Nat.le_of_ble_eq_true rfl⟩ dX3_takes_95 ?_
        show KF E C 0 0 (mGo (st μ 30 0 (12 * c + b) x) c) 98 _ []
        exact k_vret dX3_takes_98 hE (by unfold mtM; rw [if_neg (fun h => h.elim (fun q => q (Int32.not_le.mp c20)) (fun q => q.1 c27)), if_neg c90])
    · refine k_iload_n X 4 dX3_takes_30 rfl rfl ?_
      refine k_sipush X 299 dX3_takes_31 (by decide) ?_
      refine k_icmp_gt (tgt := 86) X dX3_takes_34 (by decide) (fun c34 => ?_) (fun c34 => ?_)
      · refine k_iload_n X 4 dX3_takes_86 rfl rfl ?_
        refine k_sipush X 300 dX3_takes_87 (by decide) ?_
        refine k_icmp_lt (tgt := 98) X dX3_takes_90 (by decide) (fun c90 => ?_) (fun c90 => ?_)
        · exact k_vret dX3_takes_98 hE (by unfold mtM; rw [if_neg (fun h => h.elim (fun q => q (Int32.not_le.mp c20)) (fun q => q.2 c34)), if_pos c90])
        · refine k_aload_n X 1 dX3_takes_93 rfl rfl ?_
          refine k_iload_n X 2 dX3_takes_94 rfl rfl ?_
          refine k_callV (a := 16) (o := 0) (As := [.int (nI c)]) (S := []) X lk_X3_115 rfl (by decide) rfl (C_X3_goesOn c hc (by rw [st_k (by decide)]; exact hv) (by rw [show (st μ 30 0 (12 * c + b) x) 25 0 c = μ 25 0 c from st_k (by decide)]; exact QW_st hW hx)) rfl rfl (Nat.le_of_ble_eq_true rfl) ⟨Nat.le_of_ble_eq_true rfl, Nat.le_of_ble_eq_true rfl⟩ ⟨Nat.le_of_ble_eq_true rfl, Nat.le_of_ble_eq_true rfl⟩ dX3_takes_95 ?_
          show KF E C 0 0 (mGo (st μ 30 0 (12 * c + b) x) c) 98 _ []
          exact k_vret dX3_takes_98 hE (by unfold mtM; rw [if_neg (fun h => h.elim (fun q => q (Int32.not_le.mp c20)) (fun q => q.2 c34)), if_neg c90])
      · refine k_aload_n X 1 dX3_takes_37 rfl rfl ?_
        refine k_iload_n X 2 dX3_takes_38 rfl rfl ?_
        refine k_callV (a := 16) (o := 0) (As := [.int (nI c)]) (S := []) X lk_X3_123 rfl (by decide) rfl (C_X3_cuts c _ hc (by rw [st_k (by decide)]; exact hv.1) hv.2) rfl rfl (Nat.le_of_ble_eq_true rfl) ⟨Nat.le_of_ble_eq_true rfl, Nat.le_of_ble_eq_true rfl⟩ ⟨Nat.le_of_ble_eq_true rfl, Nat.le_of_ble_eq_true rfl⟩ dX3_takes_39 ?_
        show KF E C 0 0 (mcM (st μ 30 0 (12 * c + b) x) c (tN (μ 25 0 c))) 42 _ [.int (nI (mcN (st μ 30 0 (12 * c + b) x) c (tN (μ 25 0 c))))]
        refine k_pop X dX3_takes_42 rfl ?_
        refine k_aload_n X 1 dX3_takes_43 rfl rfl ?_
        refine gt_X3_32 X dX3_takes_44 ?_
        refine k_iload_n X 2 dX3_takes_47 rfl rfl ?_
        refine k_iload_n X 4 dX3_takes_48 rfl rfl ?_
        refine k_sipush X 600 dX3_takes_49 (by decide) ?_
        refine k_icmp_lt_t (tgt := 59) X dX3_takes_52 (by decide) (Int32.not_le.mp c20) ?_
        refine k_iload_n X 3 dX3_takes_59 rfl rfl ?_
        refine k_iast (a := 24) (j := c) X rfl (by decide) rfl (show c < 20 from hc) (by decide) dX3_takes_60 ?_
        refine k_aload_n X 1 dX3_takes_61 rfl rfl ?_
        refine gt_X3_29 X dX3_takes_62 ?_
        refine k_iload_n X 2 dX3_takes_65 rfl rfl ?_
        refine k_iload_n X 4 dX3_takes_66 rfl rfl ?_
        refine k_sipush X 600 dX3_takes_67 (by decide) ?_
        refine k_icmp_lt_t (tgt := 81) X dX3_takes_70 (by decide) (Int32.not_le.mp c20) ?_
        refine k_iload_n X 4 dX3_takes_81 rfl rfl ?_
        refine k_iast (a := 23) (j := c) X rfl (by decide) rfl (show c < 20 from hc) (by decide) dX3_takes_82 ?_
        refine k_goto (tgt := 98) X dX3_takes_83 (by decide) ?_
        exact k_vret dX3_takes_98 hE (by unfold mtM; rw [if_pos (Or.inr ⟨c27, c34⟩), if_pos (Int32.not_le.mp c20), if_pos (Int32.not_le.mp c20)])

set_option maxHeartbeats 4000000 in
set_option maxRecDepth 100000 in
theorem C_X3_answer {E : EE} {μ : Mem} (c b : Nat) (dv cd : Int32) (hc : c < 20) (hv : vN (μ 25 0 c) 12) (hb : b < tN (μ 25 0 c)) (hl : mlI μ c dv (tN (μ 25 0 c)) = nI b) (h : ¬ (nI c < 0 ∨ μ 16 0 8 - 1 < nI c)) (hA : anOk dv cd) (hp : μ 26 0 c ≤ μ 29 0 (12 * c + b) ∧ (¬ 200 ≤ μ 30 0 (12 * c + b) ∨ ((μ 30 0 (12 * c + b) = 487 ∨ μ 30 0 (12 * c + b) = 408) ∧ (¬ cd < 200 ∧ ¬ 299 < cd) ∧ μ 31 0 (12 * c + b) = 0))) (he : ¬ 200 ≤ μ 30 0 (12 * c + b)) (hW : QW (st μ 16 0 0 0) c (tN ((st μ 16 0 0 0) 25 0 c))) (hx : 0 ≤ cd) : MM E yX3_answer cX3_answer 7 (some .int) (rm 5 0) [.ref (ad E 16 0), .int (nI c), .int dv, .int cd] μ (some (.int ((mtM (st μ 16 0 0 0) c (tN ((st μ 16 0 0 0) 25 0 c)) b cd) 23 0 c))) (mtM (st μ 16 0 0 0) c (tN ((st μ 16 0 0 0) 25 0 c)) b cd) := by
  refine MM.int (own := RX3) [(0, .ref (ad E 16 0)), (1, .int (nI c)), (2, .int dv), (3, .int cd)] rfl rfl rfl (Nat.le_of_ble_eq_true rfl) rfl (fun C X hE => ?_)
  refine k_aload_n X 0 dX3_answer_0 rfl rfl ?_
  refine k_iload_n X 1 dX3_answer_1 rfl rfl ?_
  refine k_callV (a := 16) (o := 0) (As := [.int (nI c)]) (S := []) X lk_X3_126 rfl (by decide) rfl (C_X3_isCall _) rfl rfl (Nat.le_of_ble_eq_true rfl) ⟨Nat.le_of_ble_eq_true rfl, Nat.le_of_ble_eq_true rfl⟩ ⟨Nat.le_of_ble_eq_true rfl, Nat.le_of_ble_eq_true rfl⟩ dX3_answer_2 ?_
  show KF E C 0 0 μ 5 _ [.int (bp (¬ ((nI c) < 0 ∨ μ 16 0 8 - 1 < (nI c))))]
  refine k_val (y := 1) (bp_t h) ?_
  refine k_istore (L' := [(4, .int 1), (0, .ref (ad E 16 0)), (1, .int (nI c)), (2, .int dv), (3, .int cd)]) X dX3_answer_5 (by decide) rfl ?_
  refine k_iload_n X 3 dX3_answer_7 rfl rfl ?_
  refine k_iconst X 0 dX3_answer_8 (by decide) ?_
  refine k_bipush X 9 dX3_answer_9 (by decide) ?_
  refine k_callS (As := [.int dv, .int 0, .int 9]) (S := []) X lk_X3_63 (C_X3_isIn _ _ _) rfl rfl (Nat.le_of_ble_eq_true rfl) ⟨Nat.le_of_ble_eq_true rfl, Nat.le_of_ble_eq_true rfl⟩ ⟨Nat.le_of_ble_eq_true rfl, Nat.le_of_ble_eq_true rfl⟩ dX3_answer_11 ?_
  show KF E C 0 0 μ 14 _ [.int (bp (¬ (dv < 0 ∨ 9 < dv)))]
  refine k_val (y := 1) (bp_t hA.1) ?_
  refine k_if_eq_f (tgt := 41) X dX3_answer_14 (by decide) (by decide) ?_
  refine k_iload_n X 4 dX3_answer_17 rfl rfl ?_
  refine k_sipush X 180 dX3_answer_18 (by decide) ?_
  refine k_icmp_eq (tgt := 37) X dX3_answer_21 (by decide) (fun c21 => ?_) (fun c21 => ?_)
  · refine k_iconst X 1 dX3_answer_37 (by decide) ?_
    refine k_goto (tgt := 42) X dX3_answer_38 (by decide) ?_
    refine k_istore (L' := [(5, .int 1), (4, .int 1), (0, .ref (ad E 16 0)), (1, .int (nI c)), (2, .int dv), (3, .int cd)]) X dX3_answer_42 (by decide) rfl ?_
    refine k_aload_n X 2 dX3_answer_44 rfl rfl ?_
    refine k_iload X 1 dX3_answer_45 rfl ?_
    refine k_if_ne_t (tgt := 54) X dX3_answer_47 (by decide) (by decide) ?_
    refine k_iload X 0 dX3_answer_54 rfl ?_
    refine k_if_ne_t (tgt := 63) X dX3_answer_56 (by decide) (by decide) ?_
    refine k_aload_n X 2 dX3_answer_63 rfl rfl ?_
    refine k_iload_n X 3 dX3_answer_64 rfl rfl ?_
    refine k_iload_n X 4 dX3_answer_65 rfl rfl ?_
    refine k_iload_n X 5 dX3_answer_66 rfl rfl ?_
    refine k_callV (a := 16) (o := 0) (As := [.int (nI c), .int dv, .int cd]) (S := [.ref (ad E 16 0)]) X lk_X3_129 rfl (by decide) rfl (C_canAnswer c _ hc hv.1 hv.2 _ _ b hb hl) rfl rfl (Nat.le_of_ble_eq_true rfl) ⟨Nat.le_of_ble_eq_true rfl, Nat.le_of_ble_eq_true rfl⟩ ⟨Nat.le_of_ble_eq_true rfl, Nat.le_of_ble_eq_true rfl⟩ dX3_answer_67 ?_
    show KF E C 0 0 μ 70 _ [.int (bp (μ 26 0 c ≤ μ 29 0 (12 * c + b) ∧ (¬ 200 ≤ μ 30 0 (12 * c + b) ∨ ((μ 30 0 (12 * c + b) = 487 ∨ μ 30 0 (12 * c + b) = 408) ∧ (¬ cd < 200 ∧ ¬ 299 < cd) ∧ μ 31 0 (12 * c + b) = 0)))), .ref (ad E 16 0)]
    refine k_val (y := 1) (bp_t hp) ?_
    refine k_if_eq_f (tgt := 77) X dX3_answer_70 (by decide) (by decide) ?_
    refine k_iconst X 0 dX3_answer_73 (by decide) ?_
    refine k_goto (tgt := 78) X dX3_answer_74 (by decide) ?_
    refine k_callV (a := 16) (o := 0) (As := [.int 0]) (S := []) X lk_X3_82 rfl (by decide) rfl (C_X3_holds _) rfl rfl (Nat.le_of_ble_eq_true rfl) ⟨Nat.le_of_ble_eq_true rfl, Nat.le_of_ble_eq_true rfl⟩ ⟨Nat.le_of_ble_eq_true rfl, Nat.le_of_ble_eq_true rfl⟩ dX3_answer_78 ?_
    show KF E C 0 0 (st μ 16 0 0 0) 81 _ [.int (bp (0 = 0))]
    refine k_val (y := 1) (bp_t rfl) ?_
    refine k_if_ne_t (tgt := 86) X dX3_answer_81 (by decide) (by decide) ?_
    have hb9 : b < 12 := by have := hv.2; omega
    refine k_aload_n X 2 dX3_answer_86 rfl rfl ?_
    refine k_iload_n X 3 dX3_answer_87 rfl rfl ?_
    refine k_iload_n X 4 dX3_answer_88 rfl rfl ?_
    refine k_callV (a := 16) (o := 0) (As := [.int (nI c), .int dv]) (S := []) X lk_X3_119 rfl (by decide) rfl (C_X3_branchOf c _ hc (by simp only [st]; exact hv.1) hv.2 _) rfl rfl (Nat.le_of_ble_eq_true rfl) ⟨Nat.le_of_ble_eq_true rfl, Nat.le_of_ble_eq_true rfl⟩ ⟨Nat.le_of_ble_eq_true rfl, Nat.le_of_ble_eq_true rfl⟩ dX3_answer_89 ?_
    show KF E C 0 0 (st μ 16 0 0 0) 92 _ [.int (mlI (st μ 16 0 0 0) c dv (tN (μ 25 0 c)))]
    refine k_val (y := nI b) (by rw [show mlI (st μ 16 0 0 0) c dv (tN (μ 25 0 c)) = mlI μ c dv (tN (μ 25 0 c)) from mlI_st]; exact hl) ?_
    refine k_istore (L' := [(6, .int (nI b)), (5, .int 1), (4, .int 1), (0, .ref (ad E 16 0)), (1, .int (nI c)), (2, .int dv), (3, .int cd)]) X dX3_answer_92 (by decide) rfl ?_
    refine k_aload_n X 3 dX3_answer_94 rfl rfl ?_
    refine gt_X3_50 X dX3_answer_95 ?_
    refine k_bipush X 12 dX3_answer_98 (by decide) ?_
    refine k_iload_n X 4 dX3_answer_100 rfl rfl ?_
    refine k_imul X dX3_answer_101 ?_
    refine k_val (y := nI (12 * c)) (pk_mul _ _) ?_
    refine k_iload X 0 dX3_answer_102 rfl ?_
    refine k_iadd X dX3_answer_104 ?_
    refine k_val (y := nI ((12 * c) + b)) (nI_add _ _) ?_
    refine k_iald (a := 30) (j := ((12 * c) + b)) X rfl (by decide) rfl (show ((12 * c) + b) < 240 by omega) (by decide) dX3_answer_105 ?_
    refine k_val (y := μ 30 0 (12 * c + b)) (st_k (by decide)) ?_
    refine k_callS (As := [.int (μ 30 0 (12 * c + b))]) (S := []) X lk_X3_99 (C_X3_hasEnded _) rfl rfl (Nat.le_of_ble_eq_true rfl) ⟨Nat.le_of_ble_eq_true rfl, Nat.le_of_ble_eq_true rfl⟩ ⟨Nat.le_of_ble_eq_true rfl, Nat.le_of_ble_eq_true rfl⟩ dX3_answer_106 ?_
    show KF E C 0 0 (st μ 16 0 0 0) 109 _ [.int (bp (200 ≤ (μ 30 0 (12 * c + b))))]
    refine k_if_eq_t (tgt := 138) X dX3_answer_109 (by decide) (bp_f he) ?_
    refine k_aload_n X 3 dX3_answer_138 rfl rfl ?_
    refine k_iload_n X 4 dX3_answer_139 rfl rfl ?_
    refine k_iload X 0 dX3_answer_140 rfl ?_
    refine k_iload_n X 6 dX3_answer_142 rfl rfl ?_
    refine k_callV (a := 16) (o := 0) (As := [.int (nI c), .int (nI b), .int cd]) (S := []) X lk_X3_132 rfl (by decide) rfl (C_X3_takes c b _ hc (by rw [st_k (by decide)]; exact hv) (by have := hv.2; omega) hW hx) rfl rfl (Nat.le_of_ble_eq_true rfl) ⟨Nat.le_of_ble_eq_true rfl, Nat.le_of_ble_eq_true rfl⟩ ⟨Nat.le_of_ble_eq_true rfl, Nat.le_of_ble_eq_true rfl⟩ dX3_answer_143 ?_
    show KF E C 0 0 (mtM (st μ 16 0 0 0) c (tN ((st μ 16 0 0 0) 25 0 c)) b cd) 146 _ []
    refine k_aload_n X 3 dX3_answer_146 rfl rfl ?_
    refine gt_X3_29 X dX3_answer_147 ?_
    refine k_iload_n X 4 dX3_answer_150 rfl rfl ?_
    refine k_iald (a := 23) (j := c) X rfl (by decide) rfl (show c < 20 from hc) (by decide) dX3_answer_151 ?_
    exact k_iret dX3_answer_152 hE rfl rfl
  · refine k_iload_n X 4 dX3_answer_24 rfl rfl ?_
    refine k_sipush X 200 dX3_answer_25 (by decide) ?_
    refine k_sipush X 699 dX3_answer_28 (by decide) ?_
    refine k_callS (As := [.int cd, .int 200, .int 699]) (S := []) X lk_X3_63 (C_X3_isIn _ _ _) rfl rfl (Nat.le_of_ble_eq_true rfl) ⟨Nat.le_of_ble_eq_true rfl, Nat.le_of_ble_eq_true rfl⟩ ⟨Nat.le_of_ble_eq_true rfl, Nat.le_of_ble_eq_true rfl⟩ dX3_answer_31 ?_
    show KF E C 0 0 μ 34 _ [.int (bp (¬ (cd < 200 ∨ 699 < cd)))]
    refine k_val (y := 1) (bp_t (fun q => hA.2 ⟨c21, q⟩)) ?_
    refine k_if_eq_f (tgt := 41) X dX3_answer_34 (by decide) (by decide) ?_
    refine k_iconst X 1 dX3_answer_37 (by decide) ?_
    refine k_goto (tgt := 42) X dX3_answer_38 (by decide) ?_
    refine k_istore (L' := [(5, .int 1), (4, .int 1), (0, .ref (ad E 16 0)), (1, .int (nI c)), (2, .int dv), (3, .int cd)]) X dX3_answer_42 (by decide) rfl ?_
    refine k_aload_n X 2 dX3_answer_44 rfl rfl ?_
    refine k_iload X 1 dX3_answer_45 rfl ?_
    refine k_if_ne_t (tgt := 54) X dX3_answer_47 (by decide) (by decide) ?_
    refine k_iload X 0 dX3_answer_54 rfl ?_
    refine k_if_ne_t (tgt := 63) X dX3_answer_56 (by decide) (by decide) ?_
    refine k_aload_n X 2 dX3_answer_63 rfl rfl ?_
    refine k_iload_n X 3 dX3_answer_64 rfl rfl ?_
    refine k_iload_n X 4 dX3_answer_65 rfl rfl ?_
    refine k_iload_n X 5 dX3_answer_66 rfl rfl ?_
    refine k_callV (a := 16) (o := 0) (As := [.int (nI c), .int dv, .int cd]) (S := [.ref (ad E 16 0)]) X lk_X3_129 rfl (by decide) rfl (C_canAnswer c _ hc hv.1 hv.2 _ _ b hb hl) rfl rfl (Nat.le_of_ble_eq_true rfl) ⟨Nat.le_of_ble_eq_true rfl, Nat.le_of_ble_eq_true rfl⟩ ⟨Nat.le_of_ble_eq_true rfl, Nat.le_of_ble_eq_true rfl⟩ dX3_answer_67 ?_
    show KF E C 0 0 μ 70 _ [.int (bp (μ 26 0 c ≤ μ 29 0 (12 * c + b) ∧ (¬ 200 ≤ μ 30 0 (12 * c + b) ∨ ((μ 30 0 (12 * c + b) = 487 ∨ μ 30 0 (12 * c + b) = 408) ∧ (¬ cd < 200 ∧ ¬ 299 < cd) ∧ μ 31 0 (12 * c + b) = 0)))), .ref (ad E 16 0)]
    refine k_val (y := 1) (bp_t hp) ?_
    refine k_if_eq_f (tgt := 77) X dX3_answer_70 (by decide) (by decide) ?_
    refine k_iconst X 0 dX3_answer_73 (by decide) ?_
    refine k_goto (tgt := 78) X dX3_answer_74 (by decide) ?_
    refine k_callV (a := 16) (o := 0) (As := [.int 0]) (S := []) X lk_X3_82 rfl (by decide) rfl (C_X3_holds _) rfl rfl (Nat.le_of_ble_eq_true rfl) ⟨Nat.le_of_ble_eq_true rfl, Nat.le_of_ble_eq_true rfl⟩ ⟨Nat.le_of_ble_eq_true rfl, Nat.le_of_ble_eq_true rfl⟩ dX3_answer_78 ?_
    show KF E C 0 0 (st μ 16 0 0 0) 81 _ [.int (bp (0 = 0))]
    refine k_val (y := 1) (bp_t rfl) ?_
    refine k_if_ne_t (tgt := 86) X dX3_answer_81 (by decide) (by decide) ?_
    have hb9 : b < 12 := by have := hv.2; omega
    refine k_aload_n X 2 dX3_answer_86 rfl rfl ?_
    refine k_iload_n X 3 dX3_answer_87 rfl rfl ?_
    refine k_iload_n X 4 dX3_answer_88 rfl rfl ?_
    refine k_callV (a := 16) (o := 0) (As := [.int (nI c), .int dv]) (S := []) X lk_X3_119 rfl (by decide) rfl (C_X3_branchOf c _ hc (by simp only [st]; exact hv.1) hv.2 _) rfl rfl (Nat.le_of_ble_eq_true rfl) ⟨Nat.le_of_ble_eq_true rfl, Nat.le_of_ble_eq_true rfl⟩ ⟨Nat.le_of_ble_eq_true rfl, Nat.le_of_ble_eq_true rfl⟩ dX3_answer_89 ?_
    show KF E C 0 0 (st μ 16 0 0 0) 92 _ [.int (mlI (st μ 16 0 0 0) c dv (tN (μ 25 0 c)))]
    refine k_val (y := nI b) (by rw [show mlI (st μ 16 0 0 0) c dv (tN (μ 25 0 c)) = mlI μ c dv (tN (μ 25 0 c)) from mlI_st]; exact hl) ?_
    refine k_istore (L' := [(6, .int (nI b)), (5, .int 1), (4, .int 1), (0, .ref (ad E 16 0)), (1, .int (nI c)), (2, .int dv), (3, .int cd)]) X dX3_answer_92 (by decide) rfl ?_
    refine k_aload_n X 3 dX3_answer_94 rfl rfl ?_
    refine gt_X3_50 X dX3_answer_95 ?_
    refine k_bipush X 12 dX3_answer_98 (by decide) ?_
    refine k_iload_n X 4 dX3_answer_100 rfl rfl ?_
    refine k_imul X dX3_answer_101 ?_
    refine k_val (y := nI (12 * c)) (pk_mul _ _) ?_
    refine k_iload X 0 dX3_answer_102 rfl ?_
    refine k_iadd X dX3_answer_104 ?_
    refine k_val (y := nI ((12 * c) + b)) (nI_add _ _) ?_
    refine k_iald (a := 30) (j := ((12 * c) + b)) X rfl (by decide) rfl (show ((12 * c) + b) < 240 by omega) (by decide) dX3_answer_105 ?_
    refine k_val (y := μ 30 0 (12 * c + b)) (st_k (by decide)) ?_
    refine k_callS (As := [.int (μ 30 0 (12 * c + b))]) (S := []) X lk_X3_99 (C_X3_hasEnded _) rfl rfl (Nat.le_of_ble_eq_true rfl) ⟨Nat.le_of_ble_eq_true rfl, Nat.le_of_ble_eq_true rfl⟩ ⟨Nat.le_of_ble_eq_true rfl, Nat.le_of_ble_eq_true rfl⟩ dX3_answer_106 ?_
    show KF E C 0 0 (st μ 16 0 0 0) 109 _ [.int (bp (200 ≤ (μ 30 0 (12 * c + b))))]
    refine k_if_eq_t (tgt := 138) X dX3_answer_109 (by decide) (bp_f he) ?_
    refine k_aload_n X 3 dX3_answer_138 rfl rfl ?_
    refine k_iload_n X 4 dX3_answer_139 rfl rfl ?_
    refine k_iload X 0 dX3_answer_140 rfl ?_
    refine k_iload_n X 6 dX3_answer_142 rfl rfl ?_
    refine k_callV (a := 16) (o := 0) (As := [.int (nI c), .int (nI b), .int cd]) (S := []) X lk_X3_132 rfl (by decide) rfl (C_X3_takes c b _ hc (by rw [st_k (by decide)]; exact hv) (by have := hv.2; omega) hW hx) rfl rfl (Nat.le_of_ble_eq_true rfl) ⟨Nat.le_of_ble_eq_true rfl, Nat.le_of_ble_eq_true rfl⟩ ⟨Nat.le_of_ble_eq_true rfl, Nat.le_of_ble_eq_true rfl⟩ dX3_answer_143 ?_
    show KF E C 0 0 (mtM (st μ 16 0 0 0) c (tN ((st μ 16 0 0 0) 25 0 c)) b cd) 146 _ []
    refine k_aload_n X 3 dX3_answer_146 rfl rfl ?_
    refine gt_X3_29 X dX3_answer_147 ?_
    refine k_iload_n X 4 dX3_answer_150 rfl rfl ?_
    refine k_iald (a := 23) (j := c) X rfl (by decide) rfl (show c < 20 from hc) (by decide) dX3_answer_151 ?_
    exact k_iret dX3_answer_152 hE rfl rfl

set_option maxHeartbeats 4000000 in
set_option maxRecDepth 100000 in
theorem H_X3_answer {E : EE} {μ : Mem} (c b : Nat) (dv cd : Int32) (hc : c < 20) (hv : vN (μ 25 0 c) 12) (hb : b < tN (μ 25 0 c)) (hl : mlI μ c dv (tN (μ 25 0 c)) = nI b) (h : ¬ (nI c < 0 ∨ μ 16 0 8 - 1 < nI c)) (hA : anOk dv cd) (d : Nat) (hd : dv = nI d) (hd10 : d < 10) (hp : μ 26 0 c ≤ μ 29 0 (12 * c + b) ∧ (¬ 200 ≤ μ 30 0 (12 * c + b) ∨ ((μ 30 0 (12 * c + b) = 487 ∨ μ 30 0 (12 * c + b) = 408) ∧ (¬ cd < 200 ∧ ¬ 299 < cd) ∧ μ 31 0 (12 * c + b) = 0))) (he : 200 ≤ μ 30 0 (12 * c + b)) : MM E yX3_answer cX3_answer 7 (some .int) (rm 5 0) [.ref (ad E 16 0), .int (nI c), .int dv, .int cd] μ (some (.int ((st (st (st μ 16 0 0 0) 31 0 (12 * c + b) 1) 32 0 d (μ 32 0 d + 1)) 23 0 c))) (st (st (st μ 16 0 0 0) 31 0 (12 * c + b) 1) 32 0 d (μ 32 0 d + 1)) := by
  refine MM.int (own := RX3) [(0, .ref (ad E 16 0)), (1, .int (nI c)), (2, .int dv), (3, .int cd)] rfl rfl rfl (Nat.le_of_ble_eq_true rfl) rfl (fun C X hE => ?_)
  refine k_aload_n X 0 dX3_answer_0 rfl rfl ?_
  refine k_iload_n X 1 dX3_answer_1 rfl rfl ?_
  refine k_callV (a := 16) (o := 0) (As := [.int (nI c)]) (S := []) X lk_X3_126 rfl (by decide) rfl (C_X3_isCall _) rfl rfl (Nat.le_of_ble_eq_true rfl) ⟨Nat.le_of_ble_eq_true rfl, Nat.le_of_ble_eq_true rfl⟩ ⟨Nat.le_of_ble_eq_true rfl, Nat.le_of_ble_eq_true rfl⟩ dX3_answer_2 ?_
  show KF E C 0 0 μ 5 _ [.int (bp (¬ ((nI c) < 0 ∨ μ 16 0 8 - 1 < (nI c))))]
  refine k_val (y := 1) (bp_t h) ?_
  refine k_istore (L' := [(4, .int 1), (0, .ref (ad E 16 0)), (1, .int (nI c)), (2, .int dv), (3, .int cd)]) X dX3_answer_5 (by decide) rfl ?_
  refine k_iload_n X 3 dX3_answer_7 rfl rfl ?_
  refine k_iconst X 0 dX3_answer_8 (by decide) ?_
  refine k_bipush X 9 dX3_answer_9 (by decide) ?_
  refine k_callS (As := [.int dv, .int 0, .int 9]) (S := []) X lk_X3_63 (C_X3_isIn _ _ _) rfl rfl (Nat.le_of_ble_eq_true rfl) ⟨Nat.le_of_ble_eq_true rfl, Nat.le_of_ble_eq_true rfl⟩ ⟨Nat.le_of_ble_eq_true rfl, Nat.le_of_ble_eq_true rfl⟩ dX3_answer_11 ?_
  show KF E C 0 0 μ 14 _ [.int (bp (¬ (dv < 0 ∨ 9 < dv)))]
  refine k_val (y := 1) (bp_t hA.1) ?_
  refine k_if_eq_f (tgt := 41) X dX3_answer_14 (by decide) (by decide) ?_
  refine k_iload_n X 4 dX3_answer_17 rfl rfl ?_
  refine k_sipush X 180 dX3_answer_18 (by decide) ?_
  refine k_icmp_eq (tgt := 37) X dX3_answer_21 (by decide) (fun c21 => ?_) (fun c21 => ?_)
  · refine k_iconst X 1 dX3_answer_37 (by decide) ?_
    refine k_goto (tgt := 42) X dX3_answer_38 (by decide) ?_
    refine k_istore (L' := [(5, .int 1), (4, .int 1), (0, .ref (ad E 16 0)), (1, .int (nI c)), (2, .int dv), (3, .int cd)]) X dX3_answer_42 (by decide) rfl ?_
    refine k_aload_n X 2 dX3_answer_44 rfl rfl ?_
    refine k_iload X 1 dX3_answer_45 rfl ?_
    refine k_if_ne_t (tgt := 54) X dX3_answer_47 (by decide) (by decide) ?_
    refine k_iload X 0 dX3_answer_54 rfl ?_
    refine k_if_ne_t (tgt := 63) X dX3_answer_56 (by decide) (by decide) ?_
    refine k_aload_n X 2 dX3_answer_63 rfl rfl ?_
    refine k_iload_n X 3 dX3_answer_64 rfl rfl ?_
    refine k_iload_n X 4 dX3_answer_65 rfl rfl ?_
    refine k_iload_n X 5 dX3_answer_66 rfl rfl ?_
    refine k_callV (a := 16) (o := 0) (As := [.int (nI c), .int dv, .int cd]) (S := [.ref (ad E 16 0)]) X lk_X3_129 rfl (by decide) rfl (C_canAnswer c _ hc hv.1 hv.2 _ _ b hb hl) rfl rfl (Nat.le_of_ble_eq_true rfl) ⟨Nat.le_of_ble_eq_true rfl, Nat.le_of_ble_eq_true rfl⟩ ⟨Nat.le_of_ble_eq_true rfl, Nat.le_of_ble_eq_true rfl⟩ dX3_answer_67 ?_
    show KF E C 0 0 μ 70 _ [.int (bp (μ 26 0 c ≤ μ 29 0 (12 * c + b) ∧ (¬ 200 ≤ μ 30 0 (12 * c + b) ∨ ((μ 30 0 (12 * c + b) = 487 ∨ μ 30 0 (12 * c + b) = 408) ∧ (¬ cd < 200 ∧ ¬ 299 < cd) ∧ μ 31 0 (12 * c + b) = 0)))), .ref (ad E 16 0)]
    refine k_val (y := 1) (bp_t hp) ?_
    refine k_if_eq_f (tgt := 77) X dX3_answer_70 (by decide) (by decide) ?_
    refine k_iconst X 0 dX3_answer_73 (by decide) ?_
    refine k_goto (tgt := 78) X dX3_answer_74 (by decide) ?_
    refine k_callV (a := 16) (o := 0) (As := [.int 0]) (S := []) X lk_X3_82 rfl (by decide) rfl (C_X3_holds _) rfl rfl (Nat.le_of_ble_eq_true rfl) ⟨Nat.le_of_ble_eq_true rfl, Nat.le_of_ble_eq_true rfl⟩ ⟨Nat.le_of_ble_eq_true rfl, Nat.le_of_ble_eq_true rfl⟩ dX3_answer_78 ?_
    show KF E C 0 0 (st μ 16 0 0 0) 81 _ [.int (bp (0 = 0))]
    refine k_val (y := 1) (bp_t rfl) ?_
    refine k_if_ne_t (tgt := 86) X dX3_answer_81 (by decide) (by decide) ?_
    have hb9 : b < 12 := by have := hv.2; omega
    refine k_aload_n X 2 dX3_answer_86 rfl rfl ?_
    refine k_iload_n X 3 dX3_answer_87 rfl rfl ?_
    refine k_iload_n X 4 dX3_answer_88 rfl rfl ?_
    refine k_callV (a := 16) (o := 0) (As := [.int (nI c), .int dv]) (S := []) X lk_X3_119 rfl (by decide) rfl (C_X3_branchOf c _ hc (by simp only [st]; exact hv.1) hv.2 _) rfl rfl (Nat.le_of_ble_eq_true rfl) ⟨Nat.le_of_ble_eq_true rfl, Nat.le_of_ble_eq_true rfl⟩ ⟨Nat.le_of_ble_eq_true rfl, Nat.le_of_ble_eq_true rfl⟩ dX3_answer_89 ?_
    show KF E C 0 0 (st μ 16 0 0 0) 92 _ [.int (mlI (st μ 16 0 0 0) c dv (tN (μ 25 0 c)))]
    refine k_val (y := nI b) (by rw [show mlI (st μ 16 0 0 0) c dv (tN (μ 25 0 c)) = mlI μ c dv (tN (μ 25 0 c)) from mlI_st]; exact hl) ?_
    refine k_istore (L' := [(6, .int (nI b)), (5, .int 1), (4, .int 1), (0, .ref (ad E 16 0)), (1, .int (nI c)), (2, .int dv), (3, .int cd)]) X dX3_answer_92 (by decide) rfl ?_
    refine k_aload_n X 3 dX3_answer_94 rfl rfl ?_
    refine gt_X3_50 X dX3_answer_95 ?_
    refine k_bipush X 12 dX3_answer_98 (by decide) ?_
    refine k_iload_n X 4 dX3_answer_100 rfl rfl ?_
    refine k_imul X dX3_answer_101 ?_
    refine k_val (y := nI (12 * c)) (pk_mul _ _) ?_
    refine k_iload X 0 dX3_answer_102 rfl ?_
    refine k_iadd X dX3_answer_104 ?_
    refine k_val (y := nI ((12 * c) + b)) (nI_add _ _) ?_
    refine k_iald (a := 30) (j := ((12 * c) + b)) X rfl (by decide) rfl (show ((12 * c) + b) < 240 by omega) (by decide) dX3_answer_105 ?_
    refine k_val (y := μ 30 0 (12 * c + b)) (st_k (by decide)) ?_
    refine k_callS (As := [.int (μ 30 0 (12 * c + b))]) (S := []) X lk_X3_99 (C_X3_hasEnded _) rfl rfl (Nat.le_of_ble_eq_true rfl) ⟨Nat.le_of_ble_eq_true rfl, Nat.le_of_ble_eq_true rfl⟩ ⟨Nat.le_of_ble_eq_true rfl, Nat.le_of_ble_eq_true rfl⟩ dX3_answer_106 ?_
    show KF E C 0 0 (st μ 16 0 0 0) 109 _ [.int (bp (200 ≤ (μ 30 0 (12 * c + b))))]
    refine k_if_eq_f (tgt := 138) X dX3_answer_109 (by decide) (by rw [bp_t he]; decide) ?_
    refine k_aload_n X 3 dX3_answer_112 rfl rfl ?_
    refine gt_X3_53 X dX3_answer_113 ?_
    refine k_bipush X 12 dX3_answer_116 (by decide) ?_
    refine k_iload_n X 4 dX3_answer_118 rfl rfl ?_
    refine k_imul X dX3_answer_119 ?_
    refine k_val (y := nI (12 * c)) (pk_mul _ _) ?_
    refine k_iload X 0 dX3_answer_120 rfl ?_
    refine k_iadd X dX3_answer_122 ?_
    refine k_val (y := nI ((12 * c) + b)) (nI_add _ _) ?_
    refine k_iconst X 1 dX3_answer_123 (by decide) ?_
    refine k_zast (a := 31) (j := ((12 * c) + b)) X rfl (by decide) rfl (show ((12 * c) + b) < 240 by omega) (by decide) (by decide) dX3_answer_124 ?_
    refine k_aload_n X 3 dX3_answer_125 rfl rfl ?_
    refine gt_X3_56 X dX3_answer_126 ?_
    refine k_iload_n X 5 dX3_answer_129 rfl rfl ?_
    refine k_dup2 X dX3_answer_130 rfl rfl ?_
    refine k_iald (a := 32) (j := d) X rfl (by decide) hd (show d < 10 from hd10) (by decide) dX3_answer_131 ?_
    refine k_val (y := μ 32 0 d) (by simp [st]) ?_
    refine k_iconst X 1 dX3_answer_132 (by decide) ?_
    refine k_iadd X dX3_answer_133 ?_
    refine k_iast (a := 32) (j := d) X rfl (by decide) hd (show d < 10 from hd10) (by decide) dX3_answer_134 ?_
    refine k_goto (tgt := 146) X dX3_answer_135 (by decide) ?_
    refine k_aload_n X 3 dX3_answer_146 rfl rfl ?_
    refine gt_X3_29 X dX3_answer_147 ?_
    refine k_iload_n X 4 dX3_answer_150 rfl rfl ?_
    refine k_iald (a := 23) (j := c) X rfl (by decide) rfl (show c < 20 from hc) (by decide) dX3_answer_151 ?_
    exact k_iret dX3_answer_152 hE rfl rfl
  · refine k_iload_n X 4 dX3_answer_24 rfl rfl ?_
    refine k_sipush X 200 dX3_answer_25 (by decide) ?_
    refine k_sipush X 699 dX3_answer_28 (by decide) ?_
    refine k_callS (As := [.int cd, .int 200, .int 699]) (S := []) X lk_X3_63 (C_X3_isIn _ _ _) rfl rfl (Nat.le_of_ble_eq_true rfl) ⟨Nat.le_of_ble_eq_true rfl, Nat.le_of_ble_eq_true rfl⟩ ⟨Nat.le_of_ble_eq_true rfl, Nat.le_of_ble_eq_true rfl⟩ dX3_answer_31 ?_
    show KF E C 0 0 μ 34 _ [.int (bp (¬ (cd < 200 ∨ 699 < cd)))]
    refine k_val (y := 1) (bp_t (fun q => hA.2 ⟨c21, q⟩)) ?_
    refine k_if_eq_f (tgt := 41) X dX3_answer_34 (by decide) (by decide) ?_
    refine k_iconst X 1 dX3_answer_37 (by decide) ?_
    refine k_goto (tgt := 42) X dX3_answer_38 (by decide) ?_
    refine k_istore (L' := [(5, .int 1), (4, .int 1), (0, .ref (ad E 16 0)), (1, .int (nI c)), (2, .int dv), (3, .int cd)]) X dX3_answer_42 (by decide) rfl ?_
    refine k_aload_n X 2 dX3_answer_44 rfl rfl ?_
    refine k_iload X 1 dX3_answer_45 rfl ?_
    refine k_if_ne_t (tgt := 54) X dX3_answer_47 (by decide) (by decide) ?_
    refine k_iload X 0 dX3_answer_54 rfl ?_
    refine k_if_ne_t (tgt := 63) X dX3_answer_56 (by decide) (by decide) ?_
    refine k_aload_n X 2 dX3_answer_63 rfl rfl ?_
    refine k_iload_n X 3 dX3_answer_64 rfl rfl ?_
    refine k_iload_n X 4 dX3_answer_65 rfl rfl ?_
    refine k_iload_n X 5 dX3_answer_66 rfl rfl ?_
    refine k_callV (a := 16) (o := 0) (As := [.int (nI c), .int dv, .int cd]) (S := [.ref (ad E 16 0)]) X lk_X3_129 rfl (by decide) rfl (C_canAnswer c _ hc hv.1 hv.2 _ _ b hb hl) rfl rfl (Nat.le_of_ble_eq_true rfl) ⟨Nat.le_of_ble_eq_true rfl, Nat.le_of_ble_eq_true rfl⟩ ⟨Nat.le_of_ble_eq_true rfl, Nat.le_of_ble_eq_true rfl⟩ dX3_answer_67 ?_
    show KF E C 0 0 μ 70 _ [.int (bp (μ 26 0 c ≤ μ 29 0 (12 * c + b) ∧ (¬ 200 ≤ μ 30 0 (12 * c + b) ∨ ((μ 30 0 (12 * c + b) = 487 ∨ μ 30 0 (12 * c + b) = 408) ∧ (¬ cd < 200 ∧ ¬ 299 < cd) ∧ μ 31 0 (12 * c + b) = 0)))), .ref (ad E 16 0)]
    refine k_val (y := 1) (bp_t hp) ?_
    refine k_if_eq_f (tgt := 77) X dX3_answer_70 (by decide) (by decide) ?_
    refine k_iconst X 0 dX3_answer_73 (by decide) ?_
    refine k_goto (tgt := 78) X dX3_answer_74 (by decide) ?_
    refine k_callV (a := 16) (o := 0) (As := [.int 0]) (S := []) X lk_X3_82 rfl (by decide) rfl (C_X3_holds _) rfl rfl (Nat.le_of_ble_eq_true rfl) ⟨Nat.le_of_ble_eq_true rfl, Nat.le_of_ble_eq_true rfl⟩ ⟨Nat.le_of_ble_eq_true rfl, Nat.le_of_ble_eq_true rfl⟩ dX3_answer_78 ?_
    show KF E C 0 0 (st μ 16 0 0 0) 81 _ [.int (bp (0 = 0))]
    refine k_val (y := 1) (bp_t rfl) ?_
    refine k_if_ne_t (tgt := 86) X dX3_answer_81 (by decide) (by decide) ?_
    have hb9 : b < 12 := by have := hv.2; omega
    refine k_aload_n X 2 dX3_answer_86 rfl rfl ?_
    refine k_iload_n X 3 dX3_answer_87 rfl rfl ?_
    refine k_iload_n X 4 dX3_answer_88 rfl rfl ?_
    refine k_callV (a := 16) (o := 0) (As := [.int (nI c), .int dv]) (S := []) X lk_X3_119 rfl (by decide) rfl (C_X3_branchOf c _ hc (by simp only [st]; exact hv.1) hv.2 _) rfl rfl (Nat.le_of_ble_eq_true rfl) ⟨Nat.le_of_ble_eq_true rfl, Nat.le_of_ble_eq_true rfl⟩ ⟨Nat.le_of_ble_eq_true rfl, Nat.le_of_ble_eq_true rfl⟩ dX3_answer_89 ?_
    show KF E C 0 0 (st μ 16 0 0 0) 92 _ [.int (mlI (st μ 16 0 0 0) c dv (tN (μ 25 0 c)))]
    refine k_val (y := nI b) (by rw [show mlI (st μ 16 0 0 0) c dv (tN (μ 25 0 c)) = mlI μ c dv (tN (μ 25 0 c)) from mlI_st]; exact hl) ?_
    refine k_istore (L' := [(6, .int (nI b)), (5, .int 1), (4, .int 1), (0, .ref (ad E 16 0)), (1, .int (nI c)), (2, .int dv), (3, .int cd)]) X dX3_answer_92 (by decide) rfl ?_
    refine k_aload_n X 3 dX3_answer_94 rfl rfl ?_
    refine gt_X3_50 X dX3_answer_95 ?_
    refine k_bipush X 12 dX3_answer_98 (by decide) ?_
    refine k_iload_n X 4 dX3_answer_100 rfl rfl ?_
    refine k_imul X dX3_answer_101 ?_
    refine k_val (y := nI (12 * c)) (pk_mul _ _) ?_
    refine k_iload X 0 dX3_answer_102 rfl ?_
    refine k_iadd X dX3_answer_104 ?_
    refine k_val (y := nI ((12 * c) + b)) (nI_add _ _) ?_
    refine k_iald (a := 30) (j := ((12 * c) + b)) X rfl (by decide) rfl (show ((12 * c) + b) < 240 by omega) (by decide) dX3_answer_105 ?_
    refine k_val (y := μ 30 0 (12 * c + b)) (st_k (by decide)) ?_
    refine k_callS (As := [.int (μ 30 0 (12 * c + b))]) (S := []) X lk_X3_99 (C_X3_hasEnded _) rfl rfl (Nat.le_of_ble_eq_true rfl) ⟨Nat.le_of_ble_eq_true rfl, Nat.le_of_ble_eq_true rfl⟩ ⟨Nat.le_of_ble_eq_true rfl, Nat.le_of_ble_eq_true rfl⟩ dX3_answer_106 ?_
    show KF E C 0 0 (st μ 16 0 0 0) 109 _ [.int (bp (200 ≤ (μ 30 0 (12 * c + b))))]
    refine k_if_eq_f (tgt := 138) X dX3_answer_109 (by decide) (by rw [bp_t he]; decide) ?_
    refine k_aload_n X 3 dX3_answer_112 rfl rfl ?_
    refine gt_X3_53 X dX3_answer_113 ?_
    refine k_bipush X 12 dX3_answer_116 (by decide) ?_
    refine k_iload_n X 4 dX3_answer_118 rfl rfl ?_
    refine k_imul X dX3_answer_119 ?_
    refine k_val (y := nI (12 * c)) (pk_mul _ _) ?_
    refine k_iload X 0 dX3_answer_120 rfl ?_
    refine k_iadd X dX3_answer_122 ?_
    refine k_val (y := nI ((12 * c) + b)) (nI_add _ _) ?_
    refine k_iconst X 1 dX3_answer_123 (by decide) ?_
    refine k_zast (a := 31) (j := ((12 * c) + b)) X rfl (by decide) rfl (show ((12 * c) + b) < 240 by omega) (by decide) (by decide) dX3_answer_124 ?_
    refine k_aload_n X 3 dX3_answer_125 rfl rfl ?_
    refine gt_X3_56 X dX3_answer_126 ?_
    refine k_iload_n X 5 dX3_answer_129 rfl rfl ?_
    refine k_dup2 X dX3_answer_130 rfl rfl ?_
    refine k_iald (a := 32) (j := d) X rfl (by decide) hd (show d < 10 from hd10) (by decide) dX3_answer_131 ?_
    refine k_val (y := μ 32 0 d) (by simp [st]) ?_
    refine k_iconst X 1 dX3_answer_132 (by decide) ?_
    refine k_iadd X dX3_answer_133 ?_
    refine k_iast (a := 32) (j := d) X rfl (by decide) hd (show d < 10 from hd10) (by decide) dX3_answer_134 ?_
    refine k_goto (tgt := 146) X dX3_answer_135 (by decide) ?_
    refine k_aload_n X 3 dX3_answer_146 rfl rfl ?_
    refine gt_X3_29 X dX3_answer_147 ?_
    refine k_iload_n X 4 dX3_answer_150 rfl rfl ?_
    refine k_iald (a := 23) (j := c) X rfl (by decide) rfl (show c < 20 from hc) (by decide) dX3_answer_151 ?_
    exact k_iret dX3_answer_152 hE rfl rfl

set_option maxHeartbeats 4000000 in
set_option maxRecDepth 100000 in
theorem F1_X3_answer {E : EE} {μ : Mem} (x dv cd : Int32) (h : (x < 0 ∨ μ 16 0 8 - 1 < x)) : MM E yX3_answer cX3_answer 7 (some .int) (rm 5 0) [.ref (ad E 16 0), .int x, .int dv, .int cd] μ (some (.int 0)) (st μ 16 0 0 1) := by
  refine MM.int (own := RX3) [(0, .ref (ad E 16 0)), (1, .int x), (2, .int dv), (3, .int cd)] rfl rfl rfl (Nat.le_of_ble_eq_true rfl) rfl (fun C X hE => ?_)
  refine k_aload_n X 0 dX3_answer_0 rfl rfl ?_
  refine k_iload_n X 1 dX3_answer_1 rfl rfl ?_
  refine k_callV (a := 16) (o := 0) (As := [.int x]) (S := []) X lk_X3_126 rfl (by decide) rfl (C_X3_isCall _) rfl rfl (Nat.le_of_ble_eq_true rfl) ⟨Nat.le_of_ble_eq_true rfl, Nat.le_of_ble_eq_true rfl⟩ ⟨Nat.le_of_ble_eq_true rfl, Nat.le_of_ble_eq_true rfl⟩ dX3_answer_2 ?_
  show KF E C 0 0 μ 5 _ [.int (bp (¬ (x < 0 ∨ μ 16 0 8 - 1 < x)))]
  refine k_val (y := 0) (bp_f (fun q => q h)) ?_
  refine k_istore (L' := [(4, .int 0), (0, .ref (ad E 16 0)), (1, .int x), (2, .int dv), (3, .int cd)]) X dX3_answer_5 (by decide) rfl ?_
  refine k_iload_n X 3 dX3_answer_7 rfl rfl ?_
  refine k_iconst X 0 dX3_answer_8 (by decide) ?_
  refine k_bipush X 9 dX3_answer_9 (by decide) ?_
  refine k_callS (As := [.int dv, .int 0, .int 9]) (S := []) X lk_X3_63 (C_X3_isIn _ _ _) rfl rfl (Nat.le_of_ble_eq_true rfl) ⟨Nat.le_of_ble_eq_true rfl, Nat.le_of_ble_eq_true rfl⟩ ⟨Nat.le_of_ble_eq_true rfl, Nat.le_of_ble_eq_true rfl⟩ dX3_answer_11 ?_
  show KF E C 0 0 μ 14 _ [.int (bp (¬ (dv < 0 ∨ 9 < dv)))]
  refine k_if_eq_p (tgt := 41) X dX3_answer_14 (by decide) (fun c14 => ?_) (fun c14 => ?_)
  · refine k_iconst X 0 dX3_answer_41 (by decide) ?_
    refine k_istore (L' := [(5, .int 0), (4, .int 0), (0, .ref (ad E 16 0)), (1, .int x), (2, .int dv), (3, .int cd)]) X dX3_answer_42 (by decide) rfl ?_
    refine k_aload_n X 2 dX3_answer_44 rfl rfl ?_
    refine k_iload X 1 dX3_answer_45 rfl ?_
    refine k_if_ne_f (tgt := 54) X dX3_answer_47 (by decide) rfl ?_
    refine k_iconst X 1 dX3_answer_50 (by decide) ?_
    refine k_goto (tgt := 78) X dX3_answer_51 (by decide) ?_
    refine k_callV (a := 16) (o := 0) (As := [.int 1]) (S := []) X lk_X3_82 rfl (by decide) rfl (C_X3_holds _) rfl rfl (Nat.le_of_ble_eq_true rfl) ⟨Nat.le_of_ble_eq_true rfl, Nat.le_of_ble_eq_true rfl⟩ ⟨Nat.le_of_ble_eq_true rfl, Nat.le_of_ble_eq_true rfl⟩ dX3_answer_78 ?_
    show KF E C 0 0 (st μ 16 0 0 1) 81 _ [.int (bp (1 = 0))]
    refine k_val (y := 0) (bp_f (by decide)) ?_
    refine k_if_ne_f (tgt := 86) X dX3_answer_81 (by decide) rfl ?_
    refine k_iconst X 0 dX3_answer_84 (by decide) ?_
    exact k_iret dX3_answer_85 hE rfl rfl
  · refine k_iload_n X 4 dX3_answer_17 rfl rfl ?_
    refine k_sipush X 180 dX3_answer_18 (by decide) ?_
    refine k_icmp_eq (tgt := 37) X dX3_answer_21 (by decide) (fun c21 => ?_) (fun c21 => ?_)
    · refine k_iconst X 1 dX3_answer_37 (by decide) ?_
      refine k_goto (tgt := 42) X dX3_answer_38 (by decide) ?_
      refine k_istore (L' := [(5, .int 1), (4, .int 0), (0, .ref (ad E 16 0)), (1, .int x), (2, .int dv), (3, .int cd)]) X dX3_answer_42 (by decide) rfl ?_
      refine k_aload_n X 2 dX3_answer_44 rfl rfl ?_
      refine k_iload X 1 dX3_answer_45 rfl ?_
      refine k_if_ne_f (tgt := 54) X dX3_answer_47 (by decide) rfl ?_
      refine k_iconst X 1 dX3_answer_50 (by decide) ?_
      refine k_goto (tgt := 78) X dX3_answer_51 (by decide) ?_
      refine k_callV (a := 16) (o := 0) (As := [.int 1]) (S := []) X lk_X3_82 rfl (by decide) rfl (C_X3_holds _) rfl rfl (Nat.le_of_ble_eq_true rfl) ⟨Nat.le_of_ble_eq_true rfl, Nat.le_of_ble_eq_true rfl⟩ ⟨Nat.le_of_ble_eq_true rfl, Nat.le_of_ble_eq_true rfl⟩ dX3_answer_78 ?_
      show KF E C 0 0 (st μ 16 0 0 1) 81 _ [.int (bp (1 = 0))]
      refine k_val (y := 0) (bp_f (by decide)) ?_
      refine k_if_ne_f (tgt := 86) X dX3_answer_81 (by decide) rfl ?_
      refine k_iconst X 0 dX3_answer_84 (by decide) ?_
      exact k_iret dX3_answer_85 hE rfl rfl
    · refine k_iload_n X 4 dX3_answer_24 rfl rfl ?_
      refine k_sipush X 200 dX3_answer_25 (by decide) ?_
      refine k_sipush X 699 dX3_answer_28 (by decide) ?_
      refine k_callS (As := [.int cd, .int 200, .int 699]) (S := []) X lk_X3_63 (C_X3_isIn _ _ _) rfl rfl (Nat.le_of_ble_eq_true rfl) ⟨Nat.le_of_ble_eq_true rfl, Nat.le_of_ble_eq_true rfl⟩ ⟨Nat.le_of_ble_eq_true rfl, Nat.le_of_ble_eq_true rfl⟩ dX3_answer_31 ?_
      show KF E C 0 0 μ 34 _ [.int (bp (¬ (cd < 200 ∨ 699 < cd)))]
      refine k_if_eq_p (tgt := 41) X dX3_answer_34 (by decide) (fun c34 => ?_) (fun c34 => ?_)
      · refine k_iconst X 0 dX3_answer_41 (by decide) ?_
        refine k_istore (L' := [(5, .int 0), (4, .int 0), (0, .ref (ad E 16 0)), (1, .int x), (2, .int dv), (3, .int cd)]) X dX3_answer_42 (by decide) rfl ?_
        refine k_aload_n X 2 dX3_answer_44 rfl rfl ?_
        refine k_iload X 1 dX3_answer_45 rfl ?_
        refine k_if_ne_f (tgt := 54) X dX3_answer_47 (by decide) rfl ?_
        refine k_iconst X 1 dX3_answer_50 (by decide) ?_
        refine k_goto (tgt := 78) X dX3_answer_51 (by decide) ?_
        refine k_callV (a := 16) (o := 0) (As := [.int 1]) (S := []) X lk_X3_82 rfl (by decide) rfl (C_X3_holds _) rfl rfl (Nat.le_of_ble_eq_true rfl) ⟨Nat.le_of_ble_eq_true rfl, Nat.le_of_ble_eq_true rfl⟩ ⟨Nat.le_of_ble_eq_true rfl, Nat.le_of_ble_eq_true rfl⟩ dX3_answer_78 ?_
        show KF E C 0 0 (st μ 16 0 0 1) 81 _ [.int (bp (1 = 0))]
        refine k_val (y := 0) (bp_f (by decide)) ?_
        refine k_if_ne_f (tgt := 86) X dX3_answer_81 (by decide) rfl ?_
        refine k_iconst X 0 dX3_answer_84 (by decide) ?_
        exact k_iret dX3_answer_85 hE rfl rfl
      · refine k_iconst X 1 dX3_answer_37 (by decide) ?_
        refine k_goto (tgt := 42) X dX3_answer_38 (by decide) ?_
        refine k_istore (L' := [(5, .int 1), (4, .int 0), (0, .ref (ad E 16 0)), (1, .int x), (2, .int dv), (3, .int cd)]) X dX3_answer_42 (by decide) rfl ?_
        refine k_aload_n X 2 dX3_answer_44 rfl rfl ?_
        refine k_iload X 1 dX3_answer_45 rfl ?_
        refine k_if_ne_f (tgt := 54) X dX3_answer_47 (by decide) rfl ?_
        refine k_iconst X 1 dX3_answer_50 (by decide) ?_
        refine k_goto (tgt := 78) X dX3_answer_51 (by decide) ?_
        refine k_callV (a := 16) (o := 0) (As := [.int 1]) (S := []) X lk_X3_82 rfl (by decide) rfl (C_X3_holds _) rfl rfl (Nat.le_of_ble_eq_true rfl) ⟨Nat.le_of_ble_eq_true rfl, Nat.le_of_ble_eq_true rfl⟩ ⟨Nat.le_of_ble_eq_true rfl, Nat.le_of_ble_eq_true rfl⟩ dX3_answer_78 ?_
        show KF E C 0 0 (st μ 16 0 0 1) 81 _ [.int (bp (1 = 0))]
        refine k_val (y := 0) (bp_f (by decide)) ?_
        refine k_if_ne_f (tgt := 86) X dX3_answer_81 (by decide) rfl ?_
        refine k_iconst X 0 dX3_answer_84 (by decide) ?_
        exact k_iret dX3_answer_85 hE rfl rfl

set_option maxHeartbeats 4000000 in
set_option maxRecDepth 100000 in
theorem F2_X3_answer {E : EE} {μ : Mem} (c : Nat) (dv cd : Int32) (hc : c < 20) (h : ¬ (nI c < 0 ∨ μ 16 0 8 - 1 < nI c)) (hA : ¬ anOk dv cd) : MM E yX3_answer cX3_answer 7 (some .int) (rm 5 0) [.ref (ad E 16 0), .int (nI c), .int dv, .int cd] μ (some (.int 0)) (st μ 16 0 0 2) := by
  refine MM.int (own := RX3) [(0, .ref (ad E 16 0)), (1, .int (nI c)), (2, .int dv), (3, .int cd)] rfl rfl rfl (Nat.le_of_ble_eq_true rfl) rfl (fun C X hE => ?_)
  refine k_aload_n X 0 dX3_answer_0 rfl rfl ?_
  refine k_iload_n X 1 dX3_answer_1 rfl rfl ?_
  refine k_callV (a := 16) (o := 0) (As := [.int (nI c)]) (S := []) X lk_X3_126 rfl (by decide) rfl (C_X3_isCall _) rfl rfl (Nat.le_of_ble_eq_true rfl) ⟨Nat.le_of_ble_eq_true rfl, Nat.le_of_ble_eq_true rfl⟩ ⟨Nat.le_of_ble_eq_true rfl, Nat.le_of_ble_eq_true rfl⟩ dX3_answer_2 ?_
  show KF E C 0 0 μ 5 _ [.int (bp (¬ ((nI c) < 0 ∨ μ 16 0 8 - 1 < (nI c))))]
  refine k_val (y := 1) (bp_t h) ?_
  refine k_istore (L' := [(4, .int 1), (0, .ref (ad E 16 0)), (1, .int (nI c)), (2, .int dv), (3, .int cd)]) X dX3_answer_5 (by decide) rfl ?_
  refine k_iload_n X 3 dX3_answer_7 rfl rfl ?_
  refine k_iconst X 0 dX3_answer_8 (by decide) ?_
  refine k_bipush X 9 dX3_answer_9 (by decide) ?_
  refine k_callS (As := [.int dv, .int 0, .int 9]) (S := []) X lk_X3_63 (C_X3_isIn _ _ _) rfl rfl (Nat.le_of_ble_eq_true rfl) ⟨Nat.le_of_ble_eq_true rfl, Nat.le_of_ble_eq_true rfl⟩ ⟨Nat.le_of_ble_eq_true rfl, Nat.le_of_ble_eq_true rfl⟩ dX3_answer_11 ?_
  show KF E C 0 0 μ 14 _ [.int (bp (¬ (dv < 0 ∨ 9 < dv)))]
  refine k_if_eq_p (tgt := 41) X dX3_answer_14 (by decide) (fun c14 => ?_) (fun c14 => ?_)
  · refine k_iconst X 0 dX3_answer_41 (by decide) ?_
    refine k_istore (L' := [(5, .int 0), (4, .int 1), (0, .ref (ad E 16 0)), (1, .int (nI c)), (2, .int dv), (3, .int cd)]) X dX3_answer_42 (by decide) rfl ?_
    refine k_aload_n X 2 dX3_answer_44 rfl rfl ?_
    refine k_iload X 1 dX3_answer_45 rfl ?_
    refine k_if_ne_t (tgt := 54) X dX3_answer_47 (by decide) (by decide) ?_
    refine k_iload X 0 dX3_answer_54 rfl ?_
    refine k_if_ne_f (tgt := 63) X dX3_answer_56 (by decide) rfl ?_
    refine k_iconst X 2 dX3_answer_59 (by decide) ?_
    refine k_goto (tgt := 78) X dX3_answer_60 (by decide) ?_
    refine k_callV (a := 16) (o := 0) (As := [.int 2]) (S := []) X lk_X3_82 rfl (by decide) rfl (C_X3_holds _) rfl rfl (Nat.le_of_ble_eq_true rfl) ⟨Nat.le_of_ble_eq_true rfl, Nat.le_of_ble_eq_true rfl⟩ ⟨Nat.le_of_ble_eq_true rfl, Nat.le_of_ble_eq_true rfl⟩ dX3_answer_78 ?_
    show KF E C 0 0 (st μ 16 0 0 2) 81 _ [.int (bp (2 = 0))]
    refine k_val (y := 0) (bp_f (by decide)) ?_
    refine k_if_ne_f (tgt := 86) X dX3_answer_81 (by decide) rfl ?_
    refine k_iconst X 0 dX3_answer_84 (by decide) ?_
    exact k_iret dX3_answer_85 hE rfl rfl
  · refine k_iload_n X 4 dX3_answer_17 rfl rfl ?_
    refine k_sipush X 180 dX3_answer_18 (by decide) ?_
    refine k_icmp_eq (tgt := 37) X dX3_answer_21 (by decide) (fun c21 => ?_) (fun c21 => ?_)
    · refine k_iconst X 1 dX3_answer_37 (by decide) ?_
      refine k_goto (tgt := 42) X dX3_answer_38 (by decide) ?_
      exact absurd ⟨fun q => c14 q, fun q => q.1 c21⟩ hA
    · refine k_iload_n X 4 dX3_answer_24 rfl rfl ?_
      refine k_sipush X 200 dX3_answer_25 (by decide) ?_
      refine k_sipush X 699 dX3_answer_28 (by decide) ?_
      refine k_callS (As := [.int cd, .int 200, .int 699]) (S := []) X lk_X3_63 (C_X3_isIn _ _ _) rfl rfl (Nat.le_of_ble_eq_true rfl) ⟨Nat.le_of_ble_eq_true rfl, Nat.le_of_ble_eq_true rfl⟩ ⟨Nat.le_of_ble_eq_true rfl, Nat.le_of_ble_eq_true rfl⟩ dX3_answer_31 ?_
      show KF E C 0 0 μ 34 _ [.int (bp (¬ (cd < 200 ∨ 699 < cd)))]
      refine k_if_eq_p (tgt := 41) X dX3_answer_34 (by decide) (fun c34 => ?_) (fun c34 => ?_)
      · refine k_iconst X 0 dX3_answer_41 (by decide) ?_
        refine k_istore (L' := [(5, .int 0), (4, .int 1), (0, .ref (ad E 16 0)), (1, .int (nI c)), (2, .int dv), (3, .int cd)]) X dX3_answer_42 (by decide) rfl ?_
        refine k_aload_n X 2 dX3_answer_44 rfl rfl ?_
        refine k_iload X 1 dX3_answer_45 rfl ?_
        refine k_if_ne_t (tgt := 54) X dX3_answer_47 (by decide) (by decide) ?_
        refine k_iload X 0 dX3_answer_54 rfl ?_
        refine k_if_ne_f (tgt := 63) X dX3_answer_56 (by decide) rfl ?_
        refine k_iconst X 2 dX3_answer_59 (by decide) ?_
        refine k_goto (tgt := 78) X dX3_answer_60 (by decide) ?_
        refine k_callV (a := 16) (o := 0) (As := [.int 2]) (S := []) X lk_X3_82 rfl (by decide) rfl (C_X3_holds _) rfl rfl (Nat.le_of_ble_eq_true rfl) ⟨Nat.le_of_ble_eq_true rfl, Nat.le_of_ble_eq_true rfl⟩ ⟨Nat.le_of_ble_eq_true rfl, Nat.le_of_ble_eq_true rfl⟩ dX3_answer_78 ?_
        show KF E C 0 0 (st μ 16 0 0 2) 81 _ [.int (bp (2 = 0))]
        refine k_val (y := 0) (bp_f (by decide)) ?_
        refine k_if_ne_f (tgt := 86) X dX3_answer_81 (by decide) rfl ?_
        refine k_iconst X 0 dX3_answer_84 (by decide) ?_
        exact k_iret dX3_answer_85 hE rfl rfl
      · refine k_iconst X 1 dX3_answer_37 (by decide) ?_
        refine k_goto (tgt := 42) X dX3_answer_38 (by decide) ?_
        exact absurd ⟨fun q => c14 q, fun q => c34 q.2⟩ hA

set_option maxHeartbeats 4000000 in
set_option maxRecDepth 100000 in
theorem F3_X3_answer {E : EE} {μ : Mem} (c b : Nat) (dv cd : Int32) (hc : c < 20) (hv : vN (μ 25 0 c) 12) (hb : b < tN (μ 25 0 c)) (hl : mlI μ c dv (tN (μ 25 0 c)) = nI b) (h : ¬ (nI c < 0 ∨ μ 16 0 8 - 1 < nI c)) (hA : anOk dv cd) (hp : ¬ (μ 26 0 c ≤ μ 29 0 (12 * c + b) ∧ (¬ 200 ≤ μ 30 0 (12 * c + b) ∨ ((μ 30 0 (12 * c + b) = 487 ∨ μ 30 0 (12 * c + b) = 408) ∧ (¬ cd < 200 ∧ ¬ 299 < cd) ∧ μ 31 0 (12 * c + b) = 0)))) : MM E yX3_answer cX3_answer 7 (some .int) (rm 5 0) [.ref (ad E 16 0), .int (nI c), .int dv, .int cd] μ (some (.int 0)) (st μ 16 0 0 3) := by
  refine MM.int (own := RX3) [(0, .ref (ad E 16 0)), (1, .int (nI c)), (2, .int dv), (3, .int cd)] rfl rfl rfl (Nat.le_of_ble_eq_true rfl) rfl (fun C X hE => ?_)
  refine k_aload_n X 0 dX3_answer_0 rfl rfl ?_
  refine k_iload_n X 1 dX3_answer_1 rfl rfl ?_
  refine k_callV (a := 16) (o := 0) (As := [.int (nI c)]) (S := []) X lk_X3_126 rfl (by decide) rfl (C_X3_isCall _) rfl rfl (Nat.le_of_ble_eq_true rfl) ⟨Nat.le_of_ble_eq_true rfl, Nat.le_of_ble_eq_true rfl⟩ ⟨Nat.le_of_ble_eq_true rfl, Nat.le_of_ble_eq_true rfl⟩ dX3_answer_2 ?_
  show KF E C 0 0 μ 5 _ [.int (bp (¬ ((nI c) < 0 ∨ μ 16 0 8 - 1 < (nI c))))]
  refine k_val (y := 1) (bp_t h) ?_
  refine k_istore (L' := [(4, .int 1), (0, .ref (ad E 16 0)), (1, .int (nI c)), (2, .int dv), (3, .int cd)]) X dX3_answer_5 (by decide) rfl ?_
  refine k_iload_n X 3 dX3_answer_7 rfl rfl ?_
  refine k_iconst X 0 dX3_answer_8 (by decide) ?_
  refine k_bipush X 9 dX3_answer_9 (by decide) ?_
  refine k_callS (As := [.int dv, .int 0, .int 9]) (S := []) X lk_X3_63 (C_X3_isIn _ _ _) rfl rfl (Nat.le_of_ble_eq_true rfl) ⟨Nat.le_of_ble_eq_true rfl, Nat.le_of_ble_eq_true rfl⟩ ⟨Nat.le_of_ble_eq_true rfl, Nat.le_of_ble_eq_true rfl⟩ dX3_answer_11 ?_
  show KF E C 0 0 μ 14 _ [.int (bp (¬ (dv < 0 ∨ 9 < dv)))]
  refine k_val (y := 1) (bp_t hA.1) ?_
  refine k_if_eq_f (tgt := 41) X dX3_answer_14 (by decide) (by decide) ?_
  refine k_iload_n X 4 dX3_answer_17 rfl rfl ?_
  refine k_sipush X 180 dX3_answer_18 (by decide) ?_
  refine k_icmp_eq (tgt := 37) X dX3_answer_21 (by decide) (fun c21 => ?_) (fun c21 => ?_)
  · refine k_iconst X 1 dX3_answer_37 (by decide) ?_
    refine k_goto (tgt := 42) X dX3_answer_38 (by decide) ?_
    refine k_istore (L' := [(5, .int 1), (4, .int 1), (0, .ref (ad E 16 0)), (1, .int (nI c)), (2, .int dv), (3, .int cd)]) X dX3_answer_42 (by decide) rfl ?_
    refine k_aload_n X 2 dX3_answer_44 rfl rfl ?_
    refine k_iload X 1 dX3_answer_45 rfl ?_
    refine k_if_ne_t (tgt := 54) X dX3_answer_47 (by decide) (by decide) ?_
    refine k_iload X 0 dX3_answer_54 rfl ?_
    refine k_if_ne_t (tgt := 63) X dX3_answer_56 (by decide) (by decide) ?_
    refine k_aload_n X 2 dX3_answer_63 rfl rfl ?_
    refine k_iload_n X 3 dX3_answer_64 rfl rfl ?_
    refine k_iload_n X 4 dX3_answer_65 rfl rfl ?_
    refine k_iload_n X 5 dX3_answer_66 rfl rfl ?_
    refine k_callV (a := 16) (o := 0) (As := [.int (nI c), .int dv, .int cd]) (S := [.ref (ad E 16 0)]) X lk_X3_129 rfl (by decide) rfl (C_canAnswer c _ hc hv.1 hv.2 _ _ b hb hl) rfl rfl (Nat.le_of_ble_eq_true rfl) ⟨Nat.le_of_ble_eq_true rfl, Nat.le_of_ble_eq_true rfl⟩ ⟨Nat.le_of_ble_eq_true rfl, Nat.le_of_ble_eq_true rfl⟩ dX3_answer_67 ?_
    show KF E C 0 0 μ 70 _ [.int (bp (μ 26 0 c ≤ μ 29 0 (12 * c + b) ∧ (¬ 200 ≤ μ 30 0 (12 * c + b) ∨ ((μ 30 0 (12 * c + b) = 487 ∨ μ 30 0 (12 * c + b) = 408) ∧ (¬ cd < 200 ∧ ¬ 299 < cd) ∧ μ 31 0 (12 * c + b) = 0)))), .ref (ad E 16 0)]
    refine k_val (y := 0) (bp_f hp) ?_
    refine k_if_eq_t (tgt := 77) X dX3_answer_70 (by decide) rfl ?_
    refine k_iconst X 3 dX3_answer_77 (by decide) ?_
    refine k_callV (a := 16) (o := 0) (As := [.int 3]) (S := []) X lk_X3_82 rfl (by decide) rfl (C_X3_holds _) rfl rfl (Nat.le_of_ble_eq_true rfl) ⟨Nat.le_of_ble_eq_true rfl, Nat.le_of_ble_eq_true rfl⟩ ⟨Nat.le_of_ble_eq_true rfl, Nat.le_of_ble_eq_true rfl⟩ dX3_answer_78 ?_
    show KF E C 0 0 (st μ 16 0 0 3) 81 _ [.int (bp (3 = 0))]
    refine k_val (y := 0) (bp_f (by decide)) ?_
    refine k_if_ne_f (tgt := 86) X dX3_answer_81 (by decide) rfl ?_
    refine k_iconst X 0 dX3_answer_84 (by decide) ?_
    exact k_iret dX3_answer_85 hE rfl rfl
  · refine k_iload_n X 4 dX3_answer_24 rfl rfl ?_
    refine k_sipush X 200 dX3_answer_25 (by decide) ?_
    refine k_sipush X 699 dX3_answer_28 (by decide) ?_
    refine k_callS (As := [.int cd, .int 200, .int 699]) (S := []) X lk_X3_63 (C_X3_isIn _ _ _) rfl rfl (Nat.le_of_ble_eq_true rfl) ⟨Nat.le_of_ble_eq_true rfl, Nat.le_of_ble_eq_true rfl⟩ ⟨Nat.le_of_ble_eq_true rfl, Nat.le_of_ble_eq_true rfl⟩ dX3_answer_31 ?_
    show KF E C 0 0 μ 34 _ [.int (bp (¬ (cd < 200 ∨ 699 < cd)))]
    refine k_val (y := 1) (bp_t (fun q => hA.2 ⟨c21, q⟩)) ?_
    refine k_if_eq_f (tgt := 41) X dX3_answer_34 (by decide) (by decide) ?_
    refine k_iconst X 1 dX3_answer_37 (by decide) ?_
    refine k_goto (tgt := 42) X dX3_answer_38 (by decide) ?_
    refine k_istore (L' := [(5, .int 1), (4, .int 1), (0, .ref (ad E 16 0)), (1, .int (nI c)), (2, .int dv), (3, .int cd)]) X dX3_answer_42 (by decide) rfl ?_
    refine k_aload_n X 2 dX3_answer_44 rfl rfl ?_
    refine k_iload X 1 dX3_answer_45 rfl ?_
    refine k_if_ne_t (tgt := 54) X dX3_answer_47 (by decide) (by decide) ?_
    refine k_iload X 0 dX3_answer_54 rfl ?_
    refine k_if_ne_t (tgt := 63) X dX3_answer_56 (by decide) (by decide) ?_
    refine k_aload_n X 2 dX3_answer_63 rfl rfl ?_
    refine k_iload_n X 3 dX3_answer_64 rfl rfl ?_
    refine k_iload_n X 4 dX3_answer_65 rfl rfl ?_
    refine k_iload_n X 5 dX3_answer_66 rfl rfl ?_
    refine k_callV (a := 16) (o := 0) (As := [.int (nI c), .int dv, .int cd]) (S := [.ref (ad E 16 0)]) X lk_X3_129 rfl (by decide) rfl (C_canAnswer c _ hc hv.1 hv.2 _ _ b hb hl) rfl rfl (Nat.le_of_ble_eq_true rfl) ⟨Nat.le_of_ble_eq_true rfl, Nat.le_of_ble_eq_true rfl⟩ ⟨Nat.le_of_ble_eq_true rfl, Nat.le_of_ble_eq_true rfl⟩ dX3_answer_67 ?_
    show KF E C 0 0 μ 70 _ [.int (bp (μ 26 0 c ≤ μ 29 0 (12 * c + b) ∧ (¬ 200 ≤ μ 30 0 (12 * c + b) ∨ ((μ 30 0 (12 * c + b) = 487 ∨ μ 30 0 (12 * c + b) = 408) ∧ (¬ cd < 200 ∧ ¬ 299 < cd) ∧ μ 31 0 (12 * c + b) = 0)))), .ref (ad E 16 0)]
    refine k_val (y := 0) (bp_f hp) ?_
    refine k_if_eq_t (tgt := 77) X dX3_answer_70 (by decide) rfl ?_
    refine k_iconst X 3 dX3_answer_77 (by decide) ?_
    refine k_callV (a := 16) (o := 0) (As := [.int 3]) (S := []) X lk_X3_82 rfl (by decide) rfl (C_X3_holds _) rfl rfl (Nat.le_of_ble_eq_true rfl) ⟨Nat.le_of_ble_eq_true rfl, Nat.le_of_ble_eq_true rfl⟩ ⟨Nat.le_of_ble_eq_true rfl, Nat.le_of_ble_eq_true rfl⟩ dX3_answer_78 ?_
    show KF E C 0 0 (st μ 16 0 0 3) 81 _ [.int (bp (3 = 0))]
    refine k_val (y := 0) (bp_f (by decide)) ?_
    refine k_if_ne_f (tgt := 86) X dX3_answer_81 (by decide) rfl ?_
    refine k_iconst X 0 dX3_answer_84 (by decide) ?_
    exact k_iret dX3_answer_85 hE rfl rfl

set_option maxHeartbeats 4000000 in
set_option maxRecDepth 100000 in
theorem F4_X3_answer {E : EE} {μ : Mem} (c : Nat) (dv cd : Int32) (hc : c < 20) (hv : vN (μ 25 0 c) 12) (hl : mlI μ c dv (tN (μ 25 0 c)) = -1) (h : ¬ (nI c < 0 ∨ μ 16 0 8 - 1 < nI c)) (hA : anOk dv cd) : MM E yX3_answer cX3_answer 7 (some .int) (rm 5 0) [.ref (ad E 16 0), .int (nI c), .int dv, .int cd] μ (some (.int 0)) (st μ 16 0 0 3) := by
  refine MM.int (own := RX3) [(0, .ref (ad E 16 0)), (1, .int (nI c)), (2, .int dv), (3, .int cd)] rfl rfl rfl (Nat.le_of_ble_eq_true rfl) rfl (fun C X hE => ?_)
  refine k_aload_n X 0 dX3_answer_0 rfl rfl ?_
  refine k_iload_n X 1 dX3_answer_1 rfl rfl ?_
  refine k_callV (a := 16) (o := 0) (As := [.int (nI c)]) (S := []) X lk_X3_126 rfl (by decide) rfl (C_X3_isCall _) rfl rfl (Nat.le_of_ble_eq_true rfl) ⟨Nat.le_of_ble_eq_true rfl, Nat.le_of_ble_eq_true rfl⟩ ⟨Nat.le_of_ble_eq_true rfl, Nat.le_of_ble_eq_true rfl⟩ dX3_answer_2 ?_
  show KF E C 0 0 μ 5 _ [.int (bp (¬ ((nI c) < 0 ∨ μ 16 0 8 - 1 < (nI c))))]
  refine k_val (y := 1) (bp_t h) ?_
  refine k_istore (L' := [(4, .int 1), (0, .ref (ad E 16 0)), (1, .int (nI c)), (2, .int dv), (3, .int cd)]) X dX3_answer_5 (by decide) rfl ?_
  refine k_iload_n X 3 dX3_answer_7 rfl rfl ?_
  refine k_iconst X 0 dX3_answer_8 (by decide) ?_
  refine k_bipush X 9 dX3_answer_9 (by decide) ?_
  refine k_callS (As := [.int dv, .int 0, .int 9]) (S := []) X lk_X3_63 (C_X3_isIn _ _ _) rfl rfl (Nat.le_of_ble_eq_true rfl) ⟨Nat.le_of_ble_eq_true rfl, Nat.le_of_ble_eq_true rfl⟩ ⟨Nat.le_of_ble_eq_true rfl, Nat.le_of_ble_eq_true rfl⟩ dX3_answer_11 ?_
  show KF E C 0 0 μ 14 _ [.int (bp (¬ (dv < 0 ∨ 9 < dv)))]
  refine k_val (y := 1) (bp_t hA.1) ?_
  refine k_if_eq_f (tgt := 41) X dX3_answer_14 (by decide) (by decide) ?_
  refine k_iload_n X 4 dX3_answer_17 rfl rfl ?_
  refine k_sipush X 180 dX3_answer_18 (by decide) ?_
  refine k_icmp_eq (tgt := 37) X dX3_answer_21 (by decide) (fun c21 => ?_) (fun c21 => ?_)
  · refine k_iconst X 1 dX3_answer_37 (by decide) ?_
    refine k_goto (tgt := 42) X dX3_answer_38 (by decide) ?_
    refine k_istore (L' := [(5, .int 1), (4, .int 1), (0, .ref (ad E 16 0)), (1, .int (nI c)), (2, .int dv), (3, .int cd)]) X dX3_answer_42 (by decide) rfl ?_
    refine k_aload_n X 2 dX3_answer_44 rfl rfl ?_
    refine k_iload X 1 dX3_answer_45 rfl ?_
    refine k_if_ne_t (tgt := 54) X dX3_answer_47 (by decide) (by decide) ?_
    refine k_iload X 0 dX3_answer_54 rfl ?_
    refine k_if_ne_t (tgt := 63) X dX3_answer_56 (by decide) (by decide) ?_
    refine k_aload_n X 2 dX3_answer_63 rfl rfl ?_
    refine k_iload_n X 3 dX3_answer_64 rfl rfl ?_
    refine k_iload_n X 4 dX3_answer_65 rfl rfl ?_
    refine k_iload_n X 5 dX3_answer_66 rfl rfl ?_
    refine k_callV (a := 16) (o := 0) (As := [.int (nI c), .int dv, .int cd]) (S := [.ref (ad E 16 0)]) X lk_X3_129 rfl (by decide) rfl (C_canAnswer_no c _ hc hv.1 hv.2 _ _ hl) rfl rfl (Nat.le_of_ble_eq_true rfl) ⟨Nat.le_of_ble_eq_true rfl, Nat.le_of_ble_eq_true rfl⟩ ⟨Nat.le_of_ble_eq_true rfl, Nat.le_of_ble_eq_true rfl⟩ dX3_answer_67 ?_
    show KF E C 0 0 μ 70 _ [.int 0, .ref (ad E 16 0)]
    refine k_if_eq_t (tgt := 77) X dX3_answer_70 (by decide) rfl ?_
    refine k_iconst X 3 dX3_answer_77 (by decide) ?_
    refine k_callV (a := 16) (o := 0) (As := [.int 3]) (S := []) X lk_X3_82 rfl (by decide) rfl (C_X3_holds _) rfl rfl (Nat.le_of_ble_eq_true rfl) ⟨Nat.le_of_ble_eq_true rfl, Nat.le_of_ble_eq_true rfl⟩ ⟨Nat.le_of_ble_eq_true rfl, Nat.le_of_ble_eq_true rfl⟩ dX3_answer_78 ?_
    show KF E C 0 0 (st μ 16 0 0 3) 81 _ [.int (bp (3 = 0))]
    refine k_val (y := 0) (bp_f (by decide)) ?_
    refine k_if_ne_f (tgt := 86) X dX3_answer_81 (by decide) rfl ?_
    refine k_iconst X 0 dX3_answer_84 (by decide) ?_
    exact k_iret dX3_answer_85 hE rfl rfl
  · refine k_iload_n X 4 dX3_answer_24 rfl rfl ?_
    refine k_sipush X 200 dX3_answer_25 (by decide) ?_
    refine k_sipush X 699 dX3_answer_28 (by decide) ?_
    refine k_callS (As := [.int cd, .int 200, .int 699]) (S := []) X lk_X3_63 (C_X3_isIn _ _ _) rfl rfl (Nat.le_of_ble_eq_true rfl) ⟨Nat.le_of_ble_eq_true rfl, Nat.le_of_ble_eq_true rfl⟩ ⟨Nat.le_of_ble_eq_true rfl, Nat.le_of_ble_eq_true rfl⟩ dX3_answer_31 ?_
    show KF E C 0 0 μ 34 _ [.int (bp (¬ (cd < 200 ∨ 699 < cd)))]
    refine k_val (y := 1) (bp_t (fun q => hA.2 ⟨c21, q⟩)) ?_
    refine k_if_eq_f (tgt := 41) X dX3_answer_34 (by decide) (by decide) ?_
    refine k_iconst X 1 dX3_answer_37 (by decide) ?_
    refine k_goto (tgt := 42) X dX3_answer_38 (by decide) ?_
    refine k_istore (L' := [(5, .int 1), (4, .int 1), (0, .ref (ad E 16 0)), (1, .int (nI c)), (2, .int dv), (3, .int cd)]) X dX3_answer_42 (by decide) rfl ?_
    refine k_aload_n X 2 dX3_answer_44 rfl rfl ?_
    refine k_iload X 1 dX3_answer_45 rfl ?_
    refine k_if_ne_t (tgt := 54) X dX3_answer_47 (by decide) (by decide) ?_
    refine k_iload X 0 dX3_answer_54 rfl ?_
    refine k_if_ne_t (tgt := 63) X dX3_answer_56 (by decide) (by decide) ?_
    refine k_aload_n X 2 dX3_answer_63 rfl rfl ?_
    refine k_iload_n X 3 dX3_answer_64 rfl rfl ?_
    refine k_iload_n X 4 dX3_answer_65 rfl rfl ?_
    refine k_iload_n X 5 dX3_answer_66 rfl rfl ?_
    refine k_callV (a := 16) (o := 0) (As := [.int (nI c), .int dv, .int cd]) (S := [.ref (ad E 16 0)]) X lk_X3_129 rfl (by decide) rfl (C_canAnswer_no c _ hc hv.1 hv.2 _ _ hl) rfl rfl (Nat.le_of_ble_eq_true rfl) ⟨Nat.le_of_ble_eq_true rfl, Nat.le_of_ble_eq_true rfl⟩ ⟨Nat.le_of_ble_eq_true rfl, Nat.le_of_ble_eq_true rfl⟩ dX3_answer_67 ?_
    show KF E C 0 0 μ 70 _ [.int 0, .ref (ad E 16 0)]
    refine k_if_eq_t (tgt := 77) X dX3_answer_70 (by decide) rfl ?_
    refine k_iconst X 3 dX3_answer_77 (by decide) ?_
    refine k_callV (a := 16) (o := 0) (As := [.int 3]) (S := []) X lk_X3_82 rfl (by decide) rfl (C_X3_holds _) rfl rfl (Nat.le_of_ble_eq_true rfl) ⟨Nat.le_of_ble_eq_true rfl, Nat.le_of_ble_eq_true rfl⟩ ⟨Nat.le_of_ble_eq_true rfl, Nat.le_of_ble_eq_true rfl⟩ dX3_answer_78 ?_
    show KF E C 0 0 (st μ 16 0 0 3) 81 _ [.int (bp (3 = 0))]
    refine k_val (y := 0) (bp_f (by decide)) ?_
    refine k_if_ne_f (tgt := 86) X dX3_answer_81 (by decide) rfl ?_
    refine k_iconst X 0 dX3_answer_84 (by decide) ?_
    exact k_iret dX3_answer_85 hE rfl rfl
