set_option maxHeartbeats 4000000 in
set_option maxRecDepth 100000 in
theorem C_X2_isOutside {E : EE} {μ : Mem} (v m : Int32) : MM E yX2_isOutside cX2_isOutside 2 (some .boolean) (rm 1 0) [.int v, .int m] μ (some (.int (bp (v < 0 ∨ m < v)))) μ := by
  refine MM.int (own := RX2) [(0, .int v), (1, .int m)] rfl rfl rfl (Nat.le_of_ble_eq_true rfl) bp_nar (fun C X hE => ?_)
  refine k_iload_n X 0 dX2_isOutside_0 rfl rfl ?_
  refine k_if_lt (tgt := 9) X dX2_isOutside_1 (by decide) (fun c1 => ?_) (fun c1 => ?_)
  · refine k_iconst X 1 dX2_isOutside_9 (by decide) ?_
    refine k_goto (tgt := 14) X dX2_isOutside_10 (by decide) ?_
    exact k_iret dX2_isOutside_14 hE (bp_t (Or.inl c1)).symm rfl
  · refine k_iload_n X 0 dX2_isOutside_4 rfl rfl ?_
    refine k_iload_n X 1 dX2_isOutside_5 rfl rfl ?_
    refine k_icmp_le (tgt := 13) X dX2_isOutside_6 (by decide) (fun c6 => ?_) (fun c6 => ?_)
    · refine k_iconst X 0 dX2_isOutside_13 (by decide) ?_
      exact k_iret dX2_isOutside_14 hE (bp_f (fun h => h.elim c1 (fun q => Int32.not_lt.mpr c6 q))).symm rfl
    · refine k_iconst X 1 dX2_isOutside_9 (by decide) ?_
      refine k_goto (tgt := 14) X dX2_isOutside_10 (by decide) ?_
      exact k_iret dX2_isOutside_14 hE (bp_t (Or.inr (Int32.not_le.mp c6))).symm rfl

set_option maxHeartbeats 4000000 in
set_option maxRecDepth 100000 in
theorem C_X2_isNoAnswer {E : EE} {μ : Mem} (x : Int32) : MM E yX2_isNoAnswer cX2_isNoAnswer 1 (some .boolean) (rm 1 0) [.int x] μ (some (.int (bp (¬ x = 180 ∧ (x < 200 ∨ 699 < x))))) μ := by
  refine MM.int (own := RX2) [(0, .int x)] rfl rfl rfl (Nat.le_of_ble_eq_true rfl) bp_nar (fun C X hE => ?_)
  refine k_iload_n X 0 dX2_isNoAnswer_0 rfl rfl ?_
  refine k_sipush X 180 dX2_isNoAnswer_1 (by decide) ?_
  refine k_icmp_eq (tgt := 25) X dX2_isNoAnswer_4 (by decide) (fun c4 => ?_) (fun c4 => ?_)
  · refine k_iconst X 0 dX2_isNoAnswer_25 (by decide) ?_
    exact k_iret dX2_isNoAnswer_26 hE (bp_f (fun h => h.1 c4)).symm rfl
  · refine k_iload_n X 0 dX2_isNoAnswer_7 rfl rfl ?_
    refine k_sipush X 200 dX2_isNoAnswer_8 (by decide) ?_
    refine k_icmp_lt (tgt := 21) X dX2_isNoAnswer_11 (by decide) (fun c11 => ?_) (fun c11 => ?_)
    · refine k_iconst X 1 dX2_isNoAnswer_21 (by decide) ?_
      refine k_goto (tgt := 26) X dX2_isNoAnswer_22 (by decide) ?_
      exact k_iret dX2_isNoAnswer_26 hE (bp_t ⟨c4, Or.inl c11⟩).symm rfl
    · refine k_iload_n X 0 dX2_isNoAnswer_14 rfl rfl ?_
      refine k_sipush X 699 dX2_isNoAnswer_15 (by decide) ?_
      refine k_icmp_le (tgt := 25) X dX2_isNoAnswer_18 (by decide) (fun c18 => ?_) (fun c18 => ?_)
      · refine k_iconst X 0 dX2_isNoAnswer_25 (by decide) ?_
        exact k_iret dX2_isNoAnswer_26 hE (bp_f (fun h => h.2.elim c11 (fun q => Int32.not_lt.mpr c18 q))).symm rfl
      · refine k_iconst X 1 dX2_isNoAnswer_21 (by decide) ?_
        refine k_goto (tgt := 26) X dX2_isNoAnswer_22 (by decide) ?_
        exact k_iret dX2_isNoAnswer_26 hE (bp_t ⟨c4, Or.inr (Int32.not_le.mp c18)⟩).symm rfl

set_option maxHeartbeats 4000000 in
set_option maxRecDepth 100000 in
theorem C_X2_rowOf {E : EE} {μ : Mem} (x : Int32) (hx : okU x) : MM E yX2_rowOf cX2_rowOf 2 (some (.object "CallForker$BindingRow")) (rm 2 0) [.ref (ad E 0 0), .int x] μ (some (.ref (ad E 6 (tN x)))) μ := by
  refine MM.ref (own := RX2) [(0, .ref (ad E 0 0)), (1, .int x)] rfl rfl rfl (Nat.le_of_ble_eq_true rfl) (fun C X hE => ?_)
  refine k_iload_n X 1 dX2_rowOf_0 rfl rfl ?_
  refine k_iconst X 5 dX2_rowOf_1 (by decide) ?_
  refine k_callS (As := [.int x, .int 5]) (S := []) X lk_X2_44 (C_X2_isOutside _ _) rfl rfl (Nat.le_of_ble_eq_true rfl) ⟨Nat.le_of_ble_eq_true rfl, Nat.le_of_ble_eq_true rfl⟩ ⟨Nat.le_of_ble_eq_true rfl, Nat.le_of_ble_eq_true rfl⟩ dX2_rowOf_2 ?_
  show KF E C 0 0 μ 5 _ [.int (bp (x < 0 ∨ 5 < x))]
  refine k_if_eq_p (tgt := 18) X dX2_rowOf_5 (by decide) (fun c5 => ?_) (fun c5 => ?_)
  · refine k_aload_n X 0 dX2_rowOf_18 rfl rfl ?_
    refine gt_X2_11 X dX2_rowOf_19 ?_
    refine k_iload_n X 1 dX2_rowOf_22 rfl rfl ?_
    refine k_rald (j := (tN x)) X (okU_n c5).1 (okU_n c5).2 dX2_rowOf_23 ?_
    exact k_aret dX2_rowOf_24 hE rfl
  · exact (hx c5).elim

set_option maxHeartbeats 4000000 in
set_option maxRecDepth 100000 in
theorem C_X2_callAt {E : EE} {μ : Mem} (x : Int32) (hK : vN (μ 0 0 5) 20) (hx : okC μ x) : MM E yX2_callAt cX2_callAt 2 (some (.object "CallForker$Call")) (rm 2 0) [.ref (ad E 0 0), .int x] μ (some (.ref (ad E 11 (tN x)))) μ := by
  refine MM.ref (own := RX2) [(0, .ref (ad E 0 0)), (1, .int x)] rfl rfl rfl (Nat.le_of_ble_eq_true rfl) (fun C X hE => ?_)
  refine k_iload_n X 1 dX2_callAt_0 rfl rfl ?_
  refine k_aload_n X 0 dX2_callAt_1 rfl rfl ?_
  refine gt_X2_31 X dX2_callAt_2 ?_
  refine k_iconst X 1 dX2_callAt_5 (by decide) ?_
  refine k_isub X dX2_callAt_6 ?_
  refine k_callS (As := [.int x, .int ((μ 0 0 5) - 1)]) (S := []) X lk_X2_44 (C_X2_isOutside _ _) rfl rfl (Nat.le_of_ble_eq_true rfl) ⟨Nat.le_of_ble_eq_true rfl, Nat.le_of_ble_eq_true rfl⟩ ⟨Nat.le_of_ble_eq_true rfl, Nat.le_of_ble_eq_true rfl⟩ dX2_callAt_7 ?_
  show KF E C 0 0 μ 10 _ [.int (bp (x < 0 ∨ ((μ 0 0 5) - 1) < x))]
  refine k_if_eq_p (tgt := 23) X dX2_callAt_10 (by decide) (fun c10 => ?_) (fun c10 => ?_)
  · refine k_aload_n X 0 dX2_callAt_23 rfl rfl ?_
    refine gt_X2_17 X dX2_callAt_24 ?_
    refine k_iload_n X 1 dX2_callAt_27 rfl rfl ?_
    refine k_cald (j := (tN x)) X (okC_n hK c10).1 (okC_n hK c10).2.2 dX2_callAt_28 ?_
    exact k_aret dX2_callAt_29 hE rfl
  · exact (hx c10).elim

set_option maxHeartbeats 4000000 in
set_option maxRecDepth 100000 in
theorem C_X2_callWith {E : EE} {μ : Mem} (x y : Int32) (hK : vN (μ 0 0 5) 20) (hx : okC μ x) (hy : okB μ x y) : MM E yX2_callWith cX2_callWith 4 (some (.object "CallForker$Call")) (rm 3 0) [.ref (ad E 0 0), .int x, .int y] μ (some (.ref (ad E 11 (tN x)))) μ := by
  refine MM.ref (own := RX2) [(0, .ref (ad E 0 0)), (1, .int x), (2, .int y)] rfl rfl rfl (Nat.le_of_ble_eq_true rfl) (fun C X hE => ?_)
  refine k_aload_n X 0 dX2_callWith_0 rfl rfl ?_
  refine k_iload_n X 1 dX2_callWith_1 rfl rfl ?_
  refine k_callV (a := 0) (o := 0) (As := [.int x]) (S := []) X lk_X2_102 rfl (by decide) rfl (C_X2_callAt _ hK hx) rfl rfl (Nat.le_of_ble_eq_true rfl) ⟨Nat.le_of_ble_eq_true rfl, Nat.le_of_ble_eq_true rfl⟩ ⟨Nat.le_of_ble_eq_true rfl, Nat.le_of_ble_eq_true rfl⟩ dX2_callWith_2 ?_
  show KF E C 0 0 μ 5 _ [.ref (ad E 11 (tN x))]
  have hc := (okC_n hK hx).2.2
  refine k_astore_n (L' := [(3, .ref (ad E 11 (tN x))), (0, .ref (ad E 0 0)), (1, .int x), (2, .int y)]) X dX2_callWith_5 rfl (by decide) rfl ?_
  refine k_iload_n X 3 dX2_callWith_6 rfl rfl ?_
  refine k_aload_n X 0 dX2_callWith_7 rfl rfl ?_
  refine gn_X2_158 X hc dX2_callWith_8 ?_
  refine k_iconst X 1 dX2_callWith_11 (by decide) ?_
  refine k_isub X dX2_callWith_12 ?_
  refine k_callS (As := [.int y, .int ((μ 11 (tN x) 4) - 1)]) (S := []) X lk_X2_44 (C_X2_isOutside _ _) rfl rfl (Nat.le_of_ble_eq_true rfl) ⟨Nat.le_of_ble_eq_true rfl, Nat.le_of_ble_eq_true rfl⟩ ⟨Nat.le_of_ble_eq_true rfl, Nat.le_of_ble_eq_true rfl⟩ dX2_callWith_13 ?_
  show KF E C 0 0 μ 16 _ [.int (bp (y < 0 ∨ ((μ 11 (tN x) 4) - 1) < y))]
  refine k_if_eq_p (tgt := 29) X dX2_callWith_16 (by decide) (fun c16 => ?_) (fun c16 => ?_)
  · refine k_aload_n X 0 dX2_callWith_29 rfl rfl ?_
    exact k_aret dX2_callWith_30 hE rfl
  · exact (hy c16).elim

set_option maxHeartbeats 4000000 in
set_option maxRecDepth 100000 in
theorem C_X2_time {E : EE} {μ : Mem}  : MM E yX2_time cX2_time 1 (some .int) (rm 1 0) [.ref (ad E 0 0)] μ (some (.int (μ 0 0 6))) μ := by
  refine MM.int (own := RX2) [(0, .ref (ad E 0 0))] rfl rfl rfl (Nat.le_of_ble_eq_true rfl) rfl (fun C X hE => ?_)
  refine k_aload_n X 0 dX2_time_0 rfl rfl ?_
  refine gt_X2_35 X dX2_time_1 ?_
  exact k_iret dX2_time_4 hE rfl rfl

set_option maxHeartbeats 4000000 in
set_option maxRecDepth 100000 in
theorem C_X2_calls {E : EE} {μ : Mem}  : MM E yX2_calls cX2_calls 1 (some .int) (rm 1 0) [.ref (ad E 0 0)] μ (some (.int (μ 0 0 5))) μ := by
  refine MM.int (own := RX2) [(0, .ref (ad E 0 0))] rfl rfl rfl (Nat.le_of_ble_eq_true rfl) rfl (fun C X hE => ?_)
  refine k_aload_n X 0 dX2_calls_0 rfl rfl ?_
  refine gt_X2_31 X dX2_calls_1 ?_
  exact k_iret dX2_calls_4 hE rfl rfl

set_option maxHeartbeats 4000000 in
set_option maxRecDepth 100000 in
theorem C_X2_finalOf {E : EE} {μ : Mem} (x : Int32) (hK : vN (μ 0 0 5) 20) (hx : okC μ x) : MM E yX2_finalOf cX2_finalOf 2 (some .int) (rm 3 0) [.ref (ad E 0 0), .int x] μ (some (.int (μ 11 (tN x) 8))) μ := by
  refine MM.int (own := RX2) [(0, .ref (ad E 0 0)), (1, .int x)] rfl rfl rfl (Nat.le_of_ble_eq_true rfl) rfl (fun C X hE => ?_)
  refine k_aload_n X 0 dX2_finalOf_0 rfl rfl ?_
  refine k_iload_n X 1 dX2_finalOf_1 rfl rfl ?_
  refine k_callV (a := 0) (o := 0) (As := [.int x]) (S := []) X lk_X2_102 rfl (by decide) rfl (C_X2_callAt _ hK hx) rfl rfl (Nat.le_of_ble_eq_true rfl) ⟨Nat.le_of_ble_eq_true rfl, Nat.le_of_ble_eq_true rfl⟩ ⟨Nat.le_of_ble_eq_true rfl, Nat.le_of_ble_eq_true rfl⟩ dX2_finalOf_2 ?_
  show KF E C 0 0 μ 5 _ [.ref (ad E 11 (tN x))]
  have hc := (okC_n hK hx).2.2
  refine gn_X2_138 X hc dX2_finalOf_5 ?_
  exact k_iret dX2_finalOf_8 hE rfl rfl

set_option maxHeartbeats 4000000 in
set_option maxRecDepth 100000 in
theorem C_X2_branches {E : EE} {μ : Mem} (x : Int32) (hK : vN (μ 0 0 5) 20) (hx : okC μ x) : MM E yX2_branches cX2_branches 2 (some .int) (rm 3 0) [.ref (ad E 0 0), .int x] μ (some (.int (μ 11 (tN x) 4))) μ := by
  refine MM.int (own := RX2) [(0, .ref (ad E 0 0)), (1, .int x)] rfl rfl rfl (Nat.le_of_ble_eq_true rfl) rfl (fun C X hE => ?_)
  refine k_aload_n X 0 dX2_branches_0 rfl rfl ?_
  refine k_iload_n X 1 dX2_branches_1 rfl rfl ?_
  refine k_callV (a := 0) (o := 0) (As := [.int x]) (S := []) X lk_X2_102 rfl (by decide) rfl (C_X2_callAt _ hK hx) rfl rfl (Nat.le_of_ble_eq_true rfl) ⟨Nat.le_of_ble_eq_true rfl, Nat.le_of_ble_eq_true rfl⟩ ⟨Nat.le_of_ble_eq_true rfl, Nat.le_of_ble_eq_true rfl⟩ dX2_branches_2 ?_
  show KF E C 0 0 μ 5 _ [.ref (ad E 11 (tN x))]
  have hc := (okC_n hK hx).2.2
  refine gn_X2_158 X hc dX2_branches_5 ?_
  exact k_iret dX2_branches_8 hE rfl rfl

set_option maxHeartbeats 4000000 in
set_option maxRecDepth 100000 in
theorem C_X2_answered {E : EE} {μ : Mem} (x : Int32) (hK : vN (μ 0 0 5) 20) (hx : okC μ x) : MM E yX2_answered cX2_answered 2 (some .int) (rm 3 0) [.ref (ad E 0 0), .int x] μ (some (.int (μ 11 (tN x) 7))) μ := by
  refine MM.int (own := RX2) [(0, .ref (ad E 0 0)), (1, .int x)] rfl rfl rfl (Nat.le_of_ble_eq_true rfl) rfl (fun C X hE => ?_)
  refine k_aload_n X 0 dX2_answered_0 rfl rfl ?_
  refine k_iload_n X 1 dX2_answered_1 rfl rfl ?_
  refine k_callV (a := 0) (o := 0) (As := [.int x]) (S := []) X lk_X2_102 rfl (by decide) rfl (C_X2_callAt _ hK hx) rfl rfl (Nat.le_of_ble_eq_true rfl) ⟨Nat.le_of_ble_eq_true rfl, Nat.le_of_ble_eq_true rfl⟩ ⟨Nat.le_of_ble_eq_true rfl, Nat.le_of_ble_eq_true rfl⟩ dX2_answered_2 ?_
  show KF E C 0 0 μ 5 _ [.ref (ad E 11 (tN x))]
  have hc := (okC_n hK hx).2.2
  refine gn_X2_171 X hc dX2_answered_5 ?_
  exact k_iret dX2_answered_8 hE rfl rfl

set_option maxHeartbeats 4000000 in
set_option maxRecDepth 100000 in
theorem C_X2_device {E : EE} {μ : Mem} (x y : Int32) (hK : vN (μ 0 0 5) 20) (hn : ∀ c, c < 20 → vN (μ 11 c 4) 12) (hx : okC μ x) (hy : okB μ x y) : MM E yX2_device cX2_device 3 (some .int) (rm 4 0) [.ref (ad E 0 0), .int x, .int y] μ (some (.int (μ 12 (tN x) (tN y)))) μ := by
  refine MM.int (own := RX2) [(0, .ref (ad E 0 0)), (1, .int x), (2, .int y)] rfl rfl rfl (Nat.le_of_ble_eq_true rfl) rfl (fun C X hE => ?_)
  refine k_aload_n X 0 dX2_device_0 rfl rfl ?_
  refine k_iload_n X 1 dX2_device_1 rfl rfl ?_
  refine k_iload_n X 2 dX2_device_2 rfl rfl ?_
  refine k_callV (a := 0) (o := 0) (As := [.int x, .int y]) (S := []) X lk_X2_161 rfl (by decide) rfl (C_X2_callWith _ _ hK hx hy) rfl rfl (Nat.le_of_ble_eq_true rfl) ⟨Nat.le_of_ble_eq_true rfl, Nat.le_of_ble_eq_true rfl⟩ ⟨Nat.le_of_ble_eq_true rfl, Nat.le_of_ble_eq_true rfl⟩ dX2_device_3 ?_
  show KF E C 0 0 μ 6 _ [.ref (ad E 11 (tN x))]
  have hc := (okC_n hK hx).2.2
  have hb := okB_n (hn _ hc) hy
  refine gn_X2_165 X hc dX2_device_6 ?_
  refine k_iload_n X 2 dX2_device_9 rfl rfl ?_
  refine k_iald (a := 12) (j := (tN y)) X rfl hc hb.1 hb.2.2 (by decide) dX2_device_10 ?_
  exact k_iret dX2_device_11 hE rfl rfl

set_option maxHeartbeats 4000000 in
set_option maxRecDepth 100000 in
theorem C_X2_state {E : EE} {μ : Mem} (x y : Int32) (hK : vN (μ 0 0 5) 20) (hn : ∀ c, c < 20 → vN (μ 11 c 4) 12) (hx : okC μ x) (hy : okB μ x y) : MM E yX2_state cX2_state 3 (some .int) (rm 4 0) [.ref (ad E 0 0), .int x, .int y] μ (some (.int (μ 14 (tN x) (tN y)))) μ := by
  refine MM.int (own := RX2) [(0, .ref (ad E 0 0)), (1, .int x), (2, .int y)] rfl rfl rfl (Nat.le_of_ble_eq_true rfl) rfl (fun C X hE => ?_)
  refine k_aload_n X 0 dX2_state_0 rfl rfl ?_
  refine k_iload_n X 1 dX2_state_1 rfl rfl ?_
  refine k_iload_n X 2 dX2_state_2 rfl rfl ?_
  refine k_callV (a := 0) (o := 0) (As := [.int x, .int y]) (S := []) X lk_X2_161 rfl (by decide) rfl (C_X2_callWith _ _ hK hx hy) rfl rfl (Nat.le_of_ble_eq_true rfl) ⟨Nat.le_of_ble_eq_true rfl, Nat.le_of_ble_eq_true rfl⟩ ⟨Nat.le_of_ble_eq_true rfl, Nat.le_of_ble_eq_true rfl⟩ dX2_state_3 ?_
  show KF E C 0 0 μ 6 _ [.ref (ad E 11 (tN x))]
  have hc := (okC_n hK hx).2.2
  have hb := okB_n (hn _ hc) hy
  refine gn_X2_168 X hc dX2_state_6 ?_
  refine k_iload_n X 2 dX2_state_9 rfl rfl ?_
  refine k_iald (a := 14) (j := (tN y)) X rfl hc hb.1 hb.2.2 (by decide) dX2_state_10 ?_
  exact k_iret dX2_state_11 hE rfl rfl

set_option maxHeartbeats 4000000 in
set_option maxRecDepth 100000 in
theorem C_X2_hungUp {E : EE} {μ : Mem} (x : Int32) (hx : ¬ (x < 0 ∨ 9 < x)) : MM E yX2_hungUp cX2_hungUp 2 (some .int) (rm 2 0) [.ref (ad E 0 0), .int x] μ (some (.int (μ 3 0 (tN x)))) μ := by
  refine MM.int (own := RX2) [(0, .ref (ad E 0 0)), (1, .int x)] rfl rfl rfl (Nat.le_of_ble_eq_true rfl) rfl (fun C X hE => ?_)
  refine k_iload_n X 1 dX2_hungUp_0 rfl rfl ?_
  refine k_bipush X 9 dX2_hungUp_1 (by decide) ?_
  refine k_callS (As := [.int x, .int 9]) (S := []) X lk_X2_44 (C_X2_isOutside _ _) rfl rfl (Nat.le_of_ble_eq_true rfl) ⟨Nat.le_of_ble_eq_true rfl, Nat.le_of_ble_eq_true rfl⟩ ⟨Nat.le_of_ble_eq_true rfl, Nat.le_of_ble_eq_true rfl⟩ dX2_hungUp_3 ?_
  show KF E C 0 0 μ 6 _ [.int (bp (x < 0 ∨ 9 < x))]
  refine k_if_eq_p (tgt := 19) X dX2_hungUp_6 (by decide) (fun c6 => ?_) (fun c6 => ?_)
  · refine k_aload_n X 0 dX2_hungUp_19 rfl rfl ?_
    refine gt_X2_21 X dX2_hungUp_20 ?_
    refine k_iload_n X 1 dX2_hungUp_23 rfl rfl ?_
    refine k_iald (a := 3) (j := (tN x)) X rfl (by decide) (outP_n (m := 9) (by decide) c6).1 (show tN x < 10 from Nat.lt_succ_of_le (outP_n (m := 9) (by decide) c6).2) (by decide) dX2_hungUp_24 ?_
    exact k_iret dX2_hungUp_25 hE rfl rfl
  · exact (hx c6).elim

set_option maxHeartbeats 4000000 in
set_option maxRecDepth 100000 in
theorem C_X2_bindings {E : EE} {μ : Mem} (x : Int32) (hx : okU x) : MM E yX2_bindings cX2_bindings 2 (some .int) (rm 4 0) [.ref (ad E 0 0), .int x] μ (some (.int (nI (coN μ (tN x) (-1) (μ 0 0 6))))) μ := by
  refine MM.int (own := RX2) [(0, .ref (ad E 0 0)), (1, .int x)] rfl rfl rfl (Nat.le_of_ble_eq_true rfl) rfl (fun C X hE => ?_)
  refine k_aload_n X 0 dX2_bindings_0 rfl rfl ?_
  refine k_iload_n X 1 dX2_bindings_1 rfl rfl ?_
  refine k_callV (a := 0) (o := 0) (As := [.int x]) (S := []) X lk_X2_40 rfl (by decide) rfl (C_X2_rowOf _ hx) rfl rfl (Nat.le_of_ble_eq_true rfl) ⟨Nat.le_of_ble_eq_true rfl, Nat.le_of_ble_eq_true rfl⟩ ⟨Nat.le_of_ble_eq_true rfl, Nat.le_of_ble_eq_true rfl⟩ dX2_bindings_2 ?_
  show KF E C 0 0 μ 5 _ [.ref (ad E 6 (tN x))]
  have hu := (okU_n hx).2
  refine k_aload_n X 0 dX2_bindings_5 rfl rfl ?_
  refine gt_X2_35 X dX2_bindings_6 ?_
  refine k_callV (a := 6) (o := (tN x)) (As := [.int (μ 0 0 6)]) (S := []) X lk_X2_75 rfl hu rfl (C_X0_count (tN x) _ hu) rfl rfl (Nat.le_of_ble_eq_true rfl) ⟨Nat.le_of_ble_eq_true rfl, Nat.le_of_ble_eq_true rfl⟩ ⟨Nat.le_of_ble_eq_true rfl, Nat.le_of_ble_eq_true rfl⟩ dX2_bindings_9 ?_
  show KF E C 0 0 μ 12 _ [.int (nI (coN μ (tN x) (-1) (μ 0 0 6)))]
  exact k_iret dX2_bindings_12 hE rfl rfl

set_option maxHeartbeats 4000000 in
set_option maxRecDepth 100000 in
theorem C_X2_binding {E : EE} {μ : Mem} (x y : Int32) (hB : BI μ) (hx : okU x) (hy : ¬ taI μ (tN x) (tN (μ 6 (tN x) 4)) y (μ 0 0 6) = -1) : MM E yX2_binding cX2_binding 5 (some .int) (rm 3 0) [.ref (ad E 0 0), .int x, .int y] μ (some (.int (100 * (taI μ (tN x) (tN (μ 6 (tN x) 4)) y (μ 0 0 6)) + μ 7 (tN x) (tN (taI μ (tN x) (tN (μ 6 (tN x) 4)) y (μ 0 0 6)))))) μ := by
  refine MM.int (own := RX2) [(0, .ref (ad E 0 0)), (1, .int x), (2, .int y)] rfl rfl rfl (Nat.le_of_ble_eq_true rfl) rfl (fun C X hE => ?_)
  refine k_aload_n X 0 dX2_binding_0 rfl rfl ?_
  refine k_iload_n X 1 dX2_binding_1 rfl rfl ?_
  refine k_callV (a := 0) (o := 0) (As := [.int x]) (S := []) X lk_X2_40 rfl (by decide) rfl (C_X2_rowOf _ hx) rfl rfl (Nat.le_of_ble_eq_true rfl) ⟨Nat.le_of_ble_eq_true rfl, Nat.le_of_ble_eq_true rfl⟩ ⟨Nat.le_of_ble_eq_true rfl, Nat.le_of_ble_eq_true rfl⟩ dX2_binding_2 ?_
  show KF E C 0 0 μ 5 _ [.ref (ad E 6 (tN x))]
  have hu := (okU_n hx).2
  refine k_astore_n (L' := [(3, .ref (ad E 6 (tN x))), (0, .ref (ad E 0 0)), (1, .int x), (2, .int y)]) X dX2_binding_5 rfl (by decide) rfl ?_
  refine k_aload_n X 0 dX2_binding_6 rfl rfl ?_
  refine k_iload_n X 3 dX2_binding_7 rfl rfl ?_
  refine k_aload_n X 1 dX2_binding_8 rfl rfl ?_
  refine gt_X2_35 X dX2_binding_9 ?_
  refine k_callV (a := 6) (o := (tN x)) (As := [.int y, .int (μ 0 0 6)]) (S := []) X lk_X2_79 rfl hu rfl (C_X0_targetAt (tN x) _ _ _ hu (hB _ hu).1.1 (hB _ hu).1.2 (hB _ hu).2) rfl rfl (Nat.le_of_ble_eq_true rfl) ⟨Nat.le_of_ble_eq_true rfl, Nat.le_of_ble_eq_true rfl⟩ ⟨Nat.le_of_ble_eq_true rfl, Nat.le_of_ble_eq_true rfl⟩ dX2_binding_12 ?_
  show KF E C 0 0 μ 15 _ [.int (taI μ (tN x) (tN (μ 6 (tN x) 4)) y (μ 0 0 6))]
  refine k_istore (L' := [(4, .int (taI μ (tN x) (tN (μ 6 (tN x) 4)) y (μ 0 0 6))), (3, .ref (ad E 6 (tN x))), (0, .ref (ad E 0 0)), (1, .int x), (2, .int y)]) X dX2_binding_15 (by decide) rfl ?_
  refine k_iload X 0 dX2_binding_17 rfl ?_
  refine k_iconst X (-1) dX2_binding_19 (by decide) ?_
  refine k_icmp_ne (tgt := 33) X dX2_binding_20 (by decide) (fun c20 => ?_) (fun c20 => ?_)
  · refine k_bipush X 100 dX2_binding_33 (by decide) ?_
    refine k_iload X 0 dX2_binding_35 rfl ?_
    refine k_imul X dX2_binding_37 ?_
    refine k_aload_n X 1 dX2_binding_38 rfl rfl ?_
    refine gn_X2_87 X hu dX2_binding_39 ?_
    refine k_iload X 0 dX2_binding_42 rfl ?_
    refine k_iald (a := 7) (j := (tN (taI μ (tN x) (tN (μ 6 (tN x) 4)) y (μ 0 0 6)))) X rfl hu (taI_v (hB _ hu).2 c20).1 (show tN (taI μ (tN x) (tN (μ 6 (tN x) 4)) y (μ 0 0 6)) < 16 from Nat.lt_succ_of_le (taI_v (hB _ hu).2 c20).2) (by decide) dX2_binding_44 ?_
    refine k_iadd X dX2_binding_45 ?_
    exact k_iret dX2_binding_46 hE rfl rfl
  · exact (hy c20).elim

set_option maxHeartbeats 4000000 in
set_option maxRecDepth 100000 in
theorem C_X2_register {E : EE} {μ : Mem} (x tg q tk sq : Int32) (hB : BI μ) (hx : okU x) (hr : rgOk tg q tk sq) (hr2 : rgOk2 μ (tN x) tg tk sq) : MM E yX2_register cX2_register 7 (some .int) (rm 4 0) [.ref (ad E 0 0), .int x, .int tg, .int q, .int tk, .int sq] μ (some (.int (nI (coN (rgM' μ (tN x) tg q tk sq) (tN x) (-1) ((rgM' μ (tN x) tg q tk sq) 0 0 6))))) (rgM' μ (tN x) tg q tk sq) := by
  refine MM.int (own := RX2) [(0, .ref (ad E 0 0)), (1, .int x), (2, .int tg), (3, .int q), (4, .int tk), (5, .int sq)] rfl rfl rfl (Nat.le_of_ble_eq_true rfl) rfl (fun C X hE => ?_)
  refine k_aload_n X 0 dX2_register_0 rfl rfl ?_
  refine k_iload_n X 1 dX2_register_1 rfl rfl ?_
  refine k_callV (a := 0) (o := 0) (As := [.int x]) (S := []) X lk_X2_40 rfl (by decide) rfl (C_X2_rowOf _ hx) rfl rfl (Nat.le_of_ble_eq_true rfl) ⟨Nat.le_of_ble_eq_true rfl, Nat.le_of_ble_eq_true rfl⟩ ⟨Nat.le_of_ble_eq_true rfl, Nat.le_of_ble_eq_true rfl⟩ dX2_register_2 ?_
  show KF E C 0 0 μ 5 _ [.ref (ad E 6 (tN x))]
  have hu := (okU_n hx).2
  refine k_astore (L' := [(6, .ref (ad E 6 (tN x))), (0, .ref (ad E 0 0)), (1, .int x), (2, .int tg), (3, .int q), (4, .int tk), (5, .int sq)]) X dX2_register_5 (by decide) rfl ?_
  refine k_iload_n X 3 dX2_register_7 rfl rfl ?_
  refine k_bipush X 15 dX2_register_8 (by decide) ?_
  refine k_callS (As := [.int tg, .int 15]) (S := []) X lk_X2_44 (C_X2_isOutside _ _) rfl rfl (Nat.le_of_ble_eq_true rfl) ⟨Nat.le_of_ble_eq_true rfl, Nat.le_of_ble_eq_true rfl⟩ ⟨Nat.le_of_ble_eq_true rfl, Nat.le_of_ble_eq_true rfl⟩ dX2_register_10 ?_
  show KF E C 0 0 μ 13 _ [.int (bp (tg < 0 ∨ 15 < tg))]
  refine k_if_ne_p (tgt := 25) X dX2_register_13 (by decide) (fun c13 => ?_) (fun c13 => ?_)
  · exact (hr.1 c13).elim
  · refine k_iload_n X 4 dX2_register_16 rfl rfl ?_
    refine k_bipush X 10 dX2_register_17 (by decide) ?_
    refine k_callS (As := [.int q, .int 10]) (S := []) X lk_X2_44 (C_X2_isOutside _ _) rfl rfl (Nat.le_of_ble_eq_true rfl) ⟨Nat.le_of_ble_eq_true rfl, Nat.le_of_ble_eq_true rfl⟩ ⟨Nat.le_of_ble_eq_true rfl, Nat.le_of_ble_eq_true rfl⟩ dX2_register_19 ?_
    show KF E C 0 0 μ 22 _ [.int (bp (q < 0 ∨ 10 < q))]
    refine k_if_eq_p (tgt := 35) X dX2_register_22 (by decide) (fun c22 => ?_) (fun c22 => ?_)
    · refine k_iload X 5 dX2_register_35 rfl ?_
      refine k_sipush X 1000 dX2_register_37 (by decide) ?_
      refine k_callS (As := [.int tk, .int 1000]) (S := []) X lk_X2_44 (C_X2_isOutside _ _) rfl rfl (Nat.le_of_ble_eq_true rfl) ⟨Nat.le_of_ble_eq_true rfl, Nat.le_of_ble_eq_true rfl⟩ ⟨Nat.le_of_ble_eq_true rfl, Nat.le_of_ble_eq_true rfl⟩ dX2_register_40 ?_
      show KF E C 0 0 μ 43 _ [.int (bp (tk < 0 ∨ 1000 < tk))]
      refine k_if_ne_p (tgt := 57) X dX2_register_43 (by decide) (fun c43 => ?_) (fun c43 => ?_)
      · exact (hr.2.2.1 c43).elim
      · refine k_iload X 6 dX2_register_46 rfl ?_
        refine k_sipush X 10000 dX2_register_48 (by decide) ?_
        refine k_callS (As := [.int sq, .int 10000]) (S := []) X lk_X2_44 (C_X2_isOutside _ _) rfl rfl (Nat.le_of_ble_eq_true rfl) ⟨Nat.le_of_ble_eq_true rfl, Nat.le_of_ble_eq_true rfl⟩ ⟨Nat.le_of_ble_eq_true rfl, Nat.le_of_ble_eq_true rfl⟩ dX2_register_51 ?_
        show KF E C 0 0 μ 54 _ [.int (bp (sq < 0 ∨ 10000 < sq))]
        refine k_if_eq_p (tgt := 67) X dX2_register_54 (by decide) (fun c54 => ?_) (fun c54 => ?_)
        · refine k_iload X 6 dX2_register_67 rfl ?_
          refine k_aload X 0 dX2_register_69 rfl ?_
          refine gn_X2_57 X hu dX2_register_71 ?_
          refine k_iload_n X 3 dX2_register_74 rfl rfl ?_
          refine k_iald (a := 9) (j := (tN tg)) X rfl hu (outP_n (m := 15) (by decide) c13).1 (show tN tg < 16 from Nat.lt_succ_of_le (outP_n (m := 15) (by decide) c13).2) (by decide) dX2_register_75 ?_
          refine k_icmp_gt (tgt := 89) X dX2_register_76 (by decide) (fun c76 => ?_) (fun c76 => ?_)
          · refine k_iload X 5 dX2_register_89 rfl ?_
            refine k_if_eq (tgt := 119) X dX2_register_91 (by decide) (fun c91 => ?_) (fun c91 => ?_)
            · refine k_aload X 0 dX2_register_119 rfl ?_
              refine k_iload_n X 3 dX2_register_121 rfl rfl ?_
              refine k_iload_n X 4 dX2_register_122 rfl rfl ?_
              refine k_aload_n X 1 dX2_register_123 rfl rfl ?_
              refine gt_X2_35 X dX2_register_124 ?_
              refine k_iload X 5 dX2_register_127 rfl ?_
              refine k_iadd X dX2_register_129 ?_
              refine k_iload X 6 dX2_register_130 rfl ?_
              refine k_callV (a := 6) (o := (tN x)) (As := [.int tg, .int q, .int ((μ 0 0 6) + tk), .int sq]) (S := []) X lk_X2_71 rfl hu rfl (C_X0_put (tN x) _ (tN tg) _ _ _ _ hu (hB _ hu).1.1 (hB _ hu).1.2 (Nat.lt_succ_of_le (outP_n (m := 15) (by decide) c13).2) (outP_n (m := 15) (by decide) c13).1) rfl rfl (Nat.le_of_ble_eq_true rfl) ⟨Nat.le_of_ble_eq_true rfl, Nat.le_of_ble_eq_true rfl⟩ ⟨Nat.le_of_ble_eq_true rfl, Nat.le_of_ble_eq_true rfl⟩ dX2_register_132 ?_
              show KF E C 0 0 (rgM' μ (tN x) tg q tk sq) 135 _ []
              refine k_aload X 0 dX2_register_135 rfl ?_
              refine k_aload_n X 1 dX2_register_137 rfl rfl ?_
              refine gt_X2_35 X dX2_register_138 ?_
              refine k_callV (a := 6) (o := (tN x)) (As := [.int ((rgM' μ (tN x) tg q tk sq) 0 0 6)]) (S := []) X lk_X2_75 rfl hu rfl (C_X0_count (tN x) _ hu) rfl rfl (Nat.le_of_ble_eq_true rfl) ⟨Nat.le_of_ble_eq_true rfl, Nat.le_of_ble_eq_true rfl⟩ ⟨Nat.le_of_ble_eq_true rfl, Nat.le_of_ble_eq_true rfl⟩ dX2_register_141 ?_
              show KF E C 0 0 (rgM' μ (tN x) tg q tk sq) 144 _ [.int (nI (coN (rgM' μ (tN x) tg q tk sq) (tN x) (-1) ((rgM' μ (tN x) tg q tk sq) 0 0 6)))]
              exact k_iret dX2_register_144 hE rfl rfl
            · refine k_aload X 0 dX2_register_94 rfl ?_
              refine k_iload_n X 3 dX2_register_96 rfl rfl ?_
              refine k_aload_n X 1 dX2_register_97 rfl rfl ?_
              refine gt_X2_35 X dX2_register_98 ?_
              refine k_callV (a := 6) (o := (tN x)) (As := [.int tg, .int (μ 0 0 6)]) (S := []) X lk_X2_65 rfl hu rfl (C_X0_countOthers (tN x) _ _ hu) rfl rfl (Nat.le_of_ble_eq_true rfl) ⟨Nat.le_of_ble_eq_true rfl, Nat.le_of_ble_eq_true rfl⟩ ⟨Nat.le_of_ble_eq_true rfl, Nat.le_of_ble_eq_true rfl⟩ dX2_register_101 ?_
              show KF E C 0 0 μ 104 _ [.int (nI (coN μ (tN x) tg (μ 0 0 6)))]
              refine k_bipush X 6 dX2_register_104 (by decide) ?_
              refine k_icmp_lt (tgt := 119) X dX2_register_106 (by decide) (fun c106 => ?_) (fun c106 => ?_)
              · refine k_aload X 0 dX2_register_119 rfl ?_
                refine k_iload_n X 3 dX2_register_121 rfl rfl ?_
                refine k_iload_n X 4 dX2_register_122 rfl rfl ?_
                refine k_aload_n X 1 dX2_register_123 rfl rfl ?_
                refine gt_X2_35 X dX2_register_124 ?_
                refine k_iload X 5 dX2_register_127 rfl ?_
                refine k_iadd X dX2_register_129 ?_
                refine k_iload X 6 dX2_register_130 rfl ?_
                refine k_callV (a := 6) (o := (tN x)) (As := [.int tg, .int q, .int ((μ 0 0 6) + tk), .int sq]) (S := []) X lk_X2_71 rfl hu rfl (C_X0_put (tN x) _ (tN tg) _ _ _ _ hu (hB _ hu).1.1 (hB _ hu).1.2 (Nat.lt_succ_of_le (outP_n (m := 15) (by decide) c13).2) (outP_n (m := 15) (by decide) c13).1) rfl rfl (Nat.le_of_ble_eq_true rfl) ⟨Nat.le_of_ble_eq_true rfl, Nat.le_of_ble_eq_true rfl⟩ ⟨Nat.le_of_ble_eq_true rfl, Nat.le_of_ble_eq_true rfl⟩ dX2_register_132 ?_
                show KF E C 0 0 (rgM' μ (tN x) tg q tk sq) 135 _ []
                refine k_aload X 0 dX2_register_135 rfl ?_
                refine k_aload_n X 1 dX2_register_137 rfl rfl ?_
                refine gt_X2_35 X dX2_register_138 ?_
                refine k_callV (a := 6) (o := (tN x)) (As := [.int ((rgM' μ (tN x) tg q tk sq) 0 0 6)]) (S := []) X lk_X2_75 rfl hu rfl (C_X0_count (tN x) _ hu) rfl rfl (Nat.le_of_ble_eq_true rfl) ⟨Nat.le_of_ble_eq_true rfl, Nat.le_of_ble_eq_true rfl⟩ ⟨Nat.le_of_ble_eq_true rfl, Nat.le_of_ble_eq_true rfl⟩ dX2_register_141 ?_
                show KF E C 0 0 (rgM' μ (tN x) tg q tk sq) 144 _ [.int (nI (coN (rgM' μ (tN x) tg q tk sq) (tN x) (-1) ((rgM' μ (tN x) tg q tk sq) 0 0 6)))]
                exact k_iret dX2_register_144 hE rfl rfl
              · exact (hr2.2.elim c91 c106).elim
          · exact (c76 hr2.1).elim
        · exact (hr.2.2.2 c54).elim
    · exact (hr.2.1 c22).elim

set_option maxHeartbeats 4000000 in
set_option maxRecDepth 100000 in
theorem C_X2_cancel {E : EE} {μ : Mem} (x : Int32) (hK : vN (μ 0 0 5) 20) (hx : okC μ x) (hI : KI μ) (hf : μ 11 (tN x) 8 = -1) : MM E yX2_cancel cX2_cancel 3 (some .int) (rm 4 0) [.ref (ad E 0 0), .int x] μ (some (.int (nI (eoN μ (tN x) (tN (μ 11 (tN x) 4)))))) (caM μ (tN x) (tN (μ 11 (tN x) 4))) := by
  refine MM.int (own := RX2) [(0, .ref (ad E 0 0)), (1, .int x)] rfl rfl rfl (Nat.le_of_ble_eq_true rfl) rfl (fun C X hE => ?_)
  refine k_aload_n X 0 dX2_cancel_0 rfl rfl ?_
  refine k_iload_n X 1 dX2_cancel_1 rfl rfl ?_
  refine k_callV (a := 0) (o := 0) (As := [.int x]) (S := []) X lk_X2_102 rfl (by decide) rfl (C_X2_callAt _ hK hx) rfl rfl (Nat.le_of_ble_eq_true rfl) ⟨Nat.le_of_ble_eq_true rfl, Nat.le_of_ble_eq_true rfl⟩ ⟨Nat.le_of_ble_eq_true rfl, Nat.le_of_ble_eq_true rfl⟩ dX2_cancel_2 ?_
  show KF E C 0 0 μ 5 _ [.ref (ad E 11 (tN x))]
  have hc := (okC_n hK hx).2.2
  refine k_astore_n (L' := [(2, .ref (ad E 11 (tN x))), (0, .ref (ad E 0 0)), (1, .int x)]) X dX2_cancel_5 rfl (by decide) rfl ?_
  refine k_aload_n X 0 dX2_cancel_6 rfl rfl ?_
  refine gn_X2_138 X hc dX2_cancel_7 ?_
  refine k_iconst X (-1) dX2_cancel_10 (by decide) ?_
  refine k_icmp_eq (tgt := 24) X dX2_cancel_11 (by decide) (fun c11 => ?_) (fun c11 => ?_)
  · refine k_aload_n X 0 dX2_cancel_24 rfl rfl ?_
    refine k_callV (a := 11) (o := (tN x)) (As := []) (S := []) X lk_X2_143 rfl hc rfl (C_X1_cancelAll _ _ hc (hI _ hc).1.1 (hI _ hc).1.2) rfl rfl (Nat.le_of_ble_eq_true rfl) ⟨Nat.le_of_ble_eq_true rfl, Nat.le_of_ble_eq_true rfl⟩ ⟨Nat.le_of_ble_eq_true rfl, Nat.le_of_ble_eq_true rfl⟩ dX2_cancel_25 ?_
    show KF E C 0 0 (caM μ (tN x) (tN (μ 11 (tN x) 4))) 28 _ [.int (nI (eoN μ (tN x) (tN (μ 11 (tN x) 4))))]
    exact k_iret dX2_cancel_28 hE rfl rfl
  · exact (c11 hf).elim

set_option maxHeartbeats 4000000 in
set_option maxRecDepth 100000 in
theorem C_X2_finalBySorting {E : EE} {μ : Mem} (x : Int32) (hK : vN (μ 0 0 5) 20) (hx : okC μ x) (hI : KI μ) (hf : ¬ μ 11 (tN x) 8 = -1) : MM E yX2_finalBySorting cX2_finalBySorting 3 (some .int) (rm 4 0) [.ref (ad E 0 0), .int x] μ (some (.int (fsI μ (tN x) (tN (μ 11 (tN x) 4))))) (fsM μ (tN x) (tN (μ 11 (tN x) 4))) := by
  refine MM.int (own := RX2) [(0, .ref (ad E 0 0)), (1, .int x)] rfl rfl rfl (Nat.le_of_ble_eq_true rfl) rfl (fun C X hE => ?_)
  refine k_aload_n X 0 dX2_finalBySorting_0 rfl rfl ?_
  refine k_iload_n X 1 dX2_finalBySorting_1 rfl rfl ?_
  refine k_callV (a := 0) (o := 0) (As := [.int x]) (S := []) X lk_X2_102 rfl (by decide) rfl (C_X2_callAt _ hK hx) rfl rfl (Nat.le_of_ble_eq_true rfl) ⟨Nat.le_of_ble_eq_true rfl, Nat.le_of_ble_eq_true rfl⟩ ⟨Nat.le_of_ble_eq_true rfl, Nat.le_of_ble_eq_true rfl⟩ dX2_finalBySorting_2 ?_
  show KF E C 0 0 μ 5 _ [.ref (ad E 11 (tN x))]
  have hc := (okC_n hK hx).2.2
  refine k_astore_n (L' := [(2, .ref (ad E 11 (tN x))), (0, .ref (ad E 0 0)), (1, .int x)]) X dX2_finalBySorting_5 rfl (by decide) rfl ?_
  refine k_aload_n X 0 dX2_finalBySorting_6 rfl rfl ?_
  refine gn_X2_138 X hc dX2_finalBySorting_7 ?_
  refine k_iconst X (-1) dX2_finalBySorting_10 (by decide) ?_
  refine k_icmp_ne (tgt := 24) X dX2_finalBySorting_11 (by decide) (fun c11 => ?_) (fun c11 => ?_)
  · refine k_aload_n X 0 dX2_finalBySorting_24 rfl rfl ?_
    refine k_aload_n X 1 dX2_finalBySorting_25 rfl rfl ?_
    refine gt_X2_28 X dX2_finalBySorting_26 ?_
    refine k_callV (a := 11) (o := (tN x)) (As := [.ref (ad E 5 0)]) (S := []) X lk_X2_154 rfl hc rfl (C_X1_finalFromSorted _ _ hc (hI _ hc).1.1 (hI _ hc).1.2) rfl rfl (Nat.le_of_ble_eq_true rfl) ⟨Nat.le_of_ble_eq_true rfl, Nat.le_of_ble_eq_true rfl⟩ ⟨Nat.le_of_ble_eq_true rfl, Nat.le_of_ble_eq_true rfl⟩ dX2_finalBySorting_29 ?_
    show KF E C 0 0 (fsM μ (tN x) (tN (μ 11 (tN x) 4))) 32 _ [.int (fsI μ (tN x) (tN (μ 11 (tN x) 4)))]
    exact k_iret dX2_finalBySorting_32 hE rfl rfl
  · exact (hf c11).elim

set_option maxHeartbeats 4000000 in
set_option maxRecDepth 100000 in
theorem C_X2_answer {E : EE} {μ : Mem} (x dv cd : Int32) (hK : vN (μ 0 0 5) 20) (hI : KI μ) (hx : okC μ x) (ha : anOk dv cd) (hb : anOk2 μ (tN x) dv cd) : MM E yX2_answer cX2_answer 6 (some .int) (rm 5 0) [.ref (ad E 0 0), .int x, .int dv, .int cd] μ (some (.int (anM μ (tN x) dv cd 11 (tN x) 8))) (anM μ (tN x) dv cd) := by
  refine MM.int (own := RX2) [(0, .ref (ad E 0 0)), (1, .int x), (2, .int dv), (3, .int cd)] rfl rfl rfl (Nat.le_of_ble_eq_true rfl) rfl (fun C X hE => ?_)
  refine k_aload_n X 0 dX2_answer_0 rfl rfl ?_
  refine k_iload_n X 1 dX2_answer_1 rfl rfl ?_
  refine k_callV (a := 0) (o := 0) (As := [.int x]) (S := []) X lk_X2_102 rfl (by decide) rfl (C_X2_callAt _ hK hx) rfl rfl (Nat.le_of_ble_eq_true rfl) ⟨Nat.le_of_ble_eq_true rfl, Nat.le_of_ble_eq_true rfl⟩ ⟨Nat.le_of_ble_eq_true rfl, Nat.le_of_ble_eq_true rfl⟩ dX2_answer_2 ?_
  show KF E C 0 0 μ 5 _ [.ref (ad E 11 (tN x))]
  have hc := (okC_n hK hx).2.2
  refine k_astore (L' := [(4, .ref (ad E 11 (tN x))), (0, .ref (ad E 0 0)), (1, .int x), (2, .int dv), (3, .int cd)]) X dX2_answer_5 (by decide) rfl ?_
  refine k_iload_n X 3 dX2_answer_7 rfl rfl ?_
  refine k_bipush X 9 dX2_answer_8 (by decide) ?_
  refine k_callS (As := [.int dv, .int 9]) (S := []) X lk_X2_44 (C_X2_isOutside _ _) rfl rfl (Nat.le_of_ble_eq_true rfl) ⟨Nat.le_of_ble_eq_true rfl, Nat.le_of_ble_eq_true rfl⟩ ⟨Nat.le_of_ble_eq_true rfl, Nat.le_of_ble_eq_true rfl⟩ dX2_answer_10 ?_
  show KF E C 0 0 μ 13 _ [.int (bp (dv < 0 ∨ 9 < dv))]
  refine k_if_ne_p (tgt := 23) X dX2_answer_13 (by decide) (fun c13 => ?_) (fun c13 => ?_)
  · exact (ha.1 c13).elim
  · refine k_iload_n X 4 dX2_answer_16 rfl rfl ?_
    refine k_callS (As := [.int cd]) (S := []) X lk_X2_106 (C_X2_isNoAnswer _) rfl rfl (Nat.le_of_ble_eq_true rfl) ⟨Nat.le_of_ble_eq_true rfl, Nat.le_of_ble_eq_true rfl⟩ ⟨Nat.le_of_ble_eq_true rfl, Nat.le_of_ble_eq_true rfl⟩ dX2_answer_17 ?_
    show KF E C 0 0 μ 20 _ [.int (bp (¬ cd = 180 ∧ (cd < 200 ∨ 699 < cd)))]
    refine k_if_eq_p (tgt := 33) X dX2_answer_20 (by decide) (fun c20 => ?_) (fun c20 => ?_)
    · refine k_aload X 0 dX2_answer_33 rfl ?_
      refine k_iload_n X 3 dX2_answer_35 rfl rfl ?_
      refine k_callV (a := 11) (o := (tN x)) (As := [.int dv]) (S := []) X lk_X2_112 rfl hc rfl (C_X1_branchOf _ _ hc (hI _ hc).1.1 (hI _ hc).1.2 _) rfl rfl (Nat.le_of_ble_eq_true rfl) ⟨Nat.le_of_ble_eq_true rfl, Nat.le_of_ble_eq_true rfl⟩ ⟨Nat.le_of_ble_eq_true rfl, Nat.le_of_ble_eq_true rfl⟩ dX2_answer_36 ?_
      show KF E C 0 0 μ 39 _ [.int (frI (fun b => decide (μ 12 (tN x) b = dv)) (tN (μ 11 (tN x) 4)))]
      refine k_istore (L' := [(5, .int (frI (fun b => decide (μ 12 (tN x) b = dv)) (tN (μ 11 (tN x) 4)))), (4, .ref (ad E 11 (tN x))), (0, .ref (ad E 0 0)), (1, .int x), (2, .int dv), (3, .int cd)]) X dX2_answer_39 (by decide) rfl ?_
      refine k_iload X 0 dX2_answer_41 rfl ?_
      refine k_iconst X (-1) dX2_answer_43 (by decide) ?_
      refine k_icmp_ne (tgt := 57) X dX2_answer_44 (by decide) (fun c44 => ?_) (fun c44 => ?_)
      · rw [show frI (fun b => decide (μ 12 (tN x) b = dv)) (tN (μ 11 (tN x) 4)) = nI (anBr μ (tN x) dv) from (frI_b c44).2]
        refine k_aload X 1 dX2_answer_57 rfl ?_
        refine k_iload X 0 dX2_answer_59 rfl ?_
        refine k_callV (a := 11) (o := (tN x)) (As := [.int (nI (anBr μ (tN x) dv))]) (S := []) X lk_X2_117 rfl hc rfl (C_X1_isStarted _ _ hc (Nat.lt_of_lt_of_le (frI_b c44).1 (hI _ hc).1.2)) rfl rfl (Nat.le_of_ble_eq_true rfl) ⟨Nat.le_of_ble_eq_true rfl, Nat.le_of_ble_eq_true rfl⟩ ⟨Nat.le_of_ble_eq_true rfl, Nat.le_of_ble_eq_true rfl⟩ dX2_answer_61 ?_
        show KF E C 0 0 μ 64 _ [.int (bp (μ 11 (tN x) 5 ≤ μ 13 (tN x) (anBr μ (tN x) dv)))]
        refine k_if_ne_p (tgt := 77) X dX2_answer_64 (by decide) (fun c64 => ?_) (fun c64 => ?_)
        · refine k_aload X 1 dX2_answer_77 rfl ?_
          refine k_iload X 0 dX2_answer_79 rfl ?_
          refine k_callV (a := 11) (o := (tN x)) (As := [.int (nI (anBr μ (tN x) dv))]) (S := []) X lk_X2_122 rfl hc rfl (C_X1_isEnded _ _ hc (Nat.lt_of_lt_of_le (frI_b c44).1 (hI _ hc).1.2)) rfl rfl (Nat.le_of_ble_eq_true rfl) ⟨Nat.le_of_ble_eq_true rfl, Nat.le_of_ble_eq_true rfl⟩ ⟨Nat.le_of_ble_eq_true rfl, Nat.le_of_ble_eq_true rfl⟩ dX2_answer_81 ?_
          show KF E C 0 0 μ 84 _ [.int (bp (200 ≤ μ 14 (tN x) (anBr μ (tN x) dv)))]
          refine k_if_ne_p (tgt := 102) X dX2_answer_84 (by decide) (fun c84 => ?_) (fun c84 => ?_)
          · refine k_aload X 1 dX2_answer_102 rfl ?_
            refine k_iload X 0 dX2_answer_104 rfl ?_
            refine k_iload_n X 5 dX2_answer_106 rfl rfl ?_
            refine k_callV (a := 11) (o := (tN x)) (As := [.int (nI (anBr μ (tN x) dv)), .int cd]) (S := []) X lk_X2_129 rfl hc rfl (C_X1_isTooMuch _ _ _ hc (Nat.lt_of_lt_of_le (frI_b c44).1 (hI _ hc).1.2)) rfl rfl (Nat.le_of_ble_eq_true rfl) ⟨Nat.le_of_ble_eq_true rfl, Nat.le_of_ble_eq_true rfl⟩ ⟨Nat.le_of_ble_eq_true rfl, Nat.le_of_ble_eq_true rfl⟩ dX2_answer_107 ?_
            show KF E C 0 0 μ 110 _ [.int (bp ((¬ cd < 200 ∧ ¬ 300 ≤ cd) ∧ (μ 14 (tN x) (anBr μ (tN x) dv) = 487 ∨ μ 14 (tN x) (anBr μ (tN x) dv) = 408) ∧ μ 15 (tN x) (anBr μ (tN x) dv) = 0))]
            refine k_if_eq_p (tgt := 135) X dX2_answer_110 (by decide) (fun c110 => ?_) (fun c110 => ?_)
            · exact (hb.2.2.elim (fun q => q c84) c110).elim
            · refine k_aload X 1 dX2_answer_113 rfl ?_
              refine gn_X2_132 X hc dX2_answer_115 ?_
              refine k_iload X 0 dX2_answer_118 rfl ?_
              refine k_iconst X 1 dX2_answer_120 (by decide) ?_
              refine k_zast (a := 15) (j := (anBr μ (tN x) dv)) X rfl hc rfl (show anBr μ (tN x) dv < 12 from (Nat.lt_of_lt_of_le (frI_b c44).1 (hI _ hc).1.2)) (by decide) (by decide) dX2_answer_121 ?_
              refine k_aload_n X 2 dX2_answer_122 rfl rfl ?_
              refine gt_X2_21 X dX2_answer_123 ?_
              refine k_iload_n X 4 dX2_answer_126 rfl rfl ?_
              refine k_dup2 X dX2_answer_127 rfl rfl ?_
              refine k_iald (a := 3) (j := (tN dv)) X rfl (by decide) (outP_n (m := 9) (by decide) c13).1 (show tN dv < 10 from Nat.lt_succ_of_le (outP_n (m := 9) (by decide) c13).2) (by decide) dX2_answer_128 ?_
              refine k_val (y := μ 3 0 (tN dv)) (st_k (by decide)) ?_
              refine k_iconst X 1 dX2_answer_129 (by decide) ?_
              refine k_iadd X dX2_answer_130 ?_
              refine k_iast (a := 3) (j := (tN dv)) X rfl (by decide) (outP_n (m := 9) (by decide) c13).1 (show tN dv < 10 from Nat.lt_succ_of_le (outP_n (m := 9) (by decide) c13).2) (by decide) dX2_answer_131 ?_
              refine k_goto (tgt := 145) X dX2_answer_132 (by decide) ?_
              refine k_aload X 1 dX2_answer_145 rfl ?_
              refine gn_X2_138 X hc dX2_answer_147 ?_
              exact k_iret dX2_answer_150 hE (by unfold anM; rw [if_pos c84]) (by unfold anM; rw [if_pos c84])
          · refine k_aload X 1 dX2_answer_87 rfl ?_
            refine k_iload X 0 dX2_answer_89 rfl ?_
            refine k_iload_n X 5 dX2_answer_91 rfl rfl ?_
            refine k_aload_n X 2 dX2_answer_92 rfl rfl ?_
            refine gt_X2_35 X dX2_answer_93 ?_
            refine k_callV (a := 11) (o := (tN x)) (As := [.int (nI (anBr μ (tN x) dv)), .int cd, .int (μ 0 0 6)]) (S := []) X lk_X2_125 rfl hc rfl (C_X1_takeAnswer _ _ hc (hI _ hc).1.1 (hI _ hc).1.2 _ (hI _ hc).2.1 (hI _ hc).2.2 _ (Nat.lt_of_lt_of_le (frI_b c44).1 (hI _ hc).1.2) _ _) rfl rfl (Nat.le_of_ble_eq_true rfl) ⟨Nat.le_of_ble_eq_true rfl, Nat.le_of_ble_eq_true rfl⟩ ⟨Nat.le_of_ble_eq_true rfl, Nat.le_of_ble_eq_true rfl⟩ dX2_answer_96 ?_
            show KF E C 0 0 (taM μ (tN x) (tN (μ 11 (tN x) 4)) (tN (μ 11 (tN x) 5)) (anBr μ (tN x) dv) cd (μ 0 0 6)) 99 _ []
            refine k_goto (tgt := 145) X dX2_answer_99 (by decide) ?_
            refine k_aload X 1 dX2_answer_145 rfl ?_
            refine gn_X2_138 X hc dX2_answer_147 ?_
            exact k_iret dX2_answer_150 hE (by unfold anM; rw [if_neg c84]) (by unfold anM; rw [if_neg c84])
        · exact (c64 hb.2.1).elim
      · exact (hb.1 c44).elim
    · exact (ha.2 c20).elim
