set_option maxHeartbeats 4000000 in
set_option maxRecDepth 100000 in
theorem C_X3_thrown {E : EE} {μ : Mem}  : MM E yX3_thrown cX3_thrown 1 (some .int) (rm 1 0) [.ref (ad E 16 0)] μ (some (.int (μ 16 0 0))) μ := by
  refine MM.int (own := RX3) [(0, .ref (ad E 16 0))] rfl rfl rfl (Nat.le_of_ble_eq_true rfl) rfl (fun C X hE => ?_)
  refine k_aload_n X 0 dX3_thrown_0 rfl rfl ?_
  refine gt_X3_59 X dX3_thrown_1 ?_
  exact k_iret dX3_thrown_4 hE rfl rfl

set_option maxHeartbeats 4000000 in
set_option maxRecDepth 100000 in
theorem C_X3_holds {E : EE} {μ : Mem} (x : Int32) : MM E yX3_holds cX3_holds 2 (some .boolean) (rm 1 0) [.ref (ad E 16 0), .int x] μ (some (.int (bp (x = 0)))) (st μ 16 0 0 x) := by
  refine MM.int (own := RX3) [(0, .ref (ad E 16 0)), (1, .int x)] rfl rfl rfl (Nat.le_of_ble_eq_true rfl) bp_nar (fun C X hE => ?_)
  refine k_aload_n X 0 dX3_holds_0 rfl rfl ?_
  refine k_iload_n X 1 dX3_holds_1 rfl rfl ?_
  refine pt_X3_59 X dX3_holds_2 ?_
  refine k_iload_n X 1 dX3_holds_5 rfl rfl ?_
  refine k_if_ne (tgt := 13) X dX3_holds_6 (by decide) (fun c6 => ?_) (fun c6 => ?_)
  · refine k_iconst X 0 dX3_holds_13 (by decide) ?_
    exact k_iret dX3_holds_14 hE (bp_f c6).symm rfl
  · refine k_iconst X 1 dX3_holds_9 (by decide) ?_
    refine k_goto (tgt := 14) X dX3_holds_10 (by decide) ?_
    exact k_iret dX3_holds_14 hE (bp_t c6).symm rfl

set_option maxHeartbeats 4000000 in
set_option maxRecDepth 100000 in
theorem C_X3_isIn {E : EE} {μ : Mem} (v a m : Int32) : MM E yX3_isIn cX3_isIn 3 (some .boolean) (rm 1 0) [.int v, .int a, .int m] μ (some (.int (bp (¬ (v < a ∨ m < v))))) μ := by
  refine MM.int (own := RX3) [(0, .int v), (1, .int a), (2, .int m)] rfl rfl rfl (Nat.le_of_ble_eq_true rfl) bp_nar (fun C X hE => ?_)
  refine k_iload_n X 0 dX3_isIn_0 rfl rfl ?_
  refine k_iload_n X 1 dX3_isIn_1 rfl rfl ?_
  refine k_icmp_lt (tgt := 14) X dX3_isIn_2 (by decide) (fun c2 => ?_) (fun c2 => ?_)
  · refine k_iconst X 0 dX3_isIn_14 (by decide) ?_
    exact k_iret dX3_isIn_15 hE (bp_f (fun h => h (Or.inl c2))).symm rfl
  · refine k_iload_n X 0 dX3_isIn_5 rfl rfl ?_
    refine k_iload_n X 2 dX3_isIn_6 rfl rfl ?_
    refine k_icmp_gt (tgt := 14) X dX3_isIn_7 (by decide) (fun c7 => ?_) (fun c7 => ?_)
    · refine k_iconst X 0 dX3_isIn_14 (by decide) ?_
      exact k_iret dX3_isIn_15 hE (bp_f (fun h => h (Or.inr c7))).symm rfl
    · refine k_iconst X 1 dX3_isIn_10 (by decide) ?_
      refine k_goto (tgt := 15) X dX3_isIn_11 (by decide) ?_
      exact k_iret dX3_isIn_15 hE (bp_t (show ¬ (v < a ∨ m < v) from fun h => h.elim c2 c7)).symm rfl

set_option maxHeartbeats 4000000 in
set_option maxRecDepth 100000 in
theorem C_X3_isUser {E : EE} {μ : Mem} (v : Int32) : MM E yX3_isUser cX3_isUser 1 (some .boolean) (rm 2 0) [.int v] μ (some (.int (bp (¬ (v < 0 ∨ 5 < v))))) μ := by
  refine MM.int (own := RX3) [(0, .int v)] rfl rfl rfl (Nat.le_of_ble_eq_true rfl) bp_nar (fun C X hE => ?_)
  refine k_iload_n X 0 dX3_isUser_0 rfl rfl ?_
  refine k_iconst X 0 dX3_isUser_1 (by decide) ?_
  refine k_iconst X 5 dX3_isUser_2 (by decide) ?_
  refine k_callS (As := [.int v, .int 0, .int 5]) (S := []) X lk_X3_63 (C_X3_isIn _ _ _) rfl rfl (Nat.le_of_ble_eq_true rfl) ⟨Nat.le_of_ble_eq_true rfl, Nat.le_of_ble_eq_true rfl⟩ ⟨Nat.le_of_ble_eq_true rfl, Nat.le_of_ble_eq_true rfl⟩ dX3_isUser_3 ?_
  show KF E C 0 0 μ 6 _ [.int (bp (¬ (v < 0 ∨ 5 < v)))]
  exact k_iret dX3_isUser_6 hE rfl rfl

set_option maxHeartbeats 4000000 in
set_option maxRecDepth 100000 in
theorem C_X3_isThere {E : EE} {μ : Mem} (u t : Nat) (hu : u < 6) (ht : t < 16) : MM E yX3_isThere cX3_isThere 3 (some .boolean) (rm 1 0) [.ref (ad E 16 0), .int (nI u), .int (nI t)] μ (some (.int (bp (mtB μ u t = true)))) μ := by
  refine MM.int (own := RX3) [(0, .ref (ad E 16 0)), (1, .int (nI u)), (2, .int (nI t))] rfl rfl rfl (Nat.le_of_ble_eq_true rfl) bp_nar (fun C X hE => ?_)
  refine k_aload_n X 0 dX3_isThere_0 rfl rfl ?_
  refine gt_X3_7 X dX3_isThere_1 ?_
  refine k_bipush X 16 dX3_isThere_4 (by decide) ?_
  refine k_iload_n X 1 dX3_isThere_6 rfl rfl ?_
  refine k_imul X dX3_isThere_7 ?_
  refine k_val (y := nI (16 * u)) (pk_mul _ _) ?_
  refine k_iload_n X 2 dX3_isThere_8 rfl rfl ?_
  refine k_iadd X dX3_isThere_9 ?_
  refine k_val (y := nI ((16 * u) + t)) (nI_add _ _) ?_
  refine k_zald (a := 17) (j := ((16 * u) + t)) X rfl (by decide) rfl (show ((16 * u) + t) < 96 by omega) (by decide) dX3_isThere_10 ?_
  refine k_if_eq (tgt := 36) X dX3_isThere_11 (by decide) (fun c11 => ?_) (fun c11 => ?_)
  · refine k_iconst X 0 dX3_isThere_36 (by decide) ?_
    exact k_iret dX3_isThere_37 hE (bp_f (by unfold mtB; rw [decide_eq_true c11]; simp)).symm rfl
  · refine k_aload_n X 0 dX3_isThere_14 rfl rfl ?_
    refine gt_X3_13 X dX3_isThere_15 ?_
    refine k_bipush X 16 dX3_isThere_18 (by decide) ?_
    refine k_iload_n X 1 dX3_isThere_20 rfl rfl ?_
    refine k_imul X dX3_isThere_21 ?_
    refine k_val (y := nI (16 * u)) (pk_mul _ _) ?_
    refine k_iload_n X 2 dX3_isThere_22 rfl rfl ?_
    refine k_iadd X dX3_isThere_23 ?_
    refine k_val (y := nI ((16 * u) + t)) (nI_add _ _) ?_
    refine k_iald (a := 18) (j := ((16 * u) + t)) X rfl (by decide) rfl (show ((16 * u) + t) < 96 by omega) (by decide) dX3_isThere_24 ?_
    refine k_aload_n X 0 dX3_isThere_25 rfl rfl ?_
    refine gt_X3_67 X dX3_isThere_26 ?_
    refine k_icmp_le (tgt := 36) X dX3_isThere_29 (by decide) (fun c29 => ?_) (fun c29 => ?_)
    · refine k_iconst X 0 dX3_isThere_36 (by decide) ?_
      exact k_iret dX3_isThere_37 hE (bp_f (by unfold mtB; rw [decide_eq_true c29]; simp)).symm rfl
    · refine k_iconst X 1 dX3_isThere_32 (by decide) ?_
      refine k_goto (tgt := 37) X dX3_isThere_33 (by decide) ?_
      exact k_iret dX3_isThere_37 hE (bp_t (by unfold mtB; rw [decide_eq_false c11, decide_eq_false c29]; rfl)).symm rfl

set_option maxHeartbeats 4000000 in
set_option maxRecDepth 100000 in
theorem L_X3_there {E : EE} {μ : Mem} {C : Ctx} (u : Nat) (hu : u < 6) (X : Cx E C cX3_there RX3 4 (rm 2 0)) (hE : EndI E C cX3_there 0 0 (nI (mtN μ u)) μ) : ∀ (f : Nat) (i : Nat), 16 - i < f → i ≤ 16 → KF E C 0 0 μ 4 [(3, .int (nI i)), (2, .int (nI (ctB (mtB μ u) i))), (0, .ref (ad E 16 0)), (1, .int (nI u))] [] := by
  intro f
  induction f with
  | zero => intros; omega
  | succ f ih =>
    intro i hf hi
    refine k_iload_n X 0 dX3_there_4 rfl rfl ?_
    refine k_bipush X 16 dX3_there_5 (by decide) ?_
    refine k_ge_n (a := i) (b := 16) (tgt := 33) X dX3_there_7 (by decide) rfl rfl (by omega) (by decide) (fun c7 => ?_) (fun c7 => ?_)
    · refine k_iload_n X 1 dX3_there_33 rfl rfl ?_
      exact k_iret dX3_there_34 hE (by rw [show i = 16 by omega]; rfl) rfl
    · refine k_iload_n X 1 dX3_there_10 rfl rfl ?_
      refine k_aload_n X 2 dX3_there_11 rfl rfl ?_
      refine k_iload_n X 3 dX3_there_12 rfl rfl ?_
      refine k_iload_n X 0 dX3_there_13 rfl rfl ?_
      refine k_callV (a := 16) (o := 0) (As := [.int (nI u), .int (nI i)]) (S := [.int (nI (ctB (mtB μ u) i))]) X lk_X3_70 rfl (by decide) rfl (C_X3_isThere u i hu (by omega)) rfl rfl (Nat.le_of_ble_eq_true rfl) ⟨Nat.le_of_ble_eq_true rfl, Nat.le_of_ble_eq_true rfl⟩ ⟨Nat.le_of_ble_eq_true rfl, Nat.le_of_ble_eq_true rfl⟩ dX3_there_14 ?_
      show KF E C 0 0 μ 17 _ [.int (bp (mtB μ u i = true)), .int (nI (ctB (mtB μ u) i))]
      refine k_if_eq_p (tgt := 24) X dX3_there_17 (by decide) (fun c17 => ?_) (fun c17 => ?_)
      · refine k_iconst X 0 dX3_there_24 (by decide) ?_
        refine k_iadd X dX3_there_25 ?_
        refine k_val (y := nI (ctB (mtB μ u) (i + 1))) (by rw [ctB_f (Bool.eq_false_iff.mpr c17)]; exact Int32.add_zero _) ?_
        refine k_istore_n (L' := [(2, .int (nI (ctB (mtB μ u) (i + 1)))), (3, .int (nI i)), (0, .ref (ad E 16 0)), (1, .int (nI u))]) X dX3_there_26 rfl (by decide) rfl ?_
        refine k_iinc (v := nI (i + 1)) (L' := [(3, .int (nI (i + 1))), (2, .int (nI (ctB (mtB μ u) (i + 1)))), (0, .ref (ad E 16 0)), (1, .int (nI u))]) X 1 dX3_there_27 rfl (nI_1 i) (by decide) rfl ?_
        refine k_goto (tgt := 4) X dX3_there_30 (by decide) ?_
        exact ih (i + 1) (by omega) (by omega)
      · refine k_iconst X 1 dX3_there_20 (by decide) ?_
        refine k_goto (tgt := 25) X dX3_there_21 (by decide) ?_
        refine k_iadd X dX3_there_25 ?_
        refine k_val (y := nI (ctB (mtB μ u) (i + 1))) (by rw [ctB_t c17]; exact nI_1 _) ?_
        refine k_istore_n (L' := [(2, .int (nI (ctB (mtB μ u) (i + 1)))), (3, .int (nI i)), (0, .ref (ad E 16 0)), (1, .int (nI u))]) X dX3_there_26 rfl (by decide) rfl ?_
        refine k_iinc (v := nI (i + 1)) (L' := [(3, .int (nI (i + 1))), (2, .int (nI (ctB (mtB μ u) (i + 1)))), (0, .ref (ad E 16 0)), (1, .int (nI u))]) X 1 dX3_there_27 rfl (nI_1 i) (by decide) rfl ?_
        refine k_goto (tgt := 4) X dX3_there_30 (by decide) ?_
        exact ih (i + 1) (by omega) (by omega)

set_option maxHeartbeats 4000000 in
set_option maxRecDepth 100000 in
theorem C_X3_there {E : EE} {μ : Mem} (u : Nat) (hu : u < 6) : MM E yX3_there cX3_there 4 (some .int) (rm 2 0) [.ref (ad E 16 0), .int (nI u)] μ (some (.int (nI (mtN μ u)))) μ := by
  refine MM.int (own := RX3) [(0, .ref (ad E 16 0)), (1, .int (nI u))] rfl rfl rfl (Nat.le_of_ble_eq_true rfl) rfl (fun C X hE => ?_)
  refine k_iconst X (nI 0) dX3_there_0 (by decide) ?_
  refine k_istore_n (L' := [(2, .int (nI 0)), (0, .ref (ad E 16 0)), (1, .int (nI u))]) X dX3_there_1 rfl (by decide) rfl ?_
  refine k_iconst X (nI 0) dX3_there_2 (by decide) ?_
  refine k_istore_n (L' := [(3, .int (nI 0)), (2, .int (nI 0)), (0, .ref (ad E 16 0)), (1, .int (nI u))]) X dX3_there_3 rfl (by decide) rfl ?_
  exact L_X3_there u hu X hE 17 0 (by decide) (by decide)

set_option maxHeartbeats 4000000 in
set_option maxRecDepth 100000 in
theorem L_X3_hasDevice {E : EE} {μ : Mem} {C : Ctx} (c n : Nat) (hc : c < 20) (hn : μ 25 0 c = nI n) (hn12 : n ≤ 12) (x : Int32) (X : Cx E C cX3_hasDevice RX3 5 (rm 1 0)) (hE : EndI E C cX3_hasDevice 0 0 (bp (anB (mhB μ c x) n = true)) μ) : ∀ (f : Nat) (i : Nat), n - i < f → i ≤ n → KF E C 0 0 μ 5 [(4, .int (nI i)), (3, .int (bp (anB (mhB μ c x) i = true))), (0, .ref (ad E 16 0)), (1, .int (nI c)), (2, .int x)] [] := by
  intro f
  induction f with
  | zero => intros; omega
  | succ f ih =>
    intro i hf hi
    refine k_iload X 0 dX3_hasDevice_5 rfl ?_
    refine k_aload_n X 2 dX3_hasDevice_7 rfl rfl ?_
    refine gt_X3_35 X dX3_hasDevice_8 ?_
    refine k_iload_n X 3 dX3_hasDevice_11 rfl rfl ?_
    refine k_iald (a := 25) (j := c) X rfl (by decide) rfl (show c < 20 by omega) (by decide) dX3_hasDevice_12 ?_
    refine k_val (y := nI n) hn ?_
    refine k_ge_n (a := i) (b := n) (tgt := 48) X dX3_hasDevice_13 (by decide) rfl rfl (by omega) (by omega) (fun c13 => ?_) (fun c13 => ?_)
    · refine k_iload_n X 1 dX3_hasDevice_48 rfl rfl ?_
      exact k_iret dX3_hasDevice_49 hE (by rw [show i = n by omega]) rfl
    · refine k_iload_n X 1 dX3_hasDevice_16 rfl rfl ?_
      refine k_if_ne_p (tgt := 36) X dX3_hasDevice_17 (by decide) (fun c17 => ?_) (fun c17 => ?_)
      · refine k_iconst X 1 dX3_hasDevice_36 (by decide) ?_
        refine k_goto (tgt := 41) X dX3_hasDevice_37 (by decide) ?_
        refine k_val (y := bp (anB (mhB μ c x) (i + 1) = true)) (bp_t (by show (anB (mhB μ c x) i || _) = true; rw [c17]; rfl)).symm ?_
        refine k_istore_n (L' := [(3, .int (bp (anB (mhB μ c x) (i + 1) = true))), (4, .int (nI i)), (0, .ref (ad E 16 0)), (1, .int (nI c)), (2, .int x)]) X dX3_hasDevice_41 rfl (by decide) rfl ?_
        refine k_iinc (v := nI (i + 1)) (L' := [(4, .int (nI (i + 1))), (3, .int (bp (anB (mhB μ c x) (i + 1) = true))), (0, .ref (ad E 16 0)), (1, .int (nI c)), (2, .int x)]) X 1 dX3_hasDevice_42 rfl (nI_1 i) (by decide) rfl ?_
        refine k_goto (tgt := 5) X dX3_hasDevice_45 (by decide) ?_
        exact ih (i + 1) (by omega) (by omega)
      · refine k_aload_n X 2 dX3_hasDevice_20 rfl rfl ?_
        refine gt_X3_44 X dX3_hasDevice_21 ?_
        refine k_bipush X 12 dX3_hasDevice_24 (by decide) ?_
        refine k_iload_n X 3 dX3_hasDevice_26 rfl rfl ?_
        refine k_imul X dX3_hasDevice_27 ?_
        refine k_val (y := nI (12 * c)) (pk_mul _ _) ?_
        refine k_iload X 0 dX3_hasDevice_28 rfl ?_
        refine k_iadd X dX3_hasDevice_30 ?_
        refine k_val (y := nI ((12 * c) + i)) (nI_add _ _) ?_
        refine k_iald (a := 28) (j := ((12 * c) + i)) X rfl (by decide) rfl (show ((12 * c) + i) < 240 by omega) (by decide) dX3_hasDevice_31 ?_
        refine k_iload_n X 4 dX3_hasDevice_32 rfl rfl ?_
        refine k_icmp_ne (tgt := 40) X dX3_hasDevice_33 (by decide) (fun c33 => ?_) (fun c33 => ?_)
        · refine k_iconst X 0 dX3_hasDevice_40 (by decide) ?_
          refine k_val (y := bp (anB (mhB μ c x) (i + 1) = true)) (bp_f (by show ¬ (anB (mhB μ c x) i || (mhB μ c x) i) = true; rw [Bool.eq_false_iff.mpr c17, show (mhB μ c x) i = false from decide_eq_false c33]; decide)).symm ?_
          refine k_istore_n (L' := [(3, .int (bp (anB (mhB μ c x) (i + 1) = true))), (4, .int (nI i)), (0, .ref (ad E 16 0)), (1, .int (nI c)), (2, .int x)]) X dX3_hasDevice_41 rfl (by decide) rfl ?_
          refine k_iinc (v := nI (i + 1)) (L' := [(4, .int (nI (i + 1))), (3, .int (bp (anB (mhB μ c x) (i + 1) = true))), (0, .ref (ad E 16 0)), (1, .int (nI c)), (2, .int x)]) X 1 dX3_hasDevice_42 rfl (nI_1 i) (by decide) rfl ?_
          refine k_goto (tgt := 5) X dX3_hasDevice_45 (by decide) ?_
          exact ih (i + 1) (by omega) (by omega)
        · refine k_iconst X 1 dX3_hasDevice_36 (by decide) ?_
          refine k_goto (tgt := 41) X dX3_hasDevice_37 (by decide) ?_
          refine k_val (y := bp (anB (mhB μ c x) (i + 1) = true)) (bp_t (by show (_ || (mhB μ c x) i) = true; rw [show (mhB μ c x) i = true from decide_eq_true c33, Bool.or_true])).symm ?_
          refine k_istore_n (L' := [(3, .int (bp (anB (mhB μ c x) (i + 1) = true))), (4, .int (nI i)), (0, .ref (ad E 16 0)), (1, .int (nI c)), (2, .int x)]) X dX3_hasDevice_41 rfl (by decide) rfl ?_
          refine k_iinc (v := nI (i + 1)) (L' := [(4, .int (nI (i + 1))), (3, .int (bp (anB (mhB μ c x) (i + 1) = true))), (0, .ref (ad E 16 0)), (1, .int (nI c)), (2, .int x)]) X 1 dX3_hasDevice_42 rfl (nI_1 i) (by decide) rfl ?_
          refine k_goto (tgt := 5) X dX3_hasDevice_45 (by decide) ?_
          exact ih (i + 1) (by omega) (by omega)

set_option maxHeartbeats 4000000 in
set_option maxRecDepth 100000 in
theorem C_X3_hasDevice {E : EE} {μ : Mem} (c n : Nat) (hc : c < 20) (hn : μ 25 0 c = nI n) (hn12 : n ≤ 12) (x : Int32) : MM E yX3_hasDevice cX3_hasDevice 5 (some .boolean) (rm 1 0) [.ref (ad E 16 0), .int (nI c), .int x] μ (some (.int (bp (anB (mhB μ c x) n = true)))) μ := by
  refine MM.int (own := RX3) [(0, .ref (ad E 16 0)), (1, .int (nI c)), (2, .int x)] rfl rfl rfl (Nat.le_of_ble_eq_true rfl) bp_nar (fun C X hE => ?_)
  refine k_iconst X 0 dX3_hasDevice_0 (by decide) ?_
  refine k_val (y := bp (anB (mhB μ c x) 0 = true)) (bp_f (show ¬ false = true by decide)).symm ?_
  refine k_istore_n (L' := [(3, .int (bp (anB (mhB μ c x) 0 = true))), (0, .ref (ad E 16 0)), (1, .int (nI c)), (2, .int x)]) X dX3_hasDevice_1 rfl (by decide) rfl ?_
  refine k_iconst X (nI 0) dX3_hasDevice_2 (by decide) ?_
  refine k_istore (L' := [(4, .int (nI 0)), (3, .int (bp (anB (mhB μ c x) 0 = true))), (0, .ref (ad E 16 0)), (1, .int (nI c)), (2, .int x)]) X dX3_hasDevice_3 (by decide) rfl ?_
  exact L_X3_hasDevice c n hc hn hn12 x X hE (n + 1) 0 (by omega) (Nat.zero_le n)

set_option maxHeartbeats 4000000 in
set_option maxRecDepth 100000 in
theorem C_X3_adds {E : EE} {μ : Mem} (c : Nat) (x q z : Int32) (hc : c < 20) (hv : vN (μ 25 0 c) 12) : MM E yX3_adds cX3_adds 7 none (rm 2 0) [.ref (ad E 16 0), .int (nI c), .int x, .int q, .int z] μ none (maM μ c x q z) := by
  refine MM.void (own := RX3) [(0, .ref (ad E 16 0)), (1, .int (nI c)), (2, .int x), (3, .int q), (4, .int z)] rfl rfl rfl (Nat.le_of_ble_eq_true rfl) (fun C X hE => ?_)
  refine k_aload_n X 0 dX3_adds_0 rfl rfl ?_
  refine gt_X3_35 X dX3_adds_1 ?_
  refine k_iload_n X 1 dX3_adds_4 rfl rfl ?_
  refine k_iald (a := 25) (j := c) X rfl (by decide) rfl (show c < 20 from hc) (by decide) dX3_adds_5 ?_
  refine k_val (y := nI (tN (μ 25 0 c))) hv.1 ?_
  refine k_bipush X 12 dX3_adds_6 (by decide) ?_
  refine k_ge_n (a := tN (μ 25 0 c)) (b := 12) (tgt := 29) X dX3_adds_8 (by decide) rfl rfl (by have := hv.2; omega) (by decide) (fun c8 => ?_) (fun c8 => ?_)
  · refine k_iconst X 0 dX3_adds_29 (by decide) ?_
    refine k_istore (L' := [(5, .int 0), (0, .ref (ad E 16 0)), (1, .int (nI c)), (2, .int x), (3, .int q), (4, .int z)]) X dX3_adds_30 (by decide) rfl ?_
    refine k_iload X 0 dX3_adds_32 rfl ?_
    refine k_if_eq_t (tgt := 93) X dX3_adds_34 (by decide) rfl ?_
    exact k_vret dX3_adds_93 hE (if_neg (fun h => absurd h.1 (by omega))).symm
  · refine k_iload_n X 2 dX3_adds_11 rfl rfl ?_
    refine k_iconst X (-1) dX3_adds_12 (by decide) ?_
    refine k_icmp_eq (tgt := 25) X dX3_adds_13 (by decide) (fun c13 => ?_) (fun c13 => ?_)
    · refine k_iconst X 1 dX3_adds_25 (by decide) ?_
      refine k_goto (tgt := 30) X dX3_adds_26 (by decide) ?_
      refine k_istore (L' := [(5, .int 1), (0, .ref (ad E 16 0)), (1, .int (nI c)), (2, .int x), (3, .int q), (4, .int z)]) X dX3_adds_30 (by decide) rfl ?_
      refine k_iload X 0 dX3_adds_32 rfl ?_
      refine k_if_eq_f (tgt := 93) X dX3_adds_34 (by decide) (by decide) ?_
      refine k_bipush X 12 dX3_adds_37 (by decide) ?_
      refine k_iload_n X 2 dX3_adds_39 rfl rfl ?_
      refine k_imul X dX3_adds_40 ?_
      refine k_val (y := nI (12 * c)) (pk_mul _ _) ?_
      refine k_aload_n X 1 dX3_adds_41 rfl rfl ?_
      refine gt_X3_35 X dX3_adds_42 ?_
      refine k_iload_n X 2 dX3_adds_45 rfl rfl ?_
      refine k_iald (a := 25) (j := c) X rfl (by decide) rfl (show c < 20 from hc) (by decide) dX3_adds_46 ?_
      refine k_val (y := nI (tN (μ 25 0 c))) hv.1 ?_
      refine k_iadd X dX3_adds_47 ?_
      refine k_val (y := nI ((12 * c) + (tN (μ 25 0 c)))) (nI_add _ _) ?_
      refine k_istore (L' := [(6, .int (nI ((12 * c) + (tN (μ 25 0 c))))), (5, .int 1), (0, .ref (ad E 16 0)), (1, .int (nI c)), (2, .int x), (3, .int q), (4, .int z)]) X dX3_adds_48 (by decide) rfl ?_
      refine k_aload_n X 2 dX3_adds_50 rfl rfl ?_
      refine gt_X3_44 X dX3_adds_51 ?_
      refine k_iload X 0 dX3_adds_54 rfl ?_
      refine k_iload_n X 4 dX3_adds_56 rfl rfl ?_
      refine k_iast (a := 28) (j := ((12 * c) + (tN (μ 25 0 c)))) X rfl (by decide) rfl (show ((12 * c) + (tN (μ 25 0 c))) < 240 by omega) (by decide) dX3_adds_57 ?_
      refine k_aload_n X 2 dX3_adds_58 rfl rfl ?_
      refine gt_X3_47 X dX3_adds_59 ?_
      refine k_iload X 0 dX3_adds_62 rfl ?_
      refine k_iload_n X 5 dX3_adds_64 rfl rfl ?_
      refine k_iast (a := 29) (j := ((12 * c) + (tN (μ 25 0 c)))) X rfl (by decide) rfl (show ((12 * c) + (tN (μ 25 0 c))) < 240 by omega) (by decide) dX3_adds_65 ?_
      refine k_aload_n X 2 dX3_adds_66 rfl rfl ?_
      refine gt_X3_50 X dX3_adds_67 ?_
      refine k_iload X 0 dX3_adds_70 rfl ?_
      refine k_iload X 6 dX3_adds_72 rfl ?_
      refine k_iast (a := 30) (j := ((12 * c) + (tN (μ 25 0 c)))) X rfl (by decide) rfl (show ((12 * c) + (tN (μ 25 0 c))) < 240 by omega) (by decide) dX3_adds_74 ?_
      refine k_aload_n X 2 dX3_adds_75 rfl rfl ?_
      refine gt_X3_53 X dX3_adds_76 ?_
      refine k_iload X 0 dX3_adds_79 rfl ?_
      refine k_iconst X 0 dX3_adds_81 (by decide) ?_
      refine k_zast (a := 31) (j := ((12 * c) + (tN (μ 25 0 c)))) X rfl (by decide) rfl (show ((12 * c) + (tN (μ 25 0 c))) < 240 by omega) (by decide) (by decide) dX3_adds_82 ?_
      refine k_aload_n X 2 dX3_adds_83 rfl rfl ?_
      refine gt_X3_35 X dX3_adds_84 ?_
      refine k_iload_n X 3 dX3_adds_87 rfl rfl ?_
      refine k_dup2 X dX3_adds_88 rfl rfl ?_
      refine k_iald (a := 25) (j := c) X rfl (by decide) rfl (show c < 20 from hc) (by decide) dX3_adds_89 ?_
      refine k_val (y := nI (tN (μ 25 0 c))) (by simp only [st]; exact hv.1) ?_
      refine k_iconst X 1 dX3_adds_90 (by decide) ?_
      refine k_iadd X dX3_adds_91 ?_
      refine k_val (y := nI ((tN (μ 25 0 c)) + 1)) (nI_add _ _) ?_
      refine k_iast (a := 25) (j := c) X rfl (by decide) rfl (show c < 20 from hc) (by decide) dX3_adds_92 ?_
      exact k_vret dX3_adds_93 hE (if_pos ⟨c8, Or.inl c13⟩).symm
    · refine k_aload_n X 0 dX3_adds_16 rfl rfl ?_
      refine k_iload_n X 1 dX3_adds_17 rfl rfl ?_
      refine k_iload_n X 2 dX3_adds_18 rfl rfl ?_
      refine k_callV (a := 16) (o := 0) (As := [.int (nI c), .int x]) (S := []) X lk_X3_85 rfl (by decide) rfl (C_X3_hasDevice _ _ hc hv.1 hv.2 _) rfl rfl (Nat.le_of_ble_eq_true rfl) ⟨Nat.le_of_ble_eq_true rfl, Nat.le_of_ble_eq_true rfl⟩ ⟨Nat.le_of_ble_eq_true rfl, Nat.le_of_ble_eq_true rfl⟩ dX3_adds_19 ?_
      show KF E C 0 0 μ 22 _ [.int (bp (anB (mhB μ c x) (tN (μ 25 0 c)) = true))]
      refine k_if_ne_p (tgt := 29) X dX3_adds_22 (by decide) (fun c22 => ?_) (fun c22 => ?_)
      · refine k_iconst X 0 dX3_adds_29 (by decide) ?_
        refine k_istore (L' := [(5, .int 0), (0, .ref (ad E 16 0)), (1, .int (nI c)), (2, .int x), (3, .int q), (4, .int z)]) X dX3_adds_30 (by decide) rfl ?_
        refine k_iload X 0 dX3_adds_32 rfl ?_
        refine k_if_eq_t (tgt := 93) X dX3_adds_34 (by decide) rfl ?_
        exact k_vret dX3_adds_93 hE (if_neg (fun h => h.2.elim (fun a => absurd a c13) (fun a => a c22))).symm
      · refine k_iconst X 1 dX3_adds_25 (by decide) ?_
        refine k_goto (tgt := 30) X dX3_adds_26 (by decide) ?_
        refine k_istore (L' := [(5, .int 1), (0, .ref (ad E 16 0)), (1, .int (nI c)), (2, .int x), (3, .int q), (4, .int z)]) X dX3_adds_30 (by decide) rfl ?_
        refine k_iload X 0 dX3_adds_32 rfl ?_
        refine k_if_eq_f (tgt := 93) X dX3_adds_34 (by decide) (by decide) ?_
        refine k_bipush X 12 dX3_adds_37 (by decide) ?_
        refine k_iload_n X 2 dX3_adds_39 rfl rfl ?_
        refine k_imul X dX3_adds_40 ?_
        refine k_val (y := nI (12 * c)) (pk_mul _ _) ?_
        refine k_aload_n X 1 dX3_adds_41 rfl rfl ?_
        refine gt_X3_35 X dX3_adds_42 ?_
        refine k_iload_n X 2 dX3_adds_45 rfl rfl ?_
        refine k_iald (a := 25) (j := c) X rfl (by decide) rfl (show c < 20 from hc) (by decide) dX3_adds_46 ?_
        refine k_val (y := nI (tN (μ 25 0 c))) hv.1 ?_
        refine k_iadd X dX3_adds_47 ?_
        refine k_val (y := nI ((12 * c) + (tN (μ 25 0 c)))) (nI_add _ _) ?_
        refine k_istore (L' := [(6, .int (nI ((12 * c) + (tN (μ 25 0 c))))), (5, .int 1), (0, .ref (ad E 16 0)), (1, .int (nI c)), (2, .int x), (3, .int q), (4, .int z)]) X dX3_adds_48 (by decide) rfl ?_
        refine k_aload_n X 2 dX3_adds_50 rfl rfl ?_
        refine gt_X3_44 X dX3_adds_51 ?_
        refine k_iload X 0 dX3_adds_54 rfl ?_
        refine k_iload_n X 4 dX3_adds_56 rfl rfl ?_
        refine k_iast (a := 28) (j := ((12 * c) + (tN (μ 25 0 c)))) X rfl (by decide) rfl (show ((12 * c) + (tN (μ 25 0 c))) < 240 by omega) (by decide) dX3_adds_57 ?_
        refine k_aload_n X 2 dX3_adds_58 rfl rfl ?_
        refine gt_X3_47 X dX3_adds_59 ?_
        refine k_iload X 0 dX3_adds_62 rfl ?_
        refine k_iload_n X 5 dX3_adds_64 rfl rfl ?_
        refine k_iast (a := 29) (j := ((12 * c) + (tN (μ 25 0 c)))) X rfl (by decide) rfl (show ((12 * c) + (tN (μ 25 0 c))) < 240 by omega) (by decide) dX3_adds_65 ?_
        refine k_aload_n X 2 dX3_adds_66 rfl rfl ?_
        refine gt_X3_50 X dX3_adds_67 ?_
        refine k_iload X 0 dX3_adds_70 rfl ?_
        refine k_iload X 6 dX3_adds_72 rfl ?_
        refine k_iast (a := 30) (j := ((12 * c) + (tN (μ 25 0 c)))) X rfl (by decide) rfl (show ((12 * c) + (tN (μ 25 0 c))) < 240 by omega) (by decide) dX3_adds_74 ?_
        refine k_aload_n X 2 dX3_adds_75 rfl rfl ?_
        refine gt_X3_53 X dX3_adds_76 ?_
        refine k_iload X 0 dX3_adds_79 rfl ?_
        refine k_iconst X 0 dX3_adds_81 (by decide) ?_
        refine k_zast (a := 31) (j := ((12 * c) + (tN (μ 25 0 c)))) X rfl (by decide) rfl (show ((12 * c) + (tN (μ 25 0 c))) < 240 by omega) (by decide) (by decide) dX3_adds_82 ?_
        refine k_aload_n X 2 dX3_adds_83 rfl rfl ?_
        refine gt_X3_35 X dX3_adds_84 ?_
        refine k_iload_n X 3 dX3_adds_87 rfl rfl ?_
        refine k_dup2 X dX3_adds_88 rfl rfl ?_
        refine k_iald (a := 25) (j := c) X rfl (by decide) rfl (show c < 20 from hc) (by decide) dX3_adds_89 ?_
        refine k_val (y := nI (tN (μ 25 0 c))) (by simp only [st]; exact hv.1) ?_
        refine k_iconst X 1 dX3_adds_90 (by decide) ?_
        refine k_iadd X dX3_adds_91 ?_
        refine k_val (y := nI ((tN (μ 25 0 c)) + 1)) (nI_add _ _) ?_
        refine k_iast (a := 25) (j := c) X rfl (by decide) rfl (show c < 20 from hc) (by decide) dX3_adds_92 ?_
        exact k_vret dX3_adds_93 hE (if_pos ⟨c8, Or.inr c22⟩).symm
