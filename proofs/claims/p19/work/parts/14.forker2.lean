set_option maxHeartbeats 4000000 in
set_option maxRecDepth 100000 in
theorem L_X2_isOnWay {E : EE} {μ : Mem} {C : Ctx} (b : Nat) (hb : b ≤ 3) (x : Int32) (X : Cx E C cX2_isOnWay RX2 4 (rm 1 0)) (hE : EndI E C cX2_isOnWay 0 0 (bp (owB μ x b = true)) μ) : ∀ (f : Nat) (i : Nat), b - i < f → i ≤ b → (∀ j, j < i → decide (μ 4 0 j = x) = false) → KF E C 0 0 μ 2 [(3, .int (nI i)), (0, .ref (ad E 0 0)), (1, .int x), (2, .int (nI b))] [] := by
  intro f
  induction f with
  | zero => intros; omega
  | succ f ih =>
    intro i hf hi hno
    refine k_iload_n X 0 dX2_isOnWay_2 rfl rfl ?_
    refine k_iload_n X 3 dX2_isOnWay_3 rfl rfl ?_
    refine k_ge_n (a := i) (b := b) (tgt := 34) X dX2_isOnWay_4 (by decide) rfl rfl (by omega) (by omega) (fun c4 => ?_) (fun c4 => ?_)
    · refine k_iconst X 0 dX2_isOnWay_34 (by decide) ?_
      exact k_iret dX2_isOnWay_35 hE (bp_f (by unfold owB; rw [anB_no (fun j hj => hno j (by omega))]; decide)).symm rfl
    · refine k_iload_n X 0 dX2_isOnWay_7 rfl rfl ?_
      refine k_aload_n X 1 dX2_isOnWay_8 rfl rfl ?_
      refine gt_X2_25 X dX2_isOnWay_9 ?_
      refine k_ialen (a := 4) X rfl (by decide) dX2_isOnWay_12 ?_
      refine k_ge_n (a := i) (b := 3) (tgt := 34) X dX2_isOnWay_13 (by decide) rfl rfl (by omega) (by decide) (fun c13 => ?_) (fun c13 => ?_)
      · exact absurd c13 (by omega)
      · refine k_aload_n X 1 dX2_isOnWay_16 rfl rfl ?_
        refine gt_X2_25 X dX2_isOnWay_17 ?_
        refine k_iload_n X 0 dX2_isOnWay_20 rfl rfl ?_
        refine k_iald (a := 4) (j := i) X rfl (by decide) rfl (show i < 3 by omega) (by decide) dX2_isOnWay_21 ?_
        refine k_iload_n X 2 dX2_isOnWay_22 rfl rfl ?_
        refine k_icmp_ne (tgt := 28) X dX2_isOnWay_23 (by decide) (fun c23 => ?_) (fun c23 => ?_)
        · refine k_iinc (v := nI (i + 1)) (L' := [(3, .int (nI (i + 1))), (0, .ref (ad E 0 0)), (1, .int x), (2, .int (nI b))]) X 0 dX2_isOnWay_28 rfl (nI_1 i) (by decide) rfl ?_
          refine k_goto (tgt := 2) X dX2_isOnWay_31 (by decide) ?_
          exact ih (i + 1) (by omega) (by omega) (fun j hj => if e : j = i then e ▸ decide_eq_false c23 else hno j (by omega))
        · refine k_iconst X 1 dX2_isOnWay_26 (by decide) ?_
          exact k_iret dX2_isOnWay_27 hE (bp_t (anB_of (i := i) (decide_eq_true c23) (by omega))).symm rfl

set_option maxHeartbeats 4000000 in
set_option maxRecDepth 100000 in
theorem C_X2_isOnWay {E : EE} {μ : Mem} (b : Nat) (hb : b ≤ 3) (x : Int32) : MM E yX2_isOnWay cX2_isOnWay 4 (some .boolean) (rm 1 0) [.ref (ad E 0 0), .int x, .int (nI b)] μ (some (.int (bp (owB μ x b = true)))) μ := by
  refine MM.int (own := RX2) [(0, .ref (ad E 0 0)), (1, .int x), (2, .int (nI b))] rfl rfl rfl (Nat.le_of_ble_eq_true rfl) bp_nar (fun C X hE => ?_)
  refine k_iconst X (nI 0) dX2_isOnWay_0 (by decide) ?_
  refine k_istore_n (L' := [(3, .int (nI 0)), (0, .ref (ad E 0 0)), (1, .int x), (2, .int (nI b))]) X dX2_isOnWay_1 rfl (by decide) rfl ?_
  exact L_X2_isOnWay b hb x X hE (b + 1) 0 (by omega) (Nat.zero_le b) (fun j hj => absurd hj (Nat.not_lt_zero j))

set_option maxHeartbeats 4000000 in
set_option maxRecDepth 100000 in
theorem C_cu3 {E : EE} {μ : Mem} (c u : Nat) (q : Int32) (hc : c < 20) (hu : u < 6) (hB : BI μ) (hn : vN (μ 11 c 4) 12) : MM E yX2_comeToUser cX2_comeToUser 5 none (rm 3 0) [.ref (ad E 0 0), .ref (ad E 11 c), .int (nI u), .int q, .int (nI 3)] μ none (cu3 c u q μ) := by
  refine MM.void (own := RX2) [(0, .ref (ad E 0 0)), (1, .ref (ad E 11 c)), (2, .int (nI u)), (3, .int q), (4, .int (nI 3))] rfl rfl rfl (Nat.le_of_ble_eq_true rfl) (fun C X hE => ?_)
  refine k_aload_n X 0 dX2_comeToUser_0 rfl rfl ?_
  refine k_iload_n X 2 dX2_comeToUser_1 rfl rfl ?_
  refine k_iload X 4 dX2_comeToUser_2 rfl ?_
  refine k_callV (a := 0) (o := 0) (As := [.int (nI u), .int (nI 3)]) (S := []) X lk_X2_196 rfl (by decide) rfl (C_X2_isOnWay 3 (by decide) _) rfl rfl (Nat.le_of_ble_eq_true rfl) ⟨Nat.le_of_ble_eq_true rfl, Nat.le_of_ble_eq_true rfl⟩ ⟨Nat.le_of_ble_eq_true rfl, Nat.le_of_ble_eq_true rfl⟩ dX2_comeToUser_4 ?_
  show KF E C 0 0 μ 7 _ [.int (bp (owB μ (nI u) 3 = true))]
  refine k_if_eq_p (tgt := 21) X dX2_comeToUser_7 (by decide) (fun c7 => ?_) (fun c7 => ?_)
  · refine k_iload X 4 dX2_comeToUser_21 rfl ?_
    refine k_iconst X 2 dX2_comeToUser_23 (by decide) ?_
    refine k_icmp_le_f (tgt := 38) X dX2_comeToUser_24 (by decide) (by decide) ?_
    refine k_aload_n X 1 dX2_comeToUser_27 rfl rfl ?_
    refine k_iload_n X 3 dX2_comeToUser_28 rfl rfl ?_
    refine k_sipush X 483 dX2_comeToUser_29 (by decide) ?_
    refine k_callV (a := 11) (o := c) (As := [.int q, .int 483]) (S := []) X lk_X2_199 rfl hc rfl (C_X1_addEnded c _ hc hn.1 hn.2 _ _) rfl rfl (Nat.le_of_ble_eq_true rfl) ⟨Nat.le_of_ble_eq_true rfl, Nat.le_of_ble_eq_true rfl⟩ ⟨Nat.le_of_ble_eq_true rfl, Nat.le_of_ble_eq_true rfl⟩ dX2_comeToUser_32 ?_
    show KF E C 0 0 (aeM μ c q 483) 35 _ []
    refine k_goto (tgt := 47) X dX2_comeToUser_35 (by decide) ?_
    exact k_vret dX2_comeToUser_47 hE (by unfold cu3 cuG; rw [if_neg c7, if_pos (by decide)])
  · refine k_aload_n X 1 dX2_comeToUser_10 rfl rfl ?_
    refine k_iload_n X 3 dX2_comeToUser_11 rfl rfl ?_
    refine k_sipush X 482 dX2_comeToUser_12 (by decide) ?_
    refine k_callV (a := 11) (o := c) (As := [.int q, .int 482]) (S := []) X lk_X2_199 rfl hc rfl (C_X1_addEnded c _ hc hn.1 hn.2 _ _) rfl rfl (Nat.le_of_ble_eq_true rfl) ⟨Nat.le_of_ble_eq_true rfl, Nat.le_of_ble_eq_true rfl⟩ ⟨Nat.le_of_ble_eq_true rfl, Nat.le_of_ble_eq_true rfl⟩ dX2_comeToUser_15 ?_
    show KF E C 0 0 (aeM μ c q 482) 18 _ []
    refine k_goto (tgt := 47) X dX2_comeToUser_18 (by decide) ?_
    exact k_vret dX2_comeToUser_47 hE (by unfold cu3 cuG; rw [if_pos c7])

set_option maxHeartbeats 4000000 in
set_option maxRecDepth 100000 in
theorem L_fu2 {E : EE} {μ : Mem} {C : Ctx} (c u m : Nat) (q : Int32) (hc : c < 20) (hu : u < 6) (hm : μ 6 u 4 = nI m) (hm16 : m ≤ 16) (hB : BI μ) (hn : vN (μ 11 c 4) 12) (X : Cx E C cX2_followUser RX2 9 (rm 4 0)) (hE : EndV E C cX2_followUser 0 0 (fuL (cu3 c) 2 c u q m μ)) : ∀ (f : Nat) (i : Nat), m - i < f → i ≤ m → KF E C 0 0 (fuL (cu3 c) 2 c u q i μ) 30 [(6, .int (nI i)), (5, .ref (ad E 6 u)), (0, .ref (ad E 0 0)), (1, .ref (ad E 11 c)), (2, .int (nI u)), (3, .int q), (4, .int (nI 2))] [] := by
  intro f
  induction f with
  | zero => intros; omega
  | succ f ih =>
    intro i hf hi
    have hf9 := fuL_FC (b := 2) (u := u) (qw := q) hn cu3_FC i
    have hBM := hB.fr hf9.1
    have hnM := hf9.2.1 hn
    have e6 := hf9.1.1 6 u 4 (by decide) (by decide) (by decide) (by decide) (by decide)
    refine k_iload X 0 dX2_followUser_30 rfl ?_
    refine k_aload X 1 dX2_followUser_32 rfl ?_
    refine gn_X2_180 X hu dX2_followUser_34 ?_
    refine k_val (y := nI m) (e6.trans hm) ?_
    refine k_ge_n (a := i) (b := m) (tgt := 126) X dX2_followUser_37 (by decide) rfl rfl (by omega) (by omega) (fun c37 => ?_) (fun c37 => ?_)
    · exact k_vret dX2_followUser_126 hE (by rw [show i = m by omega])
    · have hv : vN ((fuL (cu3 c) 2 c u q i μ) 10 u i) 15 := (hBM u hu).2 i (by rw [e6, hm, tN_nI (by omega)]; exact c37)
      refine k_aload X 1 dX2_followUser_40 rfl ?_
      refine gn_X2_183 X hu dX2_followUser_42 ?_
      refine k_iload X 0 dX2_followUser_45 rfl ?_
      refine k_iald (a := 10) (j := i) X rfl hu rfl (show i < 16 by omega) (by decide) dX2_followUser_47 ?_
      refine k_val (y := nI (tN ((fuL (cu3 c) 2 c u q i μ) 10 u i))) hv.1 ?_
      refine k_istore (L' := [(7, .int (nI (tN ((fuL (cu3 c) 2 c u q i μ) 10 u i)))), (6, .int (nI i)), (5, .ref (ad E 6 u)), (0, .ref (ad E 0 0)), (1, .ref (ad E 11 c)), (2, .int (nI u)), (3, .int q), (4, .int (nI 2))]) X dX2_followUser_48 (by decide) rfl ?_
      refine k_aload X 2 dX2_followUser_50 rfl ?_
      refine k_iload X 0 dX2_followUser_52 rfl ?_
      refine k_aload_n X 3 dX2_followUser_54 rfl rfl ?_
      refine gt_X2_35 X dX2_followUser_55 ?_
      refine k_callV (a := 6) (o := u) (As := [.int (nI (tN ((fuL (cu3 c) 2 c u q i μ) 10 u i))), .int ((fuL (cu3 c) 2 c u q i μ) 0 0 6)]) (S := []) X lk_X2_186 rfl hu rfl (C_X0_isThere u (tN ((fuL (cu3 c) 2 c u q i μ) 10 u i)) _ _ hu (Nat.lt_succ_of_le hv.2) rfl) rfl rfl (Nat.le_of_ble_eq_true rfl) ⟨Nat.le_of_ble_eq_true rfl, Nat.le_of_ble_eq_true rfl⟩ ⟨Nat.le_of_ble_eq_true rfl, Nat.le_of_ble_eq_true rfl⟩ dX2_followUser_58 ?_
      show KF E C 0 0 (fuL (cu3 c) 2 c u q i μ) 61 _ [.int (bp (thB (fuL (cu3 c) 2 c u q i μ) u ((fuL (cu3 c) 2 c u q i μ) 0 0 6) (tN ((fuL (cu3 c) 2 c u q i μ) 10 u i)) = true))]
      refine k_if_ne_p (tgt := 67) X dX2_followUser_61 (by decide) (fun c61 => ?_) (fun c61 => ?_)
      · refine k_iload X 7 dX2_followUser_67 rfl ?_
        refine k_if_ne_t (tgt := 83) X dX2_followUser_69 (by decide) (by decide) ?_
        refine k_iload_n X 6 dX2_followUser_83 rfl rfl ?_
        refine k_istore (L' := [(8, .int q), (7, .int (nI (tN ((fuL (cu3 c) 2 c u q i μ) 10 u i)))), (6, .int (nI i)), (5, .ref (ad E 6 u)), (0, .ref (ad E 0 0)), (1, .ref (ad E 11 c)), (2, .int (nI u)), (3, .int q), (4, .int (nI 2))]) X dX2_followUser_84 (by decide) rfl ?_
        refine k_iload X 1 dX2_followUser_86 rfl ?_
        refine k_bipush X 10 dX2_followUser_88 (by decide) ?_
        refine k_ge_n (a := tN ((fuL (cu3 c) 2 c u q i μ) 10 u i)) (b := 10) (tgt := 104) X dX2_followUser_90 (by decide) rfl rfl (by have := hv.2; omega) (by decide) (fun c90 => ?_) (fun c90 => ?_)
        · refine k_aload_n X 4 dX2_followUser_104 rfl rfl ?_
          refine k_aload_n X 5 dX2_followUser_105 rfl rfl ?_
          refine k_iload X 1 dX2_followUser_106 rfl ?_
          refine k_bipush X 10 dX2_followUser_108 (by decide) ?_
          refine k_isub X dX2_followUser_110 ?_
          refine k_val (y := nI (tN ((fuL (cu3 c) 2 c u q i μ) 10 u i) - 10)) (pk_sub c90) ?_
          refine k_iload X 0 dX2_followUser_111 rfl ?_
          refine k_iload X 8 dX2_followUser_113 rfl ?_
          refine k_iconst X 1 dX2_followUser_115 (by decide) ?_
          refine k_iadd X dX2_followUser_116 ?_
          refine k_val (y := nI 3) (by decide) ?_
          refine k_callV (a := 0) (o := 0) (As := [.ref (ad E 11 c), .int (nI (tN ((fuL (cu3 c) 2 c u q i μ) 10 u i) - 10)), .int q, .int (nI 3)]) (S := []) X lk_X2_193 rfl (by decide) rfl (C_cu3 c (tN ((fuL (cu3 c) 2 c u q i μ) 10 u i) - 10) _ hc (by have := hv.2; omega) hBM hnM) rfl rfl (Nat.le_of_ble_eq_true rfl) ⟨Nat.le_of_ble_eq_true rfl, Nat.le_of_ble_eq_true rfl⟩ ⟨Nat.le_of_ble_eq_true rfl, Nat.le_of_ble_eq_true rfl⟩ dX2_followUser_117 ?_
          show KF E C 0 0 (cu3 c (tN ((fuL (cu3 c) 2 c u q i μ) 10 u i) - 10) q (fuL (cu3 c) 2 c u q i μ)) 120 _ []
          refine k_iinc (v := nI (i + 1)) (L' := [(6, .int (nI (i + 1))), (8, .int q), (7, .int (nI (tN ((fuL (cu3 c) 2 c u q i μ) 10 u i)))), (5, .ref (ad E 6 u)), (0, .ref (ad E 0 0)), (1, .ref (ad E 11 c)), (2, .int (nI u)), (3, .int q), (4, .int (nI 2))]) X 2 dX2_followUser_120 rfl (nI_1 i) (by decide) rfl ?_
          refine k_goto (tgt := 30) X dX2_followUser_123 (by decide) ?_
          have e1 : fuL (cu3 c) 2 c u q (i + 1) μ = cu3 c (tN ((fuL (cu3 c) 2 c u q i μ) 10 u i) - 10) q (fuL (cu3 c) 2 c u q i μ) := by show fuS _ _ _ _ _ _ _ = _; unfold fuS; rw [if_pos c61, if_neg (Nat.not_lt.mpr c90)]; rfl
          refine k_mem (μ' := fuL (cu3 c) 2 c u q (i + 1) μ) e1.symm ?_
          refine k_pick (L' := [(6, .int (nI (i + 1))), (5, .ref (ad E 6 u)), (0, .ref (ad E 0 0)), (1, .ref (ad E 11 c)), (2, .int (nI u)), (3, .int q), (4, .int (nI 2))]) [0, 3, 4, 5, 6, 7, 8] rfl ?_
          exact ih (i + 1) (by omega) (by omega)
        · refine k_aload_n X 5 dX2_followUser_93 rfl rfl ?_
          refine k_iload X 1 dX2_followUser_94 rfl ?_
          refine k_iload X 0 dX2_followUser_96 rfl ?_
          refine k_callV (a := 11) (o := c) (As := [.int (nI (tN ((fuL (cu3 c) 2 c u q i μ) 10 u i))), .int q]) (S := []) X lk_X2_189 rfl hc rfl (C_X1_addDevice c _ hc hnM.1 hnM.2 _ _) rfl rfl (Nat.le_of_ble_eq_true rfl) ⟨Nat.le_of_ble_eq_true rfl, Nat.le_of_ble_eq_true rfl⟩ ⟨Nat.le_of_ble_eq_true rfl, Nat.le_of_ble_eq_true rfl⟩ dX2_followUser_98 ?_
          show KF E C 0 0 (adM (fuL (cu3 c) 2 c u q i μ) c (nI (tN ((fuL (cu3 c) 2 c u q i μ) 10 u i))) q) 101 _ []
          refine k_goto (tgt := 120) X dX2_followUser_101 (by decide) ?_
          refine k_iinc (v := nI (i + 1)) (L' := [(6, .int (nI (i + 1))), (8, .int q), (7, .int (nI (tN ((fuL (cu3 c) 2 c u q i μ) 10 u i)))), (5, .ref (ad E 6 u)), (0, .ref (ad E 0 0)), (1, .ref (ad E 11 c)), (2, .int (nI u)), (3, .int q), (4, .int (nI 2))]) X 2 dX2_followUser_120 rfl (nI_1 i) (by decide) rfl ?_
          refine k_goto (tgt := 30) X dX2_followUser_123 (by decide) ?_
          have e1 : fuL (cu3 c) 2 c u q (i + 1) μ = adM (fuL (cu3 c) 2 c u q i μ) c (nI (tN ((fuL (cu3 c) 2 c u q i μ) 10 u i))) q := by show fuS _ _ _ _ _ _ _ = _; unfold fuS; rw [if_pos c61, if_pos c90]; rfl
          refine k_mem (μ' := fuL (cu3 c) 2 c u q (i + 1) μ) e1.symm ?_
          refine k_pick (L' := [(6, .int (nI (i + 1))), (5, .ref (ad E 6 u)), (0, .ref (ad E 0 0)), (1, .ref (ad E 11 c)), (2, .int (nI u)), (3, .int q), (4, .int (nI 2))]) [0, 3, 4, 5, 6, 7, 8] rfl ?_
          exact ih (i + 1) (by omega) (by omega)
      · refine k_goto (tgt := 120) X dX2_followUser_64 (by decide) ?_
        refine k_iinc (v := nI (i + 1)) (L' := [(6, .int (nI (i + 1))), (7, .int (nI (tN ((fuL (cu3 c) 2 c u q i μ) 10 u i)))), (5, .ref (ad E 6 u)), (0, .ref (ad E 0 0)), (1, .ref (ad E 11 c)), (2, .int (nI u)), (3, .int q), (4, .int (nI 2))]) X 1 dX2_followUser_120 rfl (nI_1 i) (by decide) rfl ?_
        refine k_goto (tgt := 30) X dX2_followUser_123 (by decide) ?_
        have e1 : fuL (cu3 c) 2 c u q (i + 1) μ = fuL (cu3 c) 2 c u q i μ := by show fuS _ _ _ _ _ _ _ = _; unfold fuS; rw [if_neg c61]
        refine k_mem (μ' := fuL (cu3 c) 2 c u q (i + 1) μ) e1.symm ?_
        refine k_pick (L' := [(6, .int (nI (i + 1))), (5, .ref (ad E 6 u)), (0, .ref (ad E 0 0)), (1, .ref (ad E 11 c)), (2, .int (nI u)), (3, .int q), (4, .int (nI 2))]) [0, 2, 3, 4, 5, 6, 7] rfl ?_
        exact ih (i + 1) (by omega) (by omega)

set_option maxHeartbeats 4000000 in
set_option maxRecDepth 100000 in
theorem C_fu2 {E : EE} {μ : Mem} (c u : Nat) (q x : Int32) (hc : c < 20) (hu : u < 6) (hB : BI μ) (hn : vN (μ 11 c 4) 12) (hx : x = nI u) : MM E yX2_followUser cX2_followUser 9 none (rm 4 0) [.ref (ad E 0 0), .ref (ad E 11 c), .int x, .int q, .int (nI 2)] μ none (fu2 c u q μ) := by
  refine MM.void (own := RX2) [(0, .ref (ad E 0 0)), (1, .ref (ad E 11 c)), (2, .int x), (3, .int q), (4, .int (nI 2))] rfl rfl rfl (Nat.le_of_ble_eq_true rfl) (fun C X hE => ?_)
  subst hx
  refine k_iload X 4 dX2_followUser_0 rfl ?_
  refine k_aload_n X 0 dX2_followUser_2 rfl rfl ?_
  refine gt_X2_25 X dX2_followUser_3 ?_
  refine k_ialen (a := 4) X rfl (by decide) dX2_followUser_6 ?_
  refine k_icmp_lt_t (tgt := 11) X dX2_followUser_7 (by decide) (by decide) ?_
  refine k_aload_n X 0 dX2_followUser_11 rfl rfl ?_
  refine gt_X2_25 X dX2_followUser_12 ?_
  refine k_iload X 4 dX2_followUser_15 rfl ?_
  refine k_iload_n X 2 dX2_followUser_17 rfl rfl ?_
  refine k_iast (a := 4) (j := 2) X rfl (by decide) rfl (by decide) (by decide) dX2_followUser_18 ?_
  refine k_aload_n X 0 dX2_followUser_19 rfl rfl ?_
  refine gt_X2_11 X dX2_followUser_20 ?_
  refine k_iload_n X 2 dX2_followUser_23 rfl rfl ?_
  refine k_rald (j := u) X rfl hu dX2_followUser_24 ?_
  refine k_astore (L' := [(5, .ref (ad E 6 u)), (0, .ref (ad E 0 0)), (1, .ref (ad E 11 c)), (2, .int (nI u)), (3, .int q), (4, .int (nI 2))]) X dX2_followUser_25 (by decide) rfl ?_
  refine k_iconst X (nI 0) dX2_followUser_27 (by decide) ?_
  refine k_istore (L' := [(6, .int (nI 0)), (5, .ref (ad E 6 u)), (0, .ref (ad E 0 0)), (1, .ref (ad E 11 c)), (2, .int (nI u)), (3, .int q), (4, .int (nI 2))]) X dX2_followUser_28 (by decide) rfl ?_
  refine k_mem (μ' := fuL (cu3 c) 2 c u q 0 (st μ 4 0 2 (nI u))) rfl ?_
  exact L_fu2 c u (tN (μ 6 u 4)) q hc hu ((st_k (by decide)).trans (hB u hu).1.1) (hB u hu).1.2 (hB.fr (way_FC (c := c)).1) (by rw [st_k (by decide)]; exact hn) X hE (tN (μ 6 u 4) + 1) 0 (by omega) (Nat.zero_le _)

set_option maxHeartbeats 4000000 in
set_option maxRecDepth 100000 in
theorem C_cu2 {E : EE} {μ : Mem} (c u : Nat) (q : Int32) (hc : c < 20) (hu : u < 6) (hB : BI μ) (hn : vN (μ 11 c 4) 12) : MM E yX2_comeToUser cX2_comeToUser 5 none (rm 5 0) [.ref (ad E 0 0), .ref (ad E 11 c), .int (nI u), .int q, .int (nI 2)] μ none (cu2 c u q μ) := by
  refine MM.void (own := RX2) [(0, .ref (ad E 0 0)), (1, .ref (ad E 11 c)), (2, .int (nI u)), (3, .int q), (4, .int (nI 2))] rfl rfl rfl (Nat.le_of_ble_eq_true rfl) (fun C X hE => ?_)
  refine k_aload_n X 0 dX2_comeToUser_0 rfl rfl ?_
  refine k_iload_n X 2 dX2_comeToUser_1 rfl rfl ?_
  refine k_iload X 4 dX2_comeToUser_2 rfl ?_
  refine k_callV (a := 0) (o := 0) (As := [.int (nI u), .int (nI 2)]) (S := []) X lk_X2_196 rfl (by decide) rfl (C_X2_isOnWay 2 (by decide) _) rfl rfl (Nat.le_of_ble_eq_true rfl) ⟨Nat.le_of_ble_eq_true rfl, Nat.le_of_ble_eq_true rfl⟩ ⟨Nat.le_of_ble_eq_true rfl, Nat.le_of_ble_eq_true rfl⟩ dX2_comeToUser_4 ?_
  show KF E C 0 0 μ 7 _ [.int (bp (owB μ (nI u) 2 = true))]
  refine k_if_eq_p (tgt := 21) X dX2_comeToUser_7 (by decide) (fun c7 => ?_) (fun c7 => ?_)
  · refine k_iload X 4 dX2_comeToUser_21 rfl ?_
    refine k_iconst X 2 dX2_comeToUser_23 (by decide) ?_
    refine k_icmp_le_t (tgt := 38) X dX2_comeToUser_24 (by decide) (by decide) ?_
    refine k_aload_n X 0 dX2_comeToUser_38 rfl rfl ?_
    refine k_aload_n X 1 dX2_comeToUser_39 rfl rfl ?_
    refine k_iload_n X 2 dX2_comeToUser_40 rfl rfl ?_
    refine k_iload_n X 3 dX2_comeToUser_41 rfl rfl ?_
    refine k_iload X 4 dX2_comeToUser_42 rfl ?_
    refine k_callV (a := 0) (o := 0) (As := [.ref (ad E 11 c), .int (nI u), .int q, .int (nI 2)]) (S := []) X lk_X2_94 rfl (by decide) rfl (C_fu2 c u q _ hc hu hB hn rfl) rfl rfl (Nat.le_of_ble_eq_true rfl) ⟨Nat.le_of_ble_eq_true rfl, Nat.le_of_ble_eq_true rfl⟩ ⟨Nat.le_of_ble_eq_true rfl, Nat.le_of_ble_eq_true rfl⟩ dX2_comeToUser_44 ?_
    show KF E C 0 0 (fu2 c u q μ) 47 _ []
    exact k_vret dX2_comeToUser_47 hE (by unfold cu2 cuG; rw [if_neg c7, if_neg (by decide)])
  · refine k_aload_n X 1 dX2_comeToUser_10 rfl rfl ?_
    refine k_iload_n X 3 dX2_comeToUser_11 rfl rfl ?_
    refine k_sipush X 482 dX2_comeToUser_12 (by decide) ?_
    refine k_callV (a := 11) (o := c) (As := [.int q, .int 482]) (S := []) X lk_X2_199 rfl hc rfl (C_X1_addEnded c _ hc hn.1 hn.2 _ _) rfl rfl (Nat.le_of_ble_eq_true rfl) ⟨Nat.le_of_ble_eq_true rfl, Nat.le_of_ble_eq_true rfl⟩ ⟨Nat.le_of_ble_eq_true rfl, Nat.le_of_ble_eq_true rfl⟩ dX2_comeToUser_15 ?_
    show KF E C 0 0 (aeM μ c q 482) 18 _ []
    refine k_goto (tgt := 47) X dX2_comeToUser_18 (by decide) ?_
    exact k_vret dX2_comeToUser_47 hE (by unfold cu2 cuG; rw [if_pos c7])

set_option maxHeartbeats 4000000 in
set_option maxRecDepth 100000 in
theorem L_fu1 {E : EE} {μ : Mem} {C : Ctx} (c u m : Nat) (q : Int32) (hc : c < 20) (hu : u < 6) (hm : μ 6 u 4 = nI m) (hm16 : m ≤ 16) (hB : BI μ) (hn : vN (μ 11 c 4) 12) (X : Cx E C cX2_followUser RX2 9 (rm 6 0)) (hE : EndV E C cX2_followUser 0 0 (fuL (cu2 c) 1 c u q m μ)) : ∀ (f : Nat) (i : Nat), m - i < f → i ≤ m → KF E C 0 0 (fuL (cu2 c) 1 c u q i μ) 30 [(6, .int (nI i)), (5, .ref (ad E 6 u)), (0, .ref (ad E 0 0)), (1, .ref (ad E 11 c)), (2, .int (nI u)), (3, .int q), (4, .int (nI 1))] [] := by
  intro f
  induction f with
  | zero => intros; omega
  | succ f ih =>
    intro i hf hi
    have hf9 := fuL_FC (b := 1) (u := u) (qw := q) hn cu2_FC i
    have hBM := hB.fr hf9.1
    have hnM := hf9.2.1 hn
    have e6 := hf9.1.1 6 u 4 (by decide) (by decide) (by decide) (by decide) (by decide)
    refine k_iload X 0 dX2_followUser_30 rfl ?_
    refine k_aload X 1 dX2_followUser_32 rfl ?_
    refine gn_X2_180 X hu dX2_followUser_34 ?_
    refine k_val (y := nI m) (e6.trans hm) ?_
    refine k_ge_n (a := i) (b := m) (tgt := 126) X dX2_followUser_37 (by decide) rfl rfl (by omega) (by omega) (fun c37 => ?_) (fun c37 => ?_)
    · exact k_vret dX2_followUser_126 hE (by rw [show i = m by omega])
    · have hv : vN ((fuL (cu2 c) 1 c u q i μ) 10 u i) 15 := (hBM u hu).2 i (by rw [e6, hm, tN_nI (by omega)]; exact c37)
      refine k_aload X 1 dX2_followUser_40 rfl ?_
      refine gn_X2_183 X hu dX2_followUser_42 ?_
      refine k_iload X 0 dX2_followUser_45 rfl ?_
      refine k_iald (a := 10) (j := i) X rfl hu rfl (show i < 16 by omega) (by decide) dX2_followUser_47 ?_
      refine k_val (y := nI (tN ((fuL (cu2 c) 1 c u q i μ) 10 u i))) hv.1 ?_
      refine k_istore (L' := [(7, .int (nI (tN ((fuL (cu2 c) 1 c u q i μ) 10 u i)))), (6, .int (nI i)), (5, .ref (ad E 6 u)), (0, .ref (ad E 0 0)), (1, .ref (ad E 11 c)), (2, .int (nI u)), (3, .int q), (4, .int (nI 1))]) X dX2_followUser_48 (by decide) rfl ?_
      refine k_aload X 2 dX2_followUser_50 rfl ?_
      refine k_iload X 0 dX2_followUser_52 rfl ?_
      refine k_aload_n X 3 dX2_followUser_54 rfl rfl ?_
      refine gt_X2_35 X dX2_followUser_55 ?_
      refine k_callV (a := 6) (o := u) (As := [.int (nI (tN ((fuL (cu2 c) 1 c u q i μ) 10 u i))), .int ((fuL (cu2 c) 1 c u q i μ) 0 0 6)]) (S := []) X lk_X2_186 rfl hu rfl (C_X0_isThere u (tN ((fuL (cu2 c) 1 c u q i μ) 10 u i)) _ _ hu (Nat.lt_succ_of_le hv.2) rfl) rfl rfl (Nat.le_of_ble_eq_true rfl) ⟨Nat.le_of_ble_eq_true rfl, Nat.le_of_ble_eq_true rfl⟩ ⟨Nat.le_of_ble_eq_true rfl, Nat.le_of_ble_eq_true rfl⟩ dX2_followUser_58 ?_
      show KF E C 0 0 (fuL (cu2 c) 1 c u q i μ) 61 _ [.int (bp (thB (fuL (cu2 c) 1 c u q i μ) u ((fuL (cu2 c) 1 c u q i μ) 0 0 6) (tN ((fuL (cu2 c) 1 c u q i μ) 10 u i)) = true))]
      refine k_if_ne_p (tgt := 67) X dX2_followUser_61 (by decide) (fun c61 => ?_) (fun c61 => ?_)
      · refine k_iload X 7 dX2_followUser_67 rfl ?_
        refine k_if_ne_t (tgt := 83) X dX2_followUser_69 (by decide) (by decide) ?_
        refine k_iload_n X 6 dX2_followUser_83 rfl rfl ?_
        refine k_istore (L' := [(8, .int q), (7, .int (nI (tN ((fuL (cu2 c) 1 c u q i μ) 10 u i)))), (6, .int (nI i)), (5, .ref (ad E 6 u)), (0, .ref (ad E 0 0)), (1, .ref (ad E 11 c)), (2, .int (nI u)), (3, .int q), (4, .int (nI 1))]) X dX2_followUser_84 (by decide) rfl ?_
        refine k_iload X 1 dX2_followUser_86 rfl ?_
        refine k_bipush X 10 dX2_followUser_88 (by decide) ?_
        refine k_ge_n (a := tN ((fuL (cu2 c) 1 c u q i μ) 10 u i)) (b := 10) (tgt := 104) X dX2_followUser_90 (by decide) rfl rfl (by have := hv.2; omega) (by decide) (fun c90 => ?_) (fun c90 => ?_)
        · refine k_aload_n X 4 dX2_followUser_104 rfl rfl ?_
          refine k_aload_n X 5 dX2_followUser_105 rfl rfl ?_
          refine k_iload X 1 dX2_followUser_106 rfl ?_
          refine k_bipush X 10 dX2_followUser_108 (by decide) ?_
          refine k_isub X dX2_followUser_110 ?_
          refine k_val (y := nI (tN ((fuL (cu2 c) 1 c u q i μ) 10 u i) - 10)) (pk_sub c90) ?_
          refine k_iload X 0 dX2_followUser_111 rfl ?_
          refine k_iload X 8 dX2_followUser_113 rfl ?_
          refine k_iconst X 1 dX2_followUser_115 (by decide) ?_
          refine k_iadd X dX2_followUser_116 ?_
          refine k_val (y := nI 2) (by decide) ?_
          refine k_callV (a := 0) (o := 0) (As := [.ref (ad E 11 c), .int (nI (tN ((fuL (cu2 c) 1 c u q i μ) 10 u i) - 10)), .int q, .int (nI 2)]) (S := []) X lk_X2_193 rfl (by decide) rfl (C_cu2 c (tN ((fuL (cu2 c) 1 c u q i μ) 10 u i) - 10) _ hc (by have := hv.2; omega) hBM hnM) rfl rfl (Nat.le_of_ble_eq_true rfl) ⟨Nat.le_of_ble_eq_true rfl, Nat.le_of_ble_eq_true rfl⟩ ⟨Nat.le_of_ble_eq_true rfl, Nat.le_of_ble_eq_true rfl⟩ dX2_followUser_117 ?_
          show KF E C 0 0 (cu2 c (tN ((fuL (cu2 c) 1 c u q i μ) 10 u i) - 10) q (fuL (cu2 c) 1 c u q i μ)) 120 _ []
          refine k_iinc (v := nI (i + 1)) (L' := [(6, .int (nI (i + 1))), (8, .int q), (7, .int (nI (tN ((fuL (cu2 c) 1 c u q i μ) 10 u i)))), (5, .ref (ad E 6 u)), (0, .ref (ad E 0 0)), (1, .ref (ad E 11 c)), (2, .int (nI u)), (3, .int q), (4, .int (nI 1))]) X 2 dX2_followUser_120 rfl (nI_1 i) (by decide) rfl ?_
          refine k_goto (tgt := 30) X dX2_followUser_123 (by decide) ?_
          have e1 : fuL (cu2 c) 1 c u q (i + 1) μ = cu2 c (tN ((fuL (cu2 c) 1 c u q i μ) 10 u i) - 10) q (fuL (cu2 c) 1 c u q i μ) := by show fuS _ _ _ _ _ _ _ = _; unfold fuS; rw [if_pos c61, if_neg (Nat.not_lt.mpr c90)]; rfl
          refine k_mem (μ' := fuL (cu2 c) 1 c u q (i + 1) μ) e1.symm ?_
          refine k_pick (L' := [(6, .int (nI (i + 1))), (5, .ref (ad E 6 u)), (0, .ref (ad E 0 0)), (1, .ref (ad E 11 c)), (2, .int (nI u)), (3, .int q), (4, .int (nI 1))]) [0, 3, 4, 5, 6, 7, 8] rfl ?_
          exact ih (i + 1) (by omega) (by omega)
        · refine k_aload_n X 5 dX2_followUser_93 rfl rfl ?_
          refine k_iload X 1 dX2_followUser_94 rfl ?_
          refine k_iload X 0 dX2_followUser_96 rfl ?_
          refine k_callV (a := 11) (o := c) (As := [.int (nI (tN ((fuL (cu2 c) 1 c u q i μ) 10 u i))), .int q]) (S := []) X lk_X2_189 rfl hc rfl (C_X1_addDevice c _ hc hnM.1 hnM.2 _ _) rfl rfl (Nat.le_of_ble_eq_true rfl) ⟨Nat.le_of_ble_eq_true rfl, Nat.le_of_ble_eq_true rfl⟩ ⟨Nat.le_of_ble_eq_true rfl, Nat.le_of_ble_eq_true rfl⟩ dX2_followUser_98 ?_
          show KF E C 0 0 (adM (fuL (cu2 c) 1 c u q i μ) c (nI (tN ((fuL (cu2 c) 1 c u q i μ) 10 u i))) q) 101 _ []
          refine k_goto (tgt := 120) X dX2_followUser_101 (by decide) ?_
          refine k_iinc (v := nI (i + 1)) (L' := [(6, .int (nI (i + 1))), (8, .int q), (7, .int (nI (tN ((fuL (cu2 c) 1 c u q i μ) 10 u i)))), (5, .ref (ad E 6 u)), (0, .ref (ad E 0 0)), (1, .ref (ad E 11 c)), (2, .int (nI u)), (3, .int q), (4, .int (nI 1))]) X 2 dX2_followUser_120 rfl (nI_1 i) (by decide) rfl ?_
          refine k_goto (tgt := 30) X dX2_followUser_123 (by decide) ?_
          have e1 : fuL (cu2 c) 1 c u q (i + 1) μ = adM (fuL (cu2 c) 1 c u q i μ) c (nI (tN ((fuL (cu2 c) 1 c u q i μ) 10 u i))) q := by show fuS _ _ _ _ _ _ _ = _; unfold fuS; rw [if_pos c61, if_pos c90]; rfl
          refine k_mem (μ' := fuL (cu2 c) 1 c u q (i + 1) μ) e1.symm ?_
          refine k_pick (L' := [(6, .int (nI (i + 1))), (5, .ref (ad E 6 u)), (0, .ref (ad E 0 0)), (1, .ref (ad E 11 c)), (2, .int (nI u)), (3, .int q), (4, .int (nI 1))]) [0, 3, 4, 5, 6, 7, 8] rfl ?_
          exact ih (i + 1) (by omega) (by omega)
      · refine k_goto (tgt := 120) X dX2_followUser_64 (by decide) ?_
        refine k_iinc (v := nI (i + 1)) (L' := [(6, .int (nI (i + 1))), (7, .int (nI (tN ((fuL (cu2 c) 1 c u q i μ) 10 u i)))), (5, .ref (ad E 6 u)), (0, .ref (ad E 0 0)), (1, .ref (ad E 11 c)), (2, .int (nI u)), (3, .int q), (4, .int (nI 1))]) X 1 dX2_followUser_120 rfl (nI_1 i) (by decide) rfl ?_
        refine k_goto (tgt := 30) X dX2_followUser_123 (by decide) ?_
        have e1 : fuL (cu2 c) 1 c u q (i + 1) μ = fuL (cu2 c) 1 c u q i μ := by show fuS _ _ _ _ _ _ _ = _; unfold fuS; rw [if_neg c61]
        refine k_mem (μ' := fuL (cu2 c) 1 c u q (i + 1) μ) e1.symm ?_
        refine k_pick (L' := [(6, .int (nI (i + 1))), (5, .ref (ad E 6 u)), (0, .ref (ad E 0 0)), (1, .ref (ad E 11 c)), (2, .int (nI u)), (3, .int q), (4, .int (nI 1))]) [0, 2, 3, 4, 5, 6, 7] rfl ?_
        exact ih (i + 1) (by omega) (by omega)

set_option maxHeartbeats 4000000 in
set_option maxRecDepth 100000 in
theorem C_fu1 {E : EE} {μ : Mem} (c u : Nat) (q x : Int32) (hc : c < 20) (hu : u < 6) (hB : BI μ) (hn : vN (μ 11 c 4) 12) (hx : x = nI u) : MM E yX2_followUser cX2_followUser 9 none (rm 6 0) [.ref (ad E 0 0), .ref (ad E 11 c), .int x, .int q, .int (nI 1)] μ none (fu1 c u q μ) := by
  refine MM.void (own := RX2) [(0, .ref (ad E 0 0)), (1, .ref (ad E 11 c)), (2, .int x), (3, .int q), (4, .int (nI 1))] rfl rfl rfl (Nat.le_of_ble_eq_true rfl) (fun C X hE => ?_)
  subst hx
  refine k_iload X 4 dX2_followUser_0 rfl ?_
  refine k_aload_n X 0 dX2_followUser_2 rfl rfl ?_
  refine gt_X2_25 X dX2_followUser_3 ?_
  refine k_ialen (a := 4) X rfl (by decide) dX2_followUser_6 ?_
  refine k_icmp_lt_t (tgt := 11) X dX2_followUser_7 (by decide) (by decide) ?_
  refine k_aload_n X 0 dX2_followUser_11 rfl rfl ?_
  refine gt_X2_25 X dX2_followUser_12 ?_
  refine k_iload X 4 dX2_followUser_15 rfl ?_
  refine k_iload_n X 2 dX2_followUser_17 rfl rfl ?_
  refine k_iast (a := 4) (j := 1) X rfl (by decide) rfl (by decide) (by decide) dX2_followUser_18 ?_
  refine k_aload_n X 0 dX2_followUser_19 rfl rfl ?_
  refine gt_X2_11 X dX2_followUser_20 ?_
  refine k_iload_n X 2 dX2_followUser_23 rfl rfl ?_
  refine k_rald (j := u) X rfl hu dX2_followUser_24 ?_
  refine k_astore (L' := [(5, .ref (ad E 6 u)), (0, .ref (ad E 0 0)), (1, .ref (ad E 11 c)), (2, .int (nI u)), (3, .int q), (4, .int (nI 1))]) X dX2_followUser_25 (by decide) rfl ?_
  refine k_iconst X (nI 0) dX2_followUser_27 (by decide) ?_
  refine k_istore (L' := [(6, .int (nI 0)), (5, .ref (ad E 6 u)), (0, .ref (ad E 0 0)), (1, .ref (ad E 11 c)), (2, .int (nI u)), (3, .int q), (4, .int (nI 1))]) X dX2_followUser_28 (by decide) rfl ?_
  refine k_mem (μ' := fuL (cu2 c) 1 c u q 0 (st μ 4 0 1 (nI u))) rfl ?_
  exact L_fu1 c u (tN (μ 6 u 4)) q hc hu ((st_k (by decide)).trans (hB u hu).1.1) (hB u hu).1.2 (hB.fr (way_FC (c := c)).1) (by rw [st_k (by decide)]; exact hn) X hE (tN (μ 6 u 4) + 1) 0 (by omega) (Nat.zero_le _)

set_option maxHeartbeats 4000000 in
set_option maxRecDepth 100000 in
theorem C_cu1 {E : EE} {μ : Mem} (c u : Nat) (q : Int32) (hc : c < 20) (hu : u < 6) (hB : BI μ) (hn : vN (μ 11 c 4) 12) : MM E yX2_comeToUser cX2_comeToUser 5 none (rm 7 0) [.ref (ad E 0 0), .ref (ad E 11 c), .int (nI u), .int q, .int (nI 1)] μ none (cu1 c u q μ) := by
  refine MM.void (own := RX2) [(0, .ref (ad E 0 0)), (1, .ref (ad E 11 c)), (2, .int (nI u)), (3, .int q), (4, .int (nI 1))] rfl rfl rfl (Nat.le_of_ble_eq_true rfl) (fun C X hE => ?_)
  refine k_aload_n X 0 dX2_comeToUser_0 rfl rfl ?_
  refine k_iload_n X 2 dX2_comeToUser_1 rfl rfl ?_
  refine k_iload X 4 dX2_comeToUser_2 rfl ?_
  refine k_callV (a := 0) (o := 0) (As := [.int (nI u), .int (nI 1)]) (S := []) X lk_X2_196 rfl (by decide) rfl (C_X2_isOnWay 1 (by decide) _) rfl rfl (Nat.le_of_ble_eq_true rfl) ⟨Nat.le_of_ble_eq_true rfl, Nat.le_of_ble_eq_true rfl⟩ ⟨Nat.le_of_ble_eq_true rfl, Nat.le_of_ble_eq_true rfl⟩ dX2_comeToUser_4 ?_
  show KF E C 0 0 μ 7 _ [.int (bp (owB μ (nI u) 1 = true))]
  refine k_if_eq_p (tgt := 21) X dX2_comeToUser_7 (by decide) (fun c7 => ?_) (fun c7 => ?_)
  · refine k_iload X 4 dX2_comeToUser_21 rfl ?_
    refine k_iconst X 2 dX2_comeToUser_23 (by decide) ?_
    refine k_icmp_le_t (tgt := 38) X dX2_comeToUser_24 (by decide) (by decide) ?_
    refine k_aload_n X 0 dX2_comeToUser_38 rfl rfl ?_
    refine k_aload_n X 1 dX2_comeToUser_39 rfl rfl ?_
    refine k_iload_n X 2 dX2_comeToUser_40 rfl rfl ?_
    refine k_iload_n X 3 dX2_comeToUser_41 rfl rfl ?_
    refine k_iload X 4 dX2_comeToUser_42 rfl ?_
    refine k_callV (a := 0) (o := 0) (As := [.ref (ad E 11 c), .int (nI u), .int q, .int (nI 1)]) (S := []) X lk_X2_94 rfl (by decide) rfl (C_fu1 c u q _ hc hu hB hn rfl) rfl rfl (Nat.le_of_ble_eq_true rfl) ⟨Nat.le_of_ble_eq_true rfl, Nat.le_of_ble_eq_true rfl⟩ ⟨Nat.le_of_ble_eq_true rfl, Nat.le_of_ble_eq_true rfl⟩ dX2_comeToUser_44 ?_
    show KF E C 0 0 (fu1 c u q μ) 47 _ []
    exact k_vret dX2_comeToUser_47 hE (by unfold cu1 cuG; rw [if_neg c7, if_neg (by decide)])
  · refine k_aload_n X 1 dX2_comeToUser_10 rfl rfl ?_
    refine k_iload_n X 3 dX2_comeToUser_11 rfl rfl ?_
    refine k_sipush X 482 dX2_comeToUser_12 (by decide) ?_
    refine k_callV (a := 11) (o := c) (As := [.int q, .int 482]) (S := []) X lk_X2_199 rfl hc rfl (C_X1_addEnded c _ hc hn.1 hn.2 _ _) rfl rfl (Nat.le_of_ble_eq_true rfl) ⟨Nat.le_of_ble_eq_true rfl, Nat.le_of_ble_eq_true rfl⟩ ⟨Nat.le_of_ble_eq_true rfl, Nat.le_of_ble_eq_true rfl⟩ dX2_comeToUser_15 ?_
    show KF E C 0 0 (aeM μ c q 482) 18 _ []
    refine k_goto (tgt := 47) X dX2_comeToUser_18 (by decide) ?_
    exact k_vret dX2_comeToUser_47 hE (by unfold cu1 cuG; rw [if_pos c7])

set_option maxHeartbeats 4000000 in
set_option maxRecDepth 100000 in
theorem L_fu0 {E : EE} {μ : Mem} {C : Ctx} (c u m : Nat) (q : Int32) (hc : c < 20) (hu : u < 6) (hm : μ 6 u 4 = nI m) (hm16 : m ≤ 16) (hB : BI μ) (hn : vN (μ 11 c 4) 12) (X : Cx E C cX2_followUser RX2 9 (rm 8 0)) (hE : EndV E C cX2_followUser 0 0 (fuL (cu1 c) 0 c u q m μ)) : ∀ (f : Nat) (i : Nat), m - i < f → i ≤ m → KF E C 0 0 (fuL (cu1 c) 0 c u q i μ) 30 [(6, .int (nI i)), (5, .ref (ad E 6 u)), (0, .ref (ad E 0 0)), (1, .ref (ad E 11 c)), (2, .int (nI u)), (3, .int q), (4, .int (nI 0))] [] := by
  intro f
  induction f with
  | zero => intros; omega
  | succ f ih =>
    intro i hf hi
    have hf9 := fuL_FC (b := 0) (u := u) (qw := q) hn cu1_FC i
    have hBM := hB.fr hf9.1
    have hnM := hf9.2.1 hn
    have e6 := hf9.1.1 6 u 4 (by decide) (by decide) (by decide) (by decide) (by decide)
    refine k_iload X 0 dX2_followUser_30 rfl ?_
    refine k_aload X 1 dX2_followUser_32 rfl ?_
    refine gn_X2_180 X hu dX2_followUser_34 ?_
    refine k_val (y := nI m) (e6.trans hm) ?_
    refine k_ge_n (a := i) (b := m) (tgt := 126) X dX2_followUser_37 (by decide) rfl rfl (by omega) (by omega) (fun c37 => ?_) (fun c37 => ?_)
    · exact k_vret dX2_followUser_126 hE (by rw [show i = m by omega])
    · have hv : vN ((fuL (cu1 c) 0 c u q i μ) 10 u i) 15 := (hBM u hu).2 i (by rw [e6, hm, tN_nI (by omega)]; exact c37)
      refine k_aload X 1 dX2_followUser_40 rfl ?_
      refine gn_X2_183 X hu dX2_followUser_42 ?_
      refine k_iload X 0 dX2_followUser_45 rfl ?_
      refine k_iald (a := 10) (j := i) X rfl hu rfl (show i < 16 by omega) (by decide) dX2_followUser_47 ?_
      refine k_val (y := nI (tN ((fuL (cu1 c) 0 c u q i μ) 10 u i))) hv.1 ?_
      refine k_istore (L' := [(7, .int (nI (tN ((fuL (cu1 c) 0 c u q i μ) 10 u i)))), (6, .int (nI i)), (5, .ref (ad E 6 u)), (0, .ref (ad E 0 0)), (1, .ref (ad E 11 c)), (2, .int (nI u)), (3, .int q), (4, .int (nI 0))]) X dX2_followUser_48 (by decide) rfl ?_
      refine k_aload X 2 dX2_followUser_50 rfl ?_
      refine k_iload X 0 dX2_followUser_52 rfl ?_
      refine k_aload_n X 3 dX2_followUser_54 rfl rfl ?_
      refine gt_X2_35 X dX2_followUser_55 ?_
      refine k_callV (a := 6) (o := u) (As := [.int (nI (tN ((fuL (cu1 c) 0 c u q i μ) 10 u i))), .int ((fuL (cu1 c) 0 c u q i μ) 0 0 6)]) (S := []) X lk_X2_186 rfl hu rfl (C_X0_isThere u (tN ((fuL (cu1 c) 0 c u q i μ) 10 u i)) _ _ hu (Nat.lt_succ_of_le hv.2) rfl) rfl rfl (Nat.le_of_ble_eq_true rfl) ⟨Nat.le_of_ble_eq_true rfl, Nat.le_of_ble_eq_true rfl⟩ ⟨Nat.le_of_ble_eq_true rfl, Nat.le_of_ble_eq_true rfl⟩ dX2_followUser_58 ?_
      show KF E C 0 0 (fuL (cu1 c) 0 c u q i μ) 61 _ [.int (bp (thB (fuL (cu1 c) 0 c u q i μ) u ((fuL (cu1 c) 0 c u q i μ) 0 0 6) (tN ((fuL (cu1 c) 0 c u q i μ) 10 u i)) = true))]
      refine k_if_ne_p (tgt := 67) X dX2_followUser_61 (by decide) (fun c61 => ?_) (fun c61 => ?_)
      · refine k_iload X 7 dX2_followUser_67 rfl ?_
        refine k_if_ne_f (tgt := 83) X dX2_followUser_69 (by decide) (by decide) ?_
        refine k_aload X 2 dX2_followUser_72 rfl ?_
        refine gn_X2_87 X hu dX2_followUser_74 ?_
        refine k_iload X 0 dX2_followUser_77 rfl ?_
        refine k_iald (a := 7) (j := (tN ((fuL (cu1 c) 0 c u q i μ) 10 u i))) X rfl hu rfl (show tN ((fuL (cu1 c) 0 c u q i μ) 10 u i) < 16 from Nat.lt_succ_of_le hv.2) (by decide) dX2_followUser_79 ?_
        refine k_goto (tgt := 84) X dX2_followUser_80 (by decide) ?_
        refine k_istore (L' := [(8, .int ((fuL (cu1 c) 0 c u q i μ) 7 u (tN ((fuL (cu1 c) 0 c u q i μ) 10 u i)))), (7, .int (nI (tN ((fuL (cu1 c) 0 c u q i μ) 10 u i)))), (6, .int (nI i)), (5, .ref (ad E 6 u)), (0, .ref (ad E 0 0)), (1, .ref (ad E 11 c)), (2, .int (nI u)), (3, .int q), (4, .int (nI 0))]) X dX2_followUser_84 (by decide) rfl ?_
        refine k_iload X 1 dX2_followUser_86 rfl ?_
        refine k_bipush X 10 dX2_followUser_88 (by decide) ?_
        refine k_ge_n (a := tN ((fuL (cu1 c) 0 c u q i μ) 10 u i)) (b := 10) (tgt := 104) X dX2_followUser_90 (by decide) rfl rfl (by have := hv.2; omega) (by decide) (fun c90 => ?_) (fun c90 => ?_)
        · refine k_aload_n X 4 dX2_followUser_104 rfl rfl ?_
          refine k_aload_n X 5 dX2_followUser_105 rfl rfl ?_
          refine k_iload X 1 dX2_followUser_106 rfl ?_
          refine k_bipush X 10 dX2_followUser_108 (by decide) ?_
          refine k_isub X dX2_followUser_110 ?_
          refine k_val (y := nI (tN ((fuL (cu1 c) 0 c u q i μ) 10 u i) - 10)) (pk_sub c90) ?_
          refine k_iload X 0 dX2_followUser_111 rfl ?_
          refine k_iload X 8 dX2_followUser_113 rfl ?_
          refine k_iconst X 1 dX2_followUser_115 (by decide) ?_
          refine k_iadd X dX2_followUser_116 ?_
          refine k_val (y := nI 1) (by decide) ?_
          refine k_callV (a := 0) (o := 0) (As := [.ref (ad E 11 c), .int (nI (tN ((fuL (cu1 c) 0 c u q i μ) 10 u i) - 10)), .int ((fuL (cu1 c) 0 c u q i μ) 7 u (tN ((fuL (cu1 c) 0 c u q i μ) 10 u i))), .int (nI 1)]) (S := []) X lk_X2_193 rfl (by decide) rfl (C_cu1 c (tN ((fuL (cu1 c) 0 c u q i μ) 10 u i) - 10) _ hc (by have := hv.2; omega) hBM hnM) rfl rfl (Nat.le_of_ble_eq_true rfl) ⟨Nat.le_of_ble_eq_true rfl, Nat.le_of_ble_eq_true rfl⟩ ⟨Nat.le_of_ble_eq_true rfl, Nat.le_of_ble_eq_true rfl⟩ dX2_followUser_117 ?_
          show KF E C 0 0 (cu1 c (tN ((fuL (cu1 c) 0 c u q i μ) 10 u i) - 10) ((fuL (cu1 c) 0 c u q i μ) 7 u (tN ((fuL (cu1 c) 0 c u q i μ) 10 u i))) (fuL (cu1 c) 0 c u q i μ)) 120 _ []
          refine k_iinc (v := nI (i + 1)) (L' := [(6, .int (nI (i + 1))), (8, .int ((fuL (cu1 c) 0 c u q i μ) 7 u (tN ((fuL (cu1 c) 0 c u q i μ) 10 u i)))), (7, .int (nI (tN ((fuL (cu1 c) 0 c u q i μ) 10 u i)))), (5, .ref (ad E 6 u)), (0, .ref (ad E 0 0)), (1, .ref (ad E 11 c)), (2, .int (nI u)), (3, .int q), (4, .int (nI 0))]) X 2 dX2_followUser_120 rfl (nI_1 i) (by decide) rfl ?_
          refine k_goto (tgt := 30) X dX2_followUser_123 (by decide) ?_
          have e1 : fuL (cu1 c) 0 c u q (i + 1) μ = cu1 c (tN ((fuL (cu1 c) 0 c u q i μ) 10 u i) - 10) ((fuL (cu1 c) 0 c u q i μ) 7 u (tN ((fuL (cu1 c) 0 c u q i μ) 10 u i))) (fuL (cu1 c) 0 c u q i μ) := by show fuS _ _ _ _ _ _ _ = _; unfold fuS; rw [if_pos c61, if_neg (Nat.not_lt.mpr c90)]; rfl
          refine k_mem (μ' := fuL (cu1 c) 0 c u q (i + 1) μ) e1.symm ?_
          refine k_pick (L' := [(6, .int (nI (i + 1))), (5, .ref (ad E 6 u)), (0, .ref (ad E 0 0)), (1, .ref (ad E 11 c)), (2, .int (nI u)), (3, .int q), (4, .int (nI 0))]) [0, 3, 4, 5, 6, 7, 8] rfl ?_
          exact ih (i + 1) (by omega) (by omega)
        · refine k_aload_n X 5 dX2_followUser_93 rfl rfl ?_
          refine k_iload X 1 dX2_followUser_94 rfl ?_
          refine k_iload X 0 dX2_followUser_96 rfl ?_
          refine k_callV (a := 11) (o := c) (As := [.int (nI (tN ((fuL (cu1 c) 0 c u q i μ) 10 u i))), .int ((fuL (cu1 c) 0 c u q i μ) 7 u (tN ((fuL (cu1 c) 0 c u q i μ) 10 u i)))]) (S := []) X lk_X2_189 rfl hc rfl (C_X1_addDevice c _ hc hnM.1 hnM.2 _ _) rfl rfl (Nat.le_of_ble_eq_true rfl) ⟨Nat.le_of_ble_eq_true rfl, Nat.le_of_ble_eq_true rfl⟩ ⟨Nat.le_of_ble_eq_true rfl, Nat.le_of_ble_eq_true rfl⟩ dX2_followUser_98 ?_
          show KF E C 0 0 (adM (fuL (cu1 c) 0 c u q i μ) c (nI (tN ((fuL (cu1 c) 0 c u q i μ) 10 u i))) ((fuL (cu1 c) 0 c u q i μ) 7 u (tN ((fuL (cu1 c) 0 c u q i μ) 10 u i)))) 101 _ []
          refine k_goto (tgt := 120) X dX2_followUser_101 (by decide) ?_
          refine k_iinc (v := nI (i + 1)) (L' := [(6, .int (nI (i + 1))), (8, .int ((fuL (cu1 c) 0 c u q i μ) 7 u (tN ((fuL (cu1 c) 0 c u q i μ) 10 u i)))), (7, .int (nI (tN ((fuL (cu1 c) 0 c u q i μ) 10 u i)))), (5, .ref (ad E 6 u)), (0, .ref (ad E 0 0)), (1, .ref (ad E 11 c)), (2, .int (nI u)), (3, .int q), (4, .int (nI 0))]) X 2 dX2_followUser_120 rfl (nI_1 i) (by decide) rfl ?_
          refine k_goto (tgt := 30) X dX2_followUser_123 (by decide) ?_
          have e1 : fuL (cu1 c) 0 c u q (i + 1) μ = adM (fuL (cu1 c) 0 c u q i μ) c (nI (tN ((fuL (cu1 c) 0 c u q i μ) 10 u i))) ((fuL (cu1 c) 0 c u q i μ) 7 u (tN ((fuL (cu1 c) 0 c u q i μ) 10 u i))) := by show fuS _ _ _ _ _ _ _ = _; unfold fuS; rw [if_pos c61, if_pos c90]; rfl
          refine k_mem (μ' := fuL (cu1 c) 0 c u q (i + 1) μ) e1.symm ?_
          refine k_pick (L' := [(6, .int (nI (i + 1))), (5, .ref (ad E 6 u)), (0, .ref (ad E 0 0)), (1, .ref (ad E 11 c)), (2, .int (nI u)), (3, .int q), (4, .int (nI 0))]) [0, 3, 4, 5, 6, 7, 8] rfl ?_
          exact ih (i + 1) (by omega) (by omega)
      · refine k_goto (tgt := 120) X dX2_followUser_64 (by decide) ?_
        refine k_iinc (v := nI (i + 1)) (L' := [(6, .int (nI (i + 1))), (7, .int (nI (tN ((fuL (cu1 c) 0 c u q i μ) 10 u i)))), (5, .ref (ad E 6 u)), (0, .ref (ad E 0 0)), (1, .ref (ad E 11 c)), (2, .int (nI u)), (3, .int q), (4, .int (nI 0))]) X 1 dX2_followUser_120 rfl (nI_1 i) (by decide) rfl ?_
        refine k_goto (tgt := 30) X dX2_followUser_123 (by decide) ?_
        have e1 : fuL (cu1 c) 0 c u q (i + 1) μ = fuL (cu1 c) 0 c u q i μ := by show fuS _ _ _ _ _ _ _ = _; unfold fuS; rw [if_neg c61]
        refine k_mem (μ' := fuL (cu1 c) 0 c u q (i + 1) μ) e1.symm ?_
        refine k_pick (L' := [(6, .int (nI (i + 1))), (5, .ref (ad E 6 u)), (0, .ref (ad E 0 0)), (1, .ref (ad E 11 c)), (2, .int (nI u)), (3, .int q), (4, .int (nI 0))]) [0, 2, 3, 4, 5, 6, 7] rfl ?_
        exact ih (i + 1) (by omega) (by omega)

set_option maxHeartbeats 4000000 in
set_option maxRecDepth 100000 in
theorem C_fu0 {E : EE} {μ : Mem} (c u : Nat) (q x : Int32) (hc : c < 20) (hu : u < 6) (hB : BI μ) (hn : vN (μ 11 c 4) 12) (hx : x = nI u) : MM E yX2_followUser cX2_followUser 9 none (rm 8 0) [.ref (ad E 0 0), .ref (ad E 11 c), .int x, .int q, .int (nI 0)] μ none (fu0 c u q μ) := by
  refine MM.void (own := RX2) [(0, .ref (ad E 0 0)), (1, .ref (ad E 11 c)), (2, .int x), (3, .int q), (4, .int (nI 0))] rfl rfl rfl (Nat.le_of_ble_eq_true rfl) (fun C X hE => ?_)
  subst hx
  refine k_iload X 4 dX2_followUser_0 rfl ?_
  refine k_aload_n X 0 dX2_followUser_2 rfl rfl ?_
  refine gt_X2_25 X dX2_followUser_3 ?_
  refine k_ialen (a := 4) X rfl (by decide) dX2_followUser_6 ?_
  refine k_icmp_lt_t (tgt := 11) X dX2_followUser_7 (by decide) (by decide) ?_
  refine k_aload_n X 0 dX2_followUser_11 rfl rfl ?_
  refine gt_X2_25 X dX2_followUser_12 ?_
  refine k_iload X 4 dX2_followUser_15 rfl ?_
  refine k_iload_n X 2 dX2_followUser_17 rfl rfl ?_
  refine k_iast (a := 4) (j := 0) X rfl (by decide) rfl (by decide) (by decide) dX2_followUser_18 ?_
  refine k_aload_n X 0 dX2_followUser_19 rfl rfl ?_
  refine gt_X2_11 X dX2_followUser_20 ?_
  refine k_iload_n X 2 dX2_followUser_23 rfl rfl ?_
  refine k_rald (j := u) X rfl hu dX2_followUser_24 ?_
  refine k_astore (L' := [(5, .ref (ad E 6 u)), (0, .ref (ad E 0 0)), (1, .ref (ad E 11 c)), (2, .int (nI u)), (3, .int q), (4, .int (nI 0))]) X dX2_followUser_25 (by decide) rfl ?_
  refine k_iconst X (nI 0) dX2_followUser_27 (by decide) ?_
  refine k_istore (L' := [(6, .int (nI 0)), (5, .ref (ad E 6 u)), (0, .ref (ad E 0 0)), (1, .ref (ad E 11 c)), (2, .int (nI u)), (3, .int q), (4, .int (nI 0))]) X dX2_followUser_28 (by decide) rfl ?_
  refine k_mem (μ' := fuL (cu1 c) 0 c u q 0 (st μ 4 0 0 (nI u))) rfl ?_
  exact L_fu0 c u (tN (μ 6 u 4)) q hc hu ((st_k (by decide)).trans (hB u hu).1.1) (hB u hu).1.2 (hB.fr (way_FC (c := c)).1) (by rw [st_k (by decide)]; exact hn) X hE (tN (μ 6 u 4) + 1) 0 (by omega) (Nat.zero_le _)

set_option maxHeartbeats 4000000 in
set_option maxRecDepth 100000 in
theorem C_X2_call {E : EE} {μ : Mem} (x : Int32) (hK : vN (μ 0 0 5) 20) (hB : BI μ) (hI : KI μ) (hx : okU x) (hk9 : μ 0 0 5 < 20) : MM E yX2_call cX2_call 3 (some .int) (rm 9 0) [.ref (ad E 0 0), .int x] μ (some (.int (μ 0 0 5))) (clM μ (tN x)) := by
  refine MM.int (own := RX2) [(0, .ref (ad E 0 0)), (1, .int x)] rfl rfl rfl (Nat.le_of_ble_eq_true rfl) rfl (fun C X hE => ?_)
  refine k_iload_n X 1 dX2_call_0 rfl rfl ?_
  refine k_iconst X 5 dX2_call_1 (by decide) ?_
  refine k_callS (As := [.int x, .int 5]) (S := []) X lk_X2_44 (C_X2_isOutside _ _) rfl rfl (Nat.le_of_ble_eq_true rfl) ⟨Nat.le_of_ble_eq_true rfl, Nat.le_of_ble_eq_true rfl⟩ ⟨Nat.le_of_ble_eq_true rfl, Nat.le_of_ble_eq_true rfl⟩ dX2_call_2 ?_
  show KF E C 0 0 μ 5 _ [.int (bp (x < 0 ∨ 5 < x))]
  refine k_if_eq_p (tgt := 18) X dX2_call_5 (by decide) (fun c5 => ?_) (fun c5 => ?_)
  · refine k_aload_n X 0 dX2_call_18 rfl rfl ?_
    refine gt_X2_31 X dX2_call_19 ?_
    refine k_bipush X 20 dX2_call_22 (by decide) ?_
    refine k_icmp_lt (tgt := 37) X dX2_call_24 (by decide) (fun c24 => ?_) (fun c24 => ?_)
    · have hk : tN (μ 0 0 5) < 20 := lt20 (by decide) hK (by decide) c24
      refine k_aload_n X 0 dX2_call_37 rfl rfl ?_
      refine gt_X2_17 X dX2_call_38 ?_
      refine k_aload_n X 0 dX2_call_41 rfl rfl ?_
      refine gt_X2_31 X dX2_call_42 ?_
      refine k_cald (j := (tN (μ 0 0 5))) X hK.1 hk dX2_call_45 ?_
      refine k_astore_n (L' := [(2, .ref (ad E 11 (tN (μ 0 0 5)))), (0, .ref (ad E 0 0)), (1, .int x)]) X dX2_call_46 rfl (by decide) rfl ?_
      refine k_aload_n X 1 dX2_call_47 rfl rfl ?_
      refine k_aload_n X 0 dX2_call_48 rfl rfl ?_
      refine k_iload_n X 2 dX2_call_49 rfl rfl ?_
      refine k_iconst X (-1) dX2_call_50 (by decide) ?_
      refine k_iconst X 0 dX2_call_51 (by decide) ?_
      refine k_callV (a := 0) (o := 0) (As := [.ref (ad E 11 (tN (μ 0 0 5))), .int x, .int (-1), .int 0]) (S := []) X lk_X2_94 rfl (by decide) rfl (C_fu0 _ _ _ _ hk (okU_n c5).2 hB (hI _ hk).1 (okU_n c5).1) rfl rfl (Nat.le_of_ble_eq_true rfl) ⟨Nat.le_of_ble_eq_true rfl, Nat.le_of_ble_eq_true rfl⟩ ⟨Nat.le_of_ble_eq_true rfl, Nat.le_of_ble_eq_true rfl⟩ dX2_call_52 ?_
      show KF E C 0 0 (fu0 (tN (μ 0 0 5)) (tN x) (-1) μ) 55 _ []
      have hF := fu0_FC (c := tN (μ 0 0 5)) μ (tN x) (-1) (hI _ hk).1
      refine k_aload_n X 0 dX2_call_55 rfl rfl ?_
      refine k_aload_n X 1 dX2_call_56 rfl rfl ?_
      refine gt_X2_35 X dX2_call_57 ?_
      refine k_val (y := μ 0 0 6) (hF.1.1 0 0 6 (by decide) (by decide) (by decide) (by decide) (by decide)) ?_
      refine k_callV (a := 11) (o := (tN (μ 0 0 5))) (As := [.int (μ 0 0 6)]) (S := []) X lk_X2_98 rfl hk rfl (C_X1_begin _ _ hk (hF.2.1 (hI _ hk).1).1 (hF.2.1 (hI _ hk).1).2 _ ((hF.1.2 _ 5 (by decide)).trans (hI _ hk).2.1) (hI _ hk).2.2 _) rfl rfl (Nat.le_of_ble_eq_true rfl) ⟨Nat.le_of_ble_eq_true rfl, Nat.le_of_ble_eq_true rfl⟩ ⟨Nat.le_of_ble_eq_true rfl, Nat.le_of_ble_eq_true rfl⟩ dX2_call_60 ?_
      show KF E C 0 0 (bgM (fu0 (tN (μ 0 0 5)) (tN x) (-1) μ) (tN (μ 0 0 5)) (tN ((fu0 (tN (μ 0 0 5)) (tN x) (-1) μ) 11 (tN (μ 0 0 5)) 4)) (tN (μ 11 (tN (μ 0 0 5)) 5)) (μ 0 0 6)) 63 _ []
      have hG := GC_bgM (μ := fu0 (tN (μ 0 0 5)) (tN x) (-1) μ) (c := tN (μ 0 0 5)) (n := tN ((fu0 (tN (μ 0 0 5)) (tN x) (-1) μ) 11 (tN (μ 0 0 5)) 4)) (now := μ 0 0 6) (hI _ hk).2.2
      refine k_aload_n X 1 dX2_call_63 rfl rfl ?_
      refine k_dup X dX2_call_64 rfl ?_
      refine gt_X2_31 X dX2_call_65 ?_
      refine k_val (y := nI (tN (μ 0 0 5))) (((hG.k (by decide) (by decide)).trans (hF.1.1 0 0 5 (by decide) (by decide) (by decide) (by decide) (by decide))).trans hK.1) ?_
      refine k_iconst X 1 dX2_call_68 (by decide) ?_
      refine k_iadd X dX2_call_69 ?_
      refine k_val (y := nI (tN (μ 0 0 5) + 1)) (nI_1 _) ?_
      refine pt_X2_31 X dX2_call_70 ?_
      refine k_aload_n X 1 dX2_call_73 rfl rfl ?_
      refine gt_X2_31 X dX2_call_74 ?_
      refine k_val (y := nI (tN (μ 0 0 5) + 1)) st_same ?_
      refine k_iconst X 1 dX2_call_77 (by decide) ?_
      refine k_isub X dX2_call_78 ?_
      refine k_val (y := nI (tN (μ 0 0 5))) (nI_pred _) ?_
      exact k_iret dX2_call_79 hE hK.1.symm rfl
    · exact (c24 hk9).elim
  · exact (hx c5).elim

set_option maxHeartbeats 4000000 in
set_option maxRecDepth 100000 in
theorem L_X2_lookAtCalls {E : EE} {μ : Mem} {C : Ctx} (m : Nat) (hm : μ 0 0 5 = nI m) (hm20 : m ≤ 20) (hI : KI μ) (X : Cx E C cX2_lookAtCalls RX2 3 (rm 5 0)) (hE : EndI E C cX2_lookAtCalls 0 0 (nI (lcN m μ)) (lcM m μ)) : ∀ (f : Nat) (i : Nat), m - i < f → i ≤ m → KF E C 0 0 (lcM i μ) 4 [(2, .int (nI i)), (1, .int (nI (lcN i μ))), (0, .ref (ad E 0 0))] [] := by
  intro f
  induction f with
  | zero => intros; omega
  | succ f ih =>
    intro i hf hi
    have hok := lcM_ok hI i (by omega)
    refine k_iload_n X 0 dX2_lookAtCalls_4 rfl rfl ?_
    refine k_aload_n X 2 dX2_lookAtCalls_5 rfl rfl ?_
    refine gt_X2_31 X dX2_lookAtCalls_6 ?_
    refine k_val (y := nI m) ((hok.2 0 0 5 (by decide) (by decide)).trans hm) ?_
    refine k_ge_n (a := i) (b := m) (tgt := 37) X dX2_lookAtCalls_9 (by decide) rfl rfl (by omega) (by omega) (fun c9 => ?_) (fun c9 => ?_)
    · refine k_iload_n X 1 dX2_lookAtCalls_37 rfl rfl ?_
      exact k_iret dX2_lookAtCalls_38 hE (by rw [show i = m by omega]) (by rw [show i = m by omega])
    · refine k_aload_n X 2 dX2_lookAtCalls_12 rfl rfl ?_
      refine gt_X2_17 X dX2_lookAtCalls_13 ?_
      refine k_iload_n X 0 dX2_lookAtCalls_16 rfl rfl ?_
      refine k_cald (j := i) X rfl (show i < 20 by omega) dX2_lookAtCalls_17 ?_
      refine k_aload_n X 2 dX2_lookAtCalls_18 rfl rfl ?_
      refine gt_X2_35 X dX2_lookAtCalls_19 ?_
      refine k_callV (a := 11) (o := i) (As := [.int ((lcM i μ) 0 0 6)]) (S := []) X lk_X2_202 rfl (show i < 20 by omega) rfl (C_X1_endsWithTick _ _ (show i < 20 by omega) (hok.1 i (by omega)).1.1 (hok.1 i (by omega)).1.2 _ (hok.1 i (by omega)).2.1 (hok.1 i (by omega)).2.2 _) rfl rfl (Nat.le_of_ble_eq_true rfl) ⟨Nat.le_of_ble_eq_true rfl, Nat.le_of_ble_eq_true rfl⟩ ⟨Nat.le_of_ble_eq_true rfl, Nat.le_of_ble_eq_true rfl⟩ dX2_lookAtCalls_22 ?_
      show KF E C 0 0 (etM' (lcM i μ) i) 25 _ [.int (etI' (lcM i μ) i)]
      refine k_if_eq (tgt := 31) X dX2_lookAtCalls_25 (by decide) (fun c25 => ?_) (fun c25 => ?_)
      · refine k_iinc (v := nI (i + 1)) (L' := [(2, .int (nI (i + 1))), (1, .int (nI (lcN i μ))), (0, .ref (ad E 0 0))]) X 0 dX2_lookAtCalls_31 rfl (nI_1 i) (by decide) rfl ?_
        refine k_goto (tgt := 4) X dX2_lookAtCalls_34 (by decide) ?_
        have e1 : lcN (i + 1) μ = _ := (congrArg (lcN i μ + ·) (if_pos c25 : (if etI' (lcM i μ) i = 0 then 0 else 1) = _))
        refine k_mem (μ' := lcM (i + 1) μ) rfl ?_
        rw [show lcN i μ = lcN (i + 1) μ from e1.symm]
        exact ih (i + 1) (by omega) (by omega)
      · refine k_iinc (v := nI (lcN i μ + 1)) (L' := [(1, .int (nI (lcN i μ + 1))), (2, .int (nI i)), (0, .ref (ad E 0 0))]) X 1 dX2_lookAtCalls_28 rfl (nI_1 _) (by decide) rfl ?_
        refine k_iinc (v := nI (i + 1)) (L' := [(2, .int (nI (i + 1))), (1, .int (nI (lcN i μ + 1))), (0, .ref (ad E 0 0))]) X 1 dX2_lookAtCalls_31 rfl (nI_1 i) (by decide) rfl ?_
        refine k_goto (tgt := 4) X dX2_lookAtCalls_34 (by decide) ?_
        have e1 : lcN (i + 1) μ = _ := (congrArg (lcN i μ + ·) (if_neg c25 : (if etI' (lcM i μ) i = 0 then 0 else 1) = _))
        refine k_mem (μ' := lcM (i + 1) μ) rfl ?_
        rw [show lcN i μ + 1 = lcN (i + 1) μ from e1.symm]
        exact ih (i + 1) (by omega) (by omega)

set_option maxHeartbeats 4000000 in
set_option maxRecDepth 100000 in
theorem C_X2_lookAtCalls {E : EE} {μ : Mem} (m : Nat) (hm : μ 0 0 5 = nI m) (hm20 : m ≤ 20) (hI : KI μ) : MM E yX2_lookAtCalls cX2_lookAtCalls 3 (some .int) (rm 5 0) [.ref (ad E 0 0)] μ (some (.int (nI (lcN m μ)))) (lcM m μ) := by
  refine MM.int (own := RX2) [(0, .ref (ad E 0 0))] rfl rfl rfl (Nat.le_of_ble_eq_true rfl) rfl (fun C X hE => ?_)
  refine k_iconst X (nI 0) dX2_lookAtCalls_0 (by decide) ?_
  refine k_istore_n (L' := [(1, .int (nI 0)), (0, .ref (ad E 0 0))]) X dX2_lookAtCalls_1 rfl (by decide) rfl ?_
  refine k_iconst X (nI 0) dX2_lookAtCalls_2 (by decide) ?_
  refine k_istore_n (L' := [(2, .int (nI 0)), (1, .int (nI 0)), (0, .ref (ad E 0 0))]) X dX2_lookAtCalls_3 rfl (by decide) rfl ?_
  refine k_mem (μ' := lcM 0 μ) rfl ?_
  exact L_X2_lookAtCalls m hm hm20 hI X hE (m + 1) 0 (by omega) (Nat.zero_le m)

set_option maxHeartbeats 4000000 in
set_option maxRecDepth 100000 in
theorem L_X2_pass {E : EE} {μ : Mem} {C : Ctx} (T : Nat) (x : Int32) (hT : x = nI T) (hT1 : T ≤ 100) (hK : vN (μ 0 0 5) 20) (hI : KI μ) (X : Cx E C cX2_pass RX2 4 (rm 6 0)) (hE : EndI E C cX2_pass 0 0 (psN T μ) (psM T μ)) : ∀ (f : Nat) (i : Nat), T - i < f → i ≤ T → KF E C 0 0 (psM i μ) 25 [(3, .int (nI i)), (2, .int (psN i μ)), (0, .ref (ad E 0 0)), (1, .int x)] [] := by
  intro f
  induction f with
  | zero => intros; omega
  | succ f ih =>
    intro i hf hi
    have hok := psM_ok hI hK.2 i
    refine k_iload_n X 0 dX2_pass_25 rfl rfl ?_
    refine k_iload_n X 3 dX2_pass_26 rfl rfl ?_
    refine k_ge_n (a := i) (b := T) (tgt := 53) X dX2_pass_27 (by decide) rfl hT (by omega) (by omega) (fun c27 => ?_) (fun c27 => ?_)
    · refine k_iload_n X 1 dX2_pass_53 rfl rfl ?_
      exact k_iret dX2_pass_54 hE (by rw [show i = T by omega]) (by rw [show i = T by omega])
    · refine k_aload_n X 2 dX2_pass_30 rfl rfl ?_
      refine k_dup X dX2_pass_31 rfl ?_
      refine gt_X2_35 X dX2_pass_32 ?_
      refine k_iconst X 1 dX2_pass_35 (by decide) ?_
      refine k_iadd X dX2_pass_36 ?_
      refine pt_X2_35 X dX2_pass_37 ?_
      refine k_mem (μ' := tkM (psM i μ)) rfl ?_
      refine k_iload_n X 1 dX2_pass_40 rfl rfl ?_
      refine k_aload_n X 2 dX2_pass_41 rfl rfl ?_
      refine k_callV (a := 0) (o := 0) (As := []) (S := [.int (psN i μ)]) X lk_X2_149 rfl (by decide) rfl (C_X2_lookAtCalls (tN (μ 0 0 5)) (by unfold tkM; rw [st_i (by decide)]; exact (hok.2 0 0 5 (by decide) (by decide) (by decide)).trans hK.1) hK.2 (tkM_ok hok.1)) rfl rfl (Nat.le_of_ble_eq_true rfl) ⟨Nat.le_of_ble_eq_true rfl, Nat.le_of_ble_eq_true rfl⟩ ⟨Nat.le_of_ble_eq_true rfl, Nat.le_of_ble_eq_true rfl⟩ dX2_pass_42 ?_
      show KF E C 0 0 (psM (i + 1) μ) 45 _ [.int (nI (lcN (tN (μ 0 0 5)) (tkM (psM i μ)))), .int (psN i μ)]
      refine k_iadd X dX2_pass_45 ?_
      refine k_val (y := psN (i + 1) μ) rfl ?_
      refine k_istore_n (L' := [(2, .int (psN (i + 1) μ)), (3, .int (nI i)), (0, .ref (ad E 0 0)), (1, .int x)]) X dX2_pass_46 rfl (by decide) rfl ?_
      refine k_iinc (v := nI (i + 1)) (L' := [(3, .int (nI (i + 1))), (2, .int (psN (i + 1) μ)), (0, .ref (ad E 0 0)), (1, .int x)]) X 1 dX2_pass_47 rfl (nI_1 i) (by decide) rfl ?_
      refine k_goto (tgt := 25) X dX2_pass_50 (by decide) ?_
      exact ih (i + 1) (by omega) (by omega)

set_option maxHeartbeats 4000000 in
set_option maxRecDepth 100000 in
theorem C_X2_pass {E : EE} {μ : Mem} (x : Int32) (hK : vN (μ 0 0 5) 20) (hI : KI μ) (hx : ¬ x < 1 ∧ ¬ 100 < x) : MM E yX2_pass cX2_pass 4 (some .int) (rm 6 0) [.ref (ad E 0 0), .int x] μ (some (.int (psN (tN x) μ))) (psM (tN x) μ) := by
  refine MM.int (own := RX2) [(0, .ref (ad E 0 0)), (1, .int x)] rfl rfl rfl (Nat.le_of_ble_eq_true rfl) rfl (fun C X hE => ?_)
  refine k_iload_n X 1 dX2_pass_0 rfl rfl ?_
  refine k_iconst X 1 dX2_pass_1 (by decide) ?_
  refine k_icmp_lt (tgt := 11) X dX2_pass_2 (by decide) (fun c2 => ?_) (fun c2 => ?_)
  · exact (hx.1 c2).elim
  · refine k_iload_n X 1 dX2_pass_5 rfl rfl ?_
    refine k_bipush X 100 dX2_pass_6 (by decide) ?_
    refine k_icmp_le (tgt := 21) X dX2_pass_8 (by decide) (fun c8 => ?_) (fun c8 => ?_)
    · refine k_iconst X (nI 0) dX2_pass_21 (by decide) ?_
      refine k_istore_n (L' := [(2, .int (nI 0)), (0, .ref (ad E 0 0)), (1, .int x)]) X dX2_pass_22 rfl (by decide) rfl ?_
      refine k_iconst X (nI 0) dX2_pass_23 (by decide) ?_
      refine k_istore_n (L' := [(3, .int (nI 0)), (2, .int (nI 0)), (0, .ref (ad E 0 0)), (1, .int x)]) X dX2_pass_24 rfl (by decide) rfl ?_
      have hv := vN_of (m := 100) (M := 100) (by decide) (fun q => c2 (Int32.lt_of_lt_of_le q (by decide))) (Int32.not_lt.mpr c8)
      refine k_mem (μ' := psM 0 μ) rfl ?_
      exact L_X2_pass (tN x) x hv.1 hv.2 hK hI X hE (tN x + 1) 0 (by omega) (Nat.zero_le _)
    · exact (hx.2 (Int32.not_le.mp c8)).elim
