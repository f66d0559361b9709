set_option maxHeartbeats 4000000 in
set_option maxRecDepth 100000 in
theorem L_pass_in {E : EE} {μ : Mem} {C : Ctx} (m j : Nat) (N x : Int32) (hm : μ 16 0 8 = nI m) (hm20 : m ≤ 20) (hI : MI μ) (X : Cx E C cX3_pass RX3 5 (rm 5 0)) (hk : KF E C 0 0 (mpL m μ) 103 [(2, .int (N + nI (mpC m μ))), (0, .ref (ad E 16 0)), (1, .int x), (3, .int (nI j))] []) : ∀ (f : Nat) (i : Nat) (v : Int32), m - i < f → i ≤ m → v = N + nI (mpC i μ) → KF E C 0 0 (mpL i μ) 46 [(4, .int (nI i)), (2, .int v), (0, .ref (ad E 16 0)), (1, .int x), (3, .int (nI j))] [] := by
  intro f
  induction f with
  | zero => intros; omega
  | succ f ih =>
    intro i v hf hi hv
    have hok := mpL_ok hI i (by omega)
    refine k_iload X 0 dX3_pass_46 rfl ?_
    refine k_aload_n X 2 dX3_pass_48 rfl rfl ?_
    refine gt_X3_108 X dX3_pass_49 ?_
    refine k_val (y := nI m) ((hok.2 16 0 8 (by decide) (by decide) (by decide) (by decide) (by decide)).trans hm) ?_
    refine k_ge_n (a := i) (b := m) (tgt := 103) X dX3_pass_52 (by decide) rfl rfl (by omega) (by omega) (fun c52 => ?_) (fun c52 => ?_)
    · refine k_pick (L' := [(2, .int v), (0, .ref (ad E 16 0)), (1, .int x), (3, .int (nI j))]) [1, 2, 3, 4] rfl ?_
      have e : i = m := by omega
      subst e
      rw [hv]
      exact hk
    · have hvi := (hok.1 i (by omega)).1
      have hWi := (hok.1 i (by omega)).2
      refine k_aload_n X 2 dX3_pass_55 rfl rfl ?_
      refine gt_X3_29 X dX3_pass_56 ?_
      refine k_iload X 0 dX3_pass_59 rfl ?_
      refine k_iald (a := 23) (j := i) X rfl (by decide) rfl (show i < 20 by omega) (by decide) dX3_pass_61 ?_
      refine k_iconst X (-1) dX3_pass_62 (by decide) ?_
      refine k_icmp_ne (tgt := 97) X dX3_pass_63 (by decide) (fun c63 => ?_) (fun c63 => ?_)
      · refine k_iinc (v := nI (i + 1)) (L' := [(4, .int (nI (i + 1))), (2, .int v), (0, .ref (ad E 16 0)), (1, .int x), (3, .int (nI j))]) X 0 dX3_pass_97 rfl (nI_1 i) (by decide) rfl ?_
        refine k_goto (tgt := 46) X dX3_pass_100 (by decide) ?_
        have e1 : mpL (i + 1) μ = mpL i μ := if_neg c63
        have e2 : v = N + nI (mpC (i + 1) μ) := by rw [mpC_a c63]; exact hv
        refine k_mem (μ' := mpL (i + 1) μ) e1.symm ?_
        exact ih (i + 1) _ (by omega) (by omega) e2
      · refine k_aload_n X 2 dX3_pass_66 rfl rfl ?_
        refine k_iload X 0 dX3_pass_67 rfl ?_
        refine k_callV (a := 16) (o := 0) (As := [.int (nI i)]) (S := []) X lk_X3_136 rfl (by decide) rfl (C_X3_rings i _ (by omega) hvi.1 hvi.2) rfl rfl (Nat.le_of_ble_eq_true rfl) ⟨Nat.le_of_ble_eq_true rfl, Nat.le_of_ble_eq_true rfl⟩ ⟨Nat.le_of_ble_eq_true rfl, Nat.le_of_ble_eq_true rfl⟩ dX3_pass_69 ?_
        show KF E C 0 0 (mrM (mpL i μ) i (tN ((mpL i μ) 25 0 i))) 72 _ []
        refine k_aload_n X 2 dX3_pass_72 rfl rfl ?_
        refine k_iload X 0 dX3_pass_73 rfl ?_
        refine k_callV (a := 16) (o := 0) (As := [.int (nI i)]) (S := []) X lk_X3_115 rfl (by decide) rfl (C_X3_goesOn i (by omega) (by rw [mrM_25]; exact hvi) (by rw [mrM_25]; exact QW_mrM hWi)) rfl rfl (Nat.le_of_ble_eq_true rfl) ⟨Nat.le_of_ble_eq_true rfl, Nat.le_of_ble_eq_true rfl⟩ ⟨Nat.le_of_ble_eq_true rfl, Nat.le_of_ble_eq_true rfl⟩ dX3_pass_75 ?_
        show KF E C 0 0 (mGo (mrM (mpL i μ) i (tN ((mpL i μ) 25 0 i))) i) 78 _ []
        refine k_iload_n X 1 dX3_pass_78 rfl rfl ?_
        refine k_aload_n X 2 dX3_pass_79 rfl rfl ?_
        refine gt_X3_29 X dX3_pass_80 ?_
        refine k_iload X 0 dX3_pass_83 rfl ?_
        refine k_iald (a := 23) (j := i) X rfl (by decide) rfl (show i < 20 by omega) (by decide) dX3_pass_85 ?_
        refine k_iconst X (-1) dX3_pass_86 (by decide) ?_
        refine k_icmp_eq (tgt := 94) X dX3_pass_87 (by decide) (fun c87 => ?_) (fun c87 => ?_)
        · refine k_iconst X 0 dX3_pass_94 (by decide) ?_
          refine k_iadd X dX3_pass_95 ?_
          refine k_istore_n (L' := [(2, .int (v + 0)), (4, .int (nI i)), (0, .ref (ad E 16 0)), (1, .int x), (3, .int (nI j))]) X dX3_pass_96 rfl (by decide) rfl ?_
          refine k_iinc (v := nI (i + 1)) (L' := [(4, .int (nI (i + 1))), (2, .int (v + 0)), (0, .ref (ad E 16 0)), (1, .int x), (3, .int (nI j))]) X 1 dX3_pass_97 rfl (nI_1 i) (by decide) rfl ?_
          refine k_goto (tgt := 46) X dX3_pass_100 (by decide) ?_
          have e1 : mpL (i + 1) μ = mGo (mrM (mpL i μ) i (tN ((mpL i μ) 25 0 i))) i := if_pos c63
          have e2 : v + 0 = N + nI (mpC (i + 1) μ) := by rw [mpC_b (by rw [e1]; exact c87), Int32.add_zero]; exact hv
          refine k_mem (μ' := mpL (i + 1) μ) e1.symm ?_
          exact ih (i + 1) _ (by omega) (by omega) e2
        · refine k_iconst X 1 dX3_pass_90 (by decide) ?_
          refine k_goto (tgt := 95) X dX3_pass_91 (by decide) ?_
          refine k_iadd X dX3_pass_95 ?_
          refine k_istore_n (L' := [(2, .int (v + 1)), (4, .int (nI i)), (0, .ref (ad E 16 0)), (1, .int x), (3, .int (nI j))]) X dX3_pass_96 rfl (by decide) rfl ?_
          refine k_iinc (v := nI (i + 1)) (L' := [(4, .int (nI (i + 1))), (2, .int (v + 1)), (0, .ref (ad E 16 0)), (1, .int x), (3, .int (nI j))]) X 1 dX3_pass_97 rfl (nI_1 i) (by decide) rfl ?_
          refine k_goto (tgt := 46) X dX3_pass_100 (by decide) ?_
          have e1 : mpL (i + 1) μ = mGo (mrM (mpL i μ) i (tN ((mpL i μ) 25 0 i))) i := if_pos c63
          have e2 : v + 1 = N + nI (mpC (i + 1) μ) := by rw [mpC_t c63 (by rw [e1]; exact c87), ← nI_1, hv, Int32.add_assoc]
          refine k_mem (μ' := mpL (i + 1) μ) e1.symm ?_
          exact ih (i + 1) _ (by omega) (by omega) e2

set_option maxHeartbeats 4000000 in
set_option maxRecDepth 100000 in
theorem L_X3_pass {E : EE} {μ : Mem} {C : Ctx} (Q : Nat) (x : Int32) (hQ : x = nI Q) (hQ1 : Q ≤ 100) (hK : vN (μ 16 0 8) 20) (hI : MI μ) (X : Cx E C cX3_pass RX3 5 (rm 5 0)) (hE : EndI E C cX3_pass 0 0 (mpN Q μ) (mpT Q μ)) : ∀ (f : Nat) (i : Nat), Q - i < f → i ≤ Q → KF E C 0 0 (mpT i μ) 28 [(3, .int (nI i)), (2, .int (mpN i μ)), (0, .ref (ad E 16 0)), (1, .int x)] [] := by
  intro f
  induction f with
  | zero => intros; omega
  | succ f ih =>
    intro i hf hi
    have hok := mpT_ok hI hK.2 i
    refine k_iload_n X 0 dX3_pass_28 rfl rfl ?_
    refine k_iload_n X 3 dX3_pass_29 rfl rfl ?_
    refine k_ge_n (a := i) (b := Q) (tgt := 109) X dX3_pass_30 (by decide) rfl hQ (by omega) (by omega) (fun c30 => ?_) (fun c30 => ?_)
    · refine k_iload_n X 1 dX3_pass_109 rfl rfl ?_
      exact k_iret dX3_pass_110 hE (by rw [show i = Q by omega]) (by rw [show i = Q by omega])
    · refine k_aload_n X 2 dX3_pass_33 rfl rfl ?_
      refine k_dup X dX3_pass_34 rfl ?_
      refine gt_X3_67 X dX3_pass_35 ?_
      refine k_iconst X 1 dX3_pass_38 (by decide) ?_
      refine k_iadd X dX3_pass_39 ?_
      refine pt_X3_67 X dX3_pass_40 ?_
      refine k_mem (μ' := mtk (mpT i μ)) rfl ?_
      refine k_iconst X (nI 0) dX3_pass_43 (by decide) ?_
      refine k_istore (L' := [(4, .int (nI 0)), (3, .int (nI i)), (2, .int (mpN i μ)), (0, .ref (ad E 16 0)), (1, .int x)]) X dX3_pass_44 (by decide) rfl ?_
      refine k_pick (L' := [(4, .int (nI 0)), (2, .int (mpN i μ)), (0, .ref (ad E 16 0)), (1, .int x), (3, .int (nI i))]) [0, 2, 3, 4, 1] rfl ?_
      refine k_mem (μ' := mpL 0 (mtk (mpT i μ))) rfl ?_
      refine L_pass_in (tN (μ 16 0 8)) i (mpN i μ) x (by unfold mtk; rw [st_i (by decide)]; exact (hok.2 16 0 8 (by decide) (by decide) (by decide) (by decide) (by decide) (by decide)).trans hK.1) hK.2 (mtk_ok hok.1) X ?_ (tN (μ 16 0 8) + 1) 0 _ (by omega) (Nat.zero_le _) (Int32.add_zero _).symm
      show KF E C 0 0 (mpT (i + 1) μ) 103 [(2, .int (mpN (i + 1) μ)), _, _, _] _
      refine k_iinc (v := nI (i + 1)) (L' := [(3, .int (nI (i + 1))), (2, .int (mpN (i + 1) μ)), (0, .ref (ad E 16 0)), (1, .int x)]) X 3 dX3_pass_103 rfl (nI_1 i) (by decide) rfl ?_
      refine k_goto (tgt := 28) X dX3_pass_106 (by decide) ?_
      exact ih (i + 1) (by omega) (by omega)

set_option maxHeartbeats 4000000 in
set_option maxRecDepth 100000 in
theorem C_X3_pass {E : EE} {μ : Mem} (x : Int32) (h : ¬ (x < 1 ∨ 100 < x)) (hK : vN (μ 16 0 8) 20) (hI : MI μ) : MM E yX3_pass cX3_pass 5 (some .int) (rm 5 0) [.ref (ad E 16 0), .int x] μ (some (.int (mpN (tN x) (st μ 16 0 0 0)))) (mpT (tN x) (st μ 16 0 0 0)) := by
  refine MM.int (own := RX3) [(0, .ref (ad E 16 0)), (1, .int x)] rfl rfl rfl (Nat.le_of_ble_eq_true rfl) rfl (fun C X hE => ?_)
  refine k_aload_n X 0 dX3_pass_0 rfl rfl ?_
  refine k_iload_n X 1 dX3_pass_1 rfl rfl ?_
  refine k_iconst X 1 dX3_pass_2 (by decide) ?_
  refine k_bipush X 100 dX3_pass_3 (by decide) ?_
  refine k_callS (As := [.int x, .int 1, .int 100]) (S := [.ref (ad E 16 0)]) X lk_X3_63 (C_X3_isIn _ _ _) rfl rfl (Nat.le_of_ble_eq_true rfl) ⟨Nat.le_of_ble_eq_true rfl, Nat.le_of_ble_eq_true rfl⟩ ⟨Nat.le_of_ble_eq_true rfl, Nat.le_of_ble_eq_true rfl⟩ dX3_pass_5 ?_
  show KF E C 0 0 μ 8 _ [.int (bp (¬ (x < 1 ∨ 100 < x))), .ref (ad E 16 0)]
  refine k_val (y := 1) (bp_t h) ?_
  refine k_if_eq_f (tgt := 15) X dX3_pass_8 (by decide) (by decide) ?_
  refine k_iconst X 0 dX3_pass_11 (by decide) ?_
  refine k_goto (tgt := 16) X dX3_pass_12 (by decide) ?_
  refine k_callV (a := 16) (o := 0) (As := [.int 0]) (S := []) X lk_X3_82 rfl (by decide) rfl (C_X3_holds _) rfl rfl (Nat.le_of_ble_eq_true rfl) ⟨Nat.le_of_ble_eq_true rfl, Nat.le_of_ble_eq_true rfl⟩ ⟨Nat.le_of_ble_eq_true rfl, Nat.le_of_ble_eq_true rfl⟩ dX3_pass_16 ?_
  show KF E C 0 0 (st μ 16 0 0 0) 19 _ [.int (bp (0 = 0))]
  refine k_val (y := 1) (bp_t rfl) ?_
  refine k_if_ne_t (tgt := 24) X dX3_pass_19 (by decide) (by decide) ?_
  refine k_iconst X (nI 0) dX3_pass_24 (by decide) ?_
  refine k_istore_n (L' := [(2, .int (nI 0)), (0, .ref (ad E 16 0)), (1, .int x)]) X dX3_pass_25 rfl (by decide) rfl ?_
  refine k_iconst X (nI 0) dX3_pass_26 (by decide) ?_
  refine k_istore_n (L' := [(3, .int (nI 0)), (2, .int (nI 0)), (0, .ref (ad E 16 0)), (1, .int x)]) X dX3_pass_27 rfl (by decide) rfl ?_
  have hv := vN_of (x := x) (m := 100) (M := 100) (by decide) (fun q => h (Or.inl (Int32.lt_of_lt_of_le q (by decide)))) (fun q => h (Or.inr q))
  refine k_mem (μ' := mpT 0 (st μ 16 0 0 0)) rfl ?_
  exact L_X3_pass (μ := st μ 16 0 0 0) (tN x) x hv.1 hv.2 (by rw [st_i (by decide)]; exact hK) (mth_ok hI) X hE (tN x + 1) 0 (by omega) (Nat.zero_le _)

set_option maxHeartbeats 4000000 in
set_option maxRecDepth 100000 in
theorem F_X3_pass {E : EE} {μ : Mem} (x : Int32) (h : x < 1 ∨ 100 < x) : MM E yX3_pass cX3_pass 5 (some .int) (rm 5 0) [.ref (ad E 16 0), .int x] μ (some (.int 0)) (st μ 16 0 0 1) := by
  refine MM.int (own := RX3) [(0, .ref (ad E 16 0)), (1, .int x)] rfl rfl rfl (Nat.le_of_ble_eq_true rfl) rfl (fun C X hE => ?_)
  refine k_aload_n X 0 dX3_pass_0 rfl rfl ?_
  refine k_iload_n X 1 dX3_pass_1 rfl rfl ?_
  refine k_iconst X 1 dX3_pass_2 (by decide) ?_
  refine k_bipush X 100 dX3_pass_3 (by decide) ?_
  refine k_callS (As := [.int x, .int 1, .int 100]) (S := [.ref (ad E 16 0)]) X lk_X3_63 (C_X3_isIn _ _ _) rfl rfl (Nat.le_of_ble_eq_true rfl) ⟨Nat.le_of_ble_eq_true rfl, Nat.le_of_ble_eq_true rfl⟩ ⟨Nat.le_of_ble_eq_true rfl, Nat.le_of_ble_eq_true rfl⟩ dX3_pass_5 ?_
  show KF E C 0 0 μ 8 _ [.int (bp (¬ (x < 1 ∨ 100 < x))), .ref (ad E 16 0)]
  refine k_val (y := 0) (bp_f (fun q => q h)) ?_
  refine k_if_eq_t (tgt := 15) X dX3_pass_8 (by decide) rfl ?_
  refine k_iconst X 1 dX3_pass_15 (by decide) ?_
  refine k_callV (a := 16) (o := 0) (As := [.int 1]) (S := []) X lk_X3_82 rfl (by decide) rfl (C_X3_holds _) rfl rfl (Nat.le_of_ble_eq_true rfl) ⟨Nat.le_of_ble_eq_true rfl, Nat.le_of_ble_eq_true rfl⟩ ⟨Nat.le_of_ble_eq_true rfl, Nat.le_of_ble_eq_true rfl⟩ dX3_pass_16 ?_
  show KF E C 0 0 (st μ 16 0 0 1) 19 _ [.int (bp (1 = 0))]
  refine k_val (y := 0) (bp_f (by decide)) ?_
  refine k_if_ne_f (tgt := 24) X dX3_pass_19 (by decide) rfl ?_
  refine k_iconst X 0 dX3_pass_22 (by decide) ?_
  exact k_iret dX3_pass_23 hE rfl rfl
