set_option maxHeartbeats 4000000 in
set_option maxRecDepth 100000 in
theorem L_v3 {E : EE} {μ : Mem} {C : Ctx} (c a b e m : Nat) (q : Int32) (hc : c < 20) (ha : a < 6) (hb : b < 6) (he : e < 6) (hm : μ 22 0 e = nI m) (hm16 : m ≤ 16) (hB : MB μ) (hv : vN (μ 25 0 c) 12) (X : Cx E C cX3_visitsThird RX3 10 (rm 3 0)) (hE : EndV E C cX3_visitsThird 0 0 (v3L c a b e q m μ)) : ∀ (f : Nat) (i : Nat), m - i < f → i ≤ m → KF E C 0 0 (v3L c a b e q i μ) 3 [(6, .int (nI i)), (0, .ref (ad E 16 0)), (1, .int (nI c)), (2, .int q), (3, .int (nI a)), (4, .int (nI b)), (5, .int (nI e))] [] := by
  intro f
  induction f with
  | zero => intros; omega
  | succ f ih =>
    intro i hf hi
    have hM := v3L_MC (c := c) (a := a) (b := b) (d := e) (q := q) (μ := μ) i
    have hBM := hB.mr hM.1
    have hvM := hM.2.1 hv
    have e22 := hM.1 22 0 e (by decide) (by decide) (by decide) (by decide) (by decide)
    refine k_iload X 0 dX3_visitsThird_3 rfl ?_
    refine k_aload_n X 1 dX3_visitsThird_5 rfl rfl ?_
    refine gt_X3_26 X dX3_visitsThird_6 ?_
    refine k_iload X 6 dX3_visitsThird_9 rfl ?_
    refine k_iald (a := 22) (j := e) X rfl (by decide) rfl (show e < 6 from he) (by decide) dX3_visitsThird_11 ?_
    refine k_val (y := nI m) (e22.trans hm) ?_
    refine k_ge_n (a := i) (b := m) (tgt := 121) X dX3_visitsThird_12 (by decide) rfl rfl (by omega) (by omega) (fun c12 => ?_) (fun c12 => ?_)
    · exact k_vret dX3_visitsThird_121 hE (by rw [show i = m by omega])
    · have hvt : vN ((v3L c a b e q i μ) 21 0 (16 * e + i)) 15 := (hBM e he).2 i (by rw [e22, hm, tN_nI (by omega)]; exact c12)
      have h15 := hvt.2
      refine k_aload_n X 1 dX3_visitsThird_15 rfl rfl ?_
      refine gt_X3_23 X dX3_visitsThird_16 ?_
      refine k_bipush X 16 dX3_visitsThird_19 (by decide) ?_
      refine k_iload X 6 dX3_visitsThird_21 rfl ?_
      refine k_imul X dX3_visitsThird_23 ?_
      refine k_val (y := nI (16 * e)) (pk_mul _ _) ?_
      refine k_iload X 0 dX3_visitsThird_24 rfl ?_
      refine k_iadd X dX3_visitsThird_26 ?_
      refine k_val (y := nI ((16 * e) + i)) (nI_add _ _) ?_
      refine k_iald (a := 21) (j := ((16 * e) + i)) X rfl (by decide) rfl (show ((16 * e) + i) < 96 by omega) (by decide) dX3_visitsThird_27 ?_
      refine k_val (y := nI (tN ((v3L c a b e q i μ) 21 0 (16 * e + i)))) hvt.1 ?_
      refine k_istore (L' := [(7, .int (nI (tN ((v3L c a b e q i μ) 21 0 (16 * e + i))))), (6, .int (nI i)), (0, .ref (ad E 16 0)), (1, .int (nI c)), (2, .int q), (3, .int (nI a)), (4, .int (nI b)), (5, .int (nI e))]) X dX3_visitsThird_28 (by decide) rfl ?_
      refine k_iload X 0 dX3_visitsThird_30 rfl ?_
      refine k_bipush X 10 dX3_visitsThird_32 (by decide) ?_
      refine k_isub X dX3_visitsThird_34 ?_
      refine k_istore (L' := [(8, .int ((nI (tN ((v3L c a b e q i μ) 21 0 (16 * e + i)))) - 10)), (7, .int (nI (tN ((v3L c a b e q i μ) 21 0 (16 * e + i))))), (6, .int (nI i)), (0, .ref (ad E 16 0)), (1, .int (nI c)), (2, .int q), (3, .int (nI a)), (4, .int (nI b)), (5, .int (nI e))]) X dX3_visitsThird_35 (by decide) rfl ?_
      refine k_iload X 0 dX3_visitsThird_37 rfl ?_
      refine k_iload_n X 6 dX3_visitsThird_39 rfl rfl ?_
      refine k_icmp_eq (tgt := 57) X dX3_visitsThird_40 (by decide) (fun c40 => ?_) (fun c40 => ?_)
      · refine k_iconst X 1 dX3_visitsThird_57 (by decide) ?_
        refine k_goto (tgt := 62) X dX3_visitsThird_58 (by decide) ?_
        refine k_istore (L' := [(9, .int 1), (8, .int ((nI (tN ((v3L c a b e q i μ) 21 0 (16 * e + i)))) - 10)), (7, .int (nI (tN ((v3L c a b e q i μ) 21 0 (16 * e + i))))), (6, .int (nI i)), (0, .ref (ad E 16 0)), (1, .int (nI c)), (2, .int q), (3, .int (nI a)), (4, .int (nI b)), (5, .int (nI e))]) X dX3_visitsThird_62 (by decide) rfl ?_
        refine k_aload_n X 4 dX3_visitsThird_64 rfl rfl ?_
        refine k_iload X 9 dX3_visitsThird_65 rfl ?_
        refine k_iload X 2 dX3_visitsThird_67 rfl ?_
        refine k_callV (a := 16) (o := 0) (As := [.int (nI e), .int (nI (tN ((v3L c a b e q i μ) 21 0 (16 * e + i))))]) (S := []) X lk_X3_70 rfl (by decide) rfl (C_X3_isThere _ _ he (Nat.lt_succ_of_le h15)) rfl rfl (Nat.le_of_ble_eq_true rfl) ⟨Nat.le_of_ble_eq_true rfl, Nat.le_of_ble_eq_true rfl⟩ ⟨Nat.le_of_ble_eq_true rfl, Nat.le_of_ble_eq_true rfl⟩ dX3_visitsThird_69 ?_
        show KF E C 0 0 (v3L c a b e q i μ) 72 _ [.int (bp (mtB (v3L c a b e q i μ) e (tN ((v3L c a b e q i μ) 21 0 (16 * e + i))) = true))]
        refine k_if_eq_p (tgt := 115) X dX3_visitsThird_72 (by decide) (fun c72 => ?_) (fun c72 => ?_)
        · refine k_iinc (v := nI (i + 1)) (L' := [(6, .int (nI (i + 1))), (9, .int 1), (8, .int ((nI (tN ((v3L c a b e q i μ) 21 0 (16 * e + i)))) - 10)), (7, .int (nI (tN ((v3L c a b e q i μ) 21 0 (16 * e + i))))), (0, .ref (ad E 16 0)), (1, .int (nI c)), (2, .int q), (3, .int (nI a)), (4, .int (nI b)), (5, .int (nI e))]) X 3 dX3_visitsThird_115 rfl (nI_1 i) (by decide) rfl ?_
          refine k_goto (tgt := 3) X dX3_visitsThird_118 (by decide) ?_
          have e1 : v3L c a b e q (i + 1) μ = v3L c a b e q i μ := by show v3S _ _ _ _ _ _ _ = _; unfold v3S; rw [if_neg c72]
          refine k_mem (μ' := v3L c a b e q (i + 1) μ) e1.symm ?_
          refine k_pick (L' := [(6, .int (nI (i + 1))), (0, .ref (ad E 16 0)), (1, .int (nI c)), (2, .int q), (3, .int (nI a)), (4, .int (nI b)), (5, .int (nI e))]) [0, 4, 5, 6, 7, 8, 9] rfl ?_
          exact ih (i + 1) (by omega) (by omega)
        · refine k_aload_n X 4 dX3_visitsThird_75 rfl rfl ?_
          refine k_iload_n X 5 dX3_visitsThird_76 rfl rfl ?_
          refine k_iload X 1 dX3_visitsThird_77 rfl ?_
          refine k_if_ge (tgt := 87) X dX3_visitsThird_79 (by decide) (fun c79 => ?_) (fun c79 => ?_)
          · refine k_iconst X (-1) dX3_visitsThird_87 (by decide) ?_
            refine k_iload_n X 6 dX3_visitsThird_88 rfl rfl ?_
            refine k_iload X 1 dX3_visitsThird_89 rfl ?_
            refine k_if_ge_t (tgt := 98) X dX3_visitsThird_91 (by decide) c79 ?_
            refine k_iload X 0 dX3_visitsThird_98 rfl ?_
            refine k_if_eq_f (tgt := 109) X dX3_visitsThird_100 (by decide) (by decide) ?_
            refine k_sipush X 482 dX3_visitsThird_103 (by decide) ?_
            refine k_goto (tgt := 112) X dX3_visitsThird_106 (by decide) ?_
            refine k_callV (a := 16) (o := 0) (As := [.int (nI c), .int (-1), .int q, .int 482]) (S := []) X lk_X3_88 rfl (by decide) rfl (C_X3_adds c _ _ _ hc hvM) rfl rfl (Nat.le_of_ble_eq_true rfl) ⟨Nat.le_of_ble_eq_true rfl, Nat.le_of_ble_eq_true rfl⟩ ⟨Nat.le_of_ble_eq_true rfl, Nat.le_of_ble_eq_true rfl⟩ dX3_visitsThird_112 ?_
            show KF E C 0 0 (maM (v3L c a b e q i μ) c (-1) q 482) 115 _ []
            refine k_iinc (v := nI (i + 1)) (L' := [(6, .int (nI (i + 1))), (9, .int 1), (8, .int ((nI (tN ((v3L c a b e q i μ) 21 0 (16 * e + i)))) - 10)), (7, .int (nI (tN ((v3L c a b e q i μ) 21 0 (16 * e + i))))), (0, .ref (ad E 16 0)), (1, .int (nI c)), (2, .int q), (3, .int (nI a)), (4, .int (nI b)), (5, .int (nI e))]) X 3 dX3_visitsThird_115 rfl (nI_1 i) (by decide) rfl ?_
            refine k_goto (tgt := 3) X dX3_visitsThird_118 (by decide) ?_
            have e1 : v3L c a b e q (i + 1) μ = maM (v3L c a b e q i μ) c (-1) q 482 := by show v3S _ _ _ _ _ _ _ = _; unfold v3S mD; rw [if_pos c72, if_neg (Int32.not_lt.mpr c79), if_neg (Int32.not_lt.mpr c79), if_pos (Or.inl c40)]
            refine k_mem (μ' := v3L c a b e q (i + 1) μ) e1.symm ?_
            refine k_pick (L' := [(6, .int (nI (i + 1))), (0, .ref (ad E 16 0)), (1, .int (nI c)), (2, .int q), (3, .int (nI a)), (4, .int (nI b)), (5, .int (nI e))]) [0, 4, 5, 6, 7, 8, 9] rfl ?_
            exact ih (i + 1) (by omega) (by omega)
          · refine k_iload X 2 dX3_visitsThird_82 rfl ?_
            refine k_goto (tgt := 88) X dX3_visitsThird_84 (by decide) ?_
            refine k_iload_n X 6 dX3_visitsThird_88 rfl rfl ?_
            refine k_iload X 1 dX3_visitsThird_89 rfl ?_
            refine k_if_ge_f (tgt := 98) X dX3_visitsThird_91 (by decide) c79 ?_
            refine k_iconst X 0 dX3_visitsThird_94 (by decide) ?_
            refine k_goto (tgt := 112) X dX3_visitsThird_95 (by decide) ?_
            refine k_callV (a := 16) (o := 0) (As := [.int (nI c), .int (nI (tN ((v3L c a b e q i μ) 21 0 (16 * e + i)))), .int q, .int 0]) (S := []) X lk_X3_88 rfl (by decide) rfl (C_X3_adds c _ _ _ hc hvM) rfl rfl (Nat.le_of_ble_eq_true rfl) ⟨Nat.le_of_ble_eq_true rfl, Nat.le_of_ble_eq_true rfl⟩ ⟨Nat.le_of_ble_eq_true rfl, Nat.le_of_ble_eq_true rfl⟩ dX3_visitsThird_112 ?_
            show KF E C 0 0 (maM (v3L c a b e q i μ) c (nI (tN ((v3L c a b e q i μ) 21 0 (16 * e + i)))) q 0) 115 _ []
            refine k_iinc (v := nI (i + 1)) (L' := [(6, .int (nI (i + 1))), (9, .int 1), (8, .int ((nI (tN ((v3L c a b e q i μ) 21 0 (16 * e + i)))) - 10)), (7, .int (nI (tN ((v3L c a b e q i μ) 21 0 (16 * e + i))))), (0, .ref (ad E 16 0)), (1, .int (nI c)), (2, .int q), (3, .int (nI a)), (4, .int (nI b)), (5, .int (nI e))]) X 3 dX3_visitsThird_115 rfl (nI_1 i) (by decide) rfl ?_
            refine k_goto (tgt := 3) X dX3_visitsThird_118 (by decide) ?_
            have e1 : v3L c a b e q (i + 1) μ = maM (v3L c a b e q i μ) c (nI (tN ((v3L c a b e q i μ) 21 0 (16 * e + i)))) q 0 := by show v3S _ _ _ _ _ _ _ = _; unfold v3S mD; rw [if_pos c72, if_pos (Int32.not_le.mp c79), if_pos (Int32.not_le.mp c79)]
            refine k_mem (μ' := v3L c a b e q (i + 1) μ) e1.symm ?_
            refine k_pick (L' := [(6, .int (nI (i + 1))), (0, .ref (ad E 16 0)), (1, .int (nI c)), (2, .int q), (3, .int (nI a)), (4, .int (nI b)), (5, .int (nI e))]) [0, 4, 5, 6, 7, 8, 9] rfl ?_
            exact ih (i + 1) (by omega) (by omega)
      · refine k_iload X 0 dX3_visitsThird_43 rfl ?_
        refine k_iload X 7 dX3_visitsThird_45 rfl ?_
        refine k_icmp_eq (tgt := 57) X dX3_visitsThird_47 (by decide) (fun c47 => ?_) (fun c47 => ?_)
        · refine k_iconst X 1 dX3_visitsThird_57 (by decide) ?_
          refine k_goto (tgt := 62) X dX3_visitsThird_58 (by decide) ?_
          refine k_istore (L' := [(9, .int 1), (8, .int ((nI (tN ((v3L c a b e q i μ) 21 0 (16 * e + i)))) - 10)), (7, .int (nI (tN ((v3L c a b e q i μ) 21 0 (16 * e + i))))), (6, .int (nI i)), (0, .ref (ad E 16 0)), (1, .int (nI c)), (2, .int q), (3, .int (nI a)), (4, .int (nI b)), (5, .int (nI e))]) X dX3_visitsThird_62 (by decide) rfl ?_
          refine k_aload_n X 4 dX3_visitsThird_64 rfl rfl ?_
          refine k_iload X 9 dX3_visitsThird_65 rfl ?_
          refine k_iload X 2 dX3_visitsThird_67 rfl ?_
          refine k_callV (a := 16) (o := 0) (As := [.int (nI e), .int (nI (tN ((v3L c a b e q i μ) 21 0 (16 * e + i))))]) (S := []) X lk_X3_70 rfl (by decide) rfl (C_X3_isThere _ _ he (Nat.lt_succ_of_le h15)) rfl rfl (Nat.le_of_ble_eq_true rfl) ⟨Nat.le_of_ble_eq_true rfl, Nat.le_of_ble_eq_true rfl⟩ ⟨Nat.le_of_ble_eq_true rfl, Nat.le_of_ble_eq_true rfl⟩ dX3_visitsThird_69 ?_
          show KF E C 0 0 (v3L c a b e q i μ) 72 _ [.int (bp (mtB (v3L c a b e q i μ) e (tN ((v3L c a b e q i μ) 21 0 (16 * e + i))) = true))]
          refine k_if_eq_p (tgt := 115) X dX3_visitsThird_72 (by decide) (fun c72 => ?_) (fun c72 => ?_)
          · refine k_iinc (v := nI (i + 1)) (L' := [(6, .int (nI (i + 1))), (9, .int 1), (8, .int ((nI (tN ((v3L c a b e q i μ) 21 0 (16 * e + i)))) - 10)), (7, .int (nI (tN ((v3L c a b e q i μ) 21 0 (16 * e + i))))), (0, .ref (ad E 16 0)), (1, .int (nI c)), (2, .int q), (3, .int (nI a)), (4, .int (nI b)), (5, .int (nI e))]) X 3 dX3_visitsThird_115 rfl (nI_1 i) (by decide) rfl ?_
            refine k_goto (tgt := 3) X dX3_visitsThird_118 (by decide) ?_
            have e1 : v3L c a b e q (i + 1) μ = v3L c a b e q i μ := by show v3S _ _ _ _ _ _ _ = _; unfold v3S; rw [if_neg c72]
            refine k_mem (μ' := v3L c a b e q (i + 1) μ) e1.symm ?_
            refine k_pick (L' := [(6, .int (nI (i + 1))), (0, .ref (ad E 16 0)), (1, .int (nI c)), (2, .int q), (3, .int (nI a)), (4, .int (nI b)), (5, .int (nI e))]) [0, 4, 5, 6, 7, 8, 9] rfl ?_
            exact ih (i + 1) (by omega) (by omega)
          · refine k_aload_n X 4 dX3_visitsThird_75 rfl rfl ?_
            refine k_iload_n X 5 dX3_visitsThird_76 rfl rfl ?_
            refine k_iload X 1 dX3_visitsThird_77 rfl ?_
            refine k_if_ge (tgt := 87) X dX3_visitsThird_79 (by decide) (fun c79 => ?_) (fun c79 => ?_)
            · refine k_iconst X (-1) dX3_visitsThird_87 (by decide) ?_
              refine k_iload_n X 6 dX3_visitsThird_88 rfl rfl ?_
              refine k_iload X 1 dX3_visitsThird_89 rfl ?_
              refine k_if_ge_t (tgt := 98) X dX3_visitsThird_91 (by decide) c79 ?_
              refine k_iload X 0 dX3_visitsThird_98 rfl ?_
              refine k_if_eq_f (tgt := 109) X dX3_visitsThird_100 (by decide) (by decide) ?_
              refine k_sipush X 482 dX3_visitsThird_103 (by decide) ?_
              refine k_goto (tgt := 112) X dX3_visitsThird_106 (by decide) ?_
              refine k_callV (a := 16) (o := 0) (As := [.int (nI c), .int (-1), .int q, .int 482]) (S := []) X lk_X3_88 rfl (by decide) rfl (C_X3_adds c _ _ _ hc hvM) rfl rfl (Nat.le_of_ble_eq_true rfl) ⟨Nat.le_of_ble_eq_true rfl, Nat.le_of_ble_eq_true rfl⟩ ⟨Nat.le_of_ble_eq_true rfl, Nat.le_of_ble_eq_true rfl⟩ dX3_visitsThird_112 ?_
              show KF E C 0 0 (maM (v3L c a b e q i μ) c (-1) q 482) 115 _ []
              refine k_iinc (v := nI (i + 1)) (L' := [(6, .int (nI (i + 1))), (9, .int 1), (8, .int ((nI (tN ((v3L c a b e q i μ) 21 0 (16 * e + i)))) - 10)), (7, .int (nI (tN ((v3L c a b e q i μ) 21 0 (16 * e + i))))), (0, .ref (ad E 16 0)), (1, .int (nI c)), (2, .int q), (3, .int (nI a)), (4, .int (nI b)), (5, .int (nI e))]) X 3 dX3_visitsThird_115 rfl (nI_1 i) (by decide) rfl ?_
              refine k_goto (tgt := 3) X dX3_visitsThird_118 (by decide) ?_
              have e1 : v3L c a b e q (i + 1) μ = maM (v3L c a b e q i μ) c (-1) q 482 := by show v3S _ _ _ _ _ _ _ = _; unfold v3S mD; rw [if_pos c72, if_neg (Int32.not_lt.mpr c79), if_neg (Int32.not_lt.mpr c79), if_pos (Or.inr (Or.inl c47))]
              refine k_mem (μ' := v3L c a b e q (i + 1) μ) e1.symm ?_
              refine k_pick (L' := [(6, .int (nI (i + 1))), (0, .ref (ad E 16 0)), (1, .int (nI c)), (2, .int q), (3, .int (nI a)), (4, .int (nI b)), (5, .int (nI e))]) [0, 4, 5, 6, 7, 8, 9] rfl ?_
              exact ih (i + 1) (by omega) (by omega)
            · refine k_iload X 2 dX3_visitsThird_82 rfl ?_
              refine k_goto (tgt := 88) X dX3_visitsThird_84 (by decide) ?_
              refine k_iload_n X 6 dX3_visitsThird_88 rfl rfl ?_
              refine k_iload X 1 dX3_visitsThird_89 rfl ?_
              refine k_if_ge_f (tgt := 98) X dX3_visitsThird_91 (by decide) c79 ?_
              refine k_iconst X 0 dX3_visitsThird_94 (by decide) ?_
              refine k_goto (tgt := 112) X dX3_visitsThird_95 (by decide) ?_
              refine k_callV (a := 16) (o := 0) (As := [.int (nI c), .int (nI (tN ((v3L c a b e q i μ) 21 0 (16 * e + i)))), .int q, .int 0]) (S := []) X lk_X3_88 rfl (by decide) rfl (C_X3_adds c _ _ _ hc hvM) rfl rfl (Nat.le_of_ble_eq_true rfl) ⟨Nat.le_of_ble_eq_true rfl, Nat.le_of_ble_eq_true rfl⟩ ⟨Nat.le_of_ble_eq_true rfl, Nat.le_of_ble_eq_true rfl⟩ dX3_visitsThird_112 ?_
              show KF E C 0 0 (maM (v3L c a b e q i μ) c (nI (tN ((v3L c a b e q i μ) 21 0 (16 * e + i)))) q 0) 115 _ []
              refine k_iinc (v := nI (i + 1)) (L' := [(6, .int (nI (i + 1))), (9, .int 1), (8, .int ((nI (tN ((v3L c a b e q i μ) 21 0 (16 * e + i)))) - 10)), (7, .int (nI (tN ((v3L c a b e q i μ) 21 0 (16 * e + i))))), (0, .ref (ad E 16 0)), (1, .int (nI c)), (2, .int q), (3, .int (nI a)), (4, .int (nI b)), (5, .int (nI e))]) X 3 dX3_visitsThird_115 rfl (nI_1 i) (by decide) rfl ?_
              refine k_goto (tgt := 3) X dX3_visitsThird_118 (by decide) ?_
              have e1 : v3L c a b e q (i + 1) μ = maM (v3L c a b e q i μ) c (nI (tN ((v3L c a b e q i μ) 21 0 (16 * e + i)))) q 0 := by show v3S _ _ _ _ _ _ _ = _; unfold v3S mD; rw [if_pos c72, if_pos (Int32.not_le.mp c79), if_pos (Int32.not_le.mp c79)]
              refine k_mem (μ' := v3L c a b e q (i + 1) μ) e1.symm ?_
              refine k_pick (L' := [(6, .int (nI (i + 1))), (0, .ref (ad E 16 0)), (1, .int (nI c)), (2, .int q), (3, .int (nI a)), (4, .int (nI b)), (5, .int (nI e))]) [0, 4, 5, 6, 7, 8, 9] rfl ?_
              exact ih (i + 1) (by omega) (by omega)
        · refine k_iload X 0 dX3_visitsThird_50 rfl ?_
          refine k_iload X 8 dX3_visitsThird_52 rfl ?_
          refine k_icmp_ne (tgt := 61) X dX3_visitsThird_54 (by decide) (fun c54 => ?_) (fun c54 => ?_)
          · refine k_iconst X 0 dX3_visitsThird_61 (by decide) ?_
            refine k_istore (L' := [(9, .int 0), (8, .int ((nI (tN ((v3L c a b e q i μ) 21 0 (16 * e + i)))) - 10)), (7, .int (nI (tN ((v3L c a b e q i μ) 21 0 (16 * e + i))))), (6, .int (nI i)), (0, .ref (ad E 16 0)), (1, .int (nI c)), (2, .int q), (3, .int (nI a)), (4, .int (nI b)), (5, .int (nI e))]) X dX3_visitsThird_62 (by decide) rfl ?_
            refine k_aload_n X 4 dX3_visitsThird_64 rfl rfl ?_
            refine k_iload X 9 dX3_visitsThird_65 rfl ?_
            refine k_iload X 2 dX3_visitsThird_67 rfl ?_
            refine k_callV (a := 16) (o := 0) (As := [.int (nI e), .int (nI (tN ((v3L c a b e q i μ) 21 0 (16 * e + i))))]) (S := []) X lk_X3_70 rfl (by decide) rfl (C_X3_isThere _ _ he (Nat.lt_succ_of_le h15)) rfl rfl (Nat.le_of_ble_eq_true rfl) ⟨Nat.le_of_ble_eq_true rfl, Nat.le_of_ble_eq_true rfl⟩ ⟨Nat.le_of_ble_eq_true rfl, Nat.le_of_ble_eq_true rfl⟩ dX3_visitsThird_69 ?_
            show KF E C 0 0 (v3L c a b e q i μ) 72 _ [.int (bp (mtB (v3L c a b e q i μ) e (tN ((v3L c a b e q i μ) 21 0 (16 * e + i))) = true))]
            refine k_if_eq_p (tgt := 115) X dX3_visitsThird_72 (by decide) (fun c72 => ?_) (fun c72 => ?_)
            · refine k_iinc (v := nI (i + 1)) (L' := [(6, .int (nI (i + 1))), (9, .int 0), (8, .int ((nI (tN ((v3L c a b e q i μ) 21 0 (16 * e + i)))) - 10)), (7, .int (nI (tN ((v3L c a b e q i μ) 21 0 (16 * e + i))))), (0, .ref (ad E 16 0)), (1, .int (nI c)), (2, .int q), (3, .int (nI a)), (4, .int (nI b)), (5, .int (nI e))]) X 3 dX3_visitsThird_115 rfl (nI_1 i) (by decide) rfl ?_
              refine k_goto (tgt := 3) X dX3_visitsThird_118 (by decide) ?_
              have e1 : v3L c a b e q (i + 1) μ = v3L c a b e q i μ := by show v3S _ _ _ _ _ _ _ = _; unfold v3S; rw [if_neg c72]
              refine k_mem (μ' := v3L c a b e q (i + 1) μ) e1.symm ?_
              refine k_pick (L' := [(6, .int (nI (i + 1))), (0, .ref (ad E 16 0)), (1, .int (nI c)), (2, .int q), (3, .int (nI a)), (4, .int (nI b)), (5, .int (nI e))]) [0, 4, 5, 6, 7, 8, 9] rfl ?_
              exact ih (i + 1) (by omega) (by omega)
            · refine k_aload_n X 4 dX3_visitsThird_75 rfl rfl ?_
              refine k_iload_n X 5 dX3_visitsThird_76 rfl rfl ?_
              refine k_iload X 1 dX3_visitsThird_77 rfl ?_
              refine k_if_ge (tgt := 87) X dX3_visitsThird_79 (by decide) (fun c79 => ?_) (fun c79 => ?_)
              · refine k_iconst X (-1) dX3_visitsThird_87 (by decide) ?_
                refine k_iload_n X 6 dX3_visitsThird_88 rfl rfl ?_
                refine k_iload X 1 dX3_visitsThird_89 rfl ?_
                refine k_if_ge_t (tgt := 98) X dX3_visitsThird_91 (by decide) c79 ?_
                refine k_iload X 0 dX3_visitsThird_98 rfl ?_
                refine k_if_eq_t (tgt := 109) X dX3_visitsThird_100 (by decide) rfl ?_
                refine k_sipush X 483 dX3_visitsThird_109 (by decide) ?_
                refine k_callV (a := 16) (o := 0) (As := [.int (nI c), .int (-1), .int q, .int 483]) (S := []) X lk_X3_88 rfl (by decide) rfl (C_X3_adds c _ _ _ hc hvM) rfl rfl (Nat.le_of_ble_eq_true rfl) ⟨Nat.le_of_ble_eq_true rfl, Nat.le_of_ble_eq_true rfl⟩ ⟨Nat.le_of_ble_eq_true rfl, Nat.le_of_ble_eq_true rfl⟩ dX3_visitsThird_112 ?_
                show KF E C 0 0 (maM (v3L c a b e q i μ) c (-1) q 483) 115 _ []
                refine k_iinc (v := nI (i + 1)) (L' := [(6, .int (nI (i + 1))), (9, .int 0), (8, .int ((nI (tN ((v3L c a b e q i μ) 21 0 (16 * e + i)))) - 10)), (7, .int (nI (tN ((v3L c a b e q i μ) 21 0 (16 * e + i))))), (0, .ref (ad E 16 0)), (1, .int (nI c)), (2, .int q), (3, .int (nI a)), (4, .int (nI b)), (5, .int (nI e))]) X 3 dX3_visitsThird_115 rfl (nI_1 i) (by decide) rfl ?_
                refine k_goto (tgt := 3) X dX3_visitsThird_118 (by decide) ?_
                have e1 : v3L c a b e q (i + 1) μ = maM (v3L c a b e q i μ) c (-1) q 483 := by show v3S _ _ _ _ _ _ _ = _; unfold v3S mD; rw [if_pos c72, if_neg (Int32.not_lt.mpr c79), if_neg (Int32.not_lt.mpr c79), if_neg (fun h => h.elim c40 (fun h => h.elim c47 c54))]
                refine k_mem (μ' := v3L c a b e q (i + 1) μ) e1.symm ?_
                refine k_pick (L' := [(6, .int (nI (i + 1))), (0, .ref (ad E 16 0)), (1, .int (nI c)), (2, .int q), (3, .int (nI a)), (4, .int (nI b)), (5, .int (nI e))]) [0, 4, 5, 6, 7, 8, 9] rfl ?_
                exact ih (i + 1) (by omega) (by omega)
              · refine k_iload X 2 dX3_visitsThird_82 rfl ?_
                refine k_goto (tgt := 88) X dX3_visitsThird_84 (by decide) ?_
                refine k_iload_n X 6 dX3_visitsThird_88 rfl rfl ?_
                refine k_iload X 1 dX3_visitsThird_89 rfl ?_
                refine k_if_ge_f (tgt := 98) X dX3_visitsThird_91 (by decide) c79 ?_
                refine k_iconst X 0 dX3_visitsThird_94 (by decide) ?_
                refine k_goto (tgt := 112) X dX3_visitsThird_95 (by decide) ?_
                refine k_callV (a := 16) (o := 0) (As := [.int (nI c), .int (nI (tN ((v3L c a b e q i μ) 21 0 (16 * e + i)))), .int q, .int 0]) (S := []) X lk_X3_88 rfl (by decide) rfl (C_X3_adds c _ _ _ hc hvM) rfl rfl (Nat.le_of_ble_eq_true rfl) ⟨Nat.le_of_ble_eq_true rfl, Nat.le_of_ble_eq_true rfl⟩ ⟨Nat.le_of_ble_eq_true rfl, Nat.le_of_ble_eq_true rfl⟩ dX3_visitsThird_112 ?_
                show KF E C 0 0 (maM (v3L c a b e q i μ) c (nI (tN ((v3L c a b e q i μ) 21 0 (16 * e + i)))) q 0) 115 _ []
                refine k_iinc (v := nI (i + 1)) (L' := [(6, .int (nI (i + 1))), (9, .int 0), (8, .int ((nI (tN ((v3L c a b e q i μ) 21 0 (16 * e + i)))) - 10)), (7, .int (nI (tN ((v3L c a b e q i μ) 21 0 (16 * e + i))))), (0, .ref (ad E 16 0)), (1, .int (nI c)), (2, .int q), (3, .int (nI a)), (4, .int (nI b)), (5, .int (nI e))]) X 3 dX3_visitsThird_115 rfl (nI_1 i) (by decide) rfl ?_
                refine k_goto (tgt := 3) X dX3_visitsThird_118 (by decide) ?_
                have e1 : v3L c a b e q (i + 1) μ = maM (v3L c a b e q i μ) c (nI (tN ((v3L c a b e q i μ) 21 0 (16 * e + i)))) q 0 := by show v3S _ _ _ _ _ _ _ = _; unfold v3S mD; rw [if_pos c72, if_pos (Int32.not_le.mp c79), if_pos (Int32.not_le.mp c79)]
                refine k_mem (μ' := v3L c a b e q (i + 1) μ) e1.symm ?_
                refine k_pick (L' := [(6, .int (nI (i + 1))), (0, .ref (ad E 16 0)), (1, .int (nI c)), (2, .int q), (3, .int (nI a)), (4, .int (nI b)), (5, .int (nI e))]) [0, 4, 5, 6, 7, 8, 9] rfl ?_
                exact ih (i + 1) (by omega) (by omega)
          · refine k_iconst X 1 dX3_visitsThird_57 (by decide) ?_
            refine k_goto (tgt := 62) X dX3_visitsThird_58 (by decide) ?_
            refine k_istore (L' := [(9, .int 1), (8, .int ((nI (tN ((v3L c a b e q i μ) 21 0 (16 * e + i)))) - 10)), (7, .int (nI (tN ((v3L c a b e q i μ) 21 0 (16 * e + i))))), (6, .int (nI i)), (0, .ref (ad E 16 0)), (1, .int (nI c)), (2, .int q), (3, .int (nI a)), (4, .int (nI b)), (5, .int (nI e))]) X dX3_visitsThird_62 (by decide) rfl ?_
            refine k_aload_n X 4 dX3_visitsThird_64 rfl rfl ?_
            refine k_iload X 9 dX3_visitsThird_65 rfl ?_
            refine k_iload X 2 dX3_visitsThird_67 rfl ?_
            refine k_callV (a := 16) (o := 0) (As := [.int (nI e), .int (nI (tN ((v3L c a b e q i μ) 21 0 (16 * e + i))))]) (S := []) X lk_X3_70 rfl (by decide) rfl (C_X3_isThere _ _ he (Nat.lt_succ_of_le h15)) rfl rfl (Nat.le_of_ble_eq_true rfl) ⟨Nat.le_of_ble_eq_true rfl, Nat.le_of_ble_eq_true rfl⟩ ⟨Nat.le_of_ble_eq_true rfl, Nat.le_of_ble_eq_true rfl⟩ dX3_visitsThird_69 ?_
            show KF E C 0 0 (v3L c a b e q i μ) 72 _ [.int (bp (mtB (v3L c a b e q i μ) e (tN ((v3L c a b e q i μ) 21 0 (16 * e + i))) = true))]
            refine k_if_eq_p (tgt := 115) X dX3_visitsThird_72 (by decide) (fun c72 => ?_) (fun c72 => ?_)
            · refine k_iinc (v := nI (i + 1)) (L' := [(6, .int (nI (i + 1))), (9, .int 1), (8, .int ((nI (tN ((v3L c a b e q i μ) 21 0 (16 * e + i)))) - 10)), (7, .int (nI (tN ((v3L c a b e q i μ) 21 0 (16 * e + i))))), (0, .ref (ad E 16 0)), (1, .int (nI c)), (2, .int q), (3, .int (nI a)), (4, .int (nI b)), (5, .int (nI e))]) X 3 dX3_visitsThird_115 rfl (nI_1 i) (by decide) rfl ?_
              refine k_goto (tgt := 3) X dX3_visitsThird_118 (by decide) ?_
              have e1 : v3L c a b e q (i + 1) μ = v3L c a b e q i μ := by show v3S _ _ _ _ _ _ _ = _; unfold v3S; rw [if_neg c72]
              refine k_mem (μ' := v3L c a b e q (i + 1) μ) e1.symm ?_
              refine k_pick (L' := [(6, .int (nI (i + 1))), (0, .ref (ad E 16 0)), (1, .int (nI c)), (2, .int q), (3, .int (nI a)), (4, .int (nI b)), (5, .int (nI e))]) [0, 4, 5, 6, 7, 8, 9] rfl ?_
              exact ih (i + 1) (by omega) (by omega)
            · refine k_aload_n X 4 dX3_visitsThird_75 rfl rfl ?_
              refine k_iload_n X 5 dX3_visitsThird_76 rfl rfl ?_
              refine k_iload X 1 dX3_visitsThird_77 rfl ?_
              refine k_if_ge (tgt := 87) X dX3_visitsThird_79 (by decide) (fun c79 => ?_) (fun c79 => ?_)
              · refine k_iconst X (-1) dX3_visitsThird_87 (by decide) ?_
                refine k_iload_n X 6 dX3_visitsThird_88 rfl rfl ?_
                refine k_iload X 1 dX3_visitsThird_89 rfl ?_
                refine k_if_ge_t (tgt := 98) X dX3_visitsThird_91 (by decide) c79 ?_
                refine k_iload X 0 dX3_visitsThird_98 rfl ?_
                refine k_if_eq_f (tgt := 109) X dX3_visitsThird_100 (by decide) (by decide) ?_
                refine k_sipush X 482 dX3_visitsThird_103 (by decide) ?_
                refine k_goto (tgt := 112) X dX3_visitsThird_106 (by decide) ?_
                refine k_callV (a := 16) (o := 0) (As := [.int (nI c), .int (-1), .int q, .int 482]) (S := []) X lk_X3_88 rfl (by decide) rfl (C_X3_adds c _ _ _ hc hvM) rfl rfl (Nat.le_of_ble_eq_true rfl) ⟨Nat.le_of_ble_eq_true rfl, Nat.le_of_ble_eq_true rfl⟩ ⟨Nat.le_of_ble_eq_true rfl, Nat.le_of_ble_eq_true rfl⟩ dX3_visitsThird_112 ?_
                show KF E C 0 0 (maM (v3L c a b e q i μ) c (-1) q 482) 115 _ []
                refine k_iinc (v := nI (i + 1)) (L' := [(6, .int (nI (i + 1))), (9, .int 1), (8, .int ((nI (tN ((v3L c a b e q i μ) 21 0 (16 * e + i)))) - 10)), (7, .int (nI (tN ((v3L c a b e q i μ) 21 0 (16 * e + i))))), (0, .ref (ad E 16 0)), (1, .int (nI c)), (2, .int q), (3, .int (nI a)), (4, .int (nI b)), (5, .int (nI e))]) X 3 dX3_visitsThird_115 rfl (nI_1 i) (by decide) rfl ?_
                refine k_goto (tgt := 3) X dX3_visitsThird_118 (by decide) ?_
                have e1 : v3L c a b e q (i + 1) μ = maM (v3L c a b e q i μ) c (-1) q 482 := by show v3S _ _ _ _ _ _ _ = _; unfold v3S mD; rw [if_pos c72, if_neg (Int32.not_lt.mpr c79), if_neg (Int32.not_lt.mpr c79), if_pos (Or.inr (Or.inr c54))]
                refine k_mem (μ' := v3L c a b e q (i + 1) μ) e1.symm ?_
                refine k_pick (L' := [(6, .int (nI (i + 1))), (0, .ref (ad E 16 0)), (1, .int (nI c)), (2, .int q), (3, .int (nI a)), (4, .int (nI b)), (5, .int (nI e))]) [0, 4, 5, 6, 7, 8, 9] rfl ?_
                exact ih (i + 1) (by omega) (by omega)
              · refine k_iload X 2 dX3_visitsThird_82 rfl ?_
                refine k_goto (tgt := 88) X dX3_visitsThird_84 (by decide) ?_
                refine k_iload_n X 6 dX3_visitsThird_88 rfl rfl ?_
                refine k_iload X 1 dX3_visitsThird_89 rfl ?_
                refine k_if_ge_f (tgt := 98) X dX3_visitsThird_91 (by decide) c79 ?_
                refine k_iconst X 0 dX3_visitsThird_94 (by decide) ?_
                refine k_goto (tgt := 112) X dX3_visitsThird_95 (by decide) ?_
                refine k_callV (a := 16) (o := 0) (As := [.int (nI c), .int (nI (tN ((v3L c a b e q i μ) 21 0 (16 * e + i)))), .int q, .int 0]) (S := []) X lk_X3_88 rfl (by decide) rfl (C_X3_adds c _ _ _ hc hvM) rfl rfl (Nat.le_of_ble_eq_true rfl) ⟨Nat.le_of_ble_eq_true rfl, Nat.le_of_ble_eq_true rfl⟩ ⟨Nat.le_of_ble_eq_true rfl, Nat.le_of_ble_eq_true rfl⟩ dX3_visitsThird_112 ?_
                show KF E C 0 0 (maM (v3L c a b e q i μ) c (nI (tN ((v3L c a b e q i μ) 21 0 (16 * e + i)))) q 0) 115 _ []
                refine k_iinc (v := nI (i + 1)) (L' := [(6, .int (nI (i + 1))), (9, .int 1), (8, .int ((nI (tN ((v3L c a b e q i μ) 21 0 (16 * e + i)))) - 10)), (7, .int (nI (tN ((v3L c a b e q i μ) 21 0 (16 * e + i))))), (0, .ref (ad E 16 0)), (1, .int (nI c)), (2, .int q), (3, .int (nI a)), (4, .int (nI b)), (5, .int (nI e))]) X 3 dX3_visitsThird_115 rfl (nI_1 i) (by decide) rfl ?_
                refine k_goto (tgt := 3) X dX3_visitsThird_118 (by decide) ?_
                have e1 : v3L c a b e q (i + 1) μ = maM (v3L c a b e q i μ) c (nI (tN ((v3L c a b e q i μ) 21 0 (16 * e + i)))) q 0 := by show v3S _ _ _ _ _ _ _ = _; unfold v3S mD; rw [if_pos c72, if_pos (Int32.not_le.mp c79), if_pos (Int32.not_le.mp c79)]
                refine k_mem (μ' := v3L c a b e q (i + 1) μ) e1.symm ?_
                refine k_pick (L' := [(6, .int (nI (i + 1))), (0, .ref (ad E 16 0)), (1, .int (nI c)), (2, .int q), (3, .int (nI a)), (4, .int (nI b)), (5, .int (nI e))]) [0, 4, 5, 6, 7, 8, 9] rfl ?_
                exact ih (i + 1) (by omega) (by omega)

set_option maxHeartbeats 4000000 in
set_option maxRecDepth 100000 in
theorem C_v3 {E : EE} {μ : Mem} (c a b e : Nat) (q x : Int32) (hc : c < 20) (ha : a < 6) (hb : b < 6) (he : e < 6) (hB : MB μ) (hv : vN (μ 25 0 c) 12) (hx : x = nI e) : MM E yX3_visitsThird cX3_visitsThird 10 none (rm 3 0) [.ref (ad E 16 0), .int (nI c), .int q, .int (nI a), .int (nI b), .int x] μ none (v3M c a b e q μ) := by
  refine MM.void (own := RX3) [(0, .ref (ad E 16 0)), (1, .int (nI c)), (2, .int q), (3, .int (nI a)), (4, .int (nI b)), (5, .int x)] rfl rfl rfl (Nat.le_of_ble_eq_true rfl) (fun C X hE => ?_)
  subst hx
  refine k_iconst X (nI 0) dX3_visitsThird_0 (by decide) ?_
  refine k_istore (L' := [(6, .int (nI 0)), (0, .ref (ad E 16 0)), (1, .int (nI c)), (2, .int q), (3, .int (nI a)), (4, .int (nI b)), (5, .int (nI e))]) X dX3_visitsThird_1 (by decide) rfl ?_
  refine k_mem (μ' := v3L c a b e q 0 μ) rfl ?_
  exact L_v3 c a b e (tN (μ 22 0 e)) q hc ha hb he (hB e he).1.1 (hB e he).1.2 hB hv X hE (tN (μ 22 0 e) + 1) 0 (by omega) (Nat.zero_le _)

set_option maxHeartbeats 4000000 in
set_option maxRecDepth 100000 in
theorem L_v2 {E : EE} {μ : Mem} {C : Ctx} (c a b m : Nat) (q : Int32) (hc : c < 20) (ha : a < 6) (hb : b < 6) (hm : μ 22 0 b = nI m) (hm16 : m ≤ 16) (hB : MB μ) (hv : vN (μ 25 0 c) 12) (X : Cx E C cX3_visitsSecond RX3 8 (rm 4 0)) (hE : EndV E C cX3_visitsSecond 0 0 (v2L c a b q m μ)) : ∀ (f : Nat) (i : Nat), m - i < f → i ≤ m → KF E C 0 0 (v2L c a b q i μ) 3 [(5, .int (nI i)), (0, .ref (ad E 16 0)), (1, .int (nI c)), (2, .int q), (3, .int (nI a)), (4, .int (nI b))] [] := by
  intro f
  induction f with
  | zero => intros; omega
  | succ f ih =>
    intro i hf hi
    have hM := v2L_MC (c := c) (a := a) (b := b) (q := q) (μ := μ) i
    have hBM := hB.mr hM.1
    have hvM := hM.2.1 hv
    have e22 := hM.1 22 0 b (by decide) (by decide) (by decide) (by decide) (by decide)
    refine k_iload X 0 dX3_visitsSecond_3 rfl ?_
    refine k_aload_n X 1 dX3_visitsSecond_5 rfl rfl ?_
    refine gt_X3_26 X dX3_visitsSecond_6 ?_
    refine k_iload X 5 dX3_visitsSecond_9 rfl ?_
    refine k_iald (a := 22) (j := b) X rfl (by decide) rfl (show b < 6 from hb) (by decide) dX3_visitsSecond_11 ?_
    refine k_val (y := nI m) (e22.trans hm) ?_
    refine k_ge_n (a := i) (b := m) (tgt := 126) X dX3_visitsSecond_12 (by decide) rfl rfl (by omega) (by omega) (fun c12 => ?_) (fun c12 => ?_)
    · exact k_vret dX3_visitsSecond_126 hE (by rw [show i = m by omega])
    · have hvt : vN ((v2L c a b q i μ) 21 0 (16 * b + i)) 15 := (hBM b hb).2 i (by rw [e22, hm, tN_nI (by omega)]; exact c12)
      have h15 := hvt.2
      refine k_aload_n X 1 dX3_visitsSecond_15 rfl rfl ?_
      refine gt_X3_23 X dX3_visitsSecond_16 ?_
      refine k_bipush X 16 dX3_visitsSecond_19 (by decide) ?_
      refine k_iload X 5 dX3_visitsSecond_21 rfl ?_
      refine k_imul X dX3_visitsSecond_23 ?_
      refine k_val (y := nI (16 * b)) (pk_mul _ _) ?_
      refine k_iload X 0 dX3_visitsSecond_24 rfl ?_
      refine k_iadd X dX3_visitsSecond_26 ?_
      refine k_val (y := nI ((16 * b) + i)) (nI_add _ _) ?_
      refine k_iald (a := 21) (j := ((16 * b) + i)) X rfl (by decide) rfl (show ((16 * b) + i) < 96 by omega) (by decide) dX3_visitsSecond_27 ?_
      refine k_val (y := nI (tN ((v2L c a b q i μ) 21 0 (16 * b + i)))) hvt.1 ?_
      refine k_istore (L' := [(6, .int (nI (tN ((v2L c a b q i μ) 21 0 (16 * b + i))))), (5, .int (nI i)), (0, .ref (ad E 16 0)), (1, .int (nI c)), (2, .int q), (3, .int (nI a)), (4, .int (nI b))]) X dX3_visitsSecond_28 (by decide) rfl ?_
      refine k_iload X 0 dX3_visitsSecond_30 rfl ?_
      refine k_bipush X 10 dX3_visitsSecond_32 (by decide) ?_
      refine k_isub X dX3_visitsSecond_34 ?_
      refine k_istore (L' := [(7, .int ((nI (tN ((v2L c a b q i μ) 21 0 (16 * b + i)))) - 10)), (6, .int (nI (tN ((v2L c a b q i μ) 21 0 (16 * b + i))))), (5, .int (nI i)), (0, .ref (ad E 16 0)), (1, .int (nI c)), (2, .int q), (3, .int (nI a)), (4, .int (nI b))]) X dX3_visitsSecond_35 (by decide) rfl ?_
      refine k_aload_n X 3 dX3_visitsSecond_37 rfl rfl ?_
      refine k_iload X 7 dX3_visitsSecond_38 rfl ?_
      refine k_iload X 1 dX3_visitsSecond_40 rfl ?_
      refine k_callV (a := 16) (o := 0) (As := [.int (nI b), .int (nI (tN ((v2L c a b q i μ) 21 0 (16 * b + i))))]) (S := []) X lk_X3_70 rfl (by decide) rfl (C_X3_isThere _ _ hb (Nat.lt_succ_of_le h15)) rfl rfl (Nat.le_of_ble_eq_true rfl) ⟨Nat.le_of_ble_eq_true rfl, Nat.le_of_ble_eq_true rfl⟩ ⟨Nat.le_of_ble_eq_true rfl, Nat.le_of_ble_eq_true rfl⟩ dX3_visitsSecond_42 ?_
      show KF E C 0 0 (v2L c a b q i μ) 45 _ [.int (bp (mtB (v2L c a b q i μ) b (tN ((v2L c a b q i μ) 21 0 (16 * b + i))) = true))]
      refine k_if_eq_p (tgt := 80) X dX3_visitsSecond_45 (by decide) (fun c45 => ?_) (fun c45 => ?_)
      · refine k_aload_n X 3 dX3_visitsSecond_80 rfl rfl ?_
        refine k_iload X 7 dX3_visitsSecond_81 rfl ?_
        refine k_iload X 1 dX3_visitsSecond_83 rfl ?_
        refine k_callV (a := 16) (o := 0) (As := [.int (nI b), .int (nI (tN ((v2L c a b q i μ) 21 0 (16 * b + i))))]) (S := []) X lk_X3_70 rfl (by decide) rfl (C_X3_isThere _ _ hb (Nat.lt_succ_of_le h15)) rfl rfl (Nat.le_of_ble_eq_true rfl) ⟨Nat.le_of_ble_eq_true rfl, Nat.le_of_ble_eq_true rfl⟩ ⟨Nat.le_of_ble_eq_true rfl, Nat.le_of_ble_eq_true rfl⟩ dX3_visitsSecond_85 ?_
        show KF E C 0 0 (v2L c a b q i μ) 88 _ [.int (bp (mtB (v2L c a b q i μ) b (tN ((v2L c a b q i μ) 21 0 (16 * b + i))) = true))]
        refine k_if_eq_t (tgt := 120) X dX3_visitsSecond_88 (by decide) (bp_f c45) ?_
        refine k_iinc (v := nI (i + 1)) (L' := [(5, .int (nI (i + 1))), (7, .int ((nI (tN ((v2L c a b q i μ) 21 0 (16 * b + i)))) - 10)), (6, .int (nI (tN ((v2L c a b q i μ) 21 0 (16 * b + i))))), (0, .ref (ad E 16 0)), (1, .int (nI c)), (2, .int q), (3, .int (nI a)), (4, .int (nI b))]) X 2 dX3_visitsSecond_120 rfl (nI_1 i) (by decide) rfl ?_
        refine k_goto (tgt := 3) X dX3_visitsSecond_123 (by decide) ?_
        have e1 : v2L c a b q (i + 1) μ = v2L c a b q i μ := by show v2S _ _ _ _ _ _ = _; unfold v2S; rw [if_neg c45]
        refine k_mem (μ' := v2L c a b q (i + 1) μ) e1.symm ?_
        refine k_pick (L' := [(5, .int (nI (i + 1))), (0, .ref (ad E 16 0)), (1, .int (nI c)), (2, .int q), (3, .int (nI a)), (4, .int (nI b))]) [0, 3, 4, 5, 6, 7] rfl ?_
        exact ih (i + 1) (by omega) (by omega)
      · refine k_iload X 0 dX3_visitsSecond_48 rfl ?_
        refine k_if_lt (tgt := 80) X dX3_visitsSecond_50 (by decide) (fun c50 => ?_) (fun c50 => ?_)
        · refine k_aload_n X 3 dX3_visitsSecond_80 rfl rfl ?_
          refine k_iload X 7 dX3_visitsSecond_81 rfl ?_
          refine k_iload X 1 dX3_visitsSecond_83 rfl ?_
          refine k_callV (a := 16) (o := 0) (As := [.int (nI b), .int (nI (tN ((v2L c a b q i μ) 21 0 (16 * b + i))))]) (S := []) X lk_X3_70 rfl (by decide) rfl (C_X3_isThere _ _ hb (Nat.lt_succ_of_le h15)) rfl rfl (Nat.le_of_ble_eq_true rfl) ⟨Nat.le_of_ble_eq_true rfl, Nat.le_of_ble_eq_true rfl⟩ ⟨Nat.le_of_ble_eq_true rfl, Nat.le_of_ble_eq_true rfl⟩ dX3_visitsSecond_85 ?_
          show KF E C 0 0 (v2L c a b q i μ) 88 _ [.int (bp (mtB (v2L c a b q i μ) b (tN ((v2L c a b q i μ) 21 0 (16 * b + i))) = true))]
          refine k_if_eq_f (tgt := 120) X dX3_visitsSecond_88 (by decide) (by rw [bp_t c45]; decide) ?_
          refine k_aload_n X 3 dX3_visitsSecond_91 rfl rfl ?_
          refine k_iload_n X 4 dX3_visitsSecond_92 rfl rfl ?_
          refine k_iload X 0 dX3_visitsSecond_93 rfl ?_
          refine k_if_ge_f (tgt := 103) X dX3_visitsSecond_95 (by decide) (Int32.not_le.mpr c50) ?_
          refine k_iload X 1 dX3_visitsSecond_98 rfl ?_
          refine k_goto (tgt := 104) X dX3_visitsSecond_100 (by decide) ?_
          refine k_iload_n X 5 dX3_visitsSecond_104 rfl rfl ?_
          refine k_iload X 0 dX3_visitsSecond_105 rfl ?_
          refine k_if_ge_f (tgt := 114) X dX3_visitsSecond_107 (by decide) (Int32.not_le.mpr c50) ?_
          refine k_iconst X 0 dX3_visitsSecond_110 (by decide) ?_
          refine k_goto (tgt := 117) X dX3_visitsSecond_111 (by decide) ?_
          refine k_callV (a := 16) (o := 0) (As := [.int (nI c), .int (nI (tN ((v2L c a b q i μ) 21 0 (16 * b + i)))), .int q, .int 0]) (S := []) X lk_X3_88 rfl (by decide) rfl (C_X3_adds c _ _ _ hc hvM) rfl rfl (Nat.le_of_ble_eq_true rfl) ⟨Nat.le_of_ble_eq_true rfl, Nat.le_of_ble_eq_true rfl⟩ ⟨Nat.le_of_ble_eq_true rfl, Nat.le_of_ble_eq_true rfl⟩ dX3_visitsSecond_117 ?_
          show KF E C 0 0 (maM (v2L c a b q i μ) c (nI (tN ((v2L c a b q i μ) 21 0 (16 * b + i)))) q 0) 120 _ []
          refine k_iinc (v := nI (i + 1)) (L' := [(5, .int (nI (i + 1))), (7, .int ((nI (tN ((v2L c a b q i μ) 21 0 (16 * b + i)))) - 10)), (6, .int (nI (tN ((v2L c a b q i μ) 21 0 (16 * b + i))))), (0, .ref (ad E 16 0)), (1, .int (nI c)), (2, .int q), (3, .int (nI a)), (4, .int (nI b))]) X 2 dX3_visitsSecond_120 rfl (nI_1 i) (by decide) rfl ?_
          refine k_goto (tgt := 3) X dX3_visitsSecond_123 (by decide) ?_
          have e1 : v2L c a b q (i + 1) μ = maM (v2L c a b q i μ) c (nI (tN ((v2L c a b q i μ) 21 0 (16 * b + i)))) q 0 := by show v2S _ _ _ _ _ _ = _; unfold v2S mD; rw [if_pos c45, if_pos (Or.inl c50), if_pos c50, if_pos c50]
          refine k_mem (μ' := v2L c a b q (i + 1) μ) e1.symm ?_
          refine k_pick (L' := [(5, .int (nI (i + 1))), (0, .ref (ad E 16 0)), (1, .int (nI c)), (2, .int q), (3, .int (nI a)), (4, .int (nI b))]) [0, 3, 4, 5, 6, 7] rfl ?_
          exact ih (i + 1) (by omega) (by omega)
        · refine k_iload X 0 dX3_visitsSecond_53 rfl ?_
          refine k_iload_n X 6 dX3_visitsSecond_55 rfl rfl ?_
          refine k_icmp_eq (tgt := 80) X dX3_visitsSecond_56 (by decide) (fun c56 => ?_) (fun c56 => ?_)
          · refine k_aload_n X 3 dX3_visitsSecond_80 rfl rfl ?_
            refine k_iload X 7 dX3_visitsSecond_81 rfl ?_
            refine k_iload X 1 dX3_visitsSecond_83 rfl ?_
            refine k_callV (a := 16) (o := 0) (As := [.int (nI b), .int (nI (tN ((v2L c a b q i μ) 21 0 (16 * b + i))))]) (S := []) X lk_X3_70 rfl (by decide) rfl (C_X3_isThere _ _ hb (Nat.lt_succ_of_le h15)) rfl rfl (Nat.le_of_ble_eq_true rfl) ⟨Nat.le_of_ble_eq_true rfl, Nat.le_of_ble_eq_true rfl⟩ ⟨Nat.le_of_ble_eq_true rfl, Nat.le_of_ble_eq_true rfl⟩ dX3_visitsSecond_85 ?_
            show KF E C 0 0 (v2L c a b q i μ) 88 _ [.int (bp (mtB (v2L c a b q i μ) b (tN ((v2L c a b q i μ) 21 0 (16 * b + i))) = true))]
            refine k_if_eq_f (tgt := 120) X dX3_visitsSecond_88 (by decide) (by rw [bp_t c45]; decide) ?_
            refine k_aload_n X 3 dX3_visitsSecond_91 rfl rfl ?_
            refine k_iload_n X 4 dX3_visitsSecond_92 rfl rfl ?_
            refine k_iload X 0 dX3_visitsSecond_93 rfl ?_
            refine k_if_ge_t (tgt := 103) X dX3_visitsSecond_95 (by decide) (Int32.not_lt.mp c50) ?_
            refine k_iconst X (-1) dX3_visitsSecond_103 (by decide) ?_
            refine k_iload_n X 5 dX3_visitsSecond_104 rfl rfl ?_
            refine k_iload X 0 dX3_visitsSecond_105 rfl ?_
            refine k_if_ge_t (tgt := 114) X dX3_visitsSecond_107 (by decide) (Int32.not_lt.mp c50) ?_
            refine k_sipush X 482 dX3_visitsSecond_114 (by decide) ?_
            refine k_callV (a := 16) (o := 0) (As := [.int (nI c), .int (-1), .int q, .int 482]) (S := []) X lk_X3_88 rfl (by decide) rfl (C_X3_adds c _ _ _ hc hvM) rfl rfl (Nat.le_of_ble_eq_true rfl) ⟨Nat.le_of_ble_eq_true rfl, Nat.le_of_ble_eq_true rfl⟩ ⟨Nat.le_of_ble_eq_true rfl, Nat.le_of_ble_eq_true rfl⟩ dX3_visitsSecond_117 ?_
            show KF E C 0 0 (maM (v2L c a b q i μ) c (-1) q 482) 120 _ []
            refine k_iinc (v := nI (i + 1)) (L' := [(5, .int (nI (i + 1))), (7, .int ((nI (tN ((v2L c a b q i μ) 21 0 (16 * b + i)))) - 10)), (6, .int (nI (tN ((v2L c a b q i μ) 21 0 (16 * b + i))))), (0, .ref (ad E 16 0)), (1, .int (nI c)), (2, .int q), (3, .int (nI a)), (4, .int (nI b))]) X 2 dX3_visitsSecond_120 rfl (nI_1 i) (by decide) rfl ?_
            refine k_goto (tgt := 3) X dX3_visitsSecond_123 (by decide) ?_
            have e1 : v2L c a b q (i + 1) μ = maM (v2L c a b q i μ) c (-1) q 482 := by show v2S _ _ _ _ _ _ = _; unfold v2S mD; rw [if_pos c45, if_pos (Or.inr (Or.inl c56)), if_neg c50, if_neg c50]
            refine k_mem (μ' := v2L c a b q (i + 1) μ) e1.symm ?_
            refine k_pick (L' := [(5, .int (nI (i + 1))), (0, .ref (ad E 16 0)), (1, .int (nI c)), (2, .int q), (3, .int (nI a)), (4, .int (nI b))]) [0, 3, 4, 5, 6, 7] rfl ?_
            exact ih (i + 1) (by omega) (by omega)
          · refine k_iload X 0 dX3_visitsSecond_59 rfl ?_
            refine k_iload X 7 dX3_visitsSecond_61 rfl ?_
            refine k_icmp_eq (tgt := 80) X dX3_visitsSecond_63 (by decide) (fun c63 => ?_) (fun c63 => ?_)
            · refine k_aload_n X 3 dX3_visitsSecond_80 rfl rfl ?_
              refine k_iload X 7 dX3_visitsSecond_81 rfl ?_
              refine k_iload X 1 dX3_visitsSecond_83 rfl ?_
              refine k_callV (a := 16) (o := 0) (As := [.int (nI b), .int (nI (tN ((v2L c a b q i μ) 21 0 (16 * b + i))))]) (S := []) X lk_X3_70 rfl (by decide) rfl (C_X3_isThere _ _ hb (Nat.lt_succ_of_le h15)) rfl rfl (Nat.le_of_ble_eq_true rfl) ⟨Nat.le_of_ble_eq_true rfl, Nat.le_of_ble_eq_true rfl⟩ ⟨Nat.le_of_ble_eq_true rfl, Nat.le_of_ble_eq_true rfl⟩ dX3_visitsSecond_85 ?_
              show KF E C 0 0 (v2L c a b q i μ) 88 _ [.int (bp (mtB (v2L c a b q i μ) b (tN ((v2L c a b q i μ) 21 0 (16 * b + i))) = true))]
              refine k_if_eq_f (tgt := 120) X dX3_visitsSecond_88 (by decide) (by rw [bp_t c45]; decide) ?_
              refine k_aload_n X 3 dX3_visitsSecond_91 rfl rfl ?_
              refine k_iload_n X 4 dX3_visitsSecond_92 rfl rfl ?_
              refine k_iload X 0 dX3_visitsSecond_93 rfl ?_
              refine k_if_ge_t (tgt := 103) X dX3_visitsSecond_95 (by decide) (Int32.not_lt.mp c50) ?_
              refine k_iconst X (-1) dX3_visitsSecond_103 (by decide) ?_
              refine k_iload_n X 5 dX3_visitsSecond_104 rfl rfl ?_
              refine k_iload X 0 dX3_visitsSecond_105 rfl ?_
              refine k_if_ge_t (tgt := 114) X dX3_visitsSecond_107 (by decide) (Int32.not_lt.mp c50) ?_
              refine k_sipush X 482 dX3_visitsSecond_114 (by decide) ?_
              refine k_callV (a := 16) (o := 0) (As := [.int (nI c), .int (-1), .int q, .int 482]) (S := []) X lk_X3_88 rfl (by decide) rfl (C_X3_adds c _ _ _ hc hvM) rfl rfl (Nat.le_of_ble_eq_true rfl) ⟨Nat.le_of_ble_eq_true rfl, Nat.le_of_ble_eq_true rfl⟩ ⟨Nat.le_of_ble_eq_true rfl, Nat.le_of_ble_eq_true rfl⟩ dX3_visitsSecond_117 ?_
              show KF E C 0 0 (maM (v2L c a b q i μ) c (-1) q 482) 120 _ []
              refine k_iinc (v := nI (i + 1)) (L' := [(5, .int (nI (i + 1))), (7, .int ((nI (tN ((v2L c a b q i μ) 21 0 (16 * b + i)))) - 10)), (6, .int (nI (tN ((v2L c a b q i μ) 21 0 (16 * b + i))))), (0, .ref (ad E 16 0)), (1, .int (nI c)), (2, .int q), (3, .int (nI a)), (4, .int (nI b))]) X 2 dX3_visitsSecond_120 rfl (nI_1 i) (by decide) rfl ?_
              refine k_goto (tgt := 3) X dX3_visitsSecond_123 (by decide) ?_
              have e1 : v2L c a b q (i + 1) μ = maM (v2L c a b q i μ) c (-1) q 482 := by show v2S _ _ _ _ _ _ = _; unfold v2S mD; rw [if_pos c45, if_pos (Or.inr (Or.inr c63)), if_neg c50, if_neg c50]
              refine k_mem (μ' := v2L c a b q (i + 1) μ) e1.symm ?_
              refine k_pick (L' := [(5, .int (nI (i + 1))), (0, .ref (ad E 16 0)), (1, .int (nI c)), (2, .int q), (3, .int (nI a)), (4, .int (nI b))]) [0, 3, 4, 5, 6, 7] rfl ?_
              exact ih (i + 1) (by omega) (by omega)
            · refine k_aload_n X 3 dX3_visitsSecond_66 rfl rfl ?_
              refine k_iload_n X 4 dX3_visitsSecond_67 rfl rfl ?_
              refine k_iload_n X 5 dX3_visitsSecond_68 rfl rfl ?_
              refine k_iload_n X 6 dX3_visitsSecond_69 rfl rfl ?_
              refine k_iload X 7 dX3_visitsSecond_70 rfl ?_
              refine k_iload X 0 dX3_visitsSecond_72 rfl ?_
              refine k_callV (a := 16) (o := 0) (As := [.int (nI c), .int q, .int (nI a), .int (nI b), .int ((nI (tN ((v2L c a b q i μ) 21 0 (16 * b + i)))) - 10)]) (S := []) X lk_X3_92 rfl (by decide) rfl (C_v3 c a b (tN ((v2L c a b q i μ) 21 0 (16 * b + i)) - 10) _ _ hc ha hb (by omega) hBM hvM (us_ge (by omega) c50)) rfl rfl (Nat.le_of_ble_eq_true rfl) ⟨Nat.le_of_ble_eq_true rfl, Nat.le_of_ble_eq_true rfl⟩ ⟨Nat.le_of_ble_eq_true rfl, Nat.le_of_ble_eq_true rfl⟩ dX3_visitsSecond_74 ?_
              show KF E C 0 0 (v3M c a b (tN ((v2L c a b q i μ) 21 0 (16 * b + i)) - 10) q (v2L c a b q i μ)) 77 _ []
              refine k_goto (tgt := 120) X dX3_visitsSecond_77 (by decide) ?_
              refine k_iinc (v := nI (i + 1)) (L' := [(5, .int (nI (i + 1))), (7, .int ((nI (tN ((v2L c a b q i μ) 21 0 (16 * b + i)))) - 10)), (6, .int (nI (tN ((v2L c a b q i μ) 21 0 (16 * b + i))))), (0, .ref (ad E 16 0)), (1, .int (nI c)), (2, .int q), (3, .int (nI a)), (4, .int (nI b))]) X 2 dX3_visitsSecond_120 rfl (nI_1 i) (by decide) rfl ?_
              refine k_goto (tgt := 3) X dX3_visitsSecond_123 (by decide) ?_
              have e1 : v2L c a b q (i + 1) μ = v3M c a b (tN ((v2L c a b q i μ) 21 0 (16 * b + i)) - 10) q (v2L c a b q i μ) := by show v2S _ _ _ _ _ _ = _; unfold v2S mD; rw [if_pos c45, if_neg (fun h => h.elim c50 (fun h => h.elim c56 c63))]
              refine k_mem (μ' := v2L c a b q (i + 1) μ) e1.symm ?_
              refine k_pick (L' := [(5, .int (nI (i + 1))), (0, .ref (ad E 16 0)), (1, .int (nI c)), (2, .int q), (3, .int (nI a)), (4, .int (nI b))]) [0, 3, 4, 5, 6, 7] rfl ?_
              exact ih (i + 1) (by omega) (by omega)

set_option maxHeartbeats 4000000 in
set_option maxRecDepth 100000 in
theorem C_v2 {E : EE} {μ : Mem} (c a b : Nat) (q x : Int32) (hc : c < 20) (ha : a < 6) (hb : b < 6) (hB : MB μ) (hv : vN (μ 25 0 c) 12) (hx : x = nI b) : MM E yX3_visitsSecond cX3_visitsSecond 8 none (rm 4 0) [.ref (ad E 16 0), .int (nI c), .int q, .int (nI a), .int x] μ none (v2M c a b q μ) := by
  refine MM.void (own := RX3) [(0, .ref (ad E 16 0)), (1, .int (nI c)), (2, .int q), (3, .int (nI a)), (4, .int x)] rfl rfl rfl (Nat.le_of_ble_eq_true rfl) (fun C X hE => ?_)
  subst hx
  refine k_iconst X (nI 0) dX3_visitsSecond_0 (by decide) ?_
  refine k_istore (L' := [(5, .int (nI 0)), (0, .ref (ad E 16 0)), (1, .int (nI c)), (2, .int q), (3, .int (nI a)), (4, .int (nI b))]) X dX3_visitsSecond_1 (by decide) rfl ?_
  refine k_mem (μ' := v2L c a b q 0 μ) rfl ?_
  exact L_v2 c a b (tN (μ 22 0 b)) q hc ha hb (hB b hb).1.1 (hB b hb).1.2 hB hv X hE (tN (μ 22 0 b) + 1) 0 (by omega) (Nat.zero_le _)

set_option maxHeartbeats 4000000 in
set_option maxRecDepth 100000 in
theorem L_v1 {E : EE} {μ : Mem} {C : Ctx} (c a m : Nat) (hc : c < 20) (ha : a < 6) (hm : μ 22 0 a = nI m) (hm16 : m ≤ 16) (hB : MB μ) (hv : vN (μ 25 0 c) 12) (X : Cx E C cX3_visitsFirst RX3 7 (rm 5 0)) (hE : EndV E C cX3_visitsFirst 0 0 (v1L c a m μ)) : ∀ (f : Nat) (i : Nat), m - i < f → i ≤ m → KF E C 0 0 (v1L c a i μ) 2 [(3, .int (nI i)), (0, .ref (ad E 16 0)), (1, .int (nI c)), (2, .int (nI a))] [] := by
  intro f
  induction f with
  | zero => intros; omega
  | succ f ih =>
    intro i hf hi
    have hM := v1L_MC (c := c) (a := a) (μ := μ) i
    have hBM := hB.mr hM.1
    have hvM := hM.2.1 hv
    have e22 := hM.1 22 0 a (by decide) (by decide) (by decide) (by decide) (by decide)
    refine k_iload_n X 0 dX3_visitsFirst_2 rfl rfl ?_
    refine k_aload_n X 1 dX3_visitsFirst_3 rfl rfl ?_
    refine gt_X3_26 X dX3_visitsFirst_4 ?_
    refine k_iload_n X 3 dX3_visitsFirst_7 rfl rfl ?_
    refine k_iald (a := 22) (j := a) X rfl (by decide) rfl (show a < 6 from ha) (by decide) dX3_visitsFirst_8 ?_
    refine k_val (y := nI m) (e22.trans hm) ?_
    refine k_ge_n (a := i) (b := m) (tgt := 126) X dX3_visitsFirst_9 (by decide) rfl rfl (by omega) (by omega) (fun c9 => ?_) (fun c9 => ?_)
    · exact k_vret dX3_visitsFirst_126 hE (by rw [show i = m by omega])
    · have hvt : vN ((v1L c a i μ) 21 0 (16 * a + i)) 15 := (hBM a ha).2 i (by rw [e22, hm, tN_nI (by omega)]; exact c9)
      have h15 := hvt.2
      refine k_aload_n X 1 dX3_visitsFirst_12 rfl rfl ?_
      refine gt_X3_23 X dX3_visitsFirst_13 ?_
      refine k_bipush X 16 dX3_visitsFirst_16 (by decide) ?_
      refine k_iload_n X 3 dX3_visitsFirst_18 rfl rfl ?_
      refine k_imul X dX3_visitsFirst_19 ?_
      refine k_val (y := nI (16 * a)) (pk_mul _ _) ?_
      refine k_iload_n X 0 dX3_visitsFirst_20 rfl rfl ?_
      refine k_iadd X dX3_visitsFirst_21 ?_
      refine k_val (y := nI ((16 * a) + i)) (nI_add _ _) ?_
      refine k_iald (a := 21) (j := ((16 * a) + i)) X rfl (by decide) rfl (show ((16 * a) + i) < 96 by omega) (by decide) dX3_visitsFirst_22 ?_
      refine k_val (y := nI (tN ((v1L c a i μ) 21 0 (16 * a + i)))) hvt.1 ?_
      refine k_istore (L' := [(4, .int (nI (tN ((v1L c a i μ) 21 0 (16 * a + i))))), (3, .int (nI i)), (0, .ref (ad E 16 0)), (1, .int (nI c)), (2, .int (nI a))]) X dX3_visitsFirst_23 (by decide) rfl ?_
      refine k_aload_n X 2 dX3_visitsFirst_25 rfl rfl ?_
      refine gt_X3_17 X dX3_visitsFirst_26 ?_
      refine k_bipush X 16 dX3_visitsFirst_29 (by decide) ?_
      refine k_iload_n X 4 dX3_visitsFirst_31 rfl rfl ?_
      refine k_imul X dX3_visitsFirst_32 ?_
      refine k_val (y := nI (16 * a)) (pk_mul _ _) ?_
      refine k_iload X 0 dX3_visitsFirst_33 rfl ?_
      refine k_iadd X dX3_visitsFirst_35 ?_
      refine k_val (y := nI ((16 * a) + (tN ((v1L c a i μ) 21 0 (16 * a + i))))) (nI_add _ _) ?_
      refine k_iald (a := 19) (j := ((16 * a) + (tN ((v1L c a i μ) 21 0 (16 * a + i))))) X rfl (by decide) rfl (show ((16 * a) + (tN ((v1L c a i μ) 21 0 (16 * a + i)))) < 96 by omega) (by decide) dX3_visitsFirst_36 ?_
      refine k_istore (L' := [(5, .int ((v1L c a i μ) 19 0 ((16 * a) + (tN ((v1L c a i μ) 21 0 (16 * a + i)))))), (4, .int (nI (tN ((v1L c a i μ) 21 0 (16 * a + i))))), (3, .int (nI i)), (0, .ref (ad E 16 0)), (1, .int (nI c)), (2, .int (nI a))]) X dX3_visitsFirst_37 (by decide) rfl ?_
      refine k_iload X 1 dX3_visitsFirst_39 rfl ?_
      refine k_bipush X 10 dX3_visitsFirst_41 (by decide) ?_
      refine k_isub X dX3_visitsFirst_43 ?_
      refine k_istore (L' := [(6, .int ((nI (tN ((v1L c a i μ) 21 0 (16 * a + i)))) - 10)), (5, .int ((v1L c a i μ) 19 0 ((16 * a) + (tN ((v1L c a i μ) 21 0 (16 * a + i)))))), (4, .int (nI (tN ((v1L c a i μ) 21 0 (16 * a + i))))), (3, .int (nI i)), (0, .ref (ad E 16 0)), (1, .int (nI c)), (2, .int (nI a))]) X dX3_visitsFirst_44 (by decide) rfl ?_
      refine k_aload_n X 4 dX3_visitsFirst_46 rfl rfl ?_
      refine k_iload_n X 6 dX3_visitsFirst_47 rfl rfl ?_
      refine k_iload X 2 dX3_visitsFirst_48 rfl ?_
      refine k_callV (a := 16) (o := 0) (As := [.int (nI a), .int (nI (tN ((v1L c a i μ) 21 0 (16 * a + i))))]) (S := []) X lk_X3_70 rfl (by decide) rfl (C_X3_isThere _ _ ha (Nat.lt_succ_of_le h15)) rfl rfl (Nat.le_of_ble_eq_true rfl) ⟨Nat.le_of_ble_eq_true rfl, Nat.le_of_ble_eq_true rfl⟩ ⟨Nat.le_of_ble_eq_true rfl, Nat.le_of_ble_eq_true rfl⟩ dX3_visitsFirst_50 ?_
      show KF E C 0 0 (v1L c a i μ) 53 _ [.int (bp (mtB (v1L c a i μ) a (tN ((v1L c a i μ) 21 0 (16 * a + i))) = true))]
      refine k_if_eq_p (tgt := 80) X dX3_visitsFirst_53 (by decide) (fun c53 => ?_) (fun c53 => ?_)
      · refine k_aload_n X 4 dX3_visitsFirst_80 rfl rfl ?_
        refine k_iload_n X 6 dX3_visitsFirst_81 rfl rfl ?_
        refine k_iload X 2 dX3_visitsFirst_82 rfl ?_
        refine k_callV (a := 16) (o := 0) (As := [.int (nI a), .int (nI (tN ((v1L c a i μ) 21 0 (16 * a + i))))]) (S := []) X lk_X3_70 rfl (by decide) rfl (C_X3_isThere _ _ ha (Nat.lt_succ_of_le h15)) rfl rfl (Nat.le_of_ble_eq_true rfl) ⟨Nat.le_of_ble_eq_true rfl, Nat.le_of_ble_eq_true rfl⟩ ⟨Nat.le_of_ble_eq_true rfl, Nat.le_of_ble_eq_true rfl⟩ dX3_visitsFirst_84 ?_
        show KF E C 0 0 (v1L c a i μ) 87 _ [.int (bp (mtB (v1L c a i μ) a (tN ((v1L c a i μ) 21 0 (16 * a + i))) = true))]
        refine k_if_eq_t (tgt := 120) X dX3_visitsFirst_87 (by decide) (bp_f c53) ?_
        refine k_iinc (v := nI (i + 1)) (L' := [(3, .int (nI (i + 1))), (6, .int ((nI (tN ((v1L c a i μ) 21 0 (16 * a + i)))) - 10)), (5, .int ((v1L c a i μ) 19 0 ((16 * a) + (tN ((v1L c a i μ) 21 0 (16 * a + i)))))), (4, .int (nI (tN ((v1L c a i μ) 21 0 (16 * a + i))))), (0, .ref (ad E 16 0)), (1, .int (nI c)), (2, .int (nI a))]) X 3 dX3_visitsFirst_120 rfl (nI_1 i) (by decide) rfl ?_
        refine k_goto (tgt := 2) X dX3_visitsFirst_123 (by decide) ?_
        have e1 : v1L c a (i + 1) μ = v1L c a i μ := by show v1S _ _ _ _ = _; unfold v1S; rw [if_neg c53]
        refine k_mem (μ' := v1L c a (i + 1) μ) e1.symm ?_
        refine k_pick (L' := [(3, .int (nI (i + 1))), (0, .ref (ad E 16 0)), (1, .int (nI c)), (2, .int (nI a))]) [0, 4, 5, 6] rfl ?_
        exact ih (i + 1) (by omega) (by omega)
      · refine k_iload X 0 dX3_visitsFirst_56 rfl ?_
        refine k_if_lt (tgt := 80) X dX3_visitsFirst_58 (by decide) (fun c58 => ?_) (fun c58 => ?_)
        · refine k_aload_n X 4 dX3_visitsFirst_80 rfl rfl ?_
          refine k_iload_n X 6 dX3_visitsFirst_81 rfl rfl ?_
          refine k_iload X 2 dX3_visitsFirst_82 rfl ?_
          refine k_callV (a := 16) (o := 0) (As := [.int (nI a), .int (nI (tN ((v1L c a i μ) 21 0 (16 * a + i))))]) (S := []) X lk_X3_70 rfl (by decide) rfl (C_X3_isThere _ _ ha (Nat.lt_succ_of_le h15)) rfl rfl (Nat.le_of_ble_eq_true rfl) ⟨Nat.le_of_ble_eq_true rfl, Nat.le_of_ble_eq_true rfl⟩ ⟨Nat.le_of_ble_eq_true rfl, Nat.le_of_ble_eq_true rfl⟩ dX3_visitsFirst_84 ?_
          show KF E C 0 0 (v1L c a i μ) 87 _ [.int (bp (mtB (v1L c a i μ) a (tN ((v1L c a i μ) 21 0 (16 * a + i))) = true))]
          refine k_if_eq_f (tgt := 120) X dX3_visitsFirst_87 (by decide) (by rw [bp_t c53]; decide) ?_
          refine k_aload_n X 4 dX3_visitsFirst_90 rfl rfl ?_
          refine k_iload_n X 5 dX3_visitsFirst_91 rfl rfl ?_
          refine k_iload X 0 dX3_visitsFirst_92 rfl ?_
          refine k_if_ge_f (tgt := 102) X dX3_visitsFirst_94 (by decide) (Int32.not_le.mpr c58) ?_
          refine k_iload X 2 dX3_visitsFirst_97 rfl ?_
          refine k_goto (tgt := 103) X dX3_visitsFirst_99 (by decide) ?_
          refine k_iload X 1 dX3_visitsFirst_103 rfl ?_
          refine k_iload X 0 dX3_visitsFirst_105 rfl ?_
          refine k_if_ge_f (tgt := 114) X dX3_visitsFirst_107 (by decide) (Int32.not_le.mpr c58) ?_
          refine k_iconst X 0 dX3_visitsFirst_110 (by decide) ?_
          refine k_goto (tgt := 117) X dX3_visitsFirst_111 (by decide) ?_
          refine k_callV (a := 16) (o := 0) (As := [.int (nI c), .int (nI (tN ((v1L c a i μ) 21 0 (16 * a + i)))), .int ((v1L c a i μ) 19 0 ((16 * a) + (tN ((v1L c a i μ) 21 0 (16 * a + i))))), .int 0]) (S := []) X lk_X3_88 rfl (by decide) rfl (C_X3_adds c _ _ _ hc hvM) rfl rfl (Nat.le_of_ble_eq_true rfl) ⟨Nat.le_of_ble_eq_true rfl, Nat.le_of_ble_eq_true rfl⟩ ⟨Nat.le_of_ble_eq_true rfl, Nat.le_of_ble_eq_true rfl⟩ dX3_visitsFirst_117 ?_
          show KF E C 0 0 (maM (v1L c a i μ) c (nI (tN ((v1L c a i μ) 21 0 (16 * a + i)))) ((v1L c a i μ) 19 0 ((16 * a) + (tN ((v1L c a i μ) 21 0 (16 * a + i))))) 0) 120 _ []
          refine k_iinc (v := nI (i + 1)) (L' := [(3, .int (nI (i + 1))), (6, .int ((nI (tN ((v1L c a i μ) 21 0 (16 * a + i)))) - 10)), (5, .int ((v1L c a i μ) 19 0 ((16 * a) + (tN ((v1L c a i μ) 21 0 (16 * a + i)))))), (4, .int (nI (tN ((v1L c a i μ) 21 0 (16 * a + i))))), (0, .ref (ad E 16 0)), (1, .int (nI c)), (2, .int (nI a))]) X 3 dX3_visitsFirst_120 rfl (nI_1 i) (by decide) rfl ?_
          refine k_goto (tgt := 2) X dX3_visitsFirst_123 (by decide) ?_
          have e1 : v1L c a (i + 1) μ = maM (v1L c a i μ) c (nI (tN ((v1L c a i μ) 21 0 (16 * a + i)))) ((v1L c a i μ) 19 0 ((16 * a) + (tN ((v1L c a i μ) 21 0 (16 * a + i))))) 0 := by show v1S _ _ _ _ = _; unfold v1S mD; rw [if_pos c53, if_pos (Or.inl c58), if_pos c58, if_pos c58]
          refine k_mem (μ' := v1L c a (i + 1) μ) e1.symm ?_
          refine k_pick (L' := [(3, .int (nI (i + 1))), (0, .ref (ad E 16 0)), (1, .int (nI c)), (2, .int (nI a))]) [0, 4, 5, 6] rfl ?_
          exact ih (i + 1) (by omega) (by omega)
        · refine k_iload X 0 dX3_visitsFirst_61 rfl ?_
          refine k_iload_n X 6 dX3_visitsFirst_63 rfl rfl ?_
          refine k_icmp_eq (tgt := 80) X dX3_visitsFirst_64 (by decide) (fun c64 => ?_) (fun c64 => ?_)
          · refine k_aload_n X 4 dX3_visitsFirst_80 rfl rfl ?_
            refine k_iload_n X 6 dX3_visitsFirst_81 rfl rfl ?_
            refine k_iload X 2 dX3_visitsFirst_82 rfl ?_
            refine k_callV (a := 16) (o := 0) (As := [.int (nI a), .int (nI (tN ((v1L c a i μ) 21 0 (16 * a + i))))]) (S := []) X lk_X3_70 rfl (by decide) rfl (C_X3_isThere _ _ ha (Nat.lt_succ_of_le h15)) rfl rfl (Nat.le_of_ble_eq_true rfl) ⟨Nat.le_of_ble_eq_true rfl, Nat.le_of_ble_eq_true rfl⟩ ⟨Nat.le_of_ble_eq_true rfl, Nat.le_of_ble_eq_true rfl⟩ dX3_visitsFirst_84 ?_
            show KF E C 0 0 (v1L c a i μ) 87 _ [.int (bp (mtB (v1L c a i μ) a (tN ((v1L c a i μ) 21 0 (16 * a + i))) = true))]
            refine k_if_eq_f (tgt := 120) X dX3_visitsFirst_87 (by decide) (by rw [bp_t c53]; decide) ?_
            refine k_aload_n X 4 dX3_visitsFirst_90 rfl rfl ?_
            refine k_iload_n X 5 dX3_visitsFirst_91 rfl rfl ?_
            refine k_iload X 0 dX3_visitsFirst_92 rfl ?_
            refine k_if_ge_t (tgt := 102) X dX3_visitsFirst_94 (by decide) (Int32.not_lt.mp c58) ?_
            refine k_iconst X (-1) dX3_visitsFirst_102 (by decide) ?_
            refine k_iload X 1 dX3_visitsFirst_103 rfl ?_
            refine k_iload X 0 dX3_visitsFirst_105 rfl ?_
            refine k_if_ge_t (tgt := 114) X dX3_visitsFirst_107 (by decide) (Int32.not_lt.mp c58) ?_
            refine k_sipush X 482 dX3_visitsFirst_114 (by decide) ?_
            refine k_callV (a := 16) (o := 0) (As := [.int (nI c), .int (-1), .int ((v1L c a i μ) 19 0 ((16 * a) + (tN ((v1L c a i μ) 21 0 (16 * a + i))))), .int 482]) (S := []) X lk_X3_88 rfl (by decide) rfl (C_X3_adds c _ _ _ hc hvM) rfl rfl (Nat.le_of_ble_eq_true rfl) ⟨Nat.le_of_ble_eq_true rfl, Nat.le_of_ble_eq_true rfl⟩ ⟨Nat.le_of_ble_eq_true rfl, Nat.le_of_ble_eq_true rfl⟩ dX3_visitsFirst_117 ?_
            show KF E C 0 0 (maM (v1L c a i μ) c (-1) ((v1L c a i μ) 19 0 ((16 * a) + (tN ((v1L c a i μ) 21 0 (16 * a + i))))) 482) 120 _ []
            refine k_iinc (v := nI (i + 1)) (L' := [(3, .int (nI (i + 1))), (6, .int ((nI (tN ((v1L c a i μ) 21 0 (16 * a + i)))) - 10)), (5, .int ((v1L c a i μ) 19 0 ((16 * a) + (tN ((v1L c a i μ) 21 0 (16 * a + i)))))), (4, .int (nI (tN ((v1L c a i μ) 21 0 (16 * a + i))))), (0, .ref (ad E 16 0)), (1, .int (nI c)), (2, .int (nI a))]) X 3 dX3_visitsFirst_120 rfl (nI_1 i) (by decide) rfl ?_
            refine k_goto (tgt := 2) X dX3_visitsFirst_123 (by decide) ?_
            have e1 : v1L c a (i + 1) μ = maM (v1L c a i μ) c (-1) ((v1L c a i μ) 19 0 ((16 * a) + (tN ((v1L c a i μ) 21 0 (16 * a + i))))) 482 := by show v1S _ _ _ _ = _; unfold v1S mD; rw [if_pos c53, if_pos (Or.inr c64), if_neg c58, if_neg c58]
            refine k_mem (μ' := v1L c a (i + 1) μ) e1.symm ?_
            refine k_pick (L' := [(3, .int (nI (i + 1))), (0, .ref (ad E 16 0)), (1, .int (nI c)), (2, .int (nI a))]) [0, 4, 5, 6] rfl ?_
            exact ih (i + 1) (by omega) (by omega)
          · refine k_aload_n X 4 dX3_visitsFirst_67 rfl rfl ?_
            refine k_iload_n X 5 dX3_visitsFirst_68 rfl rfl ?_
            refine k_iload X 1 dX3_visitsFirst_69 rfl ?_
            refine k_iload_n X 6 dX3_visitsFirst_71 rfl rfl ?_
            refine k_iload X 0 dX3_visitsFirst_72 rfl ?_
            refine k_callV (a := 16) (o := 0) (As := [.int (nI c), .int ((v1L c a i μ) 19 0 ((16 * a) + (tN ((v1L c a i μ) 21 0 (16 * a + i))))), .int (nI a), .int ((nI (tN ((v1L c a i μ) 21 0 (16 * a + i)))) - 10)]) (S := []) X lk_X3_96 rfl (by decide) rfl (C_v2 c a (tN ((v1L c a i μ) 21 0 (16 * a + i)) - 10) _ _ hc ha (by omega) hBM hvM (us_ge (by omega) c58)) rfl rfl (Nat.le_of_ble_eq_true rfl) ⟨Nat.le_of_ble_eq_true rfl, Nat.le_of_ble_eq_true rfl⟩ ⟨Nat.le_of_ble_eq_true rfl, Nat.le_of_ble_eq_true rfl⟩ dX3_visitsFirst_74 ?_
            show KF E C 0 0 (v2M c a (tN ((v1L c a i μ) 21 0 (16 * a + i)) - 10) ((v1L c a i μ) 19 0 (16 * a + tN ((v1L c a i μ) 21 0 (16 * a + i)))) (v1L c a i μ)) 77 _ []
            refine k_goto (tgt := 120) X dX3_visitsFirst_77 (by decide) ?_
            refine k_iinc (v := nI (i + 1)) (L' := [(3, .int (nI (i + 1))), (6, .int ((nI (tN ((v1L c a i μ) 21 0 (16 * a + i)))) - 10)), (5, .int ((v1L c a i μ) 19 0 ((16 * a) + (tN ((v1L c a i μ) 21 0 (16 * a + i)))))), (4, .int (nI (tN ((v1L c a i μ) 21 0 (16 * a + i))))), (0, .ref (ad E 16 0)), (1, .int (nI c)), (2, .int (nI a))]) X 3 dX3_visitsFirst_120 rfl (nI_1 i) (by decide) rfl ?_
            refine k_goto (tgt := 2) X dX3_visitsFirst_123 (by decide) ?_
            have e1 : v1L c a (i + 1) μ = v2M c a (tN ((v1L c a i μ) 21 0 (16 * a + i)) - 10) ((v1L c a i μ) 19 0 (16 * a + tN ((v1L c a i μ) 21 0 (16 * a + i)))) (v1L c a i μ) := by show v1S _ _ _ _ = _; unfold v1S mD; rw [if_pos c53, if_neg (fun h => h.elim c58 c64)]
            refine k_mem (μ' := v1L c a (i + 1) μ) e1.symm ?_
            refine k_pick (L' := [(3, .int (nI (i + 1))), (0, .ref (ad E 16 0)), (1, .int (nI c)), (2, .int (nI a))]) [0, 4, 5, 6] rfl ?_
            exact ih (i + 1) (by omega) (by omega)

set_option maxHeartbeats 4000000 in
set_option maxRecDepth 100000 in
theorem C_v1 {E : EE} {μ : Mem} (c a : Nat) (x : Int32) (hc : c < 20) (ha : a < 6) (hB : MB μ) (hv : vN (μ 25 0 c) 12) (hx : x = nI a) : MM E yX3_visitsFirst cX3_visitsFirst 7 none (rm 5 0) [.ref (ad E 16 0), .int (nI c), .int x] μ none (v1M c a μ) := by
  refine MM.void (own := RX3) [(0, .ref (ad E 16 0)), (1, .int (nI c)), (2, .int x)] rfl rfl rfl (Nat.le_of_ble_eq_true rfl) (fun C X hE => ?_)
  subst hx
  refine k_iconst X (nI 0) dX3_visitsFirst_0 (by decide) ?_
  refine k_istore_n (L' := [(3, .int (nI 0)), (0, .ref (ad E 16 0)), (1, .int (nI c)), (2, .int (nI a))]) X dX3_visitsFirst_1 rfl (by decide) rfl ?_
  refine k_mem (μ' := v1L c a 0 μ) rfl ?_
  exact L_v1 c a (tN (μ 22 0 a)) hc ha (hB a ha).1.1 (hB a ha).1.2 hB hv X hE (tN (μ 22 0 a) + 1) 0 (by omega) (Nat.zero_le _)
