set_option maxHeartbeats 4000000 in
set_option maxRecDepth 100000 in
theorem C_X3_hasEnded {E : EE} {μ : Mem} (x : Int32) : MM E yX3_hasEnded cX3_hasEnded 1 (some .boolean) (rm 1 0) [.int x] μ (some (.int (bp (200 ≤ x)))) μ := by
  refine MM.int (own := RX3) [(0, .int x)] rfl rfl rfl (Nat.le_of_ble_eq_true rfl) bp_nar (fun C X hE => ?_)
  refine k_iload_n X 0 dX3_hasEnded_0 rfl rfl ?_
  refine k_sipush X 200 dX3_hasEnded_1 (by decide) ?_
  refine k_icmp_lt (tgt := 11) X dX3_hasEnded_4 (by decide) (fun c4 => ?_) (fun c4 => ?_)
  · refine k_iconst X 0 dX3_hasEnded_11 (by decide) ?_
    exact k_iret dX3_hasEnded_12 hE (bp_f (Int32.not_le.mpr c4)).symm rfl
  · refine k_iconst X 1 dX3_hasEnded_7 (by decide) ?_
    refine k_goto (tgt := 12) X dX3_hasEnded_8 (by decide) ?_
    exact k_iret dX3_hasEnded_12 hE (bp_t (Int32.not_lt.mp c4)).symm rfl

set_option maxHeartbeats 4000000 in
set_option maxRecDepth 100000 in
theorem L_X3_best {E : EE} {μ : Mem} {C : Ctx} (c n : Nat) (hc : c < 20) (hn : μ 25 0 c = nI n) (hn12 : n ≤ 12) (X : Cx E C cX3_best RX3 5 (rm 1 0)) (hE : EndI E C cX3_best 0 0 (mbI (mf μ c) n) μ) : ∀ (f : Nat) (i : Nat), n - i < f → i ≤ n → KF E C 0 0 μ 10 [(4, .int (nI (12 * c + i))), (3, .int (mbG (mf μ c) i)), (2, .int (mbL (mf μ c) i)), (0, .ref (ad E 16 0)), (1, .int (nI c))] [] := by
  intro f
  induction f with
  | zero => intros; omega
  | succ f ih =>
    intro i hf hi
    refine k_iload X 0 dX3_best_10 rfl ?_
    refine k_bipush X 12 dX3_best_12 (by decide) ?_
    refine k_iload_n X 4 dX3_best_14 rfl rfl ?_
    refine k_imul X dX3_best_15 ?_
    refine k_val (y := nI (12 * c)) (pk_mul _ _) ?_
    refine k_aload_n X 3 dX3_best_16 rfl rfl ?_
    refine gt_X3_35 X dX3_best_17 ?_
    refine k_iload_n X 4 dX3_best_20 rfl rfl ?_
    refine k_iald (a := 25) (j := c) X rfl (by decide) rfl (show c < 20 from hc) (by decide) dX3_best_21 ?_
    refine k_val (y := nI n) hn ?_
    refine k_iadd X dX3_best_22 ?_
    refine k_val (y := nI ((12 * c) + n)) (nI_add _ _) ?_
    refine k_ge_n (a := (12 * c + i)) (b := (12 * c + n)) (tgt := 95) X dX3_best_23 (by decide) rfl rfl (by omega) (by omega) (fun c23 => ?_) (fun c23 => ?_)
    · refine k_aload_n X 3 dX3_best_95 rfl rfl ?_
      refine gt_X3_35 X dX3_best_96 ?_
      refine k_iload_n X 4 dX3_best_99 rfl rfl ?_
      refine k_iald (a := 25) (j := c) X rfl (by decide) rfl (show c < 20 from hc) (by decide) dX3_best_100 ?_
      refine k_val (y := nI n) hn ?_
      refine k_if_ne (tgt := 110) X dX3_best_101 (by decide) (fun c101 => ?_) (fun c101 => ?_)
      · refine k_iload_n X 1 dX3_best_110 rfl rfl ?_
        refine k_sipush X 600 dX3_best_111 (by decide) ?_
        refine k_icmp_lt (tgt := 121) X dX3_best_114 (by decide) (fun c114 => ?_) (fun c114 => ?_)
        · refine k_iload_n X 2 dX3_best_121 rfl rfl ?_
          refine k_if_ne (tgt := 131) X dX3_best_122 (by decide) (fun c122 => ?_) (fun c122 => ?_)
          · refine k_iload_n X 2 dX3_best_131 rfl rfl ?_
            exact k_iret dX3_best_132 hE (by have e : i = n := (by omega); subst e; unfold mbI; rw [if_neg (fun h => c101 ((nI_z (by omega)).mpr h)), if_pos c114, if_neg c122]) rfl
          · refine k_sipush X 487 dX3_best_125 (by decide) ?_
            refine k_goto (tgt := 132) X dX3_best_128 (by decide) ?_
            exact k_iret dX3_best_132 hE (by have e : i = n := (by omega); subst e; unfold mbI; rw [if_neg (fun h => c101 ((nI_z (by omega)).mpr h)), if_pos c114, if_pos c122]) rfl
        · refine k_iload_n X 1 dX3_best_117 rfl rfl ?_
          refine k_goto (tgt := 132) X dX3_best_118 (by decide) ?_
          exact k_iret dX3_best_132 hE (by have e : i = n := (by omega); subst e; unfold mbI; rw [if_neg (fun h => c101 ((nI_z (by omega)).mpr h)), if_neg c114]) rfl
      · refine k_sipush X 480 dX3_best_104 (by decide) ?_
        refine k_goto (tgt := 132) X dX3_best_107 (by decide) ?_
        exact k_iret dX3_best_132 hE (by have e : i = n := (by omega); subst e; unfold mbI; rw [if_pos ((nI_z (by omega)).mp c101)]) rfl
    · refine k_aload_n X 3 dX3_best_26 rfl rfl ?_
      refine gt_X3_50 X dX3_best_27 ?_
      refine k_iload X 0 dX3_best_30 rfl ?_
      refine k_iald (a := 30) (j := (12 * c + i)) X rfl (by decide) rfl (show (12 * c + i) < 240 by omega) (by decide) dX3_best_32 ?_
      refine k_iload_n X 1 dX3_best_33 rfl rfl ?_
      refine k_icmp_le (tgt := 47) X dX3_best_34 (by decide) (fun c34 => ?_) (fun c34 => ?_)
      · refine k_iload_n X 1 dX3_best_47 rfl rfl ?_
        refine k_val (y := mbG (mf μ c) (i + 1)) (mbG_p (f := mf μ c) c34).symm ?_
        refine k_istore_n (L' := [(3, .int (mbG (mf μ c) (i + 1))), (4, .int (nI (12 * c + i))), (2, .int (mbL (mf μ c) i)), (0, .ref (ad E 16 0)), (1, .int (nI c))]) X dX3_best_48 rfl (by decide) rfl ?_
        refine k_aload_n X 3 dX3_best_49 rfl rfl ?_
        refine gt_X3_50 X dX3_best_50 ?_
        refine k_iload X 1 dX3_best_53 rfl ?_
        refine k_iald (a := 30) (j := (12 * c + i)) X rfl (by decide) rfl (show (12 * c + i) < 240 by omega) (by decide) dX3_best_55 ?_
        refine k_sipush X 487 dX3_best_56 (by decide) ?_
        refine k_icmp_eq (tgt := 87) X dX3_best_59 (by decide) (fun c59 => ?_) (fun c59 => ?_)
        · refine k_iload_n X 2 dX3_best_87 rfl rfl ?_
          refine k_val (y := mbL (mf μ c) (i + 1)) (mbL_0 (f := mf μ c) c59).symm ?_
          refine k_istore_n (L' := [(2, .int (mbL (mf μ c) (i + 1))), (3, .int (mbG (mf μ c) (i + 1))), (4, .int (nI (12 * c + i))), (0, .ref (ad E 16 0)), (1, .int (nI c))]) X dX3_best_88 rfl (by decide) rfl ?_
          refine k_iinc (v := nI ((12 * c + i) + 1)) (L' := [(4, .int (nI ((12 * c + i) + 1))), (2, .int (mbL (mf μ c) (i + 1))), (3, .int (mbG (mf μ c) (i + 1))), (0, .ref (ad E 16 0)), (1, .int (nI c))]) X 2 dX3_best_89 rfl (nI_1 (12 * c + i)) (by decide) rfl ?_
          refine k_goto (tgt := 10) X dX3_best_92 (by decide) ?_
          refine k_pick (L' := [(4, .int (nI ((12 * c + i) + 1))), (3, .int (mbG (mf μ c) (i + 1))), (2, .int (mbL (mf μ c) (i + 1))), (0, .ref (ad E 16 0)), (1, .int (nI c))]) [0, 2, 1, 3, 4] rfl ?_
          exact ih (i + 1) (by omega) (by omega)
        · refine k_iload_n X 2 dX3_best_62 rfl rfl ?_
          refine k_if_eq (tgt := 77) X dX3_best_63 (by decide) (fun c63 => ?_) (fun c63 => ?_)
          · refine k_aload_n X 3 dX3_best_77 rfl rfl ?_
            refine gt_X3_50 X dX3_best_78 ?_
            refine k_iload X 1 dX3_best_81 rfl ?_
            refine k_iald (a := 30) (j := (12 * c + i)) X rfl (by decide) rfl (show (12 * c + i) < 240 by omega) (by decide) dX3_best_83 ?_
            refine k_goto (tgt := 88) X dX3_best_84 (by decide) ?_
            refine k_val (y := mbL (mf μ c) (i + 1)) (mbL_a (f := mf μ c) c59 c63).symm ?_
            refine k_istore_n (L' := [(2, .int (mbL (mf μ c) (i + 1))), (3, .int (mbG (mf μ c) (i + 1))), (4, .int (nI (12 * c + i))), (0, .ref (ad E 16 0)), (1, .int (nI c))]) X dX3_best_88 rfl (by decide) rfl ?_
            refine k_iinc (v := nI ((12 * c + i) + 1)) (L' := [(4, .int (nI ((12 * c + i) + 1))), (2, .int (mbL (mf μ c) (i + 1))), (3, .int (mbG (mf μ c) (i + 1))), (0, .ref (ad E 16 0)), (1, .int (nI c))]) X 2 dX3_best_89 rfl (nI_1 (12 * c + i)) (by decide) rfl ?_
            refine k_goto (tgt := 10) X dX3_best_92 (by decide) ?_
            refine k_pick (L' := [(4, .int (nI ((12 * c + i) + 1))), (3, .int (mbG (mf μ c) (i + 1))), (2, .int (mbL (mf μ c) (i + 1))), (0, .ref (ad E 16 0)), (1, .int (nI c))]) [0, 2, 1, 3, 4] rfl ?_
            exact ih (i + 1) (by omega) (by omega)
          · refine k_aload_n X 3 dX3_best_66 rfl rfl ?_
            refine gt_X3_50 X dX3_best_67 ?_
            refine k_iload X 1 dX3_best_70 rfl ?_
            refine k_iald (a := 30) (j := (12 * c + i)) X rfl (by decide) rfl (show (12 * c + i) < 240 by omega) (by decide) dX3_best_72 ?_
            refine k_iload_n X 2 dX3_best_73 rfl rfl ?_
            refine k_icmp_ge (tgt := 87) X dX3_best_74 (by decide) (fun c74 => ?_) (fun c74 => ?_)
            · refine k_iload_n X 2 dX3_best_87 rfl rfl ?_
              refine k_val (y := mbL (mf μ c) (i + 1)) (mbL_b (f := mf μ c) c59 c63 c74).symm ?_
              refine k_istore_n (L' := [(2, .int (mbL (mf μ c) (i + 1))), (3, .int (mbG (mf μ c) (i + 1))), (4, .int (nI (12 * c + i))), (0, .ref (ad E 16 0)), (1, .int (nI c))]) X dX3_best_88 rfl (by decide) rfl ?_
              refine k_iinc (v := nI ((12 * c + i) + 1)) (L' := [(4, .int (nI ((12 * c + i) + 1))), (2, .int (mbL (mf μ c) (i + 1))), (3, .int (mbG (mf μ c) (i + 1))), (0, .ref (ad E 16 0)), (1, .int (nI c))]) X 2 dX3_best_89 rfl (nI_1 (12 * c + i)) (by decide) rfl ?_
              refine k_goto (tgt := 10) X dX3_best_92 (by decide) ?_
              refine k_pick (L' := [(4, .int (nI ((12 * c + i) + 1))), (3, .int (mbG (mf μ c) (i + 1))), (2, .int (mbL (mf μ c) (i + 1))), (0, .ref (ad E 16 0)), (1, .int (nI c))]) [0, 2, 1, 3, 4] rfl ?_
              exact ih (i + 1) (by omega) (by omega)
            · refine k_aload_n X 3 dX3_best_77 rfl rfl ?_
              refine gt_X3_50 X dX3_best_78 ?_
              refine k_iload X 1 dX3_best_81 rfl ?_
              refine k_iald (a := 30) (j := (12 * c + i)) X rfl (by decide) rfl (show (12 * c + i) < 240 by omega) (by decide) dX3_best_83 ?_
              refine k_goto (tgt := 88) X dX3_best_84 (by decide) ?_
              refine k_val (y := mbL (mf μ c) (i + 1)) (mbL_c (f := mf μ c) c59 c63 c74).symm ?_
              refine k_istore_n (L' := [(2, .int (mbL (mf μ c) (i + 1))), (3, .int (mbG (mf μ c) (i + 1))), (4, .int (nI (12 * c + i))), (0, .ref (ad E 16 0)), (1, .int (nI c))]) X dX3_best_88 rfl (by decide) rfl ?_
              refine k_iinc (v := nI ((12 * c + i) + 1)) (L' := [(4, .int (nI ((12 * c + i) + 1))), (2, .int (mbL (mf μ c) (i + 1))), (3, .int (mbG (mf μ c) (i + 1))), (0, .ref (ad E 16 0)), (1, .int (nI c))]) X 2 dX3_best_89 rfl (nI_1 (12 * c + i)) (by decide) rfl ?_
              refine k_goto (tgt := 10) X dX3_best_92 (by decide) ?_
              refine k_pick (L' := [(4, .int (nI ((12 * c + i) + 1))), (3, .int (mbG (mf μ c) (i + 1))), (2, .int (mbL (mf μ c) (i + 1))), (0, .ref (ad E 16 0)), (1, .int (nI c))]) [0, 2, 1, 3, 4] rfl ?_
              exact ih (i + 1) (by omega) (by omega)
      · refine k_aload_n X 3 dX3_best_37 rfl rfl ?_
        refine gt_X3_50 X dX3_best_38 ?_
        refine k_iload X 0 dX3_best_41 rfl ?_
        refine k_iald (a := 30) (j := (12 * c + i)) X rfl (by decide) rfl (show (12 * c + i) < 240 by omega) (by decide) dX3_best_43 ?_
        refine k_goto (tgt := 48) X dX3_best_44 (by decide) ?_
        refine k_val (y := mbG (mf μ c) (i + 1)) (mbG_n (f := mf μ c) c34).symm ?_
        refine k_istore_n (L' := [(3, .int (mbG (mf μ c) (i + 1))), (4, .int (nI (12 * c + i))), (2, .int (mbL (mf μ c) i)), (0, .ref (ad E 16 0)), (1, .int (nI c))]) X dX3_best_48 rfl (by decide) rfl ?_
        refine k_aload_n X 3 dX3_best_49 rfl rfl ?_
        refine gt_X3_50 X dX3_best_50 ?_
        refine k_iload X 1 dX3_best_53 rfl ?_
        refine k_iald (a := 30) (j := (12 * c + i)) X rfl (by decide) rfl (show (12 * c + i) < 240 by omega) (by decide) dX3_best_55 ?_
        refine k_sipush X 487 dX3_best_56 (by decide) ?_
        refine k_icmp_eq (tgt := 87) X dX3_best_59 (by decide) (fun c59 => ?_) (fun c59 => ?_)
        · refine k_iload_n X 2 dX3_best_87 rfl rfl ?_
          refine k_val (y := mbL (mf μ c) (i + 1)) (mbL_0 (f := mf μ c) c59).symm ?_
          refine k_istore_n (L' := [(2, .int (mbL (mf μ c) (i + 1))), (3, .int (mbG (mf μ c) (i + 1))), (4, .int (nI (12 * c + i))), (0, .ref (ad E 16 0)), (1, .int (nI c))]) X dX3_best_88 rfl (by decide) rfl ?_
          refine k_iinc (v := nI ((12 * c + i) + 1)) (L' := [(4, .int (nI ((12 * c + i) + 1))), (2, .int (mbL (mf μ c) (i + 1))), (3, .int (mbG (mf μ c) (i + 1))), (0, .ref (ad E 16 0)), (1, .int (nI c))]) X 2 dX3_best_89 rfl (nI_1 (12 * c + i)) (by decide) rfl ?_
          refine k_goto (tgt := 10) X dX3_best_92 (by decide) ?_
          refine k_pick (L' := [(4, .int (nI ((12 * c + i) + 1))), (3, .int (mbG (mf μ c) (i + 1))), (2, .int (mbL (mf μ c) (i + 1))), (0, .ref (ad E 16 0)), (1, .int (nI c))]) [0, 2, 1, 3, 4] rfl ?_
          exact ih (i + 1) (by omega) (by omega)
        · refine k_iload_n X 2 dX3_best_62 rfl rfl ?_
          refine k_if_eq (tgt := 77) X dX3_best_63 (by decide) (fun c63 => ?_) (fun c63 => ?_)
          · refine k_aload_n X 3 dX3_best_77 rfl rfl ?_
            refine gt_X3_50 X dX3_best_78 ?_
            refine k_iload X 1 dX3_best_81 rfl ?_
            refine k_iald (a := 30) (j := (12 * c + i)) X rfl (by decide) rfl (show (12 * c + i) < 240 by omega) (by decide) dX3_best_83 ?_
            refine k_goto (tgt := 88) X dX3_best_84 (by decide) ?_
            refine k_val (y := mbL (mf μ c) (i + 1)) (mbL_a (f := mf μ c) c59 c63).symm ?_
            refine k_istore_n (L' := [(2, .int (mbL (mf μ c) (i + 1))), (3, .int (mbG (mf μ c) (i + 1))), (4, .int (nI (12 * c + i))), (0, .ref (ad E 16 0)), (1, .int (nI c))]) X dX3_best_88 rfl (by decide) rfl ?_
            refine k_iinc (v := nI ((12 * c + i) + 1)) (L' := [(4, .int (nI ((12 * c + i) + 1))), (2, .int (mbL (mf μ c) (i + 1))), (3, .int (mbG (mf μ c) (i + 1))), (0, .ref (ad E 16 0)), (1, .int (nI c))]) X 2 dX3_best_89 rfl (nI_1 (12 * c + i)) (by decide) rfl ?_
            refine k_goto (tgt := 10) X dX3_best_92 (by decide) ?_
            refine k_pick (L' := [(4, .int (nI ((12 * c + i) + 1))), (3, .int (mbG (mf μ c) (i + 1))), (2, .int (mbL (mf μ c) (i + 1))), (0, .ref (ad E 16 0)), (1, .int (nI c))]) [0, 2, 1, 3, 4] rfl ?_
            exact ih (i + 1) (by omega) (by omega)
          · refine k_aload_n X 3 dX3_best_66 rfl rfl ?_
            refine gt_X3_50 X dX3_best_67 ?_
            refine k_iload X 1 dX3_best_70 rfl ?_
            refine k_iald (a := 30) (j := (12 * c + i)) X rfl (by decide) rfl (show (12 * c + i) < 240 by omega) (by decide) dX3_best_72 ?_
            refine k_iload_n X 2 dX3_best_73 rfl rfl ?_
            refine k_icmp_ge (tgt := 87) X dX3_best_74 (by decide) (fun c74 => ?_) (fun c74 => ?_)
            · refine k_iload_n X 2 dX3_best_87 rfl rfl ?_
              refine k_val (y := mbL (mf μ c) (i + 1)) (mbL_b (f := mf μ c) c59 c63 c74).symm ?_
              refine k_istore_n (L' := [(2, .int (mbL (mf μ c) (i + 1))), (3, .int (mbG (mf μ c) (i + 1))), (4, .int (nI (12 * c + i))), (0, .ref (ad E 16 0)), (1, .int (nI c))]) X dX3_best_88 rfl (by decide) rfl ?_
              refine k_iinc (v := nI ((12 * c + i) + 1)) (L' := [(4, .int (nI ((12 * c + i) + 1))), (2, .int (mbL (mf μ c) (i + 1))), (3, .int (mbG (mf μ c) (i + 1))), (0, .ref (ad E 16 0)), (1, .int (nI c))]) X 2 dX3_best_89 rfl (nI_1 (12 * c + i)) (by decide) rfl ?_
              refine k_goto (tgt := 10) X dX3_best_92 (by decide) ?_
              refine k_pick (L' := [(4, .int (nI ((12 * c + i) + 1))), (3, .int (mbG (mf μ c) (i + 1))), (2, .int (mbL (mf μ c) (i + 1))), (0, .ref (ad E 16 0)), (1, .int (nI c))]) [0, 2, 1, 3, 4] rfl ?_
              exact ih (i + 1) (by omega) (by omega)
            · refine k_aload_n X 3 dX3_best_77 rfl rfl ?_
              refine gt_X3_50 X dX3_best_78 ?_
              refine k_iload X 1 dX3_best_81 rfl ?_
              refine k_iald (a := 30) (j := (12 * c + i)) X rfl (by decide) rfl (show (12 * c + i) < 240 by omega) (by decide) dX3_best_83 ?_
              refine k_goto (tgt := 88) X dX3_best_84 (by decide) ?_
              refine k_val (y := mbL (mf μ c) (i + 1)) (mbL_c (f := mf μ c) c59 c63 c74).symm ?_
              refine k_istore_n (L' := [(2, .int (mbL (mf μ c) (i + 1))), (3, .int (mbG (mf μ c) (i + 1))), (4, .int (nI (12 * c + i))), (0, .ref (ad E 16 0)), (1, .int (nI c))]) X dX3_best_88 rfl (by decide) rfl ?_
              refine k_iinc (v := nI ((12 * c + i) + 1)) (L' := [(4, .int (nI ((12 * c + i) + 1))), (2, .int (mbL (mf μ c) (i + 1))), (3, .int (mbG (mf μ c) (i + 1))), (0, .ref (ad E 16 0)), (1, .int (nI c))]) X 2 dX3_best_89 rfl (nI_1 (12 * c + i)) (by decide) rfl ?_
              refine k_goto (tgt := 10) X dX3_best_92 (by decide) ?_
              refine k_pick (L' := [(4, .int (nI ((12 * c + i) + 1))), (3, .int (mbG (mf μ c) (i + 1))), (2, .int (mbL (mf μ c) (i + 1))), (0, .ref (ad E 16 0)), (1, .int (nI c))]) [0, 2, 1, 3, 4] rfl ?_
              exact ih (i + 1) (by omega) (by omega)

set_option maxHeartbeats 4000000 in
set_option maxRecDepth 100000 in
theorem C_X3_best {E : EE} {μ : Mem} (c n : Nat) (hc : c < 20) (hn : μ 25 0 c = nI n) (hn12 : n ≤ 12) : MM E yX3_best cX3_best 5 (some .int) (rm 1 0) [.ref (ad E 16 0), .int (nI c)] μ (some (.int (mbI (mf μ c) n))) μ := by
  refine MM.int (own := RX3) [(0, .ref (ad E 16 0)), (1, .int (nI c))] rfl rfl rfl (Nat.le_of_ble_eq_true rfl) rfl (fun C X hE => ?_)
  refine k_iconst X 0 dX3_best_0 (by decide) ?_
  refine k_istore_n (L' := [(2, .int 0), (0, .ref (ad E 16 0)), (1, .int (nI c))]) X dX3_best_1 rfl (by decide) rfl ?_
  refine k_iconst X 0 dX3_best_2 (by decide) ?_
  refine k_istore_n (L' := [(3, .int 0), (2, .int 0), (0, .ref (ad E 16 0)), (1, .int (nI c))]) X dX3_best_3 rfl (by decide) rfl ?_
  refine k_bipush X 12 dX3_best_4 (by decide) ?_
  refine k_iload_n X 3 dX3_best_6 rfl rfl ?_
  refine k_imul X dX3_best_7 ?_
  refine k_val (y := nI (12 * c)) (pk_mul _ _) ?_
  refine k_istore (L' := [(4, .int (nI (12 * c))), (3, .int 0), (2, .int 0), (0, .ref (ad E 16 0)), (1, .int (nI c))]) X dX3_best_8 (by decide) rfl ?_
  exact L_X3_best c n hc hn hn12 X hE (n + 1) 0 (by omega) (Nat.zero_le n)

set_option maxHeartbeats 4000000 in
set_option maxRecDepth 100000 in
theorem L_X3_cuts {E : EE} {μ : Mem} {C : Ctx} (c n : Nat) (hc : c < 20) (hn : μ 25 0 c = nI n) (hn12 : n ≤ 12) (X : Cx E C cX3_cuts RX3 4 (rm 2 0)) (hE : EndI E C cX3_cuts 0 0 (nI (mcN μ c n)) (mcM μ c n)) : ∀ (f : Nat) (i : Nat), n - i < f → i ≤ n → KF E C 0 0 (up μ 30 0 (12 * c) i (fun b => if 200 ≤ mf μ c b then mf μ c b else 487)) 7 [(3, .int (nI (12 * c + i))), (2, .int (nI (ctB (fun b => !decide (200 ≤ mf μ c b)) i))), (0, .ref (ad E 16 0)), (1, .int (nI c))] [] := by
  intro f
  induction f with
  | zero => intros; omega
  | succ f ih =>
    intro i hf hi
    refine k_iload_n X 0 dX3_cuts_7 rfl rfl ?_
    refine k_bipush X 12 dX3_cuts_8 (by decide) ?_
    refine k_iload_n X 3 dX3_cuts_10 rfl rfl ?_
    refine k_imul X dX3_cuts_11 ?_
    refine k_val (y := nI (12 * c)) (pk_mul _ _) ?_
    refine k_aload_n X 2 dX3_cuts_12 rfl rfl ?_
    refine gt_X3_35 X dX3_cuts_13 ?_
    refine k_iload_n X 3 dX3_cuts_16 rfl rfl ?_
    refine k_iald (a := 25) (j := c) X rfl (by decide) rfl (show c < 20 from hc) (by decide) dX3_cuts_17 ?_
    refine k_val (y := nI n) (by simp [st, up, hn]) ?_
    refine k_iadd X dX3_cuts_18 ?_
    refine k_val (y := nI ((12 * c) + n)) (nI_add _ _) ?_
    refine k_ge_n (a := (12 * c + i)) (b := (12 * c + n)) (tgt := 52) X dX3_cuts_19 (by decide) rfl rfl (by omega) (by omega) (fun c19 => ?_) (fun c19 => ?_)
    · refine k_iload_n X 1 dX3_cuts_52 rfl rfl ?_
      exact k_iret dX3_cuts_53 hE (by rw [show i = n by omega]; rfl) (by rw [show i = n by omega]; rfl)
    · refine k_aload_n X 2 dX3_cuts_22 rfl rfl ?_
      refine gt_X3_50 X dX3_cuts_23 ?_
      refine k_iload_n X 0 dX3_cuts_26 rfl rfl ?_
      refine k_iald (a := 30) (j := (12 * c + i)) X rfl (by decide) rfl (show (12 * c + i) < 240 by omega) (by decide) dX3_cuts_27 ?_
      refine k_val (y := μ 30 0 (12 * c + i)) up_next ?_
      refine k_callS (As := [.int (μ 30 0 (12 * c + i))]) (S := []) X lk_X3_99 (C_X3_hasEnded _) rfl rfl (Nat.le_of_ble_eq_true rfl) ⟨Nat.le_of_ble_eq_true rfl, Nat.le_of_ble_eq_true rfl⟩ ⟨Nat.le_of_ble_eq_true rfl, Nat.le_of_ble_eq_true rfl⟩ dX3_cuts_28 ?_
      show KF E C 0 0 (up μ 30 0 (12 * c) i (fun b => if 200 ≤ mf μ c b then mf μ c b else 487)) 31 _ [.int (bp (200 ≤ (μ 30 0 (12 * c + i))))]
      refine k_if_ne_p (tgt := 46) X dX3_cuts_31 (by decide) (fun c31 => ?_) (fun c31 => ?_)
      · refine k_iinc (v := nI ((12 * c + i) + 1)) (L' := [(3, .int (nI ((12 * c + i) + 1))), (2, .int (nI (ctB (fun b => !decide (200 ≤ mf μ c b)) i))), (0, .ref (ad E 16 0)), (1, .int (nI c))]) X 0 dX3_cuts_46 rfl (nI_1 (12 * c + i)) (by decide) rfl ?_
        refine k_goto (tgt := 7) X dX3_cuts_49 (by decide) ?_
        have e1 := ctB_f (p := (fun b => !decide (200 ≤ mf μ c b))) (n := i) (by show (!decide (200 ≤ μ 30 0 (12 * c + i))) = false; rw [decide_eq_true c31]; rfl)
        refine k_mem (μ' := up μ 30 0 (12 * c) (i + 1) (fun b => if 200 ≤ mf μ c b then mf μ c b else 487)) (up_no (if_pos c31)) ?_
        rw [← e1]
        exact ih (i + 1) (by omega) (by omega)
      · refine k_aload_n X 2 dX3_cuts_34 rfl rfl ?_
        refine gt_X3_50 X dX3_cuts_35 ?_
        refine k_iload_n X 0 dX3_cuts_38 rfl rfl ?_
        refine k_sipush X 487 dX3_cuts_39 (by decide) ?_
        refine k_iast (a := 30) (j := (12 * c + i)) X rfl (by decide) rfl (show (12 * c + i) < 240 by omega) (by decide) dX3_cuts_42 ?_
        refine k_iinc (v := nI (ctB (fun b => !decide (200 ≤ mf μ c b)) i + 1)) (L' := [(2, .int (nI (ctB (fun b => !decide (200 ≤ mf μ c b)) i + 1))), (3, .int (nI (12 * c + i))), (0, .ref (ad E 16 0)), (1, .int (nI c))]) X 1 dX3_cuts_43 rfl (nI_1 _) (by decide) rfl ?_
        refine k_iinc (v := nI ((12 * c + i) + 1)) (L' := [(3, .int (nI ((12 * c + i) + 1))), (2, .int (nI (ctB (fun b => !decide (200 ≤ mf μ c b)) i + 1))), (0, .ref (ad E 16 0)), (1, .int (nI c))]) X 1 dX3_cuts_46 rfl (nI_1 (12 * c + i)) (by decide) rfl ?_
        refine k_goto (tgt := 7) X dX3_cuts_49 (by decide) ?_
        have e1 := ctB_t (p := (fun b => !decide (200 ≤ mf μ c b))) (n := i) (by show (!decide (200 ≤ μ 30 0 (12 * c + i))) = true; rw [decide_eq_false c31]; rfl)
        refine k_mem (μ' := up μ 30 0 (12 * c) (i + 1) (fun b => if 200 ≤ mf μ c b then mf μ c b else 487)) (up_st (if_neg c31).symm) ?_
        rw [← e1]
        exact ih (i + 1) (by omega) (by omega)

set_option maxHeartbeats 4000000 in
set_option maxRecDepth 100000 in
theorem C_X3_cuts {E : EE} {μ : Mem} (c n : Nat) (hc : c < 20) (hn : μ 25 0 c = nI n) (hn12 : n ≤ 12) : MM E yX3_cuts cX3_cuts 4 (some .int) (rm 2 0) [.ref (ad E 16 0), .int (nI c)] μ (some (.int (nI (mcN μ c n)))) (mcM μ c n) := by
  refine MM.int (own := RX3) [(0, .ref (ad E 16 0)), (1, .int (nI c))] rfl rfl rfl (Nat.le_of_ble_eq_true rfl) rfl (fun C X hE => ?_)
  refine k_iconst X (nI 0) dX3_cuts_0 (by decide) ?_
  refine k_istore_n (L' := [(2, .int (nI 0)), (0, .ref (ad E 16 0)), (1, .int (nI c))]) X dX3_cuts_1 rfl (by decide) rfl ?_
  refine k_bipush X 12 dX3_cuts_2 (by decide) ?_
  refine k_iload_n X 2 dX3_cuts_4 rfl rfl ?_
  refine k_imul X dX3_cuts_5 ?_
  refine k_val (y := nI (12 * c)) (pk_mul _ _) ?_
  refine k_istore_n (L' := [(3, .int (nI (12 * c))), (2, .int (nI 0)), (0, .ref (ad E 16 0)), (1, .int (nI c))]) X dX3_cuts_6 rfl (by decide) rfl ?_
  refine k_mem (μ' := up μ 30 0 (12 * c) 0 (fun b => if 200 ≤ mf μ c b then mf μ c b else 487)) up_0.symm ?_
  exact L_X3_cuts c n hc hn hn12 X hE (n + 1) 0 (by omega) (Nat.zero_le n)

set_option maxHeartbeats 4000000 in
set_option maxRecDepth 100000 in
theorem L_X3_isBusy {E : EE} {μ : Mem} {C : Ctx} (c n : Nat) (hc : c < 20) (hn : μ 25 0 c = nI n) (hn12 : n ≤ 12) (X : Cx E C cX3_isBusy RX3 4 (rm 2 0)) (hE : EndI E C cX3_isBusy 0 0 (bp (anB (mwP μ c) n = true)) μ) : ∀ (f : Nat) (i : Nat), n - i < f → i ≤ n → KF E C 0 0 μ 7 [(3, .int (nI (12 * c + i))), (2, .int (bp (anB (mwP μ c) i = true))), (0, .ref (ad E 16 0)), (1, .int (nI c))] [] := by
  intro f
  induction f with
  | zero => intros; omega
  | succ f ih =>
    intro i hf hi
    refine k_iload_n X 0 dX3_isBusy_7 rfl rfl ?_
    refine k_bipush X 12 dX3_isBusy_8 (by decide) ?_
    refine k_iload_n X 3 dX3_isBusy_10 rfl rfl ?_
    refine k_imul X dX3_isBusy_11 ?_
    refine k_val (y := nI (12 * c)) (pk_mul _ _) ?_
    refine k_aload_n X 2 dX3_isBusy_12 rfl rfl ?_
    refine gt_X3_35 X dX3_isBusy_13 ?_
    refine k_iload_n X 3 dX3_isBusy_16 rfl rfl ?_
    refine k_iald (a := 25) (j := c) X rfl (by decide) rfl (show c < 20 from hc) (by decide) dX3_isBusy_17 ?_
    refine k_val (y := nI n) hn ?_
    refine k_iadd X dX3_isBusy_18 ?_
    refine k_val (y := nI ((12 * c) + n)) (nI_add _ _) ?_
    refine k_ge_n (a := (12 * c + i)) (b := (12 * c + n)) (tgt := 65) X dX3_isBusy_19 (by decide) rfl rfl (by omega) (by omega) (fun c19 => ?_) (fun c19 => ?_)
    · refine k_iload_n X 1 dX3_isBusy_65 rfl rfl ?_
      exact k_iret dX3_isBusy_66 hE (by rw [show i = n by omega]) rfl
    · refine k_iload_n X 1 dX3_isBusy_22 rfl rfl ?_
      refine k_if_ne_p (tgt := 53) X dX3_isBusy_23 (by decide) (fun c23 => ?_) (fun c23 => ?_)
      · refine k_iconst X 1 dX3_isBusy_53 (by decide) ?_
        refine k_goto (tgt := 58) X dX3_isBusy_54 (by decide) ?_
        refine k_val (y := bp (anB (mwP μ c) (i + 1) = true)) (bp_t (by show (anB (mwP μ c) i || _) = true; rw [c23]; rfl)).symm ?_
        refine k_istore_n (L' := [(2, .int (bp (anB (mwP μ c) (i + 1) = true))), (3, .int (nI (12 * c + i))), (0, .ref (ad E 16 0)), (1, .int (nI c))]) X dX3_isBusy_58 rfl (by decide) rfl ?_
        refine k_iinc (v := nI ((12 * c + i) + 1)) (L' := [(3, .int (nI ((12 * c + i) + 1))), (2, .int (bp (anB (mwP μ c) (i + 1) = true))), (0, .ref (ad E 16 0)), (1, .int (nI c))]) X 1 dX3_isBusy_59 rfl (nI_1 (12 * c + i)) (by decide) rfl ?_
        refine k_goto (tgt := 7) X dX3_isBusy_62 (by decide) ?_
        exact ih (i + 1) (by omega) (by omega)
      · refine k_aload_n X 2 dX3_isBusy_26 rfl rfl ?_
        refine gt_X3_47 X dX3_isBusy_27 ?_
        refine k_iload_n X 0 dX3_isBusy_30 rfl rfl ?_
        refine k_iald (a := 29) (j := (12 * c + i)) X rfl (by decide) rfl (show (12 * c + i) < 240 by omega) (by decide) dX3_isBusy_31 ?_
        refine k_aload_n X 2 dX3_isBusy_32 rfl rfl ?_
        refine gt_X3_38 X dX3_isBusy_33 ?_
        refine k_iload_n X 3 dX3_isBusy_36 rfl rfl ?_
        refine k_iald (a := 26) (j := c) X rfl (by decide) rfl (show c < 20 from hc) (by decide) dX3_isBusy_37 ?_
        refine k_icmp_lt (tgt := 57) X dX3_isBusy_38 (by decide) (fun c38 => ?_) (fun c38 => ?_)
        · refine k_iconst X 0 dX3_isBusy_57 (by decide) ?_
          refine k_val (y := bp (anB (mwP μ c) (i + 1) = true)) (bp_f (by show ¬ (anB (mwP μ c) i || (!decide (μ 29 0 (12 * c + i) < μ 26 0 c) && _)) = true; rw [Bool.eq_false_iff.mpr c23, decide_eq_true c38]; simp)).symm ?_
          refine k_istore_n (L' := [(2, .int (bp (anB (mwP μ c) (i + 1) = true))), (3, .int (nI (12 * c + i))), (0, .ref (ad E 16 0)), (1, .int (nI c))]) X dX3_isBusy_58 rfl (by decide) rfl ?_
          refine k_iinc (v := nI ((12 * c + i) + 1)) (L' := [(3, .int (nI ((12 * c + i) + 1))), (2, .int (bp (anB (mwP μ c) (i + 1) = true))), (0, .ref (ad E 16 0)), (1, .int (nI c))]) X 1 dX3_isBusy_59 rfl (nI_1 (12 * c + i)) (by decide) rfl ?_
          refine k_goto (tgt := 7) X dX3_isBusy_62 (by decide) ?_
          exact ih (i + 1) (by omega) (by omega)
        · refine k_aload_n X 2 dX3_isBusy_41 rfl rfl ?_
          refine gt_X3_50 X dX3_isBusy_42 ?_
          refine k_iload_n X 0 dX3_isBusy_45 rfl rfl ?_
          refine k_iald (a := 30) (j := (12 * c + i)) X rfl (by decide) rfl (show (12 * c + i) < 240 by omega) (by decide) dX3_isBusy_46 ?_
          refine k_callS (As := [.int (μ 30 0 (12 * c + i))]) (S := []) X lk_X3_99 (C_X3_hasEnded _) rfl rfl (Nat.le_of_ble_eq_true rfl) ⟨Nat.le_of_ble_eq_true rfl, Nat.le_of_ble_eq_true rfl⟩ ⟨Nat.le_of_ble_eq_true rfl, Nat.le_of_ble_eq_true rfl⟩ dX3_isBusy_47 ?_
          show KF E C 0 0 μ 50 _ [.int (bp (200 ≤ (μ 30 0 (12 * c + i))))]
          refine k_if_ne_p (tgt := 57) X dX3_isBusy_50 (by decide) (fun c50 => ?_) (fun c50 => ?_)
          · refine k_iconst X 0 dX3_isBusy_57 (by decide) ?_
            refine k_val (y := bp (anB (mwP μ c) (i + 1) = true)) (bp_f (by show ¬ (anB (mwP μ c) i || (!decide (μ 29 0 (12 * c + i) < μ 26 0 c) && !decide (200 ≤ μ 30 0 (12 * c + i)))) = true; rw [Bool.eq_false_iff.mpr c23, decide_eq_false c38, decide_eq_true c50]; decide)).symm ?_
            refine k_istore_n (L' := [(2, .int (bp (anB (mwP μ c) (i + 1) = true))), (3, .int (nI (12 * c + i))), (0, .ref (ad E 16 0)), (1, .int (nI c))]) X dX3_isBusy_58 rfl (by decide) rfl ?_
            refine k_iinc (v := nI ((12 * c + i) + 1)) (L' := [(3, .int (nI ((12 * c + i) + 1))), (2, .int (bp (anB (mwP μ c) (i + 1) = true))), (0, .ref (ad E 16 0)), (1, .int (nI c))]) X 1 dX3_isBusy_59 rfl (nI_1 (12 * c + i)) (by decide) rfl ?_
            refine k_goto (tgt := 7) X dX3_isBusy_62 (by decide) ?_
            exact ih (i + 1) (by omega) (by omega)
          · refine k_iconst X 1 dX3_isBusy_53 (by decide) ?_
            refine k_goto (tgt := 58) X dX3_isBusy_54 (by decide) ?_
            refine k_val (y := bp (anB (mwP μ c) (i + 1) = true)) (bp_t (by show (anB (mwP μ c) i || (!decide (μ 29 0 (12 * c + i) < μ 26 0 c) && !decide (200 ≤ μ 30 0 (12 * c + i)))) = true; rw [Bool.eq_false_iff.mpr c23, decide_eq_false c38, decide_eq_false c50]; rfl)).symm ?_
            refine k_istore_n (L' := [(2, .int (bp (anB (mwP μ c) (i + 1) = true))), (3, .int (nI (12 * c + i))), (0, .ref (ad E 16 0)), (1, .int (nI c))]) X dX3_isBusy_58 rfl (by decide) rfl ?_
            refine k_iinc (v := nI ((12 * c + i) + 1)) (L' := [(3, .int (nI ((12 * c + i) + 1))), (2, .int (bp (anB (mwP μ c) (i + 1) = true))), (0, .ref (ad E 16 0)), (1, .int (nI c))]) X 1 dX3_isBusy_59 rfl (nI_1 (12 * c + i)) (by decide) rfl ?_
            refine k_goto (tgt := 7) X dX3_isBusy_62 (by decide) ?_
            exact ih (i + 1) (by omega) (by omega)

set_option maxHeartbeats 4000000 in
set_option maxRecDepth 100000 in
theorem C_X3_isBusy {E : EE} {μ : Mem} (c n : Nat) (hc : c < 20) (hn : μ 25 0 c = nI n) (hn12 : n ≤ 12) : MM E yX3_isBusy cX3_isBusy 4 (some .boolean) (rm 2 0) [.ref (ad E 16 0), .int (nI c)] μ (some (.int (bp (anB (mwP μ c) n = true)))) μ := by
  refine MM.int (own := RX3) [(0, .ref (ad E 16 0)), (1, .int (nI c))] rfl rfl rfl (Nat.le_of_ble_eq_true rfl) bp_nar (fun C X hE => ?_)
  refine k_iconst X 0 dX3_isBusy_0 (by decide) ?_
  refine k_val (y := bp (anB (mwP μ c) 0 = true)) (bp_f (show ¬ false = true by decide)).symm ?_
  refine k_istore_n (L' := [(2, .int (bp (anB (mwP μ c) 0 = true))), (0, .ref (ad E 16 0)), (1, .int (nI c))]) X dX3_isBusy_1 rfl (by decide) rfl ?_
  refine k_bipush X 12 dX3_isBusy_2 (by decide) ?_
  refine k_iload_n X 2 dX3_isBusy_4 rfl rfl ?_
  refine k_imul X dX3_isBusy_5 ?_
  refine k_val (y := nI (12 * c)) (pk_mul _ _) ?_
  refine k_istore_n (L' := [(3, .int (nI (12 * c))), (2, .int (bp (anB (mwP μ c) 0 = true))), (0, .ref (ad E 16 0)), (1, .int (nI c))]) X dX3_isBusy_6 rfl (by decide) rfl ?_
  exact L_X3_isBusy c n hc hn hn12 X hE (n + 1) 0 (by omega) (Nat.zero_le n)

set_option maxHeartbeats 4000000 in
set_option maxRecDepth 100000 in
theorem L_goes1 {E : EE} {μ : Mem} {C : Ctx} (c n : Nat) (hc : c < 20) (hn : μ 25 0 c = nI n) (hn12 : n ≤ 12) (X : Cx E C cX3_goesOn RX3 4 (rm 3 0)) (hk : KF E C 0 0 μ 82 [(2, .int (nxF μ c n)), (0, .ref (ad E 16 0)), (1, .int (nI c))] []) : ∀ (f : Nat) (i : Nat), n - i < f → i ≤ n → KF E C 0 0 μ 25 [(3, .int (nI (12 * c + i))), (2, .int (nxF μ c i)), (0, .ref (ad E 16 0)), (1, .int (nI c))] [] := by
  intro f
  induction f with
  | zero => intros; omega
  | succ f ih =>
    intro i hf hi
    refine k_iload_n X 0 dX3_goesOn_25 rfl rfl ?_
    refine k_bipush X 12 dX3_goesOn_26 (by decide) ?_
    refine k_iload_n X 3 dX3_goesOn_28 rfl rfl ?_
    refine k_imul X dX3_goesOn_29 ?_
    refine k_val (y := nI (12 * c)) (pk_mul _ _) ?_
    refine k_aload_n X 2 dX3_goesOn_30 rfl rfl ?_
    refine gt_X3_35 X dX3_goesOn_31 ?_
    refine k_iload_n X 3 dX3_goesOn_34 rfl rfl ?_
    refine k_iald (a := 25) (j := c) X rfl (by decide) rfl (show c < 20 from hc) (by decide) dX3_goesOn_35 ?_
    refine k_val (y := nI n) hn ?_
    refine k_iadd X dX3_goesOn_36 ?_
    refine k_val (y := nI ((12 * c) + n)) (nI_add _ _) ?_
    refine k_ge_n (a := (12 * c + i)) (b := (12 * c + n)) (tgt := 82) X dX3_goesOn_37 (by decide) rfl rfl (by omega) (by omega) (fun c37 => ?_) (fun c37 => ?_)
    · refine k_pick (L' := [(2, .int (nxF μ c i)), (0, .ref (ad E 16 0)), (1, .int (nI c))]) [1, 2, 3] rfl ?_
      have e : i = n := by omega
      rw [e]
      exact hk
    · refine k_aload_n X 2 dX3_goesOn_40 rfl rfl ?_
      refine gt_X3_47 X dX3_goesOn_41 ?_
      refine k_iload_n X 0 dX3_goesOn_44 rfl rfl ?_
      refine k_iald (a := 29) (j := (12 * c + i)) X rfl (by decide) rfl (show (12 * c + i) < 240 by omega) (by decide) dX3_goesOn_45 ?_
      refine k_aload_n X 2 dX3_goesOn_46 rfl rfl ?_
      refine gt_X3_38 X dX3_goesOn_47 ?_
      refine k_iload_n X 3 dX3_goesOn_50 rfl rfl ?_
      refine k_iald (a := 26) (j := c) X rfl (by decide) rfl (show c < 20 from hc) (by decide) dX3_goesOn_51 ?_
      refine k_icmp_ge (tgt := 74) X dX3_goesOn_52 (by decide) (fun c52 => ?_) (fun c52 => ?_)
      · refine k_iload_n X 1 dX3_goesOn_74 rfl rfl ?_
        refine k_val (y := nxF μ c (i + 1)) (nxF_a c52).symm ?_
        refine k_istore_n (L' := [(2, .int (nxF μ c (i + 1))), (3, .int (nI (12 * c + i))), (0, .ref (ad E 16 0)), (1, .int (nI c))]) X dX3_goesOn_75 rfl (by decide) rfl ?_
        refine k_iinc (v := nI ((12 * c + i) + 1)) (L' := [(3, .int (nI ((12 * c + i) + 1))), (2, .int (nxF μ c (i + 1))), (0, .ref (ad E 16 0)), (1, .int (nI c))]) X 1 dX3_goesOn_76 rfl (nI_1 (12 * c + i)) (by decide) rfl ?_
        refine k_goto (tgt := 25) X dX3_goesOn_79 (by decide) ?_
        exact ih (i + 1) (by omega) (by omega)
      · refine k_aload_n X 2 dX3_goesOn_55 rfl rfl ?_
        refine gt_X3_47 X dX3_goesOn_56 ?_
        refine k_iload_n X 0 dX3_goesOn_59 rfl rfl ?_
        refine k_iald (a := 29) (j := (12 * c + i)) X rfl (by decide) rfl (show (12 * c + i) < 240 by omega) (by decide) dX3_goesOn_60 ?_
        refine k_iload_n X 1 dX3_goesOn_61 rfl rfl ?_
        refine k_icmp_le (tgt := 74) X dX3_goesOn_62 (by decide) (fun c62 => ?_) (fun c62 => ?_)
        · refine k_iload_n X 1 dX3_goesOn_74 rfl rfl ?_
          refine k_val (y := nxF μ c (i + 1)) (nxF_b c52 c62).symm ?_
          refine k_istore_n (L' := [(2, .int (nxF μ c (i + 1))), (3, .int (nI (12 * c + i))), (0, .ref (ad E 16 0)), (1, .int (nI c))]) X dX3_goesOn_75 rfl (by decide) rfl ?_
          refine k_iinc (v := nI ((12 * c + i) + 1)) (L' := [(3, .int (nI ((12 * c + i) + 1))), (2, .int (nxF μ c (i + 1))), (0, .ref (ad E 16 0)), (1, .int (nI c))]) X 1 dX3_goesOn_76 rfl (nI_1 (12 * c + i)) (by decide) rfl ?_
          refine k_goto (tgt := 25) X dX3_goesOn_79 (by decide) ?_
          exact ih (i + 1) (by omega) (by omega)
        · refine k_aload_n X 2 dX3_goesOn_65 rfl rfl ?_
          refine gt_X3_47 X dX3_goesOn_66 ?_
          refine k_iload_n X 0 dX3_goesOn_69 rfl rfl ?_
          refine k_iald (a := 29) (j := (12 * c + i)) X rfl (by decide) rfl (show (12 * c + i) < 240 by omega) (by decide) dX3_goesOn_70 ?_
          refine k_goto (tgt := 75) X dX3_goesOn_71 (by decide) ?_
          refine k_val (y := nxF μ c (i + 1)) (nxF_c c52 c62).symm ?_
          refine k_istore_n (L' := [(2, .int (nxF μ c (i + 1))), (3, .int (nI (12 * c + i))), (0, .ref (ad E 16 0)), (1, .int (nI c))]) X dX3_goesOn_75 rfl (by decide) rfl ?_
          refine k_iinc (v := nI ((12 * c + i) + 1)) (L' := [(3, .int (nI ((12 * c + i) + 1))), (2, .int (nxF μ c (i + 1))), (0, .ref (ad E 16 0)), (1, .int (nI c))]) X 1 dX3_goesOn_76 rfl (nI_1 (12 * c + i)) (by decide) rfl ?_
          refine k_goto (tgt := 25) X dX3_goesOn_79 (by decide) ?_
          exact ih (i + 1) (by omega) (by omega)

set_option maxHeartbeats 4000000 in
set_option maxRecDepth 100000 in
theorem L_goes2 {E : EE} {μ : Mem} {C : Ctx} (c n : Nat) (hc : c < 20) (hn : μ 25 0 c = nI n) (hn12 : n ≤ 12) (x : Int32) (X : Cx E C cX3_goesOn RX3 4 (rm 3 0)) (hk : KF E C 0 0 (tryM μ c n x) 161 [(2, .int x), (0, .ref (ad E 16 0)), (1, .int (nI c))] []) : ∀ (f : Nat) (i : Nat), n - i < f → i ≤ n → KF E C 0 0 (up μ 30 0 (12 * c) i (fun b => if μ 29 0 (12 * c + b) = x ∧ μ 30 0 (12 * c + b) = 0 then 100 else μ 30 0 (12 * c + b))) 104 [(3, .int (nI (12 * c + i))), (2, .int x), (0, .ref (ad E 16 0)), (1, .int (nI c))] [] := by
  intro f
  induction f with
  | zero => intros; omega
  | succ f ih =>
    intro i hf hi
    refine k_iload_n X 0 dX3_goesOn_104 rfl rfl ?_
    refine k_bipush X 12 dX3_goesOn_105 (by decide) ?_
    refine k_iload_n X 3 dX3_goesOn_107 rfl rfl ?_
    refine k_imul X dX3_goesOn_108 ?_
    refine k_val (y := nI (12 * c)) (pk_mul _ _) ?_
    refine k_aload_n X 2 dX3_goesOn_109 rfl rfl ?_
    refine gt_X3_35 X dX3_goesOn_110 ?_
    refine k_iload_n X 3 dX3_goesOn_113 rfl rfl ?_
    refine k_iald (a := 25) (j := c) X rfl (by decide) rfl (show c < 20 from hc) (by decide) dX3_goesOn_114 ?_
    refine k_val (y := nI n) (by simp [st, up, hn]) ?_
    refine k_iadd X dX3_goesOn_115 ?_
    refine k_val (y := nI ((12 * c) + n)) (nI_add _ _) ?_
    refine k_ge_n (a := (12 * c + i)) (b := (12 * c + n)) (tgt := 161) X dX3_goesOn_116 (by decide) rfl rfl (by omega) (by omega) (fun c116 => ?_) (fun c116 => ?_)
    · refine k_pick (L' := [(2, .int x), (0, .ref (ad E 16 0)), (1, .int (nI c))]) [1, 2, 3] rfl ?_
      have e : i = n := by omega
      rw [e]
      exact hk
    · refine k_aload_n X 2 dX3_goesOn_119 rfl rfl ?_
      refine gt_X3_50 X dX3_goesOn_120 ?_
      refine k_iload_n X 0 dX3_goesOn_123 rfl rfl ?_
      refine k_aload_n X 2 dX3_goesOn_124 rfl rfl ?_
      refine gt_X3_47 X dX3_goesOn_125 ?_
      refine k_iload_n X 0 dX3_goesOn_128 rfl rfl ?_
      refine k_iald (a := 29) (j := (12 * c + i)) X rfl (by decide) rfl (show (12 * c + i) < 240 by omega) (by decide) dX3_goesOn_129 ?_
      refine k_val (y := μ 29 0 (12 * c + i)) (up_k (by decide)) ?_
      refine k_iload_n X 1 dX3_goesOn_130 rfl rfl ?_
      refine k_icmp_ne (tgt := 148) X dX3_goesOn_131 (by decide) (fun c131 => ?_) (fun c131 => ?_)
      · refine k_aload_n X 2 dX3_goesOn_148 rfl rfl ?_
        refine gt_X3_50 X dX3_goesOn_149 ?_
        refine k_iload_n X 0 dX3_goesOn_152 rfl rfl ?_
        refine k_iald (a := 30) (j := (12 * c + i)) X rfl (by decide) rfl (show (12 * c + i) < 240 by omega) (by decide) dX3_goesOn_153 ?_
        refine k_val (y := μ 30 0 (12 * c + i)) up_next ?_
        refine k_iast (a := 30) (j := (12 * c + i)) X rfl (by decide) rfl (show (12 * c + i) < 240 by omega) (by decide) dX3_goesOn_154 ?_
        refine k_iinc (v := nI ((12 * c + i) + 1)) (L' := [(3, .int (nI ((12 * c + i) + 1))), (2, .int x), (0, .ref (ad E 16 0)), (1, .int (nI c))]) X 0 dX3_goesOn_155 rfl (nI_1 (12 * c + i)) (by decide) rfl ?_
        refine k_goto (tgt := 104) X dX3_goesOn_158 (by decide) ?_
        refine k_mem (μ' := up μ 30 0 (12 * c) (i + 1) (fun b => if μ 29 0 (12 * c + b) = x ∧ μ 30 0 (12 * c + b) = 0 then 100 else μ 30 0 (12 * c + b))) (up_st (if_neg (fun h => c131 h.1)).symm) ?_
        exact ih (i + 1) (by omega) (by omega)
      · refine k_aload_n X 2 dX3_goesOn_134 rfl rfl ?_
        refine gt_X3_50 X dX3_goesOn_135 ?_
        refine k_iload_n X 0 dX3_goesOn_138 rfl rfl ?_
        refine k_iald (a := 30) (j := (12 * c + i)) X rfl (by decide) rfl (show (12 * c + i) < 240 by omega) (by decide) dX3_goesOn_139 ?_
        refine k_val (y := μ 30 0 (12 * c + i)) up_next ?_
        refine k_if_ne (tgt := 148) X dX3_goesOn_140 (by decide) (fun c140 => ?_) (fun c140 => ?_)
        · refine k_aload_n X 2 dX3_goesOn_148 rfl rfl ?_
          refine gt_X3_50 X dX3_goesOn_149 ?_
          refine k_iload_n X 0 dX3_goesOn_152 rfl rfl ?_
          refine k_iald (a := 30) (j := (12 * c + i)) X rfl (by decide) rfl (show (12 * c + i) < 240 by omega) (by decide) dX3_goesOn_153 ?_
          refine k_val (y := μ 30 0 (12 * c + i)) up_next ?_
          refine k_iast (a := 30) (j := (12 * c + i)) X rfl (by decide) rfl (show (12 * c + i) < 240 by omega) (by decide) dX3_goesOn_154 ?_
          refine k_iinc (v := nI ((12 * c + i) + 1)) (L' := [(3, .int (nI ((12 * c + i) + 1))), (2, .int x), (0, .ref (ad E 16 0)), (1, .int (nI c))]) X 0 dX3_goesOn_155 rfl (nI_1 (12 * c + i)) (by decide) rfl ?_
          refine k_goto (tgt := 104) X dX3_goesOn_158 (by decide) ?_
          refine k_mem (μ' := up μ 30 0 (12 * c) (i + 1) (fun b => if μ 29 0 (12 * c + b) = x ∧ μ 30 0 (12 * c + b) = 0 then 100 else μ 30 0 (12 * c + b))) (up_st (if_neg (fun h => c140 h.2)).symm) ?_
          exact ih (i + 1) (by omega) (by omega)
        · refine k_bipush X 100 dX3_goesOn_143 (by decide) ?_
          refine k_goto (tgt := 154) X dX3_goesOn_145 (by decide) ?_
          refine k_iast (a := 30) (j := (12 * c + i)) X rfl (by decide) rfl (show (12 * c + i) < 240 by omega) (by decide) dX3_goesOn_154 ?_
          refine k_iinc (v := nI ((12 * c + i) + 1)) (L' := [(3, .int (nI ((12 * c + i) + 1))), (2, .int x), (0, .ref (ad E 16 0)), (1, .int (nI c))]) X 0 dX3_goesOn_155 rfl (nI_1 (12 * c + i)) (by decide) rfl ?_
          refine k_goto (tgt := 104) X dX3_goesOn_158 (by decide) ?_
          refine k_mem (μ' := up μ 30 0 (12 * c) (i + 1) (fun b => if μ 29 0 (12 * c + b) = x ∧ μ 30 0 (12 * c + b) = 0 then 100 else μ 30 0 (12 * c + b))) (up_st (if_pos ⟨c131, c140⟩).symm) ?_
          exact ih (i + 1) (by omega) (by omega)

set_option maxHeartbeats 4000000 in
set_option maxRecDepth 100000 in
theorem L_goesOn {E : EE} {C : Ctx} (c n : Nat) (hc : c < 20) (hn12 : n ≤ 12) (X : Cx E C cX3_goesOn RX3 4 (rm 3 0)) : ∀ (f : Nat) (μ : Mem), mz μ c < f → QW μ c n → μ 25 0 c = nI n → EndV E C cX3_goesOn 0 0 (mgM c n f μ) → KF E C 0 0 μ 0 [(0, .ref (ad E 16 0)), (1, .int (nI c))] [] := by
  intro f
  induction f with
  | zero => intros; omega
  | succ f ih =>
    intro μ hz hW hn hE
    refine k_aload_n X 0 dX3_goesOn_0 rfl rfl ?_
    refine gt_X3_29 X dX3_goesOn_1 ?_
    refine k_iload_n X 1 dX3_goesOn_4 rfl rfl ?_
    refine k_iald (a := 23) (j := c) X rfl (by decide) rfl (show c < 20 from hc) (by decide) dX3_goesOn_5 ?_
    refine k_iconst X (-1) dX3_goesOn_6 (by decide) ?_
    refine k_icmp_ne (tgt := 180) X dX3_goesOn_7 (by decide) (fun c7 => ?_) (fun c7 => ?_)
    · exact k_vret dX3_goesOn_180 hE (if_neg (fun h => c7 h.1)).symm
    · refine k_aload_n X 0 dX3_goesOn_10 rfl rfl ?_
      refine k_iload_n X 1 dX3_goesOn_11 rfl rfl ?_
      refine k_callV (a := 16) (o := 0) (As := [.int (nI c)]) (S := []) X lk_X3_102 rfl (by decide) rfl (C_X3_isBusy c n hc hn hn12) rfl rfl (Nat.le_of_ble_eq_true rfl) ⟨Nat.le_of_ble_eq_true rfl, Nat.le_of_ble_eq_true rfl⟩ ⟨Nat.le_of_ble_eq_true rfl, Nat.le_of_ble_eq_true rfl⟩ dX3_goesOn_12 ?_
      show KF E C 0 0 μ 15 _ [.int (bp (anB (mwP μ c) n = true))]
      refine k_if_ne_p (tgt := 180) X dX3_goesOn_15 (by decide) (fun c15 => ?_) (fun c15 => ?_)
      · exact k_vret dX3_goesOn_180 hE (if_neg (fun h => h.2 c15)).symm
      · refine k_iconst X (-1) dX3_goesOn_18 (by decide) ?_
        refine k_istore_n (L' := [(2, .int (-1)), (0, .ref (ad E 16 0)), (1, .int (nI c))]) X dX3_goesOn_19 rfl (by decide) rfl ?_
        refine k_bipush X 12 dX3_goesOn_20 (by decide) ?_
        refine k_iload_n X 2 dX3_goesOn_22 rfl rfl ?_
        refine k_imul X dX3_goesOn_23 ?_
        refine k_val (y := nI (12 * c)) (pk_mul _ _) ?_
        refine k_istore_n (L' := [(3, .int (nI (12 * c))), (2, .int (-1)), (0, .ref (ad E 16 0)), (1, .int (nI c))]) X dX3_goesOn_24 rfl (by decide) rfl ?_
        refine L_goes1 c n hc hn hn12 X ?_ (n + 1) 0 (by omega) (Nat.zero_le n)
        refine k_aload_n X 1 dX3_goesOn_82 rfl rfl ?_
        refine gt_X3_38 X dX3_goesOn_83 ?_
        refine k_iload_n X 2 dX3_goesOn_86 rfl rfl ?_
        refine k_iload_n X 0 dX3_goesOn_87 rfl rfl ?_
        refine k_iast (a := 26) (j := c) X rfl (by decide) rfl (show c < 20 from hc) (by decide) dX3_goesOn_88 ?_
        refine k_aload_n X 1 dX3_goesOn_89 rfl rfl ?_
        refine gt_X3_41 X dX3_goesOn_90 ?_
        refine k_iload_n X 2 dX3_goesOn_93 rfl rfl ?_
        refine k_aload_n X 1 dX3_goesOn_94 rfl rfl ?_
        refine gt_X3_67 X dX3_goesOn_95 ?_
        refine k_val (y := μ 16 0 1) (st_k (by decide)) ?_
        refine k_iast (a := 27) (j := c) X rfl (by decide) rfl (show c < 20 from hc) (by decide) dX3_goesOn_98 ?_
        refine k_bipush X 12 dX3_goesOn_99 (by decide) ?_
        refine k_iload_n X 2 dX3_goesOn_101 rfl rfl ?_
        refine k_imul X dX3_goesOn_102 ?_
        refine k_val (y := nI (12 * c)) (pk_mul _ _) ?_
        refine k_istore_n (L' := [(3, .int (nI (12 * c))), (2, .int (nxF μ c n)), (0, .ref (ad E 16 0)), (1, .int (nI c))]) X dX3_goesOn_103 rfl (by decide) rfl ?_
        refine k_mem (μ' := up (st (st μ 26 0 c (nxF μ c n)) 27 0 c (μ 16 0 1)) 30 0 (12 * c) 0 (fun b => if (st (st μ 26 0 c (nxF μ c n)) 27 0 c (μ 16 0 1)) 29 0 (12 * c + b) = nxF μ c n ∧ (st (st μ 26 0 c (nxF μ c n)) 27 0 c (μ 16 0 1)) 30 0 (12 * c + b) = 0 then 100 else (st (st μ 26 0 c (nxF μ c n)) 27 0 c (μ 16 0 1)) 30 0 (12 * c + b))) up_0.symm ?_
        refine L_goes2 c n hc (by simp [st, hn]) hn12 (nxF μ c n) X ?_ (n + 1) 0 (by omega) (Nat.zero_le n)
        show KF E C 0 0 (gs1 μ c n) 161 _ _
        refine k_iload_n X 0 dX3_goesOn_161 rfl rfl ?_
        refine k_iconst X (-1) dX3_goesOn_162 (by decide) ?_
        refine k_icmp_ne (tgt := 177) X dX3_goesOn_163 (by decide) (fun c163 => ?_) (fun c163 => ?_)
        · refine k_goto (tgt := 0) X dX3_goesOn_177 (by decide) ?_
          have e1 : gsM μ c n = gs1 μ c n := if_neg c163
          have h9 := gs_ok hW c7
          refine k_mem (μ' := gsM μ c n) e1.symm ?_
          refine k_pick (L' := [(0, .ref (ad E 16 0)), (1, .int (nI c))]) [1, 2] rfl ?_
          exact ih (gsM μ c n) (by omega) h9.1 (h9.2.1.trans hn) (by rw [show mgM c n (f + 1) μ = mgM c n f (gsM μ c n) from if_pos ⟨c7, c15⟩] at hE; exact hE)
        · refine k_aload_n X 1 dX3_goesOn_166 rfl rfl ?_
          refine gt_X3_29 X dX3_goesOn_167 ?_
          refine k_iload_n X 2 dX3_goesOn_170 rfl rfl ?_
          refine k_aload_n X 1 dX3_goesOn_171 rfl rfl ?_
          refine k_iload_n X 2 dX3_goesOn_172 rfl rfl ?_
          refine k_callV (a := 16) (o := 0) (As := [.int (nI c)]) (S := [.int (nI c), .ref (ad E 23 0)]) X lk_X3_105 rfl (by decide) rfl (C_X3_best c n hc (by rw [gs1_25]; exact hn) hn12) rfl rfl (Nat.le_of_ble_eq_true rfl) ⟨Nat.le_of_ble_eq_true rfl, Nat.le_of_ble_eq_true rfl⟩ ⟨Nat.le_of_ble_eq_true rfl, Nat.le_of_ble_eq_true rfl⟩ dX3_goesOn_173 ?_
          show KF E C 0 0 (gs1 μ c n) 176 _ [.int (mbI (mf (gs1 μ c n) c) n), .int (nI c), .ref (ad E 23 0)]
          refine k_iast (a := 23) (j := c) X rfl (by decide) rfl (show c < 20 from hc) (by decide) dX3_goesOn_176 ?_
          refine k_goto (tgt := 0) X dX3_goesOn_177 (by decide) ?_
          have e1 : gsM μ c n = st (gs1 μ c n) 23 0 c (mbI (mf (gs1 μ c n) c) n) := if_pos c163
          have h9 := gs_ok hW c7
          refine k_mem (μ' := gsM μ c n) e1.symm ?_
          refine k_pick (L' := [(0, .ref (ad E 16 0)), (1, .int (nI c))]) [1, 2] rfl ?_
          exact ih (gsM μ c n) (by omega) h9.1 (h9.2.1.trans hn) (by rw [show mgM c n (f + 1) μ = mgM c n f (gsM μ c n) from if_pos ⟨c7, c15⟩] at hE; exact hE)

set_option maxHeartbeats 4000000 in
set_option maxRecDepth 100000 in
theorem C_X3_goesOn {E : EE} {μ : Mem} (c : Nat) (hc : c < 20) (hv : vN (μ 25 0 c) 12) (hW : QW μ c (tN (μ 25 0 c))) : MM E yX3_goesOn cX3_goesOn 4 none (rm 3 0) [.ref (ad E 16 0), .int (nI c)] μ none (mGo μ c) := by
  refine MM.void (own := RX3) [(0, .ref (ad E 16 0)), (1, .int (nI c))] rfl rfl rfl (Nat.le_of_ble_eq_true rfl) (fun C X hE => ?_)
  exact L_goesOn c (tN (μ 25 0 c)) hc hv.2 X 14 μ (mz_le hW) hW hv.1 hE

set_option maxHeartbeats 4000000 in
set_option maxRecDepth 100000 in
theorem C_X3_isCall {E : EE} {μ : Mem} (v : Int32) : MM E yX3_isCall cX3_isCall 2 (some .boolean) (rm 2 0) [.ref (ad E 16 0), .int v] μ (some (.int (bp (¬ (v < 0 ∨ μ 16 0 8 - 1 < v))))) μ := by
  refine MM.int (own := RX3) [(0, .ref (ad E 16 0)), (1, .int v)] rfl rfl rfl (Nat.le_of_ble_eq_true rfl) bp_nar (fun C X hE => ?_)
  refine k_iload_n X 1 dX3_isCall_0 rfl rfl ?_
  refine k_iconst X 0 dX3_isCall_1 (by decide) ?_
  refine k_aload_n X 0 dX3_isCall_2 rfl rfl ?_
  refine gt_X3_108 X dX3_isCall_3 ?_
  refine k_iconst X 1 dX3_isCall_6 (by decide) ?_
  refine k_isub X dX3_isCall_7 ?_
  refine k_callS (As := [.int v, .int 0, .int ((μ 16 0 8) - 1)]) (S := []) X lk_X3_63 (C_X3_isIn _ _ _) rfl rfl (Nat.le_of_ble_eq_true rfl) ⟨Nat.le_of_ble_eq_true rfl, Nat.le_of_ble_eq_true rfl⟩ ⟨Nat.le_of_ble_eq_true rfl, Nat.le_of_ble_eq_true rfl⟩ dX3_isCall_8 ?_
  show KF E C 0 0 μ 11 _ [.int (bp (¬ (v < 0 ∨ ((μ 16 0 8) - 1) < v)))]
  exact k_iret dX3_isCall_11 hE rfl rfl

set_option maxHeartbeats 4000000 in
set_option maxRecDepth 100000 in
theorem L_X3_branchOf {E : EE} {μ : Mem} {C : Ctx} (c n : Nat) (hc : c < 20) (hn : μ 25 0 c = nI n) (hn12 : n ≤ 12) (x : Int32) (X : Cx E C cX3_branchOf RX3 5 (rm 1 0)) (hE : EndI E C cX3_branchOf 0 0 (mlI μ c x n) μ) : ∀ (f : Nat) (i : Nat), n - i < f → i ≤ n → KF E C 0 0 μ 5 [(4, .int (nI i)), (3, .int (mlI μ c x i)), (0, .ref (ad E 16 0)), (1, .int (nI c)), (2, .int x)] [] := by
  intro f
  induction f with
  | zero => intros; omega
  | succ f ih =>
    intro i hf hi
    refine k_iload X 0 dX3_branchOf_5 rfl ?_
    refine k_aload_n X 2 dX3_branchOf_7 rfl rfl ?_
    refine gt_X3_35 X dX3_branchOf_8 ?_
    refine k_iload_n X 3 dX3_branchOf_11 rfl rfl ?_
    refine k_iald (a := 25) (j := c) X rfl (by decide) rfl (show c < 20 from hc) (by decide) dX3_branchOf_12 ?_
    refine k_val (y := nI n) hn ?_
    refine k_ge_n (a := i) (b := n) (tgt := 45) X dX3_branchOf_13 (by decide) rfl rfl (by omega) (by omega) (fun c13 => ?_) (fun c13 => ?_)
    · refine k_iload_n X 1 dX3_branchOf_45 rfl rfl ?_
      exact k_iret dX3_branchOf_46 hE (by rw [show i = n by omega]) rfl
    · refine k_aload_n X 2 dX3_branchOf_16 rfl rfl ?_
      refine gt_X3_44 X dX3_branchOf_17 ?_
      refine k_bipush X 12 dX3_branchOf_20 (by decide) ?_
      refine k_iload_n X 3 dX3_branchOf_22 rfl rfl ?_
      refine k_imul X dX3_branchOf_23 ?_
      refine k_val (y := nI (12 * c)) (pk_mul _ _) ?_
      refine k_iload X 0 dX3_branchOf_24 rfl ?_
      refine k_iadd X dX3_branchOf_26 ?_
      refine k_val (y := nI ((12 * c) + i)) (nI_add _ _) ?_
      refine k_iald (a := 28) (j := ((12 * c) + i)) X rfl (by decide) rfl (show ((12 * c) + i) < 240 by omega) (by decide) dX3_branchOf_27 ?_
      refine k_iload_n X 4 dX3_branchOf_28 rfl rfl ?_
      refine k_icmp_ne (tgt := 37) X dX3_branchOf_29 (by decide) (fun c29 => ?_) (fun c29 => ?_)
      · refine k_iload_n X 1 dX3_branchOf_37 rfl rfl ?_
        refine k_val (y := mlI μ c x (i + 1)) (mlI_b c29).symm ?_
        refine k_istore_n (L' := [(3, .int (mlI μ c x (i + 1))), (4, .int (nI i)), (0, .ref (ad E 16 0)), (1, .int (nI c)), (2, .int x)]) X dX3_branchOf_38 rfl (by decide) rfl ?_
        refine k_iinc (v := nI (i + 1)) (L' := [(4, .int (nI (i + 1))), (3, .int (mlI μ c x (i + 1))), (0, .ref (ad E 16 0)), (1, .int (nI c)), (2, .int x)]) X 1 dX3_branchOf_39 rfl (nI_1 i) (by decide) rfl ?_
        refine k_goto (tgt := 5) X dX3_branchOf_42 (by decide) ?_
        exact ih (i + 1) (by omega) (by omega)
      · refine k_iload X 0 dX3_branchOf_32 rfl ?_
        refine k_goto (tgt := 38) X dX3_branchOf_34 (by decide) ?_
        refine k_val (y := mlI μ c x (i + 1)) (mlI_a c29).symm ?_
        refine k_istore_n (L' := [(3, .int (mlI μ c x (i + 1))), (4, .int (nI i)), (0, .ref (ad E 16 0)), (1, .int (nI c)), (2, .int x)]) X dX3_branchOf_38 rfl (by decide) rfl ?_
        refine k_iinc (v := nI (i + 1)) (L' := [(4, .int (nI (i + 1))), (3, .int (mlI μ c x (i + 1))), (0, .ref (ad E 16 0)), (1, .int (nI c)), (2, .int x)]) X 1 dX3_branchOf_39 rfl (nI_1 i) (by decide) rfl ?_
        refine k_goto (tgt := 5) X dX3_branchOf_42 (by decide) ?_
        exact ih (i + 1) (by omega) (by omega)

set_option maxHeartbeats 4000000 in
set_option maxRecDepth 100000 in
theorem C_X3_branchOf {E : EE} {μ : Mem} (c n : Nat) (hc : c < 20) (hn : μ 25 0 c = nI n) (hn12 : n ≤ 12) (x : Int32) : MM E yX3_branchOf cX3_branchOf 5 (some .int) (rm 1 0) [.ref (ad E 16 0), .int (nI c), .int x] μ (some (.int (mlI μ c x n))) μ := by
  refine MM.int (own := RX3) [(0, .ref (ad E 16 0)), (1, .int (nI c)), (2, .int x)] rfl rfl rfl (Nat.le_of_ble_eq_true rfl) rfl (fun C X hE => ?_)
  refine k_iconst X (-1) dX3_branchOf_0 (by decide) ?_
  refine k_istore_n (L' := [(3, .int (-1)), (0, .ref (ad E 16 0)), (1, .int (nI c)), (2, .int x)]) X dX3_branchOf_1 rfl (by decide) rfl ?_
  refine k_iconst X (nI 0) dX3_branchOf_2 (by decide) ?_
  refine k_istore (L' := [(4, .int (nI 0)), (3, .int (-1)), (0, .ref (ad E 16 0)), (1, .int (nI c)), (2, .int x)]) X dX3_branchOf_3 (by decide) rfl ?_
  exact L_X3_branchOf c n hc hn hn12 x X hE (n + 1) 0 (by omega) (Nat.zero_le n)


set_option maxHeartbeats 4000000 in
set_option maxRecDepth 100000 in
theorem C_canAnswer_no {E : EE} {μ : Mem} (c n : Nat) (hc : c < 20) (hn : μ 25 0 c = nI n) (hn12 : n ≤ 12) (dv cd : Int32) (hl : mlI μ c dv n = -1) : MM E yX3_canAnswer cX3_canAnswer 7 (some .boolean) (rm 2 0) [.ref (ad E 16 0), .int (nI c), .int dv, .int cd] μ (some (.int 0)) μ := by
  refine MM.int (own := RX3) [(0, .ref (ad E 16 0)), (1, .int (nI c)), (2, .int dv), (3, .int cd)] rfl rfl rfl (Nat.le_of_ble_eq_true rfl) rfl (fun C X hE => ?_)
  refine k_aload_n X 0 dX3_canAnswer_0 rfl rfl ?_
  refine k_iload_n X 1 dX3_canAnswer_1 rfl rfl ?_
  refine k_iload_n X 2 dX3_canAnswer_2 rfl rfl ?_
  refine k_callV (a := 16) (o := 0) (As := [.int (nI c), .int dv]) (S := []) X lk_X3_119 rfl (by decide) rfl (C_X3_branchOf c n hc hn hn12 _) rfl rfl (Nat.le_of_ble_eq_true rfl) ⟨Nat.le_of_ble_eq_true rfl, Nat.le_of_ble_eq_true rfl⟩ ⟨Nat.le_of_ble_eq_true rfl, Nat.le_of_ble_eq_true rfl⟩ dX3_canAnswer_3 ?_
  show KF E C 0 0 μ 6 _ [.int (mlI μ c dv n)]
  refine k_val (y := (-1)) hl ?_
  refine k_istore (L' := [(4, .int (-1)), (0, .ref (ad E 16 0)), (1, .int (nI c)), (2, .int dv), (3, .int cd)]) X dX3_canAnswer_6 (by decide) rfl ?_
  refine k_bipush X 12 dX3_canAnswer_8 (by decide) ?_
  refine k_iload_n X 2 dX3_canAnswer_10 rfl rfl ?_
  refine k_imul X dX3_canAnswer_11 ?_
  refine k_val (y := nI (12 * c)) (pk_mul _ _) ?_
  refine k_iload X 0 dX3_canAnswer_12 rfl ?_
  refine k_iadd X dX3_canAnswer_14 ?_
  refine k_istore (L' := [(5, .int ((nI (12 * c)) + (-1))), (4, .int (-1)), (0, .ref (ad E 16 0)), (1, .int (nI c)), (2, .int dv), (3, .int cd)]) X dX3_canAnswer_15 (by decide) rfl ?_
  refine k_iload X 1 dX3_canAnswer_17 rfl ?_
  refine k_iconst X (-1) dX3_canAnswer_19 (by decide) ?_
  refine k_icmp_eq_t (tgt := 39) X dX3_canAnswer_20 (by decide) rfl ?_
  refine k_iconst X 0 dX3_canAnswer_39 (by decide) ?_
  exact k_iret dX3_canAnswer_40 hE rfl rfl

set_option maxHeartbeats 4000000 in
set_option maxRecDepth 100000 in
theorem C_canAnswer {E : EE} {μ : Mem} (c n : Nat) (hc : c < 20) (hn : μ 25 0 c = nI n) (hn12 : n ≤ 12) (dv cd : Int32) (b : Nat) (hb : b < n) (hl : mlI μ c dv n = nI b) : MM E yX3_canAnswer cX3_canAnswer 7 (some .boolean) (rm 2 0) [.ref (ad E 16 0), .int (nI c), .int dv, .int cd] μ (some (.int (bp (μ 26 0 c ≤ μ 29 0 (12 * c + b) ∧ (¬ 200 ≤ μ 30 0 (12 * c + b) ∨ ((μ 30 0 (12 * c + b) = 487 ∨ μ 30 0 (12 * c + b) = 408) ∧ (¬ cd < 200 ∧ ¬ 299 < cd) ∧ μ 31 0 (12 * c + b) = 0)))))) μ := by
  refine MM.int (own := RX3) [(0, .ref (ad E 16 0)), (1, .int (nI c)), (2, .int dv), (3, .int cd)] rfl rfl rfl (Nat.le_of_ble_eq_true rfl) bp_nar (fun C X hE => ?_)
  refine k_aload_n X 0 dX3_canAnswer_0 rfl rfl ?_
  refine k_iload_n X 1 dX3_canAnswer_1 rfl rfl ?_
  refine k_iload_n X 2 dX3_canAnswer_2 rfl rfl ?_
  refine k_callV (a := 16) (o := 0) (As := [.int (nI c), .int dv]) (S := []) X lk_X3_119 rfl (by decide) rfl (C_X3_branchOf c n hc hn hn12 _) rfl rfl (Nat.le_of_ble_eq_true rfl) ⟨Nat.le_of_ble_eq_true rfl, Nat.le_of_ble_eq_true rfl⟩ ⟨Nat.le_of_ble_eq_true rfl, Nat.le_of_ble_eq_true rfl⟩ dX3_canAnswer_3 ?_
  show KF E C 0 0 μ 6 _ [.int (mlI μ c dv n)]
  refine k_val (y := nI b) hl ?_
  refine k_istore (L' := [(4, .int (nI b)), (0, .ref (ad E 16 0)), (1, .int (nI c)), (2, .int dv), (3, .int cd)]) X dX3_canAnswer_6 (by decide) rfl ?_
  refine k_bipush X 12 dX3_canAnswer_8 (by decide) ?_
  refine k_iload_n X 2 dX3_canAnswer_10 rfl rfl ?_
  refine k_imul X dX3_canAnswer_11 ?_
  refine k_val (y := nI (12 * c)) (pk_mul _ _) ?_
  refine k_iload X 0 dX3_canAnswer_12 rfl ?_
  refine k_iadd X dX3_canAnswer_14 ?_
  refine k_val (y := nI ((12 * c) + b)) (nI_add _ _) ?_
  refine k_istore (L' := [(5, .int (nI ((12 * c) + b))), (4, .int (nI b)), (0, .ref (ad E 16 0)), (1, .int (nI c)), (2, .int dv), (3, .int cd)]) X dX3_canAnswer_15 (by decide) rfl ?_
  refine k_iload X 1 dX3_canAnswer_17 rfl ?_
  refine k_iconst X (-1) dX3_canAnswer_19 (by decide) ?_
  refine k_icmp_eq_f (tgt := 39) X dX3_canAnswer_20 (by decide) (fun h => absurd h (nI_ne1 (by omega))) ?_
  refine k_aload_n X 2 dX3_canAnswer_23 rfl rfl ?_
  refine gt_X3_47 X dX3_canAnswer_24 ?_
  refine k_iload X 0 dX3_canAnswer_27 rfl ?_
  refine k_iald (a := 29) (j := ((12 * c) + b)) X rfl (by decide) rfl (show ((12 * c) + b) < 240 by omega) (by decide) dX3_canAnswer_29 ?_
  refine k_aload_n X 2 dX3_canAnswer_30 rfl rfl ?_
  refine gt_X3_38 X dX3_canAnswer_31 ?_
  refine k_iload_n X 3 dX3_canAnswer_34 rfl rfl ?_
  refine k_iald (a := 26) (j := c) X rfl (by decide) rfl (show c < 20 by omega) (by decide) dX3_canAnswer_35 ?_
  refine k_icmp_ge (tgt := 41) X dX3_canAnswer_36 (by decide) (fun c36 => ?_) (fun c36 => ?_)
  · refine k_aload_n X 2 dX3_canAnswer_41 rfl rfl ?_
    refine gt_X3_50 X dX3_canAnswer_42 ?_
    refine k_iload X 0 dX3_canAnswer_45 rfl ?_
    refine k_iald (a := 30) (j := ((12 * c) + b)) X rfl (by decide) rfl (show ((12 * c) + b) < 240 by omega) (by decide) dX3_canAnswer_47 ?_
    refine k_sipush X 487 dX3_canAnswer_48 (by decide) ?_
    refine k_icmp_eq (tgt := 67) X dX3_canAnswer_51 (by decide) (fun c51 => ?_) (fun c51 => ?_)
    · refine k_iload_n X 5 dX3_canAnswer_67 rfl rfl ?_
      refine k_sipush X 200 dX3_canAnswer_68 (by decide) ?_
      refine k_icmp_lt (tgt := 85) X dX3_canAnswer_71 (by decide) (fun c71 => ?_) (fun c71 => ?_)
      · refine k_iconst X 0 dX3_canAnswer_85 (by decide) ?_
        refine k_istore (L' := [(6, .int 0), (5, .int (nI ((12 * c) + b))), (4, .int (nI b)), (0, .ref (ad E 16 0)), (1, .int (nI c)), (2, .int dv), (3, .int cd)]) X dX3_canAnswer_86 (by decide) rfl ?_
        refine k_aload_n X 3 dX3_canAnswer_88 rfl rfl ?_
        refine gt_X3_50 X dX3_canAnswer_89 ?_
        refine k_iload X 1 dX3_canAnswer_92 rfl ?_
        refine k_iald (a := 30) (j := ((12 * c) + b)) X rfl (by decide) rfl (show ((12 * c) + b) < 240 by omega) (by decide) dX3_canAnswer_94 ?_
        refine k_callS (As := [.int (μ 30 0 ((12 * c) + b))]) (S := []) X lk_X3_99 (C_X3_hasEnded _) rfl rfl (Nat.le_of_ble_eq_true rfl) ⟨Nat.le_of_ble_eq_true rfl, Nat.le_of_ble_eq_true rfl⟩ ⟨Nat.le_of_ble_eq_true rfl, Nat.le_of_ble_eq_true rfl⟩ dX3_canAnswer_95 ?_
        show KF E C 0 0 μ 98 _ [.int (bp (200 ≤ (μ 30 0 ((12 * c) + b))))]
        refine k_if_eq_p (tgt := 116) X dX3_canAnswer_98 (by decide) (fun c98 => ?_) (fun c98 => ?_)
        · refine k_iconst X 1 dX3_canAnswer_116 (by decide) ?_
          refine k_goto (tgt := 121) X dX3_canAnswer_117 (by decide) ?_
          exact k_iret dX3_canAnswer_121 hE (bp_t ⟨c36, Or.inl c98⟩).symm rfl
        · refine k_iload X 0 dX3_canAnswer_101 rfl ?_
          refine k_if_eq_t (tgt := 120) X dX3_canAnswer_103 (by decide) rfl ?_
          refine k_iconst X 0 dX3_canAnswer_120 (by decide) ?_
          exact k_iret dX3_canAnswer_121 hE (bp_f (fun h => h.2.elim (fun q => q c98) (fun q => q.2.1.1 c71))).symm rfl
      · refine k_iload_n X 5 dX3_canAnswer_74 rfl rfl ?_
        refine k_sipush X 299 dX3_canAnswer_75 (by decide) ?_
        refine k_icmp_gt (tgt := 85) X dX3_canAnswer_78 (by decide) (fun c78 => ?_) (fun c78 => ?_)
        · refine k_iconst X 0 dX3_canAnswer_85 (by decide) ?_
          refine k_istore (L' := [(6, .int 0), (5, .int (nI ((12 * c) + b))), (4, .int (nI b)), (0, .ref (ad E 16 0)), (1, .int (nI c)), (2, .int dv), (3, .int cd)]) X dX3_canAnswer_86 (by decide) rfl ?_
          refine k_aload_n X 3 dX3_canAnswer_88 rfl rfl ?_
          refine gt_X3_50 X dX3_canAnswer_89 ?_
          refine k_iload X 1 dX3_canAnswer_92 rfl ?_
          refine k_iald (a := 30) (j := ((12 * c) + b)) X rfl (by decide) rfl (show ((12 * c) + b) < 240 by omega) (by decide) dX3_canAnswer_94 ?_
          refine k_callS (As := [.int (μ 30 0 ((12 * c) + b))]) (S := []) X lk_X3_99 (C_X3_hasEnded _) rfl rfl (Nat.le_of_ble_eq_true rfl) ⟨Nat.le_of_ble_eq_true rfl, Nat.le_of_ble_eq_true rfl⟩ ⟨Nat.le_of_ble_eq_true rfl, Nat.le_of_ble_eq_true rfl⟩ dX3_canAnswer_95 ?_
          show KF E C 0 0 μ 98 _ [.int (bp (200 ≤ (μ 30 0 ((12 * c) + b))))]
          refine k_if_eq_p (tgt := 116) X dX3_canAnswer_98 (by decide) (fun c98 => ?_) (fun c98 => ?_)
          · refine k_iconst X 1 dX3_canAnswer_116 (by decide) ?_
            refine k_goto (tgt := 121) X dX3_canAnswer_117 (by decide) ?_
            exact k_iret dX3_canAnswer_121 hE (bp_t ⟨c36, Or.inl c98⟩).symm rfl
          · refine k_iload X 0 dX3_canAnswer_101 rfl ?_
            refine k_if_eq_t (tgt := 120) X dX3_canAnswer_103 (by decide) rfl ?_
            refine k_iconst X 0 dX3_canAnswer_120 (by decide) ?_
            exact k_iret dX3_canAnswer_121 hE (bp_f (fun h => h.2.elim (fun q => q c98) (fun q => q.2.1.2 c78))).symm rfl
        · refine k_iconst X 1 dX3_canAnswer_81 (by decide) ?_
          refine k_goto (tgt := 86) X dX3_canAnswer_82 (by decide) ?_
          refine k_istore (L' := [(6, .int 1), (5, .int (nI ((12 * c) + b))), (4, .int (nI b)), (0, .ref (ad E 16 0)), (1, .int (nI c)), (2, .int dv), (3, .int cd)]) X dX3_canAnswer_86 (by decide) rfl ?_
          refine k_aload_n X 3 dX3_canAnswer_88 rfl rfl ?_
          refine gt_X3_50 X dX3_canAnswer_89 ?_
          refine k_iload X 1 dX3_canAnswer_92 rfl ?_
          refine k_iald (a := 30) (j := ((12 * c) + b)) X rfl (by decide) rfl (show ((12 * c) + b) < 240 by omega) (by decide) dX3_canAnswer_94 ?_
          refine k_callS (As := [.int (μ 30 0 ((12 * c) + b))]) (S := []) X lk_X3_99 (C_X3_hasEnded _) rfl rfl (Nat.le_of_ble_eq_true rfl) ⟨Nat.le_of_ble_eq_true rfl, Nat.le_of_ble_eq_true rfl⟩ ⟨Nat.le_of_ble_eq_true rfl, Nat.le_of_ble_eq_true rfl⟩ dX3_canAnswer_95 ?_
          show KF E C 0 0 μ 98 _ [.int (bp (200 ≤ (μ 30 0 ((12 * c) + b))))]
          refine k_if_eq_p (tgt := 116) X dX3_canAnswer_98 (by decide) (fun c98 => ?_) (fun c98 => ?_)
          · refine k_iconst X 1 dX3_canAnswer_116 (by decide) ?_
            refine k_goto (tgt := 121) X dX3_canAnswer_117 (by decide) ?_
            exact k_iret dX3_canAnswer_121 hE (bp_t ⟨c36, Or.inl c98⟩).symm rfl
          · refine k_iload X 0 dX3_canAnswer_101 rfl ?_
            refine k_if_eq_f (tgt := 120) X dX3_canAnswer_103 (by decide) (by decide) ?_
            refine k_aload_n X 3 dX3_canAnswer_106 rfl rfl ?_
            refine gt_X3_53 X dX3_canAnswer_107 ?_
            refine k_iload X 1 dX3_canAnswer_110 rfl ?_
            refine k_zald (a := 31) (j := ((12 * c) + b)) X rfl (by decide) rfl (show ((12 * c) + b) < 240 by omega) (by decide) dX3_canAnswer_112 ?_
            refine k_if_ne (tgt := 120) X dX3_canAnswer_113 (by decide) (fun c113 => ?_) (fun c113 => ?_)
            · refine k_iconst X 0 dX3_canAnswer_120 (by decide) ?_
              exact k_iret dX3_canAnswer_121 hE (bp_f (fun h => h.2.elim (fun q => q c98) (fun q => c113 q.2.2))).symm rfl
            · refine k_iconst X 1 dX3_canAnswer_116 (by decide) ?_
              refine k_goto (tgt := 121) X dX3_canAnswer_117 (by decide) ?_
              exact k_iret dX3_canAnswer_121 hE (bp_t ⟨c36, Or.inr ⟨Or.inl c51, ⟨c71, c78⟩, c113⟩⟩).symm rfl
    · refine k_aload_n X 2 dX3_canAnswer_54 rfl rfl ?_
      refine gt_X3_50 X dX3_canAnswer_55 ?_
      refine k_iload X 0 dX3_canAnswer_58 rfl ?_
      refine k_iald (a := 30) (j := ((12 * c) + b)) X rfl (by decide) rfl (show ((12 * c) + b) < 240 by omega) (by decide) dX3_canAnswer_60 ?_
      refine k_sipush X 408 dX3_canAnswer_61 (by decide) ?_
      refine k_icmp_ne (tgt := 85) X dX3_canAnswer_64 (by decide) (fun c64 => ?_) (fun c64 => ?_)
      · refine k_iconst X 0 dX3_canAnswer_85 (by decide) ?_
        refine k_istore (L' := [(6, .int 0), (5, .int (nI ((12 * c) + b))), (4, .int (nI b)), (0, .ref (ad E 16 0)), (1, .int (nI c)), (2, .int dv), (3, .int cd)]) X dX3_canAnswer_86 (by decide) rfl ?_
        refine k_aload_n X 3 dX3_canAnswer_88 rfl rfl ?_
        refine gt_X3_50 X dX3_canAnswer_89 ?_
        refine k_iload X 1 dX3_canAnswer_92 rfl ?_
        refine k_iald (a := 30) (j := ((12 * c) + b)) X rfl (by decide) rfl (show ((12 * c) + b) < 240 by omega) (by decide) dX3_canAnswer_94 ?_
        refine k_callS (As := [.int (μ 30 0 ((12 * c) + b))]) (S := []) X lk_X3_99 (C_X3_hasEnded _) rfl rfl (Nat.le_of_ble_eq_true rfl) ⟨Nat.le_of_ble_eq_true rfl, Nat.le_of_ble_eq_true rfl⟩ ⟨Nat.le_of_ble_eq_true rfl, Nat.le_of_ble_eq_true rfl⟩ dX3_canAnswer_95 ?_
        show KF E C 0 0 μ 98 _ [.int (bp (200 ≤ (μ 30 0 ((12 * c) + b))))]
        refine k_if_eq_p (tgt := 116) X dX3_canAnswer_98 (by decide) (fun c98 => ?_) (fun c98 => ?_)
        · refine k_iconst X 1 dX3_canAnswer_116 (by decide) ?_
          refine k_goto (tgt := 121) X dX3_canAnswer_117 (by decide) ?_
          exact k_iret dX3_canAnswer_121 hE (bp_t ⟨c36, Or.inl c98⟩).symm rfl
        · refine k_iload X 0 dX3_canAnswer_101 rfl ?_
          refine k_if_eq_t (tgt := 120) X dX3_canAnswer_103 (by decide) rfl ?_
          refine k_iconst X 0 dX3_canAnswer_120 (by decide) ?_
          exact k_iret dX3_canAnswer_121 hE (bp_f (fun h => h.2.elim (fun q => q c98) (fun q => q.1.elim c51 c64))).symm rfl
      · refine k_iload_n X 5 dX3_canAnswer_67 rfl rfl ?_
        refine k_sipush X 200 dX3_canAnswer_68 (by decide) ?_
        refine k_icmp_lt (tgt := 85) X dX3_canAnswer_71 (by decide) (fun c71 => ?_) (fun c71 => ?_)
        · refine k_iconst X 0 dX3_canAnswer_85 (by decide) ?_
          refine k_istore (L' := [(6, .int 0), (5, .int (nI ((12 * c) + b))), (4, .int (nI b)), (0, .ref (ad E 16 0)), (1, .int (nI c)), (2, .int dv), (3, .int cd)]) X dX3_canAnswer_86 (by decide) rfl ?_
          refine k_aload_n X 3 dX3_canAnswer_88 rfl rfl ?_
          refine gt_X3_50 X dX3_canAnswer_89 ?_
          refine k_iload X 1 dX3_canAnswer_92 rfl ?_
          refine k_iald (a := 30) (j := ((12 * c) + b)) X rfl (by decide) rfl (show ((12 * c) + b) < 240 by omega) (by decide) dX3_canAnswer_94 ?_
          refine k_callS (As := [.int (μ 30 0 ((12 * c) + b))]) (S := []) X lk_X3_99 (C_X3_hasEnded _) rfl rfl (Nat.le_of_ble_eq_true rfl) ⟨Nat.le_of_ble_eq_true rfl, Nat.le_of_ble_eq_true rfl⟩ ⟨Nat.le_of_ble_eq_true rfl, Nat.le_of_ble_eq_true rfl⟩ dX3_canAnswer_95 ?_
          show KF E C 0 0 μ 98 _ [.int (bp (200 ≤ (μ 30 0 ((12 * c) + b))))]
          refine k_if_eq_p (tgt := 116) X dX3_canAnswer_98 (by decide) (fun c98 => ?_) (fun c98 => ?_)
          · refine k_iconst X 1 dX3_canAnswer_116 (by decide) ?_
            refine k_goto (tgt := 121) X dX3_canAnswer_117 (by decide) ?_
            exact k_iret dX3_canAnswer_121 hE (bp_t ⟨c36, Or.inl c98⟩).symm rfl
          · refine k_iload X 0 dX3_canAnswer_101 rfl ?_
            refine k_if_eq_t (tgt := 120) X dX3_canAnswer_103 (by decide) rfl ?_
            refine k_iconst X 0 dX3_canAnswer_120 (by decide) ?_
            exact k_iret dX3_canAnswer_121 hE (bp_f (fun h => h.2.elim (fun q => q c98) (fun q => q.2.1.1 c71))).symm rfl
        · refine k_iload_n X 5 dX3_canAnswer_74 rfl rfl ?_
          refine k_sipush X 299 dX3_canAnswer_75 (by decide) ?_
          refine k_icmp_gt (tgt := 85) X dX3_canAnswer_78 (by decide) (fun c78 => ?_) (fun c78 => ?_)
          · refine k_iconst X 0 dX3_canAnswer_85 (by decide) ?_
            refine k_istore (L' := [(6, .int 0), (5, .int (nI ((12 * c) + b))), (4, .int (nI b)), (0, .ref (ad E 16 0)), (1, .int (nI c)), (2, .int dv), (3, .int cd)]) X dX3_canAnswer_86 (by decide) rfl ?_
            refine k_aload_n X 3 dX3_canAnswer_88 rfl rfl ?_
            refine gt_X3_50 X dX3_canAnswer_89 ?_
            refine k_iload X 1 dX3_canAnswer_92 rfl ?_
            refine k_iald (a := 30) (j := ((12 * c) + b)) X rfl (by decide) rfl (show ((12 * c) + b) < 240 by omega) (by decide) dX3_canAnswer_94 ?_
            refine k_callS (As := [.int (μ 30 0 ((12 * c) + b))]) (S := []) X lk_X3_99 (C_X3_hasEnded _) rfl rfl (Nat.le_of_ble_eq_true rfl) ⟨Nat.le_of_ble_eq_true rfl, Nat.le_of_ble_eq_true rfl⟩ ⟨Nat.le_of_ble_eq_true rfl, Nat.le_of_ble_eq_true rfl⟩ dX3_canAnswer_95 ?_
            show KF E C 0 0 μ 98 _ [.int (bp (200 ≤ (μ 30 0 ((12 * c) + b))))]
            refine k_if_eq_p (tgt := 116) X dX3_canAnswer_98 (by decide) (fun c98 => ?_) (fun c98 => ?_)
            · refine k_iconst X 1 dX3_canAnswer_116 (by decide) ?_
              refine k_goto (tgt := 121) X dX3_canAnswer_117 (by decide) ?_
              exact k_iret dX3_canAnswer_121 hE (bp_t ⟨c36, Or.inl c98⟩).symm rfl
            · refine k_iload X 0 dX3_canAnswer_101 rfl ?_
              refine k_if_eq_t (tgt := 120) X dX3_canAnswer_103 (by decide) rfl ?_
              refine k_iconst X 0 dX3_canAnswer_120 (by decide) ?_
              exact k_iret dX3_canAnswer_121 hE (bp_f (fun h => h.2.elim (fun q => q c98) (fun q => q.2.1.2 c78))).symm rfl
          · refine k_iconst X 1 dX3_canAnswer_81 (by decide) ?_
            refine k_goto (tgt := 86) X dX3_canAnswer_82 (by decide) ?_
            refine k_istore (L' := [(6, .int 1), (5, .int (nI ((12 * c) + b))), (4, .int (nI b)), (0, .ref (ad E 16 0)), (1, .int (nI c)), (2, .int dv), (3, .int cd)]) X dX3_canAnswer_86 (by decide) rfl ?_
            refine k_aload_n X 3 dX3_canAnswer_88 rfl rfl ?_
            refine gt_X3_50 X dX3_canAnswer_89 ?_
            refine k_iload X 1 dX3_canAnswer_92 rfl ?_
            refine k_iald (a := 30) (j := ((12 * c) + b)) X rfl (by decide) rfl (show ((12 * c) + b) < 240 by omega) (by decide) dX3_canAnswer_94 ?_
            refine k_callS (As := [.int (μ 30 0 ((12 * c) + b))]) (S := []) X lk_X3_99 (C_X3_hasEnded _) rfl rfl (Nat.le_of_ble_eq_true rfl) ⟨Nat.le_of_ble_eq_true rfl, Nat.le_of_ble_eq_true rfl⟩ ⟨Nat.le_of_ble_eq_true rfl, Nat.le_of_ble_eq_true rfl⟩ dX3_canAnswer_95 ?_
            show KF E C 0 0 μ 98 _ [.int (bp (200 ≤ (μ 30 0 ((12 * c) + b))))]
            refine k_if_eq_p (tgt := 116) X dX3_canAnswer_98 (by decide) (fun c98 => ?_) (fun c98 => ?_)
            · refine k_iconst X 1 dX3_canAnswer_116 (by decide) ?_
              refine k_goto (tgt := 121) X dX3_canAnswer_117 (by decide) ?_
              exact k_iret dX3_canAnswer_121 hE (bp_t ⟨c36, Or.inl c98⟩).symm rfl
            · refine k_iload X 0 dX3_canAnswer_101 rfl ?_
              refine k_if_eq_f (tgt := 120) X dX3_canAnswer_103 (by decide) (by decide) ?_
              refine k_aload_n X 3 dX3_canAnswer_106 rfl rfl ?_
              refine gt_X3_53 X dX3_canAnswer_107 ?_
              refine k_iload X 1 dX3_canAnswer_110 rfl ?_
              refine k_zald (a := 31) (j := ((12 * c) + b)) X rfl (by decide) rfl (show ((12 * c) + b) < 240 by omega) (by decide) dX3_canAnswer_112 ?_
              refine k_if_ne (tgt := 120) X dX3_canAnswer_113 (by decide) (fun c113 => ?_) (fun c113 => ?_)
              · refine k_iconst X 0 dX3_canAnswer_120 (by decide) ?_
                exact k_iret dX3_canAnswer_121 hE (bp_f (fun h => h.2.elim (fun q => q c98) (fun q => c113 q.2.2))).symm rfl
              · refine k_iconst X 1 dX3_canAnswer_116 (by decide) ?_
                refine k_goto (tgt := 121) X dX3_canAnswer_117 (by decide) ?_
                exact k_iret dX3_canAnswer_121 hE (bp_t ⟨c36, Or.inr ⟨Or.inr c64, ⟨c71, c78⟩, c113⟩⟩).symm rfl
  · refine k_iconst X 0 dX3_canAnswer_39 (by decide) ?_
    exact k_iret dX3_canAnswer_40 hE (bp_f (fun h => c36 h.1)).symm rfl

set_option maxHeartbeats 4000000 in
set_option maxRecDepth 100000 in
theorem L_X3_rings {E : EE} {μ : Mem} {C : Ctx} (c n : Nat) (hc : c < 20) (hn : μ 25 0 c = nI n) (hn12 : n ≤ 12) (X : Cx E C cX3_rings RX3 4 (rm 2 0)) (hE : EndV E C cX3_rings 0 0 (mrM μ c n)) : ∀ (f : Nat) (i : Nat), n - i < f → i ≤ n → KF E C 0 0 (up μ 30 0 (12 * c) i (fun b => if (¬ μ 29 0 (12 * c + b) < μ 26 0 c) ∧ (¬ 200 ≤ μ 30 0 (12 * c + b)) ∧ ¬ μ 16 0 1 < μ 27 0 c + 10 then 408 else μ 30 0 (12 * c + b))) 5 [(2, .int (nI (12 * c + i))), (0, .ref (ad E 16 0)), (1, .int (nI c))] [] := by
  intro f
  induction f with
  | zero => intros; omega
  | succ f ih =>
    intro i hf hi
    refine k_iload_n X 0 dX3_rings_5 rfl rfl ?_
    refine k_bipush X 12 dX3_rings_6 (by decide) ?_
    refine k_iload_n X 2 dX3_rings_8 rfl rfl ?_
    refine k_imul X dX3_rings_9 ?_
    refine k_val (y := nI (12 * c)) (pk_mul _ _) ?_
    refine k_aload_n X 1 dX3_rings_10 rfl rfl ?_
    refine gt_X3_35 X dX3_rings_11 ?_
    refine k_iload_n X 2 dX3_rings_14 rfl rfl ?_
    refine k_iald (a := 25) (j := c) X rfl (by decide) rfl (show c < 20 from hc) (by decide) dX3_rings_15 ?_
    refine k_val (y := nI n) (by simp [st, up, hn]) ?_
    refine k_iadd X dX3_rings_16 ?_
    refine k_val (y := nI ((12 * c) + n)) (nI_add _ _) ?_
    refine k_ge_n (a := (12 * c + i)) (b := (12 * c + n)) (tgt := 97) X dX3_rings_17 (by decide) rfl rfl (by omega) (by omega) (fun c17 => ?_) (fun c17 => ?_)
    · exact k_vret dX3_rings_97 hE (by rw [show i = n by omega]; rfl)
    · refine k_aload_n X 1 dX3_rings_20 rfl rfl ?_
      refine gt_X3_47 X dX3_rings_21 ?_
      refine k_iload_n X 0 dX3_rings_24 rfl rfl ?_
      refine k_iald (a := 29) (j := (12 * c + i)) X rfl (by decide) rfl (show (12 * c + i) < 240 by omega) (by decide) dX3_rings_25 ?_
      refine k_val (y := μ 29 0 (12 * c + i)) (up_k (by decide)) ?_
      refine k_aload_n X 1 dX3_rings_26 rfl rfl ?_
      refine gt_X3_38 X dX3_rings_27 ?_
      refine k_iload_n X 2 dX3_rings_30 rfl rfl ?_
      refine k_iald (a := 26) (j := c) X rfl (by decide) rfl (show c < 20 from hc) (by decide) dX3_rings_31 ?_
      refine k_val (y := μ 26 0 c) (up_k (by decide)) ?_
      refine k_icmp_lt (tgt := 67) X dX3_rings_32 (by decide) (fun c32 => ?_) (fun c32 => ?_)
      · refine k_iconst X 0 dX3_rings_67 (by decide) ?_
        refine k_istore_n (L' := [(3, .int 0), (2, .int (nI (12 * c + i))), (0, .ref (ad E 16 0)), (1, .int (nI c))]) X dX3_rings_68 rfl (by decide) rfl ?_
        refine k_aload_n X 2 dX3_rings_69 rfl rfl ?_
        refine gt_X3_50 X dX3_rings_70 ?_
        refine k_iload_n X 1 dX3_rings_73 rfl rfl ?_
        refine k_iload_n X 0 dX3_rings_74 rfl rfl ?_
        refine k_if_eq_t (tgt := 84) X dX3_rings_75 (by decide) rfl ?_
        refine k_aload_n X 2 dX3_rings_84 rfl rfl ?_
        refine gt_X3_50 X dX3_rings_85 ?_
        refine k_iload_n X 1 dX3_rings_88 rfl rfl ?_
        refine k_iald (a := 30) (j := (12 * c + i)) X rfl (by decide) rfl (show (12 * c + i) < 240 by omega) (by decide) dX3_rings_89 ?_
        refine k_val (y := μ 30 0 (12 * c + i)) up_next ?_
        refine k_iast (a := 30) (j := (12 * c + i)) X rfl (by decide) rfl (show (12 * c + i) < 240 by omega) (by decide) dX3_rings_90 ?_
        refine k_iinc (v := nI ((12 * c + i) + 1)) (L' := [(2, .int (nI ((12 * c + i) + 1))), (3, .int 0), (0, .ref (ad E 16 0)), (1, .int (nI c))]) X 1 dX3_rings_91 rfl (nI_1 (12 * c + i)) (by decide) rfl ?_
        refine k_goto (tgt := 5) X dX3_rings_94 (by decide) ?_
        refine k_mem (μ' := up μ 30 0 (12 * c) (i + 1) (fun b => if (¬ μ 29 0 (12 * c + b) < μ 26 0 c) ∧ (¬ 200 ≤ μ 30 0 (12 * c + b)) ∧ ¬ μ 16 0 1 < μ 27 0 c + 10 then 408 else μ 30 0 (12 * c + b))) (up_st (if_neg (fun h => h.1 c32)).symm) ?_
        refine k_pick (L' := [(2, .int (nI ((12 * c + i) + 1))), (0, .ref (ad E 16 0)), (1, .int (nI c))]) [0, 2, 3] rfl ?_
        exact ih (i + 1) (by omega) (by omega)
      · refine k_aload_n X 1 dX3_rings_35 rfl rfl ?_
        refine gt_X3_50 X dX3_rings_36 ?_
        refine k_iload_n X 0 dX3_rings_39 rfl rfl ?_
        refine k_iald (a := 30) (j := (12 * c + i)) X rfl (by decide) rfl (show (12 * c + i) < 240 by omega) (by decide) dX3_rings_40 ?_
        refine k_val (y := μ 30 0 (12 * c + i)) up_next ?_
        refine k_callS (As := [.int (μ 30 0 (12 * c + i))]) (S := []) X lk_X3_99 (C_X3_hasEnded _) rfl rfl (Nat.le_of_ble_eq_true rfl) ⟨Nat.le_of_ble_eq_true rfl, Nat.le_of_ble_eq_true rfl⟩ ⟨Nat.le_of_ble_eq_true rfl, Nat.le_of_ble_eq_true rfl⟩ dX3_rings_41 ?_
        show KF E C 0 0 (up μ 30 0 (12 * c) i (fun b => if (¬ μ 29 0 (12 * c + b) < μ 26 0 c) ∧ (¬ 200 ≤ μ 30 0 (12 * c + b)) ∧ ¬ μ 16 0 1 < μ 27 0 c + 10 then 408 else μ 30 0 (12 * c + b))) 44 _ [.int (bp (200 ≤ (μ 30 0 (12 * c + i))))]
        refine k_if_ne_p (tgt := 67) X dX3_rings_44 (by decide) (fun c44 => ?_) (fun c44 => ?_)
        · refine k_iconst X 0 dX3_rings_67 (by decide) ?_
          refine k_istore_n (L' := [(3, .int 0), (2, .int (nI (12 * c + i))), (0, .ref (ad E 16 0)), (1, .int (nI c))]) X dX3_rings_68 rfl (by decide) rfl ?_
          refine k_aload_n X 2 dX3_rings_69 rfl rfl ?_
          refine gt_X3_50 X dX3_rings_70 ?_
          refine k_iload_n X 1 dX3_rings_73 rfl rfl ?_
          refine k_iload_n X 0 dX3_rings_74 rfl rfl ?_
          refine k_if_eq_t (tgt := 84) X dX3_rings_75 (by decide) rfl ?_
          refine k_aload_n X 2 dX3_rings_84 rfl rfl ?_
          refine gt_X3_50 X dX3_rings_85 ?_
          refine k_iload_n X 1 dX3_rings_88 rfl rfl ?_
          refine k_iald (a := 30) (j := (12 * c + i)) X rfl (by decide) rfl (show (12 * c + i) < 240 by omega) (by decide) dX3_rings_89 ?_
          refine k_val (y := μ 30 0 (12 * c + i)) up_next ?_
          refine k_iast (a := 30) (j := (12 * c + i)) X rfl (by decide) rfl (show (12 * c + i) < 240 by omega) (by decide) dX3_rings_90 ?_
          refine k_iinc (v := nI ((12 * c + i) + 1)) (L' := [(2, .int (nI ((12 * c + i) + 1))), (3, .int 0), (0, .ref (ad E 16 0)), (1, .int (nI c))]) X 1 dX3_rings_91 rfl (nI_1 (12 * c + i)) (by decide) rfl ?_
          refine k_goto (tgt := 5) X dX3_rings_94 (by decide) ?_
          refine k_mem (μ' := up μ 30 0 (12 * c) (i + 1) (fun b => if (¬ μ 29 0 (12 * c + b) < μ 26 0 c) ∧ (¬ 200 ≤ μ 30 0 (12 * c + b)) ∧ ¬ μ 16 0 1 < μ 27 0 c + 10 then 408 else μ 30 0 (12 * c + b))) (up_st (if_neg (fun h => h.2.1 c44)).symm) ?_
          refine k_pick (L' := [(2, .int (nI ((12 * c + i) + 1))), (0, .ref (ad E 16 0)), (1, .int (nI c))]) [0, 2, 3] rfl ?_
          exact ih (i + 1) (by omega) (by omega)
        · refine k_aload_n X 1 dX3_rings_47 rfl rfl ?_
          refine gt_X3_67 X dX3_rings_48 ?_
          refine k_val (y := μ 16 0 1) (up_k (by decide)) ?_
          refine k_aload_n X 1 dX3_rings_51 rfl rfl ?_
          refine gt_X3_41 X dX3_rings_52 ?_
          refine k_iload_n X 2 dX3_rings_55 rfl rfl ?_
          refine k_iald (a := 27) (j := c) X rfl (by decide) rfl (show c < 20 from hc) (by decide) dX3_rings_56 ?_
          refine k_val (y := μ 27 0 c) (up_k (by decide)) ?_
          refine k_bipush X 10 dX3_rings_57 (by decide) ?_
          refine k_iadd X dX3_rings_59 ?_
          refine k_icmp_lt (tgt := 67) X dX3_rings_60 (by decide) (fun c60 => ?_) (fun c60 => ?_)
          · refine k_iconst X 0 dX3_rings_67 (by decide) ?_
            refine k_istore_n (L' := [(3, .int 0), (2, .int (nI (12 * c + i))), (0, .ref (ad E 16 0)), (1, .int (nI c))]) X dX3_rings_68 rfl (by decide) rfl ?_
            refine k_aload_n X 2 dX3_rings_69 rfl rfl ?_
            refine gt_X3_50 X dX3_rings_70 ?_
            refine k_iload_n X 1 dX3_rings_73 rfl rfl ?_
            refine k_iload_n X 0 dX3_rings_74 rfl rfl ?_
            refine k_if_eq_t (tgt := 84) X dX3_rings_75 (by decide) rfl ?_
            refine k_aload_n X 2 dX3_rings_84 rfl rfl ?_
            refine gt_X3_50 X dX3_rings_85 ?_
            refine k_iload_n X 1 dX3_rings_88 rfl rfl ?_
            refine k_iald (a := 30) (j := (12 * c + i)) X rfl (by decide) rfl (show (12 * c + i) < 240 by omega) (by decide) dX3_rings_89 ?_
            refine k_val (y := μ 30 0 (12 * c + i)) up_next ?_
            refine k_iast (a := 30) (j := (12 * c + i)) X rfl (by decide) rfl (show (12 * c + i) < 240 by omega) (by decide) dX3_rings_90 ?_
            refine k_iinc (v := nI ((12 * c + i) + 1)) (L' := [(2, .int (nI ((12 * c + i) + 1))), (3, .int 0), (0, .ref (ad E 16 0)), (1, .int (nI c))]) X 1 dX3_rings_91 rfl (nI_1 (12 * c + i)) (by decide) rfl ?_
            refine k_goto (tgt := 5) X dX3_rings_94 (by decide) ?_
            refine k_mem (μ' := up μ 30 0 (12 * c) (i + 1) (fun b => if (¬ μ 29 0 (12 * c + b) < μ 26 0 c) ∧ (¬ 200 ≤ μ 30 0 (12 * c + b)) ∧ ¬ μ 16 0 1 < μ 27 0 c + 10 then 408 else μ 30 0 (12 * c + b))) (up_st (if_neg (fun h => h.2.2 c60)).symm) ?_
            refine k_pick (L' := [(2, .int (nI ((12 * c + i) + 1))), (0, .ref (ad E 16 0)), (1, .int (nI c))]) [0, 2, 3] rfl ?_
            exact ih (i + 1) (by omega) (by omega)
          · refine k_iconst X 1 dX3_rings_63 (by decide) ?_
            refine k_goto (tgt := 68) X dX3_rings_64 (by decide) ?_
            refine k_istore_n (L' := [(3, .int 1), (2, .int (nI (12 * c + i))), (0, .ref (ad E 16 0)), (1, .int (nI c))]) X dX3_rings_68 rfl (by decide) rfl ?_
            refine k_aload_n X 2 dX3_rings_69 rfl rfl ?_
            refine gt_X3_50 X dX3_rings_70 ?_
            refine k_iload_n X 1 dX3_rings_73 rfl rfl ?_
            refine k_iload_n X 0 dX3_rings_74 rfl rfl ?_
            refine k_if_eq_f (tgt := 84) X dX3_rings_75 (by decide) (by decide) ?_
            refine k_sipush X 408 dX3_rings_78 (by decide) ?_
            refine k_goto (tgt := 90) X dX3_rings_81 (by decide) ?_
            refine k_iast (a := 30) (j := (12 * c + i)) X rfl (by decide) rfl (show (12 * c + i) < 240 by omega) (by decide) dX3_rings_90 ?_
            refine k_iinc (v := nI ((12 * c + i) + 1)) (L' := [(2, .int (nI ((12 * c + i) + 1))), (3, .int 1), (0, .ref (ad E 16 0)), (1, .int (nI c))]) X 1 dX3_rings_91 rfl (nI_1 (12 * c + i)) (by decide) rfl ?_
            refine k_goto (tgt := 5) X dX3_rings_94 (by decide) ?_
            refine k_mem (μ' := up μ 30 0 (12 * c) (i + 1) (fun b => if (¬ μ 29 0 (12 * c + b) < μ 26 0 c) ∧ (¬ 200 ≤ μ 30 0 (12 * c + b)) ∧ ¬ μ 16 0 1 < μ 27 0 c + 10 then 408 else μ 30 0 (12 * c + b))) (up_st (if_pos ⟨c32, c44, c60⟩).symm) ?_
            refine k_pick (L' := [(2, .int (nI ((12 * c + i) + 1))), (0, .ref (ad E 16 0)), (1, .int (nI c))]) [0, 2, 3] rfl ?_
            exact ih (i + 1) (by omega) (by omega)

set_option maxHeartbeats 4000000 in
set_option maxRecDepth 100000 in
theorem C_X3_rings {E : EE} {μ : Mem} (c n : Nat) (hc : c < 20) (hn : μ 25 0 c = nI n) (hn12 : n ≤ 12) : MM E yX3_rings cX3_rings 4 none (rm 2 0) [.ref (ad E 16 0), .int (nI c)] μ none (mrM μ c n) := by
  refine MM.void (own := RX3) [(0, .ref (ad E 16 0)), (1, .int (nI c))] rfl rfl rfl (Nat.le_of_ble_eq_true rfl) (fun C X hE => ?_)
  refine k_bipush X 12 dX3_rings_0 (by decide) ?_
  refine k_iload_n X 1 dX3_rings_2 rfl rfl ?_
  refine k_imul X dX3_rings_3 ?_
  refine k_val (y := nI (12 * c)) (pk_mul _ _) ?_
  refine k_istore_n (L' := [(2, .int (nI (12 * c))), (0, .ref (ad E 16 0)), (1, .int (nI c))]) X dX3_rings_4 rfl (by decide) rfl ?_
  refine k_mem (μ' := up μ 30 0 (12 * c) 0 (fun b => if (¬ μ 29 0 (12 * c + b) < μ 26 0 c) ∧ (¬ 200 ≤ μ 30 0 (12 * c + b)) ∧ ¬ μ 16 0 1 < μ 27 0 c + 10 then 408 else μ 30 0 (12 * c + b))) up_0.symm ?_
  exact L_X3_rings c n hc hn hn12 X hE (n + 1) 0 (by omega) (Nat.zero_le n)
