/-! isCall: the ends of a call's branches, counted -/
def pG (f : Nat → Int32) : Nat → Bool := fun b => decide (f b = 100 ∨ f b = 180)
def pT (f : Nat → Int32) : Nat → Bool := fun b => decide (200 ≤ f b ∧ f b < 300)
def moG (f : Nat → Int32) : Nat → Int32
  | 0 => -1
  | n + 1 => if f n ≤ moG f n then moG f n else f n
theorem moG_t {f : Nat → Int32} {n : Nat} (h : f n ≤ moG f n) : moG f (n + 1) = moG f n := if_pos h
theorem moG_f {f : Nat → Int32} {n : Nat} (h : ¬ f n ≤ moG f n) : moG f (n + 1) = f n := if_neg h
theorem pG_t {f : Nat → Int32} {n : Nat} (h : f n = 100 ∨ f n = 180) : nI (ctB (pG f) n + 1) = nI (ctB (pG f) (n + 1)) := congrArg nI (ctB_t (p := pG f) (decide_eq_true h)).symm
theorem pG_f {f : Nat → Int32} {n : Nat} (h : ¬ (f n = 100 ∨ f n = 180)) : nI (ctB (pG f) n + 0) = nI (ctB (pG f) (n + 1)) := congrArg nI (ctB_f (p := pG f) (decide_eq_false h)).symm
theorem pT_t {f : Nat → Int32} {n : Nat} (h : 200 ≤ f n) (h2 : f n < 300) : nI n = laI (pT f) (n + 1) := (laI_t (p := pT f) (decide_eq_true ⟨h, h2⟩)).symm
theorem pT_f {f : Nat → Int32} {n : Nat} (h : ¬ (200 ≤ f n ∧ f n < 300)) : laI (pT f) n = laI (pT f) (n + 1) := (laI_f (p := pT f) (decide_eq_false h)).symm

set_option maxHeartbeats 4000000 in
set_option maxRecDepth 100000 in
theorem L_L_isCall {E : EE} {μ : Mem} {C : Ctx} {K t q : Nat} (h : IX K t q μ) (c n : Nat) (hc : c < K) (hn12 : n ≤ 12) (hn : μ 11 c 4 = nI n) (X : Cx E C cL_isCall RL 9 (rm 5 0)) (hx : KF E C 0 0 μ 131 [(6, .int (laI (pT (μ 14 c)) n)), (5, .int (nI (ctB (pG (μ 14 c)) n))), (4, .int (moG (μ 14 c) n)), (3, .int (beL (μ 14 c) n)), (0, .ref (ad E 0 0)), (1, .ref (ad E 16 0)), (2, .int (nI c))] []) : ∀ (f : Nat) (i : Nat), n - i < f → i ≤ n → KF E C 0 0 μ 14 [(7, .int (nI i)), (6, .int (laI (pT (μ 14 c)) i)), (5, .int (nI (ctB (pG (μ 14 c)) i))), (4, .int (moG (μ 14 c) i)), (3, .int (beL (μ 14 c) i)), (0, .ref (ad E 0 0)), (1, .ref (ad E 16 0)), (2, .int (nI c))] [] := by
  intro f
  induction f with
  | zero => intros; omega
  | succ f ih =>
    intro i hf hi
    refine k_iload X 0 dL_isCall_14 rfl ?_
    refine k_aload_n X 5 dL_isCall_16 rfl rfl ?_
    refine k_iload_n X 7 dL_isCall_17 rfl rfl ?_
    refine k_callV (a := 0) (o := 0) (As := [.int (nI c)]) (S := [.int (nI i)]) X lk_L_53 rfl (by decide) rfl (N_branches h c n hc hn) rfl rfl (Nat.le_of_ble_eq_true rfl) ⟨Nat.le_of_ble_eq_true rfl, Nat.le_of_ble_eq_true rfl⟩ ⟨Nat.le_of_ble_eq_true rfl, Nat.le_of_ble_eq_true rfl⟩ dL_isCall_18 ?_
    show KF E C 0 0 μ 21 _ [.int (nI n), .int (nI i)]
    refine k_ge_n (a := i) (b := n) (tgt := 131) X dL_isCall_21 (by decide) rfl rfl (by omega) (by omega) (fun c21 => ?_) (fun c21 => ?_)
    · obtain rfl : i = n := by omega
      refine k_pick (L' := [(6, .int (laI (pT (μ 14 c)) i)), (5, .int (nI (ctB (pG (μ 14 c)) i))), (4, .int (moG (μ 14 c) i)), (3, .int (beL (μ 14 c) i)), (0, .ref (ad E 0 0)), (1, .ref (ad E 16 0)), (2, .int (nI c))]) [1, 2, 3, 4, 5, 6, 7] rfl ?_
      exact hx
    · have k_125 : KF E C 0 0 μ 125 [(7, .int (nI i)), (6, .int (laI (pT (μ 14 c)) (i + 1))), (5, .int (nI (ctB (pG (μ 14 c)) (i + 1)))), (4, .int (moG (μ 14 c) (i + 1))), (3, .int (beL (μ 14 c) (i + 1))), (0, .ref (ad E 0 0)), (1, .ref (ad E 16 0)), (2, .int (nI c))] [] := by
        refine k_iinc (v := nI (i + 1)) (L' := [(7, .int (nI (i + 1))), (6, .int (laI (pT (μ 14 c)) (i + 1))), (5, .int (nI (ctB (pG (μ 14 c)) (i + 1)))), (4, .int (moG (μ 14 c) (i + 1))), (3, .int (beL (μ 14 c) (i + 1))), (0, .ref (ad E 0 0)), (1, .ref (ad E 16 0)), (2, .int (nI c))]) X 0 dL_isCall_125 rfl (nI_1 i) (by decide) rfl ?_
        refine k_goto (tgt := 14) X dL_isCall_128 (by decide) ?_
        exact ih (i + 1) (by omega) (by omega)
      have k_99 : KF E C 0 0 μ 99 [(8, .int (μ 14 c i)), (7, .int (nI i)), (6, .int (laI (pT (μ 14 c)) (i + 1))), (5, .int (nI (ctB (pG (μ 14 c)) (i + 1)))), (4, .int (moG (μ 14 c) (i + 1))), (3, .int (beL (μ 14 c) i)), (0, .ref (ad E 0 0)), (1, .ref (ad E 16 0)), (2, .int (nI c))] [] := by
        refine k_iload X 0 dL_isCall_99 rfl ?_
        refine k_sipush X 487 dL_isCall_101 (by decide) ?_
        refine k_icmp_eq (tgt := 123) X dL_isCall_104 (by decide) (fun c104 => ?_) (fun c104 => ?_)
        · refine k_iload_n X 5 dL_isCall_123 rfl rfl ?_
          refine k_val (y := beL (μ 14 c) (i + 1)) (beL_0 c104).symm ?_
          refine k_istore_n (L' := [(3, .int (beL (μ 14 c) (i + 1))), (8, .int (μ 14 c i)), (7, .int (nI i)), (6, .int (laI (pT (μ 14 c)) (i + 1))), (5, .int (nI (ctB (pG (μ 14 c)) (i + 1)))), (4, .int (moG (μ 14 c) (i + 1))), (0, .ref (ad E 0 0)), (1, .ref (ad E 16 0)), (2, .int (nI c))]) X dL_isCall_124 rfl (by decide) rfl ?_
          refine k_pick (L' := [(7, .int (nI i)), (6, .int (laI (pT (μ 14 c)) (i + 1))), (5, .int (nI (ctB (pG (μ 14 c)) (i + 1)))), (4, .int (moG (μ 14 c) (i + 1))), (3, .int (beL (μ 14 c) (i + 1))), (0, .ref (ad E 0 0)), (1, .ref (ad E 16 0)), (2, .int (nI c))]) [2, 3, 4, 5, 0, 6, 7, 8] rfl ?_
          exact k_125
        · refine k_iload_n X 5 dL_isCall_107 rfl rfl ?_
          refine k_iconst X (-1) dL_isCall_108 (by decide) ?_
          refine k_icmp_eq (tgt := 118) X dL_isCall_109 (by decide) (fun c109 => ?_) (fun c109 => ?_)
          · refine k_iload X 0 dL_isCall_118 rfl ?_
            refine k_goto (tgt := 124) X dL_isCall_120 (by decide) ?_
            refine k_val (y := beL (μ 14 c) (i + 1)) (beL_1 c104 c109).symm ?_
            refine k_istore_n (L' := [(3, .int (beL (μ 14 c) (i + 1))), (8, .int (μ 14 c i)), (7, .int (nI i)), (6, .int (laI (pT (μ 14 c)) (i + 1))), (5, .int (nI (ctB (pG (μ 14 c)) (i + 1)))), (4, .int (moG (μ 14 c) (i + 1))), (0, .ref (ad E 0 0)), (1, .ref (ad E 16 0)), (2, .int (nI c))]) X dL_isCall_124 rfl (by decide) rfl ?_
            refine k_pick (L' := [(7, .int (nI i)), (6, .int (laI (pT (μ 14 c)) (i + 1))), (5, .int (nI (ctB (pG (μ 14 c)) (i + 1)))), (4, .int (moG (μ 14 c) (i + 1))), (3, .int (beL (μ 14 c) (i + 1))), (0, .ref (ad E 0 0)), (1, .ref (ad E 16 0)), (2, .int (nI c))]) [2, 3, 4, 5, 0, 6, 7, 8] rfl ?_
            exact k_125
          · refine k_iload X 0 dL_isCall_112 rfl ?_
            refine k_iload_n X 5 dL_isCall_114 rfl rfl ?_
            refine k_icmp_ge (tgt := 123) X dL_isCall_115 (by decide) (fun c115 => ?_) (fun c115 => ?_)
            · refine k_iload_n X 5 dL_isCall_123 rfl rfl ?_
              refine k_val (y := beL (μ 14 c) (i + 1)) (beL_4 c104 c109 (Int32.not_lt.mpr c115)).symm ?_
              refine k_istore_n (L' := [(3, .int (beL (μ 14 c) (i + 1))), (8, .int (μ 14 c i)), (7, .int (nI i)), (6, .int (laI (pT (μ 14 c)) (i + 1))), (5, .int (nI (ctB (pG (μ 14 c)) (i + 1)))), (4, .int (moG (μ 14 c) (i + 1))), (0, .ref (ad E 0 0)), (1, .ref (ad E 16 0)), (2, .int (nI c))]) X dL_isCall_124 rfl (by decide) rfl ?_
              refine k_pick (L' := [(7, .int (nI i)), (6, .int (laI (pT (μ 14 c)) (i + 1))), (5, .int (nI (ctB (pG (μ 14 c)) (i + 1)))), (4, .int (moG (μ 14 c) (i + 1))), (3, .int (beL (μ 14 c) (i + 1))), (0, .ref (ad E 0 0)), (1, .ref (ad E 16 0)), (2, .int (nI c))]) [2, 3, 4, 5, 0, 6, 7, 8] rfl ?_
              exact k_125
            · refine k_iload X 0 dL_isCall_118 rfl ?_
              refine k_goto (tgt := 124) X dL_isCall_120 (by decide) ?_
              refine k_val (y := beL (μ 14 c) (i + 1)) (beL_3 c104 c109 (Int32.not_le.mp c115)).symm ?_
              refine k_istore_n (L' := [(3, .int (beL (μ 14 c) (i + 1))), (8, .int (μ 14 c i)), (7, .int (nI i)), (6, .int (laI (pT (μ 14 c)) (i + 1))), (5, .int (nI (ctB (pG (μ 14 c)) (i + 1)))), (4, .int (moG (μ 14 c) (i + 1))), (0, .ref (ad E 0 0)), (1, .ref (ad E 16 0)), (2, .int (nI c))]) X dL_isCall_124 rfl (by decide) rfl ?_
              refine k_pick (L' := [(7, .int (nI i)), (6, .int (laI (pT (μ 14 c)) (i + 1))), (5, .int (nI (ctB (pG (μ 14 c)) (i + 1)))), (4, .int (moG (μ 14 c) (i + 1))), (3, .int (beL (μ 14 c) (i + 1))), (0, .ref (ad E 0 0)), (1, .ref (ad E 16 0)), (2, .int (nI c))]) [2, 3, 4, 5, 0, 6, 7, 8] rfl ?_
              exact k_125
      have k_83 : KF E C 0 0 μ 83 [(8, .int (μ 14 c i)), (7, .int (nI i)), (6, .int (laI (pT (μ 14 c)) (i + 1))), (5, .int (nI (ctB (pG (μ 14 c)) (i + 1)))), (4, .int (moG (μ 14 c) i)), (3, .int (beL (μ 14 c) i)), (0, .ref (ad E 0 0)), (1, .ref (ad E 16 0)), (2, .int (nI c))] [] := by
        refine k_iload X 0 dL_isCall_83 rfl ?_
        refine k_iload X 4 dL_isCall_85 rfl ?_
        refine k_icmp_le (tgt := 95) X dL_isCall_87 (by decide) (fun c87 => ?_) (fun c87 => ?_)
        · refine k_iload X 4 dL_isCall_95 rfl ?_
          refine k_val (y := moG (μ 14 c) (i + 1)) (moG_t c87).symm ?_
          refine k_istore (L' := [(4, .int (moG (μ 14 c) (i + 1))), (8, .int (μ 14 c i)), (7, .int (nI i)), (6, .int (laI (pT (μ 14 c)) (i + 1))), (5, .int (nI (ctB (pG (μ 14 c)) (i + 1)))), (3, .int (beL (μ 14 c) i)), (0, .ref (ad E 0 0)), (1, .ref (ad E 16 0)), (2, .int (nI c))]) X dL_isCall_97 (by decide) rfl ?_
          refine k_pick (L' := [(8, .int (μ 14 c i)), (7, .int (nI i)), (6, .int (laI (pT (μ 14 c)) (i + 1))), (5, .int (nI (ctB (pG (μ 14 c)) (i + 1)))), (4, .int (moG (μ 14 c) (i + 1))), (3, .int (beL (μ 14 c) i)), (0, .ref (ad E 0 0)), (1, .ref (ad E 16 0)), (2, .int (nI c))]) [1, 2, 3, 4, 0, 5, 6, 7, 8] rfl ?_
          exact k_99
        · refine k_iload X 0 dL_isCall_90 rfl ?_
          refine k_goto (tgt := 97) X dL_isCall_92 (by decide) ?_
          refine k_val (y := moG (μ 14 c) (i + 1)) (moG_f c87).symm ?_
          refine k_istore (L' := [(4, .int (moG (μ 14 c) (i + 1))), (8, .int (μ 14 c i)), (7, .int (nI i)), (6, .int (laI (pT (μ 14 c)) (i + 1))), (5, .int (nI (ctB (pG (μ 14 c)) (i + 1)))), (3, .int (beL (μ 14 c) i)), (0, .ref (ad E 0 0)), (1, .ref (ad E 16 0)), (2, .int (nI c))]) X dL_isCall_97 (by decide) rfl ?_
          refine k_pick (L' := [(8, .int (μ 14 c i)), (7, .int (nI i)), (6, .int (laI (pT (μ 14 c)) (i + 1))), (5, .int (nI (ctB (pG (μ 14 c)) (i + 1)))), (4, .int (moG (μ 14 c) (i + 1))), (3, .int (beL (μ 14 c) i)), (0, .ref (ad E 0 0)), (1, .ref (ad E 16 0)), (2, .int (nI c))]) [1, 2, 3, 4, 0, 5, 6, 7, 8] rfl ?_
          exact k_99
      have k_58 : KF E C 0 0 μ 58 [(8, .int (μ 14 c i)), (7, .int (nI i)), (6, .int (laI (pT (μ 14 c)) i)), (5, .int (nI (ctB (pG (μ 14 c)) (i + 1)))), (4, .int (moG (μ 14 c) i)), (3, .int (beL (μ 14 c) i)), (0, .ref (ad E 0 0)), (1, .ref (ad E 16 0)), (2, .int (nI c))] [] := by
        refine k_iload X 0 dL_isCall_58 rfl ?_
        refine k_sipush X 200 dL_isCall_60 (by decide) ?_
        refine k_icmp_lt (tgt := 79) X dL_isCall_63 (by decide) (fun c63 => ?_) (fun c63 => ?_)
        · refine k_iload X 2 dL_isCall_79 rfl ?_
          refine k_val (y := laI (pT (μ 14 c)) (i + 1)) (pT_f (fun q => Int32.not_lt.mpr q.1 c63)) ?_
          refine k_istore (L' := [(6, .int (laI (pT (μ 14 c)) (i + 1))), (8, .int (μ 14 c i)), (7, .int (nI i)), (5, .int (nI (ctB (pG (μ 14 c)) (i + 1)))), (4, .int (moG (μ 14 c) i)), (3, .int (beL (μ 14 c) i)), (0, .ref (ad E 0 0)), (1, .ref (ad E 16 0)), (2, .int (nI c))]) X dL_isCall_81 (by decide) rfl ?_
          refine k_pick (L' := [(8, .int (μ 14 c i)), (7, .int (nI i)), (6, .int (laI (pT (μ 14 c)) (i + 1))), (5, .int (nI (ctB (pG (μ 14 c)) (i + 1)))), (4, .int (moG (μ 14 c) i)), (3, .int (beL (μ 14 c) i)), (0, .ref (ad E 0 0)), (1, .ref (ad E 16 0)), (2, .int (nI c))]) [1, 2, 0, 3, 4, 5, 6, 7, 8] rfl ?_
          exact k_83
        · refine k_iload X 0 dL_isCall_66 rfl ?_
          refine k_sipush X 300 dL_isCall_68 (by decide) ?_
          refine k_icmp_ge (tgt := 79) X dL_isCall_71 (by decide) (fun c71 => ?_) (fun c71 => ?_)
          · refine k_iload X 2 dL_isCall_79 rfl ?_
            refine k_val (y := laI (pT (μ 14 c)) (i + 1)) (pT_f (fun q => Int32.not_lt.mpr c71 q.2)) ?_
            refine k_istore (L' := [(6, .int (laI (pT (μ 14 c)) (i + 1))), (8, .int (μ 14 c i)), (7, .int (nI i)), (5, .int (nI (ctB (pG (μ 14 c)) (i + 1)))), (4, .int (moG (μ 14 c) i)), (3, .int (beL (μ 14 c) i)), (0, .ref (ad E 0 0)), (1, .ref (ad E 16 0)), (2, .int (nI c))]) X dL_isCall_81 (by decide) rfl ?_
            refine k_pick (L' := [(8, .int (μ 14 c i)), (7, .int (nI i)), (6, .int (laI (pT (μ 14 c)) (i + 1))), (5, .int (nI (ctB (pG (μ 14 c)) (i + 1)))), (4, .int (moG (μ 14 c) i)), (3, .int (beL (μ 14 c) i)), (0, .ref (ad E 0 0)), (1, .ref (ad E 16 0)), (2, .int (nI c))]) [1, 2, 0, 3, 4, 5, 6, 7, 8] rfl ?_
            exact k_83
          · refine k_iload X 1 dL_isCall_74 rfl ?_
            refine k_goto (tgt := 81) X dL_isCall_76 (by decide) ?_
            refine k_val (y := laI (pT (μ 14 c)) (i + 1)) (pT_t (Int32.not_lt.mp c63) (Int32.not_le.mp c71)) ?_
            refine k_istore (L' := [(6, .int (laI (pT (μ 14 c)) (i + 1))), (8, .int (μ 14 c i)), (7, .int (nI i)), (5, .int (nI (ctB (pG (μ 14 c)) (i + 1)))), (4, .int (moG (μ 14 c) i)), (3, .int (beL (μ 14 c) i)), (0, .ref (ad E 0 0)), (1, .ref (ad E 16 0)), (2, .int (nI c))]) X dL_isCall_81 (by decide) rfl ?_
            refine k_pick (L' := [(8, .int (μ 14 c i)), (7, .int (nI i)), (6, .int (laI (pT (μ 14 c)) (i + 1))), (5, .int (nI (ctB (pG (μ 14 c)) (i + 1)))), (4, .int (moG (μ 14 c) i)), (3, .int (beL (μ 14 c) i)), (0, .ref (ad E 0 0)), (1, .ref (ad E 16 0)), (2, .int (nI c))]) [1, 2, 0, 3, 4, 5, 6, 7, 8] rfl ?_
            exact k_83
      refine k_aload_n X 5 dL_isCall_24 rfl rfl ?_
      refine k_iload_n X 7 dL_isCall_25 rfl rfl ?_
      refine k_iload X 0 dL_isCall_26 rfl ?_
      refine k_callV (a := 0) (o := 0) (As := [.int (nI c), .int (nI i)]) (S := []) X lk_L_62 rfl (by decide) rfl (N_state h c n i hc hn12 hn c21) rfl rfl (Nat.le_of_ble_eq_true rfl) ⟨Nat.le_of_ble_eq_true rfl, Nat.le_of_ble_eq_true rfl⟩ ⟨Nat.le_of_ble_eq_true rfl, Nat.le_of_ble_eq_true rfl⟩ dL_isCall_28 ?_
      show KF E C 0 0 μ 31 _ [.int (μ 14 c i)]
      refine k_istore (L' := [(8, .int (μ 14 c i)), (7, .int (nI i)), (6, .int (laI (pT (μ 14 c)) i)), (5, .int (nI (ctB (pG (μ 14 c)) i))), (4, .int (moG (μ 14 c) i)), (3, .int (beL (μ 14 c) i)), (0, .ref (ad E 0 0)), (1, .ref (ad E 16 0)), (2, .int (nI c))]) X dL_isCall_31 (by decide) rfl ?_
      refine k_iload X 3 dL_isCall_33 rfl ?_
      refine k_iload X 0 dL_isCall_35 rfl ?_
      refine k_bipush X 100 dL_isCall_37 (by decide) ?_
      refine k_icmp_eq (tgt := 50) X dL_isCall_39 (by decide) (fun c39 => ?_) (fun c39 => ?_)
      · refine k_iconst X (nI 1) dL_isCall_50 (by decide) ?_
        refine k_goto (tgt := 55) X dL_isCall_51 (by decide) ?_
        refine k_iadd X dL_isCall_55 ?_
        refine k_val (y := nI ((ctB (pG (μ 14 c)) i) + 1)) (nI_add _ _) ?_
        refine k_val (y := nI (ctB (pG (μ 14 c)) (i + 1))) (pG_t (Or.inl c39)) ?_
        refine k_istore (L' := [(5, .int (nI (ctB (pG (μ 14 c)) (i + 1)))), (8, .int (μ 14 c i)), (7, .int (nI i)), (6, .int (laI (pT (μ 14 c)) i)), (4, .int (moG (μ 14 c) i)), (3, .int (beL (μ 14 c) i)), (0, .ref (ad E 0 0)), (1, .ref (ad E 16 0)), (2, .int (nI c))]) X dL_isCall_56 (by decide) rfl ?_
        refine k_pick (L' := [(8, .int (μ 14 c i)), (7, .int (nI i)), (6, .int (laI (pT (μ 14 c)) i)), (5, .int (nI (ctB (pG (μ 14 c)) (i + 1)))), (4, .int (moG (μ 14 c) i)), (3, .int (beL (μ 14 c) i)), (0, .ref (ad E 0 0)), (1, .ref (ad E 16 0)), (2, .int (nI c))]) [1, 2, 3, 0, 4, 5, 6, 7, 8] rfl ?_
        exact k_58
      · refine k_iload X 0 dL_isCall_42 rfl ?_
        refine k_sipush X 180 dL_isCall_44 (by decide) ?_
        refine k_icmp_ne (tgt := 54) X dL_isCall_47 (by decide) (fun c47 => ?_) (fun c47 => ?_)
        · refine k_iconst X (nI 0) dL_isCall_54 (by decide) ?_
          refine k_iadd X dL_isCall_55 ?_
          refine k_val (y := nI ((ctB (pG (μ 14 c)) i) + 0)) (nI_add _ _) ?_
          refine k_val (y := nI (ctB (pG (μ 14 c)) (i + 1))) (pG_f (fun q => q.elim c39 c47)) ?_
          refine k_istore (L' := [(5, .int (nI (ctB (pG (μ 14 c)) (i + 1)))), (8, .int (μ 14 c i)), (7, .int (nI i)), (6, .int (laI (pT (μ 14 c)) i)), (4, .int (moG (μ 14 c) i)), (3, .int (beL (μ 14 c) i)), (0, .ref (ad E 0 0)), (1, .ref (ad E 16 0)), (2, .int (nI c))]) X dL_isCall_56 (by decide) rfl ?_
          refine k_pick (L' := [(8, .int (μ 14 c i)), (7, .int (nI i)), (6, .int (laI (pT (μ 14 c)) i)), (5, .int (nI (ctB (pG (μ 14 c)) (i + 1)))), (4, .int (moG (μ 14 c) i)), (3, .int (beL (μ 14 c) i)), (0, .ref (ad E 0 0)), (1, .ref (ad E 16 0)), (2, .int (nI c))]) [1, 2, 3, 0, 4, 5, 6, 7, 8] rfl ?_
          exact k_58
        · refine k_iconst X (nI 1) dL_isCall_50 (by decide) ?_
          refine k_goto (tgt := 55) X dL_isCall_51 (by decide) ?_
          refine k_iadd X dL_isCall_55 ?_
          refine k_val (y := nI ((ctB (pG (μ 14 c)) i) + 1)) (nI_add _ _) ?_
          refine k_val (y := nI (ctB (pG (μ 14 c)) (i + 1))) (pG_t (Or.inr c47)) ?_
          refine k_istore (L' := [(5, .int (nI (ctB (pG (μ 14 c)) (i + 1)))), (8, .int (μ 14 c i)), (7, .int (nI i)), (6, .int (laI (pT (μ 14 c)) i)), (4, .int (moG (μ 14 c) i)), (3, .int (beL (μ 14 c) i)), (0, .ref (ad E 0 0)), (1, .ref (ad E 16 0)), (2, .int (nI c))]) X dL_isCall_56 (by decide) rfl ?_
          refine k_pick (L' := [(8, .int (μ 14 c i)), (7, .int (nI i)), (6, .int (laI (pT (μ 14 c)) i)), (5, .int (nI (ctB (pG (μ 14 c)) (i + 1)))), (4, .int (moG (μ 14 c) i)), (3, .int (beL (μ 14 c) i)), (0, .ref (ad E 0 0)), (1, .ref (ad E 16 0)), (2, .int (nI c))]) [1, 2, 3, 0, 4, 5, 6, 7, 8] rfl ?_
          exact k_58

set_option maxHeartbeats 4000000 in
set_option maxRecDepth 100000 in
theorem C_L_isCall {E : EE} {μ : Mem} {K t q : Nat} (h : IX K t q μ) (c n : Nat) (hc : c < K) (hn12 : n ≤ 12) (hn : μ 11 c 4 = nI n) (bt : Nat) (hbt : (μ 16 0 3 >>> (nI c &&& 31)) &&& nI 1 = nI bt) (hR : CR c n μ) (hopen : μ 11 c 8 = -1 → 0 < nI (ctB (pG (μ 14 c)) n) ∧ laI (pT (μ 14 c)) n = -1 ∧ μ 11 c 7 = -1 ∧ ¬ 600 ≤ moG (μ 14 c) n) (hend : ¬ μ 11 c 8 = -1 → nI (ctB (pG (μ 14 c)) n) = 0 ∧ μ 11 c 8 = (if nI bt = nI 1 then 487 else if nI n = 0 then 480 else if ¬ laI (pT (μ 14 c)) n = -1 then μ 14 c (tN (laI (pT (μ 14 c)) n)) else if 600 ≤ moG (μ 14 c) n then moG (μ 14 c) n else if beL (μ 14 c) n = -1 then 487 else beL (μ 14 c) n) ∧ μ 11 c 7 = laI (pT (μ 14 c)) n) : MM E yL_isCall cL_isCall 9 (some .boolean) (rm 5 0) [.ref (ad E 0 0), .ref (ad E 16 0), .int (nI c)] μ (some (.int 1)) (if μ 11 c 8 = -1 then μ else fsM μ c n) := by
  refine MM.int (own := RL) [(0, .ref (ad E 0 0)), (1, .ref (ad E 16 0)), (2, .int (nI c))] rfl rfl rfl (Nat.le_of_ble_eq_true rfl) rfl (fun C X hE => ?_)
  have k_131 : KF E C 0 0 μ 131 [(6, .int (laI (pT (μ 14 c)) n)), (5, .int (nI (ctB (pG (μ 14 c)) n))), (4, .int (moG (μ 14 c) n)), (3, .int (beL (μ 14 c) n)), (0, .ref (ad E 0 0)), (1, .ref (ad E 16 0)), (2, .int (nI c))] [] := by
    refine k_aload_n X 4 dL_isCall_131 rfl rfl ?_
    refine k_iload_n X 6 dL_isCall_132 rfl rfl ?_
    refine k_callV (a := 0) (o := 0) (As := [.int (nI c)]) (S := []) X lk_L_56 rfl (by decide) rfl (N_finalOf h c hc) rfl rfl (Nat.le_of_ble_eq_true rfl) ⟨Nat.le_of_ble_eq_true rfl, Nat.le_of_ble_eq_true rfl⟩ ⟨Nat.le_of_ble_eq_true rfl, Nat.le_of_ble_eq_true rfl⟩ dL_isCall_133 ?_
    show KF E C 0 0 μ 136 _ [.int (μ 11 c 8)]
    refine k_istore (L' := [(7, .int (μ 11 c 8)), (6, .int (laI (pT (μ 14 c)) n)), (5, .int (nI (ctB (pG (μ 14 c)) n))), (4, .int (moG (μ 14 c) n)), (3, .int (beL (μ 14 c) n)), (0, .ref (ad E 0 0)), (1, .ref (ad E 16 0)), (2, .int (nI c))]) X dL_isCall_136 (by decide) rfl ?_
    refine k_iload X 0 dL_isCall_138 rfl ?_
    refine k_iconst X (-1) dL_isCall_140 (by decide) ?_
    refine k_icmp_ne (tgt := 178) X dL_isCall_141 (by decide) (fun c141 => ?_) (fun c141 => ?_)
    · refine k_aload_n X 6 dL_isCall_178 rfl rfl ?_
      refine k_iconst X (nI 3) dL_isCall_179 (by decide) ?_
      have k_250 : KF E C 0 0 μ 250 [(7, .int (μ 11 c 8)), (6, .int (laI (pT (μ 14 c)) n)), (5, .int (nI (ctB (pG (μ 14 c)) n))), (0, .ref (ad E 0 0)), (1, .ref (ad E 16 0)), (2, .int (nI c))] [.int (μ 11 c 8)] := by
        refine k_istore (L' := [(8, .int (μ 11 c 8)), (7, .int (μ 11 c 8)), (6, .int (laI (pT (μ 14 c)) n)), (5, .int (nI (ctB (pG (μ 14 c)) n))), (0, .ref (ad E 0 0)), (1, .ref (ad E 16 0)), (2, .int (nI c))]) X dL_isCall_250 (by decide) rfl ?_
        refine k_iload X 3 dL_isCall_252 rfl ?_
        refine k_if_ne_f (tgt := 288) X dL_isCall_254 (by decide) (hend c141).1 ?_
        refine k_iload X 1 dL_isCall_257 rfl ?_
        refine k_iload X 0 dL_isCall_259 rfl ?_
        refine k_icmp_ne_f (tgt := 288) X dL_isCall_261 (by decide) rfl ?_
        refine k_aload_n X 4 dL_isCall_264 rfl rfl ?_
        refine k_iload_n X 6 dL_isCall_265 rfl rfl ?_
        refine k_callV (a := 0) (o := 0) (As := [.int (nI c)]) (S := []) X lk_L_50 rfl (by decide) rfl (N_answered h c hc) rfl rfl (Nat.le_of_ble_eq_true rfl) ⟨Nat.le_of_ble_eq_true rfl, Nat.le_of_ble_eq_true rfl⟩ ⟨Nat.le_of_ble_eq_true rfl, Nat.le_of_ble_eq_true rfl⟩ dL_isCall_266 ?_
        show KF E C 0 0 μ 269 _ [.int (μ 11 c 7)]
        refine k_iload X 2 dL_isCall_269 rfl ?_
        refine k_icmp_ne_f (tgt := 288) X dL_isCall_271 (by decide) (hend c141).2.2 ?_
        refine k_aload_n X 4 dL_isCall_274 rfl rfl ?_
        refine k_iload_n X 6 dL_isCall_275 rfl rfl ?_
        refine k_callV (a := 0) (o := 0) (As := [.int (nI c)]) (S := []) X lk_L_73 rfl (by decide) rfl (N_fs h c n hc hR c141) rfl rfl (Nat.le_of_ble_eq_true rfl) ⟨Nat.le_of_ble_eq_true rfl, Nat.le_of_ble_eq_true rfl⟩ ⟨Nat.le_of_ble_eq_true rfl, Nat.le_of_ble_eq_true rfl⟩ dL_isCall_276 ?_
        show KF E C 0 0 (fsM μ c n) 279 _ [.int (μ 11 c 8)]
        refine k_iload X 1 dL_isCall_279 rfl ?_
        refine k_icmp_ne_f (tgt := 288) X dL_isCall_281 (by decide) rfl ?_
        refine k_iconst X (nI 1) dL_isCall_284 (by decide) ?_
        refine k_goto (tgt := 289) X dL_isCall_285 (by decide) ?_
        exact k_iret dL_isCall_289 hE (by decide) (if_neg c141).symm
      refine k_iald (a := 16) (j := 3) X rfl (by decide) rfl (show 3 < 14 by omega) (by decide) dL_isCall_180 ?_
      refine k_iload_n X 7 dL_isCall_181 rfl rfl ?_
      refine k_ishr X dL_isCall_182 ?_
      refine k_iconst X (nI 1) dL_isCall_183 (by decide) ?_
      refine k_iand X dL_isCall_184 ?_
      refine k_val (y := nI bt) hbt ?_
      refine k_iconst X (nI 1) dL_isCall_185 (by decide) ?_
      refine k_icmp_ne (tgt := 195) X dL_isCall_186 (by decide) (fun c186 => ?_) (fun c186 => ?_)
      · refine k_aload_n X 5 dL_isCall_195 rfl rfl ?_
        refine k_iload_n X 7 dL_isCall_196 rfl rfl ?_
        refine k_callV (a := 0) (o := 0) (As := [.int (nI c)]) (S := []) X lk_L_53 rfl (by decide) rfl (N_branches h c n hc hn) rfl rfl (Nat.le_of_ble_eq_true rfl) ⟨Nat.le_of_ble_eq_true rfl, Nat.le_of_ble_eq_true rfl⟩ ⟨Nat.le_of_ble_eq_true rfl, Nat.le_of_ble_eq_true rfl⟩ dL_isCall_197 ?_
        show KF E C 0 0 μ 200 _ [.int (nI n)]
        refine k_if_ne (tgt := 209) X dL_isCall_200 (by decide) (fun c200 => ?_) (fun c200 => ?_)
        · refine k_iload X 1 dL_isCall_209 rfl ?_
          refine k_iconst X (-1) dL_isCall_211 (by decide) ?_
          refine k_icmp_eq (tgt := 225) X dL_isCall_212 (by decide) (fun c212 => ?_) (fun c212 => ?_)
          · refine k_iload X 3 dL_isCall_225 rfl ?_
            refine k_sipush X 600 dL_isCall_227 (by decide) ?_
            refine k_icmp_lt (tgt := 238) X dL_isCall_230 (by decide) (fun c230 => ?_) (fun c230 => ?_)
            · refine k_iload_n X 4 dL_isCall_238 rfl rfl ?_
              refine k_iconst X (-1) dL_isCall_239 (by decide) ?_
              refine k_icmp_ne (tgt := 249) X dL_isCall_240 (by decide) (fun c240 => ?_) (fun c240 => ?_)
              · refine k_iload_n X 4 dL_isCall_249 rfl rfl ?_
                refine k_val (y := μ 11 c 8) (((hend c141).2.1).trans (by rw [if_neg c186, if_neg c200, if_neg (fun q => q c212), if_neg (Int32.not_le.mpr c230), if_neg c240])).symm ?_
                refine k_pick (L' := [(7, .int (μ 11 c 8)), (6, .int (laI (pT (μ 14 c)) n)), (5, .int (nI (ctB (pG (μ 14 c)) n))), (0, .ref (ad E 0 0)), (1, .ref (ad E 16 0)), (2, .int (nI c))]) [0, 1, 2, 5, 6, 7] rfl ?_
                exact k_250
              · refine k_sipush X 487 dL_isCall_243 (by decide) ?_
                refine k_goto (tgt := 250) X dL_isCall_246 (by decide) ?_
                refine k_val (y := μ 11 c 8) (((hend c141).2.1).trans (by rw [if_neg c186, if_neg c200, if_neg (fun q => q c212), if_neg (Int32.not_le.mpr c230), if_pos c240])).symm ?_
                refine k_pick (L' := [(7, .int (μ 11 c 8)), (6, .int (laI (pT (μ 14 c)) n)), (5, .int (nI (ctB (pG (μ 14 c)) n))), (0, .ref (ad E 0 0)), (1, .ref (ad E 16 0)), (2, .int (nI c))]) [0, 1, 2, 5, 6, 7] rfl ?_
                exact k_250
            · refine k_iload X 3 dL_isCall_233 rfl ?_
              refine k_goto (tgt := 250) X dL_isCall_235 (by decide) ?_
              refine k_val (y := μ 11 c 8) (((hend c141).2.1).trans (by rw [if_neg c186, if_neg c200, if_neg (fun q => q c212), if_pos (Int32.not_lt.mp c230)])).symm ?_
              refine k_pick (L' := [(7, .int (μ 11 c 8)), (6, .int (laI (pT (μ 14 c)) n)), (5, .int (nI (ctB (pG (μ 14 c)) n))), (0, .ref (ad E 0 0)), (1, .ref (ad E 16 0)), (2, .int (nI c))]) [0, 1, 2, 5, 6, 7] rfl ?_
              exact k_250
          · obtain ⟨a, ha, -, ea, -⟩ := (laI_sp (p := pT (μ 14 c)) n).resolve_left (fun q => c212 q.1)
            refine k_aload_n X 5 dL_isCall_215 rfl rfl ?_
            refine k_iload_n X 7 dL_isCall_216 rfl rfl ?_
            refine k_iload X 1 dL_isCall_217 rfl ?_
            refine k_val (y := nI a) ea ?_
            refine k_callV (a := 0) (o := 0) (As := [.int (nI c), .int (nI a)]) (S := []) X lk_L_62 rfl (by decide) rfl (N_state h c n a hc hn12 hn ha) rfl rfl (Nat.le_of_ble_eq_true rfl) ⟨Nat.le_of_ble_eq_true rfl, Nat.le_of_ble_eq_true rfl⟩ ⟨Nat.le_of_ble_eq_true rfl, Nat.le_of_ble_eq_true rfl⟩ dL_isCall_219 ?_
            show KF E C 0 0 μ 222 _ [.int (μ 14 c a)]
            refine k_goto (tgt := 250) X dL_isCall_222 (by decide) ?_
            refine k_val (y := μ 11 c 8) (((hend c141).2.1).trans (by rw [if_neg c186, if_neg c200, if_pos c212, ea, tN_nI (by omega)])).symm ?_
            refine k_pick (L' := [(7, .int (μ 11 c 8)), (6, .int (laI (pT (μ 14 c)) n)), (5, .int (nI (ctB (pG (μ 14 c)) n))), (0, .ref (ad E 0 0)), (1, .ref (ad E 16 0)), (2, .int (nI c))]) [0, 1, 2, 5, 6, 7] rfl ?_
            exact k_250
        · refine k_sipush X 480 dL_isCall_203 (by decide) ?_
          refine k_goto (tgt := 250) X dL_isCall_206 (by decide) ?_
          refine k_val (y := μ 11 c 8) (((hend c141).2.1).trans (by rw [if_neg c186, if_pos c200])).symm ?_
          refine k_pick (L' := [(7, .int (μ 11 c 8)), (6, .int (laI (pT (μ 14 c)) n)), (5, .int (nI (ctB (pG (μ 14 c)) n))), (0, .ref (ad E 0 0)), (1, .ref (ad E 16 0)), (2, .int (nI c))]) [0, 1, 2, 5, 6, 7] rfl ?_
          exact k_250
      · refine k_sipush X 487 dL_isCall_189 (by decide) ?_
        refine k_goto (tgt := 250) X dL_isCall_192 (by decide) ?_
        refine k_val (y := μ 11 c 8) (((hend c141).2.1).trans (by rw [if_pos c186])).symm ?_
        refine k_pick (L' := [(7, .int (μ 11 c 8)), (6, .int (laI (pT (μ 14 c)) n)), (5, .int (nI (ctB (pG (μ 14 c)) n))), (0, .ref (ad E 0 0)), (1, .ref (ad E 16 0)), (2, .int (nI c))]) [0, 1, 2, 5, 6, 7] rfl ?_
        exact k_250
    · refine k_iload X 2 dL_isCall_144 rfl ?_
      refine k_if_le_f (tgt := 176) X dL_isCall_146 (by decide) (Int32.not_le.mpr (hopen c141).1) ?_
      refine k_iload X 1 dL_isCall_149 rfl ?_
      refine k_iconst X (-1) dL_isCall_151 (by decide) ?_
      refine k_icmp_ne_f (tgt := 176) X dL_isCall_152 (by decide) (hopen c141).2.1 ?_
      refine k_aload_n X 5 dL_isCall_155 rfl rfl ?_
      refine k_iload_n X 7 dL_isCall_156 rfl rfl ?_
      refine k_callV (a := 0) (o := 0) (As := [.int (nI c)]) (S := []) X lk_L_50 rfl (by decide) rfl (N_answered h c hc) rfl rfl (Nat.le_of_ble_eq_true rfl) ⟨Nat.le_of_ble_eq_true rfl, Nat.le_of_ble_eq_true rfl⟩ ⟨Nat.le_of_ble_eq_true rfl, Nat.le_of_ble_eq_true rfl⟩ dL_isCall_157 ?_
      show KF E C 0 0 μ 160 _ [.int (μ 11 c 7)]
      refine k_iconst X (-1) dL_isCall_160 (by decide) ?_
      refine k_icmp_ne_f (tgt := 176) X dL_isCall_161 (by decide) (hopen c141).2.2.1 ?_
      refine k_iload X 3 dL_isCall_164 rfl ?_
      refine k_sipush X 600 dL_isCall_166 (by decide) ?_
      refine k_icmp_ge_f (tgt := 176) X dL_isCall_169 (by decide) (hopen c141).2.2.2 ?_
      refine k_iconst X (nI 1) dL_isCall_172 (by decide) ?_
      refine k_goto (tgt := 177) X dL_isCall_173 (by decide) ?_
      exact k_iret dL_isCall_177 hE (by decide) (if_pos c141).symm
  refine k_iconst X (-1) dL_isCall_0 (by decide) ?_
  refine k_istore_n (L' := [(3, .int (-1)), (0, .ref (ad E 0 0)), (1, .ref (ad E 16 0)), (2, .int (nI c))]) X dL_isCall_1 rfl (by decide) rfl ?_
  refine k_iconst X (-1) dL_isCall_2 (by decide) ?_
  refine k_istore (L' := [(4, .int (-1)), (3, .int (-1)), (0, .ref (ad E 0 0)), (1, .ref (ad E 16 0)), (2, .int (nI c))]) X dL_isCall_3 (by decide) rfl ?_
  refine k_iconst X (nI 0) dL_isCall_5 (by decide) ?_
  refine k_istore (L' := [(5, .int (nI 0)), (4, .int (-1)), (3, .int (-1)), (0, .ref (ad E 0 0)), (1, .ref (ad E 16 0)), (2, .int (nI c))]) X dL_isCall_6 (by decide) rfl ?_
  refine k_iconst X (-1) dL_isCall_8 (by decide) ?_
  refine k_istore (L' := [(6, .int (-1)), (5, .int (nI 0)), (4, .int (-1)), (3, .int (-1)), (0, .ref (ad E 0 0)), (1, .ref (ad E 16 0)), (2, .int (nI c))]) X dL_isCall_9 (by decide) rfl ?_
  refine k_iconst X (nI 0) dL_isCall_11 (by decide) ?_
  refine k_istore (L' := [(7, .int (nI 0)), (6, .int (-1)), (5, .int (nI 0)), (4, .int (-1)), (3, .int (-1)), (0, .ref (ad E 0 0)), (1, .ref (ad E 16 0)), (2, .int (nI c))]) X dL_isCall_12 (by decide) rfl ?_
  exact L_L_isCall h c n hc hn12 hn X k_131 (n + 1) 0 (by omega) (Nat.zero_le n)
