/-! cancels -/
theorem eo_t {μ : Mem} {c n : Nat} (h : ¬ 200 ≤ μ 14 c n) : nI (eoN μ c n + 1) = nI (eoN μ c (n + 1)) := congrArg nI (ctB_t (p := fun b => !decide (200 ≤ μ 14 c b)) (by rw [decide_eq_false h]; rfl)).symm
theorem eo_f {μ : Mem} {c n : Nat} (h : 200 ≤ μ 14 c n) : nI (eoN μ c n + 0) = nI (eoN μ c (n + 1)) := congrArg nI (ctB_f (p := fun b => !decide (200 ≤ μ 14 c b)) (by rw [decide_eq_true h]; rfl)).symm

set_option maxHeartbeats 4000000 in
set_option maxRecDepth 100000 in
theorem C_L_cancels_e {E : EE} {μ : Mem} {K t q : Nat} (h : IX K t q μ) (c n : Nat) (hc : c < K) (hn12 : n ≤ 12) (hn : μ 11 c 4 = nI n) (hR : CR c n μ) (hf : ¬ μ 11 c 8 = -1) (h2 : IX K t q (fsM μ c n)) : MM E yL_cancels cL_cancels 7 (some .boolean) (rm 6 0) [.ref (ad E 0 0), .ref (ad E 16 0), .int (nI c)] μ (some (.int 1)) (fsM μ c n) := by
  refine MM.int (own := RL) [(0, .ref (ad E 0 0)), (1, .ref (ad E 16 0)), (2, .int (nI c))] rfl rfl rfl (Nat.le_of_ble_eq_true rfl) rfl (fun C X hE => ?_)
  refine k_aload_n X 0 dL_cancels_0 rfl rfl ?_
  refine k_iload_n X 2 dL_cancels_1 rfl rfl ?_
  refine k_callV (a := 0) (o := 0) (As := [.int (nI c)]) (S := []) X lk_L_56 rfl (by decide) rfl (N_finalOf h c hc) rfl rfl (Nat.le_of_ble_eq_true rfl) ⟨Nat.le_of_ble_eq_true rfl, Nat.le_of_ble_eq_true rfl⟩ ⟨Nat.le_of_ble_eq_true rfl, Nat.le_of_ble_eq_true rfl⟩ dL_cancels_2 ?_
  show KF E C 0 0 μ 5 _ [.int (μ 11 c 8)]
  refine k_iconst X (-1) dL_cancels_5 (by decide) ?_
  refine k_icmp_eq_f (tgt := 28) X dL_cancels_6 (by decide) hf ?_
  refine k_aload_n X 0 dL_cancels_9 rfl rfl ?_
  refine k_iload_n X 2 dL_cancels_10 rfl rfl ?_
  refine k_callV (a := 0) (o := 0) (As := [.int (nI c)]) (S := []) X lk_L_73 rfl (by decide) rfl (N_fs h c n hc hR hf) rfl rfl (Nat.le_of_ble_eq_true rfl) ⟨Nat.le_of_ble_eq_true rfl, Nat.le_of_ble_eq_true rfl⟩ ⟨Nat.le_of_ble_eq_true rfl, Nat.le_of_ble_eq_true rfl⟩ dL_cancels_11 ?_
  show KF E C 0 0 (fsM μ c n) 14 _ [.int (μ 11 c 8)]
  refine k_aload_n X 0 dL_cancels_14 rfl rfl ?_
  refine k_iload_n X 2 dL_cancels_15 rfl rfl ?_
  refine k_callV (a := 0) (o := 0) (As := [.int (nI c)]) (S := [.int (μ 11 c 8)]) X lk_L_56 rfl (by decide) rfl (N_finalOf h2 c hc) rfl rfl (Nat.le_of_ble_eq_true rfl) ⟨Nat.le_of_ble_eq_true rfl, Nat.le_of_ble_eq_true rfl⟩ ⟨Nat.le_of_ble_eq_true rfl, Nat.le_of_ble_eq_true rfl⟩ dL_cancels_16 ?_
  show KF E C 0 0 (fsM μ c n) 19 _ [.int (fsM μ c n 11 c 8), .int (μ 11 c 8)]
  refine k_val (y := μ 11 c 8) (fsM_k (by decide)) ?_
  refine k_icmp_ne_f (tgt := 26) X dL_cancels_19 (by decide) rfl ?_
  refine k_iconst X (nI 1) dL_cancels_22 (by decide) ?_
  refine k_goto (tgt := 27) X dL_cancels_23 (by decide) ?_
  exact k_iret dL_cancels_27 hE (by decide) rfl

set_option maxHeartbeats 4000000 in
set_option maxRecDepth 100000 in
theorem L_L_cancels {E : EE} {μ : Mem} {C : Ctx} {K t q : Nat} (h : IX K t q μ) (c n : Nat) (hc : c < K) (hn12 : n ≤ 12) (hn : μ 11 c 4 = nI n) (X : Cx E C cL_cancels RL 7 (rm 6 0)) (hx : KF E C 0 0 μ 101 [(4, .int (laI (pG (μ 14 c)) n)), (3, .int (nI (eoN μ c n))), (0, .ref (ad E 0 0)), (1, .ref (ad E 16 0)), (2, .int (nI c))] []) : ∀ (f : Nat) (i : Nat), n - i < f → i ≤ n → KF E C 0 0 μ 36 [(5, .int (nI i)), (4, .int (laI (pG (μ 14 c)) i)), (3, .int (nI (eoN μ c i))), (0, .ref (ad E 0 0)), (1, .ref (ad E 16 0)), (2, .int (nI c))] [] := by
  intro f
  induction f with
  | zero => intros; omega
  | succ f ih =>
    intro i hf hi
    refine k_iload X 0 dL_cancels_36 rfl ?_
    refine k_aload_n X 3 dL_cancels_38 rfl rfl ?_
    refine k_iload_n X 5 dL_cancels_39 rfl rfl ?_
    refine k_callV (a := 0) (o := 0) (As := [.int (nI c)]) (S := [.int (nI i)]) X lk_L_53 rfl (by decide) rfl (N_branches h c n hc hn) rfl rfl (Nat.le_of_ble_eq_true rfl) ⟨Nat.le_of_ble_eq_true rfl, Nat.le_of_ble_eq_true rfl⟩ ⟨Nat.le_of_ble_eq_true rfl, Nat.le_of_ble_eq_true rfl⟩ dL_cancels_40 ?_
    show KF E C 0 0 μ 43 _ [.int (nI n), .int (nI i)]
    refine k_ge_n (a := i) (b := n) (tgt := 101) X dL_cancels_43 (by decide) rfl rfl (by omega) (by omega) (fun c43 => ?_) (fun c43 => ?_)
    · obtain rfl : i = n := by omega
      refine k_pick (L' := [(4, .int (laI (pG (μ 14 c)) i)), (3, .int (nI (eoN μ c i))), (0, .ref (ad E 0 0)), (1, .ref (ad E 16 0)), (2, .int (nI c))]) [1, 2, 3, 4, 5] rfl ?_
      exact hx
    · refine k_aload_n X 3 dL_cancels_46 rfl rfl ?_
      refine k_iload_n X 5 dL_cancels_47 rfl rfl ?_
      refine k_iload X 0 dL_cancels_48 rfl ?_
      refine k_callV (a := 0) (o := 0) (As := [.int (nI c), .int (nI i)]) (S := []) X lk_L_62 rfl (by decide) rfl (N_state h c n i hc hn12 hn c43) rfl rfl (Nat.le_of_ble_eq_true rfl) ⟨Nat.le_of_ble_eq_true rfl, Nat.le_of_ble_eq_true rfl⟩ ⟨Nat.le_of_ble_eq_true rfl, Nat.le_of_ble_eq_true rfl⟩ dL_cancels_50 ?_
      show KF E C 0 0 μ 53 _ [.int (μ 14 c i)]
      refine k_istore (L' := [(6, .int (μ 14 c i)), (5, .int (nI i)), (4, .int (laI (pG (μ 14 c)) i)), (3, .int (nI (eoN μ c i))), (0, .ref (ad E 0 0)), (1, .ref (ad E 16 0)), (2, .int (nI c))]) X dL_cancels_53 (by decide) rfl ?_
      refine k_iload_n X 3 dL_cancels_55 rfl rfl ?_
      refine k_iload X 0 dL_cancels_56 rfl ?_
      refine k_sipush X 200 dL_cancels_58 (by decide) ?_
      refine k_icmp_ge (tgt := 68) X dL_cancels_61 (by decide) (fun c61 => ?_) (fun c61 => ?_)
      · refine k_iconst X (nI 0) dL_cancels_68 (by decide) ?_
        refine k_iadd X dL_cancels_69 ?_
        refine k_val (y := nI ((eoN μ c i) + 0)) (nI_add _ _) ?_
        refine k_val (y := nI (eoN μ c (i + 1))) (eo_f c61) ?_
        refine k_istore_n (L' := [(3, .int (nI (eoN μ c (i + 1)))), (6, .int (μ 14 c i)), (5, .int (nI i)), (4, .int (laI (pG (μ 14 c)) i)), (0, .ref (ad E 0 0)), (1, .ref (ad E 16 0)), (2, .int (nI c))]) X dL_cancels_70 rfl (by decide) rfl ?_
        refine k_iload X 1 dL_cancels_71 rfl ?_
        refine k_bipush X 100 dL_cancels_73 (by decide) ?_
        refine k_icmp_eq (tgt := 86) X dL_cancels_75 (by decide) (fun c75 => ?_) (fun c75 => ?_)
        · refine k_iload X 2 dL_cancels_86 rfl ?_
          refine k_goto (tgt := 93) X dL_cancels_88 (by decide) ?_
          refine k_val (y := laI (pG (μ 14 c)) (i + 1)) (laI_t (p := pG (μ 14 c)) (decide_eq_true (Or.inl c75))).symm ?_
          refine k_istore (L' := [(4, .int (laI (pG (μ 14 c)) (i + 1))), (3, .int (nI (eoN μ c (i + 1)))), (6, .int (μ 14 c i)), (5, .int (nI i)), (0, .ref (ad E 0 0)), (1, .ref (ad E 16 0)), (2, .int (nI c))]) X dL_cancels_93 (by decide) rfl ?_
          refine k_iinc (v := nI (i + 1)) (L' := [(5, .int (nI (i + 1))), (4, .int (laI (pG (μ 14 c)) (i + 1))), (3, .int (nI (eoN μ c (i + 1)))), (6, .int (μ 14 c i)), (0, .ref (ad E 0 0)), (1, .ref (ad E 16 0)), (2, .int (nI c))]) X 3 dL_cancels_95 rfl (nI_1 i) (by decide) rfl ?_
          refine k_goto (tgt := 36) X dL_cancels_98 (by decide) ?_
          refine k_pick (L' := [(5, .int (nI (i + 1))), (4, .int (laI (pG (μ 14 c)) (i + 1))), (3, .int (nI (eoN μ c (i + 1)))), (0, .ref (ad E 0 0)), (1, .ref (ad E 16 0)), (2, .int (nI c))]) [0, 1, 2, 4, 5, 6] rfl ?_
          exact ih (i + 1) (by omega) (by omega)
        · refine k_iload X 1 dL_cancels_78 rfl ?_
          refine k_sipush X 180 dL_cancels_80 (by decide) ?_
          refine k_icmp_ne (tgt := 91) X dL_cancels_83 (by decide) (fun c83 => ?_) (fun c83 => ?_)
          · refine k_iload X 3 dL_cancels_91 rfl ?_
            refine k_val (y := laI (pG (μ 14 c)) (i + 1)) (laI_f (p := pG (μ 14 c)) (decide_eq_false (fun q => q.elim c75 c83))).symm ?_
            refine k_istore (L' := [(4, .int (laI (pG (μ 14 c)) (i + 1))), (3, .int (nI (eoN μ c (i + 1)))), (6, .int (μ 14 c i)), (5, .int (nI i)), (0, .ref (ad E 0 0)), (1, .ref (ad E 16 0)), (2, .int (nI c))]) X dL_cancels_93 (by decide) rfl ?_
            refine k_iinc (v := nI (i + 1)) (L' := [(5, .int (nI (i + 1))), (4, .int (laI (pG (μ 14 c)) (i + 1))), (3, .int (nI (eoN μ c (i + 1)))), (6, .int (μ 14 c i)), (0, .ref (ad E 0 0)), (1, .ref (ad E 16 0)), (2, .int (nI c))]) X 3 dL_cancels_95 rfl (nI_1 i) (by decide) rfl ?_
            refine k_goto (tgt := 36) X dL_cancels_98 (by decide) ?_
            refine k_pick (L' := [(5, .int (nI (i + 1))), (4, .int (laI (pG (μ 14 c)) (i + 1))), (3, .int (nI (eoN μ c (i + 1)))), (0, .ref (ad E 0 0)), (1, .ref (ad E 16 0)), (2, .int (nI c))]) [0, 1, 2, 4, 5, 6] rfl ?_
            exact ih (i + 1) (by omega) (by omega)
          · refine k_iload X 2 dL_cancels_86 rfl ?_
            refine k_goto (tgt := 93) X dL_cancels_88 (by decide) ?_
            refine k_val (y := laI (pG (μ 14 c)) (i + 1)) (laI_t (p := pG (μ 14 c)) (decide_eq_true (Or.inr c83))).symm ?_
            refine k_istore (L' := [(4, .int (laI (pG (μ 14 c)) (i + 1))), (3, .int (nI (eoN μ c (i + 1)))), (6, .int (μ 14 c i)), (5, .int (nI i)), (0, .ref (ad E 0 0)), (1, .ref (ad E 16 0)), (2, .int (nI c))]) X dL_cancels_93 (by decide) rfl ?_
            refine k_iinc (v := nI (i + 1)) (L' := [(5, .int (nI (i + 1))), (4, .int (laI (pG (μ 14 c)) (i + 1))), (3, .int (nI (eoN μ c (i + 1)))), (6, .int (μ 14 c i)), (0, .ref (ad E 0 0)), (1, .ref (ad E 16 0)), (2, .int (nI c))]) X 3 dL_cancels_95 rfl (nI_1 i) (by decide) rfl ?_
            refine k_goto (tgt := 36) X dL_cancels_98 (by decide) ?_
            refine k_pick (L' := [(5, .int (nI (i + 1))), (4, .int (laI (pG (μ 14 c)) (i + 1))), (3, .int (nI (eoN μ c (i + 1)))), (0, .ref (ad E 0 0)), (1, .ref (ad E 16 0)), (2, .int (nI c))]) [0, 1, 2, 4, 5, 6] rfl ?_
            exact ih (i + 1) (by omega) (by omega)
      · refine k_iconst X (nI 1) dL_cancels_64 (by decide) ?_
        refine k_goto (tgt := 69) X dL_cancels_65 (by decide) ?_
        refine k_iadd X dL_cancels_69 ?_
        refine k_val (y := nI ((eoN μ c i) + 1)) (nI_add _ _) ?_
        refine k_val (y := nI (eoN μ c (i + 1))) (eo_t c61) ?_
        refine k_istore_n (L' := [(3, .int (nI (eoN μ c (i + 1)))), (6, .int (μ 14 c i)), (5, .int (nI i)), (4, .int (laI (pG (μ 14 c)) i)), (0, .ref (ad E 0 0)), (1, .ref (ad E 16 0)), (2, .int (nI c))]) X dL_cancels_70 rfl (by decide) rfl ?_
        refine k_iload X 1 dL_cancels_71 rfl ?_
        refine k_bipush X 100 dL_cancels_73 (by decide) ?_
        refine k_icmp_eq (tgt := 86) X dL_cancels_75 (by decide) (fun c75 => ?_) (fun c75 => ?_)
        · refine k_iload X 2 dL_cancels_86 rfl ?_
          refine k_goto (tgt := 93) X dL_cancels_88 (by decide) ?_
          refine k_val (y := laI (pG (μ 14 c)) (i + 1)) (laI_t (p := pG (μ 14 c)) (decide_eq_true (Or.inl c75))).symm ?_
          refine k_istore (L' := [(4, .int (laI (pG (μ 14 c)) (i + 1))), (3, .int (nI (eoN μ c (i + 1)))), (6, .int (μ 14 c i)), (5, .int (nI i)), (0, .ref (ad E 0 0)), (1, .ref (ad E 16 0)), (2, .int (nI c))]) X dL_cancels_93 (by decide) rfl ?_
          refine k_iinc (v := nI (i + 1)) (L' := [(5, .int (nI (i + 1))), (4, .int (laI (pG (μ 14 c)) (i + 1))), (3, .int (nI (eoN μ c (i + 1)))), (6, .int (μ 14 c i)), (0, .ref (ad E 0 0)), (1, .ref (ad E 16 0)), (2, .int (nI c))]) X 3 dL_cancels_95 rfl (nI_1 i) (by decide) rfl ?_
          refine k_goto (tgt := 36) X dL_cancels_98 (by decide) ?_
          refine k_pick (L' := [(5, .int (nI (i + 1))), (4, .int (laI (pG (μ 14 c)) (i + 1))), (3, .int (nI (eoN μ c (i + 1)))), (0, .ref (ad E 0 0)), (1, .ref (ad E 16 0)), (2, .int (nI c))]) [0, 1, 2, 4, 5, 6] rfl ?_
          exact ih (i + 1) (by omega) (by omega)
        · refine k_iload X 1 dL_cancels_78 rfl ?_
          refine k_sipush X 180 dL_cancels_80 (by decide) ?_
          refine k_icmp_ne (tgt := 91) X dL_cancels_83 (by decide) (fun c83 => ?_) (fun c83 => ?_)
          · refine k_iload X 3 dL_cancels_91 rfl ?_
            refine k_val (y := laI (pG (μ 14 c)) (i + 1)) (laI_f (p := pG (μ 14 c)) (decide_eq_false (fun q => q.elim c75 c83))).symm ?_
            refine k_istore (L' := [(4, .int (laI (pG (μ 14 c)) (i + 1))), (3, .int (nI (eoN μ c (i + 1)))), (6, .int (μ 14 c i)), (5, .int (nI i)), (0, .ref (ad E 0 0)), (1, .ref (ad E 16 0)), (2, .int (nI c))]) X dL_cancels_93 (by decide) rfl ?_
            refine k_iinc (v := nI (i + 1)) (L' := [(5, .int (nI (i + 1))), (4, .int (laI (pG (μ 14 c)) (i + 1))), (3, .int (nI (eoN μ c (i + 1)))), (6, .int (μ 14 c i)), (0, .ref (ad E 0 0)), (1, .ref (ad E 16 0)), (2, .int (nI c))]) X 3 dL_cancels_95 rfl (nI_1 i) (by decide) rfl ?_
            refine k_goto (tgt := 36) X dL_cancels_98 (by decide) ?_
            refine k_pick (L' := [(5, .int (nI (i + 1))), (4, .int (laI (pG (μ 14 c)) (i + 1))), (3, .int (nI (eoN μ c (i + 1)))), (0, .ref (ad E 0 0)), (1, .ref (ad E 16 0)), (2, .int (nI c))]) [0, 1, 2, 4, 5, 6] rfl ?_
            exact ih (i + 1) (by omega) (by omega)
          · refine k_iload X 2 dL_cancels_86 rfl ?_
            refine k_goto (tgt := 93) X dL_cancels_88 (by decide) ?_
            refine k_val (y := laI (pG (μ 14 c)) (i + 1)) (laI_t (p := pG (μ 14 c)) (decide_eq_true (Or.inr c83))).symm ?_
            refine k_istore (L' := [(4, .int (laI (pG (μ 14 c)) (i + 1))), (3, .int (nI (eoN μ c (i + 1)))), (6, .int (μ 14 c i)), (5, .int (nI i)), (0, .ref (ad E 0 0)), (1, .ref (ad E 16 0)), (2, .int (nI c))]) X dL_cancels_93 (by decide) rfl ?_
            refine k_iinc (v := nI (i + 1)) (L' := [(5, .int (nI (i + 1))), (4, .int (laI (pG (μ 14 c)) (i + 1))), (3, .int (nI (eoN μ c (i + 1)))), (6, .int (μ 14 c i)), (0, .ref (ad E 0 0)), (1, .ref (ad E 16 0)), (2, .int (nI c))]) X 3 dL_cancels_95 rfl (nI_1 i) (by decide) rfl ?_
            refine k_goto (tgt := 36) X dL_cancels_98 (by decide) ?_
            refine k_pick (L' := [(5, .int (nI (i + 1))), (4, .int (laI (pG (μ 14 c)) (i + 1))), (3, .int (nI (eoN μ c (i + 1)))), (0, .ref (ad E 0 0)), (1, .ref (ad E 16 0)), (2, .int (nI c))]) [0, 1, 2, 4, 5, 6] rfl ?_
            exact ih (i + 1) (by omega) (by omega)

set_option maxHeartbeats 4000000 in
set_option maxRecDepth 100000 in
theorem C_L_cancels_o {E : EE} {μ : Mem} {K t q : Nat} (h : IX K t q μ) (c n : Nat) (hc : c < K) (hn12 : n ≤ 12) (hn : μ 11 c 4 = nI n) (b d M M2 : Nat) (μ3 μ4 μ5 : Mem) (hb : b < n) (hd : d < 10) (hf : μ 11 c 8 = -1) (hrb : laI (pG (μ 14 c)) n = nI b) (h2 : IX K t q (caM μ c n)) (h28 : caM μ c n 11 c 8 = 487) (h27 : caM μ c n 11 c 7 = -1) (hM3 : caM μ c n 16 0 3 = nI M) (hM4 : nI M ||| (nI 1 <<< (nI c &&& 31)) = nI M2) (hμ3 : st (caM μ c n) 16 0 3 (nI M2) = μ3) (h3 : IX K t q μ3) (hn3 : μ3 11 c 4 = nI n) (hd3 : μ3 12 c b = nI d) (hμ4 : st μ3 16 0 (4 + d) (μ3 16 0 (4 + d) + nI 1) = μ4) (han : MM E yX2_answer cX2_answer 6 (some .int) (rm 5 0) [.ref (ad E 0 0), .int (nI c), .int (nI d), .int 200] μ4 (some (.int (μ5 11 c 8))) μ5) (h5 : IX K t q μ5) (hn5 : μ5 11 c 4 = nI n) (h58 : μ5 11 c 8 = 487) (hH : μ5 3 0 d = μ5 16 0 (4 + d)) (h5s : μ5 14 c b = 487) : MM E yL_cancels cL_cancels 7 (some .boolean) (rm 6 0) [.ref (ad E 0 0), .ref (ad E 16 0), .int (nI c)] μ (some (.int 1)) μ5 := by
  refine MM.int (own := RL) [(0, .ref (ad E 0 0)), (1, .ref (ad E 16 0)), (2, .int (nI c))] rfl rfl rfl (Nat.le_of_ble_eq_true rfl) rfl (fun C X hE => ?_)
  have k_101 : KF E C 0 0 μ 101 [(4, .int (laI (pG (μ 14 c)) n)), (3, .int (nI (eoN μ c n))), (0, .ref (ad E 0 0)), (1, .ref (ad E 16 0)), (2, .int (nI c))] [] := by
    refine k_aload_n X 2 dL_cancels_101 rfl rfl ?_
    refine k_iload_n X 4 dL_cancels_102 rfl rfl ?_
    refine k_callV (a := 0) (o := 0) (As := [.int (nI c)]) (S := []) X lk_L_76 rfl (by decide) rfl (N_cancel h c n hc hn12 hn hf) rfl rfl (Nat.le_of_ble_eq_true rfl) ⟨Nat.le_of_ble_eq_true rfl, Nat.le_of_ble_eq_true rfl⟩ ⟨Nat.le_of_ble_eq_true rfl, Nat.le_of_ble_eq_true rfl⟩ dL_cancels_103 ?_
    show KF E C 0 0 (caM μ c n) 106 _ [.int (nI (eoN μ c n))]
    refine k_iload_n X 1 dL_cancels_106 rfl rfl ?_
    refine k_icmp_ne_f (tgt := 140) X dL_cancels_107 (by decide) rfl ?_
    refine k_aload_n X 2 dL_cancels_110 rfl rfl ?_
    refine k_iload_n X 4 dL_cancels_111 rfl rfl ?_
    refine k_callV (a := 0) (o := 0) (As := [.int (nI c)]) (S := []) X lk_L_56 rfl (by decide) rfl (N_finalOf h2 c hc) rfl rfl (Nat.le_of_ble_eq_true rfl) ⟨Nat.le_of_ble_eq_true rfl, Nat.le_of_ble_eq_true rfl⟩ ⟨Nat.le_of_ble_eq_true rfl, Nat.le_of_ble_eq_true rfl⟩ dL_cancels_112 ?_
    show KF E C 0 0 (caM μ c n) 115 _ [.int (caM μ c n 11 c 8)]
    refine k_sipush X 487 dL_cancels_115 (by decide) ?_
    refine k_icmp_ne_f (tgt := 140) X dL_cancels_118 (by decide) h28 ?_
    refine k_aload_n X 2 dL_cancels_121 rfl rfl ?_
    refine k_iload_n X 4 dL_cancels_122 rfl rfl ?_
    refine k_callV (a := 0) (o := 0) (As := [.int (nI c)]) (S := []) X lk_L_50 rfl (by decide) rfl (N_answered h2 c hc) rfl rfl (Nat.le_of_ble_eq_true rfl) ⟨Nat.le_of_ble_eq_true rfl, Nat.le_of_ble_eq_true rfl⟩ ⟨Nat.le_of_ble_eq_true rfl, Nat.le_of_ble_eq_true rfl⟩ dL_cancels_123 ?_
    show KF E C 0 0 (caM μ c n) 126 _ [.int (caM μ c n 11 c 7)]
    refine k_iconst X (-1) dL_cancels_126 (by decide) ?_
    refine k_icmp_ne_f (tgt := 140) X dL_cancels_127 (by decide) h27 ?_
    refine k_iload X 0 dL_cancels_130 rfl ?_
    refine k_iconst X (-1) dL_cancels_132 (by decide) ?_
    refine k_icmp_eq_f (tgt := 140) X dL_cancels_133 (by decide) (fun z => nI_m1 (by omega) (hrb.symm.trans z)) ?_
    refine k_iconst X (nI 1) dL_cancels_136 (by decide) ?_
    refine k_goto (tgt := 141) X dL_cancels_137 (by decide) ?_
    refine k_istore (L' := [(5, .int (nI 1)), (4, .int (laI (pG (μ 14 c)) n)), (3, .int (nI (eoN μ c n))), (0, .ref (ad E 0 0)), (1, .ref (ad E 16 0)), (2, .int (nI c))]) X dL_cancels_141 (by decide) rfl ?_
    refine k_aload_n X 4 dL_cancels_143 rfl rfl ?_
    refine k_iconst X (nI 3) dL_cancels_144 (by decide) ?_
    refine k_dup2 X dL_cancels_145 rfl rfl ?_
    refine k_iald (a := 16) (j := 3) X rfl (by decide) rfl (show 3 < 14 by omega) (by decide) dL_cancels_146 ?_
    refine k_val (y := nI M) hM3 ?_
    refine k_iconst X (nI 1) dL_cancels_147 (by decide) ?_
    refine k_iload_n X 5 dL_cancels_148 rfl rfl ?_
    refine k_ishl X dL_cancels_149 ?_
    refine k_ior X dL_cancels_150 ?_
    refine k_val (y := nI M2) hM4 ?_
    refine k_iast (a := 16) (j := 3) X rfl (by decide) rfl (show 3 < 14 by omega) (by decide) dL_cancels_151 ?_
    refine k_mem (μ' := μ3) hμ3 ?_
    refine k_iload X 0 dL_cancels_152 rfl ?_
    refine k_if_eq_f (tgt := 167) X dL_cancels_154 (by decide) (by decide) ?_
    refine k_aload_n X 3 dL_cancels_157 rfl rfl ?_
    refine k_iload_n X 5 dL_cancels_158 rfl rfl ?_
    refine k_iload X 1 dL_cancels_159 rfl ?_
    refine k_val (y := nI b) hrb ?_
    refine k_callV (a := 0) (o := 0) (As := [.int (nI c), .int (nI b)]) (S := []) X lk_L_59 rfl (by decide) rfl (N_device h3 c n b hc hn12 hn3 hb) rfl rfl (Nat.le_of_ble_eq_true rfl) ⟨Nat.le_of_ble_eq_true rfl, Nat.le_of_ble_eq_true rfl⟩ ⟨Nat.le_of_ble_eq_true rfl, Nat.le_of_ble_eq_true rfl⟩ dL_cancels_161 ?_
    show KF E C 0 0 μ3 164 _ [.int (μ3 12 c b)]
    refine k_val (y := nI d) hd3 ?_
    refine k_goto (tgt := 168) X dL_cancels_164 (by decide) ?_
    refine k_istore (L' := [(6, .int (nI d)), (5, .int (nI 1)), (4, .int (laI (pG (μ 14 c)) n)), (3, .int (nI (eoN μ c n))), (0, .ref (ad E 0 0)), (1, .ref (ad E 16 0)), (2, .int (nI c))]) X dL_cancels_168 (by decide) rfl ?_
    refine k_aload_n X 5 dL_cancels_170 rfl rfl ?_
    refine k_iconst X (nI 4) dL_cancels_171 (by decide) ?_
    refine k_iload X 0 dL_cancels_172 rfl ?_
    refine k_iadd X dL_cancels_174 ?_
    refine k_val (y := nI (4 + d)) (nI_add _ _) ?_
    refine k_dup2 X dL_cancels_175 rfl rfl ?_
    refine k_iald (a := 16) (j := (4 + d)) X rfl (by decide) rfl (show (4 + d) < 14 by omega) (by decide) dL_cancels_176 ?_
    refine k_iconst X (nI 1) dL_cancels_177 (by decide) ?_
    refine k_iadd X dL_cancels_178 ?_
    refine k_iast (a := 16) (j := (4 + d)) X rfl (by decide) rfl (show (4 + d) < 14 by omega) (by decide) dL_cancels_179 ?_
    refine k_mem (μ' := μ4) hμ4 ?_
    refine k_iload X 1 dL_cancels_180 rfl ?_
    refine k_if_eq_f (tgt := 233) X dL_cancels_182 (by decide) (by decide) ?_
    refine k_aload_n X 4 dL_cancels_185 rfl rfl ?_
    refine k_iload_n X 6 dL_cancels_186 rfl rfl ?_
    refine k_iload X 0 dL_cancels_187 rfl ?_
    refine k_sipush X 200 dL_cancels_189 (by decide) ?_
    refine k_callV (a := 0) (o := 0) (As := [.int (nI c), .int (nI d), .int 200]) (S := []) X lk_L_65 rfl (by decide) rfl han rfl rfl (Nat.le_of_ble_eq_true rfl) ⟨Nat.le_of_ble_eq_true rfl, Nat.le_of_ble_eq_true rfl⟩ ⟨Nat.le_of_ble_eq_true rfl, Nat.le_of_ble_eq_true rfl⟩ dL_cancels_192 ?_
    show KF E C 0 0 μ5 195 _ [.int (μ5 11 c 8)]
    refine k_sipush X 487 dL_cancels_195 (by decide) ?_
    refine k_icmp_ne_f (tgt := 233) X dL_cancels_198 (by decide) h58 ?_
    refine k_aload_n X 4 dL_cancels_201 rfl rfl ?_
    refine k_iload X 0 dL_cancels_202 rfl ?_
    refine k_callV (a := 0) (o := 0) (As := [.int (nI d)]) (S := []) X lk_L_79 rfl (by decide) rfl (N_hungUp d hd) rfl rfl (Nat.le_of_ble_eq_true rfl) ⟨Nat.le_of_ble_eq_true rfl, Nat.le_of_ble_eq_true rfl⟩ ⟨Nat.le_of_ble_eq_true rfl, Nat.le_of_ble_eq_true rfl⟩ dL_cancels_204 ?_
    show KF E C 0 0 μ5 207 _ [.int (μ5 3 0 d)]
    refine k_aload_n X 5 dL_cancels_207 rfl rfl ?_
    refine k_iconst X (nI 4) dL_cancels_208 (by decide) ?_
    refine k_iload X 0 dL_cancels_209 rfl ?_
    refine k_iadd X dL_cancels_211 ?_
    refine k_val (y := nI (4 + d)) (nI_add _ _) ?_
    refine k_iald (a := 16) (j := (4 + d)) X rfl (by decide) rfl (show (4 + d) < 14 by omega) (by decide) dL_cancels_212 ?_
    refine k_icmp_ne_f (tgt := 233) X dL_cancels_213 (by decide) hH ?_
    refine k_aload_n X 4 dL_cancels_216 rfl rfl ?_
    refine k_iload_n X 6 dL_cancels_217 rfl rfl ?_
    refine k_iload X 2 dL_cancels_218 rfl ?_
    refine k_val (y := nI b) hrb ?_
    refine k_callV (a := 0) (o := 0) (As := [.int (nI c), .int (nI b)]) (S := []) X lk_L_62 rfl (by decide) rfl (N_state h5 c n b hc hn12 hn5 hb) rfl rfl (Nat.le_of_ble_eq_true rfl) ⟨Nat.le_of_ble_eq_true rfl, Nat.le_of_ble_eq_true rfl⟩ ⟨Nat.le_of_ble_eq_true rfl, Nat.le_of_ble_eq_true rfl⟩ dL_cancels_220 ?_
    show KF E C 0 0 μ5 223 _ [.int (μ5 14 c b)]
    refine k_sipush X 487 dL_cancels_223 (by decide) ?_
    refine k_icmp_ne_f (tgt := 233) X dL_cancels_226 (by decide) h5s ?_
    refine k_iconst X (nI 1) dL_cancels_229 (by decide) ?_
    refine k_goto (tgt := 234) X dL_cancels_230 (by decide) ?_
    exact k_iret dL_cancels_234 hE (by decide) rfl
  refine k_aload_n X 0 dL_cancels_0 rfl rfl ?_
  refine k_iload_n X 2 dL_cancels_1 rfl rfl ?_
  refine k_callV (a := 0) (o := 0) (As := [.int (nI c)]) (S := []) X lk_L_56 rfl (by decide) rfl (N_finalOf h c hc) rfl rfl (Nat.le_of_ble_eq_true rfl) ⟨Nat.le_of_ble_eq_true rfl, Nat.le_of_ble_eq_true rfl⟩ ⟨Nat.le_of_ble_eq_true rfl, Nat.le_of_ble_eq_true rfl⟩ dL_cancels_2 ?_
  show KF E C 0 0 μ 5 _ [.int (μ 11 c 8)]
  refine k_iconst X (-1) dL_cancels_5 (by decide) ?_
  refine k_icmp_eq_t (tgt := 28) X dL_cancels_6 (by decide) hf ?_
  refine k_iconst X (nI 0) dL_cancels_28 (by decide) ?_
  refine k_istore_n (L' := [(3, .int (nI 0)), (0, .ref (ad E 0 0)), (1, .ref (ad E 16 0)), (2, .int (nI c))]) X dL_cancels_29 rfl (by decide) rfl ?_
  refine k_iconst X (-1) dL_cancels_30 (by decide) ?_
  refine k_istore (L' := [(4, .int (-1)), (3, .int (nI 0)), (0, .ref (ad E 0 0)), (1, .ref (ad E 16 0)), (2, .int (nI c))]) X dL_cancels_31 (by decide) rfl ?_
  refine k_iconst X (nI 0) dL_cancels_33 (by decide) ?_
  refine k_istore (L' := [(5, .int (nI 0)), (4, .int (-1)), (3, .int (nI 0)), (0, .ref (ad E 0 0)), (1, .ref (ad E 16 0)), (2, .int (nI c))]) X dL_cancels_34 (by decide) rfl ?_
  exact L_L_cancels h c n hc hn12 hn X k_101 (n + 1) 0 (by omega) (Nat.zero_le n)
