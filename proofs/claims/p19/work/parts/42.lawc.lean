/-! passes: time goes by -/
theorem en_t {μ : Mem} {n : Nat} (h : ¬ μ 11 n 8 = -1) : nI (EN μ n + 1) = nI (EN μ (n + 1)) := congrArg nI (ctB_t (p := fun c => !decide (μ 11 c 8 = -1)) (by rw [decide_eq_false h]; rfl)).symm
theorem en_f {μ : Mem} {n : Nat} (h : μ 11 n 8 = -1) : nI (EN μ n + 0) = nI (EN μ (n + 1)) := congrArg nI (ctB_f (p := fun c => !decide (μ 11 c 8 = -1)) (by rw [decide_eq_true h]; rfl)).symm

set_option maxHeartbeats 4000000 in
set_option maxRecDepth 100000 in
theorem L1_L_passes {E : EE} {μ : Mem} {C : Ctx} {K t q : Nat} (h : IX K t q μ) (hk : μ 16 0 1 = nI K) (hK : K ≤ 12) (x : Int32) (X : Cx E C cL_passes RL 8 (rm 7 0)) (hx : KF E C 0 0 μ 37 [(3, .int (nI (EN μ K))), (0, .ref (ad E 0 0)), (1, .ref (ad E 16 0)), (2, .int x)] []) : ∀ (f : Nat) (i : Nat), K - i < f → i ≤ K → KF E C 0 0 μ 5 [(4, .int (nI i)), (3, .int (nI (EN μ i))), (0, .ref (ad E 0 0)), (1, .ref (ad E 16 0)), (2, .int x)] [] := by
  intro f
  induction f with
  | zero => intros; omega
  | succ f ih =>
    intro i hf hi
    refine k_iload X 0 dL_passes_5 rfl ?_
    refine k_aload_n X 3 dL_passes_7 rfl rfl ?_
    refine k_iconst X (nI 1) dL_passes_8 (by decide) ?_
    refine k_iald (a := 16) (j := 1) X rfl (by decide) rfl (show 1 < 14 by omega) (by decide) dL_passes_9 ?_
    refine k_val (y := nI K) hk ?_
    refine k_ge_n (a := i) (b := K) (tgt := 37) X dL_passes_10 (by decide) rfl rfl (by omega) (by omega) (fun c10 => ?_) (fun c10 => ?_)
    · obtain rfl : i = K := by omega
      refine k_pick (L' := [(3, .int (nI (EN μ i))), (0, .ref (ad E 0 0)), (1, .ref (ad E 16 0)), (2, .int x)]) [1, 2, 3, 4] rfl ?_
      exact hx
    · refine k_iload_n X 1 dL_passes_13 rfl rfl ?_
      refine k_aload_n X 2 dL_passes_14 rfl rfl ?_
      refine k_iload X 0 dL_passes_15 rfl ?_
      refine k_callV (a := 0) (o := 0) (As := [.int (nI i)]) (S := [.int (nI (EN μ i))]) X lk_L_56 rfl (by decide) rfl (N_finalOf h i c10) rfl rfl (Nat.le_of_ble_eq_true rfl) ⟨Nat.le_of_ble_eq_true rfl, Nat.le_of_ble_eq_true rfl⟩ ⟨Nat.le_of_ble_eq_true rfl, Nat.le_of_ble_eq_true rfl⟩ dL_passes_17 ?_
      show KF E C 0 0 μ 20 _ [.int (μ 11 i 8), .int (nI (EN μ i))]
      refine k_iconst X (-1) dL_passes_20 (by decide) ?_
      refine k_icmp_eq (tgt := 28) X dL_passes_21 (by decide) (fun c21 => ?_) (fun c21 => ?_)
      · refine k_iconst X (nI 0) dL_passes_28 (by decide) ?_
        refine k_iadd X dL_passes_29 ?_
        refine k_val (y := nI ((EN μ i) + 0)) (nI_add _ _) ?_
        refine k_val (y := nI (EN μ (i + 1))) (en_f c21) ?_
        refine k_istore_n (L' := [(3, .int (nI (EN μ (i + 1)))), (4, .int (nI i)), (0, .ref (ad E 0 0)), (1, .ref (ad E 16 0)), (2, .int x)]) X dL_passes_30 rfl (by decide) rfl ?_
        refine k_iinc (v := nI (i + 1)) (L' := [(4, .int (nI (i + 1))), (3, .int (nI (EN μ (i + 1)))), (0, .ref (ad E 0 0)), (1, .ref (ad E 16 0)), (2, .int x)]) X 1 dL_passes_31 rfl (nI_1 i) (by decide) rfl ?_
        refine k_goto (tgt := 5) X dL_passes_34 (by decide) ?_
        exact ih (i + 1) (by omega) (by omega)
      · refine k_iconst X (nI 1) dL_passes_24 (by decide) ?_
        refine k_goto (tgt := 29) X dL_passes_25 (by decide) ?_
        refine k_iadd X dL_passes_29 ?_
        refine k_val (y := nI ((EN μ i) + 1)) (nI_add _ _) ?_
        refine k_val (y := nI (EN μ (i + 1))) (en_t c21) ?_
        refine k_istore_n (L' := [(3, .int (nI (EN μ (i + 1)))), (4, .int (nI i)), (0, .ref (ad E 0 0)), (1, .ref (ad E 16 0)), (2, .int x)]) X dL_passes_30 rfl (by decide) rfl ?_
        refine k_iinc (v := nI (i + 1)) (L' := [(4, .int (nI (i + 1))), (3, .int (nI (EN μ (i + 1)))), (0, .ref (ad E 0 0)), (1, .ref (ad E 16 0)), (2, .int x)]) X 1 dL_passes_31 rfl (nI_1 i) (by decide) rfl ?_
        refine k_goto (tgt := 5) X dL_passes_34 (by decide) ?_
        exact ih (i + 1) (by omega) (by omega)

set_option maxHeartbeats 4000000 in
set_option maxRecDepth 100000 in
theorem L2_L_passes {E : EE} {μ : Mem} {C : Ctx} {K t q : Nat} (h : IX K t q μ) (hk : μ 16 0 1 = nI K) (hK : K ≤ 12) (x a b : Int32) (hT : x < 120) (X : Cx E C cL_passes RL 8 (rm 7 0)) (hx : KF E C 0 0 μ 136 [(6, .int (nI 1)), (5, .int (nI (EN μ K))), (0, .ref (ad E 0 0)), (1, .ref (ad E 16 0)), (2, .int x), (3, .int a), (4, .int b)] []) : ∀ (f : Nat) (i : Nat), K - i < f → i ≤ K → KF E C 0 0 μ 74 [(7, .int (nI i)), (6, .int (nI 1)), (5, .int (nI (EN μ i))), (0, .ref (ad E 0 0)), (1, .ref (ad E 16 0)), (2, .int x), (3, .int a), (4, .int b)] [] := by
  intro f
  induction f with
  | zero => intros; omega
  | succ f ih =>
    intro i hf hi
    refine k_iload X 0 dL_passes_74 rfl ?_
    refine k_aload_n X 4 dL_passes_76 rfl rfl ?_
    refine k_iconst X (nI 1) dL_passes_77 (by decide) ?_
    refine k_iald (a := 16) (j := 1) X rfl (by decide) rfl (show 1 < 14 by omega) (by decide) dL_passes_78 ?_
    refine k_val (y := nI K) hk ?_
    refine k_ge_n (a := i) (b := K) (tgt := 136) X dL_passes_79 (by decide) rfl rfl (by omega) (by omega) (fun c79 => ?_) (fun c79 => ?_)
    · obtain rfl : i = K := by omega
      refine k_pick (L' := [(6, .int (nI 1)), (5, .int (nI (EN μ i))), (0, .ref (ad E 0 0)), (1, .ref (ad E 16 0)), (2, .int x), (3, .int a), (4, .int b)]) [1, 2, 3, 4, 5, 6, 7] rfl ?_
      exact hx
    · refine k_iload X 1 dL_passes_82 rfl ?_
      refine k_if_eq_f (tgt := 136) X dL_passes_84 (by decide) (by decide) ?_
      refine k_iload X 2 dL_passes_87 rfl ?_
      refine k_aload_n X 3 dL_passes_89 rfl rfl ?_
      refine k_iload X 0 dL_passes_90 rfl ?_
      refine k_callV (a := 0) (o := 0) (As := [.int (nI i)]) (S := [.int (nI (EN μ i))]) X lk_L_56 rfl (by decide) rfl (N_finalOf h i c79) rfl rfl (Nat.le_of_ble_eq_true rfl) ⟨Nat.le_of_ble_eq_true rfl, Nat.le_of_ble_eq_true rfl⟩ ⟨Nat.le_of_ble_eq_true rfl, Nat.le_of_ble_eq_true rfl⟩ dL_passes_92 ?_
      show KF E C 0 0 μ 95 _ [.int (μ 11 i 8), .int (nI (EN μ i))]
      refine k_iconst X (-1) dL_passes_95 (by decide) ?_
      refine k_icmp_eq (tgt := 103) X dL_passes_96 (by decide) (fun c96 => ?_) (fun c96 => ?_)
      · refine k_iconst X (nI 0) dL_passes_103 (by decide) ?_
        refine k_iadd X dL_passes_104 ?_
        refine k_val (y := nI ((EN μ i) + 0)) (nI_add _ _) ?_
        refine k_val (y := nI (EN μ (i + 1))) (en_f c96) ?_
        refine k_istore (L' := [(5, .int (nI (EN μ (i + 1)))), (7, .int (nI i)), (6, .int (nI 1)), (0, .ref (ad E 0 0)), (1, .ref (ad E 16 0)), (2, .int x), (3, .int a), (4, .int b)]) X dL_passes_105 (by decide) rfl ?_
        refine k_iload_n X 5 dL_passes_107 rfl rfl ?_
        refine k_bipush X 120 dL_passes_108 (by decide) ?_
        refine k_icmp_lt_t (tgt := 123) X dL_passes_110 (by decide) hT ?_
        refine k_iconst X (nI 1) dL_passes_123 (by decide) ?_
        refine k_goto (tgt := 128) X dL_passes_124 (by decide) ?_
        refine k_istore (L' := [(6, .int (nI 1)), (5, .int (nI (EN μ (i + 1)))), (7, .int (nI i)), (0, .ref (ad E 0 0)), (1, .ref (ad E 16 0)), (2, .int x), (3, .int a), (4, .int b)]) X dL_passes_128 (by decide) rfl ?_
        refine k_iinc (v := nI (i + 1)) (L' := [(7, .int (nI (i + 1))), (6, .int (nI 1)), (5, .int (nI (EN μ (i + 1)))), (0, .ref (ad E 0 0)), (1, .ref (ad E 16 0)), (2, .int x), (3, .int a), (4, .int b)]) X 2 dL_passes_130 rfl (nI_1 i) (by decide) rfl ?_
        refine k_goto (tgt := 74) X dL_passes_133 (by decide) ?_
        exact ih (i + 1) (by omega) (by omega)
      · refine k_iconst X (nI 1) dL_passes_99 (by decide) ?_
        refine k_goto (tgt := 104) X dL_passes_100 (by decide) ?_
        refine k_iadd X dL_passes_104 ?_
        refine k_val (y := nI ((EN μ i) + 1)) (nI_add _ _) ?_
        refine k_val (y := nI (EN μ (i + 1))) (en_t c96) ?_
        refine k_istore (L' := [(5, .int (nI (EN μ (i + 1)))), (7, .int (nI i)), (6, .int (nI 1)), (0, .ref (ad E 0 0)), (1, .ref (ad E 16 0)), (2, .int x), (3, .int a), (4, .int b)]) X dL_passes_105 (by decide) rfl ?_
        refine k_iload_n X 5 dL_passes_107 rfl rfl ?_
        refine k_bipush X 120 dL_passes_108 (by decide) ?_
        refine k_icmp_lt_t (tgt := 123) X dL_passes_110 (by decide) hT ?_
        refine k_iconst X (nI 1) dL_passes_123 (by decide) ?_
        refine k_goto (tgt := 128) X dL_passes_124 (by decide) ?_
        refine k_istore (L' := [(6, .int (nI 1)), (5, .int (nI (EN μ (i + 1)))), (7, .int (nI i)), (0, .ref (ad E 0 0)), (1, .ref (ad E 16 0)), (2, .int x), (3, .int a), (4, .int b)]) X dL_passes_128 (by decide) rfl ?_
        refine k_iinc (v := nI (i + 1)) (L' := [(7, .int (nI (i + 1))), (6, .int (nI 1)), (5, .int (nI (EN μ (i + 1)))), (0, .ref (ad E 0 0)), (1, .ref (ad E 16 0)), (2, .int x), (3, .int a), (4, .int b)]) X 2 dL_passes_130 rfl (nI_1 i) (by decide) rfl ?_
        refine k_goto (tgt := 74) X dL_passes_133 (by decide) ?_
        exact ih (i + 1) (by omega) (by omega)

set_option maxHeartbeats 4000000 in
set_option maxRecDepth 100000 in
theorem C_L_passes {E : EE} {μ : Mem} {K t q : Nat} (h : IX K t q μ) (hk : μ 16 0 1 = nI K) (hK : K ≤ 12) (T d : Nat) (μ1 : Mem) (hT : nI T < 120) (h0 : μ1 16 0 0 = nI t) (h2 : IX K (t + T) q (st μ1 16 0 0 (nI (t + T)))) (hk2 : (st μ1 16 0 0 (nI (t + T))) 16 0 1 = nI K) (hEN : EN (st μ1 16 0 0 (nI (t + T))) K = EN μ K + d) (hp : MM E yX2_pass cX2_pass 4 (some .int) (rm 6 0) [.ref (ad E 0 0), .int (nI T)] μ (some (.int (nI d))) μ1) : MM E yL_passes cL_passes 8 (some .boolean) (rm 7 0) [.ref (ad E 0 0), .ref (ad E 16 0), .int (nI T)] μ (some (.int 1)) (st μ1 16 0 0 (nI (t + T))) := by
  refine MM.int (own := RL) [(0, .ref (ad E 0 0)), (1, .ref (ad E 16 0)), (2, .int (nI T))] rfl rfl rfl (Nat.le_of_ble_eq_true rfl) rfl (fun C X hE => ?_)
  have k_136 : KF E C 0 0 (st μ1 16 0 0 (nI (t + T))) 136 [(6, .int (nI 1)), (5, .int (nI (EN (st μ1 16 0 0 (nI (t + T))) K))), (0, .ref (ad E 0 0)), (1, .ref (ad E 16 0)), (2, .int (nI T)), (3, .int (nI (EN μ K))), (4, .int (nI d))] [] := by
    refine k_iload X 0 dL_passes_136 rfl ?_
    refine k_if_eq_f (tgt := 154) X dL_passes_138 (by decide) (by decide) ?_
    refine k_iload X 1 dL_passes_141 rfl ?_
    refine k_iload_n X 5 dL_passes_143 rfl rfl ?_
    refine k_iload X 6 dL_passes_144 rfl ?_
    refine k_iadd X dL_passes_146 ?_
    refine k_val (y := nI (EN μ K + d)) (nI_add _ _) ?_
    refine k_icmp_ne_f (tgt := 154) X dL_passes_147 (by decide) (congrArg nI hEN) ?_
    refine k_iconst X (nI 1) dL_passes_150 (by decide) ?_
    refine k_goto (tgt := 155) X dL_passes_151 (by decide) ?_
    exact k_iret dL_passes_155 hE (by decide) rfl
  have k_37 : KF E C 0 0 μ 37 [(3, .int (nI (EN μ K))), (0, .ref (ad E 0 0)), (1, .ref (ad E 16 0)), (2, .int (nI T))] [] := by
    refine k_aload_n X 1 dL_passes_37 rfl rfl ?_
    refine k_iload_n X 3 dL_passes_38 rfl rfl ?_
    refine k_callV (a := 0) (o := 0) (As := [.int (nI T)]) (S := []) X lk_L_82 rfl (by decide) rfl hp rfl rfl (Nat.le_of_ble_eq_true rfl) ⟨Nat.le_of_ble_eq_true rfl, Nat.le_of_ble_eq_true rfl⟩ ⟨Nat.le_of_ble_eq_true rfl, Nat.le_of_ble_eq_true rfl⟩ dL_passes_39 ?_
    show KF E C 0 0 μ1 42 _ [.int (nI d)]
    refine k_istore (L' := [(4, .int (nI d)), (3, .int (nI (EN μ K))), (0, .ref (ad E 0 0)), (1, .ref (ad E 16 0)), (2, .int (nI T))]) X dL_passes_42 (by decide) rfl ?_
    refine k_aload_n X 3 dL_passes_44 rfl rfl ?_
    refine k_iconst X (nI 0) dL_passes_45 (by decide) ?_
    refine k_dup2 X dL_passes_46 rfl rfl ?_
    refine k_iald (a := 16) (j := 0) X rfl (by decide) rfl (show 0 < 14 by omega) (by decide) dL_passes_47 ?_
    refine k_val (y := nI t) h0 ?_
    refine k_iload_n X 4 dL_passes_48 rfl rfl ?_
    refine k_iadd X dL_passes_49 ?_
    refine k_val (y := nI (t + T)) (nI_add _ _) ?_
    refine k_iast (a := 16) (j := 0) X rfl (by decide) rfl (show 0 < 14 by omega) (by decide) dL_passes_50 ?_
    refine k_iconst X (nI 0) dL_passes_51 (by decide) ?_
    refine k_istore (L' := [(5, .int (nI 0)), (4, .int (nI d)), (3, .int (nI (EN μ K))), (0, .ref (ad E 0 0)), (1, .ref (ad E 16 0)), (2, .int (nI T))]) X dL_passes_52 (by decide) rfl ?_
    refine k_aload_n X 3 dL_passes_54 rfl rfl ?_
    refine k_callV (a := 0) (o := 0) (As := []) (S := []) X lk_L_85 rfl (by decide) rfl (N_time h2) rfl rfl (Nat.le_of_ble_eq_true rfl) ⟨Nat.le_of_ble_eq_true rfl, Nat.le_of_ble_eq_true rfl⟩ ⟨Nat.le_of_ble_eq_true rfl, Nat.le_of_ble_eq_true rfl⟩ dL_passes_55 ?_
    show KF E C 0 0 (st μ1 16 0 0 (nI (t + T))) 58 _ [.int (nI (t + T))]
    refine k_aload_n X 4 dL_passes_58 rfl rfl ?_
    refine k_iconst X (nI 0) dL_passes_59 (by decide) ?_
    refine k_iald (a := 16) (j := 0) X rfl (by decide) rfl (show 0 < 14 by omega) (by decide) dL_passes_60 ?_
    refine k_val (y := nI (t + T)) st_same ?_
    refine k_icmp_ne_f (tgt := 68) X dL_passes_61 (by decide) rfl ?_
    refine k_iconst X (nI 1) dL_passes_64 (by decide) ?_
    refine k_goto (tgt := 69) X dL_passes_65 (by decide) ?_
    refine k_istore (L' := [(6, .int (nI 1)), (5, .int (nI 0)), (4, .int (nI d)), (3, .int (nI (EN μ K))), (0, .ref (ad E 0 0)), (1, .ref (ad E 16 0)), (2, .int (nI T))]) X dL_passes_69 (by decide) rfl ?_
    refine k_iconst X (nI 0) dL_passes_71 (by decide) ?_
    refine k_istore (L' := [(7, .int (nI 0)), (6, .int (nI 1)), (5, .int (nI 0)), (4, .int (nI d)), (3, .int (nI (EN μ K))), (0, .ref (ad E 0 0)), (1, .ref (ad E 16 0)), (2, .int (nI T))]) X dL_passes_72 (by decide) rfl ?_
    refine k_pick (L' := [(7, .int (nI 0)), (6, .int (nI 1)), (5, .int (nI 0)), (0, .ref (ad E 0 0)), (1, .ref (ad E 16 0)), (2, .int (nI T)), (3, .int (nI (EN μ K))), (4, .int (nI d))]) [0, 1, 2, 5, 6, 7, 4, 3] rfl ?_
    exact L2_L_passes h2 hk2 hK _ _ _ hT X k_136 (K + 1) 0 (by omega) (Nat.zero_le K)
  refine k_iconst X (nI 0) dL_passes_0 (by decide) ?_
  refine k_istore_n (L' := [(3, .int (nI 0)), (0, .ref (ad E 0 0)), (1, .ref (ad E 16 0)), (2, .int (nI T))]) X dL_passes_1 rfl (by decide) rfl ?_
  refine k_iconst X (nI 0) dL_passes_2 (by decide) ?_
  refine k_istore (L' := [(4, .int (nI 0)), (3, .int (nI 0)), (0, .ref (ad E 0 0)), (1, .ref (ad E 16 0)), (2, .int (nI T))]) X dL_passes_3 (by decide) rfl ?_
  exact L1_L_passes h hk hK _ X k_37 (K + 1) 0 (by omega) (Nat.zero_le K)
