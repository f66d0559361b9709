/-! answers -/
def pL (f : Nat → Int32) : Nat → Bool := fun j => decide (f j = 487)
theorem pL_t {f : Nat → Int32} {n : Nat} (h : f n = 487) : nI (ctB (pL f) n + 1) = nI (ctB (pL f) (n + 1)) := congrArg nI (ctB_t (p := pL f) (decide_eq_true h)).symm
theorem pL_f {f : Nat → Int32} {n : Nat} (h : ¬ f n = 487) : nI (ctB (pL f) n + 0) = nI (ctB (pL f) (n + 1)) := congrArg nI (ctB_f (p := pL f) (decide_eq_false h)).symm

set_option maxHeartbeats 4000000 in
set_option maxRecDepth 100000 in
theorem C_L_answers_0 {E : EE} {μ : Mem} {K t q : Nat} (h : IX K t q μ) (c n : Nat) (hc : c < K) (hn12 : n ≤ 12) (hn : μ 11 c 4 = nI n) (aa : Nat) (x : Int32) (hz : nI n = 0) (hf : ¬ μ 11 c 8 = -1) : MM E yL_answers cL_answers 16 (some .boolean) (rm 6 0) [.ref (ad E 0 0), .ref (ad E 16 0), .int (nI c), .int (nI aa), .int x] μ (some (.int 1)) μ := by
  refine MM.int (own := RL) [(0, .ref (ad E 0 0)), (1, .ref (ad E 16 0)), (2, .int (nI c)), (3, .int (nI aa)), (4, .int x)] rfl rfl rfl (Nat.le_of_ble_eq_true rfl) rfl (fun C X hE => ?_)
  refine k_aload_n X 0 dL_answers_0 rfl rfl ?_
  refine k_iload_n X 2 dL_answers_1 rfl rfl ?_
  refine k_callV (a := 0) (o := 0) (As := [.int (nI c)]) (S := []) X lk_L_53 rfl (by decide) rfl (N_branches h c n hc hn) rfl rfl (Nat.le_of_ble_eq_true rfl) ⟨Nat.le_of_ble_eq_true rfl, Nat.le_of_ble_eq_true rfl⟩ ⟨Nat.le_of_ble_eq_true rfl, Nat.le_of_ble_eq_true rfl⟩ dL_answers_2 ?_
  show KF E C 0 0 μ 5 _ [.int (nI n)]
  refine k_istore (L' := [(5, .int (nI n)), (0, .ref (ad E 0 0)), (1, .ref (ad E 16 0)), (2, .int (nI c)), (3, .int (nI aa)), (4, .int x)]) X dL_answers_5 (by decide) rfl ?_
  refine k_iload X 0 dL_answers_7 rfl ?_
  refine k_if_ne_f (tgt := 16) X dL_answers_9 (by decide) hz ?_
  refine k_iconst X (-1) dL_answers_12 (by decide) ?_
  refine k_goto (tgt := 20) X dL_answers_13 (by decide) ?_
  refine k_istore (L' := [(6, .int (-1)), (5, .int (nI n)), (0, .ref (ad E 0 0)), (1, .ref (ad E 16 0)), (2, .int (nI c)), (3, .int (nI aa)), (4, .int x)]) X dL_answers_20 (by decide) rfl ?_
  refine k_iload X 0 dL_answers_22 rfl ?_
  refine k_iconst X (-1) dL_answers_24 (by decide) ?_
  refine k_icmp_ne_f (tgt := 32) X dL_answers_25 (by decide) rfl ?_
  refine k_iconst X (-1) dL_answers_28 (by decide) ?_
  refine k_goto (tgt := 39) X dL_answers_29 (by decide) ?_
  refine k_istore (L' := [(7, .int (-1)), (6, .int (-1)), (5, .int (nI n)), (0, .ref (ad E 0 0)), (1, .ref (ad E 16 0)), (2, .int (nI c)), (3, .int (nI aa)), (4, .int x)]) X dL_answers_39 (by decide) rfl ?_
  refine k_iload X 1 dL_answers_41 rfl ?_
  refine k_iconst X (-1) dL_answers_43 (by decide) ?_
  refine k_icmp_ne_f (tgt := 51) X dL_answers_44 (by decide) rfl ?_
  refine k_iconst X (nI 0) dL_answers_47 (by decide) ?_
  refine k_goto (tgt := 58) X dL_answers_48 (by decide) ?_
  refine k_istore (L' := [(8, .int (nI 0)), (7, .int (-1)), (6, .int (-1)), (5, .int (nI n)), (0, .ref (ad E 0 0)), (1, .ref (ad E 16 0)), (2, .int (nI c)), (3, .int (nI aa)), (4, .int x)]) X dL_answers_58 (by decide) rfl ?_
  refine k_aload_n X 4 dL_answers_60 rfl rfl ?_
  refine k_iload_n X 6 dL_answers_61 rfl rfl ?_
  refine k_callV (a := 0) (o := 0) (As := [.int (nI c)]) (S := []) X lk_L_56 rfl (by decide) rfl (N_finalOf h c hc) rfl rfl (Nat.le_of_ble_eq_true rfl) ⟨Nat.le_of_ble_eq_true rfl, Nat.le_of_ble_eq_true rfl⟩ ⟨Nat.le_of_ble_eq_true rfl, Nat.le_of_ble_eq_true rfl⟩ dL_answers_62 ?_
  show KF E C 0 0 μ 65 _ [.int (μ 11 c 8)]
  refine k_istore (L' := [(9, .int (μ 11 c 8)), (8, .int (nI 0)), (7, .int (-1)), (6, .int (-1)), (5, .int (nI n)), (0, .ref (ad E 0 0)), (1, .ref (ad E 16 0)), (2, .int (nI c)), (3, .int (nI aa)), (4, .int x)]) X dL_answers_65 (by decide) rfl ?_
  refine k_iload X 2 dL_answers_67 rfl ?_
  refine k_iconst X (-1) dL_answers_69 (by decide) ?_
  refine k_icmp_eq_t (tgt := 88) X dL_answers_70 (by decide) rfl ?_
  refine k_iload X 0 dL_answers_88 rfl ?_
  refine k_iconst X (-1) dL_answers_90 (by decide) ?_
  refine k_icmp_ne_t (tgt := 99) X dL_answers_91 (by decide) hf ?_
  refine k_iconst X (nI 1) dL_answers_99 (by decide) ?_
  refine k_goto (tgt := 104) X dL_answers_100 (by decide) ?_
  exact k_iret dL_answers_104 hE (by decide) rfl

set_option maxHeartbeats 4000000 in
set_option maxRecDepth 100000 in
theorem C_L_answers_1 {E : EE} {μ : Mem} {K t q : Nat} (h : IX K t q μ) (c n : Nat) (hc : c < K) (hn12 : n ≤ 12) (hn : μ 11 c 4 = nI n) (aa b : Nat) (x : Int32) (hb : b < n) (hz : ¬ nI n = 0) (hz2 : ¬ nI n ≤ 0) (hbm : nI aa - nI aa / nI n * nI n = nI b) (hno : μ 12 c b = -1 ∨ (¬ μ 14 c b = 100 ∧ ¬ μ 14 c b = 180)) : MM E yL_answers cL_answers 16 (some .boolean) (rm 6 0) [.ref (ad E 0 0), .ref (ad E 16 0), .int (nI c), .int (nI aa), .int x] μ (some (.int 1)) μ := by
  refine MM.int (own := RL) [(0, .ref (ad E 0 0)), (1, .ref (ad E 16 0)), (2, .int (nI c)), (3, .int (nI aa)), (4, .int x)] rfl rfl rfl (Nat.le_of_ble_eq_true rfl) rfl (fun C X hE => ?_)
  refine k_aload_n X 0 dL_answers_0 rfl rfl ?_
  refine k_iload_n X 2 dL_answers_1 rfl rfl ?_
  refine k_callV (a := 0) (o := 0) (As := [.int (nI c)]) (S := []) X lk_L_53 rfl (by decide) rfl (N_branches h c n hc hn) rfl rfl (Nat.le_of_ble_eq_true rfl) ⟨Nat.le_of_ble_eq_true rfl, Nat.le_of_ble_eq_true rfl⟩ ⟨Nat.le_of_ble_eq_true rfl, Nat.le_of_ble_eq_true rfl⟩ dL_answers_2 ?_
  show KF E C 0 0 μ 5 _ [.int (nI n)]
  refine k_istore (L' := [(5, .int (nI n)), (0, .ref (ad E 0 0)), (1, .ref (ad E 16 0)), (2, .int (nI c)), (3, .int (nI aa)), (4, .int x)]) X dL_answers_5 (by decide) rfl ?_
  refine k_iload X 0 dL_answers_7 rfl ?_
  refine k_if_ne_t (tgt := 16) X dL_answers_9 (by decide) hz ?_
  refine k_iload_n X 4 dL_answers_16 rfl rfl ?_
  refine k_iload X 0 dL_answers_17 rfl ?_
  refine k_irem X dL_answers_19 hz ?_
  refine k_val (y := nI b) hbm ?_
  refine k_istore (L' := [(6, .int (nI b)), (5, .int (nI n)), (0, .ref (ad E 0 0)), (1, .ref (ad E 16 0)), (2, .int (nI c)), (3, .int (nI aa)), (4, .int x)]) X dL_answers_20 (by decide) rfl ?_
  refine k_iload X 0 dL_answers_22 rfl ?_
  refine k_iconst X (-1) dL_answers_24 (by decide) ?_
  refine k_icmp_ne_t (tgt := 32) X dL_answers_25 (by decide) (nI_m1 (by omega)) ?_
  refine k_aload_n X 2 dL_answers_32 rfl rfl ?_
  refine k_iload_n X 4 dL_answers_33 rfl rfl ?_
  refine k_iload X 0 dL_answers_34 rfl ?_
  refine k_callV (a := 0) (o := 0) (As := [.int (nI c), .int (nI b)]) (S := []) X lk_L_59 rfl (by decide) rfl (N_device h c n b hc hn12 hn hb) rfl rfl (Nat.le_of_ble_eq_true rfl) ⟨Nat.le_of_ble_eq_true rfl, Nat.le_of_ble_eq_true rfl⟩ ⟨Nat.le_of_ble_eq_true rfl, Nat.le_of_ble_eq_true rfl⟩ dL_answers_36 ?_
  show KF E C 0 0 μ 39 _ [.int (μ 12 c b)]
  refine k_istore (L' := [(7, .int (μ 12 c b)), (6, .int (nI b)), (5, .int (nI n)), (0, .ref (ad E 0 0)), (1, .ref (ad E 16 0)), (2, .int (nI c)), (3, .int (nI aa)), (4, .int x)]) X dL_answers_39 (by decide) rfl ?_
  refine k_iload X 1 dL_answers_41 rfl ?_
  refine k_iconst X (-1) dL_answers_43 (by decide) ?_
  refine k_icmp_ne_t (tgt := 51) X dL_answers_44 (by decide) (nI_m1 (by omega)) ?_
  refine k_aload_n X 3 dL_answers_51 rfl rfl ?_
  refine k_iload_n X 5 dL_answers_52 rfl rfl ?_
  refine k_iload X 1 dL_answers_53 rfl ?_
  refine k_callV (a := 0) (o := 0) (As := [.int (nI c), .int (nI b)]) (S := []) X lk_L_62 rfl (by decide) rfl (N_state h c n b hc hn12 hn hb) rfl rfl (Nat.le_of_ble_eq_true rfl) ⟨Nat.le_of_ble_eq_true rfl, Nat.le_of_ble_eq_true rfl⟩ ⟨Nat.le_of_ble_eq_true rfl, Nat.le_of_ble_eq_true rfl⟩ dL_answers_55 ?_
  show KF E C 0 0 μ 58 _ [.int (μ 14 c b)]
  refine k_istore (L' := [(8, .int (μ 14 c b)), (7, .int (μ 12 c b)), (6, .int (nI b)), (5, .int (nI n)), (0, .ref (ad E 0 0)), (1, .ref (ad E 16 0)), (2, .int (nI c)), (3, .int (nI aa)), (4, .int x)]) X dL_answers_58 (by decide) rfl ?_
  refine k_aload_n X 4 dL_answers_60 rfl rfl ?_
  refine k_iload_n X 6 dL_answers_61 rfl rfl ?_
  refine k_callV (a := 0) (o := 0) (As := [.int (nI c)]) (S := []) X lk_L_56 rfl (by decide) rfl (N_finalOf h c hc) rfl rfl (Nat.le_of_ble_eq_true rfl) ⟨Nat.le_of_ble_eq_true rfl, Nat.le_of_ble_eq_true rfl⟩ ⟨Nat.le_of_ble_eq_true rfl, Nat.le_of_ble_eq_true rfl⟩ dL_answers_62 ?_
  show KF E C 0 0 μ 65 _ [.int (μ 11 c 8)]
  refine k_istore (L' := [(9, .int (μ 11 c 8)), (8, .int (μ 14 c b)), (7, .int (μ 12 c b)), (6, .int (nI b)), (5, .int (nI n)), (0, .ref (ad E 0 0)), (1, .ref (ad E 16 0)), (2, .int (nI c)), (3, .int (nI aa)), (4, .int x)]) X dL_answers_65 (by decide) rfl ?_
  refine k_iload X 2 dL_answers_67 rfl ?_
  refine k_iconst X (-1) dL_answers_69 (by decide) ?_
  refine k_icmp_eq (tgt := 88) X dL_answers_70 (by decide) (fun c70 => ?_) (fun c70 => ?_)
  · refine k_iload X 0 dL_answers_88 rfl ?_
    refine k_iconst X (-1) dL_answers_90 (by decide) ?_
    refine k_icmp_ne (tgt := 99) X dL_answers_91 (by decide) (fun c91 => ?_) (fun c91 => ?_)
    · refine k_iconst X (nI 1) dL_answers_99 (by decide) ?_
      refine k_goto (tgt := 104) X dL_answers_100 (by decide) ?_
      exact k_iret dL_answers_104 hE (by decide) rfl
    · refine k_iload X 4 dL_answers_94 rfl ?_
      refine k_if_le_f (tgt := 103) X dL_answers_96 (by decide) hz2 ?_
      refine k_iconst X (nI 1) dL_answers_99 (by decide) ?_
      refine k_goto (tgt := 104) X dL_answers_100 (by decide) ?_
      exact k_iret dL_answers_104 hE (by decide) rfl
  · refine k_iload X 1 dL_answers_73 rfl ?_
    refine k_bipush X 100 dL_answers_75 (by decide) ?_
    refine k_icmp_eq_f (tgt := 105) X dL_answers_77 (by decide) (hno.resolve_left c70).1 ?_
    refine k_iload X 1 dL_answers_80 rfl ?_
    refine k_sipush X 180 dL_answers_82 (by decide) ?_
    refine k_icmp_eq_f (tgt := 105) X dL_answers_85 (by decide) (hno.resolve_left c70).2 ?_
    refine k_iload X 0 dL_answers_88 rfl ?_
    refine k_iconst X (-1) dL_answers_90 (by decide) ?_
    refine k_icmp_ne (tgt := 99) X dL_answers_91 (by decide) (fun c91 => ?_) (fun c91 => ?_)
    · refine k_iconst X (nI 1) dL_answers_99 (by decide) ?_
      refine k_goto (tgt := 104) X dL_answers_100 (by decide) ?_
      exact k_iret dL_answers_104 hE (by decide) rfl
    · refine k_iload X 4 dL_answers_94 rfl ?_
      refine k_if_le_f (tgt := 103) X dL_answers_96 (by decide) hz2 ?_
      refine k_iconst X (nI 1) dL_answers_99 (by decide) ?_
      refine k_goto (tgt := 104) X dL_answers_100 (by decide) ?_
      exact k_iret dL_answers_104 hE (by decide) rfl

set_option maxHeartbeats 4000000 in
set_option maxRecDepth 100000 in
theorem L_L_answers {E : EE} {μ : Mem} {C : Ctx} {K t q : Nat} (h : IX K t q μ) (c n : Nat) (hc : c < K) (hn12 : n ≤ 12) (hn : μ 11 c 4 = nI n) (b : Nat) (x dv a : Int32) (hgo : ¬ a = 0 ∨ ¬ x < 600) (hall : ∀ j, j < n → 200 ≤ μ 14 c j) (hbo : MM E yL_branchOf cL_branchOf 5 (some .int) (rm 5 0) [.ref (ad E 0 0), .int (nI c), .int dv] μ (some (.int (nI b))) μ) (X : Cx E C cL_answers RL 16 (rm 6 0)) (hE : EndI E C cL_answers 0 0 1 μ) : ∀ (f : Nat) (i : Nat), n - i < f → i ≤ n → KF E C 0 0 μ 266 [(14, .int (nI i)), (13, .int (nI (ctB (pL (μ 14 c)) i))), (12, .int (nI 1)), (11, .int a), (0, .ref (ad E 0 0)), (1, .ref (ad E 16 0)), (2, .int (nI c)), (4, .int x), (5, .int (nI n)), (6, .int (nI b)), (7, .int dv)] [] := by
  intro f
  induction f with
  | zero => intros; omega
  | succ f ih =>
    intro i hf hi
    refine k_iload X 0 dL_answers_266 rfl ?_
    refine k_iload X 8 dL_answers_268 rfl ?_
    refine k_ge_n (a := i) (b := n) (tgt := 339) X dL_answers_270 (by decide) rfl rfl (by omega) (by omega) (fun c270 => ?_) (fun c270 => ?_)
    · refine k_iload X 2 dL_answers_339 rfl ?_
      refine k_if_eq_f (tgt := 367) X dL_answers_341 (by decide) (by decide) ?_
      refine k_iload X 1 dL_answers_344 rfl ?_
      refine k_iload X 8 dL_answers_346 rfl ?_
      refine k_icmp_gt_f (tgt := 367) X dL_answers_348 (by decide) (fun z => by have := (nI_ltI (by omega) (by have := ctB_le (pL (μ 14 c)) i; omega)).mp z; have := ctB_le (pL (μ 14 c)) i; omega) ?_
      refine k_aload_n X 4 dL_answers_351 rfl rfl ?_
      refine k_iload_n X 6 dL_answers_352 rfl rfl ?_
      refine k_iload X 10 dL_answers_353 rfl ?_
      refine k_callS (As := [.ref (ad E 0 0), .int (nI c), .int dv]) (S := []) X lk_L_69 hbo rfl rfl (Nat.le_of_ble_eq_true rfl) ⟨Nat.le_of_ble_eq_true rfl, Nat.le_of_ble_eq_true rfl⟩ ⟨Nat.le_of_ble_eq_true rfl, Nat.le_of_ble_eq_true rfl⟩ dL_answers_355 ?_
      show KF E C 0 0 μ 358 _ [.int (nI b)]
      refine k_iload X 9 dL_answers_358 rfl ?_
      refine k_icmp_ne_f (tgt := 367) X dL_answers_360 (by decide) rfl ?_
      refine k_iconst X (nI 1) dL_answers_363 (by decide) ?_
      refine k_goto (tgt := 368) X dL_answers_364 (by decide) ?_
      exact k_iret dL_answers_368 hE (by decide) rfl
    · refine k_iload X 2 dL_answers_273 rfl ?_
      refine k_if_eq_f (tgt := 339) X dL_answers_275 (by decide) (by decide) ?_
      refine k_iload X 3 dL_answers_278 rfl ?_
      refine k_if_ne (tgt := 291) X dL_answers_280 (by decide) (fun c280 => ?_) (fun c280 => ?_)
      · refine k_aload_n X 4 dL_answers_291 rfl rfl ?_
        refine k_iload_n X 6 dL_answers_292 rfl rfl ?_
        refine k_iload X 0 dL_answers_293 rfl ?_
        refine k_callV (a := 0) (o := 0) (As := [.int (nI c), .int (nI i)]) (S := []) X lk_L_62 rfl (by decide) rfl (N_state h c n i hc hn12 hn c270) rfl rfl (Nat.le_of_ble_eq_true rfl) ⟨Nat.le_of_ble_eq_true rfl, Nat.le_of_ble_eq_true rfl⟩ ⟨Nat.le_of_ble_eq_true rfl, Nat.le_of_ble_eq_true rfl⟩ dL_answers_295 ?_
        show KF E C 0 0 μ 298 _ [.int (μ 14 c i)]
        refine k_istore (L' := [(15, .int (μ 14 c i)), (14, .int (nI i)), (13, .int (nI (ctB (pL (μ 14 c)) i))), (12, .int (nI 1)), (11, .int a), (0, .ref (ad E 0 0)), (1, .ref (ad E 16 0)), (2, .int (nI c)), (4, .int x), (5, .int (nI n)), (6, .int (nI b)), (7, .int dv)]) X dL_answers_298 (by decide) rfl ?_
        refine k_iload X 0 dL_answers_300 rfl ?_
        refine k_sipush X 200 dL_answers_302 (by decide) ?_
        refine k_icmp_lt_f (tgt := 312) X dL_answers_305 (by decide) (Int32.not_lt.mpr (hall i c270)) ?_
        refine k_iconst X (nI 1) dL_answers_308 (by decide) ?_
        refine k_goto (tgt := 313) X dL_answers_309 (by decide) ?_
        refine k_istore (L' := [(12, .int (nI 1)), (15, .int (μ 14 c i)), (14, .int (nI i)), (13, .int (nI (ctB (pL (μ 14 c)) i))), (11, .int a), (0, .ref (ad E 0 0)), (1, .ref (ad E 16 0)), (2, .int (nI c)), (4, .int x), (5, .int (nI n)), (6, .int (nI b)), (7, .int dv)]) X dL_answers_313 (by decide) rfl ?_
        refine k_iload X 3 dL_answers_315 rfl ?_
        refine k_iload X 1 dL_answers_317 rfl ?_
        refine k_sipush X 487 dL_answers_319 (by decide) ?_
        refine k_icmp_ne (tgt := 329) X dL_answers_322 (by decide) (fun c322 => ?_) (fun c322 => ?_)
        · refine k_iconst X (nI 0) dL_answers_329 (by decide) ?_
          refine k_iadd X dL_answers_330 ?_
          refine k_val (y := nI ((ctB (pL (μ 14 c)) i) + 0)) (nI_add _ _) ?_
          refine k_val (y := nI (ctB (pL (μ 14 c)) (i + 1))) (pL_f c322) ?_
          refine k_istore (L' := [(13, .int (nI (ctB (pL (μ 14 c)) (i + 1)))), (12, .int (nI 1)), (15, .int (μ 14 c i)), (14, .int (nI i)), (11, .int a), (0, .ref (ad E 0 0)), (1, .ref (ad E 16 0)), (2, .int (nI c)), (4, .int x), (5, .int (nI n)), (6, .int (nI b)), (7, .int dv)]) X dL_answers_331 (by decide) rfl ?_
          refine k_iinc (v := nI (i + 1)) (L' := [(14, .int (nI (i + 1))), (13, .int (nI (ctB (pL (μ 14 c)) (i + 1)))), (12, .int (nI 1)), (15, .int (μ 14 c i)), (11, .int a), (0, .ref (ad E 0 0)), (1, .ref (ad E 16 0)), (2, .int (nI c)), (4, .int x), (5, .int (nI n)), (6, .int (nI b)), (7, .int dv)]) X 3 dL_answers_333 rfl (nI_1 i) (by decide) rfl ?_
          refine k_goto (tgt := 266) X dL_answers_336 (by decide) ?_
          refine k_pick (L' := [(14, .int (nI (i + 1))), (13, .int (nI (ctB (pL (μ 14 c)) (i + 1)))), (12, .int (nI 1)), (11, .int a), (0, .ref (ad E 0 0)), (1, .ref (ad E 16 0)), (2, .int (nI c)), (4, .int x), (5, .int (nI n)), (6, .int (nI b)), (7, .int dv)]) [0, 1, 2, 4, 5, 6, 7, 8, 9, 10, 11] rfl ?_
          exact ih (i + 1) (by omega) (by omega)
        · refine k_iconst X (nI 1) dL_answers_325 (by decide) ?_
          refine k_goto (tgt := 330) X dL_answers_326 (by decide) ?_
          refine k_iadd X dL_answers_330 ?_
          refine k_val (y := nI ((ctB (pL (μ 14 c)) i) + 1)) (nI_add _ _) ?_
          refine k_val (y := nI (ctB (pL (μ 14 c)) (i + 1))) (pL_t c322) ?_
          refine k_istore (L' := [(13, .int (nI (ctB (pL (μ 14 c)) (i + 1)))), (12, .int (nI 1)), (15, .int (μ 14 c i)), (14, .int (nI i)), (11, .int a), (0, .ref (ad E 0 0)), (1, .ref (ad E 16 0)), (2, .int (nI c)), (4, .int x), (5, .int (nI n)), (6, .int (nI b)), (7, .int dv)]) X dL_answers_331 (by decide) rfl ?_
          refine k_iinc (v := nI (i + 1)) (L' := [(14, .int (nI (i + 1))), (13, .int (nI (ctB (pL (μ 14 c)) (i + 1)))), (12, .int (nI 1)), (15, .int (μ 14 c i)), (11, .int a), (0, .ref (ad E 0 0)), (1, .ref (ad E 16 0)), (2, .int (nI c)), (4, .int x), (5, .int (nI n)), (6, .int (nI b)), (7, .int dv)]) X 3 dL_answers_333 rfl (nI_1 i) (by decide) rfl ?_
          refine k_goto (tgt := 266) X dL_answers_336 (by decide) ?_
          refine k_pick (L' := [(14, .int (nI (i + 1))), (13, .int (nI (ctB (pL (μ 14 c)) (i + 1)))), (12, .int (nI 1)), (11, .int a), (0, .ref (ad E 0 0)), (1, .ref (ad E 16 0)), (2, .int (nI c)), (4, .int x), (5, .int (nI n)), (6, .int (nI b)), (7, .int dv)]) [0, 1, 2, 4, 5, 6, 7, 8, 9, 10, 11] rfl ?_
          exact ih (i + 1) (by omega) (by omega)
      · refine k_iload X 7 dL_answers_283 rfl ?_
        refine k_sipush X 600 dL_answers_285 (by decide) ?_
        refine k_icmp_lt_f (tgt := 339) X dL_answers_288 (by decide) (hgo.resolve_left (fun q => q c280)) ?_
        refine k_aload_n X 4 dL_answers_291 rfl rfl ?_
        refine k_iload_n X 6 dL_answers_292 rfl rfl ?_
        refine k_iload X 0 dL_answers_293 rfl ?_
        refine k_callV (a := 0) (o := 0) (As := [.int (nI c), .int (nI i)]) (S := []) X lk_L_62 rfl (by decide) rfl (N_state h c n i hc hn12 hn c270) rfl rfl (Nat.le_of_ble_eq_true rfl) ⟨Nat.le_of_ble_eq_true rfl, Nat.le_of_ble_eq_true rfl⟩ ⟨Nat.le_of_ble_eq_true rfl, Nat.le_of_ble_eq_true rfl⟩ dL_answers_295 ?_
        show KF E C 0 0 μ 298 _ [.int (μ 14 c i)]
        refine k_istore (L' := [(15, .int (μ 14 c i)), (14, .int (nI i)), (13, .int (nI (ctB (pL (μ 14 c)) i))), (12, .int (nI 1)), (11, .int a), (0, .ref (ad E 0 0)), (1, .ref (ad E 16 0)), (2, .int (nI c)), (4, .int x), (5, .int (nI n)), (6, .int (nI b)), (7, .int dv)]) X dL_answers_298 (by decide) rfl ?_
        refine k_iload X 0 dL_answers_300 rfl ?_
        refine k_sipush X 200 dL_answers_302 (by decide) ?_
        refine k_icmp_lt_f (tgt := 312) X dL_answers_305 (by decide) (Int32.not_lt.mpr (hall i c270)) ?_
        refine k_iconst X (nI 1) dL_answers_308 (by decide) ?_
        refine k_goto (tgt := 313) X dL_answers_309 (by decide) ?_
        refine k_istore (L' := [(12, .int (nI 1)), (15, .int (μ 14 c i)), (14, .int (nI i)), (13, .int (nI (ctB (pL (μ 14 c)) i))), (11, .int a), (0, .ref (ad E 0 0)), (1, .ref (ad E 16 0)), (2, .int (nI c)), (4, .int x), (5, .int (nI n)), (6, .int (nI b)), (7, .int dv)]) X dL_answers_313 (by decide) rfl ?_
        refine k_iload X 3 dL_answers_315 rfl ?_
        refine k_iload X 1 dL_answers_317 rfl ?_
        refine k_sipush X 487 dL_answers_319 (by decide) ?_
        refine k_icmp_ne (tgt := 329) X dL_answers_322 (by decide) (fun c322 => ?_) (fun c322 => ?_)
        · refine k_iconst X (nI 0) dL_answers_329 (by decide) ?_
          refine k_iadd X dL_answers_330 ?_
          refine k_val (y := nI ((ctB (pL (μ 14 c)) i) + 0)) (nI_add _ _) ?_
          refine k_val (y := nI (ctB (pL (μ 14 c)) (i + 1))) (pL_f c322) ?_
          refine k_istore (L' := [(13, .int (nI (ctB (pL (μ 14 c)) (i + 1)))), (12, .int (nI 1)), (15, .int (μ 14 c i)), (14, .int (nI i)), (11, .int a), (0, .ref (ad E 0 0)), (1, .ref (ad E 16 0)), (2, .int (nI c)), (4, .int x), (5, .int (nI n)), (6, .int (nI b)), (7, .int dv)]) X dL_answers_331 (by decide) rfl ?_
          refine k_iinc (v := nI (i + 1)) (L' := [(14, .int (nI (i + 1))), (13, .int (nI (ctB (pL (μ 14 c)) (i + 1)))), (12, .int (nI 1)), (15, .int (μ 14 c i)), (11, .int a), (0, .ref (ad E 0 0)), (1, .ref (ad E 16 0)), (2, .int (nI c)), (4, .int x), (5, .int (nI n)), (6, .int (nI b)), (7, .int dv)]) X 3 dL_answers_333 rfl (nI_1 i) (by decide) rfl ?_
          refine k_goto (tgt := 266) X dL_answers_336 (by decide) ?_
          refine k_pick (L' := [(14, .int (nI (i + 1))), (13, .int (nI (ctB (pL (μ 14 c)) (i + 1)))), (12, .int (nI 1)), (11, .int a), (0, .ref (ad E 0 0)), (1, .ref (ad E 16 0)), (2, .int (nI c)), (4, .int x), (5, .int (nI n)), (6, .int (nI b)), (7, .int dv)]) [0, 1, 2, 4, 5, 6, 7, 8, 9, 10, 11] rfl ?_
          exact ih (i + 1) (by omega) (by omega)
        · refine k_iconst X (nI 1) dL_answers_325 (by decide) ?_
          refine k_goto (tgt := 330) X dL_answers_326 (by decide) ?_
          refine k_iadd X dL_answers_330 ?_
          refine k_val (y := nI ((ctB (pL (μ 14 c)) i) + 1)) (nI_add _ _) ?_
          refine k_val (y := nI (ctB (pL (μ 14 c)) (i + 1))) (pL_t c322) ?_
          refine k_istore (L' := [(13, .int (nI (ctB (pL (μ 14 c)) (i + 1)))), (12, .int (nI 1)), (15, .int (μ 14 c i)), (14, .int (nI i)), (11, .int a), (0, .ref (ad E 0 0)), (1, .ref (ad E 16 0)), (2, .int (nI c)), (4, .int x), (5, .int (nI n)), (6, .int (nI b)), (7, .int dv)]) X dL_answers_331 (by decide) rfl ?_
          refine k_iinc (v := nI (i + 1)) (L' := [(14, .int (nI (i + 1))), (13, .int (nI (ctB (pL (μ 14 c)) (i + 1)))), (12, .int (nI 1)), (15, .int (μ 14 c i)), (11, .int a), (0, .ref (ad E 0 0)), (1, .ref (ad E 16 0)), (2, .int (nI c)), (4, .int x), (5, .int (nI n)), (6, .int (nI b)), (7, .int dv)]) X 3 dL_answers_333 rfl (nI_1 i) (by decide) rfl ?_
          refine k_goto (tgt := 266) X dL_answers_336 (by decide) ?_
          refine k_pick (L' := [(14, .int (nI (i + 1))), (13, .int (nI (ctB (pL (μ 14 c)) (i + 1)))), (12, .int (nI 1)), (11, .int a), (0, .ref (ad E 0 0)), (1, .ref (ad E 16 0)), (2, .int (nI c)), (4, .int x), (5, .int (nI n)), (6, .int (nI b)), (7, .int dv)]) [0, 1, 2, 4, 5, 6, 7, 8, 9, 10, 11] rfl ?_
          exact ih (i + 1) (by omega) (by omega)

set_option maxHeartbeats 4000000 in
set_option maxRecDepth 100000 in
theorem C_L_answers_r {E : EE} {μ : Mem} {K t q : Nat} (h : IX K t q μ) (c n : Nat) (hc : c < K) (hn12 : n ≤ 12) (hn : μ 11 c 4 = nI n) (aa b : Nat) (x : Int32) (hb : b < n) (hz : ¬ nI n = 0) (hz2 : ¬ nI n ≤ 0) (hbm : nI aa - nI aa / nI n * nI n = nI b) (K2 t2 q2 : Nat) (μ2 : Mem) (h2 : IX K2 t2 q2 μ2) (hc2 : c < K2) (hn2 : μ2 11 c 4 = nI n) (hdv : ¬ μ 12 c b = -1) (hop : sOp (μ 14 c b)) (hf : μ 11 c 8 = -1) (han : MM E yX2_answer cX2_answer 6 (some .int) (rm 5 0) [.ref (ad E 0 0), .int (nI c), .int (μ 12 c b), .int x] μ (some (.int (μ2 11 c 8))) μ2) (hst : μ2 14 c b = x) (hbo : MM E yL_branchOf cL_branchOf 5 (some .int) (rm 5 0) [.ref (ad E 0 0), .int (nI c), .int (μ 12 c b)] μ2 (some (.int (nI b))) μ2) (hx : x = 180) (h8 : μ2 11 c 8 = -1) : MM E yL_answers cL_answers 16 (some .boolean) (rm 6 0) [.ref (ad E 0 0), .ref (ad E 16 0), .int (nI c), .int (nI aa), .int x] μ (some (.int 1)) μ2 := by
  refine MM.int (own := RL) [(0, .ref (ad E 0 0)), (1, .ref (ad E 16 0)), (2, .int (nI c)), (3, .int (nI aa)), (4, .int x)] rfl rfl rfl (Nat.le_of_ble_eq_true rfl) rfl (fun C X hE => ?_)
  have k_105 : KF E C 0 0 μ 105 [(0, .ref (ad E 0 0)), (1, .ref (ad E 16 0)), (2, .int (nI c)), (4, .int x), (5, .int (nI n)), (6, .int (nI b)), (7, .int (μ 12 c b)), (9, .int (μ 11 c 8))] [] := by
    refine k_aload_n X 0 dL_answers_105 rfl rfl ?_
    refine k_iload_n X 2 dL_answers_106 rfl rfl ?_
    refine k_iload X 6 dL_answers_107 rfl ?_
    refine k_iload X 3 dL_answers_109 rfl ?_
    refine k_callV (a := 0) (o := 0) (As := [.int (nI c), .int (μ 12 c b), .int x]) (S := []) X lk_L_65 rfl (by decide) rfl han rfl rfl (Nat.le_of_ble_eq_true rfl) ⟨Nat.le_of_ble_eq_true rfl, Nat.le_of_ble_eq_true rfl⟩ ⟨Nat.le_of_ble_eq_true rfl, Nat.le_of_ble_eq_true rfl⟩ dL_answers_111 ?_
    show KF E C 0 0 μ2 114 _ [.int (μ2 11 c 8)]
    refine k_istore (L' := [(10, .int (μ2 11 c 8)), (0, .ref (ad E 0 0)), (1, .ref (ad E 16 0)), (2, .int (nI c)), (4, .int x), (5, .int (nI n)), (6, .int (nI b)), (7, .int (μ 12 c b)), (9, .int (μ 11 c 8))]) X dL_answers_114 (by decide) rfl ?_
    refine k_iload X 4 dL_answers_116 rfl ?_
    refine k_sipush X 200 dL_answers_118 (by decide) ?_
    refine k_icmp_lt_t (tgt := 136) X dL_answers_121 (by decide) (by rw [hx]; decide) ?_
    refine k_iconst X (nI 0) dL_answers_136 (by decide) ?_
    refine k_istore (L' := [(11, .int (nI 0)), (10, .int (μ2 11 c 8)), (0, .ref (ad E 0 0)), (1, .ref (ad E 16 0)), (2, .int (nI c)), (4, .int x), (5, .int (nI n)), (6, .int (nI b)), (7, .int (μ 12 c b)), (9, .int (μ 11 c 8))]) X dL_answers_137 (by decide) rfl ?_
    refine k_iload X 9 dL_answers_139 rfl ?_
    refine k_iconst X (-1) dL_answers_141 (by decide) ?_
    refine k_icmp_ne_f (tgt := 171) X dL_answers_142 (by decide) hf ?_
    refine k_aload_n X 2 dL_answers_145 rfl rfl ?_
    refine k_iload_n X 4 dL_answers_146 rfl rfl ?_
    refine k_callV (a := 0) (o := 0) (As := [.int (nI c)]) (S := []) X lk_L_56 rfl (by decide) rfl (N_finalOf h2 c hc2) rfl rfl (Nat.le_of_ble_eq_true rfl) ⟨Nat.le_of_ble_eq_true rfl, Nat.le_of_ble_eq_true rfl⟩ ⟨Nat.le_of_ble_eq_true rfl, Nat.le_of_ble_eq_true rfl⟩ dL_answers_147 ?_
    show KF E C 0 0 μ2 150 _ [.int (μ2 11 c 8)]
    refine k_iload X 1 dL_answers_150 rfl ?_
    refine k_icmp_ne_f (tgt := 171) X dL_answers_152 (by decide) rfl ?_
    refine k_aload_n X 2 dL_answers_155 rfl rfl ?_
    refine k_iload_n X 4 dL_answers_156 rfl rfl ?_
    refine k_iload X 7 dL_answers_157 rfl ?_
    refine k_callV (a := 0) (o := 0) (As := [.int (nI c), .int (nI b)]) (S := []) X lk_L_62 rfl (by decide) rfl (N_state h2 c n b hc2 hn12 hn2 hb) rfl rfl (Nat.le_of_ble_eq_true rfl) ⟨Nat.le_of_ble_eq_true rfl, Nat.le_of_ble_eq_true rfl⟩ ⟨Nat.le_of_ble_eq_true rfl, Nat.le_of_ble_eq_true rfl⟩ dL_answers_159 ?_
    show KF E C 0 0 μ2 162 _ [.int (μ2 14 c b)]
    refine k_iload X 5 dL_answers_162 rfl ?_
    refine k_icmp_ne_f (tgt := 171) X dL_answers_164 (by decide) hst ?_
    refine k_iconst X (nI 1) dL_answers_167 (by decide) ?_
    refine k_goto (tgt := 172) X dL_answers_168 (by decide) ?_
    refine k_istore (L' := [(12, .int (nI 1)), (11, .int (nI 0)), (10, .int (μ2 11 c 8)), (0, .ref (ad E 0 0)), (1, .ref (ad E 16 0)), (2, .int (nI c)), (4, .int x), (5, .int (nI n)), (6, .int (nI b)), (7, .int (μ 12 c b)), (9, .int (μ 11 c 8))]) X dL_answers_172 (by decide) rfl ?_
    refine k_iload X 6 dL_answers_174 rfl ?_
    refine k_sipush X 180 dL_answers_176 (by decide) ?_
    refine k_icmp_ne_f (tgt := 199) X dL_answers_179 (by decide) hx ?_
    refine k_iload X 0 dL_answers_182 rfl ?_
    refine k_if_eq_f (tgt := 197) X dL_answers_184 (by decide) (by decide) ?_
    refine k_iload X 2 dL_answers_187 rfl ?_
    refine k_iconst X (-1) dL_answers_189 (by decide) ?_
    refine k_icmp_ne_f (tgt := 197) X dL_answers_190 (by decide) h8 ?_
    refine k_iconst X (nI 1) dL_answers_193 (by decide) ?_
    refine k_goto (tgt := 198) X dL_answers_194 (by decide) ?_
    exact k_iret dL_answers_198 hE (by decide) rfl
  refine k_aload_n X 0 dL_answers_0 rfl rfl ?_
  refine k_iload_n X 2 dL_answers_1 rfl rfl ?_
  refine k_callV (a := 0) (o := 0) (As := [.int (nI c)]) (S := []) X lk_L_53 rfl (by decide) rfl (N_branches h c n hc hn) rfl rfl (Nat.le_of_ble_eq_true rfl) ⟨Nat.le_of_ble_eq_true rfl, Nat.le_of_ble_eq_true rfl⟩ ⟨Nat.le_of_ble_eq_true rfl, Nat.le_of_ble_eq_true rfl⟩ dL_answers_2 ?_
  show KF E C 0 0 μ 5 _ [.int (nI n)]
  refine k_istore (L' := [(5, .int (nI n)), (0, .ref (ad E 0 0)), (1, .ref (ad E 16 0)), (2, .int (nI c)), (3, .int (nI aa)), (4, .int x)]) X dL_answers_5 (by decide) rfl ?_
  refine k_iload X 0 dL_answers_7 rfl ?_
  refine k_if_ne_t (tgt := 16) X dL_answers_9 (by decide) hz ?_
  refine k_iload_n X 4 dL_answers_16 rfl rfl ?_
  refine k_iload X 0 dL_answers_17 rfl ?_
  refine k_irem X dL_answers_19 hz ?_
  refine k_val (y := nI b) hbm ?_
  refine k_istore (L' := [(6, .int (nI b)), (5, .int (nI n)), (0, .ref (ad E 0 0)), (1, .ref (ad E 16 0)), (2, .int (nI c)), (3, .int (nI aa)), (4, .int x)]) X dL_answers_20 (by decide) rfl ?_
  refine k_iload X 0 dL_answers_22 rfl ?_
  refine k_iconst X (-1) dL_answers_24 (by decide) ?_
  refine k_icmp_ne_t (tgt := 32) X dL_answers_25 (by decide) (nI_m1 (by omega)) ?_
  refine k_aload_n X 2 dL_answers_32 rfl rfl ?_
  refine k_iload_n X 4 dL_answers_33 rfl rfl ?_
  refine k_iload X 0 dL_answers_34 rfl ?_
  refine k_callV (a := 0) (o := 0) (As := [.int (nI c), .int (nI b)]) (S := []) X lk_L_59 rfl (by decide) rfl (N_device h c n b hc hn12 hn hb) rfl rfl (Nat.le_of_ble_eq_true rfl) ⟨Nat.le_of_ble_eq_true rfl, Nat.le_of_ble_eq_true rfl⟩ ⟨Nat.le_of_ble_eq_true rfl, Nat.le_of_ble_eq_true rfl⟩ dL_answers_36 ?_
  show KF E C 0 0 μ 39 _ [.int (μ 12 c b)]
  refine k_istore (L' := [(7, .int (μ 12 c b)), (6, .int (nI b)), (5, .int (nI n)), (0, .ref (ad E 0 0)), (1, .ref (ad E 16 0)), (2, .int (nI c)), (3, .int (nI aa)), (4, .int x)]) X dL_answers_39 (by decide) rfl ?_
  refine k_iload X 1 dL_answers_41 rfl ?_
  refine k_iconst X (-1) dL_answers_43 (by decide) ?_
  refine k_icmp_ne_t (tgt := 51) X dL_answers_44 (by decide) (nI_m1 (by omega)) ?_
  refine k_aload_n X 3 dL_answers_51 rfl rfl ?_
  refine k_iload_n X 5 dL_answers_52 rfl rfl ?_
  refine k_iload X 1 dL_answers_53 rfl ?_
  refine k_callV (a := 0) (o := 0) (As := [.int (nI c), .int (nI b)]) (S := []) X lk_L_62 rfl (by decide) rfl (N_state h c n b hc hn12 hn hb) rfl rfl (Nat.le_of_ble_eq_true rfl) ⟨Nat.le_of_ble_eq_true rfl, Nat.le_of_ble_eq_true rfl⟩ ⟨Nat.le_of_ble_eq_true rfl, Nat.le_of_ble_eq_true rfl⟩ dL_answers_55 ?_
  show KF E C 0 0 μ 58 _ [.int (μ 14 c b)]
  refine k_istore (L' := [(8, .int (μ 14 c b)), (7, .int (μ 12 c b)), (6, .int (nI b)), (5, .int (nI n)), (0, .ref (ad E 0 0)), (1, .ref (ad E 16 0)), (2, .int (nI c)), (3, .int (nI aa)), (4, .int x)]) X dL_answers_58 (by decide) rfl ?_
  refine k_aload_n X 4 dL_answers_60 rfl rfl ?_
  refine k_iload_n X 6 dL_answers_61 rfl rfl ?_
  refine k_callV (a := 0) (o := 0) (As := [.int (nI c)]) (S := []) X lk_L_56 rfl (by decide) rfl (N_finalOf h c hc) rfl rfl (Nat.le_of_ble_eq_true rfl) ⟨Nat.le_of_ble_eq_true rfl, Nat.le_of_ble_eq_true rfl⟩ ⟨Nat.le_of_ble_eq_true rfl, Nat.le_of_ble_eq_true rfl⟩ dL_answers_62 ?_
  show KF E C 0 0 μ 65 _ [.int (μ 11 c 8)]
  refine k_istore (L' := [(9, .int (μ 11 c 8)), (8, .int (μ 14 c b)), (7, .int (μ 12 c b)), (6, .int (nI b)), (5, .int (nI n)), (0, .ref (ad E 0 0)), (1, .ref (ad E 16 0)), (2, .int (nI c)), (3, .int (nI aa)), (4, .int x)]) X dL_answers_65 (by decide) rfl ?_
  refine k_iload X 2 dL_answers_67 rfl ?_
  refine k_iconst X (-1) dL_answers_69 (by decide) ?_
  refine k_icmp_eq_f (tgt := 88) X dL_answers_70 (by decide) hdv ?_
  refine k_iload X 1 dL_answers_73 rfl ?_
  refine k_bipush X 100 dL_answers_75 (by decide) ?_
  refine k_icmp_eq (tgt := 105) X dL_answers_77 (by decide) (fun c77 => ?_) (fun c77 => ?_)
  · refine k_pick (L' := [(0, .ref (ad E 0 0)), (1, .ref (ad E 16 0)), (2, .int (nI c)), (4, .int x), (5, .int (nI n)), (6, .int (nI b)), (7, .int (μ 12 c b)), (9, .int (μ 11 c 8))]) [5, 6, 7, 9, 4, 3, 2, 0] rfl ?_
    exact k_105
  · refine k_iload X 1 dL_answers_80 rfl ?_
    refine k_sipush X 180 dL_answers_82 (by decide) ?_
    refine k_icmp_eq_t (tgt := 105) X dL_answers_85 (by decide) (hop.resolve_left c77) ?_
    refine k_pick (L' := [(0, .ref (ad E 0 0)), (1, .ref (ad E 16 0)), (2, .int (nI c)), (4, .int x), (5, .int (nI n)), (6, .int (nI b)), (7, .int (μ 12 c b)), (9, .int (μ 11 c 8))]) [5, 6, 7, 9, 4, 3, 2, 0] rfl ?_
    exact k_105

set_option maxHeartbeats 4000000 in
set_option maxRecDepth 100000 in
theorem C_L_answers_t {E : EE} {μ : Mem} {K t q : Nat} (h : IX K t q μ) (c n : Nat) (hc : c < K) (hn12 : n ≤ 12) (hn : μ 11 c 4 = nI n) (aa b : Nat) (x : Int32) (hb : b < n) (hz : ¬ nI n = 0) (hz2 : ¬ nI n ≤ 0) (hbm : nI aa - nI aa / nI n * nI n = nI b) (K2 t2 q2 : Nat) (μ2 : Mem) (h2 : IX K2 t2 q2 μ2) (hc2 : c < K2) (hn2 : μ2 11 c 4 = nI n) (hdv : ¬ μ 12 c b = -1) (hop : sOp (μ 14 c b)) (hf : μ 11 c 8 = -1) (han : MM E yX2_answer cX2_answer 6 (some .int) (rm 5 0) [.ref (ad E 0 0), .int (nI c), .int (μ 12 c b), .int x] μ (some (.int (μ2 11 c 8))) μ2) (hst : μ2 14 c b = x) (hbo : MM E yL_branchOf cL_branchOf 5 (some .int) (rm 5 0) [.ref (ad E 0 0), .int (nI c), .int (μ 12 c b)] μ2 (some (.int (nI b))) μ2) (hx : ¬ x = 180) (hx2 : ¬ x < 200) (hx3 : ¬ 300 ≤ x) (hx6 : x < 600) (h8 : μ2 11 c 8 = x) (h7 : μ2 11 c 7 = nI b) (hall : ∀ j, j < n → 200 ≤ μ2 14 c j) : MM E yL_answers cL_answers 16 (some .boolean) (rm 6 0) [.ref (ad E 0 0), .ref (ad E 16 0), .int (nI c), .int (nI aa), .int x] μ (some (.int 1)) μ2 := by
  refine MM.int (own := RL) [(0, .ref (ad E 0 0)), (1, .ref (ad E 16 0)), (2, .int (nI c)), (3, .int (nI aa)), (4, .int x)] rfl rfl rfl (Nat.le_of_ble_eq_true rfl) rfl (fun C X hE => ?_)
  have k_105 : KF E C 0 0 μ 105 [(0, .ref (ad E 0 0)), (1, .ref (ad E 16 0)), (2, .int (nI c)), (4, .int x), (5, .int (nI n)), (6, .int (nI b)), (7, .int (μ 12 c b)), (9, .int (μ 11 c 8))] [] := by
    refine k_aload_n X 0 dL_answers_105 rfl rfl ?_
    refine k_iload_n X 2 dL_answers_106 rfl rfl ?_
    refine k_iload X 6 dL_answers_107 rfl ?_
    refine k_iload X 3 dL_answers_109 rfl ?_
    refine k_callV (a := 0) (o := 0) (As := [.int (nI c), .int (μ 12 c b), .int x]) (S := []) X lk_L_65 rfl (by decide) rfl han rfl rfl (Nat.le_of_ble_eq_true rfl) ⟨Nat.le_of_ble_eq_true rfl, Nat.le_of_ble_eq_true rfl⟩ ⟨Nat.le_of_ble_eq_true rfl, Nat.le_of_ble_eq_true rfl⟩ dL_answers_111 ?_
    show KF E C 0 0 μ2 114 _ [.int (μ2 11 c 8)]
    refine k_istore (L' := [(10, .int (μ2 11 c 8)), (0, .ref (ad E 0 0)), (1, .ref (ad E 16 0)), (2, .int (nI c)), (4, .int x), (5, .int (nI n)), (6, .int (nI b)), (7, .int (μ 12 c b)), (9, .int (μ 11 c 8))]) X dL_answers_114 (by decide) rfl ?_
    refine k_iload X 4 dL_answers_116 rfl ?_
    refine k_sipush X 200 dL_answers_118 (by decide) ?_
    refine k_icmp_lt_f (tgt := 136) X dL_answers_121 (by decide) hx2 ?_
    refine k_iload X 4 dL_answers_124 rfl ?_
    refine k_sipush X 300 dL_answers_126 (by decide) ?_
    refine k_icmp_ge_f (tgt := 136) X dL_answers_129 (by decide) hx3 ?_
    refine k_iconst X (nI 1) dL_answers_132 (by decide) ?_
    refine k_goto (tgt := 137) X dL_answers_133 (by decide) ?_
    refine k_istore (L' := [(11, .int (nI 1)), (10, .int (μ2 11 c 8)), (0, .ref (ad E 0 0)), (1, .ref (ad E 16 0)), (2, .int (nI c)), (4, .int x), (5, .int (nI n)), (6, .int (nI b)), (7, .int (μ 12 c b)), (9, .int (μ 11 c 8))]) X dL_answers_137 (by decide) rfl ?_
    refine k_iload X 9 dL_answers_139 rfl ?_
    refine k_iconst X (-1) dL_answers_141 (by decide) ?_
    refine k_icmp_ne_f (tgt := 171) X dL_answers_142 (by decide) hf ?_
    refine k_aload_n X 2 dL_answers_145 rfl rfl ?_
    refine k_iload_n X 4 dL_answers_146 rfl rfl ?_
    refine k_callV (a := 0) (o := 0) (As := [.int (nI c)]) (S := []) X lk_L_56 rfl (by decide) rfl (N_finalOf h2 c hc2) rfl rfl (Nat.le_of_ble_eq_true rfl) ⟨Nat.le_of_ble_eq_true rfl, Nat.le_of_ble_eq_true rfl⟩ ⟨Nat.le_of_ble_eq_true rfl, Nat.le_of_ble_eq_true rfl⟩ dL_answers_147 ?_
    show KF E C 0 0 μ2 150 _ [.int (μ2 11 c 8)]
    refine k_iload X 1 dL_answers_150 rfl ?_
    refine k_icmp_ne_f (tgt := 171) X dL_answers_152 (by decide) rfl ?_
    refine k_aload_n X 2 dL_answers_155 rfl rfl ?_
    refine k_iload_n X 4 dL_answers_156 rfl rfl ?_
    refine k_iload X 7 dL_answers_157 rfl ?_
    refine k_callV (a := 0) (o := 0) (As := [.int (nI c), .int (nI b)]) (S := []) X lk_L_62 rfl (by decide) rfl (N_state h2 c n b hc2 hn12 hn2 hb) rfl rfl (Nat.le_of_ble_eq_true rfl) ⟨Nat.le_of_ble_eq_true rfl, Nat.le_of_ble_eq_true rfl⟩ ⟨Nat.le_of_ble_eq_true rfl, Nat.le_of_ble_eq_true rfl⟩ dL_answers_159 ?_
    show KF E C 0 0 μ2 162 _ [.int (μ2 14 c b)]
    refine k_iload X 5 dL_answers_162 rfl ?_
    refine k_icmp_ne_f (tgt := 171) X dL_answers_164 (by decide) hst ?_
    refine k_iconst X (nI 1) dL_answers_167 (by decide) ?_
    refine k_goto (tgt := 172) X dL_answers_168 (by decide) ?_
    refine k_istore (L' := [(12, .int (nI 1)), (11, .int (nI 1)), (10, .int (μ2 11 c 8)), (0, .ref (ad E 0 0)), (1, .ref (ad E 16 0)), (2, .int (nI c)), (4, .int x), (5, .int (nI n)), (6, .int (nI b)), (7, .int (μ 12 c b)), (9, .int (μ 11 c 8))]) X dL_answers_172 (by decide) rfl ?_
    refine k_iload X 6 dL_answers_174 rfl ?_
    refine k_sipush X 180 dL_answers_176 (by decide) ?_
    refine k_icmp_ne_t (tgt := 199) X dL_answers_179 (by decide) hx ?_
    refine k_iload X 0 dL_answers_199 rfl ?_
    refine k_if_eq_f (tgt := 257) X dL_answers_201 (by decide) (by decide) ?_
    refine k_iload X 1 dL_answers_204 rfl ?_
    refine k_if_eq_f (tgt := 229) X dL_answers_206 (by decide) (by decide) ?_
    refine k_iload X 2 dL_answers_209 rfl ?_
    refine k_iload X 6 dL_answers_211 rfl ?_
    refine k_icmp_ne_f (tgt := 257) X dL_answers_213 (by decide) h8 ?_
    refine k_aload_n X 3 dL_answers_216 rfl rfl ?_
    refine k_iload_n X 5 dL_answers_217 rfl rfl ?_
    refine k_callV (a := 0) (o := 0) (As := [.int (nI c)]) (S := []) X lk_L_50 rfl (by decide) rfl (N_answered h2 c hc2) rfl rfl (Nat.le_of_ble_eq_true rfl) ⟨Nat.le_of_ble_eq_true rfl, Nat.le_of_ble_eq_true rfl⟩ ⟨Nat.le_of_ble_eq_true rfl, Nat.le_of_ble_eq_true rfl⟩ dL_answers_218 ?_
    show KF E C 0 0 μ2 221 _ [.int (μ2 11 c 7)]
    refine k_iload X 8 dL_answers_221 rfl ?_
    refine k_icmp_ne_f (tgt := 257) X dL_answers_223 (by decide) h7 ?_
    refine k_goto (tgt := 238) X dL_answers_226 (by decide) ?_
    refine k_iload X 6 dL_answers_238 rfl ?_
    refine k_sipush X 600 dL_answers_240 (by decide) ?_
    refine k_icmp_lt_t (tgt := 253) X dL_answers_243 (by decide) hx6 ?_
    refine k_iconst X (nI 1) dL_answers_253 (by decide) ?_
    refine k_goto (tgt := 258) X dL_answers_254 (by decide) ?_
    refine k_istore (L' := [(12, .int (nI 1)), (11, .int (nI 1)), (10, .int (μ2 11 c 8)), (0, .ref (ad E 0 0)), (1, .ref (ad E 16 0)), (2, .int (nI c)), (4, .int x), (5, .int (nI n)), (6, .int (nI b)), (7, .int (μ 12 c b)), (9, .int (μ 11 c 8))]) X dL_answers_258 (by decide) rfl ?_
    refine k_iconst X (nI 0) dL_answers_260 (by decide) ?_
    refine k_istore (L' := [(13, .int (nI 0)), (12, .int (nI 1)), (11, .int (nI 1)), (10, .int (μ2 11 c 8)), (0, .ref (ad E 0 0)), (1, .ref (ad E 16 0)), (2, .int (nI c)), (4, .int x), (5, .int (nI n)), (6, .int (nI b)), (7, .int (μ 12 c b)), (9, .int (μ 11 c 8))]) X dL_answers_261 (by decide) rfl ?_
    refine k_iconst X (nI 0) dL_answers_263 (by decide) ?_
    refine k_istore (L' := [(14, .int (nI 0)), (13, .int (nI 0)), (12, .int (nI 1)), (11, .int (nI 1)), (10, .int (μ2 11 c 8)), (0, .ref (ad E 0 0)), (1, .ref (ad E 16 0)), (2, .int (nI c)), (4, .int x), (5, .int (nI n)), (6, .int (nI b)), (7, .int (μ 12 c b)), (9, .int (μ 11 c 8))]) X dL_answers_264 (by decide) rfl ?_
    refine k_pick (L' := [(14, .int (nI 0)), (13, .int (nI 0)), (12, .int (nI 1)), (11, .int (nI 1)), (0, .ref (ad E 0 0)), (1, .ref (ad E 16 0)), (2, .int (nI c)), (4, .int x), (5, .int (nI n)), (6, .int (nI b)), (7, .int (μ 12 c b))]) [0, 1, 2, 3, 5, 6, 7, 8, 9, 10, 11] rfl ?_
    exact L_L_answers h2 c n hc2 hn12 hn2 b x (μ 12 c b) _ (Or.inl (by decide)) hall hbo X hE (n + 1) 0 (by omega) (Nat.zero_le n)
  refine k_aload_n X 0 dL_answers_0 rfl rfl ?_
  refine k_iload_n X 2 dL_answers_1 rfl rfl ?_
  refine k_callV (a := 0) (o := 0) (As := [.int (nI c)]) (S := []) X lk_L_53 rfl (by decide) rfl (N_branches h c n hc hn) rfl rfl (Nat.le_of_ble_eq_true rfl) ⟨Nat.le_of_ble_eq_true rfl, Nat.le_of_ble_eq_true rfl⟩ ⟨Nat.le_of_ble_eq_true rfl, Nat.le_of_ble_eq_true rfl⟩ dL_answers_2 ?_
  show KF E C 0 0 μ 5 _ [.int (nI n)]
  refine k_istore (L' := [(5, .int (nI n)), (0, .ref (ad E 0 0)), (1, .ref (ad E 16 0)), (2, .int (nI c)), (3, .int (nI aa)), (4, .int x)]) X dL_answers_5 (by decide) rfl ?_
  refine k_iload X 0 dL_answers_7 rfl ?_
  refine k_if_ne_t (tgt := 16) X dL_answers_9 (by decide) hz ?_
  refine k_iload_n X 4 dL_answers_16 rfl rfl ?_
  refine k_iload X 0 dL_answers_17 rfl ?_
  refine k_irem X dL_answers_19 hz ?_
  refine k_val (y := nI b) hbm ?_
  refine k_istore (L' := [(6, .int (nI b)), (5, .int (nI n)), (0, .ref (ad E 0 0)), (1, .ref (ad E 16 0)), (2, .int (nI c)), (3, .int (nI aa)), (4, .int x)]) X dL_answers_20 (by decide) rfl ?_
  refine k_iload X 0 dL_answers_22 rfl ?_
  refine k_iconst X (-1) dL_answers_24 (by decide) ?_
  refine k_icmp_ne_t (tgt := 32) X dL_answers_25 (by decide) (nI_m1 (by omega)) ?_
  refine k_aload_n X 2 dL_answers_32 rfl rfl ?_
  refine k_iload_n X 4 dL_answers_33 rfl rfl ?_
  refine k_iload X 0 dL_answers_34 rfl ?_
  refine k_callV (a := 0) (o := 0) (As := [.int (nI c), .int (nI b)]) (S := []) X lk_L_59 rfl (by decide) rfl (N_device h c n b hc hn12 hn hb) rfl rfl (Nat.le_of_ble_eq_true rfl) ⟨Nat.le_of_ble_eq_true rfl, Nat.le_of_ble_eq_true rfl⟩ ⟨Nat.le_of_ble_eq_true rfl, Nat.le_of_ble_eq_true rfl⟩ dL_answers_36 ?_
  show KF E C 0 0 μ 39 _ [.int (μ 12 c b)]
  refine k_istore (L' := [(7, .int (μ 12 c b)), (6, .int (nI b)), (5, .int (nI n)), (0, .ref (ad E 0 0)), (1, .ref (ad E 16 0)), (2, .int (nI c)), (3, .int (nI aa)), (4, .int x)]) X dL_answers_39 (by decide) rfl ?_
  refine k_iload X 1 dL_answers_41 rfl ?_
  refine k_iconst X (-1) dL_answers_43 (by decide) ?_
  refine k_icmp_ne_t (tgt := 51) X dL_answers_44 (by decide) (nI_m1 (by omega)) ?_
  refine k_aload_n X 3 dL_answers_51 rfl rfl ?_
  refine k_iload_n X 5 dL_answers_52 rfl rfl ?_
  refine k_iload X 1 dL_answers_53 rfl ?_
  refine k_callV (a := 0) (o := 0) (As := [.int (nI c), .int (nI b)]) (S := []) X lk_L_62 rfl (by decide) rfl (N_state h c n b hc hn12 hn hb) rfl rfl (Nat.le_of_ble_eq_true rfl) ⟨Nat.le_of_ble_eq_true rfl, Nat.le_of_ble_eq_true rfl⟩ ⟨Nat.le_of_ble_eq_true rfl, Nat.le_of_ble_eq_true rfl⟩ dL_answers_55 ?_
  show KF E C 0 0 μ 58 _ [.int (μ 14 c b)]
  refine k_istore (L' := [(8, .int (μ 14 c b)), (7, .int (μ 12 c b)), (6, .int (nI b)), (5, .int (nI n)), (0, .ref (ad E 0 0)), (1, .ref (ad E 16 0)), (2, .int (nI c)), (3, .int (nI aa)), (4, .int x)]) X dL_answers_58 (by decide) rfl ?_
  refine k_aload_n X 4 dL_answers_60 rfl rfl ?_
  refine k_iload_n X 6 dL_answers_61 rfl rfl ?_
  refine k_callV (a := 0) (o := 0) (As := [.int (nI c)]) (S := []) X lk_L_56 rfl (by decide) rfl (N_finalOf h c hc) rfl rfl (Nat.le_of_ble_eq_true rfl) ⟨Nat.le_of_ble_eq_true rfl, Nat.le_of_ble_eq_true rfl⟩ ⟨Nat.le_of_ble_eq_true rfl, Nat.le_of_ble_eq_true rfl⟩ dL_answers_62 ?_
  show KF E C 0 0 μ 65 _ [.int (μ 11 c 8)]
  refine k_istore (L' := [(9, .int (μ 11 c 8)), (8, .int (μ 14 c b)), (7, .int (μ 12 c b)), (6, .int (nI b)), (5, .int (nI n)), (0, .ref (ad E 0 0)), (1, .ref (ad E 16 0)), (2, .int (nI c)), (3, .int (nI aa)), (4, .int x)]) X dL_answers_65 (by decide) rfl ?_
  refine k_iload X 2 dL_answers_67 rfl ?_
  refine k_iconst X (-1) dL_answers_69 (by decide) ?_
  refine k_icmp_eq_f (tgt := 88) X dL_answers_70 (by decide) hdv ?_
  refine k_iload X 1 dL_answers_73 rfl ?_
  refine k_bipush X 100 dL_answers_75 (by decide) ?_
  refine k_icmp_eq (tgt := 105) X dL_answers_77 (by decide) (fun c77 => ?_) (fun c77 => ?_)
  · refine k_pick (L' := [(0, .ref (ad E 0 0)), (1, .ref (ad E 16 0)), (2, .int (nI c)), (4, .int x), (5, .int (nI n)), (6, .int (nI b)), (7, .int (μ 12 c b)), (9, .int (μ 11 c 8))]) [5, 6, 7, 9, 4, 3, 2, 0] rfl ?_
    exact k_105
  · refine k_iload X 1 dL_answers_80 rfl ?_
    refine k_sipush X 180 dL_answers_82 (by decide) ?_
    refine k_icmp_eq_t (tgt := 105) X dL_answers_85 (by decide) (hop.resolve_left c77) ?_
    refine k_pick (L' := [(0, .ref (ad E 0 0)), (1, .ref (ad E 16 0)), (2, .int (nI c)), (4, .int x), (5, .int (nI n)), (6, .int (nI b)), (7, .int (μ 12 c b)), (9, .int (μ 11 c 8))]) [5, 6, 7, 9, 4, 3, 2, 0] rfl ?_
    exact k_105

set_option maxHeartbeats 4000000 in
set_option maxRecDepth 100000 in
theorem C_L_answers_n {E : EE} {μ : Mem} {K t q : Nat} (h : IX K t q μ) (c n : Nat) (hc : c < K) (hn12 : n ≤ 12) (hn : μ 11 c 4 = nI n) (aa b : Nat) (x : Int32) (hb : b < n) (hz : ¬ nI n = 0) (hz2 : ¬ nI n ≤ 0) (hbm : nI aa - nI aa / nI n * nI n = nI b) (K2 t2 q2 : Nat) (μ2 : Mem) (h2 : IX K2 t2 q2 μ2) (hc2 : c < K2) (hn2 : μ2 11 c 4 = nI n) (hdv : ¬ μ 12 c b = -1) (hop : sOp (μ 14 c b)) (hf : μ 11 c 8 = -1) (han : MM E yX2_answer cX2_answer 6 (some .int) (rm 5 0) [.ref (ad E 0 0), .int (nI c), .int (μ 12 c b), .int x] μ (some (.int (μ2 11 c 8))) μ2) (hst : μ2 14 c b = x) (hbo : MM E yL_branchOf cL_branchOf 5 (some .int) (rm 5 0) [.ref (ad E 0 0), .int (nI c), .int (μ 12 c b)] μ2 (some (.int (nI b))) μ2) (hx : ¬ x = 180) (hx2 : ¬ x < 200) (hx3 : 300 ≤ x) (hx6 : x < 600) (h7 : μ2 11 c 7 = -1) : MM E yL_answers cL_answers 16 (some .boolean) (rm 6 0) [.ref (ad E 0 0), .ref (ad E 16 0), .int (nI c), .int (nI aa), .int x] μ (some (.int 1)) μ2 := by
  refine MM.int (own := RL) [(0, .ref (ad E 0 0)), (1, .ref (ad E 16 0)), (2, .int (nI c)), (3, .int (nI aa)), (4, .int x)] rfl rfl rfl (Nat.le_of_ble_eq_true rfl) rfl (fun C X hE => ?_)
  have k_105 : KF E C 0 0 μ 105 [(0, .ref (ad E 0 0)), (1, .ref (ad E 16 0)), (2, .int (nI c)), (4, .int x), (5, .int (nI n)), (6, .int (nI b)), (7, .int (μ 12 c b)), (9, .int (μ 11 c 8))] [] := by
    refine k_aload_n X 0 dL_answers_105 rfl rfl ?_
    refine k_iload_n X 2 dL_answers_106 rfl rfl ?_
    refine k_iload X 6 dL_answers_107 rfl ?_
    refine k_iload X 3 dL_answers_109 rfl ?_
    refine k_callV (a := 0) (o := 0) (As := [.int (nI c), .int (μ 12 c b), .int x]) (S := []) X lk_L_65 rfl (by decide) rfl han rfl rfl (Nat.le_of_ble_eq_true rfl) ⟨Nat.le_of_ble_eq_true rfl, Nat.le_of_ble_eq_true rfl⟩ ⟨Nat.le_of_ble_eq_true rfl, Nat.le_of_ble_eq_true rfl⟩ dL_answers_111 ?_
    show KF E C 0 0 μ2 114 _ [.int (μ2 11 c 8)]
    refine k_istore (L' := [(10, .int (μ2 11 c 8)), (0, .ref (ad E 0 0)), (1, .ref (ad E 16 0)), (2, .int (nI c)), (4, .int x), (5, .int (nI n)), (6, .int (nI b)), (7, .int (μ 12 c b)), (9, .int (μ 11 c 8))]) X dL_answers_114 (by decide) rfl ?_
    refine k_iload X 4 dL_answers_116 rfl ?_
    refine k_sipush X 200 dL_answers_118 (by decide) ?_
    refine k_icmp_lt_f (tgt := 136) X dL_answers_121 (by decide) hx2 ?_
    refine k_iload X 4 dL_answers_124 rfl ?_
    refine k_sipush X 300 dL_answers_126 (by decide) ?_
    refine k_icmp_ge_t (tgt := 136) X dL_answers_129 (by decide) hx3 ?_
    refine k_iconst X (nI 0) dL_answers_136 (by decide) ?_
    refine k_istore (L' := [(11, .int (nI 0)), (10, .int (μ2 11 c 8)), (0, .ref (ad E 0 0)), (1, .ref (ad E 16 0)), (2, .int (nI c)), (4, .int x), (5, .int (nI n)), (6, .int (nI b)), (7, .int (μ 12 c b)), (9, .int (μ 11 c 8))]) X dL_answers_137 (by decide) rfl ?_
    refine k_iload X 9 dL_answers_139 rfl ?_
    refine k_iconst X (-1) dL_answers_141 (by decide) ?_
    refine k_icmp_ne_f (tgt := 171) X dL_answers_142 (by decide) hf ?_
    refine k_aload_n X 2 dL_answers_145 rfl rfl ?_
    refine k_iload_n X 4 dL_answers_146 rfl rfl ?_
    refine k_callV (a := 0) (o := 0) (As := [.int (nI c)]) (S := []) X lk_L_56 rfl (by decide) rfl (N_finalOf h2 c hc2) rfl rfl (Nat.le_of_ble_eq_true rfl) ⟨Nat.le_of_ble_eq_true rfl, Nat.le_of_ble_eq_true rfl⟩ ⟨Nat.le_of_ble_eq_true rfl, Nat.le_of_ble_eq_true rfl⟩ dL_answers_147 ?_
    show KF E C 0 0 μ2 150 _ [.int (μ2 11 c 8)]
    refine k_iload X 1 dL_answers_150 rfl ?_
    refine k_icmp_ne_f (tgt := 171) X dL_answers_152 (by decide) rfl ?_
    refine k_aload_n X 2 dL_answers_155 rfl rfl ?_
    refine k_iload_n X 4 dL_answers_156 rfl rfl ?_
    refine k_iload X 7 dL_answers_157 rfl ?_
    refine k_callV (a := 0) (o := 0) (As := [.int (nI c), .int (nI b)]) (S := []) X lk_L_62 rfl (by decide) rfl (N_state h2 c n b hc2 hn12 hn2 hb) rfl rfl (Nat.le_of_ble_eq_true rfl) ⟨Nat.le_of_ble_eq_true rfl, Nat.le_of_ble_eq_true rfl⟩ ⟨Nat.le_of_ble_eq_true rfl, Nat.le_of_ble_eq_true rfl⟩ dL_answers_159 ?_
    show KF E C 0 0 μ2 162 _ [.int (μ2 14 c b)]
    refine k_iload X 5 dL_answers_162 rfl ?_
    refine k_icmp_ne_f (tgt := 171) X dL_answers_164 (by decide) hst ?_
    refine k_iconst X (nI 1) dL_answers_167 (by decide) ?_
    refine k_goto (tgt := 172) X dL_answers_168 (by decide) ?_
    refine k_istore (L' := [(12, .int (nI 1)), (11, .int (nI 0)), (10, .int (μ2 11 c 8)), (0, .ref (ad E 0 0)), (1, .ref (ad E 16 0)), (2, .int (nI c)), (4, .int x), (5, .int (nI n)), (6, .int (nI b)), (7, .int (μ 12 c b)), (9, .int (μ 11 c 8))]) X dL_answers_172 (by decide) rfl ?_
    refine k_iload X 6 dL_answers_174 rfl ?_
    refine k_sipush X 180 dL_answers_176 (by decide) ?_
    refine k_icmp_ne_t (tgt := 199) X dL_answers_179 (by decide) hx ?_
    refine k_iload X 0 dL_answers_199 rfl ?_
    refine k_if_eq_f (tgt := 257) X dL_answers_201 (by decide) (by decide) ?_
    refine k_iload X 1 dL_answers_204 rfl ?_
    refine k_if_eq_t (tgt := 229) X dL_answers_206 (by decide) (by decide) ?_
    refine k_aload_n X 3 dL_answers_229 rfl rfl ?_
    refine k_iload_n X 5 dL_answers_230 rfl rfl ?_
    refine k_callV (a := 0) (o := 0) (As := [.int (nI c)]) (S := []) X lk_L_50 rfl (by decide) rfl (N_answered h2 c hc2) rfl rfl (Nat.le_of_ble_eq_true rfl) ⟨Nat.le_of_ble_eq_true rfl, Nat.le_of_ble_eq_true rfl⟩ ⟨Nat.le_of_ble_eq_true rfl, Nat.le_of_ble_eq_true rfl⟩ dL_answers_231 ?_
    show KF E C 0 0 μ2 234 _ [.int (μ2 11 c 7)]
    refine k_iconst X (-1) dL_answers_234 (by decide) ?_
    refine k_icmp_ne_f (tgt := 257) X dL_answers_235 (by decide) h7 ?_
    refine k_iload X 6 dL_answers_238 rfl ?_
    refine k_sipush X 600 dL_answers_240 (by decide) ?_
    refine k_icmp_lt_t (tgt := 253) X dL_answers_243 (by decide) hx6 ?_
    refine k_iconst X (nI 1) dL_answers_253 (by decide) ?_
    refine k_goto (tgt := 258) X dL_answers_254 (by decide) ?_
    refine k_istore (L' := [(12, .int (nI 1)), (11, .int (nI 0)), (10, .int (μ2 11 c 8)), (0, .ref (ad E 0 0)), (1, .ref (ad E 16 0)), (2, .int (nI c)), (4, .int x), (5, .int (nI n)), (6, .int (nI b)), (7, .int (μ 12 c b)), (9, .int (μ 11 c 8))]) X dL_answers_258 (by decide) rfl ?_
    refine k_iconst X (nI 0) dL_answers_260 (by decide) ?_
    refine k_istore (L' := [(13, .int (nI 0)), (12, .int (nI 1)), (11, .int (nI 0)), (10, .int (μ2 11 c 8)), (0, .ref (ad E 0 0)), (1, .ref (ad E 16 0)), (2, .int (nI c)), (4, .int x), (5, .int (nI n)), (6, .int (nI b)), (7, .int (μ 12 c b)), (9, .int (μ 11 c 8))]) X dL_answers_261 (by decide) rfl ?_
    refine k_iconst X (nI 0) dL_answers_263 (by decide) ?_
    refine k_istore (L' := [(14, .int (nI 0)), (13, .int (nI 0)), (12, .int (nI 1)), (11, .int (nI 0)), (10, .int (μ2 11 c 8)), (0, .ref (ad E 0 0)), (1, .ref (ad E 16 0)), (2, .int (nI c)), (4, .int x), (5, .int (nI n)), (6, .int (nI b)), (7, .int (μ 12 c b)), (9, .int (μ 11 c 8))]) X dL_answers_264 (by decide) rfl ?_
    refine k_iload X 0 dL_answers_266 rfl ?_
    refine k_iload X 9 dL_answers_268 rfl ?_
    refine k_icmp_ge_f (tgt := 339) X dL_answers_270 (by decide) (fun z => by have := (nI_leI (by omega) (by decide)).mp z; omega) ?_
    refine k_iload X 2 dL_answers_273 rfl ?_
    refine k_if_eq_f (tgt := 339) X dL_answers_275 (by decide) (by decide) ?_
    refine k_iload X 3 dL_answers_278 rfl ?_
    refine k_if_ne_f (tgt := 291) X dL_answers_280 (by decide) (by decide) ?_
    refine k_iload X 8 dL_answers_283 rfl ?_
    refine k_sipush X 600 dL_answers_285 (by decide) ?_
    refine k_icmp_lt_t (tgt := 339) X dL_answers_288 (by decide) hx6 ?_
    refine k_iload X 2 dL_answers_339 rfl ?_
    refine k_if_eq_f (tgt := 367) X dL_answers_341 (by decide) (by decide) ?_
    refine k_iload X 1 dL_answers_344 rfl ?_
    refine k_iload X 9 dL_answers_346 rfl ?_
    refine k_icmp_gt_f (tgt := 367) X dL_answers_348 (by decide) (fun z => by have := (nI_ltI (by omega) (by decide)).mp z; omega) ?_
    refine k_aload_n X 5 dL_answers_351 rfl rfl ?_
    refine k_iload_n X 7 dL_answers_352 rfl rfl ?_
    refine k_iload X 11 dL_answers_353 rfl ?_
    refine k_callS (As := [.ref (ad E 0 0), .int (nI c), .int (μ 12 c b)]) (S := []) X lk_L_69 hbo rfl rfl (Nat.le_of_ble_eq_true rfl) ⟨Nat.le_of_ble_eq_true rfl, Nat.le_of_ble_eq_true rfl⟩ ⟨Nat.le_of_ble_eq_true rfl, Nat.le_of_ble_eq_true rfl⟩ dL_answers_355 ?_
    show KF E C 0 0 μ2 358 _ [.int (nI b)]
    refine k_iload X 10 dL_answers_358 rfl ?_
    refine k_icmp_ne_f (tgt := 367) X dL_answers_360 (by decide) rfl ?_
    refine k_iconst X (nI 1) dL_answers_363 (by decide) ?_
    refine k_goto (tgt := 368) X dL_answers_364 (by decide) ?_
    exact k_iret dL_answers_368 hE (by decide) rfl
  refine k_aload_n X 0 dL_answers_0 rfl rfl ?_
  refine k_iload_n X 2 dL_answers_1 rfl rfl ?_
  refine k_callV (a := 0) (o := 0) (As := [.int (nI c)]) (S := []) X lk_L_53 rfl (by decide) rfl (N_branches h c n hc hn) rfl rfl (Nat.le_of_ble_eq_true rfl) ⟨Nat.le_of_ble_eq_true rfl, Nat.le_of_ble_eq_true rfl⟩ ⟨Nat.le_of_ble_eq_true rfl, Nat.le_of_ble_eq_true rfl⟩ dL_answers_2 ?_
  show KF E C 0 0 μ 5 _ [.int (nI n)]
  refine k_istore (L' := [(5, .int (nI n)), (0, .ref (ad E 0 0)), (1, .ref (ad E 16 0)), (2, .int (nI c)), (3, .int (nI aa)), (4, .int x)]) X dL_answers_5 (by decide) rfl ?_
  refine k_iload X 0 dL_answers_7 rfl ?_
  refine k_if_ne_t (tgt := 16) X dL_answers_9 (by decide) hz ?_
  refine k_iload_n X 4 dL_answers_16 rfl rfl ?_
  refine k_iload X 0 dL_answers_17 rfl ?_
  refine k_irem X dL_answers_19 hz ?_
  refine k_val (y := nI b) hbm ?_
  refine k_istore (L' := [(6, .int (nI b)), (5, .int (nI n)), (0, .ref (ad E 0 0)), (1, .ref (ad E 16 0)), (2, .int (nI c)), (3, .int (nI aa)), (4, .int x)]) X dL_answers_20 (by decide) rfl ?_
  refine k_iload X 0 dL_answers_22 rfl ?_
  refine k_iconst X (-1) dL_answers_24 (by decide) ?_
  refine k_icmp_ne_t (tgt := 32) X dL_answers_25 (by decide) (nI_m1 (by omega)) ?_
  refine k_aload_n X 2 dL_answers_32 rfl rfl ?_
  refine k_iload_n X 4 dL_answers_33 rfl rfl ?_
  refine k_iload X 0 dL_answers_34 rfl ?_
  refine k_callV (a := 0) (o := 0) (As := [.int (nI c), .int (nI b)]) (S := []) X lk_L_59 rfl (by decide) rfl (N_device h c n b hc hn12 hn hb) rfl rfl (Nat.le_of_ble_eq_true rfl) ⟨Nat.le_of_ble_eq_true rfl, Nat.le_of_ble_eq_true rfl⟩ ⟨Nat.le_of_ble_eq_true rfl, Nat.le_of_ble_eq_true rfl⟩ dL_answers_36 ?_
  show KF E C 0 0 μ 39 _ [.int (μ 12 c b)]
  refine k_istore (L' := [(7, .int (μ 12 c b)), (6, .int (nI b)), (5, .int (nI n)), (0, .ref (ad E 0 0)), (1, .ref (ad E 16 0)), (2, .int (nI c)), (3, .int (nI aa)), (4, .int x)]) X dL_answers_39 (by decide) rfl ?_
  refine k_iload X 1 dL_answers_41 rfl ?_
  refine k_iconst X (-1) dL_answers_43 (by decide) ?_
  refine k_icmp_ne_t (tgt := 51) X dL_answers_44 (by decide) (nI_m1 (by omega)) ?_
  refine k_aload_n X 3 dL_answers_51 rfl rfl ?_
  refine k_iload_n X 5 dL_answers_52 rfl rfl ?_
  refine k_iload X 1 dL_answers_53 rfl ?_
  refine k_callV (a := 0) (o := 0) (As := [.int (nI c), .int (nI b)]) (S := []) X lk_L_62 rfl (by decide) rfl (N_state h c n b hc hn12 hn hb) rfl rfl (Nat.le_of_ble_eq_true rfl) ⟨Nat.le_of_ble_eq_true rfl, Nat.le_of_ble_eq_true rfl⟩ ⟨Nat.le_of_ble_eq_true rfl, Nat.le_of_ble_eq_true rfl⟩ dL_answers_55 ?_
  show KF E C 0 0 μ 58 _ [.int (μ 14 c b)]
  refine k_istore (L' := [(8, .int (μ 14 c b)), (7, .int (μ 12 c b)), (6, .int (nI b)), (5, .int (nI n)), (0, .ref (ad E 0 0)), (1, .ref (ad E 16 0)), (2, .int (nI c)), (3, .int (nI aa)), (4, .int x)]) X dL_answers_58 (by decide) rfl ?_
  refine k_aload_n X 4 dL_answers_60 rfl rfl ?_
  refine k_iload_n X 6 dL_answers_61 rfl rfl ?_
  refine k_callV (a := 0) (o := 0) (As := [.int (nI c)]) (S := []) X lk_L_56 rfl (by decide) rfl (N_finalOf h c hc) rfl rfl (Nat.le_of_ble_eq_true rfl) ⟨Nat.le_of_ble_eq_true rfl, Nat.le_of_ble_eq_true rfl⟩ ⟨Nat.le_of_ble_eq_true rfl, Nat.le_of_ble_eq_true rfl⟩ dL_answers_62 ?_
  show KF E C 0 0 μ 65 _ [.int (μ 11 c 8)]
  refine k_istore (L' := [(9, .int (μ 11 c 8)), (8, .int (μ 14 c b)), (7, .int (μ 12 c b)), (6, .int (nI b)), (5, .int (nI n)), (0, .ref (ad E 0 0)), (1, .ref (ad E 16 0)), (2, .int (nI c)), (3, .int (nI aa)), (4, .int x)]) X dL_answers_65 (by decide) rfl ?_
  refine k_iload X 2 dL_answers_67 rfl ?_
  refine k_iconst X (-1) dL_answers_69 (by decide) ?_
  refine k_icmp_eq_f (tgt := 88) X dL_answers_70 (by decide) hdv ?_
  refine k_iload X 1 dL_answers_73 rfl ?_
  refine k_bipush X 100 dL_answers_75 (by decide) ?_
  refine k_icmp_eq (tgt := 105) X dL_answers_77 (by decide) (fun c77 => ?_) (fun c77 => ?_)
  · refine k_pick (L' := [(0, .ref (ad E 0 0)), (1, .ref (ad E 16 0)), (2, .int (nI c)), (4, .int x), (5, .int (nI n)), (6, .int (nI b)), (7, .int (μ 12 c b)), (9, .int (μ 11 c 8))]) [5, 6, 7, 9, 4, 3, 2, 0] rfl ?_
    exact k_105
  · refine k_iload X 1 dL_answers_80 rfl ?_
    refine k_sipush X 180 dL_answers_82 (by decide) ?_
    refine k_icmp_eq_t (tgt := 105) X dL_answers_85 (by decide) (hop.resolve_left c77) ?_
    refine k_pick (L' := [(0, .ref (ad E 0 0)), (1, .ref (ad E 16 0)), (2, .int (nI c)), (4, .int x), (5, .int (nI n)), (6, .int (nI b)), (7, .int (μ 12 c b)), (9, .int (μ 11 c 8))]) [5, 6, 7, 9, 4, 3, 2, 0] rfl ?_
    exact k_105

set_option maxHeartbeats 4000000 in
set_option maxRecDepth 100000 in
theorem C_L_answers_a {E : EE} {μ : Mem} {K t q : Nat} (h : IX K t q μ) (c n : Nat) (hc : c < K) (hn12 : n ≤ 12) (hn : μ 11 c 4 = nI n) (aa b : Nat) (x : Int32) (hb : b < n) (hz : ¬ nI n = 0) (hz2 : ¬ nI n ≤ 0) (hbm : nI aa - nI aa / nI n * nI n = nI b) (K2 t2 q2 : Nat) (μ2 : Mem) (h2 : IX K2 t2 q2 μ2) (hc2 : c < K2) (hn2 : μ2 11 c 4 = nI n) (hdv : ¬ μ 12 c b = -1) (hop : sOp (μ 14 c b)) (hf : μ 11 c 8 = -1) (han : MM E yX2_answer cX2_answer 6 (some .int) (rm 5 0) [.ref (ad E 0 0), .int (nI c), .int (μ 12 c b), .int x] μ (some (.int (μ2 11 c 8))) μ2) (hst : μ2 14 c b = x) (hbo : MM E yL_branchOf cL_branchOf 5 (some .int) (rm 5 0) [.ref (ad E 0 0), .int (nI c), .int (μ 12 c b)] μ2 (some (.int (nI b))) μ2) (hx : ¬ x = 180) (hx2 : ¬ x < 200) (hx3 : 300 ≤ x) (hx6 : ¬ x < 600) (h8 : μ2 11 c 8 = x) (h7 : μ2 11 c 7 = -1) (hall : ∀ j, j < n → 200 ≤ μ2 14 c j) : MM E yL_answers cL_answers 16 (some .boolean) (rm 6 0) [.ref (ad E 0 0), .ref (ad E 16 0), .int (nI c), .int (nI aa), .int x] μ (some (.int 1)) μ2 := by
  refine MM.int (own := RL) [(0, .ref (ad E 0 0)), (1, .ref (ad E 16 0)), (2, .int (nI c)), (3, .int (nI aa)), (4, .int x)] rfl rfl rfl (Nat.le_of_ble_eq_true rfl) rfl (fun C X hE => ?_)
  have k_105 : KF E C 0 0 μ 105 [(0, .ref (ad E 0 0)), (1, .ref (ad E 16 0)), (2, .int (nI c)), (4, .int x), (5, .int (nI n)), (6, .int (nI b)), (7, .int (μ 12 c b)), (9, .int (μ 11 c 8))] [] := by
    refine k_aload_n X 0 dL_answers_105 rfl rfl ?_
    refine k_iload_n X 2 dL_answers_106 rfl rfl ?_
    refine k_iload X 6 dL_answers_107 rfl ?_
    refine k_iload X 3 dL_answers_109 rfl ?_
    refine k_callV (a := 0) (o := 0) (As := [.int (nI c), .int (μ 12 c b), .int x]) (S := []) X lk_L_65 rfl (by decide) rfl han rfl rfl (Nat.le_of_ble_eq_true rfl) ⟨Nat.le_of_ble_eq_true rfl, Nat.le_of_ble_eq_true rfl⟩ ⟨Nat.le_of_ble_eq_true rfl, Nat.le_of_ble_eq_true rfl⟩ dL_answers_111 ?_
    show KF E C 0 0 μ2 114 _ [.int (μ2 11 c 8)]
    refine k_istore (L' := [(10, .int (μ2 11 c 8)), (0, .ref (ad E 0 0)), (1, .ref (ad E 16 0)), (2, .int (nI c)), (4, .int x), (5, .int (nI n)), (6, .int (nI b)), (7, .int (μ 12 c b)), (9, .int (μ 11 c 8))]) X dL_answers_114 (by decide) rfl ?_
    refine k_iload X 4 dL_answers_116 rfl ?_
    refine k_sipush X 200 dL_answers_118 (by decide) ?_
    refine k_icmp_lt_f (tgt := 136) X dL_answers_121 (by decide) hx2 ?_
    refine k_iload X 4 dL_answers_124 rfl ?_
    refine k_sipush X 300 dL_answers_126 (by decide) ?_
    refine k_icmp_ge_t (tgt := 136) X dL_answers_129 (by decide) hx3 ?_
    refine k_iconst X (nI 0) dL_answers_136 (by decide) ?_
    refine k_istore (L' := [(11, .int (nI 0)), (10, .int (μ2 11 c 8)), (0, .ref (ad E 0 0)), (1, .ref (ad E 16 0)), (2, .int (nI c)), (4, .int x), (5, .int (nI n)), (6, .int (nI b)), (7, .int (μ 12 c b)), (9, .int (μ 11 c 8))]) X dL_answers_137 (by decide) rfl ?_
    refine k_iload X 9 dL_answers_139 rfl ?_
    refine k_iconst X (-1) dL_answers_141 (by decide) ?_
    refine k_icmp_ne_f (tgt := 171) X dL_answers_142 (by decide) hf ?_
    refine k_aload_n X 2 dL_answers_145 rfl rfl ?_
    refine k_iload_n X 4 dL_answers_146 rfl rfl ?_
    refine k_callV (a := 0) (o := 0) (As := [.int (nI c)]) (S := []) X lk_L_56 rfl (by decide) rfl (N_finalOf h2 c hc2) rfl rfl (Nat.le_of_ble_eq_true rfl) ⟨Nat.le_of_ble_eq_true rfl, Nat.le_of_ble_eq_true rfl⟩ ⟨Nat.le_of_ble_eq_true rfl, Nat.le_of_ble_eq_true rfl⟩ dL_answers_147 ?_
    show KF E C 0 0 μ2 150 _ [.int (μ2 11 c 8)]
    refine k_iload X 1 dL_answers_150 rfl ?_
    refine k_icmp_ne_f (tgt := 171) X dL_answers_152 (by decide) rfl ?_
    refine k_aload_n X 2 dL_answers_155 rfl rfl ?_
    refine k_iload_n X 4 dL_answers_156 rfl rfl ?_
    refine k_iload X 7 dL_answers_157 rfl ?_
    refine k_callV (a := 0) (o := 0) (As := [.int (nI c), .int (nI b)]) (S := []) X lk_L_62 rfl (by decide) rfl (N_state h2 c n b hc2 hn12 hn2 hb) rfl rfl (Nat.le_of_ble_eq_true rfl) ⟨Nat.le_of_ble_eq_true rfl, Nat.le_of_ble_eq_true rfl⟩ ⟨Nat.le_of_ble_eq_true rfl, Nat.le_of_ble_eq_true rfl⟩ dL_answers_159 ?_
    show KF E C 0 0 μ2 162 _ [.int (μ2 14 c b)]
    refine k_iload X 5 dL_answers_162 rfl ?_
    refine k_icmp_ne_f (tgt := 171) X dL_answers_164 (by decide) hst ?_
    refine k_iconst X (nI 1) dL_answers_167 (by decide) ?_
    refine k_goto (tgt := 172) X dL_answers_168 (by decide) ?_
    refine k_istore (L' := [(12, .int (nI 1)), (11, .int (nI 0)), (10, .int (μ2 11 c 8)), (0, .ref (ad E 0 0)), (1, .ref (ad E 16 0)), (2, .int (nI c)), (4, .int x), (5, .int (nI n)), (6, .int (nI b)), (7, .int (μ 12 c b)), (9, .int (μ 11 c 8))]) X dL_answers_172 (by decide) rfl ?_
    refine k_iload X 6 dL_answers_174 rfl ?_
    refine k_sipush X 180 dL_answers_176 (by decide) ?_
    refine k_icmp_ne_t (tgt := 199) X dL_answers_179 (by decide) hx ?_
    refine k_iload X 0 dL_answers_199 rfl ?_
    refine k_if_eq_f (tgt := 257) X dL_answers_201 (by decide) (by decide) ?_
    refine k_iload X 1 dL_answers_204 rfl ?_
    refine k_if_eq_t (tgt := 229) X dL_answers_206 (by decide) (by decide) ?_
    refine k_aload_n X 3 dL_answers_229 rfl rfl ?_
    refine k_iload_n X 5 dL_answers_230 rfl rfl ?_
    refine k_callV (a := 0) (o := 0) (As := [.int (nI c)]) (S := []) X lk_L_50 rfl (by decide) rfl (N_answered h2 c hc2) rfl rfl (Nat.le_of_ble_eq_true rfl) ⟨Nat.le_of_ble_eq_true rfl, Nat.le_of_ble_eq_true rfl⟩ ⟨Nat.le_of_ble_eq_true rfl, Nat.le_of_ble_eq_true rfl⟩ dL_answers_231 ?_
    show KF E C 0 0 μ2 234 _ [.int (μ2 11 c 7)]
    refine k_iconst X (-1) dL_answers_234 (by decide) ?_
    refine k_icmp_ne_f (tgt := 257) X dL_answers_235 (by decide) h7 ?_
    refine k_iload X 6 dL_answers_238 rfl ?_
    refine k_sipush X 600 dL_answers_240 (by decide) ?_
    refine k_icmp_lt_f (tgt := 253) X dL_answers_243 (by decide) hx6 ?_
    refine k_iload X 2 dL_answers_246 rfl ?_
    refine k_iload X 6 dL_answers_248 rfl ?_
    refine k_icmp_ne_f (tgt := 257) X dL_answers_250 (by decide) h8 ?_
    refine k_iconst X (nI 1) dL_answers_253 (by decide) ?_
    refine k_goto (tgt := 258) X dL_answers_254 (by decide) ?_
    refine k_istore (L' := [(12, .int (nI 1)), (11, .int (nI 0)), (10, .int (μ2 11 c 8)), (0, .ref (ad E 0 0)), (1, .ref (ad E 16 0)), (2, .int (nI c)), (4, .int x), (5, .int (nI n)), (6, .int (nI b)), (7, .int (μ 12 c b)), (9, .int (μ 11 c 8))]) X dL_answers_258 (by decide) rfl ?_
    refine k_iconst X (nI 0) dL_answers_260 (by decide) ?_
    refine k_istore (L' := [(13, .int (nI 0)), (12, .int (nI 1)), (11, .int (nI 0)), (10, .int (μ2 11 c 8)), (0, .ref (ad E 0 0)), (1, .ref (ad E 16 0)), (2, .int (nI c)), (4, .int x), (5, .int (nI n)), (6, .int (nI b)), (7, .int (μ 12 c b)), (9, .int (μ 11 c 8))]) X dL_answers_261 (by decide) rfl ?_
    refine k_iconst X (nI 0) dL_answers_263 (by decide) ?_
    refine k_istore (L' := [(14, .int (nI 0)), (13, .int (nI 0)), (12, .int (nI 1)), (11, .int (nI 0)), (10, .int (μ2 11 c 8)), (0, .ref (ad E 0 0)), (1, .ref (ad E 16 0)), (2, .int (nI c)), (4, .int x), (5, .int (nI n)), (6, .int (nI b)), (7, .int (μ 12 c b)), (9, .int (μ 11 c 8))]) X dL_answers_264 (by decide) rfl ?_
    refine k_pick (L' := [(14, .int (nI 0)), (13, .int (nI 0)), (12, .int (nI 1)), (11, .int (nI 0)), (0, .ref (ad E 0 0)), (1, .ref (ad E 16 0)), (2, .int (nI c)), (4, .int x), (5, .int (nI n)), (6, .int (nI b)), (7, .int (μ 12 c b))]) [0, 1, 2, 3, 5, 6, 7, 8, 9, 10, 11] rfl ?_
    exact L_L_answers h2 c n hc2 hn12 hn2 b x (μ 12 c b) _ (Or.inr hx6) hall hbo X hE (n + 1) 0 (by omega) (Nat.zero_le n)
  refine k_aload_n X 0 dL_answers_0 rfl rfl ?_
  refine k_iload_n X 2 dL_answers_1 rfl rfl ?_
  refine k_callV (a := 0) (o := 0) (As := [.int (nI c)]) (S := []) X lk_L_53 rfl (by decide) rfl (N_branches h c n hc hn) rfl rfl (Nat.le_of_ble_eq_true rfl) ⟨Nat.le_of_ble_eq_true rfl, Nat.le_of_ble_eq_true rfl⟩ ⟨Nat.le_of_ble_eq_true rfl, Nat.le_of_ble_eq_true rfl⟩ dL_answers_2 ?_
  show KF E C 0 0 μ 5 _ [.int (nI n)]
  refine k_istore (L' := [(5, .int (nI n)), (0, .ref (ad E 0 0)), (1, .ref (ad E 16 0)), (2, .int (nI c)), (3, .int (nI aa)), (4, .int x)]) X dL_answers_5 (by decide) rfl ?_
  refine k_iload X 0 dL_answers_7 rfl ?_
  refine k_if_ne_t (tgt := 16) X dL_answers_9 (by decide) hz ?_
  refine k_iload_n X 4 dL_answers_16 rfl rfl ?_
  refine k_iload X 0 dL_answers_17 rfl ?_
  refine k_irem X dL_answers_19 hz ?_
  refine k_val (y := nI b) hbm ?_
  refine k_istore (L' := [(6, .int (nI b)), (5, .int (nI n)), (0, .ref (ad E 0 0)), (1, .ref (ad E 16 0)), (2, .int (nI c)), (3, .int (nI aa)), (4, .int x)]) X dL_answers_20 (by decide) rfl ?_
  refine k_iload X 0 dL_answers_22 rfl ?_
  refine k_iconst X (-1) dL_answers_24 (by decide) ?_
  refine k_icmp_ne_t (tgt := 32) X dL_answers_25 (by decide) (nI_m1 (by omega)) ?_
  refine k_aload_n X 2 dL_answers_32 rfl rfl ?_
  refine k_iload_n X 4 dL_answers_33 rfl rfl ?_
  refine k_iload X 0 dL_answers_34 rfl ?_
  refine k_callV (a := 0) (o := 0) (As := [.int (nI c), .int (nI b)]) (S := []) X lk_L_59 rfl (by decide) rfl (N_device h c n b hc hn12 hn hb) rfl rfl (Nat.le_of_ble_eq_true rfl) ⟨Nat.le_of_ble_eq_true rfl, Nat.le_of_ble_eq_true rfl⟩ ⟨Nat.le_of_ble_eq_true rfl, Nat.le_of_ble_eq_true rfl⟩ dL_answers_36 ?_
  show KF E C 0 0 μ 39 _ [.int (μ 12 c b)]
  refine k_istore (L' := [(7, .int (μ 12 c b)), (6, .int (nI b)), (5, .int (nI n)), (0, .ref (ad E 0 0)), (1, .ref (ad E 16 0)), (2, .int (nI c)), (3, .int (nI aa)), (4, .int x)]) X dL_answers_39 (by decide) rfl ?_
  refine k_iload X 1 dL_answers_41 rfl ?_
  refine k_iconst X (-1) dL_answers_43 (by decide) ?_
  refine k_icmp_ne_t (tgt := 51) X dL_answers_44 (by decide) (nI_m1 (by omega)) ?_
  refine k_aload_n X 3 dL_answers_51 rfl rfl ?_
  refine k_iload_n X 5 dL_answers_52 rfl rfl ?_
  refine k_iload X 1 dL_answers_53 rfl ?_
  refine k_callV (a := 0) (o := 0) (As := [.int (nI c), .int (nI b)]) (S := []) X lk_L_62 rfl (by decide) rfl (N_state h c n b hc hn12 hn hb) rfl rfl (Nat.le_of_ble_eq_true rfl) ⟨Nat.le_of_ble_eq_true rfl, Nat.le_of_ble_eq_true rfl⟩ ⟨Nat.le_of_ble_eq_true rfl, Nat.le_of_ble_eq_true rfl⟩ dL_answers_55 ?_
  show KF E C 0 0 μ 58 _ [.int (μ 14 c b)]
  refine k_istore (L' := [(8, .int (μ 14 c b)), (7, .int (μ 12 c b)), (6, .int (nI b)), (5, .int (nI n)), (0, .ref (ad E 0 0)), (1, .ref (ad E 16 0)), (2, .int (nI c)), (3, .int (nI aa)), (4, .int x)]) X dL_answers_58 (by decide) rfl ?_
  refine k_aload_n X 4 dL_answers_60 rfl rfl ?_
  refine k_iload_n X 6 dL_answers_61 rfl rfl ?_
  refine k_callV (a := 0) (o := 0) (As := [.int (nI c)]) (S := []) X lk_L_56 rfl (by decide) rfl (N_finalOf h c hc) rfl rfl (Nat.le_of_ble_eq_true rfl) ⟨Nat.le_of_ble_eq_true rfl, Nat.le_of_ble_eq_true rfl⟩ ⟨Nat.le_of_ble_eq_true rfl, Nat.le_of_ble_eq_true rfl⟩ dL_answers_62 ?_
  show KF E C 0 0 μ 65 _ [.int (μ 11 c 8)]
  refine k_istore (L' := [(9, .int (μ 11 c 8)), (8, .int (μ 14 c b)), (7, .int (μ 12 c b)), (6, .int (nI b)), (5, .int (nI n)), (0, .ref (ad E 0 0)), (1, .ref (ad E 16 0)), (2, .int (nI c)), (3, .int (nI aa)), (4, .int x)]) X dL_answers_65 (by decide) rfl ?_
  refine k_iload X 2 dL_answers_67 rfl ?_
  refine k_iconst X (-1) dL_answers_69 (by decide) ?_
  refine k_icmp_eq_f (tgt := 88) X dL_answers_70 (by decide) hdv ?_
  refine k_iload X 1 dL_answers_73 rfl ?_
  refine k_bipush X 100 dL_answers_75 (by decide) ?_
  refine k_icmp_eq (tgt := 105) X dL_answers_77 (by decide) (fun c77 => ?_) (fun c77 => ?_)
  · refine k_pick (L' := [(0, .ref (ad E 0 0)), (1, .ref (ad E 16 0)), (2, .int (nI c)), (4, .int x), (5, .int (nI n)), (6, .int (nI b)), (7, .int (μ 12 c b)), (9, .int (μ 11 c 8))]) [5, 6, 7, 9, 4, 3, 2, 0] rfl ?_
    exact k_105
  · refine k_iload X 1 dL_answers_80 rfl ?_
    refine k_sipush X 180 dL_answers_82 (by decide) ?_
    refine k_icmp_eq_t (tgt := 105) X dL_answers_85 (by decide) (hop.resolve_left c77) ?_
    refine k_pick (L' := [(0, .ref (ad E 0 0)), (1, .ref (ad E 16 0)), (2, .int (nI c)), (4, .int x), (5, .int (nI n)), (6, .int (nI b)), (7, .int (μ 12 c b)), (9, .int (μ 11 c 8))]) [5, 6, 7, 9, 4, 3, 2, 0] rfl ?_
    exact k_105
