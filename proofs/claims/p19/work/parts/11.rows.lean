set_option maxHeartbeats 4000000 in
set_option maxRecDepth 100000 in
theorem C_X0_isThere {E : EE} {μ : Mem} (u t : Nat) (x now : Int32) (hu : u < 6) (ht : t < 16) (hx : x = nI t) : MM E yX0_isThere cX0_isThere 3 (some .boolean) (rm 1 0) [.ref (ad E 6 u), .int x, .int now] μ (some (.int (bp (thB μ u now t = true)))) μ := by
  refine MM.int (own := RX0) [(0, .ref (ad E 6 u)), (1, .int x), (2, .int now)] rfl rfl rfl (Nat.le_of_ble_eq_true rfl) bp_nar (fun C X hE => ?_)
  refine k_aload_n X 0 dX0_isThere_0 rfl rfl ?_
  refine gt_X0_18 X hu dX0_isThere_1 ?_
  refine k_iload_n X 1 dX0_isThere_4 rfl rfl ?_
  refine k_iald (a := 9) (j := t) X rfl hu hx ht (by decide) dX0_isThere_5 ?_
  refine k_iconst X (-1) dX0_isThere_6 (by decide) ?_
  refine k_icmp_eq (tgt := 24) X dX0_isThere_7 (by decide) (fun c7 => ?_) (fun c7 => ?_)
  · refine k_iconst X 0 dX0_isThere_24 (by decide) ?_
    exact k_iret dX0_isThere_25 hE (bp_f (by unfold thB; rw [decide_eq_true c7]; simp)).symm rfl
  · refine k_iload_n X 2 dX0_isThere_10 rfl rfl ?_
    refine k_aload_n X 0 dX0_isThere_11 rfl rfl ?_
    refine gt_X0_15 X hu dX0_isThere_12 ?_
    refine k_iload_n X 1 dX0_isThere_15 rfl rfl ?_
    refine k_iald (a := 8) (j := t) X rfl hu hx ht (by decide) dX0_isThere_16 ?_
    refine k_icmp_ge (tgt := 24) X dX0_isThere_17 (by decide) (fun c17 => ?_) (fun c17 => ?_)
    · refine k_iconst X 0 dX0_isThere_24 (by decide) ?_
      exact k_iret dX0_isThere_25 hE (bp_f (by unfold thB; rw [decide_eq_true c17]; simp)).symm rfl
    · refine k_iconst X 1 dX0_isThere_20 (by decide) ?_
      refine k_goto (tgt := 25) X dX0_isThere_21 (by decide) ?_
      exact k_iret dX0_isThere_25 hE (bp_t (by unfold thB; rw [decide_eq_false c7, decide_eq_false c17]; rfl)).symm rfl

set_option maxHeartbeats 4000000 in
set_option maxRecDepth 100000 in
theorem L_X0_countOthers {E : EE} {μ : Mem} {C : Ctx} (u : Nat) (left now : Int32) (hu : u < 6) (X : Cx E C cX0_countOthers RX0 5 (rm 2 0)) (hE : EndI E C cX0_countOthers 0 0 (nI (coN μ u left now)) μ) : ∀ (f : Nat) (i : Nat), 16 - i < f → i ≤ 16 → KF E C 0 0 μ 5 [(4, .int (nI i)), (3, .int (nI (ctB (coB μ u left now) i))), (0, .ref (ad E 6 u)), (1, .int left), (2, .int now)] [] := by
  intro f
  induction f with
  | zero => intros; omega
  | succ f ih =>
    intro i hf hi
    refine k_iload X 0 dX0_countOthers_5 rfl ?_
    refine k_bipush X 16 dX0_countOthers_7 (by decide) ?_
    refine k_ge_n (a := i) (b := 16) (tgt := 37) X dX0_countOthers_9 (by decide) rfl rfl (by omega) (by decide) (fun c9 => ?_) (fun c9 => ?_)
    · refine k_iload_n X 1 dX0_countOthers_37 rfl rfl ?_
      exact k_iret dX0_countOthers_38 hE (by rw [show i = 16 by omega]; rfl) rfl
    · refine k_iload X 0 dX0_countOthers_12 rfl ?_
      refine k_iload_n X 3 dX0_countOthers_14 rfl rfl ?_
      refine k_icmp_eq (tgt := 31) X dX0_countOthers_15 (by decide) (fun c15 => ?_) (fun c15 => ?_)
      · refine k_iinc (v := nI (i + 1)) (L' := [(4, .int (nI (i + 1))), (3, .int (nI (ctB (coB μ u left now) i))), (0, .ref (ad E 6 u)), (1, .int left), (2, .int now)]) X 0 dX0_countOthers_31 rfl (nI_1 i) (by decide) rfl ?_
        refine k_goto (tgt := 5) X dX0_countOthers_34 (by decide) ?_
        have e1 := ctB_f (p := (coB μ u left now)) (n := i) (by unfold coB; rw [decide_eq_true c15]; rfl)
        rw [← e1]
        exact ih (i + 1) (by omega) (by omega)
      · refine k_aload_n X 2 dX0_countOthers_18 rfl rfl ?_
        refine k_iload X 0 dX0_countOthers_19 rfl ?_
        refine k_iload_n X 4 dX0_countOthers_21 rfl rfl ?_
        refine k_callV (a := 6) (o := u) (As := [.int (nI i), .int now]) (S := []) X lk_X0_32 rfl hu rfl (C_X0_isThere u i _ _ hu (by omega) rfl) rfl rfl (Nat.le_of_ble_eq_true rfl) ⟨Nat.le_of_ble_eq_true rfl, Nat.le_of_ble_eq_true rfl⟩ ⟨Nat.le_of_ble_eq_true rfl, Nat.le_of_ble_eq_true rfl⟩ dX0_countOthers_22 ?_
        show KF E C 0 0 μ 25 _ [.int (bp (thB μ u now i = true))]
        refine k_if_eq_p (tgt := 31) X dX0_countOthers_25 (by decide) (fun c25 => ?_) (fun c25 => ?_)
        · refine k_iinc (v := nI (i + 1)) (L' := [(4, .int (nI (i + 1))), (3, .int (nI (ctB (coB μ u left now) i))), (0, .ref (ad E 6 u)), (1, .int left), (2, .int now)]) X 0 dX0_countOthers_31 rfl (nI_1 i) (by decide) rfl ?_
          refine k_goto (tgt := 5) X dX0_countOthers_34 (by decide) ?_
          have e1 := ctB_f (p := (coB μ u left now)) (n := i) (by unfold coB; rw [decide_eq_false c15, Bool.eq_false_iff.mpr c25]; rfl)
          rw [← e1]
          exact ih (i + 1) (by omega) (by omega)
        · refine k_iinc (v := nI (ctB (coB μ u left now) i + 1)) (L' := [(3, .int (nI (ctB (coB μ u left now) i + 1))), (4, .int (nI i)), (0, .ref (ad E 6 u)), (1, .int left), (2, .int now)]) X 1 dX0_countOthers_28 rfl (nI_1 _) (by decide) rfl ?_
          refine k_iinc (v := nI (i + 1)) (L' := [(4, .int (nI (i + 1))), (3, .int (nI (ctB (coB μ u left now) i + 1))), (0, .ref (ad E 6 u)), (1, .int left), (2, .int now)]) X 1 dX0_countOthers_31 rfl (nI_1 i) (by decide) rfl ?_
          refine k_goto (tgt := 5) X dX0_countOthers_34 (by decide) ?_
          have e1 := ctB_t (p := (coB μ u left now)) (n := i) (by unfold coB; rw [decide_eq_false c15, c25]; rfl)
          rw [← e1]
          exact ih (i + 1) (by omega) (by omega)

set_option maxHeartbeats 4000000 in
set_option maxRecDepth 100000 in
theorem C_X0_countOthers {E : EE} {μ : Mem} (u : Nat) (left now : Int32) (hu : u < 6) : MM E yX0_countOthers cX0_countOthers 5 (some .int) (rm 2 0) [.ref (ad E 6 u), .int left, .int now] μ (some (.int (nI (coN μ u left now)))) μ := by
  refine MM.int (own := RX0) [(0, .ref (ad E 6 u)), (1, .int left), (2, .int now)] rfl rfl rfl (Nat.le_of_ble_eq_true rfl) rfl (fun C X hE => ?_)
  refine k_iconst X (nI 0) dX0_countOthers_0 (by decide) ?_
  refine k_istore_n (L' := [(3, .int (nI 0)), (0, .ref (ad E 6 u)), (1, .int left), (2, .int now)]) X dX0_countOthers_1 rfl (by decide) rfl ?_
  refine k_iconst X (nI 0) dX0_countOthers_2 (by decide) ?_
  refine k_istore (L' := [(4, .int (nI 0)), (3, .int (nI 0)), (0, .ref (ad E 6 u)), (1, .int left), (2, .int now)]) X dX0_countOthers_3 (by decide) rfl ?_
  exact L_X0_countOthers u left now hu X hE 17 0 (by decide) (by decide)

set_option maxHeartbeats 4000000 in
set_option maxRecDepth 100000 in
theorem C_X0_count {E : EE} {μ : Mem} (u : Nat) (now : Int32) (hu : u < 6) : MM E yX0_count cX0_count 2 (some .int) (rm 3 0) [.ref (ad E 6 u), .int now] μ (some (.int (nI (coN μ u (-1) now)))) μ := by
  refine MM.int (own := RX0) [(0, .ref (ad E 6 u)), (1, .int now)] rfl rfl rfl (Nat.le_of_ble_eq_true rfl) rfl (fun C X hE => ?_)
  refine k_aload_n X 0 dX0_count_0 rfl rfl ?_
  refine k_iconst X (-1) dX0_count_1 (by decide) ?_
  refine k_iload_n X 1 dX0_count_2 rfl rfl ?_
  refine k_callV (a := 6) (o := u) (As := [.int (-1), .int now]) (S := []) X lk_X0_28 rfl hu rfl (C_X0_countOthers u _ _ hu) rfl rfl (Nat.le_of_ble_eq_true rfl) ⟨Nat.le_of_ble_eq_true rfl, Nat.le_of_ble_eq_true rfl⟩ ⟨Nat.le_of_ble_eq_true rfl, Nat.le_of_ble_eq_true rfl⟩ dX0_count_3 ?_
  show KF E C 0 0 μ 6 _ [.int (nI (coN μ u (-1) now))]
  exact k_iret dX0_count_6 hE rfl rfl

set_option maxHeartbeats 4000000 in
set_option maxRecDepth 100000 in
theorem L_X0_targetAt {E : EE} {μ : Mem} {C : Ctx} (u m : Nat) (w now : Int32) (hu : u < 6) (hm : μ 6 u 4 = nI m) (hm16 : m ≤ 16) (hv : ∀ p, p < m → vN (μ 10 u p) 15) (X : Cx E C cX0_targetAt RX0 6 (rm 2 0)) (hE : EndI E C cX0_targetAt 0 0 (taI μ u m w now) μ) : ∀ (f : Nat) (i : Nat), m - i < f → i ≤ m → (∀ j, j < i → taP μ u now w j = false) → KF E C 0 0 μ 5 [(4, .int (nI i)), (3, .int (nI (ctB (fun j => thB μ u now (tN (μ 10 u j))) i))), (0, .ref (ad E 6 u)), (1, .int w), (2, .int now)] [] := by
  intro f
  induction f with
  | zero => intros; omega
  | succ f ih =>
    intro i hf hi hno
    refine k_iload X 0 dX0_targetAt_5 rfl ?_
    refine k_aload_n X 2 dX0_targetAt_7 rfl rfl ?_
    refine gt_X0_24 X hu dX0_targetAt_8 ?_
    refine k_val (y := nI m) hm ?_
    refine k_ge_n (a := i) (b := m) (tgt := 50) X dX0_targetAt_11 (by decide) rfl rfl (by omega) (by omega) (fun c11 => ?_) (fun c11 => ?_)
    · refine k_iconst X (-1) dX0_targetAt_50 (by decide) ?_
      exact k_iret dX0_targetAt_51 hE (taI_no (fun j hj => hno j (by omega))).symm rfl
    · refine k_aload_n X 2 dX0_targetAt_14 rfl rfl ?_
      refine gt_X0_21 X hu dX0_targetAt_15 ?_
      refine k_iload X 0 dX0_targetAt_18 rfl ?_
      refine k_iald (a := 10) (j := i) X rfl hu rfl (show i < 16 by omega) (by decide) dX0_targetAt_20 ?_
      refine k_val (y := nI (tN (μ 10 u i))) (hv i c11).1 ?_
      refine k_istore (L' := [(5, .int (nI (tN (μ 10 u i)))), (4, .int (nI i)), (3, .int (nI (ctB (fun j => thB μ u now (tN (μ 10 u j))) i))), (0, .ref (ad E 6 u)), (1, .int w), (2, .int now)]) X dX0_targetAt_21 (by decide) rfl ?_
      refine k_aload_n X 3 dX0_targetAt_23 rfl rfl ?_
      refine k_iload X 0 dX0_targetAt_24 rfl ?_
      refine k_iload_n X 5 dX0_targetAt_26 rfl rfl ?_
      refine k_callV (a := 6) (o := u) (As := [.int (nI (tN (μ 10 u i))), .int now]) (S := []) X lk_X0_32 rfl hu rfl (C_X0_isThere u (tN (μ 10 u i)) _ _ hu (Nat.lt_succ_of_le (hv i c11).2) rfl) rfl rfl (Nat.le_of_ble_eq_true rfl) ⟨Nat.le_of_ble_eq_true rfl, Nat.le_of_ble_eq_true rfl⟩ ⟨Nat.le_of_ble_eq_true rfl, Nat.le_of_ble_eq_true rfl⟩ dX0_targetAt_27 ?_
      show KF E C 0 0 μ 30 _ [.int (bp (thB μ u now (tN (μ 10 u i)) = true))]
      refine k_if_eq_p (tgt := 44) X dX0_targetAt_30 (by decide) (fun c30 => ?_) (fun c30 => ?_)
      · refine k_iinc (v := nI (i + 1)) (L' := [(4, .int (nI (i + 1))), (5, .int (nI (tN (μ 10 u i)))), (3, .int (nI (ctB (fun j => thB μ u now (tN (μ 10 u j))) i))), (0, .ref (ad E 6 u)), (1, .int w), (2, .int now)]) X 1 dX0_targetAt_44 rfl (nI_1 i) (by decide) rfl ?_
        refine k_goto (tgt := 5) X dX0_targetAt_47 (by decide) ?_
        have e1 := ctB_f (p := (fun j => thB μ u now (tN (μ 10 u j)))) (n := i) (Bool.eq_false_iff.mpr c30)
        refine k_pick (L' := [(4, .int (nI (i + 1))), (3, .int (nI (ctB (fun j => thB μ u now (tN (μ 10 u j))) i))), (0, .ref (ad E 6 u)), (1, .int w), (2, .int now)]) [0, 2, 3, 4, 5] rfl ?_
        rw [← e1]
        exact ih (i + 1) (by omega) (by omega) (fun j hj => if e : j = i then e ▸ (by unfold taP; rw [Bool.eq_false_iff.mpr c30]; rfl) else hno j (by omega))
      · refine k_iload_n X 2 dX0_targetAt_33 rfl rfl ?_
        refine k_iload_n X 4 dX0_targetAt_34 rfl rfl ?_
        refine k_icmp_ne (tgt := 41) X dX0_targetAt_35 (by decide) (fun c35 => ?_) (fun c35 => ?_)
        · refine k_iinc (v := nI (ctB (fun j => thB μ u now (tN (μ 10 u j))) i + 1)) (L' := [(3, .int (nI (ctB (fun j => thB μ u now (tN (μ 10 u j))) i + 1))), (5, .int (nI (tN (μ 10 u i)))), (4, .int (nI i)), (0, .ref (ad E 6 u)), (1, .int w), (2, .int now)]) X 2 dX0_targetAt_41 rfl (nI_1 _) (by decide) rfl ?_
          refine k_iinc (v := nI (i + 1)) (L' := [(4, .int (nI (i + 1))), (3, .int (nI (ctB (fun j => thB μ u now (tN (μ 10 u j))) i + 1))), (5, .int (nI (tN (μ 10 u i)))), (0, .ref (ad E 6 u)), (1, .int w), (2, .int now)]) X 2 dX0_targetAt_44 rfl (nI_1 i) (by decide) rfl ?_
          refine k_goto (tgt := 5) X dX0_targetAt_47 (by decide) ?_
          have e1 := ctB_t (p := (fun j => thB μ u now (tN (μ 10 u j)))) (n := i) c30
          refine k_pick (L' := [(4, .int (nI (i + 1))), (3, .int (nI (ctB (fun j => thB μ u now (tN (μ 10 u j))) i + 1))), (0, .ref (ad E 6 u)), (1, .int w), (2, .int now)]) [0, 1, 3, 4, 5] rfl ?_
          rw [← e1]
          exact ih (i + 1) (by omega) (by omega) (fun j hj => if e : j = i then e ▸ (by unfold taP; rw [decide_eq_false c35]; simp) else hno j (by omega))
        · refine k_iload X 0 dX0_targetAt_38 rfl ?_
          exact k_iret dX0_targetAt_40 hE ((hv i c11).1.symm.trans (taI_at (by unfold taP; rw [c30, decide_eq_true c35]; rfl) hno (by omega)).symm) rfl

set_option maxHeartbeats 4000000 in
set_option maxRecDepth 100000 in
theorem C_X0_targetAt {E : EE} {μ : Mem} (u m : Nat) (w now : Int32) (hu : u < 6) (hm : μ 6 u 4 = nI m) (hm16 : m ≤ 16) (hv : ∀ p, p < m → vN (μ 10 u p) 15) : MM E yX0_targetAt cX0_targetAt 6 (some .int) (rm 2 0) [.ref (ad E 6 u), .int w, .int now] μ (some (.int (taI μ u m w now))) μ := by
  refine MM.int (own := RX0) [(0, .ref (ad E 6 u)), (1, .int w), (2, .int now)] rfl rfl rfl (Nat.le_of_ble_eq_true rfl) rfl (fun C X hE => ?_)
  refine k_iconst X (nI 0) dX0_targetAt_0 (by decide) ?_
  refine k_istore_n (L' := [(3, .int (nI 0)), (0, .ref (ad E 6 u)), (1, .int w), (2, .int now)]) X dX0_targetAt_1 rfl (by decide) rfl ?_
  refine k_iconst X (nI 0) dX0_targetAt_2 (by decide) ?_
  refine k_istore (L' := [(4, .int (nI 0)), (3, .int (nI 0)), (0, .ref (ad E 6 u)), (1, .int w), (2, .int now)]) X dX0_targetAt_3 (by decide) rfl ?_
  exact L_X0_targetAt u m w now hu hm hm16 hv X hE (m + 1) 0 (by omega) (Nat.zero_le m) (fun j hj => absurd hj (Nat.not_lt_zero j))

set_option maxHeartbeats 4000000 in
set_option maxRecDepth 100000 in
theorem C_X0_put {E : EE} {μ : Mem} (u m t : Nat) (x q e s : Int32) (hu : u < 6) (hm : μ 6 u 4 = nI m) (hm16 : m ≤ 16) (ht : t < 16) (hx : x = nI t) : MM E yX0_put cX0_put 5 none (rm 1 0) [.ref (ad E 6 u), .int x, .int q, .int e, .int s] μ none (puM μ u m t q e s) := by
  refine MM.void (own := RX0) [(0, .ref (ad E 6 u)), (1, .int x), (2, .int q), (3, .int e), (4, .int s)] rfl rfl rfl (Nat.le_of_ble_eq_true rfl) (fun C X hE => ?_)
  refine k_aload_n X 0 dX0_put_0 rfl rfl ?_
  refine gt_X0_18 X hu dX0_put_1 ?_
  refine k_iload_n X 1 dX0_put_4 rfl rfl ?_
  refine k_iald (a := 9) (j := t) X rfl hu hx ht (by decide) dX0_put_5 ?_
  refine k_iconst X (-1) dX0_put_6 (by decide) ?_
  refine k_icmp_ne (tgt := 39) X dX0_put_7 (by decide) (fun c7 => ?_) (fun c7 => ?_)
  · refine k_aload_n X 0 dX0_put_39 rfl rfl ?_
    refine gt_X0_9 X hu dX0_put_40 ?_
    refine k_iload_n X 1 dX0_put_43 rfl rfl ?_
    refine k_iload_n X 2 dX0_put_44 rfl rfl ?_
    refine k_iast (a := 7) (j := t) X rfl hu hx ht (by decide) dX0_put_45 ?_
    refine k_aload_n X 0 dX0_put_46 rfl rfl ?_
    refine gt_X0_15 X hu dX0_put_47 ?_
    refine k_iload_n X 1 dX0_put_50 rfl rfl ?_
    refine k_iload_n X 3 dX0_put_51 rfl rfl ?_
    refine k_iast (a := 8) (j := t) X rfl hu hx ht (by decide) dX0_put_52 ?_
    refine k_aload_n X 0 dX0_put_53 rfl rfl ?_
    refine gt_X0_18 X hu dX0_put_54 ?_
    refine k_iload_n X 1 dX0_put_57 rfl rfl ?_
    refine k_iload X 4 dX0_put_58 rfl ?_
    refine k_iast (a := 9) (j := t) X rfl hu hx ht (by decide) dX0_put_60 ?_
    exact k_vret dX0_put_61 hE (by unfold puM; rw [if_neg (fun h => c7 h.1)])
  · refine k_aload_n X 0 dX0_put_10 rfl rfl ?_
    refine gt_X0_24 X hu dX0_put_11 ?_
    refine k_val (y := nI m) hm ?_
    refine k_bipush X 16 dX0_put_14 (by decide) ?_
    refine k_ge_n (a := m) (b := 16) (tgt := 39) X dX0_put_16 (by decide) rfl rfl (by omega) (by decide) (fun c16 => ?_) (fun c16 => ?_)
    · refine k_aload_n X 0 dX0_put_39 rfl rfl ?_
      refine gt_X0_9 X hu dX0_put_40 ?_
      refine k_iload_n X 1 dX0_put_43 rfl rfl ?_
      refine k_iload_n X 2 dX0_put_44 rfl rfl ?_
      refine k_iast (a := 7) (j := t) X rfl hu hx ht (by decide) dX0_put_45 ?_
      refine k_aload_n X 0 dX0_put_46 rfl rfl ?_
      refine gt_X0_15 X hu dX0_put_47 ?_
      refine k_iload_n X 1 dX0_put_50 rfl rfl ?_
      refine k_iload_n X 3 dX0_put_51 rfl rfl ?_
      refine k_iast (a := 8) (j := t) X rfl hu hx ht (by decide) dX0_put_52 ?_
      refine k_aload_n X 0 dX0_put_53 rfl rfl ?_
      refine gt_X0_18 X hu dX0_put_54 ?_
      refine k_iload_n X 1 dX0_put_57 rfl rfl ?_
      refine k_iload X 4 dX0_put_58 rfl ?_
      refine k_iast (a := 9) (j := t) X rfl hu hx ht (by decide) dX0_put_60 ?_
      exact k_vret dX0_put_61 hE (by unfold puM; rw [if_neg (fun h => absurd h.2 (by omega))])
    · subst hx
      refine k_aload_n X 0 dX0_put_19 rfl rfl ?_
      refine gt_X0_21 X hu dX0_put_20 ?_
      refine k_aload_n X 0 dX0_put_23 rfl rfl ?_
      refine gt_X0_24 X hu dX0_put_24 ?_
      refine k_val (y := nI m) hm ?_
      refine k_iload_n X 1 dX0_put_27 rfl rfl ?_
      refine k_iast (a := 10) (j := m) X rfl hu rfl (show m < 16 by omega) (by decide) dX0_put_28 ?_
      refine k_aload_n X 0 dX0_put_29 rfl rfl ?_
      refine k_dup X dX0_put_30 rfl ?_
      refine gt_X0_24 X hu dX0_put_31 ?_
      refine k_val (y := nI m) (by simp [st, hm]) ?_
      refine k_iconst X 1 dX0_put_34 (by decide) ?_
      refine k_iadd X dX0_put_35 ?_
      refine k_val (y := nI (m + 1)) (nI_1 m) ?_
      refine pt_X0_24 X hu dX0_put_36 ?_
      refine k_aload_n X 0 dX0_put_39 rfl rfl ?_
      refine gt_X0_9 X hu dX0_put_40 ?_
      refine k_iload_n X 1 dX0_put_43 rfl rfl ?_
      refine k_iload_n X 2 dX0_put_44 rfl rfl ?_
      refine k_iast (a := 7) (j := t) X rfl hu rfl ht (by decide) dX0_put_45 ?_
      refine k_aload_n X 0 dX0_put_46 rfl rfl ?_
      refine gt_X0_15 X hu dX0_put_47 ?_
      refine k_iload_n X 1 dX0_put_50 rfl rfl ?_
      refine k_iload_n X 3 dX0_put_51 rfl rfl ?_
      refine k_iast (a := 8) (j := t) X rfl hu rfl ht (by decide) dX0_put_52 ?_
      refine k_aload_n X 0 dX0_put_53 rfl rfl ?_
      refine gt_X0_18 X hu dX0_put_54 ?_
      refine k_iload_n X 1 dX0_put_57 rfl rfl ?_
      refine k_iload X 4 dX0_put_58 rfl ?_
      refine k_iast (a := 9) (j := t) X rfl hu rfl ht (by decide) dX0_put_60 ?_
      exact k_vret dX0_put_61 hE (by unfold puM; rw [if_pos ⟨c7, c16⟩])
