/-! a step of the law answers true -/
theorem C_step {E : EE} {K t q w a b : Nat} {μ : Mem} (h : JX K t q μ) (hw : w < 2 ^ 31) (ha : a < 2 ^ 31) (hb : b < 2 ^ 31) (ht : t + 60 < 2 ^ 20) (hq : q < 1000) : ∃ μ' K' t' q', MM E yL_step cL_step 7 (some .boolean) (rm 11 0) [.ref (ad E 0 0), .ref (ad E 16 0), .int (nI w), .int (nI a), .int (nI b)] μ (some (.int 1)) μ' ∧ t' ≤ t + 60 ∧ q' ≤ q + 1 ∧ JX K' t' q' μ' := by
  have hK := h.1.1
  have hk := h.2.2.1
  have hKz : nI K = 0 ↔ K = 0 := by
    rw [show (0 : Int32) = nI 0 by decide]
    exact nI_eq (by omega) (by decide)
  obtain ⟨cl, hcl, hcK⟩ : ∃ cl, cl = (if K = 0 then 0 else a % K) ∧ (¬ K = 0 → cl < K) := ⟨_, rfl, fun z => by rw [if_neg z]; exact Nat.mod_lt _ (by omega)⟩
  have h0 : nI K = 0 → nI 0 = nI cl := fun z => by rw [hcl, if_pos (hKz.mp z)]
  have h1 : ¬ nI K = 0 → nI a - nI a / nI K * nI K = nI cl := fun z => by
    have z' : ¬ K = 0 := fun y => z (hKz.mpr y)
    rw [hcl, if_neg z']
    exact pk_rem ha (by omega) (by omega)
  have hz : ∀ n, n < 2 ^ 31 → (nI n = 0 ↔ n = 0) := fun n hn => by
    rw [show (0 : Int32) = nI 0 by decide]
    exact nI_eq hn (by decide)
  have hu : a % 6 < 6 := Nat.mod_lt _ (by decide)
  rcases (show w % 15 < 5 ∨ (5 ≤ w % 15 ∧ w % 15 < 8) ∨ (8 ≤ w % 15 ∧ w % 15 < 12) ∨ w % 15 = 12 ∨ 13 ≤ w % 15 by omega) with g | g | g | g | g
  · have h3 : nI (b % 3) = 0 ↔ b % 3 = 0 := hz _ (by omega)
    have h7 : nI (a % 7) = 0 ↔ a % 7 = 0 := hz _ (by omega)
    have h2 : nI (a % 2) = 0 ↔ a % 2 = 0 := hz _ (by omega)
    obtain ⟨tg, e1, e2⟩ : ∃ tg, tg = (if b % 3 = 0 then 10 + b / 3 % 6 else b / 3 % 10) ∧ tg < 16 := ⟨_, rfl, by split <;> omega⟩
    obtain ⟨T, e3, e4⟩ : ∃ T, T = (if a % 7 = 0 then 0 else if a % 2 = 0 then 1 + b % 1000 else 1 + b % 40) ∧ T ≤ 1000 := ⟨_, rfl, by split; omega; split <;> omega⟩
    obtain ⟨μ', q', g1, g2, g3⟩ := C_registers (E := E) h hu e2 (show b / 30 % 4 ≤ 10 by omega) e4 hq
    refine ⟨μ', K, t, q', C_L_step_r K w a b cl hw ha hb hk h0 h1 g tg (b / 30 % 4) T (fun z => ?_) (fun z => ?_) rfl (fun z => ?_) (fun z y => ?_) (fun z y => ?_) μ' g1, by omega, g2, g3⟩
    · rw [e1, if_neg (fun y => z (h3.mpr y))]
    · rw [e1, if_pos (h3.mp z)]
    · rw [e3, if_pos (h7.mp z)]
    · rw [e3, if_neg (fun x => z (h7.mpr x)), if_neg (fun x => y (h2.mpr x))]
    · rw [e3, if_neg (fun x => z (h7.mpr x)), if_pos (h2.mp y)]
  · have h12 : nI K = nI 12 ↔ K = 12 := nI_eq (by omega) (by decide)
    by_cases z : K = 12
    · exact ⟨μ, K, t, q, C_L_step_c K w a b cl hw ha hb hk h0 h1 g μ (fun _ => rfl) (fun y => absurd (h12.mpr z) y), by omega, by omega, h⟩
    · obtain ⟨μ', g1, g2⟩ := C_calls (E := E) h (by omega) hu
      exact ⟨μ', K + 1, t, q, C_L_step_c K w a b cl hw ha hb hk h0 h1 g μ' (fun y => absurd (h12.mp y) z) (fun _ => g1), by omega, by omega, g2⟩
  · have h4 : nI (b % 4) = 0 ↔ b % 4 = 0 := hz _ (by omega)
    have h41 : nI (b % 4) = nI 1 ↔ b % 4 = 1 := nI_eq (by omega) (by decide)
    have h3 : nI (b % 3) = 0 ↔ b % 3 = 0 := hz _ (by omega)
    obtain ⟨x, e1, e2⟩ : ∃ x : Int32, x = (if b % 4 = 0 then 180 else if b % 4 = 1 then nI (200 + b / 96 % 100) else if b % 3 = 0 then nI (300 + b / 96 % 400) else nI (300 + b / 96 % 300)) ∧ (x = 180 ∨ (200 ≤ x ∧ ¬ 699 < x)) := by
      have hin : ∀ y, 200 ≤ y → y ≤ 699 → (200 ≤ nI y ∧ ¬ 699 < nI y) := fun y y1 y2 => ⟨(nI_leI (a := 200) (by decide) (by omega)).mpr y1, fun y3 => by have := (nI_ltI (a := 699) (by decide) (by omega)).mp y3; omega⟩
      refine ⟨_, rfl, ?_⟩
      split
      · exact Or.inl rfl
      · right
        split
        · exact hin _ (by omega) (by omega)
        · split
          · exact hin _ (by omega) (by omega)
          · exact hin _ (by omega) (by omega)
    have f0 : nI (b % 4) = 0 → 180 = x := fun z => by rw [e1, if_pos (h4.mp z)]
    have f1 : ¬ nI (b % 4) = 0 → nI (b % 4) = nI 1 → nI (200 + b / 96 % 100) = x := fun z y => by rw [e1, if_neg (fun w => z (h4.mpr w)), if_pos (h41.mp y)]
    have f2 : ¬ nI (b % 4) = 0 → ¬ nI (b % 4) = nI 1 → nI (b % 3) = 0 → nI (300 + b / 96 % 400) = x := fun z y v => by rw [e1, if_neg (fun w => z (h4.mpr w)), if_neg (fun w => y (h41.mpr w)), if_pos (h3.mp v)]
    have f3 : ¬ nI (b % 4) = 0 → ¬ nI (b % 4) = nI 1 → ¬ nI (b % 3) = 0 → nI (300 + b / 96 % 300) = x := fun z y v => by rw [e1, if_neg (fun w => z (h4.mpr w)), if_neg (fun w => y (h41.mpr w)), if_neg (fun w => v (h3.mpr w))]
    by_cases z : K = 0
    · exact ⟨μ, K, t, q, C_L_step_a K w a b cl hw ha hb hk h0 h1 g x f0 f1 f2 f3 μ (fun _ => rfl) (fun y => absurd (hKz.mpr z) y), by omega, by omega, h⟩
    · obtain ⟨μ', g1, g2⟩ := C_answers (E := E) (aa := b / 8 % 12) h (hcK z) (by omega) e2
      exact ⟨μ', K, t, q, C_L_step_a K w a b cl hw ha hb hk h0 h1 g x f0 f1 f2 f3 μ' (fun y => absurd (hKz.mp y) z) (fun _ => g1), by omega, by omega, g2⟩
  · by_cases z : nI K = 0 ∨ 0 < nI (b % 3)
    · exact ⟨μ, K, t, q, C_L_step_x K w a b cl hw ha hb hk h0 h1 g μ (fun _ => rfl) (fun y v => absurd z (fun w => w.elim y v)), by omega, by omega, h⟩
    · obtain ⟨μ', g1, g2⟩ := C_cancels (E := E) h (hcK (fun y => z (Or.inl (hKz.mpr y))))
      exact ⟨μ', K, t, q, C_L_step_x K w a b cl hw ha hb hk h0 h1 g μ' (fun y => absurd y z) (fun _ _ => g1), by omega, by omega, g2⟩
  · have h3 : nI (a % 3) = 0 ↔ a % 3 = 0 := hz _ (by omega)
    obtain ⟨T, e1, e2, e3⟩ : ∃ T, T = (if a % 3 = 0 then 1 + b % 60 else 1 + b % 7) ∧ 1 ≤ T ∧ T ≤ 60 := ⟨_, rfl, by split <;> omega, by split <;> omega⟩
    obtain ⟨μ', g1, g2⟩ := C_passes (E := E) h e2 e3 (by omega)
    refine ⟨μ', K, t + T, q, C_L_step_p K w a b cl hw ha hb hk h0 h1 g T (fun z => ?_) (fun z => ?_) μ' g1, by omega, by omega, g2⟩
    · rw [e1, if_neg (fun y => z (h3.mpr y))]
    · rw [e1, if_pos (h3.mp z)]

set_option maxHeartbeats 4000000 in
set_option maxRecDepth 100000 in
theorem L1_L_law {E : EE} {C : Ctx} (K t q n9 k9 : Nat) {b LL kc sc : Nat} {xs : Nat → Int32} (hX : va_X b LL xs (cs C) (cs C).heap) (hbl : b < (cs C).heap.size) (hbA : ¬ cA C b) (hL : LL ≤ 260) (hkc : kc ≤ 600086 ∧ sc ≤ 7301442) (X : Cx E C cL_law RL 9 room_1) (hx : ∀ μ : Mem, JX K t q μ → KF E C kc sc μ 184 [(3, .int (nI 1)), (4, .int (nI n9)), (5, .int (nI k9)), (0, .ref b), (1, .ref (ad E 0 0)), (2, .ref (ad E 16 0))] []) : ∀ (f : Nat) (i : Nat) (μ : Mem), K - i < f → i ≤ K → JX K t q μ → KF E C kc sc μ 158 [(8, .int (nI i)), (3, .int (nI 1)), (4, .int (nI n9)), (5, .int (nI k9)), (0, .ref b), (1, .ref (ad E 0 0)), (2, .ref (ad E 16 0))] [] := by
  intro f
  induction f with
  | zero => intros; omega
  | succ f ih =>
    intro i μ hf hi h
    have hk := h.2.2.1
    have hK := h.1.1
    refine k_iload X 0 dL_law_158 rfl ?_
    refine k_aload_n X 6 dL_law_160 rfl rfl ?_
    refine k_iconst X (nI 1) dL_law_161 (by decide) ?_
    refine k_iald (a := 16) (j := 1) X rfl (by decide) rfl (show 1 < 14 by omega) (by decide) dL_law_162 ?_
    refine k_val (y := nI K) hk ?_
    refine k_ge_n (a := i) (b := K) (tgt := 184) X dL_law_163 (by decide) rfl rfl (by omega) (by omega) (fun c163 => ?_) (fun c163 => ?_)
    · refine k_pick (L' := [(3, .int (nI 1)), (4, .int (nI n9)), (5, .int (nI k9)), (0, .ref b), (1, .ref (ad E 0 0)), (2, .ref (ad E 16 0))]) [1, 2, 3, 4, 5, 6] rfl ?_
      exact hx μ h
    · refine k_iload_n X 1 dL_law_166 rfl rfl ?_
      refine k_if_eq_f (tgt := 184) X dL_law_167 (by decide) (by decide) ?_
      obtain ⟨μ', hm, hj⟩ := C_isCall (E := E) h c163
      refine k_aload_n X 5 dL_law_170 rfl rfl ?_
      refine k_aload_n X 6 dL_law_171 rfl rfl ?_
      refine k_iload X 0 dL_law_172 rfl ?_
      refine k_callS (As := [.ref (ad E 0 0), .ref (ad E 16 0), .int (nI i)]) (S := []) X lk_L_96 hm rfl rfl (Nat.le_of_ble_eq_true rfl) ⟨Nat.le_of_ble_eq_true rfl, Nat.le_of_ble_eq_true rfl⟩ ⟨(by show kc + 0 ≤ 600086; omega), (by show sc + 0 ≤ 7301442; omega)⟩ dL_law_174 ?_
      show KF E C kc sc μ' 177 _ [.int (nI 1)]
      refine k_istore_n (L' := [(3, .int (nI 1)), (8, .int (nI i)), (4, .int (nI n9)), (5, .int (nI k9)), (0, .ref b), (1, .ref (ad E 0 0)), (2, .ref (ad E 16 0))]) X dL_law_177 rfl (by decide) rfl ?_
      refine k_iinc (v := nI (i + 1)) (L' := [(8, .int (nI (i + 1))), (3, .int (nI 1)), (4, .int (nI n9)), (5, .int (nI k9)), (0, .ref b), (1, .ref (ad E 0 0)), (2, .ref (ad E 16 0))]) X 1 dL_law_178 rfl (nI_1 i) (by decide) rfl ?_
      refine k_goto (tgt := 158) X dL_law_181 (by decide) ?_
      exact ih (i + 1) μ' (by omega) (by omega) hj

set_option maxHeartbeats 4000000 in
set_option maxRecDepth 100000 in
theorem L2_L_law {E : EE} {C : Ctx} (n9 : Nat) (hn9 : n9 ≤ 80) {b LL kc sc : Nat} {xs : Nat → Int32} (hX : va_X b LL xs (cs C) (cs C).heap) (hbl : b < (cs C).heap.size) (hbA : ¬ cA C b) (hL : LL ≤ 260) (hkc : kc ≤ 600086 ∧ sc ≤ 7301442) (h39 : 3 * n9 ≤ LL) (X : Cx E C cL_law RL 9 room_1) (hx : ∀ μ : Mem, KF E C kc sc μ 190 [(3, .int (nI 1))] []) : ∀ (f : Nat) (i : Nat) (μ : Mem) (K t q : Nat), n9 - i < f → i ≤ n9 → t ≤ 60 * i → q ≤ i → JX K t q μ → KF E C kc sc μ 73 [(5, .int (nI i)), (4, .int (nI n9)), (3, .int (nI 1)), (0, .ref b), (1, .ref (ad E 0 0)), (2, .ref (ad E 16 0))] [] := by
  intro f
  induction f with
  | zero => intros; omega
  | succ f ih =>
    intro i μ K t q hf hi ht hq h
    refine k_iload X 0 dL_law_73 rfl ?_
    refine k_iload X 1 dL_law_75 rfl ?_
    refine k_ge_n (a := i) (b := n9) (tgt := 190) X dL_law_77 (by decide) rfl rfl (by omega) (by omega) (fun c77 => ?_) (fun c77 => ?_)
    · refine k_pick (L' := [(3, .int (nI 1))]) [2] rfl ?_
      exact hx μ
    · refine k_iload_n X 2 dL_law_80 rfl rfl ?_
      refine k_if_eq_f (tgt := 190) X dL_law_81 (by decide) (by decide) ?_
      refine k_aload_n X 3 dL_law_84 rfl rfl ?_
      refine k_iconst X (nI 3) dL_law_85 (by decide) ?_
      refine k_iload X 0 dL_law_86 rfl ?_
      refine k_imul X dL_law_88 ?_
      refine k_val (y := nI (3 * i)) (pk_mul _ _) ?_
      refine k_iconst X (nI 1) dL_law_89 (by decide) ?_
      refine k_iadd X dL_law_90 ?_
      refine k_val (y := nI ((3 * i) + 1)) (nI_add _ _) ?_
      refine k_draw (j := 3 * i + 1) X hX hbl hbA (by omega) (by omega) (by simp [Value.category]) ⟨by decide, by decide⟩ ⟨hkc.1, hkc.2⟩ dL_law_91 ?_
      refine k_istore (L' := [(6, .int (nI (dw xs (3 * i + 1)))), (5, .int (nI i)), (4, .int (nI n9)), (3, .int (nI 1)), (0, .ref b), (1, .ref (ad E 0 0)), (2, .ref (ad E 16 0))]) X dL_law_94 (by decide) rfl ?_
      refine k_aload_n X 4 dL_law_96 rfl rfl ?_
      refine k_iconst X (nI 3) dL_law_97 (by decide) ?_
      refine k_iload X 1 dL_law_98 rfl ?_
      refine k_imul X dL_law_100 ?_
      refine k_val (y := nI (3 * i)) (pk_mul _ _) ?_
      refine k_iconst X (nI 2) dL_law_101 (by decide) ?_
      refine k_iadd X dL_law_102 ?_
      refine k_val (y := nI ((3 * i) + 2)) (nI_add _ _) ?_
      refine k_draw (j := 3 * i + 2) X hX hbl hbA (by omega) (by omega) (by simp [Value.category]) ⟨by decide, by decide⟩ ⟨hkc.1, hkc.2⟩ dL_law_103 ?_
      refine k_istore (L' := [(7, .int (nI (dw xs (3 * i + 2)))), (6, .int (nI (dw xs (3 * i + 1)))), (5, .int (nI i)), (4, .int (nI n9)), (3, .int (nI 1)), (0, .ref b), (1, .ref (ad E 0 0)), (2, .ref (ad E 16 0))]) X dL_law_106 (by decide) rfl ?_
      refine k_aload_n X 6 dL_law_108 rfl rfl ?_
      refine k_aload_n X 7 dL_law_109 rfl rfl ?_
      refine k_aload_n X 5 dL_law_110 rfl rfl ?_
      refine k_iconst X (nI 3) dL_law_111 (by decide) ?_
      refine k_iload X 2 dL_law_112 rfl ?_
      refine k_imul X dL_law_114 ?_
      refine k_val (y := nI (3 * i)) (pk_mul _ _) ?_
      refine k_draw (j := 3 * i) X hX hbl hbA (by omega) (by omega) (by simp [Value.category]) ⟨by decide, by decide⟩ ⟨hkc.1, hkc.2⟩ dL_law_115 ?_
      refine k_iload X 1 dL_law_118 rfl ?_
      refine k_iload X 0 dL_law_120 rfl ?_
      obtain ⟨μ', K', t', q', hm, hm1, hm2, hj⟩ := C_step (E := E) h (dw_lt xs (3 * i)) (dw_lt xs (3 * i + 1)) (dw_lt xs (3 * i + 2)) (by omega) (by omega)
      have hw2 := dw_lt xs (3 * i + 2)
      refine k_callS (As := [.ref (ad E 0 0), .ref (ad E 16 0), .int (nI (dw xs (3 * i))), .int (nI (dw xs (3 * i + 1))), .int (nI (dw xs (3 * i + 2)))]) (S := []) X lk_L_93 hm rfl rfl (Nat.le_of_ble_eq_true rfl) ⟨Nat.le_of_ble_eq_true rfl, Nat.le_of_ble_eq_true rfl⟩ ⟨(by show kc + 0 ≤ 600086; omega), (by show sc + 0 ≤ 7301442; omega)⟩ dL_law_122 ?_
      show KF E C kc sc μ' 125 _ [.int (nI 1)]
      refine k_if_eq_f (tgt := 153) X dL_law_125 (by decide) (by decide) ?_
      refine k_aload_n X 6 dL_law_128 rfl rfl ?_
      refine k_iload X 0 dL_law_129 rfl ?_
      refine k_bipush X (nI 10) dL_law_131 (by decide) ?_
      refine k_irem X dL_law_133 (by decide) ?_
      refine k_val (y := nI ((dw xs (3 * i + 2)) % 10)) (pk_rem (by omega) (by omega) (by omega)) ?_
      refine k_callV (a := 0) (o := 0) (As := [.int (nI ((dw xs (3 * i + 2)) % 10))]) (S := []) X lk_L_79 rfl (by decide) rfl (N_hungUp (dw xs (3 * i + 2) % 10) (by omega)) rfl rfl (Nat.le_of_ble_eq_true rfl) ⟨Nat.le_of_ble_eq_true rfl, Nat.le_of_ble_eq_true rfl⟩ ⟨(by show kc + 0 ≤ 600086; omega), (by show sc + 0 ≤ 7301442; omega)⟩ dL_law_134 ?_
      show KF E C kc sc μ' 137 _ [.int (μ' 3 0 (dw xs (3 * i + 2) % 10))]
      refine k_aload_n X 7 dL_law_137 rfl rfl ?_
      refine k_iconst X (nI 4) dL_law_138 (by decide) ?_
      refine k_iload X 0 dL_law_139 rfl ?_
      refine k_bipush X (nI 10) dL_law_141 (by decide) ?_
      refine k_irem X dL_law_143 (by decide) ?_
      refine k_val (y := nI ((dw xs (3 * i + 2)) % 10)) (pk_rem (by omega) (by omega) (by omega)) ?_
      refine k_iadd X dL_law_144 ?_
      refine k_val (y := nI (4 + ((dw xs (3 * i + 2)) % 10))) (nI_add _ _) ?_
      refine k_iald (a := 16) (j := (4 + ((dw xs (3 * i + 2)) % 10))) X rfl (by decide) rfl (show (4 + ((dw xs (3 * i + 2)) % 10)) < 14 by omega) (by decide) dL_law_145 ?_
      refine k_icmp_ne_f (tgt := 153) X dL_law_146 (by decide) (hj.2.2.2.2.1 (dw xs (3 * i + 2) % 10) (by omega)).symm ?_
      refine k_iconst X (nI 1) dL_law_149 (by decide) ?_
      refine k_goto (tgt := 154) X dL_law_150 (by decide) ?_
      refine k_istore_n (L' := [(3, .int (nI 1)), (7, .int (nI (dw xs (3 * i + 2)))), (6, .int (nI (dw xs (3 * i + 1)))), (5, .int (nI i)), (4, .int (nI n9)), (0, .ref b), (1, .ref (ad E 0 0)), (2, .ref (ad E 16 0))]) X dL_law_154 rfl (by decide) rfl ?_
      refine k_iconst X (nI 0) dL_law_155 (by decide) ?_
      refine k_istore (L' := [(8, .int (nI 0)), (3, .int (nI 1)), (7, .int (nI (dw xs (3 * i + 2)))), (6, .int (nI (dw xs (3 * i + 1)))), (5, .int (nI i)), (4, .int (nI n9)), (0, .ref b), (1, .ref (ad E 0 0)), (2, .ref (ad E 16 0))]) X dL_law_156 (by decide) rfl ?_
      refine k_pick (L' := [(8, .int (nI 0)), (3, .int (nI 1)), (4, .int (nI n9)), (5, .int (nI i)), (0, .ref b), (1, .ref (ad E 0 0)), (2, .ref (ad E 16 0))]) [0, 1, 5, 4, 6, 7, 8] rfl ?_
      refine L1_L_law K' t' q' n9 i hX hbl hbA hL hkc X (fun μ2 hj2 => ?_) (K' + 1) 0 μ' (by omega) (Nat.zero_le _) hj
      refine k_iinc (v := nI (i + 1)) (L' := [(5, .int (nI (i + 1))), (3, .int (nI 1)), (4, .int (nI n9)), (0, .ref b), (1, .ref (ad E 0 0)), (2, .ref (ad E 16 0))]) X 2 dL_law_184 rfl (nI_1 i) (by decide) rfl ?_
      refine k_goto (tgt := 73) X dL_law_187 (by decide) ?_
      refine k_pick (L' := [(5, .int (nI (i + 1))), (4, .int (nI n9)), (3, .int (nI 1)), (0, .ref b), (1, .ref (ad E 0 0)), (2, .ref (ad E 16 0))]) [0, 2, 1, 3, 4, 5] rfl ?_
      exact ih (i + 1) μ2 K' t' q' (by omega) (by omega) (by omega) (by omega) hj2
