/-! registers -/
def pP (f : Nat → Nat) (tg : Nat) : Nat → Bool := fun k => decide (nI (f k) = nI tg)
theorem dv100 {a b : Nat} (ha : a < 16) (hb : b ≤ 10) : nI (100 * a + b) / nI 100 = nI a := by
  rw [pk_div (by omega) (by decide) (by decide)]
  congr 1
  omega
theorem sb1 (q : Nat) : nI (q + 1) - nI 1 = nI q := by rw [pk_sub (by omega)]; rfl

set_option maxHeartbeats 4000000 in
set_option maxRecDepth 100000 in
theorem L_L_registers {E : EE} {μ : Mem} {C : Ctx} (u tg Q T th : Nat) (fT gT : Nat → Nat) (hth : th ≤ 6) (hfg : ∀ k, k < th → fT k < 16 ∧ gT k ≤ 10) (hbd : ∀ k, k < th → MM E yX2_binding cX2_binding 5 (some .int) (rm 3 0) [.ref (ad E 0 0), .int (nI u), .int (nI k)] μ (some (.int (nI (100 * fT k + gT k)))) μ) (X : Cx E C cL_registers RL 10 (rm 5 0)) (hx : KF E C 0 0 μ 49 [(7, .int (laI (pP fT tg) th)), (6, .int (nI th)), (0, .ref (ad E 0 0)), (1, .ref (ad E 16 0)), (2, .int (nI u)), (3, .int (nI tg)), (4, .int (nI Q)), (5, .int (nI T))] []) : ∀ (f : Nat) (i : Nat), th - i < f → i ≤ th → KF E C 0 0 μ 13 [(8, .int (nI i)), (7, .int (laI (pP fT tg) i)), (6, .int (nI th)), (0, .ref (ad E 0 0)), (1, .ref (ad E 16 0)), (2, .int (nI u)), (3, .int (nI tg)), (4, .int (nI Q)), (5, .int (nI T))] [] := by
  intro f
  induction f with
  | zero => intros; omega
  | succ f ih =>
    intro i hf hi
    refine k_iload X 0 dL_registers_13 rfl ?_
    refine k_iload X 2 dL_registers_15 rfl ?_
    refine k_ge_n (a := i) (b := th) (tgt := 49) X dL_registers_17 (by decide) rfl rfl (by omega) (by omega) (fun c17 => ?_) (fun c17 => ?_)
    · obtain rfl : i = th := by omega
      refine k_pick (L' := [(7, .int (laI (pP fT tg) i)), (6, .int (nI i)), (0, .ref (ad E 0 0)), (1, .ref (ad E 16 0)), (2, .int (nI u)), (3, .int (nI tg)), (4, .int (nI Q)), (5, .int (nI T))]) [1, 2, 3, 4, 5, 6, 7, 8] rfl ?_
      exact hx
    · refine k_aload_n X 3 dL_registers_20 rfl rfl ?_
      refine k_iload_n X 5 dL_registers_21 rfl rfl ?_
      refine k_iload X 0 dL_registers_22 rfl ?_
      refine k_callV (a := 0) (o := 0) (As := [.int (nI u), .int (nI i)]) (S := []) X lk_L_36 rfl (by decide) rfl (hbd i c17) rfl rfl (Nat.le_of_ble_eq_true rfl) ⟨Nat.le_of_ble_eq_true rfl, Nat.le_of_ble_eq_true rfl⟩ ⟨Nat.le_of_ble_eq_true rfl, Nat.le_of_ble_eq_true rfl⟩ dL_registers_24 ?_
      show KF E C 0 0 μ 27 _ [.int (nI (100 * fT i + gT i))]
      refine k_bipush X (nI 100) dL_registers_27 (by decide) ?_
      refine k_idiv X dL_registers_29 (by decide) ?_
      refine k_val (y := nI (fT i)) (dv100 (hfg i c17).1 (hfg i c17).2) ?_
      refine k_iload_n X 6 dL_registers_30 rfl rfl ?_
      refine k_icmp_ne (tgt := 39) X dL_registers_31 (by decide) (fun c31 => ?_) (fun c31 => ?_)
      · refine k_iload X 1 dL_registers_39 rfl ?_
        refine k_val (y := laI (pP fT tg) (i + 1)) (laI_f (p := pP fT tg) (decide_eq_false c31)).symm ?_
        refine k_istore (L' := [(7, .int (laI (pP fT tg) (i + 1))), (8, .int (nI i)), (6, .int (nI th)), (0, .ref (ad E 0 0)), (1, .ref (ad E 16 0)), (2, .int (nI u)), (3, .int (nI tg)), (4, .int (nI Q)), (5, .int (nI T))]) X dL_registers_41 (by decide) rfl ?_
        refine k_iinc (v := nI (i + 1)) (L' := [(8, .int (nI (i + 1))), (7, .int (laI (pP fT tg) (i + 1))), (6, .int (nI th)), (0, .ref (ad E 0 0)), (1, .ref (ad E 16 0)), (2, .int (nI u)), (3, .int (nI tg)), (4, .int (nI Q)), (5, .int (nI T))]) X 1 dL_registers_43 rfl (nI_1 i) (by decide) rfl ?_
        refine k_goto (tgt := 13) X dL_registers_46 (by decide) ?_
        exact ih (i + 1) (by omega) (by omega)
      · refine k_iload X 0 dL_registers_34 rfl ?_
        refine k_goto (tgt := 41) X dL_registers_36 (by decide) ?_
        refine k_val (y := laI (pP fT tg) (i + 1)) (laI_t (p := pP fT tg) (decide_eq_true c31)).symm ?_
        refine k_istore (L' := [(7, .int (laI (pP fT tg) (i + 1))), (8, .int (nI i)), (6, .int (nI th)), (0, .ref (ad E 0 0)), (1, .ref (ad E 16 0)), (2, .int (nI u)), (3, .int (nI tg)), (4, .int (nI Q)), (5, .int (nI T))]) X dL_registers_41 (by decide) rfl ?_
        refine k_iinc (v := nI (i + 1)) (L' := [(8, .int (nI (i + 1))), (7, .int (laI (pP fT tg) (i + 1))), (6, .int (nI th)), (0, .ref (ad E 0 0)), (1, .ref (ad E 16 0)), (2, .int (nI u)), (3, .int (nI tg)), (4, .int (nI Q)), (5, .int (nI T))]) X 1 dL_registers_43 rfl (nI_1 i) (by decide) rfl ?_
        refine k_goto (tgt := 13) X dL_registers_46 (by decide) ?_
        exact ih (i + 1) (by omega) (by omega)

set_option maxHeartbeats 4000000 in
set_option maxRecDepth 100000 in
theorem C_L_registers_s {E : EE} {μ : Mem} (u tg Q T th : Nat) (fT gT : Nat → Nat) (hth : th ≤ 6) (hfg : ∀ k, k < th → fT k < 16 ∧ gT k ≤ 10) (hbd : ∀ k, k < th → MM E yX2_binding cX2_binding 5 (some .int) (rm 3 0) [.ref (ad E 0 0), .int (nI u), .int (nI k)] μ (some (.int (nI (100 * fT k + gT k)))) μ) (hb0 : MM E yX2_bindings cX2_bindings 2 (some .int) (rm 4 0) [.ref (ad E 0 0), .int (nI u)] μ (some (.int (nI th))) μ) (q : Nat) (hq : μ 16 0 2 = nI q) (hq2 : ¬ 10000 < nI q) (hT : ¬ nI T ≤ 0) (hP : laI (pP fT tg) th = -1) (h6 : nI th = nI 6) : MM E yL_registers cL_registers 10 (some .boolean) (rm 5 0) [.ref (ad E 0 0), .ref (ad E 16 0), .int (nI u), .int (nI tg), .int (nI Q), .int (nI T)] μ (some (.int 1)) μ := by
  refine MM.int (own := RL) [(0, .ref (ad E 0 0)), (1, .ref (ad E 16 0)), (2, .int (nI u)), (3, .int (nI tg)), (4, .int (nI Q)), (5, .int (nI T))] rfl rfl rfl (Nat.le_of_ble_eq_true rfl) rfl (fun C X hE => ?_)
  have k_49 : KF E C 0 0 μ 49 [(7, .int (laI (pP fT tg) th)), (6, .int (nI th)), (0, .ref (ad E 0 0)), (1, .ref (ad E 16 0)), (2, .int (nI u)), (3, .int (nI tg)), (4, .int (nI Q)), (5, .int (nI T))] [] := by
    refine k_aload_n X 3 dL_registers_49 rfl rfl ?_
    refine k_iconst X (nI 2) dL_registers_50 (by decide) ?_
    refine k_iald (a := 16) (j := 2) X rfl (by decide) rfl (show 2 < 14 by omega) (by decide) dL_registers_51 ?_
    refine k_val (y := nI q) hq ?_
    refine k_sipush X 10000 dL_registers_52 (by decide) ?_
    refine k_icmp_gt_f (tgt := 76) X dL_registers_55 (by decide) hq2 ?_
    refine k_iload X 7 dL_registers_58 rfl ?_
    refine k_if_le_f (tgt := 89) X dL_registers_60 (by decide) hT ?_
    refine k_iload X 0 dL_registers_63 rfl ?_
    refine k_iconst X (-1) dL_registers_65 (by decide) ?_
    refine k_icmp_ne_f (tgt := 89) X dL_registers_66 (by decide) hP ?_
    refine k_iload X 1 dL_registers_69 rfl ?_
    refine k_bipush X (nI 6) dL_registers_71 (by decide) ?_
    refine k_icmp_ne_f (tgt := 89) X dL_registers_73 (by decide) h6 ?_
    refine k_iload X 1 dL_registers_76 rfl ?_
    refine k_bipush X (nI 6) dL_registers_78 (by decide) ?_
    refine k_icmp_gt_f (tgt := 87) X dL_registers_80 (by decide) (Int32.not_lt.mpr ((nI_leI (by omega) (by decide)).mpr hth)) ?_
    refine k_iconst X (nI 1) dL_registers_83 (by decide) ?_
    refine k_goto (tgt := 88) X dL_registers_84 (by decide) ?_
    exact k_iret dL_registers_88 hE (by decide) rfl
  refine k_aload_n X 0 dL_registers_0 rfl rfl ?_
  refine k_iload_n X 2 dL_registers_1 rfl rfl ?_
  refine k_callV (a := 0) (o := 0) (As := [.int (nI u)]) (S := []) X lk_L_30 rfl (by decide) rfl hb0 rfl rfl (Nat.le_of_ble_eq_true rfl) ⟨Nat.le_of_ble_eq_true rfl, Nat.le_of_ble_eq_true rfl⟩ ⟨Nat.le_of_ble_eq_true rfl, Nat.le_of_ble_eq_true rfl⟩ dL_registers_2 ?_
  show KF E C 0 0 μ 5 _ [.int (nI th)]
  refine k_istore (L' := [(6, .int (nI th)), (0, .ref (ad E 0 0)), (1, .ref (ad E 16 0)), (2, .int (nI u)), (3, .int (nI tg)), (4, .int (nI Q)), (5, .int (nI T))]) X dL_registers_5 (by decide) rfl ?_
  refine k_iconst X (-1) dL_registers_7 (by decide) ?_
  refine k_istore (L' := [(7, .int (-1)), (6, .int (nI th)), (0, .ref (ad E 0 0)), (1, .ref (ad E 16 0)), (2, .int (nI u)), (3, .int (nI tg)), (4, .int (nI Q)), (5, .int (nI T))]) X dL_registers_8 (by decide) rfl ?_
  refine k_iconst X (nI 0) dL_registers_10 (by decide) ?_
  refine k_istore (L' := [(8, .int (nI 0)), (7, .int (-1)), (6, .int (nI th)), (0, .ref (ad E 0 0)), (1, .ref (ad E 16 0)), (2, .int (nI u)), (3, .int (nI tg)), (4, .int (nI Q)), (5, .int (nI T))]) X dL_registers_11 (by decide) rfl ?_
  exact L_L_registers u tg Q T th fT gT hth hfg hbd X k_49 (th + 1) 0 (by omega) (Nat.zero_le th)

set_option maxHeartbeats 4000000 in
set_option maxRecDepth 100000 in
theorem C_L_registers_g {E : EE} {μ : Mem} (u tg Q T th : Nat) (fT gT : Nat → Nat) (hth : th ≤ 6) (hfg : ∀ k, k < th → fT k < 16 ∧ gT k ≤ 10) (hbd : ∀ k, k < th → MM E yX2_binding cX2_binding 5 (some .int) (rm 3 0) [.ref (ad E 0 0), .int (nI u), .int (nI k)] μ (some (.int (nI (100 * fT k + gT k)))) μ) (hb0 : MM E yX2_bindings cX2_bindings 2 (some .int) (rm 4 0) [.ref (ad E 0 0), .int (nI u)] μ (some (.int (nI th))) μ) (q : Nat) (hq : μ 16 0 2 = nI q) (hq2 : ¬ 10000 < nI q) (v : Nat) (μr : Mem) (hns : ¬ (¬ nI T ≤ 0 ∧ laI (pP fT tg) th = -1 ∧ nI th = nI 6)) (hT0 : nI T ≤ 0 → nI T = 0) (hT1 : ¬ nI T ≤ 0 → ¬ nI T = 0) (hA : nI T ≤ 0 → laI (pP fT tg) th = -1 → nI (th + 0) - nI 0 = nI v) (hB : nI T ≤ 0 → ¬ laI (pP fT tg) th = -1 → nI (th + 0) - nI 1 = nI v) (hC : ¬ nI T ≤ 0 → ¬ laI (pP fT tg) th = -1 → nI (th + 0) - nI 0 = nI v) (hD : ¬ nI T ≤ 0 → laI (pP fT tg) th = -1 → nI (th + 1) - nI 0 = nI v) (hreg : MM E yX2_register cX2_register 7 (some .int) (rm 4 0) [.ref (ad E 0 0), .int (nI u), .int (nI tg), .int (nI Q), .int (nI T), .int (nI q)] (st μ 16 0 2 (nI (q + 1))) (some (.int (nI v))) μr) (hb2 : MM E yX2_bindings cX2_bindings 2 (some .int) (rm 4 0) [.ref (ad E 0 0), .int (nI u)] μr (some (.int (nI v))) μr) (hb3 : ¬ nI T = 0 → ¬ laI (pP fT tg) th = -1 → MM E yX2_binding cX2_binding 5 (some .int) (rm 3 0) [.ref (ad E 0 0), .int (nI u), .int (laI (pP fT tg) th)] μr (some (.int (nI (100 * tg + Q)))) μr) : MM E yL_registers cL_registers 10 (some .boolean) (rm 5 0) [.ref (ad E 0 0), .ref (ad E 16 0), .int (nI u), .int (nI tg), .int (nI Q), .int (nI T)] μ (some (.int 1)) μr := by
  refine MM.int (own := RL) [(0, .ref (ad E 0 0)), (1, .ref (ad E 16 0)), (2, .int (nI u)), (3, .int (nI tg)), (4, .int (nI Q)), (5, .int (nI T))] rfl rfl rfl (Nat.le_of_ble_eq_true rfl) rfl (fun C X hE => ?_)
  have k_134 : KF E C 0 0 (st μ 16 0 2 (nI (q + 1))) 134 [(8, .int (nI v)), (7, .int (laI (pP fT tg) th)), (6, .int (nI th)), (0, .ref (ad E 0 0)), (1, .ref (ad E 16 0)), (2, .int (nI u)), (3, .int (nI tg)), (4, .int (nI Q)), (5, .int (nI T))] [] := by
    refine k_aload_n X 3 dL_registers_134 rfl rfl ?_
    refine k_iload_n X 5 dL_registers_135 rfl rfl ?_
    refine k_iload_n X 6 dL_registers_136 rfl rfl ?_
    refine k_iload X 7 dL_registers_137 rfl ?_
    refine k_iload X 8 dL_registers_139 rfl ?_
    refine k_aload_n X 4 dL_registers_141 rfl rfl ?_
    refine k_iconst X (nI 2) dL_registers_142 (by decide) ?_
    refine k_iald (a := 16) (j := 2) X rfl (by decide) rfl (show 2 < 14 by omega) (by decide) dL_registers_143 ?_
    refine k_val (y := nI (q + 1)) st_same ?_
    refine k_iconst X (nI 1) dL_registers_144 (by decide) ?_
    refine k_isub X dL_registers_145 ?_
    refine k_val (y := nI q) (sb1 q) ?_
    refine k_callV (a := 0) (o := 0) (As := [.int (nI u), .int (nI tg), .int (nI Q), .int (nI T), .int (nI q)]) (S := []) X lk_L_40 rfl (by decide) rfl hreg rfl rfl (Nat.le_of_ble_eq_true rfl) ⟨Nat.le_of_ble_eq_true rfl, Nat.le_of_ble_eq_true rfl⟩ ⟨Nat.le_of_ble_eq_true rfl, Nat.le_of_ble_eq_true rfl⟩ dL_registers_146 ?_
    show KF E C 0 0 μr 149 _ [.int (nI v)]
    refine k_iload X 0 dL_registers_149 rfl ?_
    refine k_icmp_ne_f (tgt := 168) X dL_registers_151 (by decide) rfl ?_
    refine k_aload_n X 3 dL_registers_154 rfl rfl ?_
    refine k_iload_n X 5 dL_registers_155 rfl rfl ?_
    refine k_callV (a := 0) (o := 0) (As := [.int (nI u)]) (S := []) X lk_L_30 rfl (by decide) rfl hb2 rfl rfl (Nat.le_of_ble_eq_true rfl) ⟨Nat.le_of_ble_eq_true rfl, Nat.le_of_ble_eq_true rfl⟩ ⟨Nat.le_of_ble_eq_true rfl, Nat.le_of_ble_eq_true rfl⟩ dL_registers_156 ?_
    show KF E C 0 0 μr 159 _ [.int (nI v)]
    refine k_iload X 0 dL_registers_159 rfl ?_
    refine k_icmp_ne_f (tgt := 168) X dL_registers_161 (by decide) rfl ?_
    refine k_iconst X (nI 1) dL_registers_164 (by decide) ?_
    refine k_goto (tgt := 169) X dL_registers_165 (by decide) ?_
    refine k_istore (L' := [(9, .int (nI 1)), (8, .int (nI v)), (7, .int (laI (pP fT tg) th)), (6, .int (nI th)), (0, .ref (ad E 0 0)), (1, .ref (ad E 16 0)), (2, .int (nI u)), (3, .int (nI tg)), (4, .int (nI Q)), (5, .int (nI T))]) X dL_registers_169 (by decide) rfl ?_
    refine k_iload X 0 dL_registers_171 rfl ?_
    refine k_if_eq_f (tgt := 208) X dL_registers_173 (by decide) (by decide) ?_
    refine k_iload X 9 dL_registers_176 rfl ?_
    refine k_if_eq (tgt := 204) X dL_registers_178 (by decide) (fun c178 => ?_) (fun c178 => ?_)
    · refine k_iconst X (nI 1) dL_registers_204 (by decide) ?_
      refine k_goto (tgt := 209) X dL_registers_205 (by decide) ?_
      exact k_iret dL_registers_209 hE (by decide) rfl
    · refine k_iload X 2 dL_registers_181 rfl ?_
      refine k_iconst X (-1) dL_registers_183 (by decide) ?_
      refine k_icmp_eq (tgt := 204) X dL_registers_184 (by decide) (fun c184 => ?_) (fun c184 => ?_)
      · refine k_iconst X (nI 1) dL_registers_204 (by decide) ?_
        refine k_goto (tgt := 209) X dL_registers_205 (by decide) ?_
        exact k_iret dL_registers_209 hE (by decide) rfl
      · refine k_aload_n X 4 dL_registers_187 rfl rfl ?_
        refine k_iload_n X 6 dL_registers_188 rfl rfl ?_
        refine k_iload X 2 dL_registers_189 rfl ?_
        refine k_callV (a := 0) (o := 0) (As := [.int (nI u), .int (laI (pP fT tg) th)]) (S := []) X lk_L_36 rfl (by decide) rfl (hb3 c178 c184) rfl rfl (Nat.le_of_ble_eq_true rfl) ⟨Nat.le_of_ble_eq_true rfl, Nat.le_of_ble_eq_true rfl⟩ ⟨Nat.le_of_ble_eq_true rfl, Nat.le_of_ble_eq_true rfl⟩ dL_registers_191 ?_
        show KF E C 0 0 μr 194 _ [.int (nI (100 * tg + Q))]
        refine k_bipush X (nI 100) dL_registers_194 (by decide) ?_
        refine k_iload_n X 7 dL_registers_196 rfl rfl ?_
        refine k_imul X dL_registers_197 ?_
        refine k_val (y := nI (100 * tg)) (pk_mul _ _) ?_
        refine k_iload X 8 dL_registers_198 rfl ?_
        refine k_iadd X dL_registers_200 ?_
        refine k_val (y := nI ((100 * tg) + Q)) (nI_add _ _) ?_
        refine k_icmp_ne_f (tgt := 208) X dL_registers_201 (by decide) rfl ?_
        refine k_iconst X (nI 1) dL_registers_204 (by decide) ?_
        refine k_goto (tgt := 209) X dL_registers_205 (by decide) ?_
        exact k_iret dL_registers_209 hE (by decide) rfl
  have k_49 : KF E C 0 0 μ 49 [(7, .int (laI (pP fT tg) th)), (6, .int (nI th)), (0, .ref (ad E 0 0)), (1, .ref (ad E 16 0)), (2, .int (nI u)), (3, .int (nI tg)), (4, .int (nI Q)), (5, .int (nI T))] [] := by
    refine k_aload_n X 3 dL_registers_49 rfl rfl ?_
    refine k_iconst X (nI 2) dL_registers_50 (by decide) ?_
    refine k_iald (a := 16) (j := 2) X rfl (by decide) rfl (show 2 < 14 by omega) (by decide) dL_registers_51 ?_
    refine k_val (y := nI q) hq ?_
    refine k_sipush X 10000 dL_registers_52 (by decide) ?_
    refine k_icmp_gt_f (tgt := 76) X dL_registers_55 (by decide) hq2 ?_
    refine k_iload X 7 dL_registers_58 rfl ?_
    refine k_if_le (tgt := 89) X dL_registers_60 (by decide) (fun c60 => ?_) (fun c60 => ?_)
    · refine k_aload_n X 3 dL_registers_89 rfl rfl ?_
      refine k_iconst X (nI 2) dL_registers_90 (by decide) ?_
      refine k_dup2 X dL_registers_91 rfl rfl ?_
      refine k_iald (a := 16) (j := 2) X rfl (by decide) rfl (show 2 < 14 by omega) (by decide) dL_registers_92 ?_
      refine k_val (y := nI q) hq ?_
      refine k_iconst X (nI 1) dL_registers_93 (by decide) ?_
      refine k_iadd X dL_registers_94 ?_
      refine k_val (y := nI (q + 1)) (nI_add _ _) ?_
      refine k_iast (a := 16) (j := 2) X rfl (by decide) rfl (show 2 < 14 by omega) (by decide) dL_registers_95 ?_
      refine k_iload X 1 dL_registers_96 rfl ?_
      refine k_iload X 7 dL_registers_98 rfl ?_
      refine k_if_le_t (tgt := 113) X dL_registers_100 (by decide) c60 ?_
      refine k_iconst X (nI 0) dL_registers_113 (by decide) ?_
      refine k_iadd X dL_registers_114 ?_
      refine k_val (y := nI (th + 0)) (nI_add _ _) ?_
      refine k_iload X 7 dL_registers_115 rfl ?_
      refine k_if_ne_f (tgt := 130) X dL_registers_117 (by decide) (hT0 c60) ?_
      refine k_iload X 0 dL_registers_120 rfl ?_
      refine k_iconst X (-1) dL_registers_122 (by decide) ?_
      refine k_icmp_eq (tgt := 130) X dL_registers_123 (by decide) (fun c123 => ?_) (fun c123 => ?_)
      · refine k_iconst X (nI 0) dL_registers_130 (by decide) ?_
        refine k_isub X dL_registers_131 ?_
        refine k_val (y := nI v) (hA c60 c123) ?_
        refine k_istore (L' := [(8, .int (nI v)), (7, .int (laI (pP fT tg) th)), (6, .int (nI th)), (0, .ref (ad E 0 0)), (1, .ref (ad E 16 0)), (2, .int (nI u)), (3, .int (nI tg)), (4, .int (nI Q)), (5, .int (nI T))]) X dL_registers_132 (by decide) rfl ?_
        exact k_134
      · refine k_iconst X (nI 1) dL_registers_126 (by decide) ?_
        refine k_goto (tgt := 131) X dL_registers_127 (by decide) ?_
        refine k_isub X dL_registers_131 ?_
        refine k_val (y := nI v) (hB c60 c123) ?_
        refine k_istore (L' := [(8, .int (nI v)), (7, .int (laI (pP fT tg) th)), (6, .int (nI th)), (0, .ref (ad E 0 0)), (1, .ref (ad E 16 0)), (2, .int (nI u)), (3, .int (nI tg)), (4, .int (nI Q)), (5, .int (nI T))]) X dL_registers_132 (by decide) rfl ?_
        exact k_134
    · refine k_iload X 0 dL_registers_63 rfl ?_
      refine k_iconst X (-1) dL_registers_65 (by decide) ?_
      refine k_icmp_ne (tgt := 89) X dL_registers_66 (by decide) (fun c66 => ?_) (fun c66 => ?_)
      · refine k_aload_n X 3 dL_registers_89 rfl rfl ?_
        refine k_iconst X (nI 2) dL_registers_90 (by decide) ?_
        refine k_dup2 X dL_registers_91 rfl rfl ?_
        refine k_iald (a := 16) (j := 2) X rfl (by decide) rfl (show 2 < 14 by omega) (by decide) dL_registers_92 ?_
        refine k_val (y := nI q) hq ?_
        refine k_iconst X (nI 1) dL_registers_93 (by decide) ?_
        refine k_iadd X dL_registers_94 ?_
        refine k_val (y := nI (q + 1)) (nI_add _ _) ?_
        refine k_iast (a := 16) (j := 2) X rfl (by decide) rfl (show 2 < 14 by omega) (by decide) dL_registers_95 ?_
        refine k_iload X 1 dL_registers_96 rfl ?_
        refine k_iload X 7 dL_registers_98 rfl ?_
        refine k_if_le_f (tgt := 113) X dL_registers_100 (by decide) c60 ?_
        refine k_iload X 0 dL_registers_103 rfl ?_
        refine k_iconst X (-1) dL_registers_105 (by decide) ?_
        refine k_icmp_ne_t (tgt := 113) X dL_registers_106 (by decide) c66 ?_
        refine k_iconst X (nI 0) dL_registers_113 (by decide) ?_
        refine k_iadd X dL_registers_114 ?_
        refine k_val (y := nI (th + 0)) (nI_add _ _) ?_
        refine k_iload X 7 dL_registers_115 rfl ?_
        refine k_if_ne_t (tgt := 130) X dL_registers_117 (by decide) (hT1 c60) ?_
        refine k_iconst X (nI 0) dL_registers_130 (by decide) ?_
        refine k_isub X dL_registers_131 ?_
        refine k_val (y := nI v) (hC c60 c66) ?_
        refine k_istore (L' := [(8, .int (nI v)), (7, .int (laI (pP fT tg) th)), (6, .int (nI th)), (0, .ref (ad E 0 0)), (1, .ref (ad E 16 0)), (2, .int (nI u)), (3, .int (nI tg)), (4, .int (nI Q)), (5, .int (nI T))]) X dL_registers_132 (by decide) rfl ?_
        exact k_134
      · refine k_iload X 1 dL_registers_69 rfl ?_
        refine k_bipush X (nI 6) dL_registers_71 (by decide) ?_
        refine k_icmp_ne (tgt := 89) X dL_registers_73 (by decide) (fun c73 => ?_) (fun c73 => ?_)
        · refine k_aload_n X 3 dL_registers_89 rfl rfl ?_
          refine k_iconst X (nI 2) dL_registers_90 (by decide) ?_
          refine k_dup2 X dL_registers_91 rfl rfl ?_
          refine k_iald (a := 16) (j := 2) X rfl (by decide) rfl (show 2 < 14 by omega) (by decide) dL_registers_92 ?_
          refine k_val (y := nI q) hq ?_
          refine k_iconst X (nI 1) dL_registers_93 (by decide) ?_
          refine k_iadd X dL_registers_94 ?_
          refine k_val (y := nI (q + 1)) (nI_add _ _) ?_
          refine k_iast (a := 16) (j := 2) X rfl (by decide) rfl (show 2 < 14 by omega) (by decide) dL_registers_95 ?_
          refine k_iload X 1 dL_registers_96 rfl ?_
          refine k_iload X 7 dL_registers_98 rfl ?_
          refine k_if_le_f (tgt := 113) X dL_registers_100 (by decide) c60 ?_
          refine k_iload X 0 dL_registers_103 rfl ?_
          refine k_iconst X (-1) dL_registers_105 (by decide) ?_
          refine k_icmp_ne_f (tgt := 113) X dL_registers_106 (by decide) c66 ?_
          refine k_iconst X (nI 1) dL_registers_109 (by decide) ?_
          refine k_goto (tgt := 114) X dL_registers_110 (by decide) ?_
          refine k_iadd X dL_registers_114 ?_
          refine k_val (y := nI (th + 1)) (nI_add _ _) ?_
          refine k_iload X 7 dL_registers_115 rfl ?_
          refine k_if_ne_t (tgt := 130) X dL_registers_117 (by decide) (hT1 c60) ?_
          refine k_iconst X (nI 0) dL_registers_130 (by decide) ?_
          refine k_isub X dL_registers_131 ?_
          refine k_val (y := nI v) (hD c60 c66) ?_
          refine k_istore (L' := [(8, .int (nI v)), (7, .int (laI (pP fT tg) th)), (6, .int (nI th)), (0, .ref (ad E 0 0)), (1, .ref (ad E 16 0)), (2, .int (nI u)), (3, .int (nI tg)), (4, .int (nI Q)), (5, .int (nI T))]) X dL_registers_132 (by decide) rfl ?_
          exact k_134
        · exact (hns ⟨c60, c66, c73⟩).elim
  refine k_aload_n X 0 dL_registers_0 rfl rfl ?_
  refine k_iload_n X 2 dL_registers_1 rfl rfl ?_
  refine k_callV (a := 0) (o := 0) (As := [.int (nI u)]) (S := []) X lk_L_30 rfl (by decide) rfl hb0 rfl rfl (Nat.le_of_ble_eq_true rfl) ⟨Nat.le_of_ble_eq_true rfl, Nat.le_of_ble_eq_true rfl⟩ ⟨Nat.le_of_ble_eq_true rfl, Nat.le_of_ble_eq_true rfl⟩ dL_registers_2 ?_
  show KF E C 0 0 μ 5 _ [.int (nI th)]
  refine k_istore (L' := [(6, .int (nI th)), (0, .ref (ad E 0 0)), (1, .ref (ad E 16 0)), (2, .int (nI u)), (3, .int (nI tg)), (4, .int (nI Q)), (5, .int (nI T))]) X dL_registers_5 (by decide) rfl ?_
  refine k_iconst X (-1) dL_registers_7 (by decide) ?_
  refine k_istore (L' := [(7, .int (-1)), (6, .int (nI th)), (0, .ref (ad E 0 0)), (1, .ref (ad E 16 0)), (2, .int (nI u)), (3, .int (nI tg)), (4, .int (nI Q)), (5, .int (nI T))]) X dL_registers_8 (by decide) rfl ?_
  refine k_iconst X (nI 0) dL_registers_10 (by decide) ?_
  refine k_istore (L' := [(8, .int (nI 0)), (7, .int (-1)), (6, .int (nI th)), (0, .ref (ad E 0 0)), (1, .ref (ad E 16 0)), (2, .int (nI u)), (3, .int (nI tg)), (4, .int (nI Q)), (5, .int (nI T))]) X dL_registers_11 (by decide) rfl ?_
  exact L_L_registers u tg Q T th fT gT hth hfg hbd X k_49 (th + 1) 0 (by omega) (Nat.zero_le th)
