/-! calls -/
def snF (f : Nat → Int32) : Nat → Nat
  | 0 => 0
  | n + 1 => if f n = -1 then snF f n else snF f n ||| 2 ^ tN (f n)
theorem snF_f {f : Nat → Int32} {n : Nat} (h : f n = -1) : snF f (n + 1) = snF f n := if_pos h
theorem snF_t {f : Nat → Int32} {n d : Nat} (h : f n = nI d) (hd : d < 10) : snF f (n + 1) = snF f n ||| 2 ^ d := by
  show (if f n = -1 then snF f n else snF f n ||| 2 ^ tN (f n)) = _
  rw [if_neg (by rw [h]; exact nI_m1 (by omega)), h, tN_nI (by omega)]
theorem snF_sp {f : Nat → Int32} : ∀ n, (∀ b, b < n → dvP (f b)) → snF f n < 2 ^ 12 ∧ ∀ d, d < 10 → ((snF f n).testBit d = true ↔ ∃ b, b < n ∧ f b = nI d)
  | 0, _ => ⟨(by show 0 < 2 ^ 12; decide), fun d _ => ⟨fun h => (by rw [show (snF f 0) = 0 from rfl, Nat.zero_testBit] at h; cases h), fun ⟨b, hb, _⟩ => absurd hb (Nat.not_lt_zero b)⟩⟩
  | n + 1, h => by
    obtain ⟨h1, h2⟩ := snF_sp (f := f) n (fun b hb => h b (by omega))
    rcases h n (by omega) with e | ⟨d0, hd0, e⟩
    · rw [snF_f e]
      refine ⟨h1, fun d hd => (h2 d hd).trans ⟨fun ⟨b, hb, q⟩ => ⟨b, by omega, q⟩, fun ⟨b, hb, q⟩ => ?_⟩⟩
      by_cases z : b = n
      · rw [z, e] at q
        exact absurd q.symm (nI_m1 (by omega))
      · exact ⟨b, by omega, q⟩
    · rw [snF_t e hd0]
      obtain ⟨-, g1, g2⟩ := bit_set h1 (show d0 < 12 by omega)
      refine ⟨g1, fun d hd => ?_⟩
      rw [g2, Bool.or_eq_true, h2 d hd]
      constructor
      · rintro (⟨b, hb, q⟩ | q)
        · exact ⟨b, by omega, q⟩
        · exact ⟨n, by omega, by rw [of_decide_eq_true q]; exact e⟩
      · rintro ⟨b, hb, q⟩
        by_cases z : b = n
        · rw [z, e] at q
          exact Or.inr (decide_eq_true ((nI_eq (by omega) (by omega)).mp q).symm)
        · exact Or.inl ⟨b, by omega, q⟩
theorem bit_no {M d : Nat} (hM : M < 2 ^ 12) (hd : d < 12) (h : ¬ M.testBit d = true) : (nI M >>> (nI d &&& 31)) &&& nI 1 = nI 0 := by
  obtain ⟨g1, g2⟩ := bit_at hM hd
  rw [g1]
  congr 1
  have : ¬ M / 2 ^ d % 2 = 1 := fun z => h (by rw [g2, decide_eq_true z])
  omega
theorem bit_yes {M d : Nat} (hM : M < 2 ^ 12) (hd : d < 12) (h : M.testBit d = true) : (nI M >>> (nI d &&& 31)) &&& nI 1 = nI 1 := by
  obtain ⟨g1, g2⟩ := bit_at hM hd
  rw [g1]
  congr 1
  exact of_decide_eq_true (g2.symm.trans h)

set_option maxHeartbeats 4000000 in
set_option maxRecDepth 100000 in
theorem L1_L_calls {E : EE} {μ : Mem} {C : Ctx} {K t q : Nat} (h : IX K t q μ) (c n : Nat) (hc : c < K) (hn12 : n ≤ 12) (hn : μ 11 c 4 = nI n) (hdv : ∀ b, b < n → dvP (μ 12 c b)) (hdi : ∀ b b', b < n → b' < n → μ 12 c b = μ 12 c b' → ¬ μ 12 c b = -1 → b = b') (hb1 : ∀ b, b < n → μ 12 c b = -1 → μ 14 c b = 482 ∨ μ 14 c b = 483) (hb2 : ∀ b, b < n → ¬ μ 12 c b = -1 → μ 14 c b = 0 ∨ μ 14 c b = 100) (u th : Nat) (X : Cx E C cL_calls RL 10 (rm 10 0)) (hx : KF E C 0 0 μ 208 [(6, .int (nI (snF (μ 12 c) n))), (5, .int (nI 1)), (0, .ref (ad E 0 0)), (1, .ref (ad E 16 0)), (2, .int (nI u)), (3, .int (nI c)), (4, .int (nI th))] []) : ∀ (f : Nat) (i : Nat), n - i < f → i ≤ n → KF E C 0 0 μ 91 [(7, .int (nI i)), (6, .int (nI (snF (μ 12 c) i))), (5, .int (nI 1)), (0, .ref (ad E 0 0)), (1, .ref (ad E 16 0)), (2, .int (nI u)), (3, .int (nI c)), (4, .int (nI th))] [] := by
  intro f
  induction f with
  | zero => intros; omega
  | succ f ih =>
    intro i hf hi
    refine k_iload X 0 dL_calls_91 rfl ?_
    refine k_aload_n X 3 dL_calls_93 rfl rfl ?_
    refine k_iload_n X 6 dL_calls_94 rfl rfl ?_
    refine k_callV (a := 0) (o := 0) (As := [.int (nI c)]) (S := [.int (nI i)]) X lk_L_53 rfl (by decide) rfl (N_branches h c n hc hn) rfl rfl (Nat.le_of_ble_eq_true rfl) ⟨Nat.le_of_ble_eq_true rfl, Nat.le_of_ble_eq_true rfl⟩ ⟨Nat.le_of_ble_eq_true rfl, Nat.le_of_ble_eq_true rfl⟩ dL_calls_95 ?_
    show KF E C 0 0 μ 98 _ [.int (nI n), .int (nI i)]
    refine k_ge_n (a := i) (b := n) (tgt := 208) X dL_calls_98 (by decide) rfl rfl (by omega) (by omega) (fun c98 => ?_) (fun c98 => ?_)
    · obtain rfl : i = n := by omega
      refine k_pick (L' := [(6, .int (nI (snF (μ 12 c) i))), (5, .int (nI 1)), (0, .ref (ad E 0 0)), (1, .ref (ad E 16 0)), (2, .int (nI u)), (3, .int (nI c)), (4, .int (nI th))]) [1, 2, 3, 4, 5, 6, 7] rfl ?_
      exact hx
    · refine k_iload X 2 dL_calls_101 rfl ?_
      refine k_if_eq_f (tgt := 208) X dL_calls_103 (by decide) (by decide) ?_
      refine k_aload_n X 3 dL_calls_106 rfl rfl ?_
      refine k_iload_n X 6 dL_calls_107 rfl rfl ?_
      refine k_iload X 0 dL_calls_108 rfl ?_
      refine k_callV (a := 0) (o := 0) (As := [.int (nI c), .int (nI i)]) (S := []) X lk_L_59 rfl (by decide) rfl (N_device h c n i hc hn12 hn c98) rfl rfl (Nat.le_of_ble_eq_true rfl) ⟨Nat.le_of_ble_eq_true rfl, Nat.le_of_ble_eq_true rfl⟩ ⟨Nat.le_of_ble_eq_true rfl, Nat.le_of_ble_eq_true rfl⟩ dL_calls_110 ?_
      show KF E C 0 0 μ 113 _ [.int (μ 12 c i)]
      refine k_istore (L' := [(8, .int (μ 12 c i)), (7, .int (nI i)), (6, .int (nI (snF (μ 12 c) i))), (5, .int (nI 1)), (0, .ref (ad E 0 0)), (1, .ref (ad E 16 0)), (2, .int (nI u)), (3, .int (nI c)), (4, .int (nI th))]) X dL_calls_113 (by decide) rfl ?_
      refine k_aload_n X 4 dL_calls_115 rfl rfl ?_
      refine k_iload_n X 7 dL_calls_116 rfl rfl ?_
      refine k_iload X 1 dL_calls_117 rfl ?_
      refine k_callV (a := 0) (o := 0) (As := [.int (nI c), .int (nI i)]) (S := []) X lk_L_62 rfl (by decide) rfl (N_state h c n i hc hn12 hn c98) rfl rfl (Nat.le_of_ble_eq_true rfl) ⟨Nat.le_of_ble_eq_true rfl, Nat.le_of_ble_eq_true rfl⟩ ⟨Nat.le_of_ble_eq_true rfl, Nat.le_of_ble_eq_true rfl⟩ dL_calls_119 ?_
      show KF E C 0 0 μ 122 _ [.int (μ 14 c i)]
      refine k_istore (L' := [(9, .int (μ 14 c i)), (8, .int (μ 12 c i)), (7, .int (nI i)), (6, .int (nI (snF (μ 12 c) i))), (5, .int (nI 1)), (0, .ref (ad E 0 0)), (1, .ref (ad E 16 0)), (2, .int (nI u)), (3, .int (nI c)), (4, .int (nI th))]) X dL_calls_122 (by decide) rfl ?_
      refine k_iload X 1 dL_calls_124 rfl ?_
      refine k_iconst X (-1) dL_calls_126 (by decide) ?_
      refine k_icmp_ne (tgt := 154) X dL_calls_127 (by decide) (fun c127 => ?_) (fun c127 => ?_)
      · obtain ⟨d, hd, ed⟩ := (hdv i c98).resolve_left c127
        have hsn := snF_sp (f := μ 12 c) i (fun b hb => hdv b (by omega))
        have hno : ¬ (snF (μ 12 c) i).testBit d = true := fun z => by obtain ⟨b, hb, e⟩ := (hsn.2 d hd).mp z; have := hdi b i (by omega) c98 (e.trans ed.symm) (by rw [e]; exact nI_m1 (by omega)); omega
        refine k_iload X 3 dL_calls_154 rfl ?_
        refine k_iload X 1 dL_calls_156 rfl ?_
        refine k_val (y := nI d) ed ?_
        refine k_ishr X dL_calls_158 ?_
        refine k_iconst X (nI 1) dL_calls_159 (by decide) ?_
        refine k_iand X dL_calls_160 ?_
        refine k_val (y := nI 0) (bit_no hsn.1 (by omega) hno) ?_
        refine k_if_ne_f (tgt := 180) X dL_calls_161 (by decide) (by decide) ?_
        refine k_iload X 0 dL_calls_164 rfl ?_
        refine k_if_eq (tgt := 176) X dL_calls_166 (by decide) (fun c166 => ?_) (fun c166 => ?_)
        · refine k_iconst X (nI 1) dL_calls_176 (by decide) ?_
          refine k_goto (tgt := 181) X dL_calls_177 (by decide) ?_
          refine k_istore (L' := [(5, .int (nI 1)), (9, .int (μ 14 c i)), (8, .int (μ 12 c i)), (7, .int (nI i)), (6, .int (nI (snF (μ 12 c) i))), (0, .ref (ad E 0 0)), (1, .ref (ad E 16 0)), (2, .int (nI u)), (3, .int (nI c)), (4, .int (nI th))]) X dL_calls_181 (by decide) rfl ?_
          refine k_iload X 4 dL_calls_183 rfl ?_
          refine k_iload X 2 dL_calls_185 rfl ?_
          refine k_iconst X (-1) dL_calls_187 (by decide) ?_
          refine k_icmp_ne_t (tgt := 195) X dL_calls_188 (by decide) c127 ?_
          refine k_iconst X (nI 1) dL_calls_195 (by decide) ?_
          refine k_iload X 2 dL_calls_196 rfl ?_
          refine k_val (y := nI d) ed ?_
          refine k_ishl X dL_calls_198 ?_
          refine k_ior X dL_calls_199 ?_
          refine k_val (y := nI (snF (μ 12 c) (i + 1))) ((bit_set hsn.1 (by omega)).1.trans (congrArg nI (snF_t ed hd).symm)) ?_
          refine k_istore (L' := [(6, .int (nI (snF (μ 12 c) (i + 1)))), (5, .int (nI 1)), (9, .int (μ 14 c i)), (8, .int (μ 12 c i)), (7, .int (nI i)), (0, .ref (ad E 0 0)), (1, .ref (ad E 16 0)), (2, .int (nI u)), (3, .int (nI c)), (4, .int (nI th))]) X dL_calls_200 (by decide) rfl ?_
          refine k_iinc (v := nI (i + 1)) (L' := [(7, .int (nI (i + 1))), (6, .int (nI (snF (μ 12 c) (i + 1)))), (5, .int (nI 1)), (9, .int (μ 14 c i)), (8, .int (μ 12 c i)), (0, .ref (ad E 0 0)), (1, .ref (ad E 16 0)), (2, .int (nI u)), (3, .int (nI c)), (4, .int (nI th))]) X 4 dL_calls_202 rfl (nI_1 i) (by decide) rfl ?_
          refine k_goto (tgt := 91) X dL_calls_205 (by decide) ?_
          refine k_pick (L' := [(7, .int (nI (i + 1))), (6, .int (nI (snF (μ 12 c) (i + 1)))), (5, .int (nI 1)), (0, .ref (ad E 0 0)), (1, .ref (ad E 16 0)), (2, .int (nI u)), (3, .int (nI c)), (4, .int (nI th))]) [0, 1, 2, 5, 6, 7, 8, 9] rfl ?_
          exact ih (i + 1) (by omega) (by omega)
        · refine k_iload X 0 dL_calls_169 rfl ?_
          refine k_bipush X 100 dL_calls_171 (by decide) ?_
          refine k_icmp_ne_f (tgt := 180) X dL_calls_173 (by decide) ((hb2 i c98 c127).resolve_left c166) ?_
          refine k_iconst X (nI 1) dL_calls_176 (by decide) ?_
          refine k_goto (tgt := 181) X dL_calls_177 (by decide) ?_
          refine k_istore (L' := [(5, .int (nI 1)), (9, .int (μ 14 c i)), (8, .int (μ 12 c i)), (7, .int (nI i)), (6, .int (nI (snF (μ 12 c) i))), (0, .ref (ad E 0 0)), (1, .ref (ad E 16 0)), (2, .int (nI u)), (3, .int (nI c)), (4, .int (nI th))]) X dL_calls_181 (by decide) rfl ?_
          refine k_iload X 4 dL_calls_183 rfl ?_
          refine k_iload X 2 dL_calls_185 rfl ?_
          refine k_iconst X (-1) dL_calls_187 (by decide) ?_
          refine k_icmp_ne_t (tgt := 195) X dL_calls_188 (by decide) c127 ?_
          refine k_iconst X (nI 1) dL_calls_195 (by decide) ?_
          refine k_iload X 2 dL_calls_196 rfl ?_
          refine k_val (y := nI d) ed ?_
          refine k_ishl X dL_calls_198 ?_
          refine k_ior X dL_calls_199 ?_
          refine k_val (y := nI (snF (μ 12 c) (i + 1))) ((bit_set hsn.1 (by omega)).1.trans (congrArg nI (snF_t ed hd).symm)) ?_
          refine k_istore (L' := [(6, .int (nI (snF (μ 12 c) (i + 1)))), (5, .int (nI 1)), (9, .int (μ 14 c i)), (8, .int (μ 12 c i)), (7, .int (nI i)), (0, .ref (ad E 0 0)), (1, .ref (ad E 16 0)), (2, .int (nI u)), (3, .int (nI c)), (4, .int (nI th))]) X dL_calls_200 (by decide) rfl ?_
          refine k_iinc (v := nI (i + 1)) (L' := [(7, .int (nI (i + 1))), (6, .int (nI (snF (μ 12 c) (i + 1)))), (5, .int (nI 1)), (9, .int (μ 14 c i)), (8, .int (μ 12 c i)), (0, .ref (ad E 0 0)), (1, .ref (ad E 16 0)), (2, .int (nI u)), (3, .int (nI c)), (4, .int (nI th))]) X 4 dL_calls_202 rfl (nI_1 i) (by decide) rfl ?_
          refine k_goto (tgt := 91) X dL_calls_205 (by decide) ?_
          refine k_pick (L' := [(7, .int (nI (i + 1))), (6, .int (nI (snF (μ 12 c) (i + 1)))), (5, .int (nI 1)), (0, .ref (ad E 0 0)), (1, .ref (ad E 16 0)), (2, .int (nI u)), (3, .int (nI c)), (4, .int (nI th))]) [0, 1, 2, 5, 6, 7, 8, 9] rfl ?_
          exact ih (i + 1) (by omega) (by omega)
      · refine k_iload X 0 dL_calls_130 rfl ?_
        refine k_sipush X 482 dL_calls_132 (by decide) ?_
        refine k_icmp_eq (tgt := 146) X dL_calls_135 (by decide) (fun c135 => ?_) (fun c135 => ?_)
        · refine k_iconst X (nI 1) dL_calls_146 (by decide) ?_
          refine k_goto (tgt := 181) X dL_calls_147 (by decide) ?_
          refine k_istore (L' := [(5, .int (nI 1)), (9, .int (μ 14 c i)), (8, .int (μ 12 c i)), (7, .int (nI i)), (6, .int (nI (snF (μ 12 c) i))), (0, .ref (ad E 0 0)), (1, .ref (ad E 16 0)), (2, .int (nI u)), (3, .int (nI c)), (4, .int (nI th))]) X dL_calls_181 (by decide) rfl ?_
          refine k_iload X 4 dL_calls_183 rfl ?_
          refine k_iload X 2 dL_calls_185 rfl ?_
          refine k_iconst X (-1) dL_calls_187 (by decide) ?_
          refine k_icmp_ne_f (tgt := 195) X dL_calls_188 (by decide) c127 ?_
          refine k_iconst X (nI 0) dL_calls_191 (by decide) ?_
          refine k_goto (tgt := 199) X dL_calls_192 (by decide) ?_
          refine k_ior X dL_calls_199 ?_
          refine k_val (y := nI (snF (μ 12 c) (i + 1))) (by rw [snF_f c127, fa_or, Nat.or_zero]) ?_
          refine k_istore (L' := [(6, .int (nI (snF (μ 12 c) (i + 1)))), (5, .int (nI 1)), (9, .int (μ 14 c i)), (8, .int (μ 12 c i)), (7, .int (nI i)), (0, .ref (ad E 0 0)), (1, .ref (ad E 16 0)), (2, .int (nI u)), (3, .int (nI c)), (4, .int (nI th))]) X dL_calls_200 (by decide) rfl ?_
          refine k_iinc (v := nI (i + 1)) (L' := [(7, .int (nI (i + 1))), (6, .int (nI (snF (μ 12 c) (i + 1)))), (5, .int (nI 1)), (9, .int (μ 14 c i)), (8, .int (μ 12 c i)), (0, .ref (ad E 0 0)), (1, .ref (ad E 16 0)), (2, .int (nI u)), (3, .int (nI c)), (4, .int (nI th))]) X 4 dL_calls_202 rfl (nI_1 i) (by decide) rfl ?_
          refine k_goto (tgt := 91) X dL_calls_205 (by decide) ?_
          refine k_pick (L' := [(7, .int (nI (i + 1))), (6, .int (nI (snF (μ 12 c) (i + 1)))), (5, .int (nI 1)), (0, .ref (ad E 0 0)), (1, .ref (ad E 16 0)), (2, .int (nI u)), (3, .int (nI c)), (4, .int (nI th))]) [0, 1, 2, 5, 6, 7, 8, 9] rfl ?_
          exact ih (i + 1) (by omega) (by omega)
        · refine k_iload X 0 dL_calls_138 rfl ?_
          refine k_sipush X 483 dL_calls_140 (by decide) ?_
          refine k_icmp_ne_f (tgt := 150) X dL_calls_143 (by decide) ((hb1 i c98 c127).resolve_left c135) ?_
          refine k_iconst X (nI 1) dL_calls_146 (by decide) ?_
          refine k_goto (tgt := 181) X dL_calls_147 (by decide) ?_
          refine k_istore (L' := [(5, .int (nI 1)), (9, .int (μ 14 c i)), (8, .int (μ 12 c i)), (7, .int (nI i)), (6, .int (nI (snF (μ 12 c) i))), (0, .ref (ad E 0 0)), (1, .ref (ad E 16 0)), (2, .int (nI u)), (3, .int (nI c)), (4, .int (nI th))]) X dL_calls_181 (by decide) rfl ?_
          refine k_iload X 4 dL_calls_183 rfl ?_
          refine k_iload X 2 dL_calls_185 rfl ?_
          refine k_iconst X (-1) dL_calls_187 (by decide) ?_
          refine k_icmp_ne_f (tgt := 195) X dL_calls_188 (by decide) c127 ?_
          refine k_iconst X (nI 0) dL_calls_191 (by decide) ?_
          refine k_goto (tgt := 199) X dL_calls_192 (by decide) ?_
          refine k_ior X dL_calls_199 ?_
          refine k_val (y := nI (snF (μ 12 c) (i + 1))) (by rw [snF_f c127, fa_or, Nat.or_zero]) ?_
          refine k_istore (L' := [(6, .int (nI (snF (μ 12 c) (i + 1)))), (5, .int (nI 1)), (9, .int (μ 14 c i)), (8, .int (μ 12 c i)), (7, .int (nI i)), (0, .ref (ad E 0 0)), (1, .ref (ad E 16 0)), (2, .int (nI u)), (3, .int (nI c)), (4, .int (nI th))]) X dL_calls_200 (by decide) rfl ?_
          refine k_iinc (v := nI (i + 1)) (L' := [(7, .int (nI (i + 1))), (6, .int (nI (snF (μ 12 c) (i + 1)))), (5, .int (nI 1)), (9, .int (μ 14 c i)), (8, .int (μ 12 c i)), (0, .ref (ad E 0 0)), (1, .ref (ad E 16 0)), (2, .int (nI u)), (3, .int (nI c)), (4, .int (nI th))]) X 4 dL_calls_202 rfl (nI_1 i) (by decide) rfl ?_
          refine k_goto (tgt := 91) X dL_calls_205 (by decide) ?_
          refine k_pick (L' := [(7, .int (nI (i + 1))), (6, .int (nI (snF (μ 12 c) (i + 1)))), (5, .int (nI 1)), (0, .ref (ad E 0 0)), (1, .ref (ad E 16 0)), (2, .int (nI u)), (3, .int (nI c)), (4, .int (nI th))]) [0, 1, 2, 5, 6, 7, 8, 9] rfl ?_
          exact ih (i + 1) (by omega) (by omega)

set_option maxHeartbeats 4000000 in
set_option maxRecDepth 100000 in
theorem L2_L_calls {E : EE} {μ : Mem} {C : Ctx} {K t q : Nat} (h : IX K t q μ) (c n : Nat) (hc : c < K) (hn12 : n ≤ 12) (hn : μ 11 c 4 = nI n) (S u th : Nat) (fT gT : Nat → Nat) (hth : th ≤ 6) (hfg : ∀ k, k < th → fT k < 16 ∧ gT k ≤ 10) (hbd : ∀ k, k < th → MM E yX2_binding cX2_binding 5 (some .int) (rm 3 0) [.ref (ad E 0 0), .int (nI u), .int (nI k)] μ (some (.int (nI (100 * fT k + gT k)))) μ) (hs : ∀ k, k < th → ¬ nI 9 < nI (fT k) → ¬ (nI S >>> (nI (fT k) &&& 31)) &&& nI 1 = nI 1 → nI n = nI 12) (X : Cx E C cL_calls RL 10 (rm 10 0)) (hE : EndI E C cL_calls 0 0 1 μ) : ∀ (f : Nat) (i : Nat), th - i < f → i ≤ th → KF E C 0 0 μ 211 [(7, .int (nI i)), (6, .int (nI S)), (5, .int (nI 1)), (0, .ref (ad E 0 0)), (1, .ref (ad E 16 0)), (2, .int (nI u)), (3, .int (nI c)), (4, .int (nI th))] [] := by
  intro f
  induction f with
  | zero => intros; omega
  | succ f ih =>
    intro i hf hi
    refine k_iload X 0 dL_calls_211 rfl ?_
    refine k_iload X 7 dL_calls_213 rfl ?_
    refine k_ge_n (a := i) (b := th) (tgt := 276) X dL_calls_215 (by decide) rfl rfl (by omega) (by omega) (fun c215 => ?_) (fun c215 => ?_)
    · refine k_iload X 2 dL_calls_276 rfl ?_
      exact k_iret dL_calls_278 hE (by decide) rfl
    · refine k_iload X 2 dL_calls_218 rfl ?_
      refine k_if_eq_f (tgt := 276) X dL_calls_220 (by decide) (by decide) ?_
      refine k_aload_n X 3 dL_calls_223 rfl rfl ?_
      refine k_iload_n X 5 dL_calls_224 rfl rfl ?_
      refine k_iload X 0 dL_calls_225 rfl ?_
      refine k_callV (a := 0) (o := 0) (As := [.int (nI u), .int (nI i)]) (S := []) X lk_L_36 rfl (by decide) rfl (hbd i c215) rfl rfl (Nat.le_of_ble_eq_true rfl) ⟨Nat.le_of_ble_eq_true rfl, Nat.le_of_ble_eq_true rfl⟩ ⟨Nat.le_of_ble_eq_true rfl, Nat.le_of_ble_eq_true rfl⟩ dL_calls_227 ?_
      show KF E C 0 0 μ 230 _ [.int (nI (100 * fT i + gT i))]
      refine k_bipush X (nI 100) dL_calls_230 (by decide) ?_
      refine k_idiv X dL_calls_232 (by decide) ?_
      refine k_val (y := nI (fT i)) (dv100 (hfg i c215).1 (hfg i c215).2) ?_
      refine k_istore (L' := [(8, .int (nI (fT i))), (7, .int (nI i)), (6, .int (nI S)), (5, .int (nI 1)), (0, .ref (ad E 0 0)), (1, .ref (ad E 16 0)), (2, .int (nI u)), (3, .int (nI c)), (4, .int (nI th))]) X dL_calls_233 (by decide) rfl ?_
      refine k_iload X 0 dL_calls_235 rfl ?_
      refine k_bipush X (nI 9) dL_calls_237 (by decide) ?_
      refine k_icmp_gt (tgt := 263) X dL_calls_239 (by decide) (fun c239 => ?_) (fun c239 => ?_)
      · refine k_iconst X (nI 1) dL_calls_263 (by decide) ?_
        refine k_goto (tgt := 268) X dL_calls_264 (by decide) ?_
        refine k_istore (L' := [(5, .int (nI 1)), (8, .int (nI (fT i))), (7, .int (nI i)), (6, .int (nI S)), (0, .ref (ad E 0 0)), (1, .ref (ad E 16 0)), (2, .int (nI u)), (3, .int (nI c)), (4, .int (nI th))]) X dL_calls_268 (by decide) rfl ?_
        refine k_iinc (v := nI (i + 1)) (L' := [(7, .int (nI (i + 1))), (5, .int (nI 1)), (8, .int (nI (fT i))), (6, .int (nI S)), (0, .ref (ad E 0 0)), (1, .ref (ad E 16 0)), (2, .int (nI u)), (3, .int (nI c)), (4, .int (nI th))]) X 2 dL_calls_270 rfl (nI_1 i) (by decide) rfl ?_
        refine k_goto (tgt := 211) X dL_calls_273 (by decide) ?_
        refine k_pick (L' := [(7, .int (nI (i + 1))), (6, .int (nI S)), (5, .int (nI 1)), (0, .ref (ad E 0 0)), (1, .ref (ad E 16 0)), (2, .int (nI u)), (3, .int (nI c)), (4, .int (nI th))]) [0, 3, 1, 4, 5, 6, 7, 8] rfl ?_
        exact ih (i + 1) (by omega) (by omega)
      · refine k_iload X 2 dL_calls_242 rfl ?_
        refine k_iload X 0 dL_calls_244 rfl ?_
        refine k_ishr X dL_calls_246 ?_
        refine k_iconst X (nI 1) dL_calls_247 (by decide) ?_
        refine k_iand X dL_calls_248 ?_
        refine k_iconst X (nI 1) dL_calls_249 (by decide) ?_
        refine k_icmp_eq (tgt := 263) X dL_calls_250 (by decide) (fun c250 => ?_) (fun c250 => ?_)
        · refine k_iconst X (nI 1) dL_calls_263 (by decide) ?_
          refine k_goto (tgt := 268) X dL_calls_264 (by decide) ?_
          refine k_istore (L' := [(5, .int (nI 1)), (8, .int (nI (fT i))), (7, .int (nI i)), (6, .int (nI S)), (0, .ref (ad E 0 0)), (1, .ref (ad E 16 0)), (2, .int (nI u)), (3, .int (nI c)), (4, .int (nI th))]) X dL_calls_268 (by decide) rfl ?_
          refine k_iinc (v := nI (i + 1)) (L' := [(7, .int (nI (i + 1))), (5, .int (nI 1)), (8, .int (nI (fT i))), (6, .int (nI S)), (0, .ref (ad E 0 0)), (1, .ref (ad E 16 0)), (2, .int (nI u)), (3, .int (nI c)), (4, .int (nI th))]) X 2 dL_calls_270 rfl (nI_1 i) (by decide) rfl ?_
          refine k_goto (tgt := 211) X dL_calls_273 (by decide) ?_
          refine k_pick (L' := [(7, .int (nI (i + 1))), (6, .int (nI S)), (5, .int (nI 1)), (0, .ref (ad E 0 0)), (1, .ref (ad E 16 0)), (2, .int (nI u)), (3, .int (nI c)), (4, .int (nI th))]) [0, 3, 1, 4, 5, 6, 7, 8] rfl ?_
          exact ih (i + 1) (by omega) (by omega)
        · refine k_aload_n X 4 dL_calls_253 rfl rfl ?_
          refine k_iload_n X 7 dL_calls_254 rfl rfl ?_
          refine k_callV (a := 0) (o := 0) (As := [.int (nI c)]) (S := []) X lk_L_53 rfl (by decide) rfl (N_branches h c n hc hn) rfl rfl (Nat.le_of_ble_eq_true rfl) ⟨Nat.le_of_ble_eq_true rfl, Nat.le_of_ble_eq_true rfl⟩ ⟨Nat.le_of_ble_eq_true rfl, Nat.le_of_ble_eq_true rfl⟩ dL_calls_255 ?_
          show KF E C 0 0 μ 258 _ [.int (nI n)]
          refine k_bipush X (nI 12) dL_calls_258 (by decide) ?_
          refine k_icmp_ne_f (tgt := 267) X dL_calls_260 (by decide) (hs i c215 c239 c250) ?_
          refine k_iconst X (nI 1) dL_calls_263 (by decide) ?_
          refine k_goto (tgt := 268) X dL_calls_264 (by decide) ?_
          refine k_istore (L' := [(5, .int (nI 1)), (8, .int (nI (fT i))), (7, .int (nI i)), (6, .int (nI S)), (0, .ref (ad E 0 0)), (1, .ref (ad E 16 0)), (2, .int (nI u)), (3, .int (nI c)), (4, .int (nI th))]) X dL_calls_268 (by decide) rfl ?_
          refine k_iinc (v := nI (i + 1)) (L' := [(7, .int (nI (i + 1))), (5, .int (nI 1)), (8, .int (nI (fT i))), (6, .int (nI S)), (0, .ref (ad E 0 0)), (1, .ref (ad E 16 0)), (2, .int (nI u)), (3, .int (nI c)), (4, .int (nI th))]) X 2 dL_calls_270 rfl (nI_1 i) (by decide) rfl ?_
          refine k_goto (tgt := 211) X dL_calls_273 (by decide) ?_
          refine k_pick (L' := [(7, .int (nI (i + 1))), (6, .int (nI S)), (5, .int (nI 1)), (0, .ref (ad E 0 0)), (1, .ref (ad E 16 0)), (2, .int (nI u)), (3, .int (nI c)), (4, .int (nI th))]) [0, 3, 1, 4, 5, 6, 7, 8] rfl ?_
          exact ih (i + 1) (by omega) (by omega)

set_option maxHeartbeats 4000000 in
set_option maxRecDepth 100000 in
theorem C_L_calls {E : EE} {μ : Mem} {K t q : Nat} (hk : μ 16 0 1 = nI K) (u th n : Nat) (μ2 : Mem) (h2 : IX (K + 1) t q μ2) (hk2 : μ2 16 0 1 = nI (K + 1)) (hn12 : n ≤ 12) (hn : μ2 11 K 4 = nI n) (hb0 : MM E yX2_bindings cX2_bindings 2 (some .int) (rm 4 0) [.ref (ad E 0 0), .int (nI u)] (st μ 16 0 1 (nI (K + 1))) (some (.int (nI th))) (st μ 16 0 1 (nI (K + 1)))) (hcl : MM E yX2_call cX2_call 3 (some .int) (rm 9 0) [.ref (ad E 0 0), .int (nI u)] (st μ 16 0 1 (nI (K + 1))) (some (.int (nI K))) μ2) (h7 : μ2 11 K 7 = -1) (hn0 : ¬ 0 < nI th → nI n = 0) (h480 : ¬ 0 < nI n → μ2 11 K 8 = 480) (hdv : ∀ b, b < n → dvP (μ2 12 K b)) (hdi : ∀ b b', b < n → b' < n → μ2 12 K b = μ2 12 K b' → ¬ μ2 12 K b = -1 → b = b') (hb1 : ∀ b, b < n → μ2 12 K b = -1 → μ2 14 K b = 482 ∨ μ2 14 K b = 483) (hb2 : ∀ b, b < n → ¬ μ2 12 K b = -1 → μ2 14 K b = 0 ∨ μ2 14 K b = 100) (fT gT : Nat → Nat) (hth : th ≤ 6) (hfg : ∀ k, k < th → fT k < 16 ∧ gT k ≤ 10) (hbd : ∀ k, k < th → MM E yX2_binding cX2_binding 5 (some .int) (rm 3 0) [.ref (ad E 0 0), .int (nI u), .int (nI k)] μ2 (some (.int (nI (100 * fT k + gT k)))) μ2) (hs : ∀ k, k < th → ¬ nI 9 < nI (fT k) → ¬ (nI (snF (μ2 12 K) n) >>> (nI (fT k) &&& 31)) &&& nI 1 = nI 1 → nI n = nI 12) : MM E yL_calls cL_calls 10 (some .boolean) (rm 10 0) [.ref (ad E 0 0), .ref (ad E 16 0), .int (nI u)] μ (some (.int 1)) μ2 := by
  refine MM.int (own := RL) [(0, .ref (ad E 0 0)), (1, .ref (ad E 16 0)), (2, .int (nI u))] rfl rfl rfl (Nat.le_of_ble_eq_true rfl) rfl (fun C X hE => ?_)
  have k_208 : KF E C 0 0 μ2 208 [(6, .int (nI (snF (μ2 12 K) n))), (5, .int (nI 1)), (0, .ref (ad E 0 0)), (1, .ref (ad E 16 0)), (2, .int (nI u)), (3, .int (nI K)), (4, .int (nI th))] [] := by
    refine k_iconst X (nI 0) dL_calls_208 (by decide) ?_
    refine k_istore (L' := [(7, .int (nI 0)), (6, .int (nI (snF (μ2 12 K) n))), (5, .int (nI 1)), (0, .ref (ad E 0 0)), (1, .ref (ad E 16 0)), (2, .int (nI u)), (3, .int (nI K)), (4, .int (nI th))]) X dL_calls_209 (by decide) rfl ?_
    exact L2_L_calls h2 K n (by omega) hn12 hn _ u th fT gT hth hfg hbd hs X hE (th + 1) 0 (by omega) (Nat.zero_le th)
  have k_59 : KF E C 0 0 μ2 59 [(4, .int (nI th)), (3, .int (nI K)), (0, .ref (ad E 0 0)), (1, .ref (ad E 16 0)), (2, .int (nI u))] [] := by
    refine k_aload_n X 2 dL_calls_59 rfl rfl ?_
    refine k_iload_n X 1 dL_calls_60 rfl rfl ?_
    refine k_callV (a := 0) (o := 0) (As := [.int (nI K)]) (S := []) X lk_L_53 rfl (by decide) rfl (N_branches h2 K n (by omega) hn) rfl rfl (Nat.le_of_ble_eq_true rfl) ⟨Nat.le_of_ble_eq_true rfl, Nat.le_of_ble_eq_true rfl⟩ ⟨Nat.le_of_ble_eq_true rfl, Nat.le_of_ble_eq_true rfl⟩ dL_calls_61 ?_
    show KF E C 0 0 μ2 64 _ [.int (nI n)]
    refine k_if_gt (tgt := 78) X dL_calls_64 (by decide) (fun c64 => ?_) (fun c64 => ?_)
    · refine k_iconst X (nI 1) dL_calls_78 (by decide) ?_
      refine k_goto (tgt := 83) X dL_calls_79 (by decide) ?_
      refine k_istore (L' := [(5, .int (nI 1)), (4, .int (nI th)), (3, .int (nI K)), (0, .ref (ad E 0 0)), (1, .ref (ad E 16 0)), (2, .int (nI u))]) X dL_calls_83 (by decide) rfl ?_
      refine k_iconst X (nI 0) dL_calls_85 (by decide) ?_
      refine k_istore (L' := [(6, .int (nI 0)), (5, .int (nI 1)), (4, .int (nI th)), (3, .int (nI K)), (0, .ref (ad E 0 0)), (1, .ref (ad E 16 0)), (2, .int (nI u))]) X dL_calls_86 (by decide) rfl ?_
      refine k_iconst X (nI 0) dL_calls_88 (by decide) ?_
      refine k_istore (L' := [(7, .int (nI 0)), (6, .int (nI 0)), (5, .int (nI 1)), (4, .int (nI th)), (3, .int (nI K)), (0, .ref (ad E 0 0)), (1, .ref (ad E 16 0)), (2, .int (nI u))]) X dL_calls_89 (by decide) rfl ?_
      refine k_pick (L' := [(7, .int (nI 0)), (6, .int (nI 0)), (5, .int (nI 1)), (0, .ref (ad E 0 0)), (1, .ref (ad E 16 0)), (2, .int (nI u)), (3, .int (nI K)), (4, .int (nI th))]) [0, 1, 2, 5, 6, 7, 4, 3] rfl ?_
      exact L1_L_calls h2 K n (by omega) hn12 hn hdv hdi hb1 hb2 u th X k_208 (n + 1) 0 (by omega) (Nat.zero_le n)
    · refine k_aload_n X 2 dL_calls_67 rfl rfl ?_
      refine k_iload_n X 1 dL_calls_68 rfl rfl ?_
      refine k_callV (a := 0) (o := 0) (As := [.int (nI K)]) (S := []) X lk_L_56 rfl (by decide) rfl (N_finalOf h2 K (by omega)) rfl rfl (Nat.le_of_ble_eq_true rfl) ⟨Nat.le_of_ble_eq_true rfl, Nat.le_of_ble_eq_true rfl⟩ ⟨Nat.le_of_ble_eq_true rfl, Nat.le_of_ble_eq_true rfl⟩ dL_calls_69 ?_
      show KF E C 0 0 μ2 72 _ [.int (μ2 11 K 8)]
      refine k_sipush X 480 dL_calls_72 (by decide) ?_
      refine k_icmp_ne_f (tgt := 82) X dL_calls_75 (by decide) (h480 c64) ?_
      refine k_iconst X (nI 1) dL_calls_78 (by decide) ?_
      refine k_goto (tgt := 83) X dL_calls_79 (by decide) ?_
      refine k_istore (L' := [(5, .int (nI 1)), (4, .int (nI th)), (3, .int (nI K)), (0, .ref (ad E 0 0)), (1, .ref (ad E 16 0)), (2, .int (nI u))]) X dL_calls_83 (by decide) rfl ?_
      refine k_iconst X (nI 0) dL_calls_85 (by decide) ?_
      refine k_istore (L' := [(6, .int (nI 0)), (5, .int (nI 1)), (4, .int (nI th)), (3, .int (nI K)), (0, .ref (ad E 0 0)), (1, .ref (ad E 16 0)), (2, .int (nI u))]) X dL_calls_86 (by decide) rfl ?_
      refine k_iconst X (nI 0) dL_calls_88 (by decide) ?_
      refine k_istore (L' := [(7, .int (nI 0)), (6, .int (nI 0)), (5, .int (nI 1)), (4, .int (nI th)), (3, .int (nI K)), (0, .ref (ad E 0 0)), (1, .ref (ad E 16 0)), (2, .int (nI u))]) X dL_calls_89 (by decide) rfl ?_
      refine k_pick (L' := [(7, .int (nI 0)), (6, .int (nI 0)), (5, .int (nI 1)), (0, .ref (ad E 0 0)), (1, .ref (ad E 16 0)), (2, .int (nI u)), (3, .int (nI K)), (4, .int (nI th))]) [0, 1, 2, 5, 6, 7, 4, 3] rfl ?_
      exact L1_L_calls h2 K n (by omega) hn12 hn hdv hdi hb1 hb2 u th X k_208 (n + 1) 0 (by omega) (Nat.zero_le n)
  refine k_aload_n X 1 dL_calls_0 rfl rfl ?_
  refine k_iconst X (nI 1) dL_calls_1 (by decide) ?_
  refine k_iald (a := 16) (j := 1) X rfl (by decide) rfl (show 1 < 14 by omega) (by decide) dL_calls_2 ?_
  refine k_val (y := nI K) hk ?_
  refine k_istore_n (L' := [(3, .int (nI K)), (0, .ref (ad E 0 0)), (1, .ref (ad E 16 0)), (2, .int (nI u))]) X dL_calls_3 rfl (by decide) rfl ?_
  refine k_aload_n X 2 dL_calls_4 rfl rfl ?_
  refine k_iconst X (nI 1) dL_calls_5 (by decide) ?_
  refine k_dup2 X dL_calls_6 rfl rfl ?_
  refine k_iald (a := 16) (j := 1) X rfl (by decide) rfl (show 1 < 14 by omega) (by decide) dL_calls_7 ?_
  refine k_val (y := nI K) hk ?_
  refine k_iconst X (nI 1) dL_calls_8 (by decide) ?_
  refine k_iadd X dL_calls_9 ?_
  refine k_val (y := nI (K + 1)) (nI_add _ _) ?_
  refine k_iast (a := 16) (j := 1) X rfl (by decide) rfl (show 1 < 14 by omega) (by decide) dL_calls_10 ?_
  refine k_aload_n X 1 dL_calls_11 rfl rfl ?_
  refine k_iload_n X 3 dL_calls_12 rfl rfl ?_
  refine k_callV (a := 0) (o := 0) (As := [.int (nI u)]) (S := []) X lk_L_30 rfl (by decide) rfl hb0 rfl rfl (Nat.le_of_ble_eq_true rfl) ⟨Nat.le_of_ble_eq_true rfl, Nat.le_of_ble_eq_true rfl⟩ ⟨Nat.le_of_ble_eq_true rfl, Nat.le_of_ble_eq_true rfl⟩ dL_calls_13 ?_
  show KF E C 0 0 (st μ 16 0 1 (nI (K + 1))) 16 _ [.int (nI th)]
  refine k_istore (L' := [(4, .int (nI th)), (3, .int (nI K)), (0, .ref (ad E 0 0)), (1, .ref (ad E 16 0)), (2, .int (nI u))]) X dL_calls_16 (by decide) rfl ?_
  refine k_aload_n X 2 dL_calls_18 rfl rfl ?_
  refine k_iload_n X 4 dL_calls_19 rfl rfl ?_
  refine k_callV (a := 0) (o := 0) (As := [.int (nI u)]) (S := []) X lk_L_44 rfl (by decide) rfl hcl rfl rfl (Nat.le_of_ble_eq_true rfl) ⟨Nat.le_of_ble_eq_true rfl, Nat.le_of_ble_eq_true rfl⟩ ⟨Nat.le_of_ble_eq_true rfl, Nat.le_of_ble_eq_true rfl⟩ dL_calls_20 ?_
  show KF E C 0 0 μ2 23 _ [.int (nI K)]
  refine k_iload_n X 1 dL_calls_23 rfl rfl ?_
  refine k_icmp_ne_f (tgt := 82) X dL_calls_24 (by decide) rfl ?_
  refine k_aload_n X 2 dL_calls_27 rfl rfl ?_
  refine k_callV (a := 0) (o := 0) (As := []) (S := []) X lk_L_47 rfl (by decide) rfl (N_calls h2) rfl rfl (Nat.le_of_ble_eq_true rfl) ⟨Nat.le_of_ble_eq_true rfl, Nat.le_of_ble_eq_true rfl⟩ ⟨Nat.le_of_ble_eq_true rfl, Nat.le_of_ble_eq_true rfl⟩ dL_calls_28 ?_
  show KF E C 0 0 μ2 31 _ [.int (nI (K + 1))]
  refine k_aload_n X 3 dL_calls_31 rfl rfl ?_
  refine k_iconst X (nI 1) dL_calls_32 (by decide) ?_
  refine k_iald (a := 16) (j := 1) X rfl (by decide) rfl (show 1 < 14 by omega) (by decide) dL_calls_33 ?_
  refine k_val (y := nI (K + 1)) hk2 ?_
  refine k_icmp_ne_f (tgt := 82) X dL_calls_34 (by decide) rfl ?_
  refine k_aload_n X 2 dL_calls_37 rfl rfl ?_
  refine k_iload_n X 1 dL_calls_38 rfl rfl ?_
  refine k_callV (a := 0) (o := 0) (As := [.int (nI K)]) (S := []) X lk_L_50 rfl (by decide) rfl (N_answered h2 K (by omega)) rfl rfl (Nat.le_of_ble_eq_true rfl) ⟨Nat.le_of_ble_eq_true rfl, Nat.le_of_ble_eq_true rfl⟩ ⟨Nat.le_of_ble_eq_true rfl, Nat.le_of_ble_eq_true rfl⟩ dL_calls_39 ?_
  show KF E C 0 0 μ2 42 _ [.int (μ2 11 K 7)]
  refine k_iconst X (-1) dL_calls_42 (by decide) ?_
  refine k_icmp_ne_f (tgt := 82) X dL_calls_43 (by decide) h7 ?_
  refine k_iload X 0 dL_calls_46 rfl ?_
  refine k_if_gt (tgt := 59) X dL_calls_48 (by decide) (fun c48 => ?_) (fun c48 => ?_)
  · exact k_59
  · refine k_aload_n X 2 dL_calls_51 rfl rfl ?_
    refine k_iload_n X 1 dL_calls_52 rfl rfl ?_
    refine k_callV (a := 0) (o := 0) (As := [.int (nI K)]) (S := []) X lk_L_53 rfl (by decide) rfl (N_branches h2 K n (by omega) hn) rfl rfl (Nat.le_of_ble_eq_true rfl) ⟨Nat.le_of_ble_eq_true rfl, Nat.le_of_ble_eq_true rfl⟩ ⟨Nat.le_of_ble_eq_true rfl, Nat.le_of_ble_eq_true rfl⟩ dL_calls_53 ?_
    show KF E C 0 0 μ2 56 _ [.int (nI n)]
    refine k_if_ne_f (tgt := 82) X dL_calls_56 (by decide) (hn0 c48) ?_
    exact k_59
