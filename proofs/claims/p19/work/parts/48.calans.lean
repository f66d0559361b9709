/-! calls, answers and cancels answer true -/
theorem C_calls {E : EE} {K t q u : Nat} {μ : Mem} (h : JX K t q μ) (hK : K < 12) (hu : u < 6) : ∃ μ', MM E yL_calls cL_calls 10 (some .boolean) (rm 10 0) [.ref (ad E 0 0), .ref (ad E 16 0), .int (nI u)] μ (some (.int 1)) μ' ∧ JX (K + 1) t q μ' := by
  obtain ⟨hI, l0, l1, l2, l3, M, hM, l4, l5⟩ := h
  have a9 := (hI.2.2.2.2.2.2.2 K (Nat.le_refl K) (by omega)).2.2.2.2.1
  have h1 : IX K t q (st μ 16 0 1 (nI (K + 1))) := hI.cong fun k o i hk _ _ _ => st_k (by omega)
  generalize hμ1 : st μ 16 0 1 (nI (K + 1)) = μ1 at h1
  obtain ⟨hB, h6⟩ := h1.2.2.2.2.2.1 u hu
  obtain ⟨fT, p1, p2, p3⟩ := hB.pl (nI t)
  obtain ⟨c1, c2, c3, c4, c5, n, c6, c7, c8, c9, c10⟩ := h1.call hK hu
  generalize hth : coN μ1 u (-1) (nI t) = th at p1 p2 p3 h6 c7
  have hcl := N_call (E := E) h1 u hu hK
  have hb0 := N_bindings (E := E) h1 u th hu hth
  obtain ⟨hn12, hn⟩ := c6.n
  have ek : ∀ k i, 5 < k → k < 11 → clM μ1 u k u i = μ1 k u i := fun k i a b => c2 k u i (Or.inr (Or.inl ⟨a, b⟩)) (by omega)
  have hg : ∀ k, k < th → tN (μ1 7 u (fT k)) ≤ 10 ∧ μ1 7 u (fT k) = nI (tN (μ1 7 u (fT k))) := fun k hk => by
    obtain ⟨-, -, -, Q', q1, q2⟩ := p1 k hk
    rw [q2, tN_nI (by omega)]
    exact ⟨q1, rfl⟩
  have hta : ∀ k, taI (clM μ1 u) u (tN (clM μ1 u 6 u 4)) (nI k) (nI t) = taI μ1 u (tN (μ1 6 u 4)) (nI k) (nI t) := fun k => by
    rw [ek 6 4 (by decide) (by decide)]
    exact taI_cong (fun p _ => ek 10 p (by decide) (by decide)) (fun p _ => by unfold thB; rw [ek 9 _ (by decide) (by decide), ek 8 _ (by decide) (by decide)])
  have hbd : ∀ k, k < th → MM E yX2_binding cX2_binding 5 (some .int) (rm 3 0) [.ref (ad E 0 0), .int (nI u), .int (nI k)] (clM μ1 u) (some (.int (nI (100 * fT k + tN (μ1 7 u (fT k)))))) (clM μ1 u) := fun k hk => by
    obtain ⟨q1, -, q3, -⟩ := p1 k hk
    refine N_binding c1 u k _ hu (by rw [hta, q3]; exact nI_m1 (by omega)) ?_
    rw [hta, q3, tN_nI (by omega), ek 7 _ (by decide) (by decide), (hg k hk).2, show (100 : Int32) = nI 100 by decide, pk_mul, nI_add, tN_nI (by have := (hg k hk).1; omega)]
  have e16 : ∀ i, clM μ1 u 16 0 i = μ1 16 0 i := fun i => c2 16 0 i (Or.inr (Or.inr (by decide))) (by omega)
  have hsn := snF_sp (f := clM μ1 u 12 K) n (fun b hb => c6.1.2.2.1 b hb)
  have hk1 : clM μ1 u 16 0 1 = nI (K + 1) := by rw [e16, ← hμ1, st_same]
  rw [← hμ1] at hcl hb0
  refine ⟨_, C_L_calls l1 u th n (clM μ1 u) c1 hk1 hn12 hn hb0 (by rw [hμ1] at hcl ⊢; exact hcl) c4 (fun z => ?_) (fun z => ?_) c6.1.2.2.1 c6.1.2.2.2.1 (fun b hb z => ?_) (fun b hb z => ?_) fT (fun k => tN (μ1 7 u (fT k))) h6 (fun k hk => ⟨(p1 k hk).1, (hg k hk).1⟩) hbd (fun k hk z y => ?_), c1, ?_, hk1, ?_, fun d hd => ?_, M, hM, ?_, fun c hc => ?_⟩
  · have : th = 0 := by
      rcases Nat.eq_zero_or_pos th with w | w
      · exact w
      · exact absurd ((nI_ltI (a := 0) (by decide) (by omega)).mpr w) z
    rw [c7 this]; decide
  · have : n = 0 := by
      rcases Nat.eq_zero_or_pos n with w | w
      · exact w
      · exact absurd ((nI_ltI (a := 0) (by decide) (by omega)).mpr w) z
    exact c8 this
  · rcases c9 b hb with ⟨-, w⟩ | ⟨w, -⟩
    · exact w
    · exact absurd z w
  · rcases c9 b hb with ⟨w, -⟩ | ⟨-, w⟩
    · exact absurd w z
    · exact w
  · obtain ⟨q1, q2, -⟩ := p1 k hk
    have hlt : fT k < 10 := by
      rcases Nat.lt_or_ge (fT k) 10 with w | w
      · exact w
      · exact absurd ((nI_ltI (a := 9) (by decide) (by omega)).mpr (by omega)) z
    rcases c10 (fT k) hlt q2 with w | w
    · exact absurd (bit_yes hsn.1 (by omega) ((hsn.2 (fT k) hlt).mpr w)) y
    · rw [w]
  · rw [e16, ← hμ1, st_i (by decide)]; exact l0
  · rw [e16, ← hμ1, st_i (by decide)]; exact l2
  · rw [e16, c2 3 0 d (Or.inl (by decide)) (by omega), ← hμ1, st_i (by omega), st_k (by decide)]
    exact l3 d hd
  · rw [e16, ← hμ1, st_i (by decide)]; exact l4
  · by_cases e : c = K
    · subst e
      rw [c5, l5 c hc, a9]
    · rw [c3 11 c 9 (by decide) e, ← hμ1, st_k (by decide)]
      exact l5 c hc
theorem C_answers {E : EE} {K t q c aa : Nat} {x : Int32} {μ : Mem} (h : JX K t q μ) (hc : c < K) (haa : aa < 2 ^ 31) (hx : x = 180 ∨ (200 ≤ x ∧ ¬ 699 < x)) : ∃ μ', MM E yL_answers cL_answers 16 (some .boolean) (rm 6 0) [.ref (ad E 0 0), .ref (ad E 16 0), .int (nI c), .int (nI aa), .int x] μ (some (.int 1)) μ' ∧ JX K t q μ' := by
  have hJ := h
  obtain ⟨hI, l0, l1, l2, l3, M, hM, l4, l5⟩ := h
  have hK := hI.1
  obtain ⟨n, hR⟩ := hI.2.2.2.2.2.2.1 c hc
  obtain ⟨hn12, hn⟩ := hR.n
  rcases Nat.eq_zero_or_pos n with e0 | e0
  · refine ⟨μ, C_L_answers_0 hI c n hc hn12 hn aa x (by rw [e0]; decide) ?_, hJ⟩
    rcases hR.2.2 with ⟨-, b, hb, -⟩ | hE
    · omega
    · exact hE.1
  · have hz : ¬ nI n = 0 := nI_ne0 e0 (by omega)
    have hz2 : ¬ nI n ≤ 0 := nI_nle e0 (by omega)
    have hb : aa % n < n := Nat.mod_lt aa e0
    have hbm : nI aa - nI aa / nI n * nI n = nI (aa % n) := pk_rem haa e0 (by omega)
    generalize aa % n = b at hb hbm
    by_cases hno : μ 12 c b = -1 ∨ (¬ μ 14 c b = 100 ∧ ¬ μ 14 c b = 180)
    · exact ⟨μ, C_L_answers_1 hI c n hc hn12 hn aa b x hb hz hz2 hbm hno, hJ⟩
    · have hdv : ¬ μ 12 c b = -1 := fun z => hno (Or.inl z)
      have hop : sOp (μ 14 c b) := Classical.byContradiction fun z => hno (Or.inr ⟨fun y => z (Or.inl y), fun y => z (Or.inr y)⟩)
      obtain ⟨d, hd, ed⟩ := (hR.1.2.2.1 b hb).resolve_left hdv
      have hx2 : x = 180 ∨ 200 ≤ x := hx.elim Or.inl (fun z => Or.inr z.1)
      have hcd : ¬ (¬ x = 180 ∧ (x < 200 ∨ 699 < x)) := by
        rintro ⟨z, y⟩
        rcases hx with w | ⟨w, w2⟩
        · exact z w
        · rcases y with y | y
          · exact Int32.not_lt.mpr w y
          · exact w2 y
      obtain ⟨-, hok, -⟩ := an_open (cd := x) hR hb hop ed hd
      obtain ⟨g1, g2, g3, g4, g5, g6, g7, g8, g9⟩ := hI.answer hc hR hb hop ed hd hx2
      have han := N_answer (E := E) hI c d x hc hd hcd hok
      rw [← ed] at han g1 g2 g3 g4 g5 g6 g7 g8 g9
      generalize hμ2 : anM μ c (μ 12 c b) x = μ2 at han g1 g2 g3 g4 g5 g6 g7 g8 g9
      have hn2 : μ2 11 c 4 = nI n := g2.n.2
      have hbo := C_L_branchOf (E := E) g1 c n hc hn12 hn2 (μ 12 c b)
      rw [laI_at hb (decide_eq_true (g3 12 c b (by decide) (by decide))) (fun j hj z => by
        have e := of_decide_eq_true z
        rw [g3 12 c j (by decide) (by decide)] at e
        exact hR.1.2.2.2.1 j b hj hb e (by rw [e]; exact hdv))] at hbo
      have hf : μ 11 c 8 = -1 := by
        rcases hR.2.2 with ⟨o, -⟩ | hE
        · exact o.1
        · exact absurd (hE.2.1 b hb) (sOp_lt hop)
      have hJ2 : JX K t q μ2 := ⟨g1, hJ.2.cong (fun i => g3 16 0 i (by decide) (by decide)) (fun i => g3 3 0 i (by decide) (by decide)) g4⟩
      refine ⟨μ2, ?_, hJ2⟩
      by_cases e1 : x = 180
      · exact C_L_answers_r hI c n hc hn12 hn aa b x hb hz hz2 hbm K t q μ2 g1 hc hn2 hdv hop hf han g5 hbo e1 (g6 e1)
      · have e2 : ¬ x < 200 := Int32.not_lt.mpr (hx2.resolve_left e1)
        by_cases e3 : 300 ≤ x
        · by_cases e6 : x < 600
          · exact C_L_answers_n hI c n hc hn12 hn aa b x hb hz hz2 hbm K t q μ2 g1 hc hn2 hdv hop hf han g5 hbo e1 e2 e3 e6 (g8 (Or.inr e3))
          · obtain ⟨k1, k2⟩ := g9 (Int32.not_lt.mp e6)
            exact C_L_answers_a hI c n hc hn12 hn aa b x hb hz hz2 hbm K t q μ2 g1 hc hn2 hdv hop hf han g5 hbo e1 e2 e3 e6 k1 (g8 (Or.inr e3)) k2
        · obtain ⟨k1, k2, k3⟩ := g7 e1 e3
          exact C_L_answers_t hI c n hc hn12 hn aa b x hb hz hz2 hbm K t q μ2 g1 hc hn2 hdv hop hf han g5 hbo e1 e2 e3 (by simp only [Int32.le_iff_toInt_le, Int32.lt_iff_toInt_lt, i300, i600] at e3 ⊢; omega) k1 k2 k3
theorem C_cancels {E : EE} {K t q c : Nat} {μ : Mem} (h : JX K t q μ) (hc : c < K) : ∃ μ', MM E yL_cancels cL_cancels 7 (some .boolean) (rm 6 0) [.ref (ad E 0 0), .ref (ad E 16 0), .int (nI c)] μ (some (.int 1)) μ' ∧ JX K t q μ' := by
  have hJ := h
  obtain ⟨hI, l0, l1, l2, l3, M, hM, l4, l5⟩ := h
  have hK := hI.1
  obtain ⟨n, hR⟩ := hI.2.2.2.2.2.2.1 c hc
  obtain ⟨hn12, hn⟩ := hR.n
  by_cases hf : μ 11 c 8 = -1
  · have hOW : CO c n μ ∧ CW c n μ := by
      rcases hR.2.2 with o | hE
      · exact o
      · exact absurd hf hE.1
    obtain ⟨-, b0, hb0, hs0⟩ := hOW
    obtain ⟨b, hb, hpb, hrb⟩ : ∃ b, b < n ∧ sOp (μ 14 c b) ∧ laI (pG (μ 14 c)) n = nI b := by
      rcases laI_sp (p := pG (μ 14 c)) n with ⟨-, w⟩ | ⟨b, w1, w2, w3, -⟩
      · have := w b0 hb0
        rw [show pG (μ 14 c) b0 = true from decide_eq_true hs0] at this
        cases this
      · exact ⟨b, w1, of_decide_eq_true (p := μ 14 c b = 100 ∨ μ 14 c b = 180) w2, w3⟩
    obtain ⟨s1, s2, s3⟩ : μ 11 c 5 ≤ μ 13 c b ∧ ¬ μ 12 c b = -1 ∧ μ 15 c b = 0 := by
      rcases hR.2.1 b hb with ⟨w, -⟩ | ⟨-, w⟩ | w
      · rw [w] at hpb; rcases hpb with z | z <;> exact absurd z (by decide)
      · exact w
      · exact absurd w (sOp_lt hpb)
    obtain ⟨d, hd, ed⟩ := (hR.1.2.2.1 b hb).resolve_left s2
    obtain ⟨g1, g2, g3, g4, g5⟩ := CR_cancel hR hf
    obtain ⟨f1, f2, f3⟩ := hI.cancel hc hR hf
    obtain ⟨m1, m2, m3⟩ := bit_set hM (show c < 12 by omega)
    have e5 : caM μ c n 11 c 5 = μ 11 c 5 := by
      unfold caM
      rw [st_i (by decide), st_i (by decide), eoM_k (by decide)]
    generalize hμ2 : caM μ c n = μ2 at g1 g2 g3 g4 g5 f1 f2 f3 e5
    have h3 : IX K t q (st μ2 16 0 3 (nI (M ||| 2 ^ c))) := f1.cong fun k o i hk _ _ _ => st_k (by omega)
    generalize hμ3 : st μ2 16 0 3 (nI (M ||| 2 ^ c)) = μ3 at h3
    have k3 : ∀ k o i, k < 16 → μ3 k o i = μ2 k o i := fun k o i hk => by rw [← hμ3]; exact st_k (by omega)
    have h4 : IX K t q (st μ3 16 0 (4 + d) (μ3 16 0 (4 + d) + nI 1)) := h3.cong fun k o i hk _ _ _ => st_k (by omega)
    generalize hμ4 : st μ3 16 0 (4 + d) (μ3 16 0 (4 + d) + nI 1) = μ4 at h4
    have k4 : ∀ k o i, k < 16 → μ4 k o i = μ2 k o i := fun k o i hk => by rw [← hμ4, st_k (by omega)]; exact k3 k o i hk
    have hR4 : CR c n μ4 := g1.cong fun k i _ b => k4 k c i b
    obtain ⟨u1, u2, u3⟩ := h4.hung hc hR4 hb (by rw [k4 12 c b (by decide), f2 12 c b (by decide) (by decide)]; exact ed) hd (by rw [k4 11 c 5 (by decide), k4 13 c b (by decide), e5, f2 13 c b (by decide) (by decide)]; exact s1) (by rw [k4 14 c b (by decide), g5 b hb, if_neg (sOp_lt hpb)]) (by rw [k4 15 c b (by decide), f2 15 c b (by decide) (by decide)]; exact s3)
    have han := N_answer (E := E) h4 c d 200 hc hd (by decide) u1
    generalize hμ5 : anM μ4 c (nI d) 200 = μ5 at han u2 u3
    have k5 : ∀ k o i, k ≠ 15 → ¬ (k = 3 ∧ o = 0 ∧ i = d) → μ5 k o i = μ4 k o i := fun k o i a z => by
      rw [u2, show st (st μ4 15 c b 1) 3 0 d (μ4 3 0 d + 1) k o i = st μ4 15 c b 1 k o i from if_neg z]
      exact st_k a
    have e53 : μ5 3 0 d = μ 3 0 d + 1 := by rw [u2, st_same, k4 3 0 d (by decide), f2 3 0 d (by decide) (by decide)]
    have e16 : ∀ i, i ≠ 3 → i ≠ 4 + d → μ5 16 0 i = μ 16 0 i := fun i a z => by
      rw [k5 16 0 i (by decide) (by omega), ← hμ4, st_i z, ← hμ3, st_i a]
      exact f2 16 0 i (by decide) (by decide)
    have e164 : μ5 16 0 (4 + d) = μ 3 0 d + 1 := by
      rw [k5 16 0 (4 + d) (by decide) (by omega), ← hμ4, st_same, ← hμ3, st_i (by omega), f2 16 0 (4 + d) (by decide) (by decide), l3 d hd]
      rfl
    have e163 : μ5 16 0 3 = nI (M ||| 2 ^ c) := by rw [k5 16 0 3 (by decide) (by omega), ← hμ4, st_i (by omega), ← hμ3, st_same]
    refine ⟨μ5, C_L_cancels_o hI c n hc hn12 hn b d M (M ||| 2 ^ c) μ3 μ4 μ5 hb hd hf hrb (by rw [hμ2]; exact f1) (by rw [hμ2]; exact g2) (by rw [hμ2]; exact g3) (by rw [hμ2, f2 16 0 3 (by decide) (by decide)]; exact l4) m1 (by rw [hμ2]; exact hμ3) h3 (by rw [k3 11 c 4 (by decide)]; exact g1.n.2) (by rw [k3 12 c b (by decide), f2 12 c b (by decide) (by decide)]; exact ed) hμ4 han u3 (by rw [k5 11 c 4 (by decide) (by omega), k4 11 c 4 (by decide)]; exact g1.n.2) (by rw [k5 11 c 8 (by decide) (by omega), k4 11 c 8 (by decide)]; exact g2) (e53.trans e164.symm) (by rw [k5 14 c b (by decide) (by omega), k4 14 c b (by decide), g5 b hb, if_neg (sOp_lt hpb)]), u3, ?_, ?_, ?_, fun d' hd' => ?_, M ||| 2 ^ c, m2, e163, fun c' hc' => ?_⟩
    · exact (e16 0 (by decide) (by omega)).trans l0
    · exact (e16 1 (by decide) (by omega)).trans l1
    · exact (e16 2 (by decide) (by omega)).trans l2
    · by_cases z : d' = d
      · subst z; rw [e164, e53]
      · rw [e16 (4 + d') (by omega) (by omega), k5 3 0 d' (by decide) (by omega), k4 3 0 d' (by decide), f2 3 0 d' (by decide) (by decide)]
        exact l3 d' hd'
    · rw [m3, k5 11 c' 9 (by decide) (by omega), k4 11 c' 9 (by decide)]
      by_cases z : c' = c
      · subst z
        rw [decide_eq_true rfl, Bool.or_true, decide_eq_false g4]
        rfl
      · rw [decide_eq_false z, Bool.or_false, f3 c' 9 z]
        exact l5 c' hc'
  · have h2 : IX K t q (fsM μ c n) := hI.cong fun k o i _ _ _ a => fsM_k a
    exact ⟨_, C_L_cancels_e hI c n hc hn12 hn hR hf h2, hJ.cong fun k o i a => fsM_k a⟩
