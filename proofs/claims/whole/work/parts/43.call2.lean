def WY (μ0 : Mem) (l : List Nat) (μ : Mem) : Prop := (∀ i, i < l.length → μ 4 0 i = nI (l.getD i 0)) ∧ ∀ u, μ 6 u 4 = μ0 6 u 4
theorem PR.vn {c : Nat} {μ ν : Mem} (h : PR c μ ν) : vN (μ 11 c 4) 12 := by
  obtain ⟨-, -, n, h1, h2, -⟩ := h
  rw [h2]
  exact vN_nI h1 (by decide)
theorem WY.ad {μ0 μ ν : Mem} {l : List Nat} {c : Nat} {x y : Int32} (h : WY μ0 l μ) (hp : PR c μ ν) (hw : ∀ i, adM μ c x y 4 0 i = μ 4 0 i) : WY μ0 l (adM μ c x y) := ⟨fun i hi => by rw [hw]; exact h.1 i hi, fun u => by rw [(adM_FC hp.vn).1.1 6 u 4 (by decide) (by decide) (by decide) (by decide) (by decide)]; exact h.2 u⟩
theorem WY.ae {μ0 μ ν : Mem} {l : List Nat} {c : Nat} {y z : Int32} (h : WY μ0 l μ) (hp : PR c μ ν) (hw : ∀ i, aeM μ c y z 4 0 i = μ 4 0 i) : WY μ0 l (aeM μ c y z) := ⟨fun i hi => by rw [hw]; exact h.1 i hi, fun u => by rw [(aeM_FC hp.vn).1.1 6 u 4 (by decide) (by decide) (by decide) (by decide) (by decide)]; exact h.2 u⟩
/-- the way holds x: one of those on it -/
theorem ow_1 {μ0 μ : Mem} {a : Nat} {x : Int32} (h : WY μ0 [a] μ) : owB μ x 1 = true ↔ x = nI a := by
  have h0 : μ 4 0 0 = nI a := h.1 0 (by simp)
  show ((false || decide (μ 4 0 0 = x)) = true) ↔ _
  rw [h0, Bool.false_or, decide_eq_true_iff]
  exact ⟨fun q => q.symm, fun q => q.symm⟩
theorem ow_2 {μ0 μ : Mem} {a b : Nat} {x : Int32} (h : WY μ0 [a, b] μ) : owB μ x 2 = true ↔ (x = nI a ∨ x = nI b) := by
  have h0 : μ 4 0 0 = nI a := h.1 0 (by simp)
  have h1 : μ 4 0 1 = nI b := h.1 1 (by simp)
  show (((false || decide (μ 4 0 0 = x)) || decide (μ 4 0 1 = x)) = true) ↔ _
  rw [h0, h1, Bool.false_or, Bool.or_eq_true, decide_eq_true_iff, decide_eq_true_iff]
  exact ⟨fun q => q.imp (fun z => z.symm) (fun z => z.symm), fun q => q.imp (fun z => z.symm) (fun z => z.symm)⟩
theorem ow_3 {μ0 μ : Mem} {a b d : Nat} {x : Int32} (h : WY μ0 [a, b, d] μ) : owB μ x 3 = true ↔ (x = nI a ∨ x = nI b ∨ x = nI d) := by
  have h0 : μ 4 0 0 = nI a := h.1 0 (by simp)
  have h1 : μ 4 0 1 = nI b := h.1 1 (by simp)
  have h2 : μ 4 0 2 = nI d := h.1 2 (by simp)
  show ((((false || decide (μ 4 0 0 = x)) || decide (μ 4 0 1 = x)) || decide (μ 4 0 2 = x)) = true) ↔ _
  rw [h0, h1, h2, Bool.false_or, Bool.or_eq_true, Bool.or_eq_true, decide_eq_true_iff, decide_eq_true_iff, decide_eq_true_iff]
  constructor
  · rintro ((q | q) | q)
    · exact Or.inl q.symm
    · exact Or.inr (Or.inl q.symm)
    · exact Or.inr (Or.inr q.symm)
  · rintro (q | q | q)
    · exact Or.inl (Or.inl q.symm)
    · exact Or.inl (Or.inr q.symm)
    · exact Or.inr q.symm
theorem mD_lt {T : Nat} (h : T < 10) : mD T = nI T := if_pos ((us_lt (by omega)).mpr h)
theorem mD_ge {T : Nat} (h : ¬ T < 10) (h2 : T < 16) : mD T = -1 := if_neg (fun q => h ((us_lt (by omega)).mp q))
/-- what a binding at a place says, in both -/
theorem RB.at {u p : Nat} {μ ν : Mem} (h : RB u μ ν) (hn : μ 0 0 6 = ν 16 0 1) (hp : p < tN (μ 6 u 4)) : ∃ T, T < 16 ∧ tN (μ 10 u p) = T ∧ tN (ν 21 0 (16 * u + p)) = T ∧ thB μ u (μ 0 0 6) T = mtB ν u T ∧ μ 7 u T = ν 19 0 (16 * u + T) ∧ ∃ q, q ≤ 10 ∧ μ 7 u T = nI q := by
  have h9 := h
  obtain ⟨m, o, h1, h2, h3, h4, h5, h6⟩ := h
  rw [h2, tN_nI (by omega)] at hp
  obtain ⟨k1, k2, k3⟩ := h4 p hp
  refine ⟨o p, k1, by rw [k2, tN_nI (by omega)], by rw [k3, tN_nI (by omega)], th_eq h9 k1 hn, ?_⟩
  rcases h6 (o p) k1 with ⟨-, -, z⟩ | ⟨-, -, -, z, -, -, w⟩
  · exact absurd rfl (z p hp)
  · exact ⟨z, w⟩
theorem L3_eq {c a b d Q : Nat} {q : Int32} {μ0 μ ν : Mem} (hd : d < 6) (hq : q = nI Q) (hQ : Q ≤ 10) (h : PR c μ ν) (hw : WY μ0 [a, b, d] μ) : ∀ p, p ≤ tN (μ 6 d 4) → PR c (fuL (cu3 c) 2 c d q p μ) (v3L c a b d q p ν) ∧ WY μ0 [a, b, d] (fuL (cu3 c) 2 c d q p μ)
  | 0, _ => ⟨h, hw⟩
  | p + 1, hp => by
    obtain ⟨i1, i2⟩ := L3_eq hd hq hQ h hw p (by omega)
    show PR c (fuS (cu3 c) 2 c d q p (fuL (cu3 c) 2 c d q p μ)) (v3S c a b d q p (v3L c a b d q p ν)) ∧ WY μ0 [a, b, d] (fuS (cu3 c) 2 c d q p (fuL (cu3 c) 2 c d q p μ))
    have e6 : tN (fuL (cu3 c) 2 c d q p μ 6 d 4) = tN (μ 6 d 4) := by rw [i2.2 d, hw.2 d]
    generalize fuL (cu3 c) 2 c d q p μ = μp at i1 i2 e6
    generalize v3L c a b d q p ν = νp at i1
    obtain ⟨T, t1, t2, t3, t4, -⟩ := (i1.1 d hd).at (p := p) i1.2.1 (by rw [e6]; omega)
    unfold fuS v3S
    rw [t2, t3, t4]
    by_cases ht : mtB νp d T = true
    · rw [if_pos ht, if_pos ht]
      by_cases hT : T < 10
      · rw [if_pos hT, mD_lt hT, if_pos ((us_lt (by omega)).mpr hT), if_neg (show ¬ (2 = 0) by decide)]
        obtain ⟨g1, g2⟩ := PR_ad i1 hq hQ (nI_ne1 (show T < 2 ^ 31 by omega))
        exact ⟨g1, i2.ad i1 g2⟩
      · have hno : ¬ nI T - 10 < 0 := fun z => hT ((us_lt (by omega)).mp z)
        rw [if_neg hT, mD_ge hT t1, if_neg hno, us_ge (by omega) hno, if_neg (show ¬ (2 = 0) by decide)]
        unfold cu3 cuG
        by_cases ho : owB μp (nI (T - 10)) 3 = true
        · rw [if_pos ho, if_pos ((ow_3 i2).mp ho)]
          obtain ⟨g1, g2⟩ := PR_ae (z := 482) i1 hq hQ (Or.inl rfl)
          exact ⟨g1, i2.ae i1 g2⟩
        · rw [if_neg ho, if_pos (show 2 < 3 by decide), if_neg (fun z => ho ((ow_3 i2).mpr z))]
          obtain ⟨g1, g2⟩ := PR_ae (z := 483) i1 hq hQ (Or.inr rfl)
          exact ⟨g1, i2.ae i1 g2⟩
    · rw [if_neg ht, if_neg ht]
      exact ⟨i1, i2⟩
/-- the way gets one place more -/
theorem PR.way {c b : Nat} {x : Int32} {μ ν : Mem} (h : PR c μ ν) : PR c (st μ 4 0 b x) ν := by
  obtain ⟨h1, h2, n, h3⟩ := h
  refine ⟨fun u hu => (h1 u hu).cong (fun k i _ _ => st_k (by omega)) (fun _ _ _ _ => rfl), by rw [st_k (by decide)]; exact h2, n, ?_⟩
  obtain ⟨a1, a2, a3, a4, a5⟩ := h3
  exact ⟨a1, by rw [st_k (by decide)]; exact a2, a3, fun b hb => by rw [st_k (by decide), st_k (by decide), st_k (by decide)]; exact a4 b hb, fun b b' hb hb' => by rw [st_k (by decide), st_k (by decide)]; exact a5 b b' hb hb'⟩
theorem WY.more {μ0 μ : Mem} {l : List Nat} {d : Nat} (h : WY μ0 l μ) : WY μ0 (l ++ [d]) (st μ 4 0 l.length (nI d)) := by
  refine ⟨fun i hi => ?_, fun u => by rw [st_k (by decide)]; exact h.2 u⟩
  rw [List.length_append] at hi
  by_cases e : i = l.length
  · subst e
    rw [st_same]
    simp
  · have hi2 : i < l.length := by
      have : [d].length = 1 := rfl
      omega
    rw [st_i e, h.1 i hi2]
    simp [List.getElem?_append_left hi2]
theorem WY.less {μ0 μ : Mem} {l l' : List Nat} (h : WY μ0 (l ++ l') μ) : WY μ0 l μ := by
  refine ⟨fun i hi => ?_, h.2⟩
  rw [h.1 i (by rw [List.length_append]; omega)]
  simp [List.getElem?_append_left hi]
theorem F2_eq {c a b d Q : Nat} {q : Int32} {μ0 μ ν : Mem} (hd : d < 6) (hq : q = nI Q) (hQ : Q ≤ 10) (h : PR c μ ν) (hw : WY μ0 [a, b] μ) : PR c (fu2 c d q μ) (v3M c a b d q ν) ∧ WY μ0 [a, b] (fu2 c d q μ) := by
  unfold fu2 fuG v3M
  obtain ⟨m, o, k1, k2, k3, -⟩ := h.1 d hd
  have e : tN (ν 22 0 d) = tN (μ 6 d 4) := by rw [k2, k3]
  rw [e]
  have hw3 : WY μ0 [a, b, d] (st μ 4 0 2 (nI d)) := hw.more
  have := L3_eq (a := a) (b := b) hd hq hQ (h.way (b := 2) (x := nI d)) hw3 (tN (μ 6 d 4)) (by rw [st_k (by decide)]; exact Nat.le_refl _)
  exact ⟨this.1, WY.less (l := [a, b]) (l' := [d]) this.2⟩
theorem L2_eq {c a b Q : Nat} {q : Int32} {μ0 μ ν : Mem} (hb : b < 6) (hq : q = nI Q) (hQ : Q ≤ 10) (h : PR c μ ν) (hw : WY μ0 [a, b] μ) : ∀ p, p ≤ tN (μ 6 b 4) → PR c (fuL (cu2 c) 1 c b q p μ) (v2L c a b q p ν) ∧ WY μ0 [a, b] (fuL (cu2 c) 1 c b q p μ)
  | 0, _ => ⟨h, hw⟩
  | p + 1, hp => by
    obtain ⟨i1, i2⟩ := L2_eq hb hq hQ h hw p (by omega)
    show PR c (fuS (cu2 c) 1 c b q p (fuL (cu2 c) 1 c b q p μ)) (v2S c a b q p (v2L c a b q p ν)) ∧ WY μ0 [a, b] (fuS (cu2 c) 1 c b q p (fuL (cu2 c) 1 c b q p μ))
    have e6 : tN (fuL (cu2 c) 1 c b q p μ 6 b 4) = tN (μ 6 b 4) := by rw [i2.2 b, hw.2 b]
    generalize fuL (cu2 c) 1 c b q p μ = μp at i1 i2 e6
    generalize v2L c a b q p ν = νp at i1
    obtain ⟨T, t1, t2, t3, t4, -⟩ := (i1.1 b hb).at (p := p) i1.2.1 (by rw [e6]; omega)
    unfold fuS v2S
    rw [t2, t3, t4]
    by_cases ht : mtB νp b T = true
    · rw [if_pos ht, if_pos ht]
      by_cases hT : T < 10
      · have hlt : nI T - 10 < 0 := (us_lt (by omega)).mpr hT
        rw [if_pos hT, mD_lt hT, if_pos (Or.inl hlt), if_pos hlt, if_neg (show ¬ (1 = 0) by decide)]
        obtain ⟨g1, g2⟩ := PR_ad i1 hq hQ (nI_ne1 (show T < 2 ^ 31 by omega))
        exact ⟨g1, i2.ad i1 g2⟩
      · have hno : ¬ nI T - 10 < 0 := fun z => hT ((us_lt (by omega)).mp z)
        rw [if_neg hT, mD_ge hT t1, if_neg hno, us_ge (by omega) hno, if_neg (show ¬ (1 = 0) by decide)]
        have hno2 : ¬ nI (T - 10) < 0 := nI_pos (by omega)
        unfold cu2 cuG
        by_cases ho : owB μp (nI (T - 10)) 2 = true
        · rw [if_pos ho, if_pos (Or.inr ((ow_2 i2).mp ho))]
          obtain ⟨g1, g2⟩ := PR_ae (z := 482) i1 hq hQ (Or.inl rfl)
          exact ⟨g1, i2.ae i1 g2⟩
        · rw [if_neg ho, if_neg (show ¬ 2 < 2 by decide), if_neg (fun z => z.elim hno2 (fun w => ho ((ow_2 i2).mpr w)))]
          exact F2_eq (by omega) hq hQ i1 i2
    · rw [if_neg ht, if_neg ht]
      exact ⟨i1, i2⟩
theorem F1_eq {c a b Q : Nat} {q : Int32} {μ0 μ ν : Mem} (hb : b < 6) (hq : q = nI Q) (hQ : Q ≤ 10) (h : PR c μ ν) (hw : WY μ0 [a] μ) : PR c (fu1 c b q μ) (v2M c a b q ν) ∧ WY μ0 [a] (fu1 c b q μ) := by
  unfold fu1 fuG v2M
  obtain ⟨m, o, k1, k2, k3, -⟩ := h.1 b hb
  have e : tN (ν 22 0 b) = tN (μ 6 b 4) := by rw [k2, k3]
  rw [e]
  have hw3 : WY μ0 [a, b] (st μ 4 0 1 (nI b)) := hw.more
  have := L2_eq (a := a) hb hq hQ (h.way (b := 1) (x := nI b)) hw3 (tN (μ 6 b 4)) (by rw [st_k (by decide)]; exact Nat.le_refl _)
  exact ⟨this.1, WY.less (l := [a]) (l' := [b]) this.2⟩
theorem L1_eq {c a : Nat} {q0 : Int32} {μ0 μ ν : Mem} (ha : a < 6) (h : PR c μ ν) (hw : WY μ0 [a] μ) : ∀ p, p ≤ tN (μ 6 a 4) → PR c (fuL (cu1 c) 0 c a q0 p μ) (v1L c a p ν) ∧ WY μ0 [a] (fuL (cu1 c) 0 c a q0 p μ)
  | 0, _ => ⟨h, hw⟩
  | p + 1, hp => by
    obtain ⟨i1, i2⟩ := L1_eq (q0 := q0) ha h hw p (by omega)
    show PR c (fuS (cu1 c) 0 c a q0 p (fuL (cu1 c) 0 c a q0 p μ)) (v1S c a p (v1L c a p ν)) ∧ WY μ0 [a] (fuS (cu1 c) 0 c a q0 p (fuL (cu1 c) 0 c a q0 p μ))
    have e6 : tN (fuL (cu1 c) 0 c a q0 p μ 6 a 4) = tN (μ 6 a 4) := by rw [i2.2 a, hw.2 a]
    generalize fuL (cu1 c) 0 c a q0 p μ = μp at i1 i2 e6
    generalize v1L c a p ν = νp at i1
    obtain ⟨T, t1, t2, t3, t4, t5, Q, hQ, t6⟩ := (i1.1 a ha).at (p := p) i1.2.1 (by rw [e6]; omega)
    unfold fuS v1S
    rw [t2, t3, t4, if_pos (show (0 : Nat) = 0 from rfl), ← t5]
    by_cases ht : mtB νp a T = true
    · rw [if_pos ht, if_pos ht]
      by_cases hT : T < 10
      · have hlt : nI T - 10 < 0 := (us_lt (by omega)).mpr hT
        rw [if_pos hT, mD_lt hT, if_pos (Or.inl hlt), if_pos hlt]
        obtain ⟨g1, g2⟩ := PR_ad i1 t6 hQ (nI_ne1 (show T < 2 ^ 31 by omega))
        exact ⟨g1, i2.ad i1 g2⟩
      · have hno : ¬ nI T - 10 < 0 := fun z => hT ((us_lt (by omega)).mp z)
        rw [if_neg hT, mD_ge hT t1, if_neg hno, us_ge (by omega) hno]
        have hno2 : ¬ nI (T - 10) < 0 := nI_pos (by omega)
        unfold cu1 cuG
        by_cases ho : owB μp (nI (T - 10)) 1 = true
        · rw [if_pos ho, if_pos (Or.inr ((ow_1 i2).mp ho))]
          obtain ⟨g1, g2⟩ := PR_ae (z := 482) i1 t6 hQ (Or.inl rfl)
          exact ⟨g1, i2.ae i1 g2⟩
        · rw [if_neg ho, if_neg (show ¬ 2 < 1 by decide), if_neg (fun z => z.elim hno2 (fun w => ho ((ow_1 i2).mpr w)))]
          exact F1_eq (by omega) t6 hQ i1 i2
    · rw [if_neg ht, if_neg ht]
      exact ⟨i1, i2⟩
theorem F0_eq {c a : Nat} {q0 : Int32} {μ ν : Mem} (ha : a < 6) (h : PR c μ ν) : PR c (fu0 c a q0 μ) (v1M c a ν) := by
  unfold fu0 fuG v1M
  obtain ⟨m, o, k1, k2, k3, -⟩ := h.1 a ha
  have e : tN (ν 22 0 a) = tN (μ 6 a 4) := by rw [k2, k3]
  rw [e]
  have hw0 : WY μ [] μ := ⟨fun i hi => absurd hi (Nat.not_lt_zero i), fun _ => rfl⟩
  have hw1 : WY μ [a] (st μ 4 0 0 (nI a)) := hw0.more
  exact (L1_eq (q0 := q0) ha (h.way (b := 0) (x := nI a)) hw1 (tN (μ 6 a 4)) (by rw [st_k (by decide)]; exact Nat.le_refl _)).1
