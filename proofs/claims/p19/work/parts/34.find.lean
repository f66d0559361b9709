/-! finding branches -/
def BQ (μ : Mem) : Prop := ∃ q, ∀ u, u < 6 → RB q u μ
theorem BQ.fr {μ μ' : Mem} (h : BQ μ) (f : FR μ μ') : BQ μ' := by
  obtain ⟨q, h⟩ := h
  exact ⟨q, fun u hu => (h u hu).cong (Nat.le_refl q) (fun k i a b => f.1 k u i (by omega) (by omega) (by omega) (by omega) (by omega))⟩
theorem BQ.bi {μ : Mem} (h : BQ μ) : BI μ := by
  obtain ⟨q, h⟩ := h
  exact fun u hu => (h u hu).bi
theorem BQ.at {μ : Mem} (h : BQ μ) {u p : Nat} (hu : u < 6) (hp : p < tN (μ 6 u 4)) : ∃ T, T < 16 ∧ μ 10 u p = nI T ∧ tN (μ 10 u p) = T ∧ ∃ Q, Q ≤ 10 ∧ μ 7 u T = nI Q := by
  obtain ⟨q, h⟩ := h
  obtain ⟨m, o, b1, b2, b3, b4, b5⟩ := h u hu
  rw [b2, tN_nI (by omega)] at hp
  obtain ⟨h1, h2⟩ := b3 p hp
  refine ⟨o p, h1, h2, by rw [h2, tN_nI (by omega)], ?_⟩
  rcases b5 (o p) h1 with ⟨-, c⟩ | ⟨-, -, c⟩
  · exact absurd rfl (c p hp)
  · exact c
theorem PC.vn {c n : Nat} {μ : Mem} (h : PC c n μ) : vN (μ 11 c 4) 12 ∧ tN (μ 11 c 4) = n := by
  rw [h.2.1, tN_nI (by have := h.1; omega)]
  exact ⟨vN_nI h.1 (by decide), rfl⟩
theorem PC_push {c n Q : Nat} {x y z : Int32} {μ : Mem} (h : PC c n μ) (hn : n < 12) (hy : y = nI Q) (hQ : Q ≤ 10) (hz : (z = 0 ∧ ¬ x = -1) ∨ ((z = 482 ∨ z = 483) ∧ x = -1)) (hx0 : dvP x) (hx : x = -1 ∨ ∀ b, b < n → ¬ μ 12 c b = x) : PC c (n + 1) (addM μ c n x y z) ∧ (∀ b, b < n → addM μ c n x y z 12 c b = μ 12 c b) ∧ addM μ c n x y z 12 c n = x := by
  obtain ⟨p1, p2, p3, p4, p5, p6⟩ := h
  have e12 : ∀ b, addM μ c n x y z 12 c b = if b = n then x else μ 12 c b := fun b => by
    unfold addM
    rw [if_pos hn]
    by_cases e : b = n <;> simp [st, e]
  have e13 : ∀ b, addM μ c n x y z 13 c b = if b = n then y else μ 13 c b := fun b => by
    unfold addM
    rw [if_pos hn]
    by_cases e : b = n <;> simp [st, e]
  have e14 : ∀ b, addM μ c n x y z 14 c b = if b = n then z else μ 14 c b := fun b => by
    unfold addM
    rw [if_pos hn]
    by_cases e : b = n <;> simp [st, e]
  have e4 : addM μ c n x y z 11 c 4 = nI (n + 1) := by
    unfold addM
    rw [if_pos hn, st_same]
  refine ⟨⟨hn, e4, fun b hb => ?_, fun b b' hb hb' q1 q2 => ?_, fun b hb => ?_, fun b hb => ?_⟩, fun b hb => by rw [e12, if_neg (by omega)], by rw [e12, if_pos rfl]⟩
  · rw [e12]
    split
    · exact hx0
    · exact p3 b (by omega)
  · rw [e12] at q1 q2
    rw [e12] at q1
    by_cases a : b = n
    · by_cases a' : b' = n
      · rw [a, a']
      · rw [if_pos a, if_neg a'] at q1
        rw [if_pos a] at q2
        rcases hx with hx | hx
        · exact absurd hx q2
        · exact absurd q1.symm (hx b' (by omega))
    · by_cases a' : b' = n
      · rw [if_neg a, if_pos a'] at q1
        rw [if_neg a] at q2
        rcases hx with hx | hx
        · rw [q1] at q2; exact absurd hx q2
        · exact absurd q1 (hx b (by omega))
      · rw [if_neg a, if_neg a'] at q1
        rw [if_neg a] at q2
        exact p4 b b' (by omega) (by omega) q1 q2
  · rw [e13]
    split
    · exact ⟨Q, hQ, hy⟩
    · exact p5 b (by omega)
  · rw [e14, e12]
    split
    · exact hz
    · exact p6 b (by omega)
/-- what finding does to the branches found so far: nothing -/
def FX (c : Nat) (μ μ' : Mem) : Prop := FC c μ μ' ∧ ∀ n, PC c n μ → ∃ n', n ≤ n' ∧ PC c n' μ' ∧ ∀ b, b < n → μ' 12 c b = μ 12 c b
theorem FX.refl (c : Nat) (μ : Mem) : FX c μ μ := ⟨FC.refl c μ, fun n h => ⟨n, Nat.le_refl n, h, fun _ _ => rfl⟩⟩
theorem FX.trans {c : Nat} {a b d : Mem} (h : FX c a b) (h2 : FX c b d) : FX c a d := ⟨h.1.trans h2.1, fun n hp => by
  obtain ⟨n1, a1, a2, a3⟩ := h.2 n hp
  obtain ⟨n2, b1, b2, b3⟩ := h2.2 n1 a2
  exact ⟨n2, by omega, b2, fun i hi => (b3 i (by omega)).trans (a3 i hi)⟩⟩
def HasD (c : Nat) (x : Int32) (μ : Mem) : Prop := (∃ b, b < tN (μ 11 c 4) ∧ μ 12 c b = x) ∨ tN (μ 11 c 4) = 12
theorem FX.has {c n : Nat} {x : Int32} {μ μ' : Mem} (h : FX c μ μ') (hp : PC c n μ) (hd : HasD c x μ) : HasD c x μ' := by
  obtain ⟨n', a1, a2, a3⟩ := h.2 n hp
  unfold HasD at hd ⊢
  rw [hp.vn.2] at hd
  rw [a2.vn.2]
  rcases hd with ⟨b, hb, e⟩ | e
  · exact Or.inl ⟨b, by omega, (a3 b hb).trans e⟩
  · have := a2.1
    exact Or.inr (by omega)
theorem nI_lt10 {T : Nat} (h : T < 10) : dvP (nI T) ∧ ¬ nI T = -1 := ⟨Or.inr ⟨T, h, rfl⟩, nI_m1 (by omega)⟩
theorem ad_FX {c n T Q : Nat} {y : Int32} {μ : Mem} (hp : PC c n μ) (hT : T < 10) (hy : y = nI Q) (hQ : Q ≤ 10) : FX c μ (adM μ c (nI T) y) ∧ HasD c (nI T) (adM μ c (nI T) y) := by
  have hv := hp.vn
  refine ⟨⟨adM_FC hv.1, fun n2 h2 => ?_⟩, ?_⟩
  · have e : n2 = n := by rw [← hv.2, h2.vn.2]
    subst e
    unfold adM
    rw [hv.2]
    by_cases z : frI (fun b => decide (μ 12 c b = nI T)) n2 = -1
    · rw [if_pos z]
      have hno : ∀ b, b < n2 → ¬ μ 12 c b = nI T := fun b hb q => by
        have h1 := fs_ex (p := fun b => decide (μ 12 c b = nI T)) hb (decide_eq_true q)
        unfold frI at z
        rw [if_pos h1] at z
        exact nI_m1 (by have := hp.1; omega) z
      by_cases h12 : n2 < 12
      · obtain ⟨g1, g2, -⟩ := PC_push (x := nI T) (y := y) (z := 0) hp h12 hy hQ (Or.inl ⟨rfl, (nI_lt10 hT).2⟩) (nI_lt10 hT).1 (Or.inr hno)
        exact ⟨n2 + 1, by omega, g1, g2⟩
      · unfold addM
        rw [if_neg h12]
        exact ⟨n2, Nat.le_refl _, hp, fun _ _ => rfl⟩
    · rw [if_neg z]
      exact ⟨n2, Nat.le_refl _, hp, fun _ _ => rfl⟩
  · unfold adM HasD
    rw [hv.2]
    by_cases z : frI (fun b => decide (μ 12 c b = nI T)) n = -1
    · rw [if_pos z]
      have hno : ∀ b, b < n → ¬ μ 12 c b = nI T := fun b hb q => by
        have h1 := fs_ex (p := fun b => decide (μ 12 c b = nI T)) hb (decide_eq_true q)
        unfold frI at z
        rw [if_pos h1] at z
        exact nI_m1 (by have := hp.1; omega) z
      by_cases h12 : n < 12
      · obtain ⟨g1, g2, g3⟩ := PC_push (x := nI T) (y := y) (z := 0) hp h12 hy hQ (Or.inl ⟨rfl, (nI_lt10 hT).2⟩) (nI_lt10 hT).1 (Or.inr hno)
        rw [g1.vn.2]
        exact Or.inl ⟨n, by omega, g3⟩
      · unfold addM
        rw [if_neg h12, hv.2]
        exact Or.inr (by have := hp.1; omega)
    · rw [if_neg z, hv.2]
      obtain ⟨h1, h2⟩ := frI_b z
      exact Or.inl ⟨_, h1, of_decide_eq_true (fsB_spec h1).1⟩
theorem ae_FX {c Q : Nat} {y z : Int32} {μ : Mem} (hv : vN (μ 11 c 4) 12) (hy : y = nI Q) (hQ : Q ≤ 10) (hz : z = 482 ∨ z = 483) : FX c μ (aeM μ c y z) := by
  refine ⟨aeM_FC hv, fun n hp => ?_⟩
  unfold aeM
  rw [hp.vn.2]
  by_cases h12 : n < 12
  · obtain ⟨g1, g2, -⟩ := PC_push (x := -1) (y := y) (z := z) hp h12 hy hQ (Or.inr ⟨hz, rfl⟩) (Or.inl rfl) (Or.inl rfl)
    exact ⟨n + 1, by omega, g1, g2⟩
  · unfold addM
    rw [if_neg h12]
    exact ⟨n, Nat.le_refl _, hp, fun _ _ => rfl⟩
theorem PC.cong {c n : Nat} {μ μ' : Mem} (hA : ∀ k i, 11 ≤ k → k < 16 → μ' k c i = μ k c i) (h : PC c n μ) : PC c n μ' := by
  have e11 : ∀ i, μ' 11 c i = μ 11 c i := fun i => hA 11 i (by decide) (by decide)
  have e12 : ∀ i, μ' 12 c i = μ 12 c i := fun i => hA 12 i (by decide) (by decide)
  have e13 : ∀ i, μ' 13 c i = μ 13 c i := fun i => hA 13 i (by decide) (by decide)
  have e14 : ∀ i, μ' 14 c i = μ 14 c i := fun i => hA 14 i (by decide) (by decide)
  unfold PC at h ⊢
  simp only [e11, e12, e13, e14]
  exact h
theorem way_FX {μ : Mem} {c b : Nat} {x : Int32} : FX c μ (st μ 4 0 b x) := ⟨way_FC, fun n h => ⟨n, Nat.le_refl n, h.cong (fun k i hk _ => st_k (by omega)), fun _ _ => st_k (by decide)⟩⟩
/-- what a follower of users keeps to -/
def FY (c : Nat) (G : Nat → Int32 → Mem → Mem) : Prop := ∀ (μ : Mem) (u Q : Nat), u < 6 → Q ≤ 10 → BQ μ → (∃ n, PC c n μ) → FX c μ (G u (nI Q) μ)
theorem FX.keep {c n : Nat} {μ μ' : Mem} (h : FX c μ μ') (hB : BQ μ) (hp : PC c n μ) : BQ μ' ∧ ∃ n, PC c n μ' := by
  obtain ⟨n', -, a2, -⟩ := h.2 n hp
  exact ⟨hB.fr h.1.1, n', a2⟩
theorem cuG_FX {c b : Nat} {F : Nat → Int32 → Mem → Mem} (hF : b ≤ 2 → FY c F) : FY c (cuG F b c) := by
  intro μ u Q hu hQ hB ⟨n, hp⟩
  unfold cuG
  split
  · exact ae_FX hp.vn.1 rfl hQ (Or.inl rfl)
  · split
    · exact ae_FX hp.vn.1 rfl hQ (Or.inr rfl)
    · exact hF (by omega) μ u Q hu hQ hB ⟨n, hp⟩
theorem fuS_FX {c b u p n Q : Nat} {qw : Int32} {G : Nat → Int32 → Mem → Mem} {μ : Mem} (hG : FY c G) (hu : u < 6) (hB : BQ μ) (hp : PC c n μ) (hpm : p < tN (μ 6 u 4)) (hq : b = 0 ∨ (qw = nI Q ∧ Q ≤ 10)) : FX c μ (fuS G b c u qw p μ) := by
  obtain ⟨T, h1, h2, h3, Q2, h4, h5⟩ := hB.at hu hpm
  unfold fuS
  rw [h3]
  split
  · have hqq : ∃ Q3, Q3 ≤ 10 ∧ (if b = 0 then μ 7 u T else qw) = nI Q3 := by
      by_cases z : b = 0
      · rw [if_pos z]; exact ⟨Q2, h4, h5⟩
      · rw [if_neg z]
        rcases hq with q | ⟨q, q2⟩
        · exact absurd q z
        · exact ⟨Q, q2, q⟩
    obtain ⟨Q3, h6, h7⟩ := hqq
    split
    · rename_i hT
      exact (ad_FX hp hT h7 h6).1
    · rw [h7]
      exact hG μ (T - 10) Q3 (by omega) h6 hB ⟨n, hp⟩
  · exact FX.refl c μ
theorem fuL_FX {c b u Q : Nat} {qw : Int32} {G : Nat → Int32 → Mem → Mem} {μ : Mem} {n : Nat} (hG : FY c G) (hu : u < 6) (hB : BQ μ) (hp : PC c n μ) (hq : b = 0 ∨ (qw = nI Q ∧ Q ≤ 10)) : ∀ p, p ≤ tN (μ 6 u 4) → FX c μ (fuL G b c u qw p μ)
  | 0, _ => FX.refl c μ
  | p + 1, h => by
    have h1 := fuL_FX hG hu hB hp hq p (by omega)
    obtain ⟨k1, n1, k2⟩ := h1.keep hB hp
    have e6 : fuL G b c u qw p μ 6 u 4 = μ 6 u 4 := h1.1.1.1 6 u 4 (by decide) (by decide) (by decide) (by decide) (by decide)
    exact h1.trans (fuS_FX hG hu k1 k2 (by rw [e6]; omega) hq)
theorem fuG_FX {c b : Nat} {G : Nat → Int32 → Mem → Mem} (hG : FY c G) : FY c (fuG G b c) := by
  intro μ u Q hu hQ hB ⟨n, hp⟩
  have hw := way_FX (μ := μ) (c := c) (b := b) (x := nI u)
  obtain ⟨k1, n1, k2⟩ := hw.keep hB hp
  exact hw.trans (fuL_FX hG hu k1 k2 (Or.inr ⟨rfl, hQ⟩) _ (by rw [st_k (by decide)]; exact Nat.le_refl _))
theorem cu3_FY (c : Nat) : FY c (cu3 c) := cuG_FX (fun q => absurd q (by decide))
theorem fu2_FY (c : Nat) : FY c (fu2 c) := fuG_FX (cu3_FY c)
theorem cu2_FY (c : Nat) : FY c (cu2 c) := cuG_FX (fun _ => fu2_FY c)
theorem fu1_FY (c : Nat) : FY c (fu1 c) := fuG_FX (cu2_FY c)
theorem cu1_FY (c : Nat) : FY c (cu1 c) := cuG_FX (fun _ => fu1_FY c)
/-- all branches of a call are found -/
theorem fu0_sp {c u : Nat} {μ : Mem} (hu : u < 6) (hB : BQ μ) (hp : PC c 0 μ) : ∃ n', PC c n' (fu0 c u (-1) μ) ∧ FC c μ (fu0 c u (-1) μ) ∧ (coN μ u (-1) (μ 0 0 6) = 0 → n' = 0) ∧ ∀ t, t < 10 → thB μ u (μ 0 0 6) t = true → (∃ b, b < n' ∧ fu0 c u (-1) μ 12 c b = nI t) ∨ n' = 12 := by
  have hw := way_FX (μ := μ) (c := c) (b := 0) (x := nI u)
  obtain ⟨k1, -, -⟩ := hw.keep hB hp
  have k2 : PC c 0 (st μ 4 0 0 (nI u)) := hp.cong (fun k i hk _ => st_k (by omega))
  have em : tN (st μ 4 0 0 (nI u) 6 u 4) = tN (μ 6 u 4) := by rw [st_k (by decide)]
  have hth : ∀ t, thB (st μ 4 0 0 (nI u)) u (μ 0 0 6) t = thB μ u (μ 0 0 6) t := fun t => by
    unfold thB
    rw [st_k (by decide), st_k (by decide)]
  have key : ∀ p, p ≤ tN (μ 6 u 4) → FX c (st μ 4 0 0 (nI u)) (fuL (cu1 c) 0 c u (-1) p (st μ 4 0 0 (nI u))) ∧
      ((∀ j, j < p → thB μ u (μ 0 0 6) (tN (μ 10 u j)) = false) → fuL (cu1 c) 0 c u (-1) p (st μ 4 0 0 (nI u)) = st μ 4 0 0 (nI u)) ∧
      ∀ j, j < p → tN (μ 10 u j) < 10 → thB μ u (μ 0 0 6) (tN (μ 10 u j)) = true → HasD c (nI (tN (μ 10 u j))) (fuL (cu1 c) 0 c u (-1) p (st μ 4 0 0 (nI u))) := by
    intro p
    induction p with
    | zero => exact fun _ => ⟨FX.refl c _, fun _ => rfl, fun j hj => absurd hj (Nat.not_lt_zero j)⟩
    | succ p ih =>
      intro hle
      obtain ⟨i1, i2, i3⟩ := ih (by omega)
      obtain ⟨m1, n1, m2⟩ := i1.keep k1 k2
      have f := i1.1.1.1
      have e6 : fuL (cu1 c) 0 c u (-1) p (st μ 4 0 0 (nI u)) 6 u 4 = μ 6 u 4 := (f 6 u 4 (by decide) (by decide) (by decide) (by decide) (by decide)).trans (st_k (by decide))
      have e10 : fuL (cu1 c) 0 c u (-1) p (st μ 4 0 0 (nI u)) 10 u p = μ 10 u p := (f 10 u p (by decide) (by decide) (by decide) (by decide) (by decide)).trans (st_k (by decide))
      have e06 : fuL (cu1 c) 0 c u (-1) p (st μ 4 0 0 (nI u)) 0 0 6 = μ 0 0 6 := (f 0 0 6 (by decide) (by decide) (by decide) (by decide) (by decide)).trans (st_k (by decide))
      have eth : ∀ t, thB (fuL (cu1 c) 0 c u (-1) p (st μ 4 0 0 (nI u))) u (μ 0 0 6) t = thB μ u (μ 0 0 6) t := fun t => by
        rw [← hth t]
        unfold thB
        rw [f 9 u t (by decide) (by decide) (by decide) (by decide) (by decide), f 8 u t (by decide) (by decide) (by decide) (by decide) (by decide)]
      have hS := fuS_FX (b := 0) (p := p) (Q := 0) (qw := -1) (cu1_FY c) hu m1 m2 (by rw [e6]; omega) (Or.inl rfl)
      refine ⟨i1.trans hS, fun hz => ?_, fun j hj hT ht => ?_⟩
      · show fuS (cu1 c) 0 c u (-1) p (fuL (cu1 c) 0 c u (-1) p (st μ 4 0 0 (nI u))) = _
        unfold fuS
        rw [e06, e10, eth, hz p (by omega)]
        exact i2 fun j hj => hz j (by omega)
      · by_cases e : j = p
        · subst e
          show HasD c _ (fuS (cu1 c) 0 c u (-1) j (fuL (cu1 c) 0 c u (-1) j (st μ 4 0 0 (nI u))))
          unfold fuS
          obtain ⟨T, h1, h2, h3, Q2, h4, h5⟩ := m1.at hu (p := j) (by rw [e6]; omega)
          rw [e10] at h2 h3
          rw [e06, e10, eth, if_pos ht, if_pos hT, if_pos rfl, h3]
          rw [h3] at hT
          exact (ad_FX m2 hT h5 h4).2
        · exact hS.has m2 (i3 j (by omega) hT ht)
  obtain ⟨g1, g2, g3⟩ := key (tN (μ 6 u 4)) (Nat.le_refl _)
  obtain ⟨n', a1, a2, a3⟩ := g1.2 0 k2
  have eM : fu0 c u (-1) μ = fuL (cu1 c) 0 c u (-1) (tN (μ 6 u 4)) (st μ 4 0 0 (nI u)) := rfl
  rw [eM]
  obtain ⟨q, hq⟩ := hB
  obtain ⟨m, o, b1, b2, b3, b4, b5⟩ := hq u hu
  have hm : tN (μ 6 u 4) = m := by rw [b2, tN_nI (by omega)]
  refine ⟨n', a2, hw.1.trans g1.1, fun hz => ?_, fun t ht hth9 => ?_⟩
  · have := g2 fun j hj => by
      rw [hm] at hj
      obtain ⟨h1, h2⟩ := b3 j hj
      rw [h2, tN_nI (by omega)]
      rw [coN_m1] at hz
      cases e : thB μ u (μ 0 0 6) (o j)
      · rfl
      · have := ct_lt e (m := 16) h1
        omega
    rw [this] at a2
    have h1 := a2.vn.2
    have h2 := k2.vn.2
    omega
  · have hex : ∃ p, p < m ∧ o p = t := by
      rcases b5 t (by omega) with ⟨c9, -⟩ | ⟨-, c9, -⟩
      · exfalso
        unfold thB at hth9
        rw [decide_eq_true c9] at hth9
        cases hth9
      · exact c9
    obtain ⟨p, hp1, hp2⟩ := hex
    have e10 : tN (μ 10 u p) = t := by rw [(b3 p hp1).2, tN_nI (by have := (b3 p hp1).1; omega), hp2]
    have := g3 p (by omega) (by rw [e10]; exact ht) (by rw [e10]; exact hth9)
    rw [e10] at this
    unfold HasD at this
    rw [a2.vn.2] at this
    exact this
