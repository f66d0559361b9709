/-! the relation of the two, whole -/
def RB (u : Nat) (μ ν : Mem) : Prop := ∃ (m : Nat) (o : Nat → Nat), m ≤ 16 ∧ μ 6 u 4 = nI m ∧ ν 22 0 u = nI m ∧ (∀ p, p < m → o p < 16 ∧ μ 10 u p = nI (o p) ∧ ν 21 0 (16 * u + p) = nI (o p)) ∧ (∀ p p', p < m → p' < m → o p = o p' → p = p') ∧ ∀ t, t < 16 → (μ 9 u t = -1 ∧ ν 17 0 (16 * u + t) = 0 ∧ ∀ p, p < m → o p ≠ t) ∨ (0 ≤ μ 9 u t ∧ ν 17 0 (16 * u + t) = 1 ∧ (∃ p, p < m ∧ o p = t) ∧ μ 7 u t = ν 19 0 (16 * u + t) ∧ μ 8 u t = ν 18 0 (16 * u + t) ∧ μ 9 u t = ν 20 0 (16 * u + t) ∧ ∃ q, q ≤ 10 ∧ μ 7 u t = nI q)
def RNew (c : Nat) (μ ν : Mem) : Prop := μ 11 c 4 = 0 ∧ μ 11 c 5 = 11 ∧ μ 11 c 7 = -1 ∧ μ 11 c 8 = -1 ∧ μ 11 c 9 = 0 ∧ (∀ b, b < 12 → μ 15 c b = 0) ∧ ν 25 0 c = 0 ∧ ν 26 0 c = 0 ∧ μ 11 c 6 = 0 ∧ ν 27 0 c = 0
def RelX (n K t : Nat) (μ ν : Mem) : Prop := t ≤ 100 * n ∧ K ≤ 20 ∧ μ 0 0 5 = nI K ∧ ν 16 0 8 = nI K ∧ μ 0 0 6 = nI t ∧ ν 16 0 1 = nI t ∧ (∀ d, d < 10 → μ 3 0 d = ν 32 0 d) ∧ (∀ u, u < 6 → RB u μ ν) ∧ (∀ c, c < K → CR c μ ν t) ∧ ∀ c, K ≤ c → c < 20 → RNew c μ ν
def Rel (n : Nat) (μ : Mem) : Prop := ∃ K t, RelX n K t μ μ
theorem RB.cong {u : Nat} {μ ν μ' ν' : Mem} (h : RB u μ ν) (hA : ∀ k i, 6 ≤ k → k < 11 → μ' k u i = μ k u i) (hB : ∀ k i, 17 ≤ k → k < 23 → ν' k 0 i = ν k 0 i) : RB u μ' ν' := by
  obtain ⟨m, o, h1, h2, h3, h4, h5, h6⟩ := h
  refine ⟨m, o, h1, by rw [hA 6 4 (by decide) (by decide)]; exact h2, by rw [hB 22 u (by decide) (by decide)]; exact h3, fun p hp => ?_, h5, fun t ht => ?_⟩
  · rw [hA 10 p (by decide) (by decide), hB 21 (16 * u + p) (by decide) (by decide)]
    exact h4 p hp
  · rw [hA 9 t (by decide) (by decide), hA 7 t (by decide) (by decide), hA 8 t (by decide) (by decide), hB 17 (16 * u + t) (by decide) (by decide), hB 18 (16 * u + t) (by decide) (by decide), hB 19 (16 * u + t) (by decide) (by decide), hB 20 (16 * u + t) (by decide) (by decide)]
    exact h6 t ht
theorem RNew.cong {c : Nat} {μ ν μ' ν' : Mem} (h : RNew c μ ν) (hA : ∀ i, μ' 11 c i = μ 11 c i) (hA2 : ∀ i, μ' 15 c i = μ 15 c i) (h25 : ν' 25 0 c = ν 25 0 c) (h26 : ν' 26 0 c = ν 26 0 c) (h27 : ν' 27 0 c = ν 27 0 c) : RNew c μ' ν' := by
  obtain ⟨a1, a2, a3, a4, a5, a6, a7, a8, a9, a10⟩ := h
  exact ⟨by rw [hA]; exact a1, by rw [hA]; exact a2, by rw [hA]; exact a3, by rw [hA]; exact a4, by rw [hA]; exact a5, fun b hb => by rw [hA2]; exact a6 b hb, by rw [h25]; exact a7, by rw [h26]; exact a8, by rw [hA]; exact a9, by rw [h27]; exact a10⟩
/-- the class's part and the reference's part may come from different memories -/
theorem RelX.cong {n K t : Nat} {μ ν μ' ν' : Mem} (h : RelX n K t μ ν) (hA : ∀ k o i, k < 16 → μ' k o i = μ k o i) (hB : ∀ k o i, 16 < k → k < 33 → ν' k o i = ν k o i) (h8 : ν' 16 0 8 = ν 16 0 8) (h1 : ν' 16 0 1 = ν 16 0 1) : RelX n K t μ' ν' := by
  obtain ⟨a1, a2, a3, a4, a5, a6, a7, a8, a9, a10⟩ := h
  refine ⟨a1, a2, by rw [hA _ _ _ (by decide)]; exact a3, by rw [h8]; exact a4, by rw [hA _ _ _ (by decide)]; exact a5, by rw [h1]; exact a6, fun d hd => by rw [hA _ _ _ (by decide), hB _ _ _ (by decide) (by decide)]; exact a7 d hd, fun u hu => (a8 u hu).cong (fun k i _ _ => hA k u i (by omega)) (fun k i _ _ => hB k 0 i (by omega) (by omega)), fun c hc => (a9 c hc).cong (Nat.le_refl t) (fun k i _ _ => hA k c i (by omega)) (fun k _ _ => hB k 0 c (by omega) (by omega)) (fun k b _ _ _ => hB k 0 _ (by omega) (by omega)), fun c hc hc2 => (a10 c hc hc2).cong (fun i => hA 11 c i (by decide)) (fun i => hA 15 c i (by decide)) (hB 25 0 c (by decide) (by decide)) (hB 26 0 c (by decide) (by decide)) (hB 27 0 c (by decide) (by decide))⟩
theorem RelX.BI {n K t : Nat} {μ ν : Mem} (h : RelX n K t μ ν) : BI μ := by
  intro u hu
  obtain ⟨m, o, h1, h2, h3, h4, h5, h6⟩ := h.2.2.2.2.2.2.2.1 u hu
  rw [h2, tN_nI (by omega)]
  refine ⟨vN_nI h1 (by decide), fun p hp => ?_⟩
  rw [(h4 p hp).2.1]
  have := (h4 p hp).1
  exact vN_nI (by omega) (by decide)
theorem RelX.MB {n K t : Nat} {μ ν : Mem} (h : RelX n K t μ ν) : MB ν := by
  intro u hu
  obtain ⟨m, o, h1, h2, h3, h4, h5, h6⟩ := h.2.2.2.2.2.2.2.1 u hu
  rw [h3, tN_nI (by omega)]
  refine ⟨vN_nI h1 (by decide), fun p hp => ?_⟩
  rw [(h4 p hp).2.2]
  have := (h4 p hp).1
  exact vN_nI (by omega) (by decide)
theorem RelX.KI {n K t : Nat} {μ ν : Mem} (h : RelX n K t μ ν) : KI μ := by
  intro c hc
  by_cases hK : c < K
  · obtain ⟨nb, h1, h2, -, -, -, ⟨s, h3, h4⟩, -⟩ := h.2.2.2.2.2.2.2.2.1 c hK
    rw [h2, h4]
    exact ⟨vN_nI h1 (by decide), vN_nI h3 (by decide)⟩
  · obtain ⟨h1, h2, -⟩ := h.2.2.2.2.2.2.2.2.2 c (by omega) hc
    rw [h1, h2]
    exact ⟨vN_nI (n := 0) (by decide) (by decide), vN_nI (n := 11) (by decide) (by decide)⟩
theorem CRn.QW {c n t : Nat} {μ ν : Mem} (h : CRn c n μ ν t) : QW ν c n := by
  obtain ⟨-, -, -, hw, -, -, hl, -⟩ := h
  refine ⟨fun b hb => ?_, fun b hb => ?_, hl.1, hl.2⟩
  · obtain ⟨-, -, w3, -, -, ⟨x, hx, w6⟩⟩ := hw b hb
    rw [← w3, w6]
    exact nI_pos' (by omega)
  · obtain ⟨-, w2, -, -, ⟨q, hq, w5⟩, -⟩ := hw b hb
    rw [← w2, w5]
    exact nI_pos' (by omega)
theorem RelX.MI {n K t : Nat} {μ ν : Mem} (h : RelX n K t μ ν) : MI ν := by
  intro c hc
  by_cases hK : c < K
  · obtain ⟨nb, h9⟩ := h.2.2.2.2.2.2.2.2.1 c hK
    have q := h9.QW
    obtain ⟨h1, h2, h3, -⟩ := h9
    rw [h3, tN_nI (by omega)]
    exact ⟨vN_nI h1 (by decide), q⟩
  · obtain ⟨-, -, -, -, -, -, h1, h2, -⟩ := h.2.2.2.2.2.2.2.2.2 c (by omega) hc
    rw [h1]
    refine ⟨vN_nI (n := 0) (by decide) (by decide), fun b hb => absurd hb (Nat.not_lt_zero b), fun b hb => absurd hb (Nat.not_lt_zero b), by rw [h2]; decide, by rw [h2]; decide⟩
theorem RelX.vK {n K t : Nat} {μ ν : Mem} (h : RelX n K t μ ν) : vN (μ 0 0 5) 20 ∧ vN (ν 16 0 8) 20 := by
  rw [h.2.2.1, h.2.2.2.1]
  exact ⟨vN_nI h.2.1 (by decide), vN_nI h.2.1 (by decide)⟩
/-! a tick -/
theorem tick_10 {t s0 : Nat} (ht : t < 2 ^ 30) (h : s0 ≤ t) : (10 ≤ nI t - nI s0 ↔ s0 + 10 ≤ t) ∧ (¬ nI t < nI s0 + 10 ↔ s0 + 10 ≤ t) := by
  constructor
  · rw [show (nI t - nI s0 : Int32) = nI (t - s0) from pk_sub h]
    rw [show (10 : Int32) = nI 10 by decide, nI_leI (by decide) (by omega)]
    omega
  · rw [show (10 : Int32) = nI 10 by decide, nI_add, nI_ltI (by omega) (by omega)]
    omega
theorem up_same {ν : Mem} {k o a n : Nat} {g : Nat → Int32} (h : ∀ i, i < n → g i = ν k o (a + i)) : up ν k o a n g = ν := by
  funext k' o' i
  unfold up
  by_cases q : k' = k ∧ o' = o ∧ a ≤ i ∧ i < a + n
  · rw [if_pos q, h (i - a) (by omega), q.1, q.2.1, show a + (i - a) = i by omega]
  · rw [if_neg q]
theorem CR_tick {c t : Nat} {μ ν : Mem} (ht : t < 2 ^ 30) (h : CR c μ ν t) (hnow : ν 16 0 1 = nI t) : CR c (etM μ c (tN (μ 11 c 4)) (tN (μ 11 c 5)) (nI t)) (mpS ν c) t ∧ (etI μ c (tN (μ 11 c 4)) (tN (μ 11 c 5)) (nI t) = 0 ↔ ¬ (ν 23 0 c = -1 ∧ ¬ mpS ν c 23 0 c = -1)) := by
  obtain ⟨n, h0⟩ := h
  have h1 := h0
  obtain ⟨hn, e1, e2, hw, hd, ⟨s, hs, es⟩, hl, hx⟩ := h0
  rw [e1, es, tN_nI (by omega), tN_nI (by omega)]
  rcases hx with ⟨ho, hwt⟩ | he
  · have hn0 : n ≠ 0 := by
      rintro rfl
      obtain ⟨i, hi, -⟩ := anB_ex hwt
      omega
    have ho1 := ho
    obtain ⟨o1, o2, o3, o4, o5, o6, ⟨s0, o7, o8, o9⟩, o10, o11⟩ := ho
    obtain ⟨k1, k2⟩ := tick_10 ht o7
    have em : mpS ν c = mGo (mrM ν c n) c := by unfold mpS; rw [if_pos o2, e2, tN_nI (by omega)]
    by_cases hT : s0 + 10 ≤ t
    · have ec : etM μ c n s (nI t) = goOnM (rgM μ c n) c n s (nI t) := by
        unfold etM
        rw [if_pos o1, o8, if_pos (k1.mpr hT)]
      have rg14 : ∀ b, b < n → rgM μ c n 14 c b = if μ 11 c 5 ≤ μ 13 c b ∧ ¬ 200 ≤ μ 14 c b then 408 else μ 14 c b := fun b hb => up_in0 hb
      have mr30 : ∀ b, b < n → mrM ν c n 30 0 (12 * c + b) = rgM μ c n 14 c b := fun b hb => by
        obtain ⟨w1, w2, w3, -⟩ := hw b hb
        rw [rg14 b hb]
        refine (up_in hb).trans ?_
        show (if (¬ ν 29 0 (12 * c + b) < ν 26 0 c) ∧ (¬ 200 ≤ ν 30 0 (12 * c + b)) ∧ ¬ ν 16 0 1 < ν 27 0 c + 10 then 408 else ν 30 0 (12 * c + b)) = _
        rw [← w2, ← w3, ← o6, hnow, o9]
        by_cases z : μ 11 c 5 ≤ μ 13 c b ∧ ¬ 200 ≤ μ 14 c b
        · rw [if_pos z, if_pos ⟨by have := z.1; simp only [Int32.le_iff_toInt_le, Int32.lt_iff_toInt_lt] at this ⊢; omega, z.2, k2.mpr hT⟩]
        · rw [if_neg z, if_neg (fun q => z ⟨by have := q.1; simp only [Int32.le_iff_toInt_le, Int32.lt_iff_toInt_lt] at this ⊢; omega, q.2.1⟩)]
      have rk : ∀ k o i, k ≠ 14 → rgM μ c n k o i = μ k o i := fun k o i h => up_k h
      have mk : ∀ k o i, k ≠ 30 → mrM ν c n k o i = ν k o i := fun k o i h => up_k h
      have hcr : CRn c n (goOnM (rgM μ c n) c n s (nI t)) (mGo (mrM ν c n) c) t := by
        refine goOn_CR hn hn0 (by rw [rk _ _ _ (by decide)]; exact e1) (by rw [mk _ _ _ (by decide)]; exact e2) (fun b hb => ?_) (fun b b' hb hb' => ?_) hs (by rw [rk _ _ _ (by decide)]; exact es) (by rw [mk _ _ _ (by decide)]; exact hl) ?_ rfl (by rw [mk _ _ _ (by decide)]; exact hnow)
        · obtain ⟨w1, w2, w3, w4, w5, ⟨x, hx, w6⟩⟩ := hw b hb
          refine ⟨by rw [rk _ _ _ (by decide), mk _ _ _ (by decide)]; exact w1, by rw [rk _ _ _ (by decide), mk _ _ _ (by decide)]; exact w2, (mr30 b hb).symm, by rw [rk _ _ _ (by decide), mk _ _ _ (by decide)]; exact w4, by rw [rk _ _ _ (by decide)]; exact w5, ?_⟩
          rw [rg14 b hb]
          split
          · exact ⟨408, by decide, by decide⟩
          · exact ⟨x, hx, w6⟩
        · rw [rk _ _ _ (by decide), rk _ _ _ (by decide)]
          exact hd b b' hb hb'
        · refine ⟨by rw [rk _ _ _ (by decide)]; exact o1, by rw [mk _ _ _ (by decide)]; exact o2, by rw [rk _ _ _ (by decide)]; exact o3, by rw [mk _ _ _ (by decide)]; exact o4, by rw [rk _ _ _ (by decide)]; exact o5, by rw [rk _ _ _ (by decide), mk _ _ _ (by decide)]; exact o6, ⟨s0, o7, by rw [rk _ _ _ (by decide)]; exact o8, by rw [mk _ _ _ (by decide)]; exact o9⟩, fun b hb q => ?_, fun b hb q1 q2 => ?_⟩
          · rw [rg14 b hb] at q ⊢
            by_cases z : μ 11 c 5 ≤ μ 13 c b ∧ ¬ 200 ≤ μ 14 c b
            · rw [if_pos z]; exact ⟨by decide, by decide⟩
            · rw [if_neg z] at q ⊢; exact o10 b hb q
          · rw [rk _ _ _ (by decide), rk _ _ _ (by decide)] at q1
            rw [rg14 b hb] at q2 ⊢
            have z : ¬ (μ 11 c 5 ≤ μ 13 c b ∧ ¬ 200 ≤ μ 14 c b) := fun z => by
              have := z.1
              simp only [Int32.le_iff_toInt_le, Int32.lt_iff_toInt_lt] at this q1; omega
            rw [if_neg z] at q2 ⊢
            exact o11 b hb q1 q2
      rw [ec, em]
      refine ⟨⟨n, hcr⟩, ?_⟩
      have ei : etI μ c n s (nI t) = bp (¬ goOnM (rgM μ c n) c n s (nI t) 11 c 8 = -1) := by
        unfold etI
        rw [if_pos o1, o8, if_pos (k1.mpr hT)]
      rw [ei, bp_0]
      obtain ⟨-, -, -, -, -, -, -, hx⟩ := hcr
      rcases hx with ⟨⟨p1, p2, -⟩, -⟩ | ⟨p1, p2, -⟩
      · exact ⟨fun _ q => q.2 p2, fun _ q => q p1⟩
      · exact ⟨fun q => absurd p1 q, fun q => absurd ⟨o2, by rw [← p2]; exact p1⟩ q⟩
    · have ec : etM μ c n s (nI t) = μ := by
        unfold etM
        rw [if_pos o1, o8, if_neg (fun q => hT (k1.mp q))]
      have ei : etI μ c n s (nI t) = 0 := by
        unfold etI
        rw [if_pos o1, o8, if_neg (fun q => hT (k1.mp q))]
      have emr : mrM ν c n = ν := up_same fun b hb => by
        show (if (¬ ν 29 0 (12 * c + b) < ν 26 0 c) ∧ (¬ 200 ≤ ν 30 0 (12 * c + b)) ∧ ¬ ν 16 0 1 < ν 27 0 c + 10 then 408 else ν 30 0 (12 * c + b)) = _
        rw [if_neg (fun q => by
          have := q.2.2
          rw [hnow, o9] at this
          exact hT (k2.mp this))]
      have eg : mGo ν c = ν := by
        unfold mGo
        refine mgM_stop (fun q => q.2 ?_)
        rw [e2, tN_nI (by omega), (open_GQ hw es hl ho1 hnow).busy]
        exact hwt
      rw [ec, em, emr, eg]
      exact ⟨⟨n, h1⟩, fun _ q => q.2 o2, fun _ => ei⟩
  · have ho1 := he.1
    have ho2 : ¬ ν 23 0 c = -1 := by rw [← he.2.1]; exact ho1
    have ec : etM μ c n s (nI t) = μ := by unfold etM; rw [if_neg ho1]
    have ei : etI μ c n s (nI t) = 0 := by unfold etI; rw [if_neg ho1]
    have em : mpS ν c = ν := by unfold mpS; rw [if_neg ho2]
    rw [ec, em]
    exact ⟨⟨n, h1⟩, fun _ q => ho2 q.1, fun _ => ei⟩
