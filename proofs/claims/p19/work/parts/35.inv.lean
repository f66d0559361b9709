/-! what holds of the object: K calls, the time t, q registrations -/
def IX (K t q : Nat) (μ : Mem) : Prop := K ≤ 12 ∧ μ 0 0 5 = nI K ∧ μ 0 0 6 = nI t ∧ t < 2 ^ 20 ∧ q < 2 ^ 20 ∧ (∀ u, u < 6 → RB q u μ ∧ coN μ u (-1) (nI t) ≤ 6) ∧ (∀ c, c < K → ∃ n, CR c n μ) ∧ ∀ c, K ≤ c → c < 20 → RNew c μ
theorem IX.K5 {K t q : Nat} {μ : Mem} (h : IX K t q μ) : tN (μ 0 0 5) = K ∧ vN (μ 0 0 5) 20 := by
  have := h.1
  rw [h.2.1, tN_nI (by omega)]
  exact ⟨rfl, vN_nI (by omega) (by decide)⟩
theorem IX.bq {K t q : Nat} {μ : Mem} (h : IX K t q μ) : BQ μ := ⟨q, fun u hu => (h.2.2.2.2.2.1 u hu).1⟩
theorem IX.ki {K t q : Nat} {μ : Mem} (h : IX K t q μ) : KI μ := by
  intro c hc
  by_cases e : c < K
  · obtain ⟨n, ⟨a1, a2, -, -, -, s, a3, a4⟩, -⟩ := h.2.2.2.2.2.2.1 c e
    rw [a2, a4]
    exact ⟨vN_nI a1 (by decide), vN_nI a3 (by decide)⟩
  · obtain ⟨a1, a2, -⟩ := h.2.2.2.2.2.2.2 c (by omega) hc
    rw [a1, a2]
    exact ⟨vN_nI (n := 0) (by decide) (by decide), vN_nI (n := 11) (by decide) (by decide)⟩
theorem ok_c {K c : Nat} {μ : Mem} (h : μ 0 0 5 = nI K) (hK : K ≤ 20) (hc : c < K) : okC μ (nI c) := by
  unfold okC
  rw [h, nI_s1 (by omega)]
  rintro (q | q)
  · exact nI_pos (by omega) q
  · rw [nI_ltI (by omega) (by omega)] at q
    omega
theorem ok_b {c n b : Nat} {μ : Mem} (h : μ 11 c 4 = nI n) (hc : c < 20) (hn : n ≤ 12) (hb : b < n) : okB μ (nI c) (nI b) := by
  unfold okB
  rw [tN_nI (by omega), h, nI_s1 (by omega)]
  rintro (q | q)
  · exact nI_pos (by omega) q
  · rw [nI_ltI (by omega) (by omega)] at q
    omega
theorem RNew.cong {c : Nat} {μ μ' : Mem} (h : RNew c μ) (h11 : ∀ i, μ' 11 c i = μ 11 c i) (h15 : ∀ i, μ' 15 c i = μ 15 c i) : RNew c μ' := by
  unfold RNew at h ⊢
  simp only [h11, h15]
  exact h
theorem coN_cong {μ μ' : Mem} {u : Nat} {x now : Int32} (h9 : ∀ i, μ' 9 u i = μ 9 u i) (h8 : ∀ i, μ' 8 u i = μ 8 u i) : coN μ' u x now = coN μ u x now := ctB_cong fun i _ => by unfold coB thB; rw [h9, h8]
/-- nothing but one call, the sorting row, the way and the counts of hang-ups has changed -/
theorem IX.call1 {K t q c : Nat} {μ μ' : Mem} (h : IX K t q μ) (hcr : ∃ n, CR c n μ') (hc : c < K) (hA : ∀ k o i, k < 16 → k ≠ 3 → k ≠ 4 → k ≠ 5 → ¬ (11 ≤ k ∧ o = c) → μ' k o i = μ k o i) : IX K t q μ' := by
  obtain ⟨h1, h2, h3, h4, h5, h6, h7, h8⟩ := h
  have g : ∀ k o i, k < 11 → k ≠ 3 → k ≠ 4 → k ≠ 5 → μ' k o i = μ k o i := fun k o i a b d e => hA k o i (by omega) b d e (by omega)
  refine ⟨h1, by rw [g 0 0 5 (by decide) (by decide) (by decide) (by decide)]; exact h2, by rw [g 0 0 6 (by decide) (by decide) (by decide) (by decide)]; exact h3, h4, h5, fun u hu => ⟨(h6 u hu).1.cong (Nat.le_refl q) (fun k i a b => g k u i b (by omega) (by omega) (by omega)), ?_⟩, fun d hd => ?_, fun d hd1 hd2 => ?_⟩
  · rw [coN_cong (fun i => g 9 u i (by decide) (by decide) (by decide) (by decide)) (fun i => g 8 u i (by decide) (by decide) (by decide) (by decide))]
    exact (h6 u hu).2
  · by_cases e : d = c
    · subst e; exact hcr
    · obtain ⟨n, hn⟩ := h7 d hd
      exact ⟨n, hn.cong fun k i a b => hA k d i b (by omega) (by omega) (by omega) (fun q => e q.2)⟩
  · exact (h8 d hd1 hd2).cong (fun i => hA 11 d i (by decide) (by decide) (by decide) (by decide) (fun q => by omega)) (fun i => hA 15 d i (by decide) (by decide) (by decide) (by decide) (fun q => by omega))
theorem IX.cong {K t q : Nat} {μ μ' : Mem} (h : IX K t q μ) (hA : ∀ k o i, k < 16 → k ≠ 3 → k ≠ 4 → k ≠ 5 → μ' k o i = μ k o i) : IX K t q μ' := by
  obtain ⟨h1, h2, h3, h4, h5, h6, h7, h8⟩ := h
  refine ⟨h1, by rw [hA 0 0 5 (by decide) (by decide) (by decide) (by decide)]; exact h2, by rw [hA 0 0 6 (by decide) (by decide) (by decide) (by decide)]; exact h3, h4, h5, fun u hu => ⟨(h6 u hu).1.cong (Nat.le_refl q) (fun k i a b => hA k u i (by omega) (by omega) (by omega) (by omega)), ?_⟩, fun d hd => ?_, fun d hd1 hd2 => ?_⟩
  · rw [coN_cong (fun i => hA 9 u i (by decide) (by decide) (by decide) (by decide)) (fun i => hA 8 u i (by decide) (by decide) (by decide) (by decide))]
    exact (h6 u hu).2
  · obtain ⟨n, hn⟩ := h7 d hd
    exact ⟨n, hn.cong fun k i a b => hA k d i b (by omega) (by omega) (by omega)⟩
  · exact (h8 d hd1 hd2).cong (fun i => hA 11 d i (by decide) (by decide) (by decide) (by decide)) (fun i => hA 15 d i (by decide) (by decide) (by decide) (by decide))
/-- a registration -/
theorem IX.reg {K t q u tg Q T : Nat} {μ : Mem} (h : IX K t q μ) (hu : u < 6) (htg : tg < 16) (hQ : Q ≤ 10) (hT : T ≤ 1000) (hq1 : q + 1 < 2 ^ 20) (hc : 0 < T → coN μ u (nI tg) (nI t) < 6) :
    IX K t (q + 1) (rgM' μ u (nI tg) (nI Q) (nI T) (nI q)) ∧ coN (rgM' μ u (nI tg) (nI Q) (nI T) (nI q)) u (-1) (nI t) + (if thB μ u (nI t) tg = true then 1 else 0) = coN μ u (-1) (nI t) + (if 0 < T then 1 else 0) ∧ (∀ k o i, k < 6 ∨ 11 ≤ k ∨ o ≠ u → rgM' μ u (nI tg) (nI Q) (nI T) (nI q) k o i = μ k o i) := by
  obtain ⟨h1, h2, h3, h4, h5, h6, h7, h8⟩ := h
  have eM : rgM' μ u (nI tg) (nI Q) (nI T) (nI q) = puM μ u (tN (μ 6 u 4)) tg (nI Q) (nI (t + T)) (nI q) := by
    unfold rgM'
    rw [h3, nI_add, tN_nI (by omega)]
  rw [eM]
  have e8 : (!decide (nI q = -1) && !decide (nI (t + T) ≤ nI t)) = decide (0 < T) := by
    rw [decide_eq_false (nI_m1 (by omega)), Bool.not_false, Bool.true_and]
    by_cases z : 0 < T
    · rw [decide_eq_true z, decide_eq_false (fun q => by have := (nI_leI (by omega) (by omega)).mp q; omega)]; rfl
    · rw [decide_eq_false z, decide_eq_true ((nI_leI (by omega) (by omega)).mpr (by omega))]; rfl
  have hcp := co_pu (μ := μ) (u := u) (m := tN (μ 6 u 4)) (q := nI Q) (e := nI (t + T)) (s := nI q) (now := nI t) htg
  rw [e8] at hcp
  have hcp2 : coN (puM μ u (tN (μ 6 u 4)) tg (nI Q) (nI (t + T)) (nI q)) u (-1) (nI t) + (if thB μ u (nI t) tg = true then 1 else 0) = coN μ u (-1) (nI t) + (if 0 < T then 1 else 0) := by
    rw [hcp]
    by_cases z : 0 < T
    · rw [if_pos z, if_pos (decide_eq_true z)]
    · rw [if_neg z, if_neg (by rw [decide_eq_false z]; decide)]
  have hk : ∀ k o i, k < 6 ∨ 11 ≤ k ∨ o ≠ u → puM μ u (tN (μ 6 u 4)) tg (nI Q) (nI (t + T)) (nI q) k o i = μ k o i := fun k o i hh => puM_k hh
  refine ⟨⟨h1, by rw [hk 0 0 5 (Or.inl (by decide))]; exact h2, by rw [hk 0 0 6 (Or.inl (by decide))]; exact h3, h4, hq1, fun v hv => ?_, fun d hd => ?_, fun d hd1 hd2 => ?_⟩, hcp2, hk⟩
  · by_cases e : v = u
    · subst e
      refine ⟨(h6 v hv).1.pu (by omega) htg hQ (by omega), ?_⟩
      by_cases z : 0 < T
      · have hl := coN_left (μ := μ) (u := v) (now := nI t) htg
        have := hc z
        rw [if_pos z] at hcp2
        omega
      · rw [if_neg z] at hcp2
        have := (h6 v hv).2
        omega
    · refine ⟨(h6 v hv).1.cong (Nat.le_succ q) (fun k i _ _ => hk k v i (Or.inr (Or.inr e))), ?_⟩
      rw [coN_cong (fun i => hk 9 v i (Or.inr (Or.inr e))) (fun i => hk 8 v i (Or.inr (Or.inr e)))]
      exact (h6 v hv).2
  · obtain ⟨n, hn⟩ := h7 d hd
    exact ⟨n, hn.cong fun k i a b => hk k d i (Or.inr (Or.inl a))⟩
  · exact (h8 d hd1 hd2).cong (fun i => hk 11 d i (Or.inr (Or.inl (by decide)))) (fun i => hk 15 d i (Or.inr (Or.inl (by decide))))
/-! time goes by -/
def EN (μ : Mem) (K : Nat) : Nat := ctB (fun c => !decide (μ 11 c 8 = -1)) K
theorem etM_9 {c n s : Nat} {now : Int32} {μ : Mem} : etM μ c n s now 11 c 9 = μ 11 c 9 := by
  have hgo : ∀ ν : Mem, goOnM ν c n s now 11 c 9 = ν 11 c 9 := fun ν => by
    unfold goOnM gfM
    split
    · exact go_11 (by decide) (by decide) s ν
    · rw [st_i (by decide)]; exact go_11 (by decide) (by decide) s ν
  unfold etM
  split
  · split
    · rw [hgo]; exact rgM_k (by decide)
    · rfl
  · rfl
theorem lc_sp {K : Nat} {μ : Mem} (hK : K ≤ 20) (hI : KI μ) (hR : ∀ c, c < K → ∃ n, CR c n μ) : ∀ c, c ≤ K → (∀ c', c' < K → ∃ n, CR c' n (lcM c μ)) ∧ (∀ k o i, c ≤ o → lcM c μ k o i = μ k o i) ∧ (∀ k o i, ¬ (k = 14 ∨ (k = 11 ∧ i ≠ 9)) → lcM c μ k o i = μ k o i) ∧ EN (lcM c μ) c = EN μ c + lcN c μ
  | 0, _ => ⟨hR, fun _ _ _ _ => rfl, fun _ _ _ _ => rfl, rfl⟩
  | c + 1, h => by
    obtain ⟨h1, h2, h3, h4⟩ := lc_sp hK hI hR c (by omega)
    obtain ⟨kI, -⟩ := lcM_ok hI c (by omega)
    have g : GC c (lcM c μ) (lcM (c + 1) μ) := GC_etM (kI c (by omega)).2.2
    obtain ⟨n, hn⟩ := h1 c (by omega)
    have e4 : tN (lcM c μ 11 c 4) = n := by rw [hn.n.2, tN_nI (by have := hn.n.1; omega)]
    have eM : lcM (c + 1) μ = etM (lcM c μ) c n (tN (lcM c μ 11 c 5)) (lcM c μ 0 0 6) := by
      show etM' (lcM c μ) c = _
      unfold etM'
      rw [e4]
    have eI : etI' (lcM c μ) c = etI (lcM c μ) c n (tN (lcM c μ 11 c 5)) (lcM c μ 0 0 6) := by
      unfold etI'
      rw [e4]
    obtain ⟨t1, t2, t3⟩ := CR_tick (now := lcM c μ 0 0 6) hn
    rw [← eM] at t1 t2 t3
    rw [← eI] at t2
    refine ⟨fun c' hc' => ?_, fun k o i ho => ?_, fun k o i hk => ?_, ?_⟩
    · by_cases e : c' = c
      · subst e; exact ⟨n, t1⟩
      · obtain ⟨n', hn'⟩ := h1 c' hc'
        exact ⟨n', hn'.cong fun k i _ _ => g.o e⟩
    · rw [g.o (by omega)]; exact h2 k o i (by omega)
    · by_cases e : o = c
      · subst e
        by_cases e11 : k = 11 ∧ i = 9
        · obtain ⟨rfl, rfl⟩ := e11
          rw [eM, etM_9]
          exact h3 11 o 9 (by omega)
        · rw [g.k (by omega) (by omega)]; exact h3 k o i hk
      · rw [g.o e]; exact h3 k o i hk
    · have e8 : lcM c μ 11 c 8 = μ 11 c 8 := h2 11 c 8 (Nat.le_refl c)
      have ec : ctB (fun o => !decide (lcM (c + 1) μ 11 o 8 = -1)) c = EN (lcM c μ) c := ctB_cong fun o ho => by rw [g.o (by omega)]
      show ctB (fun o => !decide (lcM (c + 1) μ 11 o 8 = -1)) c + (if (!decide (lcM (c + 1) μ 11 c 8 = -1)) = true then 1 else 0) = EN μ c + (if (!decide (μ 11 c 8 = -1)) = true then 1 else 0) + (lcN c μ + (if etI' (lcM c μ) c = 0 then 0 else 1))
      rw [ec, h4]
      rw [e8] at t2 t3
      by_cases z : μ 11 c 8 = -1
      · rw [decide_eq_true z]
        by_cases y : lcM (c + 1) μ 11 c 8 = -1
        · rw [decide_eq_true y, if_pos (t2.mpr fun _ => y)]
          simp
        · rw [decide_eq_false y, if_neg (fun q => y (t2.mp q z))]
          simp
          omega
      · rw [decide_eq_false z, decide_eq_false (t3 z), if_pos (t2.mpr fun q => absurd q z)]
        simp
        omega
theorem IX.tick {K t q : Nat} {μ : Mem} (h : IX K t q μ) (ht : t + 1 < 2 ^ 20) : IX K (t + 1) q (lcM K (tkM μ)) ∧ EN (lcM K (tkM μ)) K = EN μ K + lcN K (tkM μ) ∧ ∀ k o i, ¬ (k = 14 ∨ (k = 11 ∧ i ≠ 9)) → ¬ (k = 0 ∧ i = 6) → lcM K (tkM μ) k o i = μ k o i := by
  have hki := h.ki
  obtain ⟨h1, h2, h3, h4, h5, h6, h7, h8⟩ := h
  have etk : ∀ k o i, ¬ (k = 0 ∧ i = 6) → tkM μ k o i = μ k o i := fun k o i hh => if_neg (fun q => hh ⟨q.1, q.2.2⟩)
  have e06 : tkM μ 0 0 6 = nI (t + 1) := by
    show st μ 0 0 6 (μ 0 0 6 + 1) 0 0 6 = _
    rw [st_same, h3, nI_1]
  obtain ⟨g1, g2, g3, g4⟩ := lc_sp (by omega) (tkM_ok hki) (fun c hc => by
    obtain ⟨n, hn⟩ := h7 c hc
    exact ⟨n, hn.cong fun k i a b => etk k c i (by omega)⟩) K (Nat.le_refl K)
  have gk : ∀ k o i, ¬ (k = 14 ∨ (k = 11 ∧ i ≠ 9)) → ¬ (k = 0 ∧ i = 6) → lcM K (tkM μ) k o i = μ k o i := fun k o i a b => (g3 k o i a).trans (etk k o i b)
  refine ⟨⟨h1, by rw [gk 0 0 5 (by decide) (by decide)]; exact h2, by rw [g3 0 0 6 (by decide)]; exact e06, ht, h5, fun u hu => ⟨(h6 u hu).1.cong (Nat.le_refl q) (fun k i a b => gk k u i (by omega) (by omega)), ?_⟩, g1, fun c hc1 hc2 => ?_⟩, ?_, gk⟩
  · exact Nat.le_trans (co_later (fun i => gk 9 u i (by omega) (by omega)) (fun i => gk 8 u i (by omega) (by omega)) ((nI_leI (by omega) (by omega)).mpr (Nat.le_succ t))) (h6 u hu).2
  · exact (h8 c hc1 hc2).cong (fun i => (g2 11 c i hc1).trans (etk 11 c i (by omega))) (fun i => (g2 15 c i hc1).trans (etk 15 c i (by omega)))
  · rw [g4]
    congr 1
theorem IX.ps {K t q : Nat} {μ : Mem} (h : IX K t q μ) : ∀ i, t + i < 2 ^ 20 → IX K (t + i) q (psM i μ) ∧ (∃ d, psN i μ = nI d ∧ EN (psM i μ) K = EN μ K + d) ∧ ∀ k o j, ¬ (k = 14 ∨ (k = 11 ∧ j ≠ 9)) → ¬ (k = 0 ∧ j = 6) → psM i μ k o j = μ k o j
  | 0, _ => ⟨h, ⟨0, rfl, rfl⟩, fun _ _ _ _ _ => rfl⟩
  | i + 1, hi => by
    obtain ⟨g1, ⟨d, g2, g3⟩, g4⟩ := IX.ps h i (by omega)
    obtain ⟨f1, f2, f3⟩ := g1.tick (by omega)
    have eK := h.K5.1
    have eM : psM (i + 1) μ = lcM K (tkM (psM i μ)) := by
      show lcM (tN (μ 0 0 5)) _ = _
      rw [eK]
    have eN : psN (i + 1) μ = psN i μ + nI (lcN K (tkM (psM i μ))) := by
      show psN i μ + nI (lcN (tN (μ 0 0 5)) _) = _
      rw [eK]
    rw [eM, eN]
    refine ⟨f1, ⟨d + lcN K (tkM (psM i μ)), by rw [g2, nI_add], by rw [f2, g3]; omega⟩, fun k o j a b => (f3 k o j a b).trans (g4 k o j a b)⟩
