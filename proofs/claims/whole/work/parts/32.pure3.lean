/-! how a call of the class and a call of the reference stand to each other -/
def CW (c n : Nat) (μ ν : Mem) : Prop := ∀ b, b < n → μ 12 c b = ν 28 0 (12 * c + b) ∧ μ 13 c b = ν 29 0 (12 * c + b) ∧ μ 14 c b = ν 30 0 (12 * c + b) ∧ μ 15 c b = ν 31 0 (12 * c + b) ∧ (∃ q, q ≤ 10 ∧ μ 13 c b = nI q) ∧ (∃ x, x ≤ 699 ∧ μ 14 c b = nI x)
def CDi (c n : Nat) (μ : Mem) : Prop := ∀ b b', b < n → b' < n → μ 12 c b = μ 12 c b' → ¬ μ 12 c b = -1 → b = b'
def COb (c n : Nat) (μ ν : Mem) (t : Nat) : Prop := μ 11 c 8 = -1 ∧ ν 23 0 c = -1 ∧ μ 11 c 7 = -1 ∧ ν 24 0 c = -1 ∧ μ 11 c 9 = 0 ∧ μ 11 c 5 = ν 26 0 c ∧ (∃ s0, s0 ≤ t ∧ μ 11 c 6 = nI s0 ∧ ν 27 0 c = nI s0) ∧ (∀ b, b < n → 200 ≤ μ 14 c b → 300 ≤ μ 14 c b ∧ ¬ 600 ≤ μ 14 c b) ∧ (∀ b, b < n → μ 13 c b < μ 11 c 5 → ¬ 200 ≤ μ 14 c b → μ 14 c b = 0)
def CEn (c n : Nat) (μ ν : Mem) : Prop := ¬ μ 11 c 8 = -1 ∧ μ 11 c 8 = ν 23 0 c ∧ μ 11 c 7 = ν 24 0 c ∧ (∀ b, b < n → 200 ≤ μ 14 c b ∧ (μ 11 c 5 ≤ μ 13 c b ↔ ν 26 0 c ≤ ν 29 0 (12 * c + b))) ∧ ((n = 0 ∧ μ 11 c 8 = 480) ∨ (n ≠ 0 ∧ ¬ μ 11 c 9 = 0 ∧ μ 11 c 8 = 487) ∨ (n ≠ 0 ∧ μ 11 c 9 = 0 ∧ μ 11 c 8 = beI (μ 14 c) n))
def CRn (c n : Nat) (μ ν : Mem) (t : Nat) : Prop := n ≤ 12 ∧ μ 11 c 4 = nI n ∧ ν 25 0 c = nI n ∧ CW c n μ ν ∧ CDi c n μ ∧ (∃ s, s ≤ 11 ∧ μ 11 c 5 = nI s) ∧ (-1 ≤ ν 26 0 c ∧ ν 26 0 c ≤ 11) ∧ ((COb c n μ ν t ∧ anB (wtP μ c) n = true) ∨ CEn c n μ ν)
def CR (c : Nat) (μ ν : Mem) (t : Nat) : Prop := ∃ n, CRn c n μ ν t
theorem CR.cong {c t t' : Nat} {μ ν μ' ν' : Mem} (ht : t ≤ t') (hA : ∀ k i, 11 ≤ k → k < 16 → μ' k c i = μ k c i) (hB : ∀ k, 23 ≤ k → k < 28 → ν' k 0 c = ν k 0 c) (hB2 : ∀ k b, 28 ≤ k → k < 32 → b < 12 → ν' k 0 (12 * c + b) = ν k 0 (12 * c + b)) (h : CR c μ ν t) : CR c μ' ν' t' := by
  obtain ⟨n, hn, e1, e2, hw, hd, hs, hl, hx⟩ := h
  have a11 : ∀ i, μ' 11 c i = μ 11 c i := fun i => hA 11 i (by decide) (by decide)
  have a12 : ∀ i, μ' 12 c i = μ 12 c i := fun i => hA 12 i (by decide) (by decide)
  have a13 : ∀ i, μ' 13 c i = μ 13 c i := fun i => hA 13 i (by decide) (by decide)
  have a14 : ∀ i, μ' 14 c i = μ 14 c i := fun i => hA 14 i (by decide) (by decide)
  have a15 : ∀ i, μ' 15 c i = μ 15 c i := fun i => hA 15 i (by decide) (by decide)
  have b23 := hB 23 (by decide) (by decide)
  have b24 := hB 24 (by decide) (by decide)
  have b25 := hB 25 (by decide) (by decide)
  have b26 := hB 26 (by decide) (by decide)
  have b27 := hB 27 (by decide) (by decide)
  have f14 : μ' 14 c = μ 14 c := funext a14
  have fw : wtP μ' c = wtP μ c := by
    funext b
    unfold wtP
    rw [a11, a13, a14]
  refine ⟨n, hn, by rw [a11]; exact e1, by rw [b25]; exact e2, fun b hb => ?_, fun b b' hb hb' => ?_, by rw [a11]; exact hs, by rw [b26]; exact hl, ?_⟩
  · rw [a12, a13, a14, a15, hB2 28 b (by decide) (by decide) (by omega), hB2 29 b (by decide) (by decide) (by omega), hB2 30 b (by decide) (by decide) (by omega), hB2 31 b (by decide) (by decide) (by omega)]
    exact hw b hb
  · rw [a12, a12]
    exact hd b b' hb hb'
  · rcases hx with ⟨⟨o1, o2, o3, o4, o5, o6, ⟨s0, o7, o8, o9⟩, o10, o11⟩, o12⟩ | ⟨o1, o2, o3, o4, o5⟩
    · refine Or.inl ⟨⟨by rw [a11]; exact o1, by rw [b23]; exact o2, by rw [a11]; exact o3, by rw [b24]; exact o4, by rw [a11]; exact o5, by rw [a11, b26]; exact o6, ⟨s0, by omega, by rw [a11]; exact o8, by rw [b27]; exact o9⟩, fun b hb => ?_, fun b hb => ?_⟩, by rw [fw]; exact o12⟩
      · rw [a14]; exact o10 b hb
      · rw [a13, a11, a14]; exact o11 b hb
    · refine Or.inr ⟨by rw [a11]; exact o1, by rw [a11, b23]; exact o2, by rw [a11, b24]; exact o3, fun b hb => ?_, ?_⟩
      · rw [a14, a11, a13, b26, hB2 29 b (by decide) (by decide) (by omega)]
        exact o4 b hb
      · rw [a11, a11, f14]; exact o5
theorem sgM_11 {μ : Mem} {c n i : Nat} {q now : Int32} (h5 : i ≠ 5) (h6 : i ≠ 6) : sgM μ c n q now 11 c i = μ 11 c i := by simp [sgM, sg1, up, st, h5, h6]
theorem sgM_k {μ : Mem} {c n k o i : Nat} {q now : Int32} (h : k ≠ 11) (h2 : k ≠ 14) : sgM μ c n q now k o i = μ k o i := by simp [sgM, sg1, up, st, h, h2]
theorem goM_11 {c n i : Nat} {now : Int32} (h5 : i ≠ 5) (h6 : i ≠ 6) : ∀ (j : Nat) (μ : Mem), goM c n now j μ 11 c i = μ 11 c i
  | 0, μ => rfl
  | j + 1, μ => by
    by_cases hw : anB (wtP μ c) n = true
    · rw [goM_w hw]
    · rw [goM_n hw, goM_11 h5 h6 j, sgM_11 h5 h6]
theorem goM_k {c n k o i : Nat} {now : Int32} (h : k ≠ 11) (h2 : k ≠ 14) : ∀ (j : Nat) (μ : Mem), goM c n now j μ k o i = μ k o i
  | 0, μ => rfl
  | j + 1, μ => by
    by_cases hw : anB (wtP μ c) n = true
    · rw [goM_w hw]
    · rw [goM_n hw, goM_k h h2 j, sgM_k h h2]
theorem goM_6 {c n : Nat} {now : Int32} : ∀ (j : Nat) (μ : Mem), goM c n now j μ 11 c 6 = μ 11 c 6 ∨ goM c n now j μ 11 c 6 = now
  | 0, μ => Or.inl rfl
  | j + 1, μ => by
    by_cases hw : anB (wtP μ c) n = true
    · rw [goM_w hw]; exact Or.inl rfl
    · rw [goM_n hw]
      rcases goM_6 j (sgM μ c n (nI j) now) with e | e
      · rw [e, sgM_6]; exact Or.inr rfl
      · exact Or.inr e
theorem gs1_k {μ : Mem} {c n k o i : Nat} (h6 : k ≠ 26) (h7 : k ≠ 27) (h0 : k ≠ 30) : gs1 μ c n k o i = μ k o i := by simp [gs1, tryM, up, st, h6, h7, h0]
theorem mgM_k {c n k o i : Nat} (h3 : k ≠ 23) (h6 : k ≠ 26) (h7 : k ≠ 27) (h0 : k ≠ 30) : ∀ (f : Nat) (ν : Mem), mgM c n f ν k o i = ν k o i
  | 0, ν => rfl
  | f + 1, ν => by
    by_cases h : ν 23 0 c = -1 ∧ ¬ anB (mwP ν c) n = true
    · rw [mgM_go h.1 h.2, mgM_k h3 h6 h7 h0 f, gsM_k h3, gs1_k h6 h7 h0]
    · rw [mgM_stop h]
/-- from a state that may no longer wait, the two go on alike -/
theorem goOn_CR {c n s t : Nat} {now : Int32} {μ ν : Mem} (hn : n ≤ 12) (hn0 : n ≠ 0) (e1 : μ 11 c 4 = nI n) (e2 : ν 25 0 c = nI n) (hw : CW c n μ ν) (hd : CDi c n μ) (hs : s ≤ 11) (es : μ 11 c 5 = nI s) (hl : -1 ≤ ν 26 0 c ∧ ν 26 0 c ≤ 11) (ho : COb c n μ ν t) (hnow : now = nI t) (hnow2 : ν 16 0 1 = now) : CRn c n (goOnM μ c n s now) (mGo ν c) t := by
  obtain ⟨o1, o2, o3, o4, o5, o6, ⟨s0, o7, o8, o9⟩, o10, o11⟩ := ho
  have hG : GQ c n s now μ ν := by
    refine ⟨fun b hb => ?_, hnow2, o2, es, fun b hb => ?_, fun b hb q => o11 b hb (by rw [es]; exact q), fun _ => ⟨o6, by rw [o8, o9]⟩, hl⟩
    · obtain ⟨-, w2, w3, -, w5, ⟨x, hx, w6⟩⟩ := hw b hb
      exact ⟨w2, w3, w5, by rw [w6]; exact nI_pos' (by omega)⟩
    · rw [← (hw b hb).2.1, ← o6, es]
  have hgo := go_eq hn s 14 μ ν (by omega) hs hG
  have hGC : GC c μ (goM c n now s μ) := GC_goM hs
  have hm : mGo ν c = mgM c n 14 ν := by unfold mGo; rw [e2, tN_nI (by omega)]
  rw [hm]
  obtain ⟨g1, g2, ⟨s', hs', g3⟩, g4, g5⟩ := hgo
  have hrow : CW c n (goM c n now s μ) (mgM c n 14 ν) := by
    intro b hb
    obtain ⟨w1, w2, w3, w4, w5, ⟨x, hx, w6⟩⟩ := hw b hb
    refine ⟨?_, ?_, g1 b hb, ?_, ?_, ?_⟩
    · rw [goM_k (by decide) (by decide), mgM_k (by decide) (by decide) (by decide) (by decide)]; exact w1
    · rw [goM_k (by decide) (by decide), mgM_k (by decide) (by decide) (by decide) (by decide)]; exact w2
    · rw [goM_k (by decide) (by decide), mgM_k (by decide) (by decide) (by decide) (by decide)]; exact w4
    · rw [goM_k (by decide) (by decide)]; exact w5
    · rcases g2 b hb with z | ⟨-, z⟩
      · exact ⟨x, hx, by rw [z]; exact w6⟩
      · exact ⟨100, by decide, by rw [z]; decide⟩
  have hdi : CDi c n (goM c n now s μ) := by
    intro b b' hb hb'
    rw [goM_k (by decide) (by decide), goM_k (by decide) (by decide)]
    exact hd b b' hb hb'
  have h6 : ∃ s0, s0 ≤ t ∧ goM c n now s μ 11 c 6 = nI s0 := by
    rcases goM_6 (c := c) (n := n) (now := now) s μ with z | z
    · exact ⟨s0, o7, by rw [z]; exact o8⟩
    · exact ⟨t, Nat.le_refl t, by rw [z]; exact hnow⟩
  have h300 : ∀ b, b < n → 200 ≤ goM c n now s μ 14 c b → 300 ≤ goM c n now s μ 14 c b ∧ ¬ 600 ≤ goM c n now s μ 14 c b := by
    intro b hb q
    rcases g2 b hb with z | ⟨-, z⟩
    · rw [z] at q ⊢; exact o10 b hb q
    · rw [z] at q; exact absurd q (by decide)
  rcases g5 with ⟨k1, k2, k3, k4, k5⟩ | ⟨k1, k2, k3⟩
  · have hg : goOnM μ c n s now = goM c n now s μ := by unfold goOnM gfM; rw [if_pos k1]
    rw [hg]
    obtain ⟨s1, hs1, h6⟩ := h6
    refine ⟨hn, by rw [goM_11 (by decide) (by decide)]; exact e1, by rw [mgM_k (by decide) (by decide) (by decide) (by decide)]; exact e2, hrow, hdi, ⟨s', hs', g3⟩, g4, Or.inl ⟨⟨by rw [goM_11 (by decide) (by decide)]; exact o1, k2, by rw [goM_11 (by decide) (by decide)]; exact o3, by rw [mgM_k (by decide) (by decide) (by decide) (by decide)]; exact o4, by rw [goM_11 (by decide) (by decide)]; exact o5, k3, ⟨s1, hs1, h6, by rw [← k4]; exact h6⟩, h300, k5⟩, k1⟩⟩
  · have hg : goOnM μ c n s now = st (goM c n now s μ) 11 c 8 (beI (goM c n now s μ 14 c) n) := by unfold goOnM gfM; rw [if_neg k1]
    rw [hg]
    have hall : ∀ b, b < n → 200 ≤ goM c n now s μ 14 c b := fun b hb => (k3 b hb).1
    have e23 : mgM c n 14 ν 23 0 c = beI (goM c n now s μ 14 c) n := by
      rw [k2, (beI_cong (f := mf (mgM c n 14 ν) c) (g := goM c n now s μ 14 c) (fun b hb => (g1 b hb).symm)).2]
      exact mb_be hn0 hall
    have f14 : st (goM c n now s μ) 11 c 8 (beI (goM c n now s μ 14 c) n) 14 c = goM c n now s μ 14 c := st_row (fun q => absurd q.1 (by decide))
    refine ⟨hn, by rw [st_i (by decide), goM_11 (by decide) (by decide)]; exact e1, by rw [mgM_k (by decide) (by decide) (by decide) (by decide)]; exact e2, fun b hb => ?_, fun b b' hb hb' => ?_, ⟨s', hs', by rw [st_i (by decide)]; exact g3⟩, g4, Or.inr ⟨?_, by rw [st_same, e23], by rw [st_i (by decide), goM_11 (by decide) (by decide), mgM_k (by decide) (by decide) (by decide) (by decide), o3, o4], fun b hb => ?_, Or.inr (Or.inr ⟨hn0, by rw [st_i (by decide), goM_11 (by decide) (by decide)]; exact o5, by rw [st_same, f14]⟩)⟩⟩
    · rw [st_k (by decide), st_k (by decide), st_k (by decide), st_k (by decide)]
      exact hrow b hb
    · rw [st_k (by decide), st_k (by decide)]
      exact hdi b b' hb hb'
    · rw [st_same]
      intro q
      have := be_pos hall
      rw [q] at this
      exact absurd this (by decide)
    · rw [st_k (by decide), st_i (by decide), st_k (by decide)]
      exact ⟨hall b hb, ⟨fun _ => (k3 b hb).2.2, fun _ => (k3 b hb).2.1⟩⟩
