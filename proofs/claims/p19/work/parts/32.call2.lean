/-! a call that is cancelled, hung up, looked at, begun -/
theorem CR.n {c n : Nat} {μ : Mem} (h : CR c n μ) : n ≤ 12 ∧ μ 11 c 4 = nI n := ⟨h.1.1, h.1.2.1⟩
theorem CR_cancel {c n : Nat} {μ : Mem} (h : CR c n μ) (hf : μ 11 c 8 = -1) : CR c n (caM μ c n) ∧ caM μ c n 11 c 8 = 487 ∧ caM μ c n 11 c 7 = -1 ∧ ¬ caM μ c n 11 c 9 = 0 ∧ ∀ b, b < n → caM μ c n 14 c b = if 200 ≤ μ 14 c b then μ 14 c b else 487 := by
  obtain ⟨hA, hS, hx⟩ := h
  have hOW : CO c n μ ∧ CW c n μ := by
    rcases hx with q | q
    · exact q
    · exact absurd hf q.1
  obtain ⟨⟨o1, o2, o3, o4⟩, b0, hb0, -⟩ := hOW
  have e7 : caM μ c n 11 c 7 = -1 := by
    unfold caM
    rw [st_i (by decide), st_i (by decide), eoM_k (by decide)]
    exact o2
  have e8 : caM μ c n 11 c 8 = 487 := st_same
  have e9 : ¬ caM μ c n 11 c 9 = 0 := by
    unfold caM
    rw [st_i (by decide), st_same]
    decide
  have e14 : ∀ b, b < n → caM μ c n 14 c b = if 200 ≤ μ 14 c b then μ 14 c b else 487 := fun b hb => by
    unfold caM
    rw [st_k (by decide), st_k (by decide), eoM_14 hb]
  have hend : ∀ b, b < n → 200 ≤ caM μ c n 14 c b := fun b hb => by
    rw [e14 b hb]
    split
    · assumption
    · decide
  refine ⟨⟨(hA.eo.s11 (i := 9) (x := 1) (by decide) (by decide)).s11 (by decide) (by decide), fun b hb => Or.inr (Or.inr (hend b hb)), Or.inr ⟨by rw [e8]; decide, hend, Or.inr (Or.inl ⟨by omega, e9, e8, e7, fun b hb => ?_⟩)⟩⟩, e8, e7, e9, e14⟩
  rw [e14 b hb]
  split
  · rename_i q; exact (o4 b hb q).1
  · decide
theorem CR_hung {c n b : Nat} {μ : Mem} (h : CR c n μ) (hb2 : 200 ≤ μ 14 c b) : CR c n (st μ 15 c b 1) := by
  obtain ⟨hA, hS, hx⟩ := h
  refine ⟨hA.sub (st_k (by decide)) (Or.inl (st_k (by decide))) (fun b => st_k (by decide)) (fun b => st_k (by decide)), fun i hi => ?_, ?_⟩
  · unfold SB
    rw [st_k (k' := 14) (by decide), st_k (k' := 13) (by decide), st_k (k' := 12) (by decide), st_k (k' := 11) (by decide)]
    by_cases e : i = b
    · subst e; exact Or.inr (Or.inr hb2)
    · rw [st_i e]; exact hS i hi
  · have e14 : st μ 15 c b 1 14 c = μ 14 c := by funext i; exact st_k (by decide)
    have e11 : ∀ i, st μ 15 c b 1 11 c i = μ 11 c i := fun i => st_k (by decide)
    unfold CO CW CE EO
    simp only [e14, e11]
    exact hx
theorem CR.cong {c n : Nat} {μ μ' : Mem} (hA : ∀ k i, 11 ≤ k → k < 16 → μ' k c i = μ k c i) (h : CR c n μ) : CR c n μ' := by
  have e11 : ∀ i, μ' 11 c i = μ 11 c i := fun i => hA 11 i (by decide) (by decide)
  have e12 : ∀ i, μ' 12 c i = μ 12 c i := fun i => hA 12 i (by decide) (by decide)
  have e13 : ∀ i, μ' 13 c i = μ 13 c i := fun i => hA 13 i (by decide) (by decide)
  have e14 : μ' 14 c = μ 14 c := funext fun i => hA 14 i (by decide) (by decide)
  have e15 : ∀ i, μ' 15 c i = μ 15 c i := fun i => hA 15 i (by decide) (by decide)
  unfold CR CA CS SB CO CW CE EO at h ⊢
  simp only [e11, e12, e13, e14, e15]
  exact h
/-- a call looked at with a tick -/
theorem CR_tick {c n : Nat} {now : Int32} {μ : Mem} (h : CR c n μ) : CR c n (etM μ c n (tN (μ 11 c 5)) now) ∧ (etI μ c n (tN (μ 11 c 5)) now = 0 ↔ (μ 11 c 8 = -1 → etM μ c n (tN (μ 11 c 5)) now 11 c 8 = -1)) ∧ (¬ μ 11 c 8 = -1 → ¬ etM μ c n (tN (μ 11 c 5)) now 11 c 8 = -1) := by
  have h0 := h
  obtain ⟨hA, hS, hx⟩ := h
  unfold etM etI
  by_cases e8 : μ 11 c 8 = -1
  · have hOW : CO c n μ ∧ CW c n μ := by
      rcases hx with q | q
      · exact q
      · exact absurd e8 q.1
    obtain ⟨⟨o1, o2, o3, o4⟩, b0, hb0, hs0⟩ := hOW
    rw [if_pos e8, if_pos e8]
    by_cases e10 : 10 ≤ now - μ 11 c 6
    · rw [if_pos e10, if_pos e10]
      obtain ⟨s, hs, es⟩ := hA.2.2.2.2.2
      have hts : tN (μ 11 c 5) = s := by rw [es, tN_nI (by omega)]
      rw [hts]
      have hG : GI c n s (rgM μ c n) := by
        refine ⟨hA.sub (rgM_k (by decide)) (Or.inl (rgM_k (by decide))) (fun b => rgM_k (by decide)) (fun b => rgM_k (by decide)), fun b hb => ?_, ⟨(rgM_k (by decide)).trans o1, (rgM_k (by decide)).trans o2, (rgM_k (by decide)).trans o3, fun b hb q => ?_⟩, (rgM_k (by decide)).trans es⟩
        · unfold SB
          rw [rgM_14 hb, rgM_k (k := 13) (by decide), rgM_k (k := 12) (by decide), rgM_k (k := 11) (by decide), rgM_k (k := 15) (by decide)]
          rcases hS b hb with ⟨a1, a2, a3, a4⟩ | ⟨a1, a2, a3, a4⟩ | a1
          · rw [if_neg (fun q => by have := q.1; simp only [Int32.le_iff_toInt_le, Int32.lt_iff_toInt_lt] at a2 this; omega)]
            exact Or.inl ⟨a1, a2, a3, a4⟩
          · rw [if_pos ⟨a2, sOp_lt a1⟩]
            exact Or.inr (Or.inr (by decide))
          · rw [if_neg (fun q => q.2 a1)]
            exact Or.inr (Or.inr a1)
        · rw [rgM_14 hb] at q ⊢
          split
          · decide
          · rename_i z
            rw [if_neg z] at q
            exact o4 b hb q
      refine ⟨goOn_CR (by omega) hs hG, ⟨fun q _ => ?_, fun q => ?_⟩, fun q => absurd e8 q⟩
      · exact Classical.byContradiction fun z => bp_0.mp q z
      · exact bp_0.mpr fun z => z (q e8)
    · rw [if_neg e10, if_neg e10]
      exact ⟨h0, ⟨fun _ q => q, fun _ => rfl⟩, fun q => absurd e8 q⟩
  · rw [if_neg e8, if_neg e8]
    exact ⟨h0, ⟨fun _ q => absurd q e8, fun _ => rfl⟩, fun q => q⟩
/-- a call whose branches have been found, and none is started -/
def PC (c n : Nat) (μ : Mem) : Prop := n ≤ 12 ∧ μ 11 c 4 = nI n ∧ (∀ b, b < n → dvP (μ 12 c b)) ∧ (∀ b b', b < n → b' < n → μ 12 c b = μ 12 c b' → ¬ μ 12 c b = -1 → b = b') ∧ (∀ b, b < n → ∃ q, q ≤ 10 ∧ μ 13 c b = nI q) ∧ ∀ b, b < n → (μ 14 c b = 0 ∧ ¬ μ 12 c b = -1) ∨ ((μ 14 c b = 482 ∨ μ 14 c b = 483) ∧ μ 12 c b = -1)
def RNew (c : Nat) (μ : Mem) : Prop := μ 11 c 4 = 0 ∧ μ 11 c 5 = 11 ∧ μ 11 c 7 = -1 ∧ μ 11 c 8 = -1 ∧ μ 11 c 9 = 0 ∧ ∀ b, b < 12 → μ 15 c b = 0
theorem go_st {c n b : Nat} {now : Int32} (hb : b < n) : ∀ (j : Nat) (μ : Mem), goM c n now j μ 14 c b = μ 14 c b ∨ goM c n now j μ 14 c b = 100
  | 0, _ => Or.inl rfl
  | j + 1, μ => by
    show (if anB (wtP μ c) n = true then μ else goM c n now j (sgM μ c n (nI j) now)) 14 c b = _ ∨ (if anB (wtP μ c) n = true then μ else goM c n now j (sgM μ c n (nI j) now)) 14 c b = _
    split
    · exact Or.inl rfl
    · rcases go_st hb j (sgM μ c n (nI j) now) with q | q
      · rw [sgM_14 hb] at q
        split at q
        · exact Or.inr q
        · exact Or.inl q
      · exact Or.inr q
theorem go_k {c n k o i : Nat} {now : Int32} (h : k ≠ 11) (h2 : k ≠ 14) : ∀ (j : Nat) (μ : Mem), goM c n now j μ k o i = μ k o i
  | 0, _ => rfl
  | j + 1, μ => by
    show (if anB (wtP μ c) n = true then μ else goM c n now j (sgM μ c n (nI j) now)) k o i = _
    split
    · rfl
    · rw [go_k h h2 j, sgM_k h h2]
theorem goOn_k {c n s k o i : Nat} {now : Int32} {μ : Mem} (h : k ≠ 11) (h2 : k ≠ 14) : goOnM μ c n s now k o i = μ k o i := by
  unfold goOnM gfM
  split
  · exact go_k h h2 s μ
  · rw [st_k h]; exact go_k h h2 s μ
theorem CR_begin {c n : Nat} {now : Int32} {μ : Mem} (h : PC c n μ) (a5 : μ 11 c 5 = 11) (a7 : μ 11 c 7 = -1) (a8 : μ 11 c 8 = -1) (a9 : μ 11 c 9 = 0) (a15 : ∀ b, b < 12 → μ 15 c b = 0) : CR c n (bgM μ c n 11 now) ∧ bgM μ c n 11 now 11 c 7 = -1 ∧ (n = 0 → bgM μ c n 11 now 11 c 8 = 480) ∧ bgM μ c n 11 now 11 c 9 = 0 ∧ (∀ b, bgM μ c n 11 now 12 c b = μ 12 c b) ∧ ∀ b, b < n → bgM μ c n 11 now 14 c b = μ 14 c b ∨ bgM μ c n 11 now 14 c b = 100 := by
  obtain ⟨p1, p2, p3, p4, p5, p6⟩ := h
  have hA : CA c n μ := ⟨p1, p2, p3, p4, p5, 11, by decide, a5⟩
  have hS : CS c n μ := fun b hb => by
    unfold SB
    rcases p6 b hb with ⟨q1, q2⟩ | ⟨q1, -⟩
    · refine Or.inl ⟨q1, ?_, q2, a15 b (by omega)⟩
      obtain ⟨Q, hQ, e⟩ := p5 b hb
      rw [e, a5]
      exact (nI_ltI (b := 11) (by omega) (by decide)).mpr (by omega)
    · refine Or.inr (Or.inr ?_)
      rcases q1 with q1 | q1 <;> (rw [q1]; decide)
  unfold bgM
  by_cases e : n = 0
  · subst e
    rw [if_pos rfl]
    refine ⟨⟨hA.s11 (by decide) (by decide), fun b hb => absurd hb (Nat.not_lt_zero b), Or.inr ⟨by rw [st_same]; decide, fun b hb => absurd hb (Nat.not_lt_zero b), Or.inl ⟨rfl, st_same, ?_, ?_⟩⟩⟩, ?_, fun _ => st_same, ?_, fun b => st_k (by decide), fun b hb => absurd hb (Nat.not_lt_zero b)⟩
    · rw [st_i (by decide)]; exact a7
    · rw [st_i (by decide)]; exact a9
    · rw [st_i (by decide)]; exact a7
    · rw [st_i (by decide)]; exact a9
  · rw [if_neg e]
    have hG : GI c n 11 μ := ⟨hA, hS, ⟨a8, a7, a9, fun b hb q => by
      rcases p6 b hb with ⟨q1, -⟩ | ⟨q1 | q1, -⟩
      · rw [q1] at q; exact absurd q (by decide)
      · rw [q1]; decide
      · rw [q1]; decide⟩, a5⟩
    refine ⟨goOn_CR e (by decide) hG, ?_, fun q => absurd q e, ?_, fun b => goOn_k (by decide) (by decide), fun b hb => ?_⟩
    · unfold goOnM gfM
      split
      · exact (go_11 (by decide) (by decide) 11 μ).trans a7
      · rw [st_i (by decide)]; exact (go_11 (by decide) (by decide) 11 μ).trans a7
    · unfold goOnM gfM
      split
      · exact (go_11 (by decide) (by decide) 11 μ).trans a9
      · rw [st_i (by decide)]; exact (go_11 (by decide) (by decide) 11 μ).trans a9
    · unfold goOnM gfM
      split
      · exact go_st hb 11 μ
      · rw [st_k (by decide)]; exact go_st hb 11 μ
