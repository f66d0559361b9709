/-! what changes one call, in both -/
theorem CW_set {c n b X : Nat} {x : Int32} {μ ν : Mem} (hw : CW c n μ ν) (hx : x = nI X) (hX : X ≤ 699) : CW c n (st μ 14 c b x) (st ν 30 0 (12 * c + b) x) := by
  intro i hi
  obtain ⟨w1, w2, w3, w4, w5, w6⟩ := hw i hi
  refine ⟨by rw [st_k (by decide), st_k (by decide)]; exact w1, by rw [st_k (by decide), st_k (by decide)]; exact w2, ?_, by rw [st_k (by decide), st_k (by decide)]; exact w4, by rw [st_k (by decide)]; exact w5, ?_⟩
  · by_cases e : i = b
    · subst e; rw [st_same, st_same]
    · rw [st_i e, st_i (by omega)]; exact w3
  · by_cases e : i = b
    · subst e; rw [st_same]; exact ⟨X, hX, hx⟩
    · rw [st_i e]; exact w6
theorem CDi_st {c n k o i : Nat} {x : Int32} {μ : Mem} (hd : CDi c n μ) (hk : k ≠ 12) : CDi c n (st μ k o i x) := by
  intro b b' hb hb'
  rw [st_k (Ne.symm hk), st_k (Ne.symm hk)]
  exact hd b b' hb hb'
theorem COb_set {c n b t : Nat} {x : Int32} {μ ν : Mem} (ho : COb c n μ ν t) (hst : μ 11 c 5 ≤ μ 13 c b) (hx : ¬ 200 ≤ x ∨ (300 ≤ x ∧ ¬ 600 ≤ x)) : COb c n (st μ 14 c b x) (st ν 30 0 (12 * c + b) x) t := by
  obtain ⟨o1, o2, o3, o4, o5, o6, ⟨s0, o7, o8, o9⟩, o10, o11⟩ := ho
  refine ⟨by rw [st_k (by decide)]; exact o1, by rw [st_k (by decide)]; exact o2, by rw [st_k (by decide)]; exact o3, by rw [st_k (by decide)]; exact o4, by rw [st_k (by decide)]; exact o5, by rw [st_k (by decide), st_k (by decide)]; exact o6, ⟨s0, o7, by rw [st_k (by decide)]; exact o8, by rw [st_k (by decide)]; exact o9⟩, fun i hi q => ?_, fun i hi q1 q2 => ?_⟩
  · by_cases e : i = b
    · subst e
      rw [st_same] at q ⊢
      rcases hx with z | z
      · exact absurd q z
      · exact z
    · rw [st_i e] at q ⊢; exact o10 i hi q
  · rw [st_k (by decide), st_k (by decide)] at q1
    by_cases e : i = b
    · subst e
      simp only [Int32.le_iff_toInt_le, Int32.lt_iff_toInt_lt] at q1 hst
      omega
    · rw [st_i e] at q2 ⊢; exact o11 i hi q1 q2
theorem open_GQ {c n s t : Nat} {now : Int32} {μ ν : Mem} (hw : CW c n μ ν) (es : μ 11 c 5 = nI s) (hl : -1 ≤ ν 26 0 c ∧ ν 26 0 c ≤ 11) (ho : COb c n μ ν t) (hnow2 : ν 16 0 1 = now) : GQ c n s now μ ν := by
  obtain ⟨o1, o2, o3, o4, o5, o6, ⟨s0, o7, o8, o9⟩, o10, o11⟩ := ho
  refine ⟨fun b hb => ?_, hnow2, o2, es, fun b hb => ?_, fun b hb q => o11 b hb (by rw [es]; exact q), fun _ => ⟨o6, by rw [o8, o9]⟩, hl⟩
  · obtain ⟨-, w2, w3, -, w5, ⟨x, hx, w6⟩⟩ := hw b hb
    exact ⟨w2, w3, w5, by rw [w6]; exact nI_pos' (by omega)⟩
  · rw [← (hw b hb).2.1, ← o6, es]
/-- all that has not ended is ended by 487 -/
theorem cut_CR {c n t : Nat} {μ ν μ' ν' : Mem} {F : Int32} (hn : n ≤ 12) (hn0 : n ≠ 0) (e1 : μ' 11 c 4 = nI n) (e2 : ν' 25 0 c = nI n) (hw : CW c n μ ν) (hd : CDi c n μ) (hs : ∃ s, s ≤ 11 ∧ μ' 11 c 5 = nI s) (hl : -1 ≤ ν' 26 0 c ∧ ν' 26 0 c ≤ 11) (hlev : μ' 11 c 5 = ν' 26 0 c)
    (h12 : ∀ b, b < n → μ' 12 c b = μ 12 c b ∧ μ' 13 c b = μ 13 c b ∧ μ' 15 c b = μ 15 c b ∧ μ' 14 c b = if 200 ≤ μ 14 c b then μ 14 c b else 487)
    (g12 : ∀ b, b < n → ν' 28 0 (12 * c + b) = ν 28 0 (12 * c + b) ∧ ν' 29 0 (12 * c + b) = ν 29 0 (12 * c + b) ∧ ν' 31 0 (12 * c + b) = ν 31 0 (12 * c + b) ∧ ν' 30 0 (12 * c + b) = if 200 ≤ ν 30 0 (12 * c + b) then ν 30 0 (12 * c + b) else 487)
    (hF : μ' 11 c 8 = F) (gF : ν' 23 0 c = F) (hF0 : ¬ F = -1) (h7 : μ' 11 c 7 = ν' 24 0 c) (hfin : (¬ μ' 11 c 9 = 0 ∧ F = 487) ∨ (μ' 11 c 9 = 0 ∧ F = beI (μ' 14 c) n)) : CRn c n μ' ν' t := by
  refine ⟨hn, e1, e2, fun b hb => ?_, fun b b' hb hb' => ?_, hs, hl, Or.inr ⟨by rw [hF]; exact hF0, by rw [hF, gF], h7, fun b hb => ?_, ?_⟩⟩
  · obtain ⟨w1, w2, w3, w4, w5, ⟨x, hx, w6⟩⟩ := hw b hb
    obtain ⟨a1, a2, a3, a4⟩ := h12 b hb
    obtain ⟨b1, b2, b3, b4⟩ := g12 b hb
    refine ⟨by rw [a1, b1]; exact w1, by rw [a2, b2]; exact w2, by rw [a4, b4, w3], by rw [a3, b3]; exact w4, by rw [a2]; exact w5, ?_⟩
    rw [a4]
    by_cases z : 200 ≤ μ 14 c b
    · rw [if_pos z]; exact ⟨x, hx, w6⟩
    · rw [if_neg z]; exact ⟨487, by decide, by decide⟩
  · rw [(h12 b hb).1, (h12 b' hb').1]
    exact hd b b' hb hb'
  · refine ⟨?_, ?_⟩
    · rw [(h12 b hb).2.2.2]
      split
      · assumption
      · decide
    · rw [(h12 b hb).2.1, (g12 b hb).2.1, hlev, (hw b hb).2.1]
  · rcases hfin with ⟨a, b⟩ | ⟨a, b⟩
    · exact Or.inr (Or.inl ⟨hn0, a, by rw [hF]; exact b⟩)
    · exact Or.inr (Or.inr ⟨hn0, a, by rw [hF]; exact b⟩)
theorem eoM_14 {μ : Mem} {c n b : Nat} (hb : b < n) : eoM μ c n 14 c b = if 200 ≤ μ 14 c b then μ 14 c b else 487 := up_in0 hb
theorem eoM_k {μ : Mem} {c n k o i : Nat} (h : k ≠ 14) : eoM μ c n k o i = μ k o i := up_k h
theorem mcM_30 {μ : Mem} {c n b : Nat} (hb : b < n) : mcM μ c n 30 0 (12 * c + b) = if 200 ≤ μ 30 0 (12 * c + b) then μ 30 0 (12 * c + b) else 487 := up_in hb
theorem mcM_k {μ : Mem} {c n k o i : Nat} (h : k ≠ 30) : mcM μ c n k o i = μ k o i := up_k h
theorem lt_3 {x : Int32} : ¬ 300 ≤ x ↔ x < 300 := by simp only [Int32.le_iff_toInt_le, Int32.lt_iff_toInt_lt]; omega
theorem lt_299 {x : Int32} : 299 < x ↔ 300 ≤ x := by
  have e : (299 : Int32).toInt = 299 := by decide
  simp only [Int32.le_iff_toInt_le, Int32.lt_iff_toInt_lt, e, i300]; omega
theorem lt_6 {x : Int32} : x < 600 ↔ ¬ 600 ≤ x := by simp only [Int32.le_iff_toInt_le, Int32.lt_iff_toInt_lt]; omega
theorem lt_2 {x : Int32} : x < 200 ↔ ¬ 200 ≤ x := by simp only [Int32.le_iff_toInt_le, Int32.lt_iff_toInt_lt]; omega
/-- an answer to a branch that is started and has not ended -/
theorem CR_ans {c n b s t X : Nat} {x now : Int32} {μ ν : Mem} (h : CRn c n μ ν t) (hb : b < n) (hst : μ 11 c 5 ≤ μ 13 c b) (hne : ¬ 200 ≤ μ 14 c b) (hs11 : s ≤ 11) (es : μ 11 c 5 = nI s) (hX : x = nI X) (hX2 : X ≤ 699) (hx : x = 180 ∨ 200 ≤ x) (hnow : now = nI t) (hnow2 : ν 16 0 1 = now) : CRn c n (taM μ c n s b x now) (mtM ν c n b x) t := by
  obtain ⟨hn, e1, e2, hw, hd, hs, hl, hx0⟩ := h
  have hn0 : n ≠ 0 := by omega
  rcases hx0.symm with ⟨-, -, -, q, -⟩ | ⟨ho, hwt⟩
  · exact absurd (q b hb).1 hne
  have hcw := CW_set (b := b) hw hX hX2
  have hdi : CDi c n (st μ 14 c b x) := CDi_st hd (by decide)
  unfold taM mtM
  by_cases c180 : x = 180
  · rw [if_pos c180, if_neg (by rw [c180]; decide), if_pos (by rw [c180]; decide)]
    refine ⟨hn, by rw [st_k (by decide)]; exact e1, by rw [st_k (by decide)]; exact e2, hcw, hdi, by rw [st_k (by decide)]; exact hs, by rw [st_k (by decide)]; exact hl, Or.inl ⟨COb_set ho hst (Or.inl (by rw [c180]; decide)), ?_⟩⟩
    refine anB_of (i := b) ?_ hb
    unfold wtP
    rw [st_k (by decide), st_k (by decide), st_same, decide_eq_true hst, c180]
    decide
  have h200 : 200 ≤ x := by
    rcases hx with q | q
    · exact absurd q c180
    · exact q
  rw [if_neg c180]
  by_cases c300 : 300 ≤ x
  · rw [if_pos c300]
    by_cases c600 : 600 ≤ x
    · rw [if_neg (show ¬ x < 600 from fun q => (lt_6.mp q) c600), if_pos (Or.inl (show ¬ x < 600 from fun q => (lt_6.mp q) c600)), if_neg (show ¬ x < 600 from fun q => (lt_6.mp q) c600)]
      obtain ⟨o1, o2, o3, o4, o5, o6, -⟩ := ho
      have hall : ∀ i, i < n → 200 ≤ eoM (st μ 14 c b x) c n 14 c i := fun i hi => by
        rw [eoM_14 hi]
        split
        · assumption
        · decide
      have hrow : ∀ i, i < n → mf (mcM (st ν 30 0 (12 * c + b) x) c n) c i = eoM (st μ 14 c b x) c n 14 c i := fun i hi => by
        show mcM (st ν 30 0 (12 * c + b) x) c n 30 0 (12 * c + i) = _
        rw [eoM_14 hi, mcM_30 hi, ← (hcw i hi).2.2.1]
      have f14 : st (eoM (st μ 14 c b x) c n) 11 c 8 (beI (eoM (st μ 14 c b x) c n 14 c) n) 14 c = eoM (st μ 14 c b x) c n 14 c := st_row (fun q => absurd q.1 (by decide))
      refine cut_CR (F := beI (eoM (st μ 14 c b x) c n 14 c) n) hn hn0 (by rw [st_i (by decide), eoM_k (by decide), st_k (by decide)]; exact e1) (by rw [st_k (by decide), st_k (by decide), mcM_k (by decide), st_k (by decide)]; exact e2) hcw hdi (by rw [st_i (by decide), eoM_k (by decide), st_k (by decide)]; exact hs) (by rw [st_k (by decide), st_k (by decide), mcM_k (by decide), st_k (by decide)]; exact hl) (by rw [st_i (by decide), eoM_k (by decide), st_k (by decide), st_k (by decide), st_k (by decide), mcM_k (by decide), st_k (by decide)]; exact o6) (fun i hi => ⟨by rw [st_k (by decide), eoM_k (by decide)], by rw [st_k (by decide), eoM_k (by decide)], by rw [st_k (by decide), eoM_k (by decide)], by rw [st_k (by decide), eoM_14 hi]⟩) (fun i hi => ⟨by rw [st_k (by decide), st_k (by decide), mcM_k (by decide)], by rw [st_k (by decide), st_k (by decide), mcM_k (by decide)], by rw [st_k (by decide), st_k (by decide), mcM_k (by decide)], by rw [st_k (by decide), st_k (by decide), mcM_30 hi]⟩) st_same ?_ ?_ ?_ (Or.inr ⟨by rw [st_i (by decide), eoM_k (by decide), st_k (by decide)]; exact o5, by rw [f14]⟩)
      · rw [st_same, if_neg (show ¬ x < 600 from fun q => (lt_6.mp q) c600), (beI_cong hrow).2, mb_be hn0 hall]
      · intro q
        have := be_pos hall
        rw [q] at this
        exact absurd this (by decide)
      · rw [st_i (by decide), eoM_k (by decide), st_k (by decide), st_k (by decide), st_same]
        exact o3
    · rw [if_pos (lt_6.mpr c600), if_neg (by rintro (q | q); exact q (lt_6.mpr c600); exact q.2 (lt_299.mpr c300)), if_neg (show ¬ x < 300 from fun q => lt_3.mpr q c300)]
      exact goOn_CR hn hn0 (by rw [st_k (by decide)]; exact e1) (by rw [st_k (by decide)]; exact e2) hcw hdi hs11 (by rw [st_k (by decide)]; exact es) (by rw [st_k (by decide)]; exact hl) (COb_set ho hst (Or.inr ⟨c300, c600⟩)) hnow (by rw [st_k (by decide)]; exact hnow2)
  · rw [if_neg c300]
    have c600 : x < 600 := lt_6.mpr (fun q => c300 (by simp only [Int32.le_iff_toInt_le, i300, i600] at q ⊢; omega))
    rw [if_pos (Or.inr ⟨fun q => lt_2.mp q h200, fun q => c300 (lt_299.mp q)⟩), if_pos c600, if_pos c600]
    obtain ⟨o1, o2, o3, o4, o5, o6, o7, o10, o11⟩ := ho
    refine cut_CR (F := x) hn hn0 (by rw [st_i (by decide), eoM_k (by decide), st_i (by decide), st_k (by decide)]; exact e1) (by rw [st_k (by decide), st_k (by decide), mcM_k (by decide), st_k (by decide)]; exact e2) hcw hdi (by rw [st_i (by decide), eoM_k (by decide), st_i (by decide), st_k (by decide)]; exact hs) (by rw [st_k (by decide), st_k (by decide), mcM_k (by decide), st_k (by decide)]; exact hl) (by rw [st_i (by decide), eoM_k (by decide), st_i (by decide), st_k (by decide), st_k (by decide), st_k (by decide), mcM_k (by decide), st_k (by decide)]; exact o6) (fun i hi => ⟨by rw [st_k (by decide), eoM_k (by decide), st_k (by decide)], by rw [st_k (by decide), eoM_k (by decide), st_k (by decide)], by rw [st_k (by decide), eoM_k (by decide), st_k (by decide)], by rw [st_k (by decide), eoM_14 hi, st_k (by decide)]⟩) (fun i hi => ⟨by rw [st_k (by decide), st_k (by decide), mcM_k (by decide)], by rw [st_k (by decide), st_k (by decide), mcM_k (by decide)], by rw [st_k (by decide), st_k (by decide), mcM_k (by decide)], by rw [st_k (by decide), st_k (by decide), mcM_30 hi]⟩) st_same st_same (fun q => by rw [q] at h200; exact absurd h200 (by decide)) ?_ (Or.inr ⟨by rw [st_i (by decide), eoM_k (by decide), st_i (by decide), st_k (by decide)]; exact o5, ?_⟩)
    · rw [st_i (by decide), eoM_k (by decide), st_same, st_k (by decide), st_same]
    · refine (be_ans hb ?_ h200 c300 (fun i hi hne2 => ?_)).symm
      · rw [st_k (by decide), eoM_14 hb, st_k (by decide), st_same, if_pos h200]
      · rw [st_k (by decide), eoM_14 hi, st_k (by decide), st_i hne2]
        by_cases z : 200 ≤ μ 14 c i
        · rw [if_pos z]; exact o10 i hi z
        · rw [if_neg z]; exact ⟨by decide, by decide⟩
theorem CR_cancel {c n t : Nat} {μ ν : Mem} (h : CRn c n μ ν t) (hf : μ 11 c 8 = -1) : CRn c n (caM μ c n) (mcM (st (st ν 16 0 0 0) 23 0 c 487) c n) t := by
  obtain ⟨hn, e1, e2, hw, hd, hs, hl, hx0⟩ := h
  rcases hx0.symm with ⟨q, -⟩ | ⟨ho, hwt⟩
  · exact absurd hf q
  have hn0 : n ≠ 0 := by
    rintro rfl
    obtain ⟨i, hi, -⟩ := anB_ex hwt
    omega
  obtain ⟨o1, o2, o3, o4, o5, o6, o7, o10, o11⟩ := ho
  unfold caM
  refine cut_CR (F := 487) hn hn0 (by rw [st_i (by decide), st_i (by decide), eoM_k (by decide)]; exact e1) (by rw [mcM_k (by decide), st_k (by decide), st_k (by decide)]; exact e2) hw hd (by rw [st_i (by decide), st_i (by decide), eoM_k (by decide)]; exact hs) (by rw [mcM_k (by decide), st_k (by decide), st_k (by decide)]; exact hl) (by rw [st_i (by decide), st_i (by decide), eoM_k (by decide), mcM_k (by decide), st_k (by decide), st_k (by decide)]; exact o6) (fun i hi => ⟨by rw [st_k (by decide), st_k (by decide), eoM_k (by decide)], by rw [st_k (by decide), st_k (by decide), eoM_k (by decide)], by rw [st_k (by decide), st_k (by decide), eoM_k (by decide)], by rw [st_k (by decide), st_k (by decide), eoM_14 hi]⟩) (fun i hi => ⟨by rw [mcM_k (by decide), st_k (by decide), st_k (by decide)], by rw [mcM_k (by decide), st_k (by decide), st_k (by decide)], by rw [mcM_k (by decide), st_k (by decide), st_k (by decide)], by rw [mcM_30 hi, st_k (by decide), st_k (by decide)]⟩) st_same (by rw [mcM_k (by decide), st_same]) (by decide) (by rw [st_i (by decide), st_i (by decide), eoM_k (by decide), mcM_k (by decide), st_k (by decide), st_k (by decide), o3, o4]) (Or.inl ⟨by rw [st_i (by decide), st_same]; decide, rfl⟩)
theorem CR_hung {c n b t : Nat} {μ ν : Mem} (h : CRn c n μ ν t) : CRn c n (st μ 15 c b 1) (st ν 31 0 (12 * c + b) 1) t := by
  obtain ⟨hn, e1, e2, hw, hd, hs, hl, hx0⟩ := h
  have f14 : st μ 15 c b 1 14 c = μ 14 c := st_row (fun q => absurd q.1 (by decide))
  have fw : wtP (st μ 15 c b 1) c = wtP μ c := by
    funext i
    unfold wtP
    rw [st_k (by decide), st_k (by decide), st_k (by decide)]
  refine ⟨hn, by rw [st_k (by decide)]; exact e1, by rw [st_k (by decide)]; exact e2, fun i hi => ?_, CDi_st hd (by decide), by rw [st_k (by decide)]; exact hs, by rw [st_k (by decide)]; exact hl, ?_⟩
  · obtain ⟨w1, w2, w3, w4, w5, w6⟩ := hw i hi
    refine ⟨by rw [st_k (by decide), st_k (by decide)]; exact w1, by rw [st_k (by decide), st_k (by decide)]; exact w2, by rw [st_k (by decide), st_k (by decide)]; exact w3, ?_, by rw [st_k (by decide)]; exact w5, by rw [st_k (by decide)]; exact w6⟩
    by_cases e : i = b
    · subst e; rw [st_same, st_same]
    · rw [st_i e, st_i (by omega)]; exact w4
  · rcases hx0 with ⟨⟨o1, o2, o3, o4, o5, o6, ⟨s0, o7, o8, o9⟩, o10, o11⟩, o12⟩ | ⟨o1, o2, o3, o4, o5⟩
    · refine Or.inl ⟨⟨by rw [st_k (by decide)]; exact o1, by rw [st_k (by decide)]; exact o2, by rw [st_k (by decide)]; exact o3, by rw [st_k (by decide)]; exact o4, by rw [st_k (by decide)]; exact o5, by rw [st_k (by decide), st_k (by decide)]; exact o6, ⟨s0, o7, by rw [st_k (by decide)]; exact o8, by rw [st_k (by decide)]; exact o9⟩, fun i hi => ?_, fun i hi => ?_⟩, by rw [fw]; exact o12⟩
      · rw [st_k (by decide)]; exact o10 i hi
      · rw [st_k (by decide), st_k (by decide), st_k (by decide)]; exact o11 i hi
    · refine Or.inr ⟨by rw [st_k (by decide)]; exact o1, by rw [st_k (by decide), st_k (by decide)]; exact o2, by rw [st_k (by decide), st_k (by decide)]; exact o3, fun i hi => ?_, ?_⟩
      · rw [st_k (by decide), st_k (by decide), st_k (by decide), st_k (by decide), st_k (by decide)]
        exact o4 i hi
      · rw [st_k (by decide), st_k (by decide), f14]; exact o5
