/-! the law's row beside the object, and its look at a call -/
def LX (K t q : Nat) (μ : Mem) : Prop := μ 16 0 0 = nI t ∧ μ 16 0 1 = nI K ∧ μ 16 0 2 = nI q ∧ (∀ d, d < 10 → μ 16 0 (4 + d) = μ 3 0 d) ∧ ∃ M, M < 2 ^ 12 ∧ μ 16 0 3 = nI M ∧ ∀ c, c < 12 → M.testBit c = !decide (μ 11 c 9 = 0)
def JX (K t q : Nat) (μ : Mem) : Prop := IX K t q μ ∧ LX K t q μ
theorem LX.cong {K t q : Nat} {μ μ' : Mem} (h : LX K t q μ) (h16 : ∀ i, μ' 16 0 i = μ 16 0 i) (h3 : ∀ i, μ' 3 0 i = μ 3 0 i) (h9 : ∀ c, μ' 11 c 9 = μ 11 c 9) : LX K t q μ' := by
  unfold LX at h ⊢
  simp only [h16, h3, h9]
  exact h
theorem JX.cong {K t q : Nat} {μ μ' : Mem} (h : JX K t q μ) (hA : ∀ k o i, k ≠ 5 → μ' k o i = μ k o i) : JX K t q μ' :=
  ⟨h.1.cong (fun k o i _ _ _ a => hA k o i a), h.2.cong (fun i => hA 16 0 i (by decide)) (fun i => hA 3 0 i (by decide)) (fun c => hA 11 c 9 (by decide))⟩
theorem moG_sp {f : Nat → Int32} : ∀ {n : Nat}, (∀ b, b < n → f b ≤ moG f n) ∧ (moG f n = -1 ∨ ∃ b, b < n ∧ moG f n = f b)
  | 0 => ⟨fun b hb => absurd hb (Nat.not_lt_zero b), Or.inl rfl⟩
  | n + 1 => by
    obtain ⟨i1, i2⟩ := moG_sp (f := f) (n := n)
    by_cases k : f n ≤ moG f n
    · rw [moG_t k]
      refine ⟨fun b hb => ?_, ?_⟩
      · by_cases z : b = n
        · rw [z]; exact k
        · exact i1 b (by omega)
      · rcases i2 with a | ⟨b, hb, h1⟩
        · exact Or.inl a
        · exact Or.inr ⟨b, by omega, h1⟩
    · rw [moG_f k]
      refine ⟨fun b hb => ?_, Or.inr ⟨n, by omega, rfl⟩⟩
      by_cases z : b = n
      · rw [z]; exact Int32.le_refl _
      · have := i1 b (by omega)
        simp only [Int32.le_iff_toInt_le] at this k ⊢; omega
theorem mo_be {f : Nat → Int32} {n : Nat} : (if 600 ≤ moG f n then moG f n else if beL f n = -1 then 487 else beL f n) = beI f n := by
  obtain ⟨a1, a2⟩ := moG_sp (f := f) (n := n)
  obtain ⟨b1, b2⟩ := beG_sp (f := f) (n := n)
  unfold beI
  by_cases k : 600 ≤ moG f n
  · have e : beG f n = moG f n := by
      rcases a2 with q | ⟨b, hb, q⟩
      · rw [q] at k; exact absurd k (by decide)
      · have h487 : ¬ f b = 487 := fun z => by rw [q, z] at k; exact absurd k (by decide)
        have h1 := b1 b hb h487
        rcases b2 with r | ⟨b', hb', -, r⟩
        · rw [q] at k; rw [r] at h1; exfalso; simp only [Int32.le_iff_toInt_le, i600, im1] at k h1; omega
        · have h2 := a1 b' hb'
          apply Int32.toInt_inj.mp
          rw [q] at h2 ⊢
          rw [← r] at h2
          simp only [Int32.le_iff_toInt_le] at h1 h2; omega
    rw [if_pos k, e, if_pos k]
  · have e : ¬ 600 ≤ beG f n := fun z => by
      rcases b2 with r | ⟨b', hb', -, r⟩
      · rw [r] at z; exact absurd z (by decide)
      · have h2 := a1 b' hb'
        rw [← r] at h2
        simp only [Int32.le_iff_toInt_le, i600] at z h2 k; omega
    rw [if_neg k, if_neg e]
theorem C_isCall {E : EE} {K t q c : Nat} {μ : Mem} (h : JX K t q μ) (hc : c < K) : ∃ μ', MM E yL_isCall cL_isCall 9 (some .boolean) (rm 5 0) [.ref (ad E 0 0), .ref (ad E 16 0), .int (nI c)] μ (some (.int 1)) μ' ∧ JX K t q μ' := by
  have hJ := h
  obtain ⟨hI, l0, l1, l2, l3, M, hM, l4, l5⟩ := h
  have hK := hI.1
  obtain ⟨n, hR⟩ := hI.2.2.2.2.2.2.1 c hc
  obtain ⟨hn12, hn⟩ := hR.n
  obtain ⟨g1, g2⟩ := bit_at hM (show c < 12 by omega)
  have hbt : (μ 16 0 3 >>> (nI c &&& 31)) &&& nI 1 = nI (M / 2 ^ c % 2) := by rw [l4]; exact g1
  have hb2 : M / 2 ^ c % 2 = 1 ↔ ¬ μ 11 c 9 = 0 := by
    rw [l5 c (by omega)] at g2
    by_cases z : μ 11 c 9 = 0
    · rw [decide_eq_true z] at g2
      exact ⟨fun y => absurd (decide_eq_true y) (by rw [← g2]; decide), fun y => absurd z y⟩
    · rw [decide_eq_false z] at g2
      exact ⟨fun _ => z, fun _ => of_decide_eq_true g2.symm⟩
  have hbn : nI (M / 2 ^ c % 2) = nI 1 ↔ ¬ μ 11 c 9 = 0 := (nI_eq (by omega) (by decide)).trans hb2
  have hopen : μ 11 c 8 = -1 → 0 < nI (ctB (pG (μ 14 c)) n) ∧ laI (pT (μ 14 c)) n = -1 ∧ μ 11 c 7 = -1 ∧ ¬ 600 ≤ moG (μ 14 c) n := by
    intro hf
    rcases hR.2.2 with ⟨⟨o1, o2, o3, o4⟩, b, hb, hs⟩ | hE
    · refine ⟨?_, laI_no fun i hi => decide_eq_false fun z => ?_, o2, fun z => ?_⟩
      · have h1 := ct_lt (Q := pG (μ 14 c)) (p := b) (decide_eq_true hs) hb
        have h2 : ctB (pG (μ 14 c)) n ≤ n := ctB_le _ _
        exact (nI_ltI (a := 0) (by decide) (by omega)).mpr (by omega)
      · have := (o4 i hi z.1).1
        exact absurd z.2 (Int32.not_lt.mpr this)
      · rcases (moG_sp (f := μ 14 c) (n := n)).2 with r | ⟨b', hb', r⟩
        · rw [r] at z; exact absurd z (by decide)
        · rw [r] at z
          exact (o4 b' hb' (by simp only [Int32.le_iff_toInt_le, i600, i200] at z ⊢; omega)).2 z
    · exact absurd hf hE.1
  have hend : ¬ μ 11 c 8 = -1 → nI (ctB (pG (μ 14 c)) n) = 0 ∧ μ 11 c 8 = (if nI (M / 2 ^ c % 2) = nI 1 then 487 else if nI n = 0 then 480 else if ¬ laI (pT (μ 14 c)) n = -1 then μ 14 c (tN (laI (pT (μ 14 c)) n)) else if 600 ≤ moG (μ 14 c) n then moG (μ 14 c) n else if beL (μ 14 c) n = -1 then 487 else beL (μ 14 c) n) ∧ μ 11 c 7 = laI (pT (μ 14 c)) n := by
    intro hf
    rcases hR.2.2 with ⟨o, -⟩ | ⟨-, e1, e2⟩
    · exact absurd o.1 hf
    · have hg : nI (ctB (pG (μ 14 c)) n) = 0 := by
        rw [show ctB (pG (μ 14 c)) n = 0 from ctB_none fun i hi => decide_eq_false (p := μ 14 c i = 100 ∨ μ 14 c i = 180) fun z => absurd (e1 i hi) (sOp_lt z)]
        decide
      have h300 : (∀ b, b < n → 300 ≤ μ 14 c b) → laI (pT (μ 14 c)) n = -1 := fun hh => laI_no fun i hi => decide_eq_false fun z => absurd z.2 (Int32.not_lt.mpr (hh i hi))
      refine ⟨hg, ?_⟩
      rcases e2 with ⟨r1, r2, r3, r4⟩ | ⟨r1, r2, r3, r4, r5⟩ | ⟨r1, r2, r3, r4, r5⟩ | ⟨r1, r2, a, ha, r3, r4, r5, r6⟩
      · rw [if_neg (fun z => hbn.mp z r4), if_pos (by rw [r1]; decide), r2, r3]
        exact ⟨rfl, (laI_no fun i hi => by omega).symm⟩
      · rw [if_pos (hbn.mpr r2), r3, r4]
        exact ⟨rfl, (h300 r5).symm⟩
      · rw [if_neg (fun z => hbn.mp z r2), if_neg (nI_ne0 (by omega) (by omega)), if_neg (fun z => z (h300 r5)), mo_be, r4]
        exact ⟨r3, (h300 r5).symm⟩
      · have hl : laI (pT (μ 14 c)) n = nI a := laI_at ha (decide_eq_true ⟨e1 a ha, Int32.not_le.mp r5⟩) fun j hj z => by
          by_cases y : j = a
          · exact y
          · exact absurd (of_decide_eq_true z).2 (Int32.not_lt.mpr (r6 j hj y).1)
        rw [if_neg (fun z => hbn.mp z r2), if_neg (nI_ne0 (by omega) (by omega)), hl, if_pos (nI_m1 (by omega)), tN_nI (by omega), r3]
        exact ⟨r4.symm, rfl⟩
  refine ⟨_, C_L_isCall hI c n hc hn12 hn (M / 2 ^ c % 2) hbt hR hopen hend, ?_⟩
  split
  · exact hJ
  · exact hJ.cong fun k o i hk => fsM_k hk
