theorem go_eq {c n : Nat} {now : Int32} (hn : n ≤ 12) : ∀ (j f : Nat) (μ ν : Mem), j + 2 ≤ f → j ≤ 11 → GQ c n j now μ ν → GE c n μ (goM c n now j μ) (mgM c n f ν) := by
  intro j
  induction j with
  | zero =>
    intro f μ ν hf hj h
    show GE c n μ μ (mgM c n f ν)
    by_cases hw : anB (wtP μ c) n = true
    · exact h.wait hj hw
    have hbs := h.busy
    obtain ⟨h1, h2, h3, h4, h5, h6, h7, h8⟩ := h
    obtain ⟨f, rfl⟩ : ∃ g, f = g + 1 := ⟨f - 1, by omega⟩
    have hq0 : ∀ b, b < n → μ 11 c 5 ≤ μ 13 c b := by
      intro b hb
      obtain ⟨-, -, ⟨q, hq, e⟩, -⟩ := h1 b hb
      rw [h4, e]
      exact (nI_leI (by decide) (by omega)).mpr (Nat.zero_le q)
    have hall : ∀ b, b < n → 200 ≤ μ 14 c b := fun b hb => wait_no hw hb (hq0 b hb)
    have hr : ∀ b, b < n → ν 26 0 c ≤ ν 29 0 (12 * c + b) := by
      intro b hb
      have h9 := h5 b hb
      have h10 := hq0 b hb
      rw [h4] at h10
      by_cases z : ν 29 0 (12 * c + b) < ν 26 0 c
      · have z2 := h9.mpr z
        simp only [Int32.le_iff_toInt_le, Int32.lt_iff_toInt_lt] at z2 h10
        omega
      · simp only [Int32.le_iff_toInt_le, Int32.lt_iff_toInt_lt] at z ⊢
        omega
    have hx : nxF ν c n = -1 := nxF_none hr
    rw [mgM_go h3 (by rw [hbs]; exact hw)]
    have hf30 : ∀ b, b < n → gs1 ν c n 30 0 (12 * c + b) = μ 14 c b := by
      intro b hb
      rw [gs1_30 hb, hx]
      obtain ⟨e1, e2, ⟨q, hq, e3⟩, -⟩ := h1 b hb
      rw [← e1, ← e2, e3, if_neg (fun z => nI_ne1 (by omega) z.1)]
    have e23 : gsM ν c n 23 0 c = mbI (mf (gs1 ν c n) c) n := by
      unfold gsM
      rw [if_pos hx, st_same]
    have hpos : 0 ≤ mbI (mf (gs1 ν c n) c) n := mbI_pos (fun b hb => by
      show 0 ≤ gs1 ν c n 30 0 (12 * c + b)
      rw [hf30 b hb]
      exact (h1 b hb).2.2.2)
    rw [mgM_stop (fun q => by
      rw [e23] at q
      rw [q.1] at hpos
      exact absurd hpos (by decide))]
    refine ⟨fun b hb => ?_, fun b hb => Or.inl rfl, ⟨0, by decide, h4⟩, ?_, Or.inr ⟨hw, ?_, fun b hb => ⟨hall b hb, hq0 b hb, ?_⟩⟩⟩
    · rw [gsM_k (by decide), hf30 b hb]
    · rw [gsM_k (by decide), gs1_26, hx]
      exact ⟨by decide, by decide⟩
    · rw [e23]
      refine (beI_cong fun b hb => ?_).2
      show gs1 ν c n 30 0 (12 * c + b) = gsM ν c n 30 0 (12 * c + b)
      rw [gsM_k (by decide)]
    · rw [gsM_k (by decide), gs1_26, hx, gsM_k (by decide), gs1_29, ← (h1 b hb).1]
      obtain ⟨-, -, ⟨q, hq, e⟩, -⟩ := h1 b hb
      rw [e]
      simp only [Int32.le_iff_toInt_le, im1, imI (show q < 2 ^ 31 by omega)]
      omega
  | succ j ih =>
    intro f μ ν hf hj h
    by_cases hw : anB (wtP μ c) n = true
    · rw [goM_w hw]
      exact h.wait hj hw
    rw [goM_n hw]
    have hbs := h.busy
    obtain ⟨h1, h2, h3, h4, h5, h6, h7, h8, h9⟩ := h
    have hj2 : (nI (j + 1)).toInt = (j : Int) + 1 := by rw [imI (by omega)]; omega
    have hj1 : (nI j).toInt = (j : Int) := imI (by omega)
    have s14 : ∀ b, b < n → sgM μ c n (nI j) now 14 c b = μ 14 c b ∨ (¬ 200 ≤ μ 14 c b ∧ sgM μ c n (nI j) now 14 c b = 100) := by
      intro b hb
      rw [sgM_14 hb]
      by_cases z : μ 13 c b = nI j ∧ ¬ 200 ≤ μ 14 c b
      · rw [if_pos z]; exact Or.inr ⟨z.2, rfl⟩
      · rw [if_neg z]; exact Or.inl rfl
    have s14p : ∀ b, b < n → 0 ≤ sgM μ c n (nI j) now 14 c b := by
      intro b hb
      rcases s14 b hb with e | ⟨-, e⟩
      · rw [e]; exact (h1 b hb).2.2.2
      · rw [e]; decide
    have s14u : ∀ b, b < n → sgM μ c n (nI j) now 13 c b < nI j → ¬ 200 ≤ sgM μ c n (nI j) now 14 c b → sgM μ c n (nI j) now 14 c b = 0 := by
      intro b hb q1 q2
      rw [sgM_13] at q1
      have hne : ¬ μ 13 c b = nI j := fun z => by rw [z] at q1; exact absurd q1 (by simp [Int32.lt_iff_toInt_lt])
      rw [sgM_14 hb, if_neg (fun z => hne z.1)] at q2 ⊢
      exact h6 b hb (by simp only [Int32.lt_iff_toInt_lt] at q1 ⊢; omega) q2
    by_cases hex : ∃ b, b < n ∧ μ 13 c b = nI j
    · obtain ⟨b0, hb0, e0⟩ := hex
      have hlt : ∀ b, b < n → (¬ ν 26 0 c ≤ ν 29 0 (12 * c + b) ↔ μ 13 c b < nI (j + 1)) := fun b hb => by
        rw [h5 b hb]
        simp only [Int32.le_iff_toInt_le, Int32.lt_iff_toInt_lt]
        omega
      have hx : nxF ν c n = nI j := nxF_is (by omega) ⟨b0, hb0, by rw [← (h1 b0 hb0).1]; exact e0, (hlt b0 hb0).mpr (by rw [e0]; simp only [Int32.lt_iff_toInt_lt]; omega)⟩ (fun b hb q => by
        have q2 := (hlt b hb).mp q
        rw [← (h1 b hb).1]
        simp only [Int32.le_iff_toInt_le, Int32.lt_iff_toInt_lt] at q2 ⊢
        omega)
      obtain ⟨f, rfl⟩ : ∃ g, f = g + 1 := ⟨f - 1, by omega⟩
      rw [mgM_go h3 (by rw [hbs]; exact hw)]
      have egs : gsM ν c n = gs1 ν c n := by
        unfold gsM
        rw [if_neg (by rw [hx]; exact nI_ne1 (by omega))]
      rw [egs]
      refine GE.step s14 (ih f _ _ (by omega) (by omega) ?_)
      refine ⟨fun b hb => ?_, by rw [gs1_16]; exact h2, by rw [gs1_23]; exact h3, sgM_5, fun b hb => ?_, s14u, fun _ => ⟨by rw [sgM_5, gs1_26, hx], by rw [sgM_6, gs1_27, h2]⟩, ?_, ?_⟩
      · obtain ⟨e1, e2, e3, e4⟩ := h1 b hb
        refine ⟨by rw [sgM_13, gs1_29]; exact e1, ?_, by rw [sgM_13]; exact e3, s14p b hb⟩
        rw [sgM_14 hb, gs1_30 hb, hx, ← e1, ← e2]
        by_cases z : μ 13 c b = nI j
        · by_cases z2 : 200 ≤ μ 14 c b
          · rw [if_neg (fun q => q.2 z2), if_neg (fun q => by rw [q.2] at z2; exact absurd z2 (by decide))]
          · have z3 := h6 b hb (by rw [z]; simp only [Int32.lt_iff_toInt_lt]; omega) z2
            rw [if_pos ⟨z, z2⟩, if_pos ⟨z, z3⟩]
        · rw [if_neg (fun q => z q.1), if_neg (fun q => z q.1)]
      · rw [sgM_13, gs1_29, gs1_26, hx, (h1 b hb).1]
      · rw [gs1_26, hx]; simp only [Int32.le_iff_toInt_le, im1]; omega
      · rw [gs1_26, hx]; simp only [Int32.le_iff_toInt_le, i11]; omega
    · have hne : ∀ b, b < n → ¬ μ 13 c b = nI j := fun b hb e => hex ⟨b, hb, e⟩
      have same14 : ∀ b, b < n → sgM μ c n (nI j) now 14 c b = μ 14 c b := fun b hb => by rw [sgM_14 hb, if_neg (fun q => hne b hb q.1)]
      have hlj : ∀ b, b < n → (μ 13 c b < nI j ↔ μ 13 c b < nI (j + 1)) := by
        intro b hb
        have := hne b hb
        rw [← Int32.toInt_inj] at this
        simp only [Int32.lt_iff_toInt_lt]
        omega
      refine GE.step s14 (ih f _ _ (by omega) (by omega) ?_)
      refine ⟨fun b hb => ?_, h2, h3, sgM_5, fun b hb => ?_, s14u, fun q => ?_, h8, h9⟩
      · obtain ⟨e1, e2, e3, e4⟩ := h1 b hb
        exact ⟨by rw [sgM_13]; exact e1, by rw [same14 b hb]; exact e2, by rw [sgM_13]; exact e3, s14p b hb⟩
      · rw [sgM_13, hlj b hb]
        exact h5 b hb
      · exfalso
        apply hw
        obtain ⟨b, hb, q2⟩ := anB_ex q
        unfold wtP at q2
        rw [sgM_5, sgM_13, same14 b hb] at q2
        obtain ⟨q3, q4⟩ := (Bool.and_eq_true _ _).mp q2
        refine anB_of (i := b) ?_ hb
        unfold wtP
        rw [h4, q4, Bool.and_true]
        have q5 := of_decide_eq_true q3
        refine decide_eq_true ?_
        have := (hlj b hb).mpr
        rcases Int32.lt_or_le (μ 13 c b) (nI (j + 1)) with z | z
        · have z2 := this z
          simp only [Int32.le_iff_toInt_le, Int32.lt_iff_toInt_lt] at z2 q5
          omega
        · exact z
