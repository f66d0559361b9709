/-! THE TWO AGREE: first a call that goes on -/
theorem imI {n : Nat} (h : n < 2 ^ 31) : (nI n).toInt = (n : Int) := nI_T h
theorem i200 : (200 : Int32).toInt = 200 := by decide
theorem i300 : (300 : Int32).toInt = 300 := by decide
theorem i100 : (100 : Int32).toInt = 100 := by decide
theorem i480' : (480 : Int32).toInt = 480 := by decide
theorem beL_3 {f : Nat → Int32} {n : Nat} (h : ¬ f n = 487) (h2 : ¬ beL f n = -1) (h3 : f n < beL f n) : beL f (n + 1) = f n := by rw [beL_2 h h2, if_pos h3]
theorem beL_4 {f : Nat → Int32} {n : Nat} (h : ¬ f n = 487) (h2 : ¬ beL f n = -1) (h3 : ¬ f n < beL f n) : beL f (n + 1) = beL f n := by rw [beL_2 h h2, if_neg h3]
theorem be_cong {f g : Nat → Int32} : ∀ {n : Nat}, (∀ b, b < n → f b = g b) → beL f n = beL g n ∧ beG f n = beG g n ∧ mbL f n = mbL g n ∧ mbG f n = mbG g n
  | 0, _ => ⟨rfl, rfl, rfl, rfl⟩
  | n + 1, h => by
    obtain ⟨h1, h2, h3, h4⟩ := be_cong (n := n) (fun b hb => h b (by omega))
    have e := h n (by omega)
    refine ⟨?_, ?_, ?_, ?_⟩
    · show (if f n = 487 then beL f n else if beL f n = -1 then f n else if f n < beL f n then f n else beL f n) = (if g n = 487 then beL g n else if beL g n = -1 then g n else if g n < beL g n then g n else beL g n)
      rw [e, h1]
    · show (if f n = 487 then beG f n else if beG f n < f n then f n else beG f n) = (if g n = 487 then beG g n else if beG g n < g n then g n else beG g n)
      rw [e, h2]
    · show (if f n = 487 then mbL f n else if mbL f n = 0 then f n else if mbL f n ≤ f n then mbL f n else f n) = (if g n = 487 then mbL g n else if mbL g n = 0 then g n else if mbL g n ≤ g n then mbL g n else g n)
      rw [e, h3]
    · show (if f n ≤ mbG f n then mbG f n else f n) = (if g n ≤ mbG g n then mbG g n else g n)
      rw [e, h4]
theorem beI_cong {f g : Nat → Int32} {n : Nat} (h : ∀ b, b < n → f b = g b) : beI f n = beI g n ∧ mbI f n = mbI g n := by
  obtain ⟨h1, h2, h3, h4⟩ := be_cong h
  unfold beI mbI
  rw [h1, h2, h3, h4]
  exact ⟨rfl, rfl⟩
/-- the least and the greatest, kept in both ways -/
theorem be_mb {f : Nat → Int32} : ∀ {n : Nat}, (∀ b, b < n → 200 ≤ f b) → ((beL f n = -1 ∧ mbL f n = 0) ∨ (¬ beL f n = -1 ∧ mbL f n = beL f n ∧ 200 ≤ beL f n)) ∧ (600 ≤ mbG f n ∨ 600 ≤ beG f n → mbG f n = beG f n) ∧ -1 ≤ beG f n
  | 0, _ => ⟨Or.inl ⟨rfl, rfl⟩, fun h => h.elim (fun q => absurd q (show ¬ (600 : Int32) ≤ 0 by decide)) (fun q => absurd q (show ¬ (600 : Int32) ≤ -1 by decide)), show (-1 : Int32) ≤ -1 by decide⟩
  | n + 1, h => by
    obtain ⟨h1, h2, h3⟩ := be_mb (f := f) (n := n) (fun b hb => h b (by omega))
    have hx := h n (by omega)
    have p0 := mbG_pos f n
    by_cases e : f n = 487
    · refine ⟨?_, ?_, ?_⟩
      · rw [beL_0 e, mbL_0 e]; exact h1
      · rw [beG_0 e]
        by_cases a : f n ≤ mbG f n
        · rw [mbG_p a]; exact h2
        · rw [mbG_n a, e]
          intro q
          exfalso
          rw [e] at a
          rcases q with q | q
          · exact absurd q (by decide)
          · have := h2 (Or.inr q)
            rw [this] at a
            simp only [Int32.le_iff_toInt_le, Int32.lt_iff_toInt_lt, i600, i487] at a q
            omega
      · rw [beG_0 e]; exact h3
    · refine ⟨?_, ?_, ?_⟩
      · rcases h1 with ⟨a, b⟩ | ⟨a, b, d⟩
        · rw [beL_1 e a, mbL_a e b]
          refine Or.inr ⟨?_, rfl, hx⟩
          intro q
          rw [q] at hx
          exact absurd hx (by decide)
        · have b0 : ¬ mbL f n = 0 := by
            rw [b]
            intro q
            rw [q] at d
            exact absurd d (by decide)
          by_cases k : f n < beL f n
          · rw [beL_3 e a k, mbL_c e b0 (by rw [b]; simp only [Int32.le_iff_toInt_le, Int32.lt_iff_toInt_lt] at k ⊢; omega)]
            refine Or.inr ⟨?_, rfl, hx⟩
            intro q
            rw [q] at hx
            exact absurd hx (by decide)
          · rw [beL_4 e a k, mbL_b e b0 (by rw [b]; simp only [Int32.le_iff_toInt_le, Int32.lt_iff_toInt_lt] at k ⊢; omega)]
            exact Or.inr ⟨a, b, d⟩
      · rw [beG_1 e]
        by_cases a : f n ≤ mbG f n
        · rw [mbG_p a]
          by_cases k : beG f n < f n
          · rw [if_pos k]
            intro q
            have key : 600 ≤ mbG f n := by
              rcases q with q | q
              · exact q
              · simp only [Int32.le_iff_toInt_le] at a q ⊢; omega
            have e2 := h2 (Or.inl key)
            rw [e2] at a
            simp only [Int32.le_iff_toInt_le, Int32.lt_iff_toInt_lt] at a k
            omega
          · rw [if_neg k]
            intro q
            exact h2 q
        · rw [mbG_n a]
          by_cases k : beG f n < f n
          · rw [if_pos k]; intro; rfl
          · rw [if_neg k]
            intro q
            have key : 600 ≤ beG f n := by
              rcases q with q | q
              · simp only [Int32.le_iff_toInt_le, Int32.lt_iff_toInt_lt] at q k ⊢; omega
              · exact q
            have e2 := h2 (Or.inr key)
            rw [e2] at a
            simp only [Int32.le_iff_toInt_le, Int32.lt_iff_toInt_lt] at a k
            exact absurd a (by omega)
      · rw [beG_1 e]
        split
        · simp only [Int32.le_iff_toInt_le, i200, im1] at hx ⊢; omega
        · exact h3
theorem mb_be {f : Nat → Int32} {n : Nat} (hn : n ≠ 0) (h : ∀ b, b < n → 200 ≤ f b) : mbI f n = beI f n := by
  obtain ⟨h1, h2, h3⟩ := be_mb h
  unfold mbI beI
  rw [if_neg hn]
  by_cases q : 600 ≤ beG f n
  · have e := h2 (Or.inr q)
    rw [if_pos q, e, if_neg (by simp only [Int32.le_iff_toInt_le, Int32.lt_iff_toInt_lt] at q ⊢; omega)]
  · have q2 : mbG f n < 600 := by
      rcases Int32.lt_or_le (mbG f n) 600 with r | r
      · exact r
      · exact absurd (h2 (Or.inl r) ▸ r) q
    rw [if_neg q, if_pos q2]
    rcases h1 with ⟨a, b⟩ | ⟨a, b, d⟩
    · rw [if_pos a, if_pos b]
    · rw [if_neg a, if_neg (by rw [b]; intro z; rw [z] at d; exact absurd d (by decide)), b]
theorem be_pos {f : Nat → Int32} {n : Nat} (h : ∀ b, b < n → 200 ≤ f b) : 200 ≤ beI f n := by
  obtain ⟨h1, h2, h3⟩ := be_mb h
  unfold beI
  split
  · rename_i q
    simp only [Int32.le_iff_toInt_le, i600, i200] at q ⊢; omega
  · split
    · decide
    · rename_i q
      rcases h1 with ⟨a, b⟩ | ⟨a, b, d⟩
      · exact absurd a q
      · exact d
/-! the next group of the reference -/
theorem nxF_ub {μ : Mem} {c : Nat} : ∀ {n : Nat}, ∀ b, b < n → ¬ μ 26 0 c ≤ μ 29 0 (12 * c + b) → μ 29 0 (12 * c + b) ≤ nxF μ c n
  | 0, b, hb, _ => absurd hb (Nat.not_lt_zero b)
  | n + 1, b, hb, h => by
    by_cases e : b = n
    · subst e
      by_cases a : μ 29 0 (12 * c + b) ≤ nxF μ c b
      · rw [nxF_b h a]; exact a
      · rw [nxF_c h a]; exact Int32.le_refl _
    · have ih := nxF_ub (μ := μ) (c := c) (n := n) b (by omega) h
      by_cases a : μ 26 0 c ≤ μ 29 0 (12 * c + n)
      · rw [nxF_a a]; exact ih
      · by_cases a2 : μ 29 0 (12 * c + n) ≤ nxF μ c n
        · rw [nxF_b a a2]; exact ih
        · rw [nxF_c a a2]
          simp only [Int32.le_iff_toInt_le] at ih a2 ⊢
          omega
theorem nxF_none {μ : Mem} {c n : Nat} (h : ∀ b, b < n → μ 26 0 c ≤ μ 29 0 (12 * c + b)) : nxF μ c n = -1 := by
  rcases nxF_sp (μ := μ) (c := c) (n := n) with e | ⟨b, hb, e, hx⟩
  · exact e
  · exact absurd (h b hb) hx
theorem nxF_is {μ : Mem} {c n j : Nat} (hj : j < 100) (h1 : ∃ b, b < n ∧ μ 29 0 (12 * c + b) = nI j ∧ ¬ μ 26 0 c ≤ μ 29 0 (12 * c + b)) (h2 : ∀ b, b < n → ¬ μ 26 0 c ≤ μ 29 0 (12 * c + b) → μ 29 0 (12 * c + b) ≤ nI j) : nxF μ c n = nI j := by
  obtain ⟨b, hb, e, hx⟩ := h1
  have u := nxF_ub (n := n) b hb hx
  rw [e] at u
  rcases nxF_sp (μ := μ) (c := c) (n := n) with e2 | ⟨b2, hb2, e2, hx2⟩
  · rw [e2] at u
    simp only [Int32.le_iff_toInt_le, imI (show j < 2 ^ 31 by omega), im1] at u
    omega
  · have u2 := h2 b2 hb2 hx2
    rw [← e2] at u2
    apply Int32.toInt_inj.mp
    simp only [Int32.le_iff_toInt_le] at u u2
    omega
theorem sgM_14 {μ : Mem} {c n b : Nat} {q now : Int32} (hb : b < n) : sgM μ c n q now 14 c b = if μ 13 c b = q ∧ ¬ 200 ≤ μ 14 c b then 100 else μ 14 c b := by
  unfold sgM sg1
  rw [up_in0 hb]
  simp [st]
theorem sgM_13 {μ : Mem} {c n o b : Nat} {q now : Int32} : sgM μ c n q now 13 o b = μ 13 o b := by simp [sgM, sg1, up, st]
theorem sgM_5 {μ : Mem} {c n : Nat} {q now : Int32} : sgM μ c n q now 11 c 5 = q := by simp [sgM, sg1, up, st]
theorem sgM_6 {μ : Mem} {c n : Nat} {q now : Int32} : sgM μ c n q now 11 c 6 = now := by simp [sgM, sg1, up, st]
theorem gs1_27 {μ : Mem} {c n : Nat} : gs1 μ c n 27 0 c = μ 16 0 1 := by simp [gs1, tryM, up, st]
theorem gs1_16 {μ : Mem} {c n i : Nat} : gs1 μ c n 16 0 i = μ 16 0 i := by simp [gs1, tryM, up, st]
/-- how a call of the class and a call of the reference stand to each other while it goes on; j the class's group -/
def GQ (c n j : Nat) (now : Int32) (μ ν : Mem) : Prop :=
  (∀ b, b < n → μ 13 c b = ν 29 0 (12 * c + b) ∧ μ 14 c b = ν 30 0 (12 * c + b) ∧ (∃ q, q ≤ 10 ∧ μ 13 c b = nI q) ∧ 0 ≤ μ 14 c b) ∧ ν 16 0 1 = now ∧ ν 23 0 c = -1 ∧ μ 11 c 5 = nI j ∧ (∀ b, b < n → (μ 13 c b < nI j ↔ ν 29 0 (12 * c + b) < ν 26 0 c)) ∧ (∀ b, b < n → μ 13 c b < nI j → ¬ 200 ≤ μ 14 c b → μ 14 c b = 0) ∧ (anB (wtP μ c) n = true → μ 11 c 5 = ν 26 0 c ∧ μ 11 c 6 = ν 27 0 c) ∧ -1 ≤ ν 26 0 c ∧ ν 26 0 c ≤ 11
theorem GQ.busy {c n j : Nat} {now : Int32} {μ ν : Mem} (h : GQ c n j now μ ν) : anB (mwP ν c) n = anB (wtP μ c) n := by
  obtain ⟨h1, -, -, h4, h5, -⟩ := h
  refine anB_cong fun b hb => ?_
  obtain ⟨e1, e2, -⟩ := h1 b hb
  unfold mwP wtP
  rw [← e2, h4]
  congr 1
  have := h5 b hb
  by_cases q : μ 13 c b < nI j
  · rw [decide_eq_true (this.mp q), decide_eq_false (by simp only [Int32.le_iff_toInt_le, Int32.lt_iff_toInt_lt] at q ⊢; omega)]
    rfl
  · rw [decide_eq_false (fun z => q (this.mpr z)), decide_eq_true (by simp only [Int32.le_iff_toInt_le, Int32.lt_iff_toInt_lt] at q ⊢; omega)]
    rfl
theorem mgM_stop {c n f : Nat} {ν : Mem} (h : ¬ (ν 23 0 c = -1 ∧ ¬ anB (mwP ν c) n = true)) : mgM c n f ν = ν := by
  cases f with
  | zero => rfl
  | succ f => exact if_neg h
theorem mgM_go {c n f : Nat} {ν : Mem} (h : ν 23 0 c = -1) (h2 : ¬ anB (mwP ν c) n = true) : mgM c n (f + 1) ν = mgM c n f (gsM ν c n) := if_pos ⟨h, h2⟩
/-- what comes of it -/
def GE (c n : Nat) (μ μ' ν' : Mem) : Prop :=
  (∀ b, b < n → μ' 14 c b = ν' 30 0 (12 * c + b)) ∧ (∀ b, b < n → μ' 14 c b = μ 14 c b ∨ (¬ 200 ≤ μ 14 c b ∧ μ' 14 c b = 100)) ∧ (∃ s, s ≤ 11 ∧ μ' 11 c 5 = nI s) ∧ (-1 ≤ ν' 26 0 c ∧ ν' 26 0 c ≤ 11) ∧
  ((anB (wtP μ' c) n = true ∧ ν' 23 0 c = -1 ∧ μ' 11 c 5 = ν' 26 0 c ∧ μ' 11 c 6 = ν' 27 0 c ∧ ∀ b, b < n → μ' 13 c b < μ' 11 c 5 → ¬ 200 ≤ μ' 14 c b → μ' 14 c b = 0) ∨
   (¬ anB (wtP μ' c) n = true ∧ ν' 23 0 c = mbI (mf ν' c) n ∧ ∀ b, b < n → 200 ≤ μ' 14 c b ∧ μ' 11 c 5 ≤ μ' 13 c b ∧ ν' 26 0 c ≤ ν' 29 0 (12 * c + b)))
theorem GE.step {c n : Nat} {μ μ1 μ' ν' : Mem} (h : ∀ b, b < n → μ1 14 c b = μ 14 c b ∨ (¬ 200 ≤ μ 14 c b ∧ μ1 14 c b = 100)) (g : GE c n μ1 μ' ν') : GE c n μ μ' ν' := by
  obtain ⟨g1, g2, g3⟩ := g
  refine ⟨g1, fun b hb => ?_, g3⟩
  rcases h b hb with e | ⟨e1, e2⟩
  · rw [← e]; exact g2 b hb
  · rcases g2 b hb with z | ⟨z1, z2⟩
    · exact Or.inr ⟨e1, by rw [z, e2]⟩
    · exact Or.inr ⟨e1, z2⟩
theorem GQ.wait {c n j f : Nat} {now : Int32} {μ ν : Mem} (hj : j ≤ 11) (h : GQ c n j now μ ν) (hw : anB (wtP μ c) n = true) : GE c n μ μ (mgM c n f ν) := by
  have hb := h.busy
  obtain ⟨h1, h2, h3, h4, h5, h6, h7, h8⟩ := h
  rw [mgM_stop (fun q => q.2 (by rw [hb]; exact hw))]
  obtain ⟨e1, e2⟩ := h7 hw
  exact ⟨fun b hb => (h1 b hb).2.1, fun b hb => Or.inl rfl, ⟨j, hj, h4⟩, h8, Or.inl ⟨hw, h3, e1, e2, fun b hb q => h6 b hb (by rw [h4] at q; exact q)⟩⟩
theorem wait_no {μ : Mem} {c n b : Nat} (hw : ¬ anB (wtP μ c) n = true) (hb : b < n) (hs : μ 11 c 5 ≤ μ 13 c b) : 200 ≤ μ 14 c b := by
  have h := anB_all (p := wtP μ c) (n := n) (by cases e : anB (wtP μ c) n; rfl; exact absurd e hw) b hb
  unfold wtP at h
  rw [decide_eq_true hs] at h
  by_cases q : 200 ≤ μ 14 c b
  · exact q
  · rw [decide_eq_false q] at h
    cases h
