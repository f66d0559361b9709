/-! the best end, by its least and its greatest and by sorting -/
theorem imI {n : Nat} (h : n < 2 ^ 31) : (nI n).toInt = (n : Int) := nI_T h
theorem i0 : (0 : Int32).toInt = 0 := by decide
theorem im1 : (-1 : Int32).toInt = -1 := by decide
theorem i11 : (11 : Int32).toInt = 11 := by decide
theorem i100 : (100 : Int32).toInt = 100 := by decide
theorem i180 : (180 : Int32).toInt = 180 := by decide
theorem i200 : (200 : Int32).toInt = 200 := by decide
theorem i300 : (300 : Int32).toInt = 300 := by decide
theorem i408 : (408 : Int32).toInt = 408 := by decide
theorem i480 : (480 : Int32).toInt = 480 := by decide
theorem i482 : (482 : Int32).toInt = 482 := by decide
theorem i483 : (483 : Int32).toInt = 483 := by decide
theorem i487 : (487 : Int32).toInt = 487 := by decide
theorem i600 : (600 : Int32).toInt = 600 := by decide
theorem beL_3 {f : Nat → Int32} {n : Nat} (h : ¬ f n = 487) (h2 : ¬ beL f n = -1) (h3 : f n < beL f n) : beL f (n + 1) = f n := by rw [beL_2 h h2, if_pos h3]
theorem beL_4 {f : Nat → Int32} {n : Nat} (h : ¬ f n = 487) (h2 : ¬ beL f n = -1) (h3 : ¬ f n < beL f n) : beL f (n + 1) = beL f n := by rw [beL_2 h h2, if_neg h3]
theorem be_cong {f g : Nat → Int32} : ∀ {n : Nat}, (∀ b, b < n → f b = g b) → beL f n = beL g n ∧ beG f n = beG g n
  | 0, _ => ⟨rfl, rfl⟩
  | n + 1, h => by
    obtain ⟨h1, h2⟩ := be_cong (n := n) (fun b hb => h b (by omega))
    have e := h n (by omega)
    refine ⟨?_, ?_⟩
    · show (if f n = 487 then beL f n else if beL f n = -1 then f n else if f n < beL f n then f n else beL f n) = (if g n = 487 then beL g n else if beL g n = -1 then g n else if g n < beL g n then g n else beL g n)
      rw [e, h1]
    · show (if f n = 487 then beG f n else if beG f n < f n then f n else beG f n) = (if g n = 487 then beG g n else if beG g n < g n then g n else beG g n)
      rw [e, h2]
theorem beI_cong {f g : Nat → Int32} {n : Nat} (h : ∀ b, b < n → f b = g b) : beI f n = beI g n := by
  obtain ⟨h1, h2⟩ := be_cong h
  unfold beI
  rw [h1, h2]
/-! the least and the greatest end, and the sorted row -/
theorem beL_sp {f : Nat → Int32} : ∀ {n : Nat}, (∀ b, b < n → 0 ≤ f b) → (beL f n = -1 ∧ ∀ b, b < n → f b = 487) ∨ (¬ beL f n = -1 ∧ (∃ b, b < n ∧ ¬ f b = 487 ∧ f b = beL f n) ∧ ∀ b, b < n → ¬ f b = 487 → beL f n ≤ f b)
  | 0, _ => Or.inl ⟨rfl, fun b hb => absurd hb (Nat.not_lt_zero b)⟩
  | n + 1, h => by
    have ih := beL_sp (f := f) (n := n) (fun b hb => h b (by omega))
    have hx := h n (by omega)
    have hx1 : ¬ f n = -1 := fun q => by rw [q] at hx; exact absurd hx (by decide)
    by_cases e : f n = 487
    · rw [beL_0 e]
      rcases ih with ⟨a, b⟩ | ⟨a, ⟨b, hb, b1, b2⟩, d⟩
      · refine Or.inl ⟨a, fun i hi => ?_⟩
        by_cases q : i = n
        · rw [q]; exact e
        · exact b i (by omega)
      · refine Or.inr ⟨a, ⟨b, by omega, b1, b2⟩, fun i hi q => ?_⟩
        by_cases z : i = n
        · rw [z] at q; exact absurd e q
        · exact d i (by omega) q
    · rcases ih with ⟨a, b⟩ | ⟨a, ⟨b, hb, b1, b2⟩, d⟩
      · rw [beL_1 e a]
        refine Or.inr ⟨hx1, ⟨n, by omega, e, rfl⟩, fun i hi q => ?_⟩
        by_cases z : i = n
        · rw [z]; exact Int32.le_refl _
        · exact absurd (b i (by omega)) q
      · by_cases k : f n < beL f n
        · rw [beL_3 e a k]
          refine Or.inr ⟨hx1, ⟨n, by omega, e, rfl⟩, fun i hi q => ?_⟩
          by_cases z : i = n
          · rw [z]; exact Int32.le_refl _
          · have := d i (by omega) q
            simp only [Int32.le_iff_toInt_le, Int32.lt_iff_toInt_lt] at this k ⊢; omega
        · rw [beL_4 e a k]
          refine Or.inr ⟨a, ⟨b, by omega, b1, b2⟩, fun i hi q => ?_⟩
          by_cases z : i = n
          · rw [z]; simp only [Int32.le_iff_toInt_le, Int32.lt_iff_toInt_lt] at k ⊢; omega
          · exact d i (by omega) q
theorem beG_sp {f : Nat → Int32} : ∀ {n : Nat}, (∀ b, b < n → ¬ f b = 487 → f b ≤ beG f n) ∧ (beG f n = -1 ∨ ∃ b, b < n ∧ ¬ f b = 487 ∧ beG f n = f b)
  | 0 => ⟨fun b hb => absurd hb (Nat.not_lt_zero b), Or.inl rfl⟩
  | n + 1 => by
    obtain ⟨i1, i2⟩ := beG_sp (f := f) (n := n)
    by_cases e : f n = 487
    · rw [beG_0 e]
      refine ⟨fun b hb q => ?_, ?_⟩
      · by_cases z : b = n
        · rw [z] at q; exact absurd e q
        · exact i1 b (by omega) q
      · rcases i2 with a | ⟨b, hb, h1, h2⟩
        · exact Or.inl a
        · exact Or.inr ⟨b, by omega, h1, h2⟩
    · rw [beG_1 e]
      by_cases k : beG f n < f n
      · rw [if_pos k]
        refine ⟨fun b hb q => ?_, Or.inr ⟨n, by omega, e, rfl⟩⟩
        by_cases z : b = n
        · rw [z]; exact Int32.le_refl _
        · have := i1 b (by omega) q
          simp only [Int32.le_iff_toInt_le, Int32.lt_iff_toInt_lt] at this k ⊢; omega
      · rw [if_neg k]
        refine ⟨fun b hb q => ?_, ?_⟩
        · by_cases z : b = n
          · rw [z]; simp only [Int32.le_iff_toInt_le, Int32.lt_iff_toInt_lt] at k ⊢; omega
          · exact i1 b (by omega) q
        · rcases i2 with a | ⟨b, hb, h1, h2⟩
          · exact Or.inl a
          · exact Or.inr ⟨b, by omega, h1, h2⟩
/-- an answer is the least end, and there is none for all -/
theorem be_ans {f : Nat → Int32} {n b : Nat} {x : Int32} (hb : b < n) (hx : f b = x) (h2 : 200 ≤ x) (h3 : ¬ 300 ≤ x) (hall : ∀ i, i < n → i ≠ b → 300 ≤ f i ∧ ¬ 600 ≤ f i) : beI f n = x := by
  have hx0 : ¬ f b = 487 := fun q => by rw [hx] at q; rw [q] at h3; exact absurd h3 (by decide)
  have hnn : ∀ i, i < n → 0 ≤ f i := fun i hi => by
    by_cases e : i = b
    · rw [e, hx]; simp only [Int32.le_iff_toInt_le, i200, i0] at h2 ⊢; omega
    · have := (hall i hi e).1; simp only [Int32.le_iff_toInt_le, i300, i0] at this ⊢; omega
  have hG : ¬ 600 ≤ beG f n := by
    intro q
    rcases (beG_sp (f := f) (n := n)).2 with a | ⟨i, hi, -, a⟩
    · rw [a] at q; exact absurd q (by decide)
    · rw [a] at q
      by_cases e : i = b
      · rw [e, hx] at q; simp only [Int32.le_iff_toInt_le, i300, i600] at q h3; omega
      · exact (hall i hi e).2 q
  have hL : beL f n = x := by
    rcases beL_sp hnn with ⟨-, a⟩ | ⟨-, ⟨i, hi, a1, a2⟩, a3⟩
    · exact absurd (a b hb) hx0
    · have u := a3 b hb hx0
      by_cases e : i = b
      · rw [← a2, e, hx]
      · have := (hall i hi e).1
        rw [a2] at this
        rw [hx] at u
        simp only [Int32.le_iff_toInt_le, i300] at this u h3
        omega
  unfold beI
  rw [if_neg hG, if_neg (by rw [hL]; intro q; rw [q] at h2; exact absurd h2 (by decide)), hL]
/-! the sorting -/
def SRT (r : Nat → Int32) (p : Nat) : Prop := ∀ i j, i ≤ j → j < p → r i ≤ r j
theorem insM_sp {x : Int32} : ∀ (p : Nat) (μ : Mem), SRT (μ 5 0) p → (∀ i, p < i → insM x p μ 5 0 i = μ 5 0 i) ∧ SRT (insM x p μ 5 0) (p + 1) ∧ ∀ y, (∃ i, i < p + 1 ∧ insM x p μ 5 0 i = y) ↔ (y = x ∨ ∃ i, i < p ∧ μ 5 0 i = y)
  | 0, μ, _ => by
    refine ⟨fun i hi => st_i (by omega), fun i j hij hj => ?_, fun y => ⟨?_, ?_⟩⟩
    · obtain rfl : j = 0 := by omega
      obtain rfl : i = 0 := by omega
      exact Int32.le_refl _
    · rintro ⟨i, hi, e⟩
      obtain rfl : i = 0 := by omega
      have e2 : insM x 0 μ 5 0 0 = x := st_same
      exact Or.inl (e.symm.trans e2)
    · rintro (e | ⟨i, hi, -⟩)
      · exact ⟨0, by omega, (st_same : insM x 0 μ 5 0 0 = x).trans e.symm⟩
      · omega
  | p + 1, μ, h => by
    by_cases k : μ 5 0 p ≤ x
    · have e : insM x (p + 1) μ = st μ 5 0 (p + 1) x := if_pos k
      rw [e]
      refine ⟨fun i hi => st_i (by omega), fun i j hij hj => ?_, fun y => ⟨?_, ?_⟩⟩
      · by_cases ej : j = p + 1
        · subst ej
          rw [st_same]
          by_cases ei : i = p + 1
          · subst ei; rw [st_same]; exact Int32.le_refl _
          · rw [st_i (by omega)]
            have := h i p (by omega) (by omega)
            simp only [Int32.le_iff_toInt_le] at this k ⊢; omega
        · rw [st_i ej, st_i (by omega)]
          exact h i j hij (by omega)
      · rintro ⟨i, hi, e2⟩
        by_cases ei : i = p + 1
        · subst ei; rw [st_same] at e2; exact Or.inl e2.symm
        · rw [st_i ei] at e2; exact Or.inr ⟨i, by omega, e2⟩
      · rintro (e2 | ⟨i, hi, e2⟩)
        · exact ⟨p + 1, by omega, by rw [st_same]; exact e2.symm⟩
        · exact ⟨i, by omega, by rw [st_i (by omega)]; exact e2⟩
    · have e : insM x (p + 1) μ = insM x p (st μ 5 0 (p + 1) (μ 5 0 p)) := if_neg k
      have h1 : SRT (st μ 5 0 (p + 1) (μ 5 0 p) 5 0) p := fun i j hij hj => by
        rw [st_i (by omega), st_i (by omega)]
        exact h i j hij (by omega)
      obtain ⟨g1, g2, g3⟩ := insM_sp p (st μ 5 0 (p + 1) (μ 5 0 p)) h1
      rw [e]
      have top : insM x p (st μ 5 0 (p + 1) (μ 5 0 p)) 5 0 (p + 1) = μ 5 0 p := by rw [g1 (p + 1) (by omega), st_same]
      have mem : ∀ i, i < p + 1 → insM x p (st μ 5 0 (p + 1) (μ 5 0 p)) 5 0 i = x ∨ ∃ i', i' < p ∧ μ 5 0 i' = insM x p (st μ 5 0 (p + 1) (μ 5 0 p)) 5 0 i := by
        intro i hi
        rcases (g3 (insM x p (st μ 5 0 (p + 1) (μ 5 0 p)) 5 0 i)).mp ⟨i, hi, rfl⟩ with q | ⟨i', hi', q⟩
        · exact Or.inl q
        · rw [st_i (by omega)] at q
          exact Or.inr ⟨i', hi', q⟩
      refine ⟨fun i hi => by rw [g1 i (by omega), st_i (by omega)], fun i j hij hj => ?_, fun y => ⟨?_, ?_⟩⟩
      · by_cases ej : j = p + 1
        · subst ej
          rw [top]
          by_cases ei : i = p + 1
          · subst ei; rw [top]; exact Int32.le_refl _
          · rcases mem i (by omega) with q | ⟨i', hi', q⟩
            · rw [q]; simp only [Int32.le_iff_toInt_le] at k ⊢; omega
            · rw [← q]; exact h i' p (by omega) (by omega)
        · exact g2 i j hij (by omega)
      · rintro ⟨i, hi, e2⟩
        by_cases ei : i = p + 1
        · subst ei; rw [top] at e2; exact Or.inr ⟨p, by omega, e2⟩
        · rcases mem i (by omega) with q | ⟨i', hi', q⟩
          · exact Or.inl (e2.symm.trans q)
          · exact Or.inr ⟨i', by omega, q.trans e2⟩
      · rintro (e2 | ⟨i, hi, e2⟩)
        · obtain ⟨i, hi, q⟩ := (g3 y).mpr (Or.inl e2)
          exact ⟨i, by omega, q⟩
        · by_cases ei : i = p
          · subst ei; exact ⟨i + 1, by omega, top.trans e2⟩
          · obtain ⟨i', hi', q⟩ := (g3 y).mpr (Or.inr ⟨i, by omega, by rw [st_i (by omega)]; exact e2⟩)
            exact ⟨i', by omega, q⟩
theorem soM_sp {f : Nat → Int32} {μ : Mem} : ∀ n, SRT (soM f n μ 5 0) (soN f n) ∧ ∀ y, (∃ i, i < soN f n ∧ soM f n μ 5 0 i = y) ↔ ∃ b, b < n ∧ ¬ f b = 487 ∧ f b = y
  | 0 => ⟨fun i j hij hj => absurd hj (Nat.not_lt_zero j), fun y => ⟨fun ⟨i, hi, _⟩ => absurd hi (Nat.not_lt_zero i), fun ⟨b, hb, _⟩ => absurd hb (Nat.not_lt_zero b)⟩⟩
  | n + 1 => by
    obtain ⟨h1, h2⟩ := soM_sp (f := f) (μ := μ) n
    by_cases e : f n = 487
    · have e1 : soM f (n + 1) μ = soM f n μ := if_pos e
      have e2 : soN f (n + 1) = soN f n := if_pos e
      rw [e1, e2]
      refine ⟨h1, fun y => (h2 y).trans ⟨?_, ?_⟩⟩
      · rintro ⟨b, hb, q1, q2⟩; exact ⟨b, by omega, q1, q2⟩
      · rintro ⟨b, hb, q1, q2⟩
        by_cases z : b = n
        · rw [z] at q1; exact absurd e q1
        · exact ⟨b, by omega, q1, q2⟩
    · have e1 : soM f (n + 1) μ = insM (f n) (soN f n) (soM f n μ) := if_neg e
      have e2 : soN f (n + 1) = soN f n + 1 := if_neg e
      rw [e1, e2]
      obtain ⟨-, g2, g3⟩ := insM_sp (x := f n) (soN f n) (soM f n μ) h1
      refine ⟨g2, fun y => (g3 y).trans ⟨?_, ?_⟩⟩
      · rintro (q | q)
        · exact ⟨n, by omega, e, q.symm⟩
        · obtain ⟨b, hb, q1, q2⟩ := (h2 y).mp q
          exact ⟨b, by omega, q1, q2⟩
      · rintro ⟨b, hb, q1, q2⟩
        by_cases z : b = n
        · rw [z] at q2; exact Or.inl q2.symm
        · exact Or.inr ((h2 y).mpr ⟨b, by omega, q1, q2⟩)
theorem fsI_eq {μ : Mem} {c n : Nat} (hn : n ≠ 0) (h9 : μ 11 c 9 = 0) (hall : ∀ b, b < n → 200 ≤ μ 14 c b) : fsI μ c n = beI (μ 14 c) n := by
  have hnn : ∀ b, b < n → 0 ≤ μ 14 c b := fun b hb => by have := hall b hb; simp only [Int32.le_iff_toInt_le, i200, i0] at this ⊢; omega
  obtain ⟨h1, h2⟩ := soM_sp (f := μ 14 c) (μ := μ) n
  unfold fsI beI
  rw [if_neg hn]
  obtain ⟨u1, u2⟩ := beG_sp (f := μ 14 c) (n := n)
  rcases beL_sp hnn with ⟨a1, a2⟩ | ⟨a1, ⟨b, hb, a2, a3⟩, a4⟩
  · have k0 : soN (μ 14 c) n = 0 := by
      rcases Nat.eq_zero_or_pos (soN (μ 14 c) n) with k | k
      · exact k
      · obtain ⟨b, hb, q, -⟩ := (h2 _).mp ⟨0, k, rfl⟩
        exact absurd (a2 b hb) q
    have hG : ¬ 600 ≤ beG (μ 14 c) n := by
      rcases u2 with q | ⟨b, hb, q, -⟩
      · rw [q]; decide
      · exact absurd (a2 b hb) q
    rw [if_pos (Or.inr k0), if_neg hG, if_pos a1]
  · have kp : 0 < soN (μ 14 c) n := by
      obtain ⟨i, hi, -⟩ := (h2 _).mpr ⟨b, hb, a2, rfl⟩
      omega
    rw [if_neg (by rintro (q | q); exact q h9; omega)]
    have low : soM (μ 14 c) n μ 5 0 0 = beL (μ 14 c) n := by
      obtain ⟨b1, hb1, q1, q2⟩ := (h2 _).mp ⟨0, kp, rfl⟩
      obtain ⟨i, hi, q3⟩ := (h2 _).mpr ⟨b, hb, a2, rfl⟩
      have v1 := a4 b1 hb1 q1
      have v2 := h1 0 i (by omega) hi
      rw [q3, a3] at v2
      rw [q2] at v1
      apply Int32.toInt_inj.mp
      simp only [Int32.le_iff_toInt_le] at v1 v2; omega
    have high : soM (μ 14 c) n μ 5 0 (soN (μ 14 c) n - 1) = beG (μ 14 c) n := by
      obtain ⟨b1, hb1, q1, q2⟩ := (h2 _).mp ⟨soN (μ 14 c) n - 1, by omega, rfl⟩
      have v1 := u1 b1 hb1 q1
      rw [q2] at v1
      rcases u2 with q | ⟨b2, hb2, q3, q4⟩
      · have := hall b1 hb1
        rw [q2] at this
        rw [q] at v1
        simp only [Int32.le_iff_toInt_le, i200, im1] at this v1; omega
      · obtain ⟨i, hi, q5⟩ := (h2 _).mpr ⟨b2, hb2, q3, rfl⟩
        have v2 := h1 i (soN (μ 14 c) n - 1) (by omega) (by omega)
        rw [q5, ← q4] at v2
        apply Int32.toInt_inj.mp
        simp only [Int32.le_iff_toInt_le] at v1 v2; omega
    rw [high, low, if_neg a1]
theorem be_pos {f : Nat → Int32} {n : Nat} (h : ∀ b, b < n → 200 ≤ f b) : 200 ≤ beI f n := by
  unfold beI
  split
  · rename_i q; simp only [Int32.le_iff_toInt_le, i200, i600] at q ⊢; omega
  · split
    · decide
    · rename_i q1 q2
      rcases beL_sp (f := f) (n := n) (fun b hb => by have := h b hb; simp only [Int32.le_iff_toInt_le, i200, i0] at this ⊢; omega) with ⟨a, -⟩ | ⟨-, ⟨b, hb, -, a⟩, -⟩
      · exact absurd a q2
      · rw [← a]; exact h b hb
theorem eoM_14 {μ : Mem} {c n b : Nat} (hb : b < n) : eoM μ c n 14 c b = if 200 ≤ μ 14 c b then μ 14 c b else 487 := up_in0 hb
theorem eoM_k {μ : Mem} {c n k o i : Nat} (h : k ≠ 14) : eoM μ c n k o i = μ k o i := up_k h
theorem rgM_14 {μ : Mem} {c n b : Nat} (hb : b < n) : rgM μ c n 14 c b = if μ 11 c 5 ≤ μ 13 c b ∧ ¬ 200 ≤ μ 14 c b then 408 else μ 14 c b := up_in0 hb
theorem rgM_k {μ : Mem} {c n k o i : Nat} (h : k ≠ 14) : rgM μ c n k o i = μ k o i := up_k h
theorem sgM_14 {μ : Mem} {c n b : Nat} {q now : Int32} (hb : b < n) : sgM μ c n q now 14 c b = if μ 13 c b = q ∧ ¬ 200 ≤ μ 14 c b then 100 else μ 14 c b := by
  unfold sgM sg1
  rw [up_in0 hb]
  simp [st]
theorem sgM_5 {μ : Mem} {c n : Nat} {q now : Int32} : sgM μ c n q now 11 c 5 = q := by simp [sgM, sg1, up, st]
theorem sgM_11 {μ : Mem} {c n i : Nat} {q now : Int32} (h5 : i ≠ 5) (h6 : i ≠ 6) : sgM μ c n q now 11 c i = μ 11 c i := by simp [sgM, sg1, up, st, h5, h6]
theorem sgM_k {μ : Mem} {c n k o i : Nat} {q now : Int32} (h : k ≠ 11) (h2 : k ≠ 14) : sgM μ c n q now k o i = μ k o i := by simp [sgM, sg1, up, st, h, h2]
