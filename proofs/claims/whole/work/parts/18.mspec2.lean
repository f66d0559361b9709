theorem up_next {μ : Mem} {k o a i : Nat} {g : Nat → Int32} : up μ k o a i g k o (a + i) = μ k o (a + i) := up_out (by omega)
theorem mbG_p {f : Nat → Int32} {n : Nat} (h : f n ≤ mbG f n) : mbG f (n + 1) = mbG f n := if_pos h
theorem mbG_n {f : Nat → Int32} {n : Nat} (h : ¬ f n ≤ mbG f n) : mbG f (n + 1) = f n := if_neg h
theorem mbL_0 {f : Nat → Int32} {n : Nat} (h : f n = 487) : mbL f (n + 1) = mbL f n := if_pos h
theorem mbL_a {f : Nat → Int32} {n : Nat} (h : ¬ f n = 487) (h2 : mbL f n = 0) : mbL f (n + 1) = f n := (if_neg h).trans (if_pos h2)
theorem mbL_b {f : Nat → Int32} {n : Nat} (h : ¬ f n = 487) (h2 : ¬ mbL f n = 0) (h3 : mbL f n ≤ f n) : mbL f (n + 1) = mbL f n := ((if_neg h).trans (if_neg h2)).trans (if_pos h3)
theorem mbL_c {f : Nat → Int32} {n : Nat} (h : ¬ f n = 487) (h2 : ¬ mbL f n = 0) (h3 : ¬ mbL f n ≤ f n) : mbL f (n + 1) = f n := ((if_neg h).trans (if_neg h2)).trans (if_neg h3)
theorem nxF_a {μ : Mem} {c n : Nat} (h : μ 26 0 c ≤ μ 29 0 (12 * c + n)) : nxF μ c (n + 1) = nxF μ c n := if_pos h
theorem nxF_b {μ : Mem} {c n : Nat} (h : ¬ μ 26 0 c ≤ μ 29 0 (12 * c + n)) (h2 : μ 29 0 (12 * c + n) ≤ nxF μ c n) : nxF μ c (n + 1) = nxF μ c n := (if_neg h).trans (if_pos h2)
theorem nxF_c {μ : Mem} {c n : Nat} (h : ¬ μ 26 0 c ≤ μ 29 0 (12 * c + n)) (h2 : ¬ μ 29 0 (12 * c + n) ≤ nxF μ c n) : nxF μ c (n + 1) = μ 29 0 (12 * c + n) := (if_neg h).trans (if_neg h2)
theorem mlI_a {μ : Mem} {c n : Nat} {x : Int32} (h : μ 28 0 (12 * c + n) = x) : mlI μ c x (n + 1) = nI n := if_pos h
theorem mlI_b {μ : Mem} {c n : Nat} {x : Int32} (h : ¬ μ 28 0 (12 * c + n) = x) : mlI μ c x (n + 1) = mlI μ c x n := if_neg h
/-- a call of the reference whose numbers are as they should be -/
def QW (μ : Mem) (c n : Nat) : Prop := (∀ b, b < n → 0 ≤ μ 30 0 (12 * c + b)) ∧ (∀ b, b < n → 0 ≤ μ 29 0 (12 * c + b)) ∧ -1 ≤ μ 26 0 c ∧ μ 26 0 c ≤ 11
def mz (μ : Mem) (c : Nat) : Nat := if μ 23 0 c = -1 then ((μ 26 0 c).toInt + 2).toNat else 0
theorem i0 : (0 : Int32).toInt = 0 := by decide
theorem im1 : (-1 : Int32).toInt = -1 := by decide
theorem i11 : (11 : Int32).toInt = 11 := by decide
theorem i600 : (600 : Int32).toInt = 600 := by decide
theorem i487 : (487 : Int32).toInt = 487 := by decide
theorem i480 : (480 : Int32).toInt = 480 := by decide
theorem mbG_pos (f : Nat → Int32) : ∀ n, 0 ≤ mbG f n
  | 0 => show (0 : Int32) ≤ 0 by decide
  | n + 1 => by
    by_cases h : f n ≤ mbG f n
    · rw [mbG_p h]; exact mbG_pos f n
    · rw [mbG_n h]
      have := mbG_pos f n
      rw [Int32.le_iff_toInt_le] at *
      omega
theorem mbL_pos {f : Nat → Int32} : ∀ {n : Nat}, (∀ b, b < n → 0 ≤ f b) → 0 ≤ mbL f n
  | 0, _ => show (0 : Int32) ≤ 0 by decide
  | n + 1, h => by
    have h1 := mbL_pos (f := f) (n := n) (fun b hb => h b (by omega))
    have h2 := h n (by omega)
    by_cases a : f n = 487
    · rw [mbL_0 a]; exact h1
    · by_cases b : mbL f n = 0
      · rw [mbL_a a b]; exact h2
      · by_cases d : mbL f n ≤ f n
        · rw [mbL_b a b d]; exact h1
        · rw [mbL_c a b d]; exact h2
theorem mbI_pos {f : Nat → Int32} {n : Nat} (h : ∀ b, b < n → 0 ≤ f b) : 0 ≤ mbI f n := by
  unfold mbI
  split
  · decide
  · split
    · split
      · decide
      · exact mbL_pos h
    · exact mbG_pos f n
theorem nxF_sp {μ : Mem} {c : Nat} : ∀ {n : Nat}, nxF μ c n = -1 ∨ ∃ b, b < n ∧ nxF μ c n = μ 29 0 (12 * c + b) ∧ ¬ μ 26 0 c ≤ μ 29 0 (12 * c + b)
  | 0 => Or.inl rfl
  | n + 1 => by
    have key : nxF μ c (n + 1) = nxF μ c n ∨ (nxF μ c (n + 1) = μ 29 0 (12 * c + n) ∧ ¬ μ 26 0 c ≤ μ 29 0 (12 * c + n)) := by
      by_cases a : μ 26 0 c ≤ μ 29 0 (12 * c + n)
      · exact Or.inl (nxF_a a)
      · by_cases b : μ 29 0 (12 * c + n) ≤ nxF μ c n
        · exact Or.inl (nxF_b a b)
        · exact Or.inr ⟨nxF_c a b, a⟩
    rcases key with e | ⟨e, h⟩
    · rcases nxF_sp (μ := μ) (c := c) (n := n) with h | ⟨b, h1, h2, h3⟩
      · exact Or.inl (e.trans h)
      · exact Or.inr ⟨b, by omega, e.trans h2, h3⟩
    · exact Or.inr ⟨n, by omega, e, h⟩
theorem gs1_29 {μ : Mem} {c n i : Nat} : gs1 μ c n 29 0 i = μ 29 0 i := by simp [gs1, tryM, up, st]
theorem gs1_26 {μ : Mem} {c n : Nat} : gs1 μ c n 26 0 c = nxF μ c n := by simp [gs1, tryM, up, st]
theorem gs1_23 {μ : Mem} {c n i : Nat} : gs1 μ c n 23 0 i = μ 23 0 i := by simp [gs1, tryM, up, st]
theorem gs1_25 {μ : Mem} {c n i : Nat} : gs1 μ c n 25 0 i = μ 25 0 i := by simp [gs1, tryM, up, st]
theorem gs1_30 {μ : Mem} {c n b : Nat} (h : b < n) : gs1 μ c n 30 0 (12 * c + b) = if μ 29 0 (12 * c + b) = nxF μ c n ∧ μ 30 0 (12 * c + b) = 0 then 100 else μ 30 0 (12 * c + b) := by
  unfold gs1 tryM
  rw [up_in h]
  simp [st]
theorem gsM_k {μ : Mem} {c n k o i : Nat} (h : k ≠ 23) : gsM μ c n k o i = gs1 μ c n k o i := by
  unfold gsM
  split
  · exact st_k h
  · rfl
theorem gs_ok {μ : Mem} {c n : Nat} (h : QW μ c n) (hf : μ 23 0 c = -1) : QW (gsM μ c n) c n ∧ gsM μ c n 25 0 c = μ 25 0 c ∧ mz (gsM μ c n) c < mz μ c := by
  obtain ⟨h1, h2, h3, h4⟩ := h
  have hpos : ∀ b, b < n → 0 ≤ gs1 μ c n 30 0 (12 * c + b) := by
    intro b hb
    rw [gs1_30 hb]
    split
    · decide
    · exact h1 b hb
  have hlev : -1 ≤ nxF μ c n ∧ nxF μ c n ≤ 11 ∧ (nxF μ c n ≠ -1 → nxF μ c n < μ 26 0 c) := by
    rcases nxF_sp (μ := μ) (c := c) (n := n) with e | ⟨b, hb, e, hx⟩
    · rw [e]; exact ⟨by decide, by decide, fun q => absurd rfl q⟩
    · rw [e]
      have := h2 b hb
      rw [Int32.le_iff_toInt_le] at this h3 h4 hx
      rw [i0] at this
      rw [im1] at h3
      rw [i11] at h4
      refine ⟨by rw [Int32.le_iff_toInt_le, im1]; omega, by rw [Int32.le_iff_toInt_le, i11]; omega, fun _ => by rw [Int32.lt_iff_toInt_lt]; omega⟩
  refine ⟨⟨fun b hb => ?_, fun b hb => ?_, ?_, ?_⟩, ?_, ?_⟩
  · rw [gsM_k (by decide)]; exact hpos b hb
  · rw [gsM_k (by decide), gs1_29]; exact h2 b hb
  · rw [gsM_k (by decide), gs1_26]; exact hlev.1
  · rw [gsM_k (by decide), gs1_26]; exact hlev.2.1
  · rw [gsM_k (by decide), gs1_25]
  · have hm : mz μ c = ((μ 26 0 c).toInt + 2).toNat := if_pos hf
    rw [hm]
    rw [Int32.le_iff_toInt_le, im1] at h3
    by_cases e : nxF μ c n = -1
    · have e1 : gsM μ c n 23 0 c = mbI (mf (gs1 μ c n) c) n := by
        unfold gsM
        rw [if_pos e, st_same]
      have e2 : 0 ≤ mbI (mf (gs1 μ c n) c) n := mbI_pos hpos
      unfold mz
      rw [if_neg (by rw [e1]; intro q; rw [q] at e2; exact absurd e2 (by decide))]
      omega
    · unfold mz
      rw [gsM_k (k := 26) (by decide), gs1_26]
      have := hlev.2.2 e
      rw [Int32.lt_iff_toInt_lt] at this
      have h5 := hlev.1
      rw [Int32.le_iff_toInt_le, im1] at h5
      split <;> omega
theorem mz_le {μ : Mem} {c n : Nat} (h : QW μ c n) : mz μ c < 14 := by
  have h4 := h.2.2.2
  rw [Int32.le_iff_toInt_le, i11] at h4
  unfold mz
  split <;> omega
def caP (μ : Mem) (c b : Nat) (x : Int32) : Prop := μ 26 0 c ≤ μ 29 0 (12 * c + b) ∧ (¬ 200 ≤ μ 30 0 (12 * c + b) ∨ ((μ 30 0 (12 * c + b) = 487 ∨ μ 30 0 (12 * c + b) = 408) ∧ (¬ x < 200 ∧ ¬ 299 < x) ∧ μ 31 0 (12 * c + b) = 0))
theorem nI_ne1 {n : Nat} (h : n < 2 ^ 31) : ¬ nI n = -1 := by
  intro q
  have := nI_pos' h
  rw [q] at this
  exact absurd this (by decide)
