/-! the memory at the law's start of its loop -/
def μ0 : Mem := fun _ _ _ => 0
def μA : Mem := x2M (zr μ0 0 0)
def μI : Mem := zr μA 16 0
theorem x0M_o {μ : Mem} {u k o i : Nat} (h : o ≠ u) : x0M (zr μ 6 u) u k o i = μ k o i := by
  unfold x0M
  rw [up_o h]
  simp only [x0f, st, zr, h, and_false, false_and, if_false]
theorem x1M_o {μ : Mem} {u k o i : Nat} (h : o ≠ u) : x1M (zr μ 11 u) u k o i = μ k o i := by
  simp only [x1M, st, zr, h, and_false, false_and, if_false]
theorem x2r_row {μ : Mem} {k i : Nat} (hk : 6 ≤ k) : ∀ n u, u < n → x2r μ n k u i = x0M (zr (x2r μ u) 6 u) u k u i
  | 0, u, h => absurd h (Nat.not_lt_zero u)
  | n + 1, u, h => by
    show st (x0M (zr (x2r μ n) 6 n) n) 1 0 (100 + n) 1 k u i = _
    rw [st_k (by omega)]
    by_cases e : u = n
    · subst e; rfl
    · rw [x0M_o e]
      exact x2r_row hk n u (by omega)
theorem x2c_row {μ : Mem} {k i : Nat} (hk : 11 ≤ k) : ∀ n u, u < n → x2c μ n k u i = x1M (zr (x2c μ u) 11 u) u k u i
  | 0, u, h => absurd h (Nat.not_lt_zero u)
  | n + 1, u, h => by
    show st (x1M (zr (x2c μ n) 11 n) n) 2 0 (100 + n) 1 k u i = _
    rw [st_k (by omega)]
    by_cases e : u = n
    · subst e; rfl
    · rw [x1M_o e]
      exact x2c_row hk n u (by omega)
theorem x2r_1 {μ : Mem} : ∀ n u, u < n → x2r μ n 1 0 (100 + u) = 1
  | 0, u, h => absurd h (Nat.not_lt_zero u)
  | n + 1, u, h => by
    show st (x0M (zr (x2r μ n) 6 n) n) 1 0 (100 + n) 1 1 0 (100 + u) = _
    by_cases e : u = n
    · subst e; exact st_same
    · rw [st_i (by omega)]
      have e2 : x0M (zr (x2r μ n) 6 n) n 1 0 (100 + u) = x2r μ n 1 0 (100 + u) := by simp [x0M, x0f, up, st, zr]
      rw [e2]
      exact x2r_1 n u (by omega)
theorem x2c_2 {μ : Mem} : ∀ n u, u < n → x2c μ n 2 0 (100 + u) = 1
  | 0, u, h => absurd h (Nat.not_lt_zero u)
  | n + 1, u, h => by
    show st (x1M (zr (x2c μ n) 11 n) n) 2 0 (100 + n) 1 2 0 (100 + u) = _
    by_cases e : u = n
    · subst e; exact st_same
    · rw [st_i (by omega)]
      have e2 : x1M (zr (x2c μ n) 11 n) n 2 0 (100 + u) = x2c μ n 2 0 (100 + u) := by simp [x1M, st, zr]
      rw [e2]
      exact x2c_2 n u (by omega)
theorem μI_k {k o i : Nat} (h : k < 16) : μI k o i = μA k o i := congrFun (zr_row (by omega)) i
theorem μI_0 {i : Nat} : μI 0 0 i = x2f (zr μ0 0 0) 0 0 i := by
  rw [μI_k (by decide)]
  show x2c (x2r (x2f (zr μ0 0 0)) 6) 20 0 0 i = _
  rw [x2c_f (by decide) (by decide), x2r_f (by decide) (by decide)]
theorem μI_3 {i : Nat} : μI 3 0 i = 0 := by
  rw [μI_k (by decide)]
  show x2c (x2r (x2f (zr μ0 0 0)) 6) 20 3 0 i = _
  rw [x2c_f (by decide) (by decide), x2r_f (by decide) (by decide)]
  simp [x2f, st, zr]
theorem μI_row {k u i : Nat} (hk : 6 ≤ k) (hk2 : k < 11) (hu : u < 6) : μI k u i = x0M (zr (x2r (x2f (zr μ0 0 0)) u) 6 u) u k u i := by
  rw [μI_k (by omega)]
  show x2c (x2r (x2f (zr μ0 0 0)) 6) 20 k u i = _
  rw [x2c_f hk2 (by omega), x2r_row hk 6 u hu]
theorem μI_call {k c i : Nat} (hk : 11 ≤ k) (hk2 : k < 16) (hc : c < 20) : μI k c i = x1M (zr (x2c (x2r (x2f (zr μ0 0 0)) 6) c) 11 c) c k c i := by
  rw [μI_k hk2]
  show x2c (x2r (x2f (zr μ0 0 0)) 6) 20 k c i = _
  rw [x2c_row hk 20 c hc]
theorem μI_FL : FL μI := by
  refine ⟨fun j hj => ?_, fun i hi => ?_, fun i hi => ?_, fun u hu j hj => ?_, fun c hc j hj => ?_⟩
  · rw [μI_0]
    rcases (show j = 0 ∨ j = 1 ∨ j = 2 ∨ j = 3 ∨ j = 4 by omega) with rfl | rfl | rfl | rfl | rfl <;> simp [x2f, st, zr]
  · rw [μI_k (by decide)]
    show x2c (x2r (x2f (zr μ0 0 0)) 6) 20 1 0 (100 + i) = _
    rw [x2c_f (by decide) (by decide)]
    exact x2r_1 6 i hi
  · rw [μI_k (by decide)]
    exact x2c_2 20 i hi
  · rw [μI_row (by decide) (by decide) hu]
    rcases (show j = 0 ∨ j = 1 ∨ j = 2 ∨ j = 3 by omega) with rfl | rfl | rfl | rfl <;> simp [x0M, x0f, up, st, zr]
  · rw [μI_call (by decide) (by decide) hc]
    rcases (show j = 0 ∨ j = 1 ∨ j = 2 ∨ j = 3 by omega) with rfl | rfl | rfl | rfl <;> simp [x1M, st, zr]
theorem μI_05 : μI 0 0 5 = 0 := by rw [μI_0]; simp [x2f, st, zr]
theorem μI_06 : μI 0 0 6 = 0 := by rw [μI_0]; simp [x2f, st, zr]
theorem μI_64 {u : Nat} (hu : u < 6) : μI 6 u 4 = 0 := by rw [μI_row (by decide) (by decide) hu]; simp [x0M, x0f, up, st, zr]
theorem μI_9 {u t : Nat} (hu : u < 6) (ht : t < 16) : μI 9 u t = -1 := by
  rw [μI_row (by decide) (by decide) hu]
  unfold x0M
  exact up_in0 ht
theorem μI_11 {c : Nat} (hc : c < 20) : μI 11 c 4 = 0 ∧ μI 11 c 5 = 11 ∧ μI 11 c 7 = -1 ∧ μI 11 c 8 = -1 ∧ μI 11 c 9 = 0 := by
  refine ⟨?_, ?_, ?_, ?_, ?_⟩ <;> (rw [μI_call (by decide) (by decide) hc]; simp [x1M, st, zr])
theorem μI_15 {c i : Nat} (hc : c < 20) : μI 15 c i = 0 := by
  rw [μI_call (by decide) (by decide) hc]
  simp [x1M, st, zr]
theorem μI_16 {i : Nat} : μI 16 0 i = 0 := congrFun zr_same i
theorem μI_116 {c : Nat} (hc : c < 20) : μI 11 c 6 = 0 := by rw [μI_call (by decide) (by decide) hc]; simp [x1M, st, zr]
