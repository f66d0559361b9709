/-! bits of the law's two masks -/
theorem fa_or (a b : Nat) : nI a ||| nI b = nI (a ||| b) := by
  apply Int32.toBitVec_inj.mp
  show (nI a).toBitVec ||| (nI b).toBitVec = (nI (a ||| b)).toBitVec
  show BitVec.ofNat 32 a ||| BitVec.ofNat 32 b = BitVec.ofNat 32 (a ||| b)
  exact (BitVec.ofNat_or).symm
theorem sm_12 : ∀ c, c < 12 → ((nI c).toBitVec.smod 32).toNat = c ∧ nI c &&& 31 = nI c := by decide
/-- the bit of a mask -/
theorem bit_at {M c : Nat} (hM : M < 2 ^ 12) (hc : c < 12) : (nI M >>> (nI c &&& 31)) &&& nI 1 = nI (M / 2 ^ c % 2) ∧ M.testBit c = decide (M / 2 ^ c % 2 = 1) := by
  obtain ⟨h1, h2⟩ := sm_12 c hc
  have hd : M / 2 ^ c ≤ M := Nat.div_le_self _ _
  refine ⟨?_, Nat.testBit_eq_decide_div_mod_eq⟩
  rw [h2, pk_shrN (by omega) (nI c) c h1, pk_andN (by omega) 1 (by decide)]
theorem bit_set {M c : Nat} (hM : M < 2 ^ 12) (hc : c < 12) : nI M ||| (nI 1 <<< (nI c &&& 31)) = nI (M ||| 2 ^ c) ∧ M ||| 2 ^ c < 2 ^ 12 ∧ ∀ i, (M ||| 2 ^ c).testBit i = (M.testBit i || decide (i = c)) := by
  obtain ⟨h1, h2⟩ := sm_12 c hc
  have hp : 2 ^ c < 2 ^ 12 := Nat.pow_lt_pow_right (by decide) hc
  refine ⟨?_, Nat.or_lt_two_pow hM hp, fun i => ?_⟩
  · rw [h2, pk_shlN (n := 1) (nI c) c h1 (by omega), Nat.one_mul, fa_or]
  · rw [Nat.testBit_or]
    congr 1
    by_cases e : i = c
    · subst e; rw [Nat.testBit_two_pow_self, decide_eq_true rfl]
    · rw [Nat.testBit_two_pow_of_ne (fun q => e q.symm), decide_eq_false e]
