/-! words for what the reference's methods compute -/
def mtB (μ : Mem) (u t : Nat) : Bool := !decide (μ 17 0 (16 * u + t) = 0) && !decide (μ 18 0 (16 * u + t) ≤ μ 16 0 1)
def mtN (μ : Mem) (u : Nat) : Nat := ctB (mtB μ u) 16
def mhB (μ : Mem) (c : Nat) (x : Int32) (b : Nat) : Bool := decide (μ 28 0 (12 * c + b) = x)
def maS (μ : Mem) (c n : Nat) (x q z : Int32) : Mem := st (st (st (st (st μ 28 0 (12 * c + n) x) 29 0 (12 * c + n) q) 30 0 (12 * c + n) z) 31 0 (12 * c + n) 0) 25 0 c (nI (n + 1))
def maM (μ : Mem) (c : Nat) (x q z : Int32) : Mem :=
  if tN (μ 25 0 c) < 12 ∧ (x = -1 ∨ ¬ anB (mhB μ c x) (tN (μ 25 0 c)) = true) then maS μ c (tN (μ 25 0 c)) x q z else μ
/-- the reference's finding of branches: what one binding of the third, the second, the first user does -/
def mD (t : Nat) : Int32 := if nI t - 10 < 0 then nI t else -1
def v3S (c a b d : Nat) (q : Int32) (k : Nat) (μ : Mem) : Mem :=
  if mtB μ d (tN (μ 21 0 (16 * d + k))) = true then
    maM μ c (mD (tN (μ 21 0 (16 * d + k)))) q (if nI (tN (μ 21 0 (16 * d + k))) - 10 < 0 then 0 else if nI (tN (μ 21 0 (16 * d + k))) - 10 = nI a ∨ nI (tN (μ 21 0 (16 * d + k))) - 10 = nI b ∨ nI (tN (μ 21 0 (16 * d + k))) - 10 = nI d then 482 else 483)
  else μ
def v3L (c a b d : Nat) (q : Int32) : Nat → Mem → Mem
  | 0, μ => μ
  | k + 1, μ => v3S c a b d q k (v3L c a b d q k μ)
def v3M (c a b d : Nat) (q : Int32) (μ : Mem) : Mem := v3L c a b d q (tN (μ 22 0 d)) μ
def v2S (c a b : Nat) (q : Int32) (k : Nat) (μ : Mem) : Mem :=
  if mtB μ b (tN (μ 21 0 (16 * b + k))) = true then
    (if nI (tN (μ 21 0 (16 * b + k))) - 10 < 0 ∨ nI (tN (μ 21 0 (16 * b + k))) - 10 = nI a ∨ nI (tN (μ 21 0 (16 * b + k))) - 10 = nI b then
      maM μ c (mD (tN (μ 21 0 (16 * b + k)))) q (if nI (tN (μ 21 0 (16 * b + k))) - 10 < 0 then 0 else 482)
     else v3M c a b (tN (μ 21 0 (16 * b + k)) - 10) q μ)
  else μ
def v2L (c a b : Nat) (q : Int32) : Nat → Mem → Mem
  | 0, μ => μ
  | k + 1, μ => v2S c a b q k (v2L c a b q k μ)
def v2M (c a b : Nat) (q : Int32) (μ : Mem) : Mem := v2L c a b q (tN (μ 22 0 b)) μ
def v1S (c a : Nat) (k : Nat) (μ : Mem) : Mem :=
  if mtB μ a (tN (μ 21 0 (16 * a + k))) = true then
    (if nI (tN (μ 21 0 (16 * a + k))) - 10 < 0 ∨ nI (tN (μ 21 0 (16 * a + k))) - 10 = nI a then
      maM μ c (mD (tN (μ 21 0 (16 * a + k)))) (μ 19 0 (16 * a + tN (μ 21 0 (16 * a + k)))) (if nI (tN (μ 21 0 (16 * a + k))) - 10 < 0 then 0 else 482)
     else v2M c a (tN (μ 21 0 (16 * a + k)) - 10) (μ 19 0 (16 * a + tN (μ 21 0 (16 * a + k)))) μ)
  else μ
def v1L (c a : Nat) : Nat → Mem → Mem
  | 0, μ => μ
  | k + 1, μ => v1S c a k (v1L c a k μ)
def v1M (c a : Nat) (μ : Mem) : Mem := v1L c a (tN (μ 22 0 a)) μ
/-- what the finding of branches leaves alone -/
def MR (μ μ' : Mem) : Prop := ∀ k o i, k ≠ 25 → k ≠ 28 → k ≠ 29 → k ≠ 30 → k ≠ 31 → μ' k o i = μ k o i
def MC (c : Nat) (μ μ' : Mem) : Prop := MR μ μ' ∧ (vN (μ 25 0 c) 12 → vN (μ' 25 0 c) 12) ∧ (∀ i, i ≠ c → μ' 25 0 i = μ 25 0 i) ∧ ∀ k o i, k ≠ 25 → (i < 12 * c ∨ 12 * c + 12 ≤ i) → μ' k o i = μ k o i
theorem MC.refl (c : Nat) (μ : Mem) : MC c μ μ := ⟨fun _ _ _ _ _ _ _ _ => rfl, fun h => h, fun _ _ => rfl, fun _ _ _ _ _ => rfl⟩
theorem MC.trans {c : Nat} {a b d : Mem} (h : MC c a b) (h2 : MC c b d) : MC c a d :=
  ⟨fun k o i a1 a2 a3 a4 a5 => (h2.1 k o i a1 a2 a3 a4 a5).trans (h.1 k o i a1 a2 a3 a4 a5), fun q => h2.2.1 (h.2.1 q), fun i hi => (h2.2.2.1 i hi).trans (h.2.2.1 i hi), fun k o i hk hi => (h2.2.2.2 k o i hk hi).trans (h.2.2.2 k o i hk hi)⟩
theorem maM_MC {μ : Mem} {c : Nat} {x q z : Int32} : MC c μ (maM μ c x q z) := by
  unfold maM
  split
  · rename_i h
    refine ⟨fun k o i a1 a2 a3 a4 a5 => by simp [maS, st, a1, a2, a3, a4, a5], fun _ => ?_, fun i hi => by simp [maS, st, hi], fun k o i hk hi => ?_⟩
    · rw [show maS μ c (tN (μ 25 0 c)) x q z 25 0 c = nI (tN (μ 25 0 c) + 1) from st_same]
      exact vN_nI (by omega) (by decide)
    · have hne : i ≠ 12 * c + tN (μ 25 0 c) := by omega
      simp [maS, st, hk, hne]
  · exact MC.refl c μ
theorem v3S_MC {c a b d k : Nat} {q : Int32} {μ : Mem} : MC c μ (v3S c a b d q k μ) := by
  unfold v3S
  split
  · exact maM_MC
  · exact MC.refl c μ
theorem v3L_MC {c a b d : Nat} {q : Int32} {μ : Mem} : ∀ k, MC c μ (v3L c a b d q k μ)
  | 0 => MC.refl c μ
  | k + 1 => (v3L_MC k).trans v3S_MC
theorem v2S_MC {c a b k : Nat} {q : Int32} {μ : Mem} : MC c μ (v2S c a b q k μ) := by
  unfold v2S
  split
  · split
    · exact maM_MC
    · exact v3L_MC _
  · exact MC.refl c μ
theorem v2L_MC {c a b : Nat} {q : Int32} {μ : Mem} : ∀ k, MC c μ (v2L c a b q k μ)
  | 0 => MC.refl c μ
  | k + 1 => (v2L_MC k).trans v2S_MC
theorem v1S_MC {c a k : Nat} {μ : Mem} : MC c μ (v1S c a k μ) := by
  unfold v1S
  split
  · split
    · exact maM_MC
    · exact v2L_MC _
  · exact MC.refl c μ
theorem v1L_MC {c a : Nat} {μ : Mem} : ∀ k, MC c μ (v1L c a k μ)
  | 0 => MC.refl c μ
  | k + 1 => (v1L_MC k).trans v1S_MC
/-- the reference's rows keep to their numbers -/
def MB (μ : Mem) : Prop := ∀ u, u < 6 → vN (μ 22 0 u) 16 ∧ ∀ p, p < tN (μ 22 0 u) → vN (μ 21 0 (16 * u + p)) 15
theorem MB.mr {μ μ' : Mem} (h : MB μ) (f : MR μ μ') : MB μ' := by
  intro u hu
  obtain ⟨h1, h2⟩ := h u hu
  rw [f 22 0 u (by decide) (by decide) (by decide) (by decide) (by decide)]
  refine ⟨h1, fun p hp => ?_⟩
  rw [f 21 0 _ (by decide) (by decide) (by decide) (by decide) (by decide)]
  exact h2 p hp
theorem us_lt {t : Nat} (h : t < 2 ^ 30) : nI t - 10 < 0 ↔ t < 10 := by
  constructor
  · intro q
    rcases Nat.lt_or_ge t 10 with r | r
    · exact r
    · exfalso
      rw [show (nI t - 10 : Int32) = nI (t - 10) from pk_sub r] at q
      exact nI_pos (by omega) q
  · intro q
    exact pk_sneg (a := t) (b := 10) (by decide) q
theorem us_ge {t : Nat} (h : t < 2 ^ 30) (q : ¬ nI t - 10 < 0) : nI t - 10 = nI (t - 10) := pk_sub (Nat.not_lt.mp fun r => q ((us_lt h).mpr r))
/-! .. of a call -/
def mf (μ : Mem) (c : Nat) (b : Nat) : Int32 := μ 30 0 (12 * c + b)
def mbG (f : Nat → Int32) : Nat → Int32
  | 0 => 0
  | n + 1 => if f n ≤ mbG f n then mbG f n else f n
def mbL (f : Nat → Int32) : Nat → Int32
  | 0 => 0
  | n + 1 => if f n = 487 then mbL f n else if mbL f n = 0 then f n else if mbL f n ≤ f n then mbL f n else f n
theorem mbG_1 {f : Nat → Int32} {n : Nat} : mbG f (n + 1) = if f n ≤ mbG f n then mbG f n else f n := rfl
theorem mbL_1 {f : Nat → Int32} {n : Nat} : mbL f (n + 1) = if f n = 487 then mbL f n else if mbL f n = 0 then f n else if mbL f n ≤ f n then mbL f n else f n := rfl
def mbI (f : Nat → Int32) (n : Nat) : Int32 := if n = 0 then 480 else if mbG f n < 600 then (if mbL f n = 0 then 487 else mbL f n) else mbG f n
def mcM (μ : Mem) (c n : Nat) : Mem := up μ 30 0 (12 * c) n (fun b => if 200 ≤ mf μ c b then mf μ c b else 487)
def mcN (μ : Mem) (c n : Nat) : Nat := ctB (fun b => !decide (200 ≤ mf μ c b)) n
def mwP (μ : Mem) (c : Nat) : Nat → Bool := fun b => !decide (μ 29 0 (12 * c + b) < μ 26 0 c) && !decide (200 ≤ μ 30 0 (12 * c + b))
def nxF (μ : Mem) (c : Nat) : Nat → Int32
  | 0 => -1
  | n + 1 => if μ 26 0 c ≤ μ 29 0 (12 * c + n) then nxF μ c n else if μ 29 0 (12 * c + n) ≤ nxF μ c n then nxF μ c n else μ 29 0 (12 * c + n)
theorem nxF_1 {μ : Mem} {c n : Nat} : nxF μ c (n + 1) = if μ 26 0 c ≤ μ 29 0 (12 * c + n) then nxF μ c n else if μ 29 0 (12 * c + n) ≤ nxF μ c n then nxF μ c n else μ 29 0 (12 * c + n) := rfl
def tryM (μ : Mem) (c n : Nat) (x : Int32) : Mem := up μ 30 0 (12 * c) n (fun b => if μ 29 0 (12 * c + b) = x ∧ μ 30 0 (12 * c + b) = 0 then 100 else μ 30 0 (12 * c + b))
def gs1 (μ : Mem) (c n : Nat) : Mem := tryM (st (st μ 26 0 c (nxF μ c n)) 27 0 c (μ 16 0 1)) c n (nxF μ c n)
def gsM (μ : Mem) (c n : Nat) : Mem := if nxF μ c n = -1 then st (gs1 μ c n) 23 0 c (mbI (mf (gs1 μ c n) c) n) else gs1 μ c n
def mgM (c n : Nat) : Nat → Mem → Mem
  | 0, μ => μ
  | f + 1, μ => if μ 23 0 c = -1 ∧ ¬ anB (mwP μ c) n = true then mgM c n f (gsM μ c n) else μ
def mGo (μ : Mem) (c : Nat) : Mem := mgM c (tN (μ 25 0 c)) 14 μ
def mrM (μ : Mem) (c n : Nat) : Mem := up μ 30 0 (12 * c) n (fun b => if (¬ μ 29 0 (12 * c + b) < μ 26 0 c) ∧ (¬ 200 ≤ μ 30 0 (12 * c + b)) ∧ ¬ μ 16 0 1 < μ 27 0 c + 10 then 408 else μ 30 0 (12 * c + b))
def mlI (μ : Mem) (c : Nat) (x : Int32) : Nat → Int32
  | 0 => -1
  | n + 1 => if μ 28 0 (12 * c + n) = x then nI n else mlI μ c x n
def mtM (μ : Mem) (c n b : Nat) (x : Int32) : Mem :=
  if ¬ x < 600 ∨ (¬ x < 200 ∧ ¬ 299 < x) then
    st (st (mcM (st μ 30 0 (12 * c + b) x) c n) 24 0 c (if x < 600 then nI b else -1)) 23 0 c (if x < 600 then x else mbI (mf (mcM (st μ 30 0 (12 * c + b) x) c n) c) n)
  else if x < 300 then st μ 30 0 (12 * c + b) x else mGo (st μ 30 0 (12 * c + b) x) c
