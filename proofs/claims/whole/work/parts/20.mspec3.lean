theorem QW_st {μ : Mem} {c n i : Nat} {x : Int32} (h : QW μ c n) (hx : 0 ≤ x) : QW (st μ 30 0 i x) c n := by
  obtain ⟨h1, h2, h3, h4⟩ := h
  refine ⟨fun b hb => ?_, fun b hb => ?_, ?_, ?_⟩
  · by_cases e : 12 * c + b = i
    · rw [← e, st_same]; exact hx
    · rw [st_i e]; exact h1 b hb
  · rw [st_k (by decide)]; exact h2 b hb
  · rw [st_k (by decide)]; exact h3
  · rw [st_k (by decide)]; exact h4
/-- what a call of the reference that goes on leaves alone -/
def MG (c : Nat) (μ μ' : Mem) : Prop := ∀ k o i, ¬ (k = 23 ∧ i = c) → ¬ (k = 24 ∧ i = c) → ¬ (k = 26 ∧ i = c) → ¬ (k = 27 ∧ i = c) → ¬ (k = 30 ∧ 12 * c ≤ i ∧ i < 12 * c + 12) → μ' k o i = μ k o i
theorem MG.refl (c : Nat) (μ : Mem) : MG c μ μ := fun _ _ _ _ _ _ _ _ => rfl
theorem MG.trans {c : Nat} {a b d : Mem} (h : MG c a b) (h2 : MG c b d) : MG c a d := fun k o i a1 a2 a3 a4 a5 => (h2 k o i a1 a2 a3 a4 a5).trans (h k o i a1 a2 a3 a4 a5)
theorem MG.k {c : Nat} {μ μ' : Mem} (h : MG c μ μ') {k o i : Nat} (h1 : k ≠ 23) (h2 : k ≠ 24) (h3 : k ≠ 26) (h4 : k ≠ 27) (h5 : k ≠ 30) : μ' k o i = μ k o i := h k o i (fun q => h1 q.1) (fun q => h2 q.1) (fun q => h3 q.1) (fun q => h4 q.1) (fun q => h5 q.1)
theorem MG_up {c n : Nat} {μ : Mem} {g : Nat → Int32} (hn : n ≤ 12) : MG c μ (up μ 30 0 (12 * c) n g) := fun k o i _ _ _ _ a5 => if_neg (fun q => a5 ⟨q.1, q.2.2.1, by omega⟩)
theorem MG_st30 {c b : Nat} {μ : Mem} {x : Int32} (hb : b < 12) : MG c μ (st μ 30 0 (12 * c + b) x) := fun k o i _ _ _ _ a5 => if_neg (fun q => a5 ⟨q.1, by omega, by omega⟩)
theorem MG_st23 {c : Nat} {μ : Mem} {x : Int32} : MG c μ (st μ 23 0 c x) := fun k o i a1 _ _ _ _ => if_neg (fun q => a1 ⟨q.1, q.2.2⟩)
theorem MG_st24 {c : Nat} {μ : Mem} {x : Int32} : MG c μ (st μ 24 0 c x) := fun k o i _ a2 _ _ _ => if_neg (fun q => a2 ⟨q.1, q.2.2⟩)
theorem MG_st26 {c : Nat} {μ : Mem} {x : Int32} : MG c μ (st μ 26 0 c x) := fun k o i _ _ a3 _ _ => if_neg (fun q => a3 ⟨q.1, q.2.2⟩)
theorem MG_st27 {c : Nat} {μ : Mem} {x : Int32} : MG c μ (st μ 27 0 c x) := fun k o i _ _ _ a4 _ => if_neg (fun q => a4 ⟨q.1, q.2.2⟩)
theorem MG_gs1 {c n : Nat} {μ : Mem} (hn : n ≤ 12) : MG c μ (gs1 μ c n) := by
  unfold gs1 tryM
  exact (MG_st26.trans MG_st27).trans (MG_up hn)
theorem MG_gsM {c n : Nat} {μ : Mem} (hn : n ≤ 12) : MG c μ (gsM μ c n) := by
  unfold gsM
  split
  · exact (MG_gs1 hn).trans MG_st23
  · exact MG_gs1 hn
theorem mgM_ok {c n : Nat} (hn : n ≤ 12) : ∀ (f : Nat) (μ : Mem), QW μ c n → QW (mgM c n f μ) c n ∧ MG c μ (mgM c n f μ)
  | 0, μ, h => ⟨h, MG.refl c μ⟩
  | f + 1, μ, h => by
    by_cases e : μ 23 0 c = -1 ∧ ¬ anB (mwP μ c) n = true
    · rw [show mgM c n (f + 1) μ = mgM c n f (gsM μ c n) from if_pos e]
      obtain ⟨h1, h2⟩ := mgM_ok hn f (gsM μ c n) (gs_ok h e.1).1
      exact ⟨h1, (MG_gsM hn).trans h2⟩
    · rw [show mgM c n (f + 1) μ = μ from if_neg e]
      exact ⟨h, MG.refl c μ⟩
theorem mGo_ok {μ : Mem} {c : Nat} (hv : vN (μ 25 0 c) 12) (h : QW μ c (tN (μ 25 0 c))) : QW (mGo μ c) c (tN (μ 25 0 c)) ∧ MG c μ (mGo μ c) := mgM_ok hv.2 14 μ h
theorem QW_mrM {μ : Mem} {c n : Nat} (h : QW μ c n) : QW (mrM μ c n) c n := by
  obtain ⟨h1, h2, h3, h4⟩ := h
  refine ⟨fun b hb => ?_, fun b hb => ?_, ?_, ?_⟩
  · unfold mrM
    rw [up_in hb]
    split
    · decide
    · exact h1 b hb
  · unfold mrM; rw [up_k (by decide)]; exact h2 b hb
  · unfold mrM; rw [up_k (by decide)]; exact h3
  · unfold mrM; rw [up_k (by decide)]; exact h4
/-- the calls' numbers, all of them -/
def MI (μ : Mem) : Prop := ∀ c, c < 20 → vN (μ 25 0 c) 12 ∧ QW μ c (tN (μ 25 0 c))
theorem QW.mg {c o n : Nat} {μ μ' : Mem} (h : QW μ o n) (g : MG c μ μ') (hne : o ≠ c) (hn : n ≤ 12) : QW μ' o n := by
  obtain ⟨h1, h2, h3, h4⟩ := h
  have e26 : μ' 26 0 o = μ 26 0 o := g 26 0 o (fun q => absurd q.1 (by decide)) (fun q => absurd q.1 (by decide)) (fun q => hne q.2) (fun q => absurd q.1 (by decide)) (fun q => absurd q.1 (by decide))
  refine ⟨fun b hb => ?_, fun b hb => ?_, by rw [e26]; exact h3, by rw [e26]; exact h4⟩
  · rw [g 30 0 _ (fun q => absurd q.1 (by decide)) (fun q => absurd q.1 (by decide)) (fun q => absurd q.1 (by decide)) (fun q => absurd q.1 (by decide)) (fun q => by omega)]
    exact h1 b hb
  · rw [g.k (by decide) (by decide) (by decide) (by decide) (by decide)]
    exact h2 b hb
theorem MI.mg {c : Nat} {μ μ' : Mem} (h : MI μ) (g : MG c μ μ') (hq : QW μ' c (tN (μ 25 0 c))) : MI μ' := by
  intro o ho
  have e25 : μ' 25 0 o = μ 25 0 o := g.k (by decide) (by decide) (by decide) (by decide) (by decide)
  rw [e25]
  refine ⟨(h o ho).1, ?_⟩
  by_cases e : o = c
  · subst e; exact hq
  · exact (h o ho).2.mg g e (h o ho).1.2
def mpS (μ : Mem) (c : Nat) : Mem := if μ 23 0 c = -1 then mGo (mrM μ c (tN (μ 25 0 c))) c else μ
def mpL : Nat → Mem → Mem
  | 0, μ => μ
  | c + 1, μ => mpS (mpL c μ) c
def mpC : Nat → Mem → Nat
  | 0, _ => 0
  | c + 1, μ => mpC c μ + (if mpL c μ 23 0 c = -1 ∧ ¬ mpL (c + 1) μ 23 0 c = -1 then 1 else 0)
def mtk (μ : Mem) : Mem := st μ 16 0 1 (μ 16 0 1 + 1)
def mpT : Nat → Mem → Mem
  | 0, μ => μ
  | i + 1, μ => mpL (tN (μ 16 0 8)) (mtk (mpT i μ))
def mpN : Nat → Mem → Int32
  | 0, _ => 0
  | i + 1, μ => mpN i μ + nI (mpC (tN (μ 16 0 8)) (mtk (mpT i μ)))
theorem MG_mrM {c n : Nat} {μ : Mem} (hn : n ≤ 12) : MG c μ (mrM μ c n) := MG_up hn
theorem mpS_ok {μ : Mem} {c : Nat} (h : MI μ) (hc : c < 20) : MI (mpS μ c) ∧ MG c μ (mpS μ c) := by
  unfold mpS
  split
  · have hv := (h c hc).1
    have h1 := MG_mrM (c := c) (μ := μ) hv.2
    have e25 : mrM μ c (tN (μ 25 0 c)) 25 0 c = μ 25 0 c := h1.k (by decide) (by decide) (by decide) (by decide) (by decide)
    have h2 := mGo_ok (μ := mrM μ c (tN (μ 25 0 c))) (c := c) (by rw [e25]; exact hv) (by rw [e25]; exact QW_mrM (h c hc).2)
    rw [e25] at h2
    exact ⟨h.mg (h1.trans h2.2) h2.1, h1.trans h2.2⟩
  · exact ⟨h, MG.refl c μ⟩
theorem mpL_ok {μ : Mem} (h : MI μ) : ∀ c, c ≤ 20 → MI (mpL c μ) ∧ ∀ k o i, k ≠ 23 → k ≠ 24 → k ≠ 26 → k ≠ 27 → k ≠ 30 → mpL c μ k o i = μ k o i
  | 0, _ => ⟨h, fun _ _ _ _ _ _ _ _ => rfl⟩
  | c + 1, hc => by
    obtain ⟨h1, h2⟩ := mpL_ok h c (by omega)
    obtain ⟨h3, h4⟩ := mpS_ok h1 (by omega : c < 20)
    exact ⟨h3, fun k o i a1 a2 a3 a4 a5 => (h4.k a1 a2 a3 a4 a5).trans (h2 k o i a1 a2 a3 a4 a5)⟩
theorem mtk_ok {μ : Mem} (h : MI μ) : MI (mtk μ) := by
  intro c hc
  obtain ⟨h1, h2, h3, h4, h5⟩ := h c hc
  unfold mtk
  refine ⟨by rw [st_k (by decide)]; exact h1, ?_⟩
  rw [show st μ 16 0 1 (μ 16 0 1 + 1) 25 0 c = μ 25 0 c from st_k (by decide)]
  refine ⟨fun b hb => ?_, fun b hb => ?_, ?_, ?_⟩
  · rw [st_k (by decide)]; exact h2 b hb
  · rw [st_k (by decide)]; exact h3 b hb
  · rw [st_k (by decide)]; exact h4
  · rw [st_k (by decide)]; exact h5
theorem mpT_ok {μ : Mem} (h : MI μ) (hK : tN (μ 16 0 8) ≤ 20) : ∀ i, MI (mpT i μ) ∧ ∀ k o j, k ≠ 23 → k ≠ 24 → k ≠ 26 → k ≠ 27 → k ≠ 30 → ¬ (k = 16 ∧ j = 1) → mpT i μ k o j = μ k o j
  | 0 => ⟨h, fun _ _ _ _ _ _ _ _ _ => rfl⟩
  | i + 1 => by
    obtain ⟨h1, h2⟩ := mpT_ok h hK i
    obtain ⟨h3, h4⟩ := mpL_ok (mtk_ok h1) (tN (μ 16 0 8)) hK
    refine ⟨h3, fun k o j a1 a2 a3 a4 a5 a6 => ?_⟩
    show mpL (tN (μ 16 0 8)) (mtk (mpT i μ)) k o j = _
    rw [h4 k o j a1 a2 a3 a4 a5]
    unfold mtk
    rw [show st (mpT i μ) 16 0 1 (mpT i μ 16 0 1 + 1) k o j = mpT i μ k o j from if_neg (fun q => a6 ⟨q.1, q.2.2⟩)]
    exact h2 k o j a1 a2 a3 a4 a5 a6
theorem mth_ok {μ : Mem} {x : Int32} (h : MI μ) : MI (st μ 16 0 0 x) := by
  intro c hc
  obtain ⟨h1, h2, h3, h4, h5⟩ := h c hc
  refine ⟨by rw [st_k (by decide)]; exact h1, ?_⟩
  rw [show st μ 16 0 0 x 25 0 c = μ 25 0 c from st_k (by decide)]
  refine ⟨fun b hb => ?_, fun b hb => ?_, ?_, ?_⟩
  · rw [st_k (by decide)]; exact h2 b hb
  · rw [st_k (by decide)]; exact h3 b hb
  · rw [st_k (by decide)]; exact h4
  · rw [st_k (by decide)]; exact h5
def mrg (μ : Mem) (u t m : Nat) (q tk sq : Int32) : Mem :=
  st (st (st (st (if μ 17 0 (16 * u + t) = 0 then st (st (st μ 16 0 0 0) 21 0 (16 * u + m) (nI t)) 22 0 u (nI (m + 1)) else st μ 16 0 0 0) 17 0 (16 * u + t) 1) 18 0 (16 * u + t) (μ 16 0 1 + tk)) 19 0 (16 * u + t) q) 20 0 (16 * u + t) sq
def mtaP (μ : Mem) (u : Nat) (w : Int32) (p : Nat) : Bool := mtB μ u (tN (μ 21 0 (16 * u + p))) && decide (nI (ctB (fun j => mtB μ u (tN (μ 21 0 (16 * u + j)))) p) = w)
def mbV (μ : Mem) (u m : Nat) (w : Int32) : Int32 :=
  if fsB (mtaP μ u w) m < m then nI (100 * tN (μ 21 0 (16 * u + fsB (mtaP μ u w) m))) + μ 19 0 (16 * u + tN (μ 21 0 (16 * u + fsB (mtaP μ u w) m))) else 0
theorem mbV_no {μ : Mem} {u m : Nat} {w : Int32} (h : ∀ i, i < m → mtaP μ u w i = false) : mbV μ u m w = 0 := by
  unfold mbV
  rw [fsB_no h, if_neg (Nat.lt_irrefl m)]
theorem mbV_at {μ : Mem} {u m i : Nat} {w : Int32} (hp : mtaP μ u w i = true) (hb : ∀ j, j < i → mtaP μ u w j = false) (h : i < m) : mbV μ u m w = nI (100 * tN (μ 21 0 (16 * u + i))) + μ 19 0 (16 * u + tN (μ 21 0 (16 * u + i))) := by
  unfold mbV
  rw [fsB_at hp hb h, if_pos h]
def mb0 (μ : Mem) (K : Nat) : Mem := st (st (st (st (st μ 16 0 0 0) 23 0 K (-1)) 24 0 K (-1)) 25 0 K 0) 26 0 K 11
def mb1 (μ : Mem) (K u : Nat) : Mem := st (v1M K u (mb0 μ K)) 16 0 8 (nI (K + 1))
theorem mlI_st {μ : Mem} {c : Nat} {x y : Int32} : ∀ {n : Nat}, mlI (st μ 16 0 0 y) c x n = mlI μ c x n
  | 0 => rfl
  | n + 1 => by
    show (if st μ 16 0 0 y 28 0 (12 * c + n) = x then nI n else mlI (st μ 16 0 0 y) c x n) = (if μ 28 0 (12 * c + n) = x then nI n else mlI μ c x n)
    rw [st_k (by decide), mlI_st (n := n)]
theorem mpC_t {μ : Mem} {c : Nat} (h1 : mpL c μ 23 0 c = -1) (h2 : ¬ mpL (c + 1) μ 23 0 c = -1) : mpC (c + 1) μ = mpC c μ + 1 := congrArg (mpC c μ + ·) (if_pos ⟨h1, h2⟩)
theorem mpC_a {μ : Mem} {c : Nat} (h1 : ¬ mpL c μ 23 0 c = -1) : mpC (c + 1) μ = mpC c μ := congrArg (mpC c μ + ·) (if_neg (fun q => h1 q.1))
theorem mpC_b {μ : Mem} {c : Nat} (h2 : mpL (c + 1) μ 23 0 c = -1) : mpC (c + 1) μ = mpC c μ := congrArg (mpC c μ + ·) (if_neg (fun q => q.2 h2))
theorem mrM_25 {μ : Mem} {c n i : Nat} : mrM μ c n 25 0 i = μ 25 0 i := up_k (by decide)
