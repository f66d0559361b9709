/-! what a call's own methods leave alone -/
def GC (c : Nat) (μ μ' : Mem) : Prop := (∀ k o i, ¬ (k = 14 ∧ o = c) → ¬ (k = 11 ∧ o = c ∧ i ≠ 4) → μ' k o i = μ k o i) ∧ (vN (μ 11 c 5) 11 → vN (μ' 11 c 5) 11)
theorem GC.refl (c : Nat) (μ : Mem) : GC c μ μ := ⟨fun _ _ _ _ _ => rfl, fun h => h⟩
theorem GC.trans {c : Nat} {a b d : Mem} (h : GC c a b) (h2 : GC c b d) : GC c a d := ⟨fun k o i a1 a2 => (h2.1 k o i a1 a2).trans (h.1 k o i a1 a2), fun q => h2.2 (h.2 q)⟩
theorem GC.k {c : Nat} {μ μ' : Mem} (h : GC c μ μ') {k o i : Nat} (h1 : k ≠ 14) (h2 : k ≠ 11) : μ' k o i = μ k o i := h.1 k o i (fun q => h1 q.1) (fun q => h2 q.1)
theorem GC.o {c : Nat} {μ μ' : Mem} (h : GC c μ μ') {k o i : Nat} (h1 : o ≠ c) : μ' k o i = μ k o i := h.1 k o i (fun q => h1 q.2) (fun q => h1 q.2.1)
theorem GC.n {c : Nat} {μ μ' : Mem} (h : GC c μ μ') {o : Nat} : μ' 11 o 4 = μ 11 o 4 := h.1 11 o 4 (fun q => absurd q.1 (by decide)) (fun q => q.2.2 rfl)
theorem GC_st14 {c b : Nat} {μ : Mem} {x : Int32} : GC c μ (st μ 14 c b x) := ⟨fun k o i a1 _ => if_neg (fun q => a1 ⟨q.1, q.2.1⟩), fun h => by rw [st_k (by decide)]; exact h⟩
theorem GC_up {c a n : Nat} {μ : Mem} {g : Nat → Int32} : GC c μ (up μ 14 c a n g) := ⟨fun k o i a1 _ => if_neg (fun q => a1 ⟨q.1, q.2.1⟩), fun h => by rw [up_k (by decide)]; exact h⟩
theorem GC_st11 {c i : Nat} {μ : Mem} {x : Int32} (h4 : i ≠ 4) (h5 : i ≠ 5) : GC c μ (st μ 11 c i x) := ⟨fun k o j _ a2 => if_neg (fun q => a2 ⟨q.1, q.2.1, by rw [q.2.2]; exact h4⟩), fun h => by rw [st_i (Ne.symm h5)]; exact h⟩
theorem GC_st5 {c j : Nat} {μ : Mem} (hj : j ≤ 11) : GC c μ (st μ 11 c 5 (nI j)) := ⟨fun k o i _ a2 => if_neg (fun q => a2 ⟨q.1, q.2.1, by rw [q.2.2]; decide⟩), fun _ => by rw [st_same]; exact vN_nI hj (by decide)⟩
theorem GC_sgM {c n j : Nat} {μ : Mem} {now : Int32} (hj : j ≤ 11) : GC c μ (sgM μ c n (nI j) now) := by
  unfold sgM sg1
  exact ((GC_st5 hj).trans (GC_st11 (i := 6) (x := now) (by decide) (by decide))).trans GC_up
theorem GC_goM {c n : Nat} {now : Int32} : ∀ {j : Nat} {μ : Mem}, j ≤ 11 → GC c μ (goM c n now j μ)
  | 0, μ, _ => GC.refl c μ
  | j + 1, μ, h => by
    show GC c μ (if anB (wtP μ c) n = true then μ else goM c n now j (sgM μ c n (nI j) now))
    split
    · exact GC.refl c μ
    · exact (GC_sgM (by omega)).trans (GC_goM (by omega))
theorem GC_gfM {c n : Nat} {μ : Mem} : GC c μ (gfM μ c n) := by
  unfold gfM
  split
  · exact GC.refl c μ
  · exact GC_st11 (by decide) (by decide)
theorem GC_goOnM {c n s : Nat} {μ : Mem} {now : Int32} (hs : s ≤ 11) : GC c μ (goOnM μ c n s now) := (GC_goM hs).trans GC_gfM
theorem GC_eoM {c n : Nat} {μ : Mem} : GC c μ (eoM μ c n) := GC_up
theorem GC_bgM {c n s : Nat} {μ : Mem} {now : Int32} (hs : s ≤ 11) : GC c μ (bgM μ c n s now) := by
  unfold bgM
  split
  · exact GC_st11 (by decide) (by decide)
  · exact GC_goOnM hs
theorem GC_taM {c n s b : Nat} {μ : Mem} {x now : Int32} (hs : s ≤ 11) : GC c μ (taM μ c n s b x now) := by
  unfold taM
  split
  · exact GC_st14
  · split
    · split
      · exact GC_st14.trans (GC_goOnM hs)
      · exact (GC_st14.trans GC_eoM).trans (GC_st11 (by decide) (by decide))
    · exact ((GC_st14.trans (GC_st11 (by decide) (by decide))).trans GC_eoM).trans (GC_st11 (by decide) (by decide))
theorem GC_etM {c n s : Nat} {μ : Mem} {now : Int32} (hs : s ≤ 11) : GC c μ (etM μ c n s now) := by
  unfold etM
  split
  · split
    · exact GC_up.trans (GC_goOnM hs)
    · exact GC.refl c μ
  · exact GC.refl c μ
theorem GC_caM {c n : Nat} {μ : Mem} : GC c μ (caM μ c n) := (GC_eoM.trans (GC_st11 (by decide) (by decide))).trans (GC_st11 (by decide) (by decide))
theorem KI.gc {c : Nat} {μ μ' : Mem} (h : KI μ) (hc : c < 20) (g : GC c μ μ') : KI μ' := by
  intro o ho
  rw [g.n]
  refine ⟨(h o ho).1, ?_⟩
  by_cases e : o = c
  · subst e; exact g.2 (h o ho).2
  · rw [g.o e]; exact (h o ho).2
theorem lcM_ok {μ : Mem} (hI : KI μ) : ∀ c, c ≤ 20 → KI (lcM c μ) ∧ (∀ k o i, k ≠ 14 → k ≠ 11 → lcM c μ k o i = μ k o i)
  | 0, _ => ⟨hI, fun _ _ _ _ _ => rfl⟩
  | c + 1, h => by
    obtain ⟨h1, h2⟩ := lcM_ok hI c (by omega)
    have g : GC c (lcM c μ) (lcM (c + 1) μ) := GC_etM (h1 c (by omega)).2.2
    exact ⟨h1.gc (by omega) g, fun k o i a1 a2 => (g.k a1 a2).trans (h2 k o i a1 a2)⟩
theorem tkM_ok {μ : Mem} (hI : KI μ) : KI (tkM μ) := fun o ho => by
  unfold tkM
  rw [st_k (by decide), st_k (by decide)]
  exact hI o ho
theorem psM_ok {μ : Mem} (hI : KI μ) (hK : tN (μ 0 0 5) ≤ 20) : ∀ i, KI (psM i μ) ∧ (∀ k o j, k ≠ 14 → k ≠ 11 → ¬ (k = 0 ∧ j = 6) → psM i μ k o j = μ k o j)
  | 0 => ⟨hI, fun _ _ _ _ _ _ => rfl⟩
  | i + 1 => by
    obtain ⟨h1, h2⟩ := psM_ok hI hK i
    obtain ⟨h3, h4⟩ := lcM_ok (tkM_ok h1) (tN (μ 0 0 5)) hK
    refine ⟨h3, fun k o j a1 a2 a3 => ?_⟩
    show lcM (tN (μ 0 0 5)) (tkM (psM i μ)) k o j = _
    rw [h4 k o j a1 a2]
    unfold tkM
    rw [show st (psM i μ) 0 0 6 (psM i μ 0 0 6 + 1) k o j = psM i μ k o j from if_neg (fun q => a3 ⟨q.1, q.2.2⟩)]
    exact h2 k o j a1 a2 a3
theorem lt20 {x : Int32} {m : Nat} (hm : m < 2 ^ 31) (h : vN x m) {n : Nat} (hn : n < 2 ^ 31) (q : x < nI n) : tN x < n := by
  obtain ⟨h1, h2⟩ := h
  rw [h1] at q
  exact (nI_ltI (by omega) hn).mp q
