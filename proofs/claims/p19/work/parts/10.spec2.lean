/-! numbers that are small, by their value -/
def tN (x : Int32) : Nat := x.toNatClampNeg
def vN (x : Int32) (m : Nat) : Prop := x = nI (tN x) ∧ tN x ≤ m
theorem tN_nI {n : Nat} (h : n < 2 ^ 31) : tN (nI n) = n := nI_clamp h
theorem vN_nI {n m : Nat} (h : n ≤ m) (hm : m < 2 ^ 31) : vN (nI n) m := by
  unfold vN
  rw [tN_nI (by omega)]
  exact ⟨rfl, h⟩
theorem vN_of {x : Int32} {m : Nat} {M : Int32} (hM : M.toInt = m) (h0 : ¬ x < 0) (h : ¬ M < x) : vN x m := by
  obtain ⟨j, hj, rfl⟩ := nI_of2 hM h0 (Int32.not_lt.mp h)
  exact vN_nI hj (by have := Int32.toInt_lt M; omega)
/-! the registrar's rows -/
def thP (μ : Mem) (u : Nat) (now : Int32) (t : Nat) : Prop := ¬ μ 9 u t = -1 ∧ ¬ μ 8 u t ≤ now
theorem thP_dec (μ : Mem) (u : Nat) (now : Int32) (t : Nat) : (thP μ u now t ∨ ¬ thP μ u now t) := Classical.em _
def thB (μ : Mem) (u : Nat) (now : Int32) (t : Nat) : Bool := !decide (μ 9 u t = -1) && !decide (μ 8 u t ≤ now)
def coB (μ : Mem) (u : Nat) (left now : Int32) (t : Nat) : Bool := !decide (nI t = left) && thB μ u now t
def coN (μ : Mem) (u : Nat) (left now : Int32) : Nat := ctB (coB μ u left now) 16
def taP (μ : Mem) (u : Nat) (now w : Int32) (p : Nat) : Bool := thB μ u now (tN (μ 10 u p)) && decide (nI (ctB (fun j => thB μ u now (tN (μ 10 u j))) p) = w)
def taI (μ : Mem) (u m : Nat) (w now : Int32) : Int32 := if fsB (taP μ u now w) m < m then μ 10 u (fsB (taP μ u now w) m) else -1
theorem taI_no {μ : Mem} {u m : Nat} {w now : Int32} (h : ∀ i, i < m → taP μ u now w i = false) : taI μ u m w now = -1 := by
  unfold taI
  rw [fsB_no h, if_neg (Nat.lt_irrefl m)]
theorem taI_at {μ : Mem} {u m i : Nat} {w now : Int32} (hp : taP μ u now w i = true) (hb : ∀ j, j < i → taP μ u now w j = false) (h : i < m) : taI μ u m w now = μ 10 u i := by
  unfold taI
  rw [fsB_at hp hb h, if_pos h]
def puM (μ : Mem) (u m t : Nat) (q e s : Int32) : Mem :=
  st (st (st (if μ 9 u t = -1 ∧ m < 16 then st (st μ 10 u m (nI t)) 6 u 4 (nI (m + 1)) else μ) 7 u t q) 8 u t e) 9 u t s
/-! what the class's numbers keep to, so that no index leaves its row -/
def BI (μ : Mem) : Prop := ∀ u, u < 6 → vN (μ 6 u 4) 16 ∧ ∀ p, p < tN (μ 6 u 4) → vN (μ 10 u p) 15
def KI (μ : Mem) : Prop := ∀ c, c < 20 → vN (μ 11 c 4) 12 ∧ vN (μ 11 c 5) 11
def CI (μ : Mem) : Prop := vN (μ 0 0 5) 20 ∧ BI μ ∧ KI μ
/-! the forker's own -/
def outP (v most : Int32) : Prop := v < 0 ∨ most < v
theorem outP_n {v : Int32} {m : Nat} {M : Int32} (hM : M.toInt = m) (h : ¬ (v < 0 ∨ M < v)) : vN v m := vN_of hM (fun q => h (Or.inl q)) (fun q => h (Or.inr q))
def okU (u : Int32) : Prop := ¬ (u < 0 ∨ 5 < u)
def okC (μ : Mem) (x : Int32) : Prop := ¬ (x < 0 ∨ μ 0 0 5 - 1 < x)
theorem okU_n {u : Int32} (h : okU u) : u = nI (tN u) ∧ tN u < 6 := by
  have := outP_n (m := 5) (by decide) h
  exact ⟨this.1, Nat.lt_succ_of_le this.2⟩
theorem nI_T {n : Nat} (h : n < 2 ^ 31) : (nI n).toInt = n := nI_toInt h
theorem okC_n {μ : Mem} {x : Int32} (hK : vN (μ 0 0 5) 20) (h : okC μ x) : x = nI (tN x) ∧ tN x < tN (μ 0 0 5) ∧ tN x < 20 := by
  obtain ⟨h1, h2⟩ := hK
  unfold okC at h
  rcases Nat.eq_zero_or_pos (tN (μ 0 0 5)) with h0 | h0
  · exfalso
    rw [h1, h0] at h
    apply h
    rcases Int32.lt_or_le x 0 with q | q
    · exact Or.inl q
    · refine Or.inr ?_
      have e : (nI 0 - 1 : Int32) = -1 := by decide
      rw [e]
      exact Int32.lt_of_lt_of_le (by decide) q
  · rw [h1, nI_s1 h0] at h
    have := outP_n (M := nI (tN (μ 0 0 5) - 1)) (nI_T (by omega)) h
    exact ⟨this.1, by have := this.2; omega, by have := this.2; omega⟩
def naP (x : Int32) : Prop := ¬ x = 180 ∧ (x < 200 ∨ 699 < x)
def adM (μ : Mem) (c : Nat) (x y : Int32) : Mem := if frI (fun b => decide (μ 12 c b = x)) (tN (μ 11 c 4)) = -1 then addM μ c (tN (μ 11 c 4)) x y 0 else μ
def aeM (μ : Mem) (c : Nat) (y z : Int32) : Mem := addM μ c (tN (μ 11 c 4)) (-1) y z
/-- the way's first b places hold u -/
def owB (μ : Mem) (u : Int32) (b : Nat) : Bool := anB (fun p => decide (μ 4 0 p = u)) b
/-- to come to a user: behind is b, and F follows on -/
def cuG (F : Nat → Int32 → Mem → Mem) (b c u : Nat) (q : Int32) (μ : Mem) : Mem := if owB μ (nI u) b = true then aeM μ c q 482 else if 2 < b then aeM μ c q 483 else F u q μ
def fuS (G : Nat → Int32 → Mem → Mem) (b c u : Nat) (qw : Int32) (p : Nat) (μ : Mem) : Mem :=
  if thB μ u (μ 0 0 6) (tN (μ 10 u p)) = true then
    (if tN (μ 10 u p) < 10 then adM μ c (nI (tN (μ 10 u p))) (if b = 0 then μ 7 u (tN (μ 10 u p)) else qw)
     else G (tN (μ 10 u p) - 10) (if b = 0 then μ 7 u (tN (μ 10 u p)) else qw) μ)
  else μ
def fuL (G : Nat → Int32 → Mem → Mem) (b c u : Nat) (qw : Int32) : Nat → Mem → Mem
  | 0, μ => μ
  | p + 1, μ => fuS G b c u qw p (fuL G b c u qw p μ)
def fuG (G : Nat → Int32 → Mem → Mem) (b c u : Nat) (qw : Int32) (μ : Mem) : Mem := fuL G b c u qw (tN (μ 6 u 4)) (st μ 4 0 b (nI u))
def cu3 (c u : Nat) (q : Int32) (μ : Mem) : Mem := cuG (fun _ _ μ => μ) 3 c u q μ
def fu2 (c u : Nat) (q : Int32) (μ : Mem) : Mem := fuG (cu3 c) 2 c u q μ
def cu2 (c u : Nat) (q : Int32) (μ : Mem) : Mem := cuG (fu2 c) 2 c u q μ
def fu1 (c u : Nat) (q : Int32) (μ : Mem) : Mem := fuG (cu2 c) 1 c u q μ
def cu1 (c u : Nat) (q : Int32) (μ : Mem) : Mem := cuG (fu1 c) 1 c u q μ
def fu0 (c u : Nat) (q : Int32) (μ : Mem) : Mem := fuG (cu1 c) 0 c u q μ
/-- kinds of cells that the finding of branches leaves alone -/
def FR (μ μ' : Mem) : Prop := (∀ k o i, k ≠ 4 → k ≠ 11 → k ≠ 12 → k ≠ 13 → k ≠ 14 → μ' k o i = μ k o i) ∧ ∀ o i, i ≠ 4 → μ' 11 o i = μ 11 o i
theorem FR.refl (μ : Mem) : FR μ μ := ⟨fun _ _ _ _ _ _ _ _ => rfl, fun _ _ _ => rfl⟩
theorem FR.trans {a b d : Mem} (h : FR a b) (h2 : FR b d) : FR a d := ⟨fun k o i a1 a2 a3 a4 a5 => (h2.1 k o i a1 a2 a3 a4 a5).trans (h.1 k o i a1 a2 a3 a4 a5), fun o i hi => (h2.2 o i hi).trans (h.2 o i hi)⟩
/-- .. and how many branches there are stays small, the other calls' stay -/
def FC (c : Nat) (μ μ' : Mem) : Prop := FR μ μ' ∧ (vN (μ 11 c 4) 12 → vN (μ' 11 c 4) 12) ∧ ∀ k o i, 11 ≤ k → o ≠ c → μ' k o i = μ k o i
theorem FC.refl (c : Nat) (μ : Mem) : FC c μ μ := ⟨FR.refl μ, fun h => h, fun _ _ _ _ _ => rfl⟩
theorem FC.trans {c : Nat} {a b d : Mem} (h : FC c a b) (h2 : FC c b d) : FC c a d := ⟨h.1.trans h2.1, fun q => h2.2.1 (h.2.1 q), fun k o i hk ho => (h2.2.2 k o i hk ho).trans (h.2.2 k o i hk ho)⟩
theorem addM_FC {μ : Mem} {c n : Nat} {x y z : Int32} (hn : n ≤ 12) : FC c μ (addM μ c n x y z) := by
  unfold addM
  split
  · refine ⟨⟨fun k o i a1 a2 a3 a4 a5 => by simp [st, a2, a3, a4, a5], fun o i hi => by simp [st, hi]⟩, fun _ => ?_, fun k o i hk ho => by simp [st, ho]⟩
    rw [show st (st (st (st μ 12 c n x) 13 c n y) 14 c n z) 11 c 4 (nI (n + 1)) 11 c 4 = nI (n + 1) from st_same]
    exact vN_nI (by omega) (by decide)
  · exact FC.refl c μ
theorem adM_FC {μ : Mem} {c : Nat} {x y : Int32} (h : vN (μ 11 c 4) 12) : FC c μ (adM μ c x y) := by
  unfold adM
  split
  · exact addM_FC h.2
  · exact FC.refl c μ
theorem aeM_FC {μ : Mem} {c : Nat} {y z : Int32} (h : vN (μ 11 c 4) 12) : FC c μ (aeM μ c y z) := addM_FC h.2
theorem cuG_FC {F : Nat → Int32 → Mem → Mem} {b c u : Nat} {q : Int32} {μ : Mem} (h : vN (μ 11 c 4) 12) (hF : b ≤ 2 → FC c μ (F u q μ)) : FC c μ (cuG F b c u q μ) := by
  unfold cuG
  split
  · exact aeM_FC h
  · split
    · exact aeM_FC h
    · exact hF (by omega)
theorem fuS_FC {G : Nat → Int32 → Mem → Mem} {b c u p : Nat} {qw : Int32} {μ : Mem} (h : vN (μ 11 c 4) 12) (hG : ∀ u q, FC c μ (G u q μ)) : FC c μ (fuS G b c u qw p μ) := by
  unfold fuS
  split
  · split
    · exact adM_FC h
    · exact hG _ _
  · exact FC.refl c μ
theorem fuL_FC {G : Nat → Int32 → Mem → Mem} {b c u : Nat} {qw : Int32} {μ : Mem} (h : vN (μ 11 c 4) 12) (hG : ∀ μ u q, vN (μ 11 c 4) 12 → FC c μ (G u q μ)) : ∀ p, FC c μ (fuL G b c u qw p μ)
  | 0 => FC.refl c μ
  | p + 1 => by
    have h1 := fuL_FC h hG (b := b) (u := u) (qw := qw) p
    exact h1.trans (fuS_FC (h1.2.1 h) (fun u q => hG _ u q (h1.2.1 h)))
theorem way_FC {μ : Mem} {c b : Nat} {x : Int32} : FC c μ (st μ 4 0 b x) := ⟨⟨fun k o i a1 _ _ _ _ => st_k a1, fun o i _ => st_k (by decide)⟩, fun h => by rw [st_k (by decide)]; exact h, fun k o i hk _ => st_k (by omega)⟩
theorem fuG_FC {G : Nat → Int32 → Mem → Mem} {b c u : Nat} {qw : Int32} {μ : Mem} (h : vN (μ 11 c 4) 12) (hG : ∀ μ u q, vN (μ 11 c 4) 12 → FC c μ (G u q μ)) : FC c μ (fuG G b c u qw μ) :=
  (way_FC (b := b) (x := nI u)).trans (fuL_FC (by rw [st_k (by decide)]; exact h) hG _)
theorem cu3_FC {c : Nat} (μ : Mem) (u : Nat) (q : Int32) (h : vN (μ 11 c 4) 12) : FC c μ (cu3 c u q μ) := cuG_FC h (fun q => absurd q (by decide))
theorem fu2_FC {c : Nat} (μ : Mem) (u : Nat) (q : Int32) (h : vN (μ 11 c 4) 12) : FC c μ (fu2 c u q μ) := fuG_FC h cu3_FC
theorem cu2_FC {c : Nat} (μ : Mem) (u : Nat) (q : Int32) (h : vN (μ 11 c 4) 12) : FC c μ (cu2 c u q μ) := cuG_FC h (fun _ => fu2_FC μ u q h)
theorem fu1_FC {c : Nat} (μ : Mem) (u : Nat) (q : Int32) (h : vN (μ 11 c 4) 12) : FC c μ (fu1 c u q μ) := fuG_FC h cu2_FC
theorem cu1_FC {c : Nat} (μ : Mem) (u : Nat) (q : Int32) (h : vN (μ 11 c 4) 12) : FC c μ (cu1 c u q μ) := cuG_FC h (fun _ => fu1_FC μ u q h)
theorem fu0_FC {c : Nat} (μ : Mem) (u : Nat) (q : Int32) (h : vN (μ 11 c 4) 12) : FC c μ (fu0 c u q μ) := fuG_FC h cu1_FC
theorem BI.fr {μ μ' : Mem} (h : BI μ) (f : FR μ μ') : BI μ' := by
  intro u hu
  obtain ⟨h1, h2⟩ := h u hu
  have e6 : μ' 6 u 4 = μ 6 u 4 := f.1 6 u 4 (by decide) (by decide) (by decide) (by decide) (by decide)
  rw [e6]
  refine ⟨h1, fun p hp => ?_⟩
  rw [f.1 10 u p (by decide) (by decide) (by decide) (by decide) (by decide)]
  exact h2 p hp
def clM (μ : Mem) (u : Nat) : Mem :=
  st (bgM (fu0 (tN (μ 0 0 5)) u (-1) μ) (tN (μ 0 0 5)) (tN (fu0 (tN (μ 0 0 5)) u (-1) μ 11 (tN (μ 0 0 5)) 4)) (tN (μ 11 (tN (μ 0 0 5)) 5)) (μ 0 0 6)) 0 0 5 (nI (tN (μ 0 0 5) + 1))
def etM' (μ : Mem) (c : Nat) : Mem := etM μ c (tN (μ 11 c 4)) (tN (μ 11 c 5)) (μ 0 0 6)
def etI' (μ : Mem) (c : Nat) : Int32 := etI μ c (tN (μ 11 c 4)) (tN (μ 11 c 5)) (μ 0 0 6)
def lcM : Nat → Mem → Mem
  | 0, μ => μ
  | c + 1, μ => etM' (lcM c μ) c
def lcN : Nat → Mem → Nat
  | 0, _ => 0
  | c + 1, μ => lcN c μ + (if etI' (lcM c μ) c = 0 then 0 else 1)
def tkM (μ : Mem) : Mem := st μ 0 0 6 (μ 0 0 6 + 1)
def psM : Nat → Mem → Mem
  | 0, μ => μ
  | i + 1, μ => lcM (tN (μ 0 0 5)) (tkM (psM i μ))
def psN : Nat → Mem → Int32
  | 0, _ => 0
  | i + 1, μ => psN i μ + nI (lcN (tN (μ 0 0 5)) (tkM (psM i μ)))

theorem taI_v {μ : Mem} {u m : Nat} {w now : Int32} (hv : ∀ p, p < m → vN (μ 10 u p) 15) (h : ¬ taI μ u m w now = -1) : vN (taI μ u m w now) 15 := by
  unfold taI at h ⊢
  split
  · exact hv _ (by assumption)
  · rename_i q
    rw [if_neg q] at h
    exact absurd rfl h
theorem frI_b {p : Nat → Bool} {n : Nat} (h : ¬ frI p n = -1) : fsB p n < n ∧ frI p n = nI (fsB p n) := by
  unfold frI at h ⊢
  by_cases q : fsB p n < n
  · exact ⟨q, if_pos q⟩
  · rw [if_neg q] at h
    exact absurd rfl h
def okB (μ : Mem) (x y : Int32) : Prop := ¬ (y < 0 ∨ μ 11 (tN x) 4 - 1 < y)
theorem okB_n {μ : Mem} {x y : Int32} (hn : vN (μ 11 (tN x) 4) 12) (h : okB μ x y) : y = nI (tN y) ∧ tN y < tN (μ 11 (tN x) 4) ∧ tN y < 12 := by
  obtain ⟨h1, h2⟩ := hn
  unfold okB at h
  rcases Nat.eq_zero_or_pos (tN (μ 11 (tN x) 4)) with h0 | h0
  · exfalso
    rw [h1, h0] at h
    apply h
    rcases Int32.lt_or_le y 0 with q | q
    · exact Or.inl q
    · refine Or.inr ?_
      have e : (nI 0 - 1 : Int32) = -1 := by decide
      rw [e]
      exact Int32.lt_of_lt_of_le (by decide) q
  · rw [h1, nI_s1 h0] at h
    have := outP_n (M := nI (tN (μ 11 (tN x) 4) - 1)) (nI_T (by omega)) h
    exact ⟨this.1, by have := this.2; omega, by have := this.2; omega⟩
def rgOk (tg q tk sq : Int32) : Prop := ¬ (tg < 0 ∨ 15 < tg) ∧ ¬ (q < 0 ∨ 10 < q) ∧ ¬ (tk < 0 ∨ 1000 < tk) ∧ ¬ (sq < 0 ∨ 10000 < sq)
def rgOk2 (μ : Mem) (u : Nat) (tg tk sq : Int32) : Prop := μ 9 u (tN tg) < sq ∧ (tk = 0 ∨ nI (coN μ u tg (μ 0 0 6)) < 6)
def rgM' (μ : Mem) (u : Nat) (tg q tk sq : Int32) : Mem := puM μ u (tN (μ 6 u 4)) (tN tg) q (μ 0 0 6 + tk) sq
def anOk (dv cd : Int32) : Prop := ¬ (dv < 0 ∨ 9 < dv) ∧ ¬ (¬ cd = 180 ∧ (cd < 200 ∨ 699 < cd))
def anBr (μ : Mem) (c : Nat) (dv : Int32) : Nat := fsB (fun b => decide (μ 12 c b = dv)) (tN (μ 11 c 4))
def anOk2 (μ : Mem) (c : Nat) (dv cd : Int32) : Prop :=
  ¬ frI (fun b => decide (μ 12 c b = dv)) (tN (μ 11 c 4)) = -1 ∧ μ 11 c 5 ≤ μ 13 c (anBr μ c dv) ∧
  (¬ 200 ≤ μ 14 c (anBr μ c dv) ∨ ((¬ cd < 200 ∧ ¬ 300 ≤ cd) ∧ (μ 14 c (anBr μ c dv) = 487 ∨ μ 14 c (anBr μ c dv) = 408) ∧ μ 15 c (anBr μ c dv) = 0))
def anM (μ : Mem) (c : Nat) (dv cd : Int32) : Mem :=
  if 200 ≤ μ 14 c (anBr μ c dv) then st (st μ 15 c (anBr μ c dv) 1) 3 0 (tN dv) (μ 3 0 (tN dv) + 1)
  else taM μ c (tN (μ 11 c 4)) (tN (μ 11 c 5)) (anBr μ c dv) cd (μ 0 0 6)
