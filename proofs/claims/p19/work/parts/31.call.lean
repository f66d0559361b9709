/-! what holds of a call, from its beginning on -/
def dvP (x : Int32) : Prop := x = -1 ∨ ∃ d, d < 10 ∧ x = nI d
def CA (c n : Nat) (μ : Mem) : Prop := n ≤ 12 ∧ μ 11 c 4 = nI n ∧ (∀ b, b < n → dvP (μ 12 c b)) ∧ (∀ b b', b < n → b' < n → μ 12 c b = μ 12 c b' → ¬ μ 12 c b = -1 → b = b') ∧ (∀ b, b < n → ∃ q, q ≤ 10 ∧ μ 13 c b = nI q) ∧ ∃ s, s ≤ 11 ∧ μ 11 c 5 = nI s
def sOp (x : Int32) : Prop := x = 100 ∨ x = 180
def SB (μ : Mem) (c b : Nat) : Prop :=
  (μ 14 c b = 0 ∧ μ 13 c b < μ 11 c 5 ∧ ¬ μ 12 c b = -1 ∧ μ 15 c b = 0) ∨ (sOp (μ 14 c b) ∧ μ 11 c 5 ≤ μ 13 c b ∧ ¬ μ 12 c b = -1 ∧ μ 15 c b = 0) ∨ 200 ≤ μ 14 c b
def CS (c n : Nat) (μ : Mem) : Prop := ∀ b, b < n → SB μ c b
def EO (c n : Nat) (μ : Mem) : Prop := ∀ b, b < n → 200 ≤ μ 14 c b → 300 ≤ μ 14 c b ∧ ¬ 600 ≤ μ 14 c b
def CO (c n : Nat) (μ : Mem) : Prop := μ 11 c 8 = -1 ∧ μ 11 c 7 = -1 ∧ μ 11 c 9 = 0 ∧ EO c n μ
def CW (c n : Nat) (μ : Mem) : Prop := ∃ b, b < n ∧ sOp (μ 14 c b)
def CE (c n : Nat) (μ : Mem) : Prop := ¬ μ 11 c 8 = -1 ∧ (∀ b, b < n → 200 ≤ μ 14 c b) ∧
  ((n = 0 ∧ μ 11 c 8 = 480 ∧ μ 11 c 7 = -1 ∧ μ 11 c 9 = 0) ∨
   (n ≠ 0 ∧ ¬ μ 11 c 9 = 0 ∧ μ 11 c 8 = 487 ∧ μ 11 c 7 = -1 ∧ ∀ b, b < n → 300 ≤ μ 14 c b) ∨
   (n ≠ 0 ∧ μ 11 c 9 = 0 ∧ μ 11 c 8 = beI (μ 14 c) n ∧ μ 11 c 7 = -1 ∧ ∀ b, b < n → 300 ≤ μ 14 c b) ∨
   (n ≠ 0 ∧ μ 11 c 9 = 0 ∧ ∃ a, a < n ∧ μ 11 c 7 = nI a ∧ μ 14 c a = μ 11 c 8 ∧ ¬ 300 ≤ μ 14 c a ∧ ∀ b, b < n → b ≠ a → 300 ≤ μ 14 c b ∧ ¬ 600 ≤ μ 14 c b))
def CR (c n : Nat) (μ : Mem) : Prop := CA c n μ ∧ CS c n μ ∧ ((CO c n μ ∧ CW c n μ) ∨ CE c n μ)
theorem sOp_lt {x : Int32} (h : sOp x) : ¬ 200 ≤ x := by rcases h with rfl | rfl <;> decide
theorem CA.sub {c n : Nat} {μ μ' : Mem} (h : CA c n μ) (e4 : μ' 11 c 4 = μ 11 c 4) (e5 : μ' 11 c 5 = μ 11 c 5 ∨ ∃ s, s ≤ 11 ∧ μ' 11 c 5 = nI s) (h12 : ∀ b, μ' 12 c b = μ 12 c b) (h13 : ∀ b, μ' 13 c b = μ 13 c b) : CA c n μ' := by
  obtain ⟨a1, a2, a3, a4, a5, a6⟩ := h
  refine ⟨a1, e4.trans a2, fun b hb => by rw [h12]; exact a3 b hb, fun b b' hb hb' q1 q2 => ?_, fun b hb => by rw [h13]; exact a5 b hb, ?_⟩
  · rw [h12] at q1 q2; rw [h12] at q1
    exact a4 b b' hb hb' q1 q2
  · rcases e5 with e5 | e5
    · rw [e5]; exact a6
    · exact e5
theorem wait_no {μ : Mem} {c n b : Nat} (hw : ¬ anB (wtP μ c) n = true) (hb : b < n) (hs : μ 11 c 5 ≤ μ 13 c b) : 200 ≤ μ 14 c b := by
  by_cases h : 200 ≤ μ 14 c b
  · exact h
  · exfalso
    apply hw
    refine anB_of (i := b) ?_ hb
    unfold wtP
    rw [decide_eq_true hs, decide_eq_false h]
    rfl
/-- a call that starts groups until there is one to wait for -/
def GI (c n j : Nat) (μ : Mem) : Prop := CA c n μ ∧ CS c n μ ∧ CO c n μ ∧ μ 11 c 5 = nI j
theorem GI.start {c n j : Nat} {now : Int32} {μ : Mem} (hj : j ≤ 10) (h : GI c n (j + 1) μ) (hw : ¬ anB (wtP μ c) n = true) : GI c n j (sgM μ c n (nI j) now) := by
  obtain ⟨hA, hS, ⟨o1, o2, o3, o4⟩, h5⟩ := h
  refine ⟨hA.sub sgM_n (Or.inr ⟨j, by omega, sgM_5⟩) (fun b => sgM_k (by decide) (by decide)) (fun b => sgM_k (by decide) (by decide)), fun b hb => ?_, ⟨(sgM_11 (by decide) (by decide)).trans o1, (sgM_11 (by decide) (by decide)).trans o2, (sgM_11 (by decide) (by decide)).trans o3, fun b hb q => ?_⟩, sgM_5⟩
  · unfold SB
    rw [sgM_14 hb, sgM_5, sgM_k (k := 13) (by decide) (by decide), sgM_k (k := 12) (by decide) (by decide), sgM_k (k := 15) (by decide) (by decide)]
    rcases hS b hb with ⟨a1, a2, a3, a4⟩ | ⟨a1, a2, a3, a4⟩ | a1
    · obtain ⟨Q, hQ, e⟩ := hA.2.2.2.2.1 b hb
      rw [h5, e] at a2
      have hlt : Q < j + 1 := (nI_ltI (by omega) (by omega)).mp a2
      by_cases ej : μ 13 c b = nI j
      · rw [if_pos ⟨ej, by rw [a1]; decide⟩, ej]
        exact Or.inr (Or.inl ⟨Or.inl rfl, Int32.le_refl _, a3, a4⟩)
      · rw [if_neg (fun q => ej q.1), e]
        refine Or.inl ⟨a1, (nI_ltI (by omega) (by omega)).mpr ?_, a3, a4⟩
        have : ¬ Q = j := fun q => ej (by rw [e, q])
        omega
    · exact absurd (wait_no hw hb a2) (sOp_lt a1)
    · rw [if_neg (fun q => q.2 a1)]
      exact Or.inr (Or.inr a1)
  · rw [sgM_14 hb] at q ⊢
    split at q
    · exact absurd q (by decide)
    · rename_i z
      rw [if_neg z]
      exact o4 b hb q
theorem GI.go {c n : Nat} {now : Int32} : ∀ (j : Nat) (μ : Mem), j ≤ 11 → GI c n j μ → ∃ j', GI c n j' (goM c n now j μ) ∧ (anB (wtP (goM c n now j μ) c) n = true ∨ (j' = 0 ∧ ¬ anB (wtP (goM c n now j μ) c) n = true))
  | 0, μ, _, h => by
    refine ⟨0, h, ?_⟩
    by_cases hw : anB (wtP μ c) n = true
    · exact Or.inl hw
    · exact Or.inr ⟨rfl, hw⟩
  | j + 1, μ, hj, h => by
    by_cases hw : anB (wtP μ c) n = true
    · rw [goM_w hw]
      exact ⟨j + 1, h, Or.inl hw⟩
    · rw [goM_n hw]
      exact GI.go j _ (by omega) (h.start (by omega) hw)
theorem CO.wait {c n : Nat} {μ : Mem} (hS : CS c n μ) (hw : anB (wtP μ c) n = true) : CW c n μ := by
  obtain ⟨b, hb, q⟩ := anB_ex hw
  refine ⟨b, hb, ?_⟩
  unfold wtP at q
  rcases (Bool.and_eq_true _ _).mp q with ⟨q1, q2⟩
  have q1' := of_decide_eq_true q1
  have q2' : ¬ 200 ≤ μ 14 c b := fun z => by rw [decide_eq_true z] at q2; cases q2
  rcases hS b hb with ⟨-, a2, -, -⟩ | ⟨a1, -, -, -⟩ | a1
  · exfalso; simp only [Int32.le_iff_toInt_le, Int32.lt_iff_toInt_lt] at a2 q1'; omega
  · exact a1
  · exact absurd a1 q2'
theorem goOn_CR {c n s : Nat} {now : Int32} {μ : Mem} (hn0 : n ≠ 0) (hs : s ≤ 11) (h : GI c n s μ) : CR c n (goOnM μ c n s now) := by
  obtain ⟨j', ⟨hA, hS, hO, h5⟩, hx⟩ := GI.go (now := now) s μ hs h
  unfold goOnM gfM
  rcases hx with hw | ⟨rfl, hw⟩
  · rw [if_pos hw]
    exact ⟨hA, hS, Or.inl ⟨hO, CO.wait hS hw⟩⟩
  · rw [if_neg hw]
    have hall : ∀ b, b < n → 200 ≤ goM c n now s μ 14 c b := fun b hb => by
      refine wait_no hw hb ?_
      obtain ⟨Q, hQ, e⟩ := hA.2.2.2.2.1 b hb
      rw [h5, e]
      exact (nI_leI (by decide) (by omega)).mpr (Nat.zero_le _)
    obtain ⟨o1, o2, o3, o4⟩ := hO
    refine ⟨hA.sub (st_i (by decide)) (Or.inl (st_i (by decide))) (fun b => st_k (by decide)) (fun b => st_k (by decide)), fun b hb => Or.inr (Or.inr ?_), Or.inr ⟨?_, fun b hb => ?_, Or.inr (Or.inr (Or.inl ⟨hn0, ?_, ?_, ?_, fun b hb => ?_⟩))⟩⟩
    · rw [st_k (by decide)]; exact hall b hb
    · rw [st_same]
      intro q
      have := be_pos hall
      rw [q] at this
      exact absurd this (by decide)
    · rw [st_k (by decide)]; exact hall b hb
    · rw [st_i (by decide)]; exact o3
    · rw [st_same]
      exact beI_cong fun b _ => (st_k (by decide)).symm
    · rw [st_i (by decide)]; exact o2
    · rw [st_k (by decide)]; exact (o4 b hb (hall b hb)).1
/-- one branch put anew -/
theorem CS.set {c n b : Nat} {x : Int32} {μ : Mem} (hS : CS c n μ) (hx : 200 ≤ x ∨ (x = 180 ∧ μ 11 c 5 ≤ μ 13 c b ∧ ¬ μ 12 c b = -1 ∧ μ 15 c b = 0)) : CS c n (st μ 14 c b x) := by
  intro i hi
  unfold SB
  rw [st_k (k' := 11) (by decide), st_k (k' := 12) (by decide), st_k (k' := 13) (by decide), st_k (k' := 15) (by decide)]
  by_cases e : i = b
  · subst e
    rw [st_same]
    rcases hx with hx | ⟨rfl, hx⟩
    · exact Or.inr (Or.inr hx)
    · exact Or.inr (Or.inl ⟨Or.inr rfl, hx⟩)
  · rw [st_i e]
    exact hS i hi
theorem CA.s14 {c n b : Nat} {x : Int32} {μ : Mem} (hA : CA c n μ) : CA c n (st μ 14 c b x) := hA.sub (st_k (by decide)) (Or.inl (st_k (by decide))) (fun b => st_k (by decide)) (fun b => st_k (by decide))
theorem EO.set {c n b : Nat} {x : Int32} {μ : Mem} (h : EO c n μ) (hx : ¬ 200 ≤ x ∨ (300 ≤ x ∧ ¬ 600 ≤ x)) : EO c n (st μ 14 c b x) := by
  intro i hi q
  by_cases e : i = b
  · subst e
    rw [st_same] at q ⊢
    rcases hx with hx | hx
    · exact absurd q hx
    · exact hx
  · rw [st_i e] at q ⊢
    exact h i hi q
theorem CA.eo {c n : Nat} {μ : Mem} (hA : CA c n μ) : CA c n (eoM μ c n) := hA.sub (eoM_k (by decide)) (Or.inl (eoM_k (by decide))) (fun b => eoM_k (by decide)) (fun b => eoM_k (by decide))
theorem eo_end {c n b : Nat} {μ : Mem} (hb : b < n) : 200 ≤ eoM μ c n 14 c b := by
  rw [eoM_14 hb]
  split
  · assumption
  · decide
theorem CA.s11 {c n i : Nat} {x : Int32} {μ : Mem} (h4 : i ≠ 4) (h5 : i ≠ 5) (hA : CA c n μ) : CA c n (st μ 11 c i x) := hA.sub (st_i (Ne.symm h4)) (Or.inl (st_i (Ne.symm h5))) (fun b => st_k (by decide)) (fun b => st_k (by decide))
theorem go_14 {c n b : Nat} {now : Int32} (hb : b < n) : ∀ (j : Nat) (μ : Mem), 200 ≤ μ 14 c b → goM c n now j μ 14 c b = μ 14 c b
  | 0, _, _ => rfl
  | j + 1, μ, h => by
    show (if anB (wtP μ c) n = true then μ else goM c n now j (sgM μ c n (nI j) now)) 14 c b = _
    split
    · rfl
    · have e : sgM μ c n (nI j) now 14 c b = μ 14 c b := by rw [sgM_14 hb, if_neg (fun q => q.2 h)]
      rw [go_14 hb j _ (by rw [e]; exact h), e]
theorem go_11 {c n i : Nat} {now : Int32} (h5 : i ≠ 5) (h6 : i ≠ 6) : ∀ (j : Nat) (μ : Mem), goM c n now j μ 11 c i = μ 11 c i
  | 0, _ => rfl
  | j + 1, μ => by
    show (if anB (wtP μ c) n = true then μ else goM c n now j (sgM μ c n (nI j) now)) 11 c i = _
    split
    · rfl
    · rw [go_11 h5 h6 j, sgM_11 h5 h6]
theorem go_keep {c n s b : Nat} {now : Int32} {μ : Mem} (_ : s ≤ 11) (h : GI c n s μ) (hb : b < n) (h2 : 200 ≤ μ 14 c b) : goOnM μ c n s now 14 c b = μ 14 c b ∧ goOnM μ c n s now 11 c 7 = -1 := by
  unfold goOnM gfM
  split
  · exact ⟨go_14 hb s μ h2, (go_11 (by decide) (by decide) s μ).trans h.2.2.1.2.1⟩
  · rw [st_k (by decide), st_i (by decide)]
    exact ⟨go_14 hb s μ h2, (go_11 (by decide) (by decide) s μ).trans h.2.2.1.2.1⟩
/-- an answer to a branch that has not ended -/
theorem CR_ans {c n b s : Nat} {x now : Int32} {μ : Mem} (h : CR c n μ) (hb : b < n) (ho : sOp (μ 14 c b)) (hs11 : s ≤ 11) (es : μ 11 c 5 = nI s) (hx : x = 180 ∨ 200 ≤ x) : CR c n (taM μ c n s b x now) ∧ taM μ c n s b x now 14 c b = x ∧ (x = 180 → taM μ c n s b x now 11 c 8 = -1) ∧ (¬ x = 180 → ¬ 300 ≤ x → taM μ c n s b x now 11 c 8 = x ∧ taM μ c n s b x now 11 c 7 = nI b ∧ ∀ i, i < n → 200 ≤ taM μ c n s b x now 14 c i) ∧ (x = 180 ∨ 300 ≤ x → taM μ c n s b x now 11 c 7 = -1) ∧ (600 ≤ x → taM μ c n s b x now 11 c 8 = x ∧ ∀ i, i < n → 200 ≤ taM μ c n s b x now 14 c i) := by
  obtain ⟨hA, hS, hx2⟩ := h
  have hne := sOp_lt ho
  have hO : CO c n μ := by
    rcases hx2 with q | q
    · exact q.1
    · exact absurd (q.2.1 b hb) hne
  obtain ⟨o1, o2, o3, o4⟩ := hO
  have hbb : μ 11 c 5 ≤ μ 13 c b ∧ ¬ μ 12 c b = -1 ∧ μ 15 c b = 0 := by
    rcases hS b hb with ⟨a1, -, -, -⟩ | ⟨-, a2, a3, a4⟩ | a1
    · rw [a1] at ho
      rcases ho with q | q <;> exact absurd q (by decide)
    · exact ⟨a2, a3, a4⟩
    · exact absurd a1 hne
  have hn0 : n ≠ 0 := by omega
  unfold taM
  by_cases e1 : x = 180
  · subst e1
    rw [if_pos rfl]
    refine ⟨⟨hA.s14, hS.set (Or.inr ⟨rfl, hbb⟩), Or.inl ⟨⟨?_, ?_, ?_, o4.set (Or.inl (by decide))⟩, b, hb, ?_⟩⟩, st_same, fun _ => ?_, fun q => absurd rfl q, fun _ => ?_, fun q => absurd q (by decide)⟩
    · rw [st_k (by decide)]; exact o1
    · rw [st_k (by decide)]; exact o2
    · rw [st_k (by decide)]; exact o3
    · rw [st_same]; exact Or.inr rfl
    · rw [st_k (by decide)]; exact o1
    · rw [st_k (by decide)]; exact o2
  · rw [if_neg e1]
    have h2 : 200 ≤ x := hx.resolve_left e1
    by_cases e3 : 300 ≤ x
    · rw [if_pos e3]
      by_cases e6 : x < 600
      · rw [if_pos e6]
        have e6' : ¬ 600 ≤ x := Int32.not_le.mpr e6
        have hG : GI c n s (st μ 14 c b x) := ⟨hA.s14, hS.set (Or.inl h2), ⟨(st_k (by decide)).trans o1, (st_k (by decide)).trans o2, (st_k (by decide)).trans o3, o4.set (Or.inr ⟨e3, e6'⟩)⟩, (st_k (by decide)).trans es⟩
        have hR := goOn_CR (now := now) hn0 hs11 hG
        obtain ⟨g1, g2⟩ := go_keep (now := now) (b := b) hs11 hG hb (by rw [st_same]; exact h2)
        exact ⟨hR, g1.trans st_same, fun q => absurd q e1, fun _ q => absurd e3 q, fun _ => g2, fun q => absurd q e6'⟩
      · rw [if_neg e6]
        have e6' : 600 ≤ x := Int32.not_lt.mp e6
        have eb : eoM (st μ 14 c b x) c n 14 c b = x := by rw [eoM_14 hb, st_same, if_pos h2]
        have hoth : ∀ i, i < n → i ≠ b → 300 ≤ eoM (st μ 14 c b x) c n 14 c i ∧ ¬ 600 ≤ eoM (st μ 14 c b x) c n 14 c i := fun i hi hib => by
          rw [eoM_14 hi, st_i hib]
          split
          · rename_i q; exact o4 i hi q
          · decide
        have hbe : beI (eoM (st μ 14 c b x) c n 14 c) n = x := by
          have hG : beG (eoM (st μ 14 c b x) c n 14 c) n = x := by
            obtain ⟨u1, u2⟩ := beG_sp (f := eoM (st μ 14 c b x) c n 14 c) (n := n)
            have x4 : ¬ x = 487 := fun q => by rw [q] at e6'; exact absurd e6' (by decide)
            have v := u1 b hb (by rw [eb]; exact x4)
            rw [eb] at v
            rcases u2 with q | ⟨i, hi, -, q⟩
            · rw [q] at v; exfalso; simp only [Int32.le_iff_toInt_le, i200, im1] at v h2; omega
            · by_cases ei : i = b
              · rw [q, ei, eb]
              · have := (hoth i hi ei).2
                rw [← q] at this
                exfalso; simp only [Int32.le_iff_toInt_le, i600] at v e6' this; omega
          unfold beI
          rw [hG, if_pos e6']
        have x1 : ¬ x = -1 := fun q => by rw [q] at h2; exact absurd h2 (by decide)
        refine ⟨⟨hA.s14.eo.s11 (by decide) (by decide), fun i hi => Or.inr (Or.inr ?_), Or.inr ⟨?_, fun i hi => ?_, Or.inr (Or.inr (Or.inl ⟨hn0, ?_, ?_, ?_, fun i hi => ?_⟩))⟩⟩, ?_, fun q => absurd q e1, fun _ q => absurd e3 q, fun _ => ?_, fun _ => ⟨?_, fun i hi => ?_⟩⟩
        · rw [st_k (by decide)]; exact eo_end hi
        · rw [st_same, hbe]; exact x1
        · rw [st_k (by decide)]; exact eo_end hi
        · rw [st_i (by decide), eoM_k (by decide), st_k (by decide)]; exact o3
        · rw [st_same]; exact beI_cong fun i _ => (st_k (by decide)).symm
        · rw [st_i (by decide), eoM_k (by decide), st_k (by decide)]; exact o2
        · rw [st_k (by decide)]
          by_cases ei : i = b
          · rw [ei, eb]; exact e3
          · exact (hoth i hi ei).1
        · rw [st_k (by decide)]; exact eb
        · rw [st_i (by decide), eoM_k (by decide), st_k (by decide)]; exact o2
        · rw [st_same, hbe]
        · rw [st_k (by decide)]; exact eo_end hi
    · rw [if_neg e3]
      have x1 : ¬ x = -1 := fun q => by rw [q] at h2; exact absurd h2 (by decide)
      have eb : eoM (st (st μ 14 c b x) 11 c 7 (nI b)) c n 14 c b = x := by rw [eoM_14 hb, st_k (by decide), st_same, if_pos h2]
      have hoth : ∀ i, i < n → i ≠ b → 300 ≤ eoM (st (st μ 14 c b x) 11 c 7 (nI b)) c n 14 c i ∧ ¬ 600 ≤ eoM (st (st μ 14 c b x) 11 c 7 (nI b)) c n 14 c i := fun i hi hib => by
        rw [eoM_14 hi, st_k (by decide), st_i hib]
        split
        · rename_i q; exact o4 i hi q
        · decide
      refine ⟨⟨(hA.s14.s11 (by decide) (by decide)).eo.s11 (by decide) (by decide), fun i hi => Or.inr (Or.inr ?_), Or.inr ⟨?_, fun i hi => ?_, Or.inr (Or.inr (Or.inr ⟨hn0, ?_, b, hb, ?_, ?_, ?_, fun i hi hib => ?_⟩))⟩⟩, ?_, fun q => absurd q e1, fun _ _ => ⟨st_same, ?_, fun i hi => ?_⟩, fun q => absurd (q.resolve_left e1) e3, fun q => ?_⟩
      · rw [st_k (by decide)]; exact eo_end hi
      · rw [st_same]; exact x1
      · rw [st_k (by decide)]; exact eo_end hi
      · rw [st_i (by decide), eoM_k (by decide), st_i (by decide), st_k (by decide)]; exact o3
      · rw [st_i (by decide), eoM_k (by decide), st_same]
      · rw [st_k (by decide), st_same]; exact eb
      · rw [st_k (by decide), eb]; exact e3
      · rw [st_k (by decide)]; exact hoth i hi hib
      · rw [st_k (by decide)]; exact eb
      · rw [st_i (by decide), eoM_k (by decide), st_same]
      · rw [st_k (by decide)]; exact eo_end hi
      · exfalso; simp only [Int32.le_iff_toInt_le, i300, i600] at q e3; omega
