/-! call: how the branches are found, in both -/
def PC (c n : Nat) (μ ν : Mem) : Prop := n ≤ 12 ∧ μ 11 c 4 = nI n ∧ ν 25 0 c = nI n ∧ (∀ b, b < n → μ 12 c b = ν 28 0 (12 * c + b) ∧ μ 13 c b = ν 29 0 (12 * c + b) ∧ μ 14 c b = ν 30 0 (12 * c + b) ∧ ν 31 0 (12 * c + b) = 0 ∧ (∃ q, q ≤ 10 ∧ μ 13 c b = nI q) ∧ (μ 14 c b = 0 ∨ μ 14 c b = 482 ∨ μ 14 c b = 483)) ∧ CDi c n μ
def PR (c : Nat) (μ ν : Mem) : Prop := (∀ u, u < 6 → RB u μ ν) ∧ μ 0 0 6 = ν 16 0 1 ∧ ∃ n, PC c n μ ν
theorem PC_push {c n Q : Nat} {x y z : Int32} {μ ν : Mem} (h : PC c n μ ν) (hn : n < 12) (hy : y = nI Q) (hQ : Q ≤ 10) (hz : z = 0 ∨ z = 482 ∨ z = 483) (hx : x = -1 ∨ ∀ b, b < n → ¬ μ 12 c b = x) : PC c (n + 1) (addM μ c n x y z) (maS ν c n x y z) := by
  obtain ⟨h1, h2, h3, h4, h5⟩ := h
  have ea : addM μ c n x y z = st (st (st (st μ 12 c n x) 13 c n y) 14 c n z) 11 c 4 (nI (n + 1)) := by unfold addM; rw [if_pos hn]
  rw [ea]
  unfold maS
  have a12 : ∀ b, st (st (st (st μ 12 c n x) 13 c n y) 14 c n z) 11 c 4 (nI (n + 1)) 12 c b = if b = n then x else μ 12 c b := fun b => by
    rw [st_k (by decide), st_k (by decide), st_k (by decide)]
    by_cases e : b = n
    · rw [if_pos e, e, st_same]
    · rw [if_neg e, st_i e]
  refine ⟨by omega, st_same, st_same, fun b hb => ?_, fun b b' hb hb' q1 q2 => ?_⟩
  · rw [a12]
    by_cases e : b = n
    · subst e
      rw [if_pos rfl]
      refine ⟨?_, ?_, ?_, ?_, ⟨Q, hQ, ?_⟩, ?_⟩
      · rw [st_k (by decide), st_k (by decide), st_k (by decide), st_k (by decide), st_same]
      · rw [st_k (by decide), st_k (by decide), st_same, st_k (by decide), st_k (by decide), st_k (by decide), st_same]
      · rw [st_k (by decide), st_same, st_k (by decide), st_k (by decide), st_same]
      · rw [st_k (by decide), st_same]
      · rw [st_k (by decide), st_k (by decide), st_same]; exact hy
      · rw [st_k (by decide), st_same]; exact hz
    · rw [if_neg e]
      obtain ⟨w1, w2, w3, w4, w5, w6⟩ := h4 b (by omega)
      have e2 : 12 * c + b ≠ 12 * c + n := by omega
      refine ⟨?_, ?_, ?_, ?_, ?_, ?_⟩
      · rw [st_k (by decide), st_k (by decide), st_k (by decide), st_k (by decide), st_i e2]; exact w1
      · rw [st_k (by decide), st_k (by decide), st_i e, st_k (by decide), st_k (by decide), st_k (by decide), st_k (by decide), st_i e2, st_k (by decide)]; exact w2
      · rw [st_k (by decide), st_i e, st_k (by decide), st_k (by decide), st_k (by decide), st_k (by decide), st_i e2, st_k (by decide), st_k (by decide)]; exact w3
      · rw [st_k (by decide), st_i e2, st_k (by decide), st_k (by decide), st_k (by decide)]; exact w4
      · rw [st_k (by decide), st_k (by decide), st_i e, st_k (by decide)]; exact w5
      · rw [st_k (by decide), st_i e, st_k (by decide), st_k (by decide)]; exact w6
  · rw [a12] at q2
    rw [a12, a12] at q1
    by_cases e : b = n
    · by_cases e' : b' = n
      · omega
      · rw [if_pos e, if_neg e'] at q1
        rw [if_pos e] at q2
        rcases hx with z | z
        · exact absurd z q2
        · exact absurd q1.symm (z b' (by omega))
    · by_cases e' : b' = n
      · rw [if_neg e, if_pos e'] at q1
        rw [if_neg e] at q2
        rcases hx with z | z
        · exact absurd (q1.trans z) q2
        · exact absurd q1 (z b (by omega))
      · rw [if_neg e, if_neg e'] at q1
        rw [if_neg e] at q2
        exact h5 b b' (by omega) (by omega) q1 q2
theorem RB.fr {u : Nat} {μ ν μ' ν' : Mem} (h : RB u μ ν) (f : FR μ μ') (g : MR ν ν') : RB u μ' ν' := h.cong (fun k i _ _ => f.1 k u i (by omega) (by omega) (by omega) (by omega) (by omega)) (fun k i _ _ => g k 0 i (by omega) (by omega) (by omega) (by omega) (by omega))
theorem PR.fr {c n : Nat} {μ ν μ' ν' : Mem} (h : PR c μ ν) (f : FR μ μ') (g : MR ν ν') (hp : PC c n μ' ν') : PR c μ' ν' := ⟨fun u hu => (h.1 u hu).fr f g, by rw [f.1 0 0 6 (by decide) (by decide) (by decide) (by decide) (by decide), g 16 0 1 (by decide) (by decide) (by decide) (by decide) (by decide)]; exact h.2.1, n, hp⟩
/-- a branch that has ended is added -/
theorem PR_ae {c Q : Nat} {y z : Int32} {μ ν : Mem} (h : PR c μ ν) (hy : y = nI Q) (hQ : Q ≤ 10) (hz : z = 482 ∨ z = 483) : PR c (aeM μ c y z) (maM ν c (-1) y z) ∧ ∀ i, aeM μ c y z 4 0 i = μ 4 0 i := by
  have h9 := h
  obtain ⟨-, -, n, hp⟩ := h
  have hp1 := hp
  obtain ⟨h1, h2, h3, -, -⟩ := hp
  have hv : vN (μ 11 c 4) 12 := by rw [h2]; exact vN_nI h1 (by decide)
  have f := (aeM_FC (c := c) (y := y) (z := z) hv).1
  have g := (maM_MC (μ := ν) (c := c) (x := -1) (q := y) (z := z)).1
  have hw : ∀ i, aeM μ c y z 4 0 i = μ 4 0 i := fun i => by
    unfold aeM addM
    split
    · rw [st_k (by decide), st_k (by decide), st_k (by decide), st_k (by decide)]
    · rfl
  refine ⟨?_, hw⟩
  have et : tN (μ 11 c 4) = n := by rw [h2, tN_nI (by omega)]
  have et2 : tN (ν 25 0 c) = n := by rw [h3, tN_nI (by omega)]
  by_cases hn : n < 12
  · refine h9.fr f g (n := n + 1) ?_
    have ea : aeM μ c y z = addM μ c n (-1) y z := by unfold aeM; rw [et]
    have em : maM ν c (-1) y z = maS ν c n (-1) y z := by unfold maM; rw [et2, if_pos ⟨hn, Or.inl rfl⟩]
    rw [ea, em]
    exact PC_push hp1 hn hy hQ (Or.inr hz) (Or.inl rfl)
  · refine h9.fr f g (n := n) ?_
    have ea : aeM μ c y z = μ := by unfold aeM addM; rw [et, if_neg hn]
    have em : maM ν c (-1) y z = ν := by unfold maM; rw [et2, if_neg (fun q => hn q.1)]
    rw [ea, em]
    exact hp1
/-- a branch of a device is added, if there is none -/
theorem PR_ad {c Q : Nat} {x y : Int32} {μ ν : Mem} (h : PR c μ ν) (hy : y = nI Q) (hQ : Q ≤ 10) (hx : ¬ x = -1) : PR c (adM μ c x y) (maM ν c x y 0) ∧ ∀ i, adM μ c x y 4 0 i = μ 4 0 i := by
  have h9 := h
  obtain ⟨-, -, n, hp⟩ := h
  have hp1 := hp
  obtain ⟨h1, h2, h3, h4, -⟩ := hp
  have hv : vN (μ 11 c 4) 12 := by rw [h2]; exact vN_nI h1 (by decide)
  have f := (adM_FC (c := c) (x := x) (y := y) hv).1
  have g := (maM_MC (μ := ν) (c := c) (x := x) (q := y) (z := 0)).1
  have hw : ∀ i, adM μ c x y 4 0 i = μ 4 0 i := fun i => by
    unfold adM addM
    split
    · split
      · rw [st_k (by decide), st_k (by decide), st_k (by decide), st_k (by decide)]
      · rfl
    · rfl
  refine ⟨?_, hw⟩
  have et : tN (μ 11 c 4) = n := by rw [h2, tN_nI (by omega)]
  have et2 : tN (ν 25 0 c) = n := by rw [h3, tN_nI (by omega)]
  have efun : anB (mhB ν c x) n = anB (fun b => decide (μ 12 c b = x)) n := anB_cong fun b hb => by
    unfold mhB
    rw [(h4 b hb).1]
  by_cases hd : anB (fun b => decide (μ 12 c b = x)) n = true
  · refine h9.fr f g (n := n) ?_
    obtain ⟨i, hi, hi2⟩ := anB_ex hd
    have hfs := fs_ex (p := fun b => decide (μ 12 c b = x)) hi hi2
    have ea : adM μ c x y = μ := by
      unfold adM
      rw [et, if_neg]
      unfold frI
      rw [if_pos hfs]
      exact nI_ne1 (by omega)
    have em : maM ν c x y 0 = ν := by
      unfold maM
      rw [et2, if_neg]
      rintro ⟨-, q | q⟩
      · exact hx q
      · rw [efun] at q; exact q hd
    rw [ea, em]
    exact hp1
  · have hno : ∀ b, b < n → ¬ μ 12 c b = x := fun b hb q => hd (anB_of (i := b) (decide_eq_true q) hb)
    have efr : frI (fun b => decide (μ 12 c b = x)) n = -1 := frI_no fun i hi => decide_eq_false (hno i hi)
    by_cases hn : n < 12
    · refine h9.fr f g (n := n + 1) ?_
      have ea : adM μ c x y = addM μ c n x y 0 := by unfold adM; rw [et, if_pos efr]
      have em : maM ν c x y 0 = maS ν c n x y 0 := by unfold maM; rw [et2, if_pos ⟨hn, Or.inr (by rw [efun]; exact hd)⟩]
      rw [ea, em]
      exact PC_push hp1 hn hy hQ (Or.inl rfl) (Or.inr hno)
    · refine h9.fr f g (n := n) ?_
      have ea : adM μ c x y = μ := by unfold adM addM; rw [et, if_pos efr, if_neg hn]
      have em : maM ν c x y 0 = ν := by unfold maM; rw [et2, if_neg (fun q => hn q.1)]
      rw [ea, em]
      exact hp1
