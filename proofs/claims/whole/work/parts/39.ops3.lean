/-! answer -/
theorem mlI_sp {ν : Mem} {c : Nat} {x : Int32} : ∀ n, (mlI ν c x n = -1 ∧ ∀ b, b < n → ¬ ν 28 0 (12 * c + b) = x) ∨ ∃ b, b < n ∧ mlI ν c x n = nI b ∧ ν 28 0 (12 * c + b) = x
  | 0 => Or.inl ⟨rfl, fun b hb => absurd hb (Nat.not_lt_zero b)⟩
  | n + 1 => by
    by_cases e : ν 28 0 (12 * c + n) = x
    · exact Or.inr ⟨n, by omega, mlI_a e, e⟩
    · rcases mlI_sp (ν := ν) (c := c) (x := x) n with ⟨a, b⟩ | ⟨b, hb, h1, h2⟩
      · refine Or.inl ⟨by rw [mlI_b e]; exact a, fun i hi => ?_⟩
        by_cases q : i = n
        · subst q; exact e
        · exact b i (by omega)
      · exact Or.inr ⟨b, by omega, by rw [mlI_b e]; exact h1, h2⟩
/-- the branch of a device, in both -/
theorem dev_eq {c n t : Nat} {x : Int32} {μ ν : Mem} (h : CRn c n μ ν t) (hx : ¬ x = -1) : (frI (fun b => decide (μ 12 c b = x)) n = -1 ∧ mlI ν c x n = -1) ∨ (¬ frI (fun b => decide (μ 12 c b = x)) n = -1 ∧ fsB (fun b => decide (μ 12 c b = x)) n < n ∧ mlI ν c x n = nI (fsB (fun b => decide (μ 12 c b = x)) n)) := by
  obtain ⟨hn12, -, -, hw, hd, -⟩ := h
  rcases mlI_sp (ν := ν) (c := c) (x := x) n with ⟨a, b⟩ | ⟨b, hb, h1, h2⟩
  · refine Or.inl ⟨frI_no fun i hi => decide_eq_false ?_, a⟩
    rw [(hw i hi).1]
    exact b i hi
  · have hlt : fsB (fun b => decide (μ 12 c b = x)) n < n := by
      rcases Nat.lt_or_ge (fsB (fun b => decide (μ 12 c b = x)) n) n with q | q
      · exact q
      · exfalso
        have hall : ∀ i, i < n → decide (μ 12 c i = x) = false := by
          intro i hi
          cases z : decide (μ 12 c i = x)
          · rfl
          · exfalso
            have z2 : anB (fun b => decide (μ 12 c b = x)) n = true := anB_of (i := i) z hi
            clear h1 h2 hb
            obtain ⟨j, hj, z3, z4⟩ : ∃ j, j < n ∧ decide (μ 12 c j = x) = true ∧ ∀ k, k < j → decide (μ 12 c k = x) = false := by
              clear q
              induction i using Nat.strongRecOn with
              | ind i ih =>
                by_cases hk : ∃ k, k < i ∧ decide (μ 12 c k = x) = true
                · obtain ⟨k, k1, k2⟩ := hk
                  exact ih k k1 (by omega) k2
                · refine ⟨i, hi, z, fun k k1 => ?_⟩
                  cases w : decide (μ 12 c k = x)
                  · rfl
                  · exact absurd ⟨k, k1, w⟩ hk
            have := fsB_at (p := fun b => decide (μ 12 c b = x)) z3 z4 hj
            omega
        have := hall b hb
        rw [decide_eq_true (by rw [(hw b hb).1]; exact h2)] at this
        cases this
    have hat := (fsB_spec hlt).1
    have hat2 : μ 12 c (fsB (fun b => decide (μ 12 c b = x)) n) = x := of_decide_eq_true hat
    have e : fsB (fun b => decide (μ 12 c b = x)) n = b := hd _ _ hlt hb (by rw [hat2, (hw b hb).1, h2]) (by rw [hat2]; exact hx)
    refine Or.inr ⟨?_, hlt, by rw [e]; exact h1⟩
    unfold frI
    rw [if_pos hlt]
    exact nI_ne1 (by omega)
theorem CRn.started {c n t : Nat} {μ ν : Mem} (h : CRn c n μ ν t) {b : Nat} (hb : b < n) : μ 11 c 5 ≤ μ 13 c b ↔ ν 26 0 c ≤ ν 29 0 (12 * c + b) := by
  obtain ⟨-, -, -, hw, -, -, -, hx⟩ := h
  rcases hx with ⟨⟨-, -, -, -, -, o6, -⟩, -⟩ | ⟨-, -, -, o4, -⟩
  · rw [o6, (hw b hb).2.1]
  · exact (o4 b hb).2
theorem CRn.cond {c n t : Nat} {μ ν : Mem} (h : CRn c n μ ν t) {b : Nat} (hb : b < n) (cd : Int32) : (μ 11 c 5 ≤ μ 13 c b ∧ (¬ 200 ≤ μ 14 c b ∨ ((¬ cd < 200 ∧ ¬ 300 ≤ cd) ∧ (μ 14 c b = 487 ∨ μ 14 c b = 408) ∧ μ 15 c b = 0))) ↔ (ν 26 0 c ≤ ν 29 0 (12 * c + b) ∧ (¬ 200 ≤ ν 30 0 (12 * c + b) ∨ ((ν 30 0 (12 * c + b) = 487 ∨ ν 30 0 (12 * c + b) = 408) ∧ (¬ cd < 200 ∧ ¬ 299 < cd) ∧ ν 31 0 (12 * c + b) = 0))) := by
  have hs := h.started hb
  obtain ⟨-, -, -, hw, -⟩ := h
  obtain ⟨-, -, w3, w4, -⟩ := hw b hb
  rw [← w3, ← w4, hs, lt_299]
  constructor
  · rintro ⟨a, b | ⟨b, d, e⟩⟩
    · exact ⟨a, Or.inl b⟩
    · exact ⟨a, Or.inr ⟨d, b, e⟩⟩
  · rintro ⟨a, b | ⟨d, b, e⟩⟩
    · exact ⟨a, Or.inl b⟩
    · exact ⟨a, Or.inr ⟨b, d, e⟩⟩
theorem MG_mtM {c n b : Nat} {x : Int32} {ν : Mem} (hn : n ≤ 12) (e : ν 25 0 c = nI n) (hQ : QW ν c n) (hb : b < n) (hx : 0 ≤ x) : MG c ν (mtM ν c n b x) := by
  unfold mtM
  split
  · exact (((MG_st30 (by omega)).trans (MG_up hn)).trans MG_st24).trans MG_st23
  · split
    · exact MG_st30 (by omega)
    · have e2 : tN (st ν 30 0 (12 * c + b) x 25 0 c) = n := by rw [st_k (by decide), e, tN_nI (by omega)]
      refine (MG_st30 (b := b) (x := x) (by omega)).trans (mGo_ok ?_ ?_).2
      · rw [st_k (by decide), e]; exact vN_nI hn (by decide)
      · rw [e2]; exact QW_st hQ hx
theorem S_answer {E : EE} {n : Nat} {μ : Mem} (hR : Rel n μ) (x0 dv cd : Int32) : STP E yL_answer cL_answer 6 [(0, 12, 15, 25), (0, 12, 19, 13), (0, 12, 23, 15)] (rm 8 2) yX3_answer cX3_answer 7 (rm 5 0) μ [.int x0, .int dv, .int cd] (Rel (n + 1)) := by
  have hR1 := hR
  obtain ⟨K, t, h⟩ := hR
  have hex : ∀ Z, ((Z = sIO ∧ ¬ okC μ x0) ∨ (Z = sIA ∧ okC μ x0 ∧ ¬ anOk dv cd) ∨ (Z = sIS ∧ okC μ x0 ∧ anOk dv cd ∧ ¬ anOk2 μ (tN x0) dv cd)) → Z = sIO ∨ Z = sIA ∨ Z = sIS := fun Z q => q.elim (fun a => Or.inl a.1) (fun q => q.elim (fun a => Or.inr (Or.inl a.1)) (fun a => Or.inr (Or.inr a.1)))
  have hH := C_X2_answer (E := E) x0 dv cd h.vK.1 h.KI
  rcases Classical.em (¬ okC μ x0) with ok | ok0
  · exact STP.fail (by decide) (H_answer x0 dv cd hH hex (fun q => absurd q.1 ok) (fun _ => ⟨rfl, rfl⟩) (fun q => q.elim (fun a => absurd a.1 (by decide)) (fun q => q.elim (fun a => absurd a.2.1 ok) (fun a => absurd a.1 (by decide)))) (fun q => q.elim (fun a => absurd a.1 (by decide)) (fun q => q.elim (fun a => absurd a.1 (by decide)) (fun a => absurd a.2.1 ok)))) (F1_X3_answer x0 dv cd (h.notC ok)) hR1
  have ok := Classical.not_not.mp ok0
  obtain ⟨e, hc, hc20⟩ := okC_n h.vK.1 ok
  rw [h.tK] at hc
  obtain ⟨nb, hcr⟩ := h.cr hc
  have hn12 := hcr.1
  have hnb : tN (μ 11 (tN x0) 4) = nb := by rw [hcr.2.1, tN_nI (by omega)]
  rcases Classical.em (¬ anOk dv cd) with oa | oa0
  · have hM := F2_X3_answer (E := E) (μ := μ) (tN x0) dv cd hc20 (h.isC rfl ok) oa
    rw [← e] at hM
    exact STP.fail (by decide) (H_answer x0 dv cd hH hex (fun q => absurd q.2.1 oa) (fun q => q.elim (fun a => absurd ok a.2) (fun q => q.elim (fun a => absurd a.1 (by decide)) (fun a => absurd a.1 (by decide)))) (fun _ => ⟨rfl, rfl⟩) (fun q => q.elim (fun a => absurd a.1 (by decide)) (fun q => q.elim (fun a => absurd a.1 (by decide)) (fun a => absurd a.2.2.1 oa)))) hM hR1
  have oa := Classical.not_not.mp oa0
  have hdv := outP_n (M := 9) (m := 9) (by decide) oa.1
  have hdv1 : ¬ dv = -1 := fun q => oa.1 (Or.inl (by rw [q]; decide))
  have hcd : cd = 180 ∨ 200 ≤ cd := by
    rcases Classical.em (cd = 180) with q | q
    · exact Or.inl q
    · refine Or.inr ?_
      rcases Int32.lt_or_le cd 200 with z | z
      · exact absurd ⟨q, Or.inl z⟩ oa.2
      · exact z
  have hcdv : vN cd 699 := by
    refine vN_of (M := 699) (m := 699) (by decide) (fun q => ?_) (fun q => ?_)
    · refine oa.2 ⟨fun z => ?_, Or.inl ?_⟩
      · rw [z] at q; exact absurd q (by decide)
      · simp only [Int32.lt_iff_toInt_lt, i200, i0] at q ⊢; omega
    · refine oa.2 ⟨fun z => ?_, Or.inr q⟩
      rw [z] at q; exact absurd q (by decide)
  have hfail : ∀ hno : ¬ anOk2 μ (tN x0) dv cd, MH E yL_answer cL_answer 6 [(0, 12, 15, 25), (0, 12, 19, 13), (0, 12, 23, 15)] (rm 8 2) (.ref (ad E 0 0) :: ([.int x0, .int dv, .int cd] ++ [.ref (ad E 33 0)])) μ (some (.int 3)) μ := fun hno => H_answer x0 dv cd hH hex (fun q => absurd q.2.2 hno) (fun q => q.elim (fun a => absurd ok a.2) (fun q => q.elim (fun a => absurd a.1 (by decide)) (fun a => absurd a.1 (by decide)))) (fun q => q.elim (fun a => absurd a.1 (by decide)) (fun q => q.elim (fun a => absurd oa a.2.2) (fun a => absurd a.1 (by decide)))) (fun _ => ⟨rfl, rfl⟩)
  have h25 : tN (μ 25 0 (tN x0)) = nb := by rw [hcr.2.2.1, tN_nI (by omega)]
  have hv25 : vN (μ 25 0 (tN x0)) 12 := by rw [hcr.2.2.1]; exact vN_nI hn12 (by decide)
  rcases dev_eq hcr hdv1 with ⟨d1, d2⟩ | ⟨d1, d2, d3⟩
  · have hM := F4_X3_answer (E := E) (μ := μ) (tN x0) dv cd hc20 hv25 (by rw [h25]; exact d2) (h.isC rfl ok) oa
    rw [← e] at hM
    refine STP.fail (by decide) (hfail (fun q => q.1 ?_)) hM hR1
    rw [hnb]; exact d1
  have hbr : anBr μ (tN x0) dv = fsB (fun b => decide (μ 12 (tN x0) b = dv)) nb := by unfold anBr; rw [hnb]
  generalize hb0 : fsB (fun b => decide (μ 12 (tN x0) b = dv)) nb = b at d2 d3 hbr
  rcases Classical.em (¬ (μ 11 (tN x0) 5 ≤ μ 13 (tN x0) b ∧ (¬ 200 ≤ μ 14 (tN x0) b ∨ ((¬ cd < 200 ∧ ¬ 300 ≤ cd) ∧ (μ 14 (tN x0) b = 487 ∨ μ 14 (tN x0) b = 408) ∧ μ 15 (tN x0) b = 0)))) with op | op0
  · have hM := F3_X3_answer (E := E) (μ := μ) (tN x0) b dv cd hc20 hv25 (by rw [h25]; exact d2) (by rw [h25]; exact d3) (h.isC rfl ok) oa (fun q => op ((hcr.cond d2 cd).mpr q))
    rw [← e] at hM
    refine STP.fail (by decide) (hfail (fun q => op ?_)) hM hR1
    have q2 := q.2
    rw [hbr] at q2
    exact q2
  have op := Classical.not_not.mp op0
  have oall : okC μ x0 ∧ anOk dv cd ∧ anOk2 μ (tN x0) dv cd := ⟨ok, oa, by
    unfold anOk2
    rw [hbr, hnb]
    exact ⟨d1, op⟩⟩
  have hsucc : MH E yL_answer cL_answer 6 [(0, 12, 15, 25), (0, 12, 19, 13), (0, 12, 23, 15)] (rm 8 2) (.ref (ad E 0 0) :: ([.int x0, .int dv, .int cd] ++ [.ref (ad E 33 0)])) μ (some (.int 0)) (st (anM μ (tN x0) dv cd) 33 0 0 (anM μ (tN x0) dv cd 11 (tN x0) 8)) := H_answer x0 dv cd hH hex (fun _ => ⟨rfl, rfl⟩) (fun q => q.elim (fun a => absurd ok a.2) (fun q => q.elim (fun a => absurd a.1 (by decide)) (fun a => absurd a.1 (by decide)))) (fun q => q.elim (fun a => absurd a.1 (by decide)) (fun q => q.elim (fun a => absurd oa a.2.2) (fun a => absurd a.1 (by decide)))) (fun q => q.elim (fun a => absurd a.1 (by decide)) (fun q => q.elim (fun a => absurd a.1 (by decide)) (fun a => absurd oall.2.2 a.2.2.2)))
  obtain ⟨s, hs11, es⟩ := hcr.2.2.2.2.2.1
  have hts : tN (μ 11 (tN x0) 5) = s := by rw [es, tN_nI (by omega)]
  by_cases he : 200 ≤ μ 14 (tN x0) b
  · have ea : anM μ (tN x0) dv cd = st (st μ 15 (tN x0) b 1) 3 0 (tN dv) (μ 3 0 (tN dv) + 1) := by
      unfold anM
      rw [hbr, if_pos he]
    rw [ea] at hsucc
    have ev : st (st μ 15 (tN x0) b 1) 3 0 (tN dv) (μ 3 0 (tN dv) + 1) 11 (tN x0) 8 = μ 11 (tN x0) 8 := by rw [st_k (by decide), st_k (by decide)]
    rw [ev] at hsucc
    have fk : ∀ k o i, 16 ≤ k → k ≠ 33 → st (st (st μ 15 (tN x0) b 1) 3 0 (tN dv) (μ 3 0 (tN dv) + 1)) 33 0 0 (μ 11 (tN x0) 8) k o i = μ k o i := fun k o i a b => by rw [st_k b, st_k (by omega), st_k (by omega)]
    have lowA : ∀ k i, 11 ≤ k → k < 16 → st (st (st μ 15 (tN x0) b 1) 3 0 (tN dv) (μ 3 0 (tN dv) + 1)) 33 0 0 (μ 11 (tN x0) 8) k (tN x0) i = st μ 15 (tN x0) b 1 k (tN x0) i := fun k i a b => by rw [st_k (by omega), st_k (by omega)]
    have lowB : ∀ k o i, k < 16 → k ≠ 3 → ¬ (11 ≤ k ∧ o = tN x0) → st (st (st μ 15 (tN x0) b 1) 3 0 (tN dv) (μ 3 0 (tN dv) + 1)) 33 0 0 (μ 11 (tN x0) 8) k o i = μ k o i := fun k o i a b d => by rw [st_k (by omega), st_k b]; exact if_neg (fun q => d ⟨by omega, q.2.1⟩)
    have low3 : ∀ d, st (st (st μ 15 (tN x0) b 1) 3 0 (tN dv) (μ 3 0 (tN dv) + 1)) 33 0 0 (μ 11 (tN x0) 8) 3 0 d = if d = tN dv then μ 3 0 d + 1 else μ 3 0 d := fun d => by
      rw [st_k (by decide)]
      by_cases q : d = tN dv
      · rw [if_pos q, q, st_same]
      · rw [if_neg q, st_i q, st_k (by decide)]
    have out1 : st (st (st μ 15 (tN x0) b 1) 3 0 (tN dv) (μ 3 0 (tN dv) + 1)) 33 0 0 (μ 11 (tN x0) 8) 33 0 0 = μ 11 (tN x0) 8 := st_same
    generalize hν1 : st (st (st μ 15 (tN x0) b 1) 3 0 (tN dv) (μ 3 0 (tN dv) + 1)) 33 0 0 (μ 11 (tN x0) 8) = ν1 at fk lowA lowB low3 out1 hsucc
    have hcb : CRn (tN x0) nb μ ν1 t := hcr.cong (Nat.le_refl t) (fun _ _ _ _ => rfl) (fun k _ _ => fk _ _ _ (by omega) (by omega)) (fun k b _ _ _ => fk _ _ _ (by omega) (by omega))
    have hM := H_X3_answer (E := E) (μ := ν1) (tN x0) b dv cd hc20 (by rw [hcb.2.2.1]; exact vN_nI hn12 (by decide)) (by rw [hcb.2.2.1, tN_nI (by omega)]; exact d2) (by
      rw [hcb.2.2.1, tN_nI (by omega)]
      rcases dev_eq hcb hdv1 with ⟨q1, -⟩ | ⟨-, -, q3⟩
      · exact absurd q1 d1
      · rw [q3, hb0]) (h.isC (fk _ _ _ (by decide) (by decide)) ok) oa (tN dv) hdv.1 (by have := hdv.2; omega) ((hcb.cond d2 cd).mp op) (by rw [← (hcb.2.2.2.1 b d2).2.2.1]; exact he)
    rw [← e] at hM
    have e5 : CRn (tN x0) nb (st μ 15 (tN x0) b 1) (st ν1 31 0 (12 * tN x0 + b) 1) t := CR_hung hcb
    have up2 : ∀ k o i, k ≠ 16 → k ≠ 31 → k ≠ 32 → st (st (st ν1 16 0 0 0) 31 0 (12 * tN x0 + b) 1) 32 0 (tN dv) (ν1 32 0 (tN dv) + 1) k o i = ν1 k o i := fun k o i a b d => by rw [st_k d, st_k b, st_k a]
    have up31 : ∀ i, st (st (st ν1 16 0 0 0) 31 0 (12 * tN x0 + b) 1) 32 0 (tN dv) (ν1 32 0 (tN dv) + 1) 31 0 i = st ν1 31 0 (12 * tN x0 + b) 1 31 0 i := fun i => by
      rw [st_k (by decide)]
      by_cases q : i = 12 * tN x0 + b
      · rw [q, st_same, st_same]
      · rw [st_i q, st_i q, st_k (by decide)]
    have up32 : ∀ d, st (st (st ν1 16 0 0 0) 31 0 (12 * tN x0 + b) 1) 32 0 (tN dv) (ν1 32 0 (tN dv) + 1) 32 0 d = if d = tN dv then ν1 32 0 d + 1 else ν1 32 0 d := fun d => by
      by_cases q : d = tN dv
      · rw [if_pos q, q, st_same]
      · rw [if_neg q, st_i q, st_k (by decide), st_k (by decide)]
    have up16 : ∀ i, i ≠ 0 → st (st (st ν1 16 0 0 0) 31 0 (12 * tN x0 + b) 1) 32 0 (tN dv) (ν1 32 0 (tN dv) + 1) 16 0 i = ν1 16 0 i := fun i hi => by rw [st_k (by decide), st_k (by decide), st_i hi]
    have up160 : st (st (st ν1 16 0 0 0) 31 0 (12 * tN x0 + b) 1) 32 0 (tN dv) (ν1 32 0 (tN dv) + 1) 16 0 0 = 0 := by rw [st_k (by decide), st_k (by decide), st_same]
    generalize hμ2 : st (st (st ν1 16 0 0 0) 31 0 (12 * tN x0 + b) 1) 32 0 (tN dv) (ν1 32 0 (tN dv) + 1) = μ2 at hM up2 up31 up32 up16 up160
    refine ⟨0, _, _, _, hsucc, hM, up160, fun _ => ?_, ⟨K, t, ?_⟩⟩
    · rw [up2 _ _ _ (by decide) (by decide) (by decide), out1, up2 _ _ _ (by decide) (by decide) (by decide), fk _ _ _ (by decide) (by decide)]
      exact hcr.fin.1
    · refine h.up.call1 (c := tN x0) ⟨nb, e5.cong (Nat.le_refl t) (fun k i _ _ => by rw [up2 _ _ _ (by omega) (by omega) (by omega), lowA _ _ (by omega) (by omega)]) (fun k _ _ => by rw [up2 _ _ _ (by omega) (by omega) (by omega), st_k (by omega)]) (fun k i _ _ _ => ?_)⟩ (fun d hd => ?_) (fun k o i h1 h2 h3 h4 h5 => ?_) (fun k i _ _ => ?_) (fun k i _ _ _ => ?_) (fun k i _ _ hi => ?_) ?_ ?_ hc
      · by_cases q : k = 31
        · rw [q, up31]
        · rw [up2 _ _ _ (by omega) q (by omega), st_k q]
      · rw [up2 _ _ _ (by decide) (by decide) (by decide), low3, up32, fk _ _ _ (by decide) (by decide), h.2.2.2.2.2.2.1 d hd]
      · rw [up2 _ _ _ (by omega) (by omega) (by omega), lowB _ _ _ h1 h2 h5]
      · rw [up2 _ _ _ (by omega) (by omega) (by omega), fk _ _ _ (by omega) (by omega)]
      · rw [up2 _ _ _ (by omega) (by omega) (by omega), fk _ _ _ (by omega) (by omega)]
      · by_cases q : k = 31
        · rw [q, up31, st_i (by omega), fk _ _ _ (by decide) (by decide)]
        · rw [up2 _ _ _ (by omega) q (by omega), fk _ _ _ (by omega) (by omega)]
      · rw [up16 _ (by decide), fk _ _ _ (by decide) (by decide)]
      · rw [up16 _ (by decide), fk _ _ _ (by decide) (by decide)]
  · have ea : anM μ (tN x0) dv cd = taM μ (tN x0) nb s b cd (nI t) := by
      unfold anM
      rw [hbr, if_neg he, hnb, hts, h.2.2.2.2.1]
    rw [ea] at hsucc
    have g := GC_taM (c := tN x0) (n := nb) (s := s) (b := b) (μ := μ) (x := cd) (now := nI t) hs11
    generalize hv9 : taM μ (tN x0) nb s b cd (nI t) 11 (tN x0) 8 = v at hsucc
    have fk : ∀ k o i, 16 ≤ k → k ≠ 33 → st (taM μ (tN x0) nb s b cd (nI t)) 33 0 0 v k o i = μ k o i := fun k o i a b => by rw [st_k b, g.k (by omega) (by omega)]
    have fk2 : ∀ k o i, 16 < k → k ≠ 33 → st (st (taM μ (tN x0) nb s b cd (nI t)) 33 0 0 v) 16 0 0 0 k o i = μ k o i := fun k o i a b => by rw [st_k (by omega), fk _ _ _ (by omega) b]
    have hcb : CRn (tN x0) nb μ (st (taM μ (tN x0) nb s b cd (nI t)) 33 0 0 v) t := hcr.cong (Nat.le_refl t) (fun _ _ _ _ => rfl) (fun k _ _ => fk _ _ _ (by omega) (by omega)) (fun k b _ _ _ => fk _ _ _ (by omega) (by omega))
    have hcb2 : CRn (tN x0) nb μ (st (st (taM μ (tN x0) nb s b cd (nI t)) 33 0 0 v) 16 0 0 0) t := hcr.cong (Nat.le_refl t) (fun _ _ _ _ => rfl) (fun k _ _ => fk2 _ _ _ (by omega) (by omega)) (fun k b _ _ _ => fk2 _ _ _ (by omega) (by omega))
    have h25b : tN (st (st (taM μ (tN x0) nb s b cd (nI t)) 33 0 0 v) 16 0 0 0 25 0 (tN x0)) = nb := by rw [hcb2.2.2.1, tN_nI (by omega)]
    have hcd0 : 0 ≤ cd := by rw [hcdv.1]; exact nI_pos' (by have := hcdv.2; omega)
    have hM := C_X3_answer (E := E) (μ := st (taM μ (tN x0) nb s b cd (nI t)) 33 0 0 v) (tN x0) b dv cd hc20 (by rw [hcb.2.2.1]; exact vN_nI hn12 (by decide)) (by rw [hcb.2.2.1, tN_nI (by omega)]; exact d2) (by
      rw [hcb.2.2.1, tN_nI (by omega)]
      rcases dev_eq hcb hdv1 with ⟨q1, -⟩ | ⟨-, -, q3⟩
      · exact absurd q1 d1
      · rw [q3, hb0]) (h.isC (fk _ _ _ (by decide) (by decide)) ok) oa ((hcb.cond d2 cd).mp op) (by rw [← (hcb.2.2.2.1 b d2).2.2.1]; exact he) (by rw [h25b]; exact hcb2.QW) hcd0
    rw [h25b, ← e] at hM
    have hcA := CR_ans hcb2 d2 op.1 he hs11 es hcdv.1 hcdv.2 hcd (now := nI t) rfl (by rw [st_i (by decide), fk _ _ _ (by decide) (by decide)]; exact h.2.2.2.2.2.1)
    have gm := MG_mtM (b := b) (x := cd) hn12 hcb2.2.2.1 hcb2.QW d2 hcd0
    generalize hμ2 : mtM (st (st (taM μ (tN x0) nb s b cd (nI t)) 33 0 0 v) 16 0 0 0) (tN x0) nb b cd = μ2 at hM hcA gm
    refine ⟨0, _, _, _, hsucc, hM, ?_, fun _ => ?_, ⟨K, t, ?_⟩⟩
    · rw [gm.k (by decide) (by decide) (by decide) (by decide) (by decide), st_same]
    · rw [gm.k (by decide) (by decide) (by decide) (by decide) (by decide), st_k (by decide), st_same, ← hv9]
      exact hcA.fin.1
    · have lowk : ∀ k o i, k < 16 → μ2 k o i = taM μ (tN x0) nb s b cd (nI t) k o i := fun k o i hk => by rw [gm.k (by omega) (by omega) (by omega) (by omega) (by omega), st_k (by omega), st_k (by omega)]
      refine h.up.call1 (c := tN x0) ⟨nb, hcA.cong (Nat.le_refl t) (fun k i _ _ => lowk k _ i (by omega)) (fun _ _ _ => rfl) (fun _ _ _ _ _ => rfl)⟩ (fun d hd => ?_) (fun k o i h1 h2 h3 h4 h5 => ?_) (fun k i _ _ => ?_) (fun k i _ _ hi => ?_) (fun k i _ _ hi => ?_) ?_ ?_ hc
      · rw [lowk _ _ _ (by decide), g.k (by decide) (by decide), gm.k (by decide) (by decide) (by decide) (by decide) (by decide), fk2 _ _ _ (by decide) (by decide)]
        exact h.2.2.2.2.2.2.1 d hd
      · rw [lowk _ _ _ h1]
        exact g.1 k o i (fun q => h5 ⟨by omega, q.2⟩) (fun q => h5 ⟨by omega, q.2.1⟩)
      · rw [gm.k (by omega) (by omega) (by omega) (by omega) (by omega), fk2 _ _ _ (by omega) (by omega)]
      · rw [gm k 0 i (fun q => hi q.2) (fun q => hi q.2) (fun q => hi q.2) (fun q => hi q.2) (fun q => by omega), fk2 _ _ _ (by omega) (by omega)]
      · rw [gm k 0 i (fun q => by omega) (fun q => by omega) (fun q => by omega) (fun q => by omega) (fun q => hi q.2), fk2 _ _ _ (by omega) (by omega)]
      · rw [gm.k (by decide) (by decide) (by decide) (by decide) (by decide), st_i (by decide), fk _ _ _ (by decide) (by decide)]
      · rw [gm.k (by decide) (by decide) (by decide) (by decide) (by decide), st_i (by decide), fk _ _ _ (by decide) (by decide)]
