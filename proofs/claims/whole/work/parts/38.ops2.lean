/-! the operations that change calls: pass, cancel, answer -/
theorem CRn.cong {c n t t' : Nat} {μ ν μ' ν' : Mem} (ht : t ≤ t') (hA : ∀ k i, 11 ≤ k → k < 16 → μ' k c i = μ k c i) (hB : ∀ k, 23 ≤ k → k < 28 → ν' k 0 c = ν k 0 c) (hB2 : ∀ k b, 28 ≤ k → k < 32 → b < 12 → ν' k 0 (12 * c + b) = ν k 0 (12 * c + b)) (h : CRn c n μ ν t) : CRn c n μ' ν' t' := by
  obtain ⟨n', h'⟩ := CR.cong ht hA hB hB2 ⟨n, h⟩
  have e := hA 11 4 (by decide) (by decide)
  rw [h.2.1, h'.2.1] at e
  have := (nI_eq (by have := h'.1; omega) (by have := h.1; omega)).mp e
  subst this
  exact h'
theorem RelX.call1 {n K t c : Nat} {μ ν μ' ν' : Mem} (h : RelX n K t μ ν) (hcr : CR c μ' ν' t) (hH : ∀ d, d < 10 → μ' 3 0 d = ν' 32 0 d) (hA : ∀ k o i, k < 16 → k ≠ 3 → k ≠ 4 → k ≠ 5 → ¬ (11 ≤ k ∧ o = c) → μ' k o i = μ k o i) (hB1 : ∀ k i, 17 ≤ k → k < 23 → ν' k 0 i = ν k 0 i) (hB2 : ∀ k i, 23 ≤ k → k < 28 → i ≠ c → ν' k 0 i = ν k 0 i) (hB3 : ∀ k i, 28 ≤ k → k < 32 → ¬ (12 * c ≤ i ∧ i < 12 * c + 12) → ν' k 0 i = ν k 0 i) (h8 : ν' 16 0 8 = ν 16 0 8) (h1 : ν' 16 0 1 = ν 16 0 1) (hcK : c < K) : RelX n K t μ' ν' := by
  obtain ⟨a1, a2, a3, a4, a5, a6, a7, a8, a9, a10⟩ := h
  refine ⟨a1, a2, by rw [hA _ _ _ (by decide) (by decide) (by decide) (by decide) (by omega)]; exact a3, by rw [h8]; exact a4, by rw [hA _ _ _ (by decide) (by decide) (by decide) (by decide) (by omega)]; exact a5, by rw [h1]; exact a6, hH, fun u hu => (a8 u hu).cong (fun k i _ _ => hA _ _ _ (by omega) (by omega) (by omega) (by omega) (by omega)) (fun k i _ _ => hB1 _ _ (by omega) (by omega)), fun c' hc' => ?_, fun c' hc' hc2 => (a10 c' hc' hc2).cong (fun i => hA _ _ _ (by decide) (by decide) (by decide) (by decide) (by omega)) (fun i => hA _ _ _ (by decide) (by decide) (by decide) (by decide) (by omega)) (hB2 _ _ (by decide) (by decide) (by omega)) (hB2 _ _ (by decide) (by decide) (by omega)) (hB2 _ _ (by decide) (by decide) (by omega))⟩
  by_cases e : c' = c
  · subst e; exact hcr
  · exact (a9 c' hc').cong (Nat.le_refl t) (fun k i _ _ => hA _ _ _ (by omega) (by omega) (by omega) (by omega) (by omega)) (fun k _ _ => hB2 _ _ (by omega) (by omega) e) (fun k b _ _ _ => hB3 _ _ (by omega) (by omega) (by omega))
theorem S_pass {E : EE} {n : Nat} {μ : Mem} (hn : n < 512) (hR : Rel n μ) (x0 : Int32) : STP E yL_pass cL_pass 4 [(0, 9, 12, 13)] (rm 7 1) yX3_pass cX3_pass 5 (rm 5 0) μ [.int x0] (Rel (n + 1)) := by
  have hR1 := hR
  obtain ⟨K, t, h⟩ := hR
  by_cases ok : ¬ x0 < 1 ∧ ¬ 100 < x0
  · have hneg : ¬ x0 < 0 := by
      intro q
      have e : (1 : Int32).toInt = 1 := by decide
      refine ok.1 ?_
      simp only [Int32.lt_iff_toInt_lt, i0, e] at q ⊢
      omega
    have hv : vN x0 100 := vN_of (M := 100) (m := 100) (by decide) hneg ok.2
    obtain ⟨p1, p2⟩ := psM_ok h.KI (by rw [h.tK]; exact h.2.1) (tN x0)
    have hb : RelX n K t μ (st (psM (tN x0) μ) 33 0 0 (psN (tN x0) μ)) := h.cong (fun _ _ _ _ => rfl) (fun k o i _ _ => by rw [st_k (by omega), p2 _ _ _ (by omega) (by omega) (by omega)]) (by rw [st_k (by decide), p2 _ _ _ (by decide) (by decide) (by decide)]) (by rw [st_k (by decide), p2 _ _ _ (by decide) (by decide) (by decide)])
    have hb2 : RelX n K t μ (st (st (psM (tN x0) μ) 33 0 0 (psN (tN x0) μ)) 16 0 0 0) := hb.cong (fun _ _ _ _ => rfl) (fun k o i _ _ => st_k (by omega)) (st_i (by decide)) (st_i (by decide))
    obtain ⟨g1, g2⟩ := hb2.ps hn (tN x0) hv.2
    have e8 : tN (st (st (psM (tN x0) μ) 33 0 0 (psN (tN x0) μ)) 16 0 0 0 16 0 8) ≤ 20 := by rw [hb2.2.2.2.1, tN_nI (by have := h.2.1; omega)]; exact h.2.1
    obtain ⟨-, m2⟩ := mpT_ok hb2.MI e8 (tN x0)
    refine ⟨0, _, _, _, H_pass x0 (C_X2_pass x0 h.vK.1 h.KI) (fun Z q => q.1) (fun _ => ⟨rfl, rfl⟩) (fun q => absurd ok q.2), C_X3_pass x0 (fun q => q.elim ok.1 ok.2) hb.vK.2 hb.MI, ?_, fun _ => ?_, ⟨K, t + tN x0, ?_⟩⟩
    · rw [m2 _ _ _ (by decide) (by decide) (by decide) (by decide) (by decide) (by decide), st_same]
    · rw [m2 _ _ _ (by decide) (by decide) (by decide) (by decide) (by decide) (by decide), st_k (by decide), st_same]
      exact g2
    · exact g1.cong (fun k o i hk => by rw [m2 _ _ _ (by omega) (by omega) (by omega) (by omega) (by omega) (by omega), st_k (by omega), st_k (by omega)]) (fun _ _ _ _ _ => rfl) rfl rfl
  · exact STP.fail (by decide) (H_pass x0 (C_X2_pass x0 h.vK.1 h.KI) (fun Z q => q.1) (fun q => absurd q ok) (fun _ => ⟨rfl, rfl⟩)) (F_X3_pass x0 (by
      rcases Classical.em (x0 < 1) with q | q
      · exact Or.inl q
      · rcases Classical.em (100 < x0) with q2 | q2
        · exact Or.inr q2
        · exact absurd ⟨q, q2⟩ ok)) hR1
theorem S_cancel {E : EE} {n : Nat} {μ : Mem} (hR : Rel n μ) (x0 : Int32) : STP E yL_cancel cL_cancel 4 [(0, 9, 12, 25), (0, 9, 15, 15)] (rm 8 2) yX3_cancel cX3_cancel 3 (rm 3 0) μ [.int x0] (Rel (n + 1)) := by
  have hR1 := hR
  obtain ⟨K, t, h⟩ := hR
  have hex : ∀ Z, ((Z = sIO ∧ ¬ okC μ x0) ∨ (Z = sIS ∧ okC μ x0 ∧ ¬ μ 11 (tN x0) 8 = -1)) → Z = sIO ∨ Z = sIS := fun Z q => q.elim (fun a => Or.inl a.1) (fun a => Or.inr a.1)
  by_cases ok : okC μ x0
  · obtain ⟨e, hc, hc20⟩ := okC_n h.vK.1 ok
    rw [h.tK] at hc
    obtain ⟨nb, hcr⟩ := h.cr hc
    have hn12 := hcr.1
    have hnb : tN (μ 11 (tN x0) 4) = nb := by rw [hcr.2.1, tN_nI (by omega)]
    by_cases hf : μ 11 (tN x0) 8 = -1
    · have g := GC_caM (c := tN x0) (n := nb) (μ := μ)
      have hb : RelX n K t μ (st (caM μ (tN x0) nb) 33 0 0 (nI (eoN μ (tN x0) nb))) := h.cong (fun _ _ _ _ => rfl) (fun k o i _ _ => by rw [st_k (by omega), g.k (by omega) (by omega)]) (by rw [st_k (by decide), g.k (by decide) (by decide)]) (by rw [st_k (by decide), g.k (by decide) (by decide)])
      have hcb : CRn (tN x0) nb μ (st (caM μ (tN x0) nb) 33 0 0 (nI (eoN μ (tN x0) nb))) t := hcr.cong (Nat.le_refl t) (fun _ _ _ _ => rfl) (fun k _ _ => by rw [st_k (by omega), g.k (by omega) (by omega)]) (fun k b _ _ _ => by rw [st_k (by omega), g.k (by omega) (by omega)])
      have h25 : tN (st (caM μ (tN x0) nb) 33 0 0 (nI (eoN μ (tN x0) nb)) 25 0 (tN x0)) = nb := by rw [hcb.2.2.1, tN_nI (by omega)]
      have hM := C_X3_cancel (E := E) (μ := st (caM μ (tN x0) nb) 33 0 0 (nI (eoN μ (tN x0) nb))) (tN x0) hc20 (by rw [hcb.2.2.1]; exact vN_nI hcb.1 (by decide)) (h.isC (by rw [st_k (by decide), g.k (by decide) (by decide)]) ok) (by rw [← hcb.fin.1]; exact hf)
      rw [h25, ← e] at hM
      have hH := C_X2_cancel (E := E) x0 h.vK.1 h.KI
      rw [hnb] at hH
      refine ⟨0, _, _, _, H_cancel x0 hH hex (fun _ => ⟨rfl, rfl⟩) (fun q => q.elim (fun a => absurd ok a.2) (fun a => absurd a.1 (by decide))) (fun q => q.elim (fun a => absurd a.1 (by decide)) (fun a => absurd hf a.2.2)), hM, ?_, fun _ => ?_, ⟨K, t, ?_⟩⟩
      · rw [mcM_k (by decide), st_k (by decide), st_same]
      · rw [mcM_k (by decide), st_k (by decide), st_k (by decide), st_same]
        refine congrArg nI (ctB_cong fun b hb2 => ?_)
        rw [show mf (st (st (st (caM μ (tN x0) nb) 33 0 0 (nI (eoN μ (tN x0) nb))) 16 0 0 0) 23 0 (tN x0) 487) (tN x0) b = st (caM μ (tN x0) nb) 33 0 0 (nI (eoN μ (tN x0) nb)) 30 0 (12 * tN x0 + b) by
          show st (st (st (caM μ (tN x0) nb) 33 0 0 (nI (eoN μ (tN x0) nb))) 16 0 0 0) 23 0 (tN x0) 487 30 0 (12 * tN x0 + b) = _
          rw [st_k (by decide), st_k (by decide)], ← (hcb.2.2.2.1 b hb2).2.2.1]
      · have hc2 := CR_cancel hcb hf
        rw [show tN x0 = tN x0 from rfl] at hc2
        refine hb.up.call1 (c := tN x0) (ν' := _) ⟨nb, hc2.cong (Nat.le_refl t) (fun k i _ _ => by rw [mcM_k (by omega), st_k (by omega), st_k (by omega), st_k (by omega)]) (fun k _ _ => rfl) (fun k b _ _ _ => rfl)⟩ (fun d hd => by rw [mcM_k (by decide), st_k (by decide), st_k (by decide), st_k (by decide), g.k (by decide) (by decide), mcM_k (by decide), st_k (by decide), st_k (by decide)]; exact hb.2.2.2.2.2.2.1 d hd) (fun k o i h1 h2 h3 h4 h5 => ?_) (fun k i _ _ => by rw [mcM_k (by omega), st_k (by omega), st_k (by omega)]) (fun k i _ _ hi => by rw [mcM_k (by omega), st_i hi, st_k (by omega)]) (fun k i _ _ hi => ?_) (by rw [mcM_k (by decide), st_k (by decide), st_i (by decide)]) (by rw [mcM_k (by decide), st_k (by decide), st_i (by decide)]) hc
        · rw [mcM_k (by omega), st_k (by omega), st_k (by omega), st_k (by omega)]
          exact g.1 k o i (fun q => h5 ⟨by omega, q.2⟩) (fun q => h5 ⟨by omega, q.2.1⟩)
        · by_cases hk30 : k = 30
          · subst hk30
            unfold mcM
            rw [up_out (by omega), st_k (by decide), st_k (by decide)]
          · rw [mcM_k hk30, st_k (by omega), st_k (by omega)]
    · have hM := F2_X3_cancel (E := E) (μ := μ) (tN x0) hc20 (h.isC rfl ok) (by rw [← hcr.fin.1]; exact hf)
      rw [← e] at hM
      exact STP.fail (by decide) (H_cancel x0 (C_X2_cancel x0 h.vK.1 h.KI) hex (fun q => absurd q.2 hf) (fun q => q.elim (fun a => absurd ok a.2) (fun a => absurd a.1 (by decide))) (fun _ => ⟨rfl, rfl⟩)) hM hR1
  · exact STP.fail (by decide) (H_cancel x0 (C_X2_cancel x0 h.vK.1 h.KI) hex (fun q => absurd q.1 ok) (fun _ => ⟨rfl, rfl⟩) (fun q => q.elim (fun a => absurd a.1 (by decide)) (fun a => absurd a.2.1 ok))) (F1_X3_cancel x0 (h.notC ok)) hR1
