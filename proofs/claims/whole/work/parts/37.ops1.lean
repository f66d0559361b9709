/-! the operations, one by one: the questions -/
theorem RelX.cr {n K t c : Nat} {μ ν : Mem} (h : RelX n K t μ ν) (hc : c < K) : CR c μ ν t := h.2.2.2.2.2.2.2.2.1 c hc
theorem RelX.tK {n K t : Nat} {μ ν : Mem} (h : RelX n K t μ ν) : tN (μ 0 0 5) = K := by rw [h.2.2.1, tN_nI (by have := h.2.1; omega)]
theorem RelX.e8 {n K t : Nat} {μ ν : Mem} (h : RelX n K t μ ν) : ν 16 0 8 = μ 0 0 5 := by rw [h.2.2.1, h.2.2.2.1]
theorem RelX.notC {n K t : Nat} {μ : Mem} {x : Int32} (h : RelX n K t μ μ) (hx : ¬ okC μ x) : x < 0 ∨ μ 16 0 8 - 1 < x := by
  rw [h.e8]
  exact Classical.not_not.mp hx
theorem RelX.isC {n K t : Nat} {μ ν : Mem} {x : Int32} (h : RelX n K t μ μ) (hν : ν 16 0 8 = μ 16 0 8) (hx : okC μ x) : ¬ (nI (tN x) < 0 ∨ ν 16 0 8 - 1 < nI (tN x)) := by
  rw [hν, h.e8, ← (okC_n h.vK.1 hx).1]
  exact hx
theorem CRn.fin {c n t : Nat} {μ ν : Mem} (h : CRn c n μ ν t) : μ 11 c 8 = ν 23 0 c ∧ μ 11 c 7 = ν 24 0 c := by
  obtain ⟨-, -, -, -, -, -, -, h⟩ := h
  rcases h with ⟨⟨o1, o2, o3, o4, -⟩, -⟩ | ⟨-, o2, o3, -⟩
  · exact ⟨by rw [o1, o2], by rw [o3, o4]⟩
  · exact ⟨o2, o3⟩
theorem CRn.sort {c n t : Nat} {μ ν : Mem} (h : CRn c n μ ν t) (hf : ¬ μ 11 c 8 = -1) : fsI μ c n = μ 11 c 8 := by
  obtain ⟨-, -, -, -, -, -, -, h⟩ := h
  rcases h with ⟨⟨o1, -⟩, -⟩ | ⟨-, o2, o3, o4, o5⟩
  · exact absurd o1 hf
  · rcases o5 with ⟨a, b⟩ | ⟨a, b, d⟩ | ⟨a, b, d⟩
    · rw [b]; unfold fsI; rw [if_pos a]
    · rw [d]; unfold fsI; rw [if_neg a, if_pos (Or.inl b)]
    · rw [d]; exact fsI_eq a b (fun i hi => (o4 i hi).1)
theorem S_finalOf {E : EE} {n : Nat} {μ : Mem} (hR : Rel n μ) (x0 : Int32) : STP E yL_finalOf cL_finalOf 4 [(0, 9, 12, 25)] (rm 8 1) yX3_finalOf cX3_finalOf 2 (rm 3 0) μ [.int x0] (Rel (n + 1)) := by
  have hR1 := hR
  obtain ⟨K, t, h⟩ := hR
  by_cases ok : okC μ x0
  · obtain ⟨e, hc, hc20⟩ := okC_n h.vK.1 ok
    rw [h.tK] at hc
    obtain ⟨nb, hcr⟩ := h.cr hc
    have hM := C_X3_finalOf (E := E) (μ := st μ 33 0 0 (μ 11 (tN x0) 8)) (tN x0) hc20 (h.isC (st_k (by decide)) ok)
    rw [← e] at hM
    exact STP.ask (H_finalOf x0 (C_X2_finalOf x0 h.vK.1) (fun Z q => q.1) (fun _ => ⟨rfl, rfl⟩) (fun q => absurd ok q.2)) hM (by rw [st_k (by decide)]; exact hcr.fin.1) hR1
  · exact STP.fail (by decide) (H_finalOf x0 (C_X2_finalOf x0 h.vK.1) (fun Z q => q.1) (fun q => absurd q ok) (fun _ => ⟨rfl, rfl⟩)) (F_X3_finalOf x0 (h.notC ok)) hR1
theorem S_branches {E : EE} {n : Nat} {μ : Mem} (hR : Rel n μ) (x0 : Int32) : STP E yL_branches cL_branches 4 [(0, 9, 12, 25)] (rm 8 1) yX3_branches cX3_branches 2 (rm 3 0) μ [.int x0] (Rel (n + 1)) := by
  have hR1 := hR
  obtain ⟨K, t, h⟩ := hR
  by_cases ok : okC μ x0
  · obtain ⟨e, hc, hc20⟩ := okC_n h.vK.1 ok
    rw [h.tK] at hc
    obtain ⟨nb, hcr⟩ := h.cr hc
    have hM := C_X3_branches (E := E) (μ := st μ 33 0 0 (μ 11 (tN x0) 4)) (tN x0) hc20 (h.isC (st_k (by decide)) ok)
    rw [← e] at hM
    exact STP.ask (H_branches x0 (C_X2_branches x0 h.vK.1) (fun Z q => q.1) (fun _ => ⟨rfl, rfl⟩) (fun q => absurd ok q.2)) hM (by rw [st_k (by decide), hcr.2.1, hcr.2.2.1]) hR1
  · exact STP.fail (by decide) (H_branches x0 (C_X2_branches x0 h.vK.1) (fun Z q => q.1) (fun q => absurd q ok) (fun _ => ⟨rfl, rfl⟩)) (F_X3_branches x0 (h.notC ok)) hR1
theorem S_answered {E : EE} {n : Nat} {μ : Mem} (hR : Rel n μ) (x0 : Int32) : STP E yL_answered cL_answered 4 [(0, 9, 12, 25)] (rm 8 1) yX3_answered cX3_answered 2 (rm 3 0) μ [.int x0] (Rel (n + 1)) := by
  have hR1 := hR
  obtain ⟨K, t, h⟩ := hR
  by_cases ok : okC μ x0
  · obtain ⟨e, hc, hc20⟩ := okC_n h.vK.1 ok
    rw [h.tK] at hc
    obtain ⟨nb, hcr⟩ := h.cr hc
    have hM := C_X3_answered (E := E) (μ := st μ 33 0 0 (μ 11 (tN x0) 7)) (tN x0) hc20 (h.isC (st_k (by decide)) ok)
    rw [← e] at hM
    exact STP.ask (H_answered x0 (C_X2_answered x0 h.vK.1) (fun Z q => q.1) (fun _ => ⟨rfl, rfl⟩) (fun q => absurd ok q.2)) hM (by rw [st_k (by decide)]; exact hcr.fin.2) hR1
  · exact STP.fail (by decide) (H_answered x0 (C_X2_answered x0 h.vK.1) (fun Z q => q.1) (fun q => absurd q ok) (fun _ => ⟨rfl, rfl⟩)) (F_X3_answered x0 (h.notC ok)) hR1
theorem S_device {E : EE} {n : Nat} {μ : Mem} (hR : Rel n μ) (x0 x1 : Int32) : STP E yL_device cL_device 5 [(0, 10, 13, 25)] (rm 9 2) yX3_device cX3_device 3 (rm 4 0) μ [.int x0, .int x1] (Rel (n + 1)) := by
  have hR1 := hR
  obtain ⟨K, t, h⟩ := hR
  have hn : ∀ c, c < 20 → vN (μ 11 c 4) 12 := fun c hc => (h.KI c hc).1
  by_cases ok : okC μ x0
  · obtain ⟨e, hc, hc20⟩ := okC_n h.vK.1 ok
    rw [h.tK] at hc
    obtain ⟨nb, hcr⟩ := h.cr hc
    by_cases ok2 : okB μ x0 x1
    · obtain ⟨e2, hb, hb12⟩ := okB_n (hn _ hc20) ok2
      have hb3 : tN x1 < nb := by rw [hcr.2.1, tN_nI (by have := hcr.1; omega)] at hb; exact hb
      have hM := C_X3_device (E := E) (μ := st μ 33 0 0 (μ 12 (tN x0) (tN x1))) (tN x0) (tN x1) hc20 hb12 (h.isC (st_k (by decide)) ok) (by rw [st_k (by decide), hcr.2.2.1, ← hcr.2.1, ← e2]; exact ok2)
      rw [← e, ← e2] at hM
      exact STP.ask (H_device x0 x1 (C_X2_device x0 x1 h.vK.1 hn) (fun Z q => q.1) (fun _ => ⟨rfl, rfl⟩) (fun q => absurd ⟨ok, ok2⟩ q.2)) hM (by rw [st_k (by decide)]; exact (hcr.2.2.2.1 _ hb3).1) hR1
    · have hM := F2_X3_device (E := E) (μ := μ) (tN x0) x1 hc20 (h.isC rfl ok) (by rw [hcr.2.2.1, ← hcr.2.1]; exact Classical.not_not.mp ok2)
      rw [← e] at hM
      exact STP.fail (by decide) (H_device x0 x1 (C_X2_device x0 x1 h.vK.1 hn) (fun Z q => q.1) (fun q => absurd q.2 ok2) (fun _ => ⟨rfl, rfl⟩)) hM hR1
  · exact STP.fail (by decide) (H_device x0 x1 (C_X2_device x0 x1 h.vK.1 hn) (fun Z q => q.1) (fun q => absurd q.1 ok) (fun _ => ⟨rfl, rfl⟩)) (F1_X3_device x0 x1 (h.notC ok)) hR1
theorem S_state {E : EE} {n : Nat} {μ : Mem} (hR : Rel n μ) (x0 x1 : Int32) : STP E yL_state cL_state 5 [(0, 10, 13, 25)] (rm 9 2) yX3_state cX3_state 3 (rm 4 0) μ [.int x0, .int x1] (Rel (n + 1)) := by
  have hR1 := hR
  obtain ⟨K, t, h⟩ := hR
  have hn : ∀ c, c < 20 → vN (μ 11 c 4) 12 := fun c hc => (h.KI c hc).1
  by_cases ok : okC μ x0
  · obtain ⟨e, hc, hc20⟩ := okC_n h.vK.1 ok
    rw [h.tK] at hc
    obtain ⟨nb, hcr⟩ := h.cr hc
    by_cases ok2 : okB μ x0 x1
    · obtain ⟨e2, hb, hb12⟩ := okB_n (hn _ hc20) ok2
      have hb3 : tN x1 < nb := by rw [hcr.2.1, tN_nI (by have := hcr.1; omega)] at hb; exact hb
      have hM := C_X3_state (E := E) (μ := st μ 33 0 0 (μ 14 (tN x0) (tN x1))) (tN x0) (tN x1) hc20 hb12 (h.isC (st_k (by decide)) ok) (by rw [st_k (by decide), hcr.2.2.1, ← hcr.2.1, ← e2]; exact ok2)
      rw [← e, ← e2] at hM
      exact STP.ask (H_state x0 x1 (C_X2_state x0 x1 h.vK.1 hn) (fun Z q => q.1) (fun _ => ⟨rfl, rfl⟩) (fun q => absurd ⟨ok, ok2⟩ q.2)) hM (by rw [st_k (by decide)]; exact (hcr.2.2.2.1 _ hb3).2.2.1) hR1
    · have hM := F2_X3_state (E := E) (μ := μ) (tN x0) x1 hc20 (h.isC rfl ok) (by rw [hcr.2.2.1, ← hcr.2.1]; exact Classical.not_not.mp ok2)
      rw [← e] at hM
      exact STP.fail (by decide) (H_state x0 x1 (C_X2_state x0 x1 h.vK.1 hn) (fun Z q => q.1) (fun q => absurd q.2 ok2) (fun _ => ⟨rfl, rfl⟩)) hM hR1
  · exact STP.fail (by decide) (H_state x0 x1 (C_X2_state x0 x1 h.vK.1 hn) (fun Z q => q.1) (fun q => absurd q.1 ok) (fun _ => ⟨rfl, rfl⟩)) (F1_X3_state x0 x1 (h.notC ok)) hR1
theorem S_hungUp {E : EE} {n : Nat} {μ : Mem} (hR : Rel n μ) (x0 : Int32) : STP E yL_hungUp cL_hungUp 4 [(0, 9, 12, 13)] (rm 7 1) yX3_hungUp cX3_hungUp 2 (rm 2 0) μ [.int x0] (Rel (n + 1)) := by
  have hR1 := hR
  obtain ⟨K, t, h⟩ := hR
  by_cases ok : ¬ (x0 < 0 ∨ 9 < x0)
  · have hv := outP_n (M := 9) (m := 9) (by decide) ok
    have hM := C_X3_hungUp (E := E) (μ := st μ 33 0 0 (μ 3 0 (tN x0))) (tN x0) (by have := hv.2; omega) (by rw [← hv.1]; exact ok)
    rw [← hv.1] at hM
    exact STP.ask (H_hungUp x0 (C_X2_hungUp x0) (fun Z q => q.1) (fun _ => ⟨rfl, rfl⟩) (fun q => absurd q.2 ok)) hM (by rw [st_k (by decide)]; exact h.2.2.2.2.2.2.1 _ (by have := hv.2; omega)) hR1
  · exact STP.fail (by decide) (H_hungUp x0 (C_X2_hungUp x0) (fun Z q => q.1) (fun q => absurd q ok) (fun _ => ⟨rfl, rfl⟩)) (F_X3_hungUp x0 (Classical.not_not.mp ok)) hR1
theorem fsM_k {μ : Mem} {c n k o i : Nat} (h : k ≠ 5) : fsM μ c n k o i = μ k o i := by
  unfold fsM
  split
  · rfl
  · exact soM_k h _ _
theorem S_finalBySorting {E : EE} {n : Nat} {μ : Mem} (hR : Rel n μ) (x0 : Int32) : STP E yL_finalBySorting cL_finalBySorting 4 [(0, 9, 12, 25), (0, 9, 15, 15)] (rm 8 2) yX3_finalBySorting cX3_finalBySorting 3 (rm 3 0) μ [.int x0] (Rel (n + 1)) := by
  have hR1 := hR
  obtain ⟨K, t, h⟩ := hR
  have hex : ∀ Z, ((Z = sIO ∧ ¬ okC μ x0) ∨ (Z = sIS ∧ okC μ x0 ∧ μ 11 (tN x0) 8 = -1)) → Z = sIO ∨ Z = sIS := fun Z q => q.elim (fun a => Or.inl a.1) (fun a => Or.inr a.1)
  by_cases ok : okC μ x0
  · obtain ⟨e, hc, hc20⟩ := okC_n h.vK.1 ok
    rw [h.tK] at hc
    obtain ⟨nb, hcr⟩ := h.cr hc
    have hnb : tN (μ 11 (tN x0) 4) = nb := by rw [hcr.2.1, tN_nI (by have := hcr.1; omega)]
    by_cases hf : μ 11 (tN x0) 8 = -1
    · have hM := F2_X3_finalBySorting (E := E) (μ := μ) (tN x0) hc20 (h.isC rfl ok) (by rw [← hcr.fin.1]; exact hf)
      rw [← e] at hM
      exact STP.fail (by decide) (H_finalBySorting x0 (C_X2_finalBySorting x0 h.vK.1 h.KI) hex (fun q => absurd hf q.2) (fun q => q.elim (fun a => absurd ok a.2) (fun a => absurd a.1 (by decide))) (fun _ => ⟨rfl, rfl⟩)) hM hR1
    · have hM := C_X3_finalBySorting (E := E) (μ := st (fsM μ (tN x0) nb) 33 0 0 (fsI μ (tN x0) nb)) (tN x0) hc20 (h.isC (by rw [st_k (by decide), fsM_k (by decide)]) ok) (by rw [st_k (by decide), fsM_k (by decide), ← hcr.fin.1]; exact hf)
      rw [← e] at hM
      have hH := C_X2_finalBySorting (E := E) x0 h.vK.1 h.KI
      rw [hnb] at hH
      refine ⟨0, _, _, _, H_finalBySorting x0 hH hex (fun _ => ⟨rfl, rfl⟩) (fun q => q.elim (fun a => absurd ok a.2) (fun a => absurd a.1 (by decide))) (fun q => q.elim (fun a => absurd a.1 (by decide)) (fun a => absurd a.2.2 hf)), hM, st_same, fun _ => ?_, ?_⟩
      · rw [st_k (by decide), st_same, st_k (by decide), fsM_k (by decide), hcr.sort hf]
        exact hcr.fin.1
      · have hA : ∀ k o i, k ≠ 5 → k ≠ 33 → k ≠ 16 → st (st (fsM μ (tN x0) nb) 33 0 0 (fsI μ (tN x0) nb)) 16 0 0 0 k o i = μ k o i := fun k o i a b d => by rw [st_k d, st_k b, fsM_k a]
        obtain ⟨a1, a2, a3, a4, a5, a6, a7, a8, a9, a10⟩ := h
        refine ⟨K, t, by omega, a2, by rw [hA _ _ _ (by decide) (by decide) (by decide)]; exact a3, by rw [st_i (by decide), st_k (by decide), fsM_k (by decide)]; exact a4, by rw [hA _ _ _ (by decide) (by decide) (by decide)]; exact a5, by rw [st_i (by decide), st_k (by decide), fsM_k (by decide)]; exact a6, fun d hd => by rw [hA _ _ _ (by decide) (by decide) (by decide), hA _ _ _ (by decide) (by decide) (by decide)]; exact a7 d hd, fun u hu => (a8 u hu).cong (fun k i _ _ => hA _ _ _ (by omega) (by omega) (by omega)) (fun k i _ _ => hA _ _ _ (by omega) (by omega) (by omega)), fun c hc => (a9 c hc).cong (Nat.le_refl t) (fun k i _ _ => hA _ _ _ (by omega) (by omega) (by omega)) (fun k _ _ => hA _ _ _ (by omega) (by omega) (by omega)) (fun k b _ _ _ => hA _ _ _ (by omega) (by omega) (by omega)), fun c hc hc2 => (a10 c hc hc2).cong (fun i => hA _ _ _ (by decide) (by decide) (by decide)) (fun i => hA _ _ _ (by decide) (by decide) (by decide)) (hA _ _ _ (by decide) (by decide) (by decide)) (hA _ _ _ (by decide) (by decide) (by decide)) (hA _ _ _ (by decide) (by decide) (by decide))⟩
  · exact STP.fail (by decide) (H_finalBySorting x0 (C_X2_finalBySorting x0 h.vK.1 h.KI) hex (fun q => absurd q.1 ok) (fun _ => ⟨rfl, rfl⟩) (fun q => q.elim (fun a => absurd a.1 (by decide)) (fun a => absurd a.2.1 ok))) (F1_X3_finalBySorting x0 (h.notC ok)) hR1
