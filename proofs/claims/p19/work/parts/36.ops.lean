/-! a call begins, is answered, is cancelled -/
theorem IX.call {K t q u : Nat} {μ : Mem} (h : IX K t q μ) (hK : K < 12) (hu : u < 6) :
    IX (K + 1) t q (clM μ u) ∧ (∀ k o i, (k < 4 ∨ (5 < k ∧ k < 11) ∨ 15 < k) → ¬ (k = 0 ∧ i = 5) → clM μ u k o i = μ k o i) ∧ (∀ k o i, 11 ≤ k → o ≠ K → clM μ u k o i = μ k o i) ∧ clM μ u 11 K 7 = -1 ∧ clM μ u 11 K 9 = 0 ∧
    ∃ n, CR K n (clM μ u) ∧ (coN μ u (-1) (nI t) = 0 → n = 0) ∧ (n = 0 → clM μ u 11 K 8 = 480) ∧ (∀ b, b < n → (clM μ u 12 K b = -1 ∧ (clM μ u 14 K b = 482 ∨ clM μ u 14 K b = 483)) ∨ (¬ clM μ u 12 K b = -1 ∧ (clM μ u 14 K b = 0 ∨ clM μ u 14 K b = 100))) ∧
      ∀ tg, tg < 10 → thB μ u (nI t) tg = true → (∃ b, b < n ∧ clM μ u 12 K b = nI tg) ∨ n = 12 := by
  have hB := h.bq
  have eK := h.K5.1
  obtain ⟨h1, h2, h3, h4, h5, h6, h7, h8⟩ := h
  obtain ⟨a4, a5, a7, a8, a9, a15⟩ := h8 K (Nat.le_refl K) (by omega)
  have hp0 : PC K 0 μ := ⟨by decide, by rw [a4]; decide, fun b hb => absurd hb (Nat.not_lt_zero b), fun b b' hb => absurd hb (Nat.not_lt_zero b), fun b hb => absurd hb (Nat.not_lt_zero b), fun b hb => absurd hb (Nat.not_lt_zero b)⟩
  obtain ⟨n, f1, f2, f3, f4⟩ := fu0_sp hu hB hp0
  rw [h3] at f3 f4
  have fr := f2.1
  have c11 : ∀ i, i ≠ 4 → fu0 K u (-1) μ 11 K i = μ 11 K i := fun i hi => fr.2 K i hi
  have c15 : ∀ o i, fu0 K u (-1) μ 15 o i = μ 15 o i := fun o i => fr.1 15 o i (by decide) (by decide) (by decide) (by decide) (by decide)
  obtain ⟨g1, g2, g3, g4, g5, g6⟩ := CR_begin (now := nI t) f1 ((c11 5 (by decide)).trans a5) ((c11 7 (by decide)).trans a7) ((c11 8 (by decide)).trans a8) ((c11 9 (by decide)).trans a9) (fun b hb => (c15 K b).trans (a15 b hb))
  have eM : clM μ u = st (bgM (fu0 K u (-1) μ) K n 11 (nI t)) 0 0 5 (nI (K + 1)) := by
    unfold clM
    rw [eK, f1.vn.2, a5, h3]
    rfl
  have hG : GC K (fu0 K u (-1) μ) (bgM (fu0 K u (-1) μ) K n 11 (nI t)) := GC_bgM (by decide)
  have e11 : ∀ k i, 11 ≤ k → clM μ u k K i = bgM (fu0 K u (-1) μ) K n 11 (nI t) k K i := fun k i hk => by rw [eM, st_k (by omega)]
  have e5 : clM μ u 0 0 5 = nI (K + 1) := by rw [eM, st_same]
  have ek : ∀ k o i, (k < 4 ∨ (5 < k ∧ k < 11) ∨ 15 < k) → ¬ (k = 0 ∧ i = 5) → clM μ u k o i = μ k o i := fun k o i hk hh => by
    rw [eM, show st (bgM (fu0 K u (-1) μ) K n 11 (nI t)) 0 0 5 (nI (K + 1)) k o i = bgM (fu0 K u (-1) μ) K n 11 (nI t) k o i from if_neg (fun q => hh ⟨q.1, q.2.2⟩), hG.k (by omega) (by omega)]
    exact fr.1 k o i (by omega) (by omega) (by omega) (by omega) (by omega)
  have eo : ∀ k o i, 11 ≤ k → o ≠ K → clM μ u k o i = μ k o i := fun k o i hk ho => by
    rw [eM, st_k (by omega), hG.o ho]
    exact f2.2.2 k o i hk ho
  have hcr : CR K n (clM μ u) := g1.cong fun k i a b => e11 k i a
  have e14 : ∀ b, clM μ u 14 K b = bgM (fu0 K u (-1) μ) K n 11 (nI t) 14 K b := fun b => e11 14 b (by decide)
  have e12 : ∀ b, clM μ u 12 K b = fu0 K u (-1) μ 12 K b := fun b => (e11 12 b (by decide)).trans (g5 b)
  refine ⟨⟨by omega, e5, by rw [ek 0 0 6 (Or.inl (by decide)) (by decide)]; exact h3, h4, h5, fun v hv => ⟨(h6 v hv).1.cong (Nat.le_refl q) (fun k i a b => ek k v i (Or.inr (Or.inl ⟨by omega, b⟩)) (by omega)), ?_⟩, fun c hc => ?_, fun c hc1 hc2 => ?_⟩, ek, eo, (e11 11 7 (by decide)).trans g2, (e11 11 9 (by decide)).trans g4, n, hcr, f3, fun q => (e11 11 8 (by decide)).trans (g3 q), fun b hb => ?_, fun tg htg hth => ?_⟩
  · rw [coN_cong (fun i => ek 9 v i (Or.inr (Or.inl ⟨by decide, by decide⟩)) (by omega)) (fun i => ek 8 v i (Or.inr (Or.inl ⟨by decide, by decide⟩)) (by omega))]
    exact (h6 v hv).2
  · by_cases e : c = K
    · subst e; exact ⟨n, hcr⟩
    · obtain ⟨n', hn'⟩ := h7 c (by omega)
      exact ⟨n', hn'.cong fun k i a b => eo k c i a e⟩
  · exact (h8 c (by omega) hc2).cong (fun i => eo 11 c i (by decide) (by omega)) (fun i => eo 15 c i (by decide) (by omega))
  · rcases f1.2.2.2.2.2 b hb with ⟨q1, q2⟩ | ⟨q1, q2⟩
    · refine Or.inr ⟨by rw [e12]; exact q2, ?_⟩
      rw [e14]
      rcases g6 b hb with r | r
      · exact Or.inl (r.trans q1)
      · exact Or.inr r
    · refine Or.inl ⟨by rw [e12]; exact q2, ?_⟩
      rw [e14]
      rcases g6 b hb with r | r
      · rw [r]; exact q1
      · exfalso
        rcases hcr.2.1 b hb with ⟨r1, -⟩ | ⟨-, -, r1, -⟩ | r1
        · rw [e14, r] at r1; exact absurd r1 (by decide)
        · rw [e12] at r1; exact r1 q2
        · rw [e14, r] at r1; exact absurd r1 (by decide)
  · rcases f4 tg htg hth with ⟨b, hb, e⟩ | e
    · exact Or.inl ⟨b, hb, by rw [e12]; exact e⟩
    · exact Or.inr e
/-- an answer to a branch that has not ended -/
theorem an_open {c n b : Nat} {μ : Mem} {d : Nat} {cd : Int32} (h : CR c n μ) (hb : b < n) (ho : sOp (μ 14 c b)) (hd : μ 12 c b = nI d) (hd10 : d < 10) :
    anBr μ c (nI d) = b ∧ anOk2 μ c (nI d) cd ∧ anM μ c (nI d) cd = taM μ c n (tN (μ 11 c 5)) b cd (μ 0 0 6) := by
  have hn := h.n
  have en : tN (μ 11 c 4) = n := by rw [hn.2, tN_nI (by omega)]
  have hbr : fsB (fun i => decide (μ 12 c i = nI d)) n = b := by
    refine fsB_at (decide_eq_true hd) (fun j hj => decide_eq_false fun q => ?_) hb
    have := h.1.2.2.2.1 j b (by omega) hb (q.trans hd.symm) (by rw [q]; exact nI_m1 (by omega))
    omega
  have e1 : anBr μ c (nI d) = b := by
    unfold anBr
    rw [en, hbr]
  have hne := sOp_lt ho
  refine ⟨e1, ⟨?_, ?_, Or.inl ?_⟩, ?_⟩
  · unfold frI
    rw [en, hbr, if_pos hb]
    exact nI_m1 (by omega)
  · rw [e1]
    rcases h.2.1 b hb with ⟨q, -⟩ | ⟨-, q, -⟩ | q
    · rw [q] at ho; rcases ho with z | z <;> exact absurd z (by decide)
    · exact q
    · exact absurd q hne
  · rw [e1]; exact hne
  · unfold anM
    rw [e1, if_neg hne, en]
theorem IX.answer {K t q c n b d : Nat} {cd : Int32} {μ : Mem} (h : IX K t q μ) (hc : c < K) (hn : CR c n μ) (hb : b < n) (ho : sOp (μ 14 c b)) (hd : μ 12 c b = nI d) (hd10 : d < 10) (hx : cd = 180 ∨ 200 ≤ cd) :
    IX K t q (anM μ c (nI d) cd) ∧ CR c n (anM μ c (nI d) cd) ∧ (∀ k o i, k ≠ 14 → k ≠ 11 → anM μ c (nI d) cd k o i = μ k o i) ∧ (∀ o, anM μ c (nI d) cd 11 o 9 = μ 11 o 9) ∧ anM μ c (nI d) cd 14 c b = cd ∧ (cd = 180 → anM μ c (nI d) cd 11 c 8 = -1) ∧ (¬ cd = 180 → ¬ 300 ≤ cd → anM μ c (nI d) cd 11 c 8 = cd ∧ anM μ c (nI d) cd 11 c 7 = nI b ∧ ∀ i, i < n → 200 ≤ anM μ c (nI d) cd 14 c i) ∧ (cd = 180 ∨ 300 ≤ cd → anM μ c (nI d) cd 11 c 7 = -1) ∧ (600 ≤ cd → anM μ c (nI d) cd 11 c 8 = cd ∧ ∀ i, i < n → 200 ≤ anM μ c (nI d) cd 14 c i) := by
  obtain ⟨-, -, e⟩ := an_open (cd := cd) hn hb ho hd hd10
  rw [e]
  obtain ⟨s, hs, es⟩ := hn.1.2.2.2.2.2
  have ets : tN (μ 11 c 5) = s := by rw [es, tN_nI (by omega)]
  rw [ets]
  obtain ⟨r1, r2, r3, r4, r5, r6⟩ := CR_ans (now := μ 0 0 6) hn hb ho hs es hx
  have g : GC c μ (taM μ c n s b cd (μ 0 0 6)) := GC_taM hs
  have g9 : taM μ c n s b cd (μ 0 0 6) 11 c 9 = μ 11 c 9 := by
    unfold taM
    split
    · exact st_k (by decide)
    · split
      · split
        · unfold goOnM gfM
          split
          · exact (go_11 (by decide) (by decide) s _).trans (st_k (by decide))
          · rw [st_i (by decide)]; exact (go_11 (by decide) (by decide) s _).trans (st_k (by decide))
        · rw [st_i (by decide), eoM_k (by decide)]; exact st_k (by decide)
      · rw [st_i (by decide), eoM_k (by decide), st_i (by decide)]; exact st_k (by decide)
  refine ⟨h.call1 ⟨n, r1⟩ hc (fun k o i hk h3 h4 h5 hh => ?_), r1, fun k o i a b => g.k a b, fun o => ?_, r2, r3, r4, r5, r6⟩
  · by_cases z : o = c
    · exact g.k (by omega) (by omega)
    · exact g.o z
  · by_cases z : o = c
    · subst z; exact g9
    · exact g.o z
/-- a call is cancelled -/
theorem IX.cancel {K t q c n : Nat} {μ : Mem} (h : IX K t q μ) (hc : c < K) (hn : CR c n μ) (hf : μ 11 c 8 = -1) :
    IX K t q (caM μ c n) ∧ (∀ k o i, k ≠ 14 → k ≠ 11 → caM μ c n k o i = μ k o i) ∧ (∀ o i, o ≠ c → caM μ c n 11 o i = μ 11 o i) := by
  have g : GC c μ (caM μ c n) := GC_caM
  refine ⟨h.call1 ⟨n, (CR_cancel hn hf).1⟩ hc (fun k o i hk h3 h4 h5 hh => ?_), fun k o i a b => g.k a b, fun o i ho => g.o ho⟩
  by_cases z : o = c
  · exact g.k (by omega) (by omega)
  · exact g.o z
/-- an answer too much is hung up -/
theorem IX.hung {K t q c n b d : Nat} {μ : Mem} (h : IX K t q μ) (hc : c < K) (hn : CR c n μ) (hb : b < n) (hd : μ 12 c b = nI d) (hd10 : d < 10) (hs : μ 11 c 5 ≤ μ 13 c b) (h14 : μ 14 c b = 487) (h15 : μ 15 c b = 0) :
    anOk2 μ c (nI d) 200 ∧ anM μ c (nI d) 200 = st (st μ 15 c b 1) 3 0 d (μ 3 0 d + 1) ∧ IX K t q (anM μ c (nI d) 200) := by
  have hn4 := hn.n
  have en : tN (μ 11 c 4) = n := by rw [hn4.2, tN_nI (by omega)]
  have hbr : fsB (fun i => decide (μ 12 c i = nI d)) n = b := by
    refine fsB_at (decide_eq_true hd) (fun j hj => decide_eq_false fun q => ?_) hb
    have := hn.1.2.2.2.1 j b (by omega) hb (q.trans hd.symm) (by rw [q]; exact nI_m1 (by omega))
    omega
  have e1 : anBr μ c (nI d) = b := by
    unfold anBr
    rw [en, hbr]
  have h2 : 200 ≤ μ 14 c b := by rw [h14]; decide
  have eM : anM μ c (nI d) 200 = st (st μ 15 c b 1) 3 0 d (μ 3 0 d + 1) := by
    unfold anM
    rw [e1, if_pos h2, tN_nI (by omega)]
  refine ⟨⟨?_, ?_, Or.inr ⟨⟨by decide, by decide⟩, Or.inl ?_, ?_⟩⟩, eM, ?_⟩
  · unfold frI
    rw [en, hbr, if_pos hb]
    exact nI_m1 (by omega)
  · rw [e1]; exact hs
  · rw [e1]; exact h14
  · rw [e1]; exact h15
  · rw [eM]
    refine h.call1 ⟨n, (CR_hung hn h2).cong fun k i a b => st_k (by omega)⟩ hc (fun k o i hk h3 h4 h5 hh => ?_)
    rw [st_k h3]
    exact if_neg (fun q => hh ⟨by omega, q.2.1⟩)
theorem fsM_k {μ : Mem} {c n k o i : Nat} (h : k ≠ 5) : fsM μ c n k o i = μ k o i := by
  unfold fsM
  split
  · rfl
  · exact soM_k h n μ
/-- what is told by sorting -/
theorem CR.sort {c n : Nat} {μ : Mem} (h : CR c n μ) (hf : ¬ μ 11 c 8 = -1) : fsI μ c n = μ 11 c 8 := by
  obtain ⟨-, -, hx⟩ := h
  rcases hx with ⟨q, -⟩ | ⟨e1, e2, e3⟩
  · exact absurd q.1 hf
  · rcases e3 with ⟨r1, r2, -⟩ | ⟨r1, r2, r3, -⟩ | ⟨r1, r2, r3, -⟩ | ⟨r1, r2, a, ha, r3, r4, r5, r6⟩
    · unfold fsI
      rw [if_pos r1, r2]
    · unfold fsI
      rw [if_neg r1, if_pos (Or.inl r2), r3]
    · rw [fsI_eq r1 r2 e2, r3]
    · rw [fsI_eq r1 r2 e2, be_ans ha rfl (e2 a ha) r5 r6, r4]
