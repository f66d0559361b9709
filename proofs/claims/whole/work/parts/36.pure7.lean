/-! ticks, all calls -/
theorem lc_eq {K t : Nat} {μ ν : Mem} (hK : K ≤ 20) (ht : t < 2 ^ 30) (hR : ∀ c, c < K → CR c μ ν t) (h6 : μ 0 0 6 = nI t) (h1 : ν 16 0 1 = nI t) (hKI : KI μ) (hMI : MI ν) : ∀ c, c ≤ K → (∀ c', c' < K → CR c' (lcM c μ) (mpL c ν) t) ∧ lcN c μ = mpC c ν ∧ (∀ k o i, K ≤ o → lcM c μ k o i = μ k o i) ∧ ∀ o, K ≤ o → mpL c ν 25 0 o = ν 25 0 o ∧ mpL c ν 26 0 o = ν 26 0 o ∧ mpL c ν 27 0 o = ν 27 0 o
  | 0, _ => ⟨hR, rfl, fun _ _ _ _ => rfl, fun _ _ => ⟨rfl, rfl, rfl⟩⟩
  | c + 1, hc => by
    obtain ⟨i1, i2, i3, i4⟩ := lc_eq hK ht hR h6 h1 hKI hMI c (by omega)
    obtain ⟨k1, k2⟩ := lcM_ok hKI c (by omega)
    obtain ⟨m1, m2⟩ := mpL_ok hMI c (by omega)
    have g : GC c (lcM c μ) (lcM (c + 1) μ) := GC_etM (k1 c (by omega)).2.2
    have gm : MG c (mpL c ν) (mpL (c + 1) ν) := (mpS_ok m1 (by omega)).2
    have e6 : lcM c μ 0 0 6 = nI t := by rw [k2 _ _ _ (by decide) (by decide)]; exact h6
    have e1 : mpL c ν 16 0 1 = nI t := by rw [m2 _ _ _ (by decide) (by decide) (by decide) (by decide) (by decide)]; exact h1
    obtain ⟨t1, t2⟩ := CR_tick ht (i1 c (by omega)) e1
    have em : lcM (c + 1) μ = etM (lcM c μ) c (tN (lcM c μ 11 c 4)) (tN (lcM c μ 11 c 5)) (nI t) := by
      show etM' (lcM c μ) c = _
      unfold etM'
      rw [e6]
    refine ⟨fun c' hc' => ?_, ?_, fun k o i ho => ?_, fun o ho => ?_⟩
    · by_cases e : c' = c
      · subst e
        rw [em]
        exact t1
      · refine (i1 c' hc').cong (Nat.le_refl t) (fun k i _ _ => g.o e) (fun k _ _ => gm k 0 c' (fun q => e q.2) (fun q => e q.2) (fun q => e q.2) (fun q => e q.2) (fun q => by omega)) (fun k b _ _ _ => gm k 0 _ (fun q => by omega) (fun q => by omega) (fun q => by omega) (fun q => by omega) (fun q => by omega))
    · have en : lcN (c + 1) μ = lcN c μ + (if etI (lcM c μ) c (tN (lcM c μ 11 c 4)) (tN (lcM c μ 11 c 5)) (nI t) = 0 then 0 else 1) := by
        show lcN c μ + (if etI' (lcM c μ) c = 0 then 0 else 1) = _
        unfold etI'
        rw [e6]
      rw [en, i2]
      show _ = mpC c ν + (if mpL c ν 23 0 c = -1 ∧ ¬ mpS (mpL c ν) c 23 0 c = -1 then 1 else 0)
      by_cases q : etI (lcM c μ) c (tN (lcM c μ 11 c 4)) (tN (lcM c μ 11 c 5)) (nI t) = 0
      · rw [if_pos q, if_neg (t2.mp q)]
      · rw [if_neg q, if_pos (by
          rcases Classical.em (mpL c ν 23 0 c = -1 ∧ ¬ mpS (mpL c ν) c 23 0 c = -1) with z | z
          · exact z
          · exact absurd (t2.mpr z) q)]
    · rw [g.o (by omega), i3 k o i ho]
    · obtain ⟨j1, j2, j3⟩ := i4 o ho
      rw [gm 27 0 o (fun q => by omega) (fun q => by omega) (fun q => by omega) (fun q => by omega) (fun q => by omega), gm 25 0 o (fun q => by omega) (fun q => by omega) (fun q => by omega) (fun q => by omega) (fun q => by omega), gm 26 0 o (fun q => by omega) (fun q => by omega) (fun q => by omega) (fun q => by omega) (fun q => by omega)]
      exact ⟨j1, j2, j3⟩
theorem RelX.tick {n K t : Nat} {μ ν : Mem} (h : RelX n K t μ ν) (ht : t + 1 ≤ 100 * n) (ht2 : t + 1 < 2 ^ 30) : RelX n K (t + 1) (lcM K (tkM μ)) (mpL K (mtk ν)) ∧ lcN K (tkM μ) = mpC K (mtk ν) := by
  have hKI := tkM_ok h.KI
  have hMI := mtk_ok h.MI
  obtain ⟨a1, a2, a3, a4, a5, a6, a7, a8, a9, a10⟩ := h
  have t6 : tkM μ 0 0 6 = nI (t + 1) := by
    unfold tkM
    rw [st_same, a5, nI_succ]
  have t1 : mtk ν 16 0 1 = nI (t + 1) := by
    unfold mtk
    rw [st_same, a6, nI_succ]
  have tk : ∀ k o i, ¬ (k = 0 ∧ i = 6) → tkM μ k o i = μ k o i := fun k o i q => if_neg (fun z => q ⟨z.1, z.2.2⟩)
  have mk : ∀ k o i, ¬ (k = 16 ∧ i = 1) → mtk ν k o i = ν k o i := fun k o i q => if_neg (fun z => q ⟨z.1, z.2.2⟩)
  have hR : ∀ c, c < K → CR c (tkM μ) (mtk ν) (t + 1) := fun c hc => (a9 c hc).cong (Nat.le_succ t) (fun k i _ _ => tk k c i (by omega)) (fun k _ _ => mk k 0 c (by omega)) (fun k b _ _ _ => mk k 0 _ (by omega))
  obtain ⟨l1, l2, l3, l4⟩ := lc_eq a2 ht2 hR t6 t1 hKI hMI K (Nat.le_refl K)
  obtain ⟨-, k2⟩ := lcM_ok hKI K a2
  obtain ⟨-, m2⟩ := mpL_ok hMI K a2
  refine ⟨⟨ht, a2, ?_, ?_, ?_, ?_, fun d hd => ?_, fun u hu => ?_, l1, fun c hc hc2 => ?_⟩, l2⟩
  · rw [k2 _ _ _ (by decide) (by decide), tk _ _ _ (by decide)]; exact a3
  · rw [m2 _ _ _ (by decide) (by decide) (by decide) (by decide) (by decide), mk _ _ _ (by decide)]; exact a4
  · rw [k2 _ _ _ (by decide) (by decide)]; exact t6
  · rw [m2 _ _ _ (by decide) (by decide) (by decide) (by decide) (by decide)]; exact t1
  · rw [k2 _ _ _ (by decide) (by decide), tk _ _ _ (by omega), m2 _ _ _ (by decide) (by decide) (by decide) (by decide) (by decide), mk _ _ _ (by omega)]
    exact a7 d hd
  · exact (a8 u hu).cong (fun k i _ _ => by rw [k2 _ _ _ (by omega) (by omega), tk _ _ _ (by omega)]) (fun k i _ _ => by rw [m2 _ _ _ (by omega) (by omega) (by omega) (by omega) (by omega), mk _ _ _ (by omega)])
  · obtain ⟨j1, j2, j3⟩ := l4 c hc
    exact (a10 c hc hc2).cong (fun i => by rw [l3 _ _ _ hc, tk _ _ _ (by omega)]) (fun i => by rw [l3 _ _ _ hc, tk _ _ _ (by omega)]) (by rw [j1, mk _ _ _ (by omega)]) (by rw [j2, mk _ _ _ (by omega)]) (by rw [j3, mk _ _ _ (by omega)])
theorem RelX.ps {n K t : Nat} {μ ν : Mem} (h : RelX n K t μ ν) (hn : n < 512) : ∀ i, i ≤ 100 → RelX (n + 1) K (t + i) (psM i μ) (mpT i ν) ∧ psN i μ = mpN i ν
  | 0, _ => by
    obtain ⟨a1, a2⟩ := h
    exact ⟨⟨by omega, a2⟩, rfl⟩
  | i + 1, hi => by
    obtain ⟨h1, h2⟩ := RelX.ps h hn i (by omega)
    have e5 : tN (μ 0 0 5) = K := by rw [h.2.2.1, tN_nI (by have := h.2.1; omega)]
    have e8 : tN (ν 16 0 8) = K := by rw [h.2.2.2.1, tN_nI (by have := h.2.1; omega)]
    have ht := h.1
    obtain ⟨g1, g2⟩ := h1.tick (by omega) (by omega)
    refine ⟨?_, ?_⟩
    · show RelX (n + 1) K (t + (i + 1)) (lcM (tN (μ 0 0 5)) (tkM (psM i μ))) (mpL (tN (ν 16 0 8)) (mtk (mpT i ν)))
      rw [e5, e8]
      exact g1
    · show psN i μ + nI (lcN (tN (μ 0 0 5)) (tkM (psM i μ))) = mpN i ν + nI (mpC (tN (ν 16 0 8)) (mtk (mpT i ν)))
      rw [e5, e8, h2, g2]
/-! the steps, in their two shapes -/
theorem RelX.up {n K t : Nat} {μ ν : Mem} (h : RelX n K t μ ν) : RelX (n + 1) K t μ ν := by
  obtain ⟨a1, a2⟩ := h
  exact ⟨by omega, a2⟩
theorem Rel.thr {n : Nat} {μ : Mem} {x : Int32} (h : Rel n μ) : Rel (n + 1) (st μ 16 0 0 x) := by
  obtain ⟨K, t, h⟩ := h
  exact ⟨K, t, h.up.cong (fun k o i hk => st_k (by omega)) (fun k o i hk _ => st_k (by omega)) (st_i (by decide)) (st_i (by decide))⟩
theorem Rel.out {n : Nat} {μ : Mem} {x y : Int32} (h : Rel n μ) : Rel (n + 1) (st (st μ 33 0 0 y) 16 0 0 x) := by
  obtain ⟨K, t, h⟩ := h
  exact ⟨K, t, h.up.cong (fun k o i hk => by rw [st_k (by omega), st_k (by omega)]) (fun k o i hk _ => by rw [st_k (by omega), st_k (by omega)]) (by rw [st_i (by decide), st_k (by decide)]) (by rw [st_i (by decide), st_k (by decide)])⟩
theorem STP.fail {E : EE} {yh : MethodName} {bh : ByteArray} {mh : Nat} {hh : List (Nat × Nat × Nat × Nat)} {Rh : Room} {ym : MethodName} {bm : ByteArray} {mm : Nat} {Rm : Room} {n : Nat} {μ : Mem} {As : List Value} {k : Int32} (hk : ¬ k = 0) (hH : MH E yh bh mh hh Rh (.ref (ad E 0 0) :: (As ++ [.ref (ad E 33 0)])) μ (some (.int k)) μ) (hM : MM E ym bm mm (some .int) Rm (.ref (ad E 16 0) :: As) μ (some (.int 0)) (st μ 16 0 0 k)) (hR : Rel n μ) : STP E yh bh mh hh Rh ym bm mm Rm μ As (Rel (n + 1)) :=
  ⟨k, 0, μ, st μ 16 0 0 k, hH, hM, st_same, fun h => absurd h hk, hR.thr⟩
/-- a question: nothing changes but the answers' places -/
theorem STP.ask {E : EE} {yh : MethodName} {bh : ByteArray} {mh : Nat} {hh : List (Nat × Nat × Nat × Nat)} {Rh : Room} {ym : MethodName} {bm : ByteArray} {mm : Nat} {Rm : Room} {n : Nat} {μ : Mem} {As : List Value} {v r : Int32} (hH : MH E yh bh mh hh Rh (.ref (ad E 0 0) :: (As ++ [.ref (ad E 33 0)])) μ (some (.int 0)) (st μ 33 0 0 v)) (hM : MM E ym bm mm (some .int) Rm (.ref (ad E 16 0) :: As) (st μ 33 0 0 v) (some (.int r)) (st (st μ 33 0 0 v) 16 0 0 0)) (he : v = r) (hR : Rel n μ) : STP E yh bh mh hh Rh ym bm mm Rm μ As (Rel (n + 1)) :=
  ⟨0, r, _, _, hH, hM, st_same, fun _ => by rw [st_k (by decide), st_same]; exact he, hR.out⟩
