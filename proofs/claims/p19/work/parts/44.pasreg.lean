/-! passes and registers answer true -/
theorem C_passes {E : EE} {K t q T : Nat} {μ : Mem} (h : JX K t q μ) (hT1 : 1 ≤ T) (hT : T ≤ 60) (ht : t + T < 2 ^ 20) : ∃ μ', MM E yL_passes cL_passes 8 (some .boolean) (rm 7 0) [.ref (ad E 0 0), .ref (ad E 16 0), .int (nI T)] μ (some (.int 1)) μ' ∧ JX K (t + T) q μ' := by
  obtain ⟨hI, l0, l1, l2, l3, M, hM, l4, l5⟩ := h
  obtain ⟨g1, ⟨d, g2, g3⟩, g4⟩ := hI.ps T ht
  have hp := N_pass (E := E) hI T hT1 (by omega)
  rw [g2] at hp
  have e16 : ∀ i, psM T μ 16 0 i = μ 16 0 i := fun i => g4 16 0 i (by omega) (by omega)
  have h2 : IX K (t + T) q (st (psM T μ) 16 0 0 (nI (t + T))) := g1.cong fun k o i hk _ _ _ => st_k (by omega)
  refine ⟨_, C_L_passes hI l1 hI.1 T d (psM T μ) ((nI_ltI (b := 120) (by omega) (by decide)).mpr (by omega)) ((e16 0).trans l0) h2 ((st_i (by decide)).trans ((e16 1).trans l1)) ?_ hp, h2, st_same, (st_i (by decide)).trans ((e16 1).trans l1), (st_i (by decide)).trans ((e16 2).trans l2), fun d hd => ?_, M, hM, (st_i (by decide)).trans ((e16 3).trans l4), fun c hc => ?_⟩
  · rw [← g3]
    exact ctB_cong fun c _ => by rw [st_k (by decide)]
  · rw [st_i (by omega), e16, st_k (by decide), g4 3 0 d (by omega) (by omega)]
    exact l3 d hd
  · rw [st_k (by decide), g4 11 c 9 (by omega) (by omega)]
    exact l5 c hc
theorem C_registers {E : EE} {K t q u tg Q T : Nat} {μ : Mem} (h : JX K t q μ) (hu : u < 6) (htg : tg < 16) (hQ : Q ≤ 10) (hT : T ≤ 1000) (hq : q < 1000) : ∃ μ' q', MM E yL_registers cL_registers 10 (some .boolean) (rm 5 0) [.ref (ad E 0 0), .ref (ad E 16 0), .int (nI u), .int (nI tg), .int (nI Q), .int (nI T)] μ (some (.int 1)) μ' ∧ q' ≤ q + 1 ∧ JX K t q' μ' := by
  have hJ := h
  obtain ⟨hI, l0, l1, l2, l3, M, hM, l4, l5⟩ := h
  have ht := hI.2.2.2.1
  obtain ⟨hB, h6⟩ := hI.2.2.2.2.2.1 u hu
  obtain ⟨fT, p1, p2, p3⟩ := hB.pl (nI t)
  generalize hth : coN μ u (-1) (nI t) = th at p1 p2 p3 h6
  have hg : ∀ k, k < th → tN (μ 7 u (fT k)) ≤ 10 ∧ μ 7 u (fT k) = nI (tN (μ 7 u (fT k))) := fun k hk => by
    obtain ⟨-, -, -, Q', q1, q2⟩ := p1 k hk
    rw [q2, tN_nI (by omega)]
    exact ⟨q1, rfl⟩
  have hbd : ∀ k, k < th → MM E yX2_binding cX2_binding 5 (some .int) (rm 3 0) [.ref (ad E 0 0), .int (nI u), .int (nI k)] μ (some (.int (nI (100 * fT k + tN (μ 7 u (fT k)))))) μ := fun k hk => by
    obtain ⟨q1, -, q3, -⟩ := p1 k hk
    refine N_binding hI u k _ hu (by rw [q3]; exact nI_m1 (by omega)) ?_
    rw [q3, tN_nI (by omega), (hg k hk).2, show (100 : Int32) = nI 100 by decide, pk_mul, nI_add, tN_nI (by have := (hg k hk).1; omega)]
  have hb0 := N_bindings (E := E) hI u th hu hth
  have hPn : thB μ u (nI t) tg = false → laI (pP fT tg) th = -1 := fun z => laI_no fun k hk => decide_eq_false fun y => by
    have := (nI_eq (by have := (p1 k hk).1; omega) (by omega)).mp y
    have h9 := (p1 k hk).2.1
    rw [this, z] at h9
    cases h9
  have hPt : thB μ u (nI t) tg = true → ∃ k, k < th ∧ fT k = tg ∧ laI (pP fT tg) th = nI k := fun z => by
    obtain ⟨k, k1, k2⟩ := p3 tg htg z
    refine ⟨k, k1, k2, laI_at k1 (decide_eq_true (by rw [k2])) fun j hj y => ?_⟩
    have := (nI_eq (by have := (p1 j hj).1; omega) (by omega)).mp (of_decide_eq_true y)
    exact p2 j k hj k1 (this.trans k2.symm)
  have hPm : laI (pP fT tg) th = -1 → thB μ u (nI t) tg = false := fun z => by
    cases e : thB μ u (nI t) tg
    · rfl
    · obtain ⟨k, k1, -, k3⟩ := hPt e
      rw [z] at k3
      exact absurd k3.symm (nI_m1 (by omega))
  have hPo : ¬ laI (pP fT tg) th = -1 → thB μ u (nI t) tg = true := fun z => by
    cases e : thB μ u (nI t) tg
    · exact absurd (hPn e) z
    · rfl
  have hT0 : nI T ≤ 0 ↔ T = 0 := by
    rw [show (0 : Int32) = nI 0 by decide, nI_leI (by omega) (by decide)]
    omega
  have hq2 : ¬ 10000 < nI q := fun z => by
    have := (nI_ltI (a := 10000) (by decide) (by omega)).mp z
    omega
  by_cases hs : ¬ nI T ≤ 0 ∧ laI (pP fT tg) th = -1 ∧ nI th = nI 6
  · exact ⟨μ, q, C_L_registers_s u tg Q T th fT (fun k => tN (μ 7 u (fT k))) h6 (fun k hk => ⟨(p1 k hk).1, (hg k hk).1⟩) hbd hb0 q l2 hq2 hs.1 hs.2.1 hs.2.2, Nat.le_succ q, hJ⟩
  · have h1 : IX K t q (st μ 16 0 2 (nI (q + 1))) := hI.cong fun k o i hk _ _ _ => st_k (by omega)
    have eth : ∀ i, thB (st μ 16 0 2 (nI (q + 1))) u (nI t) i = thB μ u (nI t) i := fun i => by
      unfold thB
      rw [st_k (by decide), st_k (by decide)]
    have eco : ∀ x, coN (st μ 16 0 2 (nI (q + 1))) u x (nI t) = coN μ u x (nI t) := fun x => coN_cong (fun i => st_k (by decide)) (fun i => st_k (by decide))
    have hl := coN_left (μ := μ) (u := u) (now := nI t) htg
    rw [hth] at hl
    have hc : 0 < T → coN (st μ 16 0 2 (nI (q + 1))) u (nI tg) (nI t) < 6 := fun z => by
      rw [eco]
      cases e : thB μ u (nI t) tg
      · have : ¬ th = 6 := fun y => hs ⟨fun w => by have := hT0.mp w; omega, hPn e, by rw [y]⟩
        omega
      · rw [e, if_pos rfl] at hl
        omega
    obtain ⟨r1, r2, r3⟩ := h1.reg hu htg hQ hT (by omega) hc
    rw [eth, eco, hth] at r2
    generalize hv : coN (rgM' (st μ 16 0 2 (nI (q + 1))) u (nI tg) (nI Q) (nI T) (nI q)) u (-1) (nI t) = v at r2
    have hreg := N_register (E := E) h1 u tg Q T v hu htg hQ hT (by omega) hc hv
    have hb2 := N_bindings (E := E) r1 u v hu hv
    have eM : rgM' (st μ 16 0 2 (nI (q + 1))) u (nI tg) (nI Q) (nI T) (nI q) = puM (st μ 16 0 2 (nI (q + 1))) u (tN (μ 6 u 4)) tg (nI Q) (nI (t + T)) (nI q) := by
      unfold rgM'
      rw [h1.2.2.1, nI_add, tN_nI (by omega), st_k (by decide)]
    refine ⟨_, q + 1, C_L_registers_g u tg Q T th fT (fun k => tN (μ 7 u (fT k))) h6 (fun k hk => ⟨(p1 k hk).1, (hg k hk).1⟩) hbd hb0 q l2 hq2 v _ hs (fun z => by rw [hT0.mp z]; decide) (fun z y => z (by rw [y]; decide)) (fun z y => ?_) (fun z y => ?_) (fun z y => ?_) (fun z y => ?_) hreg hb2 (fun z y => ?_), Nat.le_refl _, r1, ?_, ?_, ?_, fun d hd => ?_, M, hM, ?_, fun c hc => ?_⟩
    · rw [hPm y, hT0.mp z] at r2
      rw [pk_sub (Nat.zero_le _)]
      congr 1
      simp at r2
      omega
    · have hb := hPo y
      rw [hb, hT0.mp z] at r2
      rw [hb] at hl
      simp at r2 hl
      rw [pk_sub (by omega)]
      congr 1
      omega
    · have hz : 0 < T := by
        rcases Nat.eq_zero_or_pos T with w | w
        · exact absurd (hT0.mpr w) z
        · exact w
      rw [hPo y, if_pos rfl, if_pos hz] at r2
      rw [pk_sub (Nat.zero_le _)]
      congr 1
      omega
    · have hz : 0 < T := by
        rcases Nat.eq_zero_or_pos T with w | w
        · exact absurd (hT0.mpr w) z
        · exact w
      rw [hPm y, if_neg (by decide), if_pos hz] at r2
      rw [pk_sub (Nat.zero_le _)]
      congr 1
      omega
    · have hb := hPo y
      obtain ⟨k, k1, k2, k3⟩ := hPt hb
      rw [k3]
      have hz : 0 < T := by
        rcases Nat.eq_zero_or_pos T with w | w
        · exact absurd (show nI T = 0 by rw [w]; decide) z
        · exact w
      have hn9 : ¬ μ 9 u tg = -1 := fun w => by
        unfold thB at hb
        rw [decide_eq_true w] at hb
        cases hb
      obtain ⟨q1, -, q3, -⟩ := p1 k k1
      have e6 : rgM' (st μ 16 0 2 (nI (q + 1))) u (nI tg) (nI Q) (nI T) (nI q) 6 u 4 = μ 6 u 4 := by
        rw [eM, pu6, if_neg (fun w => hn9 (by have := w.1; rwa [st_k (by decide)] at this))]
        exact st_k (by decide)
      have e10 : ∀ p, rgM' (st μ 16 0 2 (nI (q + 1))) u (nI tg) (nI Q) (nI T) (nI q) 10 u p = μ 10 u p := fun p => by
        rw [eM, pu10, if_neg (fun w => hn9 (by have := w.1.1; rwa [st_k (by decide)] at this))]
        exact st_k (by decide)
      have eth2 : ∀ i, thB (rgM' (st μ 16 0 2 (nI (q + 1))) u (nI tg) (nI Q) (nI T) (nI q)) u (nI t) i = thB μ u (nI t) i := fun i => by
        rw [eM, th_pu, eth]
        by_cases w : i = tg
        · rw [if_pos w, w, hb, decide_eq_false (nI_m1 (by omega)), decide_eq_false (fun w => by have := (nI_leI (by omega) (by omega)).mp w; omega)]
          rfl
        · rw [if_neg w]
      have eta : taI (rgM' (st μ 16 0 2 (nI (q + 1))) u (nI tg) (nI Q) (nI T) (nI q)) u (tN (rgM' (st μ 16 0 2 (nI (q + 1))) u (nI tg) (nI Q) (nI T) (nI q) 6 u 4)) (nI k) (nI t) = nI tg := by
        rw [e6, taI_cong (fun p _ => e10 p) (fun p _ => eth2 _), q3, k2]
      refine N_binding r1 u k _ hu (by rw [eta]; exact nI_m1 (by omega)) ?_
      rw [eta, tN_nI (by omega), eM, pu7, if_pos rfl, show (100 : Int32) = nI 100 by decide, pk_mul, nI_add]
    · exact (r3 16 0 0 (by omega)).trans ((st_i (by decide)).trans l0)
    · exact (r3 16 0 1 (by omega)).trans ((st_i (by decide)).trans l1)
    · exact (r3 16 0 2 (by omega)).trans st_same
    · rw [r3 16 0 (4 + d) (by omega), r3 3 0 d (by omega), st_i (by omega), st_k (by decide)]
      exact l3 d hd
    · exact (r3 16 0 3 (by omega)).trans ((st_i (by decide)).trans l4)
    · rw [r3 11 c 9 (by omega), st_k (by decide)]
      exact l5 c hc
