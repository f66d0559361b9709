/-! the registrar -/
theorem th_eq {u t : Nat} {μ ν : Mem} (hB : RB u μ ν) (ht : t < 16) (hn : μ 0 0 6 = ν 16 0 1) : thB μ u (μ 0 0 6) t = mtB ν u t := by
  obtain ⟨m, o, -, -, -, -, -, h6⟩ := hB
  unfold thB mtB
  rcases h6 t ht with ⟨a, b, -⟩ | ⟨a, b, -, -, d, -⟩
  · rw [decide_eq_true a, decide_eq_true b, Bool.not_true, Bool.false_and, Bool.false_and]
  · have e1 : decide (μ 9 u t = -1) = false := decide_eq_false (fun q => by rw [q] at a; exact absurd a (by decide))
    have e2 : decide (ν 17 0 (16 * u + t) = 0) = false := decide_eq_false (fun q => by rw [b] at q; exact absurd q (by decide))
    rw [e1, e2, d, hn]
theorem coN_eq {u : Nat} {μ ν : Mem} (hB : RB u μ ν) (hn : μ 0 0 6 = ν 16 0 1) : coN μ u (-1) (μ 0 0 6) = mtN ν u := by
  unfold coN mtN
  refine ctB_cong fun t ht => ?_
  unfold coB
  rw [th_eq hB ht hn, decide_eq_false (nI_ne1 (show t < 2 ^ 31 by omega))]
  rfl
theorem ctB_left {p : Nat → Bool} {t : Nat} : ∀ {n : Nat}, t < n → n < 2 ^ 31 → ctB (fun j => !decide (nI j = nI t) && p j) n + (if p t then 1 else 0) = ctB p n
  | 0, h, _ => absurd h (Nat.not_lt_zero t)
  | n + 1, h, hn => by
    by_cases e : t = n
    · subst e
      have h1 : ctB (fun j => !decide (nI j = nI t) && p j) t = ctB p t := ctB_cong fun j hj => by
        show (!decide (nI j = nI t) && p j) = p j
        rw [decide_eq_false (fun q => by have := (nI_eq (by omega) (by omega)).mp q; omega)]; rfl
      show ctB (fun j => !decide (nI j = nI t) && p j) t + (if (!decide (nI t = nI t) && p t) = true then 1 else 0) + (if p t then 1 else 0) = ctB p t + (if p t then 1 else 0)
      rw [h1, decide_eq_true rfl]
      rfl
    · have ih := ctB_left (p := p) (t := t) (n := n) (by omega) (by omega)
      show ctB (fun j => !decide (nI j = nI t) && p j) n + (if (!decide (nI n = nI t) && p n) = true then 1 else 0) + (if p t then 1 else 0) = ctB p n + (if p n then 1 else 0)
      rw [decide_eq_false (show ¬ nI n = nI t from fun q => by have := (nI_eq (by omega) (by omega)).mp q; omega), Bool.not_false, Bool.true_and, ← ih]
      omega
theorem ctB_none {p : Nat → Bool} : ∀ {n : Nat}, (∀ i, i < n → p i = false) → ctB p n = 0
  | 0, _ => rfl
  | n + 1, h => by rw [ctB_f (h n (by omega)), ctB_none (fun i hi => h i (by omega))]
/-- counting by the order in which they came is counting by the targets -/
theorem ctB_ord {o : Nat → Nat} : ∀ (m : Nat) (P : Nat → Bool), (∀ p p', p < m → p' < m → o p = o p' → p = p') → (∀ p, p < m → o p < 16) → (∀ t, t < 16 → P t = true → ∃ p, p < m ∧ o p = t) → ctB (fun p => P (o p)) m = ctB P 16
  | 0, P, _, _, h => (ctB_none (p := P) (n := 16) fun t ht => by
      cases e : P t
      · rfl
      · obtain ⟨p, hp, -⟩ := h t ht e
        exact absurd hp (Nat.not_lt_zero p)).symm
  | m + 1, P, hi, ho, h => by
    have ih := ctB_ord (o := o) m (fun j => !decide (nI j = nI (o m)) && P j) (fun p p' a b => hi p p' (by omega) (by omega)) (fun p hp => ho p (by omega)) (fun t ht e => by
      obtain ⟨e1, e2⟩ := (Bool.and_eq_true _ _).mp e
      obtain ⟨p, hp, q⟩ := h t ht e2
      refine ⟨p, ?_, q⟩
      by_cases z : p = m
      · subst z
        rw [q, decide_eq_true rfl] at e1
        cases e1
      · omega)
    have hl := ctB_left (p := P) (t := o m) (n := 16) (ho m (by omega)) (by decide)
    show ctB (fun p => P (o p)) m + (if P (o m) then 1 else 0) = _
    rw [← hl, ← ih]
    congr 1
    refine ctB_cong fun p hp => ?_
    show P (o p) = (!decide (nI (o p) = nI (o m)) && P (o p))
    rw [decide_eq_false (fun q => by
      have := (nI_eq (by have := ho p (by omega); omega) (by have := ho m (by omega); omega)).mp q
      have := hi p m (by omega) (by omega) this
      omega)]
    rfl
theorem ctB_full {p : Nat → Bool} : ∀ {n : Nat}, ctB p n = n → ∀ i, i < n → p i = true
  | 0, _, i, h => absurd h (Nat.not_lt_zero i)
  | n + 1, e, i, h => by
    have hle := ctB_le p n
    have e2 : ctB p n + (if p n then 1 else 0) = n + 1 := e
    have hp : p n = true := by
      cases q : p n
      · rw [q] at e2; simp at e2; omega
      · rfl
    rw [hp] at e2
    by_cases z : i = n
    · rw [z]; exact hp
    · exact ctB_full (n := n) (by simp at e2; exact e2) i (by omega)
theorem pigeon {o : Nat → Nat} {m t : Nat} (hm : m ≤ 16) (hi : ∀ p p', p < m → p' < m → o p = o p' → p = p') (ho : ∀ p, p < m → o p < 16) (ht : t < 16) (hn : ∀ p, p < m → o p ≠ t) : m < 16 := by
  rcases Nat.lt_or_ge m 16 with q | q
  · exact q
  · exfalso
    obtain rfl : m = 16 := by omega
    have h1 := ctB_ord (o := o) 16 (fun j => anB (fun p => decide (o p = j)) 16) hi ho (fun t ht e => by
      obtain ⟨p, hp, e2⟩ := anB_ex e
      exact ⟨p, hp, of_decide_eq_true e2⟩)
    have h2 : ctB (fun p => anB (fun p' => decide (o p' = o p)) 16) 16 = 16 := by
      have : ∀ n, n ≤ 16 → ctB (fun p => anB (fun p' => decide (o p' = o p)) 16) n = n := by
        intro n
        induction n with
        | zero => intro; rfl
        | succ n ih =>
          intro hn
          rw [ctB_t (p := fun p => anB (fun p' => decide (o p' = o p)) 16) (show anB (fun p' => decide (o p' = o n)) 16 = true from anB_of (i := n) (decide_eq_true rfl) (by omega)), ih (by omega)]
      exact this 16 (by decide)
    rw [h2] at h1
    obtain ⟨p, hp, e⟩ := anB_ex (ctB_full h1.symm t ht)
    exact hn p hp (of_decide_eq_true e)
theorem RelX.now {n K t : Nat} {μ ν : Mem} (h : RelX n K t μ ν) : μ 0 0 6 = ν 16 0 1 := by rw [h.2.2.2.2.1, h.2.2.2.2.2.1]
theorem RelX.rb {n K t u : Nat} {μ ν : Mem} (h : RelX n K t μ ν) (hu : u < 6) : RB u μ ν := h.2.2.2.2.2.2.2.1 u hu
theorem RelX.out1 {n K t : Nat} {μ : Mem} {x y : Int32} (h : RelX n K t μ μ) : RelX n K t μ (st (st μ 33 0 0 y) 16 0 0 x) := h.cong (fun _ _ _ _ => rfl) (fun k o i hk _ => by rw [st_k (by omega), st_k (by omega)]) (by rw [st_i (by decide), st_k (by decide)]) (by rw [st_i (by decide), st_k (by decide)])
theorem S_bindings {E : EE} {n : Nat} {μ : Mem} (hR : Rel n μ) (x0 : Int32) : STP E yL_bindings cL_bindings 4 [(0, 9, 12, 13)] (rm 8 1) yX3_bindings cX3_bindings 2 (rm 3 0) μ [.int x0] (Rel (n + 1)) := by
  have hR1 := hR
  obtain ⟨K, t, h⟩ := hR
  by_cases ok : okU x0
  · obtain ⟨e, hu⟩ := okU_n ok
    have hM := C_X3_bindings (E := E) (μ := st μ 33 0 0 (nI (coN μ (tN x0) (-1) (μ 0 0 6)))) (tN x0) hu (by rw [← e]; exact ok)
    rw [← e] at hM
    refine STP.ask (H_bindings x0 (C_X2_bindings x0) (fun Z q => q.1) (fun _ => ⟨rfl, rfl⟩) (fun q => absurd ok q.2)) hM ?_ hR1
    have hh := h.out1 (x := 0) (y := nI (coN μ (tN x0) (-1) (μ 0 0 6)))
    exact congrArg nI (coN_eq (hh.rb hu) hh.now)
  · exact STP.fail (by decide) (H_bindings x0 (C_X2_bindings x0) (fun Z q => q.1) (fun q => absurd q ok) (fun _ => ⟨rfl, rfl⟩)) (F_X3_bindings x0 ok) hR1
theorem fsB_cong {p q : Nat → Bool} : ∀ {n : Nat}, (∀ i, i < n → p i = q i) → fsB p n = fsB q n
  | 0, _ => rfl
  | n + 1, h => by
    show (if fsB p n < n then fsB p n else if p n then n else n + 1) = (if fsB q n < n then fsB q n else if q n then n else n + 1)
    rw [fsB_cong (fun i hi => h i (by omega)), h n (by omega)]
theorem fs_ex {p : Nat → Bool} {n i : Nat} (hi : i < n) (h : p i = true) : fsB p n < n := by
  induction i using Nat.strongRecOn with
  | ind i ih =>
    by_cases hk : ∃ k, k < i ∧ p k = true
    · obtain ⟨k, k1, k2⟩ := hk
      exact ih k k1 (by omega) k2
    · have := fsB_at h (fun j hj => by
        cases w : p j
        · rfl
        · exact absurd ⟨j, hj, w⟩ hk) hi
      omega
theorem ct_find {Q : Nat → Bool} {w : Nat} : ∀ {m : Nat}, w < ctB Q m → ∃ p, p < m ∧ Q p = true ∧ ctB Q p = w
  | 0, h => absurd h (Nat.not_lt_zero w)
  | m + 1, h => by
    by_cases e : w < ctB Q m
    · obtain ⟨p, a, b, d⟩ := ct_find e
      exact ⟨p, by omega, b, d⟩
    · cases q : Q m
      · rw [ctB_f q] at h; exact absurd h e
      · rw [ctB_t q] at h
        exact ⟨m, by omega, q, by omega⟩
theorem ct_lt {Q : Nat → Bool} {p : Nat} (hq : Q p = true) : ∀ {m : Nat}, p < m → ctB Q p < ctB Q m
  | 0, h => absurd h (Nat.not_lt_zero p)
  | m + 1, h => by
    by_cases e : p = m
    · subst e; rw [ctB_t hq]; omega
    · have := ct_lt hq (m := m) (by omega)
      have h2 : ctB Q m ≤ ctB Q (m + 1) := Nat.le_add_right _ _
      omega
theorem S_binding {E : EE} {n : Nat} {μ : Mem} (hR : Rel n μ) (x0 x1 : Int32) : STP E yL_binding cL_binding 5 [(0, 10, 13, 13), (0, 10, 17, 25)] (rm 8 2) yX3_binding cX3_binding 9 (rm 3 0) μ [.int x0, .int x1] (Rel (n + 1)) := by
  have hR1 := hR
  obtain ⟨K, t, h⟩ := hR
  have hH := C_X2_binding (E := E) x0 x1 h.BI
  have hex : ∀ Z, ((Z = sIA ∧ ¬ okU x0) ∨ (Z = sIO ∧ okU x0 ∧ taI μ (tN x0) (tN (μ 6 (tN x0) 4)) x1 (μ 0 0 6) = -1)) → Z = sIA ∨ Z = sIO := fun Z q => q.elim (fun a => Or.inl a.1) (fun a => Or.inr a.1)
  rcases Classical.em (¬ okU x0) with ok | ok0
  · exact STP.fail (by decide) (H_binding x0 x1 hH hex (fun q => absurd q.1 ok) (fun _ => ⟨rfl, rfl⟩) (fun q => q.elim (fun a => absurd a.1 (by decide)) (fun a => absurd a.2.1 ok))) (F1_X3_binding x0 x1 ok) hR1
  have ok := Classical.not_not.mp ok0
  obtain ⟨e, hu⟩ := okU_n ok
  have hB := h.rb hu
  have hB1 := hB
  obtain ⟨m, o, b1, b2, b3, b4, b5, b6⟩ := hB
  have em : tN (μ 6 (tN x0) 4) = m := by rw [b2, tN_nI (by omega)]
  rw [em] at hH hex
  have hto : ∀ p, p < m → tN (μ 10 (tN x0) p) = o p ∧ tN (μ 21 0 (16 * tN x0 + p)) = o p := fun p hp => by
    obtain ⟨q1, q2, q3⟩ := b4 p hp
    rw [q2, q3, tN_nI (by omega)]
    exact ⟨rfl, rfl⟩
  have hth : ∀ p, p < m → thB μ (tN x0) (μ 0 0 6) (tN (μ 10 (tN x0) p)) = mtB μ (tN x0) (o p) ∧ mtB μ (tN x0) (tN (μ 21 0 (16 * tN x0 + p))) = mtB μ (tN x0) (o p) := fun p hp => by
    obtain ⟨q1, q2⟩ := hto p hp
    rw [q1, q2]
    exact ⟨th_eq hB1 (b4 p hp).1 h.now, rfl⟩
  have hct1 : ∀ p, p ≤ m → ctB (fun j => thB μ (tN x0) (μ 0 0 6) (tN (μ 10 (tN x0) j))) p = ctB (fun j => mtB μ (tN x0) (o j)) p := fun p hp => ctB_cong fun j hj => (hth j (by omega)).1
  have hct2 : ∀ p, p ≤ m → ctB (fun j => mtB μ (tN x0) (tN (μ 21 0 (16 * tN x0 + j)))) p = ctB (fun j => mtB μ (tN x0) (o j)) p := fun p hp => ctB_cong fun j hj => (hth j (by omega)).2
  have htot : ctB (fun j => mtB μ (tN x0) (o j)) m = mtN μ (tN x0) := ctB_ord m (mtB μ (tN x0)) b5 (fun p hp => (b4 p hp).1) (fun tt ht q => by
    rcases b6 tt ht with ⟨-, a, -⟩ | ⟨-, -, a, -⟩
    · exfalso
      unfold mtB at q
      rw [decide_eq_true a] at q
      cases q
    · exact a)
  have hle : mtN μ (tN x0) ≤ 16 := ctB_le _ _
  have hta : ∀ p, p < m → taP μ (tN x0) (μ 0 0 6) x1 p = (mtB μ (tN x0) (o p) && decide (nI (ctB (fun j => mtB μ (tN x0) (o j)) p) = x1)) := fun p hp => by
    unfold taP
    rw [(hth p hp).1, hct1 p (by omega)]
  have hma : ∀ p, p < m → mtaP μ (tN x0) x1 p = (mtB μ (tN x0) (o p) && decide (nI (ctB (fun j => mtB μ (tN x0) (o j)) p) = x1)) := fun p hp => by
    unfold mtaP
    rw [(hth p hp).2, hct2 p (by omega)]
  have hfs : fsB (taP μ (tN x0) (μ 0 0 6) x1) m = fsB (mtaP μ (tN x0) x1) m := fsB_cong fun p hp => by rw [hta p hp, hma p hp]
  have hcond : fsB (mtaP μ (tN x0) x1) m < m ↔ ¬ (x1 < 0 ∨ nI (mtN μ (tN x0)) - 1 < x1) := by
    constructor
    · intro q
      have hp := (fsB_spec q).1
      rw [hma _ q] at hp
      obtain ⟨p1, p2⟩ := (Bool.and_eq_true _ _).mp hp
      have p3 := of_decide_eq_true p2
      have hlt := ct_lt (Q := fun j => mtB μ (tN x0) (o j)) p1 q
      rw [htot] at hlt
      rw [← p3, nI_s1 (by omega)]
      rintro (z | z)
      · exact nI_pos (by omega) z
      · rw [nI_ltI (by omega) (by omega)] at z
        omega
    · intro q
      have hpos : 0 < mtN μ (tN x0) := by
        rcases Nat.eq_zero_or_pos (mtN μ (tN x0)) with z | z
        · exfalso
          apply q
          rw [z]
          rcases Int32.lt_or_le x1 0 with w | w
          · exact Or.inl w
          · refine Or.inr (Int32.lt_of_lt_of_le ?_ w)
            decide
        · exact z
      rw [nI_s1 hpos] at q
      have hv := outP_n (M := nI (mtN μ (tN x0) - 1)) (nI_T (by omega)) q
      obtain ⟨p, p1, p2, p3⟩ := ct_find (Q := fun j => mtB μ (tN x0) (o j)) (w := tN x1) (m := m) (by rw [htot]; have := hv.2; omega)
      refine fs_ex p1 ?_
      rw [hma p p1, p2, p3, ← hv.1, decide_eq_true rfl]
      rfl
  by_cases hc : fsB (mtaP μ (tN x0) x1) m < m
  · have eta : taI μ (tN x0) m x1 (μ 0 0 6) = nI (o (fsB (mtaP μ (tN x0) x1) m)) := by
      unfold taI
      rw [hfs, if_pos hc]
      exact (b4 _ hc).2.1
    have ho16 := (b4 _ hc).1
    have hne : ¬ taI μ (tN x0) m x1 (μ 0 0 6) = -1 := by rw [eta]; exact nI_ne1 (by omega)
    have q7 : μ 7 (tN x0) (o (fsB (mtaP μ (tN x0) x1) m)) = μ 19 0 (16 * tN x0 + o (fsB (mtaP μ (tN x0) x1) m)) := by
      rcases b6 _ ho16 with ⟨-, -, a⟩ | ⟨-, -, -, a, -⟩
      · exact absurd rfl (a _ hc)
      · exact a
    generalize hv9 : (100 * (taI μ (tN x0) m x1 (μ 0 0 6)) + μ 7 (tN x0) (tN (taI μ (tN x0) m x1 (μ 0 0 6)))) = v at hH
    have hh := h.out1 (x := 0) (y := v)
    have hM := C_X3_binding (E := E) (μ := st μ 33 0 0 v) (tN x0) x1 hu (h.cong (fun _ _ _ _ => rfl) (fun k o i hk _ => st_k (by omega)) (st_k (by decide)) (st_k (by decide)) : RelX n K t μ (st μ 33 0 0 v)).MB (by rw [← e]; exact ok) (hcond.mp hc)
    rw [← e] at hM
    refine STP.ask (H_binding x0 x1 hH hex (fun _ => ⟨rfl, rfl⟩) (fun q => q.elim (fun a => absurd ok a.2) (fun a => absurd a.1 (by decide))) (fun q => q.elim (fun a => absurd a.1 (by decide)) (fun a => absurd a.2.2 hne))) hM ?_ hR1
    have e22 : tN (st μ 33 0 0 v 22 0 (tN x0)) = m := by rw [st_k (by decide), b3, tN_nI (by omega)]
    rw [e22]
    show v = (if fsB (mtaP μ (tN x0) x1) m < m then nI (100 * tN (μ 21 0 (16 * tN x0 + fsB (mtaP μ (tN x0) x1) m))) + μ 19 0 (16 * tN x0 + tN (μ 21 0 (16 * tN x0 + fsB (mtaP μ (tN x0) x1) m))) else 0)
    rw [if_pos hc, ← hv9, eta, (hto _ hc).2, tN_nI (by omega), q7]
    congr 1
    rw [show (100 : Int32) = nI 100 by decide]
    exact (Int32.ofNat_mul _ _).symm
  · have eta : taI μ (tN x0) m x1 (μ 0 0 6) = -1 := by
      unfold taI
      rw [hfs, if_neg hc]
    have hM := F2_X3_binding (E := E) (μ := μ) (tN x0) x1 hu (by rw [← e]; exact ok) (Classical.not_not.mp (fun q => hc (hcond.mpr q)))
    rw [← e] at hM
    exact STP.fail (by decide) (H_binding x0 x1 hH hex (fun q => absurd eta q.2) (fun q => q.elim (fun a => absurd ok a.2) (fun a => absurd a.1 (by decide))) (fun _ => ⟨rfl, rfl⟩)) hM hR1
