/-! counting -/
theorem ctB_left {p : Nat → Bool} {t : Nat} : ∀ {n : Nat}, t < n → n < 2 ^ 31 → ctB (fun j => !decide (nI j = nI t) && p j) n + (if p t then 1 else 0) = ctB p n
  | 0, h, _ => absurd h (Nat.not_lt_zero t)
  | n + 1, h, hn => by
    by_cases e : t = n
    · subst e
      have h1 : ctB (fun j => !decide (nI j = nI t) && p j) t = ctB p t := ctB_cong fun j hj => by
        show (!decide (nI j = nI t) && p j) = p j
        rw [decide_eq_false (fun q => by have := (nI_eq (by omega) (by omega)).mp q; omega)]; rfl
      show ctB (fun j => !decide (nI j = nI t) && p j) t + (if (!decide (nI t = nI t) && p t) = true then 1 else 0) + (if p t then 1 else 0) = ctB p t + (if p t then 1 else 0)
      rw [h1, decide_eq_true rfl]
      rfl
    · have ih := ctB_left (p := p) (t := t) (n := n) (by omega) (by omega)
      show ctB (fun j => !decide (nI j = nI t) && p j) n + (if (!decide (nI n = nI t) && p n) = true then 1 else 0) + (if p t then 1 else 0) = ctB p n + (if p n then 1 else 0)
      rw [decide_eq_false (show ¬ nI n = nI t from fun q => by have := (nI_eq (by omega) (by omega)).mp q; omega), Bool.not_false, Bool.true_and, ← ih]
      omega
theorem ctB_none {p : Nat → Bool} : ∀ {n : Nat}, (∀ i, i < n → p i = false) → ctB p n = 0
  | 0, _ => rfl
  | n + 1, h => by rw [ctB_f (h n (by omega)), ctB_none (fun i hi => h i (by omega))]
/-- counting by the order in which they came is counting by the targets -/
theorem ctB_ord {o : Nat → Nat} : ∀ (m : Nat) (P : Nat → Bool), (∀ p p', p < m → p' < m → o p = o p' → p = p') → (∀ p, p < m → o p < 16) → (∀ t, t < 16 → P t = true → ∃ p, p < m ∧ o p = t) → ctB (fun p => P (o p)) m = ctB P 16
  | 0, P, _, _, h => (ctB_none (p := P) (n := 16) fun t ht => by
      cases e : P t
      · rfl
      · obtain ⟨p, hp, -⟩ := h t ht e
        exact absurd hp (Nat.not_lt_zero p)).symm
  | m + 1, P, hi, ho, h => by
    have ih := ctB_ord (o := o) m (fun j => !decide (nI j = nI (o m)) && P j) (fun p p' a b => hi p p' (by omega) (by omega)) (fun p hp => ho p (by omega)) (fun t ht e => by
      obtain ⟨e1, e2⟩ := (Bool.and_eq_true _ _).mp e
      obtain ⟨p, hp, q⟩ := h t ht e2
      refine ⟨p, ?_, q⟩
      by_cases z : p = m
      · subst z
        rw [q, decide_eq_true rfl] at e1
        cases e1
      · omega)
    have hl := ctB_left (p := P) (t := o m) (n := 16) (ho m (by omega)) (by decide)
    show ctB (fun p => P (o p)) m + (if P (o m) then 1 else 0) = _
    rw [← hl, ← ih]
    congr 1
    refine ctB_cong fun p hp => ?_
    show P (o p) = (!decide (nI (o p) = nI (o m)) && P (o p))
    rw [decide_eq_false (fun q => by
      have := (nI_eq (by have := ho p (by omega); omega) (by have := ho m (by omega); omega)).mp q
      have := hi p m (by omega) (by omega) this
      omega)]
    rfl
theorem ctB_full {p : Nat → Bool} : ∀ {n : Nat}, ctB p n = n → ∀ i, i < n → p i = true
  | 0, _, i, h => absurd h (Nat.not_lt_zero i)
  | n + 1, e, i, h => by
    have hle := ctB_le p n
    have e2 : ctB p n + (if p n then 1 else 0) = n + 1 := e
    have hp : p n = true := by
      cases q : p n
      · rw [q] at e2; simp at e2; omega
      · rfl
    rw [hp] at e2
    by_cases z : i = n
    · rw [z]; exact hp
    · exact ctB_full (n := n) (by simp at e2; exact e2) i (by omega)
theorem pigeon {o : Nat → Nat} {m t : Nat} (hm : m ≤ 16) (hi : ∀ p p', p < m → p' < m → o p = o p' → p = p') (ho : ∀ p, p < m → o p < 16) (ht : t < 16) (hn : ∀ p, p < m → o p ≠ t) : m < 16 := by
  rcases Nat.lt_or_ge m 16 with q | q
  · exact q
  · exfalso
    obtain rfl : m = 16 := by omega
    have h1 := ctB_ord (o := o) 16 (fun j => anB (fun p => decide (o p = j)) 16) hi ho (fun t ht e => by
      obtain ⟨p, hp, e2⟩ := anB_ex e
      exact ⟨p, hp, of_decide_eq_true e2⟩)
    have h2 : ctB (fun p => anB (fun p' => decide (o p' = o p)) 16) 16 = 16 := by
      have : ∀ n, n ≤ 16 → ctB (fun p => anB (fun p' => decide (o p' = o p)) 16) n = n := by
        intro n
        induction n with
        | zero => intro; rfl
        | succ n ih =>
          intro hn
          rw [ctB_t (p := fun p => anB (fun p' => decide (o p' = o p)) 16) (show anB (fun p' => decide (o p' = o n)) 16 = true from anB_of (i := n) (decide_eq_true rfl) (by omega)), ih (by omega)]
      exact this 16 (by decide)
    rw [h2] at h1
    obtain ⟨p, hp, e⟩ := anB_ex (ctB_full h1.symm t ht)
    exact hn p hp (of_decide_eq_true e)
theorem fsB_cong {p q : Nat → Bool} : ∀ {n : Nat}, (∀ i, i < n → p i = q i) → fsB p n = fsB q n
  | 0, _ => rfl
  | n + 1, h => by
    show (if fsB p n < n then fsB p n else if p n then n else n + 1) = (if fsB q n < n then fsB q n else if q n then n else n + 1)
    rw [fsB_cong (fun i hi => h i (by omega)), h n (by omega)]
theorem fs_ex {p : Nat → Bool} {n i : Nat} (hi : i < n) (h : p i = true) : fsB p n < n := by
  induction i using Nat.strongRecOn with
  | ind i ih =>
    by_cases hk : ∃ k, k < i ∧ p k = true
    · obtain ⟨k, k1, k2⟩ := hk
      exact ih k k1 (by omega) k2
    · have := fsB_at h (fun j hj => by
        cases w : p j
        · rfl
        · exact absurd ⟨j, hj, w⟩ hk) hi
      omega
theorem ct_find {Q : Nat → Bool} {w : Nat} : ∀ {m : Nat}, w < ctB Q m → ∃ p, p < m ∧ Q p = true ∧ ctB Q p = w
  | 0, h => absurd h (Nat.not_lt_zero w)
  | m + 1, h => by
    by_cases e : w < ctB Q m
    · obtain ⟨p, a, b, d⟩ := ct_find e
      exact ⟨p, by omega, b, d⟩
    · cases q : Q m
      · rw [ctB_f q] at h; exact absurd h e
      · rw [ctB_t q] at h
        exact ⟨m, by omega, q, by omega⟩
theorem ct_lt {Q : Nat → Bool} {p : Nat} (hq : Q p = true) : ∀ {m : Nat}, p < m → ctB Q p < ctB Q m
  | 0, h => absurd h (Nat.not_lt_zero p)
  | m + 1, h => by
    by_cases e : p = m
    · subst e; rw [ctB_t hq]; omega
    · have := ct_lt hq (m := m) (by omega)
      have h2 : ctB Q m ≤ ctB Q (m + 1) := Nat.le_add_right _ _
      omega

/-! the registrar: what holds of a user's row -/
def RB (q u : Nat) (μ : Mem) : Prop := ∃ (m : Nat) (o : Nat → Nat), m ≤ 16 ∧ μ 6 u 4 = nI m ∧ (∀ p, p < m → o p < 16 ∧ μ 10 u p = nI (o p)) ∧ (∀ p p', p < m → p' < m → o p = o p' → p = p') ∧ ∀ t, t < 16 → (μ 9 u t = -1 ∧ ∀ p, p < m → o p ≠ t) ∨ ((∃ s, s < q ∧ μ 9 u t = nI s) ∧ (∃ p, p < m ∧ o p = t) ∧ ∃ Q, Q ≤ 10 ∧ μ 7 u t = nI Q)
theorem nI_m1 {n : Nat} (h : n < 2 ^ 31) : ¬ nI n = -1 := fun q => by
  have h1 := nI_toInt h
  rw [q, im1] at h1
  omega
theorem RB.cong {q q' u : Nat} {μ μ' : Mem} (hq : q ≤ q') (h : RB q u μ) (hA : ∀ k i, 6 ≤ k → k < 11 → μ' k u i = μ k u i) : RB q' u μ' := by
  obtain ⟨m, o, b1, b2, b3, b4, b5⟩ := h
  refine ⟨m, o, b1, (hA 6 4 (by decide) (by decide)).trans b2, fun p hp => ⟨(b3 p hp).1, (hA 10 p (by decide) (by decide)).trans (b3 p hp).2⟩, b4, fun t ht => ?_⟩
  rw [hA 9 t (by decide) (by decide), hA 7 t (by decide) (by decide)]
  rcases b5 t ht with c | ⟨⟨s, c1, c2⟩, c3⟩
  · exact Or.inl c
  · exact Or.inr ⟨⟨s, by omega, c2⟩, c3⟩
theorem RB.bi {q u : Nat} {μ : Mem} (h : RB q u μ) : vN (μ 6 u 4) 16 ∧ ∀ p, p < tN (μ 6 u 4) → vN (μ 10 u p) 15 := by
  obtain ⟨m, o, b1, b2, b3, b4, b5⟩ := h
  rw [b2, tN_nI (by omega)]
  refine ⟨vN_nI b1 (by decide), fun p hp => ?_⟩
  rw [(b3 p hp).2]
  exact vN_nI (by have := (b3 p hp).1; omega) (by decide)
theorem coB_m1 {μ : Mem} {u t : Nat} {now : Int32} (ht : t < 16) : coB μ u (-1) now t = thB μ u now t := by
  unfold coB
  rw [decide_eq_false (nI_m1 (by omega))]
  rfl
theorem coN_m1 {μ : Mem} {u : Nat} {now : Int32} : coN μ u (-1) now = ctB (thB μ u now) 16 := ctB_cong fun t ht => coB_m1 ht
theorem coN_left {μ : Mem} {u t : Nat} {now : Int32} (ht : t < 16) : coN μ u (nI t) now + (if thB μ u now t then 1 else 0) = coN μ u (-1) now := by
  rw [coN_m1]
  exact ctB_left (p := thB μ u now) ht (by decide)
/-- the bindings that are there, by their places -/
theorem RB.pl {q u : Nat} {μ : Mem} (now : Int32) (h : RB q u μ) : ∃ tg : Nat → Nat, (∀ k, k < coN μ u (-1) now → tg k < 16 ∧ thB μ u now (tg k) = true ∧ taI μ u (tN (μ 6 u 4)) (nI k) now = nI (tg k) ∧ ∃ Q, Q ≤ 10 ∧ μ 7 u (tg k) = nI Q) ∧ (∀ k k', k < coN μ u (-1) now → k' < coN μ u (-1) now → tg k = tg k' → k = k') ∧ ∀ t, t < 16 → thB μ u now t = true → ∃ k, k < coN μ u (-1) now ∧ tg k = t := by
  obtain ⟨m, o, b1, b2, b3, b4, b5⟩ := h
  have em : tN (μ 6 u 4) = m := by rw [b2, tN_nI (by omega)]
  rw [em]
  have hto : ∀ p, p < m → tN (μ 10 u p) = o p := fun p hp => by rw [(b3 p hp).2, tN_nI (by have := (b3 p hp).1; omega)]
  have hex : ∀ t, t < 16 → thB μ u now t = true → ∃ p, p < m ∧ o p = t := fun t ht e => by
    rcases b5 t ht with ⟨c, -⟩ | ⟨-, c, -⟩
    · exfalso
      unfold thB at e
      rw [decide_eq_true c] at e
      cases e
    · exact c
  have htot : ctB (fun p => thB μ u now (o p)) m = coN μ u (-1) now := by
    rw [coN_m1]
    exact ctB_ord m (thB μ u now) b4 (fun p hp => (b3 p hp).1) hex
  have hle : coN μ u (-1) now ≤ 16 := ctB_le _ _
  have hct : ∀ p, p ≤ m → ctB (fun j => thB μ u now (tN (μ 10 u j))) p = ctB (fun j => thB μ u now (o j)) p := fun p hp => ctB_cong fun j hj => by rw [hto j (by omega)]
  have hta : ∀ k p, p < m → taP μ u now (nI k) p = (thB μ u now (o p) && decide (nI (ctB (fun j => thB μ u now (o j)) p) = nI k)) := fun k p hp => by
    unfold taP
    rw [hto p hp, hct p (by omega)]
  have hfs : ∀ k, k < coN μ u (-1) now → fsB (taP μ u now (nI k)) m < m := fun k hk => by
    obtain ⟨p, p1, p2, p3⟩ := ct_find (Q := fun j => thB μ u now (o j)) (w := k) (m := m) (by rw [htot]; exact hk)
    refine fs_ex p1 ?_
    rw [hta k p p1, p2, p3, decide_eq_true rfl]
    rfl
  have hpl : ∀ k, k < coN μ u (-1) now → thB μ u now (o (fsB (taP μ u now (nI k)) m)) = true ∧ ctB (fun j => thB μ u now (o j)) (fsB (taP μ u now (nI k)) m) = k := fun k hk => by
    have h1 := (fsB_spec (hfs k hk)).1
    rw [hta k _ (hfs k hk)] at h1
    obtain ⟨p1, p2⟩ := (Bool.and_eq_true _ _).mp h1
    refine ⟨p1, ?_⟩
    have p3 := of_decide_eq_true p2
    have hc : ctB (fun j => thB μ u now (o j)) (fsB (taP μ u now (nI k)) m) ≤ fsB (taP μ u now (nI k)) m := ctB_le _ _
    have := hfs k hk
    exact (nI_eq (by omega) (by omega)).mp p3
  refine ⟨fun k => o (fsB (taP μ u now (nI k)) m), fun k hk => ?_, fun k k' hk hk' e => ?_, fun t ht e => ?_⟩
  · have hf := hfs k hk
    refine ⟨(b3 _ hf).1, (hpl k hk).1, ?_, ?_⟩
    · unfold taI
      rw [if_pos hf]
      exact (b3 _ hf).2
    · rcases b5 _ (b3 _ hf).1 with ⟨-, c⟩ | ⟨-, -, c⟩
      · exact absurd rfl (c _ hf)
      · exact c
  · have := b4 _ _ (hfs k hk) (hfs k' hk') e
    rw [← (hpl k hk).2, ← (hpl k' hk').2, this]
  · obtain ⟨p, hp, e2⟩ := hex t ht e
    have hQ : thB μ u now (o p) = true := by rw [e2]; exact e
    have hlt := ct_lt (Q := fun j => thB μ u now (o j)) hQ hp
    rw [htot] at hlt
    refine ⟨ctB (fun j => thB μ u now (o j)) p, hlt, ?_⟩
    show o (fsB (taP μ u now (nI (ctB (fun j => thB μ u now (o j)) p))) m) = t
    have hat : fsB (taP μ u now (nI (ctB (fun j => thB μ u now (o j)) p))) m = p := by
      refine fsB_at ?_ (fun j hj => ?_) hp
      · rw [hta _ p hp, hQ, decide_eq_true rfl]; rfl
      · rw [hta _ j (by omega)]
        cases ej : thB μ u now (o j)
        · rfl
        · have h9 := ct_lt (Q := fun j => thB μ u now (o j)) ej hj
          have hc2 : ctB (fun j => thB μ u now (o j)) j ≤ j := ctB_le _ _
          rw [decide_eq_false (fun q => by
            have := (nI_eq (by omega) (by omega)).mp q
            omega)]
          rfl
    rw [hat, e2]
theorem taI_cong {μ μ' : Mem} {u m : Nat} {w now : Int32} (h10 : ∀ p, p < m → μ' 10 u p = μ 10 u p) (hth : ∀ p, p < m → thB μ' u now (tN (μ 10 u p)) = thB μ u now (tN (μ 10 u p))) : taI μ' u m w now = taI μ u m w now := by
  have e : fsB (taP μ' u now w) m = fsB (taP μ u now w) m := fsB_cong fun p hp => by
    unfold taP
    rw [h10 p hp, hth p hp]
    congr 3
    exact congrArg nI (ctB_cong fun j hj => by rw [h10 j (by omega), hth j (by omega)])
  unfold taI
  rw [e]
  split
  · rename_i q
    exact h10 _ q
  · rfl
theorem puM_k {μ : Mem} {u m t k o i : Nat} {q e s : Int32} (h : k < 6 ∨ 11 ≤ k ∨ o ≠ u) : puM μ u m t q e s k o i = μ k o i := by
  unfold puM
  rcases h with h | h | h
  · rw [st_k (by omega), st_k (by omega), st_k (by omega)]
    split
    · rw [st_k (by omega), st_k (by omega)]
    · rfl
  · rw [st_k (by omega), st_k (by omega), st_k (by omega)]
    split
    · rw [st_k (by omega), st_k (by omega)]
    · rfl
  · rw [st_o h, st_o h, st_o h]
    split
    · rw [st_o h, st_o h]
    · rfl
theorem pu9 {μ : Mem} {u m t i : Nat} {q e s : Int32} : puM μ u m t q e s 9 u i = if i = t then s else μ 9 u i := by
  unfold puM
  by_cases z : i = t
  · subst z; rw [st_same, if_pos rfl]
  · rw [st_i z, if_neg z, st_k (by decide), st_k (by decide)]
    split
    · rw [st_k (by decide), st_k (by decide)]
    · rfl
theorem pu8 {μ : Mem} {u m t i : Nat} {q e s : Int32} : puM μ u m t q e s 8 u i = if i = t then e else μ 8 u i := by
  unfold puM
  rw [st_k (by decide)]
  by_cases z : i = t
  · subst z; rw [st_same, if_pos rfl]
  · rw [st_i z, if_neg z, st_k (by decide)]
    split
    · rw [st_k (by decide), st_k (by decide)]
    · rfl
theorem pu7 {μ : Mem} {u m t i : Nat} {q e s : Int32} : puM μ u m t q e s 7 u i = if i = t then q else μ 7 u i := by
  unfold puM
  rw [st_k (by decide), st_k (by decide)]
  by_cases z : i = t
  · subst z; rw [st_same, if_pos rfl]
  · rw [st_i z, if_neg z]
    split
    · rw [st_k (by decide), st_k (by decide)]
    · rfl
theorem pu6 {μ : Mem} {u m t : Nat} {q e s : Int32} : puM μ u m t q e s 6 u 4 = if μ 9 u t = -1 ∧ m < 16 then nI (m + 1) else μ 6 u 4 := by
  unfold puM
  rw [st_k (by decide), st_k (by decide), st_k (by decide)]
  split
  · rw [st_same]
  · rfl
theorem pu10 {μ : Mem} {u m t p : Nat} {q e s : Int32} : puM μ u m t q e s 10 u p = if (μ 9 u t = -1 ∧ m < 16) ∧ p = m then nI t else μ 10 u p := by
  unfold puM
  rw [st_k (by decide), st_k (by decide), st_k (by decide)]
  by_cases z : μ 9 u t = -1 ∧ m < 16
  · rw [if_pos z, st_k (by decide)]
    by_cases y : p = m
    · subst y; rw [st_same, if_pos ⟨z, rfl⟩]
    · rw [st_i y, if_neg (fun q => y q.2)]
  · rw [if_neg z, if_neg (fun q => z q.1)]
theorem RB.pu {q u t Q sq : Nat} {e : Int32} {μ : Mem} (h : RB q u μ) (hq : q < 2 ^ 31) (ht : t < 16) (hQ : Q ≤ 10) (hs : sq < q + 1) : RB (q + 1) u (puM μ u (tN (μ 6 u 4)) t (nI Q) e (nI sq)) := by
  obtain ⟨m, o, b1, b2, b3, b4, b5⟩ := h
  rw [b2, tN_nI (by omega)]
  by_cases hn : μ 9 u t = -1
  · have hno : ∀ p, p < m → o p ≠ t := by
      rcases b5 t ht with ⟨-, c⟩ | ⟨⟨s, hs2, c⟩, -, -⟩
      · exact c
      · rw [hn] at c
        exact absurd c.symm (nI_m1 (by omega))
    have hm : m < 16 := pigeon b1 b4 (fun p hp => (b3 p hp).1) ht hno
    refine ⟨m + 1, fun p => if p = m then t else o p, hm, by rw [pu6, if_pos ⟨hn, hm⟩], fun p hp => ?_, fun p p' hp hp' ep => ?_, fun t' ht' => ?_⟩
    · rw [pu10]
      by_cases z : p = m
      · rw [if_pos ⟨⟨hn, hm⟩, z⟩]
        show (if p = m then t else o p) < 16 ∧ nI t = nI (if p = m then t else o p)
        rw [if_pos z]
        exact ⟨ht, rfl⟩
      · rw [if_neg (fun q => z q.2)]
        show (if p = m then t else o p) < 16 ∧ μ 10 u p = nI (if p = m then t else o p)
        rw [if_neg z]
        exact b3 p (by omega)
    · have ep' : (if p = m then t else o p) = (if p' = m then t else o p') := ep
      by_cases z : p = m
      · by_cases z' : p' = m
        · rw [z, z']
        · rw [if_pos z, if_neg z'] at ep'
          exact absurd ep'.symm (hno p' (by omega))
      · by_cases z' : p' = m
        · rw [if_neg z, if_pos z'] at ep'
          exact absurd ep' (hno p (by omega))
        · rw [if_neg z, if_neg z'] at ep'
          exact b4 p p' (by omega) (by omega) ep'
    · rw [pu9, pu7]
      by_cases z : t' = t
      · rw [if_pos z, if_pos z]
        exact Or.inr ⟨⟨sq, hs, rfl⟩, ⟨m, by omega, by show (if m = m then t else o m) = t'; rw [if_pos rfl, z]⟩, Q, hQ, rfl⟩
      · rw [if_neg z, if_neg z]
        rcases b5 t' ht' with ⟨c1, c2⟩ | ⟨⟨s, c1, c2⟩, ⟨p, c3, c4⟩, c5⟩
        · refine Or.inl ⟨c1, fun p hp => ?_⟩
          show (if p = m then t else o p) ≠ t'
          by_cases y : p = m
          · rw [if_pos y]; exact fun q => z q.symm
          · rw [if_neg y]; exact c2 p (by omega)
        · exact Or.inr ⟨⟨s, by omega, c2⟩, ⟨p, by omega, by show (if p = m then t else o p) = t'; rw [if_neg (by omega)]; exact c4⟩, c5⟩
  · refine ⟨m, o, b1, by rw [pu6, if_neg (fun q => hn q.1)]; exact b2, fun p hp => ?_, b4, fun t' ht' => ?_⟩
    · rw [pu10, if_neg (fun q => hn q.1.1)]
      exact b3 p hp
    · rw [pu9, pu7]
      by_cases z : t' = t
      · rw [if_pos z, if_pos z]
        rcases b5 t ht with ⟨c, -⟩ | ⟨-, c, -⟩
        · exact absurd c hn
        · rw [z]
          exact Or.inr ⟨⟨sq, hs, rfl⟩, c, Q, hQ, rfl⟩
      · rw [if_neg z, if_neg z]
        rcases b5 t' ht' with c | ⟨⟨s, c1, c2⟩, c3⟩
        · exact Or.inl c
        · exact Or.inr ⟨⟨s, by omega, c2⟩, c3⟩
/-- which bindings are there, after a registration -/
theorem th_pu {μ : Mem} {u m t i : Nat} {q e s now : Int32} : thB (puM μ u m t q e s) u now i = if i = t then (!decide (s = -1) && !decide (e ≤ now)) else thB μ u now i := by
  unfold thB
  rw [pu9, pu8]
  by_cases z : i = t
  · rw [if_pos z, if_pos z, if_pos z]
  · rw [if_neg z, if_neg z, if_neg z]
theorem co_pu {μ : Mem} {u m t : Nat} {q e s now : Int32} (ht : t < 16) : coN (puM μ u m t q e s) u (-1) now + (if thB μ u now t then 1 else 0) = coN μ u (-1) now + (if (!decide (s = -1) && !decide (e ≤ now)) = true then 1 else 0) := by
  have h1 := coN_left (μ := μ) (u := u) (now := now) ht
  have h2 := coN_left (μ := puM μ u m t q e s) (u := u) (now := now) ht
  have h3 : coN (puM μ u m t q e s) u (nI t) now = coN μ u (nI t) now := ctB_cong fun i hi => by
    unfold coB
    rw [th_pu]
    by_cases z : i = t
    · subst z; rw [decide_eq_true rfl]; rfl
    · rw [if_neg z]
  rw [th_pu, if_pos rfl] at h2
  omega
theorem ctB_mono {p q : Nat → Bool} : ∀ {n : Nat}, (∀ i, i < n → p i = true → q i = true) → ctB p n ≤ ctB q n
  | 0, _ => by show 0 ≤ 0; omega
  | n + 1, h => by
    have ih := ctB_mono (p := p) (q := q) (n := n) (fun i hi => h i (by omega))
    show ctB p n + (if p n then 1 else 0) ≤ ctB q n + (if q n then 1 else 0)
    by_cases z : p n = true
    · rw [if_pos z, if_pos (h n (by omega) z)]; omega
    · rw [if_neg z]; omega
theorem co_later {μ μ' : Mem} {u : Nat} {x y : Int32} (h9 : ∀ i, μ' 9 u i = μ 9 u i) (h8 : ∀ i, μ' 8 u i = μ 8 u i) (hxy : x ≤ y) : coN μ' u (-1) y ≤ coN μ u (-1) x := by
  rw [coN_m1, coN_m1]
  refine ctB_mono fun n _ => ?_
  unfold thB
  rw [h9, h8]
  intro q
  obtain ⟨q1, q2⟩ := (Bool.and_eq_true _ _).mp q
  rw [q1, Bool.true_and]
  by_cases z : μ 8 u n ≤ x
  · exfalso
    rw [decide_eq_true (Int32.le_trans z hxy)] at q2
    cases q2
  · rw [decide_eq_false z]; rfl
