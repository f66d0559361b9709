/-! register -/
theorem RB.cong2 {u : Nat} {μ ν μ' ν' : Mem} (h : RB u μ ν) (hA : ∀ k i, 6 ≤ k → k < 11 → μ' k u i = μ k u i) (hB : ∀ k p, 17 ≤ k → k < 22 → p < 16 → ν' k 0 (16 * u + p) = ν k 0 (16 * u + p)) (h22 : ν' 22 0 u = ν 22 0 u) : RB u μ' ν' := by
  obtain ⟨m, o, h1, h2, h3, h4, h5, h6⟩ := h
  refine ⟨m, o, h1, by rw [hA 6 4 (by decide) (by decide)]; exact h2, by rw [h22]; exact h3, fun p hp => ?_, h5, fun t ht => ?_⟩
  · rw [hA 10 p (by decide) (by decide), hB 21 p (by decide) (by decide) (by omega)]
    exact h4 p hp
  · rw [hA 9 t (by decide) (by decide), hA 7 t (by decide) (by decide), hA 8 t (by decide) (by decide), hB 17 t (by decide) (by decide) ht, hB 18 t (by decide) (by decide) ht, hB 19 t (by decide) (by decide) ht, hB 20 t (by decide) (by decide) ht]
    exact h6 t ht
theorem puM_k {μ : Mem} {u m t k o i : Nat} {q e s : Int32} (h : k < 6 ∨ 11 ≤ k ∨ o ≠ u) : puM μ u m t q e s k o i = μ k o i := by
  unfold puM
  have aux : ∀ (μ' : Mem) (a b j : Nat) (x : Int32), 6 ≤ a → a < 11 → b = u → st μ' a b j x k o i = μ' k o i := fun μ' a b j x h1 h2 h3 => if_neg (fun z => by omega)
  rw [aux _ 9 u _ _ (by decide) (by decide) rfl, aux _ 8 u _ _ (by decide) (by decide) rfl, aux _ 7 u _ _ (by decide) (by decide) rfl]
  split
  · rw [aux _ 6 u _ _ (by decide) (by decide) rfl, aux _ 10 u _ _ (by decide) (by decide) rfl]
  · rfl
theorem mrg_k {ν : Mem} {u t m k i : Nat} {q tk sq : Int32} (ht : t < 16) (hm : m < 16 ∨ ¬ ν 17 0 (16 * u + t) = 0) (h : (k < 16 ∨ 23 ≤ k ∨ (k = 16 ∧ i ≠ 0)) ∨ (17 ≤ k ∧ k < 22 ∧ ¬ (16 * u ≤ i ∧ i < 16 * u + 16)) ∨ (k = 22 ∧ i ≠ u)) : mrg ν u t m q tk sq k 0 i = ν k 0 i := by
  unfold mrg
  have aux : ∀ (ν' : Mem) (a j : Nat) (x : Int32), (17 ≤ a ∧ a < 22 ∧ 16 * u ≤ j ∧ j < 16 * u + 16) ∨ (a = 22 ∧ j = u) ∨ (a = 16 ∧ j = 0) → st ν' a 0 j x k 0 i = ν' k 0 i := fun ν' a j x h1 => if_neg (fun z => by omega)
  rw [aux _ 20 _ _ (by omega), aux _ 19 _ _ (by omega), aux _ 18 _ _ (by omega), aux _ 17 _ _ (by omega)]
  split
  · rename_i z
    rw [aux _ 22 _ _ (by omega), aux _ 21 _ _ (by rcases hm with q | q; omega; exact absurd z q), aux _ 16 _ _ (by omega)]
  · rw [aux _ 16 _ _ (by omega)]
theorem mrg_o {ν : Mem} {u t m k o i : Nat} {q tk sq : Int32} (h : k < 16) : mrg ν u t m q tk sq k o i = ν k o i := by
  unfold mrg
  have aux : ∀ (ν' : Mem) (a j : Nat) (x : Int32), 16 ≤ a → st ν' a 0 j x k o i = ν' k o i := fun ν' a j x h1 => st_k (by omega)
  rw [aux _ 20 _ _ (by omega), aux _ 19 _ _ (by omega), aux _ 18 _ _ (by omega), aux _ 17 _ _ (by omega)]
  split
  · rw [aux _ 22 _ _ (by omega), aux _ 21 _ _ (by omega), aux _ 16 _ _ (by omega)]
  · rw [aux _ 16 _ _ (by omega)]
theorem mrg_33 {ν : Mem} {u t m : Nat} {q tk sq : Int32} : mrg ν u t m q tk sq 33 0 0 = ν 33 0 0 ∧ mrg ν u t m q tk sq 16 0 0 = 0 := by
  unfold mrg
  constructor
  · rw [st_k (by decide), st_k (by decide), st_k (by decide), st_k (by decide)]
    split
    · rw [st_k (by decide), st_k (by decide), st_k (by decide)]
    · rw [st_k (by decide)]
  · rw [st_k (by decide), st_k (by decide), st_k (by decide), st_k (by decide)]
    split
    · rw [st_k (by decide), st_k (by decide), st_same]
    · rw [st_same]
def ox (o : Nat → Nat) (m t : Nat) : Nat → Nat := fun p => if p = m then t else o p
theorem ox_m {o : Nat → Nat} {m t : Nat} : ox o m t m = t := if_pos rfl
theorem ox_n {o : Nat → Nat} {m t p : Nat} (h : ¬ p = m) : ox o m t p = o p := if_neg h
/-- the two rows after a binding is put -/
theorem RB_reg {u t Q : Nat} {q tk sq : Int32} {μ ν : Mem} (hB : RB u μ ν) (ht : t < 16) (hq : q = nI Q) (hQ : Q ≤ 10) (hs : 0 ≤ sq) (hn : μ 0 0 6 = ν 16 0 1) : ∃ m, m ≤ 16 ∧ μ 6 u 4 = nI m ∧ ν 22 0 u = nI m ∧ (ν 17 0 (16 * u + t) = 0 → m < 16) ∧ RB u (puM μ u m t q (μ 0 0 6 + tk) sq) (mrg ν u t m q tk sq) := by
  obtain ⟨m, o, h1, h2, h3, h4, h5, h6⟩ := hB
  have hm16 : ν 17 0 (16 * u + t) = 0 → m < 16 := by
    intro z
    rcases h6 t ht with ⟨-, -, a⟩ | ⟨-, a, -⟩
    · exact pigeon h1 h5 (fun p hp => (h4 p hp).1) ht a
    · rw [a] at z; exact absurd z (by decide)
  refine ⟨m, h1, h2, h3, hm16, ?_⟩
  rcases h6 t ht with ⟨k1, k2, k3⟩ | ⟨k1, k2, ⟨p0, hp0, k3⟩, k4, k5, k6, k7⟩
  · have hm := hm16 k2
    have e1 : puM μ u m t q (μ 0 0 6 + tk) sq = st (st (st (st (st μ 10 u m (nI t)) 6 u 4 (nI (m + 1))) 7 u t q) 8 u t (μ 0 0 6 + tk)) 9 u t sq := by unfold puM; rw [if_pos ⟨k1, hm⟩]
    have e2 : mrg ν u t m q tk sq = st (st (st (st (st (st (st ν 16 0 0 0) 21 0 (16 * u + m) (nI t)) 22 0 u (nI (m + 1))) 17 0 (16 * u + t) 1) 18 0 (16 * u + t) (ν 16 0 1 + tk)) 19 0 (16 * u + t) q) 20 0 (16 * u + t) sq := by unfold mrg; rw [if_pos k2]
    rw [e1, e2]
    refine ⟨m + 1, ox o m t, by omega, ?_, ?_, fun p hp => ?_, fun p p' hp hp' => ?_, fun tt htt => ?_⟩
    · rw [st_k (by decide), st_k (by decide), st_k (by decide), st_same]
    · rw [st_k (by decide), st_k (by decide), st_k (by decide), st_k (by decide), st_same]
    · by_cases e : p = m
      · subst e
        rw [ox_m]
        refine ⟨ht, ?_, ?_⟩
        · rw [st_k (by decide), st_k (by decide), st_k (by decide), st_k (by decide), st_same]
        · rw [st_k (by decide), st_k (by decide), st_k (by decide), st_k (by decide), st_k (by decide), st_same]
      · rw [ox_n e]
        obtain ⟨a, b, d⟩ := h4 p (by omega)
        refine ⟨a, ?_, ?_⟩
        · rw [st_k (by decide), st_k (by decide), st_k (by decide), st_k (by decide), st_i e]; exact b
        · rw [st_k (by decide), st_k (by decide), st_k (by decide), st_k (by decide), st_k (by decide), st_i (by omega), st_k (by decide)]; exact d
    · by_cases e : p = m
      · by_cases e' : p' = m
        · intro; omega
        · rw [e, ox_m, ox_n e']
          intro z
          exact absurd z.symm (k3 p' (by omega))
      · by_cases e' : p' = m
        · rw [e', ox_m, ox_n e]
          intro z
          exact absurd z (k3 p (by omega))
        · rw [ox_n e, ox_n e']
          exact h5 p p' (by omega) (by omega)
    · by_cases e : tt = t
      · subst e
        refine Or.inr ⟨by rw [st_same]; exact hs, ?_, ⟨m, by omega, ox_m⟩, ?_, ?_, ?_, Q, hQ, ?_⟩
        · rw [st_k (by decide), st_k (by decide), st_k (by decide), st_same]
        · rw [st_k (by decide), st_k (by decide), st_same, st_k (by decide), st_same]
        · rw [st_k (by decide), st_same, st_k (by decide), st_k (by decide), st_same, hn]
        · rw [st_same, st_same]
        · rw [st_k (by decide), st_k (by decide), st_same]; exact hq
      · have c9 : st (st (st (st (st μ 10 u m (nI t)) 6 u 4 (nI (m + 1))) 7 u t q) 8 u t (μ 0 0 6 + tk)) 9 u t sq 9 u tt = μ 9 u tt := by rw [st_i e, st_k (by decide), st_k (by decide), st_k (by decide), st_k (by decide)]
        have c7 : st (st (st (st (st μ 10 u m (nI t)) 6 u 4 (nI (m + 1))) 7 u t q) 8 u t (μ 0 0 6 + tk)) 9 u t sq 7 u tt = μ 7 u tt := by rw [st_k (by decide), st_k (by decide), st_i e, st_k (by decide), st_k (by decide)]
        have c8 : st (st (st (st (st μ 10 u m (nI t)) 6 u 4 (nI (m + 1))) 7 u t q) 8 u t (μ 0 0 6 + tk)) 9 u t sq 8 u tt = μ 8 u tt := by rw [st_k (by decide), st_i e, st_k (by decide), st_k (by decide), st_k (by decide)]
        have mk : ∀ k, 17 ≤ k → k < 21 → st (st (st (st (st (st (st ν 16 0 0 0) 21 0 (16 * u + m) (nI t)) 22 0 u (nI (m + 1))) 17 0 (16 * u + t) 1) 18 0 (16 * u + t) (ν 16 0 1 + tk)) 19 0 (16 * u + t) q) 20 0 (16 * u + t) sq k 0 (16 * u + tt) = ν k 0 (16 * u + tt) := fun k a b => by
          rw [st_i (by omega), st_i (by omega), st_i (by omega), st_i (by omega), st_k (by omega), st_k (by omega), st_k (by omega)]
        rw [c9, c7, c8, mk 17 (by decide) (by decide), mk 18 (by decide) (by decide), mk 19 (by decide) (by decide), mk 20 (by decide) (by decide)]
        rcases h6 tt htt with ⟨a, b, d⟩ | ⟨a, b, ⟨p, hp, d⟩, f⟩
        · refine Or.inl ⟨a, b, fun p hp => ?_⟩
          by_cases z : p = m
          · rw [z, ox_m]; exact fun q => e q.symm
          · rw [ox_n z]; exact d p (by omega)
        · exact Or.inr ⟨a, b, ⟨p, by omega, by rw [ox_n (by omega)]; exact d⟩, f⟩
  · have k1' : ¬ μ 9 u t = -1 := fun z => by rw [z] at k1; exact absurd k1 (by decide)
    have k2' : ¬ ν 17 0 (16 * u + t) = 0 := fun z => by rw [k2] at z; exact absurd z (by decide)
    have e1 : puM μ u m t q (μ 0 0 6 + tk) sq = st (st (st μ 7 u t q) 8 u t (μ 0 0 6 + tk)) 9 u t sq := by unfold puM; rw [if_neg (fun z => k1' z.1)]
    have e2 : mrg ν u t m q tk sq = st (st (st (st (st ν 16 0 0 0) 17 0 (16 * u + t) 1) 18 0 (16 * u + t) (ν 16 0 1 + tk)) 19 0 (16 * u + t) q) 20 0 (16 * u + t) sq := by unfold mrg; rw [if_neg k2']
    rw [e1, e2]
    refine ⟨m, o, h1, ?_, ?_, fun p hp => ?_, h5, fun tt htt => ?_⟩
    · rw [st_k (by decide), st_k (by decide), st_k (by decide)]; exact h2
    · rw [st_k (by decide), st_k (by decide), st_k (by decide), st_k (by decide), st_k (by decide)]; exact h3
    · rw [st_k (by decide), st_k (by decide), st_k (by decide), st_k (by decide), st_k (by decide), st_k (by decide), st_k (by decide), st_k (by decide)]
      exact h4 p hp
    · by_cases e : tt = t
      · subst e
        refine Or.inr ⟨by rw [st_same]; exact hs, ?_, ⟨p0, hp0, k3⟩, ?_, ?_, ?_, Q, hQ, ?_⟩
        · rw [st_k (by decide), st_k (by decide), st_k (by decide), st_same]
        · rw [st_k (by decide), st_k (by decide), st_same, st_k (by decide), st_same]
        · rw [st_k (by decide), st_same, st_k (by decide), st_k (by decide), st_same, hn]
        · rw [st_same, st_same]
        · rw [st_k (by decide), st_k (by decide), st_same]; exact hq
      · have c9 : st (st (st μ 7 u t q) 8 u t (μ 0 0 6 + tk)) 9 u t sq 9 u tt = μ 9 u tt := by rw [st_i e, st_k (by decide), st_k (by decide)]
        have c7 : st (st (st μ 7 u t q) 8 u t (μ 0 0 6 + tk)) 9 u t sq 7 u tt = μ 7 u tt := by rw [st_k (by decide), st_k (by decide), st_i e]
        have c8 : st (st (st μ 7 u t q) 8 u t (μ 0 0 6 + tk)) 9 u t sq 8 u tt = μ 8 u tt := by rw [st_k (by decide), st_i e, st_k (by decide)]
        have mk : ∀ k, 17 ≤ k → k < 21 → st (st (st (st (st ν 16 0 0 0) 17 0 (16 * u + t) 1) 18 0 (16 * u + t) (ν 16 0 1 + tk)) 19 0 (16 * u + t) q) 20 0 (16 * u + t) sq k 0 (16 * u + tt) = ν k 0 (16 * u + tt) := fun k a b => by
          rw [st_i (by omega), st_i (by omega), st_i (by omega), st_i (by omega), st_k (by omega)]
        rw [c9, c7, c8, mk 17 (by decide) (by decide), mk 18 (by decide) (by decide), mk 19 (by decide) (by decide), mk 20 (by decide) (by decide)]
        exact h6 tt htt
theorem coN_left {u t : Nat} {μ ν : Mem} (hB : RB u μ ν) (ht : t < 16) (hn : μ 0 0 6 = ν 16 0 1) : nI (mtN ν u) - bp (mtB ν u t = true) = nI (coN μ u (nI t) (μ 0 0 6)) := by
  have e : coN μ u (nI t) (μ 0 0 6) = ctB (fun j => !decide (nI j = nI t) && mtB ν u j) 16 := ctB_cong fun j hj => by
    unfold coB
    rw [th_eq hB hj hn]
  have hl := ctB_left (p := mtB ν u) (t := t) (n := 16) ht (by decide)
  rw [e]
  have hle : ctB (mtB ν u) 16 ≤ 16 := ctB_le _ _
  unfold mtN
  cases q : mtB ν u t
  · rw [q] at hl
    rw [bp_f (by decide), ← hl]
    simp
  · rw [q] at hl
    rw [bp_t rfl, ← hl, if_pos rfl, nI_succ]
    apply Int32.toInt_inj.mp
    rw [Int32.add_sub_cancel]
theorem S_register {E : EE} {n : Nat} {μ : Mem} (hR : Rel n μ) (x tg q tk sq : Int32) : STP E yL_register cL_register 8 [(0, 16, 19, 13), (0, 16, 23, 15)] (rm 8 2) yX3_register cX3_register 10 (rm 3 0) μ [.int x, .int tg, .int q, .int tk, .int sq] (Rel (n + 1)) := by
  have hR1 := hR
  obtain ⟨K, t, h⟩ := hR
  have hH := C_X2_register (E := E) x tg q tk sq h.BI
  have hex : ∀ Z, ((Z = sIA ∧ ¬ (okU x ∧ rgOk tg q tk sq)) ∨ (Z = sIS ∧ okU x ∧ rgOk tg q tk sq ∧ ¬ rgOk2 μ (tN x) tg tk sq)) → Z = sIA ∨ Z = sIS := fun Z q => q.elim (fun a => Or.inl a.1) (fun a => Or.inr a.1)
  rcases Classical.em (¬ (okU x ∧ rgOk tg q tk sq)) with ok | ok0
  · exact STP.fail (by decide) (H_register x tg q tk sq hH hex (fun q => absurd ⟨q.1, q.2.1⟩ ok) (fun _ => ⟨rfl, rfl⟩) (fun q => q.elim (fun a => absurd a.1 (by decide)) (fun a => absurd ⟨a.2.1, a.2.2.1⟩ ok))) (F1_X3_register x tg q tk sq ok) hR1
  obtain ⟨ok1, ok2⟩ := Classical.not_not.mp ok0
  obtain ⟨e, hu⟩ := okU_n ok1
  have vt := outP_n (M := 15) (m := 15) (by decide) ok2.1
  have vq := outP_n (M := 10) (m := 10) (by decide) ok2.2.1
  have htk0 : 0 ≤ tk := Int32.not_lt.mp (fun z => ok2.2.2.1 (Or.inl z))
  have hsq0 : 0 ≤ sq := Int32.not_lt.mp (fun z => ok2.2.2.2 (Or.inl z))
  have ht16 : tN tg < 16 := by have := vt.2; omega
  have hB := h.rb hu
  obtain ⟨m, m1, m2, m3, m4, m5⟩ := RB_reg (tk := tk) hB ht16 vq.1 vq.2 hsq0 h.now
  have em : tN (μ 6 (tN x) 4) = m := by rw [m2, tN_nI (by omega)]
  have hcount := coN_left hB ht16 h.now
  rw [← vt.1] at hcount
  have c1 : μ 9 (tN x) (tN tg) < sq ↔ ¬ (¬ μ 17 0 (16 * tN x + tN tg) = 0 ∧ ¬ μ 20 0 (16 * tN x + tN tg) < sq) := by
    obtain ⟨m', o, -, -, -, -, -, h6⟩ := hB
    rcases h6 _ ht16 with ⟨a, b, -⟩ | ⟨a, b, -, -, -, d, -⟩
    · constructor
      · exact fun _ z => z.1 b
      · intro _
        rw [a]
        simp only [Int32.le_iff_toInt_le, Int32.lt_iff_toInt_lt, im1, i0] at hsq0 ⊢
        omega
    · rw [d]
      constructor
      · exact fun z w => w.2 z
      · intro z
        rcases Classical.em (μ 20 0 (16 * tN x + tN tg) < sq) with w | w
        · exact w
        · exact absurd ⟨fun y => by rw [b] at y; exact absurd y (by decide), w⟩ z
  have c2 : (tk = 0 ∨ nI (coN μ (tN x) tg (μ 0 0 6)) < 6) ↔ ¬ (¬ tk ≤ 0 ∧ ¬ nI (mtN μ (tN x)) - bp (mtB μ (tN x) (tN tg) = true) < 6) := by
    rw [hcount]
    have t0 : tk = 0 ↔ tk ≤ 0 := by
      constructor
      · intro z; rw [z]; decide
      · intro z
        apply Int32.toInt_inj.mp
        simp only [Int32.le_iff_toInt_le, i0] at htk0 z ⊢
        omega
    rw [t0]
    constructor
    · rintro (a | a) ⟨b, d⟩
      · exact b a
      · exact d a
    · intro z
      rcases Classical.em (tk ≤ 0) with w | w
      · exact Or.inl w
      · rcases Classical.em (nI (coN μ (tN x) tg (μ 0 0 6)) < 6) with y | y
        · exact Or.inr y
        · exact absurd ⟨w, y⟩ z
  by_cases ok3 : rgOk2 μ (tN x) tg tk sq
  · have hr : rgM' μ (tN x) tg q tk sq = puM μ (tN x) m (tN tg) q (μ 0 0 6 + tk) sq := by unfold rgM'; rw [em]
    rw [hr] at hH
    generalize hv9 : nI (coN (puM μ (tN x) m (tN tg) q (μ 0 0 6 + tk) sq) (tN x) (-1) ((puM μ (tN x) m (tN tg) q (μ 0 0 6 + tk) sq) 0 0 6)) = v at hH
    have fk : ∀ k o i, 16 ≤ k → k ≠ 33 → st (puM μ (tN x) m (tN tg) q (μ 0 0 6 + tk) sq) 33 0 0 v k o i = μ k o i := fun k o i a b => by rw [st_k b, puM_k (by omega)]
    have lowk : ∀ k o i, k < 16 → st (puM μ (tN x) m (tN tg) q (μ 0 0 6 + tk) sq) 33 0 0 v k o i = puM μ (tN x) m (tN tg) q (μ 0 0 6 + tk) sq k o i := fun k o i a => st_k (by omega)
    have out1 : st (puM μ (tN x) m (tN tg) q (μ 0 0 6 + tk) sq) 33 0 0 v 33 0 0 = v := st_same
    have hsucc := H_register x tg q tk sq hH hex (fun _ => ⟨rfl, rfl⟩) (fun q => q.elim (fun a => absurd ⟨ok1, ok2⟩ a.2) (fun a => absurd a.1 (by decide))) (fun q => q.elim (fun a => absurd a.1 (by decide)) (fun a => absurd ok3 a.2.2.2))
    generalize hν1 : st (puM μ (tN x) m (tN tg) q (μ 0 0 6 + tk) sq) 33 0 0 v = ν1 at fk lowk out1 hsucc
    have hB1 : RB (tN x) μ ν1 := hB.cong (fun _ _ _ _ => rfl) (fun k i _ _ => fk _ _ _ (by omega) (by omega))
    have hn1 : μ 0 0 6 = ν1 16 0 1 := by rw [fk _ _ _ (by decide) (by decide)]; exact h.now
    obtain ⟨m', n1, n2, n3, n4, n5⟩ := RB_reg (tk := tk) hB1 ht16 vq.1 vq.2 hsq0 hn1
    have emm : m' = m := by
      rw [m2] at n2
      exact ((nI_eq (by omega) (by omega)).mp n2).symm
    subst emm
    have emt : mtN ν1 (tN x) = mtN μ (tN x) := by
      unfold mtN mtB
      exact ctB_cong fun j hj => by rw [fk _ _ _ (by decide) (by decide), fk _ _ _ (by decide) (by decide), fk _ _ _ (by decide) (by decide)]
    have emb : mtB ν1 (tN x) (tN tg) = mtB μ (tN x) (tN tg) := by
      unfold mtB
      rw [fk _ _ _ (by decide) (by decide), fk _ _ _ (by decide) (by decide), fk _ _ _ (by decide) (by decide)]
    have hM := C_X3_register (E := E) (μ := ν1) (tN x) (tN tg) m' q tk sq hu ht16 (by rw [← e]; exact ok1) (by rw [← vt.1]; exact ok2) n3 n4 (by rw [fk _ _ _ (by decide) (by decide), fk _ _ _ (by decide) (by decide)]; exact c1.mp ok3.1) (by rw [emt, emb]; exact c2.mp ok3.2)
    rw [← e, ← vt.1] at hM
    have hg : ∀ k i, (k < 16 ∨ 23 ≤ k ∨ (k = 16 ∧ i ≠ 0)) ∨ (17 ≤ k ∧ k < 22 ∧ ¬ (16 * tN x ≤ i ∧ i < 16 * tN x + 16)) ∨ (k = 22 ∧ i ≠ tN x) → mrg ν1 (tN x) (tN tg) m' q tk sq k 0 i = ν1 k 0 i := fun k i hh => mrg_k ht16 (by
      rcases Classical.em (ν1 17 0 (16 * tN x + tN tg) = 0) with z | z
      · exact Or.inl (n4 z)
      · exact Or.inr z) hh
    have hlow : ∀ k o i, k < 16 → mrg ν1 (tN x) (tN tg) m' q tk sq k o i = puM μ (tN x) m' (tN tg) q (μ 0 0 6 + tk) sq k o i := fun k o i hk => by rw [mrg_o hk, lowk _ _ _ hk]
    have h33 := mrg_33 (ν := ν1) (u := tN x) (t := tN tg) (m := m') (q := q) (tk := tk) (sq := sq)
    generalize hμ2 : mrg ν1 (tN x) (tN tg) m' q tk sq = μ2 at hM n5 hg hlow h33
    have hnow2 : puM μ (tN x) m' (tN tg) q (μ 0 0 6 + tk) sq 0 0 6 = μ2 16 0 1 := by
      rw [puM_k (by omega), hg _ _ (Or.inl (Or.inr (Or.inr ⟨rfl, by decide⟩))), hn1]
    refine ⟨0, _, _, _, hsucc, hM, h33.2, fun _ => ?_, ⟨K, t, ?_⟩⟩
    · rw [h33.1, out1, ← hv9]
      exact congrArg nI (coN_eq n5 hnow2)
    · obtain ⟨a1, a2, a3, a4, a5, a6, a7, a8, a9, a10⟩ := h
      refine ⟨by omega, a2, ?_, ?_, ?_, ?_, fun d hd => ?_, fun u' hu' => ?_, fun c hc => ?_, fun c hc hc2 => ?_⟩
      · rw [hlow _ _ _ (by decide), puM_k (by omega)]; exact a3
      · rw [hg _ _ (Or.inl (Or.inr (Or.inr ⟨rfl, by decide⟩))), fk _ _ _ (by decide) (by decide)]; exact a4
      · rw [hlow _ _ _ (by decide), puM_k (by omega)]; exact a5
      · rw [hg _ _ (Or.inl (Or.inr (Or.inr ⟨rfl, by decide⟩))), fk _ _ _ (by decide) (by decide)]; exact a6
      · rw [hlow _ _ _ (by decide), puM_k (by omega), hg _ _ (Or.inl (Or.inr (Or.inl (by decide)))), fk _ _ _ (by decide) (by decide)]
        exact a7 d hd
      · by_cases z : u' = tN x
        · subst z
          exact n5.cong (fun k i _ _ => hlow _ _ _ (by omega)) (fun _ _ _ _ => rfl)
        · exact (a8 u' hu').cong2 (fun k i _ _ => by rw [hlow _ _ _ (by omega), puM_k (Or.inr (Or.inr z))]) (fun k p _ _ hp => by rw [hg _ _ (Or.inr (Or.inl ⟨by omega, by omega, by omega⟩)), fk _ _ _ (by omega) (by omega)]) (by rw [hg _ _ (Or.inr (Or.inr ⟨rfl, z⟩)), fk _ _ _ (by decide) (by decide)])
      · exact (a9 c hc).cong (Nat.le_refl t) (fun k i _ _ => by rw [hlow _ _ _ (by omega), puM_k (by omega)]) (fun k _ _ => by rw [hg _ _ (Or.inl (Or.inr (Or.inl (by omega)))), fk _ _ _ (by omega) (by omega)]) (fun k b _ _ _ => by rw [hg _ _ (Or.inl (Or.inr (Or.inl (by omega)))), fk _ _ _ (by omega) (by omega)])
      · exact (a10 c hc hc2).cong (fun i => by rw [hlow _ _ _ (by decide), puM_k (by omega)]) (fun i => by rw [hlow _ _ _ (by decide), puM_k (by omega)]) (by rw [hg _ _ (Or.inl (Or.inr (Or.inl (by decide)))), fk _ _ _ (by decide) (by decide)]) (by rw [hg _ _ (Or.inl (Or.inr (Or.inl (by decide)))), fk _ _ _ (by decide) (by decide)]) (by rw [hg _ _ (Or.inl (Or.inr (Or.inl (by decide)))), fk _ _ _ (by decide) (by decide)])
  · have hbad : (¬ μ 17 0 (16 * tN x + tN tg) = 0 ∧ ¬ μ 20 0 (16 * tN x + tN tg) < sq) ∨ (¬ tk ≤ 0 ∧ ¬ nI (mtN μ (tN x)) - bp (mtB μ (tN x) (tN tg) = true) < 6) := by
      rcases Classical.em (μ 9 (tN x) (tN tg) < sq) with z | z
      · refine Or.inr (Classical.not_not.mp (fun w => ok3 ⟨z, c2.mpr w⟩))
      · exact Or.inl (Classical.not_not.mp (fun w => z (c1.mpr w)))
    have hM := F2_X3_register (E := E) (μ := μ) (tN x) (tN tg) q tk sq hu ht16 (by rw [← e]; exact ok1) (by rw [← vt.1]; exact ok2) hbad
    rw [← e, ← vt.1] at hM
    exact STP.fail (by decide) (H_register x tg q tk sq hH hex (fun q => absurd q.2.2 ok3) (fun q => q.elim (fun a => absurd ⟨ok1, ok2⟩ a.2) (fun a => absurd a.1 (by decide))) (fun _ => ⟨rfl, rfl⟩)) hM hR1
