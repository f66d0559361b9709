/-! call -/
theorem PC.QW {c n : Nat} {μ ν : Mem} (h : PC c n μ ν) (hl : ν 26 0 c = 11) : QW ν c n := by
  obtain ⟨-, -, -, h4, -⟩ := h
  refine ⟨fun b hb => ?_, fun b hb => ?_, by rw [hl]; decide, by rw [hl]; decide⟩
  · obtain ⟨-, -, w3, -, -, w6⟩ := h4 b hb
    rw [← w3]
    rcases w6 with q | q | q <;> rw [q] <;> decide
  · obtain ⟨-, w2, -, -, ⟨q, hq, w5⟩, -⟩ := h4 b hb
    rw [← w2, w5]
    exact nI_pos' (by omega)
/-- a call whose branches have been found begins, in both -/
theorem CR_begin {c n t : Nat} {μ ν : Mem} (h : PC c n μ ν) (a5 : μ 11 c 5 = 11) (a6 : μ 11 c 6 = 0) (a7 : μ 11 c 7 = -1) (a8 : μ 11 c 8 = -1) (a9 : μ 11 c 9 = 0) (a15 : ∀ b, b < 12 → μ 15 c b = 0) (b23 : ν 23 0 c = -1) (b24 : ν 24 0 c = -1) (b26 : ν 26 0 c = 11) (b27 : ν 27 0 c = 0) (hnow : ν 16 0 1 = nI t) : CRn c n (bgM μ c n 11 (nI t)) (mGo ν c) t := by
  have hQ := h.QW b26
  obtain ⟨h1, h2, h3, h4, h5⟩ := h
  by_cases hn : n = 0
  · subst hn
    have ec : bgM μ c 0 11 (nI t) = st μ 11 c 8 480 := if_pos rfl
    have em : mGo ν c = gsM ν c 0 := by
      unfold mGo
      rw [h3, tN_nI (by decide), mgM_go (f := 13) b23 (by show ¬ (false = true); decide)]
      have e23 : gsM ν c 0 23 0 c = 480 := by
        unfold gsM
        rw [if_pos (show nxF ν c 0 = -1 from rfl), st_same]
        rfl
      exact mgM_stop (fun q => by rw [e23] at q; exact absurd q.1 (by decide))
    have e23 : gsM ν c 0 23 0 c = 480 := by
      unfold gsM
      rw [if_pos (show nxF ν c 0 = -1 from rfl), st_same]
      rfl
    have ek : ∀ k o i, k ≠ 23 → k ≠ 26 → k ≠ 27 → k ≠ 30 → gsM ν c 0 k o i = ν k o i := fun k o i x1 x2 x3 x4 => by rw [gsM_k x1, gs1_k x2 x3 x4]
    have e26 : gsM ν c 0 26 0 c = -1 := by rw [gsM_k (by decide), gs1_26]; rfl
    rw [ec, em]
    refine ⟨by decide, by rw [st_i (by decide)]; exact h2, by rw [ek _ _ _ (by decide) (by decide) (by decide) (by decide)]; exact h3, fun b hb => absurd hb (Nat.not_lt_zero b), fun b b' hb => absurd hb (Nat.not_lt_zero b), ⟨11, by decide, by rw [st_i (by decide)]; exact a5⟩, ⟨by rw [e26]; decide, by rw [e26]; decide⟩, Or.inr ⟨by rw [st_same]; decide, by rw [st_same, e23], by rw [st_i (by decide), ek _ _ _ (by decide) (by decide) (by decide) (by decide), a7, b24], fun b hb => absurd hb (Nat.not_lt_zero b), Or.inl ⟨rfl, st_same⟩⟩⟩
  · have ec : bgM μ c n 11 (nI t) = goOnM μ c n 11 (nI t) := if_neg hn
    rw [ec]
    refine goOn_CR (s := 11) h1 hn h2 h3 (fun b hb => ?_) h5 (by decide) a5 (by rw [b26]; exact ⟨by decide, by decide⟩) ⟨a8, b23, a7, b24, a9, by rw [a5, b26], ⟨0, Nat.zero_le t, a6, b27⟩, fun b hb q => ?_, fun b hb _ q => ?_⟩ rfl hnow
    · obtain ⟨w1, w2, w3, w4, w5, w6⟩ := h4 b hb
      refine ⟨w1, w2, w3, by rw [a15 b (by omega), w4], w5, ?_⟩
      rcases w6 with q | q | q
      · exact ⟨0, by decide, q⟩
      · exact ⟨482, by decide, q⟩
      · exact ⟨483, by decide, q⟩
    · obtain ⟨-, -, -, -, -, w6⟩ := h4 b hb
      rcases w6 with z | z | z
      · rw [z] at q; exact absurd q (by decide)
      · rw [z]; exact ⟨by decide, by decide⟩
      · rw [z]; exact ⟨by decide, by decide⟩
    · obtain ⟨-, -, -, -, -, w6⟩ := h4 b hb
      rcases w6 with z | z | z
      · exact z
      · rw [z] at q; exact absurd (by decide) q
      · rw [z] at q; exact absurd (by decide) q
theorem S_call {E : EE} {n : Nat} {μ : Mem} (hR : Rel n μ) (x0 : Int32) : STP E yL_call cL_call 4 [(0, 9, 12, 13), (0, 9, 15, 15)] (rm 10 1) yX3_call cX3_call 3 (rm 6 0) μ [.int x0] (Rel (n + 1)) := by
  have hR1 := hR
  obtain ⟨K, t, h⟩ := hR
  have hH := C_X2_call (E := E) x0 h.vK.1 h.BI h.KI
  have hex : ∀ Z, ((Z = sIA ∧ ¬ okU x0) ∨ (Z = sIS ∧ okU x0 ∧ ¬ μ 0 0 5 < 20)) → Z = sIA ∨ Z = sIS := fun Z q => q.elim (fun a => Or.inl a.1) (fun a => Or.inr a.1)
  rcases Classical.em (¬ okU x0) with ok | ok0
  · exact STP.fail (by decide) (H_call x0 hH hex (fun q => absurd q.1 ok) (fun _ => ⟨rfl, rfl⟩) (fun q => q.elim (fun a => absurd a.1 (by decide)) (fun a => absurd a.2.1 ok))) (F1_X3_call x0 ok) hR1
  have ok := Classical.not_not.mp ok0
  obtain ⟨e, hu⟩ := okU_n ok
  rcases Classical.em (¬ μ 0 0 5 < 20) with h20 | h20n
  · have hk : μ 16 0 8 = 20 := by
      have hK20 := h.2.1
      rw [h.2.2.2.1]
      rw [h.2.2.1, show (20 : Int32) = nI 20 by decide, nI_ltI (by omega) (by decide)] at h20
      rw [show K = 20 by omega]
      decide
    exact STP.fail (by decide) (H_call x0 hH hex (fun q => absurd q.2 h20) (fun q => q.elim (fun a => absurd ok a.2) (fun a => absurd a.1 (by decide))) (fun _ => ⟨rfl, rfl⟩)) (F2_X3_call x0 ok hk) hR1
  have h20 := Classical.not_not.mp h20n
  have hK : K < 20 := by
    have h20 := h20
    rw [h.2.2.1, show (20 : Int32) = nI 20 by decide, nI_ltI (by have := h.2.1; omega) (by decide)] at h20
    exact h20
  have hnew : RNew K μ μ := h.2.2.2.2.2.2.2.2.2 K (Nat.le_refl K) hK
  obtain ⟨r4, r5, r7, r8, r9, r15, r25, r26, r6, r27⟩ := hnew
  have hvn : vN (μ 11 K 4) 12 := (h.KI K hK).1
  have fc := fu0_FC (c := K) μ (tN x0) (-1) hvn
  have hsucc := H_call x0 hH hex (fun _ => ⟨rfl, rfl⟩) (fun q => q.elim (fun a => absurd ok a.2) (fun a => absurd a.1 (by decide))) (fun q => q.elim (fun a => absurd a.1 (by decide)) (fun a => absurd h20 a.2.2))
  have ecl : clM μ (tN x0) = st (bgM (fu0 K (tN x0) (-1) μ) K (tN (fu0 K (tN x0) (-1) μ 11 K 4)) 11 (nI t)) 0 0 5 (nI (K + 1)) := by
    unfold clM
    rw [h.tK, r5, h.2.2.2.2.1]
    rfl
  rw [ecl, h.2.2.1] at hsucc
  -- the class's side
  have gb := GC_bgM (c := K) (n := tN (fu0 K (tN x0) (-1) μ 11 K 4)) (s := 11) (μ := fu0 K (tN x0) (-1) μ) (now := nI t) (by decide)
  have hpr0 : ∀ ν, (∀ k i, 17 ≤ k → k < 23 → ν k 0 i = μ k 0 i) → ν 16 0 1 = μ 16 0 1 → ν 25 0 K = 0 → PR K μ ν := fun ν n1 n2 n3 => ⟨fun u hu => (h.rb hu).cong (fun _ _ _ _ => rfl) n1, by rw [n2]; exact h.now, 0, by decide, r4, n3, fun b hb => absurd hb (Nat.not_lt_zero b), fun b b' hb => absurd hb (Nat.not_lt_zero b)⟩
  have f11 : ∀ i, i ≠ 4 → fu0 K (tN x0) (-1) μ 11 K i = μ 11 K i := fun i hi => fc.1.2 K i hi
  have f15 : ∀ o i, fu0 K (tN x0) (-1) μ 15 o i = μ 15 o i := fun o i => fc.1.1 15 o i (by decide) (by decide) (by decide) (by decide) (by decide)
  have fo : ∀ k o i, 11 ≤ k → o ≠ K → fu0 K (tN x0) (-1) μ k o i = μ k o i := fun k o i a b => fc.2.2 k o i a b
  have fl : ∀ k o i, k ≠ 4 → k < 11 ∨ 15 ≤ k → fu0 K (tN x0) (-1) μ k o i = μ k o i := fun k o i a b => fc.1.1 k o i a (by omega) (by omega) (by omega) (by omega)
  have hF0 : ∀ ν, PR K μ ν → PR K (fu0 K (tN x0) (-1) μ) (v1M K (tN x0) ν) := fun ν hp => F0_eq hu hp
  generalize hμf : fu0 K (tN x0) (-1) μ = μf at hsucc gb f11 f15 fo fl hF0
  generalize hnb : tN (μf 11 K 4) = nb at hsucc gb
  have hbegin : ∀ ν, PC K nb μf ν → ν 23 0 K = -1 → ν 24 0 K = -1 → ν 26 0 K = 11 → ν 27 0 K = 0 → ν 16 0 1 = nI t → CRn K nb (bgM μf K nb 11 (nI t)) (mGo ν K) t := fun ν hp n1 n2 n3 n4 n5 => CR_begin hp (by rw [f11 _ (by decide)]; exact r5) (by rw [f11 _ (by decide)]; exact r6) (by rw [f11 _ (by decide)]; exact r7) (by rw [f11 _ (by decide)]; exact r8) (by rw [f11 _ (by decide)]; exact r9) (fun b hb => by rw [f15]; exact r15 b hb) n1 n2 n3 n4 n5
  generalize hμg : bgM μf K nb 11 (nI t) = μg at hsucc gb hbegin
  have gl : ∀ k o i, k ≠ 4 → k < 11 ∨ 15 ≤ k → μg k o i = μ k o i := fun k o i a b => by rw [gb.k (by omega) (by omega), fl k o i a b]
  have go : ∀ k o i, 11 ≤ k → o ≠ K → μg k o i = μ k o i := fun k o i a b => by rw [gb.o b, fo k o i a b]
  -- all of the memory behind the class's call
  have m1l : ∀ k o i, k < 16 → ¬ (k = 0 ∧ o = 0 ∧ i = 5) → st (st μg 0 0 5 (nI (K + 1))) 33 0 0 (nI K) k o i = μg k o i := fun k o i a b => by rw [st_k (by omega)]; exact if_neg b
  have m15 : st (st μg 0 0 5 (nI (K + 1))) 33 0 0 (nI K) 0 0 5 = nI (K + 1) := by rw [st_k (by decide), st_same]
  have m1h : ∀ k o i, 16 ≤ k → k ≠ 33 → st (st μg 0 0 5 (nI (K + 1))) 33 0 0 (nI K) k o i = μ k o i := fun k o i a b => by rw [st_k b, st_k (by omega), gl k o i (by omega) (by omega)]
  have m133 : st (st μg 0 0 5 (nI (K + 1))) 33 0 0 (nI K) 33 0 0 = nI K := st_same
  generalize hμ1 : st (st μg 0 0 5 (nI (K + 1))) 33 0 0 (nI K) = μ1 at hsucc m1l m15 m1h m133
  -- the reference's side
  have b0 : ∀ k o i, k ≠ 16 → k ≠ 23 → k ≠ 24 → k ≠ 25 → k ≠ 26 → mb0 μ1 K k o i = μ1 k o i := fun k o i x1 x2 x3 x4 x5 => by unfold mb0; rw [st_k x5, st_k x4, st_k x3, st_k x2, st_k x1]
  have b016 : ∀ i, i ≠ 0 → mb0 μ1 K 16 0 i = μ1 16 0 i := fun i hi => by unfold mb0; rw [st_k (by decide), st_k (by decide), st_k (by decide), st_k (by decide), st_i hi]
  have b00 : mb0 μ1 K 16 0 0 = 0 := by unfold mb0; rw [st_k (by decide), st_k (by decide), st_k (by decide), st_k (by decide), st_same]
  have b0i : ∀ k i, 23 ≤ k → i ≠ K → mb0 μ1 K k 0 i = μ1 k 0 i := fun k i hk hi => by unfold mb0; rw [st_i hi, st_i hi, st_i hi, st_i hi, st_k (by omega)]
  have b023 : mb0 μ1 K 23 0 K = -1 := by unfold mb0; rw [st_k (by decide), st_k (by decide), st_k (by decide), st_same]
  have b024 : mb0 μ1 K 24 0 K = -1 := by unfold mb0; rw [st_k (by decide), st_k (by decide), st_same]
  have b025 : mb0 μ1 K 25 0 K = 0 := by unfold mb0; rw [st_k (by decide), st_same]
  have b026 : mb0 μ1 K 26 0 K = 11 := by unfold mb0; rw [st_same]
  have hp1 := hF0 (mb0 μ1 K) (hpr0 (mb0 μ1 K) (fun k i _ _ => by rw [b0 _ _ _ (by omega) (by omega) (by omega) (by omega) (by omega), m1h _ _ _ (by omega) (by omega)]) (by rw [b016 _ (by decide), m1h _ _ _ (by decide) (by decide)]) b025)
  have mc : MC K (mb0 μ1 K) (v1M K (tN x0) (mb0 μ1 K)) := v1L_MC _
  have emb1 : mb1 μ1 K (tN x0) = st (v1M K (tN x0) (mb0 μ1 K)) 16 0 8 (nI (K + 1)) := rfl
  have hM := fun hv1 hW => C_X3_call (E := E) (μ := μ1) (tN x0) K hu hK (by rw [← e]; exact ok) (by rw [m1h _ _ _ (by decide) (by decide)]; exact h.2.2.2.1) ((h.cong (fun _ _ _ _ => rfl) (fun k o i _ _ => m1h _ _ _ (by omega) (by omega)) (m1h _ _ _ (by decide) (by decide)) (m1h _ _ _ (by decide) (by decide)) : RelX n K t μ μ1).MB) hv1 hW
  rw [emb1] at hM
  obtain ⟨-, -, nb', hpc⟩ := hp1
  have enb : nb' = nb := by
    have := hpc.2.1
    rw [← hnb, this, tN_nI (by have := hpc.1; omega)]
  subst enb
  have c2k : ∀ k o i, k ≠ 16 → k ≠ 25 → k ≠ 28 → k ≠ 29 → k ≠ 30 → k ≠ 31 → st (v1M K (tN x0) (mb0 μ1 K)) 16 0 8 (nI (K + 1)) k o i = mb0 μ1 K k o i := fun k o i x0 x1 x2 x3 x4 x5 => by rw [st_k x0, mc.1 k o i x1 x2 x3 x4 x5]
  have c2i : ∀ k i, k ≠ 16 → k ≠ 25 → (i < 12 * K ∨ 12 * K + 12 ≤ i) → st (v1M K (tN x0) (mb0 μ1 K)) 16 0 8 (nI (K + 1)) k 0 i = mb0 μ1 K k 0 i := fun k i x0 x1 x2 => by rw [st_k x0, mc.2.2.2 k 0 i x1 x2]
  have c225 : ∀ i, i ≠ K → st (v1M K (tN x0) (mb0 μ1 K)) 16 0 8 (nI (K + 1)) 25 0 i = mb0 μ1 K 25 0 i := fun i hi => by rw [st_k (by decide), mc.2.2.1 i hi]
  have c216 : ∀ i, i ≠ 8 → st (v1M K (tN x0) (mb0 μ1 K)) 16 0 8 (nI (K + 1)) 16 0 i = mb0 μ1 K 16 0 i := fun i hi => by rw [st_i hi, mc.1 16 0 i (by decide) (by decide) (by decide) (by decide) (by decide)]
  have c28 : st (v1M K (tN x0) (mb0 μ1 K)) 16 0 8 (nI (K + 1)) 16 0 8 = nI (K + 1) := st_same
  have hpc2 : PC K nb' μf (st (v1M K (tN x0) (mb0 μ1 K)) 16 0 8 (nI (K + 1))) := by
    obtain ⟨q1, q2, q3, q4, q5⟩ := hpc
    exact ⟨q1, q2, by rw [st_k (by decide)]; exact q3, fun b hb => by rw [st_k (by decide), st_k (by decide), st_k (by decide), st_k (by decide)]; exact q4 b hb, q5⟩
  generalize hν2 : st (v1M K (tN x0) (mb0 μ1 K)) 16 0 8 (nI (K + 1)) = ν2 at hM c2k c2i c225 c216 c28 hpc2
  have e26 : ν2 26 0 K = 11 := by rw [c2k _ _ _ (by decide) (by decide) (by decide) (by decide) (by decide) (by decide)]; exact b026
  have e25 : tN (ν2 25 0 K) = nb' := by rw [hpc2.2.2.1, tN_nI (by have := hpc2.1; omega)]
  have hv1 : vN (ν2 25 0 K) 12 := by rw [hpc2.2.2.1]; exact vN_nI hpc2.1 (by decide)
  have hW : QW ν2 K (tN (ν2 25 0 K)) := by rw [e25]; exact hpc2.QW e26
  have hM2 := hM hv1 hW
  rw [← e] at hM2
  have mg := (mGo_ok hv1 hW).2
  have hcr := hbegin ν2 hpc2 (by rw [c2k _ _ _ (by decide) (by decide) (by decide) (by decide) (by decide) (by decide)]; exact b023) (by rw [c2k _ _ _ (by decide) (by decide) (by decide) (by decide) (by decide) (by decide)]; exact b024) e26 (by rw [c2k _ _ _ (by decide) (by decide) (by decide) (by decide) (by decide) (by decide), b0 _ _ _ (by decide) (by decide) (by decide) (by decide) (by decide), m1h _ _ _ (by decide) (by decide)]; exact r27) (by rw [c216 _ (by decide), b016 _ (by decide), m1h _ _ _ (by decide) (by decide)]; exact h.2.2.2.2.2.1)
  generalize hνg : mGo ν2 K = νg at hM2 mg hcr
  have lowk : ∀ k o i, k < 16 → ¬ (k = 0 ∧ o = 0 ∧ i = 5) → νg k o i = μg k o i := fun k o i a b => by rw [mg.k (by omega) (by omega) (by omega) (by omega) (by omega), c2k _ _ _ (by omega) (by omega) (by omega) (by omega) (by omega) (by omega), b0 _ _ _ (by omega) (by omega) (by omega) (by omega) (by omega), m1l _ _ _ a b]
  have low5 : νg 0 0 5 = nI (K + 1) := by rw [mg.k (by decide) (by decide) (by decide) (by decide) (by decide), c2k _ _ _ (by decide) (by decide) (by decide) (by decide) (by decide) (by decide), b0 _ _ _ (by decide) (by decide) (by decide) (by decide) (by decide), m15]
  have hik : ∀ k i, 17 ≤ k → (k < 23 ∨ k = 32) → νg k 0 i = μ k 0 i := fun k i a b => by rw [mg.k (by omega) (by omega) (by omega) (by omega) (by omega), c2k _ _ _ (by omega) (by omega) (by omega) (by omega) (by omega) (by omega), b0 _ _ _ (by omega) (by omega) (by omega) (by omega) (by omega), m1h _ _ _ (by omega) (by omega)]
  have hik2 : ∀ k i, 23 ≤ k → k < 28 → i ≠ K → νg k 0 i = μ k 0 i := fun k i a b d => by
    rw [mg k 0 i (fun q => d q.2) (fun q => d q.2) (fun q => d q.2) (fun q => d q.2) (fun q => by omega)]
    by_cases z : k = 25
    · rw [z, c225 i d, b0i _ _ (by decide) d, m1h _ _ _ (by decide) (by decide)]
    · rw [c2k _ _ _ (by omega) z (by omega) (by omega) (by omega) (by omega), b0i _ _ a d, m1h _ _ _ (by omega) (by omega)]
  have hik3 : ∀ k i, 28 ≤ k → k < 32 → (i < 12 * K ∨ 12 * K + 12 ≤ i) → νg k 0 i = μ k 0 i := fun k i a b d => by
    rw [mg k 0 i (fun q => by omega) (fun q => by omega) (fun q => by omega) (fun q => by omega) (fun q => by omega), c2i k i (by omega) (by omega) d, b0 _ _ _ (by omega) (by omega) (by omega) (by omega) (by omega), m1h _ _ _ (by omega) (by omega)]
  obtain ⟨a1, a2, a3, a4, a5, a6, a7, a8, a9, a10⟩ := h
  refine ⟨0, _, _, _, hsucc, hM2, ?_, fun _ => ?_, ⟨K + 1, t, by omega, hK, low5, ?_, ?_, ?_, fun d hd => ?_, fun u hu => ?_, fun c hc => ?_, fun c hc hc2 => ?_⟩⟩
  · rw [mg.k (by decide) (by decide) (by decide) (by decide) (by decide), c216 _ (by decide), b00]
  · rw [mg.k (by decide) (by decide) (by decide) (by decide) (by decide), c2k _ _ _ (by decide) (by decide) (by decide) (by decide) (by decide) (by decide), b0 _ _ _ (by decide) (by decide) (by decide) (by decide) (by decide), m133]
  · rw [mg.k (by decide) (by decide) (by decide) (by decide) (by decide), c28]
  · rw [lowk _ _ _ (by decide) (by decide), gl _ _ _ (by decide) (by decide)]; exact a5
  · rw [mg.k (by decide) (by decide) (by decide) (by decide) (by decide), c216 _ (by decide), b016 _ (by decide), m1h _ _ _ (by decide) (by decide)]; exact a6
  · rw [lowk _ _ _ (by decide) (by omega), gl _ _ _ (by decide) (by decide), hik _ _ (by decide) (Or.inr rfl)]; exact a7 d hd
  · exact (a8 u hu).cong (fun k i _ _ => by rw [lowk _ _ _ (by omega) (by omega), gl _ _ _ (by omega) (by omega)]) (fun k i _ _ => hik k i (by omega) (by omega))
  · by_cases z : c = K
    · subst z
      exact ⟨nb', hcr.cong (Nat.le_refl t) (fun k i _ _ => lowk _ _ _ (by omega) (by omega)) (fun _ _ _ => rfl) (fun _ _ _ _ _ => rfl)⟩
    · exact (a9 c (by omega)).cong (Nat.le_refl t) (fun k i _ _ => by rw [lowk _ _ _ (by omega) (by omega), go _ _ _ (by omega) z]) (fun k _ _ => hik2 _ _ (by omega) (by omega) z) (fun k b _ _ _ => hik3 _ _ (by omega) (by omega) (by omega))
  · exact (a10 c (by omega) hc2).cong (fun i => by rw [lowk _ _ _ (by decide) (by omega), go _ _ _ (by decide) (by omega)]) (fun i => by rw [lowk _ _ _ (by decide) (by omega), go _ _ _ (by decide) (by omega)]) (hik2 _ _ (by decide) (by decide) (by omega)) (hik2 _ _ (by decide) (by decide) (by omega)) (hik2 _ _ (by decide) (by decide) (by omega))
