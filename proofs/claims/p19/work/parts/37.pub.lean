/-! the object's calls, as the law makes them: in numbers -/
section NPUB
variable {E : EE} {μ : Mem} {K t q : Nat}
theorem okU_nI {u : Nat} (h : u < 6) : okU (nI u) := by
  unfold okU
  rintro (z | z)
  · exact nI_pos (by omega) z
  · have := (nI_ltI (a := 5) (b := u) (by decide) (by omega)).mp z
    omega
theorem N_bindings (h : IX K t q μ) (u th : Nat) (hu : u < 6) (hv : coN μ u (-1) (nI t) = th) : MM E yX2_bindings cX2_bindings 2 (some .int) (rm 4 0) [.ref (ad E 0 0), .int (nI u)] μ (some (.int (nI th))) μ := by
  have hh := C_X2_bindings (E := E) (μ := μ) (nI u) (okU_nI hu)
  rwa [tN_nI (by omega), h.2.2.1, hv] at hh
theorem N_binding (h : IX K t q μ) (u k : Nat) (v : Int32) (hu : u < 6) (hk : ¬ taI μ u (tN (μ 6 u 4)) (nI k) (nI t) = -1) (hv : 100 * taI μ u (tN (μ 6 u 4)) (nI k) (nI t) + μ 7 u (tN (taI μ u (tN (μ 6 u 4)) (nI k) (nI t))) = v) : MM E yX2_binding cX2_binding 5 (some .int) (rm 3 0) [.ref (ad E 0 0), .int (nI u), .int (nI k)] μ (some (.int v)) μ := by
  have e : tN (nI u) = u := tN_nI (by omega)
  have hh := C_X2_binding (E := E) (μ := μ) (nI u) (nI k) h.bq.bi (okU_nI hu) (by rw [e, h.2.2.1]; exact hk)
  rwa [e, h.2.2.1, hv] at hh
theorem N_register (h : IX K t q μ) (u tg Q T : Nat) (v : Nat) (hu : u < 6) (htg : tg < 16) (hQ : Q ≤ 10) (hT : T ≤ 1000) (hq : q ≤ 10000) (hc : 0 < T → coN μ u (nI tg) (nI t) < 6) (hv : coN (rgM' μ u (nI tg) (nI Q) (nI T) (nI q)) u (-1) (nI t) = v) : MM E yX2_register cX2_register 7 (some .int) (rm 4 0) [.ref (ad E 0 0), .int (nI u), .int (nI tg), .int (nI Q), .int (nI T), .int (nI q)] μ (some (.int (nI v))) (rgM' μ u (nI tg) (nI Q) (nI T) (nI q)) := by
  have e : tN (nI u) = u := tN_nI (by omega)
  have et : tN (nI tg) = tg := tN_nI (by omega)
  have ou : ∀ (a M : Nat), a ≤ M → M < 2 ^ 31 → ¬ (nI a < 0 ∨ nI M < nI a) := fun a M h1 h2 => by
    rintro (z | z)
    · exact nI_pos (by omega) z
    · have := (nI_ltI h2 (by omega)).mp z
      omega
  have hh := C_X2_register (E := E) (μ := μ) (nI u) (nI tg) (nI Q) (nI T) (nI q) h.bq.bi (okU_nI hu) ⟨ou tg 15 (by omega) (by decide), ou Q 10 hQ (by decide), ou T 1000 hT (by decide), ou q 10000 hq (by decide)⟩ (by
    rw [e]
    refine ⟨?_, ?_⟩
    · rw [et]
      obtain ⟨m, o, b1, b2, b3, b4, b5⟩ := (h.2.2.2.2.2.1 u hu).1
      rcases b5 tg htg with ⟨c, -⟩ | ⟨⟨s, c1, c2⟩, -⟩
      · rw [c]
        have := nI_toInt (n := q) (by omega)
        simp only [Int32.lt_iff_toInt_lt, im1]; omega
      · rw [c2]; exact (nI_ltI (by omega) (by omega)).mpr c1
    · by_cases z : 0 < T
      · rw [h.2.2.1]
        exact Or.inr ((nI_ltI (b := 6) (by have := ctB_le (coB μ u (nI tg) (nI t)) 16; unfold coN; omega) (by decide)).mpr (hc z))
      · exact Or.inl (by rw [show T = 0 by omega]; decide))
  have e6 : rgM' μ u (nI tg) (nI Q) (nI T) (nI q) 0 0 6 = nI t := by
    unfold rgM'
    rw [puM_k (Or.inl (by decide))]
    exact h.2.2.1
  rwa [e, e6, hv] at hh
theorem N_call (h : IX K t q μ) (u : Nat) (hu : u < 6) (hK : K < 12) : MM E yX2_call cX2_call 3 (some .int) (rm 9 0) [.ref (ad E 0 0), .int (nI u)] μ (some (.int (nI K))) (clM μ u) := by
  have hh := C_X2_call (E := E) (μ := μ) (nI u) h.K5.2 h.bq.bi h.ki (okU_nI hu) (by rw [h.2.1]; exact (nI_ltI (b := 20) (by omega) (by decide)).mpr (by omega))
  rwa [tN_nI (by omega), h.2.1] at hh
theorem N_calls (h : IX K t q μ) : MM E yX2_calls cX2_calls 1 (some .int) (rm 1 0) [.ref (ad E 0 0)] μ (some (.int (nI K))) μ := by
  have hh := C_X2_calls (E := E) (μ := μ)
  rwa [h.2.1] at hh
theorem N_time (h : IX K t q μ) : MM E yX2_time cX2_time 1 (some .int) (rm 1 0) [.ref (ad E 0 0)] μ (some (.int (nI t))) μ := by
  have hh := C_X2_time (E := E) (μ := μ)
  rwa [h.2.2.1] at hh
theorem N_finalOf (h : IX K t q μ) (c : Nat) (hc : c < K) : MM E yX2_finalOf cX2_finalOf 2 (some .int) (rm 3 0) [.ref (ad E 0 0), .int (nI c)] μ (some (.int (μ 11 c 8))) μ := by
  have := h.1
  have hh := C_X2_finalOf (E := E) (μ := μ) (nI c) h.K5.2 (ok_c h.2.1 (by omega) hc)
  rwa [tN_nI (by omega)] at hh
theorem N_branches (h : IX K t q μ) (c n : Nat) (hc : c < K) (hn : μ 11 c 4 = nI n) : MM E yX2_branches cX2_branches 2 (some .int) (rm 3 0) [.ref (ad E 0 0), .int (nI c)] μ (some (.int (nI n))) μ := by
  have := h.1
  have hh := C_X2_branches (E := E) (μ := μ) (nI c) h.K5.2 (ok_c h.2.1 (by omega) hc)
  rwa [tN_nI (by omega), hn] at hh
theorem N_answered (h : IX K t q μ) (c : Nat) (hc : c < K) : MM E yX2_answered cX2_answered 2 (some .int) (rm 3 0) [.ref (ad E 0 0), .int (nI c)] μ (some (.int (μ 11 c 7))) μ := by
  have := h.1
  have hh := C_X2_answered (E := E) (μ := μ) (nI c) h.K5.2 (ok_c h.2.1 (by omega) hc)
  rwa [tN_nI (by omega)] at hh
theorem N_device (h : IX K t q μ) (c n b : Nat) (hc : c < K) (hn12 : n ≤ 12) (hn : μ 11 c 4 = nI n) (hb : b < n) : MM E yX2_device cX2_device 3 (some .int) (rm 4 0) [.ref (ad E 0 0), .int (nI c), .int (nI b)] μ (some (.int (μ 12 c b))) μ := by
  have := h.1
  have hh := C_X2_device (E := E) (μ := μ) (nI c) (nI b) h.K5.2 (fun c hc => (h.ki c hc).1) (ok_c h.2.1 (by omega) hc) (ok_b hn (by omega) hn12 hb)
  rwa [tN_nI (by omega), tN_nI (by omega)] at hh
theorem N_state (h : IX K t q μ) (c n b : Nat) (hc : c < K) (hn12 : n ≤ 12) (hn : μ 11 c 4 = nI n) (hb : b < n) : MM E yX2_state cX2_state 3 (some .int) (rm 4 0) [.ref (ad E 0 0), .int (nI c), .int (nI b)] μ (some (.int (μ 14 c b))) μ := by
  have := h.1
  have hh := C_X2_state (E := E) (μ := μ) (nI c) (nI b) h.K5.2 (fun c hc => (h.ki c hc).1) (ok_c h.2.1 (by omega) hc) (ok_b hn (by omega) hn12 hb)
  rwa [tN_nI (by omega), tN_nI (by omega)] at hh
theorem N_hungUp (d : Nat) (hd : d < 10) : MM E yX2_hungUp cX2_hungUp 2 (some .int) (rm 2 0) [.ref (ad E 0 0), .int (nI d)] μ (some (.int (μ 3 0 d))) μ := by
  have hh := C_X2_hungUp (E := E) (μ := μ) (nI d) (by
    rintro (z | z)
    · exact nI_pos (by omega) z
    · have := (nI_ltI (a := 9) (by decide) (by omega)).mp z
      omega)
  rwa [tN_nI (by omega)] at hh
theorem N_cancel (h : IX K t q μ) (c n : Nat) (hc : c < K) (hn12 : n ≤ 12) (hn : μ 11 c 4 = nI n) (hf : μ 11 c 8 = -1) : MM E yX2_cancel cX2_cancel 3 (some .int) (rm 4 0) [.ref (ad E 0 0), .int (nI c)] μ (some (.int (nI (eoN μ c n)))) (caM μ c n) := by
  have := h.1
  have e : tN (nI c) = c := tN_nI (by omega)
  have hh := C_X2_cancel (E := E) (μ := μ) (nI c) h.K5.2 (ok_c h.2.1 (by omega) hc) h.ki (by rw [e]; exact hf)
  rwa [e, hn, tN_nI (by omega)] at hh
theorem N_fs (h : IX K t q μ) (c n : Nat) (hc : c < K) (hn : CR c n μ) (hf : ¬ μ 11 c 8 = -1) : MM E yX2_finalBySorting cX2_finalBySorting 3 (some .int) (rm 4 0) [.ref (ad E 0 0), .int (nI c)] μ (some (.int (μ 11 c 8))) (fsM μ c n) := by
  have := h.1
  have e : tN (nI c) = c := tN_nI (by omega)
  have hh := C_X2_finalBySorting (E := E) (μ := μ) (nI c) h.K5.2 (ok_c h.2.1 (by omega) hc) h.ki (by rw [e]; exact hf)
  rwa [e, hn.n.2, tN_nI (by have := hn.n.1; omega), hn.sort hf] at hh
theorem N_answer (h : IX K t q μ) (c d : Nat) (cd : Int32) (hc : c < K) (hd : d < 10) (hcd : ¬ (¬ cd = 180 ∧ (cd < 200 ∨ 699 < cd))) (hok : anOk2 μ c (nI d) cd) : MM E yX2_answer cX2_answer 6 (some .int) (rm 5 0) [.ref (ad E 0 0), .int (nI c), .int (nI d), .int cd] μ (some (.int (anM μ c (nI d) cd 11 c 8))) (anM μ c (nI d) cd) := by
  have := h.1
  have e : tN (nI c) = c := tN_nI (by omega)
  have hh := C_X2_answer (E := E) (μ := μ) (nI c) (nI d) cd h.K5.2 h.ki (ok_c h.2.1 (by omega) hc) ⟨by
    rintro (z | z)
    · exact nI_pos (by omega) z
    · have := (nI_ltI (a := 9) (by decide) (by omega)).mp z
      omega, hcd⟩ (by rw [e]; exact hok)
  rwa [e] at hh
theorem N_pass (h : IX K t q μ) (T : Nat) (hT : 1 ≤ T) (hT2 : T ≤ 100) : MM E yX2_pass cX2_pass 4 (some .int) (rm 6 0) [.ref (ad E 0 0), .int (nI T)] μ (some (.int (psN T μ))) (psM T μ) := by
  have hh := C_X2_pass (E := E) (μ := μ) (nI T) h.K5.2 h.ki ⟨fun z => by have := (nI_ltI (b := 1) (by omega) (by decide)).mp z; omega, fun z => by have := (nI_ltI (a := 100) (by decide) (by omega)).mp z; omega⟩
  rwa [tN_nI (by omega)] at hh
end NPUB
