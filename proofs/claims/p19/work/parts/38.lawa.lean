/-! the law's own methods: the last of its kind -/
def laI (p : Nat → Bool) : Nat → Int32
  | 0 => -1
  | n + 1 => if p n = true then nI n else laI p n
theorem laI_t {p : Nat → Bool} {n : Nat} (h : p n = true) : laI p (n + 1) = nI n := if_pos h
theorem laI_f {p : Nat → Bool} {n : Nat} (h : p n = false) : laI p (n + 1) = laI p n := if_neg (by rw [h]; decide)
theorem laI_sp {p : Nat → Bool} : ∀ n, (laI p n = -1 ∧ ∀ i, i < n → p i = false) ∨ ∃ i, i < n ∧ p i = true ∧ laI p n = nI i ∧ ∀ j, i < j → j < n → p j = false
  | 0 => Or.inl ⟨rfl, fun i hi => absurd hi (Nat.not_lt_zero i)⟩
  | n + 1 => by
    cases e : p n
    · rw [laI_f e]
      rcases laI_sp n with ⟨a, b⟩ | ⟨i, a, b, d, g⟩
      · refine Or.inl ⟨a, fun i hi => ?_⟩
        by_cases z : i = n
        · rw [z]; exact e
        · exact b i (by omega)
      · refine Or.inr ⟨i, by omega, b, d, fun j h1 h2 => ?_⟩
        by_cases z : j = n
        · rw [z]; exact e
        · exact g j h1 (by omega)
    · rw [laI_t e]
      exact Or.inr ⟨n, by omega, e, rfl, fun j h1 h2 => by omega⟩
theorem laI_at {p : Nat → Bool} {n i : Nat} (hi : i < n) (hp : p i = true) (hu : ∀ j, j < n → p j = true → j = i) : laI p n = nI i := by
  rcases laI_sp (p := p) n with ⟨-, b⟩ | ⟨j, a, b, d, -⟩
  · rw [b i hi] at hp; cases hp
  · rw [d, hu j a b]
theorem laI_no {p : Nat → Bool} {n : Nat} (h : ∀ i, i < n → p i = false) : laI p n = -1 := by
  rcases laI_sp (p := p) n with ⟨a, -⟩ | ⟨j, a, b, -⟩
  · exact a
  · rw [h j a] at b; cases b
theorem laI_cong {p q : Nat → Bool} : ∀ {n : Nat}, (∀ i, i < n → p i = q i) → laI p n = laI q n
  | 0, _ => rfl
  | n + 1, h => by
    show (if p n = true then nI n else laI p n) = (if q n = true then nI n else laI q n)
    rw [h n (by omega), laI_cong (fun i hi => h i (by omega))]

set_option maxHeartbeats 4000000 in
set_option maxRecDepth 100000 in
theorem L_L_branchOf {E : EE} {μ : Mem} {C : Ctx} {K t q : Nat} (h : IX K t q μ) (c n : Nat) (hc : c < K) (hn12 : n ≤ 12) (hn : μ 11 c 4 = nI n) (x : Int32) (X : Cx E C cL_branchOf RL 5 (rm 5 0)) (hE : EndI E C cL_branchOf 0 0 (laI (fun j => decide (μ 12 c j = x)) n) μ) : ∀ (f : Nat) (i : Nat), n - i < f → i ≤ n → KF E C 0 0 μ 5 [(4, .int (nI i)), (3, .int (laI (fun j => decide (μ 12 c j = x)) i)), (0, .ref (ad E 0 0)), (1, .int (nI c)), (2, .int x)] [] := by
  intro f
  induction f with
  | zero => intros; omega
  | succ f ih =>
    intro i hf hi
    refine k_iload X 0 dL_branchOf_5 rfl ?_
    refine k_aload_n X 2 dL_branchOf_7 rfl rfl ?_
    refine k_iload_n X 3 dL_branchOf_8 rfl rfl ?_
    refine k_callV (a := 0) (o := 0) (As := [.int (nI c)]) (S := [.int (nI i)]) X lk_L_53 rfl (by decide) rfl (N_branches h c n hc hn) rfl rfl (Nat.le_of_ble_eq_true rfl) ⟨Nat.le_of_ble_eq_true rfl, Nat.le_of_ble_eq_true rfl⟩ ⟨Nat.le_of_ble_eq_true rfl, Nat.le_of_ble_eq_true rfl⟩ dL_branchOf_9 ?_
    show KF E C 0 0 μ 12 _ [.int (nI n), .int (nI i)]
    refine k_ge_n (a := i) (b := n) (tgt := 39) X dL_branchOf_12 (by decide) rfl rfl (by omega) (by omega) (fun c12 => ?_) (fun c12 => ?_)
    · refine k_iload_n X 1 dL_branchOf_39 rfl rfl ?_
      exact k_iret dL_branchOf_40 hE (by rw [show i = n by omega]) rfl
    · refine k_aload_n X 2 dL_branchOf_15 rfl rfl ?_
      refine k_iload_n X 3 dL_branchOf_16 rfl rfl ?_
      refine k_iload X 0 dL_branchOf_17 rfl ?_
      refine k_callV (a := 0) (o := 0) (As := [.int (nI c), .int (nI i)]) (S := []) X lk_L_59 rfl (by decide) rfl (N_device h c n i hc hn12 hn c12) rfl rfl (Nat.le_of_ble_eq_true rfl) ⟨Nat.le_of_ble_eq_true rfl, Nat.le_of_ble_eq_true rfl⟩ ⟨Nat.le_of_ble_eq_true rfl, Nat.le_of_ble_eq_true rfl⟩ dL_branchOf_19 ?_
      show KF E C 0 0 μ 22 _ [.int (μ 12 c i)]
      refine k_iload_n X 4 dL_branchOf_22 rfl rfl ?_
      refine k_icmp_ne (tgt := 31) X dL_branchOf_23 (by decide) (fun c23 => ?_) (fun c23 => ?_)
      · refine k_iload_n X 1 dL_branchOf_31 rfl rfl ?_
        refine k_val (y := laI (fun j => decide (μ 12 c j = x)) (i + 1)) (laI_f (decide_eq_false c23)).symm ?_
        refine k_istore_n (L' := [(3, .int (laI (fun j => decide (μ 12 c j = x)) (i + 1))), (4, .int (nI i)), (0, .ref (ad E 0 0)), (1, .int (nI c)), (2, .int x)]) X dL_branchOf_32 rfl (by decide) rfl ?_
        refine k_iinc (v := nI (i + 1)) (L' := [(4, .int (nI (i + 1))), (3, .int (laI (fun j => decide (μ 12 c j = x)) (i + 1))), (0, .ref (ad E 0 0)), (1, .int (nI c)), (2, .int x)]) X 1 dL_branchOf_33 rfl (nI_1 i) (by decide) rfl ?_
        refine k_goto (tgt := 5) X dL_branchOf_36 (by decide) ?_
        exact ih (i + 1) (by omega) (by omega)
      · refine k_iload X 0 dL_branchOf_26 rfl ?_
        refine k_goto (tgt := 32) X dL_branchOf_28 (by decide) ?_
        refine k_val (y := laI (fun j => decide (μ 12 c j = x)) (i + 1)) (laI_t (decide_eq_true c23)).symm ?_
        refine k_istore_n (L' := [(3, .int (laI (fun j => decide (μ 12 c j = x)) (i + 1))), (4, .int (nI i)), (0, .ref (ad E 0 0)), (1, .int (nI c)), (2, .int x)]) X dL_branchOf_32 rfl (by decide) rfl ?_
        refine k_iinc (v := nI (i + 1)) (L' := [(4, .int (nI (i + 1))), (3, .int (laI (fun j => decide (μ 12 c j = x)) (i + 1))), (0, .ref (ad E 0 0)), (1, .int (nI c)), (2, .int x)]) X 1 dL_branchOf_33 rfl (nI_1 i) (by decide) rfl ?_
        refine k_goto (tgt := 5) X dL_branchOf_36 (by decide) ?_
        exact ih (i + 1) (by omega) (by omega)

set_option maxHeartbeats 4000000 in
set_option maxRecDepth 100000 in
theorem C_L_branchOf {E : EE} {μ : Mem} {K t q : Nat} (h : IX K t q μ) (c n : Nat) (hc : c < K) (hn12 : n ≤ 12) (hn : μ 11 c 4 = nI n) (x : Int32) : MM E yL_branchOf cL_branchOf 5 (some .int) (rm 5 0) [.ref (ad E 0 0), .int (nI c), .int x] μ (some (.int (laI (fun j => decide (μ 12 c j = x)) n))) μ := by
  refine MM.int (own := RL) [(0, .ref (ad E 0 0)), (1, .int (nI c)), (2, .int x)] rfl rfl rfl (Nat.le_of_ble_eq_true rfl) rfl (fun C X hE => ?_)
  refine k_iconst X (-1) dL_branchOf_0 (by decide) ?_
  refine k_istore_n (L' := [(3, .int (-1)), (0, .ref (ad E 0 0)), (1, .int (nI c)), (2, .int x)]) X dL_branchOf_1 rfl (by decide) rfl ?_
  refine k_iconst X (nI 0) dL_branchOf_2 (by decide) ?_
  refine k_istore (L' := [(4, .int (nI 0)), (3, .int (-1)), (0, .ref (ad E 0 0)), (1, .int (nI c)), (2, .int x)]) X dL_branchOf_3 (by decide) rfl ?_
  exact L_L_branchOf h c n hc hn12 hn x X hE (n + 1) 0 (by omega) (Nat.zero_le n)
