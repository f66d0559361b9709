/-! words for what the methods compute -/
def bp (P : Prop) [Decidable P] : Int32 := if P then 1 else 0
theorem bp_t {P : Prop} [Decidable P] (h : P) : bp P = 1 := if_pos h
theorem bp_f {P : Prop} [Decidable P] (h : ¬ P) : bp P = 0 := if_neg h
theorem bp_0 {P : Prop} [Decidable P] : bp P = 0 ↔ ¬ P := by
  by_cases h : P
  · rw [bp_t h]; exact ⟨fun q => absurd q (by decide), fun q => absurd h q⟩
  · rw [bp_f h]; exact ⟨fun _ => h, fun _ => rfl⟩
theorem bp_nar {P : Prop} [Decidable P] : narrow .boolean (.int (bp P)) = .int (bp P) := by
  by_cases h : P
  · rw [bp_t h]; rfl
  · rw [bp_f h]; rfl
theorem bp_cong {P Q : Prop} [Decidable P] [Decidable Q] (h : P ↔ Q) : bp P = bp Q := by
  by_cases hq : Q
  · rw [bp_t hq, bp_t (h.mpr hq)]
  · rw [bp_f hq, bp_f (fun q => hq (h.mp q))]
def anB (p : Nat → Bool) : Nat → Bool
  | 0 => false
  | n + 1 => anB p n || p n
theorem anB_of {p : Nat → Bool} {i : Nat} (hp : p i = true) : ∀ {n : Nat}, i < n → anB p n = true
  | 0, h => absurd h (Nat.not_lt_zero i)
  | n + 1, h => by
    unfold anB
    by_cases e : i = n
    · subst e; rw [hp, Bool.or_true]
    · rw [anB_of hp (by omega), Bool.true_or]
theorem anB_no {p : Nat → Bool} : ∀ {n : Nat}, (∀ i, i < n → p i = false) → anB p n = false
  | 0, _ => rfl
  | n + 1, h => by
    unfold anB
    rw [anB_no (fun i hi => h i (by omega)), h n (by omega)]
    rfl
theorem anB_ex {p : Nat → Bool} : ∀ {n : Nat}, anB p n = true → ∃ i, i < n ∧ p i = true
  | 0, h => by cases h
  | n + 1, h => by
    unfold anB at h
    rcases (Bool.or_eq_true _ _).mp h with h | h
    · obtain ⟨i, h1, h2⟩ := anB_ex h
      exact ⟨i, by omega, h2⟩
    · exact ⟨n, by omega, h⟩
theorem anB_all {p : Nat → Bool} {n : Nat} (h : anB p n = false) : ∀ i, i < n → p i = false := by
  intro i hi
  cases e : p i
  · rfl
  · rw [anB_of e hi] at h; cases h
theorem anB_cong {p q : Nat → Bool} : ∀ {n : Nat}, (∀ i, i < n → p i = q i) → anB p n = anB q n
  | 0, _ => rfl
  | n + 1, h => by
    unfold anB
    rw [anB_cong (fun i hi => h i (by omega)), h n (by omega)]
/-- the first i below n with p, else n -/
def fsB (p : Nat → Bool) : Nat → Nat
  | 0 => 0
  | n + 1 => if fsB p n < n then fsB p n else if p n then n else n + 1
theorem fsB_le (p : Nat → Bool) : ∀ n, fsB p n ≤ n
  | 0 => Nat.le_refl 0
  | n + 1 => by
    have := fsB_le p n
    unfold fsB
    split
    · omega
    · split <;> omega
theorem fsB_no {p : Nat → Bool} : ∀ {n : Nat}, (∀ i, i < n → p i = false) → fsB p n = n
  | 0, _ => rfl
  | n + 1, h => by
    unfold fsB
    rw [fsB_no (fun i hi => h i (by omega)), if_neg (Nat.lt_irrefl n), h n (by omega)]
    rfl
theorem fsB_at {p : Nat → Bool} {i : Nat} (hp : p i = true) (hb : ∀ j, j < i → p j = false) : ∀ {n : Nat}, i < n → fsB p n = i
  | 0, h => absurd h (Nat.not_lt_zero i)
  | n + 1, h => by
    unfold fsB
    by_cases e : i = n
    · subst e
      rw [fsB_no hb, if_neg (Nat.lt_irrefl i), hp]
      rfl
    · rw [fsB_at hp hb (n := n) (by omega), if_pos (by omega)]
theorem fsB_spec {p : Nat → Bool} : ∀ {n : Nat}, fsB p n < n → p (fsB p n) = true ∧ ∀ j, j < fsB p n → p j = false
  | 0, h => absurd h (Nat.not_lt_zero _)
  | n + 1, h => by
    by_cases e : fsB p n < n
    · have e2 : fsB p (n + 1) = fsB p n := by
        show (if fsB p n < n then fsB p n else if p n then n else n + 1) = _
        rw [if_pos e]
      rw [e2]
      exact fsB_spec e
    · have e1 : fsB p n = n := by
        have := fsB_le p n
        omega
      have hno : ∀ j, j < n → p j = false := by
        intro j hj
        cases hpj : p j
        · rfl
        · exfalso
          have : ∃ i, i < n ∧ p i = true ∧ ∀ k, k < i → p k = false := by
            clear h e e1
            induction j using Nat.strongRecOn with
            | ind j ih =>
              by_cases hk : ∃ k, k < j ∧ p k = true
              · obtain ⟨k, h1, h2⟩ := hk
                exact ih k h1 (by omega) h2
              · refine ⟨j, hj, hpj, fun k hk1 => ?_⟩
                cases hpk : p k
                · rfl
                · exact absurd ⟨k, hk1, hpk⟩ hk
          obtain ⟨i, h1, h2, h3⟩ := this
          have := fsB_at h2 h3 h1
          omega
      have e2 : fsB p (n + 1) = if p n then n else n + 1 := by
        show (if fsB p n < n then fsB p n else if p n then n else n + 1) = _
        rw [if_neg e]
      cases hpn : p n
      · rw [e2, hpn] at h
        exact absurd h (Nat.lt_irrefl _)
      · rw [e2, hpn]
        exact ⟨hpn, hno⟩
def frI (p : Nat → Bool) (n : Nat) : Int32 := if fsB p n < n then nI (fsB p n) else -1
theorem frI_at {p : Nat → Bool} {i n : Nat} (hp : p i = true) (hb : ∀ j, j < i → p j = false) (h : i < n) : frI p n = nI i := by
  unfold frI
  rw [fsB_at hp hb h, if_pos h]
theorem frI_no {p : Nat → Bool} {n : Nat} (h : ∀ i, i < n → p i = false) : frI p n = -1 := by
  unfold frI
  rw [fsB_no h, if_neg (Nat.lt_irrefl n)]
def ctB (p : Nat → Bool) : Nat → Nat
  | 0 => 0
  | n + 1 => ctB p n + (if p n then 1 else 0)
theorem ctB_le (p : Nat → Bool) : ∀ n, ctB p n ≤ n
  | 0 => Nat.le_refl 0
  | n + 1 => by
    have := ctB_le p n
    unfold ctB
    split <;> omega
theorem ctB_t {p : Nat → Bool} {n : Nat} (h : p n = true) : ctB p (n + 1) = ctB p n + 1 := by
  show ctB p n + (if p n then 1 else 0) = _
  rw [h]; rfl
theorem ctB_f {p : Nat → Bool} {n : Nat} (h : p n = false) : ctB p (n + 1) = ctB p n := by
  show ctB p n + (if p n then 1 else 0) = _
  rw [h]; rfl
theorem ctB_cong {p q : Nat → Bool} : ∀ {n : Nat}, (∀ i, i < n → p i = q i) → ctB p n = ctB q n
  | 0, _ => rfl
  | n + 1, h => by
    unfold ctB
    rw [ctB_cong (fun i hi => h i (by omega)), h n (by omega)]
/-- n places of a row from a on, put anew -/
def up (μ : Mem) (k o a n : Nat) (g : Nat → Int32) : Mem := fun k' o' i => if k' = k ∧ o' = o ∧ a ≤ i ∧ i < a + n then g (i - a) else μ k' o' i
theorem up_0 {μ : Mem} {k o a : Nat} {g : Nat → Int32} : up μ k o a 0 g = μ := by
  funext k' o' i
  unfold up
  rw [if_neg (by omega)]
theorem up_st {μ : Mem} {k o a i : Nat} {g : Nat → Int32} {x : Int32} (hx : x = g i) : st (up μ k o a i g) k o (a + i) x = up μ k o a (i + 1) g := by
  subst hx
  funext k' o' j
  unfold up st
  by_cases h : k' = k ∧ o' = o ∧ j = a + i
  · rw [if_pos h, if_pos (by omega), h.2.2, Nat.add_sub_cancel_left]
  · rw [if_neg h]
    show (if k' = k ∧ o' = o ∧ a ≤ j ∧ j < a + i then g (j - a) else μ k' o' j) = _
    by_cases h2 : k' = k ∧ o' = o ∧ a ≤ j ∧ j < a + i
    · rw [if_pos h2, if_pos (by omega)]
    · rw [if_neg h2, if_neg (by omega)]
theorem up_no {μ : Mem} {k o a i : Nat} {g : Nat → Int32} (hx : g i = μ k o (a + i)) : up μ k o a i g = up μ k o a (i + 1) g := by
  funext k' o' j
  unfold up
  by_cases h2 : k' = k ∧ o' = o ∧ a ≤ j ∧ j < a + i
  · rw [if_pos h2, if_pos (by omega)]
  · rw [if_neg h2]
    by_cases h : k' = k ∧ o' = o ∧ j = a + i
    · rw [if_pos (by omega)]
      obtain ⟨rfl, rfl, rfl⟩ := h
      rw [Nat.add_sub_cancel_left]
      exact hx.symm
    · rw [if_neg (by omega)]
theorem up_k {μ : Mem} {k o a n k' o' i : Nat} {g : Nat → Int32} (h : k' ≠ k) : up μ k o a n g k' o' i = μ k' o' i := if_neg (fun q => h q.1)
theorem up_o {μ : Mem} {k o a n k' o' i : Nat} {g : Nat → Int32} (h : o' ≠ o) : up μ k o a n g k' o' i = μ k' o' i := if_neg (fun q => h q.2.1)
theorem up_out {μ : Mem} {k o a n i : Nat} {g : Nat → Int32} (h : i < a ∨ a + n ≤ i) : up μ k o a n g k o i = μ k o i := if_neg (by omega)
theorem up_in {μ : Mem} {k o a n i : Nat} {g : Nat → Int32} (h : i < n) : up μ k o a n g k o (a + i) = g i := by
  unfold up
  rw [if_pos ⟨rfl, rfl, by omega, by omega⟩, Nat.add_sub_cancel_left]
theorem up_in0 {μ : Mem} {k o n i : Nat} {g : Nat → Int32} (h : i < n) : up μ k o 0 n g k o i = g i := by
  have := up_in (μ := μ) (k := k) (o := o) (a := 0) (g := g) h
  rwa [Nat.zero_add] at this
theorem st_k {μ : Mem} {k o i k' o' i' : Nat} {x : Int32} (h : k' ≠ k) : st μ k o i x k' o' i' = μ k' o' i' := if_neg (fun q => h q.1)
theorem st_o {μ : Mem} {k o i k' o' i' : Nat} {x : Int32} (h : o' ≠ o) : st μ k o i x k' o' i' = μ k' o' i' := if_neg (fun q => h q.2.1)
theorem st_i {μ : Mem} {k o i k' o' i' : Nat} {x : Int32} (h : i' ≠ i) : st μ k o i x k' o' i' = μ k' o' i' := if_neg (fun q => h q.2.2)
section KB
variable {E : EE} {C : Ctx} {bs : ByteArray} {own : String} {nL k n pc : Nat} {R : Room} {μ : Mem} {L : List (Nat × Value)} {S : List Value}
theorem k_if_eq_p (X : Cx E C bs own nL R) {P : Prop} [Decidable P] {off : Int} {tgt : Nat} (d : decode bs pc = .ok (.ifCond .eq off, 3)) (ht : (pc : Int) + off = (tgt : Int)) (kt : ¬ P → KF E C k n μ tgt L S) (kf : P → KF E C k n μ (pc + 3) L S) : KF E C k n μ pc L (.int (bp P) :: S) :=
  k_if_eq X d ht (fun h => kt (bp_0.mp h)) (fun h => kf (by by_cases q : P; exact q; exact absurd (bp_f q) h))
theorem k_if_ne_p (X : Cx E C bs own nL R) {P : Prop} [Decidable P] {off : Int} {tgt : Nat} (d : decode bs pc = .ok (.ifCond .ne off, 3)) (ht : (pc : Int) + off = (tgt : Int)) (kt : P → KF E C k n μ tgt L S) (kf : ¬ P → KF E C k n μ (pc + 3) L S) : KF E C k n μ pc L (.int (bp P) :: S) :=
  k_if_ne X d ht (fun h => kt (by by_cases q : P; exact q; exact absurd (bp_f q) h)) (fun h => kf (bp_0.mp h))
end KB
theorem up0_st {μ : Mem} {k o i : Nat} {g : Nat → Int32} {x : Int32} (hx : x = g i) : st (up μ k o 0 i g) k o i x = up μ k o 0 (i + 1) g := by
  have h := up_st (μ := μ) (k := k) (o := o) (a := 0) hx
  rwa [Nat.zero_add] at h
theorem up0_no {μ : Mem} {k o i : Nat} {g : Nat → Int32} (hx : g i = μ k o i) : up μ k o 0 i g = up μ k o 0 (i + 1) g := up_no (by rw [Nat.zero_add]; exact hx)
theorem up0_next {μ : Mem} {k o i : Nat} {g : Nat → Int32} : up μ k o 0 i g k o i = μ k o i := up_out (by omega)
theorem sub1 (x : Int32) : x + Int32.ofInt (-1) = x - 1 := by rw [Int32.sub_eq_add_neg]; rfl
/-! calls: rows and fields of the class's calls -/
def wtP (μ : Mem) (c : Nat) : Nat → Bool := fun b => decide (μ 11 c 5 ≤ μ 13 c b) && !decide (200 ≤ μ 14 c b)
def addM (μ : Mem) (c n : Nat) (x y z : Int32) : Mem := if n < 12 then st (st (st (st μ 12 c n x) 13 c n y) 14 c n z) 11 c 4 (nI (n + 1)) else μ
def sg1 (μ : Mem) (c n : Nat) (q : Int32) : Mem := up μ 14 c 0 n (fun b => if μ 13 c b = q ∧ ¬ 200 ≤ μ 14 c b then 100 else μ 14 c b)
def sgM (μ : Mem) (c n : Nat) (q now : Int32) : Mem := sg1 (st (st μ 11 c 5 q) 11 c 6 now) c n q
theorem sgM_n {μ : Mem} {c n : Nat} {q now : Int32} : sgM μ c n q now 11 c 4 = μ 11 c 4 := by simp [sgM, sg1, up, st]
def eoM (μ : Mem) (c n : Nat) : Mem := up μ 14 c 0 n (fun b => if 200 ≤ μ 14 c b then μ 14 c b else 487)
def eoN (μ : Mem) (c n : Nat) : Nat := ctB (fun b => !decide (200 ≤ μ 14 c b)) n
def rgM (μ : Mem) (c n : Nat) : Mem := up μ 14 c 0 n (fun b => if μ 11 c 5 ≤ μ 13 c b ∧ ¬ 200 ≤ μ 14 c b then 408 else μ 14 c b)
def beL (f : Nat → Int32) : Nat → Int32
  | 0 => -1
  | n + 1 => if f n = 487 then beL f n else if beL f n = -1 then f n else if f n < beL f n then f n else beL f n
def beG (f : Nat → Int32) : Nat → Int32
  | 0 => -1
  | n + 1 => if f n = 487 then beG f n else if beG f n < f n then f n else beG f n
theorem beL_0 {f : Nat → Int32} {n : Nat} (h : f n = 487) : beL f (n + 1) = beL f n := if_pos h
theorem beL_1 {f : Nat → Int32} {n : Nat} (h : ¬ f n = 487) (h2 : beL f n = -1) : beL f (n + 1) = f n := by
  show (if f n = 487 then beL f n else if beL f n = -1 then f n else if f n < beL f n then f n else beL f n) = _
  rw [if_neg h, if_pos h2]
theorem beL_2 {f : Nat → Int32} {n : Nat} (h : ¬ f n = 487) (h2 : ¬ beL f n = -1) : beL f (n + 1) = if f n < beL f n then f n else beL f n := by
  show (if f n = 487 then beL f n else if beL f n = -1 then f n else if f n < beL f n then f n else beL f n) = _
  rw [if_neg h, if_neg h2]
theorem beG_0 {f : Nat → Int32} {n : Nat} (h : f n = 487) : beG f (n + 1) = beG f n := if_pos h
theorem beG_1 {f : Nat → Int32} {n : Nat} (h : ¬ f n = 487) : beG f (n + 1) = if beG f n < f n then f n else beG f n := if_neg h
def beI (f : Nat → Int32) (n : Nat) : Int32 := if 600 ≤ beG f n then beG f n else if beL f n = -1 then 487 else beL f n
def goM (c n : Nat) (now : Int32) : Nat → Mem → Mem
  | 0, μ => μ
  | j + 1, μ => if anB (wtP μ c) n = true then μ else goM c n now j (sgM μ c n (nI j) now)
theorem goM_w {c n j : Nat} {now : Int32} {μ : Mem} (h : anB (wtP μ c) n = true) : goM c n now (j + 1) μ = μ := if_pos h
theorem goM_n {c n j : Nat} {now : Int32} {μ : Mem} (h : ¬ anB (wtP μ c) n = true) : goM c n now (j + 1) μ = goM c n now j (sgM μ c n (nI j) now) := if_neg h
def gfM (μ : Mem) (c n : Nat) : Mem := if anB (wtP μ c) n = true then μ else st μ 11 c 8 (beI (μ 14 c) n)
def goOnM (μ : Mem) (c n s : Nat) (now : Int32) : Mem := gfM (goM c n now s μ) c n
def taM (μ : Mem) (c n s b : Nat) (x now : Int32) : Mem :=
  if x = 180 then st μ 14 c b x
  else if 300 ≤ x then (if x < 600 then goOnM (st μ 14 c b x) c n s now else st (eoM (st μ 14 c b x) c n) 11 c 8 (beI (eoM (st μ 14 c b x) c n 14 c) n))
  else st (eoM (st (st μ 14 c b x) 11 c 7 (nI b)) c n) 11 c 8 x
def etM (μ : Mem) (c n s : Nat) (now : Int32) : Mem :=
  if μ 11 c 8 = -1 then (if 10 ≤ now - μ 11 c 6 then goOnM (rgM μ c n) c n s now else μ) else μ
def etI (μ : Mem) (c n s : Nat) (now : Int32) : Int32 :=
  if μ 11 c 8 = -1 then (if 10 ≤ now - μ 11 c 6 then bp (¬ goOnM (rgM μ c n) c n s now 11 c 8 = -1) else 0) else 0
def insM (x : Int32) : Nat → Mem → Mem
  | 0, μ => st μ 5 0 0 x
  | p + 1, μ => if μ 5 0 p ≤ x then st μ 5 0 (p + 1) x else insM x p (st μ 5 0 (p + 1) (μ 5 0 p))
def soN (f : Nat → Int32) : Nat → Nat
  | 0 => 0
  | n + 1 => if f n = 487 then soN f n else soN f n + 1
def soM (f : Nat → Int32) : Nat → Mem → Mem
  | 0, μ => μ
  | n + 1, μ => if f n = 487 then soM f n μ else insM (f n) (soN f n) (soM f n μ)
theorem soN_le (f : Nat → Int32) : ∀ n, soN f n ≤ n
  | 0 => Nat.le_refl 0
  | n + 1 => by
    have := soN_le f n
    unfold soN
    split <;> omega
theorem insM_k {x : Int32} {k o i : Nat} (h : k ≠ 5) : ∀ (p : Nat) (μ : Mem), insM x p μ k o i = μ k o i
  | 0, μ => st_k h
  | p + 1, μ => by
    show (if μ 5 0 p ≤ x then st μ 5 0 (p + 1) x else insM x p (st μ 5 0 (p + 1) (μ 5 0 p))) k o i = _
    split
    · exact st_k h
    · rw [insM_k h p]; exact st_k h
theorem soM_k {f : Nat → Int32} {k o i : Nat} (h : k ≠ 5) : ∀ (n : Nat) (μ : Mem), soM f n μ k o i = μ k o i
  | 0, μ => rfl
  | n + 1, μ => by
    show (if f n = 487 then soM f n μ else insM (f n) (soN f n) (soM f n μ)) k o i = _
    split
    · exact soM_k h n μ
    · rw [insM_k h]; exact soM_k h n μ
def fsI (μ : Mem) (c n : Nat) : Int32 :=
  if n = 0 then 480 else if ¬ μ 11 c 9 = 0 ∨ soN (μ 14 c) n = 0 then 487
  else if 600 ≤ soM (μ 14 c) n μ 5 0 (soN (μ 14 c) n - 1) then soM (μ 14 c) n μ 5 0 (soN (μ 14 c) n - 1) else soM (μ 14 c) n μ 5 0 0
theorem nI_z {n : Nat} (h : n < 2 ^ 31) : nI n = 0 ↔ n = 0 := by rw [← nI_0]; exact nI_eq h (by decide)
theorem nI_s1 {n : Nat} (h : 0 < n) : nI n - 1 = nI (n - 1) := by
  obtain ⟨m, rfl⟩ : ∃ m, n = m + 1 := ⟨n - 1, by omega⟩
  exact nI_pred m
def bgM (μ : Mem) (c n s : Nat) (now : Int32) : Mem := if n = 0 then st μ 11 c 8 480 else goOnM μ c n s now
def caM (μ : Mem) (c n : Nat) : Mem := st (st (eoM μ c n) 11 c 9 1) 11 c 8 487
def fsM (μ : Mem) (c n : Nat) : Mem := if n = 0 then μ else soM (μ 14 c) n μ
