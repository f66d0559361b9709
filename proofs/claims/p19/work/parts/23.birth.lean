/-! BIRTH: the cells of the two systems, one after another; a field that holds a reference has a mark in Mem, at 100 and more -/
def offs (k o : Nat) : Nat := if k < 6 then k else if k < 11 then k + 5 * o else if k < 16 then k + 25 + 5 * o else k + 120
theorem vn_ok {k o : Nat} (h : o < vn k) : k < 17 ∧ (k < 6 → o = 0) ∧ (6 ≤ k → k < 11 → o < 6) ∧ (11 ≤ k → k < 16 → o < 20) ∧ (16 ≤ k → o = 0) := by
  unfold vn at h
  split at h <;> omega
theorem offs_inj {k o k' o' : Nat} (h : o < vn k) (h' : o' < vn k') (e : offs k o = offs k' o') : k = k' ∧ o = o' := by
  obtain ⟨a1, a2, a3, a4, a5⟩ := vn_ok h
  obtain ⟨b1, b2, b3, b4, b5⟩ := vn_ok h'
  unfold offs at e
  split at e <;> split at e <;> (try split at e) <;> (try split at e) <;> (try split at e) <;> (try split at e) <;> omega
def fl (f : Nat → Int32) (j a : Nat) : Value := if f (100 + j) = 1 then .ref a else .null
def fldn (E : EE) (k o : Nat) (f : Nat → Int32) : List Value := match k with
  | 0 => [fl f 0 (ad E 1 0), fl f 1 (ad E 2 0), fl f 2 (ad E 3 0), fl f 3 (ad E 4 0), fl f 4 (ad E 5 0), .int (f 5), .int (f 6)]
  | 6 => [fl f 0 (ad E 7 o), fl f 1 (ad E 8 o), fl f 2 (ad E 9 o), fl f 3 (ad E 10 o), .int (f 4)]
  | 11 => [fl f 0 (ad E 12 o), fl f 1 (ad E 13 o), fl f 2 (ad E 14 o), fl f 3 (ad E 15 o), .int (f 4), .int (f 5), .int (f 6), .int (f 7), .int (f 8), .int (f 9)]
  | _ => []
def fo (f : Nat → Int32) (g : Nat → Nat) (i : Nat) : Option Nat := if f (100 + i) = 1 then some (g i) else none
def cntn (E : EE) (k o : Nat) (f : Nat → Int32) : va_E := match kt k with
  | 0 => .inr (oc k, fldn E k o f)
  | 1 => .inl (E.2.2.1 0, kl k, .inl f)
  | 2 => .inl (E.2.2.1 1, kl k, .inl f)
  | 3 => .inl (E.2.2.1 3, 6, .inr (.inr (.inr (.inr (fo f (fun i => ad E 6 i))))))
  | _ => .inl (E.2.2.1 4, 20, .inr (.inr (.inr (.inr (fo f (fun i => ad E 11 i))))))
def Wn (E : EE) (μ : Mem) (N : Nat) (H : Heap) : Prop := ∀ k o : Nat, o < vn k → offs k o < N → va_at E.2.1 vwCl (ad E k o, cntn E k o (μ k o)) H
def AD (E : EE) (b : Nat) : Prop := ∀ k o : Nat, ad E k o = b + offs k o
theorem AD.inj {E : EE} {b : Nat} (h : AD E b) : Inj E := by
  intro k o k' o' h1 h2 e
  rw [h k o, h k' o'] at e
  exact offs_inj h1 h2 (by omega)
/-- a row put to noughts -/
def zr (μ : Mem) (k o : Nat) : Mem := fun a b i => if a = k ∧ b = o then 0 else μ a b i
theorem zr_same {μ : Mem} {k o : Nat} : zr μ k o k o = fun _ => 0 := by
  funext i
  exact if_pos ⟨rfl, rfl⟩
theorem zr_row {μ : Mem} {k o a b : Nat} (h : ¬ (a = k ∧ b = o)) : zr μ k o a b = μ a b := by
  funext i
  exact if_neg h
theorem Wn.kept {E : EE} {μ : Mem} {N : Nat} {H H1 : Heap} (h : Wn E μ N H) (hq : ∀ q : Nat, q < H.size → H1[q]? = H[q]?) : Wn E μ N H1 := fun k o ho hN => (h k o ho hN).kept (hq _ (h k o ho hN).lt)
theorem Wn.set {E : EE} {μ : Mem} {N b : Nat} {H H1 : Heap} {k o i : Nat} {x : Int32} (hb : AD E b) (h : Wn E μ N H) (ho : o < vn k) (oq : ∀ q : Nat, q ≠ ad E k o → H1[q]? = H[q]?) (h1 : va_at E.2.1 vwCl (ad E k o, cntn E k o (st μ k o i x k o)) H1) : Wn E (st μ k o i x) N H1 := by
  intro a d hd hN
  by_cases e : a = k ∧ d = o
  · obtain ⟨rfl, rfl⟩ := e
    exact h1
  · rw [st_row e]
    exact (h a d hd hN).kept (oq _ (fun q => e (hb.inj a d k o hd ho q)))
theorem Wn.push {E : EE} {μ : Mem} {N : Nat} {H H1 : Heap} {k o : Nat} (h : Wn E μ N H) (ho : o < vn k) (hN : offs k o = N) (oq : ∀ q : Nat, q < H.size → H1[q]? = H[q]?) (h1 : va_at E.2.1 vwCl (ad E k o, cntn E k o (fun _ => 0)) H1) : Wn E (zr μ k o) (N + 1) H1 := by
  intro a d hd hL
  by_cases e : a = k ∧ d = o
  · obtain ⟨rfl, rfl⟩ := e
    rw [zr_same]
    exact h1
  · rw [zr_row e]
    have hlt : offs a d < N := by
      rcases Nat.lt_or_ge (offs a d) N with q | q
      · exact q
      · exact absurd (offs_inj hd ho (by omega)) e
    exact (h a d hd hlt).kept (oq _ (h a d hd hlt).lt)
/-- all marks are there -/
def FL (μ : Mem) : Prop := (∀ j, j < 5 → μ 0 0 (100 + j) = 1) ∧ (∀ i, i < 6 → μ 1 0 (100 + i) = 1) ∧ (∀ i, i < 20 → μ 2 0 (100 + i) = 1) ∧ (∀ u, u < 6 → ∀ j, j < 4 → μ 6 u (100 + j) = 1) ∧ (∀ c, c < 20 → ∀ j, j < 4 → μ 11 c (100 + j) = 1)
theorem arrV_ext {cI : ClassId} {N : Nat} {f g : Nat → Value} (h : ∀ j, j < N → f j = g j) : arrV cI N f = arrV cI N g := by
  unfold arrV
  congr 1
  congr 1
  funext j
  exact h j.val j.isLt
theorem fl_1 {f : Nat → Int32} {j a : Nat} (h : f (100 + j) = 1) : fl f j a = .ref a := if_pos h
theorem Wn.all {E : EE} {μ : Mem} {H : Heap} (h : Wn E μ 137 H) (hF : FL μ) : Wd E μ H := by
  obtain ⟨f0, f1, f2, f6, f11⟩ := hF
  intro k o ho
  have ok := vn_ok ho
  have hk := h k o ho (by
    unfold offs
    split
    · omega
    · split
      · omega
      · split <;> omega)
  by_cases h0 : k = 0
  · subst h0
    obtain rfl : o = 0 := by omega
    have e : cntn E 0 0 (μ 0 0) = cont E 0 0 (μ 0 0) := by
      have e2 : fldn E 0 0 (μ 0 0) = flds E 0 0 (μ 0 0) := by simp only [fldn, flds, fl_1 (f0 0 (by decide)), fl_1 (f0 1 (by decide)), fl_1 (f0 2 (by decide)), fl_1 (f0 3 (by decide)), fl_1 (f0 4 (by decide))]
      show (Sum.inr (oc 0, fldn E 0 0 (μ 0 0)) : va_E) = .inr (oc 0, flds E 0 0 (μ 0 0))
      rw [e2]
    rw [← e]; exact hk
  by_cases h6 : k = 6
  · subst h6
    have ho6 : o < 6 := by omega
    have e : cntn E 6 o (μ 6 o) = cont E 6 o (μ 6 o) := by
      have e2 : fldn E 6 o (μ 6 o) = flds E 6 o (μ 6 o) := by simp only [fldn, flds, fl_1 (f6 o ho6 0 (by decide)), fl_1 (f6 o ho6 1 (by decide)), fl_1 (f6 o ho6 2 (by decide)), fl_1 (f6 o ho6 3 (by decide))]
      show (Sum.inr (oc 6, fldn E 6 o (μ 6 o)) : va_E) = .inr (oc 6, flds E 6 o (μ 6 o))
      rw [e2]
    rw [← e]; exact hk
  by_cases h11 : k = 11
  · subst h11
    have ho6 : o < 20 := by omega
    have e : cntn E 11 o (μ 11 o) = cont E 11 o (μ 11 o) := by
      have e2 : fldn E 11 o (μ 11 o) = flds E 11 o (μ 11 o) := by simp only [fldn, flds, fl_1 (f11 o ho6 0 (by decide)), fl_1 (f11 o ho6 1 (by decide)), fl_1 (f11 o ho6 2 (by decide)), fl_1 (f11 o ho6 3 (by decide))]
      show (Sum.inr (oc 11, fldn E 11 o (μ 11 o)) : va_E) = .inr (oc 11, flds E 11 o (μ 11 o))
      rw [e2]
    rw [← e]; exact hk
  by_cases h1 : k = 1
  · subst h1
    obtain rfl : o = 0 := by omega
    show H[ad E 1 0]? = some (vp_cell _ _)
    have h9 : H[ad E 1 0]? = some (vp_cell (E.2.2.1 3) (6, .inr (.inr (.inr (.inr (fo (μ 1 0) (fun i => ad E 6 i))))))) := hk
    rw [h9, vp_cell_q, vp_cell_q]
    exact congrArg some (arrV_ext fun j hj => by unfold fo; rw [if_pos (f1 j hj)])
  by_cases h2 : k = 2
  · subst h2
    obtain rfl : o = 0 := by omega
    show H[ad E 2 0]? = some (vp_cell _ _)
    have h9 : H[ad E 2 0]? = some (vp_cell (E.2.2.1 4) (20, .inr (.inr (.inr (.inr (fo (μ 2 0) (fun i => ad E 11 i))))))) := hk
    rw [h9, vp_cell_q, vp_cell_q]
    exact congrArg some (arrV_ext fun j hj => by unfold fo; rw [if_pos (f2 j hj)])
  have e : cntn E k o (μ k o) = cont E k o (μ k o) := by
    have h9 : kt k = 1 ∨ kt k = 2 := by
      unfold kt
      split <;> first | exact Or.inl rfl | exact Or.inr rfl | (exfalso; omega)
    unfold cntn cont
    rcases h9 with q | q <;> rw [q] <;> rfl
  rw [← e]; exact hk
