/-! draw: the law's script -/
def dw (xs : Nat → Int32) (j : Nat) : Nat := (xs j).toBitVec.toNat % 2 ^ 31
theorem dw_lt (xs : Nat → Int32) (j : Nat) : dw xs j < 2 ^ 31 := Nat.mod_lt _ (by decide)
section KLAW
variable {E : EE} {C : Ctx} {bs : ByteArray} {own : String} {nL k n pc : Nat} {R : Room} {μ : Mem} {L L' : List (Nat × Value)} {S : List Value}
theorem k_sld (X : Cx E C bs own nL R) {b LL j : Nat} {xs : Nat → Int32} (hX : va_X b LL xs (cs C) (cs C).heap) (hbl : b < (cs C).heap.size) (hbA : ¬ cA C b) (hj : j < LL) (hL : LL ≤ 3072) (d : decode bs pc = .ok (.iaload, 1)) (kk : KF E C k n μ (pc + 1) L (.int (xs j) :: S)) : KF E C k n μ pc L (.int (nI j) :: .ref b :: S) := by
  intro H locs ls hw hs hl
  have h2 := kk H locs ls hw hs hl
  rw [← nI_clamp (show j < 2 ^ 31 by omega)] at h2
  exact va_sld X.1 X.2.1 hX hbl hbA hs (vp_in_nI hj (by omega)) d h2
theorem k_slen (X : Cx E C bs own nL R) {b LL : Nat} {xs : Nat → Int32} (hX : va_X b LL xs (cs C) (cs C).heap) (hbl : b < (cs C).heap.size) (hbA : ¬ cA C b) (d : decode bs pc = .ok (.arraylength, 1)) (kk : KF E C k n μ (pc + 1) L (.int (nI LL) :: S)) : KF E C k n μ pc L (.ref b :: S) :=
  fun H locs ls hw hs hl => va_slen X.1 X.2.1 hX hbl hbA hs d (kk H locs ls hw hs hl)
theorem k_table (X : Cx E C bs own nL R) {dflt lo hi : Int} {offs : Array Int} {len : Nat} {x : Int32} {off : Int} {tgt : Nat} (d : decode bs pc = .ok (.tableswitch dflt lo hi offs, len)) (h1 : ¬ x.toInt < lo) (h2 : ¬ hi < x.toInt) (ho : offs[(x.toInt - lo).toNat]? = some off) (ht : (pc : Int) + off = (tgt : Int)) (kk : KF E C k n μ tgt L S) : KF E C k n μ pc L (.int x :: S) := fun H locs ls hw hs hl => lv_tableIn X.1 X.2.1 d h1 h2 ho ht (kk H locs ls hw hs hl)
theorem k_tableD (X : Cx E C bs own nL R) {dflt lo hi : Int} {offs : Array Int} {len : Nat} {x : Int32} {tgt : Nat} (d : decode bs pc = .ok (.tableswitch dflt lo hi offs, len)) (h : x.toInt < lo ∨ hi < x.toInt) (ht : (pc : Int) + dflt = (tgt : Int)) (kk : KF E C k n μ tgt L S) : KF E C k n μ pc L (.int x :: S) := fun H locs ls hw hs hl => lv_tableOut X.1 X.2.1 d h ht (kk H locs ls hw hs hl)
end KLAW
/-- the world, and the script beside it -/
def WSX (E : EE) (μ : Mem) (sz b LL : Nat) (xs : Nat → Int32) (U : State) : Prop := WS E μ sz U ∧ va_X b LL xs U U.heap ∧ b < sz ∧ ¬ Aw E sz b
theorem WSX.blind {E : EE} {μ : Mem} {sz b LL : Nat} {xs : Nat → Int32} {av : List Value} : FrameBlind (va_Pc av (WSX E μ sz b LL xs)) := by
  rintro a U g mk ⟨h0, h1, h2, h3⟩
  have h := (WS.blind (E := E) (μ := μ) (sz := sz) (av := av)) a U g mk ⟨h0, h1⟩
  exact ⟨h0, h.2, va_X.moved (u := U) (U := U.calling g mk a) (Vm.Alike.refl U.vm) h2, h3⟩
theorem C_L_draw {E : EE} {μ : Mem} {b LL j : Nat} {xs : Nat → Int32} (hj : j < LL) (hL : LL ≤ 3072) : ∀ sz : Nat, Met E.1 yL_draw (Cond.code yL_draw cL_draw 2 (some .int) :: WALL) (rm 1 0) (va_Pc [.ref b, .int (nI j)] (WSX E μ sz b LL xs)) (Qg E sz (some (.int (nI (dw xs j)))) μ) (rm 1 0).cells (rm 1 0).slots (Aw E sz) := by
  intro sz
  refine Met.ofW (cc := cL_draw) (maxL := 2) (ret := some .int) (by decide) rfl ?_
  intro p e s m av2 below meth c s₁ B hml hv
  obtain ⟨rfl, ⟨hsz, hw, hx, hz⟩, hX, hbl, hbA⟩ := hv
  have hts := atoms_spec (ws := Cond.code yL_draw cL_draw 2 (some .int) :: WALL) B.pre
  have hown : s.vm.findClass RL = some m.cls := findClass_of_methodNamed B.named
  subst hsz
  have hC : ∃ C : Ctx, C = (p, e, rm 1 0, s, m, ([.ref b, .int (nI j)] : List Value).toArray, below, meth, c, MQ below (Qg E s.heap.size (some (.int (nI (dw xs j)))) μ) ([.ref b, .int (nI j)] : List Value).toArray s (rm 1 0).cells (rm 1 0).slots (Aw E s.heap.size), Aw E s.heap.size, 2) := ⟨_, rfl⟩
  obtain ⟨C, hC⟩ := hC
  have X : Cx E C cL_draw RL 2 (rm 1 0) := by
    rw [hC]
    exact ⟨B.exec, B.bytes, hml, hown, fun w hw => hts w (List.mem_cons_of_mem _ hw), hx, hz, fun k o h => Or.inl ⟨k, o, h, rfl⟩, fun q h => Or.inr h, rfl, rfl, B.notSynchronized⟩
  have hE : EndI E C cL_draw 0 0 (nI (dw xs j)) μ := by
    rw [hC]
    exact fun pc H locs ls d hw hs => W.zret B.exec B.bytes B.returns rfl (fun t ht hW => ⟨⟨rfl, by rw [ht]; exact hw⟩, hs.F ht⟩) hs.2.2 d B.notSynchronized
  have hX' : va_X b LL xs (cs C) (cs C).heap := by rw [hC]; exact hX
  have hbl' : b < (cs C).heap.size := by rw [hC]; exact hbl
  have hbA' : ¬ cA C b := by rw [hC]; exact hbA
  have K : KF E C 0 0 μ 0 [(0, .ref b), (1, .int (nI j))] [] := by
    refine k_iload_n X 1 dL_draw_0 rfl rfl ?_
    refine k_aload_n X 0 dL_draw_1 rfl rfl ?_
    refine k_slen X hX' hbl' hbA' dL_draw_2 ?_
    refine k_icmp_ge_f (tgt := 15) X dL_draw_3 (by decide) (fun z => by have := (nI_leI (by omega) (by omega)).mp z; omega) ?_
    refine k_aload_n X 0 dL_draw_6 rfl rfl ?_
    refine k_iload_n X 1 dL_draw_7 rfl rfl ?_
    refine k_sld X hX' hbl' hbA' hj hL dL_draw_8 ?_
    refine k_ldc X wz_L_7 dL_draw_9 ?_
    refine k_iand X dL_draw_11 ?_
    refine k_val (y := nI (dw xs j)) (pk_and (xs j) 31 (by decide)) ?_
    refine k_goto (tgt := 24) X dL_draw_12 (by decide) ?_
    exact k_iret dL_draw_24 hE rfl rfl
  have hl := lv_entry ([.ref b, .int (nI j)]) (n := 2) (Nat.le_of_ble_eq_true rfl)
  rw [lg_entry_eq]
  have K2 := K s.heap [] _ hw (by rw [hC]; exact va_S.rf) (by rw [hC]; exact hl)
  rw [hC] at K2
  exact K2
theorem k_draw {E : EE} {C : Ctx} {bs : ByteArray} {nL k n pc : Nat} {R : Room} {μ : Mem} {L : List (Nat × Value)} {S : List Value} (X : Cx E C bs RL nL R) {b LL j : Nat} {xs : Nat → Int32} (hX : va_X b LL xs (cs C) (cs C).heap) (hbl : b < (cs C).heap.size) (hbA : ¬ cA C b) (hj : j < LL) (hL : LL ≤ 3072) (hcat : (S.map fun v => v.category).sum ≤ 8)
    (hR : 2 ≤ R.frames ∧ 61 ≤ R.locals) (hf : k ≤ R.cells ∧ n ≤ R.slots) (d : decode bs pc = .ok (.invokestatic 89, 3)) (kk : KF E C k n μ (pc + 3) L (.int (nI (dw xs j)) :: S)) : KF E C k n μ pc L (.int (nI j) :: .ref b :: S) := by
  intro H locs ls hw hs hl
  have hRR : cR C = R := X.2.2.2.2.2.2.2.2.2.1
  have hNN : cN C = nL := X.2.2.2.2.2.2.2.2.2.2.1
  have hb2 : ¬ Aw E H.size b := by
    rintro (⟨k, o, ho, rfl⟩ | z)
    · exact hbA (X.2.2.2.2.2.2.2.1 k o ho)
    · have := hs.1; omega
  refine k_back (y := yL_draw) (vo := some (.int (nI (dw xs j)))) (μ' := μ) (S := S) (a := ([.ref b, .int (nI j)] : List Value).toArray) (mc := 0) (ms := 0) X hs hl ?_ kk
  exact va_runS (As := [.ref b, .int (nI j)]) (rest := S) ⟨X.1, X.2.1, X.2.2.1, X.2.2.2.1, X.2.2.2.2.1⟩ (C_L_draw hj hL H.size) (cwS 2 X.2.2.2.2.1 lk_L_89.1 rfl rfl rfl lk_L_89.2 (by rw [hRR]; exact ⟨hR.1, hR.2⟩)) ⟨WSX.blind, fun U hU hW => ⟨rfl, X.ws hw hs hU hW, by rw [hU]; exact (hX.kept (hs.2.1 b hbl hbA)).moved hW.alike, Nat.lt_of_lt_of_le hbl hs.1, hb2⟩⟩ rfl rfl (hl.1.trans hNN) rfl (lv_room hcat) d (by rw [hRR]; exact hf)
/-! step -/

set_option maxHeartbeats 4000000 in
set_option maxRecDepth 100000 in
theorem C_L_step_r {E : EE} {μ : Mem} (K w a b cl : Nat) (hw : w < 2 ^ 31) (ha : a < 2 ^ 31) (hb : b < 2 ^ 31) (hk : μ 16 0 1 = nI K) (h0 : nI K = 0 → nI 0 = nI cl) (h1 : ¬ nI K = 0 → nI a - nI a / nI K * nI K = nI cl) (hgrp : w % 15 < 5) (tg Q T : Nat) (ht1 : ¬ nI (b % 3) = 0 → nI (b / 3 % 10) = nI tg) (ht2 : nI (b % 3) = 0 → nI (10 + b / 3 % 6) = nI tg) (hQ : nI (b / 30 % 4) = nI Q) (hT0 : nI (a % 7) = 0 → nI 0 = nI T) (hT1 : ¬ nI (a % 7) = 0 → ¬ nI (a % 2) = 0 → nI (1 + b % 40) = nI T) (hT2 : ¬ nI (a % 7) = 0 → nI (a % 2) = 0 → nI (1 + b % 1000) = nI T) (μ' : Mem) (hm : MM E yL_registers cL_registers 10 (some .boolean) (rm 5 0) [.ref (ad E 0 0), .ref (ad E 16 0), .int (nI (a % 6)), .int (nI tg), .int (nI Q), .int (nI T)] μ (some (.int 1)) μ') : MM E yL_step cL_step 7 (some .boolean) (rm 11 0) [.ref (ad E 0 0), .ref (ad E 16 0), .int (nI w), .int (nI a), .int (nI b)] μ (some (.int 1)) μ' := by
  refine MM.int (own := RL) [(0, .ref (ad E 0 0)), (1, .ref (ad E 16 0)), (2, .int (nI w)), (3, .int (nI a)), (4, .int (nI b))] rfl rfl rfl (Nat.le_of_ble_eq_true rfl) rfl (fun C X hE => ?_)
  have k_160 : KF E C 0 0 μ 160 [] [.int (nI T), .int (nI Q), .int (nI tg), .int (nI (a % 6)), .ref (ad E 16 0), .ref (ad E 0 0)] := by
    refine k_callS (As := [.ref (ad E 0 0), .ref (ad E 16 0), .int (nI (a % 6)), .int (nI tg), .int (nI Q), .int (nI T)]) (S := []) X lk_L_10 hm rfl rfl (Nat.le_of_ble_eq_true rfl) ⟨Nat.le_of_ble_eq_true rfl, Nat.le_of_ble_eq_true rfl⟩ ⟨Nat.le_of_ble_eq_true rfl, Nat.le_of_ble_eq_true rfl⟩ dL_step_160 ?_
    show KF E C 0 0 μ' 163 _ [.int 1]
    exact k_iret dL_step_163 hE (by decide) rfl
  have k_123 : KF E C 0 0 μ 123 [(3, .int (nI a)), (4, .int (nI b))] [.int (nI tg), .int (nI (a % 6)), .ref (ad E 16 0), .ref (ad E 0 0)] := by
    refine k_iload X 1 dL_step_123 rfl ?_
    refine k_bipush X (nI 30) dL_step_125 (by decide) ?_
    refine k_idiv X dL_step_127 (by decide) ?_
    refine k_val (y := nI (b / 30)) (pk_div (by omega) (by omega) (by omega)) ?_
    refine k_iconst X (nI 4) dL_step_128 (by decide) ?_
    refine k_irem X dL_step_129 (by decide) ?_
    refine k_val (y := nI Q) ((pk_rem (by omega) (by decide) (by decide)).trans hQ) ?_
    refine k_iload_n X 0 dL_step_130 rfl rfl ?_
    refine k_bipush X (nI 7) dL_step_131 (by decide) ?_
    refine k_irem X dL_step_133 (by decide) ?_
    refine k_val (y := nI (a % 7)) (pk_rem (by omega) (by omega) (by omega)) ?_
    refine k_if_ne (tgt := 141) X dL_step_134 (by decide) (fun c134 => ?_) (fun c134 => ?_)
    · refine k_iconst X (nI 1) dL_step_141 (by decide) ?_
      refine k_iload X 1 dL_step_142 rfl ?_
      refine k_iload_n X 0 dL_step_144 rfl rfl ?_
      refine k_iconst X (nI 2) dL_step_145 (by decide) ?_
      refine k_irem X dL_step_146 (by decide) ?_
      refine k_val (y := nI (a % 2)) (pk_rem (by omega) (by omega) (by omega)) ?_
      refine k_if_ne (tgt := 156) X dL_step_147 (by decide) (fun c147 => ?_) (fun c147 => ?_)
      · refine k_bipush X (nI 40) dL_step_156 (by decide) ?_
        refine k_irem X dL_step_158 (by decide) ?_
        refine k_val (y := nI (b % 40)) (pk_rem (by omega) (by omega) (by omega)) ?_
        refine k_iadd X dL_step_159 ?_
        refine k_val (y := nI (1 + (b % 40))) (nI_add _ _) ?_
        refine k_val (y := nI T) (hT1 c134 c147) ?_
        refine k_pick (L' := []) [] rfl ?_
        exact k_160
      · refine k_sipush X (nI 1000) dL_step_150 (by decide) ?_
        refine k_goto (tgt := 158) X dL_step_153 (by decide) ?_
        refine k_irem X dL_step_158 (by decide) ?_
        refine k_val (y := nI (b % 1000)) (pk_rem (by omega) (by omega) (by omega)) ?_
        refine k_iadd X dL_step_159 ?_
        refine k_val (y := nI (1 + (b % 1000))) (nI_add _ _) ?_
        refine k_val (y := nI T) (hT2 c134 c147) ?_
        refine k_pick (L' := []) [] rfl ?_
        exact k_160
    · refine k_iconst X (nI 0) dL_step_137 (by decide) ?_
      refine k_goto (tgt := 160) X dL_step_138 (by decide) ?_
      refine k_val (y := nI T) (hT0 c134) ?_
      refine k_pick (L' := []) [] rfl ?_
      exact k_160
  have k_92 : KF E C 0 0 μ 92 [(6, .int (nI (a % 6))), (5, .int (nI cl)), (0, .ref (ad E 0 0)), (1, .ref (ad E 16 0)), (3, .int (nI a)), (4, .int (nI b))] [] := by
    refine k_aload_n X 2 dL_step_92 rfl rfl ?_
    refine k_aload_n X 3 dL_step_93 rfl rfl ?_
    refine k_iload X 0 dL_step_94 rfl ?_
    refine k_iload X 5 dL_step_96 rfl ?_
    refine k_iconst X (nI 3) dL_step_98 (by decide) ?_
    refine k_irem X dL_step_99 (by decide) ?_
    refine k_val (y := nI (b % 3)) (pk_rem (by omega) (by omega) (by omega)) ?_
    refine k_if_ne (tgt := 116) X dL_step_100 (by decide) (fun c100 => ?_) (fun c100 => ?_)
    · refine k_iload X 5 dL_step_116 rfl ?_
      refine k_iconst X (nI 3) dL_step_118 (by decide) ?_
      refine k_idiv X dL_step_119 (by decide) ?_
      refine k_val (y := nI (b / 3)) (pk_div (by omega) (by omega) (by omega)) ?_
      refine k_bipush X (nI 10) dL_step_120 (by decide) ?_
      refine k_irem X dL_step_122 (by decide) ?_
      refine k_val (y := nI ((b / 3) % 10)) (pk_rem (by omega) (by omega) (by omega)) ?_
      refine k_val (y := nI tg) (ht1 c100) ?_
      refine k_pick (L' := [(3, .int (nI a)), (4, .int (nI b))]) [4, 5] rfl ?_
      exact k_123
    · refine k_bipush X (nI 10) dL_step_103 (by decide) ?_
      refine k_iload X 5 dL_step_105 rfl ?_
      refine k_iconst X (nI 3) dL_step_107 (by decide) ?_
      refine k_idiv X dL_step_108 (by decide) ?_
      refine k_val (y := nI (b / 3)) (pk_div (by omega) (by omega) (by omega)) ?_
      refine k_bipush X (nI 6) dL_step_109 (by decide) ?_
      refine k_irem X dL_step_111 (by decide) ?_
      refine k_val (y := nI ((b / 3) % 6)) (pk_rem (by omega) (by omega) (by omega)) ?_
      refine k_iadd X dL_step_112 ?_
      refine k_val (y := nI (10 + ((b / 3) % 6))) (nI_add _ _) ?_
      refine k_goto (tgt := 123) X dL_step_113 (by decide) ?_
      refine k_val (y := nI tg) (ht2 c100) ?_
      refine k_pick (L' := [(3, .int (nI a)), (4, .int (nI b))]) [4, 5] rfl ?_
      exact k_123
  have k_15 : KF E C 0 0 μ 15 [(0, .ref (ad E 0 0)), (1, .ref (ad E 16 0)), (2, .int (nI w)), (3, .int (nI a)), (4, .int (nI b))] [.int (nI cl)] := by
    refine k_istore (L' := [(5, .int (nI cl)), (0, .ref (ad E 0 0)), (1, .ref (ad E 16 0)), (2, .int (nI w)), (3, .int (nI a)), (4, .int (nI b))]) X dL_step_15 (by decide) rfl ?_
    refine k_iload_n X 4 dL_step_17 rfl rfl ?_
    refine k_bipush X (nI 6) dL_step_18 (by decide) ?_
    refine k_irem X dL_step_20 (by decide) ?_
    refine k_val (y := nI (a % 6)) (pk_rem (by omega) (by omega) (by omega)) ?_
    refine k_istore (L' := [(6, .int (nI (a % 6))), (5, .int (nI cl)), (0, .ref (ad E 0 0)), (1, .ref (ad E 16 0)), (2, .int (nI w)), (3, .int (nI a)), (4, .int (nI b))]) X dL_step_21 (by decide) rfl ?_
    refine k_iload_n X 4 dL_step_23 rfl rfl ?_
    refine k_bipush X (nI 15) dL_step_24 (by decide) ?_
    refine k_irem X dL_step_26 (by decide) ?_
    refine k_val (y := nI (w % 15)) (pk_rem (by omega) (by omega) (by omega)) ?_
    refine k_pick (L' := [(6, .int (nI (a % 6))), (5, .int (nI cl)), (0, .ref (ad E 0 0)), (1, .ref (ad E 16 0)), (3, .int (nI a)), (4, .int (nI b))]) [0, 1, 2, 3, 5, 6] rfl ?_
    rcases (show w % 15 = 0 ∨ w % 15 = 1 ∨ w % 15 = 2 ∨ w % 15 = 3 ∨ w % 15 = 4 by omega) with z | z | z | z | z <;> rw [z]
    · exact k_table X dL_step_27 (by decide) (by decide) rfl (by decide) k_92
    · exact k_table X dL_step_27 (by decide) (by decide) rfl (by decide) k_92
    · exact k_table X dL_step_27 (by decide) (by decide) rfl (by decide) k_92
    · exact k_table X dL_step_27 (by decide) (by decide) rfl (by decide) k_92
    · exact k_table X dL_step_27 (by decide) (by decide) rfl (by decide) k_92
  refine k_aload_n X 1 dL_step_0 rfl rfl ?_
  refine k_iconst X (nI 1) dL_step_1 (by decide) ?_
  refine k_iald (a := 16) (j := 1) X rfl (by decide) rfl (show 1 < 14 by omega) (by decide) dL_step_2 ?_
  refine k_val (y := nI K) hk ?_
  refine k_if_ne (tgt := 10) X dL_step_3 (by decide) (fun c3 => ?_) (fun c3 => ?_)
  · refine k_iload_n X 3 dL_step_10 rfl rfl ?_
    refine k_aload_n X 1 dL_step_11 rfl rfl ?_
    refine k_iconst X (nI 1) dL_step_12 (by decide) ?_
    refine k_iald (a := 16) (j := 1) X rfl (by decide) rfl (show 1 < 14 by omega) (by decide) dL_step_13 ?_
    refine k_val (y := nI K) hk ?_
    refine k_irem X dL_step_14 c3 ?_
    refine k_val (y := nI cl) (h1 c3) ?_
    exact k_15
  · refine k_iconst X (nI 0) dL_step_6 (by decide) ?_
    refine k_goto (tgt := 15) X dL_step_7 (by decide) ?_
    refine k_val (y := nI cl) (h0 c3) ?_
    exact k_15

set_option maxHeartbeats 4000000 in
set_option maxRecDepth 100000 in
theorem C_L_step_c {E : EE} {μ : Mem} (K w a b cl : Nat) (hw : w < 2 ^ 31) (ha : a < 2 ^ 31) (hb : b < 2 ^ 31) (hk : μ 16 0 1 = nI K) (h0 : nI K = 0 → nI 0 = nI cl) (h1 : ¬ nI K = 0 → nI a - nI a / nI K * nI K = nI cl) (hgrp : 5 ≤ w % 15 ∧ w % 15 < 8) (μ' : Mem) (hmu : nI K = nI 12 → μ = μ') (hm : ¬ nI K = nI 12 → MM E yL_calls cL_calls 10 (some .boolean) (rm 10 0) [.ref (ad E 0 0), .ref (ad E 16 0), .int (nI (a % 6))] μ (some (.int 1)) μ') : MM E yL_step cL_step 7 (some .boolean) (rm 11 0) [.ref (ad E 0 0), .ref (ad E 16 0), .int (nI w), .int (nI a), .int (nI b)] μ (some (.int 1)) μ' := by
  refine MM.int (own := RL) [(0, .ref (ad E 0 0)), (1, .ref (ad E 16 0)), (2, .int (nI w)), (3, .int (nI a)), (4, .int (nI b))] rfl rfl rfl (Nat.le_of_ble_eq_true rfl) rfl (fun C X hE => ?_)
  have k_164 : KF E C 0 0 μ 164 [(6, .int (nI (a % 6))), (5, .int (nI cl)), (0, .ref (ad E 0 0)), (1, .ref (ad E 16 0)), (3, .int (nI a)), (4, .int (nI b))] [] := by
    refine k_aload_n X 3 dL_step_164 rfl rfl ?_
    refine k_iconst X (nI 1) dL_step_165 (by decide) ?_
    refine k_iald (a := 16) (j := 1) X rfl (by decide) rfl (show 1 < 14 by omega) (by decide) dL_step_166 ?_
    refine k_val (y := nI K) hk ?_
    refine k_bipush X (nI 12) dL_step_167 (by decide) ?_
    refine k_icmp_eq (tgt := 182) X dL_step_169 (by decide) (fun c169 => ?_) (fun c169 => ?_)
    · refine k_iconst X (nI 1) dL_step_182 (by decide) ?_
      refine k_goto (tgt := 187) X dL_step_183 (by decide) ?_
      exact k_iret dL_step_187 hE (by decide) (hmu c169)
    · refine k_aload_n X 2 dL_step_172 rfl rfl ?_
      refine k_aload_n X 3 dL_step_173 rfl rfl ?_
      refine k_iload X 0 dL_step_174 rfl ?_
      refine k_callS (As := [.ref (ad E 0 0), .ref (ad E 16 0), .int (nI (a % 6))]) (S := []) X lk_L_16 (hm c169) rfl rfl (Nat.le_of_ble_eq_true rfl) ⟨Nat.le_of_ble_eq_true rfl, Nat.le_of_ble_eq_true rfl⟩ ⟨Nat.le_of_ble_eq_true rfl, Nat.le_of_ble_eq_true rfl⟩ dL_step_176 ?_
      show KF E C 0 0 μ' 179 _ [.int 1]
      refine k_if_eq_f (tgt := 186) X dL_step_179 (by decide) (by decide) ?_
      refine k_iconst X (nI 1) dL_step_182 (by decide) ?_
      refine k_goto (tgt := 187) X dL_step_183 (by decide) ?_
      exact k_iret dL_step_187 hE (by decide) rfl
  have k_15 : KF E C 0 0 μ 15 [(0, .ref (ad E 0 0)), (1, .ref (ad E 16 0)), (2, .int (nI w)), (3, .int (nI a)), (4, .int (nI b))] [.int (nI cl)] := by
    refine k_istore (L' := [(5, .int (nI cl)), (0, .ref (ad E 0 0)), (1, .ref (ad E 16 0)), (2, .int (nI w)), (3, .int (nI a)), (4, .int (nI b))]) X dL_step_15 (by decide) rfl ?_
    refine k_iload_n X 4 dL_step_17 rfl rfl ?_
    refine k_bipush X (nI 6) dL_step_18 (by decide) ?_
    refine k_irem X dL_step_20 (by decide) ?_
    refine k_val (y := nI (a % 6)) (pk_rem (by omega) (by omega) (by omega)) ?_
    refine k_istore (L' := [(6, .int (nI (a % 6))), (5, .int (nI cl)), (0, .ref (ad E 0 0)), (1, .ref (ad E 16 0)), (2, .int (nI w)), (3, .int (nI a)), (4, .int (nI b))]) X dL_step_21 (by decide) rfl ?_
    refine k_iload_n X 4 dL_step_23 rfl rfl ?_
    refine k_bipush X (nI 15) dL_step_24 (by decide) ?_
    refine k_irem X dL_step_26 (by decide) ?_
    refine k_val (y := nI (w % 15)) (pk_rem (by omega) (by omega) (by omega)) ?_
    refine k_pick (L' := [(6, .int (nI (a % 6))), (5, .int (nI cl)), (0, .ref (ad E 0 0)), (1, .ref (ad E 16 0)), (3, .int (nI a)), (4, .int (nI b))]) [0, 1, 2, 3, 5, 6] rfl ?_
    rcases (show w % 15 = 5 ∨ w % 15 = 6 ∨ w % 15 = 7 by omega) with z | z | z <;> rw [z]
    · exact k_table X dL_step_27 (by decide) (by decide) rfl (by decide) k_164
    · exact k_table X dL_step_27 (by decide) (by decide) rfl (by decide) k_164
    · exact k_table X dL_step_27 (by decide) (by decide) rfl (by decide) k_164
  refine k_aload_n X 1 dL_step_0 rfl rfl ?_
  refine k_iconst X (nI 1) dL_step_1 (by decide) ?_
  refine k_iald (a := 16) (j := 1) X rfl (by decide) rfl (show 1 < 14 by omega) (by decide) dL_step_2 ?_
  refine k_val (y := nI K) hk ?_
  refine k_if_ne (tgt := 10) X dL_step_3 (by decide) (fun c3 => ?_) (fun c3 => ?_)
  · refine k_iload_n X 3 dL_step_10 rfl rfl ?_
    refine k_aload_n X 1 dL_step_11 rfl rfl ?_
    refine k_iconst X (nI 1) dL_step_12 (by decide) ?_
    refine k_iald (a := 16) (j := 1) X rfl (by decide) rfl (show 1 < 14 by omega) (by decide) dL_step_13 ?_
    refine k_val (y := nI K) hk ?_
    refine k_irem X dL_step_14 c3 ?_
    refine k_val (y := nI cl) (h1 c3) ?_
    exact k_15
  · refine k_iconst X (nI 0) dL_step_6 (by decide) ?_
    refine k_goto (tgt := 15) X dL_step_7 (by decide) ?_
    refine k_val (y := nI cl) (h0 c3) ?_
    exact k_15

set_option maxHeartbeats 4000000 in
set_option maxRecDepth 100000 in
theorem C_L_step_a {E : EE} {μ : Mem} (K w a b cl : Nat) (hw : w < 2 ^ 31) (ha : a < 2 ^ 31) (hb : b < 2 ^ 31) (hk : μ 16 0 1 = nI K) (h0 : nI K = 0 → nI 0 = nI cl) (h1 : ¬ nI K = 0 → nI a - nI a / nI K * nI K = nI cl) (hgrp : 8 ≤ w % 15 ∧ w % 15 < 12) (x : Int32) (hx0 : nI (b % 4) = 0 → 180 = x) (hx1 : ¬ nI (b % 4) = 0 → nI (b % 4) = nI 1 → nI (200 + b / 96 % 100) = x) (hx2 : ¬ nI (b % 4) = 0 → ¬ nI (b % 4) = nI 1 → nI (b % 3) = 0 → nI (300 + b / 96 % 400) = x) (hx3 : ¬ nI (b % 4) = 0 → ¬ nI (b % 4) = nI 1 → ¬ nI (b % 3) = 0 → nI (300 + b / 96 % 300) = x) (μ' : Mem) (hmu : nI K = 0 → μ = μ') (hm : ¬ nI K = 0 → MM E yL_answers cL_answers 16 (some .boolean) (rm 6 0) [.ref (ad E 0 0), .ref (ad E 16 0), .int (nI cl), .int (nI (b / 8 % 12)), .int x] μ (some (.int 1)) μ') : MM E yL_step cL_step 7 (some .boolean) (rm 11 0) [.ref (ad E 0 0), .ref (ad E 16 0), .int (nI w), .int (nI a), .int (nI b)] μ (some (.int 1)) μ' := by
  refine MM.int (own := RL) [(0, .ref (ad E 0 0)), (1, .ref (ad E 16 0)), (2, .int (nI w)), (3, .int (nI a)), (4, .int (nI b))] rfl rfl rfl (Nat.le_of_ble_eq_true rfl) rfl (fun C X hE => ?_)
  have k_188 : KF E C 0 0 μ 188 [(6, .int (nI (a % 6))), (5, .int (nI cl)), (0, .ref (ad E 0 0)), (1, .ref (ad E 16 0)), (3, .int (nI a)), (4, .int (nI b))] [] := by
    refine k_aload_n X 3 dL_step_188 rfl rfl ?_
    refine k_iconst X (nI 1) dL_step_189 (by decide) ?_
    refine k_iald (a := 16) (j := 1) X rfl (by decide) rfl (show 1 < 14 by omega) (by decide) dL_step_190 ?_
    refine k_val (y := nI K) hk ?_
    refine k_if_eq (tgt := 274) X dL_step_191 (by decide) (fun c191 => ?_) (fun c191 => ?_)
    · refine k_iconst X (nI 1) dL_step_274 (by decide) ?_
      refine k_goto (tgt := 279) X dL_step_275 (by decide) ?_
      exact k_iret dL_step_279 hE (by decide) (hmu c191)
    · have k_268 : KF E C 0 0 μ 268 [] [.int x, .int (nI (b / 8 % 12)), .int (nI cl), .ref (ad E 16 0), .ref (ad E 0 0)] := by
        refine k_callS (As := [.ref (ad E 0 0), .ref (ad E 16 0), .int (nI cl), .int (nI (b / 8 % 12)), .int x]) (S := []) X lk_L_20 (hm c191) rfl rfl (Nat.le_of_ble_eq_true rfl) ⟨Nat.le_of_ble_eq_true rfl, Nat.le_of_ble_eq_true rfl⟩ ⟨Nat.le_of_ble_eq_true rfl, Nat.le_of_ble_eq_true rfl⟩ dL_step_268 ?_
        show KF E C 0 0 μ' 271 _ [.int 1]
        refine k_if_eq_f (tgt := 278) X dL_step_271 (by decide) (by decide) ?_
        refine k_iconst X (nI 1) dL_step_274 (by decide) ?_
        refine k_goto (tgt := 279) X dL_step_275 (by decide) ?_
        exact k_iret dL_step_279 hE (by decide) rfl
      refine k_aload_n X 2 dL_step_194 rfl rfl ?_
      refine k_aload_n X 3 dL_step_195 rfl rfl ?_
      refine k_iload X 1 dL_step_196 rfl ?_
      refine k_iload X 5 dL_step_198 rfl ?_
      refine k_bipush X (nI 8) dL_step_200 (by decide) ?_
      refine k_idiv X dL_step_202 (by decide) ?_
      refine k_val (y := nI (b / 8)) (pk_div (by omega) (by omega) (by omega)) ?_
      refine k_bipush X (nI 12) dL_step_203 (by decide) ?_
      refine k_irem X dL_step_205 (by decide) ?_
      refine k_val (y := nI ((b / 8) % 12)) (pk_rem (by omega) (by omega) (by omega)) ?_
      refine k_iload X 5 dL_step_206 rfl ?_
      refine k_iconst X (nI 4) dL_step_208 (by decide) ?_
      refine k_irem X dL_step_209 (by decide) ?_
      refine k_val (y := nI (b % 4)) (pk_rem (by omega) (by omega) (by omega)) ?_
      refine k_if_ne (tgt := 219) X dL_step_210 (by decide) (fun c210 => ?_) (fun c210 => ?_)
      · refine k_iload X 5 dL_step_219 rfl ?_
        refine k_iconst X (nI 4) dL_step_221 (by decide) ?_
        refine k_irem X dL_step_222 (by decide) ?_
        refine k_val (y := nI (b % 4)) (pk_rem (by omega) (by omega) (by omega)) ?_
        refine k_iconst X (nI 1) dL_step_223 (by decide) ?_
        refine k_icmp_ne (tgt := 242) X dL_step_224 (by decide) (fun c224 => ?_) (fun c224 => ?_)
        · refine k_sipush X (nI 300) dL_step_242 (by decide) ?_
          refine k_iload X 5 dL_step_245 rfl ?_
          refine k_bipush X (nI 96) dL_step_247 (by decide) ?_
          refine k_idiv X dL_step_249 (by decide) ?_
          refine k_val (y := nI (b / 96)) (pk_div (by omega) (by omega) (by omega)) ?_
          refine k_iload X 5 dL_step_250 rfl ?_
          refine k_iconst X (nI 3) dL_step_252 (by decide) ?_
          refine k_irem X dL_step_253 (by decide) ?_
          refine k_val (y := nI (b % 3)) (pk_rem (by omega) (by omega) (by omega)) ?_
          refine k_if_ne (tgt := 263) X dL_step_254 (by decide) (fun c254 => ?_) (fun c254 => ?_)
          · refine k_sipush X (nI 300) dL_step_263 (by decide) ?_
            refine k_irem X dL_step_266 (by decide) ?_
            refine k_val (y := nI ((b / 96) % 300)) (pk_rem (by omega) (by omega) (by omega)) ?_
            refine k_iadd X dL_step_267 ?_
            refine k_val (y := nI (300 + ((b / 96) % 300))) (nI_add _ _) ?_
            refine k_val (y := x) (hx3 c210 c224 c254) ?_
            refine k_pick (L' := []) [] rfl ?_
            exact k_268
          · refine k_sipush X (nI 400) dL_step_257 (by decide) ?_
            refine k_goto (tgt := 266) X dL_step_260 (by decide) ?_
            refine k_irem X dL_step_266 (by decide) ?_
            refine k_val (y := nI ((b / 96) % 400)) (pk_rem (by omega) (by omega) (by omega)) ?_
            refine k_iadd X dL_step_267 ?_
            refine k_val (y := nI (300 + ((b / 96) % 400))) (nI_add _ _) ?_
            refine k_val (y := x) (hx2 c210 c224 c254) ?_
            refine k_pick (L' := []) [] rfl ?_
            exact k_268
        · refine k_sipush X (nI 200) dL_step_227 (by decide) ?_
          refine k_iload X 5 dL_step_230 rfl ?_
          refine k_bipush X (nI 96) dL_step_232 (by decide) ?_
          refine k_idiv X dL_step_234 (by decide) ?_
          refine k_val (y := nI (b / 96)) (pk_div (by omega) (by omega) (by omega)) ?_
          refine k_bipush X (nI 100) dL_step_235 (by decide) ?_
          refine k_irem X dL_step_237 (by decide) ?_
          refine k_val (y := nI ((b / 96) % 100)) (pk_rem (by omega) (by omega) (by omega)) ?_
          refine k_iadd X dL_step_238 ?_
          refine k_val (y := nI (200 + ((b / 96) % 100))) (nI_add _ _) ?_
          refine k_goto (tgt := 268) X dL_step_239 (by decide) ?_
          refine k_val (y := x) (hx1 c210 c224) ?_
          refine k_pick (L' := []) [] rfl ?_
          exact k_268
      · refine k_sipush X 180 dL_step_213 (by decide) ?_
        refine k_goto (tgt := 268) X dL_step_216 (by decide) ?_
        refine k_val (y := x) (hx0 c210) ?_
        refine k_pick (L' := []) [] rfl ?_
        exact k_268
  have k_15 : KF E C 0 0 μ 15 [(0, .ref (ad E 0 0)), (1, .ref (ad E 16 0)), (2, .int (nI w)), (3, .int (nI a)), (4, .int (nI b))] [.int (nI cl)] := by
    refine k_istore (L' := [(5, .int (nI cl)), (0, .ref (ad E 0 0)), (1, .ref (ad E 16 0)), (2, .int (nI w)), (3, .int (nI a)), (4, .int (nI b))]) X dL_step_15 (by decide) rfl ?_
    refine k_iload_n X 4 dL_step_17 rfl rfl ?_
    refine k_bipush X (nI 6) dL_step_18 (by decide) ?_
    refine k_irem X dL_step_20 (by decide) ?_
    refine k_val (y := nI (a % 6)) (pk_rem (by omega) (by omega) (by omega)) ?_
    refine k_istore (L' := [(6, .int (nI (a % 6))), (5, .int (nI cl)), (0, .ref (ad E 0 0)), (1, .ref (ad E 16 0)), (2, .int (nI w)), (3, .int (nI a)), (4, .int (nI b))]) X dL_step_21 (by decide) rfl ?_
    refine k_iload_n X 4 dL_step_23 rfl rfl ?_
    refine k_bipush X (nI 15) dL_step_24 (by decide) ?_
    refine k_irem X dL_step_26 (by decide) ?_
    refine k_val (y := nI (w % 15)) (pk_rem (by omega) (by omega) (by omega)) ?_
    refine k_pick (L' := [(6, .int (nI (a % 6))), (5, .int (nI cl)), (0, .ref (ad E 0 0)), (1, .ref (ad E 16 0)), (3, .int (nI a)), (4, .int (nI b))]) [0, 1, 2, 3, 5, 6] rfl ?_
    rcases (show w % 15 = 8 ∨ w % 15 = 9 ∨ w % 15 = 10 ∨ w % 15 = 11 by omega) with z | z | z | z <;> rw [z]
    · exact k_table X dL_step_27 (by decide) (by decide) rfl (by decide) k_188
    · exact k_table X dL_step_27 (by decide) (by decide) rfl (by decide) k_188
    · exact k_table X dL_step_27 (by decide) (by decide) rfl (by decide) k_188
    · exact k_table X dL_step_27 (by decide) (by decide) rfl (by decide) k_188
  refine k_aload_n X 1 dL_step_0 rfl rfl ?_
  refine k_iconst X (nI 1) dL_step_1 (by decide) ?_
  refine k_iald (a := 16) (j := 1) X rfl (by decide) rfl (show 1 < 14 by omega) (by decide) dL_step_2 ?_
  refine k_val (y := nI K) hk ?_
  refine k_if_ne (tgt := 10) X dL_step_3 (by decide) (fun c3 => ?_) (fun c3 => ?_)
  · refine k_iload_n X 3 dL_step_10 rfl rfl ?_
    refine k_aload_n X 1 dL_step_11 rfl rfl ?_
    refine k_iconst X (nI 1) dL_step_12 (by decide) ?_
    refine k_iald (a := 16) (j := 1) X rfl (by decide) rfl (show 1 < 14 by omega) (by decide) dL_step_13 ?_
    refine k_val (y := nI K) hk ?_
    refine k_irem X dL_step_14 c3 ?_
    refine k_val (y := nI cl) (h1 c3) ?_
    exact k_15
  · refine k_iconst X (nI 0) dL_step_6 (by decide) ?_
    refine k_goto (tgt := 15) X dL_step_7 (by decide) ?_
    refine k_val (y := nI cl) (h0 c3) ?_
    exact k_15

set_option maxHeartbeats 4000000 in
set_option maxRecDepth 100000 in
theorem C_L_step_x {E : EE} {μ : Mem} (K w a b cl : Nat) (hw : w < 2 ^ 31) (ha : a < 2 ^ 31) (hb : b < 2 ^ 31) (hk : μ 16 0 1 = nI K) (h0 : nI K = 0 → nI 0 = nI cl) (h1 : ¬ nI K = 0 → nI a - nI a / nI K * nI K = nI cl) (hgrp : w % 15 = 12) (μ' : Mem) (hmu : nI K = 0 ∨ 0 < nI (b % 3) → μ = μ') (hm : ¬ nI K = 0 → ¬ 0 < nI (b % 3) → MM E yL_cancels cL_cancels 7 (some .boolean) (rm 6 0) [.ref (ad E 0 0), .ref (ad E 16 0), .int (nI cl)] μ (some (.int 1)) μ') : MM E yL_step cL_step 7 (some .boolean) (rm 11 0) [.ref (ad E 0 0), .ref (ad E 16 0), .int (nI w), .int (nI a), .int (nI b)] μ (some (.int 1)) μ' := by
  refine MM.int (own := RL) [(0, .ref (ad E 0 0)), (1, .ref (ad E 16 0)), (2, .int (nI w)), (3, .int (nI a)), (4, .int (nI b))] rfl rfl rfl (Nat.le_of_ble_eq_true rfl) rfl (fun C X hE => ?_)
  have k_280 : KF E C 0 0 μ 280 [(6, .int (nI (a % 6))), (5, .int (nI cl)), (0, .ref (ad E 0 0)), (1, .ref (ad E 16 0)), (3, .int (nI a)), (4, .int (nI b))] [] := by
    refine k_aload_n X 3 dL_step_280 rfl rfl ?_
    refine k_iconst X (nI 1) dL_step_281 (by decide) ?_
    refine k_iald (a := 16) (j := 1) X rfl (by decide) rfl (show 1 < 14 by omega) (by decide) dL_step_282 ?_
    refine k_val (y := nI K) hk ?_
    refine k_if_eq (tgt := 303) X dL_step_283 (by decide) (fun c283 => ?_) (fun c283 => ?_)
    · refine k_iconst X (nI 1) dL_step_303 (by decide) ?_
      refine k_goto (tgt := 308) X dL_step_304 (by decide) ?_
      exact k_iret dL_step_308 hE (by decide) (hmu (Or.inl c283))
    · refine k_iload X 5 dL_step_286 rfl ?_
      refine k_iconst X (nI 3) dL_step_288 (by decide) ?_
      refine k_irem X dL_step_289 (by decide) ?_
      refine k_val (y := nI (b % 3)) (pk_rem (by omega) (by omega) (by omega)) ?_
      refine k_if_gt (tgt := 303) X dL_step_290 (by decide) (fun c290 => ?_) (fun c290 => ?_)
      · refine k_iconst X (nI 1) dL_step_303 (by decide) ?_
        refine k_goto (tgt := 308) X dL_step_304 (by decide) ?_
        exact k_iret dL_step_308 hE (by decide) (hmu (Or.inr c290))
      · refine k_aload_n X 2 dL_step_293 rfl rfl ?_
        refine k_aload_n X 3 dL_step_294 rfl rfl ?_
        refine k_iload X 1 dL_step_295 rfl ?_
        refine k_callS (As := [.ref (ad E 0 0), .ref (ad E 16 0), .int (nI cl)]) (S := []) X lk_L_24 (hm c283 c290) rfl rfl (Nat.le_of_ble_eq_true rfl) ⟨Nat.le_of_ble_eq_true rfl, Nat.le_of_ble_eq_true rfl⟩ ⟨Nat.le_of_ble_eq_true rfl, Nat.le_of_ble_eq_true rfl⟩ dL_step_297 ?_
        show KF E C 0 0 μ' 300 _ [.int 1]
        refine k_if_eq_f (tgt := 307) X dL_step_300 (by decide) (by decide) ?_
        refine k_iconst X (nI 1) dL_step_303 (by decide) ?_
        refine k_goto (tgt := 308) X dL_step_304 (by decide) ?_
        exact k_iret dL_step_308 hE (by decide) rfl
  have k_15 : KF E C 0 0 μ 15 [(0, .ref (ad E 0 0)), (1, .ref (ad E 16 0)), (2, .int (nI w)), (3, .int (nI a)), (4, .int (nI b))] [.int (nI cl)] := by
    refine k_istore (L' := [(5, .int (nI cl)), (0, .ref (ad E 0 0)), (1, .ref (ad E 16 0)), (2, .int (nI w)), (3, .int (nI a)), (4, .int (nI b))]) X dL_step_15 (by decide) rfl ?_
    refine k_iload_n X 4 dL_step_17 rfl rfl ?_
    refine k_bipush X (nI 6) dL_step_18 (by decide) ?_
    refine k_irem X dL_step_20 (by decide) ?_
    refine k_val (y := nI (a % 6)) (pk_rem (by omega) (by omega) (by omega)) ?_
    refine k_istore (L' := [(6, .int (nI (a % 6))), (5, .int (nI cl)), (0, .ref (ad E 0 0)), (1, .ref (ad E 16 0)), (2, .int (nI w)), (3, .int (nI a)), (4, .int (nI b))]) X dL_step_21 (by decide) rfl ?_
    refine k_iload_n X 4 dL_step_23 rfl rfl ?_
    refine k_bipush X (nI 15) dL_step_24 (by decide) ?_
    refine k_irem X dL_step_26 (by decide) ?_
    refine k_val (y := nI (w % 15)) (pk_rem (by omega) (by omega) (by omega)) ?_
    refine k_pick (L' := [(6, .int (nI (a % 6))), (5, .int (nI cl)), (0, .ref (ad E 0 0)), (1, .ref (ad E 16 0)), (3, .int (nI a)), (4, .int (nI b))]) [0, 1, 2, 3, 5, 6] rfl ?_
    have z : w % 15 = 12 := by omega
    rw [z]
    exact k_table X dL_step_27 (by decide) (by decide) rfl (by decide) k_280
  refine k_aload_n X 1 dL_step_0 rfl rfl ?_
  refine k_iconst X (nI 1) dL_step_1 (by decide) ?_
  refine k_iald (a := 16) (j := 1) X rfl (by decide) rfl (show 1 < 14 by omega) (by decide) dL_step_2 ?_
  refine k_val (y := nI K) hk ?_
  refine k_if_ne (tgt := 10) X dL_step_3 (by decide) (fun c3 => ?_) (fun c3 => ?_)
  · refine k_iload_n X 3 dL_step_10 rfl rfl ?_
    refine k_aload_n X 1 dL_step_11 rfl rfl ?_
    refine k_iconst X (nI 1) dL_step_12 (by decide) ?_
    refine k_iald (a := 16) (j := 1) X rfl (by decide) rfl (show 1 < 14 by omega) (by decide) dL_step_13 ?_
    refine k_val (y := nI K) hk ?_
    refine k_irem X dL_step_14 c3 ?_
    refine k_val (y := nI cl) (h1 c3) ?_
    exact k_15
  · refine k_iconst X (nI 0) dL_step_6 (by decide) ?_
    refine k_goto (tgt := 15) X dL_step_7 (by decide) ?_
    refine k_val (y := nI cl) (h0 c3) ?_
    exact k_15

set_option maxHeartbeats 4000000 in
set_option maxRecDepth 100000 in
theorem C_L_step_p {E : EE} {μ : Mem} (K w a b cl : Nat) (hw : w < 2 ^ 31) (ha : a < 2 ^ 31) (hb : b < 2 ^ 31) (hk : μ 16 0 1 = nI K) (h0 : nI K = 0 → nI 0 = nI cl) (h1 : ¬ nI K = 0 → nI a - nI a / nI K * nI K = nI cl) (hgrp : 13 ≤ w % 15) (T : Nat) (hT1 : ¬ nI (a % 3) = 0 → nI (1 + b % 7) = nI T) (hT2 : nI (a % 3) = 0 → nI (1 + b % 60) = nI T) (μ' : Mem) (hm : MM E yL_passes cL_passes 8 (some .boolean) (rm 7 0) [.ref (ad E 0 0), .ref (ad E 16 0), .int (nI T)] μ (some (.int 1)) μ') : MM E yL_step cL_step 7 (some .boolean) (rm 11 0) [.ref (ad E 0 0), .ref (ad E 16 0), .int (nI w), .int (nI a), .int (nI b)] μ (some (.int 1)) μ' := by
  refine MM.int (own := RL) [(0, .ref (ad E 0 0)), (1, .ref (ad E 16 0)), (2, .int (nI w)), (3, .int (nI a)), (4, .int (nI b))] rfl rfl rfl (Nat.le_of_ble_eq_true rfl) rfl (fun C X hE => ?_)
  have k_329 : KF E C 0 0 μ 329 [] [.int (nI T), .ref (ad E 16 0), .ref (ad E 0 0)] := by
    refine k_callS (As := [.ref (ad E 0 0), .ref (ad E 16 0), .int (nI T)]) (S := []) X lk_L_27 hm rfl rfl (Nat.le_of_ble_eq_true rfl) ⟨Nat.le_of_ble_eq_true rfl, Nat.le_of_ble_eq_true rfl⟩ ⟨Nat.le_of_ble_eq_true rfl, Nat.le_of_ble_eq_true rfl⟩ dL_step_329 ?_
    show KF E C 0 0 μ' 332 _ [.int 1]
    exact k_iret dL_step_332 hE (by decide) rfl
  have k_309 : KF E C 0 0 μ 309 [(6, .int (nI (a % 6))), (5, .int (nI cl)), (0, .ref (ad E 0 0)), (1, .ref (ad E 16 0)), (3, .int (nI a)), (4, .int (nI b))] [] := by
    refine k_aload_n X 2 dL_step_309 rfl rfl ?_
    refine k_aload_n X 3 dL_step_310 rfl rfl ?_
    refine k_iconst X (nI 1) dL_step_311 (by decide) ?_
    refine k_iload X 5 dL_step_312 rfl ?_
    refine k_iload_n X 4 dL_step_314 rfl rfl ?_
    refine k_iconst X (nI 3) dL_step_315 (by decide) ?_
    refine k_irem X dL_step_316 (by decide) ?_
    refine k_val (y := nI (a % 3)) (pk_rem (by omega) (by omega) (by omega)) ?_
    refine k_if_ne (tgt := 325) X dL_step_317 (by decide) (fun c317 => ?_) (fun c317 => ?_)
    · refine k_bipush X (nI 7) dL_step_325 (by decide) ?_
      refine k_irem X dL_step_327 (by decide) ?_
      refine k_val (y := nI (b % 7)) (pk_rem (by omega) (by omega) (by omega)) ?_
      refine k_iadd X dL_step_328 ?_
      refine k_val (y := nI (1 + (b % 7))) (nI_add _ _) ?_
      refine k_val (y := nI T) (hT1 c317) ?_
      refine k_pick (L' := []) [] rfl ?_
      exact k_329
    · refine k_bipush X (nI 60) dL_step_320 (by decide) ?_
      refine k_goto (tgt := 327) X dL_step_322 (by decide) ?_
      refine k_irem X dL_step_327 (by decide) ?_
      refine k_val (y := nI (b % 60)) (pk_rem (by omega) (by omega) (by omega)) ?_
      refine k_iadd X dL_step_328 ?_
      refine k_val (y := nI (1 + (b % 60))) (nI_add _ _) ?_
      refine k_val (y := nI T) (hT2 c317) ?_
      refine k_pick (L' := []) [] rfl ?_
      exact k_329
  have k_15 : KF E C 0 0 μ 15 [(0, .ref (ad E 0 0)), (1, .ref (ad E 16 0)), (2, .int (nI w)), (3, .int (nI a)), (4, .int (nI b))] [.int (nI cl)] := by
    refine k_istore (L' := [(5, .int (nI cl)), (0, .ref (ad E 0 0)), (1, .ref (ad E 16 0)), (2, .int (nI w)), (3, .int (nI a)), (4, .int (nI b))]) X dL_step_15 (by decide) rfl ?_
    refine k_iload_n X 4 dL_step_17 rfl rfl ?_
    refine k_bipush X (nI 6) dL_step_18 (by decide) ?_
    refine k_irem X dL_step_20 (by decide) ?_
    refine k_val (y := nI (a % 6)) (pk_rem (by omega) (by omega) (by omega)) ?_
    refine k_istore (L' := [(6, .int (nI (a % 6))), (5, .int (nI cl)), (0, .ref (ad E 0 0)), (1, .ref (ad E 16 0)), (2, .int (nI w)), (3, .int (nI a)), (4, .int (nI b))]) X dL_step_21 (by decide) rfl ?_
    refine k_iload_n X 4 dL_step_23 rfl rfl ?_
    refine k_bipush X (nI 15) dL_step_24 (by decide) ?_
    refine k_irem X dL_step_26 (by decide) ?_
    refine k_val (y := nI (w % 15)) (pk_rem (by omega) (by omega) (by omega)) ?_
    refine k_pick (L' := [(6, .int (nI (a % 6))), (5, .int (nI cl)), (0, .ref (ad E 0 0)), (1, .ref (ad E 16 0)), (3, .int (nI a)), (4, .int (nI b))]) [0, 1, 2, 3, 5, 6] rfl ?_
    rcases (show w % 15 = 13 ∨ w % 15 = 14 by omega) with z | z <;> rw [z]
    · exact k_tableD X dL_step_27 (Or.inr (by decide)) (by decide) k_309
    · exact k_tableD X dL_step_27 (Or.inr (by decide)) (by decide) k_309
  refine k_aload_n X 1 dL_step_0 rfl rfl ?_
  refine k_iconst X (nI 1) dL_step_1 (by decide) ?_
  refine k_iald (a := 16) (j := 1) X rfl (by decide) rfl (show 1 < 14 by omega) (by decide) dL_step_2 ?_
  refine k_val (y := nI K) hk ?_
  refine k_if_ne (tgt := 10) X dL_step_3 (by decide) (fun c3 => ?_) (fun c3 => ?_)
  · refine k_iload_n X 3 dL_step_10 rfl rfl ?_
    refine k_aload_n X 1 dL_step_11 rfl rfl ?_
    refine k_iconst X (nI 1) dL_step_12 (by decide) ?_
    refine k_iald (a := 16) (j := 1) X rfl (by decide) rfl (show 1 < 14 by omega) (by decide) dL_step_13 ?_
    refine k_val (y := nI K) hk ?_
    refine k_irem X dL_step_14 c3 ?_
    refine k_val (y := nI cl) (h1 c3) ?_
    exact k_15
  · refine k_iconst X (nI 0) dL_step_6 (by decide) ?_
    refine k_goto (tgt := 15) X dL_step_7 (by decide) ?_
    refine k_val (y := nI cl) (h0 c3) ?_
    exact k_15
