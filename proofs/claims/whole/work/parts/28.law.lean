/-! the law's body: its script, its switch, its sixteen operations -/
section KLAW
variable {E : EE} {C : Ctx} {bs : ByteArray} {own : String} {nL k n pc : Nat} {R : Room} {μ : Mem} {L L' : List (Nat × Value)} {S : List Value}
theorem k_sld (X : Cx E C bs own nL R) {b LL j : Nat} {xs : Nat → Int32} (hX : va_X b LL xs (cs C) (cs C).heap) (hbl : b < (cs C).heap.size) (hbA : ¬ cA C b) (hj : j < LL) (hL : LL ≤ 3072) (d : decode bs pc = .ok (.iaload, 1)) (kk : KF E C k n μ (pc + 1) L (.int (xs j) :: S)) : KF E C k n μ pc L (.int (nI j) :: .ref b :: S) := by
  intro H locs ls hw hs hl
  have h2 := kk H locs ls hw hs hl
  rw [← nI_clamp (show j < 2 ^ 31 by omega)] at h2
  exact va_sld X.1 X.2.1 hX hbl hbA hs (vp_in_nI hj (by omega)) d h2
theorem k_slen (X : Cx E C bs own nL R) {b LL : Nat} {xs : Nat → Int32} (hX : va_X b LL xs (cs C) (cs C).heap) (hbl : b < (cs C).heap.size) (hbA : ¬ cA C b) (d : decode bs pc = .ok (.arraylength, 1)) (kk : KF E C k n μ (pc + 1) L (.int (nI LL) :: S)) : KF E C k n μ pc L (.ref b :: S) :=
  fun H locs ls hw hs hl => va_slen X.1 X.2.1 hX hbl hbA hs d (kk H locs ls hw hs hl)
theorem k_table (X : Cx E C bs own nL R) {dflt lo hi : Int} {offs : Array Int} {len : Nat} {x : Int32} {off : Int} {tgt : Nat} (d : decode bs pc = .ok (.tableswitch dflt lo hi offs, len)) (h1 : ¬ x.toInt < lo) (h2 : ¬ hi < x.toInt) (ho : offs[(x.toInt - lo).toNat]? = some off) (ht : (pc : Int) + off = (tgt : Int)) (kk : KF E C k n μ tgt L S) : KF E C k n μ pc L (.int x :: S) := fun H locs ls hw hs hl => lv_tableIn X.1 X.2.1 d h1 h2 ho ht (kk H locs ls hw hs hl)
def LinkH (own : String) (idx : Nat) (y : MethodName) (bs : ByteArray) (maxL : Nat) (hh : List (Nat × Nat × Nat × Nat)) (n : Nat) : Prop :=
  GoodIn WALL (va_wsS own idx y (Cond.codeWith y bs maxL (some .int) hh :: WALL)) ∧ (y.cls ≠ "java/lang/invoke/MethodHandle" ∧ y.cls ≠ "java/lang/invoke/VarHandle" ∧ (parseMethodDescriptor y.desc).map (fun d => d.parameters.length) = some n)
theorem GH {own : String} {idx : Nat} {y : MethodName} {c : Cond} (h1 : Cond.methodLink own idx y ∈ WALL) (h2 : Cond.static y ∈ WALL) (h4 : Cond.initialized y.cls ∈ WALL) (h5 : c ∈ WALL) : GoodIn WALL (va_wsS own idx y (c :: WALL)) := by
  intro w hw
  unfold va_wsS at hw
  simp only [List.mem_append, List.mem_cons, List.not_mem_nil, or_false] at hw
  rcases hw with (rfl | rfl | rfl) | (rfl | hw)
  · exact ⟨h1, gw h1⟩
  · exact ⟨h2, gw h2⟩
  · exact ⟨h4, gw h4⟩
  · exact ⟨h5, gw h5⟩
  · exact ⟨hw, gw hw⟩
theorem k_callH (X : Cx E C bs own nL R) {idx maxL n' : Nat} {y : MethodName} {bs' : ByteArray} {hh : List (Nat × Nat × Nat × Nat)} {R' : Room} {As : List Value} {S0 : List Value} {vo : Option Value} {μ' : Mem}
    (lk : LinkH own idx y bs' maxL hh n') (h : MH E y bs' maxL hh R' As μ vo μ') (hn : As.length = n') (hst : S0 = As.reverse ++ S) (hcat : (S.map fun v => v.category).sum ≤ 8)
    (hR : R'.frames + 1 ≤ R.frames ∧ 8 + (maxL + 11) + R'.locals ≤ R.locals) (hf : k + R'.cells ≤ R.cells ∧ n + R'.slots ≤ R.slots) (d : decode bs pc = .ok (.invokestatic idx, 3)) (kk : KF E C (k + R'.cells) (n + R'.slots) μ' (pc + 3) L (vo.toList ++ S)) : KF E C k n μ pc L S0 := by
  intro H locs ls hw hs hl
  have hRR : cR C = R := X.2.2.2.2.2.2.2.2.2.1
  have hNN : cN C = nL := X.2.2.2.2.2.2.2.2.2.2.1
  refine k_back (y := y) (a := As.toArray) X hs hl ?_ kk
  exact vx_runSW (As := As) (rest := S) ⟨X.1, X.2.1, X.2.2.1, X.2.2.2.1, X.2.2.2.2.1⟩ (h H.size) (vx_cwSW n' X.2.2.2.2.1 lk.1 rfl rfl rfl lk.2 (hRR ▸ hR)) ⟨WS.blind, fun U hU hW => ⟨rfl, X.ws hw hs hU hW⟩⟩ rfl hn (hl.1.trans hNN) hst (lv_room hcat) d (hRR ▸ hf)
end KLAW
/-- an operation of the two: k the helper's number, r the reference's answer -/
def STP (E : EE) (yh : MethodName) (bh : ByteArray) (mh : Nat) (hh : List (Nat × Nat × Nat × Nat)) (Rh : Room) (ym : MethodName) (bm : ByteArray) (mm : Nat) (Rm : Room) (μ : Mem) (As : List Value) (P : Mem → Prop) : Prop :=
  ∃ (k r : Int32) (μ1 μ2 : Mem), MH E yh bh mh hh Rh (.ref (ad E 0 0) :: (As ++ [.ref (ad E 33 0)])) μ (some (.int k)) μ1 ∧ MM E ym bm mm (some .int) Rm (.ref (ad E 16 0) :: As) μ1 (some (.int r)) μ2 ∧ μ2 16 0 0 = k ∧ (k = 0 → μ2 33 0 0 = r) ∧ P μ2
theorem and15 (x : Int32) : ∃ j : Nat, j < 16 ∧ x &&& 15 = nI j := by
  refine ⟨(x &&& 15).toBitVec.toNat, ?_, ?_⟩
  · have h : (x &&& 15).toBitVec = x.toBitVec &&& 15#32 := rfl
    rw [h, BitVec.toNat_and]
    have := Nat.and_le_right (n := x.toBitVec.toNat) (m := (15#32 : BitVec 32).toNat)
    have e : (15#32 : BitVec 32).toNat = 15 := by decide
    omega
  · show x &&& 15 = Int32.ofNat _
    apply Int32.toBitVec_inj.mp
    show _ = BitVec.ofNat 32 _
    rw [BitVec.ofNat_toNat]
    simp
theorem nI_sub6 {L i : Nat} (hL : L ≤ 3072) (hi : i ≤ L) (h : ¬ nI L - 6 < nI i) : i + 6 ≤ L := by
  rcases Nat.lt_or_ge L 6 with q | q
  · exact absurd (Int32.lt_of_lt_of_le (pk_sneg (a := L) (b := 6) (by decide) q : nI L - 6 < 0) (nI_pos' (by omega))) h
  · rw [show (nI L - 6 : Int32) = nI (L - 6) from pk_sub q] at h
    have : ¬ L - 6 < i := fun z => h ((nI_ltI (by omega) (by omega)).mpr z)
    omega
theorem O_register {E : EE} {C : Ctx} {μ : Mem} {b LL i kc sc : Nat} {xs : Nat → Int32} {P : Mem → Prop} (X : Cx E C cL_law RL 7 room_1) (hX : va_X b LL xs (cs C) (cs C).heap) (hbl : b < (cs C).heap.size) (hbA : ¬ cA C b) (hi : i + 6 ≤ LL) (hL : LL ≤ 3072) (hk9 : kc + 2 ≤ 601024) (hs9 : sc + 12 ≤ 7293034) (hstep : STP E yL_register cL_register 8 [(0, 16, 19, 13), (0, 16, 23, 15)] (rm 8 2) yX3_register cX3_register 10 (rm 3 0) μ [.int (xs (i + 1)), .int (xs (i + 2)), .int (xs (i + 3)), .int (xs (i + 4)), .int (xs (i + 5))] P) (kk : ∀ μ2, P μ2 → KF E C (kc + 2) (sc + 12) μ2 1038 [(4, .int (nI i)), (3, .ref (ad E 33 0)), (2, .ref (ad E 16 0)), (1, .ref (ad E 0 0)), (0, .ref b)] []) : KF E C kc sc μ 120 [(4, .int (nI i)), (3, .ref (ad E 33 0)), (2, .ref (ad E 16 0)), (1, .ref (ad E 0 0)), (0, .ref b)] [] := by
  obtain ⟨k, r, μ1, μ2, hH, hM, hk, hr, hP⟩ := hstep
  refine k_aload_n X 3 dL_law_120 rfl rfl ?_
  refine k_aload_n X 4 dL_law_121 rfl rfl ?_
  refine k_iload X 0 dL_law_122 rfl ?_
  refine k_iconst X (nI 1) dL_law_124 (by decide) ?_
  refine k_iadd X dL_law_125 (k_val (nI_add i 1) ?_)
  refine k_sld X hX hbl hbA (by omega) hL dL_law_126 ?_
  refine k_aload_n X 4 dL_law_127 rfl rfl ?_
  refine k_iload X 0 dL_law_128 rfl ?_
  refine k_iconst X (nI 2) dL_law_130 (by decide) ?_
  refine k_iadd X dL_law_131 (k_val (nI_add i 2) ?_)
  refine k_sld X hX hbl hbA (by omega) hL dL_law_132 ?_
  refine k_aload_n X 4 dL_law_133 rfl rfl ?_
  refine k_iload X 0 dL_law_134 rfl ?_
  refine k_iconst X (nI 3) dL_law_136 (by decide) ?_
  refine k_iadd X dL_law_137 (k_val (nI_add i 3) ?_)
  refine k_sld X hX hbl hbA (by omega) hL dL_law_138 ?_
  refine k_aload_n X 4 dL_law_139 rfl rfl ?_
  refine k_iload X 0 dL_law_140 rfl ?_
  refine k_iconst X (nI 4) dL_law_142 (by decide) ?_
  refine k_iadd X dL_law_143 (k_val (nI_add i 4) ?_)
  refine k_sld X hX hbl hbA (by omega) hL dL_law_144 ?_
  refine k_aload_n X 4 dL_law_145 rfl rfl ?_
  refine k_iload X 0 dL_law_146 rfl ?_
  refine k_iconst X (nI 5) dL_law_148 (by decide) ?_
  refine k_iadd X dL_law_149 (k_val (nI_add i 5) ?_)
  refine k_sld X hX hbl hbA (by omega) hL dL_law_150 ?_
  refine k_aload_n X 1 dL_law_151 rfl rfl ?_
  refine k_callH X (n' := 7) ⟨GH wm_L_65 wt_L_register wn_L wc_L_register, by decide +kernel⟩ hH rfl rfl (by simp [Value.category]) ⟨by decide, by decide⟩ ⟨by show _ + 2 ≤ 601024; omega, by show _ + 12 ≤ 7293034; omega⟩ dL_law_152 ?_
  refine k_wide (k' := kc + 2) (n' := sc + 12) (by show kc + 2 ≤ _; omega) (by show sc + 12 ≤ _; omega) ?_
  refine k_istore X dL_law_155 (by decide) rfl ?_
  refine k_aload_n X 3 dL_law_157 rfl rfl ?_
  refine k_aload_n X 5 dL_law_158 rfl rfl ?_
  refine k_iload X 1 dL_law_159 rfl ?_
  refine k_iconst X (nI 1) dL_law_161 (by decide) ?_
  refine k_iadd X dL_law_162 (k_val (nI_add i 1) ?_)
  refine k_sld X hX hbl hbA (by omega) hL dL_law_163 ?_
  refine k_aload_n X 5 dL_law_164 rfl rfl ?_
  refine k_iload X 1 dL_law_165 rfl ?_
  refine k_iconst X (nI 2) dL_law_167 (by decide) ?_
  refine k_iadd X dL_law_168 (k_val (nI_add i 2) ?_)
  refine k_sld X hX hbl hbA (by omega) hL dL_law_169 ?_
  refine k_aload_n X 5 dL_law_170 rfl rfl ?_
  refine k_iload X 1 dL_law_171 rfl ?_
  refine k_iconst X (nI 3) dL_law_173 (by decide) ?_
  refine k_iadd X dL_law_174 (k_val (nI_add i 3) ?_)
  refine k_sld X hX hbl hbA (by omega) hL dL_law_175 ?_
  refine k_aload_n X 5 dL_law_176 rfl rfl ?_
  refine k_iload X 1 dL_law_177 rfl ?_
  refine k_iconst X (nI 4) dL_law_179 (by decide) ?_
  refine k_iadd X dL_law_180 (k_val (nI_add i 4) ?_)
  refine k_sld X hX hbl hbA (by omega) hL dL_law_181 ?_
  refine k_aload_n X 5 dL_law_182 rfl rfl ?_
  refine k_iload X 1 dL_law_183 rfl ?_
  refine k_iconst X (nI 5) dL_law_185 (by decide) ?_
  refine k_iadd X dL_law_186 (k_val (nI_add i 5) ?_)
  refine k_sld X hX hbl hbA (by omega) hL dL_law_187 ?_
  refine k_callV (Cn := RX3) X lk_L_70 rfl (by decide) rfl hM rfl rfl (by simp [Value.category]) ⟨by decide, by decide⟩ ⟨by show kc + 2 ≤ 601024; omega, by show sc + 12 ≤ 7293034; omega⟩ dL_law_188 ?_
  refine k_istore X dL_law_191 (by decide) rfl ?_
  refine k_aload_n X 4 dL_law_193 rfl rfl ?_
  refine k_callV (Cn := RX3) X lk_L_71 rfl (by decide) rfl C_X3_thrown rfl rfl (by simp [Value.category]) ⟨by decide, by decide⟩ ⟨by show kc + 2 ≤ 601024; omega, by show sc + 12 ≤ 7293034; omega⟩ dL_law_194 ?_
  refine k_iload X 1 dL_law_197 rfl ?_
  refine k_icmp_eq_t X (tgt := 204) dL_law_199 (by decide) hk ?_
  refine k_iload X 1 dL_law_204 rfl ?_
  refine k_if_ne X (tgt := 221) dL_law_206 (by decide) (fun h0 => ?_) (fun h0 => ?_)
  · refine k_goto X (tgt := 1038) dL_law_221 (by decide) ?_
    refine k_pick [2, 3, 4, 5, 6] rfl ?_
    exact kk μ2 hP
  · refine k_aload_n X 3 dL_law_209 rfl rfl ?_
    refine k_iconst X 0 dL_law_210 (by decide) ?_
    refine k_lald X rfl dL_law_211 ?_
    refine k_iload X 0 dL_law_212 rfl ?_
    refine k_i2l X dL_law_214 ?_
    refine k_lcmp X dL_law_215 ?_
    refine k_if_eq_t X (tgt := 221) dL_law_216 (by decide) ((lg_cmp_eq _ _).mpr (by rw [hr h0])) ?_
    refine k_goto X (tgt := 1038) dL_law_221 (by decide) ?_
    refine k_pick [2, 3, 4, 5, 6] rfl ?_
    exact kk μ2 hP
theorem O_bindings {E : EE} {C : Ctx} {μ : Mem} {b LL i kc sc : Nat} {xs : Nat → Int32} {P : Mem → Prop} (X : Cx E C cL_law RL 7 room_1) (hX : va_X b LL xs (cs C) (cs C).heap) (hbl : b < (cs C).heap.size) (hbA : ¬ cA C b) (hi : i + 6 ≤ LL) (hL : LL ≤ 3072) (hk9 : kc + 2 ≤ 601024) (hs9 : sc + 12 ≤ 7293034) (hstep : STP E yL_bindings cL_bindings 4 [(0, 9, 12, 13)] (rm 8 1) yX3_bindings cX3_bindings 2 (rm 3 0) μ [.int (xs (i + 1))] P) (kk : ∀ μ2, P μ2 → KF E C (kc + 2) (sc + 12) μ2 1038 [(4, .int (nI i)), (3, .ref (ad E 33 0)), (2, .ref (ad E 16 0)), (1, .ref (ad E 0 0)), (0, .ref b)] []) : KF E C kc sc μ 224 [(4, .int (nI i)), (3, .ref (ad E 33 0)), (2, .ref (ad E 16 0)), (1, .ref (ad E 0 0)), (0, .ref b)] [] := by
  obtain ⟨k, r, μ1, μ2, hH, hM, hk, hr, hP⟩ := hstep
  refine k_aload_n X 3 dL_law_224 rfl rfl ?_
  refine k_aload_n X 4 dL_law_225 rfl rfl ?_
  refine k_iload X 0 dL_law_226 rfl ?_
  refine k_iconst X (nI 1) dL_law_228 (by decide) ?_
  refine k_iadd X dL_law_229 (k_val (nI_add i 1) ?_)
  refine k_sld X hX hbl hbA (by omega) hL dL_law_230 ?_
  refine k_aload_n X 1 dL_law_231 rfl rfl ?_
  refine k_callH X (n' := 3) ⟨GH wm_L_75 wt_L_bindings wn_L wc_L_bindings, by decide +kernel⟩ hH rfl rfl (by simp [Value.category]) ⟨by decide, by decide⟩ ⟨by show _ + 1 ≤ 601024; omega, by show _ + 6 ≤ 7293034; omega⟩ dL_law_232 ?_
  refine k_wide (k' := kc + 2) (n' := sc + 12) (by show kc + 1 ≤ _; omega) (by show sc + 6 ≤ _; omega) ?_
  refine k_istore X dL_law_235 (by decide) rfl ?_
  refine k_aload_n X 3 dL_law_237 rfl rfl ?_
  refine k_aload_n X 5 dL_law_238 rfl rfl ?_
  refine k_iload X 1 dL_law_239 rfl ?_
  refine k_iconst X (nI 1) dL_law_241 (by decide) ?_
  refine k_iadd X dL_law_242 (k_val (nI_add i 1) ?_)
  refine k_sld X hX hbl hbA (by omega) hL dL_law_243 ?_
  refine k_callV (Cn := RX3) X lk_L_78 rfl (by decide) rfl hM rfl rfl (by simp [Value.category]) ⟨by decide, by decide⟩ ⟨by show kc + 2 ≤ 601024; omega, by show sc + 12 ≤ 7293034; omega⟩ dL_law_244 ?_
  refine k_istore X dL_law_247 (by decide) rfl ?_
  refine k_aload_n X 4 dL_law_249 rfl rfl ?_
  refine k_callV (Cn := RX3) X lk_L_71 rfl (by decide) rfl C_X3_thrown rfl rfl (by simp [Value.category]) ⟨by decide, by decide⟩ ⟨by show kc + 2 ≤ 601024; omega, by show sc + 12 ≤ 7293034; omega⟩ dL_law_250 ?_
  refine k_iload X 1 dL_law_253 rfl ?_
  refine k_icmp_eq_t X (tgt := 260) dL_law_255 (by decide) hk ?_
  refine k_iload X 1 dL_law_260 rfl ?_
  refine k_if_ne X (tgt := 277) dL_law_262 (by decide) (fun h0 => ?_) (fun h0 => ?_)
  · refine k_goto X (tgt := 1038) dL_law_277 (by decide) ?_
    refine k_pick [2, 3, 4, 5, 6] rfl ?_
    exact kk μ2 hP
  · refine k_aload_n X 3 dL_law_265 rfl rfl ?_
    refine k_iconst X 0 dL_law_266 (by decide) ?_
    refine k_lald X rfl dL_law_267 ?_
    refine k_iload X 0 dL_law_268 rfl ?_
    refine k_i2l X dL_law_270 ?_
    refine k_lcmp X dL_law_271 ?_
    refine k_if_eq_t X (tgt := 277) dL_law_272 (by decide) ((lg_cmp_eq _ _).mpr (by rw [hr h0])) ?_
    refine k_goto X (tgt := 1038) dL_law_277 (by decide) ?_
    refine k_pick [2, 3, 4, 5, 6] rfl ?_
    exact kk μ2 hP
theorem O_binding {E : EE} {C : Ctx} {μ : Mem} {b LL i kc sc : Nat} {xs : Nat → Int32} {P : Mem → Prop} (X : Cx E C cL_law RL 7 room_1) (hX : va_X b LL xs (cs C) (cs C).heap) (hbl : b < (cs C).heap.size) (hbA : ¬ cA C b) (hi : i + 6 ≤ LL) (hL : LL ≤ 3072) (hk9 : kc + 2 ≤ 601024) (hs9 : sc + 12 ≤ 7293034) (hstep : STP E yL_binding cL_binding 5 [(0, 10, 13, 13), (0, 10, 17, 25)] (rm 8 2) yX3_binding cX3_binding 9 (rm 3 0) μ [.int (xs (i + 1)), .int (xs (i + 2))] P) (kk : ∀ μ2, P μ2 → KF E C (kc + 2) (sc + 12) μ2 1038 [(4, .int (nI i)), (3, .ref (ad E 33 0)), (2, .ref (ad E 16 0)), (1, .ref (ad E 0 0)), (0, .ref b)] []) : KF E C kc sc μ 280 [(4, .int (nI i)), (3, .ref (ad E 33 0)), (2, .ref (ad E 16 0)), (1, .ref (ad E 0 0)), (0, .ref b)] [] := by
  obtain ⟨k, r, μ1, μ2, hH, hM, hk, hr, hP⟩ := hstep
  refine k_aload_n X 3 dL_law_280 rfl rfl ?_
  refine k_aload_n X 4 dL_law_281 rfl rfl ?_
  refine k_iload X 0 dL_law_282 rfl ?_
  refine k_iconst X (nI 1) dL_law_284 (by decide) ?_
  refine k_iadd X dL_law_285 (k_val (nI_add i 1) ?_)
  refine k_sld X hX hbl hbA (by omega) hL dL_law_286 ?_
  refine k_aload_n X 4 dL_law_287 rfl rfl ?_
  refine k_iload X 0 dL_law_288 rfl ?_
  refine k_iconst X (nI 2) dL_law_290 (by decide) ?_
  refine k_iadd X dL_law_291 (k_val (nI_add i 2) ?_)
  refine k_sld X hX hbl hbA (by omega) hL dL_law_292 ?_
  refine k_aload_n X 1 dL_law_293 rfl rfl ?_
  refine k_callH X (n' := 4) ⟨GH wm_L_79 wt_L_binding wn_L wc_L_binding, by decide +kernel⟩ hH rfl rfl (by simp [Value.category]) ⟨by decide, by decide⟩ ⟨by show _ + 2 ≤ 601024; omega, by show _ + 12 ≤ 7293034; omega⟩ dL_law_294 ?_
  refine k_wide (k' := kc + 2) (n' := sc + 12) (by show kc + 2 ≤ _; omega) (by show sc + 12 ≤ _; omega) ?_
  refine k_istore X dL_law_297 (by decide) rfl ?_
  refine k_aload_n X 3 dL_law_299 rfl rfl ?_
  refine k_aload_n X 5 dL_law_300 rfl rfl ?_
  refine k_iload X 1 dL_law_301 rfl ?_
  refine k_iconst X (nI 1) dL_law_303 (by decide) ?_
  refine k_iadd X dL_law_304 (k_val (nI_add i 1) ?_)
  refine k_sld X hX hbl hbA (by omega) hL dL_law_305 ?_
  refine k_aload_n X 5 dL_law_306 rfl rfl ?_
  refine k_iload X 1 dL_law_307 rfl ?_
  refine k_iconst X (nI 2) dL_law_309 (by decide) ?_
  refine k_iadd X dL_law_310 (k_val (nI_add i 2) ?_)
  refine k_sld X hX hbl hbA (by omega) hL dL_law_311 ?_
  refine k_callV (Cn := RX3) X lk_L_82 rfl (by decide) rfl hM rfl rfl (by simp [Value.category]) ⟨by decide, by decide⟩ ⟨by show kc + 2 ≤ 601024; omega, by show sc + 12 ≤ 7293034; omega⟩ dL_law_312 ?_
  refine k_istore X dL_law_315 (by decide) rfl ?_
  refine k_aload_n X 4 dL_law_317 rfl rfl ?_
  refine k_callV (Cn := RX3) X lk_L_71 rfl (by decide) rfl C_X3_thrown rfl rfl (by simp [Value.category]) ⟨by decide, by decide⟩ ⟨by show kc + 2 ≤ 601024; omega, by show sc + 12 ≤ 7293034; omega⟩ dL_law_318 ?_
  refine k_iload X 1 dL_law_321 rfl ?_
  refine k_icmp_eq_t X (tgt := 328) dL_law_323 (by decide) hk ?_
  refine k_iload X 1 dL_law_328 rfl ?_
  refine k_if_ne X (tgt := 345) dL_law_330 (by decide) (fun h0 => ?_) (fun h0 => ?_)
  · refine k_goto X (tgt := 1038) dL_law_345 (by decide) ?_
    refine k_pick [2, 3, 4, 5, 6] rfl ?_
    exact kk μ2 hP
  · refine k_aload_n X 3 dL_law_333 rfl rfl ?_
    refine k_iconst X 0 dL_law_334 (by decide) ?_
    refine k_lald X rfl dL_law_335 ?_
    refine k_iload X 0 dL_law_336 rfl ?_
    refine k_i2l X dL_law_338 ?_
    refine k_lcmp X dL_law_339 ?_
    refine k_if_eq_t X (tgt := 345) dL_law_340 (by decide) ((lg_cmp_eq _ _).mpr (by rw [hr h0])) ?_
    refine k_goto X (tgt := 1038) dL_law_345 (by decide) ?_
    refine k_pick [2, 3, 4, 5, 6] rfl ?_
    exact kk μ2 hP
theorem O_call {E : EE} {C : Ctx} {μ : Mem} {b LL i kc sc : Nat} {xs : Nat → Int32} {P : Mem → Prop} (X : Cx E C cL_law RL 7 room_1) (hX : va_X b LL xs (cs C) (cs C).heap) (hbl : b < (cs C).heap.size) (hbA : ¬ cA C b) (hi : i + 6 ≤ LL) (hL : LL ≤ 3072) (hk9 : kc + 2 ≤ 601024) (hs9 : sc + 12 ≤ 7293034) (hstep : STP E yL_call cL_call 4 [(0, 9, 12, 13), (0, 9, 15, 15)] (rm 10 1) yX3_call cX3_call 3 (rm 6 0) μ [.int (xs (i + 1))] P) (kk : ∀ μ2, P μ2 → KF E C (kc + 2) (sc + 12) μ2 1038 [(4, .int (nI i)), (3, .ref (ad E 33 0)), (2, .ref (ad E 16 0)), (1, .ref (ad E 0 0)), (0, .ref b)] []) : KF E C kc sc μ 348 [(4, .int (nI i)), (3, .ref (ad E 33 0)), (2, .ref (ad E 16 0)), (1, .ref (ad E 0 0)), (0, .ref b)] [] := by
  obtain ⟨k, r, μ1, μ2, hH, hM, hk, hr, hP⟩ := hstep
  refine k_aload_n X 3 dL_law_348 rfl rfl ?_
  refine k_aload_n X 4 dL_law_349 rfl rfl ?_
  refine k_iload X 0 dL_law_350 rfl ?_
  refine k_iconst X (nI 1) dL_law_352 (by decide) ?_
  refine k_iadd X dL_law_353 (k_val (nI_add i 1) ?_)
  refine k_sld X hX hbl hbA (by omega) hL dL_law_354 ?_
  refine k_aload_n X 1 dL_law_355 rfl rfl ?_
  refine k_callH X (n' := 3) ⟨GH wm_L_83 wt_L_call wn_L wc_L_call, by decide +kernel⟩ hH rfl rfl (by simp [Value.category]) ⟨by decide, by decide⟩ ⟨by show _ + 1 ≤ 601024; omega, by show _ + 6 ≤ 7293034; omega⟩ dL_law_356 ?_
  refine k_wide (k' := kc + 2) (n' := sc + 12) (by show kc + 1 ≤ _; omega) (by show sc + 6 ≤ _; omega) ?_
  refine k_istore X dL_law_359 (by decide) rfl ?_
  refine k_aload_n X 3 dL_law_361 rfl rfl ?_
  refine k_aload_n X 5 dL_law_362 rfl rfl ?_
  refine k_iload X 1 dL_law_363 rfl ?_
  refine k_iconst X (nI 1) dL_law_365 (by decide) ?_
  refine k_iadd X dL_law_366 (k_val (nI_add i 1) ?_)
  refine k_sld X hX hbl hbA (by omega) hL dL_law_367 ?_
  refine k_callV (Cn := RX3) X lk_L_85 rfl (by decide) rfl hM rfl rfl (by simp [Value.category]) ⟨by decide, by decide⟩ ⟨by show kc + 2 ≤ 601024; omega, by show sc + 12 ≤ 7293034; omega⟩ dL_law_368 ?_
  refine k_istore X dL_law_371 (by decide) rfl ?_
  refine k_aload_n X 4 dL_law_373 rfl rfl ?_
  refine k_callV (Cn := RX3) X lk_L_71 rfl (by decide) rfl C_X3_thrown rfl rfl (by simp [Value.category]) ⟨by decide, by decide⟩ ⟨by show kc + 2 ≤ 601024; omega, by show sc + 12 ≤ 7293034; omega⟩ dL_law_374 ?_
  refine k_iload X 1 dL_law_377 rfl ?_
  refine k_icmp_eq_t X (tgt := 384) dL_law_379 (by decide) hk ?_
  refine k_iload X 1 dL_law_384 rfl ?_
  refine k_if_ne X (tgt := 401) dL_law_386 (by decide) (fun h0 => ?_) (fun h0 => ?_)
  · refine k_goto X (tgt := 1038) dL_law_401 (by decide) ?_
    refine k_pick [2, 3, 4, 5, 6] rfl ?_
    exact kk μ2 hP
  · refine k_aload_n X 3 dL_law_389 rfl rfl ?_
    refine k_iconst X 0 dL_law_390 (by decide) ?_
    refine k_lald X rfl dL_law_391 ?_
    refine k_iload X 0 dL_law_392 rfl ?_
    refine k_i2l X dL_law_394 ?_
    refine k_lcmp X dL_law_395 ?_
    refine k_if_eq_t X (tgt := 401) dL_law_396 (by decide) ((lg_cmp_eq _ _).mpr (by rw [hr h0])) ?_
    refine k_goto X (tgt := 1038) dL_law_401 (by decide) ?_
    refine k_pick [2, 3, 4, 5, 6] rfl ?_
    exact kk μ2 hP
theorem O_answer {E : EE} {C : Ctx} {μ : Mem} {b LL i kc sc : Nat} {xs : Nat → Int32} {P : Mem → Prop} (X : Cx E C cL_law RL 7 room_1) (hX : va_X b LL xs (cs C) (cs C).heap) (hbl : b < (cs C).heap.size) (hbA : ¬ cA C b) (hi : i + 6 ≤ LL) (hL : LL ≤ 3072) (hk9 : kc + 2 ≤ 601024) (hs9 : sc + 12 ≤ 7293034) (hstep : STP E yL_answer cL_answer 6 [(0, 12, 15, 25), (0, 12, 19, 13), (0, 12, 23, 15)] (rm 8 2) yX3_answer cX3_answer 7 (rm 5 0) μ [.int (xs (i + 1)), .int (xs (i + 2)), .int (xs (i + 3))] P) (kk : ∀ μ2, P μ2 → KF E C (kc + 2) (sc + 12) μ2 1038 [(4, .int (nI i)), (3, .ref (ad E 33 0)), (2, .ref (ad E 16 0)), (1, .ref (ad E 0 0)), (0, .ref b)] []) : KF E C kc sc μ 404 [(4, .int (nI i)), (3, .ref (ad E 33 0)), (2, .ref (ad E 16 0)), (1, .ref (ad E 0 0)), (0, .ref b)] [] := by
  obtain ⟨k, r, μ1, μ2, hH, hM, hk, hr, hP⟩ := hstep
  refine k_aload_n X 3 dL_law_404 rfl rfl ?_
  refine k_aload_n X 4 dL_law_405 rfl rfl ?_
  refine k_iload X 0 dL_law_406 rfl ?_
  refine k_iconst X (nI 1) dL_law_408 (by decide) ?_
  refine k_iadd X dL_law_409 (k_val (nI_add i 1) ?_)
  refine k_sld X hX hbl hbA (by omega) hL dL_law_410 ?_
  refine k_aload_n X 4 dL_law_411 rfl rfl ?_
  refine k_iload X 0 dL_law_412 rfl ?_
  refine k_iconst X (nI 2) dL_law_414 (by decide) ?_
  refine k_iadd X dL_law_415 (k_val (nI_add i 2) ?_)
  refine k_sld X hX hbl hbA (by omega) hL dL_law_416 ?_
  refine k_aload_n X 4 dL_law_417 rfl rfl ?_
  refine k_iload X 0 dL_law_418 rfl ?_
  refine k_iconst X (nI 3) dL_law_420 (by decide) ?_
  refine k_iadd X dL_law_421 (k_val (nI_add i 3) ?_)
  refine k_sld X hX hbl hbA (by omega) hL dL_law_422 ?_
  refine k_aload_n X 1 dL_law_423 rfl rfl ?_
  refine k_callH X (n' := 5) ⟨GH wm_L_86 wt_L_answer wn_L wc_L_answer, by decide +kernel⟩ hH rfl rfl (by simp [Value.category]) ⟨by decide, by decide⟩ ⟨by show _ + 2 ≤ 601024; omega, by show _ + 12 ≤ 7293034; omega⟩ dL_law_424 ?_
  refine k_wide (k' := kc + 2) (n' := sc + 12) (by show kc + 2 ≤ _; omega) (by show sc + 12 ≤ _; omega) ?_
  refine k_istore X dL_law_427 (by decide) rfl ?_
  refine k_aload_n X 3 dL_law_429 rfl rfl ?_
  refine k_aload_n X 5 dL_law_430 rfl rfl ?_
  refine k_iload X 1 dL_law_431 rfl ?_
  refine k_iconst X (nI 1) dL_law_433 (by decide) ?_
  refine k_iadd X dL_law_434 (k_val (nI_add i 1) ?_)
  refine k_sld X hX hbl hbA (by omega) hL dL_law_435 ?_
  refine k_aload_n X 5 dL_law_436 rfl rfl ?_
  refine k_iload X 1 dL_law_437 rfl ?_
  refine k_iconst X (nI 2) dL_law_439 (by decide) ?_
  refine k_iadd X dL_law_440 (k_val (nI_add i 2) ?_)
  refine k_sld X hX hbl hbA (by omega) hL dL_law_441 ?_
  refine k_aload_n X 5 dL_law_442 rfl rfl ?_
  refine k_iload X 1 dL_law_443 rfl ?_
  refine k_iconst X (nI 3) dL_law_445 (by decide) ?_
  refine k_iadd X dL_law_446 (k_val (nI_add i 3) ?_)
  refine k_sld X hX hbl hbA (by omega) hL dL_law_447 ?_
  refine k_callV (Cn := RX3) X lk_L_89 rfl (by decide) rfl hM rfl rfl (by simp [Value.category]) ⟨by decide, by decide⟩ ⟨by show kc + 2 ≤ 601024; omega, by show sc + 12 ≤ 7293034; omega⟩ dL_law_448 ?_
  refine k_istore X dL_law_451 (by decide) rfl ?_
  refine k_aload_n X 4 dL_law_453 rfl rfl ?_
  refine k_callV (Cn := RX3) X lk_L_71 rfl (by decide) rfl C_X3_thrown rfl rfl (by simp [Value.category]) ⟨by decide, by decide⟩ ⟨by show kc + 2 ≤ 601024; omega, by show sc + 12 ≤ 7293034; omega⟩ dL_law_454 ?_
  refine k_iload X 1 dL_law_457 rfl ?_
  refine k_icmp_eq_t X (tgt := 464) dL_law_459 (by decide) hk ?_
  refine k_iload X 1 dL_law_464 rfl ?_
  refine k_if_ne X (tgt := 481) dL_law_466 (by decide) (fun h0 => ?_) (fun h0 => ?_)
  · refine k_goto X (tgt := 1038) dL_law_481 (by decide) ?_
    refine k_pick [2, 3, 4, 5, 6] rfl ?_
    exact kk μ2 hP
  · refine k_aload_n X 3 dL_law_469 rfl rfl ?_
    refine k_iconst X 0 dL_law_470 (by decide) ?_
    refine k_lald X rfl dL_law_471 ?_
    refine k_iload X 0 dL_law_472 rfl ?_
    refine k_i2l X dL_law_474 ?_
    refine k_lcmp X dL_law_475 ?_
    refine k_if_eq_t X (tgt := 481) dL_law_476 (by decide) ((lg_cmp_eq _ _).mpr (by rw [hr h0])) ?_
    refine k_goto X (tgt := 1038) dL_law_481 (by decide) ?_
    refine k_pick [2, 3, 4, 5, 6] rfl ?_
    exact kk μ2 hP
theorem O_cancel {E : EE} {C : Ctx} {μ : Mem} {b LL i kc sc : Nat} {xs : Nat → Int32} {P : Mem → Prop} (X : Cx E C cL_law RL 7 room_1) (hX : va_X b LL xs (cs C) (cs C).heap) (hbl : b < (cs C).heap.size) (hbA : ¬ cA C b) (hi : i + 6 ≤ LL) (hL : LL ≤ 3072) (hk9 : kc + 2 ≤ 601024) (hs9 : sc + 12 ≤ 7293034) (hstep : STP E yL_cancel cL_cancel 4 [(0, 9, 12, 25), (0, 9, 15, 15)] (rm 8 2) yX3_cancel cX3_cancel 3 (rm 3 0) μ [.int (xs (i + 1))] P) (kk : ∀ μ2, P μ2 → KF E C (kc + 2) (sc + 12) μ2 1038 [(4, .int (nI i)), (3, .ref (ad E 33 0)), (2, .ref (ad E 16 0)), (1, .ref (ad E 0 0)), (0, .ref b)] []) : KF E C kc sc μ 484 [(4, .int (nI i)), (3, .ref (ad E 33 0)), (2, .ref (ad E 16 0)), (1, .ref (ad E 0 0)), (0, .ref b)] [] := by
  obtain ⟨k, r, μ1, μ2, hH, hM, hk, hr, hP⟩ := hstep
  refine k_aload_n X 3 dL_law_484 rfl rfl ?_
  refine k_aload_n X 4 dL_law_485 rfl rfl ?_
  refine k_iload X 0 dL_law_486 rfl ?_
  refine k_iconst X (nI 1) dL_law_488 (by decide) ?_
  refine k_iadd X dL_law_489 (k_val (nI_add i 1) ?_)
  refine k_sld X hX hbl hbA (by omega) hL dL_law_490 ?_
  refine k_aload_n X 1 dL_law_491 rfl rfl ?_
  refine k_callH X (n' := 3) ⟨GH wm_L_90 wt_L_cancel wn_L wc_L_cancel, by decide +kernel⟩ hH rfl rfl (by simp [Value.category]) ⟨by decide, by decide⟩ ⟨by show _ + 2 ≤ 601024; omega, by show _ + 12 ≤ 7293034; omega⟩ dL_law_492 ?_
  refine k_wide (k' := kc + 2) (n' := sc + 12) (by show kc + 2 ≤ _; omega) (by show sc + 12 ≤ _; omega) ?_
  refine k_istore X dL_law_495 (by decide) rfl ?_
  refine k_aload_n X 3 dL_law_497 rfl rfl ?_
  refine k_aload_n X 5 dL_law_498 rfl rfl ?_
  refine k_iload X 1 dL_law_499 rfl ?_
  refine k_iconst X (nI 1) dL_law_501 (by decide) ?_
  refine k_iadd X dL_law_502 (k_val (nI_add i 1) ?_)
  refine k_sld X hX hbl hbA (by omega) hL dL_law_503 ?_
  refine k_callV (Cn := RX3) X lk_L_92 rfl (by decide) rfl hM rfl rfl (by simp [Value.category]) ⟨by decide, by decide⟩ ⟨by show kc + 2 ≤ 601024; omega, by show sc + 12 ≤ 7293034; omega⟩ dL_law_504 ?_
  refine k_istore X dL_law_507 (by decide) rfl ?_
  refine k_aload_n X 4 dL_law_509 rfl rfl ?_
  refine k_callV (Cn := RX3) X lk_L_71 rfl (by decide) rfl C_X3_thrown rfl rfl (by simp [Value.category]) ⟨by decide, by decide⟩ ⟨by show kc + 2 ≤ 601024; omega, by show sc + 12 ≤ 7293034; omega⟩ dL_law_510 ?_
  refine k_iload X 1 dL_law_513 rfl ?_
  refine k_icmp_eq_t X (tgt := 520) dL_law_515 (by decide) hk ?_
  refine k_iload X 1 dL_law_520 rfl ?_
  refine k_if_ne X (tgt := 537) dL_law_522 (by decide) (fun h0 => ?_) (fun h0 => ?_)
  · refine k_goto X (tgt := 1038) dL_law_537 (by decide) ?_
    refine k_pick [2, 3, 4, 5, 6] rfl ?_
    exact kk μ2 hP
  · refine k_aload_n X 3 dL_law_525 rfl rfl ?_
    refine k_iconst X 0 dL_law_526 (by decide) ?_
    refine k_lald X rfl dL_law_527 ?_
    refine k_iload X 0 dL_law_528 rfl ?_
    refine k_i2l X dL_law_530 ?_
    refine k_lcmp X dL_law_531 ?_
    refine k_if_eq_t X (tgt := 537) dL_law_532 (by decide) ((lg_cmp_eq _ _).mpr (by rw [hr h0])) ?_
    refine k_goto X (tgt := 1038) dL_law_537 (by decide) ?_
    refine k_pick [2, 3, 4, 5, 6] rfl ?_
    exact kk μ2 hP
theorem O_pass {E : EE} {C : Ctx} {μ : Mem} {b LL i kc sc : Nat} {xs : Nat → Int32} {P : Mem → Prop} (X : Cx E C cL_law RL 7 room_1) (hX : va_X b LL xs (cs C) (cs C).heap) (hbl : b < (cs C).heap.size) (hbA : ¬ cA C b) (hi : i + 6 ≤ LL) (hL : LL ≤ 3072) (hk9 : kc + 2 ≤ 601024) (hs9 : sc + 12 ≤ 7293034) (hstep : STP E yL_pass cL_pass 4 [(0, 9, 12, 13)] (rm 7 1) yX3_pass cX3_pass 5 (rm 5 0) μ [.int (xs (i + 1))] P) (kk : ∀ μ2, P μ2 → KF E C (kc + 2) (sc + 12) μ2 1038 [(4, .int (nI i)), (3, .ref (ad E 33 0)), (2, .ref (ad E 16 0)), (1, .ref (ad E 0 0)), (0, .ref b)] []) : KF E C kc sc μ 540 [(4, .int (nI i)), (3, .ref (ad E 33 0)), (2, .ref (ad E 16 0)), (1, .ref (ad E 0 0)), (0, .ref b)] [] := by
  obtain ⟨k, r, μ1, μ2, hH, hM, hk, hr, hP⟩ := hstep
  refine k_aload_n X 3 dL_law_540 rfl rfl ?_
  refine k_aload_n X 4 dL_law_541 rfl rfl ?_
  refine k_iload X 0 dL_law_542 rfl ?_
  refine k_iconst X (nI 1) dL_law_544 (by decide) ?_
  refine k_iadd X dL_law_545 (k_val (nI_add i 1) ?_)
  refine k_sld X hX hbl hbA (by omega) hL dL_law_546 ?_
  refine k_aload_n X 1 dL_law_547 rfl rfl ?_
  refine k_callH X (n' := 3) ⟨GH wm_L_93 wt_L_pass wn_L wc_L_pass, by decide +kernel⟩ hH rfl rfl (by simp [Value.category]) ⟨by decide, by decide⟩ ⟨by show _ + 1 ≤ 601024; omega, by show _ + 6 ≤ 7293034; omega⟩ dL_law_548 ?_
  refine k_wide (k' := kc + 2) (n' := sc + 12) (by show kc + 1 ≤ _; omega) (by show sc + 6 ≤ _; omega) ?_
  refine k_istore X dL_law_551 (by decide) rfl ?_
  refine k_aload_n X 3 dL_law_553 rfl rfl ?_
  refine k_aload_n X 5 dL_law_554 rfl rfl ?_
  refine k_iload X 1 dL_law_555 rfl ?_
  refine k_iconst X (nI 1) dL_law_557 (by decide) ?_
  refine k_iadd X dL_law_558 (k_val (nI_add i 1) ?_)
  refine k_sld X hX hbl hbA (by omega) hL dL_law_559 ?_
  refine k_callV (Cn := RX3) X lk_L_95 rfl (by decide) rfl hM rfl rfl (by simp [Value.category]) ⟨by decide, by decide⟩ ⟨by show kc + 2 ≤ 601024; omega, by show sc + 12 ≤ 7293034; omega⟩ dL_law_560 ?_
  refine k_istore X dL_law_563 (by decide) rfl ?_
  refine k_aload_n X 4 dL_law_565 rfl rfl ?_
  refine k_callV (Cn := RX3) X lk_L_71 rfl (by decide) rfl C_X3_thrown rfl rfl (by simp [Value.category]) ⟨by decide, by decide⟩ ⟨by show kc + 2 ≤ 601024; omega, by show sc + 12 ≤ 7293034; omega⟩ dL_law_566 ?_
  refine k_iload X 1 dL_law_569 rfl ?_
  refine k_icmp_eq_t X (tgt := 576) dL_law_571 (by decide) hk ?_
  refine k_iload X 1 dL_law_576 rfl ?_
  refine k_if_ne X (tgt := 593) dL_law_578 (by decide) (fun h0 => ?_) (fun h0 => ?_)
  · refine k_goto X (tgt := 1038) dL_law_593 (by decide) ?_
    refine k_pick [2, 3, 4, 5, 6] rfl ?_
    exact kk μ2 hP
  · refine k_aload_n X 3 dL_law_581 rfl rfl ?_
    refine k_iconst X 0 dL_law_582 (by decide) ?_
    refine k_lald X rfl dL_law_583 ?_
    refine k_iload X 0 dL_law_584 rfl ?_
    refine k_i2l X dL_law_586 ?_
    refine k_lcmp X dL_law_587 ?_
    refine k_if_eq_t X (tgt := 593) dL_law_588 (by decide) ((lg_cmp_eq _ _).mpr (by rw [hr h0])) ?_
    refine k_goto X (tgt := 1038) dL_law_593 (by decide) ?_
    refine k_pick [2, 3, 4, 5, 6] rfl ?_
    exact kk μ2 hP
theorem O_time {E : EE} {C : Ctx} {μ : Mem} {b LL i kc sc : Nat} {xs : Nat → Int32} (X : Cx E C cL_law RL 7 room_1) (hX : va_X b LL xs (cs C) (cs C).heap) (hbl : b < (cs C).heap.size) (hbA : ¬ cA C b) (hi : i + 6 ≤ LL) (hL : LL ≤ 3072) (hk9 : kc + 2 ≤ 601024) (hs9 : sc + 12 ≤ 7293034) (he : μ 0 0 6 = μ 16 0 1) (kk : KF E C (kc + 2) (sc + 12) (st μ 16 0 0 0) 1038 [(4, .int (nI i)), (3, .ref (ad E 33 0)), (2, .ref (ad E 16 0)), (1, .ref (ad E 0 0)), (0, .ref b)] []) : KF E C kc sc μ 596 [(4, .int (nI i)), (3, .ref (ad E 33 0)), (2, .ref (ad E 16 0)), (1, .ref (ad E 0 0)), (0, .ref b)] [] := by
  refine k_wide (k' := kc + 2) (n' := sc + 12) (by omega) (by omega) ?_
  refine k_aload_n X 3 dL_law_596 rfl rfl ?_
  refine k_callV (Cn := RX2) X lk_L_96 rfl (by decide) rfl C_X2_time rfl rfl (by simp [Value.category]) ⟨by decide, by decide⟩ ⟨by show kc + 2 ≤ 601024; omega, by show sc + 12 ≤ 7293034; omega⟩ dL_law_597 ?_
  refine k_aload_n X 2 dL_law_600 rfl rfl ?_
  refine k_callV (Cn := RX3) X lk_L_99 rfl (by decide) rfl C_X3_time rfl rfl (by simp [Value.category]) ⟨by decide, by decide⟩ ⟨by show kc + 2 ≤ 601024; omega, by show sc + 12 ≤ 7293034; omega⟩ dL_law_601 ?_
  exact k_icmp_eq_t X (tgt := 1038) dL_law_604 (by decide) he kk
theorem O_calls {E : EE} {C : Ctx} {μ : Mem} {b LL i kc sc : Nat} {xs : Nat → Int32} (X : Cx E C cL_law RL 7 room_1) (hX : va_X b LL xs (cs C) (cs C).heap) (hbl : b < (cs C).heap.size) (hbA : ¬ cA C b) (hi : i + 6 ≤ LL) (hL : LL ≤ 3072) (hk9 : kc + 2 ≤ 601024) (hs9 : sc + 12 ≤ 7293034) (he : μ 0 0 5 = μ 16 0 8) (kk : KF E C (kc + 2) (sc + 12) (st μ 16 0 0 0) 1038 [(4, .int (nI i)), (3, .ref (ad E 33 0)), (2, .ref (ad E 16 0)), (1, .ref (ad E 0 0)), (0, .ref b)] []) : KF E C kc sc μ 609 [(4, .int (nI i)), (3, .ref (ad E 33 0)), (2, .ref (ad E 16 0)), (1, .ref (ad E 0 0)), (0, .ref b)] [] := by
  refine k_wide (k' := kc + 2) (n' := sc + 12) (by omega) (by omega) ?_
  refine k_aload_n X 3 dL_law_609 rfl rfl ?_
  refine k_callV (Cn := RX2) X lk_L_100 rfl (by decide) rfl C_X2_calls rfl rfl (by simp [Value.category]) ⟨by decide, by decide⟩ ⟨by show kc + 2 ≤ 601024; omega, by show sc + 12 ≤ 7293034; omega⟩ dL_law_610 ?_
  refine k_aload_n X 2 dL_law_613 rfl rfl ?_
  refine k_callV (Cn := RX3) X lk_L_103 rfl (by decide) rfl C_X3_calls rfl rfl (by simp [Value.category]) ⟨by decide, by decide⟩ ⟨by show kc + 2 ≤ 601024; omega, by show sc + 12 ≤ 7293034; omega⟩ dL_law_614 ?_
  exact k_icmp_eq_t X (tgt := 1038) dL_law_617 (by decide) he kk
theorem O_finalOf {E : EE} {C : Ctx} {μ : Mem} {b LL i kc sc : Nat} {xs : Nat → Int32} {P : Mem → Prop} (X : Cx E C cL_law RL 7 room_1) (hX : va_X b LL xs (cs C) (cs C).heap) (hbl : b < (cs C).heap.size) (hbA : ¬ cA C b) (hi : i + 6 ≤ LL) (hL : LL ≤ 3072) (hk9 : kc + 2 ≤ 601024) (hs9 : sc + 12 ≤ 7293034) (hstep : STP E yL_finalOf cL_finalOf 4 [(0, 9, 12, 25)] (rm 8 1) yX3_finalOf cX3_finalOf 2 (rm 3 0) μ [.int (xs (i + 1))] P) (kk : ∀ μ2, P μ2 → KF E C (kc + 2) (sc + 12) μ2 1038 [(4, .int (nI i)), (3, .ref (ad E 33 0)), (2, .ref (ad E 16 0)), (1, .ref (ad E 0 0)), (0, .ref b)] []) : KF E C kc sc μ 622 [(4, .int (nI i)), (3, .ref (ad E 33 0)), (2, .ref (ad E 16 0)), (1, .ref (ad E 0 0)), (0, .ref b)] [] := by
  obtain ⟨k, r, μ1, μ2, hH, hM, hk, hr, hP⟩ := hstep
  refine k_aload_n X 3 dL_law_622 rfl rfl ?_
  refine k_aload_n X 4 dL_law_623 rfl rfl ?_
  refine k_iload X 0 dL_law_624 rfl ?_
  refine k_iconst X (nI 1) dL_law_626 (by decide) ?_
  refine k_iadd X dL_law_627 (k_val (nI_add i 1) ?_)
  refine k_sld X hX hbl hbA (by omega) hL dL_law_628 ?_
  refine k_aload_n X 1 dL_law_629 rfl rfl ?_
  refine k_callH X (n' := 3) ⟨GH wm_L_104 wt_L_finalOf wn_L wc_L_finalOf, by decide +kernel⟩ hH rfl rfl (by simp [Value.category]) ⟨by decide, by decide⟩ ⟨by show _ + 1 ≤ 601024; omega, by show _ + 6 ≤ 7293034; omega⟩ dL_law_630 ?_
  refine k_wide (k' := kc + 2) (n' := sc + 12) (by show kc + 1 ≤ _; omega) (by show sc + 6 ≤ _; omega) ?_
  refine k_istore X dL_law_633 (by decide) rfl ?_
  refine k_aload_n X 3 dL_law_635 rfl rfl ?_
  refine k_aload_n X 5 dL_law_636 rfl rfl ?_
  refine k_iload X 1 dL_law_637 rfl ?_
  refine k_iconst X (nI 1) dL_law_639 (by decide) ?_
  refine k_iadd X dL_law_640 (k_val (nI_add i 1) ?_)
  refine k_sld X hX hbl hbA (by omega) hL dL_law_641 ?_
  refine k_callV (Cn := RX3) X lk_L_106 rfl (by decide) rfl hM rfl rfl (by simp [Value.category]) ⟨by decide, by decide⟩ ⟨by show kc + 2 ≤ 601024; omega, by show sc + 12 ≤ 7293034; omega⟩ dL_law_642 ?_
  refine k_istore X dL_law_645 (by decide) rfl ?_
  refine k_aload_n X 4 dL_law_647 rfl rfl ?_
  refine k_callV (Cn := RX3) X lk_L_71 rfl (by decide) rfl C_X3_thrown rfl rfl (by simp [Value.category]) ⟨by decide, by decide⟩ ⟨by show kc + 2 ≤ 601024; omega, by show sc + 12 ≤ 7293034; omega⟩ dL_law_648 ?_
  refine k_iload X 1 dL_law_651 rfl ?_
  refine k_icmp_eq_t X (tgt := 658) dL_law_653 (by decide) hk ?_
  refine k_iload X 1 dL_law_658 rfl ?_
  refine k_if_ne X (tgt := 675) dL_law_660 (by decide) (fun h0 => ?_) (fun h0 => ?_)
  · refine k_goto X (tgt := 1038) dL_law_675 (by decide) ?_
    refine k_pick [2, 3, 4, 5, 6] rfl ?_
    exact kk μ2 hP
  · refine k_aload_n X 3 dL_law_663 rfl rfl ?_
    refine k_iconst X 0 dL_law_664 (by decide) ?_
    refine k_lald X rfl dL_law_665 ?_
    refine k_iload X 0 dL_law_666 rfl ?_
    refine k_i2l X dL_law_668 ?_
    refine k_lcmp X dL_law_669 ?_
    refine k_if_eq_t X (tgt := 675) dL_law_670 (by decide) ((lg_cmp_eq _ _).mpr (by rw [hr h0])) ?_
    refine k_goto X (tgt := 1038) dL_law_675 (by decide) ?_
    refine k_pick [2, 3, 4, 5, 6] rfl ?_
    exact kk μ2 hP
theorem O_finalBySorting {E : EE} {C : Ctx} {μ : Mem} {b LL i kc sc : Nat} {xs : Nat → Int32} {P : Mem → Prop} (X : Cx E C cL_law RL 7 room_1) (hX : va_X b LL xs (cs C) (cs C).heap) (hbl : b < (cs C).heap.size) (hbA : ¬ cA C b) (hi : i + 6 ≤ LL) (hL : LL ≤ 3072) (hk9 : kc + 2 ≤ 601024) (hs9 : sc + 12 ≤ 7293034) (hstep : STP E yL_finalBySorting cL_finalBySorting 4 [(0, 9, 12, 25), (0, 9, 15, 15)] (rm 8 2) yX3_finalBySorting cX3_finalBySorting 3 (rm 3 0) μ [.int (xs (i + 1))] P) (kk : ∀ μ2, P μ2 → KF E C (kc + 2) (sc + 12) μ2 1038 [(4, .int (nI i)), (3, .ref (ad E 33 0)), (2, .ref (ad E 16 0)), (1, .ref (ad E 0 0)), (0, .ref b)] []) : KF E C kc sc μ 678 [(4, .int (nI i)), (3, .ref (ad E 33 0)), (2, .ref (ad E 16 0)), (1, .ref (ad E 0 0)), (0, .ref b)] [] := by
  obtain ⟨k, r, μ1, μ2, hH, hM, hk, hr, hP⟩ := hstep
  refine k_aload_n X 3 dL_law_678 rfl rfl ?_
  refine k_aload_n X 4 dL_law_679 rfl rfl ?_
  refine k_iload X 0 dL_law_680 rfl ?_
  refine k_iconst X (nI 1) dL_law_682 (by decide) ?_
  refine k_iadd X dL_law_683 (k_val (nI_add i 1) ?_)
  refine k_sld X hX hbl hbA (by omega) hL dL_law_684 ?_
  refine k_aload_n X 1 dL_law_685 rfl rfl ?_
  refine k_callH X (n' := 3) ⟨GH wm_L_107 wt_L_finalBySorting wn_L wc_L_finalBySorting, by decide +kernel⟩ hH rfl rfl (by simp [Value.category]) ⟨by decide, by decide⟩ ⟨by show _ + 2 ≤ 601024; omega, by show _ + 12 ≤ 7293034; omega⟩ dL_law_686 ?_
  refine k_wide (k' := kc + 2) (n' := sc + 12) (by show kc + 2 ≤ _; omega) (by show sc + 12 ≤ _; omega) ?_
  refine k_istore X dL_law_689 (by decide) rfl ?_
  refine k_aload_n X 3 dL_law_691 rfl rfl ?_
  refine k_aload_n X 5 dL_law_692 rfl rfl ?_
  refine k_iload X 1 dL_law_693 rfl ?_
  refine k_iconst X (nI 1) dL_law_695 (by decide) ?_
  refine k_iadd X dL_law_696 (k_val (nI_add i 1) ?_)
  refine k_sld X hX hbl hbA (by omega) hL dL_law_697 ?_
  refine k_callV (Cn := RX3) X lk_L_109 rfl (by decide) rfl hM rfl rfl (by simp [Value.category]) ⟨by decide, by decide⟩ ⟨by show kc + 2 ≤ 601024; omega, by show sc + 12 ≤ 7293034; omega⟩ dL_law_698 ?_
  refine k_istore X dL_law_701 (by decide) rfl ?_
  refine k_aload_n X 4 dL_law_703 rfl rfl ?_
  refine k_callV (Cn := RX3) X lk_L_71 rfl (by decide) rfl C_X3_thrown rfl rfl (by simp [Value.category]) ⟨by decide, by decide⟩ ⟨by show kc + 2 ≤ 601024; omega, by show sc + 12 ≤ 7293034; omega⟩ dL_law_704 ?_
  refine k_iload X 1 dL_law_707 rfl ?_
  refine k_icmp_eq_t X (tgt := 714) dL_law_709 (by decide) hk ?_
  refine k_iload X 1 dL_law_714 rfl ?_
  refine k_if_ne X (tgt := 731) dL_law_716 (by decide) (fun h0 => ?_) (fun h0 => ?_)
  · refine k_goto X (tgt := 1038) dL_law_731 (by decide) ?_
    refine k_pick [2, 3, 4, 5, 6] rfl ?_
    exact kk μ2 hP
  · refine k_aload_n X 3 dL_law_719 rfl rfl ?_
    refine k_iconst X 0 dL_law_720 (by decide) ?_
    refine k_lald X rfl dL_law_721 ?_
    refine k_iload X 0 dL_law_722 rfl ?_
    refine k_i2l X dL_law_724 ?_
    refine k_lcmp X dL_law_725 ?_
    refine k_if_eq_t X (tgt := 731) dL_law_726 (by decide) ((lg_cmp_eq _ _).mpr (by rw [hr h0])) ?_
    refine k_goto X (tgt := 1038) dL_law_731 (by decide) ?_
    refine k_pick [2, 3, 4, 5, 6] rfl ?_
    exact kk μ2 hP
theorem O_branches {E : EE} {C : Ctx} {μ : Mem} {b LL i kc sc : Nat} {xs : Nat → Int32} {P : Mem → Prop} (X : Cx E C cL_law RL 7 room_1) (hX : va_X b LL xs (cs C) (cs C).heap) (hbl : b < (cs C).heap.size) (hbA : ¬ cA C b) (hi : i + 6 ≤ LL) (hL : LL ≤ 3072) (hk9 : kc + 2 ≤ 601024) (hs9 : sc + 12 ≤ 7293034) (hstep : STP E yL_branches cL_branches 4 [(0, 9, 12, 25)] (rm 8 1) yX3_branches cX3_branches 2 (rm 3 0) μ [.int (xs (i + 1))] P) (kk : ∀ μ2, P μ2 → KF E C (kc + 2) (sc + 12) μ2 1038 [(4, .int (nI i)), (3, .ref (ad E 33 0)), (2, .ref (ad E 16 0)), (1, .ref (ad E 0 0)), (0, .ref b)] []) : KF E C kc sc μ 734 [(4, .int (nI i)), (3, .ref (ad E 33 0)), (2, .ref (ad E 16 0)), (1, .ref (ad E 0 0)), (0, .ref b)] [] := by
  obtain ⟨k, r, μ1, μ2, hH, hM, hk, hr, hP⟩ := hstep
  refine k_aload_n X 3 dL_law_734 rfl rfl ?_
  refine k_aload_n X 4 dL_law_735 rfl rfl ?_
  refine k_iload X 0 dL_law_736 rfl ?_
  refine k_iconst X (nI 1) dL_law_738 (by decide) ?_
  refine k_iadd X dL_law_739 (k_val (nI_add i 1) ?_)
  refine k_sld X hX hbl hbA (by omega) hL dL_law_740 ?_
  refine k_aload_n X 1 dL_law_741 rfl rfl ?_
  refine k_callH X (n' := 3) ⟨GH wm_L_110 wt_L_branches wn_L wc_L_branches, by decide +kernel⟩ hH rfl rfl (by simp [Value.category]) ⟨by decide, by decide⟩ ⟨by show _ + 1 ≤ 601024; omega, by show _ + 6 ≤ 7293034; omega⟩ dL_law_742 ?_
  refine k_wide (k' := kc + 2) (n' := sc + 12) (by show kc + 1 ≤ _; omega) (by show sc + 6 ≤ _; omega) ?_
  refine k_istore X dL_law_745 (by decide) rfl ?_
  refine k_aload_n X 3 dL_law_747 rfl rfl ?_
  refine k_aload_n X 5 dL_law_748 rfl rfl ?_
  refine k_iload X 1 dL_law_749 rfl ?_
  refine k_iconst X (nI 1) dL_law_751 (by decide) ?_
  refine k_iadd X dL_law_752 (k_val (nI_add i 1) ?_)
  refine k_sld X hX hbl hbA (by omega) hL dL_law_753 ?_
  refine k_callV (Cn := RX3) X lk_L_112 rfl (by decide) rfl hM rfl rfl (by simp [Value.category]) ⟨by decide, by decide⟩ ⟨by show kc + 2 ≤ 601024; omega, by show sc + 12 ≤ 7293034; omega⟩ dL_law_754 ?_
  refine k_istore X dL_law_757 (by decide) rfl ?_
  refine k_aload_n X 4 dL_law_759 rfl rfl ?_
  refine k_callV (Cn := RX3) X lk_L_71 rfl (by decide) rfl C_X3_thrown rfl rfl (by simp [Value.category]) ⟨by decide, by decide⟩ ⟨by show kc + 2 ≤ 601024; omega, by show sc + 12 ≤ 7293034; omega⟩ dL_law_760 ?_
  refine k_iload X 1 dL_law_763 rfl ?_
  refine k_icmp_eq_t X (tgt := 770) dL_law_765 (by decide) hk ?_
  refine k_iload X 1 dL_law_770 rfl ?_
  refine k_if_ne X (tgt := 787) dL_law_772 (by decide) (fun h0 => ?_) (fun h0 => ?_)
  · refine k_goto X (tgt := 1038) dL_law_787 (by decide) ?_
    refine k_pick [2, 3, 4, 5, 6] rfl ?_
    exact kk μ2 hP
  · refine k_aload_n X 3 dL_law_775 rfl rfl ?_
    refine k_iconst X 0 dL_law_776 (by decide) ?_
    refine k_lald X rfl dL_law_777 ?_
    refine k_iload X 0 dL_law_778 rfl ?_
    refine k_i2l X dL_law_780 ?_
    refine k_lcmp X dL_law_781 ?_
    refine k_if_eq_t X (tgt := 787) dL_law_782 (by decide) ((lg_cmp_eq _ _).mpr (by rw [hr h0])) ?_
    refine k_goto X (tgt := 1038) dL_law_787 (by decide) ?_
    refine k_pick [2, 3, 4, 5, 6] rfl ?_
    exact kk μ2 hP
theorem O_device {E : EE} {C : Ctx} {μ : Mem} {b LL i kc sc : Nat} {xs : Nat → Int32} {P : Mem → Prop} (X : Cx E C cL_law RL 7 room_1) (hX : va_X b LL xs (cs C) (cs C).heap) (hbl : b < (cs C).heap.size) (hbA : ¬ cA C b) (hi : i + 6 ≤ LL) (hL : LL ≤ 3072) (hk9 : kc + 2 ≤ 601024) (hs9 : sc + 12 ≤ 7293034) (hstep : STP E yL_device cL_device 5 [(0, 10, 13, 25)] (rm 9 2) yX3_device cX3_device 3 (rm 4 0) μ [.int (xs (i + 1)), .int (xs (i + 2))] P) (kk : ∀ μ2, P μ2 → KF E C (kc + 2) (sc + 12) μ2 1038 [(4, .int (nI i)), (3, .ref (ad E 33 0)), (2, .ref (ad E 16 0)), (1, .ref (ad E 0 0)), (0, .ref b)] []) : KF E C kc sc μ 790 [(4, .int (nI i)), (3, .ref (ad E 33 0)), (2, .ref (ad E 16 0)), (1, .ref (ad E 0 0)), (0, .ref b)] [] := by
  obtain ⟨k, r, μ1, μ2, hH, hM, hk, hr, hP⟩ := hstep
  refine k_aload_n X 3 dL_law_790 rfl rfl ?_
  refine k_aload_n X 4 dL_law_791 rfl rfl ?_
  refine k_iload X 0 dL_law_792 rfl ?_
  refine k_iconst X (nI 1) dL_law_794 (by decide) ?_
  refine k_iadd X dL_law_795 (k_val (nI_add i 1) ?_)
  refine k_sld X hX hbl hbA (by omega) hL dL_law_796 ?_
  refine k_aload_n X 4 dL_law_797 rfl rfl ?_
  refine k_iload X 0 dL_law_798 rfl ?_
  refine k_iconst X (nI 2) dL_law_800 (by decide) ?_
  refine k_iadd X dL_law_801 (k_val (nI_add i 2) ?_)
  refine k_sld X hX hbl hbA (by omega) hL dL_law_802 ?_
  refine k_aload_n X 1 dL_law_803 rfl rfl ?_
  refine k_callH X (n' := 4) ⟨GH wm_L_113 wt_L_device wn_L wc_L_device, by decide +kernel⟩ hH rfl rfl (by simp [Value.category]) ⟨by decide, by decide⟩ ⟨by show _ + 2 ≤ 601024; omega, by show _ + 12 ≤ 7293034; omega⟩ dL_law_804 ?_
  refine k_wide (k' := kc + 2) (n' := sc + 12) (by show kc + 2 ≤ _; omega) (by show sc + 12 ≤ _; omega) ?_
  refine k_istore X dL_law_807 (by decide) rfl ?_
  refine k_aload_n X 3 dL_law_809 rfl rfl ?_
  refine k_aload_n X 5 dL_law_810 rfl rfl ?_
  refine k_iload X 1 dL_law_811 rfl ?_
  refine k_iconst X (nI 1) dL_law_813 (by decide) ?_
  refine k_iadd X dL_law_814 (k_val (nI_add i 1) ?_)
  refine k_sld X hX hbl hbA (by omega) hL dL_law_815 ?_
  refine k_aload_n X 5 dL_law_816 rfl rfl ?_
  refine k_iload X 1 dL_law_817 rfl ?_
  refine k_iconst X (nI 2) dL_law_819 (by decide) ?_
  refine k_iadd X dL_law_820 (k_val (nI_add i 2) ?_)
  refine k_sld X hX hbl hbA (by omega) hL dL_law_821 ?_
  refine k_callV (Cn := RX3) X lk_L_115 rfl (by decide) rfl hM rfl rfl (by simp [Value.category]) ⟨by decide, by decide⟩ ⟨by show kc + 2 ≤ 601024; omega, by show sc + 12 ≤ 7293034; omega⟩ dL_law_822 ?_
  refine k_istore X dL_law_825 (by decide) rfl ?_
  refine k_aload_n X 4 dL_law_827 rfl rfl ?_
  refine k_callV (Cn := RX3) X lk_L_71 rfl (by decide) rfl C_X3_thrown rfl rfl (by simp [Value.category]) ⟨by decide, by decide⟩ ⟨by show kc + 2 ≤ 601024; omega, by show sc + 12 ≤ 7293034; omega⟩ dL_law_828 ?_
  refine k_iload X 1 dL_law_831 rfl ?_
  refine k_icmp_eq_t X (tgt := 838) dL_law_833 (by decide) hk ?_
  refine k_iload X 1 dL_law_838 rfl ?_
  refine k_if_ne X (tgt := 855) dL_law_840 (by decide) (fun h0 => ?_) (fun h0 => ?_)
  · refine k_goto X (tgt := 1038) dL_law_855 (by decide) ?_
    refine k_pick [2, 3, 4, 5, 6] rfl ?_
    exact kk μ2 hP
  · refine k_aload_n X 3 dL_law_843 rfl rfl ?_
    refine k_iconst X 0 dL_law_844 (by decide) ?_
    refine k_lald X rfl dL_law_845 ?_
    refine k_iload X 0 dL_law_846 rfl ?_
    refine k_i2l X dL_law_848 ?_
    refine k_lcmp X dL_law_849 ?_
    refine k_if_eq_t X (tgt := 855) dL_law_850 (by decide) ((lg_cmp_eq _ _).mpr (by rw [hr h0])) ?_
    refine k_goto X (tgt := 1038) dL_law_855 (by decide) ?_
    refine k_pick [2, 3, 4, 5, 6] rfl ?_
    exact kk μ2 hP
theorem O_state {E : EE} {C : Ctx} {μ : Mem} {b LL i kc sc : Nat} {xs : Nat → Int32} {P : Mem → Prop} (X : Cx E C cL_law RL 7 room_1) (hX : va_X b LL xs (cs C) (cs C).heap) (hbl : b < (cs C).heap.size) (hbA : ¬ cA C b) (hi : i + 6 ≤ LL) (hL : LL ≤ 3072) (hk9 : kc + 2 ≤ 601024) (hs9 : sc + 12 ≤ 7293034) (hstep : STP E yL_state cL_state 5 [(0, 10, 13, 25)] (rm 9 2) yX3_state cX3_state 3 (rm 4 0) μ [.int (xs (i + 1)), .int (xs (i + 2))] P) (kk : ∀ μ2, P μ2 → KF E C (kc + 2) (sc + 12) μ2 1038 [(4, .int (nI i)), (3, .ref (ad E 33 0)), (2, .ref (ad E 16 0)), (1, .ref (ad E 0 0)), (0, .ref b)] []) : KF E C kc sc μ 858 [(4, .int (nI i)), (3, .ref (ad E 33 0)), (2, .ref (ad E 16 0)), (1, .ref (ad E 0 0)), (0, .ref b)] [] := by
  obtain ⟨k, r, μ1, μ2, hH, hM, hk, hr, hP⟩ := hstep
  refine k_aload_n X 3 dL_law_858 rfl rfl ?_
  refine k_aload_n X 4 dL_law_859 rfl rfl ?_
  refine k_iload X 0 dL_law_860 rfl ?_
  refine k_iconst X (nI 1) dL_law_862 (by decide) ?_
  refine k_iadd X dL_law_863 (k_val (nI_add i 1) ?_)
  refine k_sld X hX hbl hbA (by omega) hL dL_law_864 ?_
  refine k_aload_n X 4 dL_law_865 rfl rfl ?_
  refine k_iload X 0 dL_law_866 rfl ?_
  refine k_iconst X (nI 2) dL_law_868 (by decide) ?_
  refine k_iadd X dL_law_869 (k_val (nI_add i 2) ?_)
  refine k_sld X hX hbl hbA (by omega) hL dL_law_870 ?_
  refine k_aload_n X 1 dL_law_871 rfl rfl ?_
  refine k_callH X (n' := 4) ⟨GH wm_L_116 wt_L_state wn_L wc_L_state, by decide +kernel⟩ hH rfl rfl (by simp [Value.category]) ⟨by decide, by decide⟩ ⟨by show _ + 2 ≤ 601024; omega, by show _ + 12 ≤ 7293034; omega⟩ dL_law_872 ?_
  refine k_wide (k' := kc + 2) (n' := sc + 12) (by show kc + 2 ≤ _; omega) (by show sc + 12 ≤ _; omega) ?_
  refine k_istore X dL_law_875 (by decide) rfl ?_
  refine k_aload_n X 3 dL_law_877 rfl rfl ?_
  refine k_aload_n X 5 dL_law_878 rfl rfl ?_
  refine k_iload X 1 dL_law_879 rfl ?_
  refine k_iconst X (nI 1) dL_law_881 (by decide) ?_
  refine k_iadd X dL_law_882 (k_val (nI_add i 1) ?_)
  refine k_sld X hX hbl hbA (by omega) hL dL_law_883 ?_
  refine k_aload_n X 5 dL_law_884 rfl rfl ?_
  refine k_iload X 1 dL_law_885 rfl ?_
  refine k_iconst X (nI 2) dL_law_887 (by decide) ?_
  refine k_iadd X dL_law_888 (k_val (nI_add i 2) ?_)
  refine k_sld X hX hbl hbA (by omega) hL dL_law_889 ?_
  refine k_callV (Cn := RX3) X lk_L_118 rfl (by decide) rfl hM rfl rfl (by simp [Value.category]) ⟨by decide, by decide⟩ ⟨by show kc + 2 ≤ 601024; omega, by show sc + 12 ≤ 7293034; omega⟩ dL_law_890 ?_
  refine k_istore X dL_law_893 (by decide) rfl ?_
  refine k_aload_n X 4 dL_law_895 rfl rfl ?_
  refine k_callV (Cn := RX3) X lk_L_71 rfl (by decide) rfl C_X3_thrown rfl rfl (by simp [Value.category]) ⟨by decide, by decide⟩ ⟨by show kc + 2 ≤ 601024; omega, by show sc + 12 ≤ 7293034; omega⟩ dL_law_896 ?_
  refine k_iload X 1 dL_law_899 rfl ?_
  refine k_icmp_eq_t X (tgt := 906) dL_law_901 (by decide) hk ?_
  refine k_iload X 1 dL_law_906 rfl ?_
  refine k_if_ne X (tgt := 923) dL_law_908 (by decide) (fun h0 => ?_) (fun h0 => ?_)
  · refine k_goto X (tgt := 1038) dL_law_923 (by decide) ?_
    refine k_pick [2, 3, 4, 5, 6] rfl ?_
    exact kk μ2 hP
  · refine k_aload_n X 3 dL_law_911 rfl rfl ?_
    refine k_iconst X 0 dL_law_912 (by decide) ?_
    refine k_lald X rfl dL_law_913 ?_
    refine k_iload X 0 dL_law_914 rfl ?_
    refine k_i2l X dL_law_916 ?_
    refine k_lcmp X dL_law_917 ?_
    refine k_if_eq_t X (tgt := 923) dL_law_918 (by decide) ((lg_cmp_eq _ _).mpr (by rw [hr h0])) ?_
    refine k_goto X (tgt := 1038) dL_law_923 (by decide) ?_
    refine k_pick [2, 3, 4, 5, 6] rfl ?_
    exact kk μ2 hP
theorem O_answered {E : EE} {C : Ctx} {μ : Mem} {b LL i kc sc : Nat} {xs : Nat → Int32} {P : Mem → Prop} (X : Cx E C cL_law RL 7 room_1) (hX : va_X b LL xs (cs C) (cs C).heap) (hbl : b < (cs C).heap.size) (hbA : ¬ cA C b) (hi : i + 6 ≤ LL) (hL : LL ≤ 3072) (hk9 : kc + 2 ≤ 601024) (hs9 : sc + 12 ≤ 7293034) (hstep : STP E yL_answered cL_answered 4 [(0, 9, 12, 25)] (rm 8 1) yX3_answered cX3_answered 2 (rm 3 0) μ [.int (xs (i + 1))] P) (kk : ∀ μ2, P μ2 → KF E C (kc + 2) (sc + 12) μ2 1038 [(4, .int (nI i)), (3, .ref (ad E 33 0)), (2, .ref (ad E 16 0)), (1, .ref (ad E 0 0)), (0, .ref b)] []) : KF E C kc sc μ 926 [(4, .int (nI i)), (3, .ref (ad E 33 0)), (2, .ref (ad E 16 0)), (1, .ref (ad E 0 0)), (0, .ref b)] [] := by
  obtain ⟨k, r, μ1, μ2, hH, hM, hk, hr, hP⟩ := hstep
  refine k_aload_n X 3 dL_law_926 rfl rfl ?_
  refine k_aload_n X 4 dL_law_927 rfl rfl ?_
  refine k_iload X 0 dL_law_928 rfl ?_
  refine k_iconst X (nI 1) dL_law_930 (by decide) ?_
  refine k_iadd X dL_law_931 (k_val (nI_add i 1) ?_)
  refine k_sld X hX hbl hbA (by omega) hL dL_law_932 ?_
  refine k_aload_n X 1 dL_law_933 rfl rfl ?_
  refine k_callH X (n' := 3) ⟨GH wm_L_119 wt_L_answered wn_L wc_L_answered, by decide +kernel⟩ hH rfl rfl (by simp [Value.category]) ⟨by decide, by decide⟩ ⟨by show _ + 1 ≤ 601024; omega, by show _ + 6 ≤ 7293034; omega⟩ dL_law_934 ?_
  refine k_wide (k' := kc + 2) (n' := sc + 12) (by show kc + 1 ≤ _; omega) (by show sc + 6 ≤ _; omega) ?_
  refine k_istore X dL_law_937 (by decide) rfl ?_
  refine k_aload_n X 3 dL_law_939 rfl rfl ?_
  refine k_aload_n X 5 dL_law_940 rfl rfl ?_
  refine k_iload X 1 dL_law_941 rfl ?_
  refine k_iconst X (nI 1) dL_law_943 (by decide) ?_
  refine k_iadd X dL_law_944 (k_val (nI_add i 1) ?_)
  refine k_sld X hX hbl hbA (by omega) hL dL_law_945 ?_
  refine k_callV (Cn := RX3) X lk_L_121 rfl (by decide) rfl hM rfl rfl (by simp [Value.category]) ⟨by decide, by decide⟩ ⟨by show kc + 2 ≤ 601024; omega, by show sc + 12 ≤ 7293034; omega⟩ dL_law_946 ?_
  refine k_istore X dL_law_949 (by decide) rfl ?_
  refine k_aload_n X 4 dL_law_951 rfl rfl ?_
  refine k_callV (Cn := RX3) X lk_L_71 rfl (by decide) rfl C_X3_thrown rfl rfl (by simp [Value.category]) ⟨by decide, by decide⟩ ⟨by show kc + 2 ≤ 601024; omega, by show sc + 12 ≤ 7293034; omega⟩ dL_law_952 ?_
  refine k_iload X 1 dL_law_955 rfl ?_
  refine k_icmp_eq_t X (tgt := 962) dL_law_957 (by decide) hk ?_
  refine k_iload X 1 dL_law_962 rfl ?_
  refine k_if_ne X (tgt := 979) dL_law_964 (by decide) (fun h0 => ?_) (fun h0 => ?_)
  · refine k_goto X (tgt := 1038) dL_law_979 (by decide) ?_
    refine k_pick [2, 3, 4, 5, 6] rfl ?_
    exact kk μ2 hP
  · refine k_aload_n X 3 dL_law_967 rfl rfl ?_
    refine k_iconst X 0 dL_law_968 (by decide) ?_
    refine k_lald X rfl dL_law_969 ?_
    refine k_iload X 0 dL_law_970 rfl ?_
    refine k_i2l X dL_law_972 ?_
    refine k_lcmp X dL_law_973 ?_
    refine k_if_eq_t X (tgt := 979) dL_law_974 (by decide) ((lg_cmp_eq _ _).mpr (by rw [hr h0])) ?_
    refine k_goto X (tgt := 1038) dL_law_979 (by decide) ?_
    refine k_pick [2, 3, 4, 5, 6] rfl ?_
    exact kk μ2 hP
theorem O_hungUp {E : EE} {C : Ctx} {μ : Mem} {b LL i kc sc : Nat} {xs : Nat → Int32} {P : Mem → Prop} (X : Cx E C cL_law RL 7 room_1) (hX : va_X b LL xs (cs C) (cs C).heap) (hbl : b < (cs C).heap.size) (hbA : ¬ cA C b) (hi : i + 6 ≤ LL) (hL : LL ≤ 3072) (hk9 : kc + 2 ≤ 601024) (hs9 : sc + 12 ≤ 7293034) (hstep : STP E yL_hungUp cL_hungUp 4 [(0, 9, 12, 13)] (rm 7 1) yX3_hungUp cX3_hungUp 2 (rm 2 0) μ [.int (xs (i + 1))] P) (kk : ∀ μ2, P μ2 → KF E C (kc + 2) (sc + 12) μ2 1038 [(4, .int (nI i)), (3, .ref (ad E 33 0)), (2, .ref (ad E 16 0)), (1, .ref (ad E 0 0)), (0, .ref b)] []) : KF E C kc sc μ 982 [(4, .int (nI i)), (3, .ref (ad E 33 0)), (2, .ref (ad E 16 0)), (1, .ref (ad E 0 0)), (0, .ref b)] [] := by
  obtain ⟨k, r, μ1, μ2, hH, hM, hk, hr, hP⟩ := hstep
  refine k_aload_n X 3 dL_law_982 rfl rfl ?_
  refine k_aload_n X 4 dL_law_983 rfl rfl ?_
  refine k_iload X 0 dL_law_984 rfl ?_
  refine k_iconst X (nI 1) dL_law_986 (by decide) ?_
  refine k_iadd X dL_law_987 (k_val (nI_add i 1) ?_)
  refine k_sld X hX hbl hbA (by omega) hL dL_law_988 ?_
  refine k_aload_n X 1 dL_law_989 rfl rfl ?_
  refine k_callH X (n' := 3) ⟨GH wm_L_122 wt_L_hungUp wn_L wc_L_hungUp, by decide +kernel⟩ hH rfl rfl (by simp [Value.category]) ⟨by decide, by decide⟩ ⟨by show _ + 1 ≤ 601024; omega, by show _ + 6 ≤ 7293034; omega⟩ dL_law_990 ?_
  refine k_wide (k' := kc + 2) (n' := sc + 12) (by show kc + 1 ≤ _; omega) (by show sc + 6 ≤ _; omega) ?_
  refine k_istore X dL_law_993 (by decide) rfl ?_
  refine k_aload_n X 3 dL_law_995 rfl rfl ?_
  refine k_aload_n X 5 dL_law_996 rfl rfl ?_
  refine k_iload X 1 dL_law_997 rfl ?_
  refine k_iconst X (nI 1) dL_law_999 (by decide) ?_
  refine k_iadd X dL_law_1000 (k_val (nI_add i 1) ?_)
  refine k_sld X hX hbl hbA (by omega) hL dL_law_1001 ?_
  refine k_callV (Cn := RX3) X lk_L_124 rfl (by decide) rfl hM rfl rfl (by simp [Value.category]) ⟨by decide, by decide⟩ ⟨by show kc + 2 ≤ 601024; omega, by show sc + 12 ≤ 7293034; omega⟩ dL_law_1002 ?_
  refine k_istore X dL_law_1005 (by decide) rfl ?_
  refine k_aload_n X 4 dL_law_1007 rfl rfl ?_
  refine k_callV (Cn := RX3) X lk_L_71 rfl (by decide) rfl C_X3_thrown rfl rfl (by simp [Value.category]) ⟨by decide, by decide⟩ ⟨by show kc + 2 ≤ 601024; omega, by show sc + 12 ≤ 7293034; omega⟩ dL_law_1008 ?_
  refine k_iload X 1 dL_law_1011 rfl ?_
  refine k_icmp_eq_t X (tgt := 1018) dL_law_1013 (by decide) hk ?_
  refine k_iload X 1 dL_law_1018 rfl ?_
  refine k_if_ne X (tgt := 1035) dL_law_1020 (by decide) (fun h0 => ?_) (fun h0 => ?_)
  · refine k_goto X (tgt := 1038) dL_law_1035 (by decide) ?_
    refine k_pick [2, 3, 4, 5, 6] rfl ?_
    exact kk μ2 hP
  · refine k_aload_n X 3 dL_law_1023 rfl rfl ?_
    refine k_iconst X 0 dL_law_1024 (by decide) ?_
    refine k_lald X rfl dL_law_1025 ?_
    refine k_iload X 0 dL_law_1026 rfl ?_
    refine k_i2l X dL_law_1028 ?_
    refine k_lcmp X dL_law_1029 ?_
    refine k_if_eq_t X (tgt := 1035) dL_law_1030 (by decide) ((lg_cmp_eq _ _).mpr (by rw [hr h0])) ?_
    refine k_goto X (tgt := 1038) dL_law_1035 (by decide) ?_
    refine k_pick [2, 3, 4, 5, 6] rfl ?_
    exact kk μ2 hP
def StepAll (E : EE) (μ : Mem) (P : Mem → Prop) : Prop :=
  (∀ x0 x1 x2 x3 x4 : Int32, STP E yL_register cL_register 8 [(0, 16, 19, 13), (0, 16, 23, 15)] (rm 8 2) yX3_register cX3_register 10 (rm 3 0) μ [.int x0, .int x1, .int x2, .int x3, .int x4] P) ∧
  (∀ x0 : Int32, STP E yL_bindings cL_bindings 4 [(0, 9, 12, 13)] (rm 8 1) yX3_bindings cX3_bindings 2 (rm 3 0) μ [.int x0] P) ∧
  (∀ x0 x1 : Int32, STP E yL_binding cL_binding 5 [(0, 10, 13, 13), (0, 10, 17, 25)] (rm 8 2) yX3_binding cX3_binding 9 (rm 3 0) μ [.int x0, .int x1] P) ∧
  (∀ x0 : Int32, STP E yL_call cL_call 4 [(0, 9, 12, 13), (0, 9, 15, 15)] (rm 10 1) yX3_call cX3_call 3 (rm 6 0) μ [.int x0] P) ∧
  (∀ x0 x1 x2 : Int32, STP E yL_answer cL_answer 6 [(0, 12, 15, 25), (0, 12, 19, 13), (0, 12, 23, 15)] (rm 8 2) yX3_answer cX3_answer 7 (rm 5 0) μ [.int x0, .int x1, .int x2] P) ∧
  (∀ x0 : Int32, STP E yL_cancel cL_cancel 4 [(0, 9, 12, 25), (0, 9, 15, 15)] (rm 8 2) yX3_cancel cX3_cancel 3 (rm 3 0) μ [.int x0] P) ∧
  (∀ x0 : Int32, STP E yL_pass cL_pass 4 [(0, 9, 12, 13)] (rm 7 1) yX3_pass cX3_pass 5 (rm 5 0) μ [.int x0] P) ∧
  (∀ x0 : Int32, STP E yL_finalOf cL_finalOf 4 [(0, 9, 12, 25)] (rm 8 1) yX3_finalOf cX3_finalOf 2 (rm 3 0) μ [.int x0] P) ∧
  (∀ x0 : Int32, STP E yL_finalBySorting cL_finalBySorting 4 [(0, 9, 12, 25), (0, 9, 15, 15)] (rm 8 2) yX3_finalBySorting cX3_finalBySorting 3 (rm 3 0) μ [.int x0] P) ∧
  (∀ x0 : Int32, STP E yL_branches cL_branches 4 [(0, 9, 12, 25)] (rm 8 1) yX3_branches cX3_branches 2 (rm 3 0) μ [.int x0] P) ∧
  (∀ x0 x1 : Int32, STP E yL_device cL_device 5 [(0, 10, 13, 25)] (rm 9 2) yX3_device cX3_device 3 (rm 4 0) μ [.int x0, .int x1] P) ∧
  (∀ x0 x1 : Int32, STP E yL_state cL_state 5 [(0, 10, 13, 25)] (rm 9 2) yX3_state cX3_state 3 (rm 4 0) μ [.int x0, .int x1] P) ∧
  (∀ x0 : Int32, STP E yL_answered cL_answered 4 [(0, 9, 12, 25)] (rm 8 1) yX3_answered cX3_answered 2 (rm 3 0) μ [.int x0] P) ∧
  (∀ x0 : Int32, STP E yL_hungUp cL_hungUp 4 [(0, 9, 12, 13)] (rm 7 1) yX3_hungUp cX3_hungUp 2 (rm 2 0) μ [.int x0] P) ∧
  (μ 0 0 6 = μ 16 0 1 ∧ μ 0 0 5 = μ 16 0 8 ∧ P (st μ 16 0 0 0))
theorem L_law {E : EE} {C : Ctx} {b LL kc0 sc0 : Nat} {xs : Nat → Int32} {Rel : Nat → Mem → Prop} (X : Cx E C cL_law RL 7 room_1) (hX : va_X b LL xs (cs C) (cs C).heap) (hbl : b < (cs C).heap.size) (hbA : ¬ cA C b) (hL : LL ≤ 3072) (hk9 : kc0 ≤ 1000) (hs9 : sc0 ≤ 10000) (hstep : ∀ n μ, n < 512 → Rel n μ → StepAll E μ (Rel (n + 1)))
    (hE : ∀ (H : Heap) (locs : List Loc) (ls : Array Slot), va_S (cA C) (cs C).heap H locs → WC E C H locs 601024 7293034 (F0 (cm C) 1045 ls [.int 1])) : ∀ (f n : Nat) (μ : Mem), 512 - n < f → 6 * n ≤ LL → Rel n μ → KF E C (kc0 + 2 * n) (sc0 + 12 * n) μ 23 [(4, .int (nI (6 * n))), (3, .ref (ad E 33 0)), (2, .ref (ad E 16 0)), (1, .ref (ad E 0 0)), (0, .ref b)] [] := by
  intro f
  induction f with
  | zero => intro n μ h; omega
  | succ f ih =>
    intro n μ h hn hR
    refine k_iload X 0 dL_law_23 rfl ?_
    refine k_aload_n X 4 dL_law_25 rfl rfl ?_
    refine k_slen X hX hbl hbA dL_law_26 ?_
    refine k_bipush X 6 dL_law_27 (by decide) ?_
    refine k_isub X dL_law_29 ?_
    refine k_icmp_gt X (tgt := 1044) dL_law_30 (by decide) (fun h1 => ?_) (fun h1 => ?_)
    · refine k_iconst X 1 dL_law_1044 (by decide) ?_
      refine k_wide (k' := 601024) (n' := 7293034) (by omega) (by omega) ?_
      exact fun H locs ls hw hs hl => hE H locs ls hs
    · have hi := nI_sub6 hL hn h1
      have hn512 : n < 512 := by omega
      obtain ⟨g0, g1, g2, g3, g4, g5, g6, g9, g10, g11, g12, g13, g14, g15, h99, h98, h97⟩ := hstep n μ hn512 hR
      have key : ∀ μ2, Rel (n + 1) μ2 → KF E C (kc0 + 2 * n + 2) (sc0 + 12 * n + 12) μ2 1038 [(4, .int (nI (6 * n))), (3, .ref (ad E 33 0)), (2, .ref (ad E 16 0)), (1, .ref (ad E 0 0)), (0, .ref b)] [] := by
        intro μ2 h2
        refine k_iinc X 0 dL_law_1038 (v := nI (6 * (n + 1))) rfl ?_ (by decide) rfl ?_
        · rw [show Int32.ofInt 6 = nI 6 by decide, nI_add]
          rfl
        refine k_goto X (tgt := 23) dL_law_1041 (by decide) ?_
        exact ih (n + 1) μ2 (by omega) (by omega) h2
      refine k_aload_n X 4 dL_law_33 rfl rfl ?_
      refine k_iload X 0 dL_law_34 rfl ?_
      refine k_sld X hX hbl hbA (by omega) hL dL_law_36 ?_
      refine k_bipush X 15 dL_law_37 (by decide) ?_
      refine k_iand X dL_law_39 ?_
      obtain ⟨j, hj, ej⟩ := and15 (xs (6 * n))
      refine k_val ej ?_
      have hk : kc0 + 2 * n + 2 ≤ 601024 := by omega
      have hs : sc0 + 12 * n + 12 ≤ 7293034 := by omega
      rcases (show j = 0 ∨ j = 1 ∨ j = 2 ∨ j = 3 ∨ j = 4 ∨ j = 5 ∨ j = 6 ∨ j = 7 ∨ j = 8 ∨ j = 9 ∨ j = 10 ∨ j = 11 ∨ j = 12 ∨ j = 13 ∨ j = 14 ∨ j = 15 by omega) with rfl | rfl | rfl | rfl | rfl | rfl | rfl | rfl | rfl | rfl | rfl | rfl | rfl | rfl | rfl | rfl
      · refine k_table X (off := 80) (tgt := 120) dL_law_40 (by decide) (by decide) rfl (by decide) ?_
        exact O_register X hX hbl hbA hi hL hk hs (g0 _ _ _ _ _) key
      · refine k_table X (off := 184) (tgt := 224) dL_law_40 (by decide) (by decide) rfl (by decide) ?_
        exact O_bindings X hX hbl hbA hi hL hk hs (g1 _) key
      · refine k_table X (off := 240) (tgt := 280) dL_law_40 (by decide) (by decide) rfl (by decide) ?_
        exact O_binding X hX hbl hbA hi hL hk hs (g2 _ _) key
      · refine k_table X (off := 308) (tgt := 348) dL_law_40 (by decide) (by decide) rfl (by decide) ?_
        exact O_call X hX hbl hbA hi hL hk hs (g3 _) key
      · refine k_table X (off := 364) (tgt := 404) dL_law_40 (by decide) (by decide) rfl (by decide) ?_
        exact O_answer X hX hbl hbA hi hL hk hs (g4 _ _ _) key
      · refine k_table X (off := 444) (tgt := 484) dL_law_40 (by decide) (by decide) rfl (by decide) ?_
        exact O_cancel X hX hbl hbA hi hL hk hs (g5 _) key
      · refine k_table X (off := 500) (tgt := 540) dL_law_40 (by decide) (by decide) rfl (by decide) ?_
        exact O_pass X hX hbl hbA hi hL hk hs (g6 _) key
      · refine k_table X (off := 556) (tgt := 596) dL_law_40 (by decide) (by decide) rfl (by decide) ?_
        exact O_time X hX hbl hbA hi hL hk hs h99 (key _ h97)
      · refine k_table X (off := 569) (tgt := 609) dL_law_40 (by decide) (by decide) rfl (by decide) ?_
        exact O_calls X hX hbl hbA hi hL hk hs h98 (key _ h97)
      · refine k_table X (off := 582) (tgt := 622) dL_law_40 (by decide) (by decide) rfl (by decide) ?_
        exact O_finalOf X hX hbl hbA hi hL hk hs (g9 _) key
      · refine k_table X (off := 638) (tgt := 678) dL_law_40 (by decide) (by decide) rfl (by decide) ?_
        exact O_finalBySorting X hX hbl hbA hi hL hk hs (g10 _) key
      · refine k_table X (off := 694) (tgt := 734) dL_law_40 (by decide) (by decide) rfl (by decide) ?_
        exact O_branches X hX hbl hbA hi hL hk hs (g11 _) key
      · refine k_table X (off := 750) (tgt := 790) dL_law_40 (by decide) (by decide) rfl (by decide) ?_
        exact O_device X hX hbl hbA hi hL hk hs (g12 _ _) key
      · refine k_table X (off := 818) (tgt := 858) dL_law_40 (by decide) (by decide) rfl (by decide) ?_
        exact O_state X hX hbl hbA hi hL hk hs (g13 _ _) key
      · refine k_table X (off := 886) (tgt := 926) dL_law_40 (by decide) (by decide) rfl (by decide) ?_
        exact O_answered X hX hbl hbA hi hL hk hs (g14 _) key
      · refine k_table X (off := 942) (tgt := 982) dL_law_40 (by decide) (by decide) rfl (by decide) ?_
        exact O_hungUp X hX hbl hbA hi hL hk hs (g15 _) key
