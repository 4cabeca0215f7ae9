/-! the law's walk -/
theorem lg_self (x : Int64) : lg_cmp x x = 0 := by
  unfold lg_cmp
  rw [if_neg (show ¬ x > x from fun q => absurd q Int64.lt_irrefl), if_pos rfl]
def SCR (K : KT) (b L : Nat) (xs : Nat → Int32) : Prop := match K with
  | (_, _, _, _, s, _, _, _, _, _, _, _, _, g) => va_X b L xs s s.heap ∧ b < s.heap.size ∧ ¬ gA g b
theorem Out_any {P Q nx sz : Nat} {σ τ : aS} {r : Int32} (h : IV P nx sz σ) (ho : Out Q nx sz σ r τ) (hPQ : P ≤ Q) : ∃ nx2 sz2 : Nat, IV Q nx2 sz2 τ := by
  rcases ho with ⟨_, e⟩ | ⟨_, h2, _⟩
  · exact ⟨nx, sz, by rw [e]; exact IV_up h hPQ⟩
  · exact ⟨_, _, h2⟩
set_option maxHeartbeats 4000000 in
set_option maxRecDepth 100000 in
theorem law_tail {K : KT} {b L : Nat} {xs : Nat → Int32} (hK : OKc K code RL wsL_law 10 364) (hL : L ≤ 260) (hX : SCR K b L xs) (hend : ∀ (lv : List (Nat × Value)) (σ : aS), DW K 370 10 lv [.int 1] σ) {σ : aS} {P nx sz : Nat} (h : IV P nx sz σ) (hP : P + 13 ≤ 5000) : DW K 216 10 [(0, .ref b), (1, .ref (gL (kG K) 600))] [] σ := by
  have hI := IV_iK h
  have hSS : iK (iK σ) = iK σ := iK_iK σ
  have hd1 := zL_digest (g := kG K) (l := kL K) h
  have hd2 := zL_digest (g := kG K) (l := kL K) hI
  have hdg : dig (iK σ) = dig σ := dig_iK σ
  obtain ⟨S, hS⟩ : ∃ S, S = iK σ := ⟨_, rfl⟩
  rw [← hS] at hI hSS hd2 hdg
  have c1 := zX6_paint_bad (g := kG K) (l := kL K) (σ := S) 0 0 17 1 0 (by decide)
  have c2 : CN (kG K) (kL K) yX6_set wsX6_set 5 111 [.ref 600, .int 3, .int 0] S (some (.int (-1001))) S := zX6_set_bad2 3 0 (by decide) (by decide)
  have c3 := zX6_print_bad (g := kG K) (l := kL K) (σ := S) 101 (by decide)
  have c4 := zX6_why_bad (g := kG K) (l := kL K) (σ := S) 16 0 (by decide)
  have c5 := zX6_trapFor_bad (g := kG K) (l := kL K) (σ := S) 5 (by decide)
  have c6 := zX6_proof_bad (g := kG K) (l := kL K) (σ := S) (-1) 0 (fun q => absurd (by decide) q)
  have c7 : CN (kG K) (kL K) yX6_proof wsX6_proof 2 45 [.ref 600, .int 12, .int 0] S (some (.int (-1009))) S := by
    obtain ⟨pn, la, ls, p1, p2, p3, p4, p5, p6⟩ := hI.2.1.2.2.1
    exact zX6_proof_none 12 0 (by decide) (by decide) (by rw [p5]; exact nI_nlt (a := 12) p3 (by decide))
  obtain ⟨r1, S1, n1, u1, i1⟩ := undo_any (g := kG K) (l := kL K) hI
  obtain ⟨r2, S2, n2, u2, i2⟩ := undo_any (g := kG K) (l := kL K) i1
  obtain ⟨r3, S3, n3, u3, i3⟩ := undo_any (g := kG K) (l := kL K) i2
  have hsz := hI.1.2.1
  obtain ⟨y, hy⟩ := zL_cell (g := kG K) (l := kL K) (σ := S3) (b := b) (xs := xs) hL 13 (by decide)
  obtain ⟨S4, n4, z4, ab, i4⟩ := zL_areBest (g := kG K) (l := kL K) i3 (by omega) y
  have ir := zL_isRight (g := kG K) (l := kL K) i4
  obtain ⟨S5, we⟩ := zL_wears (g := kG K) (l := kL K) (IV_iK i4) hP
  refine w_aloadn 1 hK dL_law_216 rfl rfl ?_
  refine w_callD hK hd1 gL_law_L_digest ⟨Nat.le_of_ble_eq_true rfl, Nat.le_of_ble_eq_true rfl⟩ (Nat.le_of_ble_eq_true rfl) dL_law_217 ?_
  rw [← hS]
  refine w_lstore hK dL_law_220 (by decide) rfl ?_
  refine w_aloadn 2 hK dL_law_222 rfl rfl ?_
  refine w_iconst (v := 0) hK dL_law_223 (by decide) ?_
  refine w_iconst (v := 0) hK dL_law_224 (by decide) ?_
  refine w_bipush (v := 17) hK dL_law_225 (by decide) ?_
  refine w_iconst (v := 1) hK dL_law_227 (by decide) ?_
  refine w_iconst (v := 0) hK dL_law_228 (by decide) ?_
  refine w_callV (ci := 6) hK mdX6_paint (c1) gL_law_X6_paint rfl rfl rfl (by decide) rfl ⟨Nat.le_of_ble_eq_true rfl, Nat.le_of_ble_eq_true rfl⟩ rfl (Nat.le_of_ble_eq_true rfl) dL_law_229 ?_
  refine w_sipush (v := -1001) hK dL_law_232 (by decide) ?_
  refine w_icmp_ne (tgt := 321) hK dL_law_235 (by decide) (fun c_235 => absurd c_235 (fun q => q rfl)) (fun c_235 => ?_)
  refine w_aloadn 2 hK dL_law_238 rfl rfl ?_
  refine w_iconst (v := 3) hK dL_law_239 (by decide) ?_
  refine w_iconst (v := 0) hK dL_law_240 (by decide) ?_
  refine w_callV (ci := 6) hK mdX6_set (c2) gL_law_X6_set rfl rfl rfl (by decide) rfl ⟨Nat.le_of_ble_eq_true rfl, Nat.le_of_ble_eq_true rfl⟩ rfl (Nat.le_of_ble_eq_true rfl) dL_law_241 ?_
  refine w_sipush (v := -1001) hK dL_law_244 (by decide) ?_
  refine w_icmp_ne (tgt := 321) hK dL_law_247 (by decide) (fun c_247 => absurd c_247 (fun q => q rfl)) (fun c_247 => ?_)
  refine w_aloadn 2 hK dL_law_250 rfl rfl ?_
  refine w_bipush (v := 101) hK dL_law_251 (by decide) ?_
  refine w_callV (ci := 6) hK mdX6_print (c3) gL_law_X6_print rfl rfl rfl (by decide) rfl ⟨Nat.le_of_ble_eq_true rfl, Nat.le_of_ble_eq_true rfl⟩ rfl (Nat.le_of_ble_eq_true rfl) dL_law_253 ?_
  refine w_sipush (v := -1001) hK dL_law_256 (by decide) ?_
  refine w_icmp_ne (tgt := 321) hK dL_law_259 (by decide) (fun c_259 => absurd c_259 (fun q => q rfl)) (fun c_259 => ?_)
  refine w_aloadn 2 hK dL_law_262 rfl rfl ?_
  refine w_bipush (v := 16) hK dL_law_263 (by decide) ?_
  refine w_iconst (v := 0) hK dL_law_265 (by decide) ?_
  refine w_callV (ci := 6) hK mdX6_why (c4) gL_law_X6_why rfl rfl rfl (by decide) rfl ⟨Nat.le_of_ble_eq_true rfl, Nat.le_of_ble_eq_true rfl⟩ rfl (Nat.le_of_ble_eq_true rfl) dL_law_266 ?_
  refine w_sipush (v := -1001) hK dL_law_269 (by decide) ?_
  refine w_icmp_ne (tgt := 321) hK dL_law_272 (by decide) (fun c_272 => absurd c_272 (fun q => q rfl)) (fun c_272 => ?_)
  refine w_aloadn 2 hK dL_law_275 rfl rfl ?_
  refine w_iconst (v := 5) hK dL_law_276 (by decide) ?_
  refine w_callV (ci := 6) hK mdX6_trapFor (c5) gL_law_X6_trapFor rfl rfl rfl (by decide) rfl ⟨Nat.le_of_ble_eq_true rfl, Nat.le_of_ble_eq_true rfl⟩ rfl (Nat.le_of_ble_eq_true rfl) dL_law_277 ?_
  refine w_sipush (v := -1001) hK dL_law_280 (by decide) ?_
  refine w_icmp_ne (tgt := 321) hK dL_law_283 (by decide) (fun c_283 => absurd c_283 (fun q => q rfl)) (fun c_283 => ?_)
  refine w_aloadn 2 hK dL_law_286 rfl rfl ?_
  refine w_iconst (v := -1) hK dL_law_287 (by decide) ?_
  refine w_iconst (v := 0) hK dL_law_288 (by decide) ?_
  refine w_callV (ci := 6) hK mdX6_proof (c6) gL_law_X6_proof rfl rfl rfl (by decide) rfl ⟨Nat.le_of_ble_eq_true rfl, Nat.le_of_ble_eq_true rfl⟩ rfl (Nat.le_of_ble_eq_true rfl) dL_law_289 ?_
  refine w_sipush (v := -1001) hK dL_law_292 (by decide) ?_
  refine w_icmp_ne (tgt := 321) hK dL_law_295 (by decide) (fun c_295 => absurd c_295 (fun q => q rfl)) (fun c_295 => ?_)
  refine w_aloadn 2 hK dL_law_298 rfl rfl ?_
  refine w_bipush (v := 12) hK dL_law_299 (by decide) ?_
  refine w_iconst (v := 0) hK dL_law_301 (by decide) ?_
  refine w_callV (ci := 6) hK mdX6_proof (c7) gL_law_X6_proof rfl rfl rfl (by decide) rfl ⟨Nat.le_of_ble_eq_true rfl, Nat.le_of_ble_eq_true rfl⟩ rfl (Nat.le_of_ble_eq_true rfl) dL_law_302 ?_
  refine w_sipush (v := -1009) hK dL_law_305 (by decide) ?_
  refine w_icmp_ne (tgt := 321) hK dL_law_308 (by decide) (fun c_308 => absurd c_308 (fun q => q rfl)) (fun c_308 => ?_)
  refine w_aloadn 2 hK dL_law_311 rfl rfl ?_
  refine w_callD hK (hd2) gL_law_L_digest ⟨Nat.le_of_ble_eq_true rfl, Nat.le_of_ble_eq_true rfl⟩ (Nat.le_of_ble_eq_true rfl) dL_law_312 ?_
  rw [hSS]
  refine w_lload 0 hK dL_law_315 rfl ?_
  refine w_lcmp hK dL_law_317 ?_
  rw [hdg, lg_self]
  refine w_if_eq (tgt := 323) hK dL_law_318 (by decide) (fun c_318 => ?_) (fun c_318 => absurd c_318 (fun q => q rfl))
  refine w_aloadn 2 hK dL_law_323 rfl rfl ?_
  refine w_callV (ci := 6) hK mdX6_undo (u1) gL_law_X6_undo rfl rfl rfl (by decide) rfl ⟨Nat.le_of_ble_eq_true rfl, Nat.le_of_ble_eq_true rfl⟩ rfl (Nat.le_of_ble_eq_true rfl) dL_law_324 ?_
  refine w_pop hK dL_law_327 ?_
  refine w_aloadn 2 hK dL_law_328 rfl rfl ?_
  refine w_callV (ci := 6) hK mdX6_undo (u2) gL_law_X6_undo rfl rfl rfl (by decide) rfl ⟨Nat.le_of_ble_eq_true rfl, Nat.le_of_ble_eq_true rfl⟩ rfl (Nat.le_of_ble_eq_true rfl) dL_law_329 ?_
  refine w_pop hK dL_law_332 ?_
  refine w_aloadn 2 hK dL_law_333 rfl rfl ?_
  refine w_callV (ci := 6) hK mdX6_undo (u3) gL_law_X6_undo rfl rfl rfl (by decide) rfl ⟨Nat.le_of_ble_eq_true rfl, Nat.le_of_ble_eq_true rfl⟩ rfl (Nat.le_of_ble_eq_true rfl) dL_law_334 ?_
  refine w_pop hK dL_law_337 ?_
  refine w_aloadn 2 hK dL_law_338 rfl rfl ?_
  refine w_aloadn 1 hK dL_law_339 rfl rfl ?_
  refine w_bipush (v := nI 13) hK dL_law_340 (by decide) ?_
  refine w_callC hK hX (hy) gL_law_L_cell ⟨Nat.le_of_ble_eq_true rfl, Nat.le_of_ble_eq_true rfl⟩ (Nat.le_of_ble_eq_true rfl) dL_law_342 ?_
  refine w_callS hK mdL_areBest (ab) gL_law_L_areBest rfl ⟨Nat.le_of_ble_eq_true rfl, Nat.le_of_ble_eq_true rfl⟩ rfl (Nat.le_of_ble_eq_true rfl) dL_law_345 ?_
  refine w_if_eq (tgt := 369) hK dL_law_348 (by decide) (fun c_348 => absurd c_348 (by decide)) (fun c_348 => ?_)
  refine w_aloadn 2 hK dL_law_351 rfl rfl ?_
  refine w_callS hK mdL_isRight (ir) gL_law_L_isRight rfl ⟨Nat.le_of_ble_eq_true rfl, Nat.le_of_ble_eq_true rfl⟩ rfl (Nat.le_of_ble_eq_true rfl) dL_law_352 ?_
  refine w_if_eq (tgt := 369) hK dL_law_355 (by decide) (fun c_355 => absurd c_355 (by decide)) (fun c_355 => ?_)
  refine w_aloadn 2 hK dL_law_358 rfl rfl ?_
  refine w_callS hK mdL_wears (we) gL_law_L_wears rfl ⟨Nat.le_of_ble_eq_true rfl, Nat.le_of_ble_eq_true rfl⟩ rfl (Nat.le_of_ble_eq_true rfl) dL_law_359 ?_
  refine w_if_eq (tgt := 369) hK dL_law_362 (by decide) (fun c_362 => absurd c_362 (by decide)) (fun c_362 => ?_)
  refine w_iconst (v := 1) hK dL_law_365 (by decide) ?_
  refine w_goto (tgt := 370) hK dL_law_366 (by decide) ?_
  exact hend _ _
def LPt (K : KT) (b t : Nat) (σ : aS) : Prop := DW K 80 10 [(0, .ref b), (1, .ref (gL (kG K) 600)), (4, .int (nI t))] [] σ
set_option maxHeartbeats 4000000 in
set_option maxRecDepth 100000 in
theorem law_194 {K : KT} {b L : Nat} {xs : Nat → Int32} (hK : OKc K code RL wsL_law 10 364) (hL : L ≤ 260) (hX : SCR K b L xs) (hend : ∀ (lv : List (Nat × Value)) (σ : aS), DW K 370 10 lv [.int 1] σ) {t : Nat} (ih : ∀ (σ : aS) (nx sz : Nat), IV (6 * (t + 1)) nx sz σ → LPt K b (t + 1) σ) {σ : aS} {nx sz : Nat} (h : IV (6 * (t + 1)) nx sz σ) : DW K 194 10 [(0, .ref b), (1, .ref (gL (kG K) 600)), (4, .int (nI t))] [] σ := by
  have ir := zL_isRight (g := kG K) (l := kL K) h
  refine w_iload 2 hK dL_law_194 rfl ?_
  refine w_iconst (v := 3) hK dL_law_196 (by decide) ?_
  refine w_iand hK dL_law_197 ?_
  refine w_if_ne (tgt := 210) hK dL_law_198 (by decide) (fun c_198 => ?_) (fun c_198 => ?_)
  · refine w_iinc 2 hK dL_law_210 rfl (hv_1 _) (by decide) rfl ?_
    refine w_goto (tgt := 80) hK dL_law_213 (by decide) ?_
    first
      | exact DW.sub [1, 2, 0] (ih _ _ _ h) (by rw [nI_1]; rfl)
      | exact DW.sub [1, 2, 0] (ih _ _ _ (IV_iK h)) (by rw [nI_1]; rfl)
  · refine w_aloadn 1 hK dL_law_201 rfl rfl ?_
    refine w_callS hK mdL_isRight (ir) gL_law_L_isRight rfl ⟨Nat.le_of_ble_eq_true rfl, Nat.le_of_ble_eq_true rfl⟩ rfl (Nat.le_of_ble_eq_true rfl) dL_law_202 ?_
    refine w_if_ne (tgt := 210) hK dL_law_205 (by decide) (fun c_205 => ?_) (fun c_205 => absurd c_205 (by decide))
    refine w_iinc 2 hK dL_law_210 rfl (hv_1 _) (by decide) rfl ?_
    refine w_goto (tgt := 80) hK dL_law_213 (by decide) ?_
    first
      | exact DW.sub [1, 2, 0] (ih _ _ _ h) (by rw [nI_1]; rfl)
      | exact DW.sub [1, 2, 0] (ih _ _ _ (IV_iK h)) (by rw [nI_1]; rfl)
set_option maxHeartbeats 4000000 in
set_option maxRecDepth 100000 in
theorem law_turn {K : KT} {b L : Nat} {xs : Nat → Int32} (hK : OKc K code RL wsL_law 10 364) (hL : L ≤ 260) (hX : SCR K b L xs) (hend : ∀ (lv : List (Nat × Value)) (σ : aS), DW K 370 10 lv [.int 1] σ) {t : Nat} (ht : t < 13) (ih : ∀ (σ : aS) (nx sz : Nat), IV (6 * (t + 1)) nx sz σ → LPt K b (t + 1) σ) {σ : aS} {nx sz : Nat} (h : IV (6 * t) nx sz σ) : LPt K b t σ := by
  unfold LPt
  have hI := IV_iK h
  have hdg : dig (iK σ) = dig σ := dig_iK σ
  have hd1 := zL_digest (g := kG K) (l := kL K) h
  have hd2 := zL_digest (g := kG K) (l := kL K) hI
  obtain ⟨y, hy⟩ := zL_cell (g := kG K) (l := kL K) (σ := σ) (b := b) (xs := xs) hL t (by omega)
  obtain ⟨r, τ, ha, ho⟩ := zL_act (g := kG K) (l := kL K) hI (show 6 * t + 3 ≤ 5000 by omega) y
  refine w_iload 2 hK dL_law_80 rfl ?_
  refine w_bipush (v := 13) hK dL_law_82 (by decide) ?_
  refine w_icmp_ge (tgt := 216) hK dL_law_84 (by decide) (fun c_84 => absurd c_84 (ge_N rfl rfl ht (by decide))) (fun c_84 => ?_)
  refine w_aloadn 0 hK dL_law_87 rfl rfl ?_
  refine w_iload 2 hK dL_law_88 rfl ?_
  refine w_callC hK hX (hy) gL_law_L_cell ⟨Nat.le_of_ble_eq_true rfl, Nat.le_of_ble_eq_true rfl⟩ (Nat.le_of_ble_eq_true rfl) dL_law_90 ?_
  refine w_istore hK dL_law_93 (by decide) rfl ?_
  refine w_aloadn 2 hK dL_law_95 rfl rfl ?_
  refine w_callD hK (hd1) gL_law_L_digest ⟨Nat.le_of_ble_eq_true rfl, Nat.le_of_ble_eq_true rfl⟩ (Nat.le_of_ble_eq_true rfl) dL_law_96 ?_
  refine w_lstore hK dL_law_99 (by decide) rfl ?_
  refine w_aloadn 3 hK dL_law_101 rfl rfl ?_
  refine w_iload 1 hK dL_law_102 rfl ?_
  refine w_callS hK mdL_act (ha) gL_law_L_act rfl ⟨Nat.le_of_ble_eq_true rfl, Nat.le_of_ble_eq_true rfl⟩ rfl (Nat.le_of_ble_eq_true rfl) dL_law_104 ?_
  refine w_istore hK dL_law_107 (by decide) rfl ?_
  rcases ho with ⟨hr, e⟩ | ⟨hr, hO, hs⟩
  · subst e
    rcases hr with rfl | rfl | rfl
    · refine w_iload 0 hK dL_law_109 rfl ?_
      refine w_sipush (v := -1001) hK dL_law_111 (by decide) ?_
      refine w_icmp_eq (tgt := 133) hK dL_law_114 (by decide) (fun c_114 => ?_) (fun c_114 => absurd c_114 (fun q => q rfl))
      refine w_iconst (v := 1) hK dL_law_133 (by decide) ?_
      refine w_goto (tgt := 138) hK dL_law_134 (by decide) ?_
      refine w_istore hK dL_law_138 (by decide) rfl ?_
      refine w_iload 0 hK dL_law_140 rfl ?_
      refine w_if_eq (tgt := 157) hK dL_law_142 (by decide) (fun c_142 => absurd c_142 (by decide)) (fun c_142 => ?_)
      refine w_aloadn 5 hK dL_law_145 rfl rfl ?_
      refine w_callD hK (hd2) gL_law_L_digest ⟨Nat.le_of_ble_eq_true rfl, Nat.le_of_ble_eq_true rfl⟩ (Nat.le_of_ble_eq_true rfl) dL_law_146 ?_
      refine w_lload 2 hK dL_law_149 rfl ?_
      refine w_lcmp hK dL_law_151 ?_
      rw [hdg, lg_self]
      refine w_if_eq (tgt := 157) hK dL_law_152 (by decide) (fun c_152 => ?_) (fun c_152 => absurd c_152 (fun q => q rfl))
      refine w_iload 0 hK dL_law_157 rfl ?_
      refine w_if_ne (tgt := 194) hK dL_law_159 (by decide) (fun c_159 => ?_) (fun c_159 => absurd c_159 (by decide))
      exact DW.sub [4, 5, 6] (law_194 hK hL hX hend ih (IV_up (IV_iK hI) (by omega))) rfl
    · refine w_iload 0 hK dL_law_109 rfl ?_
      refine w_sipush (v := -1001) hK dL_law_111 (by decide) ?_
      refine w_icmp_eq (tgt := 133) hK dL_law_114 (by decide) (fun c_114 => absurd c_114 (by decide)) (fun c_114 => ?_)
      refine w_iload 0 hK dL_law_117 rfl ?_
      refine w_sipush (v := -1002) hK dL_law_119 (by decide) ?_
      refine w_icmp_eq (tgt := 133) hK dL_law_122 (by decide) (fun c_122 => ?_) (fun c_122 => absurd c_122 (fun q => q rfl))
      refine w_iconst (v := 1) hK dL_law_133 (by decide) ?_
      refine w_goto (tgt := 138) hK dL_law_134 (by decide) ?_
      refine w_istore hK dL_law_138 (by decide) rfl ?_
      refine w_iload 0 hK dL_law_140 rfl ?_
      refine w_if_eq (tgt := 157) hK dL_law_142 (by decide) (fun c_142 => absurd c_142 (by decide)) (fun c_142 => ?_)
      refine w_aloadn 5 hK dL_law_145 rfl rfl ?_
      refine w_callD hK (hd2) gL_law_L_digest ⟨Nat.le_of_ble_eq_true rfl, Nat.le_of_ble_eq_true rfl⟩ (Nat.le_of_ble_eq_true rfl) dL_law_146 ?_
      refine w_lload 2 hK dL_law_149 rfl ?_
      refine w_lcmp hK dL_law_151 ?_
      rw [hdg, lg_self]
      refine w_if_eq (tgt := 157) hK dL_law_152 (by decide) (fun c_152 => ?_) (fun c_152 => absurd c_152 (fun q => q rfl))
      refine w_iload 0 hK dL_law_157 rfl ?_
      refine w_if_ne (tgt := 194) hK dL_law_159 (by decide) (fun c_159 => ?_) (fun c_159 => absurd c_159 (by decide))
      exact DW.sub [4, 5, 6] (law_194 hK hL hX hend ih (IV_up (IV_iK hI) (by omega))) rfl
    · refine w_iload 0 hK dL_law_109 rfl ?_
      refine w_sipush (v := -1001) hK dL_law_111 (by decide) ?_
      refine w_icmp_eq (tgt := 133) hK dL_law_114 (by decide) (fun c_114 => absurd c_114 (by decide)) (fun c_114 => ?_)
      refine w_iload 0 hK dL_law_117 rfl ?_
      refine w_sipush (v := -1002) hK dL_law_119 (by decide) ?_
      refine w_icmp_eq (tgt := 133) hK dL_law_122 (by decide) (fun c_122 => absurd c_122 (by decide)) (fun c_122 => ?_)
      refine w_iload 0 hK dL_law_125 rfl ?_
      refine w_sipush (v := -1003) hK dL_law_127 (by decide) ?_
      refine w_icmp_ne (tgt := 137) hK dL_law_130 (by decide) (fun c_130 => absurd c_130 (fun q => q rfl)) (fun c_130 => ?_)
      refine w_iconst (v := 1) hK dL_law_133 (by decide) ?_
      refine w_goto (tgt := 138) hK dL_law_134 (by decide) ?_
      refine w_istore hK dL_law_138 (by decide) rfl ?_
      refine w_iload 0 hK dL_law_140 rfl ?_
      refine w_if_eq (tgt := 157) hK dL_law_142 (by decide) (fun c_142 => absurd c_142 (by decide)) (fun c_142 => ?_)
      refine w_aloadn 5 hK dL_law_145 rfl rfl ?_
      refine w_callD hK (hd2) gL_law_L_digest ⟨Nat.le_of_ble_eq_true rfl, Nat.le_of_ble_eq_true rfl⟩ (Nat.le_of_ble_eq_true rfl) dL_law_146 ?_
      refine w_lload 2 hK dL_law_149 rfl ?_
      refine w_lcmp hK dL_law_151 ?_
      rw [hdg, lg_self]
      refine w_if_eq (tgt := 157) hK dL_law_152 (by decide) (fun c_152 => ?_) (fun c_152 => absurd c_152 (fun q => q rfl))
      refine w_iload 0 hK dL_law_157 rfl ?_
      refine w_if_ne (tgt := 194) hK dL_law_159 (by decide) (fun c_159 => ?_) (fun c_159 => absurd c_159 (by decide))
      exact DW.sub [4, 5, 6] (law_194 hK hL hX hend ih (IV_up (IV_iK hI) (by omega))) rfl
  · have r1 : ¬ r = -1001 := fun q => hr (Or.inl q)
    have r2 : ¬ r = -1002 := fun q => hr (Or.inr (Or.inl q))
    have r3 : ¬ r = -1003 := fun q => hr (Or.inr (Or.inr q))
    obtain ⟨z, hz⟩ : ∃ z, min (sz + 1) 5 = z + 1 := ⟨min (sz + 1) 5 - 1, by omega⟩
    rw [hz] at hO
    have hu := undo_ok (g := kG K) (l := kL K) hO
    obtain ⟨j1, s1⟩ := IV_undo hO
    rw [show ((nx + 1) % 5 + 4) % 5 = nx by have := h.1.1; omega] at j1 s1
    have hU : dig (gB_ τ ((nx + 1) % 5)) = dig σ := by
      rw [dig_cong (SAG_t hs s1), hdg]
    generalize gB_ τ ((nx + 1) % 5) = U at hu j1 s1 hU
    have hd3 := zL_digest (g := kG K) (l := kL K) j1
    obtain ⟨q, V, ha2, ho2⟩ := zL_act (g := kG K) (l := kL K) (IV_iK j1) (show 6 * t + 3 + 3 ≤ 5000 by omega) y
    obtain ⟨n5, z5, i5⟩ := Out_any (IV_iK j1) ho2 (by omega)
    refine w_iload 0 hK dL_law_109 rfl ?_
    refine w_sipush (v := -1001) hK dL_law_111 (by decide) ?_
    refine w_icmp_eq (tgt := 133) hK dL_law_114 (by decide) (fun c_114 => absurd c_114 r1) (fun c_114 => ?_)
    refine w_iload 0 hK dL_law_117 rfl ?_
    refine w_sipush (v := -1002) hK dL_law_119 (by decide) ?_
    refine w_icmp_eq (tgt := 133) hK dL_law_122 (by decide) (fun c_122 => absurd c_122 r2) (fun c_122 => ?_)
    refine w_iload 0 hK dL_law_125 rfl ?_
    refine w_sipush (v := -1003) hK dL_law_127 (by decide) ?_
    refine w_icmp_ne (tgt := 137) hK dL_law_130 (by decide) (fun c_130 => ?_) (fun c_130 => absurd c_130 r3)
    refine w_iconst (v := 0) hK dL_law_137 (by decide) ?_
    refine w_istore hK dL_law_138 (by decide) rfl ?_
    refine w_iload 0 hK dL_law_140 rfl ?_
    refine w_if_eq (tgt := 157) hK dL_law_142 (by decide) (fun c_142 => ?_) (fun c_142 => absurd c_142 (fun q => q rfl))
    refine w_iload 0 hK dL_law_157 rfl ?_
    refine w_if_ne (tgt := 194) hK dL_law_159 (by decide) (fun c_159 => absurd c_159 (fun q => q rfl)) (fun c_159 => ?_)
    refine w_iload 6 hK dL_law_162 rfl ?_
    refine w_iconst (v := 3) hK dL_law_164 (by decide) ?_
    refine w_iand hK dL_law_165 ?_
    refine w_iconst (v := 1) hK dL_law_166 (by decide) ?_
    refine w_icmp_ne (tgt := 194) hK dL_law_167 (by decide) (fun c_167 => ?_) (fun c_167 => ?_)
    · first
        | exact DW.sub [4, 5, 6] (law_194 hK hL hX hend ih (IV_up hO (by omega))) rfl
        | exact DW.sub [4, 5, 6] (law_194 hK hL hX hend ih (IV_up i5 (by omega))) rfl
    · refine w_aloadn 5 hK dL_law_170 rfl rfl ?_
      refine w_callV (ci := 6) hK mdX6_undo (hu) gL_law_X6_undo rfl rfl rfl (by decide) rfl ⟨Nat.le_of_ble_eq_true rfl, Nat.le_of_ble_eq_true rfl⟩ rfl (Nat.le_of_ble_eq_true rfl) dL_law_171 ?_
      refine w_pop hK dL_law_174 ?_
      refine w_aloadn 5 hK dL_law_175 rfl rfl ?_
      refine w_callD hK (hd3) gL_law_L_digest ⟨Nat.le_of_ble_eq_true rfl, Nat.le_of_ble_eq_true rfl⟩ (Nat.le_of_ble_eq_true rfl) dL_law_176 ?_
      refine w_lload 2 hK dL_law_179 rfl ?_
      refine w_lcmp hK dL_law_181 ?_
      rw [hU, lg_self]
      refine w_if_eq (tgt := 187) hK dL_law_182 (by decide) (fun c_182 => ?_) (fun c_182 => absurd c_182 (fun q => q rfl))
      refine w_aloadn 5 hK dL_law_187 rfl rfl ?_
      refine w_iload 3 hK dL_law_188 rfl ?_
      refine w_callS hK mdL_act (ha2) gL_law_L_act rfl ⟨Nat.le_of_ble_eq_true rfl, Nat.le_of_ble_eq_true rfl⟩ rfl (Nat.le_of_ble_eq_true rfl) dL_law_190 ?_
      refine w_pop hK dL_law_193 ?_
      first
        | exact DW.sub [4, 5, 6] (law_194 hK hL hX hend ih (IV_up hO (by omega))) rfl
        | exact DW.sub [4, 5, 6] (law_194 hK hL hX hend ih (IV_up i5 (by omega))) rfl
theorem law_loop {K : KT} {b L : Nat} {xs : Nat → Int32} (hK : OKc K code RL wsL_law 10 364) (hL : L ≤ 260) (hX : SCR K b L xs) (hend : ∀ (lv : List (Nat × Value)) (σ : aS), DW K 370 10 lv [.int 1] σ) : ∀ n t : Nat, t + n = 13 → ∀ (σ : aS) (nx sz : Nat), IV (6 * t) nx sz σ → LPt K b t σ
  | 0, t, ht, σ, nx, sz, h => by
    have e : t = 13 := by omega
    subst e
    unfold LPt
    refine w_iload 2 hK dL_law_80 rfl ?_
    refine w_bipush (v := 13) hK dL_law_82 (by decide) ?_
    refine w_icmp_ge (tgt := 216) hK dL_law_84 (by decide) (fun c_84 => ?_) (fun c_84 => absurd c_84 (fun q => q (ge_E rfl rfl)))
    exact DW.sub [0, 1] (law_tail hK hL hX hend h (by omega)) rfl
  | n + 1, t, ht, σ, nx, sz, h => law_turn hK hL hX hend (by omega) (fun σ nx sz h => law_loop hK hL hX hend n (t + 1) (by omega) σ nx sz h) h
set_option maxHeartbeats 4000000 in
set_option maxRecDepth 100000 in
theorem law_8 {K : KT} {b L : Nat} {xs : Nat → Int32} (hK : OKc K code RL wsL_law 10 364) (hL : L ≤ 260) (hX : SCR K b L xs) (hend : ∀ (lv : List (Nat × Value)) (σ : aS), DW K 370 10 lv [.int 1] σ) {σ : aS} {nx sz : Nat} (h : IV 0 nx sz σ) : DW K 8 10 [(0, .ref b), (1, .ref (gL (kG K) 600))] [] σ := by
  obtain ⟨v, hy⟩ := zL_cell (g := kG K) (l := kL K) (σ := σ) (b := b) (xs := xs) hL 0 (by decide)
  obtain ⟨r1, S1, c1, o1⟩ := out_paint (g := kG K) (l := kL K) h (lwV (v >>> ((4 : Int32) &&& 31)) 8) 2 6 8 1
  obtain ⟨n1, z1, i1⟩ := Out_any h o1 (Nat.le_refl _)
  obtain ⟨r2, S2, c2, o2⟩ := out_paint (g := kG K) (l := kL K) i1 ((lwV (v >>> ((4 : Int32) &&& 31)) 8) + 2) (lwV (v >>> ((8 : Int32) &&& 31)) 3) (1 + lwV (v >>> ((12 : Int32) &&& 31)) 3) 9 2
  obtain ⟨n2, z2, i2⟩ := Out_any i1 o2 (Nat.le_refl _)
  obtain ⟨r3, S3, c3, o3⟩ := out_cut (g := kG K) (l := kL K) i2 (lwV (v >>> ((16 : Int32) &&& 31)) 5)
  obtain ⟨n3, z3, i3⟩ := Out_any i2 o3 (Nat.le_refl _)
  have go := law_loop hK hL hX hend 12 1 rfl S3 n3 z3 (IV_up i3 (by omega))
  unfold LPt at go
  refine w_aloadn 0 hK dL_law_8 rfl rfl ?_
  refine w_iconst (v := nI 0) hK dL_law_9 (by decide) ?_
  refine w_callC hK hX (hy) gL_law_L_cell ⟨Nat.le_of_ble_eq_true rfl, Nat.le_of_ble_eq_true rfl⟩ (Nat.le_of_ble_eq_true rfl) dL_law_10 ?_
  refine w_istoren hK dL_law_13 rfl (by decide) rfl ?_
  refine w_iloadn 0 hK dL_law_14 rfl rfl ?_
  refine w_iconst (v := 4) hK dL_law_15 (by decide) ?_
  refine w_ishr hK dL_law_16 ?_
  refine w_bipush (v := 8) hK dL_law_17 (by decide) ?_
  refine w_callS hK mdL_low (zL_low _ _ (by decide)) gL_law_L_low rfl ⟨Nat.le_of_ble_eq_true rfl, Nat.le_of_ble_eq_true rfl⟩ rfl (Nat.le_of_ble_eq_true rfl) dL_law_19 ?_
  refine w_istoren hK dL_law_22 rfl (by decide) rfl ?_
  refine w_aloadn 3 hK dL_law_23 rfl rfl ?_
  refine w_iloadn 0 hK dL_law_24 rfl rfl ?_
  refine w_iconst (v := 2) hK dL_law_25 (by decide) ?_
  refine w_bipush (v := 6) hK dL_law_26 (by decide) ?_
  refine w_bipush (v := 8) hK dL_law_28 (by decide) ?_
  refine w_iconst (v := 1) hK dL_law_30 (by decide) ?_
  refine w_callV (ci := 6) hK mdX6_paint (c1) gL_law_X6_paint rfl rfl rfl (by decide) rfl ⟨Nat.le_of_ble_eq_true rfl, Nat.le_of_ble_eq_true rfl⟩ rfl (Nat.le_of_ble_eq_true rfl) dL_law_31 ?_
  refine w_pop hK dL_law_34 ?_
  refine w_aloadn 3 hK dL_law_35 rfl rfl ?_
  refine w_iloadn 0 hK dL_law_36 rfl rfl ?_
  refine w_iconst (v := 2) hK dL_law_37 (by decide) ?_
  refine w_iadd hK dL_law_38 ?_
  refine w_iloadn 1 hK dL_law_39 rfl rfl ?_
  refine w_bipush (v := 8) hK dL_law_40 (by decide) ?_
  refine w_ishr hK dL_law_42 ?_
  refine w_iconst (v := 3) hK dL_law_43 (by decide) ?_
  refine w_callS hK mdL_low (zL_low _ _ (by decide)) gL_law_L_low rfl ⟨Nat.le_of_ble_eq_true rfl, Nat.le_of_ble_eq_true rfl⟩ rfl (Nat.le_of_ble_eq_true rfl) dL_law_44 ?_
  refine w_iconst (v := 1) hK dL_law_47 (by decide) ?_
  refine w_iloadn 1 hK dL_law_48 rfl rfl ?_
  refine w_bipush (v := 12) hK dL_law_49 (by decide) ?_
  refine w_ishr hK dL_law_51 ?_
  refine w_iconst (v := 3) hK dL_law_52 (by decide) ?_
  refine w_callS hK mdL_low (zL_low _ _ (by decide)) gL_law_L_low rfl ⟨Nat.le_of_ble_eq_true rfl, Nat.le_of_ble_eq_true rfl⟩ rfl (Nat.le_of_ble_eq_true rfl) dL_law_53 ?_
  refine w_iadd hK dL_law_56 ?_
  refine w_bipush (v := 9) hK dL_law_57 (by decide) ?_
  refine w_iconst (v := 2) hK dL_law_59 (by decide) ?_
  refine w_callV (ci := 6) hK mdX6_paint (c2) gL_law_X6_paint rfl rfl rfl (by decide) rfl ⟨Nat.le_of_ble_eq_true rfl, Nat.le_of_ble_eq_true rfl⟩ rfl (Nat.le_of_ble_eq_true rfl) dL_law_60 ?_
  refine w_pop hK dL_law_63 ?_
  refine w_aloadn 3 hK dL_law_64 rfl rfl ?_
  refine w_iloadn 1 hK dL_law_65 rfl rfl ?_
  refine w_bipush (v := 16) hK dL_law_66 (by decide) ?_
  refine w_ishr hK dL_law_68 ?_
  refine w_iconst (v := 5) hK dL_law_69 (by decide) ?_
  refine w_callS hK mdL_low (zL_low _ _ (by decide)) gL_law_L_low rfl ⟨Nat.le_of_ble_eq_true rfl, Nat.le_of_ble_eq_true rfl⟩ rfl (Nat.le_of_ble_eq_true rfl) dL_law_70 ?_
  refine w_callV (ci := 6) hK mdX6_cut (c3) gL_law_X6_cut rfl rfl rfl (by decide) rfl ⟨Nat.le_of_ble_eq_true rfl, Nat.le_of_ble_eq_true rfl⟩ rfl (Nat.le_of_ble_eq_true rfl) dL_law_73 ?_
  refine w_pop hK dL_law_76 ?_
  refine w_iconst (v := 1) hK dL_law_77 (by decide) ?_
  refine w_istore hK dL_law_78 (by decide) rfl ?_
  exact DW.sub [3, 4, 0] go rfl
