/-! the law's methods: low, act -/
theorem mdL_low : MD yL_low wsL_low cL_low 2 (some .int) 2 := ⟨⟨_, rfl⟩, by decide +kernel, by decide +kernel, by decide +kernel⟩
theorem mdL_act : MD yL_act wsL_act cL_act 4 (some .int) 2 := ⟨⟨_, rfl⟩, by decide +kernel, by decide +kernel, by decide +kernel⟩
theorem mdL_hasGaps : MD yL_hasGaps wsL_hasGaps cL_hasGaps 5 (some .boolean) 2 := ⟨⟨_, rfl⟩, by decide +kernel, by decide +kernel, by decide +kernel⟩
theorem mdL_isRight : MD yL_isRight wsL_isRight cL_isRight 13 (some .boolean) 1 := ⟨⟨_, rfl⟩, by decide +kernel, by decide +kernel, by decide +kernel⟩
theorem mdL_areBest : MD yL_areBest wsL_areBest cL_areBest 9 (some .boolean) 2 := ⟨⟨_, rfl⟩, by decide +kernel, by decide +kernel, by decide +kernel⟩
theorem mdL_wears : MD yL_wears wsL_wears cL_wears 7 (some .boolean) 1 := ⟨⟨_, rfl⟩, by decide +kernel, by decide +kernel, by decide +kernel⟩
def lwV (a n : Int32) : Int32 := (a &&& 2147483647) - (a &&& 2147483647) / n * n
theorem lw_nI (a : Int32) {n : Nat} (h0 : 0 < n) (h : n < 2 ^ 31) : ∃ m : Nat, m < n ∧ lwV a (nI n) = nI m := by
  obtain ⟨j, hj, e⟩ := pk_andE a (m := 2147483647) 31 (by decide)
  unfold lwV
  rw [e]
  exact ⟨j % n, Nat.mod_lt _ h0, pk_rem hj h0 h⟩
theorem lw_16 (a : Int32) : ¬ 16 - lwV a 16 = 0 := by
  obtain ⟨m, hm, e⟩ := lw_nI a (n := 16) (by decide) (by decide)
  rw [show (16 : Int32) = nI 16 from rfl, e, pk_sub (by omega)]
  exact nI_ne0 (by omega) (by omega)
theorem lw_12 (a : Int32) : ¬ 12 - lwV a 12 = 0 := by
  obtain ⟨m, hm, e⟩ := lw_nI a (n := 12) (by decide) (by decide)
  rw [show (12 : Int32) = nI 12 from rfl, e, pk_sub (by omega)]
  exact nI_ne0 (by omega) (by omega)
theorem Out_up {P Q nx sz : Nat} {σ τ : aS} {r : Int32} (h : Out P nx sz σ r τ) (hPQ : P ≤ Q) : Out Q nx sz σ r τ := by
  rcases h with h | ⟨h1, h2, h3⟩
  · exact Or.inl h
  · exact Or.inr ⟨h1, IV_up h2 hPQ, h3⟩
set_option maxHeartbeats 4000000 in
set_option maxRecDepth 100000 in
theorem zL_low {g : aG} {l : Launch} {σ : aS} (a n : Int32) (hn : ¬ n = 0) : CN g l yL_low wsL_low 0 0 [.int a, .int n] σ (some (.int (lwV a n))) σ := by
  refine cn_of (cc := cL_low) (nL := 2) (ret := (some .int)) (own := RL) (by decide +kernel) rfl rfl (Nat.le_of_ble_eq_true rfl) (fun K hg hl hK hE => ?_)
  subst hg; subst hl
  show AW K 0 [some (.int a), some (.int n)] [] σ
  refine s_iload0 hK dL_low_0 ?_
  refine s_ldc (v := 2147483647) hK dL_low_1 (by decide +kernel) ?_
  refine s_iand hK dL_low_3 ?_
  refine s_iload1 hK dL_low_4 ?_
  refine s_irem hK dL_low_5 hn ?_
  exact s_iret hK hE dL_low_6 rfl (rfl) (rfl)
set_option maxHeartbeats 4000000 in
set_option maxRecDepth 100000 in
theorem zL_act_0 {g : aG} {l : Launch} {σ : aS} {P nx sz : Nat} (h : IV P nx sz σ) (hP : P + 3 ≤ 5000) (v : Int32) (hj : v &&& 15 = 0) : ∃ (r : Int32) (τ : aS), CN g l yL_act wsL_act 7 156 [.ref 600, .int v] σ (some (.int r)) τ ∧ Out (P + 3) nx sz σ r τ := by
  obtain ⟨r, τ, hc, ho⟩ := out_paint (g := g) (l := l) h (lwV (v >>> ((4 : Int32) &&& 31)) 16) (lwV (v >>> ((8 : Int32) &&& 31)) 12) (1 + lwV (v >>> ((12 : Int32) &&& 31)) (16 - (lwV (v >>> ((4 : Int32) &&& 31)) 16))) (1 + lwV (v >>> ((16 : Int32) &&& 31)) (12 - (lwV (v >>> ((8 : Int32) &&& 31)) 12))) (lwV (v >>> ((20 : Int32) &&& 31)) 3)
  refine ⟨r, τ, ?_, Out_up ho (by omega)⟩
  refine cn_of (cc := cL_act) (nL := 4) (ret := (some .int)) (own := RL) (by decide +kernel) rfl rfl (Nat.le_of_ble_eq_true rfl) (fun K hg hl hK hE => ?_)
  subst hg; subst hl
  show AW K 0 [some (.ref 600), some (.int v), none, none] [] σ
  refine s_iload1 hK dL_act_0 ?_
  refine s_iconst (v := 4) hK dL_act_1 (by decide) ?_
  refine s_ishr hK dL_act_2 ?_
  refine s_bipush (v := 16) hK dL_act_3 (by decide) ?_
  refine s_callS hK mdL_low (zL_low _ _ (by decide)) gL_act_L_low rfl ⟨Nat.le_of_ble_eq_true rfl, Nat.le_of_ble_eq_true rfl⟩ rfl (Nat.le_of_ble_eq_true rfl) dL_act_5 ?_
  try dsimp only [Option.toList, List.cons_append, List.nil_append]
  refine s_istore2 hK dL_act_8 ?_
  refine s_iload1 hK dL_act_9 ?_
  refine s_bipush (v := 8) hK dL_act_10 (by decide) ?_
  refine s_ishr hK dL_act_12 ?_
  refine s_bipush (v := 12) hK dL_act_13 (by decide) ?_
  refine s_callS hK mdL_low (zL_low _ _ (by decide)) gL_act_L_low rfl ⟨Nat.le_of_ble_eq_true rfl, Nat.le_of_ble_eq_true rfl⟩ rfl (Nat.le_of_ble_eq_true rfl) dL_act_15 ?_
  try dsimp only [Option.toList, List.cons_append, List.nil_append]
  refine s_istore3 hK dL_act_18 ?_
  refine s_iload1 hK dL_act_19 ?_
  refine s_bipush (v := 15) hK dL_act_20 (by decide) ?_
  refine s_iand hK dL_act_22 ?_
  rw [hj]
  refine s_tableIn (tgt := 96) hK dL_act_23 (by decide) (by decide) (off := 73) (by decide) (by decide) ?_
  refine s_aload0 hK dL_act_96 ?_
  refine s_iload2 hK dL_act_97 ?_
  refine s_iload3 hK dL_act_98 ?_
  refine s_iconst (v := 1) hK dL_act_99 (by decide) ?_
  refine s_iload1 hK dL_act_100 ?_
  refine s_bipush (v := 12) hK dL_act_101 (by decide) ?_
  refine s_ishr hK dL_act_103 ?_
  refine s_bipush (v := 16) hK dL_act_104 (by decide) ?_
  refine s_iload2 hK dL_act_106 ?_
  refine s_isub hK dL_act_107 ?_
  refine s_callS hK mdL_low (zL_low _ _ (lw_16 _)) gL_act_L_low rfl ⟨Nat.le_of_ble_eq_true rfl, Nat.le_of_ble_eq_true rfl⟩ rfl (Nat.le_of_ble_eq_true rfl) dL_act_108 ?_
  try dsimp only [Option.toList, List.cons_append, List.nil_append]
  refine s_iadd hK dL_act_111 ?_
  refine s_iconst (v := 1) hK dL_act_112 (by decide) ?_
  refine s_iload1 hK dL_act_113 ?_
  refine s_bipush (v := 16) hK dL_act_114 (by decide) ?_
  refine s_ishr hK dL_act_116 ?_
  refine s_bipush (v := 12) hK dL_act_117 (by decide) ?_
  refine s_iload3 hK dL_act_119 ?_
  refine s_isub hK dL_act_120 ?_
  refine s_callS hK mdL_low (zL_low _ _ (lw_12 _)) gL_act_L_low rfl ⟨Nat.le_of_ble_eq_true rfl, Nat.le_of_ble_eq_true rfl⟩ rfl (Nat.le_of_ble_eq_true rfl) dL_act_121 ?_
  try dsimp only [Option.toList, List.cons_append, List.nil_append]
  refine s_iadd hK dL_act_124 ?_
  refine s_iload1 hK dL_act_125 ?_
  refine s_bipush (v := 20) hK dL_act_126 (by decide) ?_
  refine s_ishr hK dL_act_128 ?_
  refine s_iconst (v := 3) hK dL_act_129 (by decide) ?_
  refine s_callS hK mdL_low (zL_low _ _ (by decide)) gL_act_L_low rfl ⟨Nat.le_of_ble_eq_true rfl, Nat.le_of_ble_eq_true rfl⟩ rfl (Nat.le_of_ble_eq_true rfl) dL_act_130 ?_
  try dsimp only [Option.toList, List.cons_append, List.nil_append]
  refine s_callV (ci := 6) hK mdX6_paint (hc) gL_act_X6_paint rfl rfl rfl (by decide) rfl ⟨Nat.le_of_ble_eq_true rfl, Nat.le_of_ble_eq_true rfl⟩ rfl (Nat.le_of_ble_eq_true rfl) dL_act_133 ?_
  try dsimp only [Option.toList, List.cons_append, List.nil_append]
  exact s_iret hK hE dL_act_136 rfl (rfl) (rfl)
set_option maxHeartbeats 4000000 in
set_option maxRecDepth 100000 in
theorem zL_act_1 {g : aG} {l : Launch} {σ : aS} {P nx sz : Nat} (h : IV P nx sz σ) (hP : P + 3 ≤ 5000) (v : Int32) (hj : v &&& 15 = 1) : ∃ (r : Int32) (τ : aS), CN g l yL_act wsL_act 7 156 [.ref 600, .int v] σ (some (.int r)) τ ∧ Out (P + 3) nx sz σ r τ := by
  obtain ⟨r, τ, hc, ho⟩ := out_paint (g := g) (l := l) h (lwV (v >>> ((4 : Int32) &&& 31)) 16) (lwV (v >>> ((8 : Int32) &&& 31)) 12) (1 + lwV (v >>> ((12 : Int32) &&& 31)) (16 - (lwV (v >>> ((4 : Int32) &&& 31)) 16))) (1 + lwV (v >>> ((16 : Int32) &&& 31)) (12 - (lwV (v >>> ((8 : Int32) &&& 31)) 12))) (lwV (v >>> ((20 : Int32) &&& 31)) 3)
  refine ⟨r, τ, ?_, Out_up ho (by omega)⟩
  refine cn_of (cc := cL_act) (nL := 4) (ret := (some .int)) (own := RL) (by decide +kernel) rfl rfl (Nat.le_of_ble_eq_true rfl) (fun K hg hl hK hE => ?_)
  subst hg; subst hl
  show AW K 0 [some (.ref 600), some (.int v), none, none] [] σ
  refine s_iload1 hK dL_act_0 ?_
  refine s_iconst (v := 4) hK dL_act_1 (by decide) ?_
  refine s_ishr hK dL_act_2 ?_
  refine s_bipush (v := 16) hK dL_act_3 (by decide) ?_
  refine s_callS hK mdL_low (zL_low _ _ (by decide)) gL_act_L_low rfl ⟨Nat.le_of_ble_eq_true rfl, Nat.le_of_ble_eq_true rfl⟩ rfl (Nat.le_of_ble_eq_true rfl) dL_act_5 ?_
  try dsimp only [Option.toList, List.cons_append, List.nil_append]
  refine s_istore2 hK dL_act_8 ?_
  refine s_iload1 hK dL_act_9 ?_
  refine s_bipush (v := 8) hK dL_act_10 (by decide) ?_
  refine s_ishr hK dL_act_12 ?_
  refine s_bipush (v := 12) hK dL_act_13 (by decide) ?_
  refine s_callS hK mdL_low (zL_low _ _ (by decide)) gL_act_L_low rfl ⟨Nat.le_of_ble_eq_true rfl, Nat.le_of_ble_eq_true rfl⟩ rfl (Nat.le_of_ble_eq_true rfl) dL_act_15 ?_
  try dsimp only [Option.toList, List.cons_append, List.nil_append]
  refine s_istore3 hK dL_act_18 ?_
  refine s_iload1 hK dL_act_19 ?_
  refine s_bipush (v := 15) hK dL_act_20 (by decide) ?_
  refine s_iand hK dL_act_22 ?_
  rw [hj]
  refine s_tableIn (tgt := 96) hK dL_act_23 (by decide) (by decide) (off := 73) (by decide) (by decide) ?_
  refine s_aload0 hK dL_act_96 ?_
  refine s_iload2 hK dL_act_97 ?_
  refine s_iload3 hK dL_act_98 ?_
  refine s_iconst (v := 1) hK dL_act_99 (by decide) ?_
  refine s_iload1 hK dL_act_100 ?_
  refine s_bipush (v := 12) hK dL_act_101 (by decide) ?_
  refine s_ishr hK dL_act_103 ?_
  refine s_bipush (v := 16) hK dL_act_104 (by decide) ?_
  refine s_iload2 hK dL_act_106 ?_
  refine s_isub hK dL_act_107 ?_
  refine s_callS hK mdL_low (zL_low _ _ (lw_16 _)) gL_act_L_low rfl ⟨Nat.le_of_ble_eq_true rfl, Nat.le_of_ble_eq_true rfl⟩ rfl (Nat.le_of_ble_eq_true rfl) dL_act_108 ?_
  try dsimp only [Option.toList, List.cons_append, List.nil_append]
  refine s_iadd hK dL_act_111 ?_
  refine s_iconst (v := 1) hK dL_act_112 (by decide) ?_
  refine s_iload1 hK dL_act_113 ?_
  refine s_bipush (v := 16) hK dL_act_114 (by decide) ?_
  refine s_ishr hK dL_act_116 ?_
  refine s_bipush (v := 12) hK dL_act_117 (by decide) ?_
  refine s_iload3 hK dL_act_119 ?_
  refine s_isub hK dL_act_120 ?_
  refine s_callS hK mdL_low (zL_low _ _ (lw_12 _)) gL_act_L_low rfl ⟨Nat.le_of_ble_eq_true rfl, Nat.le_of_ble_eq_true rfl⟩ rfl (Nat.le_of_ble_eq_true rfl) dL_act_121 ?_
  try dsimp only [Option.toList, List.cons_append, List.nil_append]
  refine s_iadd hK dL_act_124 ?_
  refine s_iload1 hK dL_act_125 ?_
  refine s_bipush (v := 20) hK dL_act_126 (by decide) ?_
  refine s_ishr hK dL_act_128 ?_
  refine s_iconst (v := 3) hK dL_act_129 (by decide) ?_
  refine s_callS hK mdL_low (zL_low _ _ (by decide)) gL_act_L_low rfl ⟨Nat.le_of_ble_eq_true rfl, Nat.le_of_ble_eq_true rfl⟩ rfl (Nat.le_of_ble_eq_true rfl) dL_act_130 ?_
  try dsimp only [Option.toList, List.cons_append, List.nil_append]
  refine s_callV (ci := 6) hK mdX6_paint (hc) gL_act_X6_paint rfl rfl rfl (by decide) rfl ⟨Nat.le_of_ble_eq_true rfl, Nat.le_of_ble_eq_true rfl⟩ rfl (Nat.le_of_ble_eq_true rfl) dL_act_133 ?_
  try dsimp only [Option.toList, List.cons_append, List.nil_append]
  exact s_iret hK hE dL_act_136 rfl (rfl) (rfl)
set_option maxHeartbeats 4000000 in
set_option maxRecDepth 100000 in
theorem zL_act_2 {g : aG} {l : Launch} {σ : aS} {P nx sz : Nat} (h : IV P nx sz σ) (hP : P + 3 ≤ 5000) (v : Int32) (hj : v &&& 15 = 2) : ∃ (r : Int32) (τ : aS), CN g l yL_act wsL_act 7 156 [.ref 600, .int v] σ (some (.int r)) τ ∧ Out (P + 3) nx sz σ r τ := by
  obtain ⟨r, τ, hc, ho⟩ := out_paint (g := g) (l := l) h (lwV (v >>> ((4 : Int32) &&& 31)) 16) (lwV (v >>> ((8 : Int32) &&& 31)) 12) (1 + lwV (v >>> ((12 : Int32) &&& 31)) (16 - (lwV (v >>> ((4 : Int32) &&& 31)) 16))) (1 + lwV (v >>> ((16 : Int32) &&& 31)) (12 - (lwV (v >>> ((8 : Int32) &&& 31)) 12))) (lwV (v >>> ((20 : Int32) &&& 31)) 3)
  refine ⟨r, τ, ?_, Out_up ho (by omega)⟩
  refine cn_of (cc := cL_act) (nL := 4) (ret := (some .int)) (own := RL) (by decide +kernel) rfl rfl (Nat.le_of_ble_eq_true rfl) (fun K hg hl hK hE => ?_)
  subst hg; subst hl
  show AW K 0 [some (.ref 600), some (.int v), none, none] [] σ
  refine s_iload1 hK dL_act_0 ?_
  refine s_iconst (v := 4) hK dL_act_1 (by decide) ?_
  refine s_ishr hK dL_act_2 ?_
  refine s_bipush (v := 16) hK dL_act_3 (by decide) ?_
  refine s_callS hK mdL_low (zL_low _ _ (by decide)) gL_act_L_low rfl ⟨Nat.le_of_ble_eq_true rfl, Nat.le_of_ble_eq_true rfl⟩ rfl (Nat.le_of_ble_eq_true rfl) dL_act_5 ?_
  try dsimp only [Option.toList, List.cons_append, List.nil_append]
  refine s_istore2 hK dL_act_8 ?_
  refine s_iload1 hK dL_act_9 ?_
  refine s_bipush (v := 8) hK dL_act_10 (by decide) ?_
  refine s_ishr hK dL_act_12 ?_
  refine s_bipush (v := 12) hK dL_act_13 (by decide) ?_
  refine s_callS hK mdL_low (zL_low _ _ (by decide)) gL_act_L_low rfl ⟨Nat.le_of_ble_eq_true rfl, Nat.le_of_ble_eq_true rfl⟩ rfl (Nat.le_of_ble_eq_true rfl) dL_act_15 ?_
  try dsimp only [Option.toList, List.cons_append, List.nil_append]
  refine s_istore3 hK dL_act_18 ?_
  refine s_iload1 hK dL_act_19 ?_
  refine s_bipush (v := 15) hK dL_act_20 (by decide) ?_
  refine s_iand hK dL_act_22 ?_
  rw [hj]
  refine s_tableIn (tgt := 96) hK dL_act_23 (by decide) (by decide) (off := 73) (by decide) (by decide) ?_
  refine s_aload0 hK dL_act_96 ?_
  refine s_iload2 hK dL_act_97 ?_
  refine s_iload3 hK dL_act_98 ?_
  refine s_iconst (v := 1) hK dL_act_99 (by decide) ?_
  refine s_iload1 hK dL_act_100 ?_
  refine s_bipush (v := 12) hK dL_act_101 (by decide) ?_
  refine s_ishr hK dL_act_103 ?_
  refine s_bipush (v := 16) hK dL_act_104 (by decide) ?_
  refine s_iload2 hK dL_act_106 ?_
  refine s_isub hK dL_act_107 ?_
  refine s_callS hK mdL_low (zL_low _ _ (lw_16 _)) gL_act_L_low rfl ⟨Nat.le_of_ble_eq_true rfl, Nat.le_of_ble_eq_true rfl⟩ rfl (Nat.le_of_ble_eq_true rfl) dL_act_108 ?_
  try dsimp only [Option.toList, List.cons_append, List.nil_append]
  refine s_iadd hK dL_act_111 ?_
  refine s_iconst (v := 1) hK dL_act_112 (by decide) ?_
  refine s_iload1 hK dL_act_113 ?_
  refine s_bipush (v := 16) hK dL_act_114 (by decide) ?_
  refine s_ishr hK dL_act_116 ?_
  refine s_bipush (v := 12) hK dL_act_117 (by decide) ?_
  refine s_iload3 hK dL_act_119 ?_
  refine s_isub hK dL_act_120 ?_
  refine s_callS hK mdL_low (zL_low _ _ (lw_12 _)) gL_act_L_low rfl ⟨Nat.le_of_ble_eq_true rfl, Nat.le_of_ble_eq_true rfl⟩ rfl (Nat.le_of_ble_eq_true rfl) dL_act_121 ?_
  try dsimp only [Option.toList, List.cons_append, List.nil_append]
  refine s_iadd hK dL_act_124 ?_
  refine s_iload1 hK dL_act_125 ?_
  refine s_bipush (v := 20) hK dL_act_126 (by decide) ?_
  refine s_ishr hK dL_act_128 ?_
  refine s_iconst (v := 3) hK dL_act_129 (by decide) ?_
  refine s_callS hK mdL_low (zL_low _ _ (by decide)) gL_act_L_low rfl ⟨Nat.le_of_ble_eq_true rfl, Nat.le_of_ble_eq_true rfl⟩ rfl (Nat.le_of_ble_eq_true rfl) dL_act_130 ?_
  try dsimp only [Option.toList, List.cons_append, List.nil_append]
  refine s_callV (ci := 6) hK mdX6_paint (hc) gL_act_X6_paint rfl rfl rfl (by decide) rfl ⟨Nat.le_of_ble_eq_true rfl, Nat.le_of_ble_eq_true rfl⟩ rfl (Nat.le_of_ble_eq_true rfl) dL_act_133 ?_
  try dsimp only [Option.toList, List.cons_append, List.nil_append]
  exact s_iret hK hE dL_act_136 rfl (rfl) (rfl)
set_option maxHeartbeats 4000000 in
set_option maxRecDepth 100000 in
theorem zL_act_3 {g : aG} {l : Launch} {σ : aS} {P nx sz : Nat} (h : IV P nx sz σ) (hP : P + 3 ≤ 5000) (v : Int32) (hj : v &&& 15 = 3) : ∃ (r : Int32) (τ : aS), CN g l yL_act wsL_act 7 156 [.ref 600, .int v] σ (some (.int r)) τ ∧ Out (P + 3) nx sz σ r τ := by
  obtain ⟨r, τ, hc, ho⟩ := out_paint (g := g) (l := l) h (lwV (v >>> ((4 : Int32) &&& 31)) 16) (lwV (v >>> ((8 : Int32) &&& 31)) 12) (1 + lwV (v >>> ((12 : Int32) &&& 31)) (16 - (lwV (v >>> ((4 : Int32) &&& 31)) 16))) (1 + lwV (v >>> ((16 : Int32) &&& 31)) (12 - (lwV (v >>> ((8 : Int32) &&& 31)) 12))) (lwV (v >>> ((20 : Int32) &&& 31)) 3)
  refine ⟨r, τ, ?_, Out_up ho (by omega)⟩
  refine cn_of (cc := cL_act) (nL := 4) (ret := (some .int)) (own := RL) (by decide +kernel) rfl rfl (Nat.le_of_ble_eq_true rfl) (fun K hg hl hK hE => ?_)
  subst hg; subst hl
  show AW K 0 [some (.ref 600), some (.int v), none, none] [] σ
  refine s_iload1 hK dL_act_0 ?_
  refine s_iconst (v := 4) hK dL_act_1 (by decide) ?_
  refine s_ishr hK dL_act_2 ?_
  refine s_bipush (v := 16) hK dL_act_3 (by decide) ?_
  refine s_callS hK mdL_low (zL_low _ _ (by decide)) gL_act_L_low rfl ⟨Nat.le_of_ble_eq_true rfl, Nat.le_of_ble_eq_true rfl⟩ rfl (Nat.le_of_ble_eq_true rfl) dL_act_5 ?_
  try dsimp only [Option.toList, List.cons_append, List.nil_append]
  refine s_istore2 hK dL_act_8 ?_
  refine s_iload1 hK dL_act_9 ?_
  refine s_bipush (v := 8) hK dL_act_10 (by decide) ?_
  refine s_ishr hK dL_act_12 ?_
  refine s_bipush (v := 12) hK dL_act_13 (by decide) ?_
  refine s_callS hK mdL_low (zL_low _ _ (by decide)) gL_act_L_low rfl ⟨Nat.le_of_ble_eq_true rfl, Nat.le_of_ble_eq_true rfl⟩ rfl (Nat.le_of_ble_eq_true rfl) dL_act_15 ?_
  try dsimp only [Option.toList, List.cons_append, List.nil_append]
  refine s_istore3 hK dL_act_18 ?_
  refine s_iload1 hK dL_act_19 ?_
  refine s_bipush (v := 15) hK dL_act_20 (by decide) ?_
  refine s_iand hK dL_act_22 ?_
  rw [hj]
  refine s_tableIn (tgt := 96) hK dL_act_23 (by decide) (by decide) (off := 73) (by decide) (by decide) ?_
  refine s_aload0 hK dL_act_96 ?_
  refine s_iload2 hK dL_act_97 ?_
  refine s_iload3 hK dL_act_98 ?_
  refine s_iconst (v := 1) hK dL_act_99 (by decide) ?_
  refine s_iload1 hK dL_act_100 ?_
  refine s_bipush (v := 12) hK dL_act_101 (by decide) ?_
  refine s_ishr hK dL_act_103 ?_
  refine s_bipush (v := 16) hK dL_act_104 (by decide) ?_
  refine s_iload2 hK dL_act_106 ?_
  refine s_isub hK dL_act_107 ?_
  refine s_callS hK mdL_low (zL_low _ _ (lw_16 _)) gL_act_L_low rfl ⟨Nat.le_of_ble_eq_true rfl, Nat.le_of_ble_eq_true rfl⟩ rfl (Nat.le_of_ble_eq_true rfl) dL_act_108 ?_
  try dsimp only [Option.toList, List.cons_append, List.nil_append]
  refine s_iadd hK dL_act_111 ?_
  refine s_iconst (v := 1) hK dL_act_112 (by decide) ?_
  refine s_iload1 hK dL_act_113 ?_
  refine s_bipush (v := 16) hK dL_act_114 (by decide) ?_
  refine s_ishr hK dL_act_116 ?_
  refine s_bipush (v := 12) hK dL_act_117 (by decide) ?_
  refine s_iload3 hK dL_act_119 ?_
  refine s_isub hK dL_act_120 ?_
  refine s_callS hK mdL_low (zL_low _ _ (lw_12 _)) gL_act_L_low rfl ⟨Nat.le_of_ble_eq_true rfl, Nat.le_of_ble_eq_true rfl⟩ rfl (Nat.le_of_ble_eq_true rfl) dL_act_121 ?_
  try dsimp only [Option.toList, List.cons_append, List.nil_append]
  refine s_iadd hK dL_act_124 ?_
  refine s_iload1 hK dL_act_125 ?_
  refine s_bipush (v := 20) hK dL_act_126 (by decide) ?_
  refine s_ishr hK dL_act_128 ?_
  refine s_iconst (v := 3) hK dL_act_129 (by decide) ?_
  refine s_callS hK mdL_low (zL_low _ _ (by decide)) gL_act_L_low rfl ⟨Nat.le_of_ble_eq_true rfl, Nat.le_of_ble_eq_true rfl⟩ rfl (Nat.le_of_ble_eq_true rfl) dL_act_130 ?_
  try dsimp only [Option.toList, List.cons_append, List.nil_append]
  refine s_callV (ci := 6) hK mdX6_paint (hc) gL_act_X6_paint rfl rfl rfl (by decide) rfl ⟨Nat.le_of_ble_eq_true rfl, Nat.le_of_ble_eq_true rfl⟩ rfl (Nat.le_of_ble_eq_true rfl) dL_act_133 ?_
  try dsimp only [Option.toList, List.cons_append, List.nil_append]
  exact s_iret hK hE dL_act_136 rfl (rfl) (rfl)
set_option maxHeartbeats 4000000 in
set_option maxRecDepth 100000 in
theorem zL_act_4 {g : aG} {l : Launch} {σ : aS} {P nx sz : Nat} (h : IV P nx sz σ) (hP : P + 3 ≤ 5000) (v : Int32) (hj : v &&& 15 = 4) : ∃ (r : Int32) (τ : aS), CN g l yL_act wsL_act 7 156 [.ref 600, .int v] σ (some (.int r)) τ ∧ Out (P + 3) nx sz σ r τ := by
  obtain ⟨r, τ, hc, ho⟩ := out_cut (g := g) (l := l) h (lwV (v >>> ((9 : Int32) &&& 31)) 5)
  refine ⟨r, τ, ?_, Out_up ho (by omega)⟩
  refine cn_of (cc := cL_act) (nL := 4) (ret := (some .int)) (own := RL) (by decide +kernel) rfl rfl (Nat.le_of_ble_eq_true rfl) (fun K hg hl hK hE => ?_)
  subst hg; subst hl
  show AW K 0 [some (.ref 600), some (.int v), none, none] [] σ
  refine s_iload1 hK dL_act_0 ?_
  refine s_iconst (v := 4) hK dL_act_1 (by decide) ?_
  refine s_ishr hK dL_act_2 ?_
  refine s_bipush (v := 16) hK dL_act_3 (by decide) ?_
  refine s_callS hK mdL_low (zL_low _ _ (by decide)) gL_act_L_low rfl ⟨Nat.le_of_ble_eq_true rfl, Nat.le_of_ble_eq_true rfl⟩ rfl (Nat.le_of_ble_eq_true rfl) dL_act_5 ?_
  try dsimp only [Option.toList, List.cons_append, List.nil_append]
  refine s_istore2 hK dL_act_8 ?_
  refine s_iload1 hK dL_act_9 ?_
  refine s_bipush (v := 8) hK dL_act_10 (by decide) ?_
  refine s_ishr hK dL_act_12 ?_
  refine s_bipush (v := 12) hK dL_act_13 (by decide) ?_
  refine s_callS hK mdL_low (zL_low _ _ (by decide)) gL_act_L_low rfl ⟨Nat.le_of_ble_eq_true rfl, Nat.le_of_ble_eq_true rfl⟩ rfl (Nat.le_of_ble_eq_true rfl) dL_act_15 ?_
  try dsimp only [Option.toList, List.cons_append, List.nil_append]
  refine s_istore3 hK dL_act_18 ?_
  refine s_iload1 hK dL_act_19 ?_
  refine s_bipush (v := 15) hK dL_act_20 (by decide) ?_
  refine s_iand hK dL_act_22 ?_
  rw [hj]
  refine s_tableIn (tgt := 137) hK dL_act_23 (by decide) (by decide) (off := 114) (by decide) (by decide) ?_
  refine s_aload0 hK dL_act_137 ?_
  refine s_iload1 hK dL_act_138 ?_
  refine s_bipush (v := 9) hK dL_act_139 (by decide) ?_
  refine s_ishr hK dL_act_141 ?_
  refine s_iconst (v := 5) hK dL_act_142 (by decide) ?_
  refine s_callS hK mdL_low (zL_low _ _ (by decide)) gL_act_L_low rfl ⟨Nat.le_of_ble_eq_true rfl, Nat.le_of_ble_eq_true rfl⟩ rfl (Nat.le_of_ble_eq_true rfl) dL_act_143 ?_
  try dsimp only [Option.toList, List.cons_append, List.nil_append]
  refine s_callV (ci := 6) hK mdX6_cut (hc) gL_act_X6_cut rfl rfl rfl (by decide) rfl ⟨Nat.le_of_ble_eq_true rfl, Nat.le_of_ble_eq_true rfl⟩ rfl (Nat.le_of_ble_eq_true rfl) dL_act_146 ?_
  try dsimp only [Option.toList, List.cons_append, List.nil_append]
  exact s_iret hK hE dL_act_149 rfl (rfl) (rfl)
set_option maxHeartbeats 4000000 in
set_option maxRecDepth 100000 in
theorem zL_act_5 {g : aG} {l : Launch} {σ : aS} {P nx sz : Nat} (h : IV P nx sz σ) (hP : P + 3 ≤ 5000) (v : Int32) (hj : v &&& 15 = 5) : ∃ (r : Int32) (τ : aS), CN g l yL_act wsL_act 7 156 [.ref 600, .int v] σ (some (.int r)) τ ∧ Out (P + 3) nx sz σ r τ := by
  obtain ⟨r, τ, hc, ho⟩ := out_cut (g := g) (l := l) h (lwV (v >>> ((9 : Int32) &&& 31)) 5)
  refine ⟨r, τ, ?_, Out_up ho (by omega)⟩
  refine cn_of (cc := cL_act) (nL := 4) (ret := (some .int)) (own := RL) (by decide +kernel) rfl rfl (Nat.le_of_ble_eq_true rfl) (fun K hg hl hK hE => ?_)
  subst hg; subst hl
  show AW K 0 [some (.ref 600), some (.int v), none, none] [] σ
  refine s_iload1 hK dL_act_0 ?_
  refine s_iconst (v := 4) hK dL_act_1 (by decide) ?_
  refine s_ishr hK dL_act_2 ?_
  refine s_bipush (v := 16) hK dL_act_3 (by decide) ?_
  refine s_callS hK mdL_low (zL_low _ _ (by decide)) gL_act_L_low rfl ⟨Nat.le_of_ble_eq_true rfl, Nat.le_of_ble_eq_true rfl⟩ rfl (Nat.le_of_ble_eq_true rfl) dL_act_5 ?_
  try dsimp only [Option.toList, List.cons_append, List.nil_append]
  refine s_istore2 hK dL_act_8 ?_
  refine s_iload1 hK dL_act_9 ?_
  refine s_bipush (v := 8) hK dL_act_10 (by decide) ?_
  refine s_ishr hK dL_act_12 ?_
  refine s_bipush (v := 12) hK dL_act_13 (by decide) ?_
  refine s_callS hK mdL_low (zL_low _ _ (by decide)) gL_act_L_low rfl ⟨Nat.le_of_ble_eq_true rfl, Nat.le_of_ble_eq_true rfl⟩ rfl (Nat.le_of_ble_eq_true rfl) dL_act_15 ?_
  try dsimp only [Option.toList, List.cons_append, List.nil_append]
  refine s_istore3 hK dL_act_18 ?_
  refine s_iload1 hK dL_act_19 ?_
  refine s_bipush (v := 15) hK dL_act_20 (by decide) ?_
  refine s_iand hK dL_act_22 ?_
  rw [hj]
  refine s_tableIn (tgt := 137) hK dL_act_23 (by decide) (by decide) (off := 114) (by decide) (by decide) ?_
  refine s_aload0 hK dL_act_137 ?_
  refine s_iload1 hK dL_act_138 ?_
  refine s_bipush (v := 9) hK dL_act_139 (by decide) ?_
  refine s_ishr hK dL_act_141 ?_
  refine s_iconst (v := 5) hK dL_act_142 (by decide) ?_
  refine s_callS hK mdL_low (zL_low _ _ (by decide)) gL_act_L_low rfl ⟨Nat.le_of_ble_eq_true rfl, Nat.le_of_ble_eq_true rfl⟩ rfl (Nat.le_of_ble_eq_true rfl) dL_act_143 ?_
  try dsimp only [Option.toList, List.cons_append, List.nil_append]
  refine s_callV (ci := 6) hK mdX6_cut (hc) gL_act_X6_cut rfl rfl rfl (by decide) rfl ⟨Nat.le_of_ble_eq_true rfl, Nat.le_of_ble_eq_true rfl⟩ rfl (Nat.le_of_ble_eq_true rfl) dL_act_146 ?_
  try dsimp only [Option.toList, List.cons_append, List.nil_append]
  exact s_iret hK hE dL_act_149 rfl (rfl) (rfl)
set_option maxHeartbeats 4000000 in
set_option maxRecDepth 100000 in
theorem zL_act_6 {g : aG} {l : Launch} {σ : aS} {P nx sz : Nat} (h : IV P nx sz σ) (hP : P + 3 ≤ 5000) (v : Int32) (hj : v &&& 15 = 6) : ∃ (r : Int32) (τ : aS), CN g l yL_act wsL_act 7 156 [.ref 600, .int v] σ (some (.int r)) τ ∧ Out (P + 3) nx sz σ r τ := by
  obtain ⟨r, τ, hc, ho⟩ := out_carve (g := g) (l := l) h ((v >>> ((12 : Int32) &&& 31)) &&& 1) (lwV (v >>> ((4 : Int32) &&& 31)) 16) (lwV (v >>> ((8 : Int32) &&& 31)) 12) ((v >>> ((13 : Int32) &&& 31)) &&& 1)
  refine ⟨r, τ, ?_, Out_up ho (by omega)⟩
  refine cn_of (cc := cL_act) (nL := 4) (ret := (some .int)) (own := RL) (by decide +kernel) rfl rfl (Nat.le_of_ble_eq_true rfl) (fun K hg hl hK hE => ?_)
  subst hg; subst hl
  show AW K 0 [some (.ref 600), some (.int v), none, none] [] σ
  refine s_iload1 hK dL_act_0 ?_
  refine s_iconst (v := 4) hK dL_act_1 (by decide) ?_
  refine s_ishr hK dL_act_2 ?_
  refine s_bipush (v := 16) hK dL_act_3 (by decide) ?_
  refine s_callS hK mdL_low (zL_low _ _ (by decide)) gL_act_L_low rfl ⟨Nat.le_of_ble_eq_true rfl, Nat.le_of_ble_eq_true rfl⟩ rfl (Nat.le_of_ble_eq_true rfl) dL_act_5 ?_
  try dsimp only [Option.toList, List.cons_append, List.nil_append]
  refine s_istore2 hK dL_act_8 ?_
  refine s_iload1 hK dL_act_9 ?_
  refine s_bipush (v := 8) hK dL_act_10 (by decide) ?_
  refine s_ishr hK dL_act_12 ?_
  refine s_bipush (v := 12) hK dL_act_13 (by decide) ?_
  refine s_callS hK mdL_low (zL_low _ _ (by decide)) gL_act_L_low rfl ⟨Nat.le_of_ble_eq_true rfl, Nat.le_of_ble_eq_true rfl⟩ rfl (Nat.le_of_ble_eq_true rfl) dL_act_15 ?_
  try dsimp only [Option.toList, List.cons_append, List.nil_append]
  refine s_istore3 hK dL_act_18 ?_
  refine s_iload1 hK dL_act_19 ?_
  refine s_bipush (v := 15) hK dL_act_20 (by decide) ?_
  refine s_iand hK dL_act_22 ?_
  rw [hj]
  refine s_tableIn (tgt := 150) hK dL_act_23 (by decide) (by decide) (off := 127) (by decide) (by decide) ?_
  refine s_aload0 hK dL_act_150 ?_
  refine s_iload1 hK dL_act_151 ?_
  refine s_bipush (v := 12) hK dL_act_152 (by decide) ?_
  refine s_ishr hK dL_act_154 ?_
  refine s_iconst (v := 1) hK dL_act_155 (by decide) ?_
  refine s_iand hK dL_act_156 ?_
  refine s_iload2 hK dL_act_157 ?_
  refine s_iload3 hK dL_act_158 ?_
  refine s_iload1 hK dL_act_159 ?_
  refine s_bipush (v := 13) hK dL_act_160 (by decide) ?_
  refine s_ishr hK dL_act_162 ?_
  refine s_iconst (v := 1) hK dL_act_163 (by decide) ?_
  refine s_iand hK dL_act_164 ?_
  refine s_callV (ci := 6) hK mdX6_carve (hc) gL_act_X6_carve rfl rfl rfl (by decide) rfl ⟨Nat.le_of_ble_eq_true rfl, Nat.le_of_ble_eq_true rfl⟩ rfl (Nat.le_of_ble_eq_true rfl) dL_act_165 ?_
  try dsimp only [Option.toList, List.cons_append, List.nil_append]
  exact s_iret hK hE dL_act_168 rfl (rfl) (rfl)
set_option maxHeartbeats 4000000 in
set_option maxRecDepth 100000 in
theorem zL_act_7 {g : aG} {l : Launch} {σ : aS} {P nx sz : Nat} (h : IV P nx sz σ) (hP : P + 3 ≤ 5000) (v : Int32) (hj : v &&& 15 = 7) : ∃ (r : Int32) (τ : aS), CN g l yL_act wsL_act 7 156 [.ref 600, .int v] σ (some (.int r)) τ ∧ Out (P + 3) nx sz σ r τ := by
  obtain ⟨r, τ, hc, ho⟩ := out_carve (g := g) (l := l) h ((v >>> ((12 : Int32) &&& 31)) &&& 1) (lwV (v >>> ((4 : Int32) &&& 31)) 16) (lwV (v >>> ((8 : Int32) &&& 31)) 12) ((v >>> ((13 : Int32) &&& 31)) &&& 1)
  refine ⟨r, τ, ?_, Out_up ho (by omega)⟩
  refine cn_of (cc := cL_act) (nL := 4) (ret := (some .int)) (own := RL) (by decide +kernel) rfl rfl (Nat.le_of_ble_eq_true rfl) (fun K hg hl hK hE => ?_)
  subst hg; subst hl
  show AW K 0 [some (.ref 600), some (.int v), none, none] [] σ
  refine s_iload1 hK dL_act_0 ?_
  refine s_iconst (v := 4) hK dL_act_1 (by decide) ?_
  refine s_ishr hK dL_act_2 ?_
  refine s_bipush (v := 16) hK dL_act_3 (by decide) ?_
  refine s_callS hK mdL_low (zL_low _ _ (by decide)) gL_act_L_low rfl ⟨Nat.le_of_ble_eq_true rfl, Nat.le_of_ble_eq_true rfl⟩ rfl (Nat.le_of_ble_eq_true rfl) dL_act_5 ?_
  try dsimp only [Option.toList, List.cons_append, List.nil_append]
  refine s_istore2 hK dL_act_8 ?_
  refine s_iload1 hK dL_act_9 ?_
  refine s_bipush (v := 8) hK dL_act_10 (by decide) ?_
  refine s_ishr hK dL_act_12 ?_
  refine s_bipush (v := 12) hK dL_act_13 (by decide) ?_
  refine s_callS hK mdL_low (zL_low _ _ (by decide)) gL_act_L_low rfl ⟨Nat.le_of_ble_eq_true rfl, Nat.le_of_ble_eq_true rfl⟩ rfl (Nat.le_of_ble_eq_true rfl) dL_act_15 ?_
  try dsimp only [Option.toList, List.cons_append, List.nil_append]
  refine s_istore3 hK dL_act_18 ?_
  refine s_iload1 hK dL_act_19 ?_
  refine s_bipush (v := 15) hK dL_act_20 (by decide) ?_
  refine s_iand hK dL_act_22 ?_
  rw [hj]
  refine s_tableIn (tgt := 150) hK dL_act_23 (by decide) (by decide) (off := 127) (by decide) (by decide) ?_
  refine s_aload0 hK dL_act_150 ?_
  refine s_iload1 hK dL_act_151 ?_
  refine s_bipush (v := 12) hK dL_act_152 (by decide) ?_
  refine s_ishr hK dL_act_154 ?_
  refine s_iconst (v := 1) hK dL_act_155 (by decide) ?_
  refine s_iand hK dL_act_156 ?_
  refine s_iload2 hK dL_act_157 ?_
  refine s_iload3 hK dL_act_158 ?_
  refine s_iload1 hK dL_act_159 ?_
  refine s_bipush (v := 13) hK dL_act_160 (by decide) ?_
  refine s_ishr hK dL_act_162 ?_
  refine s_iconst (v := 1) hK dL_act_163 (by decide) ?_
  refine s_iand hK dL_act_164 ?_
  refine s_callV (ci := 6) hK mdX6_carve (hc) gL_act_X6_carve rfl rfl rfl (by decide) rfl ⟨Nat.le_of_ble_eq_true rfl, Nat.le_of_ble_eq_true rfl⟩ rfl (Nat.le_of_ble_eq_true rfl) dL_act_165 ?_
  try dsimp only [Option.toList, List.cons_append, List.nil_append]
  exact s_iret hK hE dL_act_168 rfl (rfl) (rfl)
set_option maxHeartbeats 4000000 in
set_option maxRecDepth 100000 in
theorem zL_act_8 {g : aG} {l : Launch} {σ : aS} {P nx sz : Nat} (h : IV P nx sz σ) (hP : P + 3 ≤ 5000) (v : Int32) (hj : v &&& 15 = 8) : ∃ (r : Int32) (τ : aS), CN g l yL_act wsL_act 7 156 [.ref 600, .int v] σ (some (.int r)) τ ∧ Out (P + 3) nx sz σ r τ := by
  obtain ⟨r, τ, hc, ho⟩ := out_setPins (g := g) (l := l) h (lwV (v >>> ((9 : Int32) &&& 31)) 9 - 4) (lwV (v >>> ((13 : Int32) &&& 31)) 9 - 4)
  refine ⟨r, τ, ?_, Out_up ho (by omega)⟩
  refine cn_of (cc := cL_act) (nL := 4) (ret := (some .int)) (own := RL) (by decide +kernel) rfl rfl (Nat.le_of_ble_eq_true rfl) (fun K hg hl hK hE => ?_)
  subst hg; subst hl
  show AW K 0 [some (.ref 600), some (.int v), none, none] [] σ
  refine s_iload1 hK dL_act_0 ?_
  refine s_iconst (v := 4) hK dL_act_1 (by decide) ?_
  refine s_ishr hK dL_act_2 ?_
  refine s_bipush (v := 16) hK dL_act_3 (by decide) ?_
  refine s_callS hK mdL_low (zL_low _ _ (by decide)) gL_act_L_low rfl ⟨Nat.le_of_ble_eq_true rfl, Nat.le_of_ble_eq_true rfl⟩ rfl (Nat.le_of_ble_eq_true rfl) dL_act_5 ?_
  try dsimp only [Option.toList, List.cons_append, List.nil_append]
  refine s_istore2 hK dL_act_8 ?_
  refine s_iload1 hK dL_act_9 ?_
  refine s_bipush (v := 8) hK dL_act_10 (by decide) ?_
  refine s_ishr hK dL_act_12 ?_
  refine s_bipush (v := 12) hK dL_act_13 (by decide) ?_
  refine s_callS hK mdL_low (zL_low _ _ (by decide)) gL_act_L_low rfl ⟨Nat.le_of_ble_eq_true rfl, Nat.le_of_ble_eq_true rfl⟩ rfl (Nat.le_of_ble_eq_true rfl) dL_act_15 ?_
  try dsimp only [Option.toList, List.cons_append, List.nil_append]
  refine s_istore3 hK dL_act_18 ?_
  refine s_iload1 hK dL_act_19 ?_
  refine s_bipush (v := 15) hK dL_act_20 (by decide) ?_
  refine s_iand hK dL_act_22 ?_
  rw [hj]
  refine s_tableIn (tgt := 169) hK dL_act_23 (by decide) (by decide) (off := 146) (by decide) (by decide) ?_
  refine s_aload0 hK dL_act_169 ?_
  refine s_iload1 hK dL_act_170 ?_
  refine s_bipush (v := 9) hK dL_act_171 (by decide) ?_
  refine s_ishr hK dL_act_173 ?_
  refine s_bipush (v := 9) hK dL_act_174 (by decide) ?_
  refine s_callS hK mdL_low (zL_low _ _ (by decide)) gL_act_L_low rfl ⟨Nat.le_of_ble_eq_true rfl, Nat.le_of_ble_eq_true rfl⟩ rfl (Nat.le_of_ble_eq_true rfl) dL_act_176 ?_
  try dsimp only [Option.toList, List.cons_append, List.nil_append]
  refine s_iconst (v := 4) hK dL_act_179 (by decide) ?_
  refine s_isub hK dL_act_180 ?_
  refine s_iload1 hK dL_act_181 ?_
  refine s_bipush (v := 13) hK dL_act_182 (by decide) ?_
  refine s_ishr hK dL_act_184 ?_
  refine s_bipush (v := 9) hK dL_act_185 (by decide) ?_
  refine s_callS hK mdL_low (zL_low _ _ (by decide)) gL_act_L_low rfl ⟨Nat.le_of_ble_eq_true rfl, Nat.le_of_ble_eq_true rfl⟩ rfl (Nat.le_of_ble_eq_true rfl) dL_act_187 ?_
  try dsimp only [Option.toList, List.cons_append, List.nil_append]
  refine s_iconst (v := 4) hK dL_act_190 (by decide) ?_
  refine s_isub hK dL_act_191 ?_
  refine s_callV (ci := 6) hK mdX6_setPins (hc) gL_act_X6_setPins rfl rfl rfl (by decide) rfl ⟨Nat.le_of_ble_eq_true rfl, Nat.le_of_ble_eq_true rfl⟩ rfl (Nat.le_of_ble_eq_true rfl) dL_act_192 ?_
  try dsimp only [Option.toList, List.cons_append, List.nil_append]
  exact s_iret hK hE dL_act_195 rfl (rfl) (rfl)
set_option maxHeartbeats 4000000 in
set_option maxRecDepth 100000 in
theorem zL_act_9 {g : aG} {l : Launch} {σ : aS} {P nx sz : Nat} (h : IV P nx sz σ) (hP : P + 3 ≤ 5000) (v : Int32) (hj : v &&& 15 = 9) : ∃ (r : Int32) (τ : aS), CN g l yL_act wsL_act 7 156 [.ref 600, .int v] σ (some (.int r)) τ ∧ Out (P + 3) nx sz σ r τ := by
  obtain ⟨r, τ, hc, ho⟩ := out_set (g := g) (l := l) h 0 (lwV (v >>> ((9 : Int32) &&& 31)) 101)
  refine ⟨r, τ, ?_, Out_up ho (by omega)⟩
  refine cn_of (cc := cL_act) (nL := 4) (ret := (some .int)) (own := RL) (by decide +kernel) rfl rfl (Nat.le_of_ble_eq_true rfl) (fun K hg hl hK hE => ?_)
  subst hg; subst hl
  show AW K 0 [some (.ref 600), some (.int v), none, none] [] σ
  refine s_iload1 hK dL_act_0 ?_
  refine s_iconst (v := 4) hK dL_act_1 (by decide) ?_
  refine s_ishr hK dL_act_2 ?_
  refine s_bipush (v := 16) hK dL_act_3 (by decide) ?_
  refine s_callS hK mdL_low (zL_low _ _ (by decide)) gL_act_L_low rfl ⟨Nat.le_of_ble_eq_true rfl, Nat.le_of_ble_eq_true rfl⟩ rfl (Nat.le_of_ble_eq_true rfl) dL_act_5 ?_
  try dsimp only [Option.toList, List.cons_append, List.nil_append]
  refine s_istore2 hK dL_act_8 ?_
  refine s_iload1 hK dL_act_9 ?_
  refine s_bipush (v := 8) hK dL_act_10 (by decide) ?_
  refine s_ishr hK dL_act_12 ?_
  refine s_bipush (v := 12) hK dL_act_13 (by decide) ?_
  refine s_callS hK mdL_low (zL_low _ _ (by decide)) gL_act_L_low rfl ⟨Nat.le_of_ble_eq_true rfl, Nat.le_of_ble_eq_true rfl⟩ rfl (Nat.le_of_ble_eq_true rfl) dL_act_15 ?_
  try dsimp only [Option.toList, List.cons_append, List.nil_append]
  refine s_istore3 hK dL_act_18 ?_
  refine s_iload1 hK dL_act_19 ?_
  refine s_bipush (v := 15) hK dL_act_20 (by decide) ?_
  refine s_iand hK dL_act_22 ?_
  rw [hj]
  refine s_tableIn (tgt := 196) hK dL_act_23 (by decide) (by decide) (off := 173) (by decide) (by decide) ?_
  refine s_aload0 hK dL_act_196 ?_
  refine s_iconst (v := 0) hK dL_act_197 (by decide) ?_
  refine s_iload1 hK dL_act_198 ?_
  refine s_bipush (v := 9) hK dL_act_199 (by decide) ?_
  refine s_ishr hK dL_act_201 ?_
  refine s_bipush (v := 101) hK dL_act_202 (by decide) ?_
  refine s_callS hK mdL_low (zL_low _ _ (by decide)) gL_act_L_low rfl ⟨Nat.le_of_ble_eq_true rfl, Nat.le_of_ble_eq_true rfl⟩ rfl (Nat.le_of_ble_eq_true rfl) dL_act_204 ?_
  try dsimp only [Option.toList, List.cons_append, List.nil_append]
  refine s_callV (ci := 6) hK mdX6_set (hc) gL_act_X6_set rfl rfl rfl (by decide) rfl ⟨Nat.le_of_ble_eq_true rfl, Nat.le_of_ble_eq_true rfl⟩ rfl (Nat.le_of_ble_eq_true rfl) dL_act_207 ?_
  try dsimp only [Option.toList, List.cons_append, List.nil_append]
  exact s_iret hK hE dL_act_210 rfl (rfl) (rfl)
set_option maxHeartbeats 4000000 in
set_option maxRecDepth 100000 in
theorem zL_act_10 {g : aG} {l : Launch} {σ : aS} {P nx sz : Nat} (h : IV P nx sz σ) (hP : P + 3 ≤ 5000) (v : Int32) (hj : v &&& 15 = 10) : ∃ (r : Int32) (τ : aS), CN g l yL_act wsL_act 7 156 [.ref 600, .int v] σ (some (.int r)) τ ∧ Out (P + 3) nx sz σ r τ := by
  obtain ⟨r, τ, hc, ho⟩ := out_set (g := g) (l := l) h (1 + ((v >>> ((12 : Int32) &&& 31)) &&& 1)) (lwV (v >>> ((13 : Int32) &&& 31)) 9 - 4)
  refine ⟨r, τ, ?_, Out_up ho (by omega)⟩
  refine cn_of (cc := cL_act) (nL := 4) (ret := (some .int)) (own := RL) (by decide +kernel) rfl rfl (Nat.le_of_ble_eq_true rfl) (fun K hg hl hK hE => ?_)
  subst hg; subst hl
  show AW K 0 [some (.ref 600), some (.int v), none, none] [] σ
  refine s_iload1 hK dL_act_0 ?_
  refine s_iconst (v := 4) hK dL_act_1 (by decide) ?_
  refine s_ishr hK dL_act_2 ?_
  refine s_bipush (v := 16) hK dL_act_3 (by decide) ?_
  refine s_callS hK mdL_low (zL_low _ _ (by decide)) gL_act_L_low rfl ⟨Nat.le_of_ble_eq_true rfl, Nat.le_of_ble_eq_true rfl⟩ rfl (Nat.le_of_ble_eq_true rfl) dL_act_5 ?_
  try dsimp only [Option.toList, List.cons_append, List.nil_append]
  refine s_istore2 hK dL_act_8 ?_
  refine s_iload1 hK dL_act_9 ?_
  refine s_bipush (v := 8) hK dL_act_10 (by decide) ?_
  refine s_ishr hK dL_act_12 ?_
  refine s_bipush (v := 12) hK dL_act_13 (by decide) ?_
  refine s_callS hK mdL_low (zL_low _ _ (by decide)) gL_act_L_low rfl ⟨Nat.le_of_ble_eq_true rfl, Nat.le_of_ble_eq_true rfl⟩ rfl (Nat.le_of_ble_eq_true rfl) dL_act_15 ?_
  try dsimp only [Option.toList, List.cons_append, List.nil_append]
  refine s_istore3 hK dL_act_18 ?_
  refine s_iload1 hK dL_act_19 ?_
  refine s_bipush (v := 15) hK dL_act_20 (by decide) ?_
  refine s_iand hK dL_act_22 ?_
  rw [hj]
  refine s_tableIn (tgt := 211) hK dL_act_23 (by decide) (by decide) (off := 188) (by decide) (by decide) ?_
  refine s_aload0 hK dL_act_211 ?_
  refine s_iconst (v := 1) hK dL_act_212 (by decide) ?_
  refine s_iload1 hK dL_act_213 ?_
  refine s_bipush (v := 12) hK dL_act_214 (by decide) ?_
  refine s_ishr hK dL_act_216 ?_
  refine s_iconst (v := 1) hK dL_act_217 (by decide) ?_
  refine s_iand hK dL_act_218 ?_
  refine s_iadd hK dL_act_219 ?_
  refine s_iload1 hK dL_act_220 ?_
  refine s_bipush (v := 13) hK dL_act_221 (by decide) ?_
  refine s_ishr hK dL_act_223 ?_
  refine s_bipush (v := 9) hK dL_act_224 (by decide) ?_
  refine s_callS hK mdL_low (zL_low _ _ (by decide)) gL_act_L_low rfl ⟨Nat.le_of_ble_eq_true rfl, Nat.le_of_ble_eq_true rfl⟩ rfl (Nat.le_of_ble_eq_true rfl) dL_act_226 ?_
  try dsimp only [Option.toList, List.cons_append, List.nil_append]
  refine s_iconst (v := 4) hK dL_act_229 (by decide) ?_
  refine s_isub hK dL_act_230 ?_
  refine s_callV (ci := 6) hK mdX6_set (hc) gL_act_X6_set rfl rfl rfl (by decide) rfl ⟨Nat.le_of_ble_eq_true rfl, Nat.le_of_ble_eq_true rfl⟩ rfl (Nat.le_of_ble_eq_true rfl) dL_act_231 ?_
  try dsimp only [Option.toList, List.cons_append, List.nil_append]
  exact s_iret hK hE dL_act_234 rfl (rfl) (rfl)
set_option maxHeartbeats 4000000 in
set_option maxRecDepth 100000 in
theorem zL_act_11 {g : aG} {l : Launch} {σ : aS} {P nx sz : Nat} (h : IV P nx sz σ) (hP : P + 3 ≤ 5000) (v : Int32) (hj : v &&& 15 = 11) : ∃ (r : Int32) (τ : aS), CN g l yL_act wsL_act 7 156 [.ref 600, .int v] σ (some (.int r)) τ ∧ Out (P + 3) nx sz σ r τ := by
  obtain ⟨r, τ, hc, ho⟩ := out_set (g := g) (l := l) h 3 (1 + lwV (v >>> ((9 : Int32) &&& 31)) 9)
  refine ⟨r, τ, ?_, Out_up ho (by omega)⟩
  refine cn_of (cc := cL_act) (nL := 4) (ret := (some .int)) (own := RL) (by decide +kernel) rfl rfl (Nat.le_of_ble_eq_true rfl) (fun K hg hl hK hE => ?_)
  subst hg; subst hl
  show AW K 0 [some (.ref 600), some (.int v), none, none] [] σ
  refine s_iload1 hK dL_act_0 ?_
  refine s_iconst (v := 4) hK dL_act_1 (by decide) ?_
  refine s_ishr hK dL_act_2 ?_
  refine s_bipush (v := 16) hK dL_act_3 (by decide) ?_
  refine s_callS hK mdL_low (zL_low _ _ (by decide)) gL_act_L_low rfl ⟨Nat.le_of_ble_eq_true rfl, Nat.le_of_ble_eq_true rfl⟩ rfl (Nat.le_of_ble_eq_true rfl) dL_act_5 ?_
  try dsimp only [Option.toList, List.cons_append, List.nil_append]
  refine s_istore2 hK dL_act_8 ?_
  refine s_iload1 hK dL_act_9 ?_
  refine s_bipush (v := 8) hK dL_act_10 (by decide) ?_
  refine s_ishr hK dL_act_12 ?_
  refine s_bipush (v := 12) hK dL_act_13 (by decide) ?_
  refine s_callS hK mdL_low (zL_low _ _ (by decide)) gL_act_L_low rfl ⟨Nat.le_of_ble_eq_true rfl, Nat.le_of_ble_eq_true rfl⟩ rfl (Nat.le_of_ble_eq_true rfl) dL_act_15 ?_
  try dsimp only [Option.toList, List.cons_append, List.nil_append]
  refine s_istore3 hK dL_act_18 ?_
  refine s_iload1 hK dL_act_19 ?_
  refine s_bipush (v := 15) hK dL_act_20 (by decide) ?_
  refine s_iand hK dL_act_22 ?_
  rw [hj]
  refine s_tableIn (tgt := 235) hK dL_act_23 (by decide) (by decide) (off := 212) (by decide) (by decide) ?_
  refine s_aload0 hK dL_act_235 ?_
  refine s_iconst (v := 3) hK dL_act_236 (by decide) ?_
  refine s_iconst (v := 1) hK dL_act_237 (by decide) ?_
  refine s_iload1 hK dL_act_238 ?_
  refine s_bipush (v := 9) hK dL_act_239 (by decide) ?_
  refine s_ishr hK dL_act_241 ?_
  refine s_bipush (v := 9) hK dL_act_242 (by decide) ?_
  refine s_callS hK mdL_low (zL_low _ _ (by decide)) gL_act_L_low rfl ⟨Nat.le_of_ble_eq_true rfl, Nat.le_of_ble_eq_true rfl⟩ rfl (Nat.le_of_ble_eq_true rfl) dL_act_244 ?_
  try dsimp only [Option.toList, List.cons_append, List.nil_append]
  refine s_iadd hK dL_act_247 ?_
  refine s_callV (ci := 6) hK mdX6_set (hc) gL_act_X6_set rfl rfl rfl (by decide) rfl ⟨Nat.le_of_ble_eq_true rfl, Nat.le_of_ble_eq_true rfl⟩ rfl (Nat.le_of_ble_eq_true rfl) dL_act_248 ?_
  try dsimp only [Option.toList, List.cons_append, List.nil_append]
  exact s_iret hK hE dL_act_251 rfl (rfl) (rfl)
set_option maxHeartbeats 4000000 in
set_option maxRecDepth 100000 in
theorem zL_act_12 {g : aG} {l : Launch} {σ : aS} {P nx sz : Nat} (h : IV P nx sz σ) (hP : P + 3 ≤ 5000) (v : Int32) (hj : v &&& 15 = 12) : ∃ (r : Int32) (τ : aS), CN g l yL_act wsL_act 7 156 [.ref 600, .int v] σ (some (.int r)) τ ∧ Out (P + 3) nx sz σ r τ := by
  obtain ⟨r, τ, hc, ho⟩ := out_take (g := g) (l := l) h ((v >>> ((9 : Int32) &&& 31)) &&& 1)
  refine ⟨r, τ, ?_, Out_up ho (by omega)⟩
  refine cn_of (cc := cL_act) (nL := 4) (ret := (some .int)) (own := RL) (by decide +kernel) rfl rfl (Nat.le_of_ble_eq_true rfl) (fun K hg hl hK hE => ?_)
  subst hg; subst hl
  show AW K 0 [some (.ref 600), some (.int v), none, none] [] σ
  refine s_iload1 hK dL_act_0 ?_
  refine s_iconst (v := 4) hK dL_act_1 (by decide) ?_
  refine s_ishr hK dL_act_2 ?_
  refine s_bipush (v := 16) hK dL_act_3 (by decide) ?_
  refine s_callS hK mdL_low (zL_low _ _ (by decide)) gL_act_L_low rfl ⟨Nat.le_of_ble_eq_true rfl, Nat.le_of_ble_eq_true rfl⟩ rfl (Nat.le_of_ble_eq_true rfl) dL_act_5 ?_
  try dsimp only [Option.toList, List.cons_append, List.nil_append]
  refine s_istore2 hK dL_act_8 ?_
  refine s_iload1 hK dL_act_9 ?_
  refine s_bipush (v := 8) hK dL_act_10 (by decide) ?_
  refine s_ishr hK dL_act_12 ?_
  refine s_bipush (v := 12) hK dL_act_13 (by decide) ?_
  refine s_callS hK mdL_low (zL_low _ _ (by decide)) gL_act_L_low rfl ⟨Nat.le_of_ble_eq_true rfl, Nat.le_of_ble_eq_true rfl⟩ rfl (Nat.le_of_ble_eq_true rfl) dL_act_15 ?_
  try dsimp only [Option.toList, List.cons_append, List.nil_append]
  refine s_istore3 hK dL_act_18 ?_
  refine s_iload1 hK dL_act_19 ?_
  refine s_bipush (v := 15) hK dL_act_20 (by decide) ?_
  refine s_iand hK dL_act_22 ?_
  rw [hj]
  refine s_tableIn (tgt := 252) hK dL_act_23 (by decide) (by decide) (off := 229) (by decide) (by decide) ?_
  refine s_aload0 hK dL_act_252 ?_
  refine s_iload1 hK dL_act_253 ?_
  refine s_bipush (v := 9) hK dL_act_254 (by decide) ?_
  refine s_ishr hK dL_act_256 ?_
  refine s_iconst (v := 1) hK dL_act_257 (by decide) ?_
  refine s_iand hK dL_act_258 ?_
  refine s_callV (ci := 6) hK mdX6_take (hc) gL_act_X6_take rfl rfl rfl (by decide) rfl ⟨Nat.le_of_ble_eq_true rfl, Nat.le_of_ble_eq_true rfl⟩ rfl (Nat.le_of_ble_eq_true rfl) dL_act_259 ?_
  try dsimp only [Option.toList, List.cons_append, List.nil_append]
  exact s_iret hK hE dL_act_262 rfl (rfl) (rfl)
set_option maxHeartbeats 4000000 in
set_option maxRecDepth 100000 in
theorem zL_act_13 {g : aG} {l : Launch} {σ : aS} {P nx sz : Nat} (h : IV P nx sz σ) (hP : P + 3 ≤ 5000) (v : Int32) (hj : v &&& 15 = 13) : ∃ (r : Int32) (τ : aS), CN g l yL_act wsL_act 7 156 [.ref 600, .int v] σ (some (.int r)) τ ∧ Out (P + 3) nx sz σ r τ := by
  obtain ⟨r, τ, hc, ho⟩ := out_restore (g := g) (l := l) h ((v >>> ((9 : Int32) &&& 31)) &&& 1)
  refine ⟨r, τ, ?_, Out_up ho (by omega)⟩
  refine cn_of (cc := cL_act) (nL := 4) (ret := (some .int)) (own := RL) (by decide +kernel) rfl rfl (Nat.le_of_ble_eq_true rfl) (fun K hg hl hK hE => ?_)
  subst hg; subst hl
  show AW K 0 [some (.ref 600), some (.int v), none, none] [] σ
  refine s_iload1 hK dL_act_0 ?_
  refine s_iconst (v := 4) hK dL_act_1 (by decide) ?_
  refine s_ishr hK dL_act_2 ?_
  refine s_bipush (v := 16) hK dL_act_3 (by decide) ?_
  refine s_callS hK mdL_low (zL_low _ _ (by decide)) gL_act_L_low rfl ⟨Nat.le_of_ble_eq_true rfl, Nat.le_of_ble_eq_true rfl⟩ rfl (Nat.le_of_ble_eq_true rfl) dL_act_5 ?_
  try dsimp only [Option.toList, List.cons_append, List.nil_append]
  refine s_istore2 hK dL_act_8 ?_
  refine s_iload1 hK dL_act_9 ?_
  refine s_bipush (v := 8) hK dL_act_10 (by decide) ?_
  refine s_ishr hK dL_act_12 ?_
  refine s_bipush (v := 12) hK dL_act_13 (by decide) ?_
  refine s_callS hK mdL_low (zL_low _ _ (by decide)) gL_act_L_low rfl ⟨Nat.le_of_ble_eq_true rfl, Nat.le_of_ble_eq_true rfl⟩ rfl (Nat.le_of_ble_eq_true rfl) dL_act_15 ?_
  try dsimp only [Option.toList, List.cons_append, List.nil_append]
  refine s_istore3 hK dL_act_18 ?_
  refine s_iload1 hK dL_act_19 ?_
  refine s_bipush (v := 15) hK dL_act_20 (by decide) ?_
  refine s_iand hK dL_act_22 ?_
  rw [hj]
  refine s_tableIn (tgt := 263) hK dL_act_23 (by decide) (by decide) (off := 240) (by decide) (by decide) ?_
  refine s_aload0 hK dL_act_263 ?_
  refine s_iload1 hK dL_act_264 ?_
  refine s_bipush (v := 9) hK dL_act_265 (by decide) ?_
  refine s_ishr hK dL_act_267 ?_
  refine s_iconst (v := 1) hK dL_act_268 (by decide) ?_
  refine s_iand hK dL_act_269 ?_
  refine s_callV (ci := 6) hK mdX6_restore (hc) gL_act_X6_restore rfl rfl rfl (by decide) rfl ⟨Nat.le_of_ble_eq_true rfl, Nat.le_of_ble_eq_true rfl⟩ rfl (Nat.le_of_ble_eq_true rfl) dL_act_270 ?_
  try dsimp only [Option.toList, List.cons_append, List.nil_append]
  exact s_iret hK hE dL_act_273 rfl (rfl) (rfl)
set_option maxHeartbeats 4000000 in
set_option maxRecDepth 100000 in
theorem zL_act_14 {g : aG} {l : Launch} {σ : aS} {P nx sz : Nat} (h : IV P nx sz σ) (hP : P + 3 ≤ 5000) (v : Int32) (hj : v &&& 15 = 14) : ∃ (r : Int32) (τ : aS), CN g l yL_act wsL_act 7 156 [.ref 600, .int v] σ (some (.int r)) τ ∧ Out (P + 3) nx sz σ r τ := by
  obtain ⟨r, τ, hc, ho⟩ := out_plug (g := g) (l := l) h (lwV (v >>> ((4 : Int32) &&& 31)) 16) (lwV (v >>> ((8 : Int32) &&& 31)) 12)
  refine ⟨r, τ, ?_, Out_up ho (by omega)⟩
  refine cn_of (cc := cL_act) (nL := 4) (ret := (some .int)) (own := RL) (by decide +kernel) rfl rfl (Nat.le_of_ble_eq_true rfl) (fun K hg hl hK hE => ?_)
  subst hg; subst hl
  show AW K 0 [some (.ref 600), some (.int v), none, none] [] σ
  refine s_iload1 hK dL_act_0 ?_
  refine s_iconst (v := 4) hK dL_act_1 (by decide) ?_
  refine s_ishr hK dL_act_2 ?_
  refine s_bipush (v := 16) hK dL_act_3 (by decide) ?_
  refine s_callS hK mdL_low (zL_low _ _ (by decide)) gL_act_L_low rfl ⟨Nat.le_of_ble_eq_true rfl, Nat.le_of_ble_eq_true rfl⟩ rfl (Nat.le_of_ble_eq_true rfl) dL_act_5 ?_
  try dsimp only [Option.toList, List.cons_append, List.nil_append]
  refine s_istore2 hK dL_act_8 ?_
  refine s_iload1 hK dL_act_9 ?_
  refine s_bipush (v := 8) hK dL_act_10 (by decide) ?_
  refine s_ishr hK dL_act_12 ?_
  refine s_bipush (v := 12) hK dL_act_13 (by decide) ?_
  refine s_callS hK mdL_low (zL_low _ _ (by decide)) gL_act_L_low rfl ⟨Nat.le_of_ble_eq_true rfl, Nat.le_of_ble_eq_true rfl⟩ rfl (Nat.le_of_ble_eq_true rfl) dL_act_15 ?_
  try dsimp only [Option.toList, List.cons_append, List.nil_append]
  refine s_istore3 hK dL_act_18 ?_
  refine s_iload1 hK dL_act_19 ?_
  refine s_bipush (v := 15) hK dL_act_20 (by decide) ?_
  refine s_iand hK dL_act_22 ?_
  rw [hj]
  refine s_tableIn (tgt := 274) hK dL_act_23 (by decide) (by decide) (off := 251) (by decide) (by decide) ?_
  refine s_aload0 hK dL_act_274 ?_
  refine s_iload2 hK dL_act_275 ?_
  refine s_iload3 hK dL_act_276 ?_
  refine s_callV (ci := 6) hK mdX6_plug (hc) gL_act_X6_plug rfl rfl rfl (by decide) rfl ⟨Nat.le_of_ble_eq_true rfl, Nat.le_of_ble_eq_true rfl⟩ rfl (Nat.le_of_ble_eq_true rfl) dL_act_277 ?_
  try dsimp only [Option.toList, List.cons_append, List.nil_append]
  exact s_iret hK hE dL_act_280 rfl (rfl) (rfl)
set_option maxHeartbeats 4000000 in
set_option maxRecDepth 100000 in
theorem zL_act_15 {g : aG} {l : Launch} {σ : aS} {P nx sz : Nat} (h : IV P nx sz σ) (hP : P + 3 ≤ 5000) (v : Int32) (hj : v &&& 15 = 15) : ∃ (r : Int32) (τ : aS), CN g l yL_act wsL_act 7 156 [.ref 600, .int v] σ (some (.int r)) τ ∧ Out (P + 3) nx sz σ r τ := by
  obtain ⟨m, hm, em⟩ := lw_nI (v >>> ((9 : Int32) &&& 31)) (n := 3) (by decide) (by decide)
  have ep : (1 : Int32) + lwV (v >>> ((9 : Int32) &&& 31)) 3 = nI (1 + m) := by
    rw [show lwV (v >>> ((9 : Int32) &&& 31)) 3 = nI m from em, show (1 : Int32) = nI 1 from rfl, nI_add]
  obtain ⟨r, τ, hc, ho⟩ := out_print (g := g) (l := l) h (m := 1 + m) (by omega) (by omega) (by omega)
  rw [← ep] at hc
  refine ⟨r, τ, ?_, Out_up ho (by omega)⟩
  refine cn_of (cc := cL_act) (nL := 4) (ret := (some .int)) (own := RL) (by decide +kernel) rfl rfl (Nat.le_of_ble_eq_true rfl) (fun K hg hl hK hE => ?_)
  subst hg; subst hl
  show AW K 0 [some (.ref 600), some (.int v), none, none] [] σ
  refine s_iload1 hK dL_act_0 ?_
  refine s_iconst (v := 4) hK dL_act_1 (by decide) ?_
  refine s_ishr hK dL_act_2 ?_
  refine s_bipush (v := 16) hK dL_act_3 (by decide) ?_
  refine s_callS hK mdL_low (zL_low _ _ (by decide)) gL_act_L_low rfl ⟨Nat.le_of_ble_eq_true rfl, Nat.le_of_ble_eq_true rfl⟩ rfl (Nat.le_of_ble_eq_true rfl) dL_act_5 ?_
  try dsimp only [Option.toList, List.cons_append, List.nil_append]
  refine s_istore2 hK dL_act_8 ?_
  refine s_iload1 hK dL_act_9 ?_
  refine s_bipush (v := 8) hK dL_act_10 (by decide) ?_
  refine s_ishr hK dL_act_12 ?_
  refine s_bipush (v := 12) hK dL_act_13 (by decide) ?_
  refine s_callS hK mdL_low (zL_low _ _ (by decide)) gL_act_L_low rfl ⟨Nat.le_of_ble_eq_true rfl, Nat.le_of_ble_eq_true rfl⟩ rfl (Nat.le_of_ble_eq_true rfl) dL_act_15 ?_
  try dsimp only [Option.toList, List.cons_append, List.nil_append]
  refine s_istore3 hK dL_act_18 ?_
  refine s_iload1 hK dL_act_19 ?_
  refine s_bipush (v := 15) hK dL_act_20 (by decide) ?_
  refine s_iand hK dL_act_22 ?_
  rw [hj]
  refine s_tableOut (tgt := 281) hK dL_act_23 (Or.inr (by decide)) (by decide) ?_
  refine s_aload0 hK dL_act_281 ?_
  refine s_iconst (v := 1) hK dL_act_282 (by decide) ?_
  refine s_iload1 hK dL_act_283 ?_
  refine s_bipush (v := 9) hK dL_act_284 (by decide) ?_
  refine s_ishr hK dL_act_286 ?_
  refine s_iconst (v := 3) hK dL_act_287 (by decide) ?_
  refine s_callS hK mdL_low (zL_low _ _ (by decide)) gL_act_L_low rfl ⟨Nat.le_of_ble_eq_true rfl, Nat.le_of_ble_eq_true rfl⟩ rfl (Nat.le_of_ble_eq_true rfl) dL_act_288 ?_
  try dsimp only [Option.toList, List.cons_append, List.nil_append]
  refine s_iadd hK dL_act_291 ?_
  refine s_callV (ci := 6) hK mdX6_print (hc) gL_act_X6_print rfl rfl rfl (by decide) rfl ⟨Nat.le_of_ble_eq_true rfl, Nat.le_of_ble_eq_true rfl⟩ rfl (Nat.le_of_ble_eq_true rfl) dL_act_292 ?_
  try dsimp only [Option.toList, List.cons_append, List.nil_append]
  exact s_iret hK hE dL_act_295 rfl (rfl) (rfl)
theorem zL_act {g : aG} {l : Launch} {σ : aS} {P nx sz : Nat} (h : IV P nx sz σ) (hP : P + 3 ≤ 5000) (v : Int32) : ∃ (r : Int32) (τ : aS), CN g l yL_act wsL_act 7 156 [.ref 600, .int v] σ (some (.int r)) τ ∧ Out (P + 3) nx sz σ r τ := by
  obtain ⟨j, hj, e⟩ := pk_andE v (m := 15) 4 (by decide)
  match j, hj, e with
  | 0, _, e => exact zL_act_0 h hP v e
  | 1, _, e => exact zL_act_1 h hP v e
  | 2, _, e => exact zL_act_2 h hP v e
  | 3, _, e => exact zL_act_3 h hP v e
  | 4, _, e => exact zL_act_4 h hP v e
  | 5, _, e => exact zL_act_5 h hP v e
  | 6, _, e => exact zL_act_6 h hP v e
  | 7, _, e => exact zL_act_7 h hP v e
  | 8, _, e => exact zL_act_8 h hP v e
  | 9, _, e => exact zL_act_9 h hP v e
  | 10, _, e => exact zL_act_10 h hP v e
  | 11, _, e => exact zL_act_11 h hP v e
  | 12, _, e => exact zL_act_12 h hP v e
  | 13, _, e => exact zL_act_13 h hP v e
  | 14, _, e => exact zL_act_14 h hP v e
  | 15, _, e => exact zL_act_15 h hP v e
  | j + 16, hj, _ => exact absurd hj (by omega)
