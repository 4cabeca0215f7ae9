/-! the law's areBest: the tolerance, the least trap and the best pins, each tried -/
def AB (g : aG) (l : Launch) (v : Int32) (σ τ : aS) : Prop := CN g l yL_areBest wsL_areBest 6 141 [.ref 600, .int v] σ (some (.int 1)) τ
/-- what is called ahead of the trap, and what it answers -/
def ABp (g : aG) (l : Launch) (v : Int32) (σ S S1 S2 S3 : aS) (A B X Y G H r : Int32) (sz w : Nat) : Prop :=
  (CN g l yX6_tolerance wsX6_tolerance 4 97 [.ref 600] σ (some (.int (tolV (hgB S 607 14)))) S ∧ (∀ (r : Nat) (b : Bool), r ≤ 4 → hgB S 607 14 r = b → CN g l yL_hasGaps wsL_hasGaps 5 117 [.ref 600, .int (nI r)] S (some (.int (b2 b))) S) ∧ (∀ a : Int32, wi a 0 2 = true → CN g l yX6_bestPins wsX6_bestPins 4 94 [.ref 600, .int a] S (some (.int (bpR S a))) S)) ∧
  (bpR S 0 - 4 = A ∧ bpR S 1 - 4 = B ∧ G + H = bpR S 2) ∧
  (CN g l yX6_setPins wsX6_setPins 5 111 [.ref 600, .int A, .int B] S (some (.int G)) S1 ∧ CN g l yX6_count wsX6_count 4 87 [.ref 600, .int 8] S1 (some (.int X)) S1 ∧ CN g l yX6_count wsX6_count 4 87 [.ref 600, .int 9] S1 (some (.int Y)) S1) ∧
  (CN g l yX6_faults wsX6_faults 4 94 [.ref 600, .int X, .int Y, .int 0] S1 (some (.int G)) S1 ∧ CN g l yX6_faults wsX6_faults 4 94 [.ref 600, .int X, .int Y, .int 1] S1 (some (.int H)) S1) ∧
  CN g l yX6_undo wsX6_undo 5 111 [.ref 600] S1 (some (.int (nI sz))) S2 ∧ CN g l yL_low wsL_low 0 0 [.int v, .int 4] S2 (some (.int (nI w))) S2 ∧ CN g l yX6_trapFor wsX6_trapFor 4 97 [.ref 600, .int (nI w)] S2 (some (.int r)) S3
set_option maxHeartbeats 4000000 in
set_option maxRecDepth 100000 in
theorem ab_pre {K : KT} {v A B X Y G H r : Int32} {σ S S1 S2 S3 : aS} {sz w : Nat} (hK : OKc K cL_areBest RL wsL_areBest 6 141) (hE : ABp (kG K) (kL K) v σ S S1 S2 S3 A B X Y G H r sz w) (kk : ∀ T : Int32, AW K 146 [some (.ref 600), some (.int v), some (.int T), some (.int (bpR S 2)), some (.int (nI sz)), some (.int (nI w)), none, none, none] [.int r] S3) : AW K 0 [some (.ref 600), some (.int v), none, none, none, none, none, none, none] [] σ := by
  obtain ⟨⟨tl, hg, bp⟩, ⟨b0, b1, hsum⟩, ⟨s1, k8, k9⟩, ⟨f0, f1⟩, u1, lw, t2⟩ := hE
  have h42 : ∀ T : Int32, AW K 42 [some (.ref 600), some (.int v), some (.int T), none, none, none, none, none, none] [] S := by
    intro T
    refine s_aload0 hK dL_areBest_42 ?_
    refine s_iconst (v := 2) hK dL_areBest_43 (by decide) ?_
    refine s_callV (ci := 6) hK mdX6_bestPins (bp 2 (by decide)) gL_areBest_X6_bestPins rfl rfl rfl (by decide) rfl ⟨Nat.le_of_ble_eq_true rfl, Nat.le_of_ble_eq_true rfl⟩ rfl (Nat.le_of_ble_eq_true rfl) dL_areBest_44 ?_
    try dsimp only [Option.toList, List.cons_append, List.nil_append]
    refine s_istore3 hK dL_areBest_47 ?_
    refine s_aload0 hK dL_areBest_48 ?_
    refine s_aload0 hK dL_areBest_49 ?_
    refine s_iconst (v := 0) hK dL_areBest_50 (by decide) ?_
    refine s_callV (ci := 6) hK mdX6_bestPins (bp 0 (by decide)) gL_areBest_X6_bestPins rfl rfl rfl (by decide) rfl ⟨Nat.le_of_ble_eq_true rfl, Nat.le_of_ble_eq_true rfl⟩ rfl (Nat.le_of_ble_eq_true rfl) dL_areBest_51 ?_
    try dsimp only [Option.toList, List.cons_append, List.nil_append]
    refine s_iconst (v := 4) hK dL_areBest_54 (by decide) ?_
    refine s_isub hK dL_areBest_55 ?_
    rw [b0]
    refine s_aload0 hK dL_areBest_56 ?_
    refine s_iconst (v := 1) hK dL_areBest_57 (by decide) ?_
    refine s_callV (ci := 6) hK mdX6_bestPins (bp 1 (by decide)) gL_areBest_X6_bestPins rfl rfl rfl (by decide) rfl ⟨Nat.le_of_ble_eq_true rfl, Nat.le_of_ble_eq_true rfl⟩ rfl (Nat.le_of_ble_eq_true rfl) dL_areBest_58 ?_
    try dsimp only [Option.toList, List.cons_append, List.nil_append]
    refine s_iconst (v := 4) hK dL_areBest_61 (by decide) ?_
    refine s_isub hK dL_areBest_62 ?_
    rw [b1]
    refine s_callV (ci := 6) hK mdX6_setPins (s1) gL_areBest_X6_setPins rfl rfl rfl (by decide) rfl ⟨Nat.le_of_ble_eq_true rfl, Nat.le_of_ble_eq_true rfl⟩ rfl (Nat.le_of_ble_eq_true rfl) dL_areBest_63 ?_
    try dsimp only [Option.toList, List.cons_append, List.nil_append]
    refine s_aload0 hK dL_areBest_66 ?_
    refine s_aload0 hK dL_areBest_67 ?_
    refine s_bipush (v := 8) hK dL_areBest_68 (by decide) ?_
    refine s_callV (ci := 6) hK mdX6_count (k8) gL_areBest_X6_count rfl rfl rfl (by decide) rfl ⟨Nat.le_of_ble_eq_true rfl, Nat.le_of_ble_eq_true rfl⟩ rfl (Nat.le_of_ble_eq_true rfl) dL_areBest_70 ?_
    try dsimp only [Option.toList, List.cons_append, List.nil_append]
    refine s_aload0 hK dL_areBest_73 ?_
    refine s_bipush (v := 9) hK dL_areBest_74 (by decide) ?_
    refine s_callV (ci := 6) hK mdX6_count (k9) gL_areBest_X6_count rfl rfl rfl (by decide) rfl ⟨Nat.le_of_ble_eq_true rfl, Nat.le_of_ble_eq_true rfl⟩ rfl (Nat.le_of_ble_eq_true rfl) dL_areBest_76 ?_
    try dsimp only [Option.toList, List.cons_append, List.nil_append]
    refine s_iconst (v := 0) hK dL_areBest_79 (by decide) ?_
    refine s_callV (ci := 6) hK mdX6_faults (f0) gL_areBest_X6_faults rfl rfl rfl (by decide) rfl ⟨Nat.le_of_ble_eq_true rfl, Nat.le_of_ble_eq_true rfl⟩ rfl (Nat.le_of_ble_eq_true rfl) dL_areBest_80 ?_
    try dsimp only [Option.toList, List.cons_append, List.nil_append]
    refine s_icmp_ne (tgt := 125) hK dL_areBest_83 (by decide) (fun c_83 => absurd c_83 (fun q => q rfl)) (fun c_83 => ?_)
    refine s_aload0 hK dL_areBest_86 ?_
    refine s_aload0 hK dL_areBest_87 ?_
    refine s_bipush (v := 8) hK dL_areBest_88 (by decide) ?_
    refine s_callV (ci := 6) hK mdX6_count (k8) gL_areBest_X6_count rfl rfl rfl (by decide) rfl ⟨Nat.le_of_ble_eq_true rfl, Nat.le_of_ble_eq_true rfl⟩ rfl (Nat.le_of_ble_eq_true rfl) dL_areBest_90 ?_
    try dsimp only [Option.toList, List.cons_append, List.nil_append]
    refine s_aload0 hK dL_areBest_93 ?_
    refine s_bipush (v := 9) hK dL_areBest_94 (by decide) ?_
    refine s_callV (ci := 6) hK mdX6_count (k9) gL_areBest_X6_count rfl rfl rfl (by decide) rfl ⟨Nat.le_of_ble_eq_true rfl, Nat.le_of_ble_eq_true rfl⟩ rfl (Nat.le_of_ble_eq_true rfl) dL_areBest_96 ?_
    try dsimp only [Option.toList, List.cons_append, List.nil_append]
    refine s_iconst (v := 0) hK dL_areBest_99 (by decide) ?_
    refine s_callV (ci := 6) hK mdX6_faults (f0) gL_areBest_X6_faults rfl rfl rfl (by decide) rfl ⟨Nat.le_of_ble_eq_true rfl, Nat.le_of_ble_eq_true rfl⟩ rfl (Nat.le_of_ble_eq_true rfl) dL_areBest_100 ?_
    try dsimp only [Option.toList, List.cons_append, List.nil_append]
    refine s_aload0 hK dL_areBest_103 ?_
    refine s_aload0 hK dL_areBest_104 ?_
    refine s_bipush (v := 8) hK dL_areBest_105 (by decide) ?_
    refine s_callV (ci := 6) hK mdX6_count (k8) gL_areBest_X6_count rfl rfl rfl (by decide) rfl ⟨Nat.le_of_ble_eq_true rfl, Nat.le_of_ble_eq_true rfl⟩ rfl (Nat.le_of_ble_eq_true rfl) dL_areBest_107 ?_
    try dsimp only [Option.toList, List.cons_append, List.nil_append]
    refine s_aload0 hK dL_areBest_110 ?_
    refine s_bipush (v := 9) hK dL_areBest_111 (by decide) ?_
    refine s_callV (ci := 6) hK mdX6_count (k9) gL_areBest_X6_count rfl rfl rfl (by decide) rfl ⟨Nat.le_of_ble_eq_true rfl, Nat.le_of_ble_eq_true rfl⟩ rfl (Nat.le_of_ble_eq_true rfl) dL_areBest_113 ?_
    try dsimp only [Option.toList, List.cons_append, List.nil_append]
    refine s_iconst (v := 1) hK dL_areBest_116 (by decide) ?_
    refine s_callV (ci := 6) hK mdX6_faults (f1) gL_areBest_X6_faults rfl rfl rfl (by decide) rfl ⟨Nat.le_of_ble_eq_true rfl, Nat.le_of_ble_eq_true rfl⟩ rfl (Nat.le_of_ble_eq_true rfl) dL_areBest_117 ?_
    try dsimp only [Option.toList, List.cons_append, List.nil_append]
    refine s_iadd hK dL_areBest_120 ?_
    refine s_iload3 hK dL_areBest_121 ?_
    refine s_icmp_eq (tgt := 127) hK dL_areBest_122 (by decide) (fun c_122 => ?_) (fun c_122 => absurd c_122 (fun q => q hsum))
    refine s_aload0 hK dL_areBest_127 ?_
    refine s_callV (ci := 6) hK mdX6_undo (u1) gL_areBest_X6_undo rfl rfl rfl (by decide) rfl ⟨Nat.le_of_ble_eq_true rfl, Nat.le_of_ble_eq_true rfl⟩ rfl (Nat.le_of_ble_eq_true rfl) dL_areBest_128 ?_
    try dsimp only [Option.toList, List.cons_append, List.nil_append]
    refine s_istore4 hK dL_areBest_131 ?_
    refine s_iload1 hK dL_areBest_133 ?_
    refine s_iconst (v := 4) hK dL_areBest_134 (by decide) ?_
    refine s_callS hK mdL_low (lw) gL_areBest_L_low rfl ⟨Nat.le_of_ble_eq_true rfl, Nat.le_of_ble_eq_true rfl⟩ rfl (Nat.le_of_ble_eq_true rfl) dL_areBest_135 ?_
    try dsimp only [Option.toList, List.cons_append, List.nil_append]
    refine s_istore5 hK dL_areBest_138 ?_
    refine s_aload0 hK dL_areBest_140 ?_
    refine s_iload5 hK dL_areBest_141 ?_
    refine s_callV (ci := 6) hK mdX6_trapFor (t2) gL_areBest_X6_trapFor rfl rfl rfl (by decide) rfl ⟨Nat.le_of_ble_eq_true rfl, Nat.le_of_ble_eq_true rfl⟩ rfl (Nat.le_of_ble_eq_true rfl) dL_areBest_143 ?_
    try dsimp only [Option.toList, List.cons_append, List.nil_append]
    exact kk T
  have T := tv_cases (hgB S 607 14 0) (hgB S 607 14 1) (hgB S 607 14 2) (hgB S 607 14 3) (hgB S 607 14 4)
  rw [← tolV_tv] at T
  rcases T with ⟨p, e⟩ | ⟨p, p2, e⟩ | ⟨p, p2, e⟩ | ⟨p, p2, e⟩ | ⟨p, p2, e⟩ | ⟨p, e⟩ <;> rw [e] at tl
  · refine s_aload0 hK dL_areBest_0 ?_
    refine s_callV (ci := 6) hK mdX6_tolerance (tl) gL_areBest_X6_tolerance rfl rfl rfl (by decide) rfl ⟨Nat.le_of_ble_eq_true rfl, Nat.le_of_ble_eq_true rfl⟩ rfl (Nat.le_of_ble_eq_true rfl) dL_areBest_1 ?_
    try dsimp only [Option.toList, List.cons_append, List.nil_append]
    refine s_istore2 hK dL_areBest_4 ?_
    refine s_iload2 hK dL_areBest_5 ?_
    refine s_if_lt (tgt := 17) hK dL_areBest_6 (by decide) (fun c_6 => ?_) (fun c_6 => absurd c_6 (fun q => q (by decide)))
    refine s_iload2 hK dL_areBest_17 ?_
    refine s_iconst (v := 4) hK dL_areBest_18 (by decide) ?_
    refine s_icmp_ge (tgt := 42) hK dL_areBest_19 (by decide) (fun c_19 => absurd c_19 (by decide)) (fun c_19 => ?_)
    refine s_aload0 hK dL_areBest_22 ?_
    refine s_iload2 hK dL_areBest_23 ?_
    refine s_if_ge (tgt := 31) hK dL_areBest_24 (by decide) (fun c_24 => absurd c_24 (by decide)) (fun c_24 => ?_)
    refine s_iconst (v := 0) hK dL_areBest_27 (by decide) ?_
    refine s_goto (tgt := 34) hK dL_areBest_28 (by decide) ?_
    refine s_callS hK mdL_hasGaps ((show CN _ _ _ _ 5 117 [.ref 600, .int 0] S (some (.int 1)) S from hg 0 true (by decide) p)) gL_areBest_L_hasGaps rfl ⟨Nat.le_of_ble_eq_true rfl, Nat.le_of_ble_eq_true rfl⟩ rfl (Nat.le_of_ble_eq_true rfl) dL_areBest_34 ?_
    try dsimp only [Option.toList, List.cons_append, List.nil_append]
    refine s_if_ne (tgt := 42) hK dL_areBest_37 (by decide) (fun c_37 => ?_) (fun c_37 => absurd c_37 (by decide))
    exact h42 _
  · refine s_aload0 hK dL_areBest_0 ?_
    refine s_callV (ci := 6) hK mdX6_tolerance (tl) gL_areBest_X6_tolerance rfl rfl rfl (by decide) rfl ⟨Nat.le_of_ble_eq_true rfl, Nat.le_of_ble_eq_true rfl⟩ rfl (Nat.le_of_ble_eq_true rfl) dL_areBest_1 ?_
    try dsimp only [Option.toList, List.cons_append, List.nil_append]
    refine s_istore2 hK dL_areBest_4 ?_
    refine s_iload2 hK dL_areBest_5 ?_
    refine s_if_lt (tgt := 17) hK dL_areBest_6 (by decide) (fun c_6 => absurd c_6 (by decide)) (fun c_6 => ?_)
    refine s_aload0 hK dL_areBest_9 ?_
    refine s_iload2 hK dL_areBest_10 ?_
    refine s_callS hK mdL_hasGaps ((show CN _ _ _ _ 5 117 [.ref 600, .int 0] S (some (.int 0)) S from hg 0 false (by decide) p)) gL_areBest_L_hasGaps rfl ⟨Nat.le_of_ble_eq_true rfl, Nat.le_of_ble_eq_true rfl⟩ rfl (Nat.le_of_ble_eq_true rfl) dL_areBest_11 ?_
    try dsimp only [Option.toList, List.cons_append, List.nil_append]
    refine s_if_ne (tgt := 40) hK dL_areBest_14 (by decide) (fun c_14 => absurd c_14 (fun q => q rfl)) (fun c_14 => ?_)
    refine s_iload2 hK dL_areBest_17 ?_
    refine s_iconst (v := 4) hK dL_areBest_18 (by decide) ?_
    refine s_icmp_ge (tgt := 42) hK dL_areBest_19 (by decide) (fun c_19 => absurd c_19 (by decide)) (fun c_19 => ?_)
    refine s_aload0 hK dL_areBest_22 ?_
    refine s_iload2 hK dL_areBest_23 ?_
    refine s_if_ge (tgt := 31) hK dL_areBest_24 (by decide) (fun c_24 => ?_) (fun c_24 => absurd c_24 (fun q => q (by decide)))
    refine s_iload2 hK dL_areBest_31 ?_
    refine s_iconst (v := 1) hK dL_areBest_32 (by decide) ?_
    refine s_iadd hK dL_areBest_33 ?_
    rw [show (0 : Int32) + 1 = 1 from by decide]
    refine s_callS hK mdL_hasGaps ((show CN _ _ _ _ 5 117 [.ref 600, .int 1] S (some (.int 1)) S from hg 1 true (by decide) p2)) gL_areBest_L_hasGaps rfl ⟨Nat.le_of_ble_eq_true rfl, Nat.le_of_ble_eq_true rfl⟩ rfl (Nat.le_of_ble_eq_true rfl) dL_areBest_34 ?_
    try dsimp only [Option.toList, List.cons_append, List.nil_append]
    refine s_if_ne (tgt := 42) hK dL_areBest_37 (by decide) (fun c_37 => ?_) (fun c_37 => absurd c_37 (by decide))
    exact h42 _
  · refine s_aload0 hK dL_areBest_0 ?_
    refine s_callV (ci := 6) hK mdX6_tolerance (tl) gL_areBest_X6_tolerance rfl rfl rfl (by decide) rfl ⟨Nat.le_of_ble_eq_true rfl, Nat.le_of_ble_eq_true rfl⟩ rfl (Nat.le_of_ble_eq_true rfl) dL_areBest_1 ?_
    try dsimp only [Option.toList, List.cons_append, List.nil_append]
    refine s_istore2 hK dL_areBest_4 ?_
    refine s_iload2 hK dL_areBest_5 ?_
    refine s_if_lt (tgt := 17) hK dL_areBest_6 (by decide) (fun c_6 => absurd c_6 (by decide)) (fun c_6 => ?_)
    refine s_aload0 hK dL_areBest_9 ?_
    refine s_iload2 hK dL_areBest_10 ?_
    refine s_callS hK mdL_hasGaps ((show CN _ _ _ _ 5 117 [.ref 600, .int 1] S (some (.int 0)) S from hg 1 false (by decide) p)) gL_areBest_L_hasGaps rfl ⟨Nat.le_of_ble_eq_true rfl, Nat.le_of_ble_eq_true rfl⟩ rfl (Nat.le_of_ble_eq_true rfl) dL_areBest_11 ?_
    try dsimp only [Option.toList, List.cons_append, List.nil_append]
    refine s_if_ne (tgt := 40) hK dL_areBest_14 (by decide) (fun c_14 => absurd c_14 (fun q => q rfl)) (fun c_14 => ?_)
    refine s_iload2 hK dL_areBest_17 ?_
    refine s_iconst (v := 4) hK dL_areBest_18 (by decide) ?_
    refine s_icmp_ge (tgt := 42) hK dL_areBest_19 (by decide) (fun c_19 => absurd c_19 (by decide)) (fun c_19 => ?_)
    refine s_aload0 hK dL_areBest_22 ?_
    refine s_iload2 hK dL_areBest_23 ?_
    refine s_if_ge (tgt := 31) hK dL_areBest_24 (by decide) (fun c_24 => ?_) (fun c_24 => absurd c_24 (fun q => q (by decide)))
    refine s_iload2 hK dL_areBest_31 ?_
    refine s_iconst (v := 1) hK dL_areBest_32 (by decide) ?_
    refine s_iadd hK dL_areBest_33 ?_
    rw [show (1 : Int32) + 1 = 2 from by decide]
    refine s_callS hK mdL_hasGaps ((show CN _ _ _ _ 5 117 [.ref 600, .int 2] S (some (.int 1)) S from hg 2 true (by decide) p2)) gL_areBest_L_hasGaps rfl ⟨Nat.le_of_ble_eq_true rfl, Nat.le_of_ble_eq_true rfl⟩ rfl (Nat.le_of_ble_eq_true rfl) dL_areBest_34 ?_
    try dsimp only [Option.toList, List.cons_append, List.nil_append]
    refine s_if_ne (tgt := 42) hK dL_areBest_37 (by decide) (fun c_37 => ?_) (fun c_37 => absurd c_37 (by decide))
    exact h42 _
  · refine s_aload0 hK dL_areBest_0 ?_
    refine s_callV (ci := 6) hK mdX6_tolerance (tl) gL_areBest_X6_tolerance rfl rfl rfl (by decide) rfl ⟨Nat.le_of_ble_eq_true rfl, Nat.le_of_ble_eq_true rfl⟩ rfl (Nat.le_of_ble_eq_true rfl) dL_areBest_1 ?_
    try dsimp only [Option.toList, List.cons_append, List.nil_append]
    refine s_istore2 hK dL_areBest_4 ?_
    refine s_iload2 hK dL_areBest_5 ?_
    refine s_if_lt (tgt := 17) hK dL_areBest_6 (by decide) (fun c_6 => absurd c_6 (by decide)) (fun c_6 => ?_)
    refine s_aload0 hK dL_areBest_9 ?_
    refine s_iload2 hK dL_areBest_10 ?_
    refine s_callS hK mdL_hasGaps ((show CN _ _ _ _ 5 117 [.ref 600, .int 2] S (some (.int 0)) S from hg 2 false (by decide) p)) gL_areBest_L_hasGaps rfl ⟨Nat.le_of_ble_eq_true rfl, Nat.le_of_ble_eq_true rfl⟩ rfl (Nat.le_of_ble_eq_true rfl) dL_areBest_11 ?_
    try dsimp only [Option.toList, List.cons_append, List.nil_append]
    refine s_if_ne (tgt := 40) hK dL_areBest_14 (by decide) (fun c_14 => absurd c_14 (fun q => q rfl)) (fun c_14 => ?_)
    refine s_iload2 hK dL_areBest_17 ?_
    refine s_iconst (v := 4) hK dL_areBest_18 (by decide) ?_
    refine s_icmp_ge (tgt := 42) hK dL_areBest_19 (by decide) (fun c_19 => absurd c_19 (by decide)) (fun c_19 => ?_)
    refine s_aload0 hK dL_areBest_22 ?_
    refine s_iload2 hK dL_areBest_23 ?_
    refine s_if_ge (tgt := 31) hK dL_areBest_24 (by decide) (fun c_24 => ?_) (fun c_24 => absurd c_24 (fun q => q (by decide)))
    refine s_iload2 hK dL_areBest_31 ?_
    refine s_iconst (v := 1) hK dL_areBest_32 (by decide) ?_
    refine s_iadd hK dL_areBest_33 ?_
    rw [show (2 : Int32) + 1 = 3 from by decide]
    refine s_callS hK mdL_hasGaps ((show CN _ _ _ _ 5 117 [.ref 600, .int 3] S (some (.int 1)) S from hg 3 true (by decide) p2)) gL_areBest_L_hasGaps rfl ⟨Nat.le_of_ble_eq_true rfl, Nat.le_of_ble_eq_true rfl⟩ rfl (Nat.le_of_ble_eq_true rfl) dL_areBest_34 ?_
    try dsimp only [Option.toList, List.cons_append, List.nil_append]
    refine s_if_ne (tgt := 42) hK dL_areBest_37 (by decide) (fun c_37 => ?_) (fun c_37 => absurd c_37 (by decide))
    exact h42 _
  · refine s_aload0 hK dL_areBest_0 ?_
    refine s_callV (ci := 6) hK mdX6_tolerance (tl) gL_areBest_X6_tolerance rfl rfl rfl (by decide) rfl ⟨Nat.le_of_ble_eq_true rfl, Nat.le_of_ble_eq_true rfl⟩ rfl (Nat.le_of_ble_eq_true rfl) dL_areBest_1 ?_
    try dsimp only [Option.toList, List.cons_append, List.nil_append]
    refine s_istore2 hK dL_areBest_4 ?_
    refine s_iload2 hK dL_areBest_5 ?_
    refine s_if_lt (tgt := 17) hK dL_areBest_6 (by decide) (fun c_6 => absurd c_6 (by decide)) (fun c_6 => ?_)
    refine s_aload0 hK dL_areBest_9 ?_
    refine s_iload2 hK dL_areBest_10 ?_
    refine s_callS hK mdL_hasGaps ((show CN _ _ _ _ 5 117 [.ref 600, .int 3] S (some (.int 0)) S from hg 3 false (by decide) p)) gL_areBest_L_hasGaps rfl ⟨Nat.le_of_ble_eq_true rfl, Nat.le_of_ble_eq_true rfl⟩ rfl (Nat.le_of_ble_eq_true rfl) dL_areBest_11 ?_
    try dsimp only [Option.toList, List.cons_append, List.nil_append]
    refine s_if_ne (tgt := 40) hK dL_areBest_14 (by decide) (fun c_14 => absurd c_14 (fun q => q rfl)) (fun c_14 => ?_)
    refine s_iload2 hK dL_areBest_17 ?_
    refine s_iconst (v := 4) hK dL_areBest_18 (by decide) ?_
    refine s_icmp_ge (tgt := 42) hK dL_areBest_19 (by decide) (fun c_19 => absurd c_19 (by decide)) (fun c_19 => ?_)
    refine s_aload0 hK dL_areBest_22 ?_
    refine s_iload2 hK dL_areBest_23 ?_
    refine s_if_ge (tgt := 31) hK dL_areBest_24 (by decide) (fun c_24 => ?_) (fun c_24 => absurd c_24 (fun q => q (by decide)))
    refine s_iload2 hK dL_areBest_31 ?_
    refine s_iconst (v := 1) hK dL_areBest_32 (by decide) ?_
    refine s_iadd hK dL_areBest_33 ?_
    rw [show (3 : Int32) + 1 = 4 from by decide]
    refine s_callS hK mdL_hasGaps ((show CN _ _ _ _ 5 117 [.ref 600, .int 4] S (some (.int 1)) S from hg 4 true (by decide) p2)) gL_areBest_L_hasGaps rfl ⟨Nat.le_of_ble_eq_true rfl, Nat.le_of_ble_eq_true rfl⟩ rfl (Nat.le_of_ble_eq_true rfl) dL_areBest_34 ?_
    try dsimp only [Option.toList, List.cons_append, List.nil_append]
    refine s_if_ne (tgt := 42) hK dL_areBest_37 (by decide) (fun c_37 => ?_) (fun c_37 => absurd c_37 (by decide))
    exact h42 _
  · refine s_aload0 hK dL_areBest_0 ?_
    refine s_callV (ci := 6) hK mdX6_tolerance (tl) gL_areBest_X6_tolerance rfl rfl rfl (by decide) rfl ⟨Nat.le_of_ble_eq_true rfl, Nat.le_of_ble_eq_true rfl⟩ rfl (Nat.le_of_ble_eq_true rfl) dL_areBest_1 ?_
    try dsimp only [Option.toList, List.cons_append, List.nil_append]
    refine s_istore2 hK dL_areBest_4 ?_
    refine s_iload2 hK dL_areBest_5 ?_
    refine s_if_lt (tgt := 17) hK dL_areBest_6 (by decide) (fun c_6 => absurd c_6 (by decide)) (fun c_6 => ?_)
    refine s_aload0 hK dL_areBest_9 ?_
    refine s_iload2 hK dL_areBest_10 ?_
    refine s_callS hK mdL_hasGaps ((show CN _ _ _ _ 5 117 [.ref 600, .int 4] S (some (.int 0)) S from hg 4 false (by decide) p)) gL_areBest_L_hasGaps rfl ⟨Nat.le_of_ble_eq_true rfl, Nat.le_of_ble_eq_true rfl⟩ rfl (Nat.le_of_ble_eq_true rfl) dL_areBest_11 ?_
    try dsimp only [Option.toList, List.cons_append, List.nil_append]
    refine s_if_ne (tgt := 40) hK dL_areBest_14 (by decide) (fun c_14 => absurd c_14 (fun q => q rfl)) (fun c_14 => ?_)
    refine s_iload2 hK dL_areBest_17 ?_
    refine s_iconst (v := 4) hK dL_areBest_18 (by decide) ?_
    refine s_icmp_ge (tgt := 42) hK dL_areBest_19 (by decide) (fun c_19 => ?_) (fun c_19 => absurd c_19 (fun q => q (by decide)))
    exact h42 _
set_option maxHeartbeats 4000000 in
set_option maxRecDepth 100000 in
theorem ab_0 {g : aG} {l : Launch} {v A B X Y G H U T1 : Int32} {σ S S1 S2 S3 C0 C F : aS} {sz w : Nat} (hp : ABp g l v σ S S1 S2 S3 A B X Y G H 0 sz w) (c1 : CN g l yX6_cut wsX6_cut 5 111 [.ref 600, .int 0] S3 (some (.int U)) C0) (c2 : CN g l yX6_tolerance wsX6_tolerance 4 97 [.ref 600] C0 (some (.int T1)) C) (htol : ¬ T1 < nI w) (u2 : CN g l yX6_undo wsX6_undo 5 111 [.ref 600] C (some (.int (nI sz))) F) : AB g l v σ F := by
  unfold AB
  refine cn_of (cc := cL_areBest) (nL := 9) (ret := (some .boolean)) (own := RL) (by decide +kernel) rfl rfl (Nat.le_of_ble_eq_true rfl) (fun K hg hl hK hE => ?_)
  subst hg; subst hl
  refine ab_pre hK hp (fun T => ?_)
  refine s_istore6 hK dL_areBest_146 ?_
  refine s_iload6 hK dL_areBest_148 ?_
  refine s_if_ge (tgt := 211) hK dL_areBest_150 (by decide) (fun c_150 => ?_) (fun c_150 => absurd c_150 (fun q => q (by decide)))
  refine s_aload0 hK dL_areBest_211 ?_
  refine s_iload6 hK dL_areBest_212 ?_
  refine s_callV (ci := 6) hK mdX6_cut (c1) gL_areBest_X6_cut rfl rfl rfl (by decide) rfl ⟨Nat.le_of_ble_eq_true rfl, Nat.le_of_ble_eq_true rfl⟩ rfl (Nat.le_of_ble_eq_true rfl) dL_areBest_214 ?_
  try dsimp only [Option.toList, List.cons_append, List.nil_append]
  refine s_istore7 hK dL_areBest_217 ?_
  refine s_aload0 hK dL_areBest_219 ?_
  refine s_callV (ci := 6) hK mdX6_tolerance (c2) gL_areBest_X6_tolerance rfl rfl rfl (by decide) rfl ⟨Nat.le_of_ble_eq_true rfl, Nat.le_of_ble_eq_true rfl⟩ rfl (Nat.le_of_ble_eq_true rfl) dL_areBest_220 ?_
  try dsimp only [Option.toList, List.cons_append, List.nil_append]
  refine s_iload5 hK dL_areBest_223 ?_
  refine s_icmp_lt (tgt := 232) hK dL_areBest_225 (by decide) (fun c_225 => absurd c_225 htol) (fun c_225 => ?_)
  refine s_iconst (v := 1) hK dL_areBest_228 (by decide) ?_
  refine s_goto (tgt := 233) hK dL_areBest_229 (by decide) ?_
  refine s_istore8 hK dL_areBest_233 ?_
  refine s_iload6 hK dL_areBest_235 ?_
  refine s_if_eq (tgt := 245) hK dL_areBest_237 (by decide) (fun c_237 => ?_) (fun c_237 => absurd c_237 (fun q => q rfl))
  refine s_iload8 hK dL_areBest_245 ?_
  refine s_if_eq (tgt := 263) hK dL_areBest_247 (by decide) (fun c_247 => absurd c_247 (by decide)) (fun c_247 => ?_)
  refine s_aload0 hK dL_areBest_250 ?_
  refine s_callV (ci := 6) hK mdX6_undo (u2) gL_areBest_X6_undo rfl rfl rfl (by decide) rfl ⟨Nat.le_of_ble_eq_true rfl, Nat.le_of_ble_eq_true rfl⟩ rfl (Nat.le_of_ble_eq_true rfl) dL_areBest_251 ?_
  try dsimp only [Option.toList, List.cons_append, List.nil_append]
  refine s_iload4 hK dL_areBest_254 ?_
  refine s_icmp_ne (tgt := 263) hK dL_areBest_256 (by decide) (fun c_256 => absurd c_256 (fun q => q rfl)) (fun c_256 => ?_)
  refine s_iconst (v := 1) hK dL_areBest_259 (by decide) ?_
  refine s_goto (tgt := 264) hK dL_areBest_260 (by decide) ?_
  exact s_iret hK hE dL_areBest_264 (by decide) (rfl) (rfl)
set_option maxHeartbeats 4000000 in
set_option maxRecDepth 100000 in
theorem ab_t {g : aG} {l : Launch} {v A B X Y G H U T1 : Int32} {σ S S1 S2 S3 C0 C Z : aS} {sz w : Nat} {t : Nat} (ht : t < 100) {U2 T2 : Int32} {E0 E F : aS} (hp : ABp g l v σ S S1 S2 S3 A B X Y G H (nI (t + 1)) sz w) (c1 : CN g l yX6_cut wsX6_cut 5 111 [.ref 600, .int (nI (t + 1))] S3 (some (.int U)) C0) (c2 : CN g l yX6_tolerance wsX6_tolerance 4 97 [.ref 600] C0 (some (.int T1)) C) (htol : ¬ T1 < nI w) (d1 : CN g l yX6_cut wsX6_cut 5 111 [.ref 600, .int (nI t)] C (some (.int U2)) E0) (d2 : CN g l yX6_tolerance wsX6_tolerance 4 97 [.ref 600] E0 (some (.int T2)) E) (hmono : ¬ U < U2) (htol2 : T2 < nI w) (u3 : CN g l yX6_undo wsX6_undo 5 111 [.ref 600] E (some (.int (nI (sz + 1)))) F) (u4 : CN g l yX6_undo wsX6_undo 5 111 [.ref 600] F (some (.int (nI sz))) Z) : AB g l v σ Z := by
  unfold AB
  refine cn_of (cc := cL_areBest) (nL := 9) (ret := (some .boolean)) (own := RL) (by decide +kernel) rfl rfl (Nat.le_of_ble_eq_true rfl) (fun K hg hl hK hE => ?_)
  subst hg; subst hl
  refine ab_pre hK hp (fun T => ?_)
  refine s_istore6 hK dL_areBest_146 ?_
  refine s_iload6 hK dL_areBest_148 ?_
  refine s_if_ge (tgt := 211) hK dL_areBest_150 (by decide) (fun c_150 => ?_) (fun c_150 => absurd c_150 (fun q => q (nI_pos' (by omega))))
  refine s_aload0 hK dL_areBest_211 ?_
  refine s_iload6 hK dL_areBest_212 ?_
  refine s_callV (ci := 6) hK mdX6_cut (c1) gL_areBest_X6_cut rfl rfl rfl (by decide) rfl ⟨Nat.le_of_ble_eq_true rfl, Nat.le_of_ble_eq_true rfl⟩ rfl (Nat.le_of_ble_eq_true rfl) dL_areBest_214 ?_
  try dsimp only [Option.toList, List.cons_append, List.nil_append]
  refine s_istore7 hK dL_areBest_217 ?_
  refine s_aload0 hK dL_areBest_219 ?_
  refine s_callV (ci := 6) hK mdX6_tolerance (c2) gL_areBest_X6_tolerance rfl rfl rfl (by decide) rfl ⟨Nat.le_of_ble_eq_true rfl, Nat.le_of_ble_eq_true rfl⟩ rfl (Nat.le_of_ble_eq_true rfl) dL_areBest_220 ?_
  try dsimp only [Option.toList, List.cons_append, List.nil_append]
  refine s_iload5 hK dL_areBest_223 ?_
  refine s_icmp_lt (tgt := 232) hK dL_areBest_225 (by decide) (fun c_225 => absurd c_225 htol) (fun c_225 => ?_)
  refine s_iconst (v := 1) hK dL_areBest_228 (by decide) ?_
  refine s_goto (tgt := 233) hK dL_areBest_229 (by decide) ?_
  refine s_istore8 hK dL_areBest_233 ?_
  refine s_iload6 hK dL_areBest_235 ?_
  refine s_if_eq (tgt := 245) hK dL_areBest_237 (by decide) (fun c_237 => absurd c_237 (nI_ne0 (by omega) (by omega))) (fun c_237 => ?_)
  refine s_iload8 hK dL_areBest_240 ?_
  refine s_if_ne (tgt := 265) hK dL_areBest_242 (by decide) (fun c_242 => ?_) (fun c_242 => absurd c_242 (by decide))
  refine s_aload0 hK dL_areBest_265 ?_
  refine s_iload6 hK dL_areBest_266 ?_
  refine s_iconst (v := 1) hK dL_areBest_268 (by decide) ?_
  refine s_isub hK dL_areBest_269 ?_
  rw [nI_pred]
  refine s_callV (ci := 6) hK mdX6_cut (d1) gL_areBest_X6_cut rfl rfl rfl (by decide) rfl ⟨Nat.le_of_ble_eq_true rfl, Nat.le_of_ble_eq_true rfl⟩ rfl (Nat.le_of_ble_eq_true rfl) dL_areBest_270 ?_
  try dsimp only [Option.toList, List.cons_append, List.nil_append]
  refine s_iload7 hK dL_areBest_273 ?_
  refine s_icmp_gt (tgt := 311) hK dL_areBest_275 (by decide) (fun c_275 => absurd c_275 hmono) (fun c_275 => ?_)
  refine s_aload0 hK dL_areBest_278 ?_
  refine s_callV (ci := 6) hK mdX6_tolerance (d2) gL_areBest_X6_tolerance rfl rfl rfl (by decide) rfl ⟨Nat.le_of_ble_eq_true rfl, Nat.le_of_ble_eq_true rfl⟩ rfl (Nat.le_of_ble_eq_true rfl) dL_areBest_279 ?_
  try dsimp only [Option.toList, List.cons_append, List.nil_append]
  refine s_iload5 hK dL_areBest_282 ?_
  refine s_icmp_ge (tgt := 311) hK dL_areBest_284 (by decide) (fun c_284 => absurd c_284 (Int32.not_le.mpr htol2)) (fun c_284 => ?_)
  refine s_aload0 hK dL_areBest_287 ?_
  refine s_callV (ci := 6) hK mdX6_undo (u3) gL_areBest_X6_undo rfl rfl rfl (by decide) rfl ⟨Nat.le_of_ble_eq_true rfl, Nat.le_of_ble_eq_true rfl⟩ rfl (Nat.le_of_ble_eq_true rfl) dL_areBest_288 ?_
  try dsimp only [Option.toList, List.cons_append, List.nil_append]
  refine s_iload4 hK dL_areBest_291 ?_
  refine s_iconst (v := 1) hK dL_areBest_293 (by decide) ?_
  refine s_iadd hK dL_areBest_294 ?_
  refine s_icmp_ne (tgt := 311) hK dL_areBest_295 (by decide) (fun c_295 => absurd c_295 (fun q => q (nI_1 _).symm)) (fun c_295 => ?_)
  refine s_aload0 hK dL_areBest_298 ?_
  refine s_callV (ci := 6) hK mdX6_undo (u4) gL_areBest_X6_undo rfl rfl rfl (by decide) rfl ⟨Nat.le_of_ble_eq_true rfl, Nat.le_of_ble_eq_true rfl⟩ rfl (Nat.le_of_ble_eq_true rfl) dL_areBest_299 ?_
  try dsimp only [Option.toList, List.cons_append, List.nil_append]
  refine s_iload4 hK dL_areBest_302 ?_
  refine s_icmp_ne (tgt := 311) hK dL_areBest_304 (by decide) (fun c_304 => absurd c_304 (fun q => q rfl)) (fun c_304 => ?_)
  refine s_iconst (v := 1) hK dL_areBest_307 (by decide) ?_
  refine s_goto (tgt := 312) hK dL_areBest_308 (by decide) ?_
  exact s_iret hK hE dL_areBest_312 (by decide) (rfl) (rfl)
set_option maxHeartbeats 4000000 in
set_option maxRecDepth 100000 in
theorem ab_n {g : aG} {l : Launch} {v A B X Y G H U T1 : Int32} {σ S S1 S2 S3 C0 C F : aS} {sz w : Nat} (hp : ABp g l v σ S S1 S2 S3 A B X Y G H (-1009) sz w) (c1 : CN g l yX6_cut wsX6_cut 5 111 [.ref 600, .int 4] S3 (some (.int U)) C0) (hU : ¬ U < 0) (c2 : CN g l yX6_tolerance wsX6_tolerance 4 97 [.ref 600] C0 (some (.int T1)) C) (htol : T1 < nI w) (k0 : CN g l yX6_faults wsX6_faults 4 94 [.ref 600, .int 0, .int 0, .int 0] C (some (.int 0)) C) (k1 : CN g l yX6_faults wsX6_faults 4 94 [.ref 600, .int 0, .int 0, .int 1] C (some (.int 0)) C) (k2 : CN g l yX6_faults wsX6_faults 4 94 [.ref 600, .int 0, .int 0, .int 2] C (some (.int 0)) C) (u2 : CN g l yX6_undo wsX6_undo 5 111 [.ref 600] C (some (.int (nI sz))) F) : AB g l v σ F := by
  unfold AB
  refine cn_of (cc := cL_areBest) (nL := 9) (ret := (some .boolean)) (own := RL) (by decide +kernel) rfl rfl (Nat.le_of_ble_eq_true rfl) (fun K hg hl hK hE => ?_)
  subst hg; subst hl
  refine ab_pre hK hp (fun T => ?_)
  refine s_istore6 hK dL_areBest_146 ?_
  refine s_iload6 hK dL_areBest_148 ?_
  refine s_if_ge (tgt := 211) hK dL_areBest_150 (by decide) (fun c_150 => absurd c_150 (by decide)) (fun c_150 => ?_)
  refine s_aload0 hK dL_areBest_153 ?_
  refine s_iconst (v := 4) hK dL_areBest_154 (by decide) ?_
  refine s_callV (ci := 6) hK mdX6_cut (c1) gL_areBest_X6_cut rfl rfl rfl (by decide) rfl ⟨Nat.le_of_ble_eq_true rfl, Nat.le_of_ble_eq_true rfl⟩ rfl (Nat.le_of_ble_eq_true rfl) dL_areBest_155 ?_
  try dsimp only [Option.toList, List.cons_append, List.nil_append]
  refine s_if_lt (tgt := 209) hK dL_areBest_158 (by decide) (fun c_158 => absurd c_158 hU) (fun c_158 => ?_)
  refine s_aload0 hK dL_areBest_161 ?_
  refine s_callV (ci := 6) hK mdX6_tolerance (c2) gL_areBest_X6_tolerance rfl rfl rfl (by decide) rfl ⟨Nat.le_of_ble_eq_true rfl, Nat.le_of_ble_eq_true rfl⟩ rfl (Nat.le_of_ble_eq_true rfl) dL_areBest_162 ?_
  try dsimp only [Option.toList, List.cons_append, List.nil_append]
  refine s_iload5 hK dL_areBest_165 ?_
  refine s_icmp_ge (tgt := 209) hK dL_areBest_167 (by decide) (fun c_167 => absurd c_167 (Int32.not_le.mpr htol)) (fun c_167 => ?_)
  refine s_aload0 hK dL_areBest_170 ?_
  refine s_iconst (v := 0) hK dL_areBest_171 (by decide) ?_
  refine s_iconst (v := 0) hK dL_areBest_172 (by decide) ?_
  refine s_iconst (v := 0) hK dL_areBest_173 (by decide) ?_
  refine s_callV (ci := 6) hK mdX6_faults (k0) gL_areBest_X6_faults rfl rfl rfl (by decide) rfl ⟨Nat.le_of_ble_eq_true rfl, Nat.le_of_ble_eq_true rfl⟩ rfl (Nat.le_of_ble_eq_true rfl) dL_areBest_174 ?_
  try dsimp only [Option.toList, List.cons_append, List.nil_append]
  refine s_aload0 hK dL_areBest_177 ?_
  refine s_iconst (v := 0) hK dL_areBest_178 (by decide) ?_
  refine s_iconst (v := 0) hK dL_areBest_179 (by decide) ?_
  refine s_iconst (v := 1) hK dL_areBest_180 (by decide) ?_
  refine s_callV (ci := 6) hK mdX6_faults (k1) gL_areBest_X6_faults rfl rfl rfl (by decide) rfl ⟨Nat.le_of_ble_eq_true rfl, Nat.le_of_ble_eq_true rfl⟩ rfl (Nat.le_of_ble_eq_true rfl) dL_areBest_181 ?_
  try dsimp only [Option.toList, List.cons_append, List.nil_append]
  refine s_iadd hK dL_areBest_184 ?_
  refine s_aload0 hK dL_areBest_185 ?_
  refine s_iconst (v := 0) hK dL_areBest_186 (by decide) ?_
  refine s_iconst (v := 0) hK dL_areBest_187 (by decide) ?_
  refine s_iconst (v := 2) hK dL_areBest_188 (by decide) ?_
  refine s_callV (ci := 6) hK mdX6_faults (k2) gL_areBest_X6_faults rfl rfl rfl (by decide) rfl ⟨Nat.le_of_ble_eq_true rfl, Nat.le_of_ble_eq_true rfl⟩ rfl (Nat.le_of_ble_eq_true rfl) dL_areBest_189 ?_
  try dsimp only [Option.toList, List.cons_append, List.nil_append]
  refine s_iadd hK dL_areBest_192 ?_
  refine s_if_ne (tgt := 209) hK dL_areBest_193 (by decide) (fun c_193 => absurd c_193 (fun q => q (by decide))) (fun c_193 => ?_)
  refine s_aload0 hK dL_areBest_196 ?_
  refine s_callV (ci := 6) hK mdX6_undo (u2) gL_areBest_X6_undo rfl rfl rfl (by decide) rfl ⟨Nat.le_of_ble_eq_true rfl, Nat.le_of_ble_eq_true rfl⟩ rfl (Nat.le_of_ble_eq_true rfl) dL_areBest_197 ?_
  try dsimp only [Option.toList, List.cons_append, List.nil_append]
  refine s_iload4 hK dL_areBest_200 ?_
  refine s_icmp_ne (tgt := 209) hK dL_areBest_202 (by decide) (fun c_202 => absurd c_202 (fun q => q rfl)) (fun c_202 => ?_)
  refine s_iconst (v := 1) hK dL_areBest_205 (by decide) ?_
  refine s_goto (tgt := 210) hK dL_areBest_206 (by decide) ?_
  exact s_iret hK hE dL_areBest_210 (by decide) (rfl) (rfl)
