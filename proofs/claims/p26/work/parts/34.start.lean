/-! what the Statement gives of the start -/
theorem int_arr {s : State} {args : Array Value} (h : (Cond.arrayClass .int).before args s = true) : ∃ cI : ClassId, ArrOfT s cI .int ∧ va_RA s cI .int := by
  obtain ⟨cI, kI, comp, h1, h2, h3⟩ := Cond.arrayClass_spec (args := args) (first := s) (o := none) (s := s) (idx := []) (type := .int) h
  exact ⟨cI, fun n z => ⟨fun k h => (by cases h), kI, h2, comp, h3⟩, h1⟩
theorem ref_arr {s : State} (h : va_AO RX5 s) : ∃ cQ : ClassId, ArrOfT s cQ (.object RX5) ∧ va_RA s cQ (.object RX5) := by
  obtain ⟨comp, cQ, k, h1, h2, h3, h4, h5⟩ := Cond.arrayOver_spec h
  exact ⟨cQ, fun n z => ⟨fun k h => (by cases h), k, h3, comp, h4⟩, k, comp, h3, h4, h1, h5⟩
theorem tb {i : Nat} {w : Cond} (h : tables_1[i]? = some w) : w ∈ lw_tbl := List.mem_append_right _ (List.mem_of_getElem? h)
/-- a static row of five ints -/
theorem stat5 {s : State} {args : Array Value} {n : String} {f : Nat → Int32} {i : Nat} {A : Nat → Prop} (hA : ∀ a : Nat, a < s.heap.size → ¬ A a) (hlay : (Cond.laysStatic RX6 n "[I").before args s = true) (hini : (Cond.initialized RX6).before args s = true) (harr : (Cond.arrayOf (.static RX6 n "[I") .int).before args s = true) (hlen : (Cond.eq (.length (.static RX6 n "[I")) (.int 5)).before args s = true) (hel : ∀ j, j < 5 → (Cond.eq (.elem (.static RX6 n "[I") (.int (Int32.ofNat j))) (.int (f j))).before args s = true) : ∃ t : Nat, va_Z RX6 n "[I" (.ref t) A s s.heap ∧ va_T .int t 5 (fun j => .int (f j)) A s s.heap := by
  obtain ⟨t, ht, hT⟩ := va_Tof (N := 5) (f := fun j => .int (f j)) (A := A) (by decide) harr (va_eqt hlen) (fun j hj => va_eqt (hel j hj)) hA
  exact ⟨t, va_Zof hlay hini ht hA, hT⟩
set_option maxHeartbeats 4000000 in
set_option maxRecDepth 100000 in
/-- from the entry, for every script of at most 260 ints, the law comes to its end with true -/
theorem whole_start {p : Program} {e : Env} {s : State} {m : MethodId} {below : List Frame} {meth : Method} {c : Code} (l : Launch) (hflags : l.flags = flags0) {b L : Nat} {xs : Nat → Int32} (hL : L ≤ 260) (C0 : lw_At p s m meth c b L xs) : W p l e room_1 s m #[Value.ref b] below meth c s.heap [] 0 0 (lw_Z below #[Value.ref b] s) (entryFrame m ([Value.ref b] : List Value).toArray 10) := by
  obtain ⟨hx, hb, hr, hml, hown, hts0, hX, hbl, hlocks, hgv⟩ := C0
  have hts : ∀ w ∈ wsL_law, w.before #[Value.ref b] s = true := fun w h => hts0 w (wsL_law_in w h)
  have hgs := flat_of_before _ hgv
  have nw : ∀ {w : Cond} {i : Nat}, w.onTables = true → tables_1[i]? = some w → va_Nw w s := fun h1 h2 => va_tabs h1 rfl (hts0 _ (tb h2))
  have hao : va_AO RX5 s := va_AO.of (hts0 _ (tb (i := 128) (by decide +kernel)))
  obtain ⟨cI, hI1, hI2⟩ := int_arr (hts (.arrayClass .int) (by decide +kernel))
  obtain ⟨cQ, hQ1, hQ2⟩ := ref_arr hao
  obtain ⟨c0, i0, hk0⟩ := u_known (C := RX0) (T := TX0) (N := 5) (n := 5) hts inlX0 (hts (.instantiable RX0 5) (by decide +kernel))
  obtain ⟨c1, i1, hk1⟩ := u_known (C := RX1) (T := TX1) (N := 1) (n := 1) hts inlX1 (hts (.instantiable RX1 1) (by decide +kernel))
  obtain ⟨c2, i2, hk2⟩ := u_known (C := RX2) (T := TX2) (N := 3) (n := 3) hts inlX2 (hts (.instantiable RX2 3) (by decide +kernel))
  obtain ⟨c3, i3, hk3⟩ := u_known (C := RX3) (T := TX3) (N := 3) (n := 3) hts inlX3 (hts (.instantiable RX3 3) (by decide +kernel))
  obtain ⟨c4, i4, hk4⟩ := u_known (C := RX4) (T := TX4) (N := 6) (n := 6) hts inlX4 (hts (.instantiable RX4 6) (by decide +kernel))
  obtain ⟨c5, i5, hk5⟩ := u_known (C := RX5) (T := TX5) (N := 10) (n := 10) hts inlX5 (hts (.instantiable RX5 10) (by decide +kernel))
  obtain ⟨c6, i6, hk6⟩ := u_known (C := RX6) (T := TX6) (N := 5) (n := 5) hts inlX6 (hts (.instantiable RX6 5) (by decide +kernel))
  have hA0 : ∀ a : Nat, a < s.heap.size → ¬ (fun q : Nat => s.heap.size ≤ q) a := fun a h z => absurd h (Nat.not_lt.mpr z)
  have hini : (Cond.initialized RX6).before #[Value.ref b] s = true := hts _ (by decide +kernel)
  obtain ⟨tF, ztF, ytF⟩ := stat5 (n := "FIRST_SETTINGS") (f := fst_) (i := 0) hA0 (hts0 _ (tb (i := 64) (by decide +kernel))) hini (hgs _ (by decide +kernel)) (hgs _ (by decide +kernel)) (fun j hj => by
    match j, hj with
    | 0, _ => exact hgs (Cond.eq (.elem (.static RX6 "FIRST_SETTINGS" "[I") (.int 0)) (.int (50))) (by decide +kernel)
    | 1, _ => exact hgs (Cond.eq (.elem (.static RX6 "FIRST_SETTINGS" "[I") (.int 1)) (.int (1))) (by decide +kernel)
    | 2, _ => exact hgs (Cond.eq (.elem (.static RX6 "FIRST_SETTINGS" "[I") (.int 2)) (.int (0))) (by decide +kernel)
    | 3, _ => exact hgs (Cond.eq (.elem (.static RX6 "FIRST_SETTINGS" "[I") (.int 3)) (.int (40))) (by decide +kernel)
    | 4, _ => exact hgs (Cond.eq (.elem (.static RX6 "FIRST_SETTINGS" "[I") (.int 4)) (.int (2))) (by decide +kernel))
  obtain ⟨tL, ztL, ytL⟩ := stat5 (n := "LEAST_SETTINGS") (f := (fun k => tlo.getD k 0)) (i := 0) hA0 (hts0 _ (tb (i := 279) (by decide +kernel))) hini (hgs _ (by decide +kernel)) (hgs _ (by decide +kernel)) (fun j hj => by
    match j, hj with
    | 0, _ => exact hgs (Cond.eq (.elem (.static RX6 "LEAST_SETTINGS" "[I") (.int 0)) (.int (0))) (by decide +kernel)
    | 1, _ => exact hgs (Cond.eq (.elem (.static RX6 "LEAST_SETTINGS" "[I") (.int 1)) (.int (-4))) (by decide +kernel)
    | 2, _ => exact hgs (Cond.eq (.elem (.static RX6 "LEAST_SETTINGS" "[I") (.int 2)) (.int (-4))) (by decide +kernel)
    | 3, _ => exact hgs (Cond.eq (.elem (.static RX6 "LEAST_SETTINGS" "[I") (.int 3)) (.int (1))) (by decide +kernel)
    | 4, _ => exact hgs (Cond.eq (.elem (.static RX6 "LEAST_SETTINGS" "[I") (.int 4)) (.int (0))) (by decide +kernel))
  obtain ⟨tG, ztG, ytG⟩ := stat5 (n := "GREATEST_SETTINGS") (f := (fun k => thi.getD k 0)) (i := 0) hA0 (hts0 _ (tb (i := 281) (by decide +kernel))) hini (hgs _ (by decide +kernel)) (hgs _ (by decide +kernel)) (fun j hj => by
    match j, hj with
    | 0, _ => exact hgs (Cond.eq (.elem (.static RX6 "GREATEST_SETTINGS" "[I") (.int 0)) (.int (100))) (by decide +kernel)
    | 1, _ => exact hgs (Cond.eq (.elem (.static RX6 "GREATEST_SETTINGS" "[I") (.int 1)) (.int (4))) (by decide +kernel)
    | 2, _ => exact hgs (Cond.eq (.elem (.static RX6 "GREATEST_SETTINGS" "[I") (.int 2)) (.int (4))) (by decide +kernel)
    | 3, _ => exact hgs (Cond.eq (.elem (.static RX6 "GREATEST_SETTINGS" "[I") (.int 3)) (.int (1000))) (by decide +kernel)
    | 4, _ => exact hgs (Cond.eq (.elem (.static RX6 "GREATEST_SETTINGS" "[I") (.int 4)) (.int (10))) (by decide +kernel))
  obtain ⟨g, hg⟩ : ∃ g : aG, g = ((fun k => if k = 0 then c0 else if k = 1 then c1 else if k = 2 then c2 else if k = 3 then c3 else if k = 4 then c4 else if k = 5 then c5 else c6), (fun k => if k = 0 then i0 else if k = 1 then i1 else if k = 2 then i2 else if k = 3 then i3 else if k = 4 then i4 else if k = 5 then i5 else i6), (fun _ => 0), cI, cQ, s.heap.size) := ⟨_, rfl⟩
  have hgB : gB g = s.heap.size := by rw [hg]; rfl
  have hgA : gA g = fun q : Nat => s.heap.size ≤ q := by
    funext q
    show (gB g ≤ q) = _
    rw [hgB]
  have hK : va_K (gD g) vwCl (aTys g) s := by
    rw [hg]
    refine ⟨fun k q hq => ?_, fun k q hq => ?_⟩
    · match k, hq with
      | 0, hq => cases hq; exact hk0
      | 1, hq => cases hq; exact hk1
      | 2, hq => cases hq; exact hk2
      | 3, hq => cases hq; exact hk3
      | 4, hq => cases hq; exact hk4
      | 5, hq => cases hq; exact hk5
      | 6, hq => cases hq; exact hk6
      | k + 7, hq => simp [vwCl] at hq
    · match k, hq with
      | 0, hq => cases hq; exact ⟨hI1, hI2⟩
      | 1, hq => cases hq; exact ⟨hQ1, hQ2⟩
      | k + 2, hq => simp [aTys] at hq
  rw [← hgA] at ztF ytF ztL ytL ztG ytG
  have hSG : SG g tF s s.heap := ⟨nw (i := 63) rfl (by decide +kernel), hao, ztF, ytF, Nat.le_of_eq hgB⟩
  have J : JK p room_1 s m #[Value.ref b] meth c code 10 RL wsL_law g tF (gA g) := ⟨hx, hb, hml, hown, hts, hK, fun q h => by rw [hgA]; exact h, fun q h => h, hSG⟩
  have hl := lv_entry ([.ref b]) (n := 10) (Nat.le_of_ble_eq_true rfl)
  rw [lg_entry_eq]
  generalize (lg_sl ([.ref b]) ++ List.replicate (10 - (lg_sl ([.ref b])).length) Slot.unset).toArray = ls at hl ⊢
  have hl : lv_has ls 10 [(0, .ref b)] := hl
  have go : CJ p l e room_1 s m #[Value.ref b] below meth c (lw_Z below #[Value.ref b] s) g (gA g) 0 0 [] (fun _ => 0) [] 0 ls [] := by
    refine j_make (idx := 13) (idx2 := 89) (pc2 := 4) (N := 5) (ci := 6) (u := 600) (C := RX6) (T := TX6) (fs := [.null, .null, .null, .null, .null]) (y := yX6_init) (vs := uP) J ⟨⟨_, rfl⟩, by decide +kernel, by decide +kernel, by decide +kernel⟩ rfl rfl zX6_init gL_law_X6_init inlX6 tyX6_ok (by decide +kernel) (by decide +kernel) (by decide +kernel) (by decide +kernel) (by decide +kernel) rfl (by decide) clo_0 clo_uP (fun i h => absurd h List.not_mem_nil) (by decide +kernel) ⟨Nat.le_of_ble_eq_true rfl, Nat.le_of_ble_eq_true rfl⟩ (Nat.le_of_ble_eq_true rfl) (Nat.le_of_ble_eq_true rfl) hl.1 (Nat.le_of_ble_eq_true rfl) rfl dL_law_0 dL_law_3 dL_law_4 (fun f1 _ => ?_)
    intro H locs hP hD hS
    refine W.widen (k := 600000) (n := 7302250) (Nat.le_of_ble_eq_true rfl) (Nat.le_of_ble_eq_true rfl) ?_
    refine lv_astore_n (lv' := [(1, .ref (f1 600)), (0, .ref b)]) hx hb dL_law_7 rfl hl (by decide) rfl (fun ls1 hl1 => ?_)
    -- the table of addresses, with the statics
    obtain ⟨f, hf⟩ : ∃ f : Nat → Nat, f = fun o => if o = 801 then tL else if o = 802 then tG else f1 o := ⟨_, rfl⟩
    have ef : ∀ i, i ∈ uP → f i = f1 i := fun i hi => by
      have := us_kd hi
      have h707 := kd_lt this
      rw [hf]
      show (if i = 801 then tL else if i = 802 then tG else f1 i) = f1 i
      rw [if_neg (by omega), if_neg (by omega)]
    have eW : [] ++ Wd g f1 ([] ++ uP) = Wd g f uP := (Wd_cong clo_uP ef).symm
    rw [eW] at hP hD
    have hRH : RH (gF g f) s0 H := world_RH hP
    have hGL : GL (gF g f) := world_GL hD
    have e8 : gL (gF g f) 801 = tL := by rw [hf]; rfl
    have e9 : gL (gF g f) 802 = tG := by rw [hf]; rfl
    have hGK : GK (gF g f) s s.heap := by
      refine ⟨hGL, hK, fun w hw => ?_, ?_, ?_, ?_, ?_, Nat.le_of_eq hgB⟩
      · simp only [nwl, List.mem_cons, List.not_mem_nil, or_false] at hw
        rcases hw with rfl | rfl | rfl | rfl | rfl | rfl
        · exact nw (i := 233) rfl (by decide +kernel)
        · exact nw (i := 234) rfl (by decide +kernel)
        · exact nw (i := 422) rfl (by decide +kernel)
        · exact nw (i := 370) rfl (by decide +kernel)
        · exact nw (i := 461) rfl (by decide +kernel)
        · exact nw (i := 403) rfl (by decide +kernel)
      · rw [e8]; exact ztL
      · rw [e8]; exact ytL
      · rw [e9]; exact ztG
      · rw [e9]; exact ytG
    have e600 : gL (gF g f) 600 = f1 600 := ef 600 (by decide +kernel)
    obtain ⟨K, hKd⟩ : ∃ K : KT, K = (p, l, e, room_1, s, m, #[Value.ref b], below, meth, c, 600000, 7302250, lw_Z below #[Value.ref b] s, gF g f) := ⟨_, rfl⟩
    have hKK : OKc K code RL wsL_law 10 364 := by
      rw [hKd]
      exact ⟨hx, hb, hown, hts, hGK, Nat.le_of_ble_eq_true rfl, Nat.le_of_ble_eq_true rfl, Nat.le_of_ble_eq_true rfl, Nat.le_of_ble_eq_true rfl⟩
    have hSC : SCR K b L xs := by
      rw [hKd]
      exact ⟨hX, hbl, fun z => by
        have z : gB g ≤ b := z
        omega⟩
    have hend : ∀ (lv : List (Nat × Value)) (σ : aS), DW K 370 10 lv [.int 1] σ := by
      intro lv σ
      rw [hKd]
      intro H locs jl hR hS _ _
      refine va_forget (fun q hq => by have : gB g ≤ q.base := hS.2.2 q hq; omega) ?_
      exact lw_ret hx hb hr hlocks dL_law_370
    have go := law_8 hKK hL hSC hend iv_0
    have kg : kG K = gF g f := by rw [hKd]; rfl
    rw [kg, hKd] at go
    exact go H locs ls1 hRH hS hml (by rw [e600]; exact lv_sub hl1 [1, 0] rfl)
  exact go s.heap [] (fun k q h => by simp [Wd] at h) ⟨fun i j p q h => by simp [Wd] at h, fun k q h => by simp [Wd] at h⟩ va_S.rf
