/-! how objects are made: the objects made so far have their numbers, a table of addresses, and the numbers that they are made with -/
def s0 : aS := fun o k => if o < 600 ∧ o % 100 = 1 then (if k = 0 then 50 else if k = 1 then 1 else if k = 3 then 40 else if k = 4 then 2 else 0) else if o = 603 ∧ k = 3 then -1 else if o = 701 then (if k = 768 then 50 else if k = 769 then 1 else if k = 771 then 40 else if k = 772 then 2 else 0) else 0
def gF (g : aG) (f : Nat → Nat) : aG := (g.1, g.2.1, f, gI g, gQ g, gB g)
def cX (g : aG) (f : Nat → Nat) (o : Nat) : va_E := if kd o = 9 then .inl (gQ g, 5, .inr (.inr (.inr (.inr (fun k => if k < 5 then some (f (100 * (k + 1))) else none))))) else cE (gF g f) s0 o
def Wd (g : aG) (f : Nat → Nat) (us : List Nat) : va_W := us.map (fun i => (f i, cX g f i))
def cloB (us : List Nat) : Bool := us.all (fun o => decide (kd o < 10) && ((List.range 15).all (fun k => !isR (kd o) k || !decide (k < nf (kd o)) || !decide (kd o < 8) || us.contains (rf o k)) && (!decide (kd o = 9) || (List.range 5).all (fun k => us.contains (100 * (k + 1))))))
theorem cloB_at {us : List Nat} (h : cloB us = true) {o : Nat} (ho : o ∈ us) : kd o < 10 ∧ (kd o < 8 → ∀ k, k < nf (kd o) → k < 15 → isR (kd o) k = true → rf o k ∈ us) ∧ (kd o = 9 → ∀ k, k < 5 → 100 * (k + 1) ∈ us) := by
  have h1 := List.all_eq_true.mp h o ho
  rw [Bool.and_eq_true, Bool.and_eq_true] at h1
  obtain ⟨a1, a2, a3⟩ := h1
  refine ⟨of_decide_eq_true a1, fun h8 k hk h15 hr => ?_, fun h9 k hk => ?_⟩
  · have h2 := List.all_eq_true.mp a2 k (List.mem_range.mpr h15)
    rw [hr, decide_eq_true hk, decide_eq_true h8] at h2
    exact List.contains_iff_mem.mp (by simpa using h2)
  · rw [decide_eq_true h9, Bool.not_true, Bool.false_or] at a3
    have h2 := List.all_eq_true.mp a3 k (List.mem_range.mpr hk)
    exact List.contains_iff_mem.mp h2
theorem nf_15 (c : Nat) : nf c ≤ 15 := by
  unfold nf
  split <;> omega
theorem cX_cong {g : aG} {f f2 : Nat → Nat} {us : List Nat} (h : cloB us = true) (hf : ∀ i, i ∈ us → f2 i = f i) {o : Nat} (ho : o ∈ us) : cX g f2 o = cX g f o := by
  obtain ⟨c1, c2, c3⟩ := cloB_at h ho
  unfold cX
  by_cases h9 : kd o = 9
  · rw [if_pos h9, if_pos h9]
    have e : (fun k => if k < 5 then some (f2 (100 * (k + 1))) else none) = (fun k => if k < 5 then some (f (100 * (k + 1))) else none) := by
      funext k
      by_cases hk : k < 5
      · rw [if_pos hk, if_pos hk, hf _ (c3 h9 k hk)]
      · rw [if_neg hk, if_neg hk]
    rw [e]
  · rw [if_neg h9, if_neg h9]
    rcases Nat.lt_or_ge (kd o) 8 with h8 | h8
    · rw [cE_obj rfl h8, cE_obj rfl h8]
      have e : (List.range (nf (kd o))).map (fV (gF g f2) s0 o) = (List.range (nf (kd o))).map (fV (gF g f) s0 o) := by
        refine List.map_congr_left (fun k hk => ?_)
        have hk := List.mem_range.mp hk
        unfold fV
        cases hr : isR (kd o) k with
        | false => rfl
        | true =>
          rw [if_pos rfl, if_pos rfl]
          have := nf_15 (kd o)
          show Value.ref (f2 (rf o k)) = .ref (f (rf o k))
          rw [hf _ (c2 h8 k hk (by omega) hr)]
      rw [e]
    · have e8 : kd o = 8 := by omega
      rw [cE_arr e8, cE_arr e8]
      rfl
theorem Wd_cong {g : aG} {f f2 : Nat → Nat} {us : List Nat} (h : cloB us = true) (hf : ∀ i, i ∈ us → f2 i = f i) : Wd g f2 us = Wd g f us := by
  refine List.map_congr_left (fun o ho => ?_)
  rw [hf o ho, cX_cong h hf ho]
theorem Wd_app (g : aG) (f : Nat → Nat) (us vs : List Nat) : Wd g f (us ++ vs) = Wd g f us ++ Wd g f vs := List.map_append
theorem cloB_app {us vs : List Nat} (h : cloB us = true) (h2 : cloB vs = true) : cloB (us ++ vs) = true := by
  refine List.all_eq_true.mpr (fun o ho => ?_)
  have key : ∀ ws : List Nat, cloB ws = true → o ∈ ws → (∀ x, x ∈ ws → x ∈ us ++ vs) → (decide (kd o < 10) && ((List.range 15).all (fun k => !isR (kd o) k || !decide (k < nf (kd o)) || !decide (kd o < 8) || (us ++ vs).contains (rf o k)) && (!decide (kd o = 9) || (List.range 5).all (fun k => (us ++ vs).contains (100 * (k + 1)))))) = true := by
    intro ws hw how hsub
    obtain ⟨c1, c2, c3⟩ := cloB_at hw how
    rw [Bool.and_eq_true, Bool.and_eq_true]
    refine ⟨decide_eq_true c1, List.all_eq_true.mpr (fun k hk => ?_), ?_⟩
    · have hk := List.mem_range.mp hk
      cases hr : isR (kd o) k with
      | false => rfl
      | true =>
        by_cases hn : k < nf (kd o)
        · by_cases h8 : kd o < 8
          · rw [List.contains_iff_mem.mpr (hsub _ (c2 h8 k hn hk hr)), Bool.or_true]
          · rw [decide_eq_false h8]
            simp
        · rw [decide_eq_false hn]
          simp
    · by_cases h9 : kd o = 9
      · rw [List.all_eq_true.mpr (fun k hk => List.contains_iff_mem.mpr (hsub _ (c3 h9 k (List.mem_range.mp hk)))), Bool.or_true]
      · rw [decide_eq_false h9]
        rfl
  rcases List.mem_append.mp ho with q | q
  · exact key us h q (fun x hx => List.mem_append_left _ hx)
  · exact key vs h2 q (fun x hx => List.mem_append_right _ hx)
/-- two tables of addresses in one -/
def mrg (f : Nat → Nat) (vs : List Nat) (f1 : Nat → Nat) : Nat → Nat := fun i => if i ∈ vs then f1 i else f i
theorem mrg_in {f f1 : Nat → Nat} {vs : List Nat} {i : Nat} (h : i ∈ vs) : mrg f vs f1 i = f1 i := if_pos h
theorem mrg_out {f f1 : Nat → Nat} {vs : List Nat} {i : Nat} (h : ¬ i ∈ vs) : mrg f vs f1 i = f i := if_neg h
theorem Wd_mrg {g : aG} {f f1 : Nat → Nat} {us vs : List Nat} (h : cloB us = true) (h2 : cloB vs = true) (hd : ∀ i, i ∈ us → ¬ i ∈ vs) : Wd g (mrg f vs f1) (us ++ vs) = Wd g f us ++ Wd g f1 vs := by
  rw [Wd_app, Wd_cong h (fun i hi => mrg_out (hd i hi)), Wd_cong h2 (fun i hi => mrg_in hi)]
/-- the arrays of ints are of one class -/
theorem kI_eq {g : aG} {s : State} {cA : ClassId} (h : va_K (gD g) vwCl (aTys g ++ [(cA, .int)]) s) : cA = gI g := by
  have a := (h.2 0 (gI g, .int) rfl).2
  have b := (h.2 2 (cA, .int) rfl).2
  exact Option.some.inj (b.symm.trans a)
theorem kQ_eq {g : aG} {s : State} {cA : ClassId} (h : va_K (gD g) vwCl (aTys g ++ [(cA, .object RX5)]) s) : cA = gQ g := by
  obtain ⟨_, _, _, _, _, a⟩ := (h.2 1 (gQ g, .object RX5) rfl).2
  obtain ⟨_, _, _, _, _, b⟩ := (h.2 2 (cA, .object RX5) rfl).2
  exact Option.some.inj (b.symm.trans a)
theorem va_nd_range : ∀ n, va_nd (List.range n) = true := by
  have key : ∀ l : List Nat, l.Nodup → va_nd l = true := by
    intro l
    induction l with
    | nil => intro _; rfl
    | cons a l ih =>
      intro h
      rw [List.nodup_cons] at h
      show (decide (a ∉ l) && va_nd l) = true
      rw [decide_eq_true h.1, ih h.2]
      rfl
  exact fun n => key _ List.nodup_range
/-- behind a call that had the last cell alone -/
theorem join_last {A0 : Nat → Prop} {D : va_G} {cl : List vw_C} {Y w1 : va_W} {x : Nat × va_E} {H H1 : Heap} (hP : va_P D cl (Y ++ [x]) H) (hD : va_D A0 (Y ++ [x])) (hk : ∀ q : Nat, q < H.size → ¬ va_A [x] H.size q → H1[q]? = H[q]?) (hF : ∀ q, va_A [x] H.size q → A0 q) (hP1 : va_P D cl w1 H1) (hD1 : va_D (va_A [x] H.size) w1) : va_P D cl (Y ++ w1) H1 ∧ va_D A0 (Y ++ w1) := by
  refine va_join (isC := [Y.length]) (isR := List.range Y.length) hP hD ?_ ?_ (va_nd_range _) ?_ hk hF hP1 hD1
  · simp
  · refine List.ext_getElem? (fun i => ?_)
    rw [List.getElem?_map, List.getElem?_map]
    rcases Nat.lt_or_ge i Y.length with q | q
    · rw [List.getElem?_range q, Option.map_some, List.getElem?_append_left q]
      obtain ⟨z, hz⟩ : ∃ z, Y[i]? = some z := ⟨_, List.getElem?_eq_getElem q⟩
      rw [hz]
      rfl
    · rw [List.getElem?_eq_none (by rw [List.length_range]; exact q), List.getElem?_eq_none q]
      rfl
  · intro i hi h
    have h1 := List.mem_range.mp hi
    have h2 := List.mem_singleton.mp h
    omega
/-! what the statics hold, for a constructor -/
def fst_ : Nat → Int32 := fun k => if k = 0 then 50 else if k = 1 then 1 else if k = 3 then 40 else if k = 4 then 2 else 0
def SG (g : aG) (F : Nat) (U : State) (H : Heap) : Prop := va_Nw (.fieldLinkNest RX5 22 RX6 "FIRST_SETTINGS" "[I" RX6) U ∧ va_AO RX5 U ∧ va_Z RX6 "FIRST_SETTINGS" "[I" (.ref F) (gA g) U H ∧ va_T .int F 5 (fun j => .int (fst_ j)) (gA g) U H ∧ gB g ≤ H.size
theorem SG_moved {g : aG} {F : Nat} {s U : State} {H : Heap} (hW : s.WarmedH U.vm) (h : SG g F s H) : SG g F U H := by
  obtain ⟨h1, h2, h3, h4, h5⟩ := h
  exact ⟨va_Nw.warmF hW h1, va_AO.moved hW.alike h2, va_Z.moved hW.alike h3, va_T.moved hW.alike h4, h5⟩
theorem SG_vm {g : aG} {F : Nat} {s U : State} {H : Heap} (e : s.vm = U.vm) (h : SG g F s H) : SG g F U H := by
  obtain ⟨h1, h2, h3, h4, h5⟩ := h
  have hA : s.vm.Alike U.vm := by rw [e]; exact Vm.Alike.refl _
  exact ⟨va_Nw.same rfl e h1, va_AO.moved hA h2, va_Z.moved hA h3, va_T.moved hA h4, h5⟩
theorem SG_kept {g : aG} {F : Nat} {U : State} {H0 H : Heap} {A : Nat → Prop} {locs : List Loc} (h : SG g F U H0) (hAB : ∀ q, A q → gA g q) (hS : va_S A H0 H locs) : SG g F U H := by
  obtain ⟨h1, h2, h3, h4, h5⟩ := h
  exact ⟨h1, h2, h3.kept (fun a b c => hS.2.1 a b (fun z => c (hAB a z))), h4.kept (fun a b c => hS.2.1 a b (fun z => c (hAB a z))), Nat.le_trans h5 hS.1⟩
/-! the contract of a constructor -/
def CI (g : aG) (l : Launch) (F : Nat) (y : MethodName) (ws : List Cond) (fr lo mc ms ci : Nat) (fs : List Value) (o : Nat) (us : List Nat) : Prop :=
  ∀ h0 sz : Nat, gB g ≤ h0 → h0 < sz → Met l y ws ({ frames := fr, cells := mc, slots := ms, locals := lo } : Jvm.Room) (va_Pc [.ref h0] (fun U => U.heap.size = sz ∧ va_P (gD g) vwCl [(h0, .inr (ci, fs))] U.heap ∧ va_K (gD g) vwCl (aTys g) U ∧ SG g F U U.heap))
    (va_Qv (fun _ : Unit => True) (fun _ t => ∃ f : Nat → Nat, f o = h0 ∧ va_P (gD g) vwCl (Wd g f us) t.heap ∧ va_D (va_A [(h0, .inr (ci, fs))] sz) (Wd g f us)) (va_A [(h0, .inr (ci, fs))] sz)) mc ms (va_A [(h0, .inr (ci, fs))] sz)
/-- what stands while a constructor runs -/
def JK (p : Program) (R : Room) (s : State) (m : MethodId) (args : Array Value) (meth : Method) (c : Code) (cc : ByteArray) (nL : Nat) (own : String) (Ts : List Cond) (g : aG) (F : Nat) (A : Nat → Prop) : Prop :=
  p.tables.exec = Jvm.exec ∧ c.code = cc ∧ c.maxLocals = nL ∧ s.vm.findClass own = some m.cls ∧ (∀ w ∈ Ts, w.before args s = true) ∧ va_K (gD g) vwCl (aTys g) s ∧ (∀ q, s.heap.size ≤ q → A q) ∧ (∀ q, A q → gA g q) ∧ SG g F s s.heap
def CJ (p : Program) (l : Launch) (e : Env) (R : Room) (s : State) (m : MethodId) (args : Array Value) (below : List Frame) (meth : Method) (c : Code) (Q : State → Prop) (g : aG) (A : Nat → Prop) (cells slots : Nat) (X : va_W) (f : Nat → Nat) (us : List Nat) (pc : Nat) (ls : Array Slot) (st : List Value) : Prop :=
  ∀ (H : Heap) (locs : List Loc), va_P (gD g) vwCl (X ++ Wd g f us) H → va_D A (X ++ Wd g f us) → va_S A s.heap H locs → W p l e R s m args below meth c H locs cells slots Q (F0 m pc ls st)
section MK
variable {p : Program} {l : Launch} {e : Env} {R : Room} {s : State} {m : MethodId} {args : Array Value} {below : List Frame} {meth : Method} {c : Code} {Q : State → Prop} {g : aG} {A : Nat → Prop} {cells slots : Nat} {X : va_W} {f : Nat → Nat} {us : List Nat} {pc : Nat} {ls : Array Slot} {st : List Value} {cc : ByteArray} {nL : Nat} {own : String} {Ts : List Cond} {F : Nat}
theorem j_aload {h0 : Nat} {k : Fin 4} {i : Nat} (J : JK p R s m args meth c cc nL own Ts g F A) (hd : decode cc pc = .ok (.aload_n k, 1)) (hi : (k : Nat) = i) (hl : ls[i]? = some (Slot.val (.ref h0))) (kk : CJ p l e R s m args below meth c Q g A cells slots X f us (pc + 1) ls (.ref h0 :: st)) : CJ p l e R s m args below meth c Q g A cells slots X f us pc ls st := by
  obtain ⟨hx, hb, _⟩ := J
  intro H locs hP hD hS
  exact lv_aload_n hx hb hd hi hl (kk H locs hP hD hS)
theorem j_iconst {n : Int} {v : Int32} (J : JK p R s m args meth c cc nL own Ts g F A) (hd : decode cc pc = .ok (.iconst n, 1)) (hv : Int32.ofInt n = v) (kk : CJ p l e R s m args below meth c Q g A cells slots X f us (pc + 1) ls (.int v :: st)) : CJ p l e R s m args below meth c Q g A cells slots X f us pc ls st := by
  obtain ⟨hx, hb, _⟩ := J
  intro H locs hP hD hS
  exact lv_iconst hx hb hd hv (kk H locs hP hD hS)
theorem j_bipush {n : Int} {v : Int32} (J : JK p R s m args meth c cc nL own Ts g F A) (hd : decode cc pc = .ok (.bipush n, 2)) (hv : (Int8.ofInt n).toInt32 = v) (kk : CJ p l e R s m args below meth c Q g A cells slots X f us (pc + 2) ls (.int v :: st)) : CJ p l e R s m args below meth c Q g A cells slots X f us pc ls st := by
  obtain ⟨hx, hb, _⟩ := J
  intro H locs hP hD hS
  exact lv_bipush hx hb hd hv (kk H locs hP hD hS)
theorem j_sipush {n : Int} {v : Int32} (J : JK p R s m args meth c cc nL own Ts g F A) (hd : decode cc pc = .ok (.sipush n, 3)) (hv : (Int16.ofInt n).toInt32 = v) (kk : CJ p l e R s m args below meth c Q g A cells slots X f us (pc + 3) ls (.int v :: st)) : CJ p l e R s m args below meth c Q g A cells slots X f us pc ls st := by
  obtain ⟨hx, hb, _⟩ := J
  intro H locs hP hD hS
  exact lv_sipush hx hb hd hv (kk H locs hP hD hS)
/-- a new array of ints -/
theorem j_newa {n : Int32} {u N : Nat} (J : JK p R s m args meth c cc nL own Ts g F A) (harr : Cond.arrayClass .int ∈ Ts) (hu : kd u = 8) (hN : ln u = N) (hz : s0 u = fun _ => 0) (hnu : ¬ u ∈ us) (hc : cloB us = true) (hn : ¬ n < 0) (hN2 : n.toNatClampNeg = N) (hby : N * 4 ≤ 536870912) (hcells : cells + 1 ≤ R.cells) (hslots : slots + N ≤ R.slots) (hd : decode cc pc = .ok (.newarray .int, 2))
    (kk : ∀ f2 : Nat → Nat, (∀ i, i ∈ us → f2 i = f i) → CJ p l e R s m args below meth c Q g A (cells + 1) (slots + N) X f2 (us ++ [u]) (pc + 2) ls (.ref (f2 u) :: st)) : CJ p l e R s m args below meth c Q g A cells slots X f us pc ls (.int n :: st) := by
  obtain ⟨hx, hb, hml, hown, hts, hK, hA, hAB, hSG⟩ := J
  intro H locs hP hD hS
  refine va_newa (atype := .int) (ty := .int) (a0 := (N, .inl (fun _ => 0))) hx hb (hts _ harr) rfl hK hP hD hS hA (fun cA => rfl) hn hN2 hby hcells hslots hd (fun q cA H1 hK1 hP1 hD1 hS1 => ?_)
  have ecA := kI_eq hK1
  subst ecA
  have e1 : mrg f [u] (fun _ => q) u = q := mrg_in (List.mem_singleton.mpr rfl)
  have eo : ∀ i, i ∈ us → mrg f [u] (fun _ => q) i = f i := fun i hi => mrg_out (fun z => hnu (by rw [← List.mem_singleton.mp z]; exact hi))
  have eX : cX g (mrg f [u] (fun _ => q)) u = .inl (gI g, N, .inl (fun _ => 0)) := by
    unfold cX
    rw [if_neg (by omega), cE_arr hu, hN, hz]
    rfl
  have eW : X ++ Wd g f us ++ [(q, .inl (gI g, N, .inl (fun _ => 0)))] = X ++ Wd g (mrg f [u] (fun _ => q)) (us ++ [u]) := by
    rw [Wd_app, Wd_cong hc eo, List.append_assoc]
    show _ = X ++ (Wd g f us ++ [(mrg f [u] (fun _ => q) u, cX g (mrg f [u] (fun _ => q)) u)])
    rw [eX, e1]
  rw [eW] at hP1 hD1
  have h := kk (mrg f [u] (fun _ => q)) eo H1 locs hP1 hD1 hS1
  rw [e1] at h
  exact h
/-- a new object, and its constructor -/
theorem j_make {idx idx2 pc2 N ci u mL fr lo mc ms : Nat} {C : String} {T : u_T} {ty : Nat → FieldType} {fs : List Value} {y : MethodName} {ws : List Cond} {bytes : ByteArray} {vs : List Nat} (J : JK p R s m args meth c cc nL own Ts g F A) (hM : MD y ws bytes mL none 0) (hy : y.name = "<init>") (hyC : y.cls = C) (hCI : CI g l F y ws fr lo mc ms ci fs u vs) (hG : GoodIn Ts ws) (hwi : ∀ w ∈ u_ws C T N, w ∈ Ts) (hty : ∀ k, k < N → parseFieldDescriptor (T k).2.2.1 = some (ty k)) (hcl : Cond.classLink own idx C ∈ Ts) (hinst : Cond.instantiable C N ∈ Ts) (hini : Cond.initialized C ∈ Ts) (hlink : Cond.methodLink own idx2 y ∈ Ts) (him : Cond.instanceMethod y ∈ Ts)
    (hc : vwCl[ci]? = some (C, T, N)) (hfs : ∀ j, j < N → defaultValue (ty j) = vp_V fs j) (hclo : cloB us = true) (hclv : cloB vs = true) (hdis : ∀ i, i ∈ us → ¬ i ∈ vs) (hu : u ∈ vs) (hR : fr + 1 ≤ R.frames ∧ 8 + (mL + 11) + lo ≤ R.locals) (hcells : cells + 1 + mc ≤ R.cells) (hslots : slots + N + ms ≤ R.slots) (hst : ls.size = nL) (hst2 : 1 + (st.map fun v => v.category).sum ≤ 8)
    (hp1 : pc + 3 + 1 = pc2) (hd1 : decode cc pc = .ok (.new idx, 3)) (hd2 : decode cc (pc + 3) = .ok (.dup, 1)) (hd3 : decode cc pc2 = .ok (.invokespecial idx2, 3))
    (kk : ∀ f2 : Nat → Nat, (∀ i, i ∈ us → f2 i = f i) → CJ p l e R s m args below meth c Q g A (cells + 1 + mc) (slots + N + ms) X f2 (us ++ vs) (pc2 + 3) ls (.ref (f2 u) :: st)) : CJ p l e R s m args below meth c Q g A cells slots X f us pc ls st := by
  subst hp1
  obtain ⟨hx, hb, hml, hown, hts, hK, hA, hAB, hSG⟩ := J
  obtain ⟨⟨ws', hw⟩, hm1, hm2, hm3⟩ := hM
  intro H locs hP hD hS
  refine va_new (ci := ci) (fs := fs) (C := C) (T := T) (N := N) hx hb hts hwi ty hty hown (hts _ hcl) (hts _ hinst) (hts _ hini) hK hP hD hS hA hc hfs (Nat.le_trans (Nat.le_add_right _ _) hcells) (Nat.le_trans (Nat.le_add_right _ _) hslots) hd1 (fun q H1 hP1 hD1 hS1 => ?_)
  refine lv_dup hx hb hd2 rfl ?_
  have hq : (X ++ Wd g f us ++ [(q, (.inr (ci, fs) : va_E))])[(X ++ Wd g f us).length]? = some (q, .inr (ci, fs)) := by simp
  have hqA : A q := hD1.2 _ _ hq
  have hqB : gB g ≤ q := hAB q hqA
  have hql : q < H1.size := (hP1 _ _ hq).lt
  have hPc : va_P (gD g) vwCl [(q, .inr (ci, fs))] H1 := fun k x hx => by
    have hk : k = 0 := by
      have := (List.getElem?_eq_some_iff.mp hx).1
      simp only [List.length_cons, List.length_nil] at this
      omega
    subst hk
    cases hx
    exact hP1 _ _ hq
  have hF : ∀ z, va_A [(q, .inr (ci, fs))] H1.size z → A z := fun z hz => by
    rcases hz with ⟨k, e2, hk⟩ | hz
    · have h0 : k = 0 := by
        have := (List.getElem?_eq_some_iff.mp hk).1
        simp only [List.length_cons, List.length_nil] at this
        omega
      subst h0
      cases hk
      exact hqA
    · exact hA z (Nat.le_trans hS1.1 hz)
  have hSG1 : SG g F s H1 := SG_kept hSG hAB hS1
  refine va_callv (va_runI (As := []) (rest := .ref q :: st) ⟨hx, hb, hml, hown, hts⟩ (hCI q H1.size hqB hql) (cwI 0 hts hG hw rfl rfl (hts _ (hyC ▸ hini)) (hts _ hlink) (hts _ him) hy ⟨hm1, hm2, hm3⟩ hR) ⟨fun a U g2 mk z => ?_, fun U hU hW => ⟨rfl, by rw [hU], by rw [hU]; exact hPc, va_K.moved hW.alike hK, by rw [hU]; exact SG_moved hW hSG1⟩⟩ rfl rfl hst rfl (lv_room ?_) hd3 ⟨hcells, hslots⟩) hS1 (fun z _ h => hF z h) hF (fun u2 t H2 locs2 ht hvm _ hB hz1 hk1 hS2 => ?_)
  · obtain ⟨z0, z1, zP, zK, zG⟩ := z
    exact ⟨z0, z1, zP, va_K.moved (u := U) (U := U.calling g2 mk a) (Vm.Alike.refl U.vm) zK, SG_vm (s := U) (U := U.calling g2 mk a) rfl zG⟩
  · show 1 + _ ≤ 8
    exact hst2
  · obtain ⟨f1, e1, hPv, hDv⟩ := hB
    rw [ht] at hPv
    obtain ⟨hP2, hD2⟩ := join_last hP1 hD1 hk1 hF hPv hDv
    have eW : X ++ Wd g f us ++ Wd g f1 vs = X ++ Wd g (mrg f vs f1) (us ++ vs) := by
      rw [Wd_mrg hclo hclv hdis, List.append_assoc]
    rw [eW] at hP2 hD2
    have h := kk (mrg f vs f1) (fun i hi => mrg_out (hdis i hi)) H2 locs2 hP2 hD2 hS2
    rw [mrg_in hu, e1] at h
    exact h
/-- a field of the object that is made -/
theorem j_putF {h0 ci k N index : Nat} {C : String} {T : u_T} {fs : List Value} {X2 : va_W} {ty : FieldType} {ty0 : Nat → FieldType} {v : Value} (J : JK p R s m args meth c cc nL own Ts g F A) (hin : meth.name = "<init>") (hwi : ∀ w ∈ u_ws C T N, w ∈ Ts) (hty : ∀ k, k < N → parseFieldDescriptor (T k).2.2.1 = some (ty0 k)) (hnm : ∀ a, a < N → ∀ b, b < N → a ≠ b → (T a).2.1 ≠ (T b).2.1) (hc : vwCl[ci]? = some (C, T, N)) (hk : k < N) (hT1 : (T k).1 = C) (hlink : Cond.fieldLink own index C (T k).2.1 (T k).2.2.1 ∈ Ts) (hfin : (T k).2.2.2 = true) (hdecl : (T k).1 = own) (hdt : parseFieldDescriptor (T k).2.2.1 = some ty) (hn : narrow ty v = v) (hfit : fits ty v = true) (hl : k < fs.length) (hd : decode cc pc = .ok (.putfield index, 3))
    (kk : CJ p l e R s m args below meth c Q g A cells slots ((h0, .inr (ci, fs.set k v)) :: X2) f us (pc + 3) ls st) : CJ p l e R s m args below meth c Q g A cells slots ((h0, .inr (ci, fs)) :: X2) f us pc ls (v :: .ref h0 :: st) := by
  obtain ⟨hx, hb, hml, hown, hts, hK, hA, hAB, hSG⟩ := J
  intro H locs hP hD hS
  exact va_putF hx hb hts hwi ty0 hty hnm hown hK hP hD hS 0 rfl hc k hk (hts _ hlink) (fun x h => by rw [hT1] at h; exact h) hfin hin hdecl hdt hn hfit hl hd (fun H1 locs1 hP1 hD1 hS1 => kk H1 locs1 hP1 hD1 hS1)
theorem j_put {h0 ci k N index : Nat} {C : String} {T : u_T} {fs : List Value} {X2 : va_W} {ty : FieldType} {ty0 : Nat → FieldType} {v : Value} (J : JK p R s m args meth c cc nL own Ts g F A) (hwi : ∀ w ∈ u_ws C T N, w ∈ Ts) (hty : ∀ k, k < N → parseFieldDescriptor (T k).2.2.1 = some (ty0 k)) (hnm : ∀ a, a < N → ∀ b, b < N → a ≠ b → (T a).2.1 ≠ (T b).2.1) (hc : vwCl[ci]? = some (C, T, N)) (hk : k < N) (hT1 : (T k).1 = C) (hlink : Cond.fieldLink own index C (T k).2.1 (T k).2.2.1 ∈ Ts) (hfin : (T k).2.2.2 = false) (hdt : parseFieldDescriptor (T k).2.2.1 = some ty) (hn : narrow ty v = v) (hfit : fits ty v = true) (hl : k < fs.length) (hd : decode cc pc = .ok (.putfield index, 3))
    (kk : CJ p l e R s m args below meth c Q g A cells slots ((h0, .inr (ci, fs.set k v)) :: X2) f us (pc + 3) ls st) : CJ p l e R s m args below meth c Q g A cells slots ((h0, .inr (ci, fs)) :: X2) f us pc ls (v :: .ref h0 :: st) := by
  obtain ⟨hx, hb, hml, hown, hts, hK, hA, hAB, hSG⟩ := J
  intro H locs hP hD hS
  exact va_put hx hb hts hwi ty0 hty hnm hown hK hP hD hS 0 rfl hc k hk (hts _ hlink) (fun x h => by rw [hT1] at h; exact h) hfin hdt hn hfit hl hd (fun H1 locs1 hP1 hD1 hS1 => kk H1 locs1 hP1 hD1 hS1)
theorem j_get {h0 ci k N index : Nat} {C : String} {T : u_T} {fs : List Value} {X2 : va_W} {v : Value} (J : JK p R s m args meth c cc nL own Ts g F A) (hwi : ∀ w ∈ u_ws C T N, w ∈ Ts) (hc : vwCl[ci]? = some (C, T, N)) (hk : k < N) (hT1 : (T k).1 = C) (hlink : Cond.fieldLink own index C (T k).2.1 (T k).2.2.1 ∈ Ts) (hv : fs[k]? = some v) (hd : decode cc pc = .ok (.getfield index, 3))
    (kk : CJ p l e R s m args below meth c Q g A cells slots ((h0, .inr (ci, fs)) :: X2) f us (pc + 3) ls (v :: st)) : CJ p l e R s m args below meth c Q g A cells slots ((h0, .inr (ci, fs)) :: X2) f us pc ls (.ref h0 :: st) := by
  obtain ⟨hx, hb, hml, hown, hts, hK, hA, hAB, hSG⟩ := J
  intro H locs hP hD hS
  exact va_get hx hb hts hwi hown hK hP 0 rfl hc k hk (hts _ hlink) (fun x h => by rw [hT1] at h; exact h) hv hd (kk H locs hP hD hS)
/-- the constructor of Object -/
theorem j_obj {h0 idx : Nat} (J : JK p R s m args meth c cc nL own Ts g F A) (hlink : Cond.methodLink own idx objectInit ∈ Ts) (hinst : Cond.instanceMethod objectInit ∈ Ts) (hcode : Cond.code objectInit ⟨#[0xb1]⟩ 1 none ∈ Ts) (hsz : ls.size = nL) (hf : 1 ≤ R.frames) (hlo : (st.map fun v => v.category).sum + 12 ≤ R.locals) (hd : decode cc pc = .ok (.invokespecial idx, 3)) (kk : CJ p l e R s m args below meth c Q g A cells slots X f us (pc + 3) ls st) : CJ p l e R s m args below meth c Q g A cells slots X f us pc ls (.ref h0 :: st) := by
  obtain ⟨hx, hb, hml, hown, hts, hK, hA, hAB, hSG⟩ := J
  intro H locs hP hD hS
  refine W.objInit hx hb hown (hts _ hlink) (hts _ hinst) (hts _ hcode) rfl (by rw [hml]; exact hsz) rfl hd hf (by show 2 * 0 + _ + 12 ≤ _; omega) ?_
  exact W.eq (g2 := F0 m (pc + 3) ls st) rfl (kk H locs hP hD hS)
/-- the end -/
theorem j_ret {h0 ci o mc ms : Nat} {fs : List Value} (J : JK p R s m args meth c cc nL own Ts g F A) (hr : meth.sig.returnType = none) (hlocks : meth.locks = false) (hQ : Q = MQ below (va_Qv (fun _ : Unit => True) (fun _ t => ∃ f : Nat → Nat, f o = h0 ∧ va_P (gD g) vwCl (Wd g f (o :: us)) t.heap ∧ va_D A (Wd g f (o :: us))) A) args s mc ms A) (hko : kd o = ci) (hci : ci < 8) (hou : ¬ o ∈ us) (hc : cloB us = true) (hrf : ∀ k, k < nf ci → isR ci k = true → rf o k ∈ us) (hfs : fs = (List.range (nf ci)).map (fV (gF g f) s0 o)) (hmc : cells ≤ mc) (hms : slots ≤ ms) (hd : decode cc pc = .ok (.return_, 1)) : CJ p l e R s m args below meth c Q g A cells slots [(h0, .inr (ci, fs))] f us pc ls [] := by
  obtain ⟨hx, hb, hml, hown, hts, hK, hA, hAB, hSG⟩ := J
  intro H locs hP hD hS
  have e1 : mrg f [o] (fun _ => h0) o = h0 := mrg_in (List.mem_singleton.mpr rfl)
  have eo : ∀ i, i ∈ us → mrg f [o] (fun _ => h0) i = f i := fun i hi => mrg_out (fun z => hou (by rw [← List.mem_singleton.mp z]; exact hi))
  have eX : cX g (mrg f [o] (fun _ => h0)) o = .inr (ci, fs) := by
    unfold cX
    rw [if_neg (by omega), cE_obj hko hci, hfs]
    have e2 : (List.range (nf ci)).map (fV (gF g (mrg f [o] (fun _ => h0))) s0 o) = (List.range (nf ci)).map (fV (gF g f) s0 o) := by
      refine List.map_congr_left (fun k hk => ?_)
      have hk := List.mem_range.mp hk
      unfold fV
      rw [hko]
      cases q : isR ci k with
      | false => rfl
      | true =>
        rw [if_pos rfl, if_pos rfl]
        show Value.ref (mrg f [o] (fun _ => h0) (rf o k)) = .ref (f (rf o k))
        rw [eo _ (hrf k hk q)]
    rw [e2]
  have eW : Wd g (mrg f [o] (fun _ => h0)) (o :: us) = [(h0, .inr (ci, fs))] ++ Wd g f us := by
    show (mrg f [o] (fun _ => h0) o, cX g (mrg f [o] (fun _ => h0)) o) :: Wd g (mrg f [o] (fun _ => h0)) us = _
    rw [eX, e1, Wd_cong hc eo]
    rfl
  rw [← eW] at hP hD
  subst hQ
  refine W.widen hmc hms ?_
  exact W.vret hx hb hr (fun t ht _ => ⟨⟨(), rfl, trivial, mrg f [o] (fun _ => h0), e1, by rw [ht]; exact hP, hD⟩, hS.F ht⟩) hS.2.2 hd hlocks
end MK
/-- from a constructor's contract to its walk -/
theorem ci_of {g : aG} {l : Launch} {F : Nat} {y : MethodName} {ws ws' : List Cond} {cc : ByteArray} {nL fr lo mc ms ci o : Nat} {fs : List Value} {us : List Nat} {own : String} (hy : plainName y.cls = true) (hyn : y.name = "<init>") (hown : y.cls = own) (hw : ws = .code y cc nL none :: ws') (hnL : 1 ≤ nL)
    (body : ∀ (p : Program) (e : Env) (s : State) (m : MethodId) (args : Array Value) (below : List Frame) (meth : Method) (c : Code) (A : Nat → Prop) (h0 : Nat) (ls : Array Slot), JK p ({ frames := fr, cells := mc, slots := ms, locals := lo } : Jvm.Room) s m args meth c cc nL own ws g F A → meth.name = "<init>" → meth.sig.returnType = none → meth.locks = false → lv_has ls nL [(0, .ref h0)] → CJ p l e ({ frames := fr, cells := mc, slots := ms, locals := lo } : Jvm.Room) s m args below meth c (MQ below (va_Qv (fun _ : Unit => True) (fun _ t => ∃ f : Nat → Nat, f o = h0 ∧ va_P (gD g) vwCl (Wd g f us) t.heap ∧ va_D A (Wd g f us)) A) args s mc ms A) g A 0 0 [(h0, .inr (ci, fs))] (fun _ => 0) [] 0 ls []) : CI g l F y ws fr lo mc ms ci fs o us := by
  intro h0 sz hB hlt
  refine Met.ofW (cc := cc) (maxL := nL) (ret := none) hy hw ?_
  intro p e s m args below meth c s₁ B hml hv
  obtain ⟨rfl, hsz, hP, hK, hSG⟩ := hv
  have hown' : s.vm.findClass own = some m.cls := hown ▸ findClass_of_methodNamed B.named
  have hin : meth.name = "<init>" := ((name_of_methodNamed B.named B.method).1).trans hyn
  subst hsz
  have hA : ∀ q : Nat, s.heap.size ≤ q → va_A [(h0, .inr (ci, fs))] s.heap.size q := fun q h => Or.inr h
  have hAB : ∀ q, va_A [(h0, .inr (ci, fs))] s.heap.size q → gA g q := fun q h => by
    rcases h with ⟨k, e2, hk⟩ | h
    · have hk0 : k = 0 := by
        have := (List.getElem?_eq_some_iff.mp hk).1
        simp only [List.length_cons, List.length_nil] at this
        omega
      subst hk0
      cases hk
      exact hB
    · exact Nat.le_trans hSG.2.2.2.2 h
  have hD : va_D (va_A [(h0, .inr (ci, fs))] s.heap.size) [(h0, .inr (ci, fs))] := by
    refine ⟨fun i j x y hi hj _ => ?_, fun k q hk => va_A.in hk⟩
    have h1 := (List.getElem?_eq_some_iff.mp hi).1
    have h2 := (List.getElem?_eq_some_iff.mp hj).1
    simp only [List.length_cons, List.length_nil] at h1 h2
    omega
  have hl := lv_entry ([.ref h0]) (n := nL) hnL
  rw [lg_entry_eq]
  exact body p e s m _ below meth c _ h0 _ ⟨B.exec, B.bytes, hml, hown', atoms_spec (ws := ws) B.pre, hK, hA, hAB, hSG⟩ hin B.returns B.notSynchronized hl s.heap [] hP hD va_S.rf
