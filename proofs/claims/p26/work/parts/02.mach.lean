/-! the abstract machine: the objects have fixed numbers, references never change, all that changes is a table of ints -/
abbrev aS : Type := Nat → Nat → Int32
abbrev aG : Type := (Nat → ClassId) × (Nat → Nat → Nat) × (Nat → Nat) × ClassId × ClassId × Nat
def gD (g : aG) : va_G := (g.1, g.2.1)
def gL (g : aG) : Nat → Nat := g.2.2.1
def gI (g : aG) : ClassId := g.2.2.2.1
def gQ (g : aG) : ClassId := g.2.2.2.2.1
def gB (g : aG) : Nat := g.2.2.2.2.2
def gA (g : aG) : Nat → Prop := fun q => gB g ≤ q
/-- kinds: 0 Blocks, 1 Cells, 2 History, 3 Log, 4 Reader, 5 State, 6 WoodcutPress, 7 the model, 8 int[], 9 State[], 10 nothing -/
def kdB (j : Nat) : Nat := if j = 0 then 0 else if j ≤ 4 then 1 else 8
def kdS (j : Nat) : Nat := if j = 0 then 5 else if j = 1 then 8 else if j = 2 then 3 else if j = 3 then 8 else if j < 10 then 10 else if j < 40 then kdB (j % 10) else 10
def kdT (o : Nat) : Nat := if o = 600 then 6 else if o = 601 then 2 else if o = 602 then 9 else if o = 603 then 4 else if o = 604 then 8 else if o < 609 then 1 else if o < 613 then 8 else 10
def kd (o : Nat) : Nat := if o < 600 then kdS (o % 100) else if o < 707 then kdT o else 10
def ln (o : Nat) : Nat := if o < 600 then (if o % 100 = 1 then 5 else if o % 100 = 3 then 72 else if o % 10 = 9 then 192 else 12) else if o = 602 then 5 else if o = 604 then 140 else if o < 700 then 12 else if o = 701 then 2374 else if o = 702 then 11870 else if o = 703 then 140 else if o = 704 then 384 else 192
def rf (o k : Nat) : Nat := match kd o with
  | 0 => if k = 0 then o + 1 else if k = 1 then o + 2 else if k = 2 then o + 3 else if k = 3 then o + 4 else o + 9
  | 1 => o + 4
  | 2 => 602
  | 3 => o + 1
  | 4 => if k = 0 then 604 else if k = 4 then 605 else 606
  | 5 => if k = 0 then o + 10 else if k = 1 then o + 1 else if k = 2 then o + 2 else if k = 6 then o + 20 else o + 30
  | 6 => if k = 0 then 0 else if k = 1 then 601 else if k = 2 then 603 else if k = 3 then 607 else 608
  | 7 => if k = 1 then 701 else if k = 2 then 702 else if k = 4 then 703 else if k = 6 then 704 else if k = 7 then 705 else 706
  | _ => 100 * (k + 1)
def nf (c : Nat) : Nat := match c with
  | 0 => 5
  | 1 => 1
  | 2 => 3
  | 3 => 3
  | 4 => 6
  | 5 => 10
  | 6 => 5
  | _ => 15
def isR (c k : Nat) : Bool := match c with
  | 0 => true
  | 1 => true
  | 2 => k == 0
  | 3 => k == 0
  | 4 => k == 0 || k == 4 || k == 5
  | 5 => k == 0 || k == 1 || k == 2 || k == 6 || k == 7
  | 6 => true
  | _ => k == 1 || k == 2 || k == 4 || k == 6 || k == 7 || k == 11
def fV (g : aG) (σ : aS) (o k : Nat) : Value := if isR (kd o) k then .ref (gL g (rf o k)) else .int (σ o k)
def cE (g : aG) (σ : aS) (o : Nat) : va_E := if kd o < 8 then .inr (kd o, (List.range (nf (kd o))).map (fV g σ o)) else if kd o = 8 then .inl (gI g, ln o, .inl (σ o)) else .inl (gQ g, ln o, .inr (.inr (.inr (.inr (fun k => some (gL g (rf o k)))))))
def un : List Nat := (List.range 707).filter (fun o => decide (kd o < 10))
def wL (g : aG) (σ : aS) : va_W := un.map (fun o => (gL g o, cE g σ o))
def sP (σ : aS) (o : Nat) (f : Nat → Int32) : aS := fun q => if q = o then f else σ q
theorem sP_same (σ : aS) (o : Nat) (f : Nat → Int32) : sP σ o f o = f := by simp [sP]
theorem sP_ne {σ : aS} {o q : Nat} {f : Nat → Int32} (h : q ≠ o) : sP σ o f q = σ q := by simp [sP, h]
def RH (g : aG) (σ : aS) (H : Heap) : Prop := va_P (gD g) vwCl (wL g σ) H
def GL (g : aG) : Prop := (∀ a b, kd a < 10 → kd b < 10 → gL g a = gL g b → a = b) ∧ ∀ a, kd a < 10 → gB g ≤ gL g a
def tlo : List Int32 := [0, -4, -4, 1, 0]
def thi : List Int32 := [100, 4, 4, 1000, 10]
def nwl : List Cond := [.methodLinkNest RX1 22 yX6_isPlace RX6, .methodLinkNest RX0 53 yX6_oneIf RX6, .methodLinkNest RX0 74 yX6_isPlace RX6, .methodLinkNest RX1 38 yX6_oneIf RX6, .methodLinkNest RX5 81 yX6_oneIf RX6, .methodLinkNest RX3 34 yX6_isWithin RX6]
def aTys (g : aG) : List (ClassId × FieldType) := [(gI g, .int), (gQ g, .object RX5)]
def GK (g : aG) (U : State) (H : Heap) : Prop := GL g ∧ va_K (gD g) vwCl (aTys g) U ∧ (∀ w ∈ nwl, va_Nw w U) ∧ va_Z RX6 "LEAST_SETTINGS" "[I" (.ref (gL g 801)) (gA g) U H ∧ va_T .int (gL g 801) 5 (fun k => .int (tlo.getD k 0)) (gA g) U H ∧ va_Z RX6 "GREATEST_SETTINGS" "[I" (.ref (gL g 802)) (gA g) U H ∧ va_T .int (gL g 802) 5 (fun k => .int (thi.getD k 0)) (gA g) U H ∧ gB g ≤ H.size
def cv (g : aG) : Value → Value
  | .ref o => .ref (gL g o)
  | .int x => .int x
  | _ => .null
theorem cv_cat (g : aG) (v : Value) : (cv g v).category = 1 := by cases v <;> rfl
theorem cv_sum (g : aG) : ∀ st : List Value, ((st.map (cv g)).map fun v => v.category).sum = st.length
  | [] => rfl
  | v :: st => by
    simp only [List.map_cons, List.sum_cons, List.length_cons, cv_cat, cv_sum g st]
    omega
def LL (g : aG) (jl : Array Slot) (ls : List (Option Value)) : Prop := jl.size = ls.length ∧ lv_wf jl ∧ ∀ (i : Nat) (w : Value), ls[i]? = some (some w) → jl[i]? = some (Slot.val (cv g w))
def asc (g : aG) (ls : List (Option Value)) : List (Nat × Value) := (List.range ls.length).filterMap (fun i => (ls[i]?.join).map (fun v => (i, cv g v)))
theorem asc_mem {g : aG} {ls : List (Option Value)} {q : Nat × Value} : q ∈ asc g ls ↔ ∃ w, ls[q.1]? = some (some w) ∧ q.2 = cv g w := by
  unfold asc
  rw [List.mem_filterMap]
  constructor
  · rintro ⟨i, hi, h⟩
    cases hj : ls[i]? with
    | none => rw [hj] at h; simp at h
    | some o =>
      cases o with
      | none => rw [hj] at h; simp at h
      | some w =>
        rw [hj] at h
        simp at h
        subst h
        exact ⟨w, hj, rfl⟩
  · rintro ⟨w, h1, h2⟩
    refine ⟨q.1, List.mem_range.mpr (List.getElem?_eq_some_iff.mp h1).1, ?_⟩
    rw [h1]
    simp [← h2]
theorem LL.has {g : aG} {jl : Array Slot} {ls : List (Option Value)} (h : LL g jl ls) : lv_has jl jl.size (asc g ls) := by
  refine ⟨rfl, h.2.1, fun q hq => ?_⟩
  obtain ⟨w, h1, h2⟩ := asc_mem.mp hq
  rw [h2]
  exact h.2.2 _ w h1
theorem LL.set {g : aG} {jl' : Array Slot} {ls : List (Option Value)} {i : Nat} {v : Value} {n : Nat} (hn : n = ls.length) (h : lv_has jl' n ((i, cv g v) :: (asc g ls).filter (fun q => !(q.1 == i) && !(q.1 + 1 == i && q.2.category == 2)))) : LL g jl' (ls.set i (some v)) := by
  refine ⟨by rw [h.1, hn, List.length_set], h.2.1, fun j w hj => ?_⟩
  by_cases hji : i = j
  · subst hji
    rw [List.getElem?_set] at hj
    split at hj
    · split at hj
      · cases hj
        exact h.2.2 (i, cv g v) List.mem_cons_self
      · cases hj
    · rename_i hne
      exact absurd rfl hne
  · rw [List.getElem?_set_ne hji] at hj
    refine h.2.2 (j, cv g w) (List.mem_cons_of_mem _ (List.mem_filter.mpr ⟨asc_mem.mpr ⟨w, hj, rfl⟩, ?_⟩))
    have h1 : (j == i) = false := by simp; exact fun q => hji q.symm
    have h2 : ((cv g w).category == 2) = false := by rw [cv_cat]; rfl
    simp [h1, h2]
theorem un_mem {o : Nat} (h : kd o < 10) : o ∈ un := by
  refine List.mem_filter.mpr ⟨List.mem_range.mpr ?_, by simpa using h⟩
  rcases Nat.lt_or_ge o 707 with q | q
  · exact q
  · exact absurd h (by unfold kd; rw [if_neg (by omega), if_neg (by omega)]; decide)
theorem un_at {o : Nat} (h : kd o < 10) : ∃ q0 : Nat, un[q0]? = some o := by
  obtain ⟨i, hi⟩ := List.getElem?_of_mem (un_mem h)
  exact ⟨i, hi⟩
theorem un_nd : un.Nodup := List.Nodup.sublist List.filter_sublist List.nodup_range
theorem un_inj {i j o : Nat} (h1 : un[i]? = some o) (h2 : un[j]? = some o) : i = j := by
  obtain ⟨a1, a2⟩ := List.getElem?_eq_some_iff.mp h1
  obtain ⟨b1, b2⟩ := List.getElem?_eq_some_iff.mp h2
  rcases Nat.lt_trichotomy i j with h | h | h
  · exact absurd (a2.trans b2.symm) (List.pairwise_iff_getElem.mp un_nd i j a1 b1 h)
  · exact h
  · exact absurd (b2.trans a2.symm) (List.pairwise_iff_getElem.mp un_nd j i b1 a1 h)
theorem wL_at {g : aG} {σ : aS} {o q0 : Nat} (h : un[q0]? = some o) : (wL g σ)[q0]? = some (gL g o, cE g σ o) := by simp [wL, h]
theorem cE_ne {g : aG} {σ : aS} {o q : Nat} {f : Nat → Int32} (h : q ≠ o) : cE g (sP σ o f) q = cE g σ q := by
  have e : fV g (sP σ o f) q = fV g σ q := by
    funext k
    simp [fV, sP_ne h]
  simp [cE, e, sP_ne h]
theorem wL_set {g : aG} {σ : aS} {o q0 : Nat} {f : Nat → Int32} (h : un[q0]? = some o) : (wL g σ).set q0 (gL g o, cE g (sP σ o f) o) = wL g (sP σ o f) := by
  apply List.ext_getElem?
  intro i
  by_cases hi : q0 = i
  · subst hi
    have hl : q0 < (wL g σ).length := by
      unfold wL
      rw [List.length_map]
      exact (List.getElem?_eq_some_iff.mp h).1
    rw [List.getElem?_set_self hl, wL_at h]
  · rw [List.getElem?_set_ne hi]
    unfold wL
    rw [List.getElem?_map, List.getElem?_map]
    cases hj : un[i]? with
    | none => rfl
    | some o2 =>
      have hne : o2 ≠ o := by
        intro e
        subst e
        exact hi (un_inj h hj)
      simp only [Option.map_some]
      rw [cE_ne hne]
theorem wL_D {g : aG} {σ : aS} (h : GL g) : va_D (gA g) (wL g σ) := by
  have key : ∀ (i : Nat) (p : Nat × va_E), (wL g σ)[i]? = some p → ∃ o, un[i]? = some o ∧ p.1 = gL g o ∧ kd o < 10 := by
    intro i p hp
    unfold wL at hp
    rw [List.getElem?_map] at hp
    cases hj : un[i]? with
    | none => rw [hj] at hp; cases hp
    | some o =>
      rw [hj] at hp
      cases hp
      refine ⟨o, rfl, rfl, ?_⟩
      have := (List.mem_filter.mp (List.mem_of_getElem? hj)).2
      simpa using this
  refine ⟨fun i j p q hi hj e => ?_, fun k q hk => ?_⟩
  · obtain ⟨a, a1, a2, a3⟩ := key i p hi
    obtain ⟨b, b1, b2, b3⟩ := key j q hj
    have hab : a = b := h.1 a b a3 b3 (a2.symm.trans (e.trans b2))
    subst hab
    exact un_inj a1 b1
  · obtain ⟨a, a1, a2, a3⟩ := key k q hk
    show gB g ≤ q.1
    rw [a2]
    exact h.2 a a3
theorem GK.kept {g : aG} {U : State} {H0 H : Heap} {locs : List Loc} (h : GK g U H0) (hS : va_S (gA g) H0 H locs) : GK g U H := by
  obtain ⟨h1, h2, h3, h4, h5, h6, h7, h8⟩ := h
  exact ⟨h1, h2, h3, h4.kept hS.2.1, h5.kept hS.2.1, h6.kept hS.2.1, h7.kept hS.2.1, Nat.le_trans h8 hS.1⟩
theorem nwl_warm {s U : State} (hW : s.WarmedH U.vm) (h : ∀ w ∈ nwl, va_Nw w s) : ∀ w ∈ nwl, va_Nw w U := by
  intro w hw
  have h1 := h w hw
  simp only [nwl, List.mem_cons, List.not_mem_nil, or_false] at hw
  rcases hw with rfl | rfl | rfl | rfl | rfl | rfl <;> exact va_Nw.warmM hW h1
theorem GK.moved {g : aG} {s U : State} {H : Heap} (hW : s.WarmedH U.vm) (h : GK g s H) : GK g U H := by
  obtain ⟨h1, h2, h3, h4, h5, h6, h7, h8⟩ := h
  exact ⟨h1, va_K.moved hW.alike h2, nwl_warm hW h3, va_Z.moved hW.alike h4, va_T.moved hW.alike h5, va_Z.moved hW.alike h6, va_T.moved hW.alike h7, h8⟩
theorem nwl_vm {s U : State} (e : s.vm = U.vm) (h : ∀ w ∈ nwl, va_Nw w s) : ∀ w ∈ nwl, va_Nw w U := by
  intro w hw
  have h1 := h w hw
  simp only [nwl, List.mem_cons, List.not_mem_nil, or_false] at hw
  rcases hw with rfl | rfl | rfl | rfl | rfl | rfl <;> exact va_Nw.same rfl e h1
theorem GK.vm {g : aG} {s U : State} {H : Heap} (e : s.vm = U.vm) (h : GK g s H) : GK g U H := by
  obtain ⟨h1, h2, h3, h4, h5, h6, h7, h8⟩ := h
  have hA : s.vm.Alike U.vm := by rw [e]; exact Vm.Alike.refl _
  exact ⟨h1, va_K.moved hA h2, nwl_vm e h3, va_Z.moved hA h4, va_T.moved hA h5, va_Z.moved hA h6, va_T.moved hA h7, h8⟩
/-! the judgement -/
abbrev KT : Type := Program × Launch × Env × Room × State × MethodId × Array Value × List Frame × Method × Code × Nat × Nat × (State → Prop) × aG
def kG (K : KT) : aG := K.2.2.2.2.2.2.2.2.2.2.2.2.2
def kL (K : KT) : Launch := K.2.1
def AW (K : KT) (pc : Nat) (ls : List (Option Value)) (st : List Value) (σ : aS) : Prop := match K with
  | (p, l, e, R, s, m, args, below, meth, c, cells, slots, Q, g) => ∀ (H : Heap) (locs : List Loc) (jl : Array Slot), RH g σ H → va_S (gA g) s.heap H locs → jl.size = c.maxLocals → LL g jl ls → W p l e R s m args below meth c H locs cells slots Q (F0 m pc jl (st.map (cv g)))
def OKc (K : KT) (cc : ByteArray) (own : String) (Ts : List Cond) (fr lo : Nat) : Prop := match K with
  | (p, _, _, R, s, m, args, _, _, c, cells, slots, _, g) => p.tables.exec = Jvm.exec ∧ c.code = cc ∧ s.vm.findClass own = some m.cls ∧ (∀ w ∈ Ts, w.before args s = true) ∧ GK g s s.heap ∧ fr ≤ R.frames ∧ lo ≤ R.locals ∧ cells ≤ R.cells ∧ slots ≤ R.slots
def CQ (g : aG) (r : Option Value) (σ : aS) : Array Value → State → Outcome → State → Prop := fun _ st o t => (o = .returned (r.map (cv g)) ∧ RH g σ t.heap) ∧ va_F (gA g) st t
def KE (K : KT) (ret : Option FieldType) (r : Option Value) (σ : aS) : Prop := match K with
  | (_, _, _, _, s, _, args, below, meth, _, cells, slots, Q, g) => meth.sig.returnType = ret ∧ meth.locks = false ∧ Q = MQ below (CQ g r σ) args s cells slots (gA g)
def CN (g : aG) (l : Launch) (y : MethodName) (ws : List Cond) (fr lo : Nat) (as : List Value) (σ : aS) (r : Option Value) (σ' : aS) : Prop :=
  Met l y ws ({ frames := fr, cells := 0, slots := 0, locals := lo } : Jvm.Room) (va_Pc (as.map (cv g)) (fun U => RH g σ U.heap ∧ GK g U U.heap)) (CQ g r σ') 0 0 (gA g)
/-- first locals -/
def iL : List Value → Nat → List (Option Value)
  | _, 0 => []
  | [], n + 1 => none :: iL [] n
  | v :: vs, n + 1 => some v :: iL vs n
theorem iL_nil : ∀ (n i : Nat) (w : Value), (iL [] n)[i]? ≠ some (some w)
  | 0, i, w => by simp [iL]
  | n + 1, 0, w => by simp [iL]
  | n + 1, i + 1, w => by simp only [iL, List.getElem?_cons_succ]; exact iL_nil n i w
theorem iL_at : ∀ (as : List Value) (n i : Nat) (w : Value), (iL as n)[i]? = some (some w) → as[i]? = some w
  | _, 0, i, w, h => by simp [iL] at h
  | [], n + 1, i, w, h => absurd h (iL_nil (n + 1) i w)
  | v :: vs, n + 1, 0, w, h => by simp [iL] at h; simp [h]
  | v :: vs, n + 1, i + 1, w, h => by simp only [iL, List.getElem?_cons_succ] at h ⊢; exact iL_at vs n i w h
theorem iL_len : ∀ (as : List Value) (n : Nat), (iL as n).length = n
  | _, 0 => by simp [iL]
  | [], n + 1 => by simp [iL, iL_len [] n]
  | v :: vs, n + 1 => by simp [iL, iL_len vs n]
theorem lg_sl_cv (g : aG) : ∀ as : List Value, lg_sl (as.map (cv g)) = as.map (fun v => Slot.val (cv g v))
  | [] => rfl
  | v :: vs => by
    have h := lg_sl_cv g vs
    unfold lg_sl at h ⊢
    simp only [List.map_cons, List.flatMap_cons, cv_cat, h]
    rfl
theorem cn_of {g : aG} {l : Launch} {y : MethodName} {ws ws' : List Cond} {cc : ByteArray} {nL : Nat} {ret : Option FieldType} {own : String} {fr lo : Nat} {as : List Value} {σ : aS} {r : Option Value} {σ' : aS} (hy : plainName y.cls = true) (hown : y.cls = own) (hw : ws = .code y cc nL ret :: ws') (hlen : as.length ≤ nL)
    (body : ∀ K : KT, kG K = g → kL K = l → OKc K cc own ws fr lo → KE K ret r σ' → AW K 0 (iL as nL) [] σ) : CN g l y ws fr lo as σ r σ' := by
  refine Met.ofW (cc := cc) (maxL := nL) (ret := ret) hy hw ?_
  intro p e s m args below meth c s₁ B hml hv
  obtain ⟨rfl, hR, hGK⟩ := hv
  have hown' : s.vm.findClass own = some m.cls := hown ▸ findClass_of_methodNamed B.named
  have h := body (p, l, e, ({ frames := fr, cells := 0, slots := 0, locals := lo } : Jvm.Room), s, m, (as.map (cv g)).toArray, below, meth, c, 0, 0, MQ below (CQ g r σ') (as.map (cv g)).toArray s 0 0 (gA g), g) rfl rfl
    ⟨B.exec, B.bytes, hown', atoms_spec (ws := ws) B.pre, hGK, Nat.le_refl _, Nat.le_refl _, Nat.le_refl _, Nat.le_refl _⟩ ⟨B.returns, B.notSynchronized, rfl⟩
  have hs : (lg_sl (as.map (cv g))).length ≤ nL := by rw [lg_sl_cv, List.length_map]; exact hlen
  rw [lg_entry_eq]
  have hl := lv_entry (as.map (cv g)) (n := nL) hs
  refine h s.heap [] _ hR va_S.rf ?_ ⟨?_, hl.2.1, fun i w hi => ?_⟩
  · rw [hl.1, hml]
  · rw [hl.1, iL_len]
  · have ha := iL_at as nL i w hi
    rw [lg_sl_cv]
    have hi2 : i < as.length := (List.getElem?_eq_some_iff.mp ha).1
    rw [List.getElem?_toArray, List.getElem?_append_left (by rw [List.length_map]; exact hi2), List.getElem?_map, ha]
    rfl
section AR
variable {K : KT} {cc : ByteArray} {own : String} {Ts : List Cond} {fr lo pc : Nat} {ls : List (Option Value)} {st : List Value} {σ : aS}

/-- a step that leaves heap and locals -/

theorem s_iconst {n : Int} {v : Int32} (hK : OKc K cc own Ts fr lo) (hd : decode cc pc = .ok (.iconst n, 1)) (hv : Int32.ofInt n = v) (k : AW K (pc + 1) ls (.int v :: st) σ) : AW K pc ls st σ := by
  obtain ⟨p, l, e, R, s, m, args, below, meth, c, cells, slots, Q, g⟩ := K
  obtain ⟨hx, hb, hown, hts, hGK, hfr, hlo, hcl, hsl⟩ := hK
  intro H locs jl hR hS hsz hl
  exact lv_iconst hx hb hd hv (k H locs jl hR hS hsz hl)
theorem s_bipush {n : Int} {v : Int32} (hK : OKc K cc own Ts fr lo) (hd : decode cc pc = .ok (.bipush n, 2)) (hv : (Int8.ofInt n).toInt32 = v) (k : AW K (pc + 2) ls (.int v :: st) σ) : AW K pc ls st σ := by
  obtain ⟨p, l, e, R, s, m, args, below, meth, c, cells, slots, Q, g⟩ := K
  obtain ⟨hx, hb, hown, hts, hGK, hfr, hlo, hcl, hsl⟩ := hK
  intro H locs jl hR hS hsz hl
  exact lv_bipush hx hb hd hv (k H locs jl hR hS hsz hl)
theorem s_sipush {n : Int} {v : Int32} (hK : OKc K cc own Ts fr lo) (hd : decode cc pc = .ok (.sipush n, 3)) (hv : (Int16.ofInt n).toInt32 = v) (k : AW K (pc + 3) ls (.int v :: st) σ) : AW K pc ls st σ := by
  obtain ⟨p, l, e, R, s, m, args, below, meth, c, cells, slots, Q, g⟩ := K
  obtain ⟨hx, hb, hown, hts, hGK, hfr, hlo, hcl, hsl⟩ := hK
  intro H locs jl hR hS hsz hl
  exact lv_sipush hx hb hd hv (k H locs jl hR hS hsz hl)
theorem s_ldc {v : Int32} {idx : Nat} (hK : OKc K cc own Ts fr lo) (hd : decode cc pc = .ok (.ldc idx, 2)) (hc : Jvm.Cond.constant own idx v ∈ Ts) (k : AW K (pc + 2) ls (.int v :: st) σ) : AW K pc ls st σ := by
  obtain ⟨p, l, e, R, s, m, args, below, meth, c, cells, slots, Q, g⟩ := K
  obtain ⟨hx, hb, hown, hts, hGK, hfr, hlo, hcl, hsl⟩ := hK
  intro H locs jl hR hS hsz hl
  exact lv_ldc hx hb hown (hts _ hc) hd (k H locs jl hR hS hsz hl)
theorem s_ldcw {v : Int32} {idx : Nat} (hK : OKc K cc own Ts fr lo) (hd : decode cc pc = .ok (.ldc_w idx, 3)) (hc : Jvm.Cond.constant own idx v ∈ Ts) (k : AW K (pc + 3) ls (.int v :: st) σ) : AW K pc ls st σ := by
  obtain ⟨p, l, e, R, s, m, args, below, meth, c, cells, slots, Q, g⟩ := K
  obtain ⟨hx, hb, hown, hts, hGK, hfr, hlo, hcl, hsl⟩ := hK
  intro H locs jl hR hS hsz hl
  exact lv_ldcw hx hb hown (hts _ hc) hd (k H locs jl hR hS hsz hl)
theorem s_iloadn {k : Fin 4} {i : Nat} {x : Int32} (hK : OKc K cc own Ts fr lo) (hd : decode cc pc = .ok (.iload_n k, 1)) (hi : (k : Nat) = i) (h : ls[i]? = some (some (.int x))) (k : AW K (pc + 1) ls (.int x :: st) σ) : AW K pc ls st σ := by
  obtain ⟨p, l, e, R, s, m, args, below, meth, c, cells, slots, Q, g⟩ := K
  obtain ⟨hx, hb, hown, hts, hGK, hfr, hlo, hcl, hsl⟩ := hK
  intro H locs jl hR hS hsz hl
  exact lv_iload_n hx hb hd hi (hl.2.2 i _ h) (k H locs jl hR hS hsz hl)
theorem s_iloadg {i : Nat} {x : Int32} (hK : OKc K cc own Ts fr lo) (hd : decode cc pc = .ok (.iload i, 2)) (h : ls[i]? = some (some (.int x))) (k : AW K (pc + 2) ls (.int x :: st) σ) : AW K pc ls st σ := by
  obtain ⟨p, l, e, R, s, m, args, below, meth, c, cells, slots, Q, g⟩ := K
  obtain ⟨hx, hb, hown, hts, hGK, hfr, hlo, hcl, hsl⟩ := hK
  intro H locs jl hR hS hsz hl
  exact lv_iload hx hb hd (hl.2.2 i _ h) (k H locs jl hR hS hsz hl)
theorem s_aloadn {k : Fin 4} {i o : Nat} (hK : OKc K cc own Ts fr lo) (hd : decode cc pc = .ok (.aload_n k, 1)) (hi : (k : Nat) = i) (h : ls[i]? = some (some (.ref o))) (k : AW K (pc + 1) ls (.ref o :: st) σ) : AW K pc ls st σ := by
  obtain ⟨p, l, e, R, s, m, args, below, meth, c, cells, slots, Q, g⟩ := K
  obtain ⟨hx, hb, hown, hts, hGK, hfr, hlo, hcl, hsl⟩ := hK
  intro H locs jl hR hS hsz hl
  exact lv_aload_n hx hb hd hi (hl.2.2 i _ h) (k H locs jl hR hS hsz hl)
theorem s_aloadg {i o : Nat} (hK : OKc K cc own Ts fr lo) (hd : decode cc pc = .ok (.aload i, 2)) (h : ls[i]? = some (some (.ref o))) (k : AW K (pc + 2) ls (.ref o :: st) σ) : AW K pc ls st σ := by
  obtain ⟨p, l, e, R, s, m, args, below, meth, c, cells, slots, Q, g⟩ := K
  obtain ⟨hx, hb, hown, hts, hGK, hfr, hlo, hcl, hsl⟩ := hK
  intro H locs jl hR hS hsz hl
  exact lv_aload hx hb hd (hl.2.2 i _ h) (k H locs jl hR hS hsz hl)
theorem s_istoren {k : Fin 4} {i : Nat} {x : Int32} (hK : OKc K cc own Ts fr lo) (hd : decode cc pc = .ok (.istore_n k, 1)) (hi : (k : Nat) = i) (hin : i < ls.length) (k : AW K (pc + 1) (ls.set i (some (.int x))) st σ) : AW K pc ls (.int x :: st) σ := by
  obtain ⟨p, l, e, R, s, m, args, below, meth, c, cells, slots, Q, g⟩ := K
  obtain ⟨hx, hb, hown, hts, hGK, hfr, hlo, hcl, hsl⟩ := hK
  intro H locs jl hR hS hsz hl
  refine lv_istore_n hx hb hd hi hl.has (by rw [hl.1]; exact hin) rfl (fun jl' h9 => k H locs jl' hR hS (by rw [h9.1]; exact hsz) (LL.set hl.1 h9))
theorem s_istoreg {i : Nat} {x : Int32} (hK : OKc K cc own Ts fr lo) (hd : decode cc pc = .ok (.istore i, 2)) (hin : i < ls.length) (k : AW K (pc + 2) (ls.set i (some (.int x))) st σ) : AW K pc ls (.int x :: st) σ := by
  obtain ⟨p, l, e, R, s, m, args, below, meth, c, cells, slots, Q, g⟩ := K
  obtain ⟨hx, hb, hown, hts, hGK, hfr, hlo, hcl, hsl⟩ := hK
  intro H locs jl hR hS hsz hl
  refine lv_istore hx hb hd hl.has (by rw [hl.1]; exact hin) rfl (fun jl' h9 => k H locs jl' hR hS (by rw [h9.1]; exact hsz) (LL.set hl.1 h9))
theorem s_astoren {k : Fin 4} {i o : Nat} (hK : OKc K cc own Ts fr lo) (hd : decode cc pc = .ok (.astore_n k, 1)) (hi : (k : Nat) = i) (hin : i < ls.length) (k : AW K (pc + 1) (ls.set i (some (.ref o))) st σ) : AW K pc ls (.ref o :: st) σ := by
  obtain ⟨p, l, e, R, s, m, args, below, meth, c, cells, slots, Q, g⟩ := K
  obtain ⟨hx, hb, hown, hts, hGK, hfr, hlo, hcl, hsl⟩ := hK
  intro H locs jl hR hS hsz hl
  refine lv_astore_n hx hb hd hi hl.has (by rw [hl.1]; exact hin) rfl (fun jl' h9 => k H locs jl' hR hS (by rw [h9.1]; exact hsz) (LL.set hl.1 h9))
theorem s_astoreg {i o : Nat} (hK : OKc K cc own Ts fr lo) (hd : decode cc pc = .ok (.astore i, 2)) (hin : i < ls.length) (k : AW K (pc + 2) (ls.set i (some (.ref o))) st σ) : AW K pc ls (.ref o :: st) σ := by
  obtain ⟨p, l, e, R, s, m, args, below, meth, c, cells, slots, Q, g⟩ := K
  obtain ⟨hx, hb, hown, hts, hGK, hfr, hlo, hcl, hsl⟩ := hK
  intro H locs jl hR hS hsz hl
  refine lv_astore hx hb hd hl.has (by rw [hl.1]; exact hin) rfl (fun jl' h9 => k H locs jl' hR hS (by rw [h9.1]; exact hsz) (LL.set hl.1 h9))
theorem s_iincg {i : Nat} {z : Int} {x v : Int32} (hK : OKc K cc own Ts fr lo) (hd : decode cc pc = .ok (.iinc i z, 3)) (h : ls[i]? = some (some (.int x))) (hv : x + Int32.ofInt z = v) (hin : i < ls.length) (k : AW K (pc + 3) (ls.set i (some (.int v))) st σ) : AW K pc ls st σ := by
  obtain ⟨p, l, e, R, s, m, args, below, meth, c, cells, slots, Q, g⟩ := K
  obtain ⟨hx, hb, hown, hts, hGK, hfr, hlo, hcl, hsl⟩ := hK
  intro H locs jl hR hS hsz hl
  obtain ⟨k0, hk0⟩ := List.getElem?_of_mem (asc_mem (g := g) (ls := ls) (q := (i, .int x)).mpr ⟨_, h, rfl⟩)
  refine lv_iinc hx hb hd hl.has hk0 hv (by rw [hl.1]; exact hin) rfl (fun jl' h9 => k H locs jl' hR hS (by rw [h9.1]; exact hsz) (LL.set hl.1 h9))
theorem s_iadd {x y : Int32} (hK : OKc K cc own Ts fr lo) (hd : decode cc pc = .ok (.iadd, 1)) (k : AW K (pc + 1) ls (.int (x + y) :: st) σ) : AW K pc ls (.int y :: .int x :: st) σ := by
  obtain ⟨p, l, e, R, s, m, args, below, meth, c, cells, slots, Q, g⟩ := K
  obtain ⟨hx, hb, hown, hts, hGK, hfr, hlo, hcl, hsl⟩ := hK
  intro H locs jl hR hS hsz hl
  exact lv_iadd hx hb hd (k H locs jl hR hS hsz hl)
theorem s_isub {x y : Int32} (hK : OKc K cc own Ts fr lo) (hd : decode cc pc = .ok (.isub, 1)) (k : AW K (pc + 1) ls (.int (x - y) :: st) σ) : AW K pc ls (.int y :: .int x :: st) σ := by
  obtain ⟨p, l, e, R, s, m, args, below, meth, c, cells, slots, Q, g⟩ := K
  obtain ⟨hx, hb, hown, hts, hGK, hfr, hlo, hcl, hsl⟩ := hK
  intro H locs jl hR hS hsz hl
  exact lv_isub hx hb hd (k H locs jl hR hS hsz hl)
theorem s_imul {x y : Int32} (hK : OKc K cc own Ts fr lo) (hd : decode cc pc = .ok (.imul, 1)) (k : AW K (pc + 1) ls (.int (x * y) :: st) σ) : AW K pc ls (.int y :: .int x :: st) σ := by
  obtain ⟨p, l, e, R, s, m, args, below, meth, c, cells, slots, Q, g⟩ := K
  obtain ⟨hx, hb, hown, hts, hGK, hfr, hlo, hcl, hsl⟩ := hK
  intro H locs jl hR hS hsz hl
  exact lv_imul hx hb hd (k H locs jl hR hS hsz hl)
theorem s_iand {x y : Int32} (hK : OKc K cc own Ts fr lo) (hd : decode cc pc = .ok (.iand, 1)) (k : AW K (pc + 1) ls (.int (x &&& y) :: st) σ) : AW K pc ls (.int y :: .int x :: st) σ := by
  obtain ⟨p, l, e, R, s, m, args, below, meth, c, cells, slots, Q, g⟩ := K
  obtain ⟨hx, hb, hown, hts, hGK, hfr, hlo, hcl, hsl⟩ := hK
  intro H locs jl hR hS hsz hl
  exact lv_iand hx hb hd (k H locs jl hR hS hsz hl)
theorem s_ior {x y : Int32} (hK : OKc K cc own Ts fr lo) (hd : decode cc pc = .ok (.ior, 1)) (k : AW K (pc + 1) ls (.int (x ||| y) :: st) σ) : AW K pc ls (.int y :: .int x :: st) σ := by
  obtain ⟨p, l, e, R, s, m, args, below, meth, c, cells, slots, Q, g⟩ := K
  obtain ⟨hx, hb, hown, hts, hGK, hfr, hlo, hcl, hsl⟩ := hK
  intro H locs jl hR hS hsz hl
  exact lv_ior hx hb hd (k H locs jl hR hS hsz hl)
theorem s_ixor {x y : Int32} (hK : OKc K cc own Ts fr lo) (hd : decode cc pc = .ok (.ixor, 1)) (k : AW K (pc + 1) ls (.int (x ^^^ y) :: st) σ) : AW K pc ls (.int y :: .int x :: st) σ := by
  obtain ⟨p, l, e, R, s, m, args, below, meth, c, cells, slots, Q, g⟩ := K
  obtain ⟨hx, hb, hown, hts, hGK, hfr, hlo, hcl, hsl⟩ := hK
  intro H locs jl hR hS hsz hl
  exact lv_ixor hx hb hd (k H locs jl hR hS hsz hl)
theorem s_ineg {x : Int32} (hK : OKc K cc own Ts fr lo) (hd : decode cc pc = .ok (.ineg, 1)) (k : AW K (pc + 1) ls (.int (-x) :: st) σ) : AW K pc ls (.int x :: st) σ := by
  obtain ⟨p, l, e, R, s, m, args, below, meth, c, cells, slots, Q, g⟩ := K
  obtain ⟨hx, hb, hown, hts, hGK, hfr, hlo, hcl, hsl⟩ := hK
  intro H locs jl hR hS hsz hl
  exact lv_ineg hx hb hd (k H locs jl hR hS hsz hl)
theorem s_idiv {x y : Int32} (hK : OKc K cc own Ts fr lo) (hd : decode cc pc = .ok (.idiv, 1)) (hne : ¬ y = 0) (k : AW K (pc + 1) ls (.int (x / y) :: st) σ) : AW K pc ls (.int y :: .int x :: st) σ := by
  obtain ⟨p, l, e, R, s, m, args, below, meth, c, cells, slots, Q, g⟩ := K
  obtain ⟨hx, hb, hown, hts, hGK, hfr, hlo, hcl, hsl⟩ := hK
  intro H locs jl hR hS hsz hl
  exact lv_idiv hx hb hd hne (k H locs jl hR hS hsz hl)
theorem s_irem {x y : Int32} (hK : OKc K cc own Ts fr lo) (hd : decode cc pc = .ok (.irem, 1)) (hne : ¬ y = 0) (k : AW K (pc + 1) ls (.int (x - x / y * y) :: st) σ) : AW K pc ls (.int y :: .int x :: st) σ := by
  obtain ⟨p, l, e, R, s, m, args, below, meth, c, cells, slots, Q, g⟩ := K
  obtain ⟨hx, hb, hown, hts, hGK, hfr, hlo, hcl, hsl⟩ := hK
  intro H locs jl hR hS hsz hl
  exact lv_irem hx hb hd hne (k H locs jl hR hS hsz hl)
theorem s_ishl {x y : Int32} (hK : OKc K cc own Ts fr lo) (hd : decode cc pc = .ok (.ishl, 1)) (k : AW K (pc + 1) ls (.int (x <<< (y &&& 31)) :: st) σ) : AW K pc ls (.int y :: .int x :: st) σ := by
  obtain ⟨p, l, e, R, s, m, args, below, meth, c, cells, slots, Q, g⟩ := K
  obtain ⟨hx, hb, hown, hts, hGK, hfr, hlo, hcl, hsl⟩ := hK
  intro H locs jl hR hS hsz hl
  exact lv_ishl hx hb hd (k H locs jl hR hS hsz hl)
theorem s_ishr {x y : Int32} (hK : OKc K cc own Ts fr lo) (hd : decode cc pc = .ok (.ishr, 1)) (k : AW K (pc + 1) ls (.int (x >>> (y &&& 31)) :: st) σ) : AW K pc ls (.int y :: .int x :: st) σ := by
  obtain ⟨p, l, e, R, s, m, args, below, meth, c, cells, slots, Q, g⟩ := K
  obtain ⟨hx, hb, hown, hts, hGK, hfr, hlo, hcl, hsl⟩ := hK
  intro H locs jl hR hS hsz hl
  exact lv_ishr hx hb hd (k H locs jl hR hS hsz hl)
theorem s_iushr {x y : Int32} (hK : OKc K cc own Ts fr lo) (hd : decode cc pc = .ok (.iushr, 1)) (k : AW K (pc + 1) ls (.int ((x.toUInt32 >>> (y.toUInt32 &&& Int32.toUInt32 31)).toInt32) :: st) σ) : AW K pc ls (.int y :: .int x :: st) σ := by
  obtain ⟨p, l, e, R, s, m, args, below, meth, c, cells, slots, Q, g⟩ := K
  obtain ⟨hx, hb, hown, hts, hGK, hfr, hlo, hcl, hsl⟩ := hK
  intro H locs jl hR hS hsz hl
  exact lv_iushr hx hb hd rfl (k H locs jl hR hS hsz hl)
theorem s_dup {v : Value} (hK : OKc K cc own Ts fr lo) (hd : decode cc pc = .ok (.dup, 1)) (k : AW K (pc + 1) ls (v :: v :: st) σ) : AW K pc ls (v :: st) σ := by
  obtain ⟨p, l, e, R, s, m, args, below, meth, c, cells, slots, Q, g⟩ := K
  obtain ⟨hx, hb, hown, hts, hGK, hfr, hlo, hcl, hsl⟩ := hK
  intro H locs jl hR hS hsz hl
  exact lv_dup hx hb hd (cv_cat g v) (k H locs jl hR hS hsz hl)
theorem s_pop {v : Value} (hK : OKc K cc own Ts fr lo) (hd : decode cc pc = .ok (.pop, 1)) (k : AW K (pc + 1) ls st σ) : AW K pc ls (v :: st) σ := by
  obtain ⟨p, l, e, R, s, m, args, below, meth, c, cells, slots, Q, g⟩ := K
  obtain ⟨hx, hb, hown, hts, hGK, hfr, hlo, hcl, hsl⟩ := hK
  intro H locs jl hR hS hsz hl
  exact lv_pop hx hb hd (cv_cat g v) (k H locs jl hR hS hsz hl)
theorem s_dup2 {v u : Value} (hK : OKc K cc own Ts fr lo) (hd : decode cc pc = .ok (.dup2, 1)) (k : AW K (pc + 1) ls (v :: u :: v :: u :: st) σ) : AW K pc ls (v :: u :: st) σ := by
  obtain ⟨p, l, e, R, s, m, args, below, meth, c, cells, slots, Q, g⟩ := K
  obtain ⟨hx, hb, hown, hts, hGK, hfr, hlo, hcl, hsl⟩ := hK
  intro H locs jl hR hS hsz hl
  exact lv_dup2_11 hx hb hd (cv_cat g v) (cv_cat g u) (k H locs jl hR hS hsz hl)
theorem s_goto {off : Int} {tgt : Nat} (hK : OKc K cc own Ts fr lo) (hd : decode cc pc = .ok (.goto off, 3)) (ht : (pc : Int) + off = (tgt : Int)) (k : AW K tgt ls st σ) : AW K pc ls st σ := by
  obtain ⟨p, l, e, R, s, m, args, below, meth, c, cells, slots, Q, g⟩ := K
  obtain ⟨hx, hb, hown, hts, hGK, hfr, hlo, hcl, hsl⟩ := hK
  intro H locs jl hR hS hsz hl
  exact lv_goto hx hb hd ht (k H locs jl hR hS hsz hl)
theorem s_if_eq {x : Int32} {off : Int} {tgt : Nat} (hK : OKc K cc own Ts fr lo) (hd : decode cc pc = .ok (.ifCond .eq off, 3)) (ht : (pc : Int) + off = (tgt : Int)) (kt : x = 0 → AW K tgt ls st σ) (kf : ¬ x = 0 → AW K (pc + 3) ls st σ) : AW K pc ls (.int x :: st) σ := by
  obtain ⟨p, l, e, R, s, m, args, below, meth, c, cells, slots, Q, g⟩ := K
  obtain ⟨hx, hb, hown, hts, hGK, hfr, hlo, hcl, hsl⟩ := hK
  intro H locs jl hR hS hsz hl
  exact lv_if_eq hx hb hd ht (fun h => kt h H locs jl hR hS hsz hl) (fun h => kf h H locs jl hR hS hsz hl)
theorem s_icmp_eq {x y : Int32} {off : Int} {tgt : Nat} (hK : OKc K cc own Ts fr lo) (hd : decode cc pc = .ok (.if_icmp .eq off, 3)) (ht : (pc : Int) + off = (tgt : Int)) (kt : x = y → AW K tgt ls st σ) (kf : ¬ x = y → AW K (pc + 3) ls st σ) : AW K pc ls (.int y :: .int x :: st) σ := by
  obtain ⟨p, l, e, R, s, m, args, below, meth, c, cells, slots, Q, g⟩ := K
  obtain ⟨hx, hb, hown, hts, hGK, hfr, hlo, hcl, hsl⟩ := hK
  intro H locs jl hR hS hsz hl
  exact lv_icmp_eq hx hb hd ht (fun h => kt h H locs jl hR hS hsz hl) (fun h => kf h H locs jl hR hS hsz hl)
theorem s_if_ne {x : Int32} {off : Int} {tgt : Nat} (hK : OKc K cc own Ts fr lo) (hd : decode cc pc = .ok (.ifCond .ne off, 3)) (ht : (pc : Int) + off = (tgt : Int)) (kt : ¬ x = 0 → AW K tgt ls st σ) (kf : x = 0 → AW K (pc + 3) ls st σ) : AW K pc ls (.int x :: st) σ := by
  obtain ⟨p, l, e, R, s, m, args, below, meth, c, cells, slots, Q, g⟩ := K
  obtain ⟨hx, hb, hown, hts, hGK, hfr, hlo, hcl, hsl⟩ := hK
  intro H locs jl hR hS hsz hl
  exact lv_if_ne hx hb hd ht (fun h => kt h H locs jl hR hS hsz hl) (fun h => kf h H locs jl hR hS hsz hl)
theorem s_icmp_ne {x y : Int32} {off : Int} {tgt : Nat} (hK : OKc K cc own Ts fr lo) (hd : decode cc pc = .ok (.if_icmp .ne off, 3)) (ht : (pc : Int) + off = (tgt : Int)) (kt : ¬ x = y → AW K tgt ls st σ) (kf : x = y → AW K (pc + 3) ls st σ) : AW K pc ls (.int y :: .int x :: st) σ := by
  obtain ⟨p, l, e, R, s, m, args, below, meth, c, cells, slots, Q, g⟩ := K
  obtain ⟨hx, hb, hown, hts, hGK, hfr, hlo, hcl, hsl⟩ := hK
  intro H locs jl hR hS hsz hl
  exact lv_icmp_ne hx hb hd ht (fun h => kt h H locs jl hR hS hsz hl) (fun h => kf h H locs jl hR hS hsz hl)
theorem s_if_lt {x : Int32} {off : Int} {tgt : Nat} (hK : OKc K cc own Ts fr lo) (hd : decode cc pc = .ok (.ifCond .lt off, 3)) (ht : (pc : Int) + off = (tgt : Int)) (kt : x < 0 → AW K tgt ls st σ) (kf : ¬ x < 0 → AW K (pc + 3) ls st σ) : AW K pc ls (.int x :: st) σ := by
  obtain ⟨p, l, e, R, s, m, args, below, meth, c, cells, slots, Q, g⟩ := K
  obtain ⟨hx, hb, hown, hts, hGK, hfr, hlo, hcl, hsl⟩ := hK
  intro H locs jl hR hS hsz hl
  exact lv_if_lt hx hb hd ht (fun h => kt h H locs jl hR hS hsz hl) (fun h => kf h H locs jl hR hS hsz hl)
theorem s_icmp_lt {x y : Int32} {off : Int} {tgt : Nat} (hK : OKc K cc own Ts fr lo) (hd : decode cc pc = .ok (.if_icmp .lt off, 3)) (ht : (pc : Int) + off = (tgt : Int)) (kt : x < y → AW K tgt ls st σ) (kf : ¬ x < y → AW K (pc + 3) ls st σ) : AW K pc ls (.int y :: .int x :: st) σ := by
  obtain ⟨p, l, e, R, s, m, args, below, meth, c, cells, slots, Q, g⟩ := K
  obtain ⟨hx, hb, hown, hts, hGK, hfr, hlo, hcl, hsl⟩ := hK
  intro H locs jl hR hS hsz hl
  exact lv_icmp_lt hx hb hd ht (fun h => kt h H locs jl hR hS hsz hl) (fun h => kf h H locs jl hR hS hsz hl)
theorem s_if_ge {x : Int32} {off : Int} {tgt : Nat} (hK : OKc K cc own Ts fr lo) (hd : decode cc pc = .ok (.ifCond .ge off, 3)) (ht : (pc : Int) + off = (tgt : Int)) (kt : 0 ≤ x → AW K tgt ls st σ) (kf : ¬ 0 ≤ x → AW K (pc + 3) ls st σ) : AW K pc ls (.int x :: st) σ := by
  obtain ⟨p, l, e, R, s, m, args, below, meth, c, cells, slots, Q, g⟩ := K
  obtain ⟨hx, hb, hown, hts, hGK, hfr, hlo, hcl, hsl⟩ := hK
  intro H locs jl hR hS hsz hl
  exact lv_if_ge hx hb hd ht (fun h => kt h H locs jl hR hS hsz hl) (fun h => kf h H locs jl hR hS hsz hl)
theorem s_icmp_ge {x y : Int32} {off : Int} {tgt : Nat} (hK : OKc K cc own Ts fr lo) (hd : decode cc pc = .ok (.if_icmp .ge off, 3)) (ht : (pc : Int) + off = (tgt : Int)) (kt : y ≤ x → AW K tgt ls st σ) (kf : ¬ y ≤ x → AW K (pc + 3) ls st σ) : AW K pc ls (.int y :: .int x :: st) σ := by
  obtain ⟨p, l, e, R, s, m, args, below, meth, c, cells, slots, Q, g⟩ := K
  obtain ⟨hx, hb, hown, hts, hGK, hfr, hlo, hcl, hsl⟩ := hK
  intro H locs jl hR hS hsz hl
  exact lv_icmp_ge hx hb hd ht (fun h => kt h H locs jl hR hS hsz hl) (fun h => kf h H locs jl hR hS hsz hl)
theorem s_if_gt {x : Int32} {off : Int} {tgt : Nat} (hK : OKc K cc own Ts fr lo) (hd : decode cc pc = .ok (.ifCond .gt off, 3)) (ht : (pc : Int) + off = (tgt : Int)) (kt : 0 < x → AW K tgt ls st σ) (kf : ¬ 0 < x → AW K (pc + 3) ls st σ) : AW K pc ls (.int x :: st) σ := by
  obtain ⟨p, l, e, R, s, m, args, below, meth, c, cells, slots, Q, g⟩ := K
  obtain ⟨hx, hb, hown, hts, hGK, hfr, hlo, hcl, hsl⟩ := hK
  intro H locs jl hR hS hsz hl
  exact lv_if_gt hx hb hd ht (fun h => kt h H locs jl hR hS hsz hl) (fun h => kf h H locs jl hR hS hsz hl)
theorem s_icmp_gt {x y : Int32} {off : Int} {tgt : Nat} (hK : OKc K cc own Ts fr lo) (hd : decode cc pc = .ok (.if_icmp .gt off, 3)) (ht : (pc : Int) + off = (tgt : Int)) (kt : y < x → AW K tgt ls st σ) (kf : ¬ y < x → AW K (pc + 3) ls st σ) : AW K pc ls (.int y :: .int x :: st) σ := by
  obtain ⟨p, l, e, R, s, m, args, below, meth, c, cells, slots, Q, g⟩ := K
  obtain ⟨hx, hb, hown, hts, hGK, hfr, hlo, hcl, hsl⟩ := hK
  intro H locs jl hR hS hsz hl
  exact lv_icmp_gt hx hb hd ht (fun h => kt h H locs jl hR hS hsz hl) (fun h => kf h H locs jl hR hS hsz hl)
theorem s_if_le {x : Int32} {off : Int} {tgt : Nat} (hK : OKc K cc own Ts fr lo) (hd : decode cc pc = .ok (.ifCond .le off, 3)) (ht : (pc : Int) + off = (tgt : Int)) (kt : x ≤ 0 → AW K tgt ls st σ) (kf : ¬ x ≤ 0 → AW K (pc + 3) ls st σ) : AW K pc ls (.int x :: st) σ := by
  obtain ⟨p, l, e, R, s, m, args, below, meth, c, cells, slots, Q, g⟩ := K
  obtain ⟨hx, hb, hown, hts, hGK, hfr, hlo, hcl, hsl⟩ := hK
  intro H locs jl hR hS hsz hl
  exact lv_if_le hx hb hd ht (fun h => kt h H locs jl hR hS hsz hl) (fun h => kf h H locs jl hR hS hsz hl)
theorem s_icmp_le {x y : Int32} {off : Int} {tgt : Nat} (hK : OKc K cc own Ts fr lo) (hd : decode cc pc = .ok (.if_icmp .le off, 3)) (ht : (pc : Int) + off = (tgt : Int)) (kt : x ≤ y → AW K tgt ls st σ) (kf : ¬ x ≤ y → AW K (pc + 3) ls st σ) : AW K pc ls (.int y :: .int x :: st) σ := by
  obtain ⟨p, l, e, R, s, m, args, below, meth, c, cells, slots, Q, g⟩ := K
  obtain ⟨hx, hb, hown, hts, hGK, hfr, hlo, hcl, hsl⟩ := hK
  intro H locs jl hR hS hsz hl
  exact lv_icmp_le hx hb hd ht (fun h => kt h H locs jl hR hS hsz hl) (fun h => kf h H locs jl hR hS hsz hl)
theorem s_tableOut {dflt lo2 hi : Int} {offs : Array Int} {len : Nat} {x : Int32} {tgt : Nat} (hK : OKc K cc own Ts fr lo) (hd : decode cc pc = .ok (.tableswitch dflt lo2 hi offs, len)) (h : x.toInt < lo2 ∨ hi < x.toInt) (ht : (pc : Int) + dflt = (tgt : Int)) (k : AW K tgt ls st σ) : AW K pc ls (.int x :: st) σ := by
  obtain ⟨p, l, e, R, s, m, args, below, meth, c, cells, slots, Q, g⟩ := K
  obtain ⟨hx, hb, hown, hts, hGK, hfr, hlo, hcl, hsl⟩ := hK
  intro H locs jl hR hS hsz hl
  exact lv_tableOut hx hb hd h ht (k H locs jl hR hS hsz hl)
theorem s_tableIn {dflt lo2 hi : Int} {offs : Array Int} {len : Nat} {x : Int32} {off : Int} {tgt : Nat} (hK : OKc K cc own Ts fr lo) (hd : decode cc pc = .ok (.tableswitch dflt lo2 hi offs, len)) (h1 : ¬ x.toInt < lo2) (h2 : ¬ hi < x.toInt) (ho : offs[(x.toInt - lo2).toNat]? = some off) (ht : (pc : Int) + off = (tgt : Int)) (k : AW K tgt ls st σ) : AW K pc ls (.int x :: st) σ := by
  obtain ⟨p, l, e, R, s, m, args, below, meth, c, cells, slots, Q, g⟩ := K
  obtain ⟨hx, hb, hown, hts, hGK, hfr, hlo, hcl, hsl⟩ := hK
  intro H locs jl hR hS hsz hl
  exact lv_tableIn hx hb hd h1 h2 ho ht (k H locs jl hR hS hsz hl)
theorem s_ifnull {o : Nat} {off : Int} (hK : OKc K cc own Ts fr lo) (hd : decode cc pc = .ok (.ifnull off, 3)) (k : AW K (pc + 3) ls st σ) : AW K pc ls (.ref o :: st) σ := by
  obtain ⟨p, l, e, R, s, m, args, below, meth, c, cells, slots, Q, g⟩ := K
  obtain ⟨hx, hb, hown, hts, hGK, hfr, hlo, hcl, hsl⟩ := hK
  intro H locs jl hR hS hsz hl
  exact lv_ifnull hx hb hd (k H locs jl hR hS hsz hl)
theorem cE_obj {g : aG} {σ : aS} {o ci : Nat} (hk : kd o = ci) (hc : ci < 8) : cE g σ o = .inr (ci, (List.range (nf ci)).map (fV g σ o)) := by
  subst hk
  simp [cE, hc]
theorem cE_arr {g : aG} {σ : aS} {o : Nat} (hk : kd o = 8) : cE g σ o = .inl (gI g, ln o, .inl (σ o)) := by
  simp [cE, hk]
theorem cE_refs {g : aG} {σ : aS} {o : Nat} (hk : kd o = 9) : cE g σ o = .inl (gQ g, ln o, .inr (.inr (.inr (.inr (fun k => some (gL g (rf o k))))))) := by
  simp [cE, hk]
theorem wL_obj {g : aG} {σ : aS} {o ci : Nat} (hk : kd o = ci) (hc : ci < 8) : ∃ q0 : Nat, un[q0]? = some o ∧ (wL g σ)[q0]? = some (gL g o, .inr (ci, (List.range (nf ci)).map (fV g σ o))) := by
  obtain ⟨q0, h⟩ := un_at (o := o) (by omega)
  exact ⟨q0, h, by rw [wL_at h, cE_obj hk hc]⟩
theorem wL_arr {g : aG} {σ : aS} {o : Nat} (hk : kd o = 8) : ∃ q0 : Nat, un[q0]? = some o ∧ (wL g σ)[q0]? = some (gL g o, .inl (gI g, ln o, .inl (σ o))) := by
  obtain ⟨q0, h⟩ := un_at (o := o) (by omega)
  exact ⟨q0, h, by rw [wL_at h, cE_arr hk]⟩
theorem map_range_set {α : Type} (f : Nat → α) (n k : Nat) (v : α) : ((List.range n).map f).set k v = (List.range n).map (fun j => if j = k then v else f j) := by
  apply List.ext_getElem?
  intro i
  by_cases hi : k = i
  · subst hi
    by_cases hk : k < n
    · rw [List.getElem?_set_self (by simpa using hk)]
      simp [hk]
    · rw [List.set_eq_of_length_le (by simpa using Nat.not_lt.mp hk)]
      simp [hk]
  · rw [List.getElem?_set_ne hi, List.getElem?_map, List.getElem?_map]
    cases h : (List.range n)[i]? with
    | none => rfl
    | some j =>
      have : j = i := by
        have := List.getElem?_eq_some_iff.mp h
        simpa using this.2.symm
      subst this
      simp [Ne.symm hi]
theorem fV_put {g : aG} {σ : aS} {o k : Nat} {x : Int32} (hr : isR (kd o) k = false) : (fun j => if j = k then .int x else fV g σ o j) = fV g (sP σ o (upd (σ o) k x)) o := by
  funext j
  by_cases hj : j = k
  · subst hj
    simp [fV, hr, sP, upd]
  · simp [fV, hj, sP, upd]
theorem s_getr {ci k o o' idx N : Nat} {C : String} {T : u_T} (hK : OKc K cc own Ts fr lo) (hk : kd o = ci) (hc : vwCl[ci]? = some (C, T, N)) (hin : ∀ w ∈ u_ws C T N, w ∈ Ts) (hlink : Cond.fieldLink own idx C (T k).2.1 (T k).2.2.1 ∈ Ts) (hd : decode cc pc = .ok (.getfield idx, 3)) (hk2 : k < N) (hk3 : k < nf ci) (hci : ci < 8) (hC : (T k).1 = C) (hr : isR ci k = true) (ho : rf o k = o') (kk : AW K (pc + 3) ls (.ref o' :: st) σ) : AW K pc ls (.ref o :: st) σ := by
  obtain ⟨p, l, e, R, s, m, args, below, meth, c, cells, slots, Q, g⟩ := K
  obtain ⟨hx, hb, hown, hts, hGK, hfr, hlo, hcl, hsl⟩ := hK
  intro H locs jl hR hS hsz hl
  obtain ⟨q0, -, he⟩ := wL_obj (g := g) (σ := σ) hk hci
  subst ho
  refine va_get hx hb hts hin hown hGK.2.1 hR q0 he hc k hk2 (hts _ hlink) (fun x h => hC ▸ h) (v := .ref (gL g (rf o k))) ?_ hd (kk H locs jl hR hS hsz hl)
  simp [hk3, fV, hk, hr]
theorem s_geti {ci k o idx N : Nat} {C : String} {T : u_T} (hK : OKc K cc own Ts fr lo) (hk : kd o = ci) (hc : vwCl[ci]? = some (C, T, N)) (hin : ∀ w ∈ u_ws C T N, w ∈ Ts) (hlink : Cond.fieldLink own idx C (T k).2.1 (T k).2.2.1 ∈ Ts) (hd : decode cc pc = .ok (.getfield idx, 3)) (hk2 : k < N) (hk3 : k < nf ci) (hci : ci < 8) (hC : (T k).1 = C) (hr : isR ci k = false) (kk : AW K (pc + 3) ls (.int (σ o k) :: st) σ) : AW K pc ls (.ref o :: st) σ := by
  obtain ⟨p, l, e, R, s, m, args, below, meth, c, cells, slots, Q, g⟩ := K
  obtain ⟨hx, hb, hown, hts, hGK, hfr, hlo, hcl, hsl⟩ := hK
  intro H locs jl hR hS hsz hl
  obtain ⟨q0, -, he⟩ := wL_obj (g := g) (σ := σ) hk hci
  refine va_get hx hb hts hin hown hGK.2.1 hR q0 he hc k hk2 (hts _ hlink) (fun x h => hC ▸ h) (v := .int (σ o k)) ?_ hd (kk H locs jl hR hS hsz hl)
  simp [hk3, fV, hk, hr]
theorem s_putg {ci k o idx N : Nat} {C : String} {T : u_T} {x : Int32} {ty : FieldType} {ty0 : Nat → FieldType} (hK : OKc K cc own Ts fr lo) (hk : kd o = ci) (hc : vwCl[ci]? = some (C, T, N)) (hin : ∀ w ∈ u_ws C T N, w ∈ Ts) (hlink : Cond.fieldLink own idx C (T k).2.1 (T k).2.2.1 ∈ Ts) (hd : decode cc pc = .ok (.putfield idx, 3)) (hty : ∀ k, k < N → parseFieldDescriptor (T k).2.2.1 = some (ty0 k)) (hnm : ∀ a, a < N → ∀ b, b < N → a ≠ b → (T a).2.1 ≠ (T b).2.1) (hk2 : k < N) (hk3 : k < nf ci) (hci : ci < 8) (hC : (T k).1 = C) (hr : isR ci k = false) (hfin : (T k).2.2.2 = false) (hpd : parseFieldDescriptor (T k).2.2.1 = some ty) (hn : narrow ty (.int x) = .int x) (hfit : fits ty (.int x) = true) (kk : AW K (pc + 3) ls st (sP σ o (upd (σ o) k x))) : AW K pc ls (.int x :: .ref o :: st) σ := by
  obtain ⟨p, l, e, R, s, m, args, below, meth, c, cells, slots, Q, g⟩ := K
  obtain ⟨hx, hb, hown, hts, hGK, hfr, hlo, hcl, hsl⟩ := hK
  intro H locs jl hR hS hsz hl
  obtain ⟨q0, hq, he⟩ := wL_obj (g := g) (σ := σ) hk hci
  refine va_put hx hb hts hin ty0 hty hnm hown hGK.2.1 hR (wL_D hGK.1) hS q0 he hc k hk2 (hts _ hlink) (fun x h => hC ▸ h) hfin (ty := ty) (v := .int x) hpd hn hfit (by simpa using hk3) hd (fun H1 locs1 hP1 _ hS1 => ?_)
  refine kk H1 locs1 jl ?_ hS1 hsz hl
  show va_P _ _ _ _
  rw [map_range_set, fV_put (by rw [hk]; exact hr), ← cE_obj (g := g) hk hci, wL_set hq] at hP1
  exact hP1
theorem s_iald {o : Nat} {i : Int32} (hK : OKc K cc own Ts fr lo) (hk : kd o = 8) (hin : vp_in i (ln o)) (hd : decode cc pc = .ok (.iaload, 1)) (kk : AW K (pc + 1) ls (.int (σ o i.toNatClampNeg) :: st) σ) : AW K pc ls (.int i :: .ref o :: st) σ := by
  obtain ⟨p, l, e, R, s, m, args, below, meth, c, cells, slots, Q, g⟩ := K
  obtain ⟨hx, hb, hown, hts, hGK, hfr, hlo, hcl, hsl⟩ := hK
  intro H locs jl hR hS hsz hl
  obtain ⟨q0, -, he⟩ := wL_arr (g := g) (σ := σ) hk
  exact va_iald hx hb hGK.2.1 hR q0 0 he rfl hin hd (kk H locs jl hR hS hsz hl)
theorem s_iast {o : Nat} {i x : Int32} (hK : OKc K cc own Ts fr lo) (hk : kd o = 8) (hin : vp_in i (ln o)) (hd : decode cc pc = .ok (.iastore, 1)) (kk : AW K (pc + 1) ls st (sP σ o (upd (σ o) i.toNatClampNeg x))) : AW K pc ls (.int x :: .int i :: .ref o :: st) σ := by
  obtain ⟨p, l, e, R, s, m, args, below, meth, c, cells, slots, Q, g⟩ := K
  obtain ⟨hx, hb, hown, hts, hGK, hfr, hlo, hcl, hsl⟩ := hK
  intro H locs jl hR hS hsz hl
  obtain ⟨q0, hq, he⟩ := wL_arr (g := g) (σ := σ) hk
  refine va_iast hx hb hGK.2.1 hR (wL_D hGK.1) hS q0 0 he rfl hin hd (fun H1 locs1 hP1 _ hS1 => ?_)
  refine kk H1 locs1 jl ?_ hS1 hsz hl
  show va_P _ _ _ _
  have e := cE_arr (g := g) (σ := sP σ o (upd (σ o) i.toNatClampNeg x)) hk
  rw [sP_same] at e
  rw [← e, wL_set hq] at hP1
  exact hP1
theorem s_alen {o n : Nat} (hK : OKc K cc own Ts fr lo) (hk : kd o = 8) (hn : ln o = n) (hd : decode cc pc = .ok (.arraylength, 1)) (kk : AW K (pc + 1) ls (.int (nI n) :: st) σ) : AW K pc ls (.ref o :: st) σ := by
  obtain ⟨p, l, e, R, s, m, args, below, meth, c, cells, slots, Q, g⟩ := K
  obtain ⟨hx, hb, hown, hts, hGK, hfr, hlo, hcl, hsl⟩ := hK
  intro H locs jl hR hS hsz hl
  obtain ⟨q0, -, he⟩ := wL_arr (g := g) (σ := σ) hk
  subst hn
  exact va_alen hx hb hGK.2.1 hR q0 0 he rfl rfl hd (kk H locs jl hR hS hsz hl)
theorem s_aald {o o' : Nat} {i : Int32} (hK : OKc K cc own Ts fr lo) (hk : kd o = 9) (hin : vp_in i (ln o)) (ho : rf o i.toNatClampNeg = o') (hd : decode cc pc = .ok (.aaload, 1)) (kk : AW K (pc + 1) ls (.ref o' :: st) σ) : AW K pc ls (.int i :: .ref o :: st) σ := by
  obtain ⟨p, l, e, R, s, m, args, below, meth, c, cells, slots, Q, g⟩ := K
  obtain ⟨hx, hb, hown, hts, hGK, hfr, hlo, hcl, hsl⟩ := hK
  intro H locs jl hR hS hsz hl
  obtain ⟨q0, hq⟩ := un_at (o := o) (by omega)
  have he := wL_at (g := g) (σ := σ) hq
  rw [cE_refs hk] at he
  subst ho
  exact va_aldq hx hb hGK.2.1 hR q0 1 he rfl hin hd (kk H locs jl hR hS hsz hl)
theorem s_acopy {a b idx : Nat} {sp dp n : Int32} (hK : OKc K cc own Ts fr lo) (hlink : Cond.methodLink own idx arraycopyName ∈ Ts) (hnat : Cond.native arraycopyName ∈ Ts) (hstat : Cond.static arraycopyName ∈ Ts) (hini : Cond.initialized "java/lang/System" ∈ Ts) (ha : kd a = 8) (hb8 : kd b = 8) (h1 : ¬ sp < 0) (h2 : ¬ dp < 0) (h3 : ¬ n < 0) (h4 : sp.toNatClampNeg + n.toNatClampNeg ≤ ln a) (h5 : dp.toNatClampNeg + n.toNatClampNeg ≤ ln b) (hf1 : 1 ≤ fr) (hl1 : st.length + (nativeFrameWords "java/lang/System" "arraycopy" 5 + 11) ≤ lo) (hd : decode cc pc = .ok (.invokestatic idx, 3)) (kk : AW K (pc + 3) ls st (sP σ b (va_cpy (σ a) (σ b) sp.toNatClampNeg dp.toNatClampNeg n.toNatClampNeg))) : AW K pc ls (.int n :: .int dp :: .ref b :: .int sp :: .ref a :: st) σ := by
  obtain ⟨p, l, e, R, s, m, args, below, meth, c, cells, slots, Q, g⟩ := K
  obtain ⟨hx, hb, hown, hts, hGK, hfr, hlo, hcl, hsl⟩ := hK
  intro H locs jl hR hS hsz hl
  obtain ⟨q0, -, he0⟩ := wL_arr (g := g) (σ := σ) ha
  obtain ⟨q1, hq, he1⟩ := wL_arr (g := g) (σ := σ) hb8
  refine va_copyi hx hb hsz.symm hown (hts _ hlink) (hts _ hnat) (hts _ hstat) (hts _ hini) hGK.2.1 hR (wL_D hGK.1) hS q0 q1 0 0 he0 he1 rfl rfl rfl h1 h2 h3 h4 h5 (fun _ _ => rfl) (Nat.le_trans hf1 hfr) (by rw [cv_sum]; exact Nat.le_trans hl1 hlo) hd (fun H1 locs1 hP1 _ hS1 => ?_)
  refine kk H1 locs1 jl ?_ hS1 hsz hl
  show va_P _ _ _ _
  have e := cE_arr (g := g) (σ := sP σ b (va_cpy (σ a) (σ b) sp.toNatClampNeg dp.toNatClampNeg n.toNatClampNeg)) hb8
  rw [sP_same] at e
  rw [← e, wL_set hq] at hP1
  exact hP1
theorem s_mmax {x y : Int32} {idx : Nat} (hK : OKc K cc own Ts fr lo) (hlink : Cond.methodLink own idx Lib.Math.max.name ∈ Ts) (hstat : Cond.static Lib.Math.max.name ∈ Ts) (hini : Cond.initialized "java/lang/Math" ∈ Ts) (hcode : Cond.code Lib.Math.max.name Lib.Math.max.code 2 (some .int) ∈ Ts) (hf1 : 1 ≤ fr) (hl1 : st.length + 13 ≤ lo) (hd : decode cc pc = .ok (.invokestatic idx, 3)) (kk : AW K (pc + 3) ls (.int (if x < y then y else x) :: st) σ) : AW K pc ls (.int y :: .int x :: st) σ := by
  obtain ⟨p, l, e, R, s, m, args, below, meth, c, cells, slots, Q, g⟩ := K
  obtain ⟨hx, hb, hown, hts, hGK, hfr, hlo, hcl, hsl⟩ := hK
  intro H locs jl hR hS hsz hl
  exact va_mmax hx hb hsz.symm hown (hts _ hlink) (hts _ hstat) (hts _ hini) (hts _ hcode) (Nat.le_trans hf1 hfr) (by rw [cv_sum]; exact Nat.le_trans hl1 hlo) hcl hsl hd (kk H locs jl hR hS hsz hl)
theorem s_mmin {x y : Int32} {idx : Nat} (hK : OKc K cc own Ts fr lo) (hlink : Cond.methodLink own idx Lib.Math.min.name ∈ Ts) (hstat : Cond.static Lib.Math.min.name ∈ Ts) (hini : Cond.initialized "java/lang/Math" ∈ Ts) (hcode : Cond.code Lib.Math.min.name Lib.Math.min.code 2 (some .int) ∈ Ts) (hf1 : 1 ≤ fr) (hl1 : st.length + 13 ≤ lo) (hd : decode cc pc = .ok (.invokestatic idx, 3)) (kk : AW K (pc + 3) ls (.int (if y < x then y else x) :: st) σ) : AW K pc ls (.int y :: .int x :: st) σ := by
  obtain ⟨p, l, e, R, s, m, args, below, meth, c, cells, slots, Q, g⟩ := K
  obtain ⟨hx, hb, hown, hts, hGK, hfr, hlo, hcl, hsl⟩ := hK
  intro H locs jl hR hS hsz hl
  exact va_mmin hx hb hsz.symm hown (hts _ hlink) (hts _ hstat) (hts _ hini) (hts _ hcode) (Nat.le_trans hf1 hfr) (by rw [cv_sum]; exact Nat.le_trans hl1 hlo) hcl hsl hd (kk H locs jl hR hS hsz hl)
theorem s_tabs {n : String} {idx t : Nat} (hK : OKc K cc own Ts fr lo) (ht : (n = "LEAST_SETTINGS" ∧ t = 801) ∨ (n = "GREATEST_SETTINGS" ∧ t = 802)) (hlink : Cond.fieldLink own idx RX6 n "[I" ∈ Ts) (hd : decode cc pc = .ok (.getstatic idx, 3)) (kk : AW K (pc + 3) ls (.ref t :: st) σ) : AW K pc ls st σ := by
  obtain ⟨p, l, e, R, s, m, args, below, meth, c, cells, slots, Q, g⟩ := K
  obtain ⟨hx, hb, hown, hts, hGK, hfr, hlo, hcl, hsl⟩ := hK
  intro H locs jl hR hS hsz hl
  rcases ht with ⟨rfl, rfl⟩ | ⟨rfl, rfl⟩
  · exact va_gets hx hb hGK.2.2.2.1 hS hown (hts _ hlink) (fun x h => h) hd (kk H locs jl hR hS hsz hl)
  · exact va_gets hx hb hGK.2.2.2.2.2.1 hS hown (hts _ hlink) (fun x h => h) hd (kk H locs jl hR hS hsz hl)
theorem s_tlo {i : Int32} (hK : OKc K cc own Ts fr lo) (hin : vp_in i 5) (hd : decode cc pc = .ok (.iaload, 1)) (kk : AW K (pc + 1) ls (.int (tlo.getD i.toNatClampNeg 0) :: st) σ) : AW K pc ls (.int i :: .ref 801 :: st) σ := by
  obtain ⟨p, l, e, R, s, m, args, below, meth, c, cells, slots, Q, g⟩ := K
  obtain ⟨hx, hb, hown, hts, hGK, hfr, hlo, hcl, hsl⟩ := hK
  intro H locs jl hR hS hsz hl
  exact va_ti hx hb hGK.2.2.2.2.1 hS hin rfl hd (kk H locs jl hR hS hsz hl)
theorem s_thi {i : Int32} (hK : OKc K cc own Ts fr lo) (hin : vp_in i 5) (hd : decode cc pc = .ok (.iaload, 1)) (kk : AW K (pc + 1) ls (.int (thi.getD i.toNatClampNeg 0) :: st) σ) : AW K pc ls (.int i :: .ref 802 :: st) σ := by
  obtain ⟨p, l, e, R, s, m, args, below, meth, c, cells, slots, Q, g⟩ := K
  obtain ⟨hx, hb, hown, hts, hGK, hfr, hlo, hcl, hsl⟩ := hK
  intro H locs jl hR hS hsz hl
  exact va_ti hx hb hGK.2.2.2.2.2.2.1 hS hin rfl hd (kk H locs jl hR hS hsz hl)
theorem s_iret {v w : Int32} {σ' : aS} {ty : FieldType} (hK : OKc K cc own Ts fr lo) (hE : KE K (some ty) (some (.int w)) σ') (hd : decode cc pc = .ok (.ireturn, 1)) (hn : narrow ty (.int v) = .int v) (hv : v = w) (hs : σ = σ') : AW K pc ls [.int v] σ := by
  subst hv
  subst hs
  obtain ⟨p, l, e, R, s, m, args, below, meth, c, cells, slots, Q, g⟩ := K
  obtain ⟨hx, hb, hown, hts, hGK, hfr, hlo, hcl, hsl⟩ := hK
  intro H locs jl hR hS hsz hl
  obtain ⟨hr, hlk, rfl⟩ := hE
  exact W.zret hx hb hr hn (fun t ht hW => ⟨⟨rfl, by rw [ht]; exact hR⟩, hS.F ht⟩) hS.2.2 hd hlk
theorem s_vret {σ' : aS} (hK : OKc K cc own Ts fr lo) (hE : KE K none none σ') (hd : decode cc pc = .ok (.return_, 1)) (hs : σ = σ') : AW K pc ls [] σ := by
  subst hs
  obtain ⟨p, l, e, R, s, m, args, below, meth, c, cells, slots, Q, g⟩ := K
  obtain ⟨hx, hb, hown, hts, hGK, hfr, hlo, hcl, hsl⟩ := hK
  intro H locs jl hR hS hsz hl
  obtain ⟨hr, hlk, rfl⟩ := hE
  exact W.vret hx hb hr (fun t ht hW => ⟨⟨rfl, by rw [ht]; exact hR⟩, hS.F ht⟩) hS.2.2 hd hlk
theorem s_aret {o o' : Nat} {σ' : aS} {n : String} (hK : OKc K cc own Ts fr lo) (hE : KE K (some (.object n)) (some (.ref o')) σ') (hd : decode cc pc = .ok (.areturn, 1)) (ho : o = o') (hs : σ = σ') : AW K pc ls [.ref o] σ := by
  subst ho
  subst hs
  obtain ⟨p, l, e, R, s, m, args, below, meth, c, cells, slots, Q, g⟩ := K
  obtain ⟨hx, hb, hown, hts, hGK, hfr, hlo, hcl, hsl⟩ := hK
  intro H locs jl hR hS hsz hl
  obtain ⟨hr, hlk, rfl⟩ := hE
  exact W.aret hx hb hr (Or.inl ⟨n, rfl⟩) (Or.inr ⟨_, rfl⟩) (fun t ht hW => ⟨⟨rfl, by rw [ht]; exact hR⟩, hS.F ht⟩) hS.2.2 hd hlk
end AR
def pA : List Value → List Value → List Value
  | [], r => r
  | a :: as, r => pA as (a :: r)
theorem pA_eq : ∀ (as r : List Value), pA as r = as.reverse ++ r
  | [], r => rfl
  | a :: as, r => by rw [pA, pA_eq as (a :: r)]; simp
/-- what a method is, for calls -/
def MD (y : MethodName) (ws : List Cond) (bytes : ByteArray) (mL : Nat) (ret : Option FieldType) (n : Nat) : Prop := (∃ ws', ws = .code y bytes mL ret :: ws') ∧ y.cls ≠ "java/lang/invoke/MethodHandle" ∧ y.cls ≠ "java/lang/invoke/VarHandle" ∧ (parseMethodDescriptor y.desc).map (fun d => d.parameters.length) = some n
section AC
variable {K : KT} {cc : ByteArray} {own : String} {Ts : List Cond} {fr lo pc : Nat} {ls : List (Option Value)} {st : List Value} {σ : aS}
theorem cn_pre {g : aG} {σ : aS} {as : List Value} : FrameBlind (va_Pc (as.map (cv g)) (fun U => RH g σ U.heap ∧ GK g U U.heap)) := by
  intro a U g2 mk q
  obtain ⟨q0, q1, q2⟩ := q
  exact ⟨q0, q1, q2.vm (s := U) (U := U.calling g2 mk a) rfl⟩
theorem s_callE {p : Program} {l : Launch} {e : Env} {R : Room} {s : State} {m : MethodId} {args : Array Value} {below : List Frame} {meth : Method} {c : Code} {cells slots : Nat} {Q : State → Prop} {g : aG} {H : Heap} {locs : List Loc} {jl : Array Slot} {st0 rest : List Value} {a : Array Value} {σ' : aS} {r : Option Value} (hr : va_Run p l e R s m args below meth c H locs cells slots 0 0 (F0 m pc jl st0) (rest.map (cv g)) (CQ g r σ' a) (gA g)) (hS : va_S (gA g) s.heap H locs) (hsz : jl.size = c.maxLocals) (hl : LL g jl ls) (kk : AW (p, l, e, R, s, m, args, below, meth, c, cells, slots, Q, g) (pc + 3) ls (r.toList ++ rest) σ') : W p l e R s m args below meth c H locs cells slots Q (F0 m pc jl st0) := by
  intro T hT X
  obtain ⟨v, st₀, t, T', L, h0, X', hL, e1, e2, ⟨⟨hv, hp⟩, hz, hk⟩, stp⟩ := hr T hT X
  have hv' : v = r.map (cv g) := Outcome.returned.inj hv
  subst hv'
  rw [h0] at hz hk
  obtain ⟨t2, a1, b1⟩ := kk T'.heap (locs ++ L) jl (by rw [e1]; exact hp) ⟨Nat.le_trans hS.1 (by rw [e1]; exact hz), fun q h1 h2 => by rw [e1, hk q (Nat.lt_of_lt_of_le h1 hS.1) h2]; exact hS.2.1 q h1 h2, fun q hq => by
      rcases List.mem_append.mp hq with h | h
      · exact hS.2.2 q h
      · exact hL q h⟩ hsz hl T' rfl X'
  refine ⟨t2, stp t2 ?_, b1⟩
  have e3 : (r.toList ++ rest).map (cv g) = (r.map (cv g)).toList ++ rest.map (cv g) := by cases r <;> simp
  rw [e3] at a1
  exact a1
theorem s_callV {y : MethodName} {ws : List Cond} {bytes : ByteArray} {mL f2 l2 n idx ci b N : Nat} {ret : Option FieldType} {C : String} {T : u_T} {as rest : List Value} {r : Option Value} {σ' : aS} (hK : OKc K cc own Ts fr lo) (hM : MD y ws bytes mL ret n) (hc : CN (kG K) (kL K) y ws f2 l2 (.ref b :: as) σ r σ') (hG : GoodIn Ts (wsV own idx C y ws)) (hk : kd b = ci) (hcl : vwCl[ci]? = some (C, T, N)) (hyC : y.cls = C) (hci : ci < 8) (hn : as.length = n) (hR : f2 + 1 ≤ fr ∧ 8 + (mL + 11) + l2 ≤ lo) (hst : pA (.ref b :: as) rest = st) (hrest : rest.length ≤ 8) (hd : decode cc pc = .ok (.invokevirtual idx, 3)) (kk : AW K (pc + 3) ls (r.toList ++ rest) σ') : AW K pc ls st σ := by
  subst hst
  obtain ⟨p, l, e, R, s, m, args, below, meth, c, cells, slots, Q, g⟩ := K
  obtain ⟨hx, hb, hown, hts, hGK, hfr, hlo, hcel, hslo⟩ := hK
  intro H locs jl hRh hS hsz hl
  obtain ⟨⟨ws', hw⟩, hm1, hm2, hm3⟩ := hM
  obtain ⟨q0, -, he⟩ := wL_obj (g := g) (σ := σ) hk hci
  have hstk : (pA (.ref b :: as) rest).map (cv g) = (as.map (cv g)).reverse ++ .ref (gL g b) :: rest.map (cv g) := by rw [pA_eq]; simp [cv]
  rw [hstk]
  exact s_callE (va_runV (As := as.map (cv g)) (rest := rest.map (cv g)) ⟨hx, hb, hsz.symm, hown, hts⟩ hc (cwV n hts hG hw rfl rfl ⟨hyC, hm1, hm2, hm3⟩ ⟨Nat.le_trans hR.1 hfr, Nat.le_trans hR.2 hlo⟩) ⟨cn_pre, va_recv hGK.2.1 hRh hcl he, fun U hU hW => ⟨rfl, by rw [hU]; exact hRh, by rw [hU]; exact (hGK.kept hS).moved hW⟩⟩ rfl (by rw [List.length_map]; exact hn) rfl rfl (lv_room (by rw [cv_sum]; exact hrest)) hd ⟨hcel, hslo⟩) hS hsz hl kk
theorem s_callS {y : MethodName} {ws : List Cond} {bytes : ByteArray} {mL f2 l2 n idx : Nat} {ret : Option FieldType} {as rest : List Value} {r : Option Value} {σ' : aS} (hK : OKc K cc own Ts fr lo) (hM : MD y ws bytes mL ret n) (hc : CN (kG K) (kL K) y ws f2 l2 as σ r σ') (hG : GoodIn Ts (va_wsS own idx y ws)) (hn : as.length = n) (hR : f2 + 1 ≤ fr ∧ 8 + (mL + 11) + l2 ≤ lo) (hst : pA as rest = st) (hrest : rest.length ≤ 8) (hd : decode cc pc = .ok (.invokestatic idx, 3)) (kk : AW K (pc + 3) ls (r.toList ++ rest) σ') : AW K pc ls st σ := by
  subst hst
  obtain ⟨p, l, e, R, s, m, args, below, meth, c, cells, slots, Q, g⟩ := K
  obtain ⟨hx, hb, hown, hts, hGK, hfr, hlo, hcel, hslo⟩ := hK
  intro H locs jl hRh hS hsz hl
  obtain ⟨⟨ws', hw⟩, hm1, hm2, hm3⟩ := hM
  have hstk : (pA as rest).map (cv g) = (as.map (cv g)).reverse ++ rest.map (cv g) := by rw [pA_eq]; simp
  rw [hstk]
  exact s_callE (va_runS (As := as.map (cv g)) (rest := rest.map (cv g)) ⟨hx, hb, hsz.symm, hown, hts⟩ hc (va_cwS n hts hG hw rfl rfl ⟨hm1, hm2, hm3⟩ ⟨Nat.le_trans hR.1 hfr, Nat.le_trans hR.2 hlo⟩) ⟨cn_pre, fun U hU hW => ⟨rfl, by rw [hU]; exact hRh, by rw [hU]; exact (hGK.kept hS).moved hW⟩⟩ rfl (by rw [List.length_map]; exact hn) rfl rfl (lv_room (by rw [cv_sum]; exact hrest)) hd ⟨hcel, hslo⟩) hS hsz hl kk
theorem s_callN {y : MethodName} {ws : List Cond} {bytes : ByteArray} {mL f2 l2 n idx : Nat} {ret : Option FieldType} {host : String} {as rest : List Value} {r : Option Value} {σ' : aS} (hK : OKc K cc own Ts fr lo) (hM : MD y ws bytes mL ret n) (hc : CN (kG K) (kL K) y ws f2 l2 as σ r σ') (hG : GoodIn Ts ws) (hnw : Cond.methodLinkNest own idx y host ∈ nwl) (hini : Cond.initialized y.cls ∈ Ts) (hsta : Cond.static y ∈ Ts) (hn : as.length = n) (hR : f2 + 1 ≤ fr ∧ 8 + (mL + 11) + l2 ≤ lo) (hst : pA as rest = st) (hrest : rest.length ≤ 8) (hd : decode cc pc = .ok (.invokestatic idx, 3)) (kk : AW K (pc + 3) ls (r.toList ++ rest) σ') : AW K pc ls st σ := by
  subst hst
  obtain ⟨p, l, e, R, s, m, args, below, meth, c, cells, slots, Q, g⟩ := K
  obtain ⟨hx, hb, hown, hts, hGK, hfr, hlo, hcel, hslo⟩ := hK
  intro H locs jl hRh hS hsz hl
  obtain ⟨⟨ws', hw⟩, hm1, hm2, hm3⟩ := hM
  have hstk : (pA as rest).map (cv g) = (as.map (cv g)).reverse ++ rest.map (cv g) := by rw [pA_eq]; simp
  rw [hstk]
  exact s_callE (va_runSN (As := as.map (cv g)) (rest := rest.map (cv g)) ⟨hx, hb, hsz.symm, hown, hts⟩ hc ⟨va_cnB n hts hG hw rfl rfl (hGK.2.2.1 _ hnw) (hts _ hini) ⟨hm1, hm2, hm3⟩ ⟨Nat.le_trans hR.1 hfr, Nat.le_trans hR.2 hlo⟩, hts _ hsta, trivial⟩ ⟨cn_pre, fun U hU hW => ⟨rfl, by rw [hU]; exact hRh, by rw [hU]; exact (hGK.kept hS).moved hW⟩⟩ rfl (by rw [List.length_map]; exact hn) rfl rfl (lv_room (by rw [cv_sum]; exact hrest)) hd ⟨hcel, hslo⟩) hS hsz hl kk
end AC
section AI
variable {K : KT} {cc : ByteArray} {own : String} {Ts : List Cond} {fr lo pc : Nat} {st : List Value} {σ : aS} {a0 a1 a2 a3 a4 a5 a6 a7 a8 : Option Value} {t : List (Option Value)}
theorem s_iload0 {x : Int32} (hK : OKc K cc own Ts fr lo) (hd : decode cc pc = .ok (.iload_n 0, 1)) (k : AW K (pc + 1) (some (.int x) :: t) (.int x :: st) σ) : AW K pc (some (.int x) :: t) st σ := s_iloadn hK hd rfl rfl k
theorem s_aload0 {o : Nat} (hK : OKc K cc own Ts fr lo) (hd : decode cc pc = .ok (.aload_n 0, 1)) (k : AW K (pc + 1) (some (.ref o) :: t) (.ref o :: st) σ) : AW K pc (some (.ref o) :: t) st σ := s_aloadn hK hd rfl rfl k
theorem s_istore0 {x : Int32} (hK : OKc K cc own Ts fr lo) (hd : decode cc pc = .ok (.istore_n 0, 1)) (k : AW K (pc + 1) (some (.int x) :: t) st σ) : AW K pc (a0 :: t) (.int x :: st) σ := s_istoren hK hd rfl (by simp only [List.length_cons]; omega) k
theorem s_astore0 {o : Nat} (hK : OKc K cc own Ts fr lo) (hd : decode cc pc = .ok (.astore_n 0, 1)) (k : AW K (pc + 1) (some (.ref o) :: t) st σ) : AW K pc (a0 :: t) (.ref o :: st) σ := s_astoren hK hd rfl (by simp only [List.length_cons]; omega) k
theorem s_iinc0 {z : Int} {x v : Int32} (hK : OKc K cc own Ts fr lo) (hd : decode cc pc = .ok (.iinc 0 z, 3)) (hv : x + Int32.ofInt z = v) (k : AW K (pc + 3) (some (.int v) :: t) st σ) : AW K pc (some (.int x) :: t) st σ := s_iincg hK hd rfl hv (by simp only [List.length_cons]; omega) k
theorem s_iload1 {x : Int32} (hK : OKc K cc own Ts fr lo) (hd : decode cc pc = .ok (.iload_n 1, 1)) (k : AW K (pc + 1) (a0 :: some (.int x) :: t) (.int x :: st) σ) : AW K pc (a0 :: some (.int x) :: t) st σ := s_iloadn hK hd rfl rfl k
theorem s_aload1 {o : Nat} (hK : OKc K cc own Ts fr lo) (hd : decode cc pc = .ok (.aload_n 1, 1)) (k : AW K (pc + 1) (a0 :: some (.ref o) :: t) (.ref o :: st) σ) : AW K pc (a0 :: some (.ref o) :: t) st σ := s_aloadn hK hd rfl rfl k
theorem s_istore1 {x : Int32} (hK : OKc K cc own Ts fr lo) (hd : decode cc pc = .ok (.istore_n 1, 1)) (k : AW K (pc + 1) (a0 :: some (.int x) :: t) st σ) : AW K pc (a0 :: a1 :: t) (.int x :: st) σ := s_istoren hK hd rfl (by simp only [List.length_cons]; omega) k
theorem s_astore1 {o : Nat} (hK : OKc K cc own Ts fr lo) (hd : decode cc pc = .ok (.astore_n 1, 1)) (k : AW K (pc + 1) (a0 :: some (.ref o) :: t) st σ) : AW K pc (a0 :: a1 :: t) (.ref o :: st) σ := s_astoren hK hd rfl (by simp only [List.length_cons]; omega) k
theorem s_iinc1 {z : Int} {x v : Int32} (hK : OKc K cc own Ts fr lo) (hd : decode cc pc = .ok (.iinc 1 z, 3)) (hv : x + Int32.ofInt z = v) (k : AW K (pc + 3) (a0 :: some (.int v) :: t) st σ) : AW K pc (a0 :: some (.int x) :: t) st σ := s_iincg hK hd rfl hv (by simp only [List.length_cons]; omega) k
theorem s_iload2 {x : Int32} (hK : OKc K cc own Ts fr lo) (hd : decode cc pc = .ok (.iload_n 2, 1)) (k : AW K (pc + 1) (a0 :: a1 :: some (.int x) :: t) (.int x :: st) σ) : AW K pc (a0 :: a1 :: some (.int x) :: t) st σ := s_iloadn hK hd rfl rfl k
theorem s_aload2 {o : Nat} (hK : OKc K cc own Ts fr lo) (hd : decode cc pc = .ok (.aload_n 2, 1)) (k : AW K (pc + 1) (a0 :: a1 :: some (.ref o) :: t) (.ref o :: st) σ) : AW K pc (a0 :: a1 :: some (.ref o) :: t) st σ := s_aloadn hK hd rfl rfl k
theorem s_istore2 {x : Int32} (hK : OKc K cc own Ts fr lo) (hd : decode cc pc = .ok (.istore_n 2, 1)) (k : AW K (pc + 1) (a0 :: a1 :: some (.int x) :: t) st σ) : AW K pc (a0 :: a1 :: a2 :: t) (.int x :: st) σ := s_istoren hK hd rfl (by simp only [List.length_cons]; omega) k
theorem s_astore2 {o : Nat} (hK : OKc K cc own Ts fr lo) (hd : decode cc pc = .ok (.astore_n 2, 1)) (k : AW K (pc + 1) (a0 :: a1 :: some (.ref o) :: t) st σ) : AW K pc (a0 :: a1 :: a2 :: t) (.ref o :: st) σ := s_astoren hK hd rfl (by simp only [List.length_cons]; omega) k
theorem s_iinc2 {z : Int} {x v : Int32} (hK : OKc K cc own Ts fr lo) (hd : decode cc pc = .ok (.iinc 2 z, 3)) (hv : x + Int32.ofInt z = v) (k : AW K (pc + 3) (a0 :: a1 :: some (.int v) :: t) st σ) : AW K pc (a0 :: a1 :: some (.int x) :: t) st σ := s_iincg hK hd rfl hv (by simp only [List.length_cons]; omega) k
theorem s_iload3 {x : Int32} (hK : OKc K cc own Ts fr lo) (hd : decode cc pc = .ok (.iload_n 3, 1)) (k : AW K (pc + 1) (a0 :: a1 :: a2 :: some (.int x) :: t) (.int x :: st) σ) : AW K pc (a0 :: a1 :: a2 :: some (.int x) :: t) st σ := s_iloadn hK hd rfl rfl k
theorem s_aload3 {o : Nat} (hK : OKc K cc own Ts fr lo) (hd : decode cc pc = .ok (.aload_n 3, 1)) (k : AW K (pc + 1) (a0 :: a1 :: a2 :: some (.ref o) :: t) (.ref o :: st) σ) : AW K pc (a0 :: a1 :: a2 :: some (.ref o) :: t) st σ := s_aloadn hK hd rfl rfl k
theorem s_istore3 {x : Int32} (hK : OKc K cc own Ts fr lo) (hd : decode cc pc = .ok (.istore_n 3, 1)) (k : AW K (pc + 1) (a0 :: a1 :: a2 :: some (.int x) :: t) st σ) : AW K pc (a0 :: a1 :: a2 :: a3 :: t) (.int x :: st) σ := s_istoren hK hd rfl (by simp only [List.length_cons]; omega) k
theorem s_astore3 {o : Nat} (hK : OKc K cc own Ts fr lo) (hd : decode cc pc = .ok (.astore_n 3, 1)) (k : AW K (pc + 1) (a0 :: a1 :: a2 :: some (.ref o) :: t) st σ) : AW K pc (a0 :: a1 :: a2 :: a3 :: t) (.ref o :: st) σ := s_astoren hK hd rfl (by simp only [List.length_cons]; omega) k
theorem s_iinc3 {z : Int} {x v : Int32} (hK : OKc K cc own Ts fr lo) (hd : decode cc pc = .ok (.iinc 3 z, 3)) (hv : x + Int32.ofInt z = v) (k : AW K (pc + 3) (a0 :: a1 :: a2 :: some (.int v) :: t) st σ) : AW K pc (a0 :: a1 :: a2 :: some (.int x) :: t) st σ := s_iincg hK hd rfl hv (by simp only [List.length_cons]; omega) k
theorem s_iload4 {x : Int32} (hK : OKc K cc own Ts fr lo) (hd : decode cc pc = .ok (.iload 4, 2)) (k : AW K (pc + 2) (a0 :: a1 :: a2 :: a3 :: some (.int x) :: t) (.int x :: st) σ) : AW K pc (a0 :: a1 :: a2 :: a3 :: some (.int x) :: t) st σ := s_iloadg hK hd rfl k
theorem s_aload4 {o : Nat} (hK : OKc K cc own Ts fr lo) (hd : decode cc pc = .ok (.aload 4, 2)) (k : AW K (pc + 2) (a0 :: a1 :: a2 :: a3 :: some (.ref o) :: t) (.ref o :: st) σ) : AW K pc (a0 :: a1 :: a2 :: a3 :: some (.ref o) :: t) st σ := s_aloadg hK hd rfl k
theorem s_istore4 {x : Int32} (hK : OKc K cc own Ts fr lo) (hd : decode cc pc = .ok (.istore 4, 2)) (k : AW K (pc + 2) (a0 :: a1 :: a2 :: a3 :: some (.int x) :: t) st σ) : AW K pc (a0 :: a1 :: a2 :: a3 :: a4 :: t) (.int x :: st) σ := s_istoreg hK hd (by simp only [List.length_cons]; omega) k
theorem s_astore4 {o : Nat} (hK : OKc K cc own Ts fr lo) (hd : decode cc pc = .ok (.astore 4, 2)) (k : AW K (pc + 2) (a0 :: a1 :: a2 :: a3 :: some (.ref o) :: t) st σ) : AW K pc (a0 :: a1 :: a2 :: a3 :: a4 :: t) (.ref o :: st) σ := s_astoreg hK hd (by simp only [List.length_cons]; omega) k
theorem s_iinc4 {z : Int} {x v : Int32} (hK : OKc K cc own Ts fr lo) (hd : decode cc pc = .ok (.iinc 4 z, 3)) (hv : x + Int32.ofInt z = v) (k : AW K (pc + 3) (a0 :: a1 :: a2 :: a3 :: some (.int v) :: t) st σ) : AW K pc (a0 :: a1 :: a2 :: a3 :: some (.int x) :: t) st σ := s_iincg hK hd rfl hv (by simp only [List.length_cons]; omega) k
theorem s_iload5 {x : Int32} (hK : OKc K cc own Ts fr lo) (hd : decode cc pc = .ok (.iload 5, 2)) (k : AW K (pc + 2) (a0 :: a1 :: a2 :: a3 :: a4 :: some (.int x) :: t) (.int x :: st) σ) : AW K pc (a0 :: a1 :: a2 :: a3 :: a4 :: some (.int x) :: t) st σ := s_iloadg hK hd rfl k
theorem s_aload5 {o : Nat} (hK : OKc K cc own Ts fr lo) (hd : decode cc pc = .ok (.aload 5, 2)) (k : AW K (pc + 2) (a0 :: a1 :: a2 :: a3 :: a4 :: some (.ref o) :: t) (.ref o :: st) σ) : AW K pc (a0 :: a1 :: a2 :: a3 :: a4 :: some (.ref o) :: t) st σ := s_aloadg hK hd rfl k
theorem s_istore5 {x : Int32} (hK : OKc K cc own Ts fr lo) (hd : decode cc pc = .ok (.istore 5, 2)) (k : AW K (pc + 2) (a0 :: a1 :: a2 :: a3 :: a4 :: some (.int x) :: t) st σ) : AW K pc (a0 :: a1 :: a2 :: a3 :: a4 :: a5 :: t) (.int x :: st) σ := s_istoreg hK hd (by simp only [List.length_cons]; omega) k
theorem s_astore5 {o : Nat} (hK : OKc K cc own Ts fr lo) (hd : decode cc pc = .ok (.astore 5, 2)) (k : AW K (pc + 2) (a0 :: a1 :: a2 :: a3 :: a4 :: some (.ref o) :: t) st σ) : AW K pc (a0 :: a1 :: a2 :: a3 :: a4 :: a5 :: t) (.ref o :: st) σ := s_astoreg hK hd (by simp only [List.length_cons]; omega) k
theorem s_iinc5 {z : Int} {x v : Int32} (hK : OKc K cc own Ts fr lo) (hd : decode cc pc = .ok (.iinc 5 z, 3)) (hv : x + Int32.ofInt z = v) (k : AW K (pc + 3) (a0 :: a1 :: a2 :: a3 :: a4 :: some (.int v) :: t) st σ) : AW K pc (a0 :: a1 :: a2 :: a3 :: a4 :: some (.int x) :: t) st σ := s_iincg hK hd rfl hv (by simp only [List.length_cons]; omega) k
theorem s_iload6 {x : Int32} (hK : OKc K cc own Ts fr lo) (hd : decode cc pc = .ok (.iload 6, 2)) (k : AW K (pc + 2) (a0 :: a1 :: a2 :: a3 :: a4 :: a5 :: some (.int x) :: t) (.int x :: st) σ) : AW K pc (a0 :: a1 :: a2 :: a3 :: a4 :: a5 :: some (.int x) :: t) st σ := s_iloadg hK hd rfl k
theorem s_aload6 {o : Nat} (hK : OKc K cc own Ts fr lo) (hd : decode cc pc = .ok (.aload 6, 2)) (k : AW K (pc + 2) (a0 :: a1 :: a2 :: a3 :: a4 :: a5 :: some (.ref o) :: t) (.ref o :: st) σ) : AW K pc (a0 :: a1 :: a2 :: a3 :: a4 :: a5 :: some (.ref o) :: t) st σ := s_aloadg hK hd rfl k
theorem s_istore6 {x : Int32} (hK : OKc K cc own Ts fr lo) (hd : decode cc pc = .ok (.istore 6, 2)) (k : AW K (pc + 2) (a0 :: a1 :: a2 :: a3 :: a4 :: a5 :: some (.int x) :: t) st σ) : AW K pc (a0 :: a1 :: a2 :: a3 :: a4 :: a5 :: a6 :: t) (.int x :: st) σ := s_istoreg hK hd (by simp only [List.length_cons]; omega) k
theorem s_astore6 {o : Nat} (hK : OKc K cc own Ts fr lo) (hd : decode cc pc = .ok (.astore 6, 2)) (k : AW K (pc + 2) (a0 :: a1 :: a2 :: a3 :: a4 :: a5 :: some (.ref o) :: t) st σ) : AW K pc (a0 :: a1 :: a2 :: a3 :: a4 :: a5 :: a6 :: t) (.ref o :: st) σ := s_astoreg hK hd (by simp only [List.length_cons]; omega) k
theorem s_iinc6 {z : Int} {x v : Int32} (hK : OKc K cc own Ts fr lo) (hd : decode cc pc = .ok (.iinc 6 z, 3)) (hv : x + Int32.ofInt z = v) (k : AW K (pc + 3) (a0 :: a1 :: a2 :: a3 :: a4 :: a5 :: some (.int v) :: t) st σ) : AW K pc (a0 :: a1 :: a2 :: a3 :: a4 :: a5 :: some (.int x) :: t) st σ := s_iincg hK hd rfl hv (by simp only [List.length_cons]; omega) k
theorem s_iload7 {x : Int32} (hK : OKc K cc own Ts fr lo) (hd : decode cc pc = .ok (.iload 7, 2)) (k : AW K (pc + 2) (a0 :: a1 :: a2 :: a3 :: a4 :: a5 :: a6 :: some (.int x) :: t) (.int x :: st) σ) : AW K pc (a0 :: a1 :: a2 :: a3 :: a4 :: a5 :: a6 :: some (.int x) :: t) st σ := s_iloadg hK hd rfl k
theorem s_aload7 {o : Nat} (hK : OKc K cc own Ts fr lo) (hd : decode cc pc = .ok (.aload 7, 2)) (k : AW K (pc + 2) (a0 :: a1 :: a2 :: a3 :: a4 :: a5 :: a6 :: some (.ref o) :: t) (.ref o :: st) σ) : AW K pc (a0 :: a1 :: a2 :: a3 :: a4 :: a5 :: a6 :: some (.ref o) :: t) st σ := s_aloadg hK hd rfl k
theorem s_istore7 {x : Int32} (hK : OKc K cc own Ts fr lo) (hd : decode cc pc = .ok (.istore 7, 2)) (k : AW K (pc + 2) (a0 :: a1 :: a2 :: a3 :: a4 :: a5 :: a6 :: some (.int x) :: t) st σ) : AW K pc (a0 :: a1 :: a2 :: a3 :: a4 :: a5 :: a6 :: a7 :: t) (.int x :: st) σ := s_istoreg hK hd (by simp only [List.length_cons]; omega) k
theorem s_astore7 {o : Nat} (hK : OKc K cc own Ts fr lo) (hd : decode cc pc = .ok (.astore 7, 2)) (k : AW K (pc + 2) (a0 :: a1 :: a2 :: a3 :: a4 :: a5 :: a6 :: some (.ref o) :: t) st σ) : AW K pc (a0 :: a1 :: a2 :: a3 :: a4 :: a5 :: a6 :: a7 :: t) (.ref o :: st) σ := s_astoreg hK hd (by simp only [List.length_cons]; omega) k
theorem s_iinc7 {z : Int} {x v : Int32} (hK : OKc K cc own Ts fr lo) (hd : decode cc pc = .ok (.iinc 7 z, 3)) (hv : x + Int32.ofInt z = v) (k : AW K (pc + 3) (a0 :: a1 :: a2 :: a3 :: a4 :: a5 :: a6 :: some (.int v) :: t) st σ) : AW K pc (a0 :: a1 :: a2 :: a3 :: a4 :: a5 :: a6 :: some (.int x) :: t) st σ := s_iincg hK hd rfl hv (by simp only [List.length_cons]; omega) k
theorem s_iload8 {x : Int32} (hK : OKc K cc own Ts fr lo) (hd : decode cc pc = .ok (.iload 8, 2)) (k : AW K (pc + 2) (a0 :: a1 :: a2 :: a3 :: a4 :: a5 :: a6 :: a7 :: some (.int x) :: t) (.int x :: st) σ) : AW K pc (a0 :: a1 :: a2 :: a3 :: a4 :: a5 :: a6 :: a7 :: some (.int x) :: t) st σ := s_iloadg hK hd rfl k
theorem s_aload8 {o : Nat} (hK : OKc K cc own Ts fr lo) (hd : decode cc pc = .ok (.aload 8, 2)) (k : AW K (pc + 2) (a0 :: a1 :: a2 :: a3 :: a4 :: a5 :: a6 :: a7 :: some (.ref o) :: t) (.ref o :: st) σ) : AW K pc (a0 :: a1 :: a2 :: a3 :: a4 :: a5 :: a6 :: a7 :: some (.ref o) :: t) st σ := s_aloadg hK hd rfl k
theorem s_istore8 {x : Int32} (hK : OKc K cc own Ts fr lo) (hd : decode cc pc = .ok (.istore 8, 2)) (k : AW K (pc + 2) (a0 :: a1 :: a2 :: a3 :: a4 :: a5 :: a6 :: a7 :: some (.int x) :: t) st σ) : AW K pc (a0 :: a1 :: a2 :: a3 :: a4 :: a5 :: a6 :: a7 :: a8 :: t) (.int x :: st) σ := s_istoreg hK hd (by simp only [List.length_cons]; omega) k
theorem s_astore8 {o : Nat} (hK : OKc K cc own Ts fr lo) (hd : decode cc pc = .ok (.astore 8, 2)) (k : AW K (pc + 2) (a0 :: a1 :: a2 :: a3 :: a4 :: a5 :: a6 :: a7 :: some (.ref o) :: t) st σ) : AW K pc (a0 :: a1 :: a2 :: a3 :: a4 :: a5 :: a6 :: a7 :: a8 :: t) (.ref o :: st) σ := s_astoreg hK hd (by simp only [List.length_cons]; omega) k
theorem s_iinc8 {z : Int} {x v : Int32} (hK : OKc K cc own Ts fr lo) (hd : decode cc pc = .ok (.iinc 8 z, 3)) (hv : x + Int32.ofInt z = v) (k : AW K (pc + 3) (a0 :: a1 :: a2 :: a3 :: a4 :: a5 :: a6 :: a7 :: some (.int v) :: t) st σ) : AW K pc (a0 :: a1 :: a2 :: a3 :: a4 :: a5 :: a6 :: a7 :: some (.int x) :: t) st σ := s_iincg hK hd rfl hv (by simp only [List.length_cons]; omega) k
end AI
theorem rf_0_0 {o : Nat} (h : kd o = 0) : rf o 0 = o + 1 := by simp [rf, h]
theorem rf_0_1 {o : Nat} (h : kd o = 0) : rf o 1 = o + 2 := by simp [rf, h]
theorem rf_0_2 {o : Nat} (h : kd o = 0) : rf o 2 = o + 3 := by simp [rf, h]
theorem rf_0_3 {o : Nat} (h : kd o = 0) : rf o 3 = o + 4 := by simp [rf, h]
theorem rf_0_4 {o : Nat} (h : kd o = 0) : rf o 4 = o + 9 := by simp [rf, h]
theorem rf_1_0 {o : Nat} (h : kd o = 1) : rf o 0 = o + 4 := by simp [rf, h]
theorem rf_2_0 {o : Nat} (h : kd o = 2) : rf o 0 = 602 := by simp [rf, h]
theorem rf_3_0 {o : Nat} (h : kd o = 3) : rf o 0 = o + 1 := by simp [rf, h]
theorem rf_4_0 {o : Nat} (h : kd o = 4) : rf o 0 = 604 := by simp [rf, h]
theorem rf_4_4 {o : Nat} (h : kd o = 4) : rf o 4 = 605 := by simp [rf, h]
theorem rf_4_5 {o : Nat} (h : kd o = 4) : rf o 5 = 606 := by simp [rf, h]
theorem rf_5_0 {o : Nat} (h : kd o = 5) : rf o 0 = o + 10 := by simp [rf, h]
theorem rf_5_1 {o : Nat} (h : kd o = 5) : rf o 1 = o + 1 := by simp [rf, h]
theorem rf_5_2 {o : Nat} (h : kd o = 5) : rf o 2 = o + 2 := by simp [rf, h]
theorem rf_5_6 {o : Nat} (h : kd o = 5) : rf o 6 = o + 20 := by simp [rf, h]
theorem rf_5_7 {o : Nat} (h : kd o = 5) : rf o 7 = o + 30 := by simp [rf, h]
theorem rf_6_0 {o : Nat} (h : kd o = 6) : rf o 0 = 0 := by simp [rf, h]
theorem rf_6_1 {o : Nat} (h : kd o = 6) : rf o 1 = 601 := by simp [rf, h]
theorem rf_6_2 {o : Nat} (h : kd o = 6) : rf o 2 = 603 := by simp [rf, h]
theorem rf_6_3 {o : Nat} (h : kd o = 6) : rf o 3 = 607 := by simp [rf, h]
theorem rf_6_4 {o : Nat} (h : kd o = 6) : rf o 4 = 608 := by simp [rf, h]
theorem kd_lt {o : Nat} (h : kd o < 10) : o < 707 := by
  rcases Nat.lt_or_ge o 707 with q | q
  · exact q
  · exact absurd h (by unfold kd; rw [if_neg (by omega), if_neg (by omega)]; decide)
theorem kC {o : Nat} (h : kd o = 1) : kd (o + 4) = 8 := (show ∀ o, o < 707 → kd o = 1 → kd (o + 4) = 8 by decide +kernel) o (kd_lt (by omega)) h
theorem lC {o : Nat} (h : kd o = 1) : ln (o + 4) = 12 := (show ∀ o, o < 707 → kd o = 1 → ln (o + 4) = 12 by decide +kernel) o (kd_lt (by omega)) h
theorem kB1 {o : Nat} (h : kd o = 0) : kd (o + 1) = 1 := (show ∀ o, o < 707 → kd o = 0 → kd (o + 1) = 1 by decide +kernel) o (kd_lt (by omega)) h
theorem kB2 {o : Nat} (h : kd o = 0) : kd (o + 2) = 1 := (show ∀ o, o < 707 → kd o = 0 → kd (o + 2) = 1 by decide +kernel) o (kd_lt (by omega)) h
theorem kB3 {o : Nat} (h : kd o = 0) : kd (o + 3) = 1 := (show ∀ o, o < 707 → kd o = 0 → kd (o + 3) = 1 by decide +kernel) o (kd_lt (by omega)) h
theorem kB4 {o : Nat} (h : kd o = 0) : kd (o + 4) = 1 := (show ∀ o, o < 707 → kd o = 0 → kd (o + 4) = 1 by decide +kernel) o (kd_lt (by omega)) h
theorem kBw {o : Nat} (h : kd o = 0) : kd (o + 9) = 8 := (show ∀ o, o < 707 → kd o = 0 → kd (o + 9) = 8 by decide +kernel) o (kd_lt (by omega)) h
theorem lBw {o : Nat} (h : kd o = 0) : ln (o + 9) = 192 := (show ∀ o, o < 707 → kd o = 0 → ln (o + 9) = 192 by decide +kernel) o (kd_lt (by omega)) h
theorem kS1 {o : Nat} (h : kd o = 5) : kd (o + 1) = 8 := (show ∀ o, o < 707 → kd o = 5 → kd (o + 1) = 8 by decide +kernel) o (kd_lt (by omega)) h
theorem lS1 {o : Nat} (h : kd o = 5) : ln (o + 1) = 5 := (show ∀ o, o < 707 → kd o = 5 → ln (o + 1) = 5 by decide +kernel) o (kd_lt (by omega)) h
theorem kS2 {o : Nat} (h : kd o = 5) : kd (o + 2) = 3 := (show ∀ o, o < 707 → kd o = 5 → kd (o + 2) = 3 by decide +kernel) o (kd_lt (by omega)) h
theorem kS10 {o : Nat} (h : kd o = 5) : kd (o + 10) = 0 := (show ∀ o, o < 707 → kd o = 5 → kd (o + 10) = 0 by decide +kernel) o (kd_lt (by omega)) h
theorem kS20 {o : Nat} (h : kd o = 5) : kd (o + 20) = 0 := (show ∀ o, o < 707 → kd o = 5 → kd (o + 20) = 0 by decide +kernel) o (kd_lt (by omega)) h
theorem kS30 {o : Nat} (h : kd o = 5) : kd (o + 30) = 0 := (show ∀ o, o < 707 → kd o = 5 → kd (o + 30) = 0 by decide +kernel) o (kd_lt (by omega)) h
theorem kLp {o : Nat} (h : kd o = 3) : kd (o + 1) = 8 := (show ∀ o, o < 707 → kd o = 3 → kd (o + 1) = 8 by decide +kernel) o (kd_lt (by omega)) h
theorem lLp {o : Nat} (h : kd o = 3) : ln (o + 1) = 72 := (show ∀ o, o < 707 → kd o = 3 → ln (o + 1) = 72 by decide +kernel) o (kd_lt (by omega)) h
