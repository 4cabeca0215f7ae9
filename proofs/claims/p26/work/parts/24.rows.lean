/-! a judgement for methods with longs: the locals by a list, the stack as it is -/
def DW (K : KT) (pc nL : Nat) (lv : List (Nat × Value)) (st : List Value) (σ : aS) : Prop := match K with
  | (p, l, e, R, s, m, args, below, meth, c, cells, slots, Q, g) => ∀ (H : Heap) (locs : List Loc) (jl : Array Slot), RH g σ H → va_S (gA g) s.heap H locs → c.maxLocals = nL → lv_has jl nL lv → W p l e R s m args below meth c H locs cells slots Q (F0 m pc jl st)
section DR
variable {K : KT} {cc : ByteArray} {own : String} {Ts : List Cond} {fr lo pc nL : Nat} {lv lv' : List (Nat × Value)} {st : List Value} {σ : aS}
theorem DW.sub (ks : List Nat) (h : DW K pc nL lv' st σ) (hl : lv_pick lv ks = lv') : DW K pc nL lv st σ := by
  obtain ⟨p, l, e, R, s, m, args, below, meth, c, cells, slots, Q, g⟩ := K
  intro H locs jl hR hS hml hj
  exact h H locs jl hR hS hml (lv_sub hj ks hl)
theorem DW.to {lv2 : List (Nat × Value)} {st2 : List Value} {σ2 : aS} (h : DW K pc nL lv2 st2 σ2) (e : lv = lv2) (e2 : st = st2) (e3 : σ = σ2) : DW K pc nL lv st σ := by subst e; subst e2; subst e3; exact h
theorem w_iconst {n : Int} {v : Int32} (hK : OKc K cc own Ts fr lo) (hd : decode cc pc = .ok (.iconst n, 1)) (hv : Int32.ofInt n = v) (kk : DW K (pc + 1) nL lv (.int v :: st) σ) : DW K pc nL lv (st) σ := by
  obtain ⟨p, l, e, R, s, m, args, below, meth, c, cells, slots, Q, g⟩ := K
  obtain ⟨hx, hb, hown, hts, hGK, hfr, hlo, hcl, hsl⟩ := hK
  intro H locs jl hR hS hml hj
  exact lv_iconst hx hb hd hv (kk H locs jl hR hS hml hj)
theorem w_bipush {n : Int} {v : Int32} (hK : OKc K cc own Ts fr lo) (hd : decode cc pc = .ok (.bipush n, 2)) (hv : (Int8.ofInt n).toInt32 = v) (kk : DW K (pc + 2) nL lv (.int v :: st) σ) : DW K pc nL lv (st) σ := by
  obtain ⟨p, l, e, R, s, m, args, below, meth, c, cells, slots, Q, g⟩ := K
  obtain ⟨hx, hb, hown, hts, hGK, hfr, hlo, hcl, hsl⟩ := hK
  intro H locs jl hR hS hml hj
  exact lv_bipush hx hb hd hv (kk H locs jl hR hS hml hj)
theorem w_sipush {n : Int} {v : Int32} (hK : OKc K cc own Ts fr lo) (hd : decode cc pc = .ok (.sipush n, 3)) (hv : (Int16.ofInt n).toInt32 = v) (kk : DW K (pc + 3) nL lv (.int v :: st) σ) : DW K pc nL lv (st) σ := by
  obtain ⟨p, l, e, R, s, m, args, below, meth, c, cells, slots, Q, g⟩ := K
  obtain ⟨hx, hb, hown, hts, hGK, hfr, hlo, hcl, hsl⟩ := hK
  intro H locs jl hR hS hml hj
  exact lv_sipush hx hb hd hv (kk H locs jl hR hS hml hj)
theorem w_ldc2 {i : Nat} {v : Int64} (hK : OKc K cc own Ts fr lo) (hd : decode cc pc = .ok (.ldc2_w i, 3)) (hc : Cond.constantLong own i v ∈ Ts) (kk : DW K (pc + 3) nL lv (.long v :: st) σ) : DW K pc nL lv (st) σ := by
  obtain ⟨p, l, e, R, s, m, args, below, meth, c, cells, slots, Q, g⟩ := K
  obtain ⟨hx, hb, hown, hts, hGK, hfr, hlo, hcl, hsl⟩ := hK
  intro H locs jl hR hS hml hj
  exact lv_ldc2 hx hb hown (hts _ hc) hd (kk H locs jl hR hS hml hj)
theorem w_iloadn {j : Fin 4} {i : Nat} {x : Int32} (k : Nat) (hK : OKc K cc own Ts fr lo) (hd : decode cc pc = .ok (.iload_n j, 1)) (hi : (j : Nat) = i) (hk : lv[k]? = some (i, .int x)) (kk : DW K (pc + 1) nL lv (.int x :: st) σ) : DW K pc nL lv (st) σ := by
  obtain ⟨p, l, e, R, s, m, args, below, meth, c, cells, slots, Q, g⟩ := K
  obtain ⟨hx, hb, hown, hts, hGK, hfr, hlo, hcl, hsl⟩ := hK
  intro H locs jl hR hS hml hj
  exact lv_iload_n hx hb hd hi (lv_at hj k hk) (kk H locs jl hR hS hml hj)
theorem w_iload {i : Nat} {x : Int32} (k : Nat) (hK : OKc K cc own Ts fr lo) (hd : decode cc pc = .ok (.iload i, 2)) (hk : lv[k]? = some (i, .int x)) (kk : DW K (pc + 2) nL lv (.int x :: st) σ) : DW K pc nL lv (st) σ := by
  obtain ⟨p, l, e, R, s, m, args, below, meth, c, cells, slots, Q, g⟩ := K
  obtain ⟨hx, hb, hown, hts, hGK, hfr, hlo, hcl, hsl⟩ := hK
  intro H locs jl hR hS hml hj
  exact lv_iload hx hb hd (lv_at hj k hk) (kk H locs jl hR hS hml hj)
theorem w_lloadn {j : Fin 4} {i : Nat} {x : Int64} (k : Nat) (hK : OKc K cc own Ts fr lo) (hd : decode cc pc = .ok (.lload_n j, 1)) (hi : (j : Nat) = i) (hk : lv[k]? = some (i, .long x)) (kk : DW K (pc + 1) nL lv (.long x :: st) σ) : DW K pc nL lv (st) σ := by
  obtain ⟨p, l, e, R, s, m, args, below, meth, c, cells, slots, Q, g⟩ := K
  obtain ⟨hx, hb, hown, hts, hGK, hfr, hlo, hcl, hsl⟩ := hK
  intro H locs jl hR hS hml hj
  exact lv_lload_n hx hb hd hi (lv_at hj k hk) (kk H locs jl hR hS hml hj)
theorem w_lload {i : Nat} {x : Int64} (k : Nat) (hK : OKc K cc own Ts fr lo) (hd : decode cc pc = .ok (.lload i, 2)) (hk : lv[k]? = some (i, .long x)) (kk : DW K (pc + 2) nL lv (.long x :: st) σ) : DW K pc nL lv (st) σ := by
  obtain ⟨p, l, e, R, s, m, args, below, meth, c, cells, slots, Q, g⟩ := K
  obtain ⟨hx, hb, hown, hts, hGK, hfr, hlo, hcl, hsl⟩ := hK
  intro H locs jl hR hS hml hj
  exact lv_lload hx hb hd (lv_at hj k hk) (kk H locs jl hR hS hml hj)
theorem w_aloadn {j : Fin 4} {i : Nat} {x : Nat} (k : Nat) (hK : OKc K cc own Ts fr lo) (hd : decode cc pc = .ok (.aload_n j, 1)) (hi : (j : Nat) = i) (hk : lv[k]? = some (i, .ref x)) (kk : DW K (pc + 1) nL lv (.ref x :: st) σ) : DW K pc nL lv (st) σ := by
  obtain ⟨p, l, e, R, s, m, args, below, meth, c, cells, slots, Q, g⟩ := K
  obtain ⟨hx, hb, hown, hts, hGK, hfr, hlo, hcl, hsl⟩ := hK
  intro H locs jl hR hS hml hj
  exact lv_aload_n hx hb hd hi (lv_at hj k hk) (kk H locs jl hR hS hml hj)
theorem w_istoren {j : Fin 4} {i : Nat} {x : Int32} (hK : OKc K cc own Ts fr lo) (hd : decode cc pc = .ok (.istore_n j, 1)) (hi : (j : Nat) = i) (hn : i < nL) (hl : (i, Value.int x) :: lv.filter (fun q => !(q.1 == i) && !(q.1 + 1 == i && q.2.category == 2)) = lv') (kk : DW K (pc + 1) nL lv' st σ) : DW K pc nL lv (.int x :: st) σ := by
  obtain ⟨p, l, e, R, s, m, args, below, meth, c, cells, slots, Q, g⟩ := K
  obtain ⟨hx, hb, hown, hts, hGK, hfr, hlo, hcl, hsl⟩ := hK
  intro H locs jl hR hS hml hj
  exact lv_istore_n hx hb hd hi hj hn hl (fun jl2 h2 => kk H locs jl2 hR hS hml h2)
theorem w_istore {i : Nat} {x : Int32} (hK : OKc K cc own Ts fr lo) (hd : decode cc pc = .ok (.istore i, 2)) (hn : i < nL) (hl : (i, Value.int x) :: lv.filter (fun q => !(q.1 == i) && !(q.1 + 1 == i && q.2.category == 2)) = lv') (kk : DW K (pc + 2) nL lv' st σ) : DW K pc nL lv (.int x :: st) σ := by
  obtain ⟨p, l, e, R, s, m, args, below, meth, c, cells, slots, Q, g⟩ := K
  obtain ⟨hx, hb, hown, hts, hGK, hfr, hlo, hcl, hsl⟩ := hK
  intro H locs jl hR hS hml hj
  exact lv_istore hx hb hd hj hn hl (fun jl2 h2 => kk H locs jl2 hR hS hml h2)
theorem w_lstoren {j : Fin 4} {i : Nat} {x : Int64} (hK : OKc K cc own Ts fr lo) (hd : decode cc pc = .ok (.lstore_n j, 1)) (hi : (j : Nat) = i) (hn : i + 1 < nL) (hl : (i, Value.long x) :: lv.filter (fun q => !(q.1 == i) && (!(q.1 == i + 1) && !(q.1 + 1 == i && q.2.category == 2))) = lv') (kk : DW K (pc + 1) nL lv' st σ) : DW K pc nL lv (.long x :: st) σ := by
  obtain ⟨p, l, e, R, s, m, args, below, meth, c, cells, slots, Q, g⟩ := K
  obtain ⟨hx, hb, hown, hts, hGK, hfr, hlo, hcl, hsl⟩ := hK
  intro H locs jl hR hS hml hj
  exact lv_lstore_n hx hb hd hi hj hn hl (fun jl2 h2 => kk H locs jl2 hR hS hml h2)
theorem w_lstore {i : Nat} {x : Int64} (hK : OKc K cc own Ts fr lo) (hd : decode cc pc = .ok (.lstore i, 2)) (hn : i + 1 < nL) (hl : (i, Value.long x) :: lv.filter (fun q => !(q.1 == i) && (!(q.1 == i + 1) && !(q.1 + 1 == i && q.2.category == 2))) = lv') (kk : DW K (pc + 2) nL lv' st σ) : DW K pc nL lv (.long x :: st) σ := by
  obtain ⟨p, l, e, R, s, m, args, below, meth, c, cells, slots, Q, g⟩ := K
  obtain ⟨hx, hb, hown, hts, hGK, hfr, hlo, hcl, hsl⟩ := hK
  intro H locs jl hR hS hml hj
  exact lv_lstore hx hb hd hj hn hl (fun jl2 h2 => kk H locs jl2 hR hS hml h2)
theorem w_iinc {i : Nat} {z : Int} {x v : Int32} (k : Nat) (hK : OKc K cc own Ts fr lo) (hd : decode cc pc = .ok (.iinc i z, 3)) (hk : lv[k]? = some (i, .int x)) (hv : x + Int32.ofInt z = v) (hn : i < nL) (hl : (i, Value.int v) :: lv.filter (fun q => !(q.1 == i) && !(q.1 + 1 == i && q.2.category == 2)) = lv') (kk : DW K (pc + 3) nL lv' st σ) : DW K pc nL lv st σ := by
  obtain ⟨p, l, e, R, s, m, args, below, meth, c, cells, slots, Q, g⟩ := K
  obtain ⟨hx, hb, hown, hts, hGK, hfr, hlo, hcl, hsl⟩ := hK
  intro H locs jl hR hS hml hj
  exact lv_iinc hx hb hd hj hk hv hn hl (fun jl2 h2 => kk H locs jl2 hR hS hml h2)
theorem w_iadd {x y : Int32} (hK : OKc K cc own Ts fr lo) (hd : decode cc pc = .ok (.iadd, 1)) (kk : DW K (pc + 1) nL lv (.int (x + y) :: st) σ) : DW K pc nL lv (.int y :: .int x :: st) σ := by
  obtain ⟨p, l, e, R, s, m, args, below, meth, c, cells, slots, Q, g⟩ := K
  obtain ⟨hx, hb, hown, hts, hGK, hfr, hlo, hcl, hsl⟩ := hK
  intro H locs jl hR hS hml hj
  exact lv_iadd hx hb hd (kk H locs jl hR hS hml hj)
theorem w_isub {x y : Int32} (hK : OKc K cc own Ts fr lo) (hd : decode cc pc = .ok (.isub, 1)) (kk : DW K (pc + 1) nL lv (.int (x - y) :: st) σ) : DW K pc nL lv (.int y :: .int x :: st) σ := by
  obtain ⟨p, l, e, R, s, m, args, below, meth, c, cells, slots, Q, g⟩ := K
  obtain ⟨hx, hb, hown, hts, hGK, hfr, hlo, hcl, hsl⟩ := hK
  intro H locs jl hR hS hml hj
  exact lv_isub hx hb hd (kk H locs jl hR hS hml hj)
theorem w_iand {x y : Int32} (hK : OKc K cc own Ts fr lo) (hd : decode cc pc = .ok (.iand, 1)) (kk : DW K (pc + 1) nL lv (.int (x &&& y) :: st) σ) : DW K pc nL lv (.int y :: .int x :: st) σ := by
  obtain ⟨p, l, e, R, s, m, args, below, meth, c, cells, slots, Q, g⟩ := K
  obtain ⟨hx, hb, hown, hts, hGK, hfr, hlo, hcl, hsl⟩ := hK
  intro H locs jl hR hS hml hj
  exact lv_iand hx hb hd (kk H locs jl hR hS hml hj)
theorem w_ishr {x y : Int32} (hK : OKc K cc own Ts fr lo) (hd : decode cc pc = .ok (.ishr, 1)) (kk : DW K (pc + 1) nL lv (.int (x >>> (y &&& 31)) :: st) σ) : DW K pc nL lv (.int y :: .int x :: st) σ := by
  obtain ⟨p, l, e, R, s, m, args, below, meth, c, cells, slots, Q, g⟩ := K
  obtain ⟨hx, hb, hown, hts, hGK, hfr, hlo, hcl, hsl⟩ := hK
  intro H locs jl hR hS hml hj
  exact lv_ishr hx hb hd (kk H locs jl hR hS hml hj)
theorem w_ladd {x y : Int64} (hK : OKc K cc own Ts fr lo) (hd : decode cc pc = .ok (.ladd, 1)) (kk : DW K (pc + 1) nL lv (.long (x + y) :: st) σ) : DW K pc nL lv (.long y :: .long x :: st) σ := by
  obtain ⟨p, l, e, R, s, m, args, below, meth, c, cells, slots, Q, g⟩ := K
  obtain ⟨hx, hb, hown, hts, hGK, hfr, hlo, hcl, hsl⟩ := hK
  intro H locs jl hR hS hml hj
  exact lv_ladd hx hb hd (kk H locs jl hR hS hml hj)
theorem w_lmul {x y : Int64} (hK : OKc K cc own Ts fr lo) (hd : decode cc pc = .ok (.lmul, 1)) (kk : DW K (pc + 1) nL lv (.long (x * y) :: st) σ) : DW K pc nL lv (.long y :: .long x :: st) σ := by
  obtain ⟨p, l, e, R, s, m, args, below, meth, c, cells, slots, Q, g⟩ := K
  obtain ⟨hx, hb, hown, hts, hGK, hfr, hlo, hcl, hsl⟩ := hK
  intro H locs jl hR hS hml hj
  exact lv_lmul hx hb hd (kk H locs jl hR hS hml hj)
theorem w_i2l {x : Int32} (hK : OKc K cc own Ts fr lo) (hd : decode cc pc = .ok (.i2l, 1)) (kk : DW K (pc + 1) nL lv (.long x.toInt64 :: st) σ) : DW K pc nL lv (.int x :: st) σ := by
  obtain ⟨p, l, e, R, s, m, args, below, meth, c, cells, slots, Q, g⟩ := K
  obtain ⟨hx, hb, hown, hts, hGK, hfr, hlo, hcl, hsl⟩ := hK
  intro H locs jl hR hS hml hj
  exact lv_i2l hx hb hd rfl (kk H locs jl hR hS hml hj)
theorem w_lcmp {x y : Int64} (hK : OKc K cc own Ts fr lo) (hd : decode cc pc = .ok (.lcmp, 1)) (kk : DW K (pc + 1) nL lv (.int (lg_cmp x y) :: st) σ) : DW K pc nL lv (.long y :: .long x :: st) σ := by
  obtain ⟨p, l, e, R, s, m, args, below, meth, c, cells, slots, Q, g⟩ := K
  obtain ⟨hx, hb, hown, hts, hGK, hfr, hlo, hcl, hsl⟩ := hK
  intro H locs jl hR hS hml hj
  exact W.lcmp hx hb hd (kk H locs jl hR hS hml hj)
theorem w_pop {x : Int32} (hK : OKc K cc own Ts fr lo) (hd : decode cc pc = .ok (.pop, 1)) (kk : DW K (pc + 1) nL lv (st) σ) : DW K pc nL lv (.int x :: st) σ := by
  obtain ⟨p, l, e, R, s, m, args, below, meth, c, cells, slots, Q, g⟩ := K
  obtain ⟨hx, hb, hown, hts, hGK, hfr, hlo, hcl, hsl⟩ := hK
  intro H locs jl hR hS hml hj
  exact lv_pop hx hb hd rfl (kk H locs jl hR hS hml hj)
theorem w_goto {off : Int} {tgt : Nat} (hK : OKc K cc own Ts fr lo) (hd : decode cc pc = .ok (.goto off, 3)) (ht : (pc : Int) + off = (tgt : Int)) (kk : DW K tgt nL lv st σ) : DW K pc nL lv st σ := by
  obtain ⟨p, l, e, R, s, m, args, below, meth, c, cells, slots, Q, g⟩ := K
  obtain ⟨hx, hb, hown, hts, hGK, hfr, hlo, hcl, hsl⟩ := hK
  intro H locs jl hR hS hml hj
  exact lv_goto hx hb hd ht (kk H locs jl hR hS hml hj)
theorem w_icmp_ge {x y : Int32} {off : Int} {tgt : Nat} (hK : OKc K cc own Ts fr lo) (hd : decode cc pc = .ok (.if_icmp .ge off, 3)) (ht : (pc : Int) + off = (tgt : Int)) (kt : y ≤ x → DW K tgt nL lv st σ) (kf : ¬ y ≤ x → DW K (pc + 3) nL lv st σ) : DW K pc nL lv (.int y :: .int x :: st) σ := by
  obtain ⟨p, l, e, R, s, m, args, below, meth, c, cells, slots, Q, g⟩ := K
  obtain ⟨hx, hb, hown, hts, hGK, hfr, hlo, hcl, hsl⟩ := hK
  intro H locs jl hR hS hml hj
  exact lv_icmp_ge hx hb hd ht (fun h => kt h H locs jl hR hS hml hj) (fun h => kf h H locs jl hR hS hml hj)
theorem w_icmp_ne {x y : Int32} {off : Int} {tgt : Nat} (hK : OKc K cc own Ts fr lo) (hd : decode cc pc = .ok (.if_icmp .ne off, 3)) (ht : (pc : Int) + off = (tgt : Int)) (kt : ¬ x = y → DW K tgt nL lv st σ) (kf : x = y → DW K (pc + 3) nL lv st σ) : DW K pc nL lv (.int y :: .int x :: st) σ := by
  obtain ⟨p, l, e, R, s, m, args, below, meth, c, cells, slots, Q, g⟩ := K
  obtain ⟨hx, hb, hown, hts, hGK, hfr, hlo, hcl, hsl⟩ := hK
  intro H locs jl hR hS hml hj
  exact lv_icmp_ne hx hb hd ht (fun h => kt h H locs jl hR hS hml hj) (fun h => kf h H locs jl hR hS hml hj)
theorem w_icmp_eq {x y : Int32} {off : Int} {tgt : Nat} (hK : OKc K cc own Ts fr lo) (hd : decode cc pc = .ok (.if_icmp .eq off, 3)) (ht : (pc : Int) + off = (tgt : Int)) (kt : x = y → DW K tgt nL lv st σ) (kf : ¬ x = y → DW K (pc + 3) nL lv st σ) : DW K pc nL lv (.int y :: .int x :: st) σ := by
  obtain ⟨p, l, e, R, s, m, args, below, meth, c, cells, slots, Q, g⟩ := K
  obtain ⟨hx, hb, hown, hts, hGK, hfr, hlo, hcl, hsl⟩ := hK
  intro H locs jl hR hS hml hj
  exact lv_icmp_eq hx hb hd ht (fun h => kt h H locs jl hR hS hml hj) (fun h => kf h H locs jl hR hS hml hj)
theorem w_if_eq {x : Int32} {off : Int} {tgt : Nat} (hK : OKc K cc own Ts fr lo) (hd : decode cc pc = .ok (.ifCond .eq off, 3)) (ht : (pc : Int) + off = (tgt : Int)) (kt : x = 0 → DW K tgt nL lv st σ) (kf : ¬ x = 0 → DW K (pc + 3) nL lv st σ) : DW K pc nL lv (.int x :: st) σ := by
  obtain ⟨p, l, e, R, s, m, args, below, meth, c, cells, slots, Q, g⟩ := K
  obtain ⟨hx, hb, hown, hts, hGK, hfr, hlo, hcl, hsl⟩ := hK
  intro H locs jl hR hS hml hj
  exact lv_if_eq hx hb hd ht (fun h => kt h H locs jl hR hS hml hj) (fun h => kf h H locs jl hR hS hml hj)
theorem w_if_ne {x : Int32} {off : Int} {tgt : Nat} (hK : OKc K cc own Ts fr lo) (hd : decode cc pc = .ok (.ifCond .ne off, 3)) (ht : (pc : Int) + off = (tgt : Int)) (kt : ¬ x = 0 → DW K tgt nL lv st σ) (kf : x = 0 → DW K (pc + 3) nL lv st σ) : DW K pc nL lv (.int x :: st) σ := by
  obtain ⟨p, l, e, R, s, m, args, below, meth, c, cells, slots, Q, g⟩ := K
  obtain ⟨hx, hb, hown, hts, hGK, hfr, hlo, hcl, hsl⟩ := hK
  intro H locs jl hR hS hml hj
  exact lv_if_ne hx hb hd ht (fun h => kt h H locs jl hR hS hml hj) (fun h => kf h H locs jl hR hS hml hj)
theorem w_back {p : Program} {l : Launch} {e : Env} {R : Room} {s : State} {m : MethodId} {args : Array Value} {below : List Frame} {meth : Method} {c : Code} {cells slots : Nat} {Q : State → Prop} {g : aG} {H : Heap} {locs : List Loc} {jl : Array Slot} {st0 : List Value} {Qa : State → Outcome → State → Prop} {v : Value} {σ' : aS} (hr : va_Run p l e R s m args below meth c H locs cells slots 0 0 (F0 m pc jl st0) st Qa (gA g)) (hQ : ∀ (st₀ : State) (v' : Option Value) (t : State), Qa st₀ (.returned v') t → (v' = some v ∧ RH g σ' t.heap) ∧ va_F (gA g) st₀ t) (hS : va_S (gA g) s.heap H locs) (hml : c.maxLocals = nL) (hj : lv_has jl nL lv) (kk : DW (p, l, e, R, s, m, args, below, meth, c, cells, slots, Q, g) (pc + 3) nL lv (v :: st) σ') : W p l e R s m args below meth c H locs cells slots Q (F0 m pc jl st0) := by
  intro T hT X
  obtain ⟨v', st₀, t, T', L, h0, X', hL, e1, e2, hq, stp⟩ := hr T hT X
  obtain ⟨⟨hv, hp⟩, hz, hk⟩ := hQ _ _ _ hq
  subst hv
  rw [h0] at hz hk
  obtain ⟨t2, a1, b1⟩ := kk T'.heap (locs ++ L) jl (by rw [e1]; exact hp) ⟨Nat.le_trans hS.1 (by rw [e1]; exact hz), fun q h1 h2 => by rw [e1, hk q (Nat.lt_of_lt_of_le h1 hS.1) h2]; exact hS.2.1 q h1 h2, fun q hq => by
      rcases List.mem_append.mp hq with h | h
      · exact hS.2.2 q h
      · exact hL q h⟩ hml hj T' rfl X'
  exact ⟨t2, stp t2 a1, b1⟩
theorem w_callV {y : MethodName} {ws : List Cond} {bytes : ByteArray} {mL f2 l2 n idx ci b N : Nat} {ret : Option FieldType} {C : String} {T : u_T} {as rest : List Value} {r : Int32} {σ' : aS} (hK : OKc K cc own Ts fr lo) (hM : MD y ws bytes mL ret n) (hc : CN (kG K) (kL K) y ws f2 l2 (.ref b :: as) σ (some (.int r)) σ') (hG : GoodIn Ts (wsV own idx C y ws)) (hk : kd b = ci) (hcl : vwCl[ci]? = some (C, T, N)) (hyC : y.cls = C) (hci : ci < 8) (hn : as.length = n) (hR : f2 + 1 ≤ fr ∧ 8 + (mL + 11) + l2 ≤ lo) (hst : (as.map (cv (kG K))).reverse ++ .ref (gL (kG K) b) :: rest = st) (hrest : (rest.map fun v => v.category).sum ≤ 8) (hd : decode cc pc = .ok (.invokevirtual idx, 3)) (kk : DW K (pc + 3) nL lv (.int r :: rest) σ') : DW K pc nL lv st σ := by
  subst hst
  obtain ⟨p, l, e, R, s, m, args, below, meth, c, cells, slots, Q, g⟩ := K
  obtain ⟨hx, hb, hown, hts, hGK, hfr, hlo, hcel, hslo⟩ := hK
  intro H locs jl hRh hS hml hj
  obtain ⟨⟨ws', hw⟩, hm1, hm2, hm3⟩ := hM
  obtain ⟨q0, -, he⟩ := wL_obj (g := g) (σ := σ) hk hci
  exact w_back (va_runV (As := as.map (cv g)) (rest := rest) ⟨hx, hb, hml, hown, hts⟩ hc (cwV n hts hG hw rfl rfl ⟨hyC, hm1, hm2, hm3⟩ ⟨Nat.le_trans hR.1 hfr, Nat.le_trans hR.2 hlo⟩) ⟨cn_pre, va_recv hGK.2.1 hRh hcl he, fun U hU hW => ⟨rfl, by rw [hU]; exact hRh, by rw [hU]; exact (hGK.kept hS).moved hW⟩⟩ rfl (by rw [List.length_map]; exact hn) hj.1 rfl (lv_room hrest) hd ⟨hcel, hslo⟩) (fun st₀ v' t q => ⟨⟨Outcome.returned.inj q.1.1, q.1.2⟩, q.2⟩) hS hml hj kk
theorem w_callS {y : MethodName} {ws : List Cond} {bytes : ByteArray} {mL f2 l2 n idx : Nat} {ret : Option FieldType} {as rest : List Value} {r : Int32} {σ' : aS} (hK : OKc K cc own Ts fr lo) (hM : MD y ws bytes mL ret n) (hc : CN (kG K) (kL K) y ws f2 l2 as σ (some (.int r)) σ') (hG : GoodIn Ts (va_wsS own idx y ws)) (hn : as.length = n) (hR : f2 + 1 ≤ fr ∧ 8 + (mL + 11) + l2 ≤ lo) (hst : (as.map (cv (kG K))).reverse ++ rest = st) (hrest : (rest.map fun v => v.category).sum ≤ 8) (hd : decode cc pc = .ok (.invokestatic idx, 3)) (kk : DW K (pc + 3) nL lv (.int r :: rest) σ') : DW K pc nL lv st σ := by
  subst hst
  obtain ⟨p, l, e, R, s, m, args, below, meth, c, cells, slots, Q, g⟩ := K
  obtain ⟨hx, hb, hown, hts, hGK, hfr, hlo, hcel, hslo⟩ := hK
  intro H locs jl hRh hS hml hj
  obtain ⟨⟨ws', hw⟩, hm1, hm2, hm3⟩ := hM
  exact w_back (va_runS (As := as.map (cv g)) (rest := rest) ⟨hx, hb, hml, hown, hts⟩ hc (va_cwS n hts hG hw rfl rfl ⟨hm1, hm2, hm3⟩ ⟨Nat.le_trans hR.1 hfr, Nat.le_trans hR.2 hlo⟩) ⟨cn_pre, fun U hU hW => ⟨rfl, by rw [hU]; exact hRh, by rw [hU]; exact (hGK.kept hS).moved hW⟩⟩ rfl (by rw [List.length_map]; exact hn) hj.1 rfl (lv_room hrest) hd ⟨hcel, hslo⟩) (fun st₀ v' t q => ⟨⟨Outcome.returned.inj q.1.1, q.1.2⟩, q.2⟩) hS hml hj kk
end DR
/-! what is seen of a state -/
def cntV (σ : aS) (w : Nat) : Int32 := match w with
  | 0 => σ 0 5
  | 1 => σ 1 0
  | 2 => σ 1 1
  | 3 => σ 1 2
  | 4 => σ 1 3
  | 5 => σ 1 4
  | 6 => σ 0 3
  | 7 => σ 0 4
  | 8 => σ 0 3 + dX σ 0
  | 9 => σ 0 4 + dY σ 0
  | 10 => 192 - (nI (ct (px σ 15)) + nI (ct (px σ 16)))
  | 11 => nI (ct (px σ 15))
  | 12 => nI (ct (px σ 16))
  | 13 => nI (ct (px σ 17))
  | 14 => nI (ct (px σ 18))
  | 15 => wC σ
  | 16 => σ 2 1
  | _ => on (σ 0 8) + on (σ 0 9)
def celV (σ : aS) (x y w : Nat) : Int32 := match w with
  | 0 => kA σ 10 (nI x) (nI y)
  | 1 => on (b2 (hs σ 17 (nI x) (nI y)))
  | 2 => on (b2 (hs σ 18 (nI x) (nI y)))
  | _ => wA σ 10 (nI x) (nI y)
def prfV (σ : aS) (n w : Nat) : Int32 := if nI n < σ 2 1 then σ 3 (((σ 2 2).toNatClampNeg + 12 - n) % 12 * 6 + w) else -1009
section SG
variable {f g : aS}
theorem SAG_15 (h : SAG f g) : ∀ y, y < 12 → g 15 y = f 15 y := h.1.1
theorem SAG_16 (h : SAG f g) : ∀ y, y < 12 → g 16 y = f 16 y := h.1.2.1
theorem SAG_17 (h : SAG f g) : ∀ y, y < 12 → g 17 y = f 17 y := h.1.2.2.1
theorem SAG_18 (h : SAG f g) : ∀ y, y < 12 → g 18 y = f 18 y := h.1.2.2.2.1
theorem SAG_19 (h : SAG f g) : ∀ k, k < 192 → g 19 k = f 19 k := h.1.2.2.2.2
theorem SAG_1 (h : SAG f g) : ∀ k, k < 5 → g 1 k = f 1 k := h.2.2.2.1
theorem SAG_2 (h : SAG f g) : g 2 1 = f 2 1 ∧ g 2 2 = f 2 2 := h.2.2.2.2.1
theorem SAG_3 (h : SAG f g) : ∀ k, k < 72 → g 3 k = f 3 k := h.2.2.2.2.2.1
theorem SAG_0 (h : SAG f g) : (g 0 3 = f 0 3 ∧ g 0 4 = f 0 4 ∧ g 0 5 = f 0 5) ∧ g 0 8 = f 0 8 ∧ g 0 9 = f 0 9 := h.2.2.2.2.2.2
theorem ct_rows2 {a : Nat} (h : ∀ y, y < 12 → g a y = f a y) : ct (px g a) = ct (px f a) := ct_cong (fun k hk => px_rows h hk)
theorem wC_cong (h : SAG f g) : wC g = wC f := by
  unfold wC
  have e1 : ct (px (iK g) 17) = ct (px (iK f) 17) := ct_cong (fun k hk => by rw [px_iK g (by decide), px_iK f (by decide)]; exact px_rows (SAG_17 h) hk)
  have e2 : ct (px (iK g) 611) = ct (px (iK f) 611) := ct_cong (fun k hk => by rw [iK_px g hk, iK_px f hk, px_rows (SAG_17 h) hk, SAG_19 h k hk, SAG_1 h 3 (by decide)])
  rw [e1, e2]
theorem cntV_cong (h : SAG f g) : ∀ w, cntV g w = cntV f w := by
  intro w
  obtain ⟨⟨a3, a4, a5⟩, a8, a9⟩ := SAG_0 h
  have b := SAG_1 h
  have dx : dX g 0 = dX f 0 := by
    show (g 1 0 - 50) * g 1 1 / 50 = (f 1 0 - 50) * f 1 1 / 50
    rw [b 0 (by decide), b 1 (by decide)]
  have dy : dY g 0 = dY f 0 := by
    show (g 1 0 - 50) * g 1 2 / 50 = (f 1 0 - 50) * f 1 2 / 50
    rw [b 0 (by decide), b 2 (by decide)]
  unfold cntV
  rw [a3, a4, a5, a8, a9, b 0 (by decide), b 1 (by decide), b 2 (by decide), b 3 (by decide), b 4 (by decide), dx, dy, (SAG_2 h).1, wC_cong h, ct_rows2 (SAG_15 h), ct_rows2 (SAG_16 h), ct_rows2 (SAG_17 h), ct_rows2 (SAG_18 h)]
theorem celV_cong (h : SAG f g) {x y : Nat} (hx : x < 16) (hy : y < 12) (w : Nat) : celV g x y w = celV f x y w := by
  have k : kA g 10 (nI x) (nI y) = kA f 10 (nI x) (nI y) := by
    show (if hs g 16 (nI x) (nI y) = true then 2 else b2 (hs g 15 (nI x) (nI y))) = (if hs f 16 (nI x) (nI y) = true then 2 else b2 (hs f 15 (nI x) (nI y)))
    rw [hs_cong (SAG_16 h), hs_cong (SAG_15 h)]
  have a : wA g 10 (nI x) (nI y) = wA f 10 (nI x) (nI y) := by
    unfold wA
    rw [if_pos (pl_nI hx hy), if_pos (pl_nI hx hy), ixN, cl_nI (by omega)]
    exact SAG_19 h _ (by omega)
  unfold celV
  rw [k, a, hs_cong (SAG_17 h), hs_cong (SAG_18 h)]
theorem prfV_cong (h : SAG f g) {n w : Nat} (hw : w < 6) : prfV g n w = prfV f n w := by
  unfold prfV
  rw [(SAG_2 h).1, (SAG_2 h).2, SAG_3 h _ (by omega)]
end SG
/-! the digest -/
def dg1 (σ : aS) : Nat → Int64
  | 0 => 7
  | n + 1 => 31 * dg1 σ n + (cntV σ n).toInt64
def dg2 (σ : aS) : Nat → Int64
  | 0 => dg1 σ 18
  | n + 1 => 31 * dg2 σ n + (celV σ (n / 4 % 16) (n / 64) (n % 4)).toInt64
def dg3 (σ : aS) : Nat → Int64
  | 0 => dg2 σ 768
  | n + 1 => 31 * (31 * dg3 σ n + (prfV σ n 0).toInt64) + (prfV σ n 3).toInt64
def dig (σ : aS) : Int64 := dg3 σ 12
theorem dig_cong {f g : aS} (h : SAG f g) : dig g = dig f := by
  have e1 : ∀ n, dg1 g n = dg1 f n := by
    intro n
    induction n with
    | zero => rfl
    | succ n ih =>
      show 31 * dg1 g n + (cntV g n).toInt64 = 31 * dg1 f n + (cntV f n).toInt64
      rw [ih, cntV_cong h]
  have e2 : ∀ n, n ≤ 768 → dg2 g n = dg2 f n := by
    intro n
    induction n with
    | zero => intro _; exact e1 18
    | succ n ih =>
      intro hn
      show 31 * dg2 g n + (celV g (n / 4 % 16) (n / 64) (n % 4)).toInt64 = 31 * dg2 f n + (celV f (n / 4 % 16) (n / 64) (n % 4)).toInt64
      rw [ih (by omega), celV_cong h (by omega) (by omega)]
  have e3 : ∀ n, dg3 g n = dg3 f n := by
    intro n
    induction n with
    | zero => exact e2 768 (Nat.le_refl _)
    | succ n ih =>
      show 31 * (31 * dg3 g n + (prfV g n 0).toInt64) + (prfV g n 3).toInt64 = 31 * (31 * dg3 f n + (prfV f n 0).toInt64) + (prfV f n 3).toInt64
      rw [ih, prfV_cong h (by decide), prfV_cong h (by decide)]
  exact e3 12
theorem dig_iK (σ : aS) : dig (iK σ) = dig σ := dig_cong (SAG_lo (fun o ho => iK_ne (by omega)))
def stt (σ : aS) (w : Nat) : aS := if w < 16 then σ else iK σ
theorem cnt_at {g : aG} {l : Launch} {σ : aS} {P nx sz : Nat} (h : IV P nx sz σ) : ∀ w, w < 18 → CN g l yX6_count wsX6_count 4 87 [.ref 600, .int (nI w)] (stt σ w) (some (.int (cntV σ w))) (stt σ (w + 1)) := by
  intro w hw
  have hW := IV_WB h
  match w, hw with
  | 0, _ => exact zX6_count_0 (σ := σ)
  | 1, _ => exact zX6_count_1 (σ := σ)
  | 2, _ => exact zX6_count_2 (σ := σ)
  | 3, _ => exact zX6_count_3 (σ := σ)
  | 4, _ => exact zX6_count_4 (σ := σ)
  | 5, _ => exact zX6_count_5 (σ := σ)
  | 6, _ => exact zX6_count_6 (σ := σ)
  | 7, _ => exact zX6_count_7 (σ := σ)
  | 8, _ => exact zX6_count_8 (σ := σ)
  | 9, _ => exact zX6_count_9 (σ := σ)
  | 10, _ => exact zX6_count_10 (σ := σ) hW
  | 11, _ => exact zX6_count_11 (σ := σ) hW
  | 12, _ => exact zX6_count_12 (σ := σ) hW
  | 13, _ => exact zX6_count_13 (σ := σ) hW
  | 14, _ => exact zX6_count_14 (σ := σ) hW
  | 15, _ => exact zX6_count_15 (σ := σ) hW
  | 16, _ =>
    have q := zX6_count_16 (g := g) (l := l) (σ := iK σ)
    rw [iK_ne (by decide)] at q
    exact q
  | 17, _ =>
    have q := zX6_count_17 (g := g) (l := l) (σ := iK σ)
    rw [iK_ne (by decide)] at q
    exact q
  | w + 18, hw => exact absurd hw (by omega)
theorem cel_at {g : aG} {l : Launch} {σ : aS} : ∀ x y w, x < 16 → y < 12 → w < 4 → CN g l yX6_cell wsX6_cell 3 66 [.ref 600, .int (nI x), .int (nI y), .int (nI w)] σ (some (.int (celV σ x y w))) σ := by
  intro x y w hx hy hw
  match w, hw with
  | 0, _ => exact zX6_cell_0 _ _ (pl_nI hx hy)
  | 1, _ => exact zX6_cell_1 _ _ (pl_nI hx hy)
  | 2, _ => exact zX6_cell_2 _ _ (pl_nI hx hy)
  | 3, _ => exact zX6_cell_3 _ _ (pl_nI hx hy)
theorem prf_at {g : aG} {l : Launch} {σ : aS} {P nx sz : Nat} (h : IV P nx sz σ) {n w : Nat} (hn : n < 12) (hw : w < 6) : CN g l yX6_proof wsX6_proof 2 45 [.ref 600, .int (nI n), .int (nI w)] σ (some (.int (prfV σ n w))) σ := by
  obtain ⟨pn, la, ls, p1, p2, p3, p4, p5, p6⟩ := h.2.1.2.2.1
  unfold prfV
  by_cases c : nI n < σ 2 1
  · rw [if_pos c, p6, cl_nI (by omega)]
    exact zX6_proof_ok la n w p2 p6 hn hw c
  · rw [if_neg c]
    refine zX6_proof_none (nI n) (nI w) (nI_pos (by omega)) (decide_eq_true ⟨nI_nlt (Nat.zero_le _) (by omega), nI_nlt (a := 5) (by omega) (by decide)⟩) c
