/-! a constructor's steps -/
section ACs
variable {d mc ms : Nat} {y y' : MethodName} {cc cc' : ByteArray} {nL bz nL' : Nat} {X : Nat → State → Prop} {Q : Option AV → Nat → Mem → Prop} {cells slots nx pc c' s' nx' pc' : Nat} {ls : List (Option AV)} {st t As rest : List AV} {M : Mem}
theorem AC.obj {idx a : Nat} (ep : pc + 3 = pc') (hl : Cond.methodLink y.cls idx Lib.objectInit ∈ gw) (hd : fet cc pc = some (.invokespecial idx)) (hf : 1 ≤ d) (hs : 12 ≤ 40 * d) (K : AC d mc ms y cc nL bz X Q cells slots nx pc' ls [] M) : AC d mc ms y cc nL bz X Q cells slots nx pc ls [ar a] M := by
  subst ep; exact aw_obj hl hd hf hs K
theorem AC.newa {n : Nat} {z : Int} (ep : pc + 2 = pc') (ec : cells + 1 = c') (es : slots + n = s') (en : nx + 1 = nx') (hz0 : z = (n : Int)) (hn : n ≤ 100000) (hd : fet cc pc = some (.newarray .int)) (hcl : c' ≤ mc) (hsl : s' ≤ ms) (K : AC d mc ms y cc nL bz X Q c' s' nx' pc' ls (ar nx :: t) (mu M nx (ci_ n (fun _ => 0)))) : AC d mc ms y cc nL bz X Q cells slots nx pc ls (ai z :: t) M := by
  subst ep; subst ec; subst es; subst en; exact aw_newa hz0 hn hd hcl hsl K
theorem AC.anew {idx n : Nat} {z : Int} (ep : pc + 3 = pc') (ec : cells + 1 = c') (es : slots + n = s') (en : nx + 1 = nx') (hz0 : z = (n : Int)) (hn : n ≤ 100000) (hl : Cond.classLink y.cls idx RX5 ∈ gw) (hd : fet cc pc = some (.anewarray idx)) (hcl : c' ≤ mc) (hsl : s' ≤ ms) (K : AC d mc ms y cc nL bz X Q c' s' nx' pc' ls (ar nx :: t) (mu M nx (cr_ n (fun _ => none)))) : AC d mc ms y cc nL bz X Q cells slots nx pc ls (ai z :: t) M := by
  subst ep; subst ec; subst es; subst en; exact aw_anew hz0 hn hl hd hcl hsl K
theorem AC.new {idx c : Nat} {C : String} {T : u_T} {N : Nat} (ep : pc + 3 = pc') (ec : cells + 1 = c') (es : slots + N = s') (en : nx + 1 = nx') (hc : pp_cls[c]? = some (C, T, N)) (hl : Cond.classLink y.cls idx C ∈ gw) (hi : Cond.instantiable C N ∈ gw) (hn : Cond.initialized C ∈ gw) (hd : fet cc pc = some (.new idx)) (hcl : c' ≤ mc) (hsl : s' ≤ ms) (K : AC d mc ms y cc nL bz X Q c' s' nx' pc' ls (ar nx :: st) (mu M nx (co_ c (zfs c)))) : AC d mc ms y cc nL bz X Q cells slots nx pc ls st M := by
  subst ep; subst ec; subst es; subst en; exact aw_new hc hl hi hn hd hcl hsl K
theorem AC.putF {c k idx a : Nat} {fs fs' : List AV} {v : Nat} (ep : pc + 3 = pc') (hg : gf y.cls idx = some (c, k)) (h9 : match pp_cls[c]? with | some (_, T, _) => (T k).2.2.2 = true ∧ (T k).1 = y.cls ∧ (∃ ty, parseFieldDescriptor (T k).2.2.1 = some ty ∧ fits ty (.ref 0) = true) | none => False) (hi0 : y.name = "<init>") (ha : M a = some (co_ c fs)) (hv : setV fs k (ar v) = some fs') (hd : fet cc pc = some (.putfield idx)) (K : AC d mc ms y cc nL bz X Q cells slots nx pc' ls t (mu M a (co_ c fs'))) : AC d mc ms y cc nL bz X Q cells slots nx pc ls (ar v :: ar a :: t) M := by
  subst ep
  obtain ⟨n0, hd, hl0⟩ := fet_d hd
  simp only [lenOk, beq_iff_eq] at hl0
  subst hl0
  exact aw_putF hg h9 hi0 ha hv hd K
theorem AC.I {idx b d' mc' ms' : Nat} {Q' : Option AV → Nat → Mem → Prop} (ep : pc + 3 = pc') (ec : cells + mc' = c') (es : slots + ms' = s') (L : IL y.cls idx y' cc' nL' As.length) (hM : RetP d' mc' ms' y' cc' nL' none (ar b :: As) nx M Q') (hst : st = As.reverse ++ ar b :: rest) (hw : (rest.map acat).sum ≤ 8) (hr : d' + 1 ≤ d ∧ 19 + nL' + 40 * d' ≤ 40 * d) (hf : c' ≤ mc ∧ s' ≤ ms) (hd : fet cc pc = some (.invokespecial idx))
    (K : ∀ (r : Option AV) (nx' : Nat) (M' : Mem), Q' r nx' M' → AC d mc ms y cc nL bz X Q c' s' nx' pc' ls (r.toList ++ rest) M') : AC d mc ms y cc nL bz X Q cells slots nx pc ls st M := by
  subst ep; subst ec; subst es; exact aw_I L hM hst hw hr hf hd K
theorem AC.IN {idx b d' mc' ms' : Nat} {Q' : Option AV → Nat → Mem → Prop} (ep : pc + 3 = pc') (ec : cells + mc' = c') (es : slots + ms' = s') (L : INL y.cls idx y' cc' nL' As.length) (hM : RetP d' mc' ms' y' cc' nL' none (ar b :: As) nx M Q') (hst : st = As.reverse ++ ar b :: rest) (hw : (rest.map acat).sum ≤ 8) (hr : d' + 1 ≤ d ∧ 19 + nL' + 40 * d' ≤ 40 * d) (hf : c' ≤ mc ∧ s' ≤ ms) (hd : fet cc pc = some (.invokespecial idx))
    (K : ∀ (r : Option AV) (nx' : Nat) (M' : Mem), Q' r nx' M' → AC d mc ms y cc nL bz X Q c' s' nx' pc' ls (r.toList ++ rest) M') : AC d mc ms y cc nL bz X Q cells slots nx pc ls st M := by
  subst ep; subst ec; subst es; exact aw_IN L hM hst hw hr hf hd K
/-- a call of a method that makes no cell -/
theorem AC.V {idx b ci d' bz' : Nat} {fs : List AV} {Q' : Option AV → Mem → Prop} (ep : pc + 3 = pc') (hM : RetN d' y' cc' nL' bz' (ar b :: As) M Q') (L : VL y.cls idx y' cc' nL' (rty bz') As.length) (hb : M b = some (co_ ci fs)) (hcn : (pp_cls[ci]?).map (fun q => q.1) = some y'.cls) (hd : fet cc pc = some (.invokevirtual idx)) (hst : st = As.reverse ++ ar b :: rest) (hw : (rest.map acat).sum ≤ 8) (hr : d' + 1 ≤ d ∧ 19 + nL' + 40 * d' ≤ 40 * d) (hf : cells ≤ mc ∧ slots ≤ ms)
    (K : ∀ (r : Option AV) (M' : Mem), Q' r M' → AC d mc ms y cc nL bz X Q cells slots nx pc' ls (r.toList ++ rest) M') : AC d mc ms y cc nL bz X Q cells slots nx pc ls st M := by
  subst ep
  exact aw_V L (hM nx) hb hcn hst hw hr hf hd (fun r nx' M' h => by obtain ⟨rfl, h⟩ := h; exact K r M' h)
theorem AC.eqv {N : Mem} (he : eqM M N) (h : AC d mc ms y cc nL bz X Q cells slots nx pc ls st N) : AC d mc ms y cc nL bz X Q cells slots nx pc ls st M := by
  intro p l e s m args below meth c D cI cS B C hX H locs lsA hH hz hS hl
  exact h p l e s m args below meth c D cI cS B C hX H locs lsA (hH.eqv he) hz hS hl
theorem AC.aast {a v n : Nat} {i : Int} {g : Nat → Option Nat} {fs : List AV} (ep : pc + 1 = pc') (ha : M a = some (cr_ n g)) (hv : M v = some (co_ 5 fs)) (hi : 0 ≤ i ∧ i < (n : Int) ∧ n ≤ 2147483648) (hd : fet cc pc = some .aastore)
    (K : AC d mc ms y cc nL bz X Q cells slots nx pc' ls t (mu M a (cr_ n (gup g i.toNat (some v))))) : AC d mc ms y cc nL bz X Q cells slots nx pc ls (ar v :: ai i :: ar a :: t) M := by
  subst ep; exact aw_aastore ha hv hi hd K
end ACs
