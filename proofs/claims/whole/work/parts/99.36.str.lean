/-! the text of a String constant: contracts of the JDK's own methods -/
def stT : String := "i3;b0,1,4;b1,2,5;b0,2,2;g0,2,3,2,0;g2,0,2,1,2;"
def stL : List Int32 := [105, 51, 59, 98, 48, 44, 49, 44, 52, 59, 98, 49, 44, 50, 44, 53, 59, 98, 48, 44, 50, 44, 50, 59, 103, 48, 44, 50, 44, 51, 44, 50, 44, 48, 59, 103, 50, 44, 48, 44, 50, 44, 49, 44, 50, 59]
def fvv (f : Option Nat) : AV := match f with
  | none => anul
  | some a => ax a
theorem fvv_v (B : Nat) (f : Option Nat) : cv B (fvv f) = va_rf f := by cases f <;> rfl
/-- the String constant's cells: q, its bytes at v; two statics -/
def XS (q v : Nat) (f : Option Nat) (B : Nat) (U : State) : Prop := vk_R RX7 70 stT q U ∧ vk_S 1 [46] [stL] (fun _ => q) (fun _ => v) (fun x => B ≤ x) U U.heap ∧ va_Z RJ0 "COMPACT_STRINGS" "Z" (.int 1) (fun x => B ≤ x) U U.heap ∧ va_Z RJ3 "SIOOBE_FORMATTER" "Ljava/util/function/BiFunction;" (va_rf f) (fun x => B ≤ x) U U.heap
theorem XS.warm {q v : Nat} {f : Option Nat} {B : Nat} {s U : State} (h : XS q v f B s) (hW : s.WarmedH U.vm) (hq : ∀ a : Nat, a < s.heap.size → ¬ B ≤ a → U.heap[a]? = s.heap[a]?) : XS q v f B U :=
  ⟨h.1.warm hW, (h.2.1.moved hW.alike).kept hq, (h.2.2.1.moved hW.alike).kept hq, (h.2.2.2.moved hW.alike).kept hq⟩
theorem XS.call {q v : Nat} {f : Option Nat} {B : Nat} {U : State} {g : JFrame} {mk : MethodId} {a : Array Value} (h : XS q v f B U) : XS q v f B (U.calling g mk a) :=
  ⟨vk_R.same (u := U) rfl h.1, h.2.1.moved (Vm.Alike.refl U.vm), h.2.2.1.moved (Vm.Alike.refl U.vm), h.2.2.2.moved (Vm.Alike.refl U.vm)⟩
/-- a contract over them -/
def RetX (q v : Nat) (f : Option Nat) (d mc ms : Nat) (y : MethodName) (cc : ByteArray) (nL : Nat) (ret : Option FieldType) (av : List AV) (nx : Nat) (M : Mem) (Q : Option AV → Nat → Mem → Prop) : Prop :=
  ∀ (l : Launch) (D : va_G) (cI cS : ClassId) (B : Nat), Met l y (.code y cc nL ret :: gw) (rp d mc ms) (va_Pc (av.map (cv B)) (fun U => pp_Ev D cI cS B U ∧ U.heap.size = B + nx ∧ hP D cI cS B M U.heap ∧ XS q v f B U)) (pp_Qc D cI cS B Q) mc ms (fun q => B ≤ q)
def AX (d mc ms : Nat) (y : MethodName) (cc : ByteArray) (nL : Nat) (ret : Option FieldType) (X : Nat → State → Prop) (Q : Option AV → Nat → Mem → Prop) (cells slots nx : Nat) : ATy := AW (rp d mc ms) y cc nL ret X (pp_E mc ms Q) cells slots nx
theorem endX {R : Room} {y : MethodName} {cc : ByteArray} {nL : Nat} {ret : Option FieldType} {X : Nat → State → Prop} {E : ETy} {cells slots nx : Nat} {Rt : Option AV → Mem → Prop} : endOk R y cc nL ret X E cells slots nx 9 Rt :=
  ⟨fun _ _ _ _ _ hb _ => by omega, fun _ _ _ _ hb _ => by omega⟩
section AXs
variable {q v : Nat} {f : Option Nat} {d mc ms : Nat} {y y' : MethodName} {cc cc' : ByteArray} {nL nL' : Nat} {ret ret' : Option FieldType} {X : Nat → State → Prop} {Q : Option AV → Nat → Mem → Prop} {cells slots nx pc pc' : Nat} {ls ls0 : List (Option AV)} {st t As rest av : List AV} {M : Mem}
theorem AX.go (own : String) (n : Nat) (stops : List Nat) (ho : own = y.cls) (h : wp own 9 sx0 (AX d mc ms y cc nL ret X Q cells slots nx) (fun _ _ => False) cc stops n pc ls st M) : AX d mc ms y cc nL ret X Q cells slots nx pc ls st M := wp_sound ho sx0_ok endX (fun _ _ _ _ h => h) n pc ls st M h
theorem RetX.ofF (hy : plainFor y = true) (hn : (lsF av).length ≤ nL) (hl : lsOf nL av = ls0) (h : AX d mc ms y cc nL ret (XS q v f) Q 0 0 nx 0 ls0 [] M) : RetX q v f d mc ms y cc nL ret av nx M Q := by
  subst hl
  intro l D cI cS B
  refine va_MetF (cc := cc) (maxL := nL) (ret := ret) hy rfl ?_
  intro p e s m args below meth c s₁ Bd hml hv
  obtain ⟨rfl, hev, hz, hH, hXX⟩ := hv
  have hts := atoms_spec (ws := .code y cc nL ret :: gw) Bd.pre
  have C : pp_C p s m ((av.map (cv B)).toArray) meth c y cc nL ret D cI cS B := ⟨Bd.exec, Bd.bytes, Bd.returns, hml, findClass_of_methodNamed Bd.named, fun w hw => hts w (List.mem_cons_of_mem _ hw), Bd.notSynchronized, fun hi => (name_of_methodNamed Bd.named Bd.method).1.trans hi, hev⟩
  rw [lg_entry_eq]
  exact h p l e s m _ below meth c D cI cS B C hXX s.heap [] _ hH hz va_S.rf (LH.entry hn)
theorem RetX.of (hy : plainName y.cls = true) (hn : (lsF av).length ≤ nL) (hl : lsOf nL av = ls0) (h : AX d mc ms y cc nL ret (XS q v f) Q 0 0 nx 0 ls0 [] M) : RetX q v f d mc ms y cc nL ret av nx M Q := by
  subst hl
  intro l D cI cS B
  refine Met.ofW (cc := cc) (maxL := nL) (ret := ret) hy rfl ?_
  intro p e s m args below meth c s₁ Bd hml hv
  obtain ⟨rfl, hev, hz, hH, hXX⟩ := hv
  have hts := atoms_spec (ws := .code y cc nL ret :: gw) Bd.pre
  have C : pp_C p s m ((av.map (cv B)).toArray) meth c y cc nL ret D cI cS B := ⟨Bd.exec, Bd.bytes, Bd.returns, hml, findClass_of_methodNamed Bd.named, fun w hw => hts w (List.mem_cons_of_mem _ hw), Bd.notSynchronized, fun hi => (name_of_methodNamed Bd.named Bd.method).1.trans hi, hev⟩
  rw [lg_entry_eq]
  exact h p l e s m _ below meth c D cI cS B C hXX s.heap [] _ hH hz va_S.rf (LH.entry hn)
theorem preX_ok {s : State} {D : va_G} {cI cS : ClassId} {B : Nat} {H : Heap} {locs : List Loc} {av : List AV} (hev : pp_Ev D cI cS B s) (hX : XS q v f B s) (hS : va_S (fun q => B ≤ q) s.heap H locs) (hH : hP D cI cS B M H) (hz : H.size = B + nx) : PreS s H (va_Pc (av.map (cv B)) (fun U => pp_Ev D cI cS B U ∧ U.heap.size = B + nx ∧ hP D cI cS B M U.heap ∧ XS q v f B U)) (av.map (cv B)) :=
  ⟨fun a U g mk q => ⟨q.1, q.2.1.call, q.2.2.1, q.2.2.2.1, q.2.2.2.2.call⟩, fun U hU hW => ⟨rfl, hev.warm hW (by rw [hU, hz]; omega), by rw [hU]; exact hz, by rw [hU]; exact hH, hX.warm hW (fun a h1 h2 => by rw [hU]; exact hS.2.1 a h1 h2)⟩⟩
/-- a call of a String's method -/
theorem AX.V {idx d' : Nat} {Q' : Option AV → Nat → Mem → Prop} (ep : pc + 3 = pc') (hM : RetX q v f d' 0 0 y' cc' nL' ret' (ax q :: As) nx M Q') (L : VL y.cls idx y' cc' nL' ret' As.length) (hcn : y'.cls = "java/lang/String") (hd : fet cc pc = some (.invokevirtual idx)) (hst : st = As.reverse ++ ax q :: rest) (hw : (rest.map acat).sum ≤ 8) (hr : d' + 1 ≤ d ∧ 19 + nL' + 40 * d' ≤ 40 * d) (hf : cells ≤ mc ∧ slots ≤ ms)
    (K : ∀ (r : Option AV) (nx' : Nat) (M' : Mem), Q' r nx' M' → AX d mc ms y cc nL ret (XS q v f) Q cells slots nx' pc' ls (r.toList ++ rest) M') : AX d mc ms y cc nL ret (XS q v f) Q cells slots nx pc ls st M := by
  subst ep
  intro p l e s m args below meth c D cI cS B C hX H locs lsA hH hz hS hl
  obtain ⟨n0, hd, hl0⟩ := fet_d hd
  simp only [lenOk, beq_iff_eq] at hl0
  subst hl0
  obtain ⟨⟨L1, L2, L3, L4⟩, L5, L6⟩ := L
  have cb : CallB (rp d mc ms) s args y.cls idx y' cc' nL' ret' (.code y' cc' nL' ret' :: gw) (rp d' 0 0) 0 0 As.length := callB_of As.length C.wd (gw_call L3) rfl rfl rfl (C.wd _ L2) (C.wd _ L1) L4 ⟨hr.1, by show 8 + (nL' + 11) + 40 * d' ≤ 40 * d; omega⟩
  have rc := vk_recv (i := 0) hX.2.1 (by omega) hS
  have pr := preX_ok (av := ax q :: As) C.ev hX hS hH hz
  refine aw_run (rest := rest) C.ev.2.2.2 (va_runV (As := As.map (cv B)) (b := q) (C := y'.cls) ⟨C.1, C.2.1, C.2.2.2.1, C.ow, C.wd⟩ (hM l D cI cS B) ⟨cb, C.wd _ L5, C.wd _ L6⟩ ⟨pr.1, by rw [hcn]; exact rc, pr.2⟩ rfl (by simp) hl.1 ?_ (lv_room (acat_sum hw)) hd hf) hS (fun r nx' M' H1 locs1 hq hP1 hz1 hS1 => K r nx' M' hq p l e s m args below meth c D cI cS B C hX H1 locs1 lsA hP1 hz1 hS1 hl)
  subst hst
  simp [List.map_append, List.map_reverse, cv]
theorem AX.S {idx d' : Nat} {Q' : Option AV → Nat → Mem → Prop} (ep : pc + 3 = pc') (hM : RetX q v f d' 0 0 y' cc' nL' ret' As nx M Q') (L : SL y.cls idx y' cc' nL' ret' As.length) (hd : fet cc pc = some (.invokestatic idx)) (hst : st = As.reverse ++ rest) (hw : (rest.map acat).sum ≤ 8) (hr : d' + 1 ≤ d ∧ 19 + nL' + 40 * d' ≤ 40 * d) (hf : cells ≤ mc ∧ slots ≤ ms)
    (K : ∀ (r : Option AV) (nx' : Nat) (M' : Mem), Q' r nx' M' → AX d mc ms y cc nL ret (XS q v f) Q cells slots nx' pc' ls (r.toList ++ rest) M') : AX d mc ms y cc nL ret (XS q v f) Q cells slots nx pc ls st M := by
  subst ep
  intro p l e s m args below meth c D cI cS B C hX H locs lsA hH hz hS hl
  obtain ⟨n0, hd, hl0⟩ := fet_d hd
  simp only [lenOk, beq_iff_eq] at hl0
  subst hl0
  obtain ⟨⟨L1, L2, L3, L4⟩, L5⟩ := L
  have cb : CallB (rp d mc ms) s args y.cls idx y' cc' nL' ret' (.code y' cc' nL' ret' :: gw) (rp d' 0 0) 0 0 As.length := callB_of As.length C.wd (gw_call L3) rfl rfl rfl (C.wd _ L2) (C.wd _ L1) L4 ⟨hr.1, by show 8 + (nL' + 11) + 40 * d' ≤ 40 * d; omega⟩
  refine aw_run (rest := rest) C.ev.2.2.2 (va_runS (As := As.map (cv B)) ⟨C.1, C.2.1, C.2.2.2.1, C.ow, C.wd⟩ (hM l D cI cS B) ⟨cb, C.wd _ L5⟩ (preX_ok C.ev hX hS hH hz) rfl (by simp) hl.1 ?_ (lv_room (acat_sum hw)) hd hf) hS (fun r nx' M' H1 locs1 hq hP1 hz1 hS1 => K r nx' M' hq p l e s m args below meth c D cI cS B C hX H1 locs1 lsA hP1 hz1 hS1 hl)
  subst hst
  simp [List.map_append, List.map_reverse]
theorem AX.iret {ty : FieldType} {z : Int} (hr : ret = some ty) (hn : narrow ty (.int (Int32.ofInt z)) = .int (Int32.ofInt z)) (hc : cells ≤ mc) (hs : slots ≤ ms) (hd : fet cc pc = some .ireturn) (hQ : Q (some (ai z)) nx M) : AX d mc ms y cc nL ret X Q cells slots nx pc ls [ai z] M := by
  intro p l e s m args below meth c0 D cI cS B C hX H locs lsA hH hz hS hl
  obtain ⟨n0, hd, hl0⟩ := fet_d hd
  simp only [lenOk, beq_iff_eq] at hl0
  subst hl0
  refine W.widen hc hs ?_
  exact W.zret (ty := ty) C.1 C.2.1 (C.2.2.1.trans hr) hn (fun t ht _ => ⟨some (ai z), nx, M, rfl, hQ, by rw [ht]; exact hH, by rw [ht]; exact hz, by rw [ht]; exact hS.1, fun q hq => by rw [ht]; exact hS.2.1 q (Nat.lt_of_lt_of_le hq C.ev.2.2.2) (Nat.not_le.mpr hq)⟩) hS.2.2 hd C.lk
theorem AX.vret (hr : ret = none) (hc : cells ≤ mc) (hs : slots ≤ ms) (hd : fet cc pc = some .return_) (hQ : Q none nx M) : AX d mc ms y cc nL ret X Q cells slots nx pc ls [] M := by
  obtain ⟨n0, hd, hl0⟩ := fet_d hd
  simp only [lenOk, beq_iff_eq] at hl0
  subst hl0
  exact aw_return hr hc hs hd hQ
theorem AX.gets1 {idx : Nat} (ep : pc + 3 = pc') (hl : Cond.fieldLink y.cls idx RJ0 "COMPACT_STRINGS" "Z" ∈ gw) (hd : fet cc pc = some (.getstatic idx)) (K : AX d mc ms y cc nL ret (XS q v f) Q cells slots nx pc' ls (ai 1 :: st) M) : AX d mc ms y cc nL ret (XS q v f) Q cells slots nx pc ls st M := by
  subst ep
  intro p l e s m args below meth c0 D cI cS B C hX H locs lsA hH hz hS hls
  obtain ⟨n0, hd, hl0⟩ := fet_d hd
  simp only [lenOk, beq_iff_eq] at hl0
  subst hl0
  exact va_gets C.1 C.2.1 hX.2.2.1 hS C.ow (C.wd _ hl) (fun _ h => h) hd (K p l e s m args below meth c0 D cI cS B C hX H locs lsA hH hz hS hls)
theorem AX.gets2 {idx : Nat} (ep : pc + 3 = pc') (hl : Cond.fieldLink y.cls idx RJ3 "SIOOBE_FORMATTER" "Ljava/util/function/BiFunction;" ∈ gw) (hd : fet cc pc = some (.getstatic idx)) (K : AX d mc ms y cc nL ret (XS q v f) Q cells slots nx pc' ls (fvv f :: st) M) : AX d mc ms y cc nL ret (XS q v f) Q cells slots nx pc ls st M := by
  subst ep
  intro p l e s m args below meth c0 D cI cS B C hX H locs lsA hH hz hS hls
  obtain ⟨n0, hd, hl0⟩ := fet_d hd
  simp only [lenOk, beq_iff_eq] at hl0
  subst hl0
  have k := K p l e s m args below meth c0 D cI cS B C hX H locs lsA hH hz hS hls
  rw [List.map_cons, fvv_v] at k
  exact va_gets C.1 C.2.1 hX.2.2.2 hS C.ow (C.wd _ hl) (fun _ h => h) hd k
theorem AX.val {idx : Nat} (ep : pc + 3 = pc') (hl : Cond.fieldLink y.cls idx RJ0 "value" "[B" ∈ gw) (hd : fet cc pc = some (.getfield idx)) (K : AX d mc ms y cc nL ret (XS q v f) Q cells slots nx pc' ls (ax v :: t) M) : AX d mc ms y cc nL ret (XS q v f) Q cells slots nx pc ls (ax q :: t) M := by
  subst ep
  intro p l e s m args below meth c0 D cI cS B C hX H locs lsA hH hz hS hls
  obtain ⟨n0, hd, hl0⟩ := fet_d hd
  simp only [lenOk, beq_iff_eq] at hl0
  subst hl0
  exact vk_getf C.1 C.2.1 (hX.2.1.1 0 (by omega)).2.2.1 hS C.ow (C.wd _ hl) (fun _ h => h) hd (K p l e s m args below meth c0 D cI cS B C hX H locs lsA hH hz hS hls)
theorem AX.cod {idx : Nat} (ep : pc + 3 = pc') (hl : Cond.fieldLink y.cls idx RJ0 "coder" "B" ∈ gw) (hd : fet cc pc = some (.getfield idx)) (K : AX d mc ms y cc nL ret (XS q v f) Q cells slots nx pc' ls (ai 0 :: t) M) : AX d mc ms y cc nL ret (XS q v f) Q cells slots nx pc ls (ax q :: t) M := by
  subst ep
  intro p l e s m args below meth c0 D cI cS B C hX H locs lsA hH hz hS hls
  obtain ⟨n0, hd, hl0⟩ := fet_d hd
  simp only [lenOk, beq_iff_eq] at hl0
  subst hl0
  exact vk_getf C.1 C.2.1 (hX.2.1.1 0 (by omega)).2.1 hS C.ow (C.wd _ hl) (fun _ h => h) hd (K p l e s m args below meth c0 D cI cS B C hX H locs lsA hH hz hS hls)
theorem AX.len (ep : pc + 1 = pc') (hd : fet cc pc = some .arraylength) (K : AX d mc ms y cc nL ret (XS q v f) Q cells slots nx pc' ls (ai 46 :: t) M) : AX d mc ms y cc nL ret (XS q v f) Q cells slots nx pc ls (ax v :: t) M := by
  subst ep
  intro p l e s m args below meth c0 D cI cS B C hX H locs lsA hH hz hS hls
  obtain ⟨n0, hd, hl0⟩ := fet_d hd
  simp only [lenOk, beq_iff_eq] at hl0
  subst hl0
  exact va_tlen (N := 46) (v := Int32.ofInt 46) C.1 C.2.1 (hX.2.1.1 0 (by omega)).2.2.2 hS rfl hd (K p l e s m args below meth c0 D cI cS B C hX H locs lsA hH hz hS hls)
theorem stL_ok : ∀ k, k < 46 → stL.getD k 0 = Int32.ofInt (tx0 k) := by decide
theorem AX.bald {i : Nat} (hi : i < 46) (ep : pc + 1 = pc') (hd : fet cc pc = some .baload) (K : AX d mc ms y cc nL ret (XS q v f) Q cells slots nx pc' ls (ai (tx0 i) :: t) M) : AX d mc ms y cc nL ret (XS q v f) Q cells slots nx pc ls (ai i :: ax v :: t) M := by
  subst ep
  intro p l e s m args below meth c0 D cI cS B C hX H locs lsA hH hz hS hls
  obtain ⟨n0, hd, hl0⟩ := fet_d hd
  simp only [lenOk, beq_iff_eq] at hl0
  subst hl0
  obtain ⟨z1, z2⟩ := z_i (x := (i : Int)) (n := 46) (by omega) (by omega) (by omega)
  refine va_tb (N := 46) (v := .int (Int32.ofInt (tx0 i))) C.1 C.2.1 (hX.2.1.1 0 (by omega)).2.2.2 hS z1 ?_ hd (K p l e s m args below meth c0 D cI cS B C hX H locs lsA hH hz hS hls)
  rw [z2, ← stL_ok i hi]
  rfl
theorem AX.i2c {z : Int} (hz0 : 0 ≤ z ∧ z ≤ 126) (ep : pc + 1 = pc') (hd : fet cc pc = some .i2c) (K : AX d mc ms y cc nL ret X Q cells slots nx pc' ls (ai z :: t) M) : AX d mc ms y cc nL ret X Q cells slots nx pc ls (ai z :: t) M := by
  subst ep
  intro p l e s m args below meth c0 D cI cS B C hX H locs lsA hH hz hS hls
  obtain ⟨n0, hd, hl0⟩ := fet_d hd
  simp only [lenOk, beq_iff_eq] at hl0
  subst hl0
  refine lv_i2c (v := Int32.ofInt z) C.1 C.2.1 hd ?_ (K p l e s m args below meth c0 D cI cS B C hX H locs lsA hH hz hS hls)
  obtain ⟨n, rfl⟩ : ∃ n : Nat, z = n := ⟨z.toNat, by omega⟩
  have : ∀ k, k < 127 → ((Int32.ofInt ((k : Nat) : Int)).toUInt32 % 65536).toInt32 = Int32.ofInt ((k : Nat) : Int) := by decide
  exact this n (by omega)
theorem AX.ldcS (hy : y.cls = RX7) (ep : pc + 2 = pc') (hd : fet cc pc = some (.ldc 70)) (K : AX d mc ms y cc nL ret (XS q v f) Q cells slots nx pc' ls (ax q :: st) M) : AX d mc ms y cc nL ret (XS q v f) Q cells slots nx pc ls st M := by
  subst ep
  intro p l e s m args below meth c0 D cI cS B C hX H locs lsA hH hz hS hls
  obtain ⟨n0, hd, hl0⟩ := fet_d hd
  simp only [lenOk, beq_iff_eq] at hl0
  subst hl0
  exact va_ldcS C.1 C.2.1 (by have := C.ow; rw [hy] at this; exact this) hX.1 hd (K p l e s m args below meth c0 D cI cS B C hX H locs lsA hH hz hS hls)
end AXs
