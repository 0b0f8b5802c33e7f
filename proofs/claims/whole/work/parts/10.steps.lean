/-! EACH INSTRUCTION OF exi IS SOUND: the rows -/
section AWs
variable {R : Room} {y : MethodName} {cc : ByteArray} {nL : Nat} {ret : Option FieldType} {X : Nat → State → Prop} {E : ETy} {cells slots nx pc : Nat} {ls ls' : List (Option AV)} {st t : List AV} {M : Mem}
theorem aw_iconst {n : Int} (hd : decode cc pc = .ok (.iconst n, 1)) (K : AW R y cc nL ret X E cells slots nx (pc + 1) ls (.inl n :: st) M) : AW R y cc nL ret X E cells slots nx pc ls st M := by
  intro p l e s m args below meth c D cI cS B C hX H locs lsA hH hz hS hl
  exact lv_iconst C.1 C.2.1 hd rfl (K p l e s m args below meth c D cI cS B C hX H locs lsA hH hz hS hl)
theorem aw_bipush {n : Int} (hn : -128 ≤ n ∧ n ≤ 127) (hd : decode cc pc = .ok (.bipush n, 2)) (K : AW R y cc nL ret X E cells slots nx (pc + 2) ls (.inl n :: st) M) : AW R y cc nL ret X E cells slots nx pc ls st M := by
  intro p l e s m args below meth c D cI cS B C hX H locs lsA hH hz hS hl
  exact lv_bipush C.1 C.2.1 hd (Int8.toInt32_ofInt (by have := hn.1; show (-128 : Int) ≤ n; omega) (by have := hn.2; show n ≤ (127 : Int); omega)) (K p l e s m args below meth c D cI cS B C hX H locs lsA hH hz hS hl)
theorem aw_sipush {n : Int} (hn : -32768 ≤ n ∧ n ≤ 32767) (hd : decode cc pc = .ok (.sipush n, 3)) (K : AW R y cc nL ret X E cells slots nx (pc + 3) ls (.inl n :: st) M) : AW R y cc nL ret X E cells slots nx pc ls st M := by
  intro p l e s m args below meth c D cI cS B C hX H locs lsA hH hz hS hl
  exact lv_sipush C.1 C.2.1 hd (Int16.toInt32_ofInt (by have := hn.1; show (-32768 : Int) ≤ n; omega) (by have := hn.2; show n ≤ (32767 : Int); omega)) (K p l e s m args below meth c D cI cS B C hX H locs lsA hH hz hS hl)
theorem aw_lconst {n : Fin 2} (hd : decode cc pc = .ok (.lconst n, 1)) (K : AW R y cc nL ret X E cells slots nx (pc + 1) ls (.inr (.inl (n.val : Int)) :: st) M) : AW R y cc nL ret X E cells slots nx pc ls st M := by
  intro p l e s m args below meth c D cI cS B C hX H locs lsA hH hz hS hl
  exact lv_lconst C.1 C.2.1 hd (by match n with | 0 => rfl | 1 => rfl) (K p l e s m args below meth c D cI cS B C hX H locs lsA hH hz hS hl)
theorem aw_ldc {k : Nat} {z : Int} (hg : gI y.cls k = some z) (hd : decode cc pc = .ok (.ldc k, 2)) (K : AW R y cc nL ret X E cells slots nx (pc + 2) ls (.inl z :: st) M) : AW R y cc nL ret X E cells slots nx pc ls st M := by
  intro p l e s m args below meth c D cI cS B C hX H locs lsA hH hz hS hl
  exact lv_ldc C.1 C.2.1 C.2.2.2.2.1 (C.2.2.2.2.2.1 _ (gI_ok hg)) hd (K p l e s m args below meth c D cI cS B C hX H locs lsA hH hz hS hl)
theorem aw_ldc2 {k : Nat} {z : Int} (hg : gL y.cls k = some z) (hd : decode cc pc = .ok (.ldc2_w k, 3)) (K : AW R y cc nL ret X E cells slots nx (pc + 3) ls (.inr (.inl z) :: st) M) : AW R y cc nL ret X E cells slots nx pc ls st M := by
  intro p l e s m args below meth c D cI cS B C hX H locs lsA hH hz hS hl
  exact lv_ldc2 C.1 C.2.1 C.2.2.2.2.1 (C.2.2.2.2.2.1 _ (gL_ok hg)) hd (K p l e s m args below meth c D cI cS B C hX H locs lsA hH hz hS hl)
theorem aw_iload_n {k : Fin 4} {x : Int} (hg : nth ls k.val = some (.inl x)) (hd : decode cc pc = .ok (.iload_n k, 1)) (K : AW R y cc nL ret X E cells slots nx (pc + 1) ls (.inl x :: st) M) : AW R y cc nL ret X E cells slots nx pc ls st M := by
  intro p l e s m args below meth c D cI cS B C hX H locs lsA hH hz hS hl
  exact lv_iload_n C.1 C.2.1 hd rfl (hl.at hg) (K p l e s m args below meth c D cI cS B C hX H locs lsA hH hz hS hl)
theorem aw_iload {k : Nat} {x : Int} (hg : nth ls k = some (.inl x)) (hd : decode cc pc = .ok (.iload k, 2)) (K : AW R y cc nL ret X E cells slots nx (pc + 2) ls (.inl x :: st) M) : AW R y cc nL ret X E cells slots nx pc ls st M := by
  intro p l e s m args below meth c D cI cS B C hX H locs lsA hH hz hS hl
  exact lv_iload C.1 C.2.1 hd (hl.at hg) (K p l e s m args below meth c D cI cS B C hX H locs lsA hH hz hS hl)
theorem aw_lload_n {k : Fin 4} {x : Int} (hg : nth ls k.val = some (.inr (.inl x))) (hd : decode cc pc = .ok (.lload_n k, 1)) (K : AW R y cc nL ret X E cells slots nx (pc + 1) ls (.inr (.inl x) :: st) M) : AW R y cc nL ret X E cells slots nx pc ls st M := by
  intro p l e s m args below meth c D cI cS B C hX H locs lsA hH hz hS hl
  exact lv_lload_n C.1 C.2.1 hd rfl (hl.at hg) (K p l e s m args below meth c D cI cS B C hX H locs lsA hH hz hS hl)
theorem aw_lload {k : Nat} {x : Int} (hg : nth ls k = some (.inr (.inl x))) (hd : decode cc pc = .ok (.lload k, 2)) (K : AW R y cc nL ret X E cells slots nx (pc + 2) ls (.inr (.inl x) :: st) M) : AW R y cc nL ret X E cells slots nx pc ls st M := by
  intro p l e s m args below meth c D cI cS B C hX H locs lsA hH hz hS hl
  exact lv_lload C.1 C.2.1 hd (hl.at hg) (K p l e s m args below meth c D cI cS B C hX H locs lsA hH hz hS hl)
theorem aw_aload_n {k : Fin 4} {v : AV} (hg : nth ls k.val = some v) (hv : ldA (some v) (fun w => w = v)) (hd : decode cc pc = .ok (.aload_n k, 1)) (K : AW R y cc nL ret X E cells slots nx (pc + 1) ls (v :: st) M) : AW R y cc nL ret X E cells slots nx pc ls st M := by
  intro p l e s m args below meth c D cI cS B C hX H locs lsA hH hz hS hl
  match v, hv with
  | .inr (.inr (.inl (some q))), _ => exact lv_aload_n C.1 C.2.1 hd rfl (hl.at hg) (K p l e s m args below meth c D cI cS B C hX H locs lsA hH hz hS hl)
  | .inr (.inr (.inr q)), _ => exact lv_aload_n C.1 C.2.1 hd rfl (hl.at hg) (K p l e s m args below meth c D cI cS B C hX H locs lsA hH hz hS hl)
theorem aw_aload {k : Nat} {v : AV} (hg : nth ls k = some v) (hv : ldA (some v) (fun w => w = v)) (hd : decode cc pc = .ok (.aload k, 2)) (K : AW R y cc nL ret X E cells slots nx (pc + 2) ls (v :: st) M) : AW R y cc nL ret X E cells slots nx pc ls st M := by
  intro p l e s m args below meth c D cI cS B C hX H locs lsA hH hz hS hl
  match v, hv with
  | .inr (.inr (.inl (some q))), _ => exact lv_aload C.1 C.2.1 hd (hl.at hg) (K p l e s m args below meth c D cI cS B C hX H locs lsA hH hz hS hl)
  | .inr (.inr (.inr q)), _ => exact lv_aload C.1 C.2.1 hd (hl.at hg) (K p l e s m args below meth c D cI cS B C hX H locs lsA hH hz hS hl)
theorem aw_istore_n {k : Fin 4} {x : Int} (hg : stl k.val (.inl x) ls = some ls') (hd : decode cc pc = .ok (.istore_n k, 1)) (K : AW R y cc nL ret X E cells slots nx (pc + 1) ls' t M) : AW R y cc nL ret X E cells slots nx pc ls (.inl x :: t) M := by
  intro p l e s m args below meth c D cI cS B C hX H locs lsA hH hz hS hl
  exact lv_istore_n C.1 C.2.1 hd rfl hl.has (by have := (stl_get hg).1; rw [hl.2.2.1] at this; exact this) rfl (fun lsA' g => K p l e s m args below meth c D cI cS B C hX H locs lsA' hH hz hS (hl.st hg g))
theorem aw_istore {k : Nat} {x : Int} (hg : stl k (.inl x) ls = some ls') (hd : decode cc pc = .ok (.istore k, 2)) (K : AW R y cc nL ret X E cells slots nx (pc + 2) ls' t M) : AW R y cc nL ret X E cells slots nx pc ls (.inl x :: t) M := by
  intro p l e s m args below meth c D cI cS B C hX H locs lsA hH hz hS hl
  exact lv_istore C.1 C.2.1 hd hl.has (by have := (stl_get hg).1; rw [hl.2.2.1] at this; exact this) rfl (fun lsA' g => K p l e s m args below meth c D cI cS B C hX H locs lsA' hH hz hS (hl.st hg g))
theorem aw_lstore_n {k : Fin 4} {x : Int} (hg : stl2 k.val (.inr (.inl x)) ls = some ls') (hd : decode cc pc = .ok (.lstore_n k, 1)) (K : AW R y cc nL ret X E cells slots nx (pc + 1) ls' t M) : AW R y cc nL ret X E cells slots nx pc ls (.inr (.inl x) :: t) M := by
  intro p l e s m args below meth c D cI cS B C hX H locs lsA hH hz hS hl
  exact lv_lstore_n C.1 C.2.1 hd rfl hl.has (by have := (stl2_get hg).1; rw [hl.2.2.1] at this; exact this) rfl (fun lsA' g => K p l e s m args below meth c D cI cS B C hX H locs lsA' hH hz hS (hl.st2 hg g))
theorem aw_lstore {k : Nat} {x : Int} (hg : stl2 k (.inr (.inl x)) ls = some ls') (hd : decode cc pc = .ok (.lstore k, 2)) (K : AW R y cc nL ret X E cells slots nx (pc + 2) ls' t M) : AW R y cc nL ret X E cells slots nx pc ls (.inr (.inl x) :: t) M := by
  intro p l e s m args below meth c D cI cS B C hX H locs lsA hH hz hS hl
  exact lv_lstore C.1 C.2.1 hd hl.has (by have := (stl2_get hg).1; rw [hl.2.2.1] at this; exact this) rfl (fun lsA' g => K p l e s m args below meth c D cI cS B C hX H locs lsA' hH hz hS (hl.st2 hg g))
theorem aw_astore_n {k : Fin 4} {x : Nat} (hg : stl k.val (ar x) ls = some ls') (hd : decode cc pc = .ok (.astore_n k, 1)) (K : AW R y cc nL ret X E cells slots nx (pc + 1) ls' t M) : AW R y cc nL ret X E cells slots nx pc ls (ar x :: t) M := by
  intro p l e s m args below meth c D cI cS B C hX H locs lsA hH hz hS hl
  exact lv_astore_n C.1 C.2.1 hd rfl hl.has (by have := (stl_get hg).1; rw [hl.2.2.1] at this; exact this) rfl (fun lsA' g => K p l e s m args below meth c D cI cS B C hX H locs lsA' hH hz hS (hl.st hg g))
theorem aw_astore {k : Nat} {x : Nat} (hg : stl k (ar x) ls = some ls') (hd : decode cc pc = .ok (.astore k, 2)) (K : AW R y cc nL ret X E cells slots nx (pc + 2) ls' t M) : AW R y cc nL ret X E cells slots nx pc ls (ar x :: t) M := by
  intro p l e s m args below meth c D cI cS B C hX H locs lsA hH hz hS hl
  exact lv_astore C.1 C.2.1 hd hl.has (by have := (stl_get hg).1; rw [hl.2.2.1] at this; exact this) rfl (fun lsA' g => K p l e s m args below meth c D cI cS B C hX H locs lsA' hH hz hS (hl.st hg g))
theorem aw_iinc {k : Nat} {n x : Int} (h0 : nth ls k = some (.inl x)) (hg : stl k (.inl (x + n)) ls = some ls') (hd : decode cc pc = .ok (.iinc k n, 3)) (K : AW R y cc nL ret X E cells slots nx (pc + 3) ls' st M) : AW R y cc nL ret X E cells slots nx pc ls st M := by
  intro p l e s m args below meth c D cI cS B C hX H locs lsA hH hz hS hl
  have hm : (k, cv B (.inl x)) ∈ prs B 0 ls := prs_in.mpr ⟨k, .inl x, nth_get h0, by simp⟩
  obtain ⟨q, hq⟩ := List.getElem?_of_mem hm
  exact lv_iinc C.1 C.2.1 hd hl.has (k := q) hq (by rw [← Int32.ofInt_add]) (by have := (stl_get hg).1; rw [hl.2.2.1] at this; exact this) rfl (fun lsA' g => K p l e s m args below meth c D cI cS B C hX H locs lsA' hH hz hS (hl.st hg g))
theorem aw_iadd {x z : Int} (hd : decode cc pc = .ok (.iadd, 1)) (K : AW R y cc nL ret X E cells slots nx (pc + 1) ls (.inl (x + z) :: t) M) : AW R y cc nL ret X E cells slots nx pc ls (.inl (z) :: .inl (x) :: t) M := by
  intro p l e s m args below meth c D cI cS B C hX H locs lsA hH hz hS hl
  have k := (K p l e s m args below meth c D cI cS B C hX H locs lsA hH hz hS hl)
  refine lv_iadd C.1 C.2.1 hd ?_
  rw [show Int32.ofInt x + Int32.ofInt z = _ from (Int32.ofInt_add x z).symm]
  exact k
theorem aw_isub {x z : Int} (hd : decode cc pc = .ok (.isub, 1)) (K : AW R y cc nL ret X E cells slots nx (pc + 1) ls (.inl (x - z) :: t) M) : AW R y cc nL ret X E cells slots nx pc ls (.inl (z) :: .inl (x) :: t) M := by
  intro p l e s m args below meth c D cI cS B C hX H locs lsA hH hz hS hl
  have k := (K p l e s m args below meth c D cI cS B C hX H locs lsA hH hz hS hl)
  refine lv_isub C.1 C.2.1 hd ?_
  rw [show Int32.ofInt x - Int32.ofInt z = _ from (Int32.ofInt_sub x z).symm]
  exact k
theorem aw_imul {x z : Int} (hd : decode cc pc = .ok (.imul, 1)) (K : AW R y cc nL ret X E cells slots nx (pc + 1) ls (.inl (x * z) :: t) M) : AW R y cc nL ret X E cells slots nx pc ls (.inl (z) :: .inl (x) :: t) M := by
  intro p l e s m args below meth c D cI cS B C hX H locs lsA hH hz hS hl
  have k := (K p l e s m args below meth c D cI cS B C hX H locs lsA hH hz hS hl)
  refine lv_imul C.1 C.2.1 hd ?_
  rw [show Int32.ofInt x * Int32.ofInt z = _ from (Int32.ofInt_mul x z).symm]
  exact k
theorem aw_idiv {x z : Int} (hs : inR x ∧ 0 < z ∧ z < 2147483648) (hd : decode cc pc = .ok (.idiv, 1)) (K : AW R y cc nL ret X E cells slots nx (pc + 1) ls (.inl (x.tdiv z) :: t) M) : AW R y cc nL ret X E cells slots nx pc ls (.inl (z) :: .inl (x) :: t) M := by
  intro p l e s m args below meth c D cI cS B C hX H locs lsA hH hz hS hl
  have k := (K p l e s m args below meth c D cI cS B C hX H locs lsA hH hz hS hl)
  refine lv_idiv C.1 C.2.1 hd (z_ne0 hs.2.1 hs.2.2) ?_
  rw [show Int32.ofInt x / Int32.ofInt z = _ from z_div hs.1 hs.2.1 hs.2.2]
  exact k
theorem aw_irem {x z : Int} (hs : inR x ∧ 0 < z ∧ z < 2147483648) (hd : decode cc pc = .ok (.irem, 1)) (K : AW R y cc nL ret X E cells slots nx (pc + 1) ls (.inl (x.tmod z) :: t) M) : AW R y cc nL ret X E cells slots nx pc ls (.inl (z) :: .inl (x) :: t) M := by
  intro p l e s m args below meth c D cI cS B C hX H locs lsA hH hz hS hl
  have k := (K p l e s m args below meth c D cI cS B C hX H locs lsA hH hz hS hl)
  refine lv_irem C.1 C.2.1 hd (z_ne0 hs.2.1 hs.2.2) ?_
  rw [show Int32.ofInt x - Int32.ofInt x / Int32.ofInt z * Int32.ofInt z = _ from z_rem hs.1 hs.2.1 hs.2.2]
  exact k
theorem aw_iand {x z : Int} (hd : decode cc pc = .ok (.iand, 1)) (K : AW R y cc nL ret X E cells slots nx (pc + 1) ls (.inl (zand x z) :: t) M) : AW R y cc nL ret X E cells slots nx pc ls (.inl (z) :: .inl (x) :: t) M := by
  intro p l e s m args below meth c D cI cS B C hX H locs lsA hH hz hS hl
  have k := (K p l e s m args below meth c D cI cS B C hX H locs lsA hH hz hS hl)
  refine lv_iand C.1 C.2.1 hd ?_
  rw [show Int32.ofInt x &&& Int32.ofInt z = Int32.ofInt (zand x z) by rw [zand_d, Int32.ofInt_toInt]]
  exact k
theorem aw_ior {x z : Int} (hd : decode cc pc = .ok (.ior, 1)) (K : AW R y cc nL ret X E cells slots nx (pc + 1) ls (.inl (zor x z) :: t) M) : AW R y cc nL ret X E cells slots nx pc ls (.inl (z) :: .inl (x) :: t) M := by
  intro p l e s m args below meth c D cI cS B C hX H locs lsA hH hz hS hl
  have k := (K p l e s m args below meth c D cI cS B C hX H locs lsA hH hz hS hl)
  refine lv_ior C.1 C.2.1 hd ?_
  rw [show Int32.ofInt x ||| Int32.ofInt z = Int32.ofInt (zor x z) by rw [zor_d, Int32.ofInt_toInt]]
  exact k
theorem aw_ixor {x z : Int} (hd : decode cc pc = .ok (.ixor, 1)) (K : AW R y cc nL ret X E cells slots nx (pc + 1) ls (.inl (zxor x z) :: t) M) : AW R y cc nL ret X E cells slots nx pc ls (.inl (z) :: .inl (x) :: t) M := by
  intro p l e s m args below meth c D cI cS B C hX H locs lsA hH hz hS hl
  have k := (K p l e s m args below meth c D cI cS B C hX H locs lsA hH hz hS hl)
  refine lv_ixor C.1 C.2.1 hd ?_
  rw [show Int32.ofInt x ^^^ Int32.ofInt z = Int32.ofInt (zxor x z) by rw [zxor_d, Int32.ofInt_toInt]]
  exact k
theorem aw_ishl {x z : Int} (hd : decode cc pc = .ok (.ishl, 1)) (K : AW R y cc nL ret X E cells slots nx (pc + 1) ls (.inl (zshl x z) :: t) M) : AW R y cc nL ret X E cells slots nx pc ls (.inl (z) :: .inl (x) :: t) M := by
  intro p l e s m args below meth c D cI cS B C hX H locs lsA hH hz hS hl
  have k := (K p l e s m args below meth c D cI cS B C hX H locs lsA hH hz hS hl)
  refine lv_ishl C.1 C.2.1 hd ?_
  rw [show Int32.ofInt x <<< (Int32.ofInt z &&& 31) = Int32.ofInt (zshl x z) by rw [zshl_d, Int32.ofInt_toInt]]
  exact k
theorem aw_ishr {x z : Int} (hd : decode cc pc = .ok (.ishr, 1)) (K : AW R y cc nL ret X E cells slots nx (pc + 1) ls (.inl (zshr x z) :: t) M) : AW R y cc nL ret X E cells slots nx pc ls (.inl (z) :: .inl (x) :: t) M := by
  intro p l e s m args below meth c D cI cS B C hX H locs lsA hH hz hS hl
  have k := (K p l e s m args below meth c D cI cS B C hX H locs lsA hH hz hS hl)
  refine lv_ishr C.1 C.2.1 hd ?_
  rw [show Int32.ofInt x >>> (Int32.ofInt z &&& 31) = Int32.ofInt (zshr x z) by rw [zshr_d, Int32.ofInt_toInt]]
  exact k
theorem aw_ladd {x z : Int} (hd : decode cc pc = .ok (.ladd, 1)) (K : AW R y cc nL ret X E cells slots nx (pc + 1) ls (.inr (.inl (x + z)) :: t) M) : AW R y cc nL ret X E cells slots nx pc ls (.inr (.inl (z)) :: .inr (.inl (x)) :: t) M := by
  intro p l e s m args below meth c D cI cS B C hX H locs lsA hH hz hS hl
  have k := (K p l e s m args below meth c D cI cS B C hX H locs lsA hH hz hS hl)
  refine lv_ladd C.1 C.2.1 hd ?_
  rw [show Int64.ofInt x + Int64.ofInt z = _ from (Int64.ofInt_add x z).symm]
  exact k
theorem aw_lmul {x z : Int} (hd : decode cc pc = .ok (.lmul, 1)) (K : AW R y cc nL ret X E cells slots nx (pc + 1) ls (.inr (.inl (x * z)) :: t) M) : AW R y cc nL ret X E cells slots nx pc ls (.inr (.inl (z)) :: .inr (.inl (x)) :: t) M := by
  intro p l e s m args below meth c D cI cS B C hX H locs lsA hH hz hS hl
  have k := (K p l e s m args below meth c D cI cS B C hX H locs lsA hH hz hS hl)
  refine lv_lmul C.1 C.2.1 hd ?_
  rw [show Int64.ofInt x * Int64.ofInt z = _ from (Int64.ofInt_mul x z).symm]
  exact k
theorem aw_lrem {x z : Int} (hs : inL x ∧ 0 < z ∧ z < 9223372036854775808) (hd : decode cc pc = .ok (.lrem, 1)) (K : AW R y cc nL ret X E cells slots nx (pc + 1) ls (.inr (.inl (x.tmod z)) :: t) M) : AW R y cc nL ret X E cells slots nx pc ls (.inr (.inl (z)) :: .inr (.inl (x)) :: t) M := by
  intro p l e s m args below meth c D cI cS B C hX H locs lsA hH hz hS hl
  have k := (K p l e s m args below meth c D cI cS B C hX H locs lsA hH hz hS hl)
  refine lv_lrem C.1 C.2.1 hd (z_ne0l hs.2.1 hs.2.2) ?_
  rw [show Int64.ofInt x - Int64.ofInt x / Int64.ofInt z * Int64.ofInt z = _ from z_lrem hs.1 hs.2.1 hs.2.2]
  exact k
theorem aw_lcmp {x z : Int} (hs : inL x ∧ inL z) (hd : decode cc pc = .ok (.lcmp, 1)) (K : AW R y cc nL ret X E cells slots nx (pc + 1) ls (.inl (zcmp x z) :: t) M) : AW R y cc nL ret X E cells slots nx pc ls (.inr (.inl z) :: .inr (.inl x) :: t) M := by
  intro p l e s m args below meth c D cI cS B C hX H locs lsA hH hz hS hl
  have k := (K p l e s m args below meth c D cI cS B C hX H locs lsA hH hz hS hl)
  refine W.lcmp C.1 C.2.1 hd ?_
  rw [z_cmp hs.1 hs.2]
  exact k
theorem aw_iushr {x z : Int} (hd : decode cc pc = .ok (.iushr, 1)) (K : AW R y cc nL ret X E cells slots nx (pc + 1) ls (.inl (zushr x z) :: t) M) : AW R y cc nL ret X E cells slots nx pc ls (.inl z :: .inl x :: t) M := by
  intro p l e s m args below meth c D cI cS B C hX H locs lsA hH hz hS hl
  exact lv_iushr C.1 C.2.1 hd (v := Int32.ofInt (zushr x z)) (by rw [zushr_d, Int32.ofInt_toInt]) (K p l e s m args below meth c D cI cS B C hX H locs lsA hH hz hS hl)
theorem aw_i2l {x : Int} (hs : inR x) (hd : decode cc pc = .ok (.i2l, 1)) (K : AW R y cc nL ret X E cells slots nx (pc + 1) ls (.inr (.inl x) :: t) M) : AW R y cc nL ret X E cells slots nx pc ls (.inl x :: t) M := by
  intro p l e s m args below meth c D cI cS B C hX H locs lsA hH hz hS hl
  exact lv_i2l C.1 C.2.1 hd (z_wide hs) (K p l e s m args below meth c D cI cS B C hX H locs lsA hH hz hS hl)
theorem aw_l2i {x : Int} (hd : decode cc pc = .ok (.l2i, 1)) (K : AW R y cc nL ret X E cells slots nx (pc + 1) ls (.inl x :: t) M) : AW R y cc nL ret X E cells slots nx pc ls (.inr (.inl x) :: t) M := by
  intro p l e s m args below meth c D cI cS B C hX H locs lsA hH hz hS hl
  exact lv_l2i C.1 C.2.1 hd Int64.toInt32_ofInt (K p l e s m args below meth c D cI cS B C hX H locs lsA hH hz hS hl)
theorem c1_cat {B : Nat} {v : AV} (h : c1 v) : (cv B v).category = 1 := by
  match v, h with
  | .inl _, _ => rfl
  | .inr (.inr (.inl (some _))), _ => rfl
  | .inr (.inr (.inl none)), _ => rfl
  | .inr (.inr (.inr _)), _ => rfl
theorem aw_dup {v : AV} (hv : c1 v) (hd : decode cc pc = .ok (.dup, 1)) (K : AW R y cc nL ret X E cells slots nx (pc + 1) ls (v :: v :: t) M) : AW R y cc nL ret X E cells slots nx pc ls (v :: t) M := by
  intro p l e s m args below meth c D cI cS B C hX H locs lsA hH hz hS hl
  exact lv_dup C.1 C.2.1 hd (c1_cat hv) (K p l e s m args below meth c D cI cS B C hX H locs lsA hH hz hS hl)
theorem aw_pop {v : AV} (hv : c1 v) (hd : decode cc pc = .ok (.pop, 1)) (K : AW R y cc nL ret X E cells slots nx (pc + 1) ls t M) : AW R y cc nL ret X E cells slots nx pc ls (v :: t) M := by
  intro p l e s m args below meth c D cI cS B C hX H locs lsA hH hz hS hl
  exact lv_pop C.1 C.2.1 hd (c1_cat hv) (K p l e s m args below meth c D cI cS B C hX H locs lsA hH hz hS hl)
theorem aw_dup_x1 {v w : AV} (hv : c1 v) (hw : c1 w) (hd : decode cc pc = .ok (.dup_x1, 1)) (K : AW R y cc nL ret X E cells slots nx (pc + 1) ls (v :: w :: v :: t) M) : AW R y cc nL ret X E cells slots nx pc ls (v :: w :: t) M := by
  intro p l e s m args below meth c D cI cS B C hX H locs lsA hH hz hS hl
  exact lv_dup_x1 C.1 C.2.1 hd (c1_cat hv) (c1_cat hw) (K p l e s m args below meth c D cI cS B C hX H locs lsA hH hz hS hl)
theorem aw_dup2 {v w : AV} (hv : c1 v) (hw : c1 w) (hd : decode cc pc = .ok (.dup2, 1)) (K : AW R y cc nL ret X E cells slots nx (pc + 1) ls (v :: w :: v :: w :: t) M) : AW R y cc nL ret X E cells slots nx pc ls (v :: w :: t) M := by
  intro p l e s m args below meth c D cI cS B C hX H locs lsA hH hz hS hl
  exact lv_dup2_11 C.1 C.2.1 hd (c1_cat hv) (c1_cat hw) (K p l e s m args below meth c D cI cS B C hX H locs lsA hH hz hS hl)
theorem aw_if {x : Int} {cd : Jvm.ClassFile.Cond} {off : Int} (hx : inR x) (ho : 0 ≤ (pc : Int) + off) (hd : decode cc pc = .ok (.ifCond cd off, 3)) (K1 : cnd cd x 0 → AW R y cc nL ret X E cells slots nx (jt pc off) ls t M) (K2 : ¬ cnd cd x 0 → AW R y cc nL ret X E cells slots nx (pc + 3) ls t M) : AW R y cc nL ret X E cells slots nx pc ls (.inl x :: t) M := by
  intro p l e s m args below meth c D cI cS B C hX H locs lsA hH hz hS hl
  have ht : (pc : Int) + off = ((jt pc off : Nat) : Int) := by unfold jt; omega
  have hy : inR 0 := ⟨by omega, by omega⟩
  cases cd with
  | eq => exact lv_if_eq C.1 C.2.1 hd ht (fun q => K1 ((z_eq hx hy).mp q) p l e s m args below meth c D cI cS B C hX H locs lsA hH hz hS hl) (fun q => K2 (fun w => q ((z_eq hx hy).mpr w)) p l e s m args below meth c D cI cS B C hX H locs lsA hH hz hS hl)
  | ne => exact lv_if_ne C.1 C.2.1 hd ht (fun q => K1 (fun w => q ((z_eq hx hy).mpr w)) p l e s m args below meth c D cI cS B C hX H locs lsA hH hz hS hl) (fun q => K2 (fun w => w ((z_eq hx hy).mp q)) p l e s m args below meth c D cI cS B C hX H locs lsA hH hz hS hl)
  | lt => exact lv_if_lt C.1 C.2.1 hd ht (fun q => K1 ((z_lt hx hy).mp q) p l e s m args below meth c D cI cS B C hX H locs lsA hH hz hS hl) (fun q => K2 (fun w => q ((z_lt hx hy).mpr w)) p l e s m args below meth c D cI cS B C hX H locs lsA hH hz hS hl)
  | ge => exact lv_if_ge C.1 C.2.1 hd ht (fun q => K1 ((z_le hy hx).mp q) p l e s m args below meth c D cI cS B C hX H locs lsA hH hz hS hl) (fun q => K2 (fun w => q ((z_le hy hx).mpr w)) p l e s m args below meth c D cI cS B C hX H locs lsA hH hz hS hl)
  | gt => exact lv_if_gt C.1 C.2.1 hd ht (fun q => K1 ((z_lt hy hx).mp q) p l e s m args below meth c D cI cS B C hX H locs lsA hH hz hS hl) (fun q => K2 (fun w => q ((z_lt hy hx).mpr w)) p l e s m args below meth c D cI cS B C hX H locs lsA hH hz hS hl)
  | le => exact lv_if_le C.1 C.2.1 hd ht (fun q => K1 ((z_le hx hy).mp q) p l e s m args below meth c D cI cS B C hX H locs lsA hH hz hS hl) (fun q => K2 (fun w => q ((z_le hx hy).mpr w)) p l e s m args below meth c D cI cS B C hX H locs lsA hH hz hS hl)
theorem aw_icmp {x z : Int} {cd : Jvm.ClassFile.Cond} {off : Int} (hx : inR x) (hy : inR z) (ho : 0 ≤ (pc : Int) + off) (hd : decode cc pc = .ok (.if_icmp cd off, 3)) (K1 : cnd cd x z → AW R y cc nL ret X E cells slots nx (jt pc off) ls t M) (K2 : ¬ cnd cd x z → AW R y cc nL ret X E cells slots nx (pc + 3) ls t M) : AW R y cc nL ret X E cells slots nx pc ls (.inl z :: .inl x :: t) M := by
  intro p l e s m args below meth c D cI cS B C hX H locs lsA hH hz hS hl
  have ht : (pc : Int) + off = ((jt pc off : Nat) : Int) := by unfold jt; omega
  cases cd with
  | eq => exact lv_icmp_eq C.1 C.2.1 hd ht (fun q => K1 ((z_eq hx hy).mp q) p l e s m args below meth c D cI cS B C hX H locs lsA hH hz hS hl) (fun q => K2 (fun w => q ((z_eq hx hy).mpr w)) p l e s m args below meth c D cI cS B C hX H locs lsA hH hz hS hl)
  | ne => exact lv_icmp_ne C.1 C.2.1 hd ht (fun q => K1 (fun w => q ((z_eq hx hy).mpr w)) p l e s m args below meth c D cI cS B C hX H locs lsA hH hz hS hl) (fun q => K2 (fun w => w ((z_eq hx hy).mp q)) p l e s m args below meth c D cI cS B C hX H locs lsA hH hz hS hl)
  | lt => exact lv_icmp_lt C.1 C.2.1 hd ht (fun q => K1 ((z_lt hx hy).mp q) p l e s m args below meth c D cI cS B C hX H locs lsA hH hz hS hl) (fun q => K2 (fun w => q ((z_lt hx hy).mpr w)) p l e s m args below meth c D cI cS B C hX H locs lsA hH hz hS hl)
  | ge => exact lv_icmp_ge C.1 C.2.1 hd ht (fun q => K1 ((z_le hy hx).mp q) p l e s m args below meth c D cI cS B C hX H locs lsA hH hz hS hl) (fun q => K2 (fun w => q ((z_le hy hx).mpr w)) p l e s m args below meth c D cI cS B C hX H locs lsA hH hz hS hl)
  | gt => exact lv_icmp_gt C.1 C.2.1 hd ht (fun q => K1 ((z_lt hy hx).mp q) p l e s m args below meth c D cI cS B C hX H locs lsA hH hz hS hl) (fun q => K2 (fun w => q ((z_lt hy hx).mpr w)) p l e s m args below meth c D cI cS B C hX H locs lsA hH hz hS hl)
  | le => exact lv_icmp_le C.1 C.2.1 hd ht (fun q => K1 ((z_le hx hy).mp q) p l e s m args below meth c D cI cS B C hX H locs lsA hH hz hS hl) (fun q => K2 (fun w => q ((z_le hx hy).mpr w)) p l e s m args below meth c D cI cS B C hX H locs lsA hH hz hS hl)
theorem aw_goto {off : Int} (ho : 0 ≤ (pc : Int) + off) (hd : decode cc pc = .ok (.goto off, 3)) (K : AW R y cc nL ret X E cells slots nx (jt pc off) ls st M) : AW R y cc nL ret X E cells slots nx pc ls st M := by
  intro p l e s m args below meth c D cI cS B C hX H locs lsA hH hz hS hl
  exact lv_goto C.1 C.2.1 hd (by unfold jt; omega) (K p l e s m args below meth c D cI cS B C hX H locs lsA hH hz hS hl)
end AWs
