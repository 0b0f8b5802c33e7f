/-! System.arraycopy, of whole rows of ints -/
theorem gw_cp : Cond.methodLink RX5 52 arraycopyName ∈ gw := gw_t 480 (by decide +kernel) rfl
theorem gw_cs : Cond.static arraycopyName ∈ gw := gw_t 481 (by decide +kernel) rfl
theorem gw_cn : Cond.native arraycopyName ∈ gw := gw_t 482 (by decide +kernel) rfl
theorem gw_cy : Cond.initialized "java/lang/System" ∈ gw := gw_t 15 (by decide +kernel) rfl
theorem aw_copy {R : Room} {y : MethodName} {cc : ByteArray} {nL : Nat} {ret : Option FieldType} {X : Nat → State → Prop} {E : ETy} {cells slots nx pc : Nat} {ls : List (Option AV)} {M : Mem} {a0 a1 n : Nat} {f g : Nat → Int} (ha0 : M a0 = some (ci_ n f)) (ha1 : M a1 = some (ci_ n g)) (hn : n ≤ 1000) (hy : y.cls = RX5) (hf : 1 ≤ R.frames) (hl : 40 ≤ R.locals) (hd : fet cc pc = some (.invokestatic 52))
    (K : AW R y cc nL ret X E cells slots nx (pc + 3) ls [] (mu M a1 (ci_ n f))) : AW R y cc nL ret X E cells slots nx pc ls [ai n, ai 0, ar a1, ai 0, ar a0] M := by
  intro p l e s m args below meth c D cI cS B C hX H locs lsA hH hz hS hls
  obtain ⟨n0, hd, hl0⟩ := fet_d hd
  simp only [lenOk, beq_iff_eq] at hl0
  subst hl0
  have hc0 : H[B + a0]? = some (vp_cell cI (n, .inl (fun j => Int32.ofInt (f j)))) := hH a0 _ ha0
  have hc1 : H[B + a1]? = some (vp_cell cI (n, .inl (fun j => Int32.ofInt (g j)))) := hH a1 _ ha1
  intro T hT XX
  have hI := (C.ev.1.2 0 _ rfl).1
  obtain ⟨-, k0, hk0, cm0, hkk0⟩ := hI n (fun j => .int (Int32.ofInt (f j)))
  obtain ⟨-, k1, hk1, cm1, hkk1⟩ := hI n (fun j => .int (Int32.ofInt (g j)))
  have hzn : (Int32.ofInt (n : Int)).toInt = n := z_t ⟨by omega, by omega⟩
  have hz0 : (Int32.ofInt 0).toInt = 0 := z_t ⟨by omega, by omega⟩
  have hnn : ¬ Int32.ofInt (n : Int) < 0 := by rw [show (0 : Int32) = Int32.ofInt 0 from rfl, z_lt ⟨by omega, by omega⟩ ⟨by omega, by omega⟩]; omega
  have hn0 : ¬ Int32.ofInt 0 < 0 := by decide
  have hcn : (Int32.ofInt (n : Int)).toNatClampNeg = n := by show (Int32.ofInt (n : Int)).toInt.toNat = n; rw [hzn]; omega
  have hc00 : (Int32.ofInt 0).toNatClampNeg = 0 := by decide
  have own : s.vm.findClass RX5 = some m.cls := by rw [← hy]; exact C.ow
  obtain ⟨vm', X', step⟩ := XX.arraycopy C.1 own (C.wd _ gw_cp) (C.wd _ gw_cn) (C.wd _ gw_cs) (C.wd _ gw_cy) (src := B + a0) (dst := B + a1) (cs := vp_cell cI (n, .inl (fun j => Int32.ofInt (f j)))) (cd := vp_cell cI (n, .inl (fun j => Int32.ofInt (g j)))) (srcPos := Int32.ofInt 0) (destPos := Int32.ofInt 0) (n := Int32.ofInt (n : Int)) (by rw [hT]; exact hc0) (by rw [hT]; exact hc1)
    (fun _ h => by cases h) (fun _ h => by cases h) (fun h => by cases h) (fun h => by cases h) hk0 hk1 hkk0 hkk1 rfl hn0 hn0 hnn
    (by rw [hz0, hzn]; show ¬ _ > ((arrV cI n (fun j => .int (Int32.ofInt (f j)))).slots.size : Int); rw [arrV_size]; omega)
    (by rw [hz0, hzn]; show ¬ _ > ((arrV cI n (fun j => .int (Int32.ofInt (g j)))).slots.size : Int); rw [arrV_size]; omega)
    (fun vm₁ _ i hi => by
      rw [hcn] at hi
      have e : (vp_cell cI (n, .inl (fun j => Int32.ofInt (f j)))).slots.getD ((Int32.ofInt 0).toNatClampNeg + i) .null = .int (Int32.ofInt (f i)) := by
        show (arrV cI n (fun j => .int (Int32.ofInt (f j)))).slots.getD _ _ = _
        rw [hc00, Nat.zero_add, Array.getD_eq_getD_getElem?, arrV_read _ _ hi]
        rfl
      refine ⟨?_, ?_⟩
      · rw [e]; rfl
      · rw [e]
        exact trivial)
    (g := F0 m pc lsA ([ai n, ai 0, ar a1, ai 0, ar a0].map (cv B))) rfl (by rw [C.2.2.2.1]; exact hls.1) (rest := []) rfl (by rw [C.2.1]; exact hd) hf (by show 2 * 0 + _ + _ ≤ _; simp [nativeFrameWords]; omega)
  have e1 : copied (vp_cell cI (n, .inl (fun j => Int32.ofInt (f j)))) (vp_cell cI (n, .inl (fun j => Int32.ofInt (g j)))) (Int32.ofInt 0) (Int32.ofInt 0) (Int32.ofInt (n : Int)) = vp_cell cI (n, .inl (fun j => Int32.ofInt (f j))) := by
    have e2 : copied (vp_cell cI (n, .inl (fun j => Int32.ofInt (f j)))) (vp_cell cI (n, .inl (fun j => Int32.ofInt (g j)))) (Int32.ofInt 0) (Int32.ofInt 0) (Int32.ofInt (n : Int)) = vp_cell cI (n, .inl (va_cpy (fun j => Int32.ofInt (f j)) (fun j => Int32.ofInt (g j)) (Int32.ofInt 0).toNatClampNeg (Int32.ofInt 0).toNatClampNeg (Int32.ofInt (n : Int)).toNatClampNeg)) := va_copied (n0 := n) (n1 := n) (sp := (Int32.ofInt 0).toNatClampNeg) (dp := (Int32.ofInt 0).toNatClampNeg) (n := (Int32.ofInt (n : Int)).toNatClampNeg) (fun z => .int z) cI cI (fun j => Int32.ofInt (f j)) (fun j => Int32.ofInt (g j)) (by rw [hc00, hcn]; omega)
    rw [e2, vp_cell_i, vp_cell_i]
    refine arrV_eq (fun j hj => ?_)
    simp only [va_cpy, hc00, hcn]
    rw [if_pos (by omega)]
    simp
  rw [e1] at X' step
  have hlt : B + a1 < H.size := (Array.getElem?_eq_some_iff.mp hc1).1
  have hheap : ((T.setVm vm').setCell (B + a1) (vp_cell cI (n, .inl (fun j => Int32.ofInt (f j))))).heap = H.setIfInBounds (B + a1) (vp_cell cI (n, .inl (fun j => Int32.ofInt (f j)))) := by rw [← hT]; rfl
  have oq : ∀ q : Nat, q ≠ B + a1 → (H.setIfInBounds (B + a1) (vp_cell cI (n, .inl (fun j => Int32.ofInt (f j)))))[q]? = H[q]? := fun q hq => by simp [Array.getElem?_setIfInBounds, Ne.symm hq]
  obtain ⟨t, b1, b2⟩ := K p l e s m args below meth c D cI cS B C hX (H.setIfInBounds (B + a1) (vp_cell cI (n, .inl (fun j => Int32.ofInt (f j))))) _ lsA (hH.set (show (H.setIfInBounds (B + a1) _)[B + a1]? = some _ by simp [Array.getElem?_setIfInBounds, hlt]) oq) (by simp; exact hz) ⟨by simp; exact hS.1, fun q g1 g2 => by
      rw [oq q (fun e => g2 (by rw [e]; exact Nat.le_add_right _ _))]
      exact hS.2.1 q g1 g2, fun q hq => by
      rcases List.mem_append.mp hq with h | h
      · exact hS.2.2 q h
      · obtain ⟨z, -, hz⟩ := List.mem_map.mp h
        rw [← hz]
        exact Nat.le_add_right _ _⟩ hls _ hheap X'
  exact ⟨t, step t b1, b2⟩
theorem AM.copy {d : Nat} {y : MethodName} {cc : ByteArray} {nL bz pc : Nat} {ls : List (Option AV)} {M : Mem} {Q : Option AV → Mem → Prop} {a0 a1 n : Nat} {f g : Nat → Int} (ha0 : M a0 = some (ci_ n f)) (ha1 : M a1 = some (ci_ n g)) (hn : n ≤ 1000) (hy : y.cls = RX5) (hf : 1 ≤ d) (hd : fet cc pc = some (.invokestatic 52))
    (K : AM d y cc nL bz Q (pc + 3) ls [] (mu M a1 (ci_ n f))) : AM d y cc nL bz Q pc ls [ai n, ai 0, ar a1, ai 0, ar a0] M := fun nx => aw_copy ha0 ha1 hn hy hf (by show 40 ≤ 40 * d; omega) hd (K nx)
