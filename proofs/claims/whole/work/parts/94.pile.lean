/-! a reference is laid into an array of States; the piles -/
def gup (g : Nat → Option Nat) (i : Nat) (x : Option Nat) : Nat → Option Nat := fun j => if j = i then x else g j
theorem aw_aastore {R : Room} {y : MethodName} {cc : ByteArray} {nL : Nat} {ret : Option FieldType} {X : Nat → State → Prop} {E : ETy} {cells slots nx pc : Nat} {ls : List (Option AV)} {t : List AV} {M : Mem} {a v n : Nat} {i : Int} {g : Nat → Option Nat} {fs : List AV} (ha : M a = some (cr_ n g)) (hv : M v = some (co_ 5 fs)) (hi : 0 ≤ i ∧ i < (n : Int) ∧ n ≤ 2147483648) (hd : fet cc pc = some .aastore)
    (K : AW R y cc nL ret X E cells slots nx (pc + 1) ls t (mu M a (cr_ n (gup g i.toNat (some v))))) : AW R y cc nL ret X E cells slots nx pc ls (ar v :: ai i :: ar a :: t) M := by
  intro p l e s m args below meth c D cI cS B C hX H locs lsA hH hz hS hls
  obtain ⟨n0, hd, hl0⟩ := fet_d hd
  simp only [lenOk, beq_iff_eq] at hl0
  subst hl0
  obtain ⟨z1, z2⟩ := z_i hi.2.2 hi.1 hi.2.1
  have hcA : H[B + a]? = some (vp_cell cS (n, .inr (.inr (.inr (.inr (fun j => (g j).map (fun k => B + k))))))) := hH a _ ha
  obtain ⟨r', hr', cellV, g1, g2, g3, -⟩ := hH v _ hv
  have hcls := (C.ev.1.1 5 (RX5, TX5, 8) rfl).2
  obtain ⟨kA, comp, k1, k2, k3, -⟩ := (C.ev.1.2 1 (cS, .object RX5) rfl).2
  have hcomp : comp = D.1 5 := Option.some.inj (k3.symm.trans hcls.1)
  subst hcomp
  obtain ⟨kC, hkC, -⟩ := hcls.2
  have hlt : (Int32.ofInt i).toNatClampNeg < n := Nat.not_le.mp fun q => z1 (Or.inr q)
  have h0 : ¬ Int32.ofInt i < 0 := fun q => z1 (Or.inl q)
  refine W.aast C.1 C.2.1 hcA (fun q h => by cases h) (fun h => by cases h) k1 k2 rfl hkC ⟨h0, by show _ < (arrV _ _ _).slots.size; rw [arrV_size]; exact hlt⟩ g1 (fun q h => by rw [g3] at h; cases h) (by rw [g2]; exact hkC) (by rw [g2]; exact va_assign hcls) rfl rfl hd fun H1 e1 z oq => ?_
  refine K p l e s m args below meth c D cI cS B C hX H1 _ lsA (hH.set ?_ oq) (by rw [z]; exact hz) (hS.put z oq (Nat.le_add_right _ _)) hls
  show H1[B + a]? = some (vp_cell cS (n, .inr (.inr (.inr (.inr (fun j => (gup g i.toNat (some v) j).map (fun k => B + k)))))))
  rw [e1, z2]
  rw [vp_cell_q, vp_cell_q, arrV_store]
  congr 2
  funext q
  by_cases hq : q = i.toNat
  · subst hq
    simp [updV, gup, va_rf]
  · simp [updV, gup, hq]
theorem AM.aast {d : Nat} {y : MethodName} {cc : ByteArray} {nL bz pc : Nat} {ls : List (Option AV)} {t : List AV} {M : Mem} {Q : Option AV → Mem → Prop} {a v n : Nat} {i : Int} {g : Nat → Option Nat} {fs : List AV} (ha : M a = some (cr_ n g)) (hv : M v = some (co_ 5 fs)) (hi : 0 ≤ i ∧ i < (n : Int) ∧ n ≤ 2147483648) (hd : fet cc pc = some .aastore)
    (K : AM d y cc nL bz Q (pc + 1) ls t (mu M a (cr_ n (gup g i.toNat (some v))))) : AM d y cc nL bz Q pc ls (ar v :: ai i :: ar a :: t) M := fun nx => aw_aastore ha hv hi hd (K nx)
