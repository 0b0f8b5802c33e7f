/-! ONE INSTRUCTION AS A CONDITION ON WHAT FOLLOWS (exi), a run of them (wp) -/
-- the tables of links: (own class, place in its constant pool, class number, field number)
def e_i (st : List AV) (f : Int → List AV → Prop) : Prop := match st with
  | .inl x :: t => f x t
  | _ => False
def e_ii (st : List AV) (f : Int → Int → List AV → Prop) : Prop := match st with
  | .inl y :: .inl x :: t => f x y t
  | _ => False
def e_l (st : List AV) (f : Int → List AV → Prop) : Prop := match st with
  | .inr (.inl x) :: t => f x t
  | _ => False
def e_ll (st : List AV) (f : Int → Int → List AV → Prop) : Prop := match st with
  | .inr (.inl y) :: .inr (.inl x) :: t => f x y t
  | _ => False
def e_r (st : List AV) (f : Nat → List AV → Prop) : Prop := match st with
  | .inr (.inr (.inl (some a))) :: t => f a t
  | _ => False
def e_rr (st : List AV) (f : (Option Nat ⊕ Nat) → List AV → Prop) : Prop := match st with
  | .inr (.inr r) :: t => f r t
  | _ => False
def e_ir (st : List AV) (f : (Option Nat ⊕ Nat) → Int → List AV → Prop) : Prop := match st with
  | .inl i :: .inr (.inr r) :: t => f r i t
  | _ => False
def e_iir (st : List AV) (f : Nat → Int → Int → List AV → Prop) : Prop := match st with
  | .inl x :: .inl i :: .inr (.inr (.inl (some a))) :: t => f a i x t
  | _ => False
def e_vr (st : List AV) (f : Nat → AV → List AV → Prop) : Prop := match st with
  | v :: .inr (.inr (.inl (some a))) :: t => f a v t
  | _ => False
def c1 (v : AV) : Prop := match v with
  | .inr (.inl _) => False
  | _ => True
def e_1 (st : List AV) (f : AV → List AV → Prop) : Prop := match st with
  | v :: t => c1 v ∧ f v t
  | _ => False
def e_2 (st : List AV) (f : AV → AV → List AV → Prop) : Prop := match st with
  | v :: w :: t => c1 v ∧ c1 w ∧ f v w t
  | _ => False
def nth (ls : List (Option AV)) (i : Nat) : Option AV := match ls, i with
  | [], _ => none
  | o :: _, 0 => o
  | _ :: t, i + 1 => nth t i
def nthV (fs : List AV) (i : Nat) : Option AV := match fs, i with
  | [], _ => none
  | o :: _, 0 => some o
  | _ :: t, i + 1 => nthV t i
def ocons {α : Type} (o : α) (l : Option (List α)) : Option (List α) := match l with
  | some l => some (o :: l)
  | none => none
def setV (fs : List AV) (i : Nat) (v : AV) : Option (List AV) := match fs, i with
  | [], _ => none
  | _ :: t, 0 => some (v :: t)
  | o :: t, i + 1 => ocons o (setV t i v)
def clr (o : Option AV) : Option AV := match o with
  | some (.inr (.inl _)) => none
  | o => o
def stl (i : Nat) (v : AV) (ls : List (Option AV)) : Option (List (Option AV)) := match i, ls with
  | 0, _ :: t => some (some v :: t)
  | 1, o :: _ :: t => some (clr o :: some v :: t)
  | i + 2, o :: t => ocons o (stl (i + 1) v t)
  | _, _ => none
def stl2 (i : Nat) (v : AV) (ls : List (Option AV)) : Option (List (Option AV)) := match i, ls with
  | 0, _ :: _ :: t => some (some v :: none :: t)
  | 1, o :: _ :: _ :: t => some (clr o :: some v :: none :: t)
  | i + 2, o :: t => ocons o (stl2 (i + 1) v t)
  | _, _ => none
def oo {α : Type} (o : Option α) (f : α → Prop) : Prop := match o with
  | some x => f x
  | none => False
def os {α : Type} (S : Prop) (o : Option α) (f : α → Prop) : Prop := match o with
  | some x => f x
  | none => S
def mO (M : Mem) (a c : Nat) (f : List AV → Prop) : Prop := match M a with
  | some (.inr (.inr (c', fs))) => c' = c ∧ f fs
  | _ => False
def mI (M : Mem) (a : Nat) (f : Nat → (Nat → Int) → Prop) : Prop := match M a with
  | some (.inl (n, g)) => f n g
  | _ => False
def mR (M : Mem) (a : Nat) (f : Nat → (Nat → Option Nat) → Prop) : Prop := match M a with
  | some (.inr (.inl (n, g))) => f n g
  | _ => False
def mN (M : Mem) (a : Nat) (f : Nat → Prop) : Prop := match M a with
  | some (.inl (n, _)) => f n
  | some (.inr (.inl (n, _))) => f n
  | _ => False
def ldI (v : Option AV) (f : AV → Prop) : Prop := match v with
  | some (.inl x) => f (.inl x)
  | _ => False
def ldL (v : Option AV) (f : AV → Prop) : Prop := match v with
  | some (.inr (.inl x)) => f (.inr (.inl x))
  | _ => False
def ldA (v : Option AV) (f : AV → Prop) : Prop := match v with
  | some (.inr (.inr (.inl (some x)))) => f (.inr (.inr (.inl (some x))))
  | some (.inr (.inr (.inr x))) => f (.inr (.inr (.inr x)))
  | _ => False
def ldZ (v : Option AV) (f : Int → Prop) : Prop := match v with
  | some (.inl x) => f x
  | _ => False
def rsel (r : Option Nat ⊕ Nat) (f g : Nat → Prop) : Prop := match r with
  | .inl (some a) => f a
  | .inr b => g b
  | .inl none => False
def e_z (st : List AV) (f : Int → Prop) : Prop := match st with
  | [.inl z] => f z
  | _ => False
def e_n (st : List AV) (f : Prop) : Prop := match st with
  | [] => f
  | _ => False
def cnd (c : Jvm.ClassFile.Cond) (x y : Int) : Prop := match c with
  | .eq => x = y
  | .ne => ¬ x = y
  | .lt => x < y
  | .ge => y ≤ x
  | .gt => y < x
  | .le => x ≤ y
def jt (pc : Nat) (off : Int) : Nat := ((pc : Int) + off).toNat
def tsw (x : Int) (K : Nat → Prop) (pc : Nat) : List Int → Int → Prop
  | [], _ => True
  | o :: t, k => (x = k → K (jt pc o)) ∧ tsw x K pc t (k + 1)
def lsw (x : Int) (K : Nat → Prop) (pc : Nat) (d : Int) : List (Int × Int) → Prop
  | [] => K (jt pc d)
  | (k, o) :: t => (x = k → K (jt pc o)) ∧ (¬ x = k → lsw x K pc d t)
def okT (ty : Nat) (v : AV) : Prop := match v with
  | .inl z => ty = 0 ∨ (ty = 1 ∧ (z = 0 ∨ z = 1))
  | .inr (.inr (.inl (some _))) => ty = 2
  | .inr (.inr (.inl none)) => ty = 2
  | _ => False
-- (own class, place) ↦ (class number, field number); (.., type: 0 int, 1 boolean, 2 a reference)
def tb_get (T : List (String × Nat × Nat × Nat)) (own : String) (i : Nat) : Option (Nat × Nat) := (T.find? (fun q => q.1 == own && q.2.1 == i)).map (fun q => q.2.2)
def tb_int (T : List (String × Nat × Int)) (own : String) (i : Nat) : Option Int := (T.find? (fun q => q.1 == own && q.2.1 == i)).map (fun q => q.2.2)
def ftab : List (String × Nat × Nat × Nat) := [(RX4, 11, 4, 0), (RX4, 32, 4, 1), (RX4, 20, 4, 2), (RX1, 39, 1, 0), (RX4, 56, 1, 0), (RX7, 106, 1, 0), (RX1, 43, 1, 1), (RX0, 36, 1, 1), (RX4, 59, 1, 1), (RX7, 225, 1, 1), (RX1, 46, 1, 2), (RX0, 66, 1, 2), (RX6, 55, 1, 2), (RX7, 97, 1, 2), (RX4, 62, 1, 2), (RX1, 49, 1, 3), (RX0, 92, 1, 3), (RX4, 80, 1, 3), (RX7, 272, 1, 3), (RX1, 52, 1, 4), (RX0, 41, 1, 4), (RX7, 125, 1, 4), (RX4, 77, 1, 4), (RX1, 9, 1, 5), (RX6, 63, 1, 5), (RX7, 116, 1, 5), (RX4, 68, 1, 5), (RX0, 149, 1, 5), (RX1, 15, 1, 6), (RX6, 66, 1, 6), (RX7, 119, 1, 6), (RX4, 71, 1, 6), (RX0, 152, 1, 6), (RX1, 18, 1, 7), (RX5, 41, 1, 7), (RX7, 122, 1, 7), (RX4, 74, 1, 7), (RX1, 21, 1, 8), (RX5, 46, 1, 8), (RX4, 83, 1, 8), (RX0, 167, 1, 8), (RX1, 24, 1, 9), (RX5, 49, 1, 9), (RX4, 86, 1, 9), (RX0, 170, 1, 9), (RX1, 27, 1, 10), (RX7, 149, 1, 10), (RX4, 89, 1, 10), (RX1, 30, 1, 11), (RX7, 152, 1, 11), (RX4, 92, 1, 11), (RX0, 143, 1, 11), (RX1, 33, 1, 12), (RX7, 155, 1, 12), (RX4, 95, 1, 12), (RX0, 137, 1, 12), (RX1, 36, 1, 13), (RX0, 117, 1, 13), (RX7, 158, 1, 13), (RX4, 98, 1, 13), (RX5, 30, 5, 0), (RX6, 35, 5, 0), (RX0, 85, 5, 0), (RX7, 169, 5, 0), (RX5, 34, 5, 1), (RX7, 128, 5, 1), (RX0, 161, 5, 1), (RX5, 9, 5, 2), (RX0, 107, 5, 2), (RX7, 137, 5, 2), (RX5, 15, 5, 3), (RX0, 164, 5, 3), (RX5, 18, 5, 4), (RX0, 73, 5, 4), (RX5, 21, 5, 5), (RX0, 76, 5, 5), (RX5, 24, 5, 6), (RX0, 95, 5, 6), (RX7, 143, 5, 6), (RX5, 27, 5, 7), (RX7, 146, 5, 7), (RX0, 127, 5, 7), (RX0, 12, 0, 0), (RX6, 31, 0, 0), (RX7, 182, 0, 0), (RX0, 21, 0, 1), (RX6, 51, 0, 1), (RX0, 40, 0, 2), (RX6, 40, 0, 2), (RX7, 229, 0, 2), (RX0, 45, 0, 3), (RX7, 219, 0, 3), (RX0, 44, 0, 4), (RX7, 228, 0, 4), (RX0, 48, 0, 5), (RX7, 243, 0, 5), (RX0, 51, 0, 6), (RX7, 246, 0, 6), (RX0, 54, 0, 7), (RX7, 200, 0, 7), (RX0, 57, 0, 8), (RX7, 203, 0, 8), (RX0, 60, 0, 9), (RX7, 206, 0, 9), (RX0, 63, 0, 10), (RX7, 209, 0, 10), (RX0, 25, 0, 11), (RX7, 134, 0, 11), (RX0, 29, 0, 12), (RX6, 60, 0, 12), (RX7, 131, 0, 12), (RX6, 18, 6, 0), (RX7, 237, 6, 0), (RX6, 22, 6, 1), (RX7, 240, 6, 1), (RX6, 9, 6, 2), (RX6, 15, 6, 3), (RX2, 24, 2, 0), (RX7, 100, 2, 0), (RX2, 11, 2, 1), (RX2, 15, 2, 2), (RX2, 18, 2, 3), (RX2, 21, 2, 4), (RX3, 16, 3, 0), (RX7, 103, 3, 0), (RX3, 9, 3, 1), (RX7, 9, 7, 0), (RX7, 94, 7, 1), (RX7, 16, 7, 2), (RX7, 23, 7, 3), (RX7, 27, 7, 4), (RX7, 33, 7, 5), (RX7, 40, 7, 6), (RX7, 47, 7, 7), (RX7, 54, 7, 8), (RX7, 63, 7, 9), (RX7, 67, 7, 10), (RX8, 7, 8, 0), (RX8, 13, 8, 1), (RX8, 16, 8, 2), (RX8, 68, 8, 3), (RX8, 19, 8, 4), (RX8, 22, 8, 5), (RX8, 116, 8, 6), (RX8, 25, 8, 7), (RX8, 119, 8, 8), (RX8, 28, 8, 9), (RX8, 113, 8, 10), (RX8, 72, 8, 11), (RX8, 31, 8, 12), (RX8, 122, 8, 13), (RX8, 128, 8, 14), (RX8, 131, 8, 15), (RX8, 134, 8, 16), (RX8, 137, 8, 17), (RX8, 140, 8, 18), (RX8, 143, 8, 19), (RX8, 146, 8, 20), (RX8, 149, 8, 21), (RX8, 152, 8, 22), (RX8, 155, 8, 23), (RX8, 34, 8, 24), (RX8, 37, 8, 25), (RX8, 40, 8, 26), (RX8, 43, 8, 27)]
def itab : List (String × Nat × Int) := [(RJ6, 265, 1431655765), (RJ6, 266, 858993459), (RJ6, 267, 252645135), (RX6, 25, 1000000), (RX8, 170, 1000000)]
def ltab : List (String × Nat × Int) := [(RX7, 266, 7919), (RX7, 268, 6151), (RX7, 270, 65521), (RX8, 64, 32), (RX8, 66, 126), (RX8, 75, 48), (RX8, 77, 57), (RX8, 79, 2), (RX8, 225, 7), (RX8, 233, 6), (RX8, 235, 60), (RX8, 202, 7919), (RX8, 204, 6151), (RX8, 206, 65521), (RX8, 240, 99), (RX8, 249, 3), (RX8, 257, 40), (RX8, 262, 80), (RX8, 264, 9999)]
def gf (own : String) (i : Nat) : Option (Nat × Nat) := tb_get ftab own i
def gI (own : String) (i : Nat) : Option Int := tb_int itab own i
def gL (own : String) (i : Nat) : Option Int := tb_int ltab own i
theorem gfX4_11 : gf RX4 11 = some (4, 0) := by decide +kernel
theorem gfX4_32 : gf RX4 32 = some (4, 1) := by decide +kernel
theorem gfX4_20 : gf RX4 20 = some (4, 2) := by decide +kernel
theorem gfX1_39 : gf RX1 39 = some (1, 0) := by decide +kernel
theorem gfX4_56 : gf RX4 56 = some (1, 0) := by decide +kernel
theorem gfX7_106 : gf RX7 106 = some (1, 0) := by decide +kernel
theorem gfX1_43 : gf RX1 43 = some (1, 1) := by decide +kernel
theorem gfX0_36 : gf RX0 36 = some (1, 1) := by decide +kernel
theorem gfX4_59 : gf RX4 59 = some (1, 1) := by decide +kernel
theorem gfX7_225 : gf RX7 225 = some (1, 1) := by decide +kernel
theorem gfX1_46 : gf RX1 46 = some (1, 2) := by decide +kernel
theorem gfX0_66 : gf RX0 66 = some (1, 2) := by decide +kernel
theorem gfX6_55 : gf RX6 55 = some (1, 2) := by decide +kernel
theorem gfX7_97 : gf RX7 97 = some (1, 2) := by decide +kernel
theorem gfX4_62 : gf RX4 62 = some (1, 2) := by decide +kernel
theorem gfX1_49 : gf RX1 49 = some (1, 3) := by decide +kernel
theorem gfX0_92 : gf RX0 92 = some (1, 3) := by decide +kernel
theorem gfX4_80 : gf RX4 80 = some (1, 3) := by decide +kernel
theorem gfX7_272 : gf RX7 272 = some (1, 3) := by decide +kernel
theorem gfX1_52 : gf RX1 52 = some (1, 4) := by decide +kernel
theorem gfX0_41 : gf RX0 41 = some (1, 4) := by decide +kernel
theorem gfX7_125 : gf RX7 125 = some (1, 4) := by decide +kernel
theorem gfX4_77 : gf RX4 77 = some (1, 4) := by decide +kernel
theorem gfX1_9 : gf RX1 9 = some (1, 5) := by decide +kernel
theorem gfX6_63 : gf RX6 63 = some (1, 5) := by decide +kernel
theorem gfX7_116 : gf RX7 116 = some (1, 5) := by decide +kernel
theorem gfX4_68 : gf RX4 68 = some (1, 5) := by decide +kernel
theorem gfX0_149 : gf RX0 149 = some (1, 5) := by decide +kernel
theorem gfX1_15 : gf RX1 15 = some (1, 6) := by decide +kernel
theorem gfX6_66 : gf RX6 66 = some (1, 6) := by decide +kernel
theorem gfX7_119 : gf RX7 119 = some (1, 6) := by decide +kernel
theorem gfX4_71 : gf RX4 71 = some (1, 6) := by decide +kernel
theorem gfX0_152 : gf RX0 152 = some (1, 6) := by decide +kernel
theorem gfX1_18 : gf RX1 18 = some (1, 7) := by decide +kernel
theorem gfX5_41 : gf RX5 41 = some (1, 7) := by decide +kernel
theorem gfX7_122 : gf RX7 122 = some (1, 7) := by decide +kernel
theorem gfX4_74 : gf RX4 74 = some (1, 7) := by decide +kernel
theorem gfX1_21 : gf RX1 21 = some (1, 8) := by decide +kernel
theorem gfX5_46 : gf RX5 46 = some (1, 8) := by decide +kernel
theorem gfX4_83 : gf RX4 83 = some (1, 8) := by decide +kernel
theorem gfX0_167 : gf RX0 167 = some (1, 8) := by decide +kernel
theorem gfX1_24 : gf RX1 24 = some (1, 9) := by decide +kernel
theorem gfX5_49 : gf RX5 49 = some (1, 9) := by decide +kernel
theorem gfX4_86 : gf RX4 86 = some (1, 9) := by decide +kernel
theorem gfX0_170 : gf RX0 170 = some (1, 9) := by decide +kernel
theorem gfX1_27 : gf RX1 27 = some (1, 10) := by decide +kernel
theorem gfX7_149 : gf RX7 149 = some (1, 10) := by decide +kernel
theorem gfX4_89 : gf RX4 89 = some (1, 10) := by decide +kernel
theorem gfX1_30 : gf RX1 30 = some (1, 11) := by decide +kernel
theorem gfX7_152 : gf RX7 152 = some (1, 11) := by decide +kernel
theorem gfX4_92 : gf RX4 92 = some (1, 11) := by decide +kernel
theorem gfX0_143 : gf RX0 143 = some (1, 11) := by decide +kernel
theorem gfX1_33 : gf RX1 33 = some (1, 12) := by decide +kernel
theorem gfX7_155 : gf RX7 155 = some (1, 12) := by decide +kernel
theorem gfX4_95 : gf RX4 95 = some (1, 12) := by decide +kernel
theorem gfX0_137 : gf RX0 137 = some (1, 12) := by decide +kernel
theorem gfX1_36 : gf RX1 36 = some (1, 13) := by decide +kernel
theorem gfX0_117 : gf RX0 117 = some (1, 13) := by decide +kernel
theorem gfX7_158 : gf RX7 158 = some (1, 13) := by decide +kernel
theorem gfX4_98 : gf RX4 98 = some (1, 13) := by decide +kernel
theorem gfX5_30 : gf RX5 30 = some (5, 0) := by decide +kernel
theorem gfX6_35 : gf RX6 35 = some (5, 0) := by decide +kernel
theorem gfX0_85 : gf RX0 85 = some (5, 0) := by decide +kernel
theorem gfX7_169 : gf RX7 169 = some (5, 0) := by decide +kernel
theorem gfX5_34 : gf RX5 34 = some (5, 1) := by decide +kernel
theorem gfX7_128 : gf RX7 128 = some (5, 1) := by decide +kernel
theorem gfX0_161 : gf RX0 161 = some (5, 1) := by decide +kernel
theorem gfX5_9 : gf RX5 9 = some (5, 2) := by decide +kernel
theorem gfX0_107 : gf RX0 107 = some (5, 2) := by decide +kernel
theorem gfX7_137 : gf RX7 137 = some (5, 2) := by decide +kernel
theorem gfX5_15 : gf RX5 15 = some (5, 3) := by decide +kernel
theorem gfX0_164 : gf RX0 164 = some (5, 3) := by decide +kernel
theorem gfX5_18 : gf RX5 18 = some (5, 4) := by decide +kernel
theorem gfX0_73 : gf RX0 73 = some (5, 4) := by decide +kernel
theorem gfX5_21 : gf RX5 21 = some (5, 5) := by decide +kernel
theorem gfX0_76 : gf RX0 76 = some (5, 5) := by decide +kernel
theorem gfX5_24 : gf RX5 24 = some (5, 6) := by decide +kernel
theorem gfX0_95 : gf RX0 95 = some (5, 6) := by decide +kernel
theorem gfX7_143 : gf RX7 143 = some (5, 6) := by decide +kernel
theorem gfX5_27 : gf RX5 27 = some (5, 7) := by decide +kernel
theorem gfX7_146 : gf RX7 146 = some (5, 7) := by decide +kernel
theorem gfX0_127 : gf RX0 127 = some (5, 7) := by decide +kernel
theorem gfX0_12 : gf RX0 12 = some (0, 0) := by decide +kernel
theorem gfX6_31 : gf RX6 31 = some (0, 0) := by decide +kernel
theorem gfX7_182 : gf RX7 182 = some (0, 0) := by decide +kernel
theorem gfX0_21 : gf RX0 21 = some (0, 1) := by decide +kernel
theorem gfX6_51 : gf RX6 51 = some (0, 1) := by decide +kernel
theorem gfX0_40 : gf RX0 40 = some (0, 2) := by decide +kernel
theorem gfX6_40 : gf RX6 40 = some (0, 2) := by decide +kernel
theorem gfX7_229 : gf RX7 229 = some (0, 2) := by decide +kernel
theorem gfX0_45 : gf RX0 45 = some (0, 3) := by decide +kernel
theorem gfX7_219 : gf RX7 219 = some (0, 3) := by decide +kernel
theorem gfX0_44 : gf RX0 44 = some (0, 4) := by decide +kernel
theorem gfX7_228 : gf RX7 228 = some (0, 4) := by decide +kernel
theorem gfX0_48 : gf RX0 48 = some (0, 5) := by decide +kernel
theorem gfX7_243 : gf RX7 243 = some (0, 5) := by decide +kernel
theorem gfX0_51 : gf RX0 51 = some (0, 6) := by decide +kernel
theorem gfX7_246 : gf RX7 246 = some (0, 6) := by decide +kernel
theorem gfX0_54 : gf RX0 54 = some (0, 7) := by decide +kernel
theorem gfX7_200 : gf RX7 200 = some (0, 7) := by decide +kernel
theorem gfX0_57 : gf RX0 57 = some (0, 8) := by decide +kernel
theorem gfX7_203 : gf RX7 203 = some (0, 8) := by decide +kernel
theorem gfX0_60 : gf RX0 60 = some (0, 9) := by decide +kernel
theorem gfX7_206 : gf RX7 206 = some (0, 9) := by decide +kernel
theorem gfX0_63 : gf RX0 63 = some (0, 10) := by decide +kernel
theorem gfX7_209 : gf RX7 209 = some (0, 10) := by decide +kernel
theorem gfX0_25 : gf RX0 25 = some (0, 11) := by decide +kernel
theorem gfX7_134 : gf RX7 134 = some (0, 11) := by decide +kernel
theorem gfX0_29 : gf RX0 29 = some (0, 12) := by decide +kernel
theorem gfX6_60 : gf RX6 60 = some (0, 12) := by decide +kernel
theorem gfX7_131 : gf RX7 131 = some (0, 12) := by decide +kernel
theorem gfX6_18 : gf RX6 18 = some (6, 0) := by decide +kernel
theorem gfX7_237 : gf RX7 237 = some (6, 0) := by decide +kernel
theorem gfX6_22 : gf RX6 22 = some (6, 1) := by decide +kernel
theorem gfX7_240 : gf RX7 240 = some (6, 1) := by decide +kernel
theorem gfX6_9 : gf RX6 9 = some (6, 2) := by decide +kernel
theorem gfX6_15 : gf RX6 15 = some (6, 3) := by decide +kernel
theorem gfX2_24 : gf RX2 24 = some (2, 0) := by decide +kernel
theorem gfX7_100 : gf RX7 100 = some (2, 0) := by decide +kernel
theorem gfX2_11 : gf RX2 11 = some (2, 1) := by decide +kernel
theorem gfX2_15 : gf RX2 15 = some (2, 2) := by decide +kernel
theorem gfX2_18 : gf RX2 18 = some (2, 3) := by decide +kernel
theorem gfX2_21 : gf RX2 21 = some (2, 4) := by decide +kernel
theorem gfX3_16 : gf RX3 16 = some (3, 0) := by decide +kernel
theorem gfX7_103 : gf RX7 103 = some (3, 0) := by decide +kernel
theorem gfX3_9 : gf RX3 9 = some (3, 1) := by decide +kernel
theorem gfX7_9 : gf RX7 9 = some (7, 0) := by decide +kernel
theorem gfX7_94 : gf RX7 94 = some (7, 1) := by decide +kernel
theorem gfX7_16 : gf RX7 16 = some (7, 2) := by decide +kernel
theorem gfX7_23 : gf RX7 23 = some (7, 3) := by decide +kernel
theorem gfX7_27 : gf RX7 27 = some (7, 4) := by decide +kernel
theorem gfX7_33 : gf RX7 33 = some (7, 5) := by decide +kernel
theorem gfX7_40 : gf RX7 40 = some (7, 6) := by decide +kernel
theorem gfX7_47 : gf RX7 47 = some (7, 7) := by decide +kernel
theorem gfX7_54 : gf RX7 54 = some (7, 8) := by decide +kernel
theorem gfX7_63 : gf RX7 63 = some (7, 9) := by decide +kernel
theorem gfX7_67 : gf RX7 67 = some (7, 10) := by decide +kernel
theorem gfX8_7 : gf RX8 7 = some (8, 0) := by decide +kernel
theorem gfX8_13 : gf RX8 13 = some (8, 1) := by decide +kernel
theorem gfX8_16 : gf RX8 16 = some (8, 2) := by decide +kernel
theorem gfX8_68 : gf RX8 68 = some (8, 3) := by decide +kernel
theorem gfX8_19 : gf RX8 19 = some (8, 4) := by decide +kernel
theorem gfX8_22 : gf RX8 22 = some (8, 5) := by decide +kernel
theorem gfX8_116 : gf RX8 116 = some (8, 6) := by decide +kernel
theorem gfX8_25 : gf RX8 25 = some (8, 7) := by decide +kernel
theorem gfX8_119 : gf RX8 119 = some (8, 8) := by decide +kernel
theorem gfX8_28 : gf RX8 28 = some (8, 9) := by decide +kernel
theorem gfX8_113 : gf RX8 113 = some (8, 10) := by decide +kernel
theorem gfX8_72 : gf RX8 72 = some (8, 11) := by decide +kernel
theorem gfX8_31 : gf RX8 31 = some (8, 12) := by decide +kernel
theorem gfX8_122 : gf RX8 122 = some (8, 13) := by decide +kernel
theorem gfX8_128 : gf RX8 128 = some (8, 14) := by decide +kernel
theorem gfX8_131 : gf RX8 131 = some (8, 15) := by decide +kernel
theorem gfX8_134 : gf RX8 134 = some (8, 16) := by decide +kernel
theorem gfX8_137 : gf RX8 137 = some (8, 17) := by decide +kernel
theorem gfX8_140 : gf RX8 140 = some (8, 18) := by decide +kernel
theorem gfX8_143 : gf RX8 143 = some (8, 19) := by decide +kernel
theorem gfX8_146 : gf RX8 146 = some (8, 20) := by decide +kernel
theorem gfX8_149 : gf RX8 149 = some (8, 21) := by decide +kernel
theorem gfX8_152 : gf RX8 152 = some (8, 22) := by decide +kernel
theorem gfX8_155 : gf RX8 155 = some (8, 23) := by decide +kernel
theorem gfX8_34 : gf RX8 34 = some (8, 24) := by decide +kernel
theorem gfX8_37 : gf RX8 37 = some (8, 25) := by decide +kernel
theorem gfX8_40 : gf RX8 40 = some (8, 26) := by decide +kernel
theorem gfX8_43 : gf RX8 43 = some (8, 27) := by decide +kernel
theorem gIJ6_265 : gI RJ6 265 = some (1431655765) := by decide +kernel
theorem gIJ6_266 : gI RJ6 266 = some (858993459) := by decide +kernel
theorem gIJ6_267 : gI RJ6 267 = some (252645135) := by decide +kernel
theorem gIX6_25 : gI RX6 25 = some (1000000) := by decide +kernel
theorem gIX8_170 : gI RX8 170 = some (1000000) := by decide +kernel
theorem gLX7_266 : gL RX7 266 = some (7919) := by decide +kernel
theorem gLX7_268 : gL RX7 268 = some (6151) := by decide +kernel
theorem gLX7_270 : gL RX7 270 = some (65521) := by decide +kernel
theorem gLX8_64 : gL RX8 64 = some (32) := by decide +kernel
theorem gLX8_66 : gL RX8 66 = some (126) := by decide +kernel
theorem gLX8_75 : gL RX8 75 = some (48) := by decide +kernel
theorem gLX8_77 : gL RX8 77 = some (57) := by decide +kernel
theorem gLX8_79 : gL RX8 79 = some (2) := by decide +kernel
theorem gLX8_225 : gL RX8 225 = some (7) := by decide +kernel
theorem gLX8_233 : gL RX8 233 = some (6) := by decide +kernel
theorem gLX8_235 : gL RX8 235 = some (60) := by decide +kernel
theorem gLX8_202 : gL RX8 202 = some (7919) := by decide +kernel
theorem gLX8_204 : gL RX8 204 = some (6151) := by decide +kernel
theorem gLX8_206 : gL RX8 206 = some (65521) := by decide +kernel
theorem gLX8_240 : gL RX8 240 = some (99) := by decide +kernel
theorem gLX8_249 : gL RX8 249 = some (3) := by decide +kernel
theorem gLX8_257 : gL RX8 257 = some (40) := by decide +kernel
theorem gLX8_262 : gL RX8 262 = some (80) := by decide +kernel
theorem gLX8_264 : gL RX8 264 = some (9999) := by decide +kernel
/-- the type of a field that is written: 0 int, 1 boolean, 2 a reference; 9 where it is final -/
def ft (c k : Nat) : Nat := match pp_cls[c]? with
  | some (_, T, _) => if (T k).2.2.2 then 9 else if (T k).2.2.1 == "I" then 0 else if (T k).2.2.1 == "Z" then 1 else 2
  | none => 9
section KS
variable (K : ATy) (S : Prop) (pc : Nat) (ls : List (Option AV)) (st : List AV) (M : Mem)
def k_p (v : AV) : Prop := K pc ls (v :: st) M
def k_pi (z : Int) : Prop := K pc ls (.inl z :: st) M
def k_pl (z : Int) : Prop := K pc ls (.inr (.inl z) :: st) M
def k_ls (t : List AV) (ls' : List (Option AV)) : Prop := K pc ls' t M
def k_sti (k : Nat) (x : Int) (t : List AV) : Prop := oo (stl k (.inl x) ls) (k_ls K pc M t)
def k_stl (k : Nat) (x : Int) (t : List AV) : Prop := oo (stl2 k (.inr (.inl x)) ls) (k_ls K pc M t)
def k_sta (k : Nat) (a : Nat) (t : List AV) : Prop := oo (stl k (ar a) ls) (k_ls K pc M t)
def k_inc (k : Nat) (n x : Int) : Prop := oo (stl k (.inl (x + n)) ls) (k_ls K pc M st)
def k_add (x y : Int) (t : List AV) : Prop := K pc ls (.inl (x + y) :: t) M
def k_sub (x y : Int) (t : List AV) : Prop := K pc ls (.inl (x - y) :: t) M
def k_mul (x y : Int) (t : List AV) : Prop := K pc ls (.inl (x * y) :: t) M
def k_div (x y : Int) (t : List AV) : Prop := (inR x ∧ 0 < y ∧ y < 2147483648) ∧ K pc ls (.inl (x.tdiv y) :: t) M
def k_rem (x y : Int) (t : List AV) : Prop := (inR x ∧ 0 < y ∧ y < 2147483648) ∧ K pc ls (.inl (x.tmod y) :: t) M
def k_and (x y : Int) (t : List AV) : Prop := K pc ls (.inl (zand x y) :: t) M
def k_or (x y : Int) (t : List AV) : Prop := K pc ls (.inl (zor x y) :: t) M
def k_xor (x y : Int) (t : List AV) : Prop := K pc ls (.inl (zxor x y) :: t) M
def k_shl (x y : Int) (t : List AV) : Prop := K pc ls (.inl (zshl x y) :: t) M
def k_shr (x y : Int) (t : List AV) : Prop := K pc ls (.inl (zshr x y) :: t) M
def k_ush (x y : Int) (t : List AV) : Prop := K pc ls (.inl (zushr x y) :: t) M
def k_ladd (x y : Int) (t : List AV) : Prop := K pc ls (.inr (.inl (x + y)) :: t) M
def k_lmul (x y : Int) (t : List AV) : Prop := K pc ls (.inr (.inl (x * y)) :: t) M
def k_lrem (x y : Int) (t : List AV) : Prop := (inL x ∧ 0 < y ∧ y < 9223372036854775808) ∧ K pc ls (.inr (.inl (x.tmod y)) :: t) M
def k_lcmp (x y : Int) (t : List AV) : Prop := (inL x ∧ inL y) ∧ K pc ls (.inl (zcmp x y) :: t) M
def k_i2l (x : Int) (t : List AV) : Prop := inR x ∧ K pc ls (.inr (.inl x) :: t) M
def k_l2i (x : Int) (t : List AV) : Prop := K pc ls (.inl x :: t) M
def k_dup (v : AV) (t : List AV) : Prop := K pc ls (v :: v :: t) M
def k_pop (_ : AV) (t : List AV) : Prop := K pc ls t M
def k_dx1 (v w : AV) (t : List AV) : Prop := K pc ls (v :: w :: v :: t) M
def k_d2 (v w : AV) (t : List AV) : Prop := K pc ls (v :: w :: v :: w :: t) M
def k_if (c : Jvm.ClassFile.Cond) (tgt : Nat) (x : Int) (t : List AV) : Prop := inR x ∧ (cnd c x 0 → K tgt ls t M) ∧ (¬ cnd c x 0 → K pc ls t M)
def k_ic (c : Jvm.ClassFile.Cond) (tgt : Nat) (x y : Int) (t : List AV) : Prop := (inR x ∧ inR y) ∧ (cnd c x y → K tgt ls t M) ∧ (¬ cnd c x y → K pc ls t M)
def k_j (t : List AV) (q : Nat) : Prop := K q ls t M
def k_ts (d lo hi : Int) (offs : List Int) (x : Int) (t : List AV) : Prop := (inR x ∧ lo + offs.length = hi + 1) ∧ (x < lo ∨ hi < x → K (jt pc d) ls t M) ∧ tsw x (k_j K ls M t) pc offs lo
def k_lk (d : Int) (ps : List (Int × Int)) (x : Int) (t : List AV) : Prop := (inR x ∧ (ps.zip (ps.drop 1)).all (fun (a, next) => a.1 < next.1) = true) ∧ lsw x (k_j K ls M t) pc d ps
def k_g2 (k : Nat) (t : List AV) (fs : List AV) : Prop := oo (nthV fs k) (k_p K pc ls t M)
def k_g1 (c k a : Nat) (t : List AV) : Prop := mO M a c (k_g2 K pc ls M k t)
def k_g0 (q : Nat × Nat) : Prop := e_r st (k_g1 K pc ls M q.1 q.2)
def k_f3 (c a : Nat) (t : List AV) (fs' : List AV) : Prop := K pc ls t (mu M a (co_ c fs'))
def k_f2 (c k a : Nat) (v : AV) (t : List AV) (fs : List AV) : Prop := oo (setV fs k v) (k_f3 K pc ls M c a t)
def k_f1 (c k f : Nat) (a : Nat) (v : AV) (t : List AV) : Prop := okT f v ∧ mO M a c (k_f2 K pc ls M c k a v t)
def f9 (f : Nat) (S T : Prop) : Prop := match f with
  | 0 => T
  | 1 => T
  | 2 => T
  | _ => S
def k_f0 (q : Nat × Nat) : Prop := f9 (ft q.1 q.2) S (e_vr st (k_f1 K pc ls M q.1 q.2 (ft q.1 q.2)))
def k_n1 (t : List AV) (n : Nat) : Prop := K pc ls (.inl (n : Int) :: t) M
def k_n2 (t : List AV) (q : Nat × (Nat → Int)) : Prop := K pc ls (.inl (q.1 : Int) :: t) M
def k_n3 (t : List AV) (a : Nat) : Prop := mN M a (k_n1 K pc ls M t)
def k_n4 (sx : Nat → Option (Nat × (Nat → Int))) (t : List AV) (b : Nat) : Prop := os S (sx b) (k_n2 K pc ls M t)
def k_n0 (sx : Nat → Option (Nat × (Nat → Int))) (r : Option Nat ⊕ Nat) (t : List AV) : Prop := rsel r (k_n3 K pc ls M t) (k_n4 K S pc ls M sx t)
def k_a1 (i : Int) (t : List AV) (n : Nat) (f : Nat → Int) : Prop := (0 ≤ i ∧ i < (n : Int) ∧ n ≤ 2147483648) ∧ K pc ls (.inl (f i.toNat) :: t) M
def k_a2 (i : Int) (t : List AV) (q : Nat × (Nat → Int)) : Prop := (0 ≤ i ∧ i < (q.1 : Int) ∧ q.1 ≤ 2147483648) ∧ K pc ls (.inl (q.2 i.toNat) :: t) M
def k_a3 (i : Int) (t : List AV) (a : Nat) : Prop := mI M a (k_a1 K pc ls M i t)
def k_a4 (sx : Nat → Option (Nat × (Nat → Int))) (i : Int) (t : List AV) (b : Nat) : Prop := os S (sx b) (k_a2 K pc ls M i t)
def k_a0 (sx : Nat → Option (Nat × (Nat → Int))) (r : Option Nat ⊕ Nat) (i : Int) (t : List AV) : Prop := rsel r (k_a3 K pc ls M i t) (k_a4 K S pc ls M sx i t)
def k_r1 (i : Int) (t : List AV) (n : Nat) (g : Nat → Option Nat) : Prop := (0 ≤ i ∧ i < (n : Int) ∧ n ≤ 2147483648) ∧ K pc ls (.inr (.inr (.inl (g i.toNat))) :: t) M
def k_r3 (i : Int) (t : List AV) (a : Nat) : Prop := mR M a (k_r1 K pc ls M i t)
def k_no (_ : Nat) : Prop := False
def k_r0 (r : Option Nat ⊕ Nat) (i : Int) (t : List AV) : Prop := rsel r (k_r3 K pc ls M i t) k_no
def k_s1 (a : Nat) (i x : Int) (t : List AV) (n : Nat) (f : Nat → Int) : Prop := (0 ≤ i ∧ i < (n : Int) ∧ n ≤ 2147483648) ∧ K pc ls t (mu M a (ci_ n (fu f i.toNat x)))
def k_s0 (a : Nat) (i x : Int) (t : List AV) : Prop := mI M a (k_s1 K pc ls M a i x t)
def k_z (bz : Nat) (Rt : Option AV → Mem → Prop) (M : Mem) (z : Int) : Prop := (bz = 1 ∨ (bz = 2 ∧ (z = 0 ∨ z = 1))) ∧ Rt (some (.inl z)) M
end KS
def exi (own : String) (bz : Nat) (sx : Nat → Option (Nat × (Nat → Int))) (S : Prop) (pc : Nat) (ls : List (Option AV)) (st : List AV) (M : Mem) (K : ATy) (Rt : Option AV → Mem → Prop) (i : Instr) : Prop := match i with
  | .iconst n => K (pc + 1) ls (.inl n :: st) M
  | .bipush n => (-128 ≤ n ∧ n ≤ 127) ∧ K (pc + 2) ls (.inl n :: st) M
  | .sipush n => (-32768 ≤ n ∧ n ≤ 32767) ∧ K (pc + 3) ls (.inl n :: st) M
  | .lconst n => K (pc + 1) ls (.inr (.inl (n.val : Int)) :: st) M
  | .ldc k => os S (gI own k) (k_pi K (pc + 2) ls st M)
  | .ldc_w k => os S (gI own k) (k_pi K (pc + 3) ls st M)
  | .ldc2_w k => os S (gL own k) (k_pl K (pc + 3) ls st M)
  | .iload_n k => ldI (nth ls k.val) (k_p K (pc + 1) ls st M)
  | .iload k => ldI (nth ls k) (k_p K (pc + 2) ls st M)
  | .lload_n k => ldL (nth ls k.val) (k_p K (pc + 1) ls st M)
  | .lload k => ldL (nth ls k) (k_p K (pc + 2) ls st M)
  | .aload_n k => ldA (nth ls k.val) (k_p K (pc + 1) ls st M)
  | .aload k => ldA (nth ls k) (k_p K (pc + 2) ls st M)
  | .istore_n k => e_i st (k_sti K (pc + 1) ls M k.val)
  | .istore k => e_i st (k_sti K (pc + 2) ls M k)
  | .lstore_n k => e_l st (k_stl K (pc + 1) ls M k.val)
  | .lstore k => e_l st (k_stl K (pc + 2) ls M k)
  | .astore_n k => e_r st (k_sta K (pc + 1) ls M k.val)
  | .astore k => e_r st (k_sta K (pc + 2) ls M k)
  | .iinc k n => ldZ (nth ls k) (k_inc K (pc + 3) ls st M k n)
  | .iadd => e_ii st (k_add K (pc + 1) ls M)
  | .isub => e_ii st (k_sub K (pc + 1) ls M)
  | .imul => e_ii st (k_mul K (pc + 1) ls M)
  | .idiv => e_ii st (k_div K (pc + 1) ls M)
  | .irem => e_ii st (k_rem K (pc + 1) ls M)
  | .iand => e_ii st (k_and K (pc + 1) ls M)
  | .ior => e_ii st (k_or K (pc + 1) ls M)
  | .ixor => e_ii st (k_xor K (pc + 1) ls M)
  | .ishl => e_ii st (k_shl K (pc + 1) ls M)
  | .ishr => e_ii st (k_shr K (pc + 1) ls M)
  | .iushr => e_ii st (k_ush K (pc + 1) ls M)
  | .ladd => e_ll st (k_ladd K (pc + 1) ls M)
  | .lmul => e_ll st (k_lmul K (pc + 1) ls M)
  | .lrem => e_ll st (k_lrem K (pc + 1) ls M)
  | .lcmp => e_ll st (k_lcmp K (pc + 1) ls M)
  | .i2l => e_i st (k_i2l K (pc + 1) ls M)
  | .l2i => e_l st (k_l2i K (pc + 1) ls M)
  | .dup => e_1 st (k_dup K (pc + 1) ls M)
  | .pop => e_1 st (k_pop K (pc + 1) ls M)
  | .dup_x1 => e_2 st (k_dx1 K (pc + 1) ls M)
  | .dup2 => e_2 st (k_d2 K (pc + 1) ls M)
  | .ifCond c off => e_i st (k_if K (pc + 3) ls M c (jt pc off))
  | .if_icmp c off => e_ii st (k_ic K (pc + 3) ls M c (jt pc off))
  | .goto off => K (jt pc off) ls st M
  | .tableswitch d lo hi offs => e_i st (k_ts K pc ls M d lo hi offs.toList)
  | .lookupswitch d ps => e_i st (k_lk K pc ls M d ps.toList)
  | .getfield k => os S (gf own k) (k_g0 K (pc + 3) ls st M)
  | .putfield k => os S (gf own k) (k_f0 K S (pc + 3) ls st M)
  | .arraylength => e_rr st (k_n0 K S (pc + 1) ls M sx)
  | .iaload => e_ir st (k_a0 K S (pc + 1) ls M sx)
  | .aaload => e_ir st (k_r0 K (pc + 1) ls M)
  | .iastore => e_iir st (k_s0 K (pc + 1) ls M)
  | .ireturn => e_z st (k_z bz Rt M)
  | .return_ => e_n st (bz = 0 ∧ Rt none M)
  | _ => S
def bco (b : Bool) (S T : Prop) : Prop := match b with
  | true => S
  | false => T
/-- a run of n instructions at most, that stops at calls, at what is made, and at the places 'stops' -/
def wp (own : String) (bz : Nat) (sx : Nat → Option (Nat × (Nat → Int))) (A : ATy) (Rt : Option AV → Mem → Prop) (cc : ByteArray) (stops : List Nat) : Nat → ATy
  | 0, pc, ls, st, M => A pc ls st M
  | n + 1, pc, ls, st, M => if stops.contains pc = true then A pc ls st M else match fet cc pc with
    | some i => exi own bz sx (A pc ls st M) pc ls st M (wp own bz sx A Rt cc stops n) Rt i
    | none => A pc ls st M
/-- the first instruction is run though it is a stop -/
def wp1 (own : String) (bz : Nat) (sx : Nat → Option (Nat × (Nat → Int))) (A : ATy) (Rt : Option AV → Mem → Prop) (cc : ByteArray) (stops : List Nat) (n pc : Nat) (ls : List (Option AV)) (st : List AV) (M : Mem) : Prop := match fet cc pc with
    | some i => exi own bz sx (A pc ls st M) pc ls st M (wp own bz sx A Rt cc stops n) Rt i
    | none => A pc ls st M
section WPs
variable {own : String} {bz : Nat} {sx : Nat → Option (Nat × (Nat → Int))} {A : ATy} {Rt : Option AV → Mem → Prop} {cc : ByteArray} {stops : List Nat} {n pc : Nat} {ls : List (Option AV)} {st : List AV} {M : Mem}
theorem wp_0 : wp own bz sx A Rt cc stops 0 pc ls st M = A pc ls st M := rfl
theorem wp_n : wp own bz sx A Rt cc stops (n + 1) pc ls st M = bco (stops.contains pc) (A pc ls st M) (os (A pc ls st M) (fet cc pc) (exi own bz sx (A pc ls st M) pc ls st M (wp own bz sx A Rt cc stops n) Rt)) := by
  show (if stops.contains pc = true then A pc ls st M else match fet cc pc with
    | some i => exi own bz sx (A pc ls st M) pc ls st M (wp own bz sx A Rt cc stops n) Rt i
    | none => A pc ls st M) = _
  cases stops.contains pc with
  | true => rw [if_pos rfl]; rfl
  | false =>
    rw [if_neg (by decide)]
    show _ = os (A pc ls st M) (fet cc pc) (exi own bz sx (A pc ls st M) pc ls st M (wp own bz sx A Rt cc stops n) Rt)
    cases fet cc pc <;> rfl
theorem wp_1 : wp1 own bz sx A Rt cc stops n pc ls st M = os (A pc ls st M) (fet cc pc) (exi own bz sx (A pc ls st M) pc ls st M (wp own bz sx A Rt cc stops n) Rt) := by
  unfold wp1
  cases fet cc pc <;> rfl
end WPs
