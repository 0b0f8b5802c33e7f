/-! the rows by which simp runs the machine: theorems, not definitions -/
/-- what an array holds at a whole number; the array with it changed -/
def ix (f : Nat → Int) (z : Int) : Int := f z.toNat
def fz (f : Nat → Int) (z x : Int) : Nat → Int := fu f z.toNat x
theorem ix_s {f : Nat → Int} {z x : Int} : ix (fz f z x) z = x := by simp [ix, fz, fu]
theorem ix_n {f : Nat → Int} {z w x : Int} (hz : 0 ≤ z) (hw : 0 ≤ w) (h : w ≠ z) : ix (fz f z x) w = ix f w := by
  have : w.toNat ≠ z.toNat := by omega
  simp [ix, fz, fu, this]
theorem k_p_d {K : ATy} {pc : Nat} {ls : List (Option AV)} {st : List AV} {M : Mem} {v : AV} : k_p K pc ls st M v = (K pc ls (v :: st) M) := rfl
theorem k_pi_d {K : ATy} {pc : Nat} {ls : List (Option AV)} {st : List AV} {M : Mem} {z : Int} : k_pi K pc ls st M z = (K pc ls (.inl z :: st) M) := rfl
theorem k_pl_d {K : ATy} {pc : Nat} {ls : List (Option AV)} {st : List AV} {M : Mem} {z : Int} : k_pl K pc ls st M z = (K pc ls (.inr (.inl z) :: st) M) := rfl
theorem k_ls_d {K : ATy} {pc : Nat} {M : Mem} {t : List AV} {ls' : List (Option AV)} : k_ls K pc M t ls' = (K pc ls' t M) := rfl
theorem k_sti_d {K : ATy} {pc : Nat} {ls : List (Option AV)} {M : Mem} {k : Nat} {x : Int} {t : List AV} : k_sti K pc ls M k x t = (oo (stl k (.inl x) ls) (k_ls K pc M t)) := rfl
theorem k_stl_d {K : ATy} {pc : Nat} {ls : List (Option AV)} {M : Mem} {k : Nat} {x : Int} {t : List AV} : k_stl K pc ls M k x t = (oo (stl2 k (.inr (.inl x)) ls) (k_ls K pc M t)) := rfl
theorem k_sta_d {K : ATy} {pc : Nat} {ls : List (Option AV)} {M : Mem} {k : Nat} {a : Nat} {t : List AV} : k_sta K pc ls M k a t = (oo (stl k (ar a) ls) (k_ls K pc M t)) := rfl
theorem k_inc_d {K : ATy} {pc : Nat} {ls : List (Option AV)} {st : List AV} {M : Mem} {k : Nat} {n x : Int} : k_inc K pc ls st M k n x = (oo (stl k (.inl (x + n)) ls) (k_ls K pc M st)) := rfl
theorem k_add_d {K : ATy} {pc : Nat} {ls : List (Option AV)} {M : Mem} {x y : Int} {t : List AV} : k_add K pc ls M x y t = (K pc ls (.inl (x + y) :: t) M) := rfl
theorem k_sub_d {K : ATy} {pc : Nat} {ls : List (Option AV)} {M : Mem} {x y : Int} {t : List AV} : k_sub K pc ls M x y t = (K pc ls (.inl (x - y) :: t) M) := rfl
theorem k_mul_d {K : ATy} {pc : Nat} {ls : List (Option AV)} {M : Mem} {x y : Int} {t : List AV} : k_mul K pc ls M x y t = (K pc ls (.inl (x * y) :: t) M) := rfl
theorem k_div_d {K : ATy} {pc : Nat} {ls : List (Option AV)} {M : Mem} {x y : Int} {t : List AV} : k_div K pc ls M x y t = ((inR x ∧ 0 < y ∧ y < 2147483648) ∧ K pc ls (.inl (x.tdiv y) :: t) M) := rfl
theorem k_rem_d {K : ATy} {pc : Nat} {ls : List (Option AV)} {M : Mem} {x y : Int} {t : List AV} : k_rem K pc ls M x y t = ((inR x ∧ 0 < y ∧ y < 2147483648) ∧ K pc ls (.inl (x.tmod y) :: t) M) := rfl
theorem k_and_d {K : ATy} {pc : Nat} {ls : List (Option AV)} {M : Mem} {x y : Int} {t : List AV} : k_and K pc ls M x y t = (K pc ls (.inl (zand x y) :: t) M) := rfl
theorem k_or_d {K : ATy} {pc : Nat} {ls : List (Option AV)} {M : Mem} {x y : Int} {t : List AV} : k_or K pc ls M x y t = (K pc ls (.inl (zor x y) :: t) M) := rfl
theorem k_xor_d {K : ATy} {pc : Nat} {ls : List (Option AV)} {M : Mem} {x y : Int} {t : List AV} : k_xor K pc ls M x y t = (K pc ls (.inl (zxor x y) :: t) M) := rfl
theorem k_shl_d {K : ATy} {pc : Nat} {ls : List (Option AV)} {M : Mem} {x y : Int} {t : List AV} : k_shl K pc ls M x y t = (K pc ls (.inl (zshl x y) :: t) M) := rfl
theorem k_shr_d {K : ATy} {pc : Nat} {ls : List (Option AV)} {M : Mem} {x y : Int} {t : List AV} : k_shr K pc ls M x y t = (K pc ls (.inl (zshr x y) :: t) M) := rfl
theorem k_ush_d {K : ATy} {pc : Nat} {ls : List (Option AV)} {M : Mem} {x y : Int} {t : List AV} : k_ush K pc ls M x y t = (K pc ls (.inl (zushr x y) :: t) M) := rfl
theorem k_ladd_d {K : ATy} {pc : Nat} {ls : List (Option AV)} {M : Mem} {x y : Int} {t : List AV} : k_ladd K pc ls M x y t = (K pc ls (.inr (.inl (x + y)) :: t) M) := rfl
theorem k_lmul_d {K : ATy} {pc : Nat} {ls : List (Option AV)} {M : Mem} {x y : Int} {t : List AV} : k_lmul K pc ls M x y t = (K pc ls (.inr (.inl (x * y)) :: t) M) := rfl
theorem k_lrem_d {K : ATy} {pc : Nat} {ls : List (Option AV)} {M : Mem} {x y : Int} {t : List AV} : k_lrem K pc ls M x y t = ((inL x ∧ 0 < y ∧ y < 9223372036854775808) ∧ K pc ls (.inr (.inl (x.tmod y)) :: t) M) := rfl
theorem k_lcmp_d {K : ATy} {pc : Nat} {ls : List (Option AV)} {M : Mem} {x y : Int} {t : List AV} : k_lcmp K pc ls M x y t = ((inL x ∧ inL y) ∧ K pc ls (.inl (zcmp x y) :: t) M) := rfl
theorem k_i2l_d {K : ATy} {pc : Nat} {ls : List (Option AV)} {M : Mem} {x : Int} {t : List AV} : k_i2l K pc ls M x t = (inR x ∧ K pc ls (.inr (.inl x) :: t) M) := rfl
theorem k_l2i_d {K : ATy} {pc : Nat} {ls : List (Option AV)} {M : Mem} {x : Int} {t : List AV} : k_l2i K pc ls M x t = (K pc ls (.inl x :: t) M) := rfl
theorem k_dup_d {K : ATy} {pc : Nat} {ls : List (Option AV)} {M : Mem} {v : AV} {t : List AV} : k_dup K pc ls M v t = (K pc ls (v :: v :: t) M) := rfl
theorem k_pop_d {K : ATy} {pc : Nat} {ls : List (Option AV)} {M : Mem} {w1_ : AV} {t : List AV} : k_pop K pc ls M w1_ t = (K pc ls t M) := rfl
theorem k_dx1_d {K : ATy} {pc : Nat} {ls : List (Option AV)} {M : Mem} {v w : AV} {t : List AV} : k_dx1 K pc ls M v w t = (K pc ls (v :: w :: v :: t) M) := rfl
theorem k_d2_d {K : ATy} {pc : Nat} {ls : List (Option AV)} {M : Mem} {v w : AV} {t : List AV} : k_d2 K pc ls M v w t = (K pc ls (v :: w :: v :: w :: t) M) := rfl
theorem k_if_d {K : ATy} {pc : Nat} {ls : List (Option AV)} {M : Mem} {c : Jvm.ClassFile.Cond} {tgt : Nat} {x : Int} {t : List AV} : k_if K pc ls M c tgt x t = (inR x ∧ (cnd c x 0 → K tgt ls t M) ∧ (¬ cnd c x 0 → K pc ls t M)) := rfl
theorem k_ic_d {K : ATy} {pc : Nat} {ls : List (Option AV)} {M : Mem} {c : Jvm.ClassFile.Cond} {tgt : Nat} {x y : Int} {t : List AV} : k_ic K pc ls M c tgt x y t = ((inR x ∧ inR y) ∧ (cnd c x y → K tgt ls t M) ∧ (¬ cnd c x y → K pc ls t M)) := rfl
theorem k_j_d {K : ATy} {ls : List (Option AV)} {M : Mem} {t : List AV} {q : Nat} : k_j K ls M t q = (K q ls t M) := rfl
theorem k_ts_d {K : ATy} {pc : Nat} {ls : List (Option AV)} {M : Mem} {d lo hi : Int} {offs : List Int} {x : Int} {t : List AV} : k_ts K pc ls M d lo hi offs x t = ((inR x ∧ lo + offs.length = hi + 1) ∧ (x < lo ∨ hi < x → K (jt pc d) ls t M) ∧ tsw x (k_j K ls M t) pc offs lo) := rfl
theorem k_lk_d {K : ATy} {pc : Nat} {ls : List (Option AV)} {M : Mem} {d : Int} {ps : List (Int × Int)} {x : Int} {t : List AV} : k_lk K pc ls M d ps x t = ((inR x ∧ (ps.zip (ps.drop 1)).all (fun (a, next) => a.1 < next.1) = true) ∧ lsw x (k_j K ls M t) pc d ps) := rfl
theorem k_g2_d {K : ATy} {pc : Nat} {ls : List (Option AV)} {M : Mem} {k : Nat} {t : List AV} {fs : List AV} : k_g2 K pc ls M k t fs = (oo (nthV fs k) (k_p K pc ls t M)) := rfl
theorem k_g1_d {K : ATy} {pc : Nat} {ls : List (Option AV)} {M : Mem} {c k a : Nat} {t : List AV} : k_g1 K pc ls M c k a t = (mO M a c (k_g2 K pc ls M k t)) := rfl
theorem k_g0_d {K : ATy} {pc : Nat} {ls : List (Option AV)} {st : List AV} {M : Mem} {q : Nat × Nat} : k_g0 K pc ls st M q = (e_r st (k_g1 K pc ls M q.1 q.2)) := rfl
theorem k_f3_d {K : ATy} {pc : Nat} {ls : List (Option AV)} {M : Mem} {c a : Nat} {t : List AV} {fs' : List AV} : k_f3 K pc ls M c a t fs' = (K pc ls t (mu M a (co_ c fs'))) := rfl
theorem k_f2_d {K : ATy} {pc : Nat} {ls : List (Option AV)} {M : Mem} {c k a : Nat} {v : AV} {t : List AV} {fs : List AV} : k_f2 K pc ls M c k a v t fs = (oo (setV fs k v) (k_f3 K pc ls M c a t)) := rfl
theorem k_f1_d {K : ATy} {pc : Nat} {ls : List (Option AV)} {M : Mem} {c k f : Nat} {a : Nat} {v : AV} {t : List AV} : k_f1 K pc ls M c k f a v t = (okT f v ∧ mO M a c (k_f2 K pc ls M c k a v t)) := rfl
theorem k_f0_d {K : ATy} {S : Prop} {pc : Nat} {ls : List (Option AV)} {st : List AV} {M : Mem} {q : Nat × Nat} : k_f0 K S pc ls st M q = (f9 (ft q.1 q.2) S (e_vr st (k_f1 K pc ls M q.1 q.2 (ft q.1 q.2)))) := rfl
theorem k_n1_d {K : ATy} {pc : Nat} {ls : List (Option AV)} {M : Mem} {t : List AV} {n : Nat} : k_n1 K pc ls M t n = (K pc ls (.inl (n : Int) :: t) M) := rfl
theorem k_n2_d {K : ATy} {pc : Nat} {ls : List (Option AV)} {M : Mem} {t : List AV} {q : Nat × (Nat → Int)} : k_n2 K pc ls M t q = (K pc ls (.inl (q.1 : Int) :: t) M) := rfl
theorem k_n3_d {K : ATy} {pc : Nat} {ls : List (Option AV)} {M : Mem} {t : List AV} {a : Nat} : k_n3 K pc ls M t a = (mN M a (k_n1 K pc ls M t)) := rfl
theorem k_n4_d {K : ATy} {S : Prop} {pc : Nat} {ls : List (Option AV)} {M : Mem} {sx : Nat → Option (Nat × (Nat → Int))} {t : List AV} {b : Nat} : k_n4 K S pc ls M sx t b = (os S (sx b) (k_n2 K pc ls M t)) := rfl
theorem k_n0_d {K : ATy} {S : Prop} {pc : Nat} {ls : List (Option AV)} {M : Mem} {sx : Nat → Option (Nat × (Nat → Int))} {r : Option Nat ⊕ Nat} {t : List AV} : k_n0 K S pc ls M sx r t = (rsel r (k_n3 K pc ls M t) (k_n4 K S pc ls M sx t)) := rfl
theorem k_a1_d {K : ATy} {pc : Nat} {ls : List (Option AV)} {M : Mem} {i : Int} {t : List AV} {n : Nat} {f : Nat → Int} : k_a1 K pc ls M i t n f = ((0 ≤ i ∧ i < (n : Int) ∧ n ≤ 2147483648) ∧ K pc ls (.inl (ix f i) :: t) M) := rfl
theorem k_a2_d {K : ATy} {pc : Nat} {ls : List (Option AV)} {M : Mem} {i : Int} {t : List AV} {q : Nat × (Nat → Int)} : k_a2 K pc ls M i t q = ((0 ≤ i ∧ i < (q.1 : Int) ∧ q.1 ≤ 2147483648) ∧ K pc ls (.inl (ix q.2 i) :: t) M) := rfl
theorem k_a3_d {K : ATy} {pc : Nat} {ls : List (Option AV)} {M : Mem} {i : Int} {t : List AV} {a : Nat} : k_a3 K pc ls M i t a = (mI M a (k_a1 K pc ls M i t)) := rfl
theorem k_a4_d {K : ATy} {S : Prop} {pc : Nat} {ls : List (Option AV)} {M : Mem} {sx : Nat → Option (Nat × (Nat → Int))} {i : Int} {t : List AV} {b : Nat} : k_a4 K S pc ls M sx i t b = (os S (sx b) (k_a2 K pc ls M i t)) := rfl
theorem k_a0_d {K : ATy} {S : Prop} {pc : Nat} {ls : List (Option AV)} {M : Mem} {sx : Nat → Option (Nat × (Nat → Int))} {r : Option Nat ⊕ Nat} {i : Int} {t : List AV} : k_a0 K S pc ls M sx r i t = (rsel r (k_a3 K pc ls M i t) (k_a4 K S pc ls M sx i t)) := rfl
theorem k_r1_d {K : ATy} {pc : Nat} {ls : List (Option AV)} {M : Mem} {i : Int} {t : List AV} {n : Nat} {g : Nat → Option Nat} : k_r1 K pc ls M i t n g = ((0 ≤ i ∧ i < (n : Int) ∧ n ≤ 2147483648) ∧ K pc ls (.inr (.inr (.inl (g i.toNat))) :: t) M) := rfl
theorem k_r3_d {K : ATy} {pc : Nat} {ls : List (Option AV)} {M : Mem} {i : Int} {t : List AV} {a : Nat} : k_r3 K pc ls M i t a = (mR M a (k_r1 K pc ls M i t)) := rfl
theorem k_no_d  {w1_ : Nat} : k_no w1_ = (False) := rfl
theorem k_r0_d {K : ATy} {pc : Nat} {ls : List (Option AV)} {M : Mem} {r : Option Nat ⊕ Nat} {i : Int} {t : List AV} : k_r0 K pc ls M r i t = (rsel r (k_r3 K pc ls M i t) k_no) := rfl
theorem k_s1_d {K : ATy} {pc : Nat} {ls : List (Option AV)} {M : Mem} {a : Nat} {i x : Int} {t : List AV} {n : Nat} {f : Nat → Int} : k_s1 K pc ls M a i x t n f = ((0 ≤ i ∧ i < (n : Int) ∧ n ≤ 2147483648) ∧ K pc ls t (mu M a (ci_ n (fz f i x)))) := rfl
theorem k_s0_d {K : ATy} {pc : Nat} {ls : List (Option AV)} {M : Mem} {a : Nat} {i x : Int} {t : List AV} : k_s0 K pc ls M a i x t = (mI M a (k_s1 K pc ls M a i x t)) := rfl
theorem k_z_d  {bz : Nat} {Rt : Option AV → Mem → Prop} {M : Mem} {z : Int} : k_z bz Rt M z = ((bz = 1 ∨ (bz = 2 ∧ (z = 0 ∨ z = 1))) ∧ Rt (some (.inl z)) M) := rfl
theorem exi_iconst {own : String} {bz : Nat} {sx : Nat → Option (Nat × (Nat → Int))} {K : ATy} {S : Prop} {pc : Nat} {ls : List (Option AV)} {st : List AV} {M : Mem} {Rt : Option AV → Mem → Prop} {n : Int} : exi own bz sx S pc ls st M K Rt (.iconst n) = (K (pc + 1) ls (.inl n :: st) M) := rfl
theorem exi_bipush {own : String} {bz : Nat} {sx : Nat → Option (Nat × (Nat → Int))} {K : ATy} {S : Prop} {pc : Nat} {ls : List (Option AV)} {st : List AV} {M : Mem} {Rt : Option AV → Mem → Prop} {n : Int} : exi own bz sx S pc ls st M K Rt (.bipush n) = ((-128 ≤ n ∧ n ≤ 127) ∧ K (pc + 2) ls (.inl n :: st) M) := rfl
theorem exi_sipush {own : String} {bz : Nat} {sx : Nat → Option (Nat × (Nat → Int))} {K : ATy} {S : Prop} {pc : Nat} {ls : List (Option AV)} {st : List AV} {M : Mem} {Rt : Option AV → Mem → Prop} {n : Int} : exi own bz sx S pc ls st M K Rt (.sipush n) = ((-32768 ≤ n ∧ n ≤ 32767) ∧ K (pc + 3) ls (.inl n :: st) M) := rfl
theorem exi_lconst {own : String} {bz : Nat} {sx : Nat → Option (Nat × (Nat → Int))} {K : ATy} {S : Prop} {pc : Nat} {ls : List (Option AV)} {st : List AV} {M : Mem} {Rt : Option AV → Mem → Prop} {n : Fin 2} : exi own bz sx S pc ls st M K Rt (.lconst n) = (K (pc + 1) ls (.inr (.inl (n.val : Int)) :: st) M) := rfl
theorem exi_ldc {own : String} {bz : Nat} {sx : Nat → Option (Nat × (Nat → Int))} {K : ATy} {S : Prop} {pc : Nat} {ls : List (Option AV)} {st : List AV} {M : Mem} {Rt : Option AV → Mem → Prop} {k : Nat} : exi own bz sx S pc ls st M K Rt (.ldc k) = (os S (gI own k) (k_pi K (pc + 2) ls st M)) := rfl
theorem exi_ldc_w {own : String} {bz : Nat} {sx : Nat → Option (Nat × (Nat → Int))} {K : ATy} {S : Prop} {pc : Nat} {ls : List (Option AV)} {st : List AV} {M : Mem} {Rt : Option AV → Mem → Prop} {k : Nat} : exi own bz sx S pc ls st M K Rt (.ldc_w k) = (os S (gI own k) (k_pi K (pc + 3) ls st M)) := rfl
theorem exi_ldc2_w {own : String} {bz : Nat} {sx : Nat → Option (Nat × (Nat → Int))} {K : ATy} {S : Prop} {pc : Nat} {ls : List (Option AV)} {st : List AV} {M : Mem} {Rt : Option AV → Mem → Prop} {k : Nat} : exi own bz sx S pc ls st M K Rt (.ldc2_w k) = (os S (gL own k) (k_pl K (pc + 3) ls st M)) := rfl
theorem exi_iload_n {own : String} {bz : Nat} {sx : Nat → Option (Nat × (Nat → Int))} {K : ATy} {S : Prop} {pc : Nat} {ls : List (Option AV)} {st : List AV} {M : Mem} {Rt : Option AV → Mem → Prop} {k : Fin 4} : exi own bz sx S pc ls st M K Rt (.iload_n k) = (ldI (nth ls k.val) (k_p K (pc + 1) ls st M)) := rfl
theorem exi_iload {own : String} {bz : Nat} {sx : Nat → Option (Nat × (Nat → Int))} {K : ATy} {S : Prop} {pc : Nat} {ls : List (Option AV)} {st : List AV} {M : Mem} {Rt : Option AV → Mem → Prop} {k : Nat} : exi own bz sx S pc ls st M K Rt (.iload k) = (ldI (nth ls k) (k_p K (pc + 2) ls st M)) := rfl
theorem exi_lload_n {own : String} {bz : Nat} {sx : Nat → Option (Nat × (Nat → Int))} {K : ATy} {S : Prop} {pc : Nat} {ls : List (Option AV)} {st : List AV} {M : Mem} {Rt : Option AV → Mem → Prop} {k : Fin 4} : exi own bz sx S pc ls st M K Rt (.lload_n k) = (ldL (nth ls k.val) (k_p K (pc + 1) ls st M)) := rfl
theorem exi_lload {own : String} {bz : Nat} {sx : Nat → Option (Nat × (Nat → Int))} {K : ATy} {S : Prop} {pc : Nat} {ls : List (Option AV)} {st : List AV} {M : Mem} {Rt : Option AV → Mem → Prop} {k : Nat} : exi own bz sx S pc ls st M K Rt (.lload k) = (ldL (nth ls k) (k_p K (pc + 2) ls st M)) := rfl
theorem exi_aload_n {own : String} {bz : Nat} {sx : Nat → Option (Nat × (Nat → Int))} {K : ATy} {S : Prop} {pc : Nat} {ls : List (Option AV)} {st : List AV} {M : Mem} {Rt : Option AV → Mem → Prop} {k : Fin 4} : exi own bz sx S pc ls st M K Rt (.aload_n k) = (ldA (nth ls k.val) (k_p K (pc + 1) ls st M)) := rfl
theorem exi_aload {own : String} {bz : Nat} {sx : Nat → Option (Nat × (Nat → Int))} {K : ATy} {S : Prop} {pc : Nat} {ls : List (Option AV)} {st : List AV} {M : Mem} {Rt : Option AV → Mem → Prop} {k : Nat} : exi own bz sx S pc ls st M K Rt (.aload k) = (ldA (nth ls k) (k_p K (pc + 2) ls st M)) := rfl
theorem exi_istore_n {own : String} {bz : Nat} {sx : Nat → Option (Nat × (Nat → Int))} {K : ATy} {S : Prop} {pc : Nat} {ls : List (Option AV)} {st : List AV} {M : Mem} {Rt : Option AV → Mem → Prop} {k : Fin 4} : exi own bz sx S pc ls st M K Rt (.istore_n k) = (e_i st (k_sti K (pc + 1) ls M k.val)) := rfl
theorem exi_istore {own : String} {bz : Nat} {sx : Nat → Option (Nat × (Nat → Int))} {K : ATy} {S : Prop} {pc : Nat} {ls : List (Option AV)} {st : List AV} {M : Mem} {Rt : Option AV → Mem → Prop} {k : Nat} : exi own bz sx S pc ls st M K Rt (.istore k) = (e_i st (k_sti K (pc + 2) ls M k)) := rfl
theorem exi_lstore_n {own : String} {bz : Nat} {sx : Nat → Option (Nat × (Nat → Int))} {K : ATy} {S : Prop} {pc : Nat} {ls : List (Option AV)} {st : List AV} {M : Mem} {Rt : Option AV → Mem → Prop} {k : Fin 4} : exi own bz sx S pc ls st M K Rt (.lstore_n k) = (e_l st (k_stl K (pc + 1) ls M k.val)) := rfl
theorem exi_lstore {own : String} {bz : Nat} {sx : Nat → Option (Nat × (Nat → Int))} {K : ATy} {S : Prop} {pc : Nat} {ls : List (Option AV)} {st : List AV} {M : Mem} {Rt : Option AV → Mem → Prop} {k : Nat} : exi own bz sx S pc ls st M K Rt (.lstore k) = (e_l st (k_stl K (pc + 2) ls M k)) := rfl
theorem exi_astore_n {own : String} {bz : Nat} {sx : Nat → Option (Nat × (Nat → Int))} {K : ATy} {S : Prop} {pc : Nat} {ls : List (Option AV)} {st : List AV} {M : Mem} {Rt : Option AV → Mem → Prop} {k : Fin 4} : exi own bz sx S pc ls st M K Rt (.astore_n k) = (e_r st (k_sta K (pc + 1) ls M k.val)) := rfl
theorem exi_astore {own : String} {bz : Nat} {sx : Nat → Option (Nat × (Nat → Int))} {K : ATy} {S : Prop} {pc : Nat} {ls : List (Option AV)} {st : List AV} {M : Mem} {Rt : Option AV → Mem → Prop} {k : Nat} : exi own bz sx S pc ls st M K Rt (.astore k) = (e_r st (k_sta K (pc + 2) ls M k)) := rfl
theorem exi_iinc {own : String} {bz : Nat} {sx : Nat → Option (Nat × (Nat → Int))} {K : ATy} {S : Prop} {pc : Nat} {ls : List (Option AV)} {st : List AV} {M : Mem} {Rt : Option AV → Mem → Prop} {k : Nat} {n : Int} : exi own bz sx S pc ls st M K Rt (.iinc k n) = (ldZ (nth ls k) (k_inc K (pc + 3) ls st M k n)) := rfl
theorem exi_iadd {own : String} {bz : Nat} {sx : Nat → Option (Nat × (Nat → Int))} {K : ATy} {S : Prop} {pc : Nat} {ls : List (Option AV)} {st : List AV} {M : Mem} {Rt : Option AV → Mem → Prop}  : exi own bz sx S pc ls st M K Rt (.iadd ) = (e_ii st (k_add K (pc + 1) ls M)) := rfl
theorem exi_isub {own : String} {bz : Nat} {sx : Nat → Option (Nat × (Nat → Int))} {K : ATy} {S : Prop} {pc : Nat} {ls : List (Option AV)} {st : List AV} {M : Mem} {Rt : Option AV → Mem → Prop}  : exi own bz sx S pc ls st M K Rt (.isub ) = (e_ii st (k_sub K (pc + 1) ls M)) := rfl
theorem exi_imul {own : String} {bz : Nat} {sx : Nat → Option (Nat × (Nat → Int))} {K : ATy} {S : Prop} {pc : Nat} {ls : List (Option AV)} {st : List AV} {M : Mem} {Rt : Option AV → Mem → Prop}  : exi own bz sx S pc ls st M K Rt (.imul ) = (e_ii st (k_mul K (pc + 1) ls M)) := rfl
theorem exi_idiv {own : String} {bz : Nat} {sx : Nat → Option (Nat × (Nat → Int))} {K : ATy} {S : Prop} {pc : Nat} {ls : List (Option AV)} {st : List AV} {M : Mem} {Rt : Option AV → Mem → Prop}  : exi own bz sx S pc ls st M K Rt (.idiv ) = (e_ii st (k_div K (pc + 1) ls M)) := rfl
theorem exi_irem {own : String} {bz : Nat} {sx : Nat → Option (Nat × (Nat → Int))} {K : ATy} {S : Prop} {pc : Nat} {ls : List (Option AV)} {st : List AV} {M : Mem} {Rt : Option AV → Mem → Prop}  : exi own bz sx S pc ls st M K Rt (.irem ) = (e_ii st (k_rem K (pc + 1) ls M)) := rfl
theorem exi_iand {own : String} {bz : Nat} {sx : Nat → Option (Nat × (Nat → Int))} {K : ATy} {S : Prop} {pc : Nat} {ls : List (Option AV)} {st : List AV} {M : Mem} {Rt : Option AV → Mem → Prop}  : exi own bz sx S pc ls st M K Rt (.iand ) = (e_ii st (k_and K (pc + 1) ls M)) := rfl
theorem exi_ior {own : String} {bz : Nat} {sx : Nat → Option (Nat × (Nat → Int))} {K : ATy} {S : Prop} {pc : Nat} {ls : List (Option AV)} {st : List AV} {M : Mem} {Rt : Option AV → Mem → Prop}  : exi own bz sx S pc ls st M K Rt (.ior ) = (e_ii st (k_or K (pc + 1) ls M)) := rfl
theorem exi_ixor {own : String} {bz : Nat} {sx : Nat → Option (Nat × (Nat → Int))} {K : ATy} {S : Prop} {pc : Nat} {ls : List (Option AV)} {st : List AV} {M : Mem} {Rt : Option AV → Mem → Prop}  : exi own bz sx S pc ls st M K Rt (.ixor ) = (e_ii st (k_xor K (pc + 1) ls M)) := rfl
theorem exi_ishl {own : String} {bz : Nat} {sx : Nat → Option (Nat × (Nat → Int))} {K : ATy} {S : Prop} {pc : Nat} {ls : List (Option AV)} {st : List AV} {M : Mem} {Rt : Option AV → Mem → Prop}  : exi own bz sx S pc ls st M K Rt (.ishl ) = (e_ii st (k_shl K (pc + 1) ls M)) := rfl
theorem exi_ishr {own : String} {bz : Nat} {sx : Nat → Option (Nat × (Nat → Int))} {K : ATy} {S : Prop} {pc : Nat} {ls : List (Option AV)} {st : List AV} {M : Mem} {Rt : Option AV → Mem → Prop}  : exi own bz sx S pc ls st M K Rt (.ishr ) = (e_ii st (k_shr K (pc + 1) ls M)) := rfl
theorem exi_iushr {own : String} {bz : Nat} {sx : Nat → Option (Nat × (Nat → Int))} {K : ATy} {S : Prop} {pc : Nat} {ls : List (Option AV)} {st : List AV} {M : Mem} {Rt : Option AV → Mem → Prop}  : exi own bz sx S pc ls st M K Rt (.iushr ) = (e_ii st (k_ush K (pc + 1) ls M)) := rfl
theorem exi_ladd {own : String} {bz : Nat} {sx : Nat → Option (Nat × (Nat → Int))} {K : ATy} {S : Prop} {pc : Nat} {ls : List (Option AV)} {st : List AV} {M : Mem} {Rt : Option AV → Mem → Prop}  : exi own bz sx S pc ls st M K Rt (.ladd ) = (e_ll st (k_ladd K (pc + 1) ls M)) := rfl
theorem exi_lmul {own : String} {bz : Nat} {sx : Nat → Option (Nat × (Nat → Int))} {K : ATy} {S : Prop} {pc : Nat} {ls : List (Option AV)} {st : List AV} {M : Mem} {Rt : Option AV → Mem → Prop}  : exi own bz sx S pc ls st M K Rt (.lmul ) = (e_ll st (k_lmul K (pc + 1) ls M)) := rfl
theorem exi_lrem {own : String} {bz : Nat} {sx : Nat → Option (Nat × (Nat → Int))} {K : ATy} {S : Prop} {pc : Nat} {ls : List (Option AV)} {st : List AV} {M : Mem} {Rt : Option AV → Mem → Prop}  : exi own bz sx S pc ls st M K Rt (.lrem ) = (e_ll st (k_lrem K (pc + 1) ls M)) := rfl
theorem exi_lcmp {own : String} {bz : Nat} {sx : Nat → Option (Nat × (Nat → Int))} {K : ATy} {S : Prop} {pc : Nat} {ls : List (Option AV)} {st : List AV} {M : Mem} {Rt : Option AV → Mem → Prop}  : exi own bz sx S pc ls st M K Rt (.lcmp ) = (e_ll st (k_lcmp K (pc + 1) ls M)) := rfl
theorem exi_i2l {own : String} {bz : Nat} {sx : Nat → Option (Nat × (Nat → Int))} {K : ATy} {S : Prop} {pc : Nat} {ls : List (Option AV)} {st : List AV} {M : Mem} {Rt : Option AV → Mem → Prop}  : exi own bz sx S pc ls st M K Rt (.i2l ) = (e_i st (k_i2l K (pc + 1) ls M)) := rfl
theorem exi_l2i {own : String} {bz : Nat} {sx : Nat → Option (Nat × (Nat → Int))} {K : ATy} {S : Prop} {pc : Nat} {ls : List (Option AV)} {st : List AV} {M : Mem} {Rt : Option AV → Mem → Prop}  : exi own bz sx S pc ls st M K Rt (.l2i ) = (e_l st (k_l2i K (pc + 1) ls M)) := rfl
theorem exi_dup {own : String} {bz : Nat} {sx : Nat → Option (Nat × (Nat → Int))} {K : ATy} {S : Prop} {pc : Nat} {ls : List (Option AV)} {st : List AV} {M : Mem} {Rt : Option AV → Mem → Prop}  : exi own bz sx S pc ls st M K Rt (.dup ) = (e_1 st (k_dup K (pc + 1) ls M)) := rfl
theorem exi_pop {own : String} {bz : Nat} {sx : Nat → Option (Nat × (Nat → Int))} {K : ATy} {S : Prop} {pc : Nat} {ls : List (Option AV)} {st : List AV} {M : Mem} {Rt : Option AV → Mem → Prop}  : exi own bz sx S pc ls st M K Rt (.pop ) = (e_1 st (k_pop K (pc + 1) ls M)) := rfl
theorem exi_dup_x1 {own : String} {bz : Nat} {sx : Nat → Option (Nat × (Nat → Int))} {K : ATy} {S : Prop} {pc : Nat} {ls : List (Option AV)} {st : List AV} {M : Mem} {Rt : Option AV → Mem → Prop}  : exi own bz sx S pc ls st M K Rt (.dup_x1 ) = (e_2 st (k_dx1 K (pc + 1) ls M)) := rfl
theorem exi_dup2 {own : String} {bz : Nat} {sx : Nat → Option (Nat × (Nat → Int))} {K : ATy} {S : Prop} {pc : Nat} {ls : List (Option AV)} {st : List AV} {M : Mem} {Rt : Option AV → Mem → Prop}  : exi own bz sx S pc ls st M K Rt (.dup2 ) = (e_2 st (k_d2 K (pc + 1) ls M)) := rfl
theorem exi_ifCond {own : String} {bz : Nat} {sx : Nat → Option (Nat × (Nat → Int))} {K : ATy} {S : Prop} {pc : Nat} {ls : List (Option AV)} {st : List AV} {M : Mem} {Rt : Option AV → Mem → Prop} {c : Jvm.ClassFile.Cond} {off : Int} : exi own bz sx S pc ls st M K Rt (.ifCond c off) = (e_i st (k_if K (pc + 3) ls M c (jt pc off))) := rfl
theorem exi_if_icmp {own : String} {bz : Nat} {sx : Nat → Option (Nat × (Nat → Int))} {K : ATy} {S : Prop} {pc : Nat} {ls : List (Option AV)} {st : List AV} {M : Mem} {Rt : Option AV → Mem → Prop} {c : Jvm.ClassFile.Cond} {off : Int} : exi own bz sx S pc ls st M K Rt (.if_icmp c off) = (e_ii st (k_ic K (pc + 3) ls M c (jt pc off))) := rfl
theorem exi_goto {own : String} {bz : Nat} {sx : Nat → Option (Nat × (Nat → Int))} {K : ATy} {S : Prop} {pc : Nat} {ls : List (Option AV)} {st : List AV} {M : Mem} {Rt : Option AV → Mem → Prop} {off : Int} : exi own bz sx S pc ls st M K Rt (.goto off) = (K (jt pc off) ls st M) := rfl
theorem exi_tableswitch {own : String} {bz : Nat} {sx : Nat → Option (Nat × (Nat → Int))} {K : ATy} {S : Prop} {pc : Nat} {ls : List (Option AV)} {st : List AV} {M : Mem} {Rt : Option AV → Mem → Prop} {d : Int} {lo : Int} {hi : Int} {offs : Array Int} : exi own bz sx S pc ls st M K Rt (.tableswitch d lo hi offs) = (e_i st (k_ts K pc ls M d lo hi offs.toList)) := rfl
theorem exi_lookupswitch {own : String} {bz : Nat} {sx : Nat → Option (Nat × (Nat → Int))} {K : ATy} {S : Prop} {pc : Nat} {ls : List (Option AV)} {st : List AV} {M : Mem} {Rt : Option AV → Mem → Prop} {d : Int} {ps : Array (Int × Int)} : exi own bz sx S pc ls st M K Rt (.lookupswitch d ps) = (e_i st (k_lk K pc ls M d ps.toList)) := rfl
theorem exi_getfield {own : String} {bz : Nat} {sx : Nat → Option (Nat × (Nat → Int))} {K : ATy} {S : Prop} {pc : Nat} {ls : List (Option AV)} {st : List AV} {M : Mem} {Rt : Option AV → Mem → Prop} {k : Nat} : exi own bz sx S pc ls st M K Rt (.getfield k) = (os S (gf own k) (k_g0 K (pc + 3) ls st M)) := rfl
theorem exi_putfield {own : String} {bz : Nat} {sx : Nat → Option (Nat × (Nat → Int))} {K : ATy} {S : Prop} {pc : Nat} {ls : List (Option AV)} {st : List AV} {M : Mem} {Rt : Option AV → Mem → Prop} {k : Nat} : exi own bz sx S pc ls st M K Rt (.putfield k) = (os S (gf own k) (k_f0 K S (pc + 3) ls st M)) := rfl
theorem exi_arraylength {own : String} {bz : Nat} {sx : Nat → Option (Nat × (Nat → Int))} {K : ATy} {S : Prop} {pc : Nat} {ls : List (Option AV)} {st : List AV} {M : Mem} {Rt : Option AV → Mem → Prop}  : exi own bz sx S pc ls st M K Rt (.arraylength ) = (e_rr st (k_n0 K S (pc + 1) ls M sx)) := rfl
theorem exi_iaload {own : String} {bz : Nat} {sx : Nat → Option (Nat × (Nat → Int))} {K : ATy} {S : Prop} {pc : Nat} {ls : List (Option AV)} {st : List AV} {M : Mem} {Rt : Option AV → Mem → Prop}  : exi own bz sx S pc ls st M K Rt (.iaload ) = (e_ir st (k_a0 K S (pc + 1) ls M sx)) := rfl
theorem exi_aaload {own : String} {bz : Nat} {sx : Nat → Option (Nat × (Nat → Int))} {K : ATy} {S : Prop} {pc : Nat} {ls : List (Option AV)} {st : List AV} {M : Mem} {Rt : Option AV → Mem → Prop}  : exi own bz sx S pc ls st M K Rt (.aaload ) = (e_ir st (k_r0 K (pc + 1) ls M)) := rfl
theorem exi_iastore {own : String} {bz : Nat} {sx : Nat → Option (Nat × (Nat → Int))} {K : ATy} {S : Prop} {pc : Nat} {ls : List (Option AV)} {st : List AV} {M : Mem} {Rt : Option AV → Mem → Prop}  : exi own bz sx S pc ls st M K Rt (.iastore ) = (e_iir st (k_s0 K (pc + 1) ls M)) := rfl
theorem exi_ireturn {own : String} {bz : Nat} {sx : Nat → Option (Nat × (Nat → Int))} {K : ATy} {S : Prop} {pc : Nat} {ls : List (Option AV)} {st : List AV} {M : Mem} {Rt : Option AV → Mem → Prop}  : exi own bz sx S pc ls st M K Rt (.ireturn ) = (e_z st (k_z bz Rt M)) := rfl
theorem exi_return_ {own : String} {bz : Nat} {sx : Nat → Option (Nat × (Nat → Int))} {K : ATy} {S : Prop} {pc : Nat} {ls : List (Option AV)} {st : List AV} {M : Mem} {Rt : Option AV → Mem → Prop}  : exi own bz sx S pc ls st M K Rt (.return_ ) = (e_n st (bz = 0 ∧ Rt none M)) := rfl
theorem bco_t {S T : Prop} : bco true S T = S := rfl
theorem bco_f {S T : Prop} : bco false S T = T := rfl
theorem os_s {α : Type} {S : Prop} {x : α} {f : α → Prop} : os S (some x) f = f x := rfl
theorem os_n {α : Type} {S : Prop} {f : α → Prop} : os S none f = S := rfl
theorem oo_s {α : Type} {x : α} {f : α → Prop} : oo (some x) f = f x := rfl
theorem e_i_c {t : List AV} {x : Int} {f : Int → List AV → Prop} : e_i (.inl x :: t) f = f x t := rfl
theorem e_ii_c {t : List AV} {x y : Int} {f : Int → Int → List AV → Prop} : e_ii (.inl y :: .inl x :: t) f = f x y t := rfl
theorem e_l_c {t : List AV} {x : Int} {f : Int → List AV → Prop} : e_l (.inr (.inl x) :: t) f = f x t := rfl
theorem e_ll_c {t : List AV} {x y : Int} {f : Int → Int → List AV → Prop} : e_ll (.inr (.inl y) :: .inr (.inl x) :: t) f = f x y t := rfl
theorem e_r_c {t : List AV} {a : Nat} {f : Nat → List AV → Prop} : e_r (.inr (.inr (.inl (some a))) :: t) f = f a t := rfl
theorem e_rr_c {t : List AV} {a : Option Nat ⊕ Nat} {f : (Option Nat ⊕ Nat) → List AV → Prop} : e_rr (.inr (.inr a) :: t) f = f a t := rfl
theorem e_ir_c {t : List AV} {a : Option Nat ⊕ Nat} {i : Int} {f : (Option Nat ⊕ Nat) → Int → List AV → Prop} : e_ir (.inl i :: .inr (.inr a) :: t) f = f a i t := rfl
theorem e_iir_c {t : List AV} {a : Nat} {i x : Int} {f : Nat → Int → Int → List AV → Prop} : e_iir (.inl x :: .inl i :: .inr (.inr (.inl (some a))) :: t) f = f a i x t := rfl
theorem e_vr_c {t : List AV} {a : Nat} {v : AV} {f : Nat → AV → List AV → Prop} : e_vr (v :: .inr (.inr (.inl (some a))) :: t) f = f a v t := rfl
theorem e_1_c {t : List AV} {v : AV} {f : AV → List AV → Prop} : e_1 (v :: t) f = (c1 v ∧ f v t) := rfl
theorem e_2_c {t : List AV} {v w : AV} {f : AV → AV → List AV → Prop} : e_2 (v :: w :: t) f = (c1 v ∧ c1 w ∧ f v w t) := rfl
theorem c1_i {z : Int} : c1 (.inl z) = True := rfl
theorem c1_r {r : Option Nat ⊕ Nat} : c1 (.inr (.inr r)) = True := rfl
theorem e_z_c {z : Int} {f : Int → Prop} : e_z [.inl z] f = f z := rfl
theorem e_n_c {f : Prop} : e_n [] f = f := rfl
theorem nth_0 {o : Option AV} {t : List (Option AV)} : nth (o :: t) 0 = o := rfl
theorem nth_s {o : Option AV} {t : List (Option AV)} {i : Nat} : nth (o :: t) (i + 1) = nth t i := rfl
theorem nthV_0 {o : AV} {t : List AV} : nthV (o :: t) 0 = some o := rfl
theorem nthV_s {o : AV} {t : List AV} {i : Nat} : nthV (o :: t) (i + 1) = nthV t i := rfl
theorem setV_0 {o v : AV} {t : List AV} : setV (o :: t) 0 v = some (v :: t) := rfl
theorem setV_s {o v : AV} {t : List AV} {i : Nat} : setV (o :: t) (i + 1) v = ocons o (setV t i v) := rfl
theorem ocons_s {α : Type} {o : α} {l : List α} : ocons o (some l) = some (o :: l) := rfl
theorem clr_n  : clr none = none := rfl
theorem clr_i {z : Int} : clr (some (.inl z)) = some (.inl z) := rfl
theorem clr_r {r : Option Nat ⊕ Nat} : clr (some (.inr (.inr r))) = some (.inr (.inr r)) := rfl
theorem clr_l {z : Int} : clr (some (.inr (.inl z))) = none := rfl
theorem stl_0 {o : Option AV} {t : List (Option AV)} {v : AV} : stl 0 v (o :: t) = some (some v :: t) := rfl
theorem stl_1 {o o2 : Option AV} {t : List (Option AV)} {v : AV} : stl 1 v (o :: o2 :: t) = some (clr o :: some v :: t) := rfl
theorem stl_s {o : Option AV} {t : List (Option AV)} {i : Nat} {v : AV} : stl (i + 2) v (o :: t) = ocons o (stl (i + 1) v t) := rfl
theorem stl2_0 {o o2 : Option AV} {t : List (Option AV)} {v : AV} : stl2 0 v (o :: o2 :: t) = some (some v :: none :: t) := rfl
theorem stl2_1 {o o2 o3 : Option AV} {t : List (Option AV)} {v : AV} : stl2 1 v (o :: o2 :: o3 :: t) = some (clr o :: some v :: none :: t) := rfl
theorem stl2_s {o : Option AV} {t : List (Option AV)} {i : Nat} {v : AV} : stl2 (i + 2) v (o :: t) = ocons o (stl2 (i + 1) v t) := rfl
def xO (e : Option CE) (c : Nat) (f : List AV → Prop) : Prop := match e with
  | some (.inr (.inr (c', fs))) => c' = c ∧ f fs
  | _ => False
def xI (e : Option CE) (f : Nat → (Nat → Int) → Prop) : Prop := match e with
  | some (.inl (n, g)) => f n g
  | _ => False
def xR (e : Option CE) (f : Nat → (Nat → Option Nat) → Prop) : Prop := match e with
  | some (.inr (.inl (n, g))) => f n g
  | _ => False
def xN (e : Option CE) (f : Nat → Prop) : Prop := match e with
  | some (.inl (n, _)) => f n
  | some (.inr (.inl (n, _))) => f n
  | _ => False
theorem mO_d {M : Mem} {a c : Nat} {f : List AV → Prop} : mO M a c f = xO (M a) c f := rfl
theorem mI_d {M : Mem} {a : Nat} {f : Nat → (Nat → Int) → Prop} : mI M a f = xI (M a) f := rfl
theorem mR_d {M : Mem} {a : Nat} {f : Nat → (Nat → Option Nat) → Prop} : mR M a f = xR (M a) f := rfl
theorem mN_d {M : Mem} {a : Nat} {f : Nat → Prop} : mN M a f = xN (M a) f := rfl
theorem xO_s {c c2 : Nat} {fs : List AV} {f : List AV → Prop} : xO (some (.inr (.inr (c2, fs)))) c f = (c2 = c ∧ f fs) := rfl
theorem xI_s {n : Nat} {g : Nat → Int} {f : Nat → (Nat → Int) → Prop} : xI (some (.inl (n, g))) f = f n g := rfl
theorem xR_s {n : Nat} {g : Nat → Option Nat} {f : Nat → (Nat → Option Nat) → Prop} : xR (some (.inr (.inl (n, g)))) f = f n g := rfl
theorem xN_i {n : Nat} {g : Nat → Int} {f : Nat → Prop} : xN (some (.inl (n, g))) f = f n := rfl
theorem xN_r {n : Nat} {g : Nat → Option Nat} {f : Nat → Prop} : xN (some (.inr (.inl (n, g)))) f = f n := rfl
theorem ldI_s {x : Int} {f : AV → Prop} : ldI (some (.inl x)) f = f (.inl x) := rfl
theorem ldL_s {x : Int} {f : AV → Prop} : ldL (some (.inr (.inl x))) f = f (.inr (.inl x)) := rfl
theorem ldA_r {x : Nat} {f : AV → Prop} : ldA (some (.inr (.inr (.inl (some x))))) f = f (.inr (.inr (.inl (some x)))) := rfl
theorem ldA_b {x : Nat} {f : AV → Prop} : ldA (some (.inr (.inr (.inr x)))) f = f (.inr (.inr (.inr x))) := rfl
theorem ldZ_s {x : Int} {f : Int → Prop} : ldZ (some (.inl x)) f = f x := rfl
theorem rsel_a {a : Nat} {f g : Nat → Prop} : rsel (.inl (some a)) f g = f a := rfl
theorem rsel_b {b : Nat} {f g : Nat → Prop} : rsel (.inr b) f g = g b := rfl
theorem cnd_eq {x y : Int} : cnd .eq x y = (x = y) := rfl
theorem cnd_ne {x y : Int} : cnd .ne x y = (¬ x = y) := rfl
theorem cnd_lt {x y : Int} : cnd .lt x y = (x < y) := rfl
theorem cnd_ge {x y : Int} : cnd .ge x y = (y ≤ x) := rfl
theorem cnd_gt {x y : Int} : cnd .gt x y = (y < x) := rfl
theorem cnd_le {x y : Int} : cnd .le x y = (x ≤ y) := rfl
theorem jt_d {pc : Nat} {off : Int} : jt pc off = ((pc : Int) + off).toNat := rfl
theorem tsw_n {x k : Int} {K : Nat → Prop} {pc : Nat} : tsw x K pc [] k = True := rfl
theorem tsw_c {x k o : Int} {K : Nat → Prop} {pc : Nat} {t : List Int} : tsw x K pc (o :: t) k = ((x = k → K (jt pc o)) ∧ tsw x K pc t (k + 1)) := rfl
theorem lsw_n {x d : Int} {K : Nat → Prop} {pc : Nat} : lsw x K pc d [] = K (jt pc d) := rfl
theorem lsw_c {x d k o : Int} {K : Nat → Prop} {pc : Nat} {t : List (Int × Int)} : lsw x K pc d ((k, o) :: t) = ((x = k → K (jt pc o)) ∧ (¬ x = k → lsw x K pc d t)) := rfl
theorem okT_i {ty : Nat} {z : Int} : okT ty (.inl z) = (ty = 0 ∨ (ty = 1 ∧ (z = 0 ∨ z = 1))) := rfl
theorem okT_r {ty q : Nat} : okT ty (.inr (.inr (.inl (some q)))) = (ty = 2) := rfl
theorem okT_n {ty : Nat} : okT ty (.inr (.inr (.inl none))) = (ty = 2) := rfl
theorem f9_0 {S T : Prop} : f9 0 S T = T := rfl
theorem f9_1 {S T : Prop} : f9 1 S T = T := rfl
theorem f9_2 {S T : Prop} : f9 2 S T = T := rfl
theorem f9_9 {S T : Prop} : f9 9 S T = S := rfl
theorem sx0_d {b : Nat} : sx0 b = none := rfl
theorem mu_d {M : Mem} {a k : Nat} {e : CE} : mu M a e k = if k = a then some e else M k := rfl
theorem fu_d {f : Nat → Int} {i j : Nat} {x : Int} : fu f i x j = if j = i then x else f j := rfl
theorem fst_d {α β : Type} {a : α} {b : β} : (a, b).1 = a := rfl
theorem snd_d {α β : Type} {a : α} {b : β} : (a, b).2 = b := rfl
theorem inR_m5 : inR (-5) = True := eq_true (by decide)
theorem inR_m4 : inR (-4) = True := eq_true (by decide)
theorem inR_m3 : inR (-3) = True := eq_true (by decide)
theorem inR_m2 : inR (-2) = True := eq_true (by decide)
theorem inR_m1 : inR (-1) = True := eq_true (by decide)
theorem inR_0 : inR (0) = True := eq_true (by decide)
theorem inR_1 : inR (1) = True := eq_true (by decide)
theorem inR_2 : inR (2) = True := eq_true (by decide)
theorem inR_3 : inR (3) = True := eq_true (by decide)
theorem inR_4 : inR (4) = True := eq_true (by decide)
theorem inR_5 : inR (5) = True := eq_true (by decide)
theorem inR_6 : inR (6) = True := eq_true (by decide)
theorem inR_7 : inR (7) = True := eq_true (by decide)
theorem inR_8 : inR (8) = True := eq_true (by decide)
theorem inR_9 : inR (9) = True := eq_true (by decide)
theorem inR_10 : inR (10) = True := eq_true (by decide)
theorem inR_11 : inR (11) = True := eq_true (by decide)
theorem inR_12 : inR (12) = True := eq_true (by decide)
theorem inR_13 : inR (13) = True := eq_true (by decide)
theorem inR_14 : inR (14) = True := eq_true (by decide)
theorem inR_15 : inR (15) = True := eq_true (by decide)
theorem inR_16 : inR (16) = True := eq_true (by decide)
theorem inR_17 : inR (17) = True := eq_true (by decide)
theorem inR_18 : inR (18) = True := eq_true (by decide)
theorem inR_19 : inR (19) = True := eq_true (by decide)
theorem inR_20 : inR (20) = True := eq_true (by decide)
theorem inR_21 : inR (21) = True := eq_true (by decide)
theorem inR_22 : inR (22) = True := eq_true (by decide)
theorem inR_23 : inR (23) = True := eq_true (by decide)
theorem inR_24 : inR (24) = True := eq_true (by decide)
theorem inR_25 : inR (25) = True := eq_true (by decide)
theorem inR_26 : inR (26) = True := eq_true (by decide)
theorem inR_27 : inR (27) = True := eq_true (by decide)
theorem inR_28 : inR (28) = True := eq_true (by decide)
theorem inR_29 : inR (29) = True := eq_true (by decide)
theorem inR_30 : inR (30) = True := eq_true (by decide)
theorem inR_31 : inR (31) = True := eq_true (by decide)
theorem inR_32 : inR (32) = True := eq_true (by decide)
theorem inR_33 : inR (33) = True := eq_true (by decide)
theorem inR_34 : inR (34) = True := eq_true (by decide)
theorem inR_35 : inR (35) = True := eq_true (by decide)
theorem inR_36 : inR (36) = True := eq_true (by decide)
theorem inR_37 : inR (37) = True := eq_true (by decide)
theorem inR_38 : inR (38) = True := eq_true (by decide)
theorem inR_39 : inR (39) = True := eq_true (by decide)
theorem inR_40 : inR (40) = True := eq_true (by decide)
theorem inR_41 : inR (41) = True := eq_true (by decide)
theorem inR_42 : inR (42) = True := eq_true (by decide)
theorem inR_43 : inR (43) = True := eq_true (by decide)
theorem inR_44 : inR (44) = True := eq_true (by decide)
theorem inR_45 : inR (45) = True := eq_true (by decide)
theorem inR_46 : inR (46) = True := eq_true (by decide)
theorem inR_47 : inR (47) = True := eq_true (by decide)
theorem inR_48 : inR (48) = True := eq_true (by decide)
theorem inR_49 : inR (49) = True := eq_true (by decide)
theorem inR_50 : inR (50) = True := eq_true (by decide)
theorem inR_51 : inR (51) = True := eq_true (by decide)
theorem inR_52 : inR (52) = True := eq_true (by decide)
theorem inR_53 : inR (53) = True := eq_true (by decide)
theorem inR_54 : inR (54) = True := eq_true (by decide)
theorem inR_55 : inR (55) = True := eq_true (by decide)
theorem inR_56 : inR (56) = True := eq_true (by decide)
theorem inR_57 : inR (57) = True := eq_true (by decide)
theorem inR_58 : inR (58) = True := eq_true (by decide)
theorem inR_59 : inR (59) = True := eq_true (by decide)
theorem inR_60 : inR (60) = True := eq_true (by decide)
theorem inR_61 : inR (61) = True := eq_true (by decide)
theorem inR_62 : inR (62) = True := eq_true (by decide)
theorem inR_63 : inR (63) = True := eq_true (by decide)
theorem inR_64 : inR (64) = True := eq_true (by decide)
theorem inR_65 : inR (65) = True := eq_true (by decide)
theorem inR_66 : inR (66) = True := eq_true (by decide)
theorem inR_67 : inR (67) = True := eq_true (by decide)
theorem inR_68 : inR (68) = True := eq_true (by decide)
theorem inR_69 : inR (69) = True := eq_true (by decide)
theorem inR_70 : inR (70) = True := eq_true (by decide)
theorem inR_71 : inR (71) = True := eq_true (by decide)
theorem inR_72 : inR (72) = True := eq_true (by decide)
theorem inR_73 : inR (73) = True := eq_true (by decide)
theorem inR_74 : inR (74) = True := eq_true (by decide)
theorem inR_75 : inR (75) = True := eq_true (by decide)
theorem inR_76 : inR (76) = True := eq_true (by decide)
theorem inR_77 : inR (77) = True := eq_true (by decide)
theorem inR_78 : inR (78) = True := eq_true (by decide)
theorem inR_79 : inR (79) = True := eq_true (by decide)
theorem inR_80 : inR (80) = True := eq_true (by decide)
theorem inR_81 : inR (81) = True := eq_true (by decide)
theorem inR_82 : inR (82) = True := eq_true (by decide)
theorem inR_83 : inR (83) = True := eq_true (by decide)
theorem inR_84 : inR (84) = True := eq_true (by decide)
theorem inR_85 : inR (85) = True := eq_true (by decide)
theorem inR_86 : inR (86) = True := eq_true (by decide)
theorem inR_87 : inR (87) = True := eq_true (by decide)
theorem inR_88 : inR (88) = True := eq_true (by decide)
theorem inR_89 : inR (89) = True := eq_true (by decide)
theorem inR_90 : inR (90) = True := eq_true (by decide)
theorem inR_91 : inR (91) = True := eq_true (by decide)
theorem inR_92 : inR (92) = True := eq_true (by decide)
theorem inR_93 : inR (93) = True := eq_true (by decide)
theorem inR_94 : inR (94) = True := eq_true (by decide)
theorem inR_95 : inR (95) = True := eq_true (by decide)
theorem inR_96 : inR (96) = True := eq_true (by decide)
theorem inR_97 : inR (97) = True := eq_true (by decide)
theorem inR_98 : inR (98) = True := eq_true (by decide)
theorem inR_99 : inR (99) = True := eq_true (by decide)
theorem inR_100 : inR (100) = True := eq_true (by decide)
theorem inR_101 : inR (101) = True := eq_true (by decide)
theorem inR_102 : inR (102) = True := eq_true (by decide)
theorem inR_103 : inR (103) = True := eq_true (by decide)
theorem inR_104 : inR (104) = True := eq_true (by decide)
theorem inR_105 : inR (105) = True := eq_true (by decide)
theorem inR_106 : inR (106) = True := eq_true (by decide)
theorem inR_107 : inR (107) = True := eq_true (by decide)
theorem inR_108 : inR (108) = True := eq_true (by decide)
theorem inR_109 : inR (109) = True := eq_true (by decide)
theorem inR_110 : inR (110) = True := eq_true (by decide)
theorem inR_111 : inR (111) = True := eq_true (by decide)
theorem inR_112 : inR (112) = True := eq_true (by decide)
theorem inR_113 : inR (113) = True := eq_true (by decide)
theorem inR_114 : inR (114) = True := eq_true (by decide)
theorem inR_115 : inR (115) = True := eq_true (by decide)
theorem inR_116 : inR (116) = True := eq_true (by decide)
theorem inR_117 : inR (117) = True := eq_true (by decide)
theorem inR_118 : inR (118) = True := eq_true (by decide)
theorem inR_119 : inR (119) = True := eq_true (by decide)
theorem inR_120 : inR (120) = True := eq_true (by decide)
theorem inR_121 : inR (121) = True := eq_true (by decide)
theorem inR_122 : inR (122) = True := eq_true (by decide)
theorem inR_123 : inR (123) = True := eq_true (by decide)
theorem inR_124 : inR (124) = True := eq_true (by decide)
theorem inR_125 : inR (125) = True := eq_true (by decide)
theorem inR_126 : inR (126) = True := eq_true (by decide)
theorem inR_127 : inR (127) = True := eq_true (by decide)
theorem inR_173 : inR (173) = True := eq_true (by decide)
theorem inR_200 : inR (200) = True := eq_true (by decide)
theorem inR_317 : inR (317) = True := eq_true (by decide)
theorem inR_9999 : inR (9999) = True := eq_true (by decide)
theorem inR_65521 : inR (65521) = True := eq_true (by decide)
theorem inR_1000000 : inR (1000000) = True := eq_true (by decide)
theorem inL_0 : inL (0) = True := eq_true (by decide)
theorem inL_1 : inL (1) = True := eq_true (by decide)
theorem inL_2 : inL (2) = True := eq_true (by decide)
theorem inL_3 : inL (3) = True := eq_true (by decide)
theorem inL_6 : inL (6) = True := eq_true (by decide)
theorem inL_7 : inL (7) = True := eq_true (by decide)
theorem inL_8 : inL (8) = True := eq_true (by decide)
theorem inL_20 : inL (20) = True := eq_true (by decide)
theorem inL_32 : inL (32) = True := eq_true (by decide)
theorem inL_40 : inL (40) = True := eq_true (by decide)
theorem inL_48 : inL (48) = True := eq_true (by decide)
theorem inL_57 : inL (57) = True := eq_true (by decide)
theorem inL_60 : inL (60) = True := eq_true (by decide)
theorem inL_80 : inL (80) = True := eq_true (by decide)
theorem inL_99 : inL (99) = True := eq_true (by decide)
theorem inL_126 : inL (126) = True := eq_true (by decide)
theorem inL_9999 : inL (9999) = True := eq_true (by decide)
