/-! exi and wp are sound -/
theorem ldZ_x {v : Option AV} {f : Int → Prop} (h : ldZ v f) : ∃ x, v = some (.inl x) ∧ f x := by
  unfold ldZ at h; split at h
  · exact ⟨_, rfl, h⟩
  · exact h.elim
theorem rsel_x {r : Option Nat ⊕ Nat} {f g : Nat → Prop} (h : rsel r f g) : (∃ a, r = .inl (some a) ∧ f a) ∨ ∃ b, r = .inr b ∧ g b := by
  unfold rsel at h; split at h
  · exact Or.inl ⟨_, rfl, h⟩
  · exact Or.inr ⟨_, rfl, h⟩
  · exact h.elim
theorem e_z_x {st : List AV} {f : Int → Prop} (h : e_z st f) : ∃ z, st = [.inl z] ∧ f z := by
  unfold e_z at h; split at h
  · exact ⟨_, rfl, h⟩
  · exact h.elim
theorem e_n_x {st : List AV} {f : Prop} (h : e_n st f) : st = [] ∧ f := by
  unfold e_n at h; split at h
  · exact ⟨rfl, h⟩
  · exact h.elim
theorem f9_x {f : Nat} {S T : Prop} (h : f9 f S T) : S ∨ (¬ f = 9 ∧ T) := by
  unfold f9 at h; split at h
  · exact Or.inr ⟨by omega, h⟩
  · exact Or.inr ⟨by omega, h⟩
  · exact Or.inr ⟨by omega, h⟩
  · exact Or.inl h
section AWe
variable {R : Room} {y : MethodName} {cc : ByteArray} {nL : Nat} {ret : Option FieldType} {X : Nat → State → Prop} {E : ETy} {cells slots nx pc : Nat} {ls ls' : List (Option AV)} {st t : List AV} {M : Mem}
def endOk (R : Room) (y : MethodName) (cc : ByteArray) (nL : Nat) (ret : Option FieldType) (X : Nat → State → Prop) (E : ETy) (cells slots nx bz : Nat) (Rt : Option AV → Mem → Prop) : Prop :=
  (∀ (pc : Nat) (ls : List (Option AV)) (z : Int) (M : Mem), decode cc pc = .ok (.ireturn, 1) → (bz = 1 ∨ (bz = 2 ∧ (z = 0 ∨ z = 1))) → Rt (some (.inl z)) M → AW R y cc nL ret X E cells slots nx pc ls [.inl z] M) ∧
  ∀ (pc : Nat) (ls : List (Option AV)) (M : Mem), decode cc pc = .ok (.return_, 1) → bz = 0 → Rt none M → AW R y cc nL ret X E cells slots nx pc ls [] M
theorem exi_sound {own : String} {bz : Nat} {sx : Nat → Option (Nat × (Nat → Int))} {Rt : Option AV → Mem → Prop} (ho : own = y.cls) (hsx : sxOk X sx) (hE : endOk R y cc nL ret X E cells slots nx bz Rt) {i : Instr} (hf : fet cc pc = some i) {K : ATy} (hK : ∀ pc ls st M, K pc ls st M → AW R y cc nL ret X E cells slots nx pc ls st M) {S : Prop} (hSS : S → AW R y cc nL ret X E cells slots nx pc ls st M)
    (h : exi own bz sx S pc ls st M K Rt i) : AW R y cc nL ret X E cells slots nx pc ls st M := by
  subst ho
  obtain ⟨n, hd, hl⟩ := fet_d hf
  cases i
  case iconst q => simp only [lenOk, beq_iff_eq] at hl; subst hl; exact aw_iconst hd (hK _ _ _ _ h)
  case bipush q => simp only [lenOk, beq_iff_eq] at hl; subst hl; exact aw_bipush h.1 hd (hK _ _ _ _ h.2)
  case sipush q => simp only [lenOk, beq_iff_eq] at hl; subst hl; exact aw_sipush h.1 hd (hK _ _ _ _ h.2)
  case lconst q => simp only [lenOk, beq_iff_eq] at hl; subst hl; exact aw_lconst hd (hK _ _ _ _ h)
  case ldc k =>
    simp only [lenOk, beq_iff_eq] at hl; subst hl
    rcases os_x h with h | ⟨z, hz, h⟩
    · exact hSS h
    · exact aw_ldc hz hd (hK _ _ _ _ h)
  case ldc_w k =>
    simp only [lenOk, beq_iff_eq] at hl; subst hl
    rcases os_x h with h | ⟨z, hz, h⟩
    · exact hSS h
    · exact aw_ldcw hz hd (hK _ _ _ _ h)
  case ldc2_w k =>
    simp only [lenOk, beq_iff_eq] at hl; subst hl
    rcases os_x h with h | ⟨z, hz, h⟩
    · exact hSS h
    · exact aw_ldc2 hz hd (hK _ _ _ _ h)
  case iload_n k => simp only [lenOk, beq_iff_eq] at hl; subst hl; have h : ldI (nth ls k.val) (k_p K (pc + 1) ls st M) := h; obtain ⟨x, hx, h⟩ := ldI_x h; exact aw_iload_n hx hd (hK _ _ _ _ h)
  case iload k => simp only [lenOk, beq_iff_eq] at hl; subst hl; have h : ldI (nth ls k) (k_p K (pc + 2) ls st M) := h; obtain ⟨x, hx, h⟩ := ldI_x h; exact aw_iload hx hd (hK _ _ _ _ h)
  case lload_n k => simp only [lenOk, beq_iff_eq] at hl; subst hl; have h : ldL (nth ls k.val) (k_p K (pc + 1) ls st M) := h; obtain ⟨x, hx, h⟩ := ldL_x h; exact aw_lload_n hx hd (hK _ _ _ _ h)
  case lload k => simp only [lenOk, beq_iff_eq] at hl; subst hl; have h : ldL (nth ls k) (k_p K (pc + 2) ls st M) := h; obtain ⟨x, hx, h⟩ := ldL_x h; exact aw_lload hx hd (hK _ _ _ _ h)
  case aload_n k => simp only [lenOk, beq_iff_eq] at hl; subst hl; have h : ldA (nth ls k.val) (k_p K (pc + 1) ls st M) := h; obtain ⟨x, hx, hv, h⟩ := ldA_x h; exact aw_aload_n hx hv hd (hK _ _ _ _ h)
  case aload k => simp only [lenOk, beq_iff_eq] at hl; subst hl; have h : ldA (nth ls k) (k_p K (pc + 2) ls st M) := h; obtain ⟨x, hx, hv, h⟩ := ldA_x h; exact aw_aload hx hv hd (hK _ _ _ _ h)
  case istore_n k => simp only [lenOk, beq_iff_eq] at hl; subst hl; obtain ⟨x, t, rfl, h⟩ := e_i_x h; obtain ⟨l2, h2, h⟩ := oo_x h; exact aw_istore_n h2 hd (hK _ _ _ _ h)
  case istore k => simp only [lenOk, beq_iff_eq] at hl; subst hl; obtain ⟨x, t, rfl, h⟩ := e_i_x h; obtain ⟨l2, h2, h⟩ := oo_x h; exact aw_istore h2 hd (hK _ _ _ _ h)
  case lstore_n k => simp only [lenOk, beq_iff_eq] at hl; subst hl; obtain ⟨x, t, rfl, h⟩ := e_l_x h; obtain ⟨l2, h2, h⟩ := oo_x h; exact aw_lstore_n h2 hd (hK _ _ _ _ h)
  case lstore k => simp only [lenOk, beq_iff_eq] at hl; subst hl; obtain ⟨x, t, rfl, h⟩ := e_l_x h; obtain ⟨l2, h2, h⟩ := oo_x h; exact aw_lstore h2 hd (hK _ _ _ _ h)
  case astore_n k => simp only [lenOk, beq_iff_eq] at hl; subst hl; obtain ⟨x, t, rfl, h⟩ := e_r_x h; obtain ⟨l2, h2, h⟩ := oo_x h; exact aw_astore_n h2 hd (hK _ _ _ _ h)
  case astore k => simp only [lenOk, beq_iff_eq] at hl; subst hl; obtain ⟨x, t, rfl, h⟩ := e_r_x h; obtain ⟨l2, h2, h⟩ := oo_x h; exact aw_astore h2 hd (hK _ _ _ _ h)
  case iinc k q =>
    simp only [lenOk, beq_iff_eq] at hl; subst hl
    obtain ⟨x, e1, h⟩ := ldZ_x h
    obtain ⟨l2, h2, h⟩ := oo_x h
    exact aw_iinc e1 h2 hd (hK _ _ _ _ h)
  case iadd => simp only [lenOk, beq_iff_eq] at hl; subst hl; obtain ⟨x, z, t, rfl, h⟩ := e_ii_x h; exact aw_iadd hd (hK _ _ _ _ h)
  case isub => simp only [lenOk, beq_iff_eq] at hl; subst hl; obtain ⟨x, z, t, rfl, h⟩ := e_ii_x h; exact aw_isub hd (hK _ _ _ _ h)
  case imul => simp only [lenOk, beq_iff_eq] at hl; subst hl; obtain ⟨x, z, t, rfl, h⟩ := e_ii_x h; exact aw_imul hd (hK _ _ _ _ h)
  case idiv => simp only [lenOk, beq_iff_eq] at hl; subst hl; obtain ⟨x, z, t, rfl, h1, h⟩ := e_ii_x h; exact aw_idiv h1 hd (hK _ _ _ _ h)
  case irem => simp only [lenOk, beq_iff_eq] at hl; subst hl; obtain ⟨x, z, t, rfl, h1, h⟩ := e_ii_x h; exact aw_irem h1 hd (hK _ _ _ _ h)
  case iand => simp only [lenOk, beq_iff_eq] at hl; subst hl; obtain ⟨x, z, t, rfl, h⟩ := e_ii_x h; exact aw_iand hd (hK _ _ _ _ h)
  case ior => simp only [lenOk, beq_iff_eq] at hl; subst hl; obtain ⟨x, z, t, rfl, h⟩ := e_ii_x h; exact aw_ior hd (hK _ _ _ _ h)
  case ixor => simp only [lenOk, beq_iff_eq] at hl; subst hl; obtain ⟨x, z, t, rfl, h⟩ := e_ii_x h; exact aw_ixor hd (hK _ _ _ _ h)
  case ishl => simp only [lenOk, beq_iff_eq] at hl; subst hl; obtain ⟨x, z, t, rfl, h⟩ := e_ii_x h; exact aw_ishl hd (hK _ _ _ _ h)
  case ishr => simp only [lenOk, beq_iff_eq] at hl; subst hl; obtain ⟨x, z, t, rfl, h⟩ := e_ii_x h; exact aw_ishr hd (hK _ _ _ _ h)
  case iushr => simp only [lenOk, beq_iff_eq] at hl; subst hl; obtain ⟨x, z, t, rfl, h⟩ := e_ii_x h; exact aw_iushr hd (hK _ _ _ _ h)
  case ladd => simp only [lenOk, beq_iff_eq] at hl; subst hl; obtain ⟨x, z, t, rfl, h⟩ := e_ll_x h; exact aw_ladd hd (hK _ _ _ _ h)
  case lmul => simp only [lenOk, beq_iff_eq] at hl; subst hl; obtain ⟨x, z, t, rfl, h⟩ := e_ll_x h; exact aw_lmul hd (hK _ _ _ _ h)
  case lrem => simp only [lenOk, beq_iff_eq] at hl; subst hl; obtain ⟨x, z, t, rfl, h1, h⟩ := e_ll_x h; exact aw_lrem h1 hd (hK _ _ _ _ h)
  case lcmp => simp only [lenOk, beq_iff_eq] at hl; subst hl; obtain ⟨x, z, t, rfl, h1, h⟩ := e_ll_x h; exact aw_lcmp h1 hd (hK _ _ _ _ h)
  case i2l => simp only [lenOk, beq_iff_eq] at hl; subst hl; obtain ⟨x, t, rfl, h1, h⟩ := e_i_x h; exact aw_i2l h1 hd (hK _ _ _ _ h)
  case l2i => simp only [lenOk, beq_iff_eq] at hl; subst hl; obtain ⟨x, t, rfl, h⟩ := e_l_x h; exact aw_l2i hd (hK _ _ _ _ h)
  case dup => simp only [lenOk, beq_iff_eq] at hl; subst hl; obtain ⟨v, t, rfl, h1, h⟩ := e_1_x h; exact aw_dup h1 hd (hK _ _ _ _ h)
  case pop => simp only [lenOk, beq_iff_eq] at hl; subst hl; obtain ⟨v, t, rfl, h1, h⟩ := e_1_x h; exact aw_pop h1 hd (hK _ _ _ _ h)
  case dup_x1 => simp only [lenOk, beq_iff_eq] at hl; subst hl; obtain ⟨v, w, t, rfl, h1, h2, h⟩ := e_2_x h; exact aw_dup_x1 h1 h2 hd (hK _ _ _ _ h)
  case dup2 => simp only [lenOk, beq_iff_eq] at hl; subst hl; obtain ⟨v, w, t, rfl, h1, h2, h⟩ := e_2_x h; exact aw_dup2 h1 h2 hd (hK _ _ _ _ h)
  case ifCond cd off => simp only [lenOk, Bool.and_eq_true, beq_iff_eq, decide_eq_true_eq] at hl; obtain ⟨rfl, ho⟩ := hl; obtain ⟨x, t, rfl, h1, h2, h3⟩ := e_i_x h; exact aw_if h1 ho hd (fun q => hK _ _ _ _ (h2 q)) (fun q => hK _ _ _ _ (h3 q))
  case if_icmp cd off => simp only [lenOk, Bool.and_eq_true, beq_iff_eq, decide_eq_true_eq] at hl; obtain ⟨rfl, ho⟩ := hl; obtain ⟨x, z, t, rfl, h1, h2, h3⟩ := e_ii_x h; exact aw_icmp h1.1 h1.2 ho hd (fun q => hK _ _ _ _ (h2 q)) (fun q => hK _ _ _ _ (h3 q))
  case goto off => simp only [lenOk, Bool.and_eq_true, beq_iff_eq, decide_eq_true_eq] at hl; obtain ⟨rfl, ho⟩ := hl; exact aw_goto ho hd (hK _ _ _ _ h)
  case tableswitch d lo hi offs =>
    obtain ⟨x, t, rfl, h1, h2, h3⟩ := e_i_x h
    refine aw_tsw h1.1 h1.2 hl hd (fun q => hK _ _ _ _ (h2 q)) ?_
    have key : ∀ (os : List Int) (k : Int), tsw x (k_j K ls M t) pc os k → tsw x (fun q => AW R y cc nL ret X E cells slots nx q ls t M) pc os k := by
      intro os
      induction os with
      | nil => intro k _; trivial
      | cons o r ih => intro k g; exact ⟨fun e => hK _ _ _ _ (g.1 e), ih _ g.2⟩
    exact key _ _ h3
  case lookupswitch d ps =>
    obtain ⟨x, t, rfl, h1, h2⟩ := e_i_x h
    refine aw_lsw h1.1 h1.2 hl hd ?_
    have key : ∀ (os : List (Int × Int)), lsw x (k_j K ls M t) pc d os → lsw x (fun q => AW R y cc nL ret X E cells slots nx q ls t M) pc d os := by
      intro os
      induction os with
      | nil => intro g; exact hK _ _ _ _ g
      | cons o r ih => intro g; exact ⟨fun e => hK _ _ _ _ (g.1 e), fun e => ih (g.2 e)⟩
    exact key _ h2
  case getfield k =>
    simp only [lenOk, beq_iff_eq] at hl; subst hl
    rcases os_x h with h | ⟨⟨c, j⟩, hz, h⟩
    · exact hSS h
    · obtain ⟨a, t, rfl, h⟩ := e_r_x h
      obtain ⟨fs, ha, h⟩ := mO_x h
      obtain ⟨v, hv, h⟩ := oo_x h
      exact aw_getfield hz ha hv hd (hK _ _ _ _ h)
  case putfield k =>
    simp only [lenOk, beq_iff_eq] at hl; subst hl
    rcases os_x h with h | ⟨⟨c, j⟩, hz, h⟩
    · exact hSS h
    · rcases f9_x h with h | ⟨h9, h⟩
      · exact hSS h
      · obtain ⟨a, v, t, rfl, h0, h⟩ := e_vr_x h
        obtain ⟨fs, ha, h⟩ := mO_x h
        obtain ⟨v2, hv, h⟩ := oo_x h
        exact aw_putfield hz h9 h0 ha hv hd (hK _ _ _ _ h)
  case arraylength =>
    simp only [lenOk, beq_iff_eq] at hl; subst hl
    obtain ⟨r, t, rfl, h⟩ := e_rr_x h
    rcases rsel_x h with ⟨a, rfl, h⟩ | ⟨b, rfl, h⟩
    · obtain ⟨q, ha, h⟩ := mN_x h; exact aw_alen ha hd (hK _ _ _ _ h)
    · rcases os_x h with h | ⟨⟨q, f⟩, hz, h⟩
      · exact hSS h
      · exact aw_xlen hsx hz hd (hK _ _ _ _ h)
  case iaload =>
    simp only [lenOk, beq_iff_eq] at hl; subst hl
    obtain ⟨r, i, t, rfl, h⟩ := e_ir_x h
    rcases rsel_x h with ⟨a, rfl, h⟩ | ⟨b, rfl, h⟩
    · obtain ⟨q, f, ha, h1, h⟩ := mI_x h; exact aw_iaload ha h1 hd (hK _ _ _ _ h)
    · rcases os_x h with h | ⟨⟨q, f⟩, hz, h1, h⟩
      · exact hSS h
      · exact aw_xald hsx hz h1 hd (hK _ _ _ _ h)
  case aaload =>
    simp only [lenOk, beq_iff_eq] at hl; subst hl
    obtain ⟨r, i, t, rfl, h⟩ := e_ir_x h
    rcases rsel_x h with ⟨a, rfl, h⟩ | ⟨b, rfl, h⟩
    · obtain ⟨q, f, ha, h1, h⟩ := mR_x h; exact aw_aaload ha h1 hd (hK _ _ _ _ h)
    · exact h.elim
  case iastore =>
    simp only [lenOk, beq_iff_eq] at hl; subst hl
    obtain ⟨a, i, x, t, rfl, h⟩ := e_iir_x h
    obtain ⟨q, f, ha, h1, h⟩ := mI_x h
    exact aw_iastore ha h1 hd (hK _ _ _ _ h)
  case ireturn =>
    simp only [lenOk, beq_iff_eq] at hl; subst hl
    obtain ⟨z, rfl, h⟩ := e_z_x h
    exact hE.1 pc ls z M hd h.1 h.2
  case return_ =>
    simp only [lenOk, beq_iff_eq] at hl; subst hl
    obtain ⟨rfl, h⟩ := e_n_x h
    exact hE.2 pc ls M hd h.1 h.2
  all_goals exact hSS h
theorem wp_sound {own : String} {bz : Nat} {sx : Nat → Option (Nat × (Nat → Int))} {Rt : Option AV → Mem → Prop} (ho : own = y.cls) (hsx : sxOk X sx) (hE : endOk R y cc nL ret X E cells slots nx bz Rt) {A : ATy} (hA : ∀ pc ls st M, A pc ls st M → AW R y cc nL ret X E cells slots nx pc ls st M) {stops : List Nat} : ∀ (n pc : Nat) (ls : List (Option AV)) (st : List AV) (M : Mem), wp own bz sx A Rt cc stops n pc ls st M → AW R y cc nL ret X E cells slots nx pc ls st M
  | 0, _, _, _, _, h => hA _ _ _ _ h
  | n + 1, pc, ls, st, M, h => by
    unfold wp at h
    split at h
    · exact hA _ _ _ _ h
    · split at h
      · rename_i i hf
        exact exi_sound ho hsx hE hf (fun pc ls st M k => wp_sound ho hsx hE hA n pc ls st M k) (hA _ _ _ _) h
      · exact hA _ _ _ _ h
theorem wp1_sound {own : String} {bz : Nat} {sx : Nat → Option (Nat × (Nat → Int))} {Rt : Option AV → Mem → Prop} (ho : own = y.cls) (hsx : sxOk X sx) (hE : endOk R y cc nL ret X E cells slots nx bz Rt) {A : ATy} (hA : ∀ pc ls st M, A pc ls st M → AW R y cc nL ret X E cells slots nx pc ls st M) {stops : List Nat} {n pc : Nat} {ls : List (Option AV)} {st : List AV} {M : Mem} (h : wp1 own bz sx A Rt cc stops n pc ls st M) : AW R y cc nL ret X E cells slots nx pc ls st M := by
  unfold wp1 at h
  split at h
  · rename_i i hf
    exact exi_sound ho hsx hE hf (fun pc ls st M k => wp_sound ho hsx hE hA n pc ls st M k) (hA _ _ _ _) h
  · exact hA _ _ _ _ h
end AWe
