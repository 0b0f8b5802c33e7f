/-! the reference: what changes the world -/
def s6 (G : GG) (k : Nat) (x : Int) : GG := gu G 6 (fu (G 6) k x)
theorem RC.up {M M' : Mem} {G G' : GG} {c c' : Nat → Int} (h : RC M G c) (e133 : M' 133 = some (mo c')) (hc : c' 3 = G' 6 0 ∧ c' 6 = G' 6 1 ∧ c' 8 = G' 6 2 ∧ c' 10 = G' 6 3) (e134 : M' 134 = some (ci_ 65 (G' 0))) (e136 : M' 136 = some (ci_ 200 (G' 5))) (e137 : M' 137 = some (ci_ 317 (G' 1))) (e138 : M' 138 = some (ci_ 2536 (G' 2))) (e139 : M' 139 = some (ci_ 634 (G' 3))) (e140 : M' 140 = some (ci_ 32 (G' 4))) (hF : ∀ k, k = 135 ∨ (141 ≤ k ∧ k ≤ 145) → M' k = M k) : RC M' G' c' := by
  obtain ⟨ρ, nu, f8, tr, se, th, a0, a1, a2, a3, a4, a5, a6, a7, a8, a9, a10, a11, a12, a13⟩ := h
  exact ⟨ρ, nu, f8, tr, se, th, e133, hc, e134, (hF _ (by omega)).trans a3, e136, e137, e138, e139, e140, (hF _ (by omega)).trans a9, (hF _ (by omega)).trans a10, (hF _ (by omega)).trans a11, (hF _ (by omega)).trans a12, (hF _ (by omega)).trans a13⟩
/-- only the object has changed -/
theorem RC.o {M M' : Mem} {G : GG} {c c' s : Nat → Int} (h : RC M G c) (e133 : M' 133 = some (mo c')) (hF : ∀ k, ¬ k = 133 → M' k = M k) (hc : c' 3 = s 0 ∧ c' 6 = s 1 ∧ c' 8 = s 2 ∧ c' 10 = s 3) : RC M' (gu G 6 s) c' := by
  have h' := h
  obtain ⟨ρ, nu, f8, tr, se, th, a0, a1, a2, a3, a4, a5, a6, a7, a8, a9, a10, a11, a12, a13⟩ := h
  exact RC.up h' e133 hc ((hF _ (by decide)).trans a2) ((hF _ (by decide)).trans a4) ((hF _ (by decide)).trans a5) ((hF _ (by decide)).trans a6) ((hF _ (by decide)).trans a7) ((hF _ (by decide)).trans a8) (fun k hk => hF k (by omega))
section RH
variable {M : Mem} {G : GG} {nb ng ni : Nat} {c : Nat → Int}
def aWipe (G : GG) (_ : Nat → Int) : Int := G 6 0
theorem R_wipe (h : RC M G c) : RetN 0 yX8_wipe cX8_wipe 2 1 [ar 133] M (RPost M (aWipe G) (fun _ => s6 G 0 0) c) := by
  have h' := h
  obtain ⟨ρ, nu, f8, tr, se, th, a0, a1, -⟩ := h
  refine (m_wipe a0).mono (fun r M' q => ⟨by rw [q.1, a1.1]; rfl, ⟨_, RC.o h' q.2.1 q.2.2 ⟨rfl, a1.2.1, a1.2.2.1, a1.2.2.2⟩⟩, fun k hk => q.2.2 k (by omega)⟩)
def aClose (G : GG) (_ : Nat → Int) : Int := G 6 3
theorem R_close (h : RC M G c) : RetN 0 yX8_close cX8_close 2 1 [ar 133] M (RPost M (aClose G) (fun _ => s6 G 3 0) c) := by
  have h' := h
  obtain ⟨ρ, nu, f8, tr, se, th, a0, a1, -⟩ := h
  refine (m_close a0).mono (fun r M' q => ⟨by rw [q.1, a1.2.2.2]; rfl, ⟨_, RC.o h' q.2.1 q.2.2 ⟨a1.1, a1.2.1, a1.2.2.1, rfl⟩⟩, fun k hk => q.2.2 k (by omega)⟩)
def aWrite (G : GG) (x : Int) (_ : Nat → Int) : Int := if ¬ (32 ≤ x ∧ x ≤ 126) then -1 else if G 6 0 = 200 then -3 else G 6 0 + 1
def sWrite (G : GG) (x : Int) (_ : Nat → Int) : GG := if (32 ≤ x ∧ x ≤ 126) ∧ ¬ G 6 0 = 200 then gu (s6 G 0 (G 6 0 + 1)) 5 (fz (G 5) (G 6 0) x) else G
theorem R_write {x : Int} (h : RC M G c) (hW : WI G nb ng ni) (hx : inR x) : RetN 1 yX8_write cX8_write 2 1 [ar 133, ai x] M (RPost M (aWrite G x) (sWrite G x) c) := by
  have h' := h
  have hs := hW.2.2.2.2.2
  obtain ⟨ρ, nu, f8, tr, se, th, a0, a1, a2, a3, a4, a5, a6, a7, a8, a9, a10, a11, a12, a13⟩ := h
  refine (m_write a0 a4 hx (by omega)).mono (fun r M' q => ?_)
  rcases q with ⟨q1, q2, q3⟩ | ⟨q1, q2, q3, q4⟩ | ⟨q1, q2, q3, q4, q5, q6⟩
  · subst q3
    refine ⟨by rw [q2]; unfold aWrite; rw [if_pos q1], ?_, fun _ _ => rfl⟩
    have : sWrite G x c = G := by unfold sWrite; rw [if_neg (fun hh => q1 hh.1)]
    rw [this]; exact ⟨c, h'⟩
  · subst q4
    refine ⟨by rw [q3]; unfold aWrite; rw [if_neg (fun hh => hh q1), if_pos (by omega)], ?_, fun _ _ => rfl⟩
    have : sWrite G x c = G := by unfold sWrite; rw [if_neg (by omega)]
    rw [this]; exact ⟨c, h'⟩
  · refine ⟨by rw [q3]; unfold aWrite; rw [if_neg (fun hh => hh q1), if_neg (by omega), a1.1], ?_, fun k hk => q6 k (by omega) (by omega)⟩
    have : sWrite G x c = gu (s6 G 0 (G 6 0 + 1)) 5 (fz (G 5) (G 6 0) x) := by unfold sWrite; rw [if_pos (by omega)]
    rw [this]
    rw [a1.1] at q4 q5
    exact ⟨_, RC.up h' q4 ⟨rfl, a1.2.1, a1.2.2.1, a1.2.2.2⟩ ((q6 _ (by decide) (by decide)).trans a2) q5 ((q6 _ (by decide) (by decide)).trans a5) ((q6 _ (by decide) (by decide)).trans a6) ((q6 _ (by decide) (by decide)).trans a7) ((q6 _ (by decide) (by decide)).trans a8) (fun k hk => q6 k (by omega) (by omega))⟩
def aUndo (G : GG) (_ : Nat → Int) : Int := if G 6 1 = 0 then -2 else G 6 1 - 1
def sUndo (G : GG) (_ : Nat → Int) : GG := if G 6 1 = 0 then G else gu (s6 G 1 (G 6 1 - 1)) 1 (sl (G 2) (G 6 1 - 1).toNat)
set_option maxRecDepth 100000 in
theorem R_undo (h : RC M G c) (hW : WI G nb ng ni) : RetN 1 yX8_undo cX8_undo 1 1 [ar 133] M (RPost M (aUndo G) (sUndo G) c) := by
  have h' := h
  have hu := hW.2.2.1
  obtain ⟨ρ, nu, f8, tr, se, th, a0, a1, a2, a3, a4, a5, a6, a7, a8, a9, a10, a11, a12, a13⟩ := h
  have e6 := a1.2.1
  refine RetN.of (ls0 := [some (ar 133)]) pnX8 (Nat.le_of_ble_eq_true rfl) rfl ?_
  refine AM.go RX8 400 [] rfl ?_
  simp -implicitDefEqProofs (disch := omega) only [wp_0, wp_1, fv0, fv1, fv2, fv3, fw0, fw1, Nat.reduceAdd, Int.reduceNatCast', Int.cast_ofNat_Int, Int.reduceAdd, Int.reduceNeg, Int.reduceToNat, Int.reduceLE, Int.reduceLT, Int.reduceSub, Int.reduceMul, Int.reduceEq, Nat.reduceLeDiff, Nat.reduceEqDiff, List.contains_cons, List.contains_nil, Nat.reduceBEq, Bool.or_true, Bool.or_false, Bool.false_or, Bool.true_or, Bool.false_eq_true, reduceIte, Option.map_some, Option.toList_some, Option.toList_none, List.cons_append, List.nil_append, true_and, and_true, and_self, false_or, or_false, true_or, or_true, not_true_eq_false, not_false_eq_true, false_and, and_false, forall_const, true_implies, k_p_d, k_pi_d, k_pl_d, k_ls_d, k_sti_d, k_stl_d, k_sta_d, k_inc_d, k_add_d, k_sub_d, k_mul_d, k_div_d, k_rem_d, k_and_d, k_or_d, k_xor_d, k_shl_d, k_shr_d, k_ush_d, k_ladd_d, k_lmul_d, k_lrem_d, k_lcmp_d, k_i2l_d, k_l2i_d, k_dup_d, k_pop_d, k_dx1_d, k_d2_d, k_if_d, k_ic_d, k_j_d, k_ts_d, k_lk_d, k_g2_d, k_g1_d, k_g0_d, k_f3_d, k_f2_d, k_f1_d, k_f0_d, k_n1_d, k_n2_d, k_n3_d, k_n4_d, k_n0_d, k_a1_d, k_a2_d, k_a3_d, k_a4_d, k_a0_d, k_r1_d, k_r3_d, k_no_d, k_r0_d, k_s1_d, k_s0_d, k_z_d, exi_iconst, exi_bipush, exi_sipush, exi_lconst, exi_ldc, exi_ldc_w, exi_ldc2_w, exi_iload_n, exi_iload, exi_lload_n, exi_lload, exi_aload_n, exi_aload, exi_istore_n, exi_istore, exi_lstore_n, exi_lstore, exi_astore_n, exi_astore, exi_iinc, exi_iadd, exi_isub, exi_imul, exi_idiv, exi_irem, exi_iand, exi_ior, exi_ixor, exi_ishl, exi_ishr, exi_iushr, exi_ladd, exi_lmul, exi_lrem, exi_lcmp, exi_i2l, exi_l2i, exi_dup, exi_pop, exi_dup_x1, exi_dup2, exi_ifCond, exi_if_icmp, exi_goto, exi_tableswitch, exi_lookupswitch, exi_getfield, exi_putfield, exi_arraylength, exi_iaload, exi_aaload, exi_iastore, exi_ireturn, exi_return_, bco_t, bco_f, os_s, os_n, oo_s, e_i_c, e_ii_c, e_l_c, e_ll_c, e_r_c, e_rr_c, e_ir_c, e_iir_c, e_vr_c, e_1_c, e_2_c, c1_i, c1_r, e_z_c, e_n_c, nth_0, nth_s, nthV_0, nthV_s, setV_0, setV_s, ocons_s, clr_n, clr_i, clr_r, clr_l, stl_0, stl_1, stl_s, stl2_0, stl2_1, stl2_s, mO_d, mI_d, mR_d, mN_d, xO_s, xI_s, xR_s, xN_i, xN_r, ldI_s, ldL_s, ldA_r, ldA_b, ldZ_s, rsel_a, rsel_b, cnd_eq, cnd_ne, cnd_lt, cnd_ge, cnd_gt, cnd_le, jt_d, tsw_n, tsw_c, lsw_n, lsw_c, okT_i, okT_r, okT_n, f9_0, f9_1, f9_2, f9_9, sx0_d, fst_d, snd_d, inR_m5, inR_m4, inR_m3, inR_m2, inR_m1, inR_0, inR_1, inR_2, inR_3, inR_4, inR_5, inR_6, inR_7, inR_8, inR_9, inR_10, inR_11, inR_12, inR_13, inR_14, inR_15, inR_16, inR_17, inR_18, inR_19, inR_20, inR_21, inR_22, inR_23, inR_24, inR_25, inR_26, inR_27, inR_28, inR_29, inR_30, inR_31, inR_32, inR_33, inR_34, inR_35, inR_36, inR_37, inR_38, inR_39, inR_40, inR_41, inR_42, inR_43, inR_44, inR_45, inR_46, inR_47, inR_48, inR_49, inR_50, inR_51, inR_52, inR_53, inR_54, inR_55, inR_56, inR_57, inR_58, inR_59, inR_60, inR_61, inR_62, inR_63, inR_64, inR_65, inR_66, inR_67, inR_68, inR_69, inR_70, inR_71, inR_72, inR_73, inR_74, inR_75, inR_76, inR_77, inR_78, inR_79, inR_80, inR_81, inR_82, inR_83, inR_84, inR_85, inR_86, inR_87, inR_88, inR_89, inR_90, inR_91, inR_92, inR_93, inR_94, inR_95, inR_96, inR_97, inR_98, inR_99, inR_100, inR_101, inR_102, inR_103, inR_104, inR_105, inR_106, inR_107, inR_108, inR_109, inR_110, inR_111, inR_112, inR_113, inR_114, inR_115, inR_116, inR_117, inR_118, inR_119, inR_120, inR_121, inR_122, inR_123, inR_124, inR_125, inR_126, inR_127, inR_173, inR_200, inR_317, inR_9999, inR_65521, inR_1000000, inL_0, inL_1, inL_2, inL_3, inL_6, inL_7, inL_8, inL_20, inL_32, inL_40, inL_48, inL_57, inL_60, inL_80, inL_99, inL_126, inL_9999, wp_i, ↓reduceIte, R_bi, R_bp, R_and, R_or, R_shl, R_shr, bi_01e, bp_01e, zb_d, R_zb, bi_0, bp_0, mu_s, mu_o, mu_mu, List.length_cons, List.length_nil, dX8_undo_0, dX8_undo_1, gfX8_116, dX8_undo_4, dX8_undo_7, dX8_undo_9, dX8_undo_10, dX8_undo_11, dX8_undo_12, dX8_undo_15, dX8_undo_16, dX8_undo_17, ft8_6, dX8_undo_20, dX8_undo_21, gfX8_22, dX8_undo_24, dX8_undo_27, dX8_undo_28, dX8_undo_31, dX8_undo_32, dX8_undo_33, gfX8_19, dX8_undo_36, dX8_undo_37, dX8_undo_40, dX8_undo_41, dX8_undo_44, a0, mo, e6]
  (repeat' (first | with_reducible refine And.intro ?_ ?_ | (with_reducible refine imp_i ?_; intro _))) <;> try (first | with_reducible assumption | (exfalso; with_reducible assumption) | omega)
  · rename_i w
    have eu : ((317 * (G 6 1 - 1).toNat : Nat) : Int) = 317 * (G 6 1 - 1) := by omega
    have m7 : mu M 133 (mo (fu c 6 (G 6 1 - 1))) 137 = some (ci_ 317 (G 1)) := (mu_o (by decide)).trans a5
    have m8 : mu M 133 (mo (fu c 6 (G 6 1 - 1))) 138 = some (ci_ 2536 (G 2)) := (mu_o (by decide)).trans a6
    have hc := m_copies (i := 317 * (G 6 1 - 1).toNat) (j := 0) m8 m7 (by decide) (by omega) (by omega) (by omega) (by omega)
    rw [eu] at hc
    have gk : mu M 133 (mo (fu c 6 (G 6 1 - 1))) = mu M 133 (co_ 8 [ar 134, ar 135, ar 136, ai (c 3), ar 137, ar 138, ai (G 6 1 - 1), ar 139, ai (c 8), ar 140, ai (c 10), ai (c 11), ar 141, ai (c 13), ai (c 14), ai (c 15), ai (c 16), ai (c 17), ai (c 18), ai (c 19), ai (c 20), ai (c 21), ai (c 22), ai (c 23), ar 142, ar 143, ar 144, ar 145]) := rfl
    rw [gk] at hc
    refine AM.S (hc) lkX8_215 dX8_undo_37 rfl (Nat.le_of_ble_eq_true rfl) ⟨(Nat.le_of_ble_eq_true rfl), (Nat.le_of_ble_eq_true rfl)⟩ (fun r_ M_ h_ => ?_)
    obtain ⟨rfl, q1, q2⟩ := h_
    have k3 : M_ 133 = some (mo (fu c 6 (G 6 1 - 1))) := (q2 133 (by decide)).trans (mu_s _ _ _)
    have hq : ∀ k, ¬ k = 133 → ¬ k = 137 → M_ k = M k := fun k a b => (q2 k b).trans (mu_o a)
    refine AM.eqv (eqM_mu (g := sl (G 2) (G 6 1 - 1).toNat) q1 (fun j hj => ?_)) ?_
    · simp only [cpy, sl]; rw [if_pos (by omega)]; congr 1
    · have k4 : mu M_ 137 (ci_ 317 (sl (G 2) (G 6 1 - 1).toNat)) 133 = some (mo (fu c 6 (G 6 1 - 1))) := (mu_o (by decide)).trans k3
      have kk := k3
      refine AM.go RX8 400 [] rfl ?_
      simp -implicitDefEqProofs (disch := omega) only [wp_0, wp_1, fv0, fv1, fv2, fv3, fw0, fw1, Nat.reduceAdd, Int.reduceNatCast', Int.cast_ofNat_Int, Int.reduceAdd, Int.reduceNeg, Int.reduceToNat, Int.reduceLE, Int.reduceLT, Int.reduceSub, Int.reduceMul, Int.reduceEq, Nat.reduceLeDiff, Nat.reduceEqDiff, List.contains_cons, List.contains_nil, Nat.reduceBEq, Bool.or_true, Bool.or_false, Bool.false_or, Bool.true_or, Bool.false_eq_true, reduceIte, Option.map_some, Option.toList_some, Option.toList_none, List.cons_append, List.nil_append, true_and, and_true, and_self, false_or, or_false, true_or, or_true, not_true_eq_false, not_false_eq_true, false_and, and_false, forall_const, true_implies, k_p_d, k_pi_d, k_pl_d, k_ls_d, k_sti_d, k_stl_d, k_sta_d, k_inc_d, k_add_d, k_sub_d, k_mul_d, k_div_d, k_rem_d, k_and_d, k_or_d, k_xor_d, k_shl_d, k_shr_d, k_ush_d, k_ladd_d, k_lmul_d, k_lrem_d, k_lcmp_d, k_i2l_d, k_l2i_d, k_dup_d, k_pop_d, k_dx1_d, k_d2_d, k_if_d, k_ic_d, k_j_d, k_ts_d, k_lk_d, k_g2_d, k_g1_d, k_g0_d, k_f3_d, k_f2_d, k_f1_d, k_f0_d, k_n1_d, k_n2_d, k_n3_d, k_n4_d, k_n0_d, k_a1_d, k_a2_d, k_a3_d, k_a4_d, k_a0_d, k_r1_d, k_r3_d, k_no_d, k_r0_d, k_s1_d, k_s0_d, k_z_d, exi_iconst, exi_bipush, exi_sipush, exi_lconst, exi_ldc, exi_ldc_w, exi_ldc2_w, exi_iload_n, exi_iload, exi_lload_n, exi_lload, exi_aload_n, exi_aload, exi_istore_n, exi_istore, exi_lstore_n, exi_lstore, exi_astore_n, exi_astore, exi_iinc, exi_iadd, exi_isub, exi_imul, exi_idiv, exi_irem, exi_iand, exi_ior, exi_ixor, exi_ishl, exi_ishr, exi_iushr, exi_ladd, exi_lmul, exi_lrem, exi_lcmp, exi_i2l, exi_l2i, exi_dup, exi_pop, exi_dup_x1, exi_dup2, exi_ifCond, exi_if_icmp, exi_goto, exi_tableswitch, exi_lookupswitch, exi_getfield, exi_putfield, exi_arraylength, exi_iaload, exi_aaload, exi_iastore, exi_ireturn, exi_return_, bco_t, bco_f, os_s, os_n, oo_s, e_i_c, e_ii_c, e_l_c, e_ll_c, e_r_c, e_rr_c, e_ir_c, e_iir_c, e_vr_c, e_1_c, e_2_c, c1_i, c1_r, e_z_c, e_n_c, nth_0, nth_s, nthV_0, nthV_s, setV_0, setV_s, ocons_s, clr_n, clr_i, clr_r, clr_l, stl_0, stl_1, stl_s, stl2_0, stl2_1, stl2_s, mO_d, mI_d, mR_d, mN_d, xO_s, xI_s, xR_s, xN_i, xN_r, ldI_s, ldL_s, ldA_r, ldA_b, ldZ_s, rsel_a, rsel_b, cnd_eq, cnd_ne, cnd_lt, cnd_ge, cnd_gt, cnd_le, jt_d, tsw_n, tsw_c, lsw_n, lsw_c, okT_i, okT_r, okT_n, f9_0, f9_1, f9_2, f9_9, sx0_d, fst_d, snd_d, inR_m5, inR_m4, inR_m3, inR_m2, inR_m1, inR_0, inR_1, inR_2, inR_3, inR_4, inR_5, inR_6, inR_7, inR_8, inR_9, inR_10, inR_11, inR_12, inR_13, inR_14, inR_15, inR_16, inR_17, inR_18, inR_19, inR_20, inR_21, inR_22, inR_23, inR_24, inR_25, inR_26, inR_27, inR_28, inR_29, inR_30, inR_31, inR_32, inR_33, inR_34, inR_35, inR_36, inR_37, inR_38, inR_39, inR_40, inR_41, inR_42, inR_43, inR_44, inR_45, inR_46, inR_47, inR_48, inR_49, inR_50, inR_51, inR_52, inR_53, inR_54, inR_55, inR_56, inR_57, inR_58, inR_59, inR_60, inR_61, inR_62, inR_63, inR_64, inR_65, inR_66, inR_67, inR_68, inR_69, inR_70, inR_71, inR_72, inR_73, inR_74, inR_75, inR_76, inR_77, inR_78, inR_79, inR_80, inR_81, inR_82, inR_83, inR_84, inR_85, inR_86, inR_87, inR_88, inR_89, inR_90, inR_91, inR_92, inR_93, inR_94, inR_95, inR_96, inR_97, inR_98, inR_99, inR_100, inR_101, inR_102, inR_103, inR_104, inR_105, inR_106, inR_107, inR_108, inR_109, inR_110, inR_111, inR_112, inR_113, inR_114, inR_115, inR_116, inR_117, inR_118, inR_119, inR_120, inR_121, inR_122, inR_123, inR_124, inR_125, inR_126, inR_127, inR_173, inR_200, inR_317, inR_9999, inR_65521, inR_1000000, inL_0, inL_1, inL_2, inL_3, inL_6, inL_7, inL_8, inL_20, inL_32, inL_40, inL_48, inL_57, inL_60, inL_80, inL_99, inL_126, inL_9999, wp_i, ↓reduceIte, R_bi, R_bp, R_and, R_or, R_shl, R_shr, bi_01e, bp_01e, zb_d, R_zb, bi_0, bp_0, mu_s, mu_o, mu_mu, List.length_cons, List.length_nil, dX8_undo_0, dX8_undo_1, gfX8_116, dX8_undo_4, dX8_undo_7, dX8_undo_9, dX8_undo_10, dX8_undo_11, dX8_undo_12, dX8_undo_15, dX8_undo_16, dX8_undo_17, ft8_6, dX8_undo_20, dX8_undo_21, gfX8_22, dX8_undo_24, dX8_undo_27, dX8_undo_28, dX8_undo_31, dX8_undo_32, dX8_undo_33, gfX8_19, dX8_undo_36, dX8_undo_37, dX8_undo_40, dX8_undo_41, dX8_undo_44, kk, mo]
      refine ⟨by show _ = some (ai (aUndo G c)); unfold aUndo; rw [if_neg w]; rfl, ?_, fun k hk => by rw [mu_o (by omega)]; exact hq k (by omega) (by omega)⟩
      have : sUndo G c = gu (s6 G 1 (G 6 1 - 1)) 1 (sl (G 2) (G 6 1 - 1).toNat) := by unfold sUndo; rw [if_neg w]
      rw [this]
      refine ⟨_, RC.up h' k4 ⟨a1.1, rfl, a1.2.2.1, a1.2.2.2⟩ ?_ ?_ (mu_s _ _ _) ?_ ?_ ?_ (fun k hk => by rw [mu_o (by omega)]; exact hq k (by omega) (by omega))⟩
      · rw [mu_o (by decide), hq _ (by decide) (by decide)]; exact a2
      · rw [mu_o (by decide), hq _ (by decide) (by decide)]; exact a4
      · rw [mu_o (by decide), hq _ (by decide) (by decide)]; exact a6
      · rw [mu_o (by decide), hq _ (by decide) (by decide)]; exact a7
      · rw [mu_o (by decide), hq _ (by decide) (by decide)]; exact a8
  · rename_i w
    refine ⟨by show _ = some (ai (aUndo G c)); unfold aUndo; rw [if_pos (by omega)], ?_, fun _ _ => rfl⟩
    have : sUndo G c = G := by unfold sUndo; rw [if_pos (by omega)]
    rw [this]; exact ⟨c, h'⟩
end RH
