/-! the class: give, steal, turnRound -/
/-- T' differs from T in today's places and the first 29 alone -/
def TW (T T' : Nat → Int) (nb : Nat) : Prop := ix T' 0 = ix T 0 ∧ ∀ b d : Int, 0 ≤ b → b < nb → 0 ≤ d → d < 16 → ¬ d = ix T 0 % 16 → ix T' (29 + 16 * b + d) = ix T (29 + 16 * b + d) ∧ ix T' (173 + 16 * b + d) = ix T (173 + 16 * b + d)
theorem TW.r {T : Nat → Int} {nb : Nat} : TW T T nb := ⟨rfl, fun _ _ _ _ _ _ _ => ⟨rfl, rfl⟩⟩
theorem TW.t {T U V : Nat → Int} {nb : Nat} (h1 : TW T U nb) (h2 : TW U V nb) : TW T V nb := ⟨h2.1.trans h1.1, fun b d a1 a2 a3 a4 a5 => by
  have p := h1.2 b d a1 a2 a3 a4 a5
  have q := h2.2 b d a1 a2 a3 a4 (by rw [h1.1]; exact a5)
  exact ⟨q.1.trans p.1, q.2.trans p.2⟩⟩
theorem bset_c {f g : Int → Int} : ∀ n : Nat, (∀ b : Int, 0 ≤ b → b < n → f b = g b) → bset f n = bset g n
  | 0, _ => rfl
  | n + 1, h => by
    have ih := bset_c (f := f) (g := g) n (fun b h1 h2 => h b h1 (by omega))
    show zor _ (zshl (f n) n) = zor _ (zshl (g n) n)
    rw [ih, h n (by omega) (by omega)]
theorem SR.up {T T' : Nat → Int} {nb ng : Nat} {ga : Int} {bx lo pp ps pl bo bx' lo' pl' bo' : Nat → Int} (h : SR T nb ng ga bx lo pp ps pl bo) (hT : TW T T' nb) (h0 : 0 ≤ ix T 0) (hg : ∀ b : Int, 0 ≤ b → b < nb → ix T' (10 + b) = ix T (10 + b))
    (hbx : ∀ b : Int, 0 ≤ b → b < nb → ix bx' b = ix T' (29 + 16 * b + ix T 0 % 16) ∧ ix lo' b = ix T' (173 + 16 * b + ix T 0 % 16)) (hpl : ∀ i : Int, 0 ≤ i → i < ng → ix pl' i = wk (ix T' (19 + i)) ∧ ix bo' i = ix T' (24 + i)) : SR T' nb ng ga bx' lo' pp ps pl' bo' := by
  refine ⟨?_, fun b b0 b1 => ?_, hpl⟩
  · rw [h.1]; exact bset_c nb (fun b h1 h2 => (hg b h1 h2).symm)
  · rw [hT.1]
    refine ⟨(hbx b b0 b1).1, (hbx b b0 b1).2, fun t t0 t1 => ?_⟩
    have q := hT.2 b (t % 16) b0 b1 (by omega) (by omega) (by omega)
    rw [q.1, q.2]
    exact (h.2.1 b b0 b1).2.2 t t0 t1
theorem sh_TW {T T' c c' : Nat → Int} {nb : Nat} {b : Int} (hT : TW T T' nb) (h0 : 0 ≤ ix T 0) (hc : 1 ≤ c 13 ∧ c 13 ≤ 9) (h13 : c' 13 = c 13) (h14 : c' 14 = c 14) (hb : 0 ≤ b ∧ b < nb) : sh c' T' b = sh c T b ∧ pl c' T' b = pl c T b := by
  unfold pl sh
  rw [h13, h14, hT.1]
  have q := hT.2 b ((ix T 0 - c 13) % 16) hb.1 hb.2 (by omega) (by omega) (by omega)
  rw [rg_e (by omega), rg_e (by omega), q.1, q.2]
  exact ⟨rfl, rfl⟩
theorem LKD.up {T T' c c' sn pk : Nat → Int} {nb : Nat} {lk : Bool} (h : lk = true → LKD c T nb sn pk) (hT : TW T T' nb) (h0 : 0 ≤ ix T 0) (hc : 1 ≤ c 13 ∧ c 13 ≤ 9) (h13 : c' 13 = c 13) (h14 : c' 14 = c 14) : lk = true → LKD c' T' nb sn pk := fun e b b0 b1 => by
  have q := sh_TW hT h0 hc h13 h14 ⟨b0, b1⟩
  rw [q.1, q.2]
  exact h e b b0 b1
theorem ad_TW {T : Nat → Int} {nb : Nat} {b p : Int} (h0 : 0 ≤ ix T 0) (h9 : nb ≤ 9) (hb : 0 ≤ b ∧ b < nb) : TW T (adT T b p) nb := by
  refine ⟨ad_0 (by omega) h0 (by omega), fun a d a0 a1 d0 d1 hd => ?_⟩
  unfold adT
  rw [rg_e (by omega), ix_n (by omega) (by omega) (by omega), ix_n (by omega) (by omega) (by omega)]
  exact ⟨rfl, rfl⟩
theorem SR.ad {T : Nat → Int} {nb ng : Nat} {ga b p : Int} {bx lo pp ps pl bo : Nat → Int} (h : SR T nb ng ga bx lo pp ps pl bo) (h0 : 0 ≤ ix T 0) (h9 : nb ≤ 9) (h5 : ng ≤ 5) (hb : 0 ≤ b ∧ b < nb) : SR (adT T b p) nb ng ga (fz bx b (ix bx b + p)) lo pp ps pl bo := by
  refine h.up (ad_TW h0 h9 hb) h0 (fun a a0 a1 => ad_0 (by omega) h0 (by omega)) (fun a a0 a1 => ?_) (fun i i0 i1 => ?_)
  · have q := h.2.1 a a0 a1
    have q2 := h.2.1 b hb.1 hb.2
    unfold adT
    rw [rg_e (by omega), ix_z (by omega) (by omega), ix_z (by omega) (by omega), ix_n (by omega) (by omega) (by omega)]
    refine ⟨?_, q.2.1⟩
    by_cases e : a = b
    · subst e; rw [if_pos rfl, if_pos rfl, q.1]
    · rw [if_neg e, if_neg (by omega), q.1]
  · rw [ad_0 (by omega) h0 (by omega), ad_0 (by omega) h0 (by omega)]; exact h.2.2 i i0 i1
def CM (M0 M : Mem) (dl : Nat) (δ : Nat → Int) (nb ng : Nat) (lk : Bool) (s : PS) : Prop := CL M dl δ nb ng lk s ∧ FC M0 M
theorem CM.t {M N O : Mem} {dl nb ng : Nat} {δ : Nat → Int} {lk lk' : Bool} {s t : PS} (h1 : CM M N dl δ nb ng lk s) (h2 : CM N O dl δ nb ng lk' t) : CM M O dl δ nb ng lk' t := ⟨h2.1, h1.2.t h2.2⟩
set_option maxRecDepth 100000 in
theorem c_give {M : Mem} {dl nb ng : Nat} {δ : Nat → Int} {s : PS} {lk : Bool} {b p : Int} (hC : CL M dl δ nb ng lk s) (hdl : dl = 4 ∨ dl = 14) (h9 : nb ≤ 9) (h5 : ng ≤ 5) (hc : 1 ≤ s.1 13 ∧ s.1 13 ≤ 9) (h0 : 0 ≤ ix s.2 0) (hb : 0 ≤ b ∧ b < nb) :
    RetN 0 yX0_give cX0_give 3 0 [ar 31, ai b, ai p] M (fun r M' => r = none ∧ CM M M' dl δ nb ng lk (givF s b p)) := by
  obtain ⟨⟨h19, hDL⟩, ga, bx, lo, pp, ps, pl, bo, sn, pk, ⟨c1, c2, c3, c4, c5, c6, c7, c8, c9, c10⟩, hSR, hL⟩ := hC
  refine RetN.of (ls0 := [some (ar 31), some (ai b), some (ai p)]) pnX0 (Nat.le_of_ble_eq_true rfl) rfl ?_
  refine AM.go RX0 400 [] rfl ?_
  simp -implicitDefEqProofs (disch := omega) only [wp_0, wp_1, fv0, fv1, fv2, fv3, fw0, fw1, Nat.reduceAdd, Int.reduceNatCast', Int.cast_ofNat_Int, Int.reduceAdd, Int.reduceNeg, Int.reduceToNat, Int.reduceLE, Int.reduceLT, Int.reduceSub, Int.reduceMul, Int.reduceEq, Nat.reduceLeDiff, Nat.reduceEqDiff, List.contains_cons, List.contains_nil, Nat.reduceBEq, Bool.or_true, Bool.or_false, Bool.false_or, Bool.true_or, Bool.false_eq_true, reduceIte, Option.map_some, Option.toList_some, Option.toList_none, List.cons_append, List.nil_append, true_and, and_true, and_self, false_or, or_false, true_or, or_true, not_true_eq_false, not_false_eq_true, false_and, and_false, forall_const, true_implies, k_p_d, k_pi_d, k_pl_d, k_ls_d, k_sti_d, k_stl_d, k_sta_d, k_inc_d, k_add_d, k_sub_d, k_mul_d, k_div_d, k_rem_d, k_and_d, k_or_d, k_xor_d, k_shl_d, k_shr_d, k_ush_d, k_ladd_d, k_lmul_d, k_lrem_d, k_lcmp_d, k_i2l_d, k_l2i_d, k_dup_d, k_pop_d, k_dx1_d, k_d2_d, k_if_d, k_ic_d, k_j_d, k_ts_d, k_lk_d, k_g2_d, k_g1_d, k_g0_d, k_f3_d, k_f2_d, k_f1_d, k_f0_d, k_n1_d, k_n2_d, k_n3_d, k_n4_d, k_n0_d, k_a1_d, k_a2_d, k_a3_d, k_a4_d, k_a0_d, k_r1_d, k_r3_d, k_no_d, k_r0_d, k_s1_d, k_s0_d, k_z_d, exi_iconst, exi_bipush, exi_sipush, exi_lconst, exi_ldc, exi_ldc_w, exi_ldc2_w, exi_iload_n, exi_iload, exi_lload_n, exi_lload, exi_aload_n, exi_aload, exi_istore_n, exi_istore, exi_lstore_n, exi_lstore, exi_astore_n, exi_astore, exi_iinc, exi_iadd, exi_isub, exi_imul, exi_idiv, exi_irem, exi_iand, exi_ior, exi_ixor, exi_ishl, exi_ishr, exi_iushr, exi_ladd, exi_lmul, exi_lrem, exi_lcmp, exi_i2l, exi_l2i, exi_dup, exi_pop, exi_dup_x1, exi_dup2, exi_ifCond, exi_if_icmp, exi_goto, exi_tableswitch, exi_lookupswitch, exi_getfield, exi_putfield, exi_arraylength, exi_iaload, exi_aaload, exi_iastore, exi_ireturn, exi_return_, bco_t, bco_f, os_s, os_n, oo_s, e_i_c, e_ii_c, e_l_c, e_ll_c, e_r_c, e_rr_c, e_ir_c, e_iir_c, e_vr_c, e_1_c, e_2_c, c1_i, c1_r, e_z_c, e_n_c, nth_0, nth_s, nthV_0, nthV_s, setV_0, setV_s, ocons_s, clr_n, clr_i, clr_r, clr_l, stl_0, stl_1, stl_s, stl2_0, stl2_1, stl2_s, mO_d, mI_d, mR_d, mN_d, xO_s, xI_s, xR_s, xN_i, xN_r, ldI_s, ldL_s, ldA_r, ldA_b, ldZ_s, rsel_a, rsel_b, cnd_eq, cnd_ne, cnd_lt, cnd_ge, cnd_gt, cnd_le, jt_d, tsw_n, tsw_c, lsw_n, lsw_c, okT_i, okT_r, okT_n, f9_0, f9_1, f9_2, f9_9, sx0_d, fst_d, snd_d, inR_m5, inR_m4, inR_m3, inR_m2, inR_m1, inR_0, inR_1, inR_2, inR_3, inR_4, inR_5, inR_6, inR_7, inR_8, inR_9, inR_10, inR_11, inR_12, inR_13, inR_14, inR_15, inR_16, inR_17, inR_18, inR_19, inR_20, inR_21, inR_22, inR_23, inR_24, inR_25, inR_26, inR_27, inR_28, inR_29, inR_30, inR_31, inR_32, inR_33, inR_34, inR_35, inR_36, inR_37, inR_38, inR_39, inR_40, inR_41, inR_42, inR_43, inR_44, inR_45, inR_46, inR_47, inR_48, inR_49, inR_50, inR_51, inR_52, inR_53, inR_54, inR_55, inR_56, inR_57, inR_58, inR_59, inR_60, inR_61, inR_62, inR_63, inR_64, inR_65, inR_66, inR_67, inR_68, inR_69, inR_70, inR_71, inR_72, inR_73, inR_74, inR_75, inR_76, inR_77, inR_78, inR_79, inR_80, inR_81, inR_82, inR_83, inR_84, inR_85, inR_86, inR_87, inR_88, inR_89, inR_90, inR_91, inR_92, inR_93, inR_94, inR_95, inR_96, inR_97, inR_98, inR_99, inR_100, inR_101, inR_102, inR_103, inR_104, inR_105, inR_106, inR_107, inR_108, inR_109, inR_110, inR_111, inR_112, inR_113, inR_114, inR_115, inR_116, inR_117, inR_118, inR_119, inR_120, inR_121, inR_122, inR_123, inR_124, inR_125, inR_126, inR_127, inR_173, inR_200, inR_317, inR_9999, inR_65521, inR_1000000, inL_0, inL_1, inL_2, inL_3, inL_6, inL_7, inL_8, inL_20, inL_32, inL_40, inL_48, inL_57, inL_60, inL_80, inL_99, inL_126, inL_9999, wp_i, ↓reduceIte, R_bi, R_bp, R_and, R_or, R_shl, R_shr, bi_01e, bp_01e, zb_d, R_zb, bi_0, bp_0, mu_s, mu_o, dX0_give_0, dX0_give_1, gfX0_12, dX0_give_4, gfX0_107, dX0_give_7, dX0_give_8, dX0_give_9, dX0_give_10, dX0_give_11, dX0_give_12, dX0_give_13, dX0_give_14, dX0_give_15, gfX0_60, dX0_give_18, dX0_give_19, dX0_give_20, ft0_9, dX0_give_23, c1, cob, c2, sob, c3]
  (repeat' (first | with_reducible refine And.intro ?_ ?_ | (with_reducible refine imp_i ?_; intro _))) <;> try (first | with_reducible assumption | (exfalso; with_reducible assumption) | omega)
  have hF : FC M (mu (mu M 33 (ci_ 9 (fz bx b (ix bx b + p)))) 31 (cob dl (givF s b p).1)) := fun k a b c => by rw [mu_o (by omega), mu_o (by omega)]
  have e0 : ix (givF s b p).2 0 = ix s.2 0 := (ad_TW h0 h9 hb).1
  refine ⟨⟨⟨h19, hDL.fr hF hdl⟩, ga, fz bx b (ix bx b + p), lo, pp, ps, pl, bo, sn, pk, ⟨mu_s _ _ _, ?_, ?_, ?_, ?_, ?_, ?_, ?_, ?_, ?_⟩, hSR.ad h0 h9 h5 hb, LKD.up hL (ad_TW h0 h9 hb) h0 hc rfl rfl⟩, hF⟩
  · rw [mu_o (by omega), mu_o (by omega), e0]; exact c2
  · rw [mu_o (by omega), mu_s]
  all_goals rw [mu_o (by omega), mu_o (by omega)]; assumption
