/-! the class: steal, turnRound -/
theorem zt_shl0 {b : Int} {i : Nat} (hb : 0 ≤ b ∧ b < 32) (hi : i < 32) : zt (zshl 0 b) i = false := by rw [zt_shl hb hi, zt_0, Bool.and_false]
theorem bset_b {f : Int → Int} {b : Int} (hb : 0 ≤ b ∧ b < 32) : ∀ n : Nat, n ≤ 32 → (∀ a : Int, 0 ≤ a → a < n → f a = 0 ∨ f a = 1) → (zb (bset f n) b = 1 ↔ b < n ∧ f b = 1)
  | 0, _, _ => by
    constructor
    · intro h; exact absurd h (zb_00 hb)
    · intro h; omega
  | n + 1, hn, hf => by
    have ih := bset_b (f := f) hb n (by omega) (fun a h1 h2 => hf a h1 (by omega))
    have hfn := hf n (by omega) (by omega)
    show zb (zor (bset f n) (zshl (f n) n)) b = 1 ↔ _
    rw [zb_or hb, ih]
    have h2 : zb (zshl (f n) n) b = 1 ↔ (b = n ∧ f n = 1) := by
      rcases hfn with h | h
      · rw [h, zb_1 hb, zt_shl0 (by omega) (by omega)]; simp
      · rw [h, zb_shl (by omega) hb]; simp
    rw [h2]
    constructor
    · rintro (h | ⟨h, h3⟩)
      · exact ⟨by omega, h.2⟩
      · subst h; exact ⟨by omega, h3⟩
    · rintro ⟨h1, h3⟩
      by_cases e : b = (n : Int)
      · subst e; exact Or.inr ⟨rfl, h3⟩
      · exact Or.inl ⟨by omega, h3⟩
theorem SR.gb {T : Nat → Int} {nb ng : Nat} {ga b : Int} {bx lo pp ps pl bo : Nat → Int} (h : SR T nb ng ga bx lo pp ps pl bo) (h9 : nb ≤ 9) (hb : 0 ≤ b ∧ b < nb) (hf : ∀ a : Int, 0 ≤ a → a < nb → ix T (10 + a) = 0 ∨ ix T (10 + a) = 1) : zb ga b = ix T (10 + b) := by
  have q := bset_b (f := fun b => ix T (10 + b)) (b := b) (by omega) nb (by omega) hf
  rw [← h.1] at q
  have q2 := zb_01 (x := ga) (b := b) (by omega)
  have q3 := hf b hb.1 hb.2
  by_cases e : zb ga b = 1
  · have q4 : ix T (10 + b) = 1 := (q.mp e).2
    omega
  · have : ¬ ix T (10 + b) = 1 := fun hh => e (q.mpr ⟨hb.2, hh⟩)
    omega
theorem st_TW {T : Nat → Int} {nb : Nat} {b x : Int} (h0 : 0 ≤ ix T 0) (h9 : nb ≤ 9) (hb : 0 ≤ b ∧ b < nb) : TW T (fz T (rg 173 b (ix T 0)) x) nb := by
  have r := rg173 (b := b) (t := ix T 0) (by omega) (by omega)
  refine ⟨ix_n (by omega) (by omega) (by omega), fun a d a0 a1 d0 d1 hd => ?_⟩
  rw [rg_e (by omega), ix_n (by omega) (by omega) (by omega), ix_n (by omega) (by omega) (by omega)]
  exact ⟨rfl, rfl⟩
theorem SR.st {T : Nat → Int} {nb ng : Nat} {ga b x : Int} {bx lo pp ps pl bo : Nat → Int} (h : SR T nb ng ga bx lo pp ps pl bo) (h0 : 0 ≤ ix T 0) (h9 : nb ≤ 9) (h5 : ng ≤ 5) (hb : 0 ≤ b ∧ b < nb) : SR (fz T (rg 173 b (ix T 0)) x) nb ng ga bx (fz lo b x) pp ps pl bo := by
  have r := rg173 (b := b) (t := ix T 0) (by omega) (by omega)
  refine h.up (st_TW h0 h9 hb) h0 (fun a a0 a1 => ix_n (by omega) (by omega) (by omega)) (fun a a0 a1 => ?_) (fun i i0 i1 => ?_)
  · have q := h.2.1 a a0 a1
    rw [rg_e (by omega), ix_z (by omega) (by omega : (0 : Int) ≤ 173 + 16 * a + ix T 0 % 16), ix_z (by omega) a0, ix_n (by omega) (by omega) (by omega)]
    refine ⟨q.1, ?_⟩
    by_cases e : a = b
    · subst e; rw [if_pos rfl, if_pos rfl]
    · rw [if_neg e, if_neg (by omega), q.2.1]
  · rw [ix_n (by omega) (by omega) (by omega), ix_n (by omega) (by omega) (by omega)]; exact h.2.2 i i0 i1
set_option maxRecDepth 100000 in
theorem c_steal {M : Mem} {dl nb ng ni : Nat} {δ : Nat → Int} {s : PS} {lk : Bool} {b p v ex : Int} (hC : CL M dl δ nb ng lk s) (hdl : dl = 4 ∨ dl = 14) (h9 : nb ≤ 9) (h5 : ng ≤ 5) (hc : 1 ≤ s.1 13 ∧ s.1 13 ≤ 9) (hS : GX δ s.2 nb ng ni v ex) (hb : 0 ≤ b ∧ b < nb) (hp : inR p) :
    RetN 0 yX0_steal cX0_steal 5 0 [ar 31, ai b, ai p] M (fun r M' => r = none ∧ CM M M' dl δ nb ng lk (stlF s b p)) := by
  have hC' := hC
  obtain ⟨⟨h19, hDL⟩, ga, bx, lo, pp, ps, pl, bo, sn, pk, ⟨c1, c2, c3, c4, c5, c6, c7, c8, c9, c10⟩, hSR, hL⟩ := hC
  have h0 := hS.1
  have hgb := hSR.gb h9 hb (fun a h1 h2 => (hS.2.1 a h1 h2).1)
  have hgg := (hS.2.1 b hb.1 hb.2).1
  have hq := hSR.2.1 b hb.1 hb.2
  have hx := hq.1
  have hy := hq.2.1
  have hd := (hS.2.1 b hb.1 hb.2).2.2 (ix s.2 0 % 16) (by omega) (by omega)
  generalize hQQ : (fun (r : Option AV) (M' : Mem) => r = none ∧ CM M M' dl δ nb ng lk (stlF s b p)) = QQ
  have fin : ∀ m, ix s.2 (10 + b) = 0 → m = much s.2 b p → QQ none (mu (mu M 34 (ci_ 9 (fz lo b (ix s.2 (173 + 16 * b + ix s.2 0 % 16) + m)))) 31 (cob dl (fu s.1 23 (s.1 23 + m)))) := by
    intro m hz hm
    subst hQQ
    have e : stlF s b p = (fu s.1 23 (s.1 23 + m), fz s.2 (rg 173 b (ix s.2 0)) (ix s.2 (173 + 16 * b + ix s.2 0 % 16) + m)) := by unfold stlF; rw [if_pos hz, ← hm, rg_e (p := 173) (by omega)]
    rw [e]
    have hF : FC M (mu (mu M 34 (ci_ 9 (fz lo b (ix s.2 (173 + 16 * b + ix s.2 0 % 16) + m)))) 31 (cob dl (fu s.1 23 (s.1 23 + m)))) := fun k a b c => by rw [mu_o (by omega), mu_o (by omega)]
    have e0 := (st_TW (x := ix s.2 (173 + 16 * b + ix s.2 0 % 16) + m) h0.1 h9 hb).1
    refine ⟨rfl, ⟨⟨h19, hDL.fr hF hdl⟩, ga, bx, fz lo b (ix s.2 (173 + 16 * b + ix s.2 0 % 16) + m), pp, ps, pl, bo, sn, pk, ⟨mu_s _ _ _, ?_, ?_, ?_, ?_, ?_, ?_, ?_, ?_, ?_⟩, hSR.st h0.1 h9 h5 hb, LKD.up hL (st_TW h0.1 h9 hb) h0.1 hc rfl rfl⟩, hF⟩
    · rw [mu_o (by omega), mu_o (by omega), e0]; exact c2
    · rw [mu_o (by omega), mu_o (by omega)]; exact c3
    · rw [mu_o (by omega), mu_s]
    all_goals rw [mu_o (by omega), mu_o (by omega)]; assumption
  have hmu : much s.2 b p = (if p < ix s.2 (29 + 16 * b + ix s.2 0 % 16) - ix s.2 (173 + 16 * b + ix s.2 0 % 16) then p else ix s.2 (29 + 16 * b + ix s.2 0 % 16) - ix s.2 (173 + 16 * b + ix s.2 0 % 16)) := by unfold much; rw [rg_e (by omega), rg_e (by omega)]
  refine RetN.of (ls0 := [some (ar 31), some (ai b), some (ai p), none, none]) pnX0 (Nat.le_of_ble_eq_true rfl) rfl ?_
  refine AM.go RX0 400 [] rfl ?_
  simp -implicitDefEqProofs (disch := omega) only [wp_0, wp_1, fv0, fv1, fv2, fv3, fw0, fw1, Nat.reduceAdd, Int.reduceNatCast', Int.cast_ofNat_Int, Int.reduceAdd, Int.reduceNeg, Int.reduceToNat, Int.reduceLE, Int.reduceLT, Int.reduceSub, Int.reduceMul, Int.reduceEq, Nat.reduceLeDiff, Nat.reduceEqDiff, List.contains_cons, List.contains_nil, Nat.reduceBEq, Bool.or_true, Bool.or_false, Bool.false_or, Bool.true_or, Bool.false_eq_true, reduceIte, Option.map_some, Option.toList_some, Option.toList_none, List.cons_append, List.nil_append, true_and, and_true, and_self, false_or, or_false, true_or, or_true, not_true_eq_false, not_false_eq_true, false_and, and_false, forall_const, true_implies, k_p_d, k_pi_d, k_pl_d, k_ls_d, k_sti_d, k_stl_d, k_sta_d, k_inc_d, k_add_d, k_sub_d, k_mul_d, k_div_d, k_rem_d, k_and_d, k_or_d, k_xor_d, k_shl_d, k_shr_d, k_ush_d, k_ladd_d, k_lmul_d, k_lrem_d, k_lcmp_d, k_i2l_d, k_l2i_d, k_dup_d, k_pop_d, k_dx1_d, k_d2_d, k_if_d, k_ic_d, k_j_d, k_ts_d, k_lk_d, k_g2_d, k_g1_d, k_g0_d, k_f3_d, k_f2_d, k_f1_d, k_f0_d, k_n1_d, k_n2_d, k_n3_d, k_n4_d, k_n0_d, k_a1_d, k_a2_d, k_a3_d, k_a4_d, k_a0_d, k_r1_d, k_r3_d, k_no_d, k_r0_d, k_s1_d, k_s0_d, k_z_d, exi_iconst, exi_bipush, exi_sipush, exi_lconst, exi_ldc, exi_ldc_w, exi_ldc2_w, exi_iload_n, exi_iload, exi_lload_n, exi_lload, exi_aload_n, exi_aload, exi_istore_n, exi_istore, exi_lstore_n, exi_lstore, exi_astore_n, exi_astore, exi_iinc, exi_iadd, exi_isub, exi_imul, exi_idiv, exi_irem, exi_iand, exi_ior, exi_ixor, exi_ishl, exi_ishr, exi_iushr, exi_ladd, exi_lmul, exi_lrem, exi_lcmp, exi_i2l, exi_l2i, exi_dup, exi_pop, exi_dup_x1, exi_dup2, exi_ifCond, exi_if_icmp, exi_goto, exi_tableswitch, exi_lookupswitch, exi_getfield, exi_putfield, exi_arraylength, exi_iaload, exi_aaload, exi_iastore, exi_ireturn, exi_return_, bco_t, bco_f, os_s, os_n, oo_s, e_i_c, e_ii_c, e_l_c, e_ll_c, e_r_c, e_rr_c, e_ir_c, e_iir_c, e_vr_c, e_1_c, e_2_c, c1_i, c1_r, e_z_c, e_n_c, nth_0, nth_s, nthV_0, nthV_s, setV_0, setV_s, ocons_s, clr_n, clr_i, clr_r, clr_l, stl_0, stl_1, stl_s, stl2_0, stl2_1, stl2_s, mO_d, mI_d, mR_d, mN_d, xO_s, xI_s, xR_s, xN_i, xN_r, ldI_s, ldL_s, ldA_r, ldA_b, ldZ_s, rsel_a, rsel_b, cnd_eq, cnd_ne, cnd_lt, cnd_ge, cnd_gt, cnd_le, jt_d, tsw_n, tsw_c, lsw_n, lsw_c, okT_i, okT_r, okT_n, f9_0, f9_1, f9_2, f9_9, sx0_d, fst_d, snd_d, inR_m5, inR_m4, inR_m3, inR_m2, inR_m1, inR_0, inR_1, inR_2, inR_3, inR_4, inR_5, inR_6, inR_7, inR_8, inR_9, inR_10, inR_11, inR_12, inR_13, inR_14, inR_15, inR_16, inR_17, inR_18, inR_19, inR_20, inR_21, inR_22, inR_23, inR_24, inR_25, inR_26, inR_27, inR_28, inR_29, inR_30, inR_31, inR_32, inR_33, inR_34, inR_35, inR_36, inR_37, inR_38, inR_39, inR_40, inR_41, inR_42, inR_43, inR_44, inR_45, inR_46, inR_47, inR_48, inR_49, inR_50, inR_51, inR_52, inR_53, inR_54, inR_55, inR_56, inR_57, inR_58, inR_59, inR_60, inR_61, inR_62, inR_63, inR_64, inR_65, inR_66, inR_67, inR_68, inR_69, inR_70, inR_71, inR_72, inR_73, inR_74, inR_75, inR_76, inR_77, inR_78, inR_79, inR_80, inR_81, inR_82, inR_83, inR_84, inR_85, inR_86, inR_87, inR_88, inR_89, inR_90, inR_91, inR_92, inR_93, inR_94, inR_95, inR_96, inR_97, inR_98, inR_99, inR_100, inR_101, inR_102, inR_103, inR_104, inR_105, inR_106, inR_107, inR_108, inR_109, inR_110, inR_111, inR_112, inR_113, inR_114, inR_115, inR_116, inR_117, inR_118, inR_119, inR_120, inR_121, inR_122, inR_123, inR_124, inR_125, inR_126, inR_127, inR_173, inR_200, inR_317, inR_9999, inR_65521, inR_1000000, inL_0, inL_1, inL_2, inL_3, inL_6, inL_7, inL_8, inL_20, inL_32, inL_40, inL_48, inL_57, inL_60, inL_80, inL_99, inL_126, inL_9999, wp_i, ↓reduceIte, R_bi, R_bp, R_and, R_or, R_shl, R_shr, bi_01e, bp_01e, zb_d, R_zb, bi_0, bp_0, mu_s, mu_o, dX0_steal_0, dX0_steal_1, gfX0_12, dX0_steal_4, gfX0_161, dX0_steal_7, dX0_steal_8, dX0_steal_9, dX0_steal_10, dX0_steal_11, dX0_steal_14, dX0_steal_15, dX0_steal_16, dX0_steal_19, gfX0_107, dX0_steal_22, dX0_steal_23, dX0_steal_24, dX0_steal_25, dX0_steal_28, gfX0_164, dX0_steal_31, dX0_steal_32, dX0_steal_33, dX0_steal_34, dX0_steal_35, dX0_steal_36, dX0_steal_37, dX0_steal_40, dX0_steal_41, dX0_steal_44, dX0_steal_45, dX0_steal_47, dX0_steal_48, dX0_steal_51, dX0_steal_54, dX0_steal_55, dX0_steal_56, dX0_steal_57, dX0_steal_59, dX0_steal_60, dX0_steal_61, dX0_steal_62, dX0_steal_63, gfX0_63, dX0_steal_66, dX0_steal_68, dX0_steal_69, ft0_10, dX0_steal_72, c1, cob, c2, sob, c3, c4, hgb, hx, hy]
  (repeat' (first | with_reducible refine And.intro ?_ ?_ | (with_reducible refine imp_i ?_; intro _))) <;> try (first | with_reducible assumption | (exfalso; with_reducible assumption) | omega)
  · exact fin _ (by omega) (by rw [hmu, if_neg (by omega)])
  · exact fin _ (by omega) (by rw [hmu, if_pos (by omega)])
  · subst hQQ
    have e : stlF s b p = s := by unfold stlF; rw [if_neg (by omega)]
    rw [e]
    exact ⟨rfl, hC', FC.r⟩
theorem SR.bd {T : Nat → Int} {nb ng : Nat} {ga i x : Int} {bx lo pp ps pl bo : Nat → Int} (h : SR T nb ng ga bx lo pp ps pl bo) (h0 : 0 ≤ ix T 0) (h9 : nb ≤ 9) (h5 : ng ≤ 5) (hi : 0 ≤ i ∧ i < ng) : SR (fz T (24 + i) x) nb ng ga bx lo pp ps pl (fz bo i x) ∧ TW T (fz T (24 + i) x) nb := by
  have ht : TW T (fz T (24 + i) x) nb := ⟨ix_n (by omega) (by omega) (by omega), fun a d a0 a1 d0 d1 hd => ⟨ix_n (by omega) (by omega) (by omega), ix_n (by omega) (by omega) (by omega)⟩⟩
  refine ⟨h.up ht h0 (fun a a0 a1 => ix_n (by omega) (by omega) (by omega)) (fun a a0 a1 => ?_) (fun j i0 i1 => ?_), ht⟩
  · rw [ix_n (by omega) (by omega) (by omega), ix_n (by omega) (by omega) (by omega)]
    exact ⟨(h.2.1 a a0 a1).1, (h.2.1 a a0 a1).2.1⟩
  · have q := h.2.2 j i0 i1
    rw [ix_n (by omega) (by omega) (by omega : 19 + j ≠ 24 + i), ix_z (by omega) (by omega), ix_z (by omega) (by omega)]
    refine ⟨q.1, ?_⟩
    by_cases e : j = i
    · subst e; rw [if_pos rfl, if_pos rfl]
    · rw [if_neg e, if_neg (by omega), q.2]
theorem SR.ps {T : Nat → Int} {nb ng : Nat} {ga i x : Int} {bx lo pp ps pl bo : Nat → Int} (h : SR T nb ng ga bx lo pp ps pl bo) (h0 : 0 ≤ ix T 0) (h9 : nb ≤ 9) (h5 : ng ≤ 5) (hi : 0 ≤ i ∧ i < ng) : SR (fz T (19 + i) x) nb ng ga bx lo pp ps (fz pl i (wk x)) bo ∧ TW T (fz T (19 + i) x) nb := by
  have ht : TW T (fz T (19 + i) x) nb := ⟨ix_n (by omega) (by omega) (by omega), fun a d a0 a1 d0 d1 hd => ⟨ix_n (by omega) (by omega) (by omega), ix_n (by omega) (by omega) (by omega)⟩⟩
  refine ⟨h.up ht h0 (fun a a0 a1 => ix_n (by omega) (by omega) (by omega)) (fun a a0 a1 => ?_) (fun j i0 i1 => ?_), ht⟩
  · rw [ix_n (by omega) (by omega) (by omega), ix_n (by omega) (by omega) (by omega)]
    exact ⟨(h.2.1 a a0 a1).1, (h.2.1 a a0 a1).2.1⟩
  · have q := h.2.2 j i0 i1
    rw [ix_n (by omega) (by omega) (by omega : 24 + j ≠ 19 + i), ix_z (by omega) (by omega), ix_z (by omega) (by omega)]
    refine ⟨?_, q.2⟩
    by_cases e : j = i
    · subst e; rw [if_pos rfl, if_pos rfl]
    · rw [if_neg e, if_neg (by omega), q.1]
set_option maxRecDepth 100000 in
theorem c_turnRound {M : Mem} {dl nb ng ni : Nat} {δ : Nat → Int} {s : PS} {lk : Bool} {i : Int} (hC : CL M dl δ nb ng lk s) (hdl : dl = 4 ∨ dl = 14) (hD : GD δ nb ng ni) (hc : 1 ≤ s.1 13 ∧ s.1 13 ≤ 9) (h0 : 0 ≤ ix s.2 0) (hi : 0 ≤ i ∧ i < ng) (hp : 0 ≤ ix s.2 (19 + i) ∧ ix s.2 (19 + i) < 8) (hq : ix s.2 (19 + i) = ix s.2 (24 + i)) :
    RetN 0 yX0_turnRound cX0_turnRound 3 0 [ar 31, ai i] M (fun r M' => r = none ∧ CM M M' dl δ nb ng lk (trF δ s i)) := by
  have hd1 := hD.2.1
  have hdi := hD.2.2.2.2 i hi.1 hi.2
  obtain ⟨⟨h19, hDL⟩, ga, bx, lo, pp, ps, pl, bo, sn, pk, ⟨c1, c2, c3, c4, c5, c6, c7, c8, c9, c10⟩, hSR, hL⟩ := hC
  have hDL' := hDL
  obtain ⟨e, o1, o2, pe, ho, er, we, gi, ki, ne, ⟨d0, d1, d2, d3, d4, d5, d6, d7, d8, d9⟩, hR⟩ := hDL
  have hpl := (hSR.2.2 i hi.1 hi.2).1
  have hw : wk (ix s.2 (19 + i)) = ix s.2 (19 + i) := by unfold wk; rw [if_neg (by omega)]
  rw [hw] at hpl
  have q1 := (hR.2.2 i hi.1 hi.2).1
  have q2 := (hR.2.2 i hi.1 hi.2).2.1
  generalize hQQ : (fun (r : Option AV) (M' : Mem) => r = none ∧ CM M M' dl δ nb ng lk (trF δ s i)) = QQ
  have fin : ∀ y, y = (if ix s.2 (24 + i) = ix δ (40 + i) then ix δ (45 + i) else ix δ (40 + i)) → QQ none (mu M 38 (ci_ 5 (fz bo i y))) := by
    intro y hy
    subst hQQ
    have e : trF δ s i = (s.1, fz s.2 (24 + i) y) := by unfold trF; rw [if_pos hq, hy]
    rw [e]
    have hF : FC M (mu M 38 (ci_ 5 (fz bo i y))) := fun k a b c => mu_o (by omega)
    have hu := hSR.bd (x := y) h0 (by omega) (by omega) hi
    have e0 := hu.2.1
    refine ⟨rfl, ⟨⟨h19, hDL'.fr hF hdl⟩, ga, bx, lo, pp, ps, pl, fz bo i y, sn, pk, ⟨?_, ?_, ?_, ?_, ?_, ?_, ?_, mu_s _ _ _, ?_, ?_⟩, hu.1, LKD.up hL hu.2 h0 hc rfl rfl⟩, hF⟩
    · rw [mu_o (by omega)]; exact c1
    · rw [mu_o (by omega), e0]; exact c2
    all_goals rw [mu_o (by omega)]; assumption
  refine RetN.of (ls0 := [some (ar 31), some (ai i), none]) pnX0 (Nat.le_of_ble_eq_true rfl) rfl ?_
  refine AM.go RX0 400 [] rfl ?_
  simp -implicitDefEqProofs (disch := omega) only [wp_0, wp_1, fv0, fv1, fv2, fv3, fw0, fw1, Nat.reduceAdd, Int.reduceNatCast', Int.cast_ofNat_Int, Int.reduceAdd, Int.reduceNeg, Int.reduceToNat, Int.reduceLE, Int.reduceLT, Int.reduceSub, Int.reduceMul, Int.reduceEq, Nat.reduceLeDiff, Nat.reduceEqDiff, List.contains_cons, List.contains_nil, Nat.reduceBEq, Bool.or_true, Bool.or_false, Bool.false_or, Bool.true_or, Bool.false_eq_true, reduceIte, Option.map_some, Option.toList_some, Option.toList_none, List.cons_append, List.nil_append, true_and, and_true, and_self, false_or, or_false, true_or, or_true, not_true_eq_false, not_false_eq_true, false_and, and_false, forall_const, true_implies, k_p_d, k_pi_d, k_pl_d, k_ls_d, k_sti_d, k_stl_d, k_sta_d, k_inc_d, k_add_d, k_sub_d, k_mul_d, k_div_d, k_rem_d, k_and_d, k_or_d, k_xor_d, k_shl_d, k_shr_d, k_ush_d, k_ladd_d, k_lmul_d, k_lrem_d, k_lcmp_d, k_i2l_d, k_l2i_d, k_dup_d, k_pop_d, k_dx1_d, k_d2_d, k_if_d, k_ic_d, k_j_d, k_ts_d, k_lk_d, k_g2_d, k_g1_d, k_g0_d, k_f3_d, k_f2_d, k_f1_d, k_f0_d, k_n1_d, k_n2_d, k_n3_d, k_n4_d, k_n0_d, k_a1_d, k_a2_d, k_a3_d, k_a4_d, k_a0_d, k_r1_d, k_r3_d, k_no_d, k_r0_d, k_s1_d, k_s0_d, k_z_d, exi_iconst, exi_bipush, exi_sipush, exi_lconst, exi_ldc, exi_ldc_w, exi_ldc2_w, exi_iload_n, exi_iload, exi_lload_n, exi_lload, exi_aload_n, exi_aload, exi_istore_n, exi_istore, exi_lstore_n, exi_lstore, exi_astore_n, exi_astore, exi_iinc, exi_iadd, exi_isub, exi_imul, exi_idiv, exi_irem, exi_iand, exi_ior, exi_ixor, exi_ishl, exi_ishr, exi_iushr, exi_ladd, exi_lmul, exi_lrem, exi_lcmp, exi_i2l, exi_l2i, exi_dup, exi_pop, exi_dup_x1, exi_dup2, exi_ifCond, exi_if_icmp, exi_goto, exi_tableswitch, exi_lookupswitch, exi_getfield, exi_putfield, exi_arraylength, exi_iaload, exi_aaload, exi_iastore, exi_ireturn, exi_return_, bco_t, bco_f, os_s, os_n, oo_s, e_i_c, e_ii_c, e_l_c, e_ll_c, e_r_c, e_rr_c, e_ir_c, e_iir_c, e_vr_c, e_1_c, e_2_c, c1_i, c1_r, e_z_c, e_n_c, nth_0, nth_s, nthV_0, nthV_s, setV_0, setV_s, ocons_s, clr_n, clr_i, clr_r, clr_l, stl_0, stl_1, stl_s, stl2_0, stl2_1, stl2_s, mO_d, mI_d, mR_d, mN_d, xO_s, xI_s, xR_s, xN_i, xN_r, ldI_s, ldL_s, ldA_r, ldA_b, ldZ_s, rsel_a, rsel_b, cnd_eq, cnd_ne, cnd_lt, cnd_ge, cnd_gt, cnd_le, jt_d, tsw_n, tsw_c, lsw_n, lsw_c, okT_i, okT_r, okT_n, f9_0, f9_1, f9_2, f9_9, sx0_d, fst_d, snd_d, inR_m5, inR_m4, inR_m3, inR_m2, inR_m1, inR_0, inR_1, inR_2, inR_3, inR_4, inR_5, inR_6, inR_7, inR_8, inR_9, inR_10, inR_11, inR_12, inR_13, inR_14, inR_15, inR_16, inR_17, inR_18, inR_19, inR_20, inR_21, inR_22, inR_23, inR_24, inR_25, inR_26, inR_27, inR_28, inR_29, inR_30, inR_31, inR_32, inR_33, inR_34, inR_35, inR_36, inR_37, inR_38, inR_39, inR_40, inR_41, inR_42, inR_43, inR_44, inR_45, inR_46, inR_47, inR_48, inR_49, inR_50, inR_51, inR_52, inR_53, inR_54, inR_55, inR_56, inR_57, inR_58, inR_59, inR_60, inR_61, inR_62, inR_63, inR_64, inR_65, inR_66, inR_67, inR_68, inR_69, inR_70, inR_71, inR_72, inR_73, inR_74, inR_75, inR_76, inR_77, inR_78, inR_79, inR_80, inR_81, inR_82, inR_83, inR_84, inR_85, inR_86, inR_87, inR_88, inR_89, inR_90, inR_91, inR_92, inR_93, inR_94, inR_95, inR_96, inR_97, inR_98, inR_99, inR_100, inR_101, inR_102, inR_103, inR_104, inR_105, inR_106, inR_107, inR_108, inR_109, inR_110, inR_111, inR_112, inR_113, inR_114, inR_115, inR_116, inR_117, inR_118, inR_119, inR_120, inR_121, inR_122, inR_123, inR_124, inR_125, inR_126, inR_127, inR_173, inR_200, inR_317, inR_9999, inR_65521, inR_1000000, inL_0, inL_1, inL_2, inL_3, inL_6, inL_7, inL_8, inL_20, inL_32, inL_40, inL_48, inL_57, inL_60, inL_80, inL_99, inL_126, inL_9999, wp_i, ↓reduceIte, R_bi, R_bp, R_and, R_or, R_shl, R_shr, bi_01e, bp_01e, zb_d, R_zb, bi_0, bp_0, mu_s, mu_o, dX0_turnRound_0, dX0_turnRound_1, gfX0_12, dX0_turnRound_4, gfX0_95, dX0_turnRound_7, dX0_turnRound_8, dX0_turnRound_9, dX0_turnRound_10, gfX0_21, dX0_turnRound_13, gfX0_167, dX0_turnRound_16, dX0_turnRound_17, dX0_turnRound_18, dX0_turnRound_21, dX0_turnRound_22, dX0_turnRound_25, dX0_turnRound_26, dX0_turnRound_27, dX0_turnRound_28, dX0_turnRound_31, gfX0_127, dX0_turnRound_34, dX0_turnRound_35, dX0_turnRound_36, dX0_turnRound_39, dX0_turnRound_40, dX0_turnRound_43, gfX0_170, dX0_turnRound_46, dX0_turnRound_47, dX0_turnRound_48, dX0_turnRound_51, dX0_turnRound_52, dX0_turnRound_55, dX0_turnRound_58, dX0_turnRound_59, dX0_turnRound_60, dX0_turnRound_61, c1, cob, c2, sob, c7, c8, d0, dobj, d4, d5, hpl, q1, q2]
  (repeat' (first | with_reducible refine And.intro ?_ ?_ | (with_reducible refine imp_i ?_; intro _))) <;> try (first | with_reducible assumption | (exfalso; with_reducible assumption) | omega)
  · exact fin _ (by rw [if_neg (by omega)])
  · exact fin _ (by rw [if_pos (by omega)])
