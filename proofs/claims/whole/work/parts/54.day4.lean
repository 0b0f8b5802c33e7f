/-! the reference: dayGoes whole; the state behind a day is good -/
section D4
variable {δ : Nat → Int} {nb ng ni : Nat} {v w n : Int} {s : PS}
theorem ad_x {T : Nat → Int} {b p : Int} (h9 : nb ≤ 9) (h5 : ng ≤ 5) (h : GS δ T nb ng ni v) (hb : 0 ≤ b ∧ b < nb) (hp : 0 ≤ p) (hv : v + p ≤ 1000) : GS δ (adT T b p) nb ng ni (v + p) :=
  GX.gs (s := givF (fun _ => 0, T) b p) (giv_x (s := (fun _ => 0, T)) h9 h5 h.x hb hp hv)
theorem alm_s {T : Nat → Int} {g : Int} (h9 : nb ≤ 9) (h5 : ng ≤ 5) (h : GS δ T nb ng ni v) (hg : 0 ≤ g ∧ g ≤ 20) (hv : v + 180 ≤ 1000) : ∀ k : Nat, k ≤ nb → GS δ (almT T g k) nb ng ni (v + 20 * k)
  | 0, _ => by simpa [almT] using h
  | k + 1, hk => (ad_x (p := g) h9 h5 (alm_s h9 h5 h hg hv k (by omega)) ⟨by omega, by omega⟩ hg.1 (by omega)).le (by omega)
theorem dy2_s (hD : GD δ nb ng ni) (h : GS δ s.2 nb ng ni v) (hC : GC s.1) (hn : 0 ≤ n ∧ n ≤ 1000) (hv : v + 189 ≤ 1000) : GS δ (dy2 nb s n).2 nb ng ni (v + 189) := by
  have hd1 := hD.2.1
  have ha := alm_s (g := s.1 15) (by omega) (by omega) h hC.2.1 (by omega) nb (by omega)
  have hc := hC.2.2.1
  unfold dy2
  simp only
  split
  · have hb := drb_B (z := s.1 16) (k := n) (nb := nb) (by omega) hn (by omega)
    exact (ad_x (by omega) (by omega) ha ⟨hb.1, hb.2.1⟩ hb.2.2.1 (by omega)).le (by omega)
  · exact ha.le (by omega)
theorem clr_v {T : Nat → Int} (h0 : 0 ≤ ix T 0) : ∀ k : Nat, k ≤ 9 → ∀ (b d : Int), 0 ≤ b → b < 9 → 0 ≤ d → d < 16 →
    ix (clrT T k) (29 + 16 * b + d) = (if b < k ∧ d = ix T 0 % 16 then 0 else ix T (29 + 16 * b + d)) ∧ ix (clrT T k) (173 + 16 * b + d) = (if b < k ∧ d = ix T 0 % 16 then 0 else ix T (173 + 16 * b + d))
  | 0, _, b, d, b0, b9, d0, d16 => by
    rw [if_neg (by omega), if_neg (by omega)]; exact ⟨rfl, rfl⟩
  | k + 1, hk, b, d, b0, b9, d0, d16 => by
    have ih := clr_v h0 k (by omega) b d b0 b9 d0 d16
    have e0 := clr_0 h0 (T := T) (j := 0) (Or.inl rfl) k (by omega)
    show ix (clr1 (clrT T k) k) _ = _ ∧ ix (clr1 (clrT T k) k) _ = _
    unfold clr1
    rw [e0, rg_e (by omega), rg_e (by omega)]
    rw [ix_z (by omega) (by omega), ix_z (by omega) (by omega), ix_z (by omega) (by omega), ih.1, ix_z (by omega) (by omega), ix_z (by omega) (by omega), ix_z (by omega) (by omega), ih.2]
    constructor
    · by_cases hb : b = (k : Int) ∧ d = ix T 0 % 16
      · obtain ⟨rfl, rfl⟩ := hb
        rw [if_neg (by omega), if_pos (by omega), if_pos (by omega)]
      · rw [if_neg (by omega), if_neg (by omega), if_neg (by omega)]
        by_cases h2 : b < k ∧ d = ix T 0 % 16
        · rw [if_pos h2, if_pos (by omega)]
        · rw [if_neg h2, if_neg (by omega)]
    · by_cases hb : b = (k : Int) ∧ d = ix T 0 % 16
      · obtain ⟨rfl, rfl⟩ := hb
        rw [if_pos (by omega), if_pos (by omega)]
      · rw [if_neg (by omega), if_neg (by omega), if_neg (by omega)]
        by_cases h2 : b < k ∧ d = ix T 0 % 16
        · rw [if_pos h2, if_pos (by omega)]
        · rw [if_neg h2, if_neg (by omega)]
/-- the end of a day, by its places -/
theorem end_v {T : Nat → Int} (h0 : 0 ≤ ix T 0) (h9 : nb ≤ 9) : ix (endT T nb) 0 = ix T 0 + 1 ∧ (∀ j : Int, 10 ≤ j → j < 29 → ix (endT T nb) j = ix T j) ∧ ∀ (b d : Int), 0 ≤ b → b < nb → 0 ≤ d → d < 16 →
    ix (endT T nb) (29 + 16 * b + d) = (if d = (ix T 0 + 1) % 16 then 0 else ix T (29 + 16 * b + d)) ∧ ix (endT T nb) (173 + 16 * b + d) = (if d = (ix T 0 + 1) % 16 then 0 else ix T (173 + 16 * b + d)) := by
  unfold endT
  have e0 : ix (fz T 0 (ix T 0 + 1)) 0 = ix T 0 + 1 := ix_s
  refine ⟨?_, fun j j1 j2 => ?_, fun b d b0 b9 d0 d16 => ?_⟩
  · rw [clr_0 (by omega) (Or.inl rfl) nb h9, e0]
  · rw [clr_0 (by omega) (Or.inr ⟨j1, j2⟩) nb h9, ix_n (by omega) (by omega) (by omega)]
  · have := clr_v (T := fz T 0 (ix T 0 + 1)) (by omega) nb h9 b d b0 (by omega) d0 d16
    rw [this.1, this.2, e0, ix_n (by omega) (by omega) (by omega), ix_n (by omega) (by omega) (by omega)]
    by_cases h : d = (ix T 0 + 1) % 16
    · constructor
      · rw [if_pos ⟨b9, h⟩, if_pos h]
      · rw [if_pos ⟨b9, h⟩, if_pos h]
    · have hh : ¬ (b < nb ∧ d = (ix T 0 + 1) % 16) := fun q => h q.2
      constructor
      · rw [if_neg hh, if_neg h]
      · rw [if_neg hh, if_neg h]
theorem end_s {T : Nat → Int} (h9 : nb ≤ 9) (h5 : ng ≤ 5) (h : GS δ T nb ng ni v) (hm : ix T 0 < 1000) : GS δ (endT T nb) nb ng ni 0 := by
  obtain ⟨h0, h1, h2⟩ := h
  obtain ⟨e0, e1, e2⟩ := end_v (T := T) h0.1 h9
  refine ⟨by rw [e0]; omega, fun b b0 b1 => ?_, fun i i0 i1 => ?_⟩
  · have q := h1 b b0 b1
    refine ⟨by rw [e1 _ (by omega) (by omega)]; exact q.1, ?_, fun d d0 d1 => ?_⟩
    · rw [e0, (e2 b ((ix T 0 + 1) % 16) b0 b1 (by omega) (by omega)).1, if_pos rfl]; exact Int.le_refl _
    · have q2 := q.2.2 d d0 d1
      rw [(e2 b d b0 b1 d0 d1).1, (e2 b d b0 b1 d0 d1).2]
      split <;> omega
  · rw [e1 _ (by omega) (by omega), e1 _ (by omega) (by omega)]; exact h2 i i0 i1
/-- the numbers behind a day -/
theorem day_all (hD : GD δ nb ng ni) (h : GS δ s.2 nb ng ni 99) (hC : GC s.1) (hn : 0 ≤ n ∧ n ≤ 1000) (hm : ix s.2 0 < 1000) (hw : s.1 20 ≤ w ∧ s.1 21 ≤ w) (hw2 : w ≤ 90000) :
    GS δ (dayF δ nb ng s n).2 nb ng ni 0 ∧ GC (dayF δ nb ng s n).1 ∧ ((dayF δ nb ng s n).1 20 ≤ w + 5 ∧ (dayF δ nb ng s n).1 21 ≤ w + 5) ∧ (∀ j, ¬ j = 18 → ¬ j = 19 → ¬ j = 20 → ¬ j = 21 → ¬ j = 22 → ¬ j = 23 → (dayF δ nb ng s n).1 j = s.1 j) ∧ ix (dayF δ nb ng s n).2 0 = ix s.2 0 + 1 := by
  have hd1 := hD.2.1
  have h2 := dy2_s hD h hC hn (by omega)
  have hg := goers_all (s := dy2 nb s n) (w := w) hD h2 (by omega) hC hw hw2 ng (Nat.le_refl _)
  have e0 : ix (dy2 nb s n).2 0 = ix s.2 0 := by
    have e1 := alm_0 h.1.1 (T := s.2) (g := s.1 15) (j := 0) (by omega) nb (by omega)
    have hc := hC.2.2.1
    unfold dy2
    simp only
    split
    · have hb := drb_B (z := s.1 16) (k := n) (nb := nb) (by omega) hn (by omega)
      have h0 := h.1
      unfold drwT
      rw [ad_0 (by omega) (by omega) (by omega)]; exact e1
    · exact e1
  have e1 : ∀ k : Nat, k ≤ ng → ix (goersF δ nb (dy2 nb s n) k).2 0 = ix s.2 0 := by
    intro k
    induction k with
    | zero => intro _; exact e0
    | succ k ih =>
      intro hk
      show ix (if _ then _ else _ : PS).2 0 = _
      have ih := ih (by omega)
      have hgk := goers_all (s := dy2 nb s n) (w := w) hD h2 (by omega) hC hw hw2 k (by omega)
      have h0 := h.1
      split
      · rw [← ih]
        generalize goersF δ nb (dy2 nb s n) k = t at *
        have htk := tk_B (c := t.1) (δ := δ) (T := t.2) (nb := nb) (i := k)
        unfold goF
        split
        · unfold wtF
          split
          · rename_i hq
            have hb := fst_B (P := fun b => 0 ≤ en δ b (ix t.2 (19 + (k : Int)))) (m := nb)
            have hq2 : ¬ fst_ (fun b => 0 ≤ en δ b (ix t.2 (19 + (k : Int)))) nb 0 = -4 := hq.2
            exact ad_0 (by unfold besid; omega) (by show 0 ≤ ix t.2 0; omega) (by omega)
          · rfl
        · split
          · exact ix_n (by omega) (by omega) (by omega)
          · have hx0 : ix (fz t.2 (19 + (k : Int)) (en δ (tk t.1 δ t.2 nb k) (ix t.2 (19 + (k : Int))))) 0 = ix t.2 0 := ix_n (by omega) (by omega) (by omega)
            unfold crF trF
            split
            · rw [ix_n (by omega) (by omega) (by omega), gvF_ix (by omega) (by show 0 ≤ ix (fz _ _ _) 0; omega) (by omega)]; exact hx0
            · rw [gvF_ix (by omega) (by show 0 ≤ ix (fz _ _ _) 0; omega) (by omega)]; exact hx0
      · exact ih
  have e1 := e1 ng (Nat.le_refl _)
  obtain ⟨g1, g2, g3, g4, g5⟩ := hg
  have hs5 : (dy5 δ nb ng s n).2 = (goersF δ nb (dy2 nb s n) ng).2 := rfl
  have hc5 : ∀ j, ¬ j = 18 → ¬ j = 19 → (dy5 δ nb ng s n).1 j = (goersF δ nb (dy2 nb s n) ng).1 j := fun j a b => by
    show fu (fu _ 18 _) 19 _ j = _
    rw [fu_n _ _ b, fu_n _ _ a]
  refine ⟨?_, ?_, ?_, ?_, ?_⟩
  · show GS δ (endT (dy5 δ nb ng s n).2 nb) nb ng ni 0
    rw [hs5]
    exact end_s (by omega) (by omega) g1 (by omega)
  · show GC (dy5 δ nb ng s n).1
    obtain ⟨c1, c2, c3, c4, c5, c6, c7, c8⟩ := g2
    have h18 : inR ((dy5 δ nb ng s n).1 18) := by
      have e : (dy5 δ nb ng s n).1 18 = hrdF (islF ((goersF δ nb (dy2 nb s n) ng).1 18) (goersF δ nb (dy2 nb s n) ng).2 ng) (goersF δ nb (dy2 nb s n) ng).2 ((goersF δ nb (dy2 nb s n) ng).1 18) ng := rfl
      rw [e]; exact hrd_R c5 ng
    have h19 : 0 ≤ (dy5 δ nb ng s n).1 19 ∧ (dy5 δ nb ng s n).1 19 ≤ 9 := by
      have e : (dy5 δ nb ng s n).1 19 = (goersF δ nb (dy2 nb s n) ng).1 19 - (if 0 < (goersF δ nb (dy2 nb s n) ng).1 19 then 1 else 0) := rfl
      rw [e]
      split <;> omega
    unfold GC
    rw [hc5 13 (by decide) (by decide), hc5 15 (by decide) (by decide), hc5 16 (by decide) (by decide), hc5 17 (by decide) (by decide), hc5 20 (by decide) (by decide), hc5 21 (by decide) (by decide)]
    exact ⟨c1, c2, c3, c4, h18, h19, c7, c8⟩
  · show (dy5 δ nb ng s n).1 20 ≤ _ ∧ (dy5 δ nb ng s n).1 21 ≤ _
    rw [hc5 20 (by decide) (by decide), hc5 21 (by decide) (by decide)]
    omega
  · intro j a b c d e f
    exact (hc5 j a b).trans (g4 j c d e f)
  · show ix (endT (dy5 δ nb ng s n).2 nb) 0 = _
    rw [hs5, (end_v (by have := h.1; omega) (by omega)).1, e1]
end D4
set_option maxRecDepth 100000 in
theorem m_dayGoes {δ : Nat → Int} {s : PS} {ta nb ng ni : Nat} {n w : Int} {M : Mem} (hR : RM M ta δ s.1 s.2) (hta : ta = 137 ∨ ta = 143) (hD : GD δ nb ng ni) (hS : GS δ s.2 nb ng ni 99) (hC : GC s.1) (hn : 0 ≤ n ∧ n ≤ 1000) (hm0 : ix s.2 0 < 1000) (hw : s.1 20 ≤ w ∧ s.1 21 ≤ w) (hw2 : w ≤ 90000) :
    RetN 6 yX8_dayGoes cX8_dayGoes 6 0 [ar 133, ar ta, ai n] M (fun r M' => r = none ∧ PM M M' ta δ (dayF δ nb ng s n)) := by
  have hd1 := hD.2.1
  have h2 := dy2_s hD hS hC hn (by omega)
  obtain ⟨g1, g2, g3, g4, g5⟩ := goers_all (s := dy2 nb s n) (w := w) hD h2 (by omega) hC hw hw2 ng (Nat.le_refl _)
  have hs0 := hS.1
  have hg0 := g1.1
  generalize hQQ : (fun (r : Option AV) (M' : Mem) => r = none ∧ PM M M' ta δ (dayF δ nb ng s n)) = QQ
  have hR0 := hR
  obtain ⟨hm, hd, ht, ⟨f, hO⟩⟩ := hR
  refine RetN.of (ls0 := [some (ar 133), some (ar ta), some (ai n), none, none, none]) pnX8 (Nat.le_of_ble_eq_true rfl) rfl ?_
  refine AM.go RX8 400 [2] rfl ?_
  simp -implicitDefEqProofs (disch := omega) only [wp_0, wp_1, fv0, fv1, fv2, fv3, fw0, fw1, Nat.reduceAdd, Int.reduceNatCast', Int.cast_ofNat_Int, Int.reduceAdd, Int.reduceNeg, Int.reduceToNat, Int.reduceLE, Int.reduceLT, Int.reduceSub, Int.reduceMul, Int.reduceEq, Nat.reduceLeDiff, Nat.reduceEqDiff, List.contains_cons, List.contains_nil, Nat.reduceBEq, Bool.or_true, Bool.or_false, Bool.false_or, Bool.true_or, Bool.false_eq_true, reduceIte, Option.map_some, Option.toList_some, Option.toList_none, List.cons_append, List.nil_append, true_and, and_true, and_self, false_or, or_false, true_or, or_true, not_true_eq_false, not_false_eq_true, false_and, and_false, forall_const, true_implies, k_p_d, k_pi_d, k_pl_d, k_ls_d, k_sti_d, k_stl_d, k_sta_d, k_inc_d, k_add_d, k_sub_d, k_mul_d, k_div_d, k_rem_d, k_and_d, k_or_d, k_xor_d, k_shl_d, k_shr_d, k_ush_d, k_ladd_d, k_lmul_d, k_lrem_d, k_lcmp_d, k_i2l_d, k_l2i_d, k_dup_d, k_pop_d, k_dx1_d, k_d2_d, k_if_d, k_ic_d, k_j_d, k_ts_d, k_lk_d, k_g2_d, k_g1_d, k_g0_d, k_f3_d, k_f2_d, k_f1_d, k_f0_d, k_n1_d, k_n2_d, k_n3_d, k_n4_d, k_n0_d, k_a1_d, k_a2_d, k_a3_d, k_a4_d, k_a0_d, k_r1_d, k_r3_d, k_no_d, k_r0_d, k_s1_d, k_s0_d, k_z_d, exi_iconst, exi_bipush, exi_sipush, exi_lconst, exi_ldc, exi_ldc_w, exi_ldc2_w, exi_iload_n, exi_iload, exi_lload_n, exi_lload, exi_aload_n, exi_aload, exi_istore_n, exi_istore, exi_lstore_n, exi_lstore, exi_astore_n, exi_astore, exi_iinc, exi_iadd, exi_isub, exi_imul, exi_idiv, exi_irem, exi_iand, exi_ior, exi_ixor, exi_ishl, exi_ishr, exi_iushr, exi_ladd, exi_lmul, exi_lrem, exi_lcmp, exi_i2l, exi_l2i, exi_dup, exi_pop, exi_dup_x1, exi_dup2, exi_ifCond, exi_if_icmp, exi_goto, exi_tableswitch, exi_lookupswitch, exi_getfield, exi_putfield, exi_arraylength, exi_iaload, exi_aaload, exi_iastore, exi_ireturn, exi_return_, bco_t, bco_f, os_s, os_n, oo_s, e_i_c, e_ii_c, e_l_c, e_ll_c, e_r_c, e_rr_c, e_ir_c, e_iir_c, e_vr_c, e_1_c, e_2_c, c1_i, c1_r, e_z_c, e_n_c, nth_0, nth_s, nthV_0, nthV_s, setV_0, setV_s, ocons_s, clr_n, clr_i, clr_r, clr_l, stl_0, stl_1, stl_s, stl2_0, stl2_1, stl2_s, mO_d, mI_d, mR_d, mN_d, xO_s, xI_s, xR_s, xN_i, xN_r, ldI_s, ldL_s, ldA_r, ldA_b, ldZ_s, rsel_a, rsel_b, cnd_eq, cnd_ne, cnd_lt, cnd_ge, cnd_gt, cnd_le, jt_d, tsw_n, tsw_c, lsw_n, lsw_c, okT_i, okT_r, okT_n, f9_0, f9_1, f9_2, f9_9, sx0_d, fst_d, snd_d, inR_m5, inR_m4, inR_m3, inR_m2, inR_m1, inR_0, inR_1, inR_2, inR_3, inR_4, inR_5, inR_6, inR_7, inR_8, inR_9, inR_10, inR_11, inR_12, inR_13, inR_14, inR_15, inR_16, inR_17, inR_18, inR_19, inR_20, inR_21, inR_22, inR_23, inR_24, inR_25, inR_26, inR_27, inR_28, inR_29, inR_30, inR_31, inR_32, inR_33, inR_34, inR_35, inR_36, inR_37, inR_38, inR_39, inR_40, inR_41, inR_42, inR_43, inR_44, inR_45, inR_46, inR_47, inR_48, inR_49, inR_50, inR_51, inR_52, inR_53, inR_54, inR_55, inR_56, inR_57, inR_58, inR_59, inR_60, inR_61, inR_62, inR_63, inR_64, inR_65, inR_66, inR_67, inR_68, inR_69, inR_70, inR_71, inR_72, inR_73, inR_74, inR_75, inR_76, inR_77, inR_78, inR_79, inR_80, inR_81, inR_82, inR_83, inR_84, inR_85, inR_86, inR_87, inR_88, inR_89, inR_90, inR_91, inR_92, inR_93, inR_94, inR_95, inR_96, inR_97, inR_98, inR_99, inR_100, inR_101, inR_102, inR_103, inR_104, inR_105, inR_106, inR_107, inR_108, inR_109, inR_110, inR_111, inR_112, inR_113, inR_114, inR_115, inR_116, inR_117, inR_118, inR_119, inR_120, inR_121, inR_122, inR_123, inR_124, inR_125, inR_126, inR_127, inR_173, inR_200, inR_317, inR_9999, inR_65521, inR_1000000, inL_0, inL_1, inL_2, inL_3, inL_6, inL_7, inL_8, inL_20, inL_32, inL_40, inL_48, inL_57, inL_60, inL_80, inL_99, inL_126, inL_9999, wp_i, ↓reduceIte, R_bi, R_bp, R_and, R_or, R_shl, R_shr, bi_01e, bp_01e, zb_d, R_zb, bi_0, bp_0, mu_s, mu_o, dX8_dayGoes_0, dX8_dayGoes_1, dX8_dayGoes_2, dX8_dayGoes_3, dX8_dayGoes_4, gfX8_7, dX8_dayGoes_7, dX8_dayGoes_8, dX8_dayGoes_9, dX8_dayGoes_12, dX8_dayGoes_13, dX8_dayGoes_15, dX8_dayGoes_16, dX8_dayGoes_17, dX8_dayGoes_18, dX8_dayGoes_19, dX8_dayGoes_22, dX8_dayGoes_23, dX8_dayGoes_24, dX8_dayGoes_25, gfX8_131, dX8_dayGoes_28, dX8_dayGoes_29, dX8_dayGoes_30, dX8_dayGoes_33, dX8_dayGoes_36, dX8_dayGoes_37, gfX8_134, dX8_dayGoes_40, dX8_dayGoes_43, gLX8_202, dX8_dayGoes_46, dX8_dayGoes_47, dX8_dayGoes_50, dX8_dayGoes_51, dX8_dayGoes_52, gLX8_204, dX8_dayGoes_55, dX8_dayGoes_56, dX8_dayGoes_57, dX8_dayGoes_58, dX8_dayGoes_59, dX8_dayGoes_60, dX8_dayGoes_61, dX8_dayGoes_62, dX8_dayGoes_63, dX8_dayGoes_64, dX8_dayGoes_65, gLX8_206, dX8_dayGoes_68, dX8_dayGoes_69, dX8_dayGoes_70, dX8_dayGoes_72, dX8_dayGoes_73, dX8_dayGoes_75, dX8_dayGoes_77, dX8_dayGoes_79, dX8_dayGoes_80, dX8_dayGoes_81, dX8_dayGoes_84, dX8_dayGoes_85, dX8_dayGoes_86, dX8_dayGoes_87, dX8_dayGoes_88, dX8_dayGoes_89, dX8_dayGoes_90, dX8_dayGoes_93, dX8_dayGoes_94, dX8_dayGoes_95, dX8_dayGoes_97, dX8_dayGoes_99, dX8_dayGoes_100, dX8_dayGoes_101, dX8_dayGoes_102, dX8_dayGoes_103, dX8_dayGoes_104, dX8_dayGoes_105, dX8_dayGoes_106, dX8_dayGoes_109, dX8_dayGoes_110, dX8_dayGoes_111, dX8_dayGoes_114, dX8_dayGoes_115, dX8_dayGoes_117, dX8_dayGoes_118, dX8_dayGoes_119, dX8_dayGoes_120, dX8_dayGoes_123, dX8_dayGoes_124, dX8_dayGoes_125, dX8_dayGoes_126, dX8_dayGoes_129, dX8_dayGoes_132, dX8_dayGoes_135, dX8_dayGoes_136, dX8_dayGoes_137, dX8_dayGoes_140, dX8_dayGoes_141, dX8_dayGoes_142, gfX8_143, dX8_dayGoes_145, dX8_dayGoes_146, dX8_dayGoes_149, dX8_dayGoes_152, dX8_dayGoes_153, dX8_dayGoes_156, dX8_dayGoes_157, dX8_dayGoes_158, ft8_19, dX8_dayGoes_161, dX8_dayGoes_162, dX8_dayGoes_163, dX8_dayGoes_164, dX8_dayGoes_165, dX8_dayGoes_166, dX8_dayGoes_167, dX8_dayGoes_168, dX8_dayGoes_169, dX8_dayGoes_170, dX8_dayGoes_171, dX8_dayGoes_172, dX8_dayGoes_175, dX8_dayGoes_176, dX8_dayGoes_177, dX8_dayGoes_180, dX8_dayGoes_181, dX8_dayGoes_182, dX8_dayGoes_183, dX8_dayGoes_184, dX8_dayGoes_185, dX8_dayGoes_186, dX8_dayGoes_187, dX8_dayGoes_189, dX8_dayGoes_190, dX8_dayGoes_191, dX8_dayGoes_192, dX8_dayGoes_193, dX8_dayGoes_196, dX8_dayGoes_197, dX8_dayGoes_198, dX8_dayGoes_199, dX8_dayGoes_202, dX8_dayGoes_203, dX8_dayGoes_204, dX8_dayGoes_205, dX8_dayGoes_206, dX8_dayGoes_209, dX8_dayGoes_210, dX8_dayGoes_211, dX8_dayGoes_214, dX8_dayGoes_217]
  refine m_day_1 (M0 := M) hta hD hs0 (fun M1 p1 => ?_) nb 0 M (by omega) ⟨hR0, FR.r⟩
  refine m_day_2 hta hD hs0 hC hn p1 (fun M2 o4 o5 p2 => ?_)
  refine m_day_3 (s := dy2 nb s n) (w := w) (M0 := M) hta hD h2 (by omega) hC hw hw2 (fun M3 p3 => ?_) ng 0 M2 (by omega) p2
  obtain ⟨⟨hm3, hd3, ht3, ⟨f3, hO3⟩⟩, hF3⟩ := p3
  refine AM.go1 RX8 400 [170] rfl ?_
  simp -implicitDefEqProofs (disch := omega) only [wp_0, wp_1, fv0, fv1, fv2, fv3, fw0, fw1, Nat.reduceAdd, Int.reduceNatCast', Int.cast_ofNat_Int, Int.reduceAdd, Int.reduceNeg, Int.reduceToNat, Int.reduceLE, Int.reduceLT, Int.reduceSub, Int.reduceMul, Int.reduceEq, Nat.reduceLeDiff, Nat.reduceEqDiff, List.contains_cons, List.contains_nil, Nat.reduceBEq, Bool.or_true, Bool.or_false, Bool.false_or, Bool.true_or, Bool.false_eq_true, reduceIte, Option.map_some, Option.toList_some, Option.toList_none, List.cons_append, List.nil_append, true_and, and_true, and_self, false_or, or_false, true_or, or_true, not_true_eq_false, not_false_eq_true, false_and, and_false, forall_const, true_implies, k_p_d, k_pi_d, k_pl_d, k_ls_d, k_sti_d, k_stl_d, k_sta_d, k_inc_d, k_add_d, k_sub_d, k_mul_d, k_div_d, k_rem_d, k_and_d, k_or_d, k_xor_d, k_shl_d, k_shr_d, k_ush_d, k_ladd_d, k_lmul_d, k_lrem_d, k_lcmp_d, k_i2l_d, k_l2i_d, k_dup_d, k_pop_d, k_dx1_d, k_d2_d, k_if_d, k_ic_d, k_j_d, k_ts_d, k_lk_d, k_g2_d, k_g1_d, k_g0_d, k_f3_d, k_f2_d, k_f1_d, k_f0_d, k_n1_d, k_n2_d, k_n3_d, k_n4_d, k_n0_d, k_a1_d, k_a2_d, k_a3_d, k_a4_d, k_a0_d, k_r1_d, k_r3_d, k_no_d, k_r0_d, k_s1_d, k_s0_d, k_z_d, exi_iconst, exi_bipush, exi_sipush, exi_lconst, exi_ldc, exi_ldc_w, exi_ldc2_w, exi_iload_n, exi_iload, exi_lload_n, exi_lload, exi_aload_n, exi_aload, exi_istore_n, exi_istore, exi_lstore_n, exi_lstore, exi_astore_n, exi_astore, exi_iinc, exi_iadd, exi_isub, exi_imul, exi_idiv, exi_irem, exi_iand, exi_ior, exi_ixor, exi_ishl, exi_ishr, exi_iushr, exi_ladd, exi_lmul, exi_lrem, exi_lcmp, exi_i2l, exi_l2i, exi_dup, exi_pop, exi_dup_x1, exi_dup2, exi_ifCond, exi_if_icmp, exi_goto, exi_tableswitch, exi_lookupswitch, exi_getfield, exi_putfield, exi_arraylength, exi_iaload, exi_aaload, exi_iastore, exi_ireturn, exi_return_, bco_t, bco_f, os_s, os_n, oo_s, e_i_c, e_ii_c, e_l_c, e_ll_c, e_r_c, e_rr_c, e_ir_c, e_iir_c, e_vr_c, e_1_c, e_2_c, c1_i, c1_r, e_z_c, e_n_c, nth_0, nth_s, nthV_0, nthV_s, setV_0, setV_s, ocons_s, clr_n, clr_i, clr_r, clr_l, stl_0, stl_1, stl_s, stl2_0, stl2_1, stl2_s, mO_d, mI_d, mR_d, mN_d, xO_s, xI_s, xR_s, xN_i, xN_r, ldI_s, ldL_s, ldA_r, ldA_b, ldZ_s, rsel_a, rsel_b, cnd_eq, cnd_ne, cnd_lt, cnd_ge, cnd_gt, cnd_le, jt_d, tsw_n, tsw_c, lsw_n, lsw_c, okT_i, okT_r, okT_n, f9_0, f9_1, f9_2, f9_9, sx0_d, fst_d, snd_d, inR_m5, inR_m4, inR_m3, inR_m2, inR_m1, inR_0, inR_1, inR_2, inR_3, inR_4, inR_5, inR_6, inR_7, inR_8, inR_9, inR_10, inR_11, inR_12, inR_13, inR_14, inR_15, inR_16, inR_17, inR_18, inR_19, inR_20, inR_21, inR_22, inR_23, inR_24, inR_25, inR_26, inR_27, inR_28, inR_29, inR_30, inR_31, inR_32, inR_33, inR_34, inR_35, inR_36, inR_37, inR_38, inR_39, inR_40, inR_41, inR_42, inR_43, inR_44, inR_45, inR_46, inR_47, inR_48, inR_49, inR_50, inR_51, inR_52, inR_53, inR_54, inR_55, inR_56, inR_57, inR_58, inR_59, inR_60, inR_61, inR_62, inR_63, inR_64, inR_65, inR_66, inR_67, inR_68, inR_69, inR_70, inR_71, inR_72, inR_73, inR_74, inR_75, inR_76, inR_77, inR_78, inR_79, inR_80, inR_81, inR_82, inR_83, inR_84, inR_85, inR_86, inR_87, inR_88, inR_89, inR_90, inR_91, inR_92, inR_93, inR_94, inR_95, inR_96, inR_97, inR_98, inR_99, inR_100, inR_101, inR_102, inR_103, inR_104, inR_105, inR_106, inR_107, inR_108, inR_109, inR_110, inR_111, inR_112, inR_113, inR_114, inR_115, inR_116, inR_117, inR_118, inR_119, inR_120, inR_121, inR_122, inR_123, inR_124, inR_125, inR_126, inR_127, inR_173, inR_200, inR_317, inR_9999, inR_65521, inR_1000000, inL_0, inL_1, inL_2, inL_3, inL_6, inL_7, inL_8, inL_20, inL_32, inL_40, inL_48, inL_57, inL_60, inL_80, inL_99, inL_126, inL_9999, wp_i, ↓reduceIte, R_bi, R_bp, R_and, R_or, R_shl, R_shr, bi_01e, bp_01e, zb_d, R_zb, bi_0, bp_0, mu_s, mu_o, dX8_dayGoes_0, dX8_dayGoes_1, dX8_dayGoes_2, dX8_dayGoes_3, dX8_dayGoes_4, gfX8_7, dX8_dayGoes_7, dX8_dayGoes_8, dX8_dayGoes_9, dX8_dayGoes_12, dX8_dayGoes_13, dX8_dayGoes_15, dX8_dayGoes_16, dX8_dayGoes_17, dX8_dayGoes_18, dX8_dayGoes_19, dX8_dayGoes_22, dX8_dayGoes_23, dX8_dayGoes_24, dX8_dayGoes_25, gfX8_131, dX8_dayGoes_28, dX8_dayGoes_29, dX8_dayGoes_30, dX8_dayGoes_33, dX8_dayGoes_36, dX8_dayGoes_37, gfX8_134, dX8_dayGoes_40, dX8_dayGoes_43, gLX8_202, dX8_dayGoes_46, dX8_dayGoes_47, dX8_dayGoes_50, dX8_dayGoes_51, dX8_dayGoes_52, gLX8_204, dX8_dayGoes_55, dX8_dayGoes_56, dX8_dayGoes_57, dX8_dayGoes_58, dX8_dayGoes_59, dX8_dayGoes_60, dX8_dayGoes_61, dX8_dayGoes_62, dX8_dayGoes_63, dX8_dayGoes_64, dX8_dayGoes_65, gLX8_206, dX8_dayGoes_68, dX8_dayGoes_69, dX8_dayGoes_70, dX8_dayGoes_72, dX8_dayGoes_73, dX8_dayGoes_75, dX8_dayGoes_77, dX8_dayGoes_79, dX8_dayGoes_80, dX8_dayGoes_81, dX8_dayGoes_84, dX8_dayGoes_85, dX8_dayGoes_86, dX8_dayGoes_87, dX8_dayGoes_88, dX8_dayGoes_89, dX8_dayGoes_90, dX8_dayGoes_93, dX8_dayGoes_94, dX8_dayGoes_95, dX8_dayGoes_97, dX8_dayGoes_99, dX8_dayGoes_100, dX8_dayGoes_101, dX8_dayGoes_102, dX8_dayGoes_103, dX8_dayGoes_104, dX8_dayGoes_105, dX8_dayGoes_106, dX8_dayGoes_109, dX8_dayGoes_110, dX8_dayGoes_111, dX8_dayGoes_114, dX8_dayGoes_115, dX8_dayGoes_117, dX8_dayGoes_118, dX8_dayGoes_119, dX8_dayGoes_120, dX8_dayGoes_123, dX8_dayGoes_124, dX8_dayGoes_125, dX8_dayGoes_126, dX8_dayGoes_129, dX8_dayGoes_132, dX8_dayGoes_135, dX8_dayGoes_136, dX8_dayGoes_137, dX8_dayGoes_140, dX8_dayGoes_141, dX8_dayGoes_142, gfX8_143, dX8_dayGoes_145, dX8_dayGoes_146, dX8_dayGoes_149, dX8_dayGoes_152, dX8_dayGoes_153, dX8_dayGoes_156, dX8_dayGoes_157, dX8_dayGoes_158, ft8_19, dX8_dayGoes_161, dX8_dayGoes_162, dX8_dayGoes_163, dX8_dayGoes_164, dX8_dayGoes_165, dX8_dayGoes_166, dX8_dayGoes_167, dX8_dayGoes_168, dX8_dayGoes_169, dX8_dayGoes_170, dX8_dayGoes_171, dX8_dayGoes_172, dX8_dayGoes_175, dX8_dayGoes_176, dX8_dayGoes_177, dX8_dayGoes_180, dX8_dayGoes_181, dX8_dayGoes_182, dX8_dayGoes_183, dX8_dayGoes_184, dX8_dayGoes_185, dX8_dayGoes_186, dX8_dayGoes_187, dX8_dayGoes_189, dX8_dayGoes_190, dX8_dayGoes_191, dX8_dayGoes_192, dX8_dayGoes_193, dX8_dayGoes_196, dX8_dayGoes_197, dX8_dayGoes_198, dX8_dayGoes_199, dX8_dayGoes_202, dX8_dayGoes_203, dX8_dayGoes_204, dX8_dayGoes_205, dX8_dayGoes_206, dX8_dayGoes_209, dX8_dayGoes_210, dX8_dayGoes_211, dX8_dayGoes_214, dX8_dayGoes_217, hm3, mo, hd3, ht3]
  refine AM.V (m_tells ⟨hm3, hd3, ht3, ⟨f3, hO3⟩⟩ hta hD g1 g2) lkX8_211 (hm3) rfl dX8_dayGoes_137 rfl (Nat.le_of_ble_eq_true rfl) ⟨(Nat.le_of_ble_eq_true rfl), (Nat.le_of_ble_eq_true rfl)⟩ (fun r_ M_ h_ => ?_)
  obtain ⟨rfl, p4⟩ := h_
  obtain ⟨⟨hm4, hd4, ht4, ⟨f4, hO4⟩⟩, hF4⟩ := p4
  have hc19 : 0 ≤ (telF ng (goersF δ nb (dy2 nb s n) ng)).1 19 ∧ (telF ng (goersF δ nb (dy2 nb s n) ng)).1 19 ≤ 9 := g2.2.2.2.2.2.1
  have ht0 : 0 ≤ ix (telF ng (goersF δ nb (dy2 nb s n) ng)).2 0 ∧ ix (telF ng (goersF δ nb (dy2 nb s n) ng)).2 0 ≤ 1000 := hg0
  have hday : dayF δ nb ng s n = ((loF (telF ng (goersF δ nb (dy2 nb s n) ng))).1, clrT (fz (telF ng (goersF δ nb (dy2 nb s n) ng)).2 0 (ix (telF ng (goersF δ nb (dy2 nb s n) ng)).2 0 + 1)) nb) := rfl
  rw [hday] at hQQ
  clear hday
  generalize telF ng (goersF δ nb (dy2 nb s n) ng) = t at *
  have fin : ∀ x, x = t.1 19 - (if 0 < t.1 19 then 1 else 0) → AM 6 yX8_dayGoes cX8_dayGoes 6 0 QQ 170 [some (ar 133), some (ar ta), some (ai n), some (ai 0), o4, o5] [] (mu (mu M_ 133 (mo (fu t.1 19 x))) ta (ci_ 317 (fz t.2 0 (ix t.2 0 + 1)))) := by
    intro x hx
    have e1 : ix (fz t.2 0 (ix t.2 0 + 1)) 0 = ix t.2 0 + 1 := ix_s
    refine m_day_5 (M0 := M) (c := (loF t).1) (T := fz t.2 0 (ix t.2 0 + 1)) hta hD (by omega) (fun M5 p5 => ?_) nb 0 _ (by omega) ⟨⟨?_, ?_, mu_s _ _ _, f4, ?_⟩, hF3.t (hF4.t (fun k a _ c => ?_))⟩
    · subst hQQ; exact ⟨rfl, p5⟩
    · rw [mu_o (by omega), mu_s, hx]; rfl
    · rw [mu_o (by omega), mu_o (by omega)]; exact hd4
    · rw [mu_o (by omega), mu_o (by omega)]; exact hO4
    · rw [mu_o c, mu_o a]
  refine AM.go RX8 400 [170] rfl ?_
  simp -implicitDefEqProofs (disch := omega) only [wp_0, wp_1, fv0, fv1, fv2, fv3, fw0, fw1, Nat.reduceAdd, Int.reduceNatCast', Int.cast_ofNat_Int, Int.reduceAdd, Int.reduceNeg, Int.reduceToNat, Int.reduceLE, Int.reduceLT, Int.reduceSub, Int.reduceMul, Int.reduceEq, Nat.reduceLeDiff, Nat.reduceEqDiff, List.contains_cons, List.contains_nil, Nat.reduceBEq, Bool.or_true, Bool.or_false, Bool.false_or, Bool.true_or, Bool.false_eq_true, reduceIte, Option.map_some, Option.toList_some, Option.toList_none, List.cons_append, List.nil_append, true_and, and_true, and_self, false_or, or_false, true_or, or_true, not_true_eq_false, not_false_eq_true, false_and, and_false, forall_const, true_implies, k_p_d, k_pi_d, k_pl_d, k_ls_d, k_sti_d, k_stl_d, k_sta_d, k_inc_d, k_add_d, k_sub_d, k_mul_d, k_div_d, k_rem_d, k_and_d, k_or_d, k_xor_d, k_shl_d, k_shr_d, k_ush_d, k_ladd_d, k_lmul_d, k_lrem_d, k_lcmp_d, k_i2l_d, k_l2i_d, k_dup_d, k_pop_d, k_dx1_d, k_d2_d, k_if_d, k_ic_d, k_j_d, k_ts_d, k_lk_d, k_g2_d, k_g1_d, k_g0_d, k_f3_d, k_f2_d, k_f1_d, k_f0_d, k_n1_d, k_n2_d, k_n3_d, k_n4_d, k_n0_d, k_a1_d, k_a2_d, k_a3_d, k_a4_d, k_a0_d, k_r1_d, k_r3_d, k_no_d, k_r0_d, k_s1_d, k_s0_d, k_z_d, exi_iconst, exi_bipush, exi_sipush, exi_lconst, exi_ldc, exi_ldc_w, exi_ldc2_w, exi_iload_n, exi_iload, exi_lload_n, exi_lload, exi_aload_n, exi_aload, exi_istore_n, exi_istore, exi_lstore_n, exi_lstore, exi_astore_n, exi_astore, exi_iinc, exi_iadd, exi_isub, exi_imul, exi_idiv, exi_irem, exi_iand, exi_ior, exi_ixor, exi_ishl, exi_ishr, exi_iushr, exi_ladd, exi_lmul, exi_lrem, exi_lcmp, exi_i2l, exi_l2i, exi_dup, exi_pop, exi_dup_x1, exi_dup2, exi_ifCond, exi_if_icmp, exi_goto, exi_tableswitch, exi_lookupswitch, exi_getfield, exi_putfield, exi_arraylength, exi_iaload, exi_aaload, exi_iastore, exi_ireturn, exi_return_, bco_t, bco_f, os_s, os_n, oo_s, e_i_c, e_ii_c, e_l_c, e_ll_c, e_r_c, e_rr_c, e_ir_c, e_iir_c, e_vr_c, e_1_c, e_2_c, c1_i, c1_r, e_z_c, e_n_c, nth_0, nth_s, nthV_0, nthV_s, setV_0, setV_s, ocons_s, clr_n, clr_i, clr_r, clr_l, stl_0, stl_1, stl_s, stl2_0, stl2_1, stl2_s, mO_d, mI_d, mR_d, mN_d, xO_s, xI_s, xR_s, xN_i, xN_r, ldI_s, ldL_s, ldA_r, ldA_b, ldZ_s, rsel_a, rsel_b, cnd_eq, cnd_ne, cnd_lt, cnd_ge, cnd_gt, cnd_le, jt_d, tsw_n, tsw_c, lsw_n, lsw_c, okT_i, okT_r, okT_n, f9_0, f9_1, f9_2, f9_9, sx0_d, fst_d, snd_d, inR_m5, inR_m4, inR_m3, inR_m2, inR_m1, inR_0, inR_1, inR_2, inR_3, inR_4, inR_5, inR_6, inR_7, inR_8, inR_9, inR_10, inR_11, inR_12, inR_13, inR_14, inR_15, inR_16, inR_17, inR_18, inR_19, inR_20, inR_21, inR_22, inR_23, inR_24, inR_25, inR_26, inR_27, inR_28, inR_29, inR_30, inR_31, inR_32, inR_33, inR_34, inR_35, inR_36, inR_37, inR_38, inR_39, inR_40, inR_41, inR_42, inR_43, inR_44, inR_45, inR_46, inR_47, inR_48, inR_49, inR_50, inR_51, inR_52, inR_53, inR_54, inR_55, inR_56, inR_57, inR_58, inR_59, inR_60, inR_61, inR_62, inR_63, inR_64, inR_65, inR_66, inR_67, inR_68, inR_69, inR_70, inR_71, inR_72, inR_73, inR_74, inR_75, inR_76, inR_77, inR_78, inR_79, inR_80, inR_81, inR_82, inR_83, inR_84, inR_85, inR_86, inR_87, inR_88, inR_89, inR_90, inR_91, inR_92, inR_93, inR_94, inR_95, inR_96, inR_97, inR_98, inR_99, inR_100, inR_101, inR_102, inR_103, inR_104, inR_105, inR_106, inR_107, inR_108, inR_109, inR_110, inR_111, inR_112, inR_113, inR_114, inR_115, inR_116, inR_117, inR_118, inR_119, inR_120, inR_121, inR_122, inR_123, inR_124, inR_125, inR_126, inR_127, inR_173, inR_200, inR_317, inR_9999, inR_65521, inR_1000000, inL_0, inL_1, inL_2, inL_3, inL_6, inL_7, inL_8, inL_20, inL_32, inL_40, inL_48, inL_57, inL_60, inL_80, inL_99, inL_126, inL_9999, wp_i, ↓reduceIte, R_bi, R_bp, R_and, R_or, R_shl, R_shr, bi_01e, bp_01e, zb_d, R_zb, bi_0, bp_0, mu_s, mu_o, dX8_dayGoes_0, dX8_dayGoes_1, dX8_dayGoes_2, dX8_dayGoes_3, dX8_dayGoes_4, gfX8_7, dX8_dayGoes_7, dX8_dayGoes_8, dX8_dayGoes_9, dX8_dayGoes_12, dX8_dayGoes_13, dX8_dayGoes_15, dX8_dayGoes_16, dX8_dayGoes_17, dX8_dayGoes_18, dX8_dayGoes_19, dX8_dayGoes_22, dX8_dayGoes_23, dX8_dayGoes_24, dX8_dayGoes_25, gfX8_131, dX8_dayGoes_28, dX8_dayGoes_29, dX8_dayGoes_30, dX8_dayGoes_33, dX8_dayGoes_36, dX8_dayGoes_37, gfX8_134, dX8_dayGoes_40, dX8_dayGoes_43, gLX8_202, dX8_dayGoes_46, dX8_dayGoes_47, dX8_dayGoes_50, dX8_dayGoes_51, dX8_dayGoes_52, gLX8_204, dX8_dayGoes_55, dX8_dayGoes_56, dX8_dayGoes_57, dX8_dayGoes_58, dX8_dayGoes_59, dX8_dayGoes_60, dX8_dayGoes_61, dX8_dayGoes_62, dX8_dayGoes_63, dX8_dayGoes_64, dX8_dayGoes_65, gLX8_206, dX8_dayGoes_68, dX8_dayGoes_69, dX8_dayGoes_70, dX8_dayGoes_72, dX8_dayGoes_73, dX8_dayGoes_75, dX8_dayGoes_77, dX8_dayGoes_79, dX8_dayGoes_80, dX8_dayGoes_81, dX8_dayGoes_84, dX8_dayGoes_85, dX8_dayGoes_86, dX8_dayGoes_87, dX8_dayGoes_88, dX8_dayGoes_89, dX8_dayGoes_90, dX8_dayGoes_93, dX8_dayGoes_94, dX8_dayGoes_95, dX8_dayGoes_97, dX8_dayGoes_99, dX8_dayGoes_100, dX8_dayGoes_101, dX8_dayGoes_102, dX8_dayGoes_103, dX8_dayGoes_104, dX8_dayGoes_105, dX8_dayGoes_106, dX8_dayGoes_109, dX8_dayGoes_110, dX8_dayGoes_111, dX8_dayGoes_114, dX8_dayGoes_115, dX8_dayGoes_117, dX8_dayGoes_118, dX8_dayGoes_119, dX8_dayGoes_120, dX8_dayGoes_123, dX8_dayGoes_124, dX8_dayGoes_125, dX8_dayGoes_126, dX8_dayGoes_129, dX8_dayGoes_132, dX8_dayGoes_135, dX8_dayGoes_136, dX8_dayGoes_137, dX8_dayGoes_140, dX8_dayGoes_141, dX8_dayGoes_142, gfX8_143, dX8_dayGoes_145, dX8_dayGoes_146, dX8_dayGoes_149, dX8_dayGoes_152, dX8_dayGoes_153, dX8_dayGoes_156, dX8_dayGoes_157, dX8_dayGoes_158, ft8_19, dX8_dayGoes_161, dX8_dayGoes_162, dX8_dayGoes_163, dX8_dayGoes_164, dX8_dayGoes_165, dX8_dayGoes_166, dX8_dayGoes_167, dX8_dayGoes_168, dX8_dayGoes_169, dX8_dayGoes_170, dX8_dayGoes_171, dX8_dayGoes_172, dX8_dayGoes_175, dX8_dayGoes_176, dX8_dayGoes_177, dX8_dayGoes_180, dX8_dayGoes_181, dX8_dayGoes_182, dX8_dayGoes_183, dX8_dayGoes_184, dX8_dayGoes_185, dX8_dayGoes_186, dX8_dayGoes_187, dX8_dayGoes_189, dX8_dayGoes_190, dX8_dayGoes_191, dX8_dayGoes_192, dX8_dayGoes_193, dX8_dayGoes_196, dX8_dayGoes_197, dX8_dayGoes_198, dX8_dayGoes_199, dX8_dayGoes_202, dX8_dayGoes_203, dX8_dayGoes_204, dX8_dayGoes_205, dX8_dayGoes_206, dX8_dayGoes_209, dX8_dayGoes_210, dX8_dayGoes_211, dX8_dayGoes_214, dX8_dayGoes_217, hm4, mo, hd4, ht4]
  (repeat' (first | with_reducible refine And.intro ?_ ?_ | (with_reducible refine imp_i ?_; intro _))) <;> try (first | with_reducible assumption | (exfalso; with_reducible assumption) | omega)
  · exact fin _ (by rw [if_neg (by omega)])
  · exact fin _ (by rw [if_pos (by omega)])
