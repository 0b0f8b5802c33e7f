/-! pure: what a goer does keeps the state good -/
theorem ix_z {f : Nat → Int} {z w x : Int} (hz : 0 ≤ z) (hw : 0 ≤ w) : ix (fz f z x) w = if w = z then x else ix f w := by
  by_cases h : w = z
  · subst h; rw [ix_s, if_pos rfl]
  · rw [ix_n hz hw h, if_neg h]
/-- as GS, but that the goer e may be where he is bound -/
def GX (δ T : Nat → Int) (nb ng ni : Nat) (v e : Int) : Prop :=
  (0 ≤ ix T 0 ∧ ix T 0 ≤ 1000) ∧
  (∀ b : Int, 0 ≤ b → b < nb → (ix T (10 + b) = 0 ∨ ix T (10 + b) = 1) ∧ ix T (29 + 16 * b + ix T 0 % 16) ≤ v ∧ ∀ d : Int, 0 ≤ d → d < 16 → 0 ≤ ix T (173 + 16 * b + d) ∧ ix T (173 + 16 * b + d) ≤ ix T (29 + 16 * b + d) ∧ ix T (29 + 16 * b + d) ≤ 1000) ∧
  (∀ i : Int, 0 ≤ i → i < ng → (-1 ≤ ix T (19 + i) ∧ ix T (19 + i) < ni) ∧ (ix T (24 + i) = ix δ (40 + i) ∨ ix T (24 + i) = ix δ (45 + i)) ∧ (i ≠ e → ix T (19 + i) ≠ ix T (24 + i)))
theorem GS.x {δ T : Nat → Int} {nb ng ni : Nat} {v e : Int} (h : GS δ T nb ng ni v) : GX δ T nb ng ni v e := ⟨h.1, h.2.1, fun i h1 h2 => ⟨(h.2.2 i h1 h2).1, (h.2.2 i h1 h2).2.1, fun _ => (h.2.2 i h1 h2).2.2⟩⟩
theorem GS.le {δ T : Nat → Int} {nb ng ni : Nat} {v w : Int} (h : GS δ T nb ng ni v) (hw : v ≤ w) : GS δ T nb ng ni w := ⟨h.1, fun b h1 h2 => ⟨(h.2.1 b h1 h2).1, Int.le_trans (h.2.1 b h1 h2).2.1 hw, (h.2.1 b h1 h2).2.2⟩, h.2.2⟩
theorem GX.le {δ T : Nat → Int} {nb ng ni : Nat} {v w e : Int} (h : GX δ T nb ng ni v e) (hw : v ≤ w) : GX δ T nb ng ni w e := ⟨h.1, fun b h1 h2 => ⟨(h.2.1 b h1 h2).1, Int.le_trans (h.2.1 b h1 h2).2.1 hw, (h.2.1 b h1 h2).2.2⟩, h.2.2⟩
section GOOD
variable {δ : Nat → Int} {nb ng ni : Nat} {v e : Int} {s : PS}
theorem giv_x {b p : Int} (h9 : nb ≤ 9) (h5 : ng ≤ 5) (h : GX δ s.2 nb ng ni v e) (hb : 0 ≤ b ∧ b < nb) (hp : 0 ≤ p) (hv : v + p ≤ 1000) : GX δ (givF s b p).2 nb ng ni (v + p) e := by
  obtain ⟨h0, h1, h2⟩ := h
  obtain ⟨c, T⟩ := s
  simp only at *
  have r := h1 b hb.1 hb.2
  unfold givF
  simp only
  rw [rg_e (by omega)]
  have e0 : ix (fz T (29 + 16 * b + ix T 0 % 16) (ix T (29 + 16 * b + ix T 0 % 16) + p)) 0 = ix T 0 := ix_n (by omega) (by omega) (by omega)
  refine ⟨by rw [e0]; exact h0, fun a a1 a2 => ?_, fun i i1 i2 => ?_⟩
  · rw [e0]
    have q := h1 a a1 a2
    refine ⟨?_, ?_, fun d d1 d2 => ?_⟩
    · rw [ix_n (by omega) (by omega) (by omega)]; exact q.1
    · rw [ix_z (by omega) (by omega)]; split <;> omega
    · have q2 := q.2.2 d d1 d2
      rw [ix_z (by omega) (by omega), ix_z (by omega) (by omega)]
      rw [if_neg (by omega)]
      split
      · rename_i hh
        have : a = b := by omega
        subst this
        have : d = ix T 0 % 16 := by omega
        subst this
        omega
      · exact q2
  · rw [ix_n (by omega) (by omega) (by omega), ix_n (by omega) (by omega) (by omega)]; exact h2 i i1 i2
theorem stl_x {b p : Int} (h9 : nb ≤ 9) (h5 : ng ≤ 5) (h : GX δ s.2 nb ng ni v e) (hb : 0 ≤ b ∧ b < nb) (hp : 0 ≤ p) : GX δ (stlF s b p).2 nb ng ni v e := by
  by_cases hg : ix s.2 (10 + b) = 0
  · obtain ⟨h0, h1, h2⟩ := h
    obtain ⟨c, T⟩ := s
    simp only at *
    have r := h1 b hb.1 hb.2
    have r2 := r.2.2 (ix T 0 % 16) (by omega) (by omega)
    unfold stlF
    simp only
    rw [if_pos hg]
    have hmu : 0 ≤ much T b p ∧ much T b p ≤ ix T (29 + 16 * b + ix T 0 % 16) - ix T (173 + 16 * b + ix T 0 % 16) := by
      unfold much; rw [rg_e (by omega), rg_e (by omega)]; split <;> omega
    generalize much T b p = m at *
    simp only
    rw [rg_e (by omega)]
    have e0 : ix (fz T (173 + 16 * b + ix T 0 % 16) (ix T (173 + 16 * b + ix T 0 % 16) + m)) 0 = ix T 0 := ix_n (by omega) (by omega) (by omega)
    refine ⟨by rw [e0]; exact h0, fun a a1 a2 => ?_, fun i i1 i2 => ?_⟩
    · rw [e0]
      have q := h1 a a1 a2
      refine ⟨?_, ?_, fun d d1 d2 => ?_⟩
      · rw [ix_n (by omega) (by omega) (by omega)]; exact q.1
      · rw [ix_n (by omega) (by omega) (by omega)]; exact q.2.1
      · have q2 := q.2.2 d d1 d2
        rw [ix_z (by omega) (by omega), ix_z (by omega) (by omega)]
        rw [if_neg (by omega : ¬ 29 + 16 * a + d = 173 + 16 * b + ix T 0 % 16)]
        split
        · rename_i hh
          have : a = b := by omega
          subst this
          have : d = ix T 0 % 16 := by omega
          subst this
          omega
        · exact q2
    · rw [ix_n (by omega) (by omega) (by omega), ix_n (by omega) (by omega) (by omega)]; exact h2 i i1 i2
  · have : stlF s b p = s := by unfold stlF; rw [if_neg hg]
    rw [this]; exact h
theorem gv_x {i b : Int} (h9 : nb ≤ 9) (h5 : ng ≤ 5) (h : GX δ s.2 nb ng ni v e) (hb : 0 ≤ b ∧ b < nb) (hp : 0 ≤ ix δ (55 + i) ∧ ix δ (55 + i) ≤ 20) (hv : v + 20 ≤ 1000) : GX δ (gvF δ s i b).2 nb ng ni (v + 20) e := by
  unfold gvF
  split
  · exact (stl_x h9 h5 h hb hp.1).le (by omega)
  · split
    · exact (giv_x h9 h5 h hb hp.1 (by omega)).le (by omega)
    · exact h.le (by omega)
theorem mv_x {T : Nat → Int} {i x : Int} (h9 : nb ≤ 9) (h5 : ng ≤ 5) (h : GS δ T nb ng ni v) (hi : 0 ≤ i ∧ i < ng) (hx : -1 ≤ x ∧ x < ni) : GX δ (fz T (19 + i) x) nb ng ni v i := by
  obtain ⟨h0, h1, h2⟩ := h
  have e0 : ix (fz T (19 + i) x) 0 = ix T 0 := ix_n (by omega) (by omega) (by omega)
  refine ⟨by rw [e0]; exact h0, fun a a1 a2 => ?_, fun j i1 i2 => ?_⟩
  · rw [e0]
    have q := h1 a a1 a2
    refine ⟨?_, ?_, fun d d1 d2 => ?_⟩
    · rw [ix_n (by omega) (by omega) (by omega)]; exact q.1
    · rw [ix_n (by omega) (by omega) (by omega)]; exact q.2.1
    · rw [ix_n (by omega) (by omega) (by omega), ix_n (by omega) (by omega) (by omega)]; exact q.2.2 d d1 d2
  · have q := h2 j i1 i2
    rw [ix_n (by omega) (by omega) (by omega : 24 + j ≠ 19 + i), ix_z (by omega) (by omega)]
    split
    · refine ⟨hx, q.2.1, fun hh => absurd ?_ hh⟩; omega
    · exact ⟨q.1, q.2.1, fun _ => q.2.2⟩
theorem tr_x {i : Int} (h9 : nb ≤ 9) (hD : GD δ nb ng ni) (h : GX δ s.2 nb ng ni v i) (hi : 0 ≤ i ∧ i < ng) : GS δ (trF δ s i).2 nb ng ni v := by
  have h5 := hD.2.1.2.2.2.2
  have hdi := hD.2.2.2.2 i hi.1 hi.2
  obtain ⟨h0, h1, h2⟩ := h
  have hi2 := h2 i hi.1 hi.2
  unfold trF
  split
  · rename_i hq
    obtain ⟨c, T⟩ := s
    simp only at *
    generalize hy : (if ix T (24 + i) = ix δ (40 + i) then ix δ (45 + i) else ix δ (40 + i)) = y
    have hy2 : (y = ix δ (40 + i) ∨ y = ix δ (45 + i)) ∧ y ≠ ix T (24 + i) := by
      split at hy <;> omega
    have e0 : ix (fz T (24 + i) y) 0 = ix T 0 := ix_n (by omega) (by omega) (by omega)
    refine ⟨by rw [e0]; exact h0, fun a a1 a2 => ?_, fun j i1 i2 => ?_⟩
    · rw [e0]
      have q := h1 a a1 a2
      refine ⟨?_, ?_, fun d d1 d2 => ?_⟩
      · rw [ix_n (by omega) (by omega) (by omega)]; exact q.1
      · rw [ix_n (by omega) (by omega) (by omega)]; exact q.2.1
      · rw [ix_n (by omega) (by omega) (by omega), ix_n (by omega) (by omega) (by omega)]; exact q.2.2 d d1 d2
    · have q := h2 j i1 i2
      rw [ix_n (by omega) (by omega) (by omega : 19 + j ≠ 24 + i), ix_z (by omega) (by omega)]
      split
      · rename_i hh
        have : j = i := by omega
        subst this
        exact ⟨q.1, hy2.1, fun hh => hy2.2 (by omega)⟩
      · exact ⟨q.1, q.2.1, q.2.2 (by omega)⟩
  · rename_i hq
    refine ⟨h0, h1, fun j i1 i2 => ?_⟩
    have q := h2 j i1 i2
    refine ⟨q.1, q.2.1, fun hh => ?_⟩
    by_cases hj : j = i
    · subst hj; exact hq hh
    · exact q.2.2 hj hh
theorem GX.gs (h : GX δ s.2 nb ng ni v (-1)) : GS δ s.2 nb ng ni v := ⟨h.1, h.2.1, fun i h1 h2 => ⟨(h.2.2 i h1 h2).1, (h.2.2 i h1 h2).2.1, (h.2.2 i h1 h2).2.2 (by omega)⟩⟩
theorem en_B {b p : Int} (hD : GD δ nb ng ni) (hb : 0 ≤ b ∧ b < nb) : -1 ≤ en δ b p ∧ en δ b p < ni := by
  have := hD.2.2.2.1 b hb.1 hb.2
  unfold en; split <;> (try split) <;> omega
theorem go_s {i : Int} (hD : GD δ nb ng ni) (h : GS δ s.2 nb ng ni v) (hi : 0 ≤ i ∧ i < ng) (hv : v + 20 ≤ 1000) : GS δ (goF δ nb s i).2 nb ng ni (v + 20) := by
  have h9 := hD.2.1.2.2.2.1
  have h5 := hD.2.1.2.2.2.2
  have hn := hD.2.1
  have hdi := hD.2.2.2.2 i hi.1 hi.2
  have htk := tk_B (c := s.1) (δ := δ) (T := s.2) (nb := nb) (i := i)
  have hbd := GS.bound hD h hi
  unfold goF
  split
  · unfold wtF
    split
    · rename_i hq
      have hb := fst_B (P := fun b => 0 ≤ en δ b (ix s.2 (19 + i))) (m := nb)
      have hq2 : ¬ fst_ (fun b => 0 ≤ en δ b (ix s.2 (19 + i))) nb 0 = -4 := hq.2
      have hx : 0 ≤ besid δ nb (ix s.2 (19 + i)) ∧ besid δ nb (ix s.2 (19 + i)) < nb := by unfold besid; omega
      exact GX.gs ((giv_x (s := (wt0 s.1, s.2)) h9 h5 h.x hx (by omega) (by omega)).le (by omega))
    · exact h.le (by omega)
  · split
    · have := mv_x h9 h5 h hi (x := -1) (by omega)
      refine GS.le ⟨this.1, this.2.1, fun j h1 h2 => ?_⟩ (by omega : v ≤ v + 20)
      have q := this.2.2 j h1 h2
      refine ⟨q.1, q.2.1, fun hh => ?_⟩
      by_cases hj : j = i
      · subst hj
        rw [ix_s, ix_n (by omega) (by omega) (by omega)] at hh
        omega
      · exact q.2.2 hj hh
    · have hb : 0 ≤ tk s.1 δ s.2 nb i ∧ tk s.1 δ s.2 nb i < nb := by omega
      unfold crF
      exact tr_x h9 hD (gv_x (s := (s.1, fz s.2 (19 + i) (en δ (tk s.1 δ s.2 nb i) (ix s.2 (19 + i))))) h9 h5 (mv_x h9 h5 h hi (en_B hD hb)) hb (by omega) (by omega)) hi
/-- what a goer leaves as it was in the other numbers -/
theorem go_c {i : Int} : (∀ k, ¬ k = 20 → ¬ k = 21 → ¬ k = 22 → ¬ k = 23 → (goF δ nb s i).1 k = s.1 k) ∧ (s.1 20 ≤ (goF δ nb s i).1 20 ∧ (goF δ nb s i).1 20 ≤ s.1 20 + 1) ∧ (s.1 21 ≤ (goF δ nb s i).1 21 ∧ (goF δ nb s i).1 21 ≤ s.1 21 + 1) := by
  unfold goF wtF crF trF gvF givF stlF wt0
  repeat' split
  all_goals simp only [fu]
  all_goals refine ⟨fun k a b c d => ?_, ?_, ?_⟩
  all_goals simp_all
  all_goals omega
end GOOD
