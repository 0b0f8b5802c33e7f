/-! pure: days of which the first ones are left out, beside days of which none is -/
def LO (s r : PS) : Prop := r.2 = s.2 ∧ ∀ j, ¬ j = 19 → ¬ j = 20 → r.1 j = s.1 j
def LK2 (s r s' r' : PS) : Prop := LO s' r' ∧ ∀ k, k = 19 ∨ k = 20 → s'.1 k = s.1 k ∧ r'.1 k = r.1 k
theorem fu_lo {c c' : Nat → Int} {k : Nat} {x x' : Int} (h : ∀ j, ¬ j = 19 → ¬ j = 20 → c' j = c j) (hx : x' = x) : ∀ j, ¬ j = 19 → ¬ j = 20 → fu c' k x' j = fu c k x j := fun j a b => by
  unfold fu
  split
  · exact hx
  · exact h j a b
section LOS
variable {δ : Nat → Int} {nb : Nat} {s r : PS} {i b p : Int}
theorem lo_giv (h : LO s r) : LK2 s r (givF s b p) (givF r b p) := by
  unfold givF
  refine ⟨⟨?_, fu_lo h.2 (by rw [h.2 22 (by decide) (by decide)])⟩, fun k hk => ⟨fu_n _ _ (by omega), fu_n _ _ (by omega)⟩⟩
  show fz r.2 _ _ = fz s.2 _ _
  rw [h.1]
theorem lo_stl (h : LO s r) : LK2 s r (stlF s b p) (stlF r b p) := by
  unfold stlF
  rw [h.1]
  split
  · refine ⟨⟨rfl, fu_lo h.2 (by rw [h.2 23 (by decide) (by decide)])⟩, fun k hk => ⟨fu_n _ _ (by omega), fu_n _ _ (by omega)⟩⟩
  · exact ⟨h, fun k _ => ⟨rfl, rfl⟩⟩
theorem lo_gv (h : LO s r) : LK2 s r (gvF δ s i b) (gvF δ r i b) := by
  unfold gvF
  rw [h.1]
  split
  · exact lo_stl h
  · split
    · exact lo_giv h
    · exact ⟨h, fun k _ => ⟨rfl, rfl⟩⟩
theorem lo_tr (h : LO s r) : LK2 s r (trF δ s i) (trF δ r i) := by
  unfold trF
  rw [h.1]
  split
  · exact ⟨⟨rfl, h.2⟩, fun k _ => ⟨rfl, rfl⟩⟩
  · exact ⟨h, fun k _ => ⟨rfl, rfl⟩⟩
theorem LK2.t {s' r' s'' r'' : PS} (h1 : LK2 s r s' r') (h2 : LK2 s' r' s'' r'') : LK2 s r s'' r'' := ⟨h2.1, fun k hk => ⟨(h2.2 k hk).1.trans (h1.2 k hk).1, (h2.2 k hk).2.trans (h1.2 k hk).2⟩⟩
theorem lo_cr (h : LO s r) : LK2 s r (crF δ s i b) (crF δ r i b) := by
  unfold crF
  have h0 : LK2 s r (s.1, fz s.2 (19 + i) (en δ b (ix s.2 (19 + i)))) (r.1, fz r.2 (19 + i) (en δ b (ix r.2 (19 + i)))) := by
    rw [h.1]; exact ⟨⟨rfl, h.2⟩, fun k _ => ⟨rfl, rfl⟩⟩
  exact (h0.t (lo_gv h0.1)).t (lo_tr (lo_gv h0.1).1)
/-- what a goer does when some days are left out -/
theorem lo_go (h : LO s r) (h19 : s.1 19 = 0) : LO (goF δ nb s i) (goF δ nb r i) ∧ (goF δ nb s i).1 19 = 0 ∧ (goF δ nb r i).1 19 = r.1 19 ∧ (goF δ nb r i).1 20 = r.1 20 + (if 0 < r.1 19 then 0 else (goF δ nb s i).1 20 - s.1 20) := by
  have hm : ∀ j, mtake r.1 δ r.2 j = mtake s.1 δ s.2 j := fun j => by
    funext b
    unfold mtake sh
    rw [h.1, h.2 13 (by decide) (by decide), h.2 14 (by decide) (by decide), h.2 17 (by decide) (by decide), h.2 18 (by decide) (by decide)]
  have ht : tk r.1 δ r.2 nb i = tk s.1 δ s.2 nb i := by unfold tk; rw [hm, h.1]
  have hp : ∀ b, pl r.1 r.2 b = pl s.1 s.2 b := fun b => by
    unfold pl sh
    rw [h.1, h.2 13 (by decide) (by decide), h.2 14 (by decide) (by decide)]
  unfold goF
  rw [ht, hp]
  split
  · have h0 : LO (wt0 s.1, s.2) (wt0 r.1, r.2) := ⟨h.1, fun j a b => by show fu r.1 20 _ j = fu s.1 20 _ j; rw [fu_n _ _ b, fu_n _ _ b]; exact h.2 j a b⟩
    have e1 : wt0 s.1 20 = s.1 20 + 1 := by unfold wt0; rw [fu_s, h19]; rfl
    have e2 : wt0 r.1 20 = r.1 20 + (if 0 < r.1 19 then 0 else 1) := by unfold wt0; rw [fu_s]
    have e3 : wt0 s.1 19 = 0 := by unfold wt0; rw [fu_n _ _ (by decide)]; exact h19
    have e4 : wt0 r.1 19 = r.1 19 := by unfold wt0; rw [fu_n _ _ (by decide)]
    have fin : ∀ s' r' : PS, LK2 (wt0 s.1, s.2) (wt0 r.1, r.2) s' r' → LO s' r' ∧ s'.1 19 = 0 ∧ r'.1 19 = r.1 19 ∧ r'.1 20 = r.1 20 + (if 0 < r.1 19 then 0 else s'.1 20 - s.1 20) := by
      intro s' r' hk
      have k19 := hk.2 19 (Or.inl rfl)
      have k20 := hk.2 20 (Or.inr rfl)
      refine ⟨hk.1, k19.1.trans e3, k19.2.trans e4, ?_⟩
      have q1 : s'.1 20 = s.1 20 + 1 := k20.1.trans e1
      have q2 : r'.1 20 = r.1 20 + (if 0 < r.1 19 then 0 else 1) := k20.2.trans e2
      rw [q1, q2]
      split <;> omega
    unfold wtF
    rw [h.1]
    split
    · rw [h.1] at h0
      have := fin _ _ (by rw [h.1]; exact lo_giv (b := besid δ nb (ix s.2 (19 + i))) (p := ix δ (55 + i)) h0)
      exact this
    · have := fin _ _ ⟨h0, fun k _ => ⟨rfl, rfl⟩⟩
      rw [h.1] at this
      exact this
  · have fin : ∀ s' r' : PS, LK2 s r s' r' → LO s' r' ∧ s'.1 19 = 0 ∧ r'.1 19 = r.1 19 ∧ r'.1 20 = r.1 20 + (if 0 < r.1 19 then 0 else s'.1 20 - s.1 20) := by
      intro s' r' hk
      have k19 := hk.2 19 (Or.inl rfl)
      have k20 := hk.2 20 (Or.inr rfl)
      refine ⟨hk.1, k19.1.trans h19, k19.2, ?_⟩
      rw [k20.2, k20.1]
      split <;> omega
    split
    · refine fin _ _ ⟨⟨?_, fu_lo h.2 (by rw [h.2 21 (by decide) (by decide)])⟩, fun k hk => ⟨fu_n _ _ (by omega), fu_n _ _ (by omega)⟩⟩
      show fz r.2 _ _ = fz s.2 _ _
      rw [h.1]
    · exact fin _ _ (lo_cr h)
theorem lo_goers (h : LO s r) (h19 : s.1 19 = 0) : ∀ n : Nat, LO (goersF δ nb s n) (goersF δ nb r n) ∧ (goersF δ nb s n).1 19 = 0 ∧ (goersF δ nb r n).1 19 = r.1 19 ∧ (goersF δ nb r n).1 20 = r.1 20 + (if 0 < r.1 19 then 0 else (goersF δ nb s n).1 20 - s.1 20)
  | 0 => ⟨h, h19, rfl, (by split <;> omega : r.1 20 = r.1 20 + (if 0 < r.1 19 then 0 else s.1 20 - s.1 20))⟩
  | n + 1 => by
    obtain ⟨i1, i2, i3, i4⟩ := lo_goers h h19 n
    have key : ∀ s' r' : PS, s' = goersF δ nb s (n + 1) → r' = goersF δ nb r (n + 1) → LO s' r' ∧ s'.1 19 = 0 ∧ r'.1 19 = r.1 19 ∧ r'.1 20 = r.1 20 + (if 0 < r.1 19 then 0 else s'.1 20 - s.1 20) := by
      intro s' r' hs hr
      have es : goersF δ nb s (n + 1) = if 0 ≤ ix (goersF δ nb s n).2 (19 + (n : Int)) then goF δ nb (goersF δ nb s n) n else goersF δ nb s n := rfl
      have er : goersF δ nb r (n + 1) = if 0 ≤ ix (goersF δ nb r n).2 (19 + (n : Int)) then goF δ nb (goersF δ nb r n) n else goersF δ nb r n := rfl
      rw [es] at hs
      rw [er, i1.1] at hr
      by_cases hc : 0 ≤ ix (goersF δ nb s n).2 (19 + (n : Int))
      · rw [if_pos hc] at hs hr
        obtain ⟨j1, j2, j3, j4⟩ := lo_go (δ := δ) (nb := nb) (i := n) i1 i2
        rw [← hs, ← hr] at j1
        rw [← hs] at j2 j4
        rw [← hr] at j3 j4
        refine ⟨j1, j2, j3.trans i3, ?_⟩
        rw [j4, i4, i3]
        split <;> omega
      · rw [if_neg hc] at hs hr
        rw [hs, hr]
        exact ⟨i1, i2, i3, i4⟩
    exact key _ _ rfl rfl
theorem lo_day {ng : Nat} {k : Int} (h : LO s r) (h19 : s.1 19 = 0) (hr : 0 ≤ r.1 19) : LO (dayF δ nb ng s k) (dayF δ nb ng r k) ∧ (dayF δ nb ng s k).1 19 = 0 ∧ (dayF δ nb ng r k).1 19 = r.1 19 - (if 0 < r.1 19 then 1 else 0) ∧ (dayF δ nb ng r k).1 20 = r.1 20 + (if 0 < r.1 19 then 0 else (dayF δ nb ng s k).1 20 - s.1 20) := by
  have h2 : LO (dy2 nb s k) (dy2 nb r k) := by
    unfold dy2
    refine ⟨?_, h.2⟩
    show (if 0 ≤ r.1 16 then _ else _) = (if 0 ≤ s.1 16 then _ else _)
    rw [h.1, h.2 15 (by decide) (by decide), h.2 16 (by decide) (by decide)]
  obtain ⟨g1, g2, g3, g4⟩ := lo_goers (δ := δ) (nb := nb) h2 h19 ng
  have e18 : (goersF δ nb (dy2 nb r k) ng).1 18 = (goersF δ nb (dy2 nb s k) ng).1 18 := g1.2 18 (by decide) (by decide)
  have e2 : (goersF δ nb (dy2 nb r k) ng).2 = (goersF δ nb (dy2 nb s k) ng).2 := g1.1
  have g3' : (goersF δ nb (dy2 nb r k) ng).1 19 = r.1 19 := g3
  have g4' : (goersF δ nb (dy2 nb r k) ng).1 20 = r.1 20 + (if 0 < r.1 19 then 0 else (goersF δ nb (dy2 nb s k) ng).1 20 - s.1 20) := g4
  have d19 : ∀ X : PS, (loF (telF ng X)).1 19 = X.1 19 - (if 0 < X.1 19 then 1 else 0) := fun _ => rfl
  have d20 : ∀ X : PS, (loF (telF ng X)).1 20 = X.1 20 := fun _ => rfl
  have ds : ∀ j, (dayF δ nb ng s k).1 j = (loF (telF ng (goersF δ nb (dy2 nb s k) ng))).1 j := fun _ => rfl
  have dr : ∀ j, (dayF δ nb ng r k).1 j = (loF (telF ng (goersF δ nb (dy2 nb r k) ng))).1 j := fun _ => rfl
  refine ⟨⟨?_, fun j a b => ?_⟩, ?_, ?_, ?_⟩
  · show endT (goersF δ nb (dy2 nb r k) ng).2 nb = endT (goersF δ nb (dy2 nb s k) ng).2 nb
    rw [e2]
  · rw [ds, dr]
    unfold loF telF
    simp only
    rw [fu_n _ _ a, fu_n _ _ a, e18, e2]
    exact fu_lo g1.2 rfl j a b
  · rw [ds, d19, g2]
    rfl
  · rw [dr, d19, g3']
  · rw [dr, ds, d20, d20]
    exact g4'
end LOS
