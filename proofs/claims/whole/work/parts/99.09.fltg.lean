/-! pure: reading keeps a delta good -/
theorem ix_if {f : Nat → Int} {z w x : Int} (hz : 0 ≤ z) (hw : 0 ≤ w) : ix (fz f z x) w = if w = z then x else ix f w := by
  by_cases h : w = z
  · rw [if_pos h, h, ix_s]
  · rw [if_neg h, ix_n hz hw h]
section FG
variable {tx ρ nu : Nat → Int} {n p : Nat} {may : Bool}
theorem lay_v {a b e w : Int} (h : 0 ≤ ix ρ 1) (hw : 0 ≤ w) : ix (layR ρ a b e) w = if w = 1 then ix ρ 1 + 1 else if w = 22 + ix ρ 1 then e else if w = 13 + ix ρ 1 then b else if w = 4 + ix ρ 1 then a else ix ρ w := by
  unfold layR
  rw [ix_if (by omega) hw, ix_if (by omega) hw, ix_if (by omega) hw, ix_if (by omega) hw]
theorem com_v {a b e g k w : Int} (h : 0 ≤ ix ρ 2) (hw : 0 ≤ w) : ix (comR ρ a b e g k) w = if w = 2 then ix ρ 2 + 1 else if w = 60 + ix ρ 2 then k else if w = 55 + ix ρ 2 then g else if w = 50 + ix ρ 2 then e else if w = 45 + ix ρ 2 then b else if w = 40 + ix ρ 2 then a else ix ρ w := by
  unfold comR
  rw [ix_if (by omega) hw, ix_if (by omega) hw, ix_if (by omega) hw, ix_if (by omega) hw, ix_if (by omega) hw, ix_if (by omega) hw]
theorem GR.lay {a b e : Int} (h : GR ρ may) (h9 : ¬ ix ρ 1 = 9) (ha : 0 ≤ a ∧ a < ix ρ 0) (hb : 0 ≤ b ∧ b < ix ρ 0) (hab : ¬ a = b) (he : 0 ≤ e ∧ e ≤ 99) : GR (layR ρ a b e) false := by
  obtain ⟨⟨g0, g1, g2⟩, g3, g4, g5, g6, g7⟩ := h
  have V : ∀ w : Int, 0 ≤ w → ix (layR ρ a b e) w = if w = 1 then ix ρ 1 + 1 else if w = 22 + ix ρ 1 then e else if w = 13 + ix ρ 1 then b else if w = 4 + ix ρ 1 then a else ix ρ w := fun w hw => lay_v g1.1 hw
  have v0 : ix (layR ρ a b e) 0 = ix ρ 0 := by rw [V 0 (by omega)]; (repeat rw [if_neg (by omega)])
  have v1 : ix (layR ρ a b e) 1 = ix ρ 1 + 1 := by rw [V 1 (by omega), if_pos rfl]
  have v2 : ix (layR ρ a b e) 2 = ix ρ 2 := by rw [V 2 (by omega)]; (repeat rw [if_neg (by omega)])
  have v3 : ix (layR ρ a b e) 3 = ix ρ 3 := by rw [V 3 (by omega)]; (repeat rw [if_neg (by omega)])
  unfold GR GR0
  rw [v0, v1, v2, v3]
  refine ⟨⟨g0, ⟨by omega, by omega⟩, g2⟩, g3, fun x x0 x1 => ?_, fun x x0 x1 => ?_, fun x x0 x1 => ?_, fun hh => by cases hh⟩
  · by_cases hx : x = ix ρ 1
    · subst hx
      rw [V _ (by omega), V _ (by omega), V _ (by omega)]
      rw [if_neg (by omega), if_neg (by omega), if_neg (by omega), if_pos rfl]
      rw [if_neg (by omega), if_neg (by omega), if_pos rfl]
      rw [if_neg (by omega), if_pos rfl]
      exact ⟨⟨ha.1, ha.2, hb.1, hb.2, hab⟩, he⟩
    · rw [V _ (by omega), V _ (by omega), V _ (by omega)]
      (repeat rw [if_neg (by omega)])
      exact g4 x x0 (by omega)
  · rw [V _ (by omega)]
    (repeat rw [if_neg (by omega)])
    have := g5 x x0 x1
    exact ⟨this.1, this.2.1, fun q => this.2.2 (by omega)⟩
  · rw [V _ (by omega), V _ (by omega), V _ (by omega), V _ (by omega), V _ (by omega)]
    (repeat rw [if_neg (by omega)])
    exact g6 x x0 x1
theorem GR.com {a b e g k : Int} (h : GR ρ may) (h9 : ¬ ix ρ 2 = 5) (ha : 0 ≤ a ∧ a < ix ρ 0) (hb : 0 ≤ b ∧ b < ix ρ 0) (hab : ¬ a = b) (he : 1 ≤ e ∧ e ≤ 40) (hg : 0 ≤ g ∧ g ≤ 20) (hk : 0 ≤ k ∧ k ≤ 4) : GR (comR ρ a b e g k) false := by
  obtain ⟨⟨g0, g1, g2⟩, g3, g4, g5, g6, g7⟩ := h
  have V : ∀ w : Int, 0 ≤ w → ix (comR ρ a b e g k) w = if w = 2 then ix ρ 2 + 1 else if w = 60 + ix ρ 2 then k else if w = 55 + ix ρ 2 then g else if w = 50 + ix ρ 2 then e else if w = 45 + ix ρ 2 then b else if w = 40 + ix ρ 2 then a else ix ρ w := fun w hw => com_v g2.1 hw
  have v0 : ix (comR ρ a b e g k) 0 = ix ρ 0 := by rw [V 0 (by omega)]; (repeat rw [if_neg (by omega)])
  have v1 : ix (comR ρ a b e g k) 1 = ix ρ 1 := by rw [V 1 (by omega)]; (repeat rw [if_neg (by omega)])
  have v2 : ix (comR ρ a b e g k) 2 = ix ρ 2 + 1 := by rw [V 2 (by omega), if_pos rfl]
  have v3 : ix (comR ρ a b e g k) 3 = ix ρ 3 := by rw [V 3 (by omega)]; (repeat rw [if_neg (by omega)])
  unfold GR GR0
  rw [v0, v1, v2, v3]
  refine ⟨⟨g0, g1, ⟨by omega, by omega⟩⟩, g3, fun x x0 x1 => ?_, fun x x0 x1 => ?_, fun x x0 x1 => ?_, fun hh => by cases hh⟩
  · rw [V _ (by omega), V _ (by omega), V _ (by omega)]
    (repeat rw [if_neg (by omega)])
    exact g4 x x0 (by omega)
  · rw [V _ (by omega)]
    (repeat rw [if_neg (by omega)])
    exact g5 x x0 x1
  · by_cases hx : x = ix ρ 2
    · subst hx
      rw [V (40 + _) (by omega), V (45 + _) (by omega), V (50 + _) (by omega), V (55 + _) (by omega), V (60 + _) (by omega)]
      rw [if_neg (by omega), if_neg (by omega), if_neg (by omega), if_neg (by omega), if_neg (by omega), if_pos rfl]
      rw [if_neg (by omega), if_neg (by omega), if_neg (by omega), if_neg (by omega), if_pos rfl]
      rw [if_neg (by omega), if_neg (by omega), if_neg (by omega), if_pos rfl]
      rw [if_neg (by omega), if_neg (by omega), if_pos rfl]
      rw [if_neg (by omega), if_pos rfl]
      exact ⟨⟨ha.1, ha.2, hb.1, hb.2, hab⟩, he.1, he.2, hg.1, hg.2, hk⟩
    · rw [V (40 + _) (by omega), V (45 + _) (by omega), V (50 + _) (by omega), V (55 + _) (by omega), V (60 + _) (by omega)]
      (repeat rw [if_neg (by omega)])
      exact g6 x x0 (by omega)
theorem GR.oak {a : Int} (h : GR ρ may) (ha : 0 ≤ a ∧ a ≤ ix ρ 1 - 1) : GR (fz ρ (31 + a) 1) false := by
  obtain ⟨⟨g0, g1, g2⟩, g3, g4, g5, g6, g7⟩ := h
  have V : ∀ w : Int, 0 ≤ w → ix (fz ρ (31 + a) 1) w = if w = 31 + a then 1 else ix ρ w := fun w hw => ix_if (by omega) hw
  have N : ∀ w : Int, 0 ≤ w → (w < 31 ∨ 40 ≤ w) → ix (fz ρ (31 + a) 1) w = ix ρ w := fun w hw hh => by rw [V w hw, if_neg (by omega)]
  unfold GR GR0
  rw [N 0 (by omega) (by omega), N 1 (by omega) (by omega), N 2 (by omega) (by omega), N 3 (by omega) (by omega)]
  refine ⟨⟨g0, g1, g2⟩, g3, fun x x0 x1 => ?_, fun x x0 x1 => ?_, fun x x0 x1 => ?_, fun hh => by cases hh⟩
  · rw [N _ (by omega) (by omega), N _ (by omega) (by omega), N _ (by omega) (by omega)]
    exact g4 x x0 x1
  · rw [V _ (by omega)]
    by_cases hx : x = a
    · rw [if_pos (by omega)]; exact ⟨by omega, by omega, by omega⟩
    · rw [if_neg (by omega)]; exact g5 x x0 x1
  · rw [N (40 + _) (by omega) (by omega), N (45 + _) (by omega) (by omega), N (50 + _) (by omega) (by omega), N (55 + _) (by omega) (by omega), N (60 + _) (by omega) (by omega)]
    exact g6 x x0 x1
theorem GR.del {a : Int} (h : GR ρ may) (ha : 1 ≤ a ∧ a ≤ 9) : GR (fz ρ 3 a) false := by
  obtain ⟨⟨g0, g1, g2⟩, g3, g4, g5, g6, g7⟩ := h
  have N : ∀ w : Int, 0 ≤ w → ¬ w = 3 → ix (fz ρ 3 a) w = ix ρ w := fun w hw hh => ix_n (by omega) hw hh
  unfold GR GR0
  rw [N 0 (by omega) (by omega), N 1 (by omega) (by omega), N 2 (by omega) (by omega), ix_s]
  refine ⟨⟨g0, g1, g2⟩, ha, fun x x0 x1 => ?_, fun x x0 x1 => ?_, fun x x0 x1 => ?_, fun hh => by cases hh⟩
  · rw [N _ (by omega) (by omega), N _ (by omega) (by omega), N _ (by omega) (by omega)]
    exact g4 x x0 x1
  · rw [N _ (by omega) (by omega)]
    exact g5 x x0 x1
  · rw [N (40 + _) (by omega) (by omega), N (45 + _) (by omega) (by omega), N (50 + _) (by omega) (by omega), N (55 + _) (by omega) (by omega), N (60 + _) (by omega) (by omega)]
    exact g6 x x0 x1
theorem GR.isl {a : Int} (h : GR ρ true) (ha : 2 ≤ a ∧ a ≤ 8) : GR (fz ρ 0 a) true := by
  obtain ⟨⟨g0, g1, g2⟩, g3, g4, g5, g6, g7⟩ := h
  have N : ∀ w : Int, 0 ≤ w → ¬ w = 0 → ix (fz ρ 0 a) w = ix ρ w := fun w hw hh => ix_n (by omega) hw hh
  have g7 := g7 rfl
  unfold GR GR0
  rw [N 1 (by omega) (by omega), N 2 (by omega) (by omega), N 3 (by omega) (by omega), ix_s]
  refine ⟨⟨ha, g1, g2⟩, g3, fun x x0 x1 => by omega, fun x x0 x1 => ?_, fun x x0 x1 => by omega, fun _ => g7⟩
  rw [N _ (by omega) (by omega)]
  exact g5 x x0 x1
theorem GR.may0 (h : GR ρ may) : GR ρ false := ⟨h.1, h.2.1, h.2.2.1, h.2.2.2.1, h.2.2.2.2.1, fun hh => by cases hh⟩
theorem gr_itm {l : Int} {t : Nat} {ρ' : Nat → Int} (h : GR ρ may) (hB : ∀ j, j < t → 0 ≤ nu j ∧ nu j ≤ 99) (hi : itm l (may && decide (l = 105)) t nu ρ = some ρ') : GR ρ' (may && decide (l = 105)) := by
  by_cases h1 : l = 105
  · subst h1
    rw [itm_i] at hi
    have e : (may && decide ((105 : Int) = 105)) = may := by simp
    rw [e] at hi ⊢
    by_cases hc : may = true ∧ t = 1 ∧ 2 ≤ nu 0 ∧ nu 0 ≤ 8
    · rw [ite_p hc] at hi
      obtain ⟨c1, c2, c3⟩ := hc
      subst c1
      cases hi
      exact h.isl c3
    · rw [ite_n hc] at hi; cases hi
  have e : (may && decide (l = 105)) = false := by rw [decide_eq_false h1, Bool.and_false]
  rw [e] at hi ⊢
  by_cases h2 : l = 100
  · subst h2
    rw [itm_d] at hi
    by_cases hc : t = 1 ∧ 1 ≤ nu 0 ∧ nu 0 ≤ 9
    · rw [ite_p hc] at hi
      cases hi
      exact h.del hc.2
    · rw [ite_n hc] at hi; cases hi
  by_cases h3 : l = 98
  · subst h3
    rw [itm_b] at hi
    by_cases hc : t = 3 ∧ two ρ nu ∧ ¬ ix ρ 1 = 9
    · rw [ite_p hc] at hi
      obtain ⟨c1, ⟨c2, c3, c4⟩, c5⟩ := hc
      cases hi
      exact h.lay c5 (by omega) (by omega) c4 (hB 2 (by omega))
    · rw [ite_n hc] at hi; cases hi
  by_cases h4 : l = 111
  · subst h4
    rw [itm_o] at hi
    by_cases hc : t = 1 ∧ 0 ≤ nu 0 ∧ nu 0 ≤ ix ρ 1 - 1
    · rw [ite_p hc] at hi
      cases hi
      exact h.oak hc.2
    · rw [ite_n hc] at hi; cases hi
  by_cases h5 : l = 103
  · subst h5
    rw [itm_g] at hi
    by_cases hc : t = 5 ∧ two ρ nu ∧ (1 ≤ nu 2 ∧ nu 2 ≤ 40) ∧ (0 ≤ nu 3 ∧ nu 3 ≤ 20) ∧ (0 ≤ nu 4 ∧ nu 4 ≤ 4) ∧ ¬ ix ρ 2 = 5
    · rw [ite_p hc] at hi
      obtain ⟨c1, ⟨c2, c3, c4⟩, c5, c6, c7, c8⟩ := hc
      cases hi
      exact h.com c8 (by omega) (by omega) c4 c5 c6 c7
    · rw [ite_n hc] at hi; cases hi
  rw [itm_x ⟨h1, h2, h3, h4, h5⟩] at hi
  cases hi
theorem gr_itS {q : Nat} {ρ' nu' : Nat → Int} (h : GR ρ may) (hi : itS tx n p (may && decide (tx p = 105)) ρ nu = some (q, ρ', nu')) : GR ρ' (may && decide (tx p = 105)) := by
  unfold itS at hi
  cases hs : scn tx n 5 0 (p + 1) nu with
  | none => rw [hs] at hi; cases hi
  | some w =>
    obtain ⟨t, q2, f⟩ := w
    rw [hs] at hi
    simp only at hi
    cases hm : itm (tx p) (may && decide (tx p = 105)) t f ρ with
    | none => rw [hm] at hi; cases hi
    | some r =>
      rw [hm] at hi
      have hb := scn_B _ _ _ _ _ _ _ hs
      have e : ρ' = r := by cases hi; rfl
      rw [e]
      exact gr_itm h (fun j hj => hb.1 j (by omega) hj) hm
end FG
