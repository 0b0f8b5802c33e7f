/-! the class: an item changes the delta -/
theorem zshl_0 {n : Int} : zshl 0 n = 0 := by
  rw [zshl_d]
  simp
section TK2
variable {M : Mem} {d t nb ng : Nat} {nu e o1 o2 pe ho er we gi ki ne ρ : Nat → Int}
theorem oset_c {δ ε : Nat → Int} {n : Nat} (h : ∀ b : Int, 0 ≤ b → b < n → ix δ (31 + b) = ix ε (31 + b)) : oset δ n = oset ε n := by
  rw [oset_s, oset_s]
  exact bset_c n h
theorem bset_R {f : Int → Int} : ∀ n : Nat, inR (bset f n)
  | 0 => ⟨by show (-2147483648 : Int) ≤ 0; omega, by show (0 : Int) < 2147483648; omega⟩
  | n + 1 => zor_R
theorem oset_0 {δ : Nat → Int} {n : Nat} (h : ix δ (31 + n) = 0) : oset δ (n + 1) = oset δ n := by
  show zor (oset δ n) (zshl (ix δ (31 + (n : Int))) (n : Int)) = _
  rw [h, zshl_0, zor_0]
  rw [oset_s]
  exact bset_R n
theorem DR.lay {a b p : Int} (h : DR ρ nb ng e o1 o2 pe ho er we gi ki ne) (h1 : ix ρ 1 = nb) (h9 : nb < 9) (hz : ix ρ (31 + nb) = 0) : DR (layR ρ a b p) (nb + 1) ng (fu e 2 (e 2 + 1)) (fz o1 (e 2) a) (fz o2 (e 2) b) (fz pe (e 2) p) ho er we gi ki ne := by
  obtain ⟨⟨d0, d1, d2, d3, d4⟩, g1, g2⟩ := h
  have V : ∀ w : Int, 0 ≤ w → ix (layR ρ a b p) w = if w = 1 then ix ρ 1 + 1 else if w = 22 + ix ρ 1 then p else if w = 13 + ix ρ 1 then b else if w = 4 + ix ρ 1 then a else ix ρ w := fun w hw => lay_v (by omega) hw
  have N : ∀ w : Int, (w = 0 ∨ w = 2 ∨ w = 3 ∨ 31 ≤ w) → ix (layR ρ a b p) w = ix ρ w := fun w hw => by
    rw [V w (by omega)]; (repeat rw [if_neg (by omega)])
  refine ⟨⟨?_, ?_, ?_, d3, ?_⟩, fun x x0 x1 => ?_, fun x x0 x1 => ?_⟩
  · rw [N 0 (by omega)]; exact d0
  · rw [N 3 (by omega)]; exact d1
  · show e 2 + 1 = _
    omega
  · show e 4 = _
    rw [oset_0 (by rw [N _ (by omega)]; exact hz), d4]
    exact oset_c (fun x x0 x1 => (N _ (by omega)).symm)
  · rw [d2]
    by_cases hx : x = nb
    · subst hx
      rw [ix_s, ix_s, ix_s, V _ (by omega), V _ (by omega), V _ (by omega)]
      refine ⟨?_, ?_, ?_⟩
      · (repeat rw [if_neg (by omega)]); rw [if_pos (by omega)]
      · (repeat rw [if_neg (by omega)]); rw [if_pos (by omega)]
      · rw [if_neg (by omega), if_pos (by omega)]
    · rw [ix_n (by omega) (by omega) hx, ix_n (by omega) (by omega) hx, ix_n (by omega) (by omega) hx, V _ (by omega), V _ (by omega), V _ (by omega)]
      (repeat rw [if_neg (by omega)])
      exact g1 x x0 (by omega)
  · have := g2 x x0 x1
    unfold nd at this ⊢
    rw [N (40 + _) (by omega), N (45 + _) (by omega), N (50 + _) (by omega), N (55 + _) (by omega), N (60 + _) (by omega)]
    exact this
theorem DR.com {a b w g k : Int} (h : DR ρ nb ng e o1 o2 pe ho er we gi ki ne) (h2 : ix ρ 2 = ng) (h5 : ng < 5) (h9 : nb ≤ 9) : DR (comR ρ a b w g k) nb (ng + 1) (fu e 3 (e 3 + 1)) o1 o2 pe (fz ho (e 3) a) (fz er (e 3) b) (fz we (e 3) w) (fz gi (e 3) g) (fz ki (e 3) k) (fz ne (e 3) (if k = 1 then 2 * w else w)) := by
  obtain ⟨⟨d0, d1, d2, d3, d4⟩, g1, g2⟩ := h
  have V : ∀ u : Int, 0 ≤ u → ix (comR ρ a b w g k) u = if u = 2 then ix ρ 2 + 1 else if u = 60 + ix ρ 2 then k else if u = 55 + ix ρ 2 then g else if u = 50 + ix ρ 2 then w else if u = 45 + ix ρ 2 then b else if u = 40 + ix ρ 2 then a else ix ρ u := fun u hw => com_v (by omega) hw
  have N : ∀ u : Int, (u = 0 ∨ u = 1 ∨ 3 ≤ u ∧ u < 40) → ix (comR ρ a b w g k) u = ix ρ u := fun u hw => by
    rw [V u (by omega)]; (repeat rw [if_neg (by omega)])
  refine ⟨⟨?_, ?_, d2, ?_, ?_⟩, fun x x0 x1 => ?_, fun x x0 x1 => ?_⟩
  · rw [N 0 (by omega)]; exact d0
  · rw [N 3 (by omega)]; exact d1
  · show e 3 + 1 = _
    omega
  · show e 4 = _
    rw [d4]
    exact oset_c (fun x x0 x1 => (N _ (by omega)).symm)
  · rw [N _ (by omega), N _ (by omega), N _ (by omega)]
    exact g1 x x0 x1
  · rw [d3]
    unfold nd
    by_cases hx : x = ng
    · subst hx
      have q1 : ix (comR ρ a b w g k) (40 + ng) = a := by rw [V _ (by omega)]; (repeat rw [if_neg (by omega)]); rw [if_pos (by omega)]
      have q2 : ix (comR ρ a b w g k) (45 + ng) = b := by rw [V _ (by omega)]; (repeat rw [if_neg (by omega)]); rw [if_pos (by omega)]
      have q3 : ix (comR ρ a b w g k) (50 + ng) = w := by rw [V _ (by omega)]; (repeat rw [if_neg (by omega)]); rw [if_pos (by omega)]
      have q4 : ix (comR ρ a b w g k) (55 + ng) = g := by rw [V _ (by omega)]; (repeat rw [if_neg (by omega)]); rw [if_pos (by omega)]
      have q5 : ix (comR ρ a b w g k) (60 + ng) = k := by rw [V _ (by omega)]; (repeat rw [if_neg (by omega)]); rw [if_pos (by omega)]
      rw [ix_s, ix_s, ix_s, ix_s, ix_s, ix_s, q1, q2, q3, q4, q5]
      exact ⟨rfl, rfl, rfl, rfl, rfl, rfl⟩
    · have Q : ∀ z : Int, (z = 40 ∨ z = 45 ∨ z = 50 ∨ z = 55 ∨ z = 60) → ix (comR ρ a b w g k) (z + x) = ix ρ (z + x) := fun z hz => by
        rw [V _ (by omega)]; (repeat rw [if_neg (by omega)])
      have := g2 x x0 (by omega)
      unfold nd at this
      rw [Q 40 (by omega), Q 45 (by omega), Q 50 (by omega), Q 55 (by omega), Q 60 (by omega)]
      rw [ix_n (by omega) (by omega) hx, ix_n (by omega) (by omega) hx, ix_n (by omega) (by omega) hx, ix_n (by omega) (by omega) hx, ix_n (by omega) (by omega) hx, ix_n (by omega) (by omega) hx]
      exact this
theorem DR.oak {a : Int} (h : DR ρ nb ng e o1 o2 pe ho er we gi ki ne) (h9 : nb ≤ 9) (ha : 0 ≤ a ∧ a < nb) (hb : ∀ b : Int, 0 ≤ b → b < nb → ix ρ (31 + b) = 0 ∨ ix ρ (31 + b) = 1) : DR (fz ρ (31 + a) 1) nb ng (fu e 4 (zor (e 4) (zshl 1 a))) o1 o2 pe ho er we gi ki ne := by
  obtain ⟨⟨d0, d1, d2, d3, d4⟩, g1, g2⟩ := h
  have V : ∀ w : Int, 0 ≤ w → ix (fz ρ (31 + a) 1) w = if w = 31 + a then 1 else ix ρ w := fun w hw => ix_if (by omega) hw
  have N : ∀ w : Int, 0 ≤ w → (w < 31 ∨ 40 ≤ w) → ix (fz ρ (31 + a) 1) w = ix ρ w := fun w hw hh => by rw [V w hw, if_neg (by omega)]
  refine ⟨⟨?_, ?_, d2, d3, ?_⟩, fun x x0 x1 => ?_, fun x x0 x1 => ?_⟩
  · rw [N 0 (by omega) (by omega)]; exact d0
  · rw [N 3 (by omega) (by omega)]; exact d1
  · show zor (e 4) (zshl 1 a) = _
    rw [d4, oset_s, oset_s]
    refine bset_or h9 ha hb (fun x x0 x1 => ?_)
    rw [V _ (by omega)]
    by_cases hx : x = a
    · rw [if_pos hx, if_pos (by omega)]
    · rw [if_neg hx, if_neg (by omega)]
  · rw [N _ (by omega) (by omega), N _ (by omega) (by omega), N _ (by omega) (by omega)]
    exact g1 x x0 x1
  · have := g2 x x0 x1
    unfold nd at this ⊢
    rw [N (40 + _) (by omega) (by omega), N (45 + _) (by omega) (by omega), N (50 + _) (by omega) (by omega), N (55 + _) (by omega) (by omega), N (60 + _) (by omega) (by omega)]
    exact this
theorem DR.del {a : Int} (h : DR ρ nb ng e o1 o2 pe ho er we gi ki ne) : DR (fz ρ 3 a) nb ng (fu e 1 a) o1 o2 pe ho er we gi ki ne := by
  obtain ⟨⟨d0, d1, d2, d3, d4⟩, g1, g2⟩ := h
  have N : ∀ w : Int, 0 ≤ w → ¬ w = 3 → ix (fz ρ 3 a) w = ix ρ w := fun w hw hh => ix_n (by omega) hw hh
  refine ⟨⟨?_, ?_, d2, d3, ?_⟩, fun x x0 x1 => ?_, fun x x0 x1 => ?_⟩
  · rw [N 0 (by omega) (by omega)]; exact d0
  · rw [ix_s]; rfl
  · show e 4 = _
    rw [d4]
    exact oset_c (fun x x0 x1 => (N _ (by omega) (by omega)).symm)
  · rw [N _ (by omega) (by omega), N _ (by omega) (by omega), N _ (by omega) (by omega)]
    exact g1 x x0 x1
  · have := g2 x x0 x1
    unfold nd at this ⊢
    rw [N (40 + _) (by omega) (by omega), N (45 + _) (by omega) (by omega), N (50 + _) (by omega) (by omega), N (55 + _) (by omega) (by omega), N (60 + _) (by omega) (by omega)]
    exact this
theorem DR.isl {a : Int} (h : DR ρ nb ng e o1 o2 pe ho er we gi ki ne) : DR (fz ρ 0 a) nb ng (fu e 0 a) o1 o2 pe ho er we gi ki ne := by
  obtain ⟨⟨d0, d1, d2, d3, d4⟩, g1, g2⟩ := h
  have N : ∀ w : Int, 0 ≤ w → ¬ w = 0 → ix (fz ρ 0 a) w = ix ρ w := fun w hw hh => ix_n (by omega) hw hh
  refine ⟨⟨?_, ?_, d2, d3, ?_⟩, fun x x0 x1 => ?_, fun x x0 x1 => ?_⟩
  · rw [ix_s]; rfl
  · rw [N 3 (by omega) (by omega)]; exact d1
  · show e 4 = _
    rw [d4]
    exact oset_c (fun x x0 x1 => (N _ (by omega) (by omega)).symm)
  · rw [N _ (by omega) (by omega), N _ (by omega) (by omega), N _ (by omega) (by omega)]
    exact g1 x x0 x1
  · have := g2 x x0 x1
    unfold nd at this ⊢
    rw [N (40 + _) (by omega) (by omega), N (45 + _) (by omega) (by omega), N (50 + _) (by omega) (by omega), N (55 + _) (by omega) (by omega), N (60 + _) (by omega) (by omega)]
    exact this
end TK2
