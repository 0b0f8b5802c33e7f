/-! pure: the first text -/
def tlL : List Int := [105, 51, 59, 98, 48, 44, 49, 44, 52, 59, 98, 49, 44, 50, 44, 53, 59, 98, 48, 44, 50, 44, 50, 59, 103, 48, 44, 50, 44, 51, 44, 50, 44, 48, 59, 103, 50, 44, 48, 44, 50, 44, 49, 44, 50, 59]
def tx0 : Nat → Int := fun j => tlL.getD j 0
theorem tx0_B : TXB tx0 46 := ⟨by omega, by decide⟩
theorem dgt_y {x : Int} (h : 48 ≤ x ∧ x ≤ 57) : dgt x := h
theorem sc_r {tx : Nat → Int} {n p : Nat} {v : Int} (hp : p + 1 < n) (h0 : tx p = 48 + v) (hv : 0 ≤ v ∧ v ≤ 9) (h1 : ¬ (48 ≤ tx (p + 1) ∧ tx (p + 1) ≤ 57)) : rd tx n p = some (v, p + 1) := by
  rw [rd_1 ⟨by omega, by unfold dgt; omega⟩ (fun h => h1 h.2), if_pos hp, h0]
  congr 2
  omega
theorem sc_f {tx : Nat → Int} {n p m k : Nat} {v : Int} {nu : Nat → Int} (hp : p + 1 < n) (h0 : tx p = 48 + v) (hv : 0 ≤ v ∧ v ≤ 9) (h1 : tx (p + 1) = 59) : scn tx n (m + 1) k p nu = some (k + 1, p + 2, fu nu k v) := by
  unfold scn
  rw [sc_r hp h0 hv (by omega)]
  simp only
  rw [if_pos h1]
theorem sc_c {tx : Nat → Int} {n p m k : Nat} {v : Int} {nu : Nat → Int} (hp : p + 1 < n) (h0 : tx p = 48 + v) (hv : 0 ≤ v ∧ v ≤ 9) (h1 : tx (p + 1) = 44) : scn tx n (m + 1) k p nu = scn tx n m (k + 1) (p + 2) (fu nu k v) := by
  rw [show scn tx n (m + 1) k p nu = match rd tx n p with
      | none => none
      | some (v, q) => if tx q = 59 then some (k + 1, q + 1, fu nu k v) else if tx q = 44 then scn tx n m (k + 1) (q + 1) (fu nu k v) else none from rfl]
  rw [sc_r hp h0 hv (by omega)]
  simp only
  rw [if_neg (by omega), if_pos h1]
def fr0 : Nat → Int := cl0
def fr1 : Nat → Int := fz fr0 0 3
theorem pu_0 {may : Bool} (hm : (may && decide (tx0 0 = 105)) = true) : pu tx0 46 0 (may && decide (tx0 0 = 105)) fr0 = some (3, fr1) := by
  rw [hm]
  have hs : scn tx0 46 5 0 (0 + 1) (fun _ => 0) = some (1, 3, (fu (fun _ => 0) 0 3)) := by
    show scn tx0 46 (4 + 1) 0 1 _ = _
    exact sc_f (tx := tx0) (n := 46) (p := 1) (m := 4) (k := 0) (v := 3) (nu := (fun _ => 0)) (by decide) rfl (by decide) rfl
  have hi : itm (tx0 0) true 1 (fu (fun _ => 0) 0 3) fr0 = some fr1 := by
    rw [show tx0 0 = 105 from rfl, itm_i]
    exact ite_p (by exact ⟨rfl, rfl, by decide, by decide⟩)
  exact pu_s (itS_some hs hi)
def fr2 : Nat → Int := layR fr1 0 1 4
theorem pu_1 {may : Bool} (hm : (may && decide (tx0 3 = 105)) = false) : pu tx0 46 3 (may && decide (tx0 3 = 105)) fr1 = some (10, fr2) := by
  rw [hm]
  have hs : scn tx0 46 5 0 (3 + 1) (fun _ => 0) = some (3, 10, (fu (fu (fu (fun _ => 0) 0 0) 1 1) 2 4)) := by
    show scn tx0 46 (4 + 1) 0 4 _ = _
    refine (sc_c (tx := tx0) (n := 46) (p := 4) (m := 4) (k := 0) (v := 0) (nu := (fun _ => 0)) (by decide) rfl (by decide) rfl).trans ?_
    refine (sc_c (tx := tx0) (n := 46) (p := 6) (m := 3) (k := 1) (v := 1) (nu := (fu (fun _ => 0) 0 0)) (by decide) rfl (by decide) rfl).trans ?_
    exact sc_f (tx := tx0) (n := 46) (p := 8) (m := 2) (k := 2) (v := 4) (nu := (fu (fu (fun _ => 0) 0 0) 1 1)) (by decide) rfl (by decide) rfl
  have hi : itm (tx0 3) false 3 (fu (fu (fu (fun _ => 0) 0 0) 1 1) 2 4) fr1 = some fr2 := by
    rw [show tx0 3 = 98 from rfl, itm_b]
    exact ite_p (by exact ⟨rfl, ⟨⟨by decide, by decide⟩, ⟨by decide, by decide⟩, by decide⟩, by decide⟩)
  exact pu_s (itS_some hs hi)
def fr3 : Nat → Int := layR fr2 1 2 5
theorem pu_2 {may : Bool} (hm : (may && decide (tx0 10 = 105)) = false) : pu tx0 46 10 (may && decide (tx0 10 = 105)) fr2 = some (17, fr3) := by
  rw [hm]
  have hs : scn tx0 46 5 0 (10 + 1) (fun _ => 0) = some (3, 17, (fu (fu (fu (fun _ => 0) 0 1) 1 2) 2 5)) := by
    show scn tx0 46 (4 + 1) 0 11 _ = _
    refine (sc_c (tx := tx0) (n := 46) (p := 11) (m := 4) (k := 0) (v := 1) (nu := (fun _ => 0)) (by decide) rfl (by decide) rfl).trans ?_
    refine (sc_c (tx := tx0) (n := 46) (p := 13) (m := 3) (k := 1) (v := 2) (nu := (fu (fun _ => 0) 0 1)) (by decide) rfl (by decide) rfl).trans ?_
    exact sc_f (tx := tx0) (n := 46) (p := 15) (m := 2) (k := 2) (v := 5) (nu := (fu (fu (fun _ => 0) 0 1) 1 2)) (by decide) rfl (by decide) rfl
  have hi : itm (tx0 10) false 3 (fu (fu (fu (fun _ => 0) 0 1) 1 2) 2 5) fr2 = some fr3 := by
    rw [show tx0 10 = 98 from rfl, itm_b]
    exact ite_p (by exact ⟨rfl, ⟨⟨by decide, by decide⟩, ⟨by decide, by decide⟩, by decide⟩, by decide⟩)
  exact pu_s (itS_some hs hi)
def fr4 : Nat → Int := layR fr3 0 2 2
theorem pu_3 {may : Bool} (hm : (may && decide (tx0 17 = 105)) = false) : pu tx0 46 17 (may && decide (tx0 17 = 105)) fr3 = some (24, fr4) := by
  rw [hm]
  have hs : scn tx0 46 5 0 (17 + 1) (fun _ => 0) = some (3, 24, (fu (fu (fu (fun _ => 0) 0 0) 1 2) 2 2)) := by
    show scn tx0 46 (4 + 1) 0 18 _ = _
    refine (sc_c (tx := tx0) (n := 46) (p := 18) (m := 4) (k := 0) (v := 0) (nu := (fun _ => 0)) (by decide) rfl (by decide) rfl).trans ?_
    refine (sc_c (tx := tx0) (n := 46) (p := 20) (m := 3) (k := 1) (v := 2) (nu := (fu (fun _ => 0) 0 0)) (by decide) rfl (by decide) rfl).trans ?_
    exact sc_f (tx := tx0) (n := 46) (p := 22) (m := 2) (k := 2) (v := 2) (nu := (fu (fu (fun _ => 0) 0 0) 1 2)) (by decide) rfl (by decide) rfl
  have hi : itm (tx0 17) false 3 (fu (fu (fu (fun _ => 0) 0 0) 1 2) 2 2) fr3 = some fr4 := by
    rw [show tx0 17 = 98 from rfl, itm_b]
    exact ite_p (by exact ⟨rfl, ⟨⟨by decide, by decide⟩, ⟨by decide, by decide⟩, by decide⟩, by decide⟩)
  exact pu_s (itS_some hs hi)
def fr5 : Nat → Int := comR fr4 0 2 3 2 0
theorem pu_4 {may : Bool} (hm : (may && decide (tx0 24 = 105)) = false) : pu tx0 46 24 (may && decide (tx0 24 = 105)) fr4 = some (35, fr5) := by
  rw [hm]
  have hs : scn tx0 46 5 0 (24 + 1) (fun _ => 0) = some (5, 35, (fu (fu (fu (fu (fu (fun _ => 0) 0 0) 1 2) 2 3) 3 2) 4 0)) := by
    show scn tx0 46 (4 + 1) 0 25 _ = _
    refine (sc_c (tx := tx0) (n := 46) (p := 25) (m := 4) (k := 0) (v := 0) (nu := (fun _ => 0)) (by decide) rfl (by decide) rfl).trans ?_
    refine (sc_c (tx := tx0) (n := 46) (p := 27) (m := 3) (k := 1) (v := 2) (nu := (fu (fun _ => 0) 0 0)) (by decide) rfl (by decide) rfl).trans ?_
    refine (sc_c (tx := tx0) (n := 46) (p := 29) (m := 2) (k := 2) (v := 3) (nu := (fu (fu (fun _ => 0) 0 0) 1 2)) (by decide) rfl (by decide) rfl).trans ?_
    refine (sc_c (tx := tx0) (n := 46) (p := 31) (m := 1) (k := 3) (v := 2) (nu := (fu (fu (fu (fun _ => 0) 0 0) 1 2) 2 3)) (by decide) rfl (by decide) rfl).trans ?_
    exact sc_f (tx := tx0) (n := 46) (p := 33) (m := 0) (k := 4) (v := 0) (nu := (fu (fu (fu (fu (fun _ => 0) 0 0) 1 2) 2 3) 3 2)) (by decide) rfl (by decide) rfl
  have hi : itm (tx0 24) false 5 (fu (fu (fu (fu (fu (fun _ => 0) 0 0) 1 2) 2 3) 3 2) 4 0) fr4 = some fr5 := by
    rw [show tx0 24 = 103 from rfl, itm_g]
    exact ite_p (by exact ⟨rfl, ⟨⟨by decide, by decide⟩, ⟨by decide, by decide⟩, by decide⟩, ⟨by decide, by decide⟩, ⟨by decide, by decide⟩, ⟨by decide, by decide⟩, by decide⟩)
  exact pu_s (itS_some hs hi)
def fr6 : Nat → Int := comR fr5 2 0 2 1 2
theorem pu_5 {may : Bool} (hm : (may && decide (tx0 35 = 105)) = false) : pu tx0 46 35 (may && decide (tx0 35 = 105)) fr5 = some (46, fr6) := by
  rw [hm]
  have hs : scn tx0 46 5 0 (35 + 1) (fun _ => 0) = some (5, 46, (fu (fu (fu (fu (fu (fun _ => 0) 0 2) 1 0) 2 2) 3 1) 4 2)) := by
    show scn tx0 46 (4 + 1) 0 36 _ = _
    refine (sc_c (tx := tx0) (n := 46) (p := 36) (m := 4) (k := 0) (v := 2) (nu := (fun _ => 0)) (by decide) rfl (by decide) rfl).trans ?_
    refine (sc_c (tx := tx0) (n := 46) (p := 38) (m := 3) (k := 1) (v := 0) (nu := (fu (fun _ => 0) 0 2)) (by decide) rfl (by decide) rfl).trans ?_
    refine (sc_c (tx := tx0) (n := 46) (p := 40) (m := 2) (k := 2) (v := 2) (nu := (fu (fu (fun _ => 0) 0 2) 1 0)) (by decide) rfl (by decide) rfl).trans ?_
    refine (sc_c (tx := tx0) (n := 46) (p := 42) (m := 1) (k := 3) (v := 1) (nu := (fu (fu (fu (fun _ => 0) 0 2) 1 0) 2 2)) (by decide) rfl (by decide) rfl).trans ?_
    exact sc_f (tx := tx0) (n := 46) (p := 44) (m := 0) (k := 4) (v := 2) (nu := (fu (fu (fu (fu (fun _ => 0) 0 2) 1 0) 2 2) 3 1)) (by decide) rfl (by decide) rfl
  have hi : itm (tx0 35) false 5 (fu (fu (fu (fu (fu (fun _ => 0) 0 2) 1 0) 2 2) 3 1) 4 2) fr5 = some fr6 := by
    rw [show tx0 35 = 103 from rfl, itm_g]
    exact ite_p (by exact ⟨rfl, ⟨⟨by decide, by decide⟩, ⟨by decide, by decide⟩, by decide⟩, ⟨by decide, by decide⟩, ⟨by decide, by decide⟩, ⟨by decide, by decide⟩, by decide⟩)
  exact pu_s (itS_some hs hi)
theorem flt_0 : flt tx0 46 46 0 true cl0 = (-4, fr6) := by
  show flt tx0 46 (45 + 1) 0 true fr0 = _
  rw [flt_s (m := 45) (q := 3) (ρ' := fr1) (by decide) (pu_0 rfl)]
  show flt tx0 46 (44 + 1) 3 _ _ = _
  rw [flt_s (m := 44) (q := 10) (ρ' := fr2) (by decide) (pu_1 rfl)]
  show flt tx0 46 (43 + 1) 10 _ _ = _
  rw [flt_s (m := 43) (q := 17) (ρ' := fr3) (by decide) (pu_2 rfl)]
  show flt tx0 46 (42 + 1) 17 _ _ = _
  rw [flt_s (m := 42) (q := 24) (ρ' := fr4) (by decide) (pu_3 rfl)]
  show flt tx0 46 (41 + 1) 24 _ _ = _
  rw [flt_s (m := 41) (q := 35) (ρ' := fr5) (by decide) (pu_4 rfl)]
  show flt tx0 46 (40 + 1) 35 _ _ = _
  rw [flt_s (m := 40) (q := 46) (ρ' := fr6) (by decide) (pu_5 rfl)]
  exact flt_e (by decide)
theorem fr6_G : GR fr6 false := by
  have h := gr_itm (ρ := cl0) (nu := fun _ => 3) (l := 105) (t := 1) (ρ' := fr1) cl0_G (fun j _ => by show (0 : Int) ≤ 3 ∧ (3 : Int) ≤ 99; omega) (by rw [itm_i]; exact ite_p ⟨rfl, rfl, by decide, by decide⟩)
  have h1 : GR fr1 true := h
  have h2 : GR fr2 false := h1.lay (by decide) (by decide) (by decide) (by decide) (by decide)
  have h3 : GR fr3 false := h2.lay (by decide) (by decide) (by decide) (by decide) (by decide)
  have h4 : GR fr4 false := h3.lay (by decide) (by decide) (by decide) (by decide) (by decide)
  have h5 : GR fr5 false := h4.com (by decide) (by decide) (by decide) (by decide) (by decide) (by decide) (by decide)
  exact h5.com (by decide) (by decide) (by decide) (by decide) (by decide) (by decide) (by decide)
/-- the world at the beginning -/
def G0 : GG := gu (gu (fun _ _ => 0) 0 fr6) 1 (bgn fr6)
theorem G0_W : WI G0 3 2 3 := by
  have h := WI.ly (G := fun _ _ => 0) (ρ := fr6) (may := false) ⟨Int.le_refl _, by decide, fun j h1 h2 => by have : j < 0 := h2; omega⟩ fr6_G (by decide)
  have e : lyG (fun _ _ => 0) fr6 = G0 := by
    funext i q
    unfold lyG G0 gu
    by_cases h6 : i = 6
    · rw [if_pos h6, h6, if_neg (by decide), if_neg (by decide)]
      show fu (fu (fu (fun _ => 0) 1 0) 2 0) 3 0 q = 0
      unfold fu
      split
      · rfl
      · split
        · rfl
        · split <;> rfl
    · rw [if_neg h6]
  rw [e] at h
  exact h
