/-! pure: the fault of a text -/
theorem scn_any {tx : Nat → Int} {n : Nat} : ∀ (m k p : Nat) (nu nu2 : Nat → Int), (∀ j, j < k → nu2 j = nu j) → (scn tx n m k p nu = none ∧ scn tx n m k p nu2 = none) ∨ ∃ t q f g, scn tx n m k p nu = some (t, q, f) ∧ scn tx n m k p nu2 = some (t, q, g) ∧ ∀ j, j < t → g j = f j
  | 0, k, p, nu, nu2, h => Or.inl ⟨rfl, rfl⟩
  | m + 1, k, p, nu, nu2, h => by
    unfold scn
    cases hr : rd tx n p with
    | none => exact Or.inl ⟨rfl, rfl⟩
    | some w =>
      obtain ⟨v, r⟩ := w
      simp only
      have h' : ∀ j, j < k + 1 → fu nu2 k v j = fu nu k v j := fun j hj => by
        by_cases e : j = k
        · subst e; rw [fu_s, fu_s]
        · rw [fu_n _ _ e, fu_n _ _ e]; exact h j (by omega)
      by_cases h59 : tx r = 59
      · rw [if_pos h59, if_pos h59]
        exact Or.inr ⟨_, _, _, _, rfl, rfl, h'⟩
      · rw [if_neg h59, if_neg h59]
        by_cases h44 : tx r = 44
        · rw [if_pos h44, if_pos h44]
          exact scn_any m (k + 1) (r + 1) _ _ h'
        · rw [if_neg h44, if_neg h44]
          exact Or.inl ⟨rfl, rfl⟩
theorem two_any {ρ f g : Nat → Int} (h0 : g 0 = f 0) (h1 : g 1 = f 1) : two ρ g = two ρ f := by
  unfold two
  rw [h0, h1]
theorem ite_c {p q : Prop} {α : Type} {a b a' : α} (h : p ↔ q) (ha : q → a = a') : @ite _ p (Classical.propDecidable _) a b = @ite _ q (Classical.propDecidable _) a' b := by
  by_cases hq : q
  · rw [ite_p hq, ite_p (h.mpr hq), ha hq]
  · rw [ite_n hq, ite_n (fun hp => hq (h.mp hp))]
theorem itm_any {l : Int} {may : Bool} {t : Nat} {ρ f g : Nat → Int} (h : ∀ j, j < t → g j = f j) : itm l may t g ρ = itm l may t f ρ := by
  by_cases h1 : l = 105
  · subst h1
    rw [itm_i, itm_i]
    exact ite_c ⟨fun ⟨a, b, c⟩ => ⟨a, b, by rw [← h 0 (by omega)]; exact c⟩, fun ⟨a, b, c⟩ => ⟨a, b, by rw [h 0 (by omega)]; exact c⟩⟩ (fun q => by rw [h 0 (by omega)])
  by_cases h2 : l = 100
  · subst h2
    rw [itm_d, itm_d]
    exact ite_c ⟨fun ⟨b, c⟩ => ⟨b, by rw [← h 0 (by omega)]; exact c⟩, fun ⟨b, c⟩ => ⟨b, by rw [h 0 (by omega)]; exact c⟩⟩ (fun q => by rw [h 0 (by omega)])
  by_cases h3 : l = 98
  · subst h3
    rw [itm_b, itm_b]
    exact ite_c ⟨fun ⟨b, c⟩ => ⟨b, by rw [← two_any (h 0 (by omega)) (h 1 (by omega))]; exact c⟩, fun ⟨b, c⟩ => ⟨b, by rw [two_any (h 0 (by omega)) (h 1 (by omega))]; exact c⟩⟩ (fun q => by rw [h 0 (by omega), h 1 (by omega), h 2 (by omega)])
  by_cases h4 : l = 111
  · subst h4
    rw [itm_o, itm_o]
    exact ite_c ⟨fun ⟨b, c⟩ => ⟨b, by rw [← h 0 (by omega)]; exact c⟩, fun ⟨b, c⟩ => ⟨b, by rw [h 0 (by omega)]; exact c⟩⟩ (fun q => by rw [h 0 (by omega)])
  by_cases h5 : l = 103
  · subst h5
    rw [itm_g, itm_g]
    exact ite_c ⟨fun ⟨b, c⟩ => ⟨b, by rw [← two_any (h 0 (by omega)) (h 1 (by omega)), ← h 2 (by omega), ← h 3 (by omega), ← h 4 (by omega)]; exact c⟩, fun ⟨b, c⟩ => ⟨b, by rw [two_any (h 0 (by omega)) (h 1 (by omega)), h 2 (by omega), h 3 (by omega), h 4 (by omega)]; exact c⟩⟩ (fun q => by rw [h 0 (by omega), h 1 (by omega), h 2 (by omega), h 3 (by omega), h 4 (by omega)])
  rw [itm_x ⟨h1, h2, h3, h4, h5⟩, itm_x ⟨h1, h2, h3, h4, h5⟩]
/-- an item: the place behind it and the delta -/
noncomputable def pu (tx : Nat → Int) (n p : Nat) (may : Bool) (ρ : Nat → Int) : Option (Nat × (Nat → Int)) := match itS tx n p may ρ (fun _ => 0) with
  | none => none
  | some w => some (w.1, w.2.1)
section PUF
variable {tx tx2 ρ : Nat → Int} {n p : Nat} {may : Bool}
theorem pu_n {nu : Nat → Int} (h : itS tx n p may ρ nu = none) : pu tx n p may ρ = none := by
  unfold pu
  have : itS tx n p may ρ (fun _ => 0) = none := by
    unfold itS at h ⊢
    rcases scn_any (tx := tx) (n := n) 5 0 (p + 1) nu (fun _ => 0) (fun j hj => absurd hj (by omega)) with ⟨a, b⟩ | ⟨t, q, f, g, a, b, e⟩
    · rw [b]
    · rw [a] at h
      rw [b]
      simp only at h ⊢
      rw [itm_any e]
      cases hi : itm (tx p) may t f ρ with
      | none => rfl
      | some w => rw [hi] at h; cases h
  rw [this]
theorem pu_s {nu nu' ρ' : Nat → Int} {q : Nat} (h : itS tx n p may ρ nu = some (q, ρ', nu')) : pu tx n p may ρ = some (q, ρ') := by
  unfold pu
  have : ∃ g, itS tx n p may ρ (fun _ => 0) = some (q, ρ', g) := by
    unfold itS at h ⊢
    rcases scn_any (tx := tx) (n := n) 5 0 (p + 1) nu (fun _ => 0) (fun j hj => absurd hj (by omega)) with ⟨a, b⟩ | ⟨t, q2, f, g, a, b, e⟩
    · rw [a] at h; cases h
    · rw [a] at h
      rw [b]
      simp only at h ⊢
      rw [itm_any e]
      cases hi : itm (tx p) may t f ρ with
      | none => rw [hi] at h; cases h
      | some w => rw [hi] at h; cases h; exact ⟨_, rfl⟩
  obtain ⟨g, hg⟩ := this
  rw [hg]
/-- the first fault, or -4; the delta read until then -/
noncomputable def flt (tx : Nat → Int) (n : Nat) : Nat → Nat → Bool → (Nat → Int) → Int × (Nat → Int)
  | 0, _, _, ρ => (-4, ρ)
  | m + 1, p, may, ρ => if p < n then (match pu tx n p (may && decide (tx p = 105)) ρ with
    | none => ((p : Int), ρ)
    | some w => flt tx n m w.1 (may && decide (tx p = 105)) w.2) else (-4, ρ)
theorem flt_e {m : Nat} (h : ¬ p < n) : flt tx n m p may ρ = (-4, ρ) := by
  cases m with
  | zero => rfl
  | succ m => exact if_neg h
theorem flt_n {m : Nat} (h : p < n) (h2 : pu tx n p (may && decide (tx p = 105)) ρ = none) : flt tx n (m + 1) p may ρ = ((p : Int), ρ) := by
  show (if p < n then _ else _) = _
  rw [if_pos h, h2]
theorem flt_s {m q : Nat} {ρ' : Nat → Int} (h : p < n) (h2 : pu tx n p (may && decide (tx p = 105)) ρ = some (q, ρ')) : flt tx n (m + 1) p may ρ = flt tx n m q (may && decide (tx p = 105)) ρ' := by
  show (if p < n then _ else _) = _
  rw [if_pos h, h2]
/-- letters behind the text say nothing -/
theorem rd_c (h : ∀ j, j < n → tx2 j = tx j) : rd tx2 n p = rd tx n p := by
  unfold rd
  by_cases h0 : p < n
  · rw [h p h0]
    by_cases h1 : p + 1 < n
    · rw [h (p + 1) h1]
    · have a : ∀ (x : Int), ¬ (p + 1 < n ∧ dgt x) := fun x hh => h1 hh.1
      rw [ite_n (a _), ite_n (a _)]
  · have a : ∀ (x : Int), ¬ (p < n ∧ dgt x) := fun x hh => h0 hh.1
    rw [ite_n (a _), ite_n (a _)]
theorem rd_lt {v : Int} {q : Nat} (h : rd tx n p = some (v, q)) : p < q ∧ q < n := by
  unfold rd at h
  by_cases h0 : p < n ∧ dgt (tx p)
  · rw [ite_p h0] at h
    by_cases h1 : p + 1 < n ∧ dgt (tx (p + 1))
    · rw [ite_p h1] at h
      by_cases h2 : p + 2 < n
      · rw [if_pos h2] at h
        have : q = p + 2 := by cases h; rfl
        omega
      · rw [if_neg h2] at h; cases h
    · rw [ite_n h1] at h
      by_cases h2 : p + 1 < n
      · rw [if_pos h2] at h
        have : q = p + 1 := by cases h; rfl
        omega
      · rw [if_neg h2] at h; cases h
  · rw [ite_n h0] at h; cases h
theorem scn_c (h : ∀ j, j < n → tx2 j = tx j) : ∀ (m k p : Nat) (nu : Nat → Int), scn tx2 n m k p nu = scn tx n m k p nu
  | 0, _, _, _ => rfl
  | m + 1, k, p, nu => by
    unfold scn
    rw [rd_c h]
    cases hr : rd tx n p with
    | none => rfl
    | some w =>
      obtain ⟨v, q⟩ := w
      simp only
      have := (rd_lt hr).2
      rw [h q this, scn_c h m]
theorem itS_c {nu : Nat → Int} (h : ∀ j, j < n → tx2 j = tx j) (hp : p < n) : itS tx2 n p may ρ nu = itS tx n p may ρ nu := by
  unfold itS
  rw [scn_c h, h p hp]
theorem flt_c (h : ∀ j, j < n → tx2 j = tx j) : ∀ (m p : Nat) (may : Bool) (ρ : Nat → Int), flt tx2 n m p may ρ = flt tx n m p may ρ
  | 0, _, _, _ => rfl
  | m + 1, p, may, ρ => by
    by_cases hp : p < n
    · have e : pu tx2 n p (may && decide (tx2 p = 105)) ρ = pu tx n p (may && decide (tx p = 105)) ρ := by
        unfold pu
        rw [itS_c h hp, h p hp]
      cases hu : pu tx n p (may && decide (tx p = 105)) ρ with
      | none => rw [flt_n hp hu, flt_n hp (e.trans hu)]
      | some w => rw [flt_s hp hu, flt_s hp (e.trans hu), h p hp, flt_c h m]
    · rw [flt_e hp, flt_e hp]
/-- a delta that is being read -/
def GR (ρ : Nat → Int) (may : Bool) : Prop := GR0 ρ ∧ (1 ≤ ix ρ 3 ∧ ix ρ 3 ≤ 9) ∧
  (∀ b : Int, 0 ≤ b → b < ix ρ 1 → (0 ≤ ix ρ (4 + b) ∧ ix ρ (4 + b) < ix ρ 0 ∧ 0 ≤ ix ρ (13 + b) ∧ ix ρ (13 + b) < ix ρ 0 ∧ ix ρ (4 + b) ≠ ix ρ (13 + b)) ∧ (0 ≤ ix ρ (22 + b) ∧ ix ρ (22 + b) ≤ 99)) ∧
  (∀ b : Int, 0 ≤ b → b < 9 → 0 ≤ ix ρ (31 + b) ∧ ix ρ (31 + b) ≤ 1 ∧ (ix ρ 1 ≤ b → ix ρ (31 + b) = 0)) ∧
  (∀ i : Int, 0 ≤ i → i < ix ρ 2 → (0 ≤ ix ρ (40 + i) ∧ ix ρ (40 + i) < ix ρ 0 ∧ 0 ≤ ix ρ (45 + i) ∧ ix ρ (45 + i) < ix ρ 0 ∧ ix ρ (40 + i) ≠ ix ρ (45 + i)) ∧ (1 ≤ ix ρ (50 + i) ∧ ix ρ (50 + i) ≤ 40 ∧ 0 ≤ ix ρ (55 + i) ∧ ix ρ (55 + i) ≤ 20 ∧ 0 ≤ ix ρ (60 + i) ∧ ix ρ (60 + i) ≤ 4)) ∧
  (may = true → ix ρ 1 = 0 ∧ ix ρ 2 = 0)
theorem GR.gd (h : GR ρ may) (h1 : ¬ ix ρ 1 = 0) : GD ρ (ix ρ 1).toNat (ix ρ 2).toNat (ix ρ 0).toNat := by
  obtain ⟨⟨g0, g1, g2⟩, g3, g4, g5, g6, g7⟩ := h
  refine ⟨⟨by omega, by omega, by omega⟩, ⟨by omega, by omega, by omega, by omega, by omega⟩, g3, fun b b0 b1 => ?_, fun i i0 i1 => ?_⟩
  · have := g4 b b0 (by omega)
    have := g5 b b0 (by omega)
    refine ⟨⟨by omega, by omega, by omega, by omega, by omega⟩, by omega, by omega, by omega, by omega⟩
  · have := g6 i i0 (by omega)
    refine ⟨⟨by omega, by omega, by omega, by omega, by omega⟩, by omega, by omega, by omega, by omega, by omega, by omega⟩
end PUF
