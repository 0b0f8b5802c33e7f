/-! pure: how a text is read -/
def dgt (x : Int) : Prop := 48 ≤ x ∧ x ≤ 57
/-- a number of one or two figures at p: its value and the place behind it -/
noncomputable def rd (tx : Nat → Int) (n p : Nat) : Option (Int × Nat) :=
  @ite _ (p < n ∧ dgt (tx p)) (Classical.propDecidable _)
    (@ite _ (p + 1 < n ∧ dgt (tx (p + 1))) (Classical.propDecidable _) (if p + 2 < n then some (10 * (tx p - 48) + tx (p + 1) - 48, p + 2) else none) (if p + 1 < n then some (tx p - 48, p + 1) else none)) none
/-- the reference's loop over figures -/
noncomputable def dgs (tx : Nat → Int) (n : Nat) : Nat → Nat → Nat → Int → Nat × Nat × Int
  | 0, p, f, v => (p, f, v)
  | m + 1, p, f, v => @ite _ (p < n ∧ dgt (tx p)) (Classical.propDecidable _) (dgs tx n m (p + 1) (f + 1) (if f < 2 then 10 * v + tx p - 48 else v)) (p, f, v)
section TXT
variable {tx : Nat → Int} {n : Nat}
theorem dgs_t {m p f : Nat} {v : Int} (h : p < n ∧ dgt (tx p)) : dgs tx n (m + 1) p f v = dgs tx n m (p + 1) (f + 1) (if f < 2 then 10 * v + tx p - 48 else v) := @if_pos _ (Classical.propDecidable _) h _ _ _
theorem dgs_f {m p f : Nat} {v : Int} (h : ¬ (p < n ∧ dgt (tx p))) : dgs tx n m p f v = (p, f, v) := by
  cases m with
  | zero => rfl
  | succ m => exact @if_neg _ (Classical.propDecidable _) h _ _ _
theorem dgs_m : ∀ (m p f : Nat) (v : Int), f ≤ (dgs tx n m p f v).2.1 ∧ p ≤ (dgs tx n m p f v).1
  | 0, p, f, v => ⟨Nat.le_refl _, Nat.le_refl _⟩
  | m + 1, p, f, v => by
    by_cases h : p < n ∧ dgt (tx p)
    · rw [dgs_t h]
      have := dgs_m m (p + 1) (f + 1) (if f < 2 then 10 * v + tx p - 48 else v)
      omega
    · rw [dgs_f h]; exact ⟨Nat.le_refl _, Nat.le_refl _⟩
/-- both ways of reading a number with a mark behind it are one -/
theorem rd_dgs {p : Nat} {sep : Int} (hs : sep = 44 ∨ sep = 59) (hp : p ≤ n) : (((dgs tx n (n - p) p 0 0).1 < n ∧ tx (dgs tx n (n - p) p 0 0).1 = sep) ∧ 1 ≤ (dgs tx n (n - p) p 0 0).2.1 ∧ (dgs tx n (n - p) p 0 0).2.1 ≤ 2) ↔ ∃ v q, rd tx n p = some (v, q) ∧ tx q = sep := by
  unfold rd
  by_cases h0 : p < n ∧ dgt (tx p)
  · rw [@if_pos _ (Classical.propDecidable _) h0]
    obtain ⟨m, hm⟩ : ∃ m, n - p = m + 1 := ⟨n - p - 1, by omega⟩
    rw [hm, dgs_t h0, if_pos (by omega)]
    by_cases h1 : p + 1 < n ∧ dgt (tx (p + 1))
    · rw [@if_pos _ (Classical.propDecidable _) h1]
      obtain ⟨m1, hm1⟩ : ∃ m1, m = m1 + 1 := ⟨m - 1, by omega⟩
      rw [hm1, dgs_t h1, if_pos (by omega)]
      by_cases h2 : p + 1 + 1 < n ∧ dgt (tx (p + 1 + 1))
      · obtain ⟨m2, hm2⟩ : ∃ m2, m1 = m2 + 1 := ⟨m1 - 1, by omega⟩
        rw [hm2, dgs_t h2]
        have := dgs_m (tx := tx) (n := n) m2 (p + 1 + 1 + 1) (0 + 1 + 1 + 1) (if 0 + 1 + 1 < 2 then 10 * (10 * (10 * 0 + tx p - 48) + tx (p + 1) - 48) + tx (p + 1 + 1) - 48 else 10 * (10 * 0 + tx p - 48) + tx (p + 1) - 48)
        constructor
        · rintro ⟨_, _, h⟩; omega
        · rintro ⟨v, q, h, hq⟩
          rw [if_pos (by omega)] at h
          have e : q = p + 2 := by cases h; rfl
          subst e
          have := h2.2
          unfold dgt at this
          have e2 : tx (p + 1 + 1) = tx (p + 2) := rfl
          rw [e2] at this
          omega
      · rw [dgs_f h2]
        constructor
        · rintro ⟨⟨a, b⟩, _⟩
          exact ⟨_, _, if_pos a, b⟩
        · rintro ⟨v, q, h, hq⟩
          by_cases hlt : p + 2 < n
          · rw [if_pos hlt] at h
            have e : q = p + 2 := by cases h; rfl
            subst e
            exact ⟨⟨hlt, hq⟩, by show 1 ≤ 0 + 1 + 1; omega, by show 0 + 1 + 1 ≤ 2; omega⟩
          · rw [if_neg hlt] at h; cases h
    · rw [@if_neg _ (Classical.propDecidable _) h1, dgs_f h1]
      constructor
      · rintro ⟨⟨a, b⟩, _⟩
        exact ⟨_, _, if_pos a, b⟩
      · rintro ⟨v, q, h, hq⟩
        by_cases hlt : p + 1 < n
        · rw [if_pos hlt] at h
          have e : q = p + 1 := by cases h; rfl
          subst e
          exact ⟨⟨hlt, hq⟩, by show 1 ≤ 0 + 1; omega, by show 0 + 1 ≤ 2; omega⟩
        · rw [if_neg hlt] at h; cases h
  · rw [@if_neg _ (Classical.propDecidable _) h0, dgs_f h0]
    constructor
    · rintro ⟨_, h, _⟩
      have h : 1 ≤ 0 := h
      omega
    · rintro ⟨v, q, h, _⟩; cases h
theorem rd_val {p q : Nat} {v : Int} (h : rd tx n p = some (v, q)) (hs : tx q = 44 ∨ tx q = 59) : dgs tx n (n - p) p 0 0 = (q, q - p, v) ∧ p < q ∧ q ≤ p + 2 ∧ q < n ∧ 0 ≤ v ∧ v ≤ 99 := by
  unfold rd at h
  by_cases h0 : p < n ∧ dgt (tx p)
  · rw [@if_pos _ (Classical.propDecidable _) h0] at h
    obtain ⟨m, hm⟩ : ∃ m, n - p = m + 1 := ⟨n - p - 1, by omega⟩
    have d0 := h0.2
    unfold dgt at d0
    rw [hm, dgs_t h0, if_pos (by omega)]
    by_cases h1 : p + 1 < n ∧ dgt (tx (p + 1))
    · rw [@if_pos _ (Classical.propDecidable _) h1] at h
      have d1 := h1.2
      unfold dgt at d1
      obtain ⟨m1, hm1⟩ : ∃ m1, m = m1 + 1 := ⟨m - 1, by omega⟩
      rw [hm1, dgs_t h1, if_pos (by omega)]
      by_cases hlt : p + 2 < n
      · rw [if_pos hlt] at h
        have e1 : q = p + 2 := by cases h; rfl
        have e2 : v = 10 * (tx p - 48) + tx (p + 1) - 48 := by cases h; rfl
        subst e1
        have h2 : ¬ (p + 1 + 1 < n ∧ dgt (tx (p + 1 + 1))) := by
          rintro ⟨_, h2⟩
          unfold dgt at h2
          have e3 : tx (p + 1 + 1) = tx (p + 2) := rfl
          omega
        rw [dgs_f h2]
        refine ⟨?_, by omega, by omega, hlt, by omega, by omega⟩
        rw [e2, show p + 2 - p = 0 + 1 + 1 by omega, show 10 * (10 * 0 + tx p - 48) + tx (p + 1) - 48 = 10 * (tx p - 48) + tx (p + 1) - 48 by omega]
      · rw [if_neg hlt] at h; cases h
    · rw [@if_neg _ (Classical.propDecidable _) h1] at h
      by_cases hlt : p + 1 < n
      · rw [if_pos hlt] at h
        have e1 : q = p + 1 := by cases h; rfl
        have e2 : v = tx p - 48 := by cases h; rfl
        subst e1
        rw [dgs_f h1]
        refine ⟨?_, by omega, by omega, hlt, by omega, by omega⟩
        rw [e2, show p + 1 - p = 0 + 1 by omega, show 10 * 0 + tx p - 48 = tx p - 48 by omega]
      · rw [if_neg hlt] at h; cases h
  · rw [@if_neg _ (Classical.propDecidable _) h0] at h; cases h
/-- the class's scan -/
noncomputable def scn (tx : Nat → Int) (n : Nat) : Nat → Nat → Nat → (Nat → Int) → Option (Nat × Nat × (Nat → Int))
  | 0, _, _, _ => none
  | m + 1, k, p, nu => match rd tx n p with
    | none => none
    | some (v, q) => if tx q = 59 then some (k + 1, q + 1, fu nu k v) else if tx q = 44 then scn tx n m (k + 1) (q + 1) (fu nu k v) else none
/-- the reference's takes -/
noncomputable def tks (tx : Nat → Int) (n : Nat) : Nat → Nat → Nat → (Nat → Int) → Option (Nat × (Nat → Int))
  | 0, _, p, nu => some (p, nu)
  | m + 1, k, p, nu => match rd tx n p with
    | none => none
    | some (v, q) => if tx q = (if m = 0 then 59 else 44) then tks tx n m (k + 1) (q + 1) (fu nu k v) else none
theorem scn_tks : ∀ (m a k p : Nat) (nu : Nat → Int), 1 ≤ a → a ≤ m → (∀ q nu', tks tx n a k p nu = some (q, nu') ↔ scn tx n m k p nu = some (k + a, q, nu'))
  | 0, a, k, p, nu, h1, h2 => by omega
  | m + 1, a, k, p, nu, h1, h2 => by
    obtain ⟨a', rfl⟩ : ∃ a', a = a' + 1 := ⟨a - 1, by omega⟩
    intro q nu'
    unfold tks scn
    cases hr : rd tx n p with
    | none => simp
    | some w =>
      obtain ⟨v, r⟩ := w
      simp only
      by_cases ha : a' = 0
      · subst ha
        rw [if_pos rfl]
        by_cases h59 : tx r = 59
        · rw [if_pos h59, if_pos h59]
          unfold tks
          simp
        · rw [if_neg h59, if_neg h59]
          by_cases h44 : tx r = 44
          · rw [if_pos h44]
            constructor
            · intro h; cases h
            · intro h
              exfalso
              have key : ∀ (m k p : Nat) (nu : Nat → Int) (t q : Nat) (nu' : Nat → Int), scn tx n m k p nu = some (t, q, nu') → k + 1 ≤ t := by
                intro m
                induction m with
                | zero => intro k p nu t q nu' h; cases h
                | succ m ih =>
                  intro k p nu t q nu' h
                  unfold scn at h
                  cases hr2 : rd tx n p with
                  | none => rw [hr2] at h; cases h
                  | some w =>
                    rw [hr2] at h
                    obtain ⟨v2, r2⟩ := w
                    simp only at h
                    split at h
                    · cases h; omega
                    · split at h
                      · have := ih _ _ _ _ _ _ h; omega
                      · cases h
              have := key _ _ _ _ _ _ _ h
              omega
          · rw [if_neg h44]; simp
      · rw [if_neg ha]
        by_cases h44 : tx r = 44
        · rw [if_pos h44, if_neg (by omega), if_pos h44]
          have := scn_tks m a' (k + 1) (r + 1) (fu nu k v) (by omega) (by omega) q nu'
          rw [this, show k + 1 + a' = k + (a' + 1) by omega]
        · rw [if_neg h44]
          by_cases h59 : tx r = 59
          · rw [if_pos h59]
            constructor
            · intro h; cases h
            · intro h
              have h3 : k + 1 = k + (a' + 1) := congrArg Prod.fst (Option.some.inj h)
              omega
          · rw [if_neg h59, if_neg h44]; simp
end TXT
