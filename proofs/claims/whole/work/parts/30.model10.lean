/-! the reference: layOff's other loops -/
noncomputable def rxp (u : Int → Prop) (δ : Nat → Int) (f : Nat → Int) : Nat → Nat → Int
  | 0 => f
  | b + 1 => @ite _ (u (b : Int)) (Classical.propDecidable _) (rx (rxp u δ f b) (ix δ (4 + (b : Int))) (ix δ (13 + (b : Int)))) (rxp u δ f b)
noncomputable def rxr (u : Int → Prop) (δ : Nat → Int) (nb : Nat) (f : Nat → Int) : Nat → Nat → Int
  | 0 => f
  | t + 1 => rxp u δ (rxr u δ nb f t) nb
/-- all places within bounds -/
def off_ok (f : Nat → Int) : Prop := ∀ p : Int, 0 ≤ p → p < 8 → 0 ≤ ix f p ∧ ix f p ≤ 1000000
theorem rx1_ok {f : Nat → Int} {a b : Int} (h : off_ok f) (ha : 0 ≤ a ∧ a < 8) (hb : 0 ≤ b ∧ b < 8) : off_ok (rx1 f a b) := by
  intro p h0 h8
  have h1 := h a ha.1 ha.2
  have h2 := h b hb.1 hb.2
  have h3 := h p h0 h8
  unfold rx1
  by_cases e : p = a
  · subst e; rw [ix_s]; split <;> omega
  · rw [ix_n ha.1 h0 e]; exact h3
theorem rx_ok {f : Nat → Int} {a b : Int} (h : off_ok f) (ha : 0 ≤ a ∧ a < 8) (hb : 0 ≤ b ∧ b < 8) : off_ok (rx f a b) := rx1_ok (rx1_ok h ha hb) hb ha
