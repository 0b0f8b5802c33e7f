/-! pure: the first of several, how far islands are off, the bridge that is taken -/
theorem imp_i {p q : Prop} (h : p → q) : p → q := h
/-- the first k from a place on, m of them, for which P holds; else -4 -/
noncomputable def fst_ (P : Int → Prop) : Nat → Nat → Int
  | 0, _ => -4
  | m + 1, k => @ite _ (P (k : Int)) (Classical.propDecidable _) (k : Int) (fst_ P m (k + 1))
theorem fst_t {P : Int → Prop} {m k : Nat} (h : P (k : Int)) : fst_ P (m + 1) k = (k : Int) := @if_pos _ (Classical.propDecidable _) h _ _ _
theorem fst_f {P : Int → Prop} {m k : Nat} (h : ¬ P (k : Int)) : fst_ P (m + 1) k = fst_ P m (k + 1) := @if_neg _ (Classical.propDecidable _) h _ _ _
theorem fst_congr {P Q : Int → Prop} : ∀ {m k : Nat}, (∀ b : Int, k ≤ b → b < k + m → (P b ↔ Q b)) → fst_ P m k = fst_ Q m k
  | 0, _, _ => rfl
  | m + 1, k, h => by
    have ih := fst_congr (P := P) (Q := Q) (m := m) (k := k + 1) (fun b h1 h2 => h b (by omega) (by omega))
    by_cases hp : P (k : Int)
    · rw [fst_t hp, fst_t ((h k (by omega) (by omega)).mp hp)]
    · rw [fst_f hp, fst_f (fun q => hp ((h k (by omega) (by omega)).mpr q)), ih]
theorem fst_spec {P : Int → Prop} : ∀ (m k : Nat), (fst_ P m k = -4 ∧ ∀ b : Int, k ≤ b → b < k + m → ¬ P b) ∨ (∃ b : Nat, fst_ P m k = (b : Int) ∧ k ≤ b ∧ b < k + m ∧ P b ∧ ∀ a : Int, k ≤ a → a < b → ¬ P a)
  | 0, k => Or.inl ⟨rfl, fun b h1 h2 => by omega⟩
  | m + 1, k => by
    by_cases hp : P (k : Int)
    · exact Or.inr ⟨k, fst_t hp, by omega, by omega, hp, fun a h1 h2 => by omega⟩
    · rw [fst_f hp]
      rcases fst_spec (P := P) m (k + 1) with ⟨h1, h2⟩ | ⟨b, h1, h2, h3, h4, h5⟩
      · refine Or.inl ⟨h1, fun b g1 g2 => ?_⟩
        by_cases e : b = (k : Int)
        · rw [e]; exact hp
        · exact h2 b (by omega) (by omega)
      · refine Or.inr ⟨b, h1, by omega, by omega, h4, fun a g1 g2 => ?_⟩
        by_cases e : a = (k : Int)
        · rw [e]; exact hp
        · exact h5 a (by omega) g2
theorem fst_none {P : Int → Prop} {m : Nat} (h : ∀ b : Int, 0 ≤ b → b < m → ¬ P b) : fst_ P m 0 = -4 := by
  rcases fst_spec (P := P) m 0 with ⟨h1, _⟩ | ⟨b, _, _, h3, h4, _⟩
  · exact h1
  · exact absurd h4 (h b (by omega) (by omega))
theorem fst_B {P : Int → Prop} {m : Nat} : fst_ P m 0 = -4 ∨ (0 ≤ fst_ P m 0 ∧ fst_ P m 0 < m ∧ P (fst_ P m 0)) := by
  rcases fst_spec (P := P) m 0 with ⟨h1, _⟩ | ⟨b, h1, h2, h3, h4, _⟩
  · exact Or.inl h1
  · refine Or.inr ?_; rw [h1]; exact ⟨by omega, by omega, h4⟩
/-- islands from which bd can be reached by at most k usable bridges -/
def rch (u : Int → Prop) (δ : Nat → Int) (nb : Nat) (bd : Int) : Nat → Int → Prop
  | 0, p => p = bd
  | k + 1, p => rch u δ nb bd k p ∨ ∃ b : Int, 0 ≤ b ∧ b < nb ∧ u b ∧ ((ix δ (4 + b) = p ∧ rch u δ nb bd k (ix δ (13 + b))) ∨ (ix δ (13 + b) = p ∧ rch u δ nb bd k (ix δ (4 + b))))
/-- b leads from p to an island of the level k -/
def into (u : Int → Prop) (δ : Nat → Int) (nb : Nat) (bd : Int) (k : Nat) (p b : Int) : Prop := u b ∧ ((ix δ (4 + b) = p ∧ rch u δ nb bd k (ix δ (13 + b))) ∨ (ix δ (13 + b) = p ∧ rch u δ nb bd k (ix δ (4 + b))))
/-- the bridge that is taken, looked for from level k on, m levels -/
noncomputable def tkr (u : Int → Prop) (δ : Nat → Int) (nb : Nat) (bd p : Int) : Nat → Nat → Int
  | 0, _ => -4
  | m + 1, k => if fst_ (into u δ nb bd k p) nb 0 = -4 then tkr u δ nb bd p m (k + 1) else fst_ (into u δ nb bd k p) nb 0
section RCH
variable {u : Int → Prop} {δ : Nat → Int} {nb : Nat} {bd : Int}
theorem rch_s {k : Nat} {p : Int} : rch u δ nb bd (k + 1) p ↔ rch u δ nb bd k p ∨ ∃ b : Int, 0 ≤ b ∧ b < nb ∧ into u δ nb bd k p b := Iff.rfl
theorem rch_m {k j : Nat} {p : Int} (h : rch u δ nb bd k p) (hj : k ≤ j) : rch u δ nb bd j p := by
  induction j with
  | zero => have : k = 0 := by omega
            subst this; exact h
  | succ j ih =>
    by_cases e : k = j + 1
    · subst e; exact h
    · exact Or.inl (ih (by omega))
theorem into_m {k j : Nat} {p b : Int} (h : into u δ nb bd k p b) (hj : k ≤ j) : into u δ nb bd j p b := by
  refine ⟨h.1, ?_⟩
  rcases h.2 with ⟨h1, h2⟩ | ⟨h1, h2⟩
  · exact Or.inl ⟨h1, rch_m h2 hj⟩
  · exact Or.inr ⟨h1, rch_m h2 hj⟩
/-- a level that adds nothing is the last -/
theorem rch_stop {k : Nat} (h : ∀ p, rch u δ nb bd (k + 1) p → rch u δ nb bd k p) : ∀ (j : Nat) (p : Int), rch u δ nb bd j p → rch u δ nb bd k p := by
  intro j
  induction j with
  | zero => intro p hp; exact rch_m hp (Nat.zero_le _)
  | succ j ih =>
    intro p hp
    rcases hp with hp | ⟨b, h1, h2, h3, h4⟩
    · exact ih p hp
    · refine h p (Or.inr ⟨b, h1, h2, h3, ?_⟩)
      rcases h4 with ⟨g1, g2⟩ | ⟨g1, g2⟩
      · exact Or.inl ⟨g1, ih _ g2⟩
      · exact Or.inr ⟨g1, ih _ g2⟩
/-- how many islands there are below n in a set -/
noncomputable def cnt (P : Int → Prop) : Nat → Nat
  | 0 => 0
  | n + 1 => cnt P n + @ite _ (P (n : Int)) (Classical.propDecidable _) 1 0
theorem cnt_le {P : Int → Prop} : ∀ n, cnt P n ≤ n
  | 0 => Nat.le_refl _
  | n + 1 => by
    have := cnt_le (P := P) n
    unfold cnt
    split <;> omega
theorem cnt_mono {P Q : Int → Prop} (h : ∀ p, P p → Q p) : ∀ n, cnt P n ≤ cnt Q n
  | 0 => Nat.le_refl _
  | n + 1 => by
    have := cnt_mono h n
    unfold cnt
    by_cases hp : P (n : Int)
    · rw [@if_pos _ (Classical.propDecidable _) hp, @if_pos _ (Classical.propDecidable _) (h _ hp)]; omega
    · rw [@if_neg _ (Classical.propDecidable _) hp]; omega
theorem cnt_lt {P Q : Int → Prop} (h : ∀ p, P p → Q p) : ∀ (n : Nat) (p : Int), 0 ≤ p → p < n → Q p → ¬ P p → cnt P n < cnt Q n
  | 0, p, h0, h1, _, _ => by omega
  | n + 1, p, h0, h1, hq, hp => by
    unfold cnt
    by_cases e : p = (n : Int)
    · subst e
      rw [@if_neg _ (Classical.propDecidable _) hp, @if_pos _ (Classical.propDecidable _) hq]
      have := cnt_mono h n; omega
    · have := cnt_lt h n p h0 (by omega) hq hp
      by_cases hp : P (n : Int)
      · rw [@if_pos _ (Classical.propDecidable _) hp, @if_pos _ (Classical.propDecidable _) (h _ hp)]; omega
      · rw [@if_neg _ (Classical.propDecidable _) hp]; omega
theorem rch_in {ni : Nat} (hb : 0 ≤ bd ∧ bd < ni) (he : ∀ b : Int, 0 ≤ b → b < nb → (0 ≤ ix δ (4 + b) ∧ ix δ (4 + b) < ni) ∧ (0 ≤ ix δ (13 + b) ∧ ix δ (13 + b) < ni)) : ∀ (k : Nat) (p : Int), rch u δ nb bd k p → 0 ≤ p ∧ p < ni
  | 0, p, h => by rw [show p = bd from h]; exact hb
  | k + 1, p, h => by
    rcases h with h | ⟨b, h1, h2, _, h4⟩
    · exact rch_in hb he k p h
    · rcases h4 with ⟨g1, _⟩ | ⟨g1, _⟩
      · rw [← g1]; exact (he b h1 h2).1
      · rw [← g1]; exact (he b h1 h2).2
theorem rch_cnt {ni : Nat} (hb : 0 ≤ bd ∧ bd < ni) (he : ∀ b : Int, 0 ≤ b → b < nb → (0 ≤ ix δ (4 + b) ∧ ix δ (4 + b) < ni) ∧ (0 ≤ ix δ (13 + b) ∧ ix δ (13 + b) < ni)) : ∀ k : Nat, k + 1 ≤ cnt (rch u δ nb bd k) ni ∨ ∃ j, j < k ∧ ∀ p, rch u δ nb bd (j + 1) p → rch u δ nb bd j p
  | 0 => by
    refine Or.inl ?_
    have := cnt_lt (P := fun _ => False) (Q := rch u δ nb bd 0) (fun _ h => h.elim) ni bd hb.1 hb.2 rfl (fun h => h)
    omega
  | k + 1 => by
    rcases rch_cnt hb he k with h | ⟨j, h1, h2⟩
    · by_cases hs : ∀ p, rch u δ nb bd (k + 1) p → rch u δ nb bd k p
      · exact Or.inr ⟨k, by omega, hs⟩
      · refine Or.inl ?_
        have : ∃ p, rch u δ nb bd (k + 1) p ∧ ¬ rch u δ nb bd k p := by
          apply Classical.byContradiction
          intro hn
          exact hs (fun p hp => Classical.byContradiction (fun hq => hn ⟨p, hp, hq⟩))
        obtain ⟨p, hp, hq⟩ := this
        have hi := rch_in hb he (k + 1) p hp
        have := cnt_lt (P := rch u δ nb bd k) (Q := rch u δ nb bd (k + 1)) (fun _ h => Or.inl h) ni p hi.1 hi.2 hp hq
        omega
    · exact Or.inr ⟨j, by omega, h2⟩
/-- who can be reached at all is reached by as many bridges as there are other islands -/
theorem rch_all {ni : Nat} (hb : 0 ≤ bd ∧ bd < ni) (he : ∀ b : Int, 0 ≤ b → b < nb → (0 ≤ ix δ (4 + b) ∧ ix δ (4 + b) < ni) ∧ (0 ≤ ix δ (13 + b) ∧ ix δ (13 + b) < ni)) {k : Nat} {p : Int} (h : rch u δ nb bd k p) : rch u δ nb bd (ni - 1) p := by
  rcases rch_cnt (u := u) hb he ni with h1 | ⟨j, h1, h2⟩
  · have := cnt_le (P := rch u δ nb bd ni) ni; omega
  · exact rch_m (rch_stop h2 k p h) (by omega)
end RCH
