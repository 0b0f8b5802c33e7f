/-! pure: sets of islands as bits, level by level -/
theorem zand_ends {x a b : Int} (ha : 0 ≤ a ∧ a < 32) (hb : 0 ≤ b ∧ b < 32) : zand x (zor (zshl 1 a) (zshl 1 b)) = 0 ↔ ¬ (zb x a = 1 ∨ zb x b = 1) := by
  rw [zb_1 ha, zb_1 hb]
  constructor
  · intro h
    have h1 : ∀ i, i < 32 → (zt x i && (decide (i = a.toNat) || decide (i = b.toNat))) = false := by
      intro i hi
      have := zt_and x (zor (zshl 1 a) (zshl 1 b)) i
      rw [h, zt_0, zt_or, zt_one ha hi, zt_one hb hi] at this
      exact this.symm
    rintro (q | q)
    · have := h1 a.toNat (by omega); simp [q] at this
    · have := h1 b.toNat (by omega); simp [q] at this
  · intro h
    refine z_ext zand_R ⟨by omega, by omega⟩ (fun i hi => ?_)
    rw [zt_and, zt_or, zt_one ha hi, zt_one hb hi, zt_0]
    by_cases h1 : i = a.toNat
    · subst h1
      have : zt x a.toNat = false := by cases e : zt x a.toNat with | false => rfl | true => exact absurd (Or.inl e) h
      simp [this]
    · by_cases h2 : i = b.toNat
      · subst h2
        have : zt x b.toNat = false := by cases e : zt x b.toNat with | false => rfl | true => exact absurd (Or.inr e) h
        simp [this]
      · simp [h1, h2]
theorem zb_or {x y p : Int} (hp : 0 ≤ p ∧ p < 32) : zb (zor x y) p = 1 ↔ (zb x p = 1 ∨ zb y p = 1) := by
  rw [zb_1 hp, zb_1 hp, zb_1 hp, zt_or]; simp
theorem zb_shl {a p : Int} (ha : 0 ≤ a ∧ a < 32) (hp : 0 ≤ p ∧ p < 32) : zb (zshl 1 a) p = 1 ↔ p = a := by
  rw [zb_1 hp, zt_one ha (by omega), decide_eq_true_iff]; omega
theorem wdn_b {δ : Nat → Int} {nb : Nat} {near us p : Int} (hB : endsB δ nb) (h9 : nb ≤ 9) (hp : 0 ≤ p ∧ p < 8) : ∀ n : Nat, n ≤ nb → (zb (wdn δ near us n) p = 1 ↔ (zb near p = 1 ∨ ∃ b : Int, 0 ≤ b ∧ b < n ∧ zb us b = 1 ∧ ((ix δ (4 + b) = p ∧ zb near (ix δ (13 + b)) = 1) ∨ (ix δ (13 + b) = p ∧ zb near (ix δ (4 + b)) = 1))))
  | 0, _ => by
    constructor
    · exact fun h => Or.inl h
    · rintro (h | ⟨b, h1, h2, _⟩)
      · exact h
      · omega
  | n + 1, hn => by
    have ih := wdn_b hB h9 hp (near := near) (us := us) n (by omega)
    have hk := hB n (by omega) (by omega)
    have hc := zand_ends (x := near) (a := ix δ (4 + (n : Int))) (b := ix δ (13 + (n : Int))) (by omega) (by omega)
    show zb (if _ then _ else _) p = 1 ↔ _
    have up : (∃ b : Int, 0 ≤ b ∧ b < n ∧ zb us b = 1 ∧ ((ix δ (4 + b) = p ∧ zb near (ix δ (13 + b)) = 1) ∨ (ix δ (13 + b) = p ∧ zb near (ix δ (4 + b)) = 1))) → (∃ b : Int, 0 ≤ b ∧ b < (n + 1 : Nat) ∧ zb us b = 1 ∧ ((ix δ (4 + b) = p ∧ zb near (ix δ (13 + b)) = 1) ∨ (ix δ (13 + b) = p ∧ zb near (ix δ (4 + b)) = 1))) := by
      rintro ⟨b, h1, h2, h3⟩; exact ⟨b, h1, by omega, h3⟩
    split
    · rename_i hq
      have hq2 : zb near (ix δ (4 + (n : Int))) = 1 ∨ zb near (ix δ (13 + (n : Int))) = 1 := by
        apply Classical.byContradiction; intro h; exact hq.2 (hc.mpr h)
      rw [zb_or (by omega), zb_or (by omega), zb_shl (by omega) (by omega), zb_shl (by omega) (by omega), ih]
      constructor
      · rintro ((h | h) | (h | h))
        · exact Or.inl h
        · exact Or.inr (up h)
        · subst h
          rcases hq2 with h | h
          · exact Or.inl h
          · exact Or.inr ⟨n, by omega, by omega, hq.1, Or.inl ⟨rfl, h⟩⟩
        · subst h
          rcases hq2 with h | h
          · exact Or.inr ⟨n, by omega, by omega, hq.1, Or.inr ⟨rfl, h⟩⟩
          · exact Or.inl h
      · rintro (h | ⟨b, h1, h2, h3, h4⟩)
        · exact Or.inl (Or.inl h)
        · by_cases e : b = (n : Int)
          · subst e
            rcases h4 with ⟨h, _⟩ | ⟨h, _⟩
            · exact Or.inr (Or.inl h.symm)
            · exact Or.inr (Or.inr h.symm)
          · exact Or.inl (Or.inr ⟨b, h1, by omega, h3, h4⟩)
    · rename_i hq
      rw [ih]
      constructor
      · rintro (h | h)
        · exact Or.inl h
        · exact Or.inr (up h)
      · rintro (h | ⟨b, h1, h2, h3, h4⟩)
        · exact Or.inl h
        · by_cases e : b = (n : Int)
          · subst e
            exfalso
            refine hq ⟨h3, fun hz => hc.mp hz ?_⟩
            rcases h4 with ⟨_, h⟩ | ⟨_, h⟩
            · exact Or.inr h
            · exact Or.inl h
          · exact Or.inr ⟨b, h1, by omega, h3, h4⟩
section LEV
variable {u : Int → Prop} {δ : Nat → Int} {nb ni : Nat} {bd us : Int}
def NB (u : Int → Prop) (δ : Nat → Int) (nb : Nat) (bd : Int) (k : Nat) (near : Int) : Prop := ∀ p : Int, 0 ≤ p → p < 8 → (zb near p = 1 ↔ rch u δ nb bd k p)
def UB (u : Int → Prop) (nb : Nat) (us : Int) : Prop := ∀ b : Int, 0 ≤ b → b < nb → (zb us b = 1 ↔ u b)
theorem NB.zero (hb : 0 ≤ bd ∧ bd < 8) : NB u δ nb bd 0 (zshl 1 bd) := fun p h0 h8 => by
  rw [zb_shl (by omega) (by omega)]; exact Iff.rfl
theorem NB.lto {k : Nat} {near p b : Int} (h : NB u δ nb bd k near) (hU : UB u nb us) (hB : endsB δ nb) (hb : 0 ≤ b ∧ b < nb) : ltoP δ near p us b ↔ into u δ nb bd k p b := by
  have hk := hB b hb.1 hb.2
  unfold ltoP into
  rw [hU b hb.1 hb.2, h _ hk.1 hk.2.1, h _ hk.2.2.1 hk.2.2.2]
theorem NB.succ {k : Nat} {near : Int} (h : NB u δ nb bd k near) (hU : UB u nb us) (hB : endsB δ nb) (h9 : nb ≤ 9) : NB u δ nb bd (k + 1) (wdn δ near us nb) := fun p h0 h8 => by
  rw [wdn_b hB h9 ⟨h0, h8⟩ nb (Nat.le_refl _), h p h0 h8, rch_s]
  constructor
  · rintro (q | ⟨b, h1, h2, h3⟩)
    · exact Or.inl q
    · exact Or.inr ⟨b, h1, h2, (h.lto hU hB ⟨h1, h2⟩).mp h3⟩
  · rintro (q | ⟨b, h1, h2, h3⟩)
    · exact Or.inl q
    · exact Or.inr ⟨b, h1, h2, (h.lto hU hB ⟨h1, h2⟩).mpr h3⟩
theorem NB.fst {k : Nat} {near p : Int} (h : NB u δ nb bd k near) (hU : UB u nb us) (hB : endsB δ nb) : fst_ (ltoP δ near p us) nb 0 = fst_ (into u δ nb bd k p) nb 0 := fst_congr (fun b h1 h2 => h.lto hU hB ⟨by omega, by omega⟩)
theorem tkr_stop {k : Nat} {p : Int} (h : ∀ p, rch u δ nb bd (k + 1) p → rch u δ nb bd k p) (hf : fst_ (into u δ nb bd k p) nb 0 = -4) : ∀ m j, tkr u δ nb bd p m j = -4 := by
  refine tkr_none (fun j b h1 h2 h3 => ?_)
  have : into u δ nb bd k p b := ⟨h3.1, by
    rcases h3.2 with ⟨a, c⟩ | ⟨a, c⟩
    · exact Or.inl ⟨a, rch_stop h j _ c⟩
    · exact Or.inr ⟨a, rch_stop h j _ c⟩⟩
  exact fst_some ⟨b, h1, h2, this⟩ hf
theorem NB.stop {k : Nat} {near : Int} (h : NB u δ nb bd k near) (hU : UB u nb us) (hB : endsB δ nb) (h9 : nb ≤ 9) (hb : 0 ≤ bd ∧ bd < 8) (hw : wdn δ near us nb = near) : ∀ p, rch u δ nb bd (k + 1) p → rch u δ nb bd k p := by
  intro p hp
  have he : ∀ b : Int, 0 ≤ b → b < nb → (0 ≤ ix δ (4 + b) ∧ ix δ (4 + b) < (8 : Nat)) ∧ (0 ≤ ix δ (13 + b) ∧ ix δ (13 + b) < (8 : Nat)) := fun b h1 h2 => by have := hB b h1 h2; omega
  have hi := rch_in (ni := 8) (by omega) he (k + 1) p hp
  have h2 := h.succ hU hB h9
  rw [hw] at h2
  exact (h p hi.1 (by omega)).mp ((h2 p hi.1 (by omega)).mpr hp)
end LEV
