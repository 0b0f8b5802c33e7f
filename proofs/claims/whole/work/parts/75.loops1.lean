/-! loops over days that are tried: the reference's side; the best of several -/
theorem RC.q {M M' : Mem} {G : GG} {c' : Nat → Int} (h : RI M G) (h1 : M' 133 = some (mo c')) (hc : c' 3 = G 6 0 ∧ c' 6 = G 6 1 ∧ c' 8 = G 6 2 ∧ c' 10 = G 6 3) (h2 : ∃ f, M' 142 = some (ci_ 8 f)) (h3 : ∃ f, M' 143 = some (ci_ 317 f)) (hF : ∀ k, ¬ k = 133 → ¬ k = 142 → ¬ k = 143 → M' k = M k) : RC M' G c' ∧ RFr M M' := by
  obtain ⟨c, ρ, nu, f8, tr, se, th, a0, a1, a2, a3, a4, a5, a6, a7, a8, a9, a10, a11, a12, a13⟩ := h
  obtain ⟨f, h2⟩ := h2
  obtain ⟨g, h3⟩ := h3
  refine ⟨⟨ρ, nu, f, g, se, th, h1, hc, ?_, ?_, ?_, ?_, ?_, ?_, ?_, ?_, h2, h3, ?_, ?_⟩, fun k hk => hF k (by omega) (by omega) (by omega)⟩
  all_goals rw [hF _ (by decide) (by decide) (by decide)]; assumption
def agr (c c' : Nat → Int) : Prop := ∀ j, ¬ (13 ≤ j ∧ j ≤ 23) → c' j = c j
theorem plc_eq {c c' : Nat → Int} {d o : Int} (h : agr c c') : plc c' d o = plc c d o := by
  funext j
  unfold plc
  repeat' split
  all_goals first | rfl | exact h j (by omega)
theorem RFr.t {M N O : Mem} (h1 : RFr M N) (h2 : RFr N O) : RFr M O := fun k hk => (h2 k hk).trans (h1 k hk)
/-- the reference tries days; G 1 may be another state for the while -/
theorem R_tries2 {M M1 : Mem} {G : GG} {nb ng ni : Nat} {c : Nat → Int} {n : Int} (h : RI M G) (hW : WI G nb ng ni) (g1 : M1 133 = some (mo c)) (hc : c 3 = G 6 0 ∧ c 6 = G 6 1 ∧ c 8 = G 6 2 ∧ c 10 = G 6 3) (g2 : ∀ k, ¬ k = 133 → M1 k = M k) (hC : GC c) (h20 : c 20 = 0 ∧ c 21 = 0) (hn : 0 ≤ n ∧ n ≤ 100) :
    RetN 7 yX8_tries cX8_tries 3 0 [ar 133, ai n] M1 (fun r M2 => r = none ∧ RC M2 G (itF (G 0) nb ng (c, G 1) n.toNat).1 ∧ RFr M M2 ∧ agr c (itF (G 0) nb ng (c, G 1) n.toNat).1) := by
  have h' := h
  obtain ⟨c0, ρ, nu, f8, tr, se, th, a0, a1, a2, a3, a4, a5, a6, a7, a8, a9, a10, a11, a12, a13⟩ := h
  have e134 := (g2 134 (by decide)).trans a2
  have e137 := (g2 137 (by decide)).trans a5
  have e142 := (g2 142 (by decide)).trans a10
  have e143 := (g2 143 (by decide)).trans a11
  have en : ((n.toNat : Nat) : Int) = n := by omega
  have hN := hW.2.1
  have hT := m_tries (n := n.toNat) g1 e134 e137 ⟨_, e142⟩ ⟨_, e143⟩ hW.1 hN.1 hC ⟨by omega, by omega⟩ (by have := hN.2.1; omega) (by omega)
  rw [en] at hT
  have e5 := (hW.it hC h20 n.toNat (by omega)).2.2.2.1
  have e6 := dec6 e5
  refine hT.mono (fun r M2 p => ⟨p.1, ?_⟩)
  obtain ⟨⟨q1, q2, q3, q4⟩, qF⟩ := p.2
  have := RC.q h' q1 (by omega) q4 ⟨_, q3⟩ (fun k a b c => (qF k a b c).trans (g2 k a))
  exact ⟨this.1, this.2, fun j hj => e5 j (by omega) (by omega) (by omega) (by omega) (by omega) (by omega)⟩
/-- the class's best of several: from lo on, m of them -/
noncomputable def cbf (el : Int → Prop) (val : Int → Int) (lo : Int) : Nat → Int × Int
  | 0 => (-4, 0)
  | m + 1 => @ite _ (el (lo + m) ∧ ((cbf el val lo m).1 = -4 ∨ val (lo + m) < (cbf el val lo m).2)) (Classical.propDecidable _) (lo + m, val (lo + m)) (cbf el val lo m)
/-- the reference's -/
noncomputable def rbf (el : Int → Prop) (val : Int → Int) (b0 lo : Int) : Nat → Int × Int
  | 0 => (b0, 1000000)
  | m + 1 => @ite _ (el (lo + m) ∧ val (lo + m) < (rbf el val b0 lo m).2) (Classical.propDecidable _) (lo + m, val (lo + m)) (rbf el val b0 lo m)
section BST
variable {el : Int → Prop} {val : Int → Int} {b0 lo : Int}
theorem cbf_t {m : Nat} (h : el (lo + m) ∧ ((cbf el val lo m).1 = -4 ∨ val (lo + m) < (cbf el val lo m).2)) : cbf el val lo (m + 1) = (lo + m, val (lo + m)) := @if_pos _ (Classical.propDecidable _) h _ _ _
theorem cbf_f {m : Nat} (h : ¬ (el (lo + m) ∧ ((cbf el val lo m).1 = -4 ∨ val (lo + m) < (cbf el val lo m).2))) : cbf el val lo (m + 1) = cbf el val lo m := @if_neg _ (Classical.propDecidable _) h _ _ _
theorem rbf_t {m : Nat} (h : el (lo + m) ∧ val (lo + m) < (rbf el val b0 lo m).2) : rbf el val b0 lo (m + 1) = (lo + m, val (lo + m)) := @if_pos _ (Classical.propDecidable _) h _ _ _
theorem rbf_f {m : Nat} (h : ¬ (el (lo + m) ∧ val (lo + m) < (rbf el val b0 lo m).2)) : rbf el val b0 lo (m + 1) = rbf el val b0 lo m := @if_neg _ (Classical.propDecidable _) h _ _ _
theorem bst_eq (hv : ∀ b, lo ≤ b → b ≤ lo + 20 → 0 ≤ val b ∧ val b < 1000000) (hlo : 0 ≤ lo) : ∀ m : Nat, m ≤ 20 → (cbf el val lo m = (-4, 0) ∧ rbf el val b0 lo m = (b0, 1000000) ∧ ∀ j : Int, lo ≤ j → j < lo + m → ¬ el j) ∨ (cbf el val lo m = rbf el val b0 lo m ∧ 0 ≤ (cbf el val lo m).1 ∧ 0 ≤ (cbf el val lo m).2 ∧ (cbf el val lo m).2 < 1000000)
  | 0, _ => Or.inl ⟨rfl, rfl, fun j h1 h2 => by omega⟩
  | m + 1, hm => by
    have hvm := hv (lo + m) (by omega) (by omega)
    by_cases he : el (lo + m)
    · rcases bst_eq hv hlo m (by omega) with ⟨h1, h2, h3⟩ | ⟨h1, h2, h3⟩
      · refine Or.inr ?_
        rw [cbf_t ⟨he, Or.inl (by rw [h1])⟩, rbf_t ⟨he, by rw [h2]; exact hvm.2⟩]
        exact ⟨rfl, by show 0 ≤ lo + (m : Int); omega, hvm⟩
      · refine Or.inr ?_
        by_cases hl : val (lo + m) < (cbf el val lo m).2
        · rw [cbf_t ⟨he, Or.inr hl⟩, rbf_t ⟨he, by rw [← h1]; exact hl⟩]
          exact ⟨rfl, by show 0 ≤ lo + (m : Int); omega, hvm⟩
        · rw [cbf_f (fun h => by rcases h.2 with h | h <;> omega), rbf_f (fun h => hl (by rw [h1]; exact h.2))]
          exact ⟨h1, h2, h3⟩
    · rw [cbf_f (fun h => he h.1), rbf_f (fun h => he h.1)]
      rcases bst_eq hv hlo m (by omega) with ⟨h1, h2, h3⟩ | h
      · refine Or.inl ⟨h1, h2, fun j j1 j2 => ?_⟩
        by_cases e : j = lo + m
        · rw [e]; exact he
        · exact h3 j j1 (by omega)
      · exact Or.inr h
theorem cbf_B (hv : ∀ b, lo ≤ b → b ≤ lo + 20 → 0 ≤ val b ∧ val b < 1000000) (hlo : 0 ≤ lo) : ∀ m : Nat, m ≤ 20 → ((cbf el val lo m).1 = -4 ∨ (0 ≤ (cbf el val lo m).1 ∧ (cbf el val lo m).1 ≤ lo + m)) ∧ 0 ≤ (cbf el val lo m).2 ∧ (cbf el val lo m).2 < 1000000
  | 0, _ => ⟨Or.inl rfl, by show (0 : Int) ≤ 0; omega, by show (0 : Int) < 1000000; omega⟩
  | m + 1, hm => by
    have ih := cbf_B hv hlo m (by omega)
    have hvm := hv (lo + m) (by omega) (by omega)
    by_cases h : el (lo + m) ∧ ((cbf el val lo m).1 = -4 ∨ val (lo + m) < (cbf el val lo m).2)
    · rw [cbf_t h]; exact ⟨Or.inr ⟨by show 0 ≤ lo + (m : Int); omega, by show lo + (m : Int) ≤ lo + (m + 1 : Nat); omega⟩, hvm⟩
    · rw [cbf_f h]; omega
theorem rbf_B (hv : ∀ b, lo ≤ b → b ≤ lo + 20 → 0 ≤ val b ∧ val b < 1000000) : ∀ m : Nat, m ≤ 20 → 0 ≤ (rbf el val b0 lo m).2 ∧ (rbf el val b0 lo m).2 ≤ 1000000
  | 0, _ => ⟨by show (0 : Int) ≤ 1000000; omega, by show (1000000 : Int) ≤ 1000000; omega⟩
  | m + 1, hm => by
    have ih := rbf_B hv m (by omega)
    have hvm := hv (lo + m) (by omega) (by omega)
    by_cases h : el (lo + m) ∧ val (lo + m) < (rbf el val b0 lo m).2
    · rw [rbf_t h]; exact ⟨by show 0 ≤ val _; omega, by show val _ ≤ _; omega⟩
    · rw [rbf_f h]; exact ih
end BST
