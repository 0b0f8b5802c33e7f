/-! small things: truth as a number, the names that are plain, the model's object -/
def bi (p : Prop) [Decidable p] : Int := if p then 1 else 0
theorem bi_0 {p : Prop} [Decidable p] : (bi p = 0) = (¬ p) := by unfold bi; by_cases h : p <;> simp [h]
theorem bi_1 {p : Prop} [Decidable p] : (bi p = 1) = p := by unfold bi; by_cases h : p <;> simp [h]
theorem bi_01 {p : Prop} [Decidable p] : bi p = 0 ∨ bi p = 1 := by unfold bi; by_cases h : p <;> simp [h]
theorem bi_t {p : Prop} [Decidable p] (h : p) : bi p = 1 := by simp [bi, h]
theorem bi_f {p : Prop} [Decidable p] (h : ¬ p) : bi p = 0 := by simp [bi, h]
theorem bi_R {p : Prop} [Decidable p] : inR (bi p) := by rcases bi_01 (p := p) with h | h <;> rw [h] <;> exact ⟨by omega, by omega⟩
theorem zc_lt {x y : Int} : (zcmp x y < 0) = (x < y) := by unfold zcmp; split <;> (try split) <;> simp <;> omega
theorem zc_gt {x y : Int} : (0 < zcmp x y) = (y < x) := by unfold zcmp; split <;> (try split) <;> simp <;> omega
theorem zc_R {x y : Int} : inR (zcmp x y) := by unfold zcmp; split <;> (try split) <;> exact ⟨by omega, by omega⟩
theorem pnX0 : plainName RX0 = true := by decide +kernel
theorem pnX1 : plainName RX1 = true := by decide +kernel
theorem pnX2 : plainName RX2 = true := by decide +kernel
theorem pnX3 : plainName RX3 = true := by decide +kernel
theorem pnX4 : plainName RX4 = true := by decide +kernel
theorem pnX5 : plainName RX5 = true := by decide +kernel
theorem pnX6 : plainName RX6 = true := by decide +kernel
theorem pnX7 : plainName RX7 = true := by decide +kernel
theorem pnX8 : plainName RX8 = true := by decide +kernel
theorem pnJ6 : plainName RJ6 = true := by decide +kernel
theorem pnJ9 : plainFor yJ9_floorMod_7cf53 = true := by decide +kernel
/-- the model's object; its ints by the places of their fields -/
def mo (c : Nat → Int) : CE := co_ 8 [ar 134, ar 135, ar 136, ai (c 3), ar 137, ar 138, ai (c 6), ar 139, ai (c 8), ar 140, ai (c 10), ai (c 11), ar 141, ai (c 13), ai (c 14), ai (c 15), ai (c 16), ai (c 17), ai (c 18), ai (c 19), ai (c 20), ai (c 21), ai (c 22), ai (c 23), ar 142, ar 143, ar 144, ar 145]
/-- a bit of a whole number -/
noncomputable def zb (x b : Int) : Int := zand (zshr x b) 1
