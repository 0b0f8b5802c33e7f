/-! the whole world between two calls. G: 0 the delta, 1 now, 2 past, 3 kept, 4 the ledger, 5 the text, 6 sizes (0 letters, 1 undos, 2 kept, 3 rows) -/
abbrev GG : Type := Nat → Nat → Int
def gu (G : GG) (i : Nat) (f : Nat → Int) : GG := fun j => if j = i then f else G j
/-- the j-th state of a row of states -/
def sl (P : Nat → Int) (j : Nat) : Nat → Int := fun q => P (317 * j + q)
/-- a state between two calls -/
def GN (δ T : Nat → Int) (nb ng ni : Nat) : Prop := GS δ T nb ng ni 99 ∧ ix T 0 ≤ 99 ∧ ∀ b : Int, 0 ≤ b → b < nb → ix T (1 + b) = ix T (29 + 16 * b + ix T 0 % 16) ∧ ix T (173 + 16 * b + ix T 0 % 16) = 0
def WI (G : GG) (nb ng ni : Nat) : Prop := GD (G 0) nb ng ni ∧ GN (G 0) (G 1) nb ng ni ∧ (0 ≤ G 6 1 ∧ G 6 1 ≤ 8 ∧ ∀ j : Nat, j < G 6 1 → GN (G 0) (sl (G 2) j) nb ng ni) ∧ (0 ≤ G 6 2 ∧ G 6 2 ≤ 2 ∧ ∀ j : Nat, j < G 6 2 → GN (G 0) (sl (G 3) j) nb ng ni) ∧
  (0 ≤ G 6 3 ∧ G 6 3 ≤ 8 ∧ ∀ r : Int, 0 ≤ r → r < G 6 3 → (0 ≤ ix (G 4) (4 * r) ∧ ix (G 4) (4 * r) < 9) ∧ (0 ≤ ix (G 4) (4 * r + 1) ∧ ix (G 4) (4 * r + 1) ≤ 99) ∧ (1 ≤ ix (G 4) (4 * r + 2) ∧ ix (G 4) (4 * r + 2) ≤ 80) ∧ (ix (G 4) (4 * r + 3) = 0 ∨ ix (G 4) (4 * r + 3) = 1)) ∧
  (0 ≤ G 6 0 ∧ G 6 0 ≤ 200 ∧ ∀ j : Int, 0 ≤ j → j < G 6 0 → 32 ≤ ix (G 5) j ∧ ix (G 5) j ≤ 126)
/-- the reference's cells -/
def RX_ (M : Mem) (G : GG) (c ρ nu f8 tr se th : Nat → Int) : Prop := M 133 = some (mo c) ∧ (c 3 = G 6 0 ∧ c 6 = G 6 1 ∧ c 8 = G 6 2 ∧ c 10 = G 6 3) ∧ M 134 = some (ci_ 65 (G 0)) ∧ M 135 = some (ci_ 65 ρ) ∧ M 136 = some (ci_ 200 (G 5)) ∧ M 137 = some (ci_ 317 (G 1)) ∧ M 138 = some (ci_ 2536 (G 2)) ∧ M 139 = some (ci_ 634 (G 3)) ∧ M 140 = some (ci_ 32 (G 4)) ∧ M 141 = some (ci_ 5 nu) ∧ M 142 = some (ci_ 8 f8) ∧ M 143 = some (ci_ 317 tr) ∧ M 144 = some (ci_ 8 se) ∧ M 145 = some (ci_ 8 th)
def RC (M : Mem) (G : GG) (c : Nat → Int) : Prop := ∃ ρ nu f8 tr se th, RX_ M G c ρ nu f8 tr se th
def RI (M : Mem) (G : GG) : Prop := ∃ c, RC M G c
def RFr (M M' : Mem) : Prop := ∀ k, k < 133 → M' k = M k
/-- what a call on the reference ends with -/
def RPost (M : Mem) (A : (Nat → Int) → Int) (S : (Nat → Int) → GG) (c : Nat → Int) : Option AV → Mem → Prop := fun r M' => r = some (ai (A c)) ∧ RI M' (S c) ∧ RFr M M'
theorem RI.q {M M' : Mem} {G : GG} {c' : Nat → Int} (h : RI M G) (h1 : M' 133 = some (mo c')) (hc : c' 3 = G 6 0 ∧ c' 6 = G 6 1 ∧ c' 8 = G 6 2 ∧ c' 10 = G 6 3) (h2 : ∃ f, M' 142 = some (ci_ 8 f)) (h3 : ∃ f, M' 143 = some (ci_ 317 f)) (hF : ∀ k, ¬ k = 133 → ¬ k = 142 → ¬ k = 143 → M' k = M k) : RI M' G ∧ RFr M M' := by
  obtain ⟨c, ρ, nu, f8, tr, se, th, a0, a1, a2, a3, a4, a5, a6, a7, a8, a9, a10, a11, a12, a13⟩ := h
  obtain ⟨f, h2⟩ := h2
  obtain ⟨g, h3⟩ := h3
  refine ⟨⟨c', ρ, nu, f, g, se, th, h1, hc, ?_, ?_, ?_, ?_, ?_, ?_, ?_, ?_, h2, h3, ?_, ?_⟩, fun k hk => hF k (by omega) (by omega) (by omega)⟩
  all_goals rw [hF _ (by decide) (by decide) (by decide)]; assumption
/-- a Delta of any kind -/
def DZ (M : Mem) (d : Nat) : Prop := ∃ e o1 o2 pe ho er we gi ki ne, DX M d e o1 o2 pe ho er we gi ki ne
def LG (M : Mem) (L : Nat → Int) (ro : Int) : Prop := ∃ b_ t_ w_ o_ : Nat → Int, M 54 = some (co_ 2 [ai ro, ar 55, ar 56, ar 57, ar 58]) ∧ M 55 = some (ci_ 8 b_) ∧ M 56 = some (ci_ 8 t_) ∧ M 57 = some (ci_ 8 w_) ∧ M 58 = some (ci_ 8 o_) ∧ ∀ r : Int, 0 ≤ r → r < ro → ix b_ r = ix L (4 * r) ∧ ix t_ r = ix L (4 * r + 1) ∧ ix w_ r = ix L (4 * r + 2) ∧ ix o_ r = ix L (4 * r + 3)
/-- a pile at pa, its row at ra, n states from s0 on -/
def PU (M : Mem) (pa ra n s0 : Nat) (P : Nat → Int) (un : Int) (nb ng : Nat) : Prop := ∃ g : Nat → Option Nat, ∃ π : Nat → Nat, M pa = some (co_ 3 [ai un, ar ra]) ∧ M ra = some (cr_ n g) ∧ (∀ i, i < n → g i = some (s0 + 7 * π i) ∧ π i < n) ∧ (∀ i j, i < n → j < n → π i = π j → i = j) ∧ (∀ i, i < n → SU M (s0 + 7 * i)) ∧ ∀ j : Nat, j < un → j < n → ST M (s0 + 7 * π j) (sl P j) nb ng
def CX_ (M : Mem) (G : GG) (nb ng dl dr : Nat) (tx : Nat → Int) : Prop := (dl = 4 ∧ dr = 14 ∨ dl = 14 ∧ dr = 4) ∧ M 0 = some (po (G 6 0) dl dr) ∧ (M 1 = some (ci_ 200 tx) ∧ ∀ j : Int, 0 ≤ j → j < G 6 0 → ix tx j = ix (G 5) j) ∧ ((∃ x y, M 2 = some (co_ 4 [ar 3, ai x, ai y]) ∧ (y = 0 ∨ y = 1)) ∧ ∃ f, M 3 = some (ci_ 5 f)) ∧ DL M dl (G 0) nb ng ∧ DZ M dr ∧ ST M 24 (G 1) nb ng ∧ CU M ∧
  (∃ x y ct cn, (ct = 52 ∧ cn = 53 ∨ ct = 53 ∧ cn = 52) ∧ M 51 = some (co_ 6 [ai x, ai y, ar ct, ar cn]) ∧ (∃ f, M 52 = some (ci_ 8 f)) ∧ ∃ f, M 53 = some (ci_ 8 f)) ∧ LG M (G 4) (G 6 3) ∧ PU M 59 60 8 61 (G 2) (G 6 1) nb ng ∧ PU M 117 118 2 119 (G 3) (G 6 2) nb ng
def CI (M : Mem) (G : GG) (nb ng : Nat) : Prop := ∃ dl dr tx, CX_ M G nb ng dl dr tx
def CFr (M M' : Mem) : Prop := ∀ k, 133 ≤ k → M' k = M k
def CPost (M : Mem) (A : (Nat → Int) → Int) (S : (Nat → Int) → GG) (nb ng : Nat) (c : Nat → Int) : Option AV → Mem → Prop := fun r M' => r = some (ai (A c)) ∧ CI M' (S c) nb ng ∧ CFr M M'
theorem LG.fr {M M' : Mem} {L : Nat → Int} {ro : Int} (h : LG M L ro) (hF : ∀ k, 54 ≤ k → k ≤ 58 → M' k = M k) : LG M' L ro := by
  obtain ⟨b_, t_, w_, o_, h0, h1, h2, h3, h4, h5⟩ := h
  refine ⟨b_, t_, w_, o_, ?_, ?_, ?_, ?_, ?_, h5⟩
  all_goals rw [hF _ (by decide) (by decide)]; assumption
theorem PU.fr {M M' : Mem} {pa ra n s0 : Nat} {P : Nat → Int} {un : Int} {nb ng : Nat} (h : PU M pa ra n s0 P un nb ng) (h1 : M' pa = M pa) (h2 : M' ra = M ra) (hF : ∀ k, s0 ≤ k → k < s0 + 7 * n → M' k = M k) : PU M' pa ra n s0 P un nb ng := by
  obtain ⟨g, π, p1, p2, p3, p4, p5, p6⟩ := h
  refine ⟨g, π, h1.trans p1, h2.trans p2, p3, p4, fun i hi => (p5 i hi).fr (fun k a b => hF k (by omega) (by omega)), fun j hj hn => (p6 j hj hn).fr (fun k a b => ?_)⟩
  have := (p3 j hn).2
  exact hF k (by omega) (by omega)
theorem DX.fr {M M' : Mem} {d : Nat} {e o1 o2 pe ho er we gi ki ne : Nat → Int} (h : DX M d e o1 o2 pe ho er we gi ki ne) (hF : ∀ k, d ≤ k → k ≤ d + 9 → M' k = M k) : DX M' d e o1 o2 pe ho er we gi ki ne := by
  obtain ⟨h0, h1, h2, h3, h4, h5, h6, h7, h8, h9⟩ := h
  refine ⟨?_, ?_, ?_, ?_, ?_, ?_, ?_, ?_, ?_, ?_⟩
  all_goals rw [hF _ (by omega) (by omega)]; assumption
theorem DL.fr2 {M M' : Mem} {d : Nat} {δ : Nat → Int} {nb ng : Nat} (h : DL M d δ nb ng) (hF : ∀ k, d ≤ k → k ≤ d + 9 → M' k = M k) : DL M' d δ nb ng := by
  obtain ⟨e, o1, o2, pe, ho, er, we, gi, ki, ne, h1, h2⟩ := h
  exact ⟨e, o1, o2, pe, ho, er, we, gi, ki, ne, h1.fr hF, h2⟩
theorem DZ.fr {M M' : Mem} {d : Nat} (h : DZ M d) (hF : ∀ k, d ≤ k → k ≤ d + 9 → M' k = M k) : DZ M' d := by
  obtain ⟨e, o1, o2, pe, ho, er, we, gi, ki, ne, h1⟩ := h
  exact ⟨e, o1, o2, pe, ho, er, we, gi, ki, ne, h1.fr hF⟩
/-- only the course has changed -/
theorem CX_.q {M M' : Mem} {G : GG} {nb ng dl dr : Nat} {tx : Nat → Int} (h : CX_ M G nb ng dl dr tx) (hF : FC M M') (hU : CU M') : CX_ M' G nb ng dl dr tx := by
  obtain ⟨h0, h1, ⟨h2, h2'⟩, ⟨⟨x, y, h3, h3'⟩, f, h4⟩, h5, h6, h7, h8, ⟨x', y', ct, cn, h9, h10, ⟨f1, h11⟩, f2, h12⟩, h13, h14, h15⟩ := h
  have hk : ∀ k, (k < 31 ∨ 50 < k) → M' k = M k := fun k hk => hF k (by omega) (by omega) (by omega)
  refine ⟨h0, ?_, ⟨?_, h2'⟩, ⟨⟨x, y, ?_, h3'⟩, f, ?_⟩, h5.fr2 (fun k a b => hk k (by omega)), h6.fr (fun k a b => hk k (by omega)), h7.fr (fun k a b => hk k (by omega)), hU, ⟨x', y', ct, cn, h9, ?_, ⟨f1, ?_⟩, f2, ?_⟩, h13.fr (fun k a b => hk k (by omega)), h14.fr (hk _ (by omega)) (hk _ (by omega)) (fun k a b => hk k (by omega)), h15.fr (hk _ (by omega)) (hk _ (by omega)) (fun k a b => hk k (by omega))⟩
  all_goals rw [hk _ (by omega)]; assumption
theorem FC.cf {M M' : Mem} (h : FC M M') : CFr M M' := fun k hk => h k (by omega) (by omega) (by omega)
theorem plc_G {c : Nat → Int} {δ : Nat → Int} {nb ng ni : Nat} (hD : GD δ nb ng ni) : GC (plc c (ix δ 3) (oset δ nb)) := ⟨hD.2.2.1, ⟨Int.le_refl _, by show (0 : Int) ≤ 20; omega⟩, ⟨Int.le_refl _, by show (-1 : Int) ≤ 9999; omega⟩, ⟨Int.le_refl _, by show (-1 : Int) ≤ 8; omega⟩, ⟨by show (_ : Int) ≤ 0; omega, by show (0 : Int) < _; omega⟩, ⟨Int.le_refl _, by show (0 : Int) ≤ 9; omega⟩, ⟨Int.le_refl _, by show (0 : Int) ≤ 100000; omega⟩, ⟨Int.le_refl _, by show (0 : Int) ≤ 100000; omega⟩⟩
/-- the plain start -/
noncomputable def st0 (G : GG) (nb : Nat) (c : Nat → Int) : PS := (plc c (ix (G 0) 3) (oset (G 0) nb), G 1)
