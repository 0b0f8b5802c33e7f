/-! pure: a day leaves the days behind as they are -/
section OLD
variable {δ : Nat → Int} {nb ng ni : Nat} {s : PS}
theorem wr_TW {T : Nat → Int} {j x : Int} (hj : 19 ≤ j ∧ j < 29) : TW T (fz T j x) nb := ⟨ix_n (by omega) (by omega) (by omega), fun a d a0 a1 d0 d1 hd => ⟨ix_n (by omega) (by omega) (by omega), ix_n (by omega) (by omega) (by omega)⟩⟩
theorem giv_TW {b p : Int} (h0 : 0 ≤ ix s.2 0) (h9 : nb ≤ 9) (hb : 0 ≤ b ∧ b < nb) : TW s.2 (givF s b p).2 nb := ad_TW h0 h9 hb
theorem stl_TW {b p : Int} (h0 : 0 ≤ ix s.2 0) (h9 : nb ≤ 9) (hb : 0 ≤ b ∧ b < nb) : TW s.2 (stlF s b p).2 nb := by
  unfold stlF
  split
  · exact st_TW h0 h9 hb
  · exact TW.r
theorem gv_TW {i b : Int} (h0 : 0 ≤ ix s.2 0) (h9 : nb ≤ 9) (hb : 0 ≤ b ∧ b < nb) : TW s.2 (gvF δ s i b).2 nb := by
  unfold gvF
  split
  · exact stl_TW h0 h9 hb
  · split
    · exact giv_TW h0 h9 hb
    · exact TW.r
theorem tr_TW {i : Int} (hi : 0 ≤ i ∧ i < 5) : TW s.2 (trF δ s i).2 nb := by
  unfold trF
  split
  · exact wr_TW (by omega)
  · exact TW.r
theorem go_TW {i : Int} (h0 : 0 ≤ ix s.2 0) (h9 : nb ≤ 9) (hi : 0 ≤ i ∧ i < 5) : TW s.2 (goF δ nb s i).2 nb := by
  have htk := tk_B (c := s.1) (δ := δ) (T := s.2) (nb := nb) (i := i)
  unfold goF
  split
  · unfold wtF
    split
    · rename_i hq
      have hb := fst_B (P := fun b => 0 ≤ en δ b (ix s.2 (19 + i))) (m := nb)
      have hq2 : ¬ fst_ (fun b => 0 ≤ en δ b (ix s.2 (19 + i))) nb 0 = -4 := hq.2
      exact giv_TW (s := (wt0 s.1, s.2)) h0 h9 (by unfold besid; omega)
    · exact TW.r
  · split
    · exact wr_TW (by omega)
    · have w1 : TW s.2 (fz s.2 (19 + i) (en δ (tk s.1 δ s.2 nb i) (ix s.2 (19 + i)))) nb := wr_TW (by omega)
      have w2 := gv_TW (δ := δ) (nb := nb) (s := (s.1, fz s.2 (19 + i) (en δ (tk s.1 δ s.2 nb i) (ix s.2 (19 + i))))) (i := i) (b := tk s.1 δ s.2 nb i) (by show 0 ≤ ix (fz _ _ _) 0; rw [w1.1]; exact h0) h9 (by omega)
      exact (w1.t w2).t (tr_TW hi)
theorem goers_TW (h0 : 0 ≤ ix s.2 0) (h9 : nb ≤ 9) : ∀ k : Nat, k ≤ 5 → TW s.2 (goersF δ nb s k).2 nb
  | 0, _ => TW.r
  | k + 1, hk => by
    have ih := goers_TW h0 h9 k (by omega)
    show TW s.2 (if _ then _ else _ : PS).2 nb
    split
    · exact ih.t (go_TW (by rw [ih.1]; exact h0) h9 (by omega))
    · exact ih
theorem alm_TW {T : Nat → Int} {g : Int} (h0 : 0 ≤ ix T 0) (h9 : nb ≤ 9) : ∀ k : Nat, k ≤ nb → TW T (almT T g k) nb
  | 0, _ => TW.r
  | k + 1, hk => by
    have ih := alm_TW (g := g) h0 h9 k (by omega)
    exact ih.t (ad_TW (by rw [ih.1]; exact h0) h9 (by omega))
/-- a day, its own place and the next day's apart -/
theorem day_old {k b d : Int} (h16 : s.1 16 < 0) (h0 : 0 ≤ ix s.2 0) (h9 : nb ≤ 9) (h5 : ng ≤ 5) (hb : 0 ≤ b ∧ b < nb) (hd : 0 ≤ d ∧ d < 16) (n1 : ¬ d = ix s.2 0 % 16) (n2 : ¬ d = (ix s.2 0 + 1) % 16) : ix (dayF δ nb ng s k).2 (29 + 16 * b + d) = ix s.2 (29 + 16 * b + d) ∧ ix (dayF δ nb ng s k).2 (173 + 16 * b + d) = ix s.2 (173 + 16 * b + d) := by
  rw [dayX_F h16]
  have a := alm_TW (g := s.1 15) h0 h9 nb (Nat.le_refl _)
  have g := a.t (goers_TW (δ := δ) (s := (s.1, almT s.2 (s.1 15) nb)) (by show 0 ≤ ix (almT s.2 (s.1 15) nb) 0; rw [a.1]; exact h0) h9 ng h5)
  show ix (endT (goersF δ nb (s.1, almT s.2 (s.1 15) nb) ng).2 nb) _ = _ ∧ ix (endT (goersF δ nb (s.1, almT s.2 (s.1 15) nb) ng).2 nb) _ = _
  have e := (end_v (T := (goersF δ nb (s.1, almT s.2 (s.1 15) nb) ng).2) (nb := nb) (by rw [g.1]; exact h0) h9).2.2 b d hb.1 hb.2 hd.1 hd.2
  rw [e.1, e.2, g.1, if_neg n2, if_neg n2]
  exact g.2 b d hb.1 hb.2 hd.1 hd.2 n1
theorem it_old {G : GG} {c : Nat → Int} (hW : WI G nb ng ni) (hC : GC c) (hc : c 20 = 0 ∧ c 21 = 0) (h16 : c 16 < 0) {m : Nat} {b : Int} (hm : 1 ≤ m ∧ m ≤ 50) (hb : 0 ≤ b ∧ b < nb) : ∀ n : Nat, n ≤ 9 → ix (itF (G 0) nb ng (c, G 1) (m + n)).2 (29 + 16 * b + (ix (G 1) 0 + m - 1) % 16) = ix (itF (G 0) nb ng (c, G 1) m).2 (29 + 16 * b + (ix (G 1) 0 + m - 1) % 16) ∧ ix (itF (G 0) nb ng (c, G 1) (m + n)).2 (173 + 16 * b + (ix (G 1) 0 + m - 1) % 16) = ix (itF (G 0) nb ng (c, G 1) m).2 (173 + 16 * b + (ix (G 1) 0 + m - 1) % 16)
  | 0, _ => ⟨rfl, rfl⟩
  | n + 1, hn => by
    have ih := it_old hW hC hc h16 hm hb n (by omega)
    have hit := hW.it hC hc (m + n) (by omega)
    have hd1 := hW.1.2.1
    have e := hit.2.2.2.2
    have h0 := hW.2.1.1.1
    have w := day_old (δ := G 0) (nb := nb) (ng := ng) (s := itF (G 0) nb ng (c, G 1) (m + n)) (k := ((m + n : Nat) : Int)) (b := b) (d := (ix (G 1) 0 + m - 1) % 16) (by rw [hit.2.2.2.1 16 (by decide) (by decide) (by decide) (by decide) (by decide) (by decide)]; exact h16) (by omega) (by omega) (by omega) hb (by omega) (by omega) (by omega)
    exact ⟨w.1.trans ih.1, w.2.trans ih.2⟩
end OLD
/-! pure: sent -/
def rlx (S th : Nat → Int) (a b lk : Int) : Nat → Int := fz th b (if ix S a + lk < ix th b then ix S a + lk else ix th b)
/-- the row after e bridges -/
def thN (S δ : Nat → Int) (L : Int → Int) : Nat → Nat → Int
  | 0 => fun _ => 1000000
  | e + 1 => rlx S (rlx S (thN S δ L e) (ix δ (4 + (e : Int))) (ix δ (13 + (e : Int))) (L e)) (ix δ (13 + (e : Int))) (ix δ (4 + (e : Int))) (L e)
def lkW (w P : Int) : Int := if P < w then w - P else 0
def B8 (S : Nat → Int) : Prop := ∀ j : Int, 0 ≤ j → j < 8 → 0 ≤ ix S j ∧ ix S j ≤ 1000000
theorem rlx_B {S th : Nat → Int} {a b lk : Int} (hS : B8 S) (hT : B8 th) (ha : 0 ≤ a ∧ a < 8) (hb : 0 ≤ b ∧ b < 8) (hl : 0 ≤ lk) : B8 (rlx S th a b lk) := fun j j0 j1 => by
  have := hS a ha.1 ha.2
  have := hT b hb.1 hb.2
  have := hT j j0 j1
  unfold rlx
  rw [ix_if hb.1 j0]
  split
  · split <;> omega
  · omega
theorem thN_B {S δ : Nat → Int} {L : Int → Int} {nb ng ni : Nat} (hS : B8 S) (hD : GD δ nb ng ni) (hL : ∀ b : Int, 0 ≤ b → b < nb → 0 ≤ L b) : ∀ e : Nat, e ≤ nb → B8 (thN S δ L e)
  | 0, _ => fun j _ _ => by show (0 : Int) ≤ 1000000 ∧ (1000000 : Int) ≤ 1000000; omega
  | e + 1, he => by
    have ih := thN_B hS hD hL e (by omega)
    have q := (hD.2.2.2.1 e (by omega) (by omega)).1
    have hd1 := hD.2.1
    have hl := hL e (by omega) (by omega)
    exact rlx_B hS (rlx_B hS ih (by omega) (by omega) hl) (by omega) (by omega) hl
/-- costs, the best one, its bridges -/
def sqF (δ : Nat → Int) (nb : Nat) (L : Nat → Int → Int) (a b : Int) : Nat → (Nat → Int) × Int × Int
  | 0 => (fun q => if (q : Int) = a then 0 else 1000000, 1000000, 0)
  | k + 1 => (thN (sqF δ nb L a b k).1 δ (L k) nb,
    if ix (thN (sqF δ nb L a b k).1 δ (L k) nb) b < (sqF δ nb L a b k).2.1 then ix (thN (sqF δ nb L a b k).1 δ (L k) nb) b else (sqF δ nb L a b k).2.1,
    if ix (thN (sqF δ nb L a b k).1 δ (L k) nb) b < (sqF δ nb L a b k).2.1 then (k : Int) + 1 else (sqF δ nb L a b k).2.2)
theorem sqF_B {δ : Nat → Int} {nb ng ni : Nat} {L : Nat → Int → Int} {a b : Int} (hD : GD δ nb ng ni) (hb : 0 ≤ b ∧ b < 8) (hL : ∀ (k : Nat) (e : Int), 0 ≤ e → e < nb → 0 ≤ L k e) : ∀ k : Nat, B8 (sqF δ nb L a b k).1 ∧ (0 ≤ (sqF δ nb L a b k).2.1 ∧ (sqF δ nb L a b k).2.1 ≤ 1000000) ∧ (0 ≤ (sqF δ nb L a b k).2.2 ∧ (sqF δ nb L a b k).2.2 ≤ k)
  | 0 => ⟨fun j _ _ => by
      show 0 ≤ (if ((j.toNat : Nat) : Int) = a then (0 : Int) else 1000000) ∧ (if ((j.toNat : Nat) : Int) = a then (0 : Int) else 1000000) ≤ 1000000
      split <;> omega, by show (0 : Int) ≤ 1000000 ∧ (1000000 : Int) ≤ 1000000; omega, by show (0 : Int) ≤ 0 ∧ (0 : Int) ≤ 0; omega⟩
  | k + 1 => by
    obtain ⟨i1, i2, i3⟩ := sqF_B (a := a) hD hb hL k
    have t := thN_B i1 hD (hL k) nb (Nat.le_refl _)
    have tb := t b hb.1 hb.2
    refine ⟨t, ?_, ?_⟩
    · rw [show (sqF δ nb L a b (k + 1)).2.1 = if ix (thN (sqF δ nb L a b k).1 δ (L k) nb) b < (sqF δ nb L a b k).2.1 then ix (thN (sqF δ nb L a b k).1 δ (L k) nb) b else (sqF δ nb L a b k).2.1 from rfl]
      split <;> omega
    · rw [show (sqF δ nb L a b (k + 1)).2.2 = if ix (thN (sqF δ nb L a b k).1 δ (L k) nb) b < (sqF δ nb L a b k).2.1 then (k : Int) + 1 else (sqF δ nb L a b k).2.2 from rfl]
      split <;> omega
/-- the planks at the k-th step -/
noncomputable def snL (G : GG) (nb ng : Nat) (w : Int) (c : Nat → Int) (k : Nat) (e : Int) : Int := lkW w (pl (itF (G 0) nb ng (st0 G nb c) ((ix (G 0) 3).toNat + k)).1 (itF (G 0) nb ng (st0 G nb c) ((ix (G 0) 3).toNat + k)).2 e)
theorem lkW_0 {w P : Int} : 0 ≤ lkW w P := by unfold lkW; split <;> omega
noncomputable def snQ (G : GG) (nb ng : Nat) (a b w : Int) (c : Nat → Int) : (Nat → Int) × Int × Int := sqF (G 0) nb (snL G nb ng w c) a b 8
noncomputable def aSent (G : GG) (nb ng ni : Nat) (a b w what : Int) (c : Nat → Int) : Int := if (0 ≤ a ∧ a < ni) ∧ (0 ≤ b ∧ b < ni) ∧ (1 ≤ w ∧ w ≤ 40) ∧ (0 ≤ what ∧ what ≤ 1) then (if a = b then 0 else if (snQ G nb ng a b w c).2.1 = 1000000 then -4 else if what = 0 then (snQ G nb ng a b w c).2.1 else (snQ G nb ng a b w c).2.2) else -1
