/-! pure: the world stays good -/
section WIS
variable {G : GG} {nb ng ni : Nat} {c : Nat → Int}
theorem WI.s0 (h : WI G nb ng ni) : WI (s6 G 0 0) nb ng ni := ⟨h.1, h.2.1, h.2.2.1, h.2.2.2.1, h.2.2.2.2.1, ⟨Int.le_refl _, by show (0 : Int) ≤ 200; omega, fun j h1 h2 => by have : j < 0 := h2; omega⟩⟩
theorem WI.s3 (h : WI G nb ng ni) : WI (s6 G 3 0) nb ng ni := ⟨h.1, h.2.1, h.2.2.1, h.2.2.2.1, ⟨Int.le_refl _, by show (0 : Int) ≤ 8; omega, fun j h1 h2 => by have : j < 0 := h2; omega⟩, h.2.2.2.2.2⟩
theorem WI.write {x : Int} (h : WI G nb ng ni) : WI (sWrite G x c) nb ng ni := by
  unfold sWrite
  split
  · rename_i hq
    have hs := h.2.2.2.2.2
    refine ⟨h.1, h.2.1, h.2.2.1, h.2.2.2.1, h.2.2.2.2.1, ?_⟩
    refine ⟨by show 0 ≤ G 6 0 + 1; omega, by show G 6 0 + 1 ≤ 200; omega, fun j h1 h2 => ?_⟩
    have h2 : j < G 6 0 + 1 := h2
    show 32 ≤ ix (fz (G 5) (G 6 0) x) j ∧ ix (fz (G 5) (G 6 0) x) j ≤ 126
    rw [ix_z (by omega) h1]
    split
    · exact hq.1
    · exact hs.2.2 j h1 (by omega)
  · exact h
theorem WI.undo (h : WI G nb ng ni) : WI (sUndo G c) nb ng ni := by
  unfold sUndo
  split
  · exact h
  · rename_i hq
    have hu := h.2.2.1
    refine ⟨h.1, ?_, ⟨by show 0 ≤ G 6 1 - 1; omega, by show G 6 1 - 1 ≤ 8; omega, fun j hj => ?_⟩, h.2.2.2.1, h.2.2.2.2.1, h.2.2.2.2.2⟩
    · show GN (G 0) (sl (G 2) (G 6 1 - 1).toNat) nb ng ni
      exact hu.2.2 _ (by omega)
    · have hj : (j : Int) < G 6 1 - 1 := hj
      exact hu.2.2 j (by omega)
theorem WI.back (h : WI G nb ng ni) : WI (sBack G c) nb ng ni := by
  unfold sBack
  split
  · exact h
  · rename_i hq
    have hu := h.2.2.2.1
    refine ⟨h.1, ?_, ⟨by show (0 : Int) ≤ 0; omega, by show (0 : Int) ≤ 8; omega, fun j hj => ?_⟩, ⟨by show 0 ≤ G 6 2 - 1; omega, by show G 6 2 - 1 ≤ 2; omega, fun j hj => ?_⟩, h.2.2.2.2.1, h.2.2.2.2.2⟩
    · show GN (G 0) (sl (G 3) (G 6 2 - 1).toNat) nb ng ni
      exact hu.2.2 _ (by omega)
    · have hj : (j : Int) < 0 := hj
      omega
    · have hj : (j : Int) < G 6 2 - 1 := hj
      exact hu.2.2 j (by omega)
theorem WI.keep (h : WI G nb ng ni) : WI (sKeep G c) nb ng ni := by
  have hd := h.1.2.1
  unfold sKeep
  split
  · exact h
  · rename_i hq
    have hu := h.2.2.2.1
    refine ⟨h.1, h.2.1, h.2.2.1, ⟨by show 0 ≤ G 6 2 + 1; omega, by show G 6 2 + 1 ≤ 2; omega, fun j hj => ?_⟩, h.2.2.2.2.1, h.2.2.2.2.2⟩
    have hj : (j : Int) < G 6 2 + 1 := hj
    show GN (G 0) (sl (cpy (G 1) (G 3) 0 (317 * (G 6 2).toNat) 317) j) nb ng ni
    by_cases e : j = (G 6 2).toNat
    · rw [e]; exact h.2.1.c sl_new (by omega) (by omega)
    · exact (hu.2.2 j (by omega)).c (sl_old (by omega)) (by omega) (by omega)
theorem WI.remd (h : WI G nb ng ni) : WI (rem G) nb ng ni := by
  have hd := h.1.2.1
  have hu := h.2.2.1
  have e : rmU (G 6 1) = if G 6 1 = 8 then 7 else G 6 1 := rfl
  have hr : 0 ≤ rmU (G 6 1) ∧ rmU (G 6 1) ≤ 7 := by rw [e]; split <;> omega
  refine ⟨h.1, h.2.1, ⟨by show 0 ≤ rmU (G 6 1) + 1; omega, by show rmU (G 6 1) + 1 ≤ 8; omega, fun j hj => ?_⟩, h.2.2.2.1, h.2.2.2.2.1, h.2.2.2.2.2⟩
  have hj : (j : Int) < rmU (G 6 1) + 1 := hj
  show GN (G 0) (sl (rmP (G 2) (G 1) (G 6 1)) j) nb ng ni
  unfold rmP
  by_cases ej : j = (rmU (G 6 1)).toNat
  · rw [ej]; exact h.2.1.c sl_new (by omega) (by omega)
  · have hjj : j < (rmU (G 6 1)).toNat := by omega
    by_cases e8 : G 6 1 = 8
    · rw [if_pos e8]
      have e7 : rmU (G 6 1) = 7 := by rw [e, if_pos e8]
      exact ((hu.2.2 (j + 1) (by omega)).c (sl_shf (by omega)) (by omega) (by omega)).c (sl_old hjj) (by omega) (by omega)
    · rw [if_neg e8]
      have e7 : rmU (G 6 1) = G 6 1 := by rw [e, if_neg e8]
      exact (hu.2.2 j (by omega)).c (sl_old hjj) (by omega) (by omega)
theorem WI.now {T : Nat → Int} (h : WI G nb ng ni) (hT : GN (G 0) T nb ng ni) : WI (gu G 1 T) nb ng ni := ⟨h.1, hT, h.2.2⟩
theorem WI.guard2 {b o : Int} (h : WI G nb ng ni) (ho : o = 0 ∨ o = 1) : WI (sGuard G nb b o c) nb ng ni := by
  have hd := h.1.2.1
  unfold sGuard
  split
  · rename_i hq
    exact h.remd.now (h.2.1.guard (by omega) (by omega) hq ho)
  · exact h
theorem GN.put {δ T : Nat → Int} {b p : Int} (h : GN δ T nb ng ni) (h9 : nb ≤ 9) (h5 : ng ≤ 5) (hb : 0 ≤ b ∧ b < nb) (hp : 1 ≤ p) (hv : ix T (1 + b) + p ≤ 99) : GN δ (putT T b p) nb ng ni := by
  obtain ⟨⟨h0, h1, h2⟩, h3, h4⟩ := h
  have e0 : ix (fz T (1 + b) (ix T (1 + b) + p)) 0 = ix T 0 := ix_n (by omega) (by omega) (by omega)
  have hq := h4 b hb.1 hb.2
  have key : ∀ j : Int, 0 ≤ j → j < 317 → ix (putT T b p) j = if j = 1 + b then ix T (1 + b) + p else if j = 29 + 16 * b + ix T 0 % 16 then ix T (1 + b) + p else ix T j := by
    intro j j0 j1
    unfold putT adT
    rw [e0, rg_e (by omega), ix_z (by omega) j0, ix_z (by omega) j0]
    by_cases ea : j = 1 + b
    · rw [if_pos ea, if_neg (by omega), if_pos ea]
    · rw [if_neg ea, if_neg ea]
      by_cases eb : j = 29 + 16 * b + ix T 0 % 16
      · rw [if_pos eb, if_pos eb, ix_n (by omega) (by omega) (by omega), hq.1]
      · rw [if_neg eb, if_neg eb]
  have k0 : ix (putT T b p) 0 = ix T 0 := by rw [key 0 (by omega) (by omega), if_neg (by omega), if_neg (by omega)]
  refine ⟨⟨by rw [k0]; exact h0, fun a a0 a1 => ?_, fun i i0 i1 => ?_⟩, by rw [k0]; exact h3, fun a a0 a1 => ?_⟩
  · have q := h1 a a0 a1
    rw [k0, key (10 + a) (by omega) (by omega), if_neg (by omega), if_neg (by omega)]
    refine ⟨q.1, ?_, fun d d0 d1 => ?_⟩
    · rw [key _ (by omega) (by omega), if_neg (by omega)]
      split
      · omega
      · exact q.2.1
    · have q2 := q.2.2 d d0 d1
      rw [key (173 + 16 * a + d) (by omega) (by omega), if_neg (by omega), if_neg (by omega), key (29 + 16 * a + d) (by omega) (by omega), if_neg (by omega)]
      split
      · rename_i hh
        have ea : a = b := by omega
        subst ea
        have ed : d = ix T 0 % 16 := by omega
        subst ed
        rw [hq.2]
        omega
      · exact q2
  · rw [key (19 + i) (by omega) (by omega), if_neg (by omega), if_neg (by omega), key (24 + i) (by omega) (by omega), if_neg (by omega), if_neg (by omega)]; exact h2 i i0 i1
  · have q := h4 a a0 a1
    rw [k0, key (1 + a) (by omega) (by omega), key (29 + 16 * a + ix T 0 % 16) (by omega) (by omega), key (173 + 16 * a + ix T 0 % 16) (by omega) (by omega)]
    rw [if_neg (by omega : ¬ 173 + 16 * a + ix T 0 % 16 = 1 + b), if_neg (by omega : ¬ 173 + 16 * a + ix T 0 % 16 = 29 + 16 * b + ix T 0 % 16), if_neg (by omega : ¬ 29 + 16 * a + ix T 0 % 16 = 1 + b), if_neg (by omega : ¬ 1 + a = 29 + 16 * b + ix T 0 % 16)]
    by_cases ea : a = b
    · subst ea; rw [if_pos rfl, if_pos rfl]; exact ⟨rfl, q.2⟩
    · rw [if_neg (by omega), if_neg (by omega)]; exact q
theorem WI.put {b p : Int} (h : WI G nb ng ni) : WI (sPut G nb b p c) nb ng ni := by
  have hd := h.1.2.1
  unfold sPut
  split
  · rename_i hq
    exact h.remd.now (h.2.1.put (by omega) (by omega) hq.1.1 hq.1.2.1 (by omega))
  · exact h
theorem clr_1 {T : Nat → Int} (h0 : 0 ≤ ix T 0) : ∀ k : Nat, k ≤ 9 → ∀ b : Int, 0 ≤ b → b < k → ix (clrT T k) (1 + b) = 0
  | 0, _, b, b0, b1 => by omega
  | k + 1, hk, b, b0, b1 => by
    have e0 := clr_0 h0 (T := T) (j := 0) (Or.inl rfl) k (by omega)
    have r1 := rg29 (b := k) (t := ix (clrT T k) 0) ⟨by omega, by omega⟩ (by omega)
    have r2 := rg173 (b := k) (t := ix (clrT T k) 0) ⟨by omega, by omega⟩ (by omega)
    show ix (clr1 (clrT T k) k) _ = _
    unfold clr1
    rw [ix_n (by omega) (by omega) (by omega), ix_n (by omega) (by omega) (by omega), ix_z (by omega) (by omega)]
    by_cases e : b = (k : Int)
    · rw [if_pos (by omega)]
    · rw [if_neg (by omega)]; exact clr_1 h0 k (by omega) b b0 (by omega)
theorem end_1 {T : Nat → Int} (h0 : 0 ≤ ix T 0) (h9 : nb ≤ 9) {b : Int} (hb : 0 ≤ b ∧ b < nb) : ix (endT T nb) (1 + b) = 0 := by
  unfold endT
  have e0 : ix (fz T 0 (ix T 0 + 1)) 0 = ix T 0 + 1 := ix_s
  exact clr_1 (by omega) nb h9 b hb.1 hb.2
theorem WI.days {n : Int} (h : WI G nb ng ni) : WI (sDays G nb ng n c) nb ng ni := by
  have hD := h.1
  have hd := hD.2.1
  unfold sDays
  split
  · rename_i hq
    refine h.remd.now ?_
    show GN (G 0) (dyS G nb ng n c).2 nb ng ni
    have hh : dyS G nb ng n c = itF (G 0) nb ng (plc (fu c 6 (rmU (G 6 1) + 1)) (ix (G 0) 3) (oset (G 0) nb), G 1) n.toNat := rfl
    obtain ⟨m, hm⟩ : ∃ m : Nat, n.toNat = m + 1 := ⟨n.toNat - 1, by omega⟩
    have hit := h.it (c := plc (fu c 6 (rmU (G 6 1) + 1)) (ix (G 0) 3) (oset (G 0) nb)) (plc_G hD) ⟨rfl, rfl⟩ n.toNat (by omega)
    have hit0 := h.it (c := plc (fu c 6 (rmU (G 6 1) + 1)) (ix (G 0) 3) (oset (G 0) nb)) (plc_G hD) ⟨rfl, rfl⟩ m (by omega)
    rw [hh]
    refine ⟨hit.1, by rw [hit.2.2.2.2]; omega, fun b b0 b1 => ?_⟩
    rw [hm] at hit ⊢
    have hday := day_all (n := m) (w := 100 + 5 * m) hD hit0.1 hit0.2.1 (by omega) (by have := hit0.2.2.2.2; have := h.2.1.2.1; omega) hit0.2.2.1 (by omega)
    have eit : itF (G 0) nb ng (plc (fu c 6 (rmU (G 6 1) + 1)) (ix (G 0) 3) (oset (G 0) nb), G 1) (m + 1) = dayF (G 0) nb ng (itF (G 0) nb ng (plc (fu c 6 (rmU (G 6 1) + 1)) (ix (G 0) 3) (oset (G 0) nb), G 1) m) m := rfl
    rw [eit]
    clear eit hit
    generalize itF (G 0) nb ng (plc (fu c 6 (rmU (G 6 1) + 1)) (ix (G 0) 3) (oset (G 0) nb), G 1) m = s at *
    have es : ∀ X : PS, (dayF (G 0) nb ng s m).2 = endT (dy5 (G 0) nb ng s m).2 nb := fun _ => rfl
    have hx0 : 0 ≤ ix (dy5 (G 0) nb ng s m).2 0 := by
      have h1 := hday.2.2.2.2
      have h2 := hit0.1.1
      rw [es s] at h1
      by_cases hneg : 0 ≤ ix (dy5 (G 0) nb ng s m).2 0
      · exact hneg
      · exfalso
        have hg := goers_all (s := dy2 nb s m) (w := 100 + 5 * m) hD (dy2_s hD hit0.1 hit0.2.1 (by omega) (by omega)) (by omega) hit0.2.1 hit0.2.2.1 (by omega) ng (Nat.le_refl _)
        exact hneg hg.1.1.1
    obtain ⟨e0, e1, e2⟩ := end_v (T := (dy5 (G 0) nb ng s m).2) hx0 (by omega : nb ≤ 9)
    have f1 := end_1 (T := (dy5 (G 0) nb ng s m).2) hx0 (by omega : nb ≤ 9) ⟨b0, b1⟩
    have ei : (itF (G 0) nb ng s 0).2 = s.2 := rfl
    show ix (dayF (G 0) nb ng s m).2 (1 + b) = ix (dayF (G 0) nb ng s m).2 (29 + 16 * b + ix (dayF (G 0) nb ng s m).2 0 % 16) ∧ ix (dayF (G 0) nb ng s m).2 (173 + 16 * b + ix (dayF (G 0) nb ng s m).2 0 % 16) = 0
    rw [es s, e0, f1, (e2 b _ b0 b1 (by omega) (by omega)).1, (e2 b _ b0 b1 (by omega) (by omega)).2, if_pos rfl, if_pos rfl]
    exact ⟨rfl, rfl⟩
  · exact h
theorem WI.enter {b t w o : Int} (h : WI G nb ng ni) (ho : o = 0 ∨ o = 1) : WI (sEnter G nb b t w o c) nb ng ni := by
  have hd := h.1.2.1
  unfold sEnter
  split
  · rename_i hq
    have hr := h.2.2.2.2.1
    refine ⟨h.1, h.2.1, h.2.2.1, h.2.2.2.1, ⟨by show 0 ≤ G 6 3 + 1; omega, by show G 6 3 + 1 ≤ 8; omega, fun r r0 r1 => ?_⟩, h.2.2.2.2.2⟩
    have r1 : r < G 6 3 + 1 := r1
    have q := entL_v (L := G 4) (ro := G 6 3) (b := b) (t := t) (w := w) (o := o) (r := r) hr.1 r0 (by omega)
    show (0 ≤ ix (entL (G 4) (G 6 3) b t w o) (4 * r) ∧ ix (entL (G 4) (G 6 3) b t w o) (4 * r) < 9) ∧ (0 ≤ ix (entL (G 4) (G 6 3) b t w o) (4 * r + 1) ∧ ix (entL (G 4) (G 6 3) b t w o) (4 * r + 1) ≤ 99) ∧ (1 ≤ ix (entL (G 4) (G 6 3) b t w o) (4 * r + 2) ∧ ix (entL (G 4) (G 6 3) b t w o) (4 * r + 2) ≤ 80) ∧ (ix (entL (G 4) (G 6 3) b t w o) (4 * r + 3) = 0 ∨ ix (entL (G 4) (G 6 3) b t w o) (4 * r + 3) = 1)
    rw [q.1, q.2.1, q.2.2.1, q.2.2.2]
    by_cases e : r = G 6 3
    · rw [if_pos e, if_pos e, if_pos e, if_pos e]; omega
    · rw [if_neg e, if_neg e, if_neg e, if_neg e]; exact hr.2.2 r r0 (by omega)
  · exact h
end WIS
