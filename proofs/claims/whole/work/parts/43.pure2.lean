/-! pure: layOff's rows are the levels; takenBy is tkr -/
section BF
variable {u : Int → Prop} {δ : Nat → Int} {nb : Nat} {bd : Int}
def bfs (u : Int → Prop) (δ : Nat → Int) (nb : Nat) (bd : Int) (f : Nat → Int) : Prop := ∀ p : Int, 0 ≤ p → p < 8 → ix f p < 1000000 → rch u δ nb bd (ix f p).toNat p
def bfc (u : Int → Prop) (δ : Nat → Int) (nb : Nat) (bd : Int) (k : Nat) (f : Nat → Int) : Prop := ∀ p : Int, 0 ≤ p → p < 8 → rch u δ nb bd k p → ix f p ≤ k
def dec (f g : Nat → Int) : Prop := ∀ p : Int, 0 ≤ p → p < 8 → ix g p ≤ ix f p
theorem rx1_v {f : Nat → Int} {a b p : Int} (ha : 0 ≤ a) (hp : 0 ≤ p) : ix (rx1 f a b) p = if p = a then (if ix f b + 1 < ix f a then ix f b + 1 else ix f a) else ix f p := by
  unfold rx1
  by_cases e : p = a
  · subst e; rw [ix_s, if_pos rfl]
  · rw [ix_n ha hp e, if_neg e]
theorem rx1_dec {f : Nat → Int} {a b : Int} (ha : 0 ≤ a) : dec f (rx1 f a b) := by
  intro p h0 h8
  rw [rx1_v ha h0]
  split
  · rename_i e; subst e; split <;> omega
  · omega
theorem dec_t {f g h : Nat → Int} (h1 : dec f g) (h2 : dec g h) : dec f h := fun p h0 h8 => Int.le_trans (h2 p h0 h8) (h1 p h0 h8)
theorem rx_dec {f : Nat → Int} {a b : Int} (ha : 0 ≤ a) (hb : 0 ≤ b) : dec f (rx f a b) := dec_t (rx1_dec ha) (rx1_dec hb)
theorem rx1_snd {f : Nat → Int} {a b : Int} (ha : 0 ≤ a ∧ a < 8) (hb : 0 ≤ b ∧ b < 8) (hok : off_ok f) (hst : ∀ k, rch u δ nb bd k b → rch u δ nb bd (k + 1) a) (h : bfs u δ nb bd f) : bfs u δ nb bd (rx1 f a b) := by
  intro p h0 h8
  rw [rx1_v ha.1 h0]
  split
  · rename_i e; subst e
    split
    · intro hl
      have h1 := hok b hb.1 hb.2
      have := hst _ (h b hb.1 hb.2 (by omega))
      rw [show (ix f b).toNat + 1 = (ix f b + 1).toNat by omega] at this
      exact this
    · exact h p h0 h8
  · exact h p h0 h8
theorem rx_le {f : Nat → Int} {a b : Int} (ha : 0 ≤ a ∧ a < 8) (hb : 0 ≤ b ∧ b < 8) : ix (rx f a b) a ≤ ix f b + 1 ∧ ix (rx f a b) b ≤ ix f a + 1 := by
  have d1 := rx1_dec (f := f) (b := b) ha.1 a ha.1 ha.2
  have d2 := rx1_dec (f := rx1 f a b) (b := a) hb.1 a ha.1 ha.2
  have e1 : ix (rx1 f a b) a ≤ ix f b + 1 := by rw [rx1_v ha.1 ha.1, if_pos rfl]; split <;> omega
  have e2 : ix (rx f a b) b ≤ ix (rx1 f a b) a + 1 := by unfold rx; rw [rx1_v hb.1 hb.1, if_pos rfl]; split <;> omega
  unfold rx at *
  omega
def endsOk (δ : Nat → Int) (nb ni : Nat) : Prop := ∀ b : Int, 0 ≤ b → b < nb → (0 ≤ ix δ (4 + b) ∧ ix δ (4 + b) < ni) ∧ (0 ≤ ix δ (13 + b) ∧ ix δ (13 + b) < ni)
theorem rxp_all (he : endsOk δ nb 8) {f : Nat → Int} (hok : off_ok f) (hs : bfs u δ nb bd f) : ∀ m : Nat, m ≤ nb → off_ok (rxp u δ f m) ∧ bfs u δ nb bd (rxp u δ f m) ∧ dec f (rxp u δ f m) ∧ ∀ b : Int, 0 ≤ b → b < m → u b → ix (rxp u δ f m) (ix δ (4 + b)) ≤ ix f (ix δ (13 + b)) + 1 ∧ ix (rxp u δ f m) (ix δ (13 + b)) ≤ ix f (ix δ (4 + b)) + 1
  | 0, _ => ⟨hok, hs, fun _ _ _ => Int.le_refl _, fun b h1 h2 => by omega⟩
  | m + 1, hm => by
    obtain ⟨i1, i2, i3, i4⟩ := rxp_all he hok hs m (by omega)
    have hem := he m (by omega) (by omega)
    by_cases hu : u (m : Int)
    · rw [rxp_t hu]
      have sa : ∀ k, rch u δ nb bd k (ix δ (13 + (m : Int))) → rch u δ nb bd (k + 1) (ix δ (4 + (m : Int))) := fun k h => Or.inr ⟨m, by omega, by omega, hu, Or.inl ⟨rfl, h⟩⟩
      have sb : ∀ k, rch u δ nb bd k (ix δ (4 + (m : Int))) → rch u δ nb bd (k + 1) (ix δ (13 + (m : Int))) := fun k h => Or.inr ⟨m, by omega, by omega, hu, Or.inr ⟨rfl, h⟩⟩
      have dd := rx_dec (f := rxp u δ f m) hem.1.1 hem.2.1
      refine ⟨rx_ok i1 hem.1 hem.2, rx1_snd hem.2 hem.1 (rx1_ok i1 hem.1 hem.2) sb (rx1_snd hem.1 hem.2 i1 sa i2), dec_t i3 dd, fun b h1 h2 h3 => ?_⟩
      have hb := he b h1 (by omega)
      by_cases e : b = (m : Int)
      · subst e
        have := rx_le (f := rxp u δ f m) hem.1 hem.2
        have g1 := i3 _ hem.1.1 hem.1.2
        have g2 := i3 _ hem.2.1 hem.2.2
        omega
      · have := i4 b h1 (by omega) h3
        have g1 := dd _ hb.1.1 hb.1.2
        have g2 := dd _ hb.2.1 hb.2.2
        omega
    · rw [rxp_f hu]
      refine ⟨i1, i2, i3, fun b h1 h2 h3 => ?_⟩
      by_cases e : b = (m : Int)
      · subst e; exact absurd h3 hu
      · exact i4 b h1 (by omega) h3
theorem rxr_all (he : endsOk δ nb 8) {f : Nat → Int} (hok : off_ok f) (hs : bfs u δ nb bd f) (h0 : bfc u δ nb bd 0 f) : ∀ t : Nat, off_ok (rxr u δ nb f t) ∧ bfs u δ nb bd (rxr u δ nb f t) ∧ ∀ k, k ≤ t → bfc u δ nb bd k (rxr u δ nb f t)
  | 0 => ⟨hok, hs, fun k hk => by rw [show k = 0 by omega]; exact h0⟩
  | t + 1 => by
    obtain ⟨i1, i2, i3⟩ := rxr_all he hok hs h0 t
    obtain ⟨j1, j2, j3, j4⟩ := rxp_all he i1 i2 nb (Nat.le_refl _)
    refine ⟨j1, j2, fun k hk p p0 p8 hp => ?_⟩
    show ix (rxp u δ (rxr u δ nb f t) nb) p ≤ k
    cases k with
    | zero =>
      have := i3 0 (by omega) p p0 p8 hp
      have := j3 p p0 p8
      omega
    | succ k =>
      rcases hp with hp | ⟨b, h1, h2, h3, h4⟩
      · have := i3 k (by omega) p p0 p8 hp
        have := j3 p p0 p8
        omega
      · have hj := j4 b h1 h2 h3
        have hb := he b h1 h2
        rcases h4 with ⟨g1, g2⟩ | ⟨g1, g2⟩
        · have := i3 k (by omega) _ hb.2.1 hb.2.2 g2
          rw [← g1]; omega
        · have := i3 k (by omega) _ hb.1.1 hb.1.2 g2
          rw [← g1]; omega
theorem offI_v {p : Int} {f : Nat → Int} (h0 : 0 ≤ p) (h8 : p < 8) : ix (offI bd 8 f) p = if p = bd then 0 else 1000000 := by
  have h1 : p.toNat < 8 := by omega
  have h2 : (p.toNat : Int) = p := by omega
  simp only [ix, offI, h1, h2, if_true]
theorem lay_spec (he : endsOk δ nb 8) {f : Nat → Int} (ni : Nat) : off_ok (rxr u δ nb (offI bd 8 f) ni) ∧ bfs u δ nb bd (rxr u δ nb (offI bd 8 f) ni) ∧ ∀ k, k ≤ ni → bfc u δ nb bd k (rxr u δ nb (offI bd 8 f) ni) := by
  refine rxr_all he offI_ok ?_ ?_ ni
  · intro p h0 h8
    rw [offI_v h0 h8]
    split
    · intro _; assumption
    · intro h; omega
  · intro p h0 h8 h
    rw [offI_v h0 h8, if_pos (show p = bd from h)]
    exact Int.le_refl _
theorem tkr_none {p : Int} (h : ∀ (k : Nat) (b : Int), 0 ≤ b → b < nb → ¬ into u δ nb bd k p b) : ∀ m k, tkr u δ nb bd p m k = -4
  | 0, _ => rfl
  | m + 1, k => by
    unfold tkr
    rw [if_pos (fst_none (fun b h1 h2 => h k b h1 h2))]
    exact tkr_none h m (k + 1)
theorem fst_some {P : Int → Prop} {m : Nat} (h : ∃ b : Int, 0 ≤ b ∧ b < m ∧ P b) : ¬ fst_ P m 0 = -4 := by
  obtain ⟨b, h1, h2, h3⟩ := h
  rcases fst_spec (P := P) m 0 with ⟨_, g⟩ | ⟨a, g1, _⟩
  · exact fun _ => g b (by omega) (by omega) h3
  · rw [g1]; omega
theorem tkr_least {p : Int} {k : Nat} (h1 : ∀ j, j < k → ∀ b : Int, 0 ≤ b → b < nb → ¬ into u δ nb bd j p b) (h2 : ∃ b : Int, 0 ≤ b ∧ b < nb ∧ into u δ nb bd k p b) : ∀ m j, j ≤ k → k < j + m → tkr u δ nb bd p m j = fst_ (into u δ nb bd k p) nb 0
  | 0, j, h3, h4 => by omega
  | m + 1, j, h3, h4 => by
    unfold tkr
    by_cases e : j = k
    · subst e; rw [if_neg (fst_some h2)]
    · rw [if_pos (fst_none (fun b g1 g2 => h1 j (by omega) b g1 g2))]
      exact tkr_least h1 h2 m (j + 1) (by omega) (by omega)
theorem least_of {P : Nat → Prop} : ∀ k, P k → ∃ j, P j ∧ ∀ i, i < j → ¬ P i := by
  intro k
  induction k using Nat.strongRecOn with
  | ind k ih =>
    intro hk
    by_cases h : ∃ i, i < k ∧ P i
    · obtain ⟨i, h1, h2⟩ := h
      exact ih i h1 h2
    · exact ⟨k, hk, fun i h1 h2 => h ⟨i, h1, h2⟩⟩
theorem rch_into {p : Int} (hp : p ≠ bd) : ∀ k, rch u δ nb bd k p → ∃ j, j < k ∧ ∃ b : Int, 0 ≤ b ∧ b < nb ∧ into u δ nb bd j p b
  | 0, h => absurd h hp
  | k + 1, h => by
    rcases h with h | ⟨b, h1, h2, h3⟩
    · obtain ⟨j, g1, g2⟩ := rch_into hp k h
      exact ⟨j, by omega, g2⟩
    · exact ⟨k, by omega, b, h1, h2, h3⟩
/-- what takenBy answers, from layOff's row -/
noncomputable def tkF (u : Int → Prop) (δ : Nat → Int) (nb : Nat) (F : Nat → Int) (p : Int) : Int := if ix F p < 1000000 then fst_ (fun b => 0 ≤ en δ b p ∧ u b ∧ ix F (en δ b p) = ix F p - 1) nb 0 else -4
theorem tkF_eq {ni : Nat} {p : Int} {f : Nat → Int} (hni : ni ≤ 8) (hb : 0 ≤ bd ∧ bd < ni) (he : endsOk δ nb ni) (hne : ∀ b : Int, 0 ≤ b → b < nb → ix δ (4 + b) ≠ ix δ (13 + b)) (hp : 0 ≤ p ∧ p < ni) (hpb : p ≠ bd) :
    tkF u δ nb (rxr u δ nb (offI bd 8 f) ni) p = tkr u δ nb bd p 7 0 := by
  have he8 : endsOk δ nb 8 := fun b h1 h2 => by have := he b h1 h2; omega
  obtain ⟨k1, k2, k3⟩ := lay_spec (u := u) (bd := bd) (f := f) he8 ni
  generalize hF : rxr u δ nb (offI bd 8 f) ni = F at *
  have hp8 := k1 p hp.1 (by omega)
  unfold tkF
  by_cases hex : ∃ (k : Nat) (b : Int), 0 ≤ b ∧ b < nb ∧ into u δ nb bd k p b
  · obtain ⟨k0, hk0⟩ := hex
    obtain ⟨k, hk, hmin⟩ := least_of (P := fun k => ∃ b : Int, 0 ≤ b ∧ b < nb ∧ into u δ nb bd k p b) k0 hk0
    have hmin' : ∀ j, j < k → ∀ b : Int, 0 ≤ b → b < nb → ¬ into u δ nb bd j p b := fun j hj b h1 h2 h3 => hmin j hj ⟨b, h1, h2, h3⟩
    have hr : rch u δ nb bd (k + 1) p := Or.inr hk
    have hge : ∀ j, rch u δ nb bd j p → k + 1 ≤ j := by
      intro j hj
      obtain ⟨i, h1, h2⟩ := rch_into hpb j hj
      have : ¬ i < k := fun h => hmin i h h2
      omega
    have hle := hge _ (rch_all hb he hr)
    have hv1 := k3 (k + 1) (by omega) p hp.1 (by omega) hr
    have hv2 := hge _ (k2 p hp.1 (by omega) (by omega))
    have hv : ix F p = k + 1 := by omega
    rw [hv, if_pos (by omega), tkr_least hmin' hk 7 0 (by omega) (by omega)]
    refine fst_congr (fun b h1 h2 => ?_)
    have heb := he b (by omega) (by omega)
    have hnb := hne b (by omega) (by omega)
    constructor
    · rintro ⟨g1, g2, g3⟩
      refine ⟨g2, ?_⟩
      have hrr : rch u δ nb bd k (en δ b p) := by
        have e8 : en δ b p < 8 := by unfold en at g1 ⊢; split <;> (try split) <;> omega
        have := k2 (en δ b p) g1 e8 (by omega)
        rw [show (ix F (en δ b p)).toNat = k by omega] at this
        exact this
      unfold en at hrr g1
      split at hrr
      · rename_i e; exact Or.inl ⟨e, hrr⟩
      · split at hrr
        · rename_i e; exact Or.inr ⟨e, hrr⟩
        · rename_i e1 e2; rw [if_neg e1, if_neg e2] at g1; omega
    · rintro ⟨g1, g2⟩
      have key : ∀ q : Int, 0 ≤ q → q < ni → en δ b p = q → rch u δ nb bd k q → (∀ j, rch u δ nb bd j q → into u δ nb bd j p b) → 0 ≤ en δ b p ∧ u b ∧ ix F (en δ b p) = ↑k + 1 - 1 := by
        intro q q0 q1 e hq hj
        rw [e]
        have a1 := k3 k (by omega) q q0 (by omega) hq
        have a2 := k2 q q0 (by omega) (by omega)
        have a3 : ¬ (ix F q).toNat < k := fun h => hmin' _ h b (by omega) (by omega) (hj _ a2)
        have := k1 q q0 (by omega)
        exact ⟨q0, g1, by omega⟩
      rcases g2 with ⟨a, hq⟩ | ⟨a, hq⟩
      · exact key _ heb.2.1 heb.2.2 (by unfold en; rw [if_pos a]) hq (fun j hj => ⟨g1, Or.inl ⟨a, hj⟩⟩)
      · exact key _ heb.1.1 heb.1.2 (by unfold en; rw [if_neg (by omega), if_pos a]) hq (fun j hj => ⟨g1, Or.inr ⟨a, hj⟩⟩)
  · have hn : ∀ (k : Nat) (b : Int), 0 ≤ b → b < nb → ¬ into u δ nb bd k p b := fun k b h1 h2 h3 => hex ⟨k, b, h1, h2, h3⟩
    rw [tkr_none hn]
    rw [if_neg]
    intro hl
    obtain ⟨j, _, b, h1, h2, h3⟩ := rch_into hpb _ (k2 p hp.1 (by omega) hl)
    exact hn j b h1 h2 h3
end BF
