/-! arrays that are alike as far as they reach; System.arraycopy -/
def eqc (a b : Option CE) : Prop := a = b ∨ ∃ n f g, a = some (ci_ n f) ∧ b = some (ci_ n g) ∧ ∀ j, j < n → f j = g j
def eqM (M N : Mem) : Prop := ∀ k, eqc (M k) (N k)
theorem arrV_eq {cI : ClassId} {n : Nat} {f g : Nat → Value} (h : ∀ j, j < n → f j = g j) : arrV cI n f = arrV cI n g := by
  unfold arrV
  congr 1
  apply Array.ext (by simp)
  intro i h1 h2
  simp at h1
  simp [h i h1]
theorem hP.eqv {D : va_G} {cI cS : ClassId} {B : Nat} {M N : Mem} {H : Heap} (h : hP D cI cS B M H) (he : eqM M N) : hP D cI cS B N H := by
  intro k e hk
  rcases he k with h1 | ⟨n, f, g, h1, h2, h3⟩
  · exact h k e (h1.trans hk)
  · have e2 : e = ci_ n g := by rw [h2] at hk; exact (Option.some.inj hk).symm
    subst e2
    have h4 := h k _ h1
    have e3 : vp_cell cI (n, .inl (fun j => Int32.ofInt (f j))) = vp_cell cI (n, .inl (fun j => Int32.ofInt (g j))) := by
      rw [vp_cell_i, vp_cell_i]
      exact arrV_eq (fun j hj => by rw [h3 j hj])
    show H[B + k]? = some (vp_cell cI (n, .inl (fun j => Int32.ofInt (g j))))
    rw [← e3]
    exact h4
theorem RetN.eqv {d : Nat} {y : MethodName} {cc : ByteArray} {nL bz : Nat} {av : List AV} {M : Mem} {Q Q' : Option AV → Mem → Prop} (h : RetN d y cc nL bz av M Q) (hQ : ∀ r M', Q r M' → ∃ M'', eqM M' M'' ∧ Q' r M'') : RetN d y cc nL bz av M Q' := by
  intro nx l D cI cS B p e ha hc hk s m args below hf hx hP hK
  obtain ⟨k, o, h1, h2, h3, ⟨r, nx', M', q1, q2, q3, q4⟩, h5⟩ := h nx l D cI cS B p e ha hc hk s m args below hf hx hP hK
  obtain ⟨M'', g1, g2⟩ := hQ _ _ q2.2
  exact ⟨k, o, h1, h2, h3, ⟨r, nx', M'', q1, ⟨q2.1, g2⟩, q3.eqv g1, q4⟩, h5⟩
theorem AM.eqv {d : Nat} {y : MethodName} {cc : ByteArray} {nL bz pc : Nat} {ls : List (Option AV)} {st : List AV} {M N : Mem} {Q : Option AV → Mem → Prop} (he : eqM M N) (h : AM d y cc nL bz Q pc ls st N) : AM d y cc nL bz Q pc ls st M := by
  intro nx p l e s m args below meth c D cI cS B C hX H locs lsA hH hz hS hl
  exact h nx p l e s m args below meth c D cI cS B C hX H locs lsA (hH.eqv he) hz hS hl
theorem eqM_mu {M : Mem} {a n : Nat} {f g : Nat → Int} (h : M a = some (ci_ n f)) (hfg : ∀ j, j < n → f j = g j) : eqM M (mu M a (ci_ n g)) := by
  intro k
  by_cases hk : k = a
  · subst hk; rw [mu_s]; exact Or.inr ⟨n, f, g, h, rfl, hfg⟩
  · rw [mu_o hk]; exact Or.inl rfl
