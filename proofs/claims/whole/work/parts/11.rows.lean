/-! rows of memory, of switches, of ends; exi and wp are sound -/
theorem e_i_x {st : List AV} {f : Int → List AV → Prop} (h : e_i st f) : ∃ x t, st = .inl x :: t ∧ f x t := by
  unfold e_i at h; split at h
  · exact ⟨_, _, rfl, h⟩
  · exact h.elim
theorem e_ii_x {st : List AV} {f : Int → Int → List AV → Prop} (h : e_ii st f) : ∃ x y t, st = .inl y :: .inl x :: t ∧ f x y t := by
  unfold e_ii at h; split at h
  · exact ⟨_, _, _, rfl, h⟩
  · exact h.elim
theorem e_l_x {st : List AV} {f : Int → List AV → Prop} (h : e_l st f) : ∃ x t, st = .inr (.inl x) :: t ∧ f x t := by
  unfold e_l at h; split at h
  · exact ⟨_, _, rfl, h⟩
  · exact h.elim
theorem e_ll_x {st : List AV} {f : Int → Int → List AV → Prop} (h : e_ll st f) : ∃ x y t, st = .inr (.inl y) :: .inr (.inl x) :: t ∧ f x y t := by
  unfold e_ll at h; split at h
  · exact ⟨_, _, _, rfl, h⟩
  · exact h.elim
theorem e_r_x {st : List AV} {f : Nat → List AV → Prop} (h : e_r st f) : ∃ a t, st = ar a :: t ∧ f a t := by
  unfold e_r at h; split at h
  · exact ⟨_, _, rfl, h⟩
  · exact h.elim
theorem e_rr_x {st : List AV} {f : (Option Nat ⊕ Nat) → List AV → Prop} (h : e_rr st f) : ∃ a t, st = .inr (.inr a) :: t ∧ f a t := by
  unfold e_rr at h; split at h
  · exact ⟨_, _, rfl, h⟩
  · exact h.elim
theorem e_ir_x {st : List AV} {f : (Option Nat ⊕ Nat) → Int → List AV → Prop} (h : e_ir st f) : ∃ a i t, st = .inl i :: .inr (.inr a) :: t ∧ f a i t := by
  unfold e_ir at h; split at h
  · exact ⟨_, _, _, rfl, h⟩
  · exact h.elim
theorem e_iir_x {st : List AV} {f : Nat → Int → Int → List AV → Prop} (h : e_iir st f) : ∃ a i x t, st = .inl x :: .inl i :: ar a :: t ∧ f a i x t := by
  unfold e_iir at h; split at h
  · exact ⟨_, _, _, _, rfl, h⟩
  · exact h.elim
theorem e_vr_x {st : List AV} {f : Nat → AV → List AV → Prop} (h : e_vr st f) : ∃ a v t, st = v :: ar a :: t ∧ f a v t := by
  unfold e_vr at h; split at h
  · exact ⟨_, _, _, rfl, h⟩
  · exact h.elim
theorem e_1_x {st : List AV} {f : AV → List AV → Prop} (h : e_1 st f) : ∃ v t, st = v :: t ∧ c1 v ∧ f v t := by
  unfold e_1 at h; split at h
  · exact ⟨_, _, rfl, h⟩
  · exact h.elim
theorem e_2_x {st : List AV} {f : AV → AV → List AV → Prop} (h : e_2 st f) : ∃ v w t, st = v :: w :: t ∧ c1 v ∧ c1 w ∧ f v w t := by
  unfold e_2 at h; split at h
  · exact ⟨_, _, _, rfl, h⟩
  · exact h.elim
theorem oo_x {α : Type} {o : Option α} {f : α → Prop} (h : oo o f) : ∃ x, o = some x ∧ f x := by
  unfold oo at h; split at h
  · exact ⟨_, rfl, h⟩
  · exact h.elim
theorem os_x {α : Type} {S : Prop} {o : Option α} {f : α → Prop} (h : os S o f) : S ∨ ∃ x, o = some x ∧ f x := by
  unfold os at h; split at h
  · exact Or.inr ⟨_, rfl, h⟩
  · exact Or.inl h
theorem mO_x {M : Mem} {a c : Nat} {f : List AV → Prop} (h : mO M a c f) : ∃ fs, M a = some (co_ c fs) ∧ f fs := by
  unfold mO at h; split at h
  · rename_i c' fs e
    obtain ⟨rfl, h⟩ := h
    exact ⟨fs, e, h⟩
  · exact h.elim
theorem mI_x {M : Mem} {a : Nat} {f : Nat → (Nat → Int) → Prop} (h : mI M a f) : ∃ n g, M a = some (ci_ n g) ∧ f n g := by
  unfold mI at h; split at h
  · rename_i n g e
    exact ⟨n, g, e, h⟩
  · exact h.elim
theorem mR_x {M : Mem} {a : Nat} {f : Nat → (Nat → Option Nat) → Prop} (h : mR M a f) : ∃ n g, M a = some (cr_ n g) ∧ f n g := by
  unfold mR at h; split at h
  · rename_i n g e
    exact ⟨n, g, e, h⟩
  · exact h.elim
theorem mN_x {M : Mem} {a : Nat} {f : Nat → Prop} (h : mN M a f) : ∃ n, ((∃ g, M a = some (ci_ n g)) ∨ ∃ g, M a = some (cr_ n g)) ∧ f n := by
  unfold mN at h; split at h
  · rename_i n g e
    exact ⟨n, Or.inl ⟨g, e⟩, h⟩
  · rename_i n g e
    exact ⟨n, Or.inr ⟨g, e⟩, h⟩
  · exact h.elim
theorem ldI_x {v : Option AV} {f : AV → Prop} (h : ldI v f) : ∃ x, v = some (.inl x) ∧ f (.inl x) := by
  unfold ldI at h; split at h
  · exact ⟨_, rfl, h⟩
  · exact h.elim
theorem ldL_x {v : Option AV} {f : AV → Prop} (h : ldL v f) : ∃ x, v = some (.inr (.inl x)) ∧ f (.inr (.inl x)) := by
  unfold ldL at h; split at h
  · exact ⟨_, rfl, h⟩
  · exact h.elim
theorem ldA_x {v : Option AV} {f : AV → Prop} (h : ldA v f) : ∃ x, v = some x ∧ ldA (some x) (fun w => w = x) ∧ f x := by
  unfold ldA at h; split at h
  · exact ⟨_, rfl, rfl, h⟩
  · exact ⟨_, rfl, rfl, h⟩
  · exact h.elim
section CP
variable {p : Program} {s : State} {m : MethodId} {args : Array Value} {meth : Method} {c : Code} {y : MethodName} {cc : ByteArray} {nL : Nat} {ret : Option FieldType} {D : va_G} {cI cS : ClassId} {B : Nat}
theorem pp_C.ow (h : pp_C p s m args meth c y cc nL ret D cI cS B) : s.vm.findClass y.cls = some m.cls := h.2.2.2.2.1
theorem pp_C.wd (h : pp_C p s m args meth c y cc nL ret D cI cS B) : ∀ w ∈ gw, w.before args s = true := h.2.2.2.2.2.1
theorem pp_C.lk (h : pp_C p s m args meth c y cc nL ret D cI cS B) : meth.locks = false := h.2.2.2.2.2.2.1
theorem pp_C.nm (h : pp_C p s m args meth c y cc nL ret D cI cS B) : y.name = "<init>" → meth.name = "<init>" := h.2.2.2.2.2.2.2.1
theorem pp_C.ev (h : pp_C p s m args meth c y cc nL ret D cI cS B) : pp_Ev D cI cS B s := h.2.2.2.2.2.2.2.2
end CP
theorem pp_cls_lt {c : Nat} {q : vw_C} (h : pp_cls[c]? = some q) : c < 9 := (List.getElem?_eq_some_iff.mp h).1
theorem pp_cls_N {c : Nat} {C : String} {T : u_T} {N : Nat} (h : pp_cls[c]? = some (C, T, N)) : N ≤ 28 := by
  match c, h with
  | 0, h => cases h; omega
  | 1, h => cases h; omega
  | 2, h => cases h; omega
  | 3, h => cases h; omega
  | 4, h => cases h; omega
  | 5, h => cases h; omega
  | 6, h => cases h; omega
  | 7, h => cases h; omega
  | 8, h => cases h; omega
  | c + 9, h => simp [pp_cls] at h
theorem fit_ok {B c k : Nat} {C : String} {T : u_T} {N : Nat} {v : AV} (hc : pp_cls[c]? = some (C, T, N)) (hk : k < N) (h9 : ¬ ft c k = 9) (hv : okT (ft c k) v) : ∃ ty, parseFieldDescriptor (T k).2.2.1 = some ty ∧ narrow ty (cv B v) = cv B v ∧ fits ty (cv B v) = true ∧ (T k).2.2.2 = false := by
  have h1 := List.all_eq_true.mp (List.all_eq_true.mp ftOk_all c (List.mem_range.mpr (pp_cls_lt hc))) k (List.mem_range.mpr (Nat.lt_of_lt_of_le hk (pp_cls_N hc)))
  have hfin : (T k).2.2.2 = false := by
    cases hq : (T k).2.2.2 with
    | false => rfl
    | true => exfalso; apply h9; unfold ft; rw [hc]; simp [hq]
  unfold ftOk at h1
  rw [hc] at h1
  simp only at h1
  generalize parseFieldDescriptor (T k).2.2.1 = pd at h1 ⊢
  split at h1
  · rename_i e
    rw [e] at hv
    match v, hv with
    | .inl z, _ => exact ⟨.int, rfl, rfl, rfl, hfin⟩
  · rename_i e
    rw [e] at hv
    match v, hv with
    | .inl z, hv =>
      rcases hv with hv | ⟨_, rfl | rfl⟩
      · cases hv
      · exact ⟨.boolean, rfl, rfl, rfl, hfin⟩
      · exact ⟨.boolean, rfl, rfl, rfl, hfin⟩
  · rename_i n e
    rw [e] at hv
    match v, hv with
    | .inr (.inr (.inl (some z))), _ => exact ⟨.object n, rfl, rfl, rfl, hfin⟩
    | .inr (.inr (.inl none)), _ => exact ⟨.object n, rfl, rfl, rfl, hfin⟩
    | .inl z, hv => rcases hv with hv | ⟨hv, _⟩ <;> cases hv
  · rename_i n e
    rw [e] at hv
    match v, hv with
    | .inr (.inr (.inl (some z))), _ => exact ⟨.array n, rfl, rfl, rfl, hfin⟩
    | .inr (.inr (.inl none)), _ => exact ⟨.array n, rfl, rfl, rfl, hfin⟩
    | .inl z, hv => rcases hv with hv | ⟨hv, _⟩ <;> cases hv
  · rename_i e _; exact absurd (by assumption) h9
  · cases h1
section AWm
variable {R : Room} {y : MethodName} {cc : ByteArray} {nL : Nat} {ret : Option FieldType} {X : Nat → State → Prop} {E : ETy} {cells slots nx pc : Nat} {ls ls' : List (Option AV)} {st t : List AV} {M : Mem}
theorem aw_getfield {c k idx a : Nat} {fs : List AV} {v : AV} (hg : gf y.cls idx = some (c, k)) (ha : M a = some (co_ c fs)) (hv : nthV fs k = some v) (hd : decode cc pc = .ok (.getfield idx, 3)) (K : AW R y cc nL ret X E cells slots nx (pc + 3) ls (v :: t) M) : AW R y cc nL ret X E cells slots nx pc ls (ar a :: t) M := by
  intro p l e s m args below meth c0 D cI cS B C hX H locs lsA hH hz hS hl
  obtain ⟨C', T, N, hc, hk, hw⟩ := gf_ok hg
  exact va_get (ws := [(B + a, ce_v B cI cS (co_ c fs))]) C.1 C.2.1 C.wd (cls_ws hc) C.ow C.ev.1 (hH.one ha) 0 rfl hc k hk (C.wd _ hw) (fun _ h => h) (by rw [List.getElem?_map, nthV_get hv]; rfl) hd (K p l e s m args below meth c0 D cI cS B C hX H locs lsA hH hz hS hl)
theorem aw_putfield {c k idx a : Nat} {fs fs' : List AV} {v : AV} (hg : gf y.cls idx = some (c, k)) (h9 : ¬ ft c k = 9) (hT : okT (ft c k) v) (ha : M a = some (co_ c fs)) (hv : setV fs k v = some fs') (hd : decode cc pc = .ok (.putfield idx, 3)) (K : AW R y cc nL ret X E cells slots nx (pc + 3) ls t (mu M a (co_ c fs'))) : AW R y cc nL ret X E cells slots nx pc ls (v :: ar a :: t) M := by
  intro p l e s m args below meth c0 D cI cS B C hX H locs lsA hH hz hS hl
  obtain ⟨C', T, N, hc, hk, hw⟩ := gf_ok hg
  obtain ⟨ty, hd1, hn, hfit, hfin⟩ := fit_ok (B := B) hc hk h9 hT
  obtain ⟨⟨ty0, hty⟩, hnm⟩ := cls_tn hc
  have hap := va_apart (own := y.cls) C.wd (cls_ws hc) ty0 hty hnm C.ev.1 hc
  obtain ⟨r, h1, cell, q1, q2, q3, q4⟩ := hH a _ ha
  have hr : r = (C', T, N) := Option.some.inj (h1.symm.trans hc)
  subst hr
  obtain ⟨hS', hfc, kC, hkC, hkind⟩ := C.ev.1.1 c _ hc
  obtain ⟨cf, kf, fi, f, hi, hsl⟩ := hS' k hk
  have hlay := C.wd _ (cls_ws hc _ (u_in_lay hk))
  unfold u_lay at hlay
  rw [if_neg (by rw [hfin]; decide)] at hlay
  have hst := (u_facts hfc hkC (u_lays C.wd (cls_ws hc) hk) hi).1
  have h6 := u_store hfc hkC hkind hlay hi hd1 hn hfit
  obtain ⟨hkl, hset⟩ := setV_get hv
  refine W.putK C.1 C.2.1 (f := f) ⟨C.ow, C.wd _ hw, ⟨_, _, _, hi⟩, hst⟩ (by rw [q2]; exact h6) q1 q3 (by rw [hsl]; exact k2_hasslot (q4 k hk)) rfl rfl hd fun H' e1 e2 e3 => ?_
  rw [hsl] at e1 ⊢
  refine K p l e s m args below meth c0 D cI cS B C hX H' _ lsA (hH.set ⟨_, hc, ?_⟩ e3) (by rw [e2]; exact hz) (hS.put e2 e3 (Nat.le_add_right _ _)) hl
  subst hset
  rw [List.map_set]
  exact t_OB.to (V := updV (vp_V (fs.map (cv B))) k (cv B v)) ⟨_, e1, q2, q3, t_set q4 hap hk (cv B v)⟩ (fun j _ => vp_updV_set (by simpa using hkl) (cv B v) j)
theorem aw_putF {c k idx a : Nat} {fs fs' : List AV} {v : Nat} (hg : gf y.cls idx = some (c, k)) (h9 : match pp_cls[c]? with | some (_, T, _) => (T k).2.2.2 = true ∧ (T k).1 = y.cls ∧ (∃ ty, parseFieldDescriptor (T k).2.2.1 = some ty ∧ fits ty (.ref 0) = true) | none => False) (hi0 : y.name = "<init>") (ha : M a = some (co_ c fs)) (hv : setV fs k (ar v) = some fs') (hd : decode cc pc = .ok (.putfield idx, 3)) (K : AW R y cc nL ret X E cells slots nx (pc + 3) ls t (mu M a (co_ c fs'))) : AW R y cc nL ret X E cells slots nx pc ls (ar v :: ar a :: t) M := by
  intro p l e s m args below meth c0 D cI cS B C hX H locs lsA hH hz hS hl
  obtain ⟨C', T, N, hc, hk, hw⟩ := gf_ok hg
  rw [hc] at h9
  obtain ⟨hfin, hdecl, ty, hd1, hfit⟩ := h9
  obtain ⟨⟨ty0, hty⟩, hnm⟩ := cls_tn hc
  have hap := va_apart (own := y.cls) C.wd (cls_ws hc) ty0 hty hnm C.ev.1 hc
  obtain ⟨r, h1, cell, q1, q2, q3, q4⟩ := hH a _ ha
  have hr : r = (C', T, N) := Option.some.inj (h1.symm.trans hc)
  subst hr
  obtain ⟨hS', hfc, kC, hkC, hkind⟩ := C.ev.1.1 c _ hc
  obtain ⟨cf, kf, fi, f, hi, hsl⟩ := hS' k hk
  have hlay := C.wd _ (cls_ws hc _ (u_in_lay hk))
  unfold u_lay at hlay
  rw [if_pos hfin] at hlay
  have hst := (u_facts hfc hkC (u_lays C.wd (cls_ws hc) hk) hi).1
  have hcf : m.cls = cf := by
    obtain ⟨_, _, c', _, _, _, -, -, hf', -, -, -, hown2, -⟩ := Cond.laysFinal_spec hlay
    have e1 : c' = cf := by have := hi.symm.trans hf'; simp at this; exact this.1.symm
    rw [hdecl] at hown2
    rw [← e1]; exact Option.some.inj (C.ow.symm.trans hown2)
  have hfit' : fits ty (cv B (ar v)) = true := by
    cases ty <;> first | (exact hfit) | (simp [fits] at hfit) | rfl
  have hn' : narrow ty (cv B (ar v)) = cv B (ar v) := by cases ty <;> rfl
  have h6 := u_fits hfc hkC hkind (Or.inr hlay) hi hd1 hn' hfit'
  obtain ⟨hkl, hset⟩ := setV_get hv
  refine W.putFinK C.1 C.2.1 C.ow (C.wd _ hw) hi hst hcf (C.nm hi0) (by rw [q2]; exact h6) q1 q3 (by rw [hsl]; exact k2_hasslot (q4 k hk)) rfl rfl hd fun H' e1 e2 e3 => ?_
  rw [hsl] at e1 ⊢
  refine K p l e s m args below meth c0 D cI cS B C hX H' _ lsA (hH.set ⟨_, hc, ?_⟩ e3) (by rw [e2]; exact hz) (hS.put e2 e3 (Nat.le_add_right _ _)) hl
  subst hset
  rw [List.map_set]
  exact t_OB.to (V := updV (vp_V (fs.map (cv B))) k (cv B (ar v))) ⟨_, e1, q2, q3, t_set q4 hap hk (cv B (ar v))⟩ (fun j _ => vp_updV_set (by simpa using hkl) (cv B (ar v)) j)
theorem aw_iaload {a n : Nat} {i : Int} {f : Nat → Int} (ha : M a = some (ci_ n f)) (hi : 0 ≤ i ∧ i < (n : Int) ∧ n ≤ 2147483648) (hd : decode cc pc = .ok (.iaload, 1)) (K : AW R y cc nL ret X E cells slots nx (pc + 1) ls (.inl (f i.toNat) :: t) M) : AW R y cc nL ret X E cells slots nx pc ls (.inl i :: ar a :: t) M := by
  intro p l e s m args below meth c0 D cI cS B C hX H locs lsA hH hz hS hl
  obtain ⟨h1, h2⟩ := z_i hi.2.2 hi.1 hi.2.1
  refine va_iald (ws := [(B + a, ce_v B cI cS (ci_ n f))]) C.1 C.2.1 C.ev.1 (hH.one ha) 0 0 (f := fun j => Int32.ofInt (f j)) rfl rfl h1 hd ?_
  rw [h2]
  exact K p l e s m args below meth c0 D cI cS B C hX H locs lsA hH hz hS hl
theorem aw_aaload {a n : Nat} {i : Int} {g : Nat → Option Nat} (ha : M a = some (cr_ n g)) (hi : 0 ≤ i ∧ i < (n : Int) ∧ n ≤ 2147483648) (hd : decode cc pc = .ok (.aaload, 1)) (K : AW R y cc nL ret X E cells slots nx (pc + 1) ls (.inr (.inr (.inl (g i.toNat))) :: t) M) : AW R y cc nL ret X E cells slots nx pc ls (.inl i :: ar a :: t) M := by
  intro p l e s m args below meth c0 D cI cS B C hX H locs lsA hH hz hS hl
  obtain ⟨h1, h2⟩ := z_i hi.2.2 hi.1 hi.2.1
  refine va_aldq (ws := [(B + a, ce_v B cI cS (cr_ n g))]) C.1 C.2.1 C.ev.1 (hH.one ha) 0 1 (C := RX5) (f := fun j => (g j).map (fun k => B + k)) rfl rfl h1 hd ?_
  rw [h2]
  have k := K p l e s m args below meth c0 D cI cS B C hX H locs lsA hH hz hS hl
  have e : va_rf ((g i.toNat).map (fun k => B + k)) = cv B (.inr (.inr (.inl (g i.toNat)))) := by cases g i.toNat <;> rfl
  rw [e]
  exact k
theorem aw_iastore {a n : Nat} {i x : Int} {f : Nat → Int} (ha : M a = some (ci_ n f)) (hi : 0 ≤ i ∧ i < (n : Int) ∧ n ≤ 2147483648) (hd : decode cc pc = .ok (.iastore, 1)) (K : AW R y cc nL ret X E cells slots nx (pc + 1) ls t (mu M a (ci_ n (fu f i.toNat x)))) : AW R y cc nL ret X E cells slots nx pc ls (.inl x :: .inl i :: ar a :: t) M := by
  intro p l e s m args below meth c0 D cI cS B C hX H locs lsA hH hz hS hl
  obtain ⟨h1, h2⟩ := z_i hi.2.2 hi.1 hi.2.1
  refine W.iast C.1 C.2.1 (hH a _ ha) ((C.ev.1.2 0 _ rfl).1 n (fun j => .int (Int32.ofInt (f j)))) (fun q => by cases q) (by show ¬ (_ < 0 ∨ (arrV _ _ _).slots.size ≤ _); rw [arrV_size]; exact h1) rfl rfl hd fun H1 e1 z oq => ?_
  refine K p l e s m args below meth c0 D cI cS B C hX H1 _ lsA (hH.set ?_ oq) (by rw [z]; exact hz) (hS.put z oq (Nat.le_add_right _ _)) hl
  show H1[B + a]? = some (vp_cell cI (n, .inl (fun j => Int32.ofInt (fu f i.toNat x j))))
  rw [e1, h2]
  show some ((vp_cell cI (n, .inl (fun j => Int32.ofInt (f j)))).setSlot _ _) = _
  rw [vp_cell_i, vp_cell_i, arrV_store]
  congr 2
  funext q
  by_cases hq : q = i.toNat
  · subst hq; simp [updV, fu]
  · simp [updV, fu, hq]
theorem aw_alen {a n : Nat} (ha : (∃ g, M a = some (ci_ n g)) ∨ ∃ g, M a = some (cr_ n g)) (hd : decode cc pc = .ok (.arraylength, 1)) (K : AW R y cc nL ret X E cells slots nx (pc + 1) ls (.inl (n : Int) :: t) M) : AW R y cc nL ret X E cells slots nx pc ls (ar a :: t) M := by
  intro p l e s m args below meth c0 D cI cS B C hX H locs lsA hH hz hS hl
  rcases ha with ⟨g, ha⟩ | ⟨g, ha⟩
  · exact va_alen (ws := [(B + a, ce_v B cI cS (ci_ n g))]) C.1 C.2.1 C.ev.1 (hH.one ha) 0 0 rfl rfl (Int32.ofInt_eq_ofNat).symm hd (K p l e s m args below meth c0 D cI cS B C hX H locs lsA hH hz hS hl)
  · exact va_alen (ws := [(B + a, ce_v B cI cS (cr_ n g))]) C.1 C.2.1 C.ev.1 (hH.one ha) 0 1 rfl rfl (Int32.ofInt_eq_ofNat).symm hd (K p l e s m args below meth c0 D cI cS B C hX H locs lsA hH hz hS hl)
def sxOk (X : Nat → State → Prop) (sx : Nat → Option (Nat × (Nat → Int))) : Prop := ∀ (B : Nat) (s : State), X B s → ∀ (b n : Nat) (f : Nat → Int), sx b = some (n, f) → va_X b n (fun j => Int32.ofInt (f j)) s s.heap ∧ b < B
theorem aw_xlen {sx : Nat → Option (Nat × (Nat → Int))} {b n : Nat} {f : Nat → Int} (hx : sxOk X sx) (hb : sx b = some (n, f)) (hd : decode cc pc = .ok (.arraylength, 1)) (K : AW R y cc nL ret X E cells slots nx (pc + 1) ls (.inl (n : Int) :: t) M) : AW R y cc nL ret X E cells slots nx pc ls (ax b :: t) M := by
  intro p l e s m args below meth c0 D cI cS B C hX H locs lsA hH hz hS hl
  obtain ⟨h1, h2⟩ := hx B s hX b n f hb
  refine va_slen C.1 C.2.1 h1 (Nat.lt_of_lt_of_le h2 C.ev.2.2.2) (Nat.not_le.mpr h2) hS hd ?_
  have k := K p l e s m args below meth c0 D cI cS B C hX H locs lsA hH hz hS hl
  rw [show (Int32.ofNat n) = Int32.ofInt (n : Int) from (Int32.ofInt_eq_ofNat).symm]
  exact k
theorem aw_xald {sx : Nat → Option (Nat × (Nat → Int))} {b n : Nat} {i : Int} {f : Nat → Int} (hx : sxOk X sx) (hb : sx b = some (n, f)) (hi : 0 ≤ i ∧ i < (n : Int) ∧ n ≤ 2147483648) (hd : decode cc pc = .ok (.iaload, 1)) (K : AW R y cc nL ret X E cells slots nx (pc + 1) ls (.inl (f i.toNat) :: t) M) : AW R y cc nL ret X E cells slots nx pc ls (.inl i :: ax b :: t) M := by
  intro p l e s m args below meth c0 D cI cS B C hX H locs lsA hH hz hS hl
  obtain ⟨h1, h2⟩ := hx B s hX b n f hb
  obtain ⟨g1, g2⟩ := z_i hi.2.2 hi.1 hi.2.1
  refine va_sld C.1 C.2.1 h1 (Nat.lt_of_lt_of_le h2 C.ev.2.2.2) (Nat.not_le.mpr h2) hS g1 hd ?_
  rw [g2]
  exact K p l e s m args below meth c0 D cI cS B C hX H locs lsA hH hz hS hl
theorem tsw_at {x : Int} {K : Nat → Prop} {pc : Nat} : ∀ (os : List Int) (k : Int), tsw x K pc os k → ∀ (j : Nat) (o : Int), os[j]? = some o → x = k + (j : Int) → K (jt pc o)
  | [], _, _, j, o, h, _ => by simp at h
  | q :: t, k, h, j, o, hj, hx => by
    cases j with
    | zero => simp at hj; subst hj; exact h.1 (by omega)
    | succ j => exact tsw_at t (k + 1) h.2 j o (by simpa using hj) (by omega)
theorem aw_tsw {x d lo hi : Int} {offs : Array Int} {n : Nat} (hx : inR x) (hn : lo + offs.toList.length = hi + 1) (hl0 : lenOk (.tableswitch d lo hi offs) n pc = true) (hd : decode cc pc = .ok (.tableswitch d lo hi offs, n)) (K0 : x < lo ∨ hi < x → AW R y cc nL ret X E cells slots nx (jt pc d) ls t M) (K1 : tsw x (fun q => AW R y cc nL ret X E cells slots nx q ls t M) pc offs.toList lo) : AW R y cc nL ret X E cells slots nx pc ls (.inl x :: t) M := by
  intro p l e s m args below meth c0 D cI cS B C hX H locs lsA hH hz hS hl
  simp only [lenOk, Bool.and_eq_true, decide_eq_true_eq, List.all_eq_true] at hl0
  by_cases ho : x < lo ∨ hi < x
  · exact lv_tableOut C.1 C.2.1 hd (by rw [z_t hx]; exact ho) (tgt := jt pc d) (by unfold jt; omega) (K0 ho p l e s m args below meth c0 D cI cS B C hX H locs lsA hH hz hS hl)
  · have hj : (x - lo).toNat < offs.toList.length := by omega
    have hg : offs.toList[(x - lo).toNat]? = some (offs.toList[(x - lo).toNat]) := List.getElem?_eq_getElem hj
    have hp := hl0.2 _ (List.mem_of_getElem? hg)
    have k := tsw_at _ _ K1 _ _ hg (by omega)
    refine lv_tableIn C.1 C.2.1 hd (by rw [z_t hx]; omega) (by rw [z_t hx]; omega) (off := offs.toList[(x - lo).toNat]) (by rw [z_t hx, ← Array.getElem?_toList]; exact hg) (tgt := jt pc (offs.toList[(x - lo).toNat])) (by unfold jt; omega) (k p l e s m args below meth c0 D cI cS B C hX H locs lsA hH hz hS hl)
theorem lsw_at {x : Int} {K : Nat → Prop} {pc : Nat} {d : Int} : ∀ (ps : List (Int × Int)), lsw x K pc d ps → (0 ≤ (pc : Int) + d) → (∀ q ∈ ps, 0 ≤ (pc : Int) + q.2) → ∃ off, Op.lookupswitch.offset ps d x = off ∧ 0 ≤ (pc : Int) + off ∧ K (jt pc off)
  | [], h, h0, _ => ⟨d, rfl, h0, h⟩
  | (k, o) :: t, h, h0, h1 => by
    by_cases hk : x = k
    · refine ⟨o, ?_, h1 (k, o) (by simp), h.1 hk⟩
      rw [Op.lookupswitch.offset_cons, if_pos hk.symm]
    · obtain ⟨off, e1, e2, e3⟩ := lsw_at t (h.2 hk) h0 (fun q hq => h1 q (by simp [hq]))
      exact ⟨off, by rw [Op.lookupswitch.offset_cons, if_neg (fun q => hk q.symm)]; exact e1, e2, e3⟩
theorem aw_lsw {x d : Int} {ps : Array (Int × Int)} {n : Nat} (hx : inR x) (hp : (ps.toList.zip (ps.toList.drop 1)).all (fun (a, next) => a.1 < next.1) = true) (hl0 : lenOk (.lookupswitch d ps) n pc = true) (hd : decode cc pc = .ok (.lookupswitch d ps, n)) (K1 : lsw x (fun q => AW R y cc nL ret X E cells slots nx q ls t M) pc d ps.toList) : AW R y cc nL ret X E cells slots nx pc ls (.inl x :: t) M := by
  intro p l e s m args below meth c0 D cI cS B C hX H locs lsA hH hz hS hl
  simp only [lenOk, Bool.and_eq_true, decide_eq_true_eq, List.all_eq_true] at hl0
  obtain ⟨off, e1, e2, k⟩ := lsw_at _ K1 hl0.1 hl0.2
  exact lv_lookup C.1 C.2.1 hd hp (off := off) (by rw [z_t hx]; exact e1) (tgt := jt pc off) (by unfold jt; omega) (k p l e s m args below meth c0 D cI cS B C hX H locs lsA hH hz hS hl)
theorem aw_ldcw {k : Nat} {z : Int} (hg : gI y.cls k = some z) (hd : decode cc pc = .ok (.ldc_w k, 3)) (K : AW R y cc nL ret X E cells slots nx (pc + 3) ls (.inl z :: st) M) : AW R y cc nL ret X E cells slots nx pc ls st M := by
  intro p l e s m args below meth c D cI cS B C hX H locs lsA hH hz hS hl
  exact lv_ldcw C.1 C.2.1 C.ow (C.wd _ (gI_ok hg)) hd (K p l e s m args below meth c D cI cS B C hX H locs lsA hH hz hS hl)
def rty (bz : Nat) : Option FieldType := match bz with
  | 0 => none
  | 1 => some .int
  | _ => some .boolean
theorem aw_ireturn {mc ms bz : Nat} {Q : Option AV → Nat → Mem → Prop} {z : Int} (hr : ret = rty bz) (hb : bz = 1 ∨ (bz = 2 ∧ (z = 0 ∨ z = 1))) (hc : cells ≤ mc) (hs : slots ≤ ms) (hd : decode cc pc = .ok (.ireturn, 1)) (hQ : Q (some (.inl z)) nx M) : AW R y cc nL ret X (pp_E mc ms Q) cells slots nx pc ls [.inl z] M := by
  intro p l e s m args below meth c0 D cI cS B C hX H locs lsA hH hz hS hl
  refine W.widen hc hs ?_
  have q0 : ∀ t : State, t.heap = H → s.WarmedH t.vm → pp_Qc D cI cS B Q args s (.returned (some (.int (Int32.ofInt z)))) t := fun t ht _ => ⟨some (.inl z), nx, M, rfl, hQ, by rw [ht]; exact hH, by rw [ht]; exact hz, by rw [ht]; exact hS.1, fun q hq => by rw [ht]; exact hS.2.1 q (Nat.lt_of_lt_of_le hq C.ev.2.2.2) (Nat.not_le.mpr hq)⟩
  rcases hb with rfl | ⟨rfl, h01⟩
  · exact W.zret (ty := .int) C.1 C.2.1 (C.2.2.1.trans hr) rfl q0 hS.2.2 hd C.lk
  · exact W.zret (ty := .boolean) C.1 C.2.1 (C.2.2.1.trans hr) (by rcases h01 with rfl | rfl <;> rfl) q0 hS.2.2 hd C.lk
theorem aw_return {mc ms : Nat} {Q : Option AV → Nat → Mem → Prop} (hr : ret = none) (hc : cells ≤ mc) (hs : slots ≤ ms) (hd : decode cc pc = .ok (.return_, 1)) (hQ : Q none nx M) : AW R y cc nL ret X (pp_E mc ms Q) cells slots nx pc ls [] M := by
  intro p l e s m args below meth c0 D cI cS B C hX H locs lsA hH hz hS hl
  refine W.widen hc hs ?_
  exact W.vret C.1 C.2.1 (C.2.2.1.trans hr) (fun t ht _ => ⟨none, nx, M, rfl, hQ, by rw [ht]; exact hH, by rw [ht]; exact hz, by rw [ht]; exact hS.1, fun q hq => by rw [ht]; exact hS.2.1 q (Nat.lt_of_lt_of_le hq C.ev.2.2.2) (Nat.not_le.mpr hq)⟩) hS.2.2 hd C.lk
end AWm
