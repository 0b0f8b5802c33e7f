/-! a method's start and end; calls -/
theorem endM {R : Room} {y : MethodName} {cc : ByteArray} {nL : Nat} {ret : Option FieldType} {X : Nat → State → Prop} {mc ms cells slots nx bz : Nat} {Q : Option AV → Nat → Mem → Prop} (hr : ret = rty bz) (hc : cells ≤ mc) (hs : slots ≤ ms) : endOk R y cc nL ret X (pp_E mc ms Q) cells slots nx bz (fun r M => Q r nx M) :=
  ⟨fun _ _ _ _ hd hb hQ => aw_ireturn hr hb hc hs hd hQ, fun _ _ _ hd hb hQ => by subst hb; exact aw_return hr hc hs hd hQ⟩
def noX : Nat → State → Prop := fun _ _ => True
def sx0 : Nat → Option (Nat × (Nat → Int)) := fun _ => none
theorem sx0_ok {X : Nat → State → Prop} : sxOk X sx0 := fun _ _ _ _ _ _ h => by cases h
def lsv (v : AV) : List (Option AV) := match v with
  | .inr (.inl z) => [some (.inr (.inl z)), none]
  | v => [some v]
def lsF (av : List AV) : List (Option AV) := av.flatMap lsv
def lsOf (nL : Nat) (av : List AV) : List (Option AV) := lsF av ++ List.replicate (nL - (lsF av).length) none
theorem lsF_len (B : Nat) (av : List AV) : (lg_sl (av.map (cv B))).length = (lsF av).length := by
  induction av with
  | nil => rfl
  | cons v t ih =>
    have e1 : lg_sl ((v :: t).map (cv B)) = (if (cv B v).category = 2 then [Slot.val (cv B v), .second] else [.val (cv B v)]) ++ lg_sl (t.map (cv B)) := rfl
    rw [e1]
    match v with
    | .inl z => simp [lsF, lsv, cv, Value.category] at ih ⊢; omega
    | .inr (.inl z) => simp [lsF, lsv, cv, Value.category] at ih ⊢; omega
    | .inr (.inr (.inl (some z))) => simp [lsF, lsv, cv, Value.category] at ih ⊢; omega
    | .inr (.inr (.inl none)) => simp [lsF, lsv, cv, Value.category] at ih ⊢; omega
    | .inr (.inr (.inr z)) => simp [lsF, lsv, cv, Value.category] at ih ⊢; omega
theorem lsF_in (B : Nat) : ∀ (av : List AV) (k i : Nat) (v : AV), (lsF av)[i]? = some (some v) → (k + i, cv B v) ∈ lv_args k (av.map (cv B))
  | [], _, i, _, h => by simp [lsF] at h
  | w :: t, k, i, v, h => by
    have e0 : lsF (w :: t) = lsv w ++ lsF t := rfl
    rw [e0] at h
    have e1 : lv_args k ((w :: t).map (cv B)) = (k, cv B w) :: lv_args (if (cv B w).category = 2 then k + 2 else k + 1) (t.map (cv B)) := rfl
    rw [e1]
    by_cases hw : isLg w
    · rw [if_pos ((cv_cat B w).mpr hw)]
      match w, hw with
      | .inr (.inl z), _ =>
        match i, h with
        | 0, h => simp [lsv] at h; subst h; simp
        | 1, h => simp [lsv] at h
        | i + 2, h =>
          have := lsF_in B t (k + 2) i v (by simpa [lsv] using h)
          rw [show k + 2 + i = k + (i + 2) by omega] at this
          exact List.mem_cons_of_mem _ this
    · rw [if_neg (fun q => hw ((cv_cat B w).mp q))]
      have e2 : lsv w = [some w] := by
        match w, hw with
        | .inl z, _ => rfl
        | .inr (.inr z), _ => rfl
        | .inr (.inl z), hw => exact absurd trivial hw
      rw [e2] at h
      match i, h with
      | 0, h => simp at h; subst h; simp
      | i + 1, h =>
        have := lsF_in B t (k + 1) i v (by simpa using h)
        rw [show k + 1 + i = k + (i + 1) by omega] at this
        exact List.mem_cons_of_mem _ this
theorem LH.entry {B nL : Nat} {av : List AV} (hn : (lsF av).length ≤ nL) : LH B ((lg_sl (av.map (cv B)) ++ List.replicate (nL - (lg_sl (av.map (cv B))).length) Slot.unset).toArray) nL (lsOf nL av) := by
  have h := lv_entry (av.map (cv B)) (n := nL) (by rw [lsF_len]; exact hn)
  refine ⟨h.1, h.2.1, by simp [lsOf]; omega, fun i v hi => ?_⟩
  have hi2 : (lsF av)[i]? = some (some v) := by
    unfold lsOf at hi
    by_cases hl : i < (lsF av).length
    · rwa [List.getElem?_append_left hl] at hi
    · rw [List.getElem?_append_right (by omega), List.getElem?_replicate] at hi
      split at hi <;> simp at hi
  have := lsF_in B av 0 i v hi2
  simpa using h.2.2 _ this
theorem RetP.of {d mc ms : Nat} {y : MethodName} {cc : ByteArray} {nL : Nat} {ret : Option FieldType} {av : List AV} {nx : Nat} {M : Mem} {Q : Option AV → Nat → Mem → Prop} (hy : plainName y.cls = true) (hn : (lsF av).length ≤ nL) (h : AW (rp d mc ms) y cc nL ret noX (pp_E mc ms Q) 0 0 nx 0 (lsOf nL av) [] M) : RetP d mc ms y cc nL ret av nx M Q := by
  intro l D cI cS B
  refine Met.ofW (cc := cc) (maxL := nL) (ret := ret) hy rfl ?_
  intro p e s m args below meth c s₁ Bd hml hv
  obtain ⟨rfl, hev, hz, hH⟩ := hv
  have hts := atoms_spec (ws := .code y cc nL ret :: gw) Bd.pre
  have C : pp_C p s m ((av.map (cv B)).toArray) meth c y cc nL ret D cI cS B := ⟨Bd.exec, Bd.bytes, Bd.returns, hml, findClass_of_methodNamed Bd.named, fun w hw => hts w (List.mem_cons_of_mem _ hw), Bd.notSynchronized, fun hi => (name_of_methodNamed Bd.named Bd.method).1.trans hi, hev⟩
  rw [lg_entry_eq]
  exact h p l e s m _ below meth c D cI cS B C trivial s.heap [] _ hH hz va_S.rf (LH.entry hn)
theorem nws_w {w : Cond} (h : w ∈ nws) : ∃ a i x q, w = .methodLinkNest a i x q := by
  have := (List.mem_filter.mp h).2
  cases w <;> simp [isNest] at this
  exact ⟨_, _, _, _, rfl⟩
theorem pp_Ev.warm {D : va_G} {cI cS : ClassId} {B : Nat} {s U : State} (h : pp_Ev D cI cS B s) (hW : s.WarmedH U.vm) (hz : B ≤ U.heap.size) : pp_Ev D cI cS B U :=
  ⟨va_K.moved hW.alike h.1, fun w hw => by obtain ⟨a, i, x, q, rfl⟩ := nws_w hw; exact (h.2.1 _ hw).warmM hW, va_AO.moved hW.alike h.2.2.1, hz⟩
theorem pp_Ev.call {D : va_G} {cI cS : ClassId} {B : Nat} {U : State} {g : JFrame} {mk : MethodId} {a : Array Value} (h : pp_Ev D cI cS B U) : pp_Ev D cI cS B (U.calling g mk a) :=
  ⟨va_K.moved (Vm.Alike.refl U.vm) h.1, fun w hw => by obtain ⟨a, i, x, q, rfl⟩ := nws_w hw; exact va_Nw.same rfl (rfl : U.vm = (U.calling g mk _).vm) (h.2.1 _ hw), va_AO.moved (Vm.Alike.refl U.vm) h.2.2.1, h.2.2.2⟩
def acat (v : AV) : Nat := match v with
  | .inr (.inl _) => 2
  | _ => 1
theorem acat_ok (B : Nat) (v : AV) : (cv B v).category = acat v := by
  match v with
  | .inl z => rfl
  | .inr (.inl z) => rfl
  | .inr (.inr (.inl (some z))) => rfl
  | .inr (.inr (.inl none)) => rfl
  | .inr (.inr (.inr z)) => rfl
theorem acat_sum {B : Nat} {l : List AV} (h : (l.map acat).sum ≤ 8) : ((l.map (cv B)).map fun v => v.category).sum ≤ 8 := by
  rw [List.map_map, show ((fun v : Value => v.category) ∘ cv B) = acat from funext (acat_ok B)]; exact h
def okD (y : MethodName) (n : Nat) : Prop := y.cls ≠ "java/lang/invoke/MethodHandle" ∧ y.cls ≠ "java/lang/invoke/VarHandle" ∧ (parseMethodDescriptor y.desc).map (fun d => d.parameters.length) = some n
def VL (own : String) (idx : Nat) (y : MethodName) (cc : ByteArray) (nL : Nat) (ret : Option FieldType) (n : Nat) : Prop := (Cond.methodLink own idx y ∈ gw ∧ Cond.initialized y.cls ∈ gw ∧ Cond.code y cc nL ret ∈ gw ∧ okD y n) ∧ Cond.instanceMethod y ∈ gw ∧ Cond.selects y.cls y y ∈ gw
def SL (own : String) (idx : Nat) (y : MethodName) (cc : ByteArray) (nL : Nat) (ret : Option FieldType) (n : Nat) : Prop := (Cond.methodLink own idx y ∈ gw ∧ Cond.initialized y.cls ∈ gw ∧ Cond.code y cc nL ret ∈ gw ∧ okD y n) ∧ Cond.static y ∈ gw
def IL (own : String) (idx : Nat) (y : MethodName) (cc : ByteArray) (nL : Nat) (n : Nat) : Prop := (Cond.methodLink own idx y ∈ gw ∧ Cond.initialized y.cls ∈ gw ∧ Cond.code y cc nL none ∈ gw ∧ okD y n) ∧ y.name = "<init>" ∧ Cond.instanceMethod y ∈ gw
def INL (own : String) (idx : Nat) (y : MethodName) (cc : ByteArray) (nL : Nat) (n : Nat) : Prop := (Cond.methodLinkNest own idx y "PennyPlanks" ∈ nws ∧ Cond.initialized y.cls ∈ gw ∧ Cond.code y cc nL none ∈ gw ∧ okD y n) ∧ y.name = "<init>" ∧ Cond.instanceMethod y ∈ gw
def SNL (own : String) (idx : Nat) (y : MethodName) (cc : ByteArray) (nL : Nat) (ret : Option FieldType) (n : Nat) : Prop := (Cond.methodLinkNest own idx y "PennyPlanks" ∈ nws ∧ Cond.initialized y.cls ∈ gw ∧ Cond.code y cc nL ret ∈ gw ∧ okD y n) ∧ Cond.static y ∈ gw
theorem gw_call {y : MethodName} {cc : ByteArray} {nL : Nat} {ret : Option FieldType} (h : Cond.code y cc nL ret ∈ gw) : GoodIn gw (.code y cc nL ret :: gw) := fun w hw => by
  rcases List.mem_cons.mp hw with rfl | hw
  · exact ⟨h, good_of_word (gw_good h)⟩
  · exact ⟨hw, good_of_word (gw_good hw)⟩
section AWc
variable {R : Room} {y y' : MethodName} {cc cc' : ByteArray} {nL nL' : Nat} {ret ret' : Option FieldType} {X : Nat → State → Prop} {E : ETy} {cells slots nx pc : Nat} {ls : List (Option AV)} {st As rest : List AV} {M : Mem} {idx b ci d' mc' ms' : Nat} {fs : List AV} {Q' : Option AV → Nat → Mem → Prop}
theorem aw_run {p : Program} {l : Launch} {e : Env} {s : State} {m : MethodId} {args : Array Value} {below : List Frame} {meth : Method} {c : Code} {D : va_G} {cI cS : ClassId} {B : Nat} {H : Heap} {locs : List Loc} {lsA : Array Slot} {st0 : List Value} {a : Array Value} {Z : State → Prop} (hB : B ≤ s.heap.size)
    (hr : va_Run p l e R s m args below meth c H locs cells slots mc' ms' (F0 m pc lsA st0) (rest.map (cv B)) (pp_Qc D cI cS B Q' a) (fun q => B ≤ q)) (hS : va_S (fun q => B ≤ q) s.heap H locs)
    (kk : ∀ (r : Option AV) (nx' : Nat) (M' : Mem) (H1 : Heap) (locs1 : List Loc), Q' r nx' M' → hP D cI cS B M' H1 → H1.size = B + nx' → va_S (fun q => B ≤ q) s.heap H1 locs1 → W p l e R s m args below meth c H1 locs1 (cells + mc') (slots + ms') Z (F0 m (pc + 3) lsA ((r.toList ++ rest).map (cv B)))) : W p l e R s m args below meth c H locs cells slots Z (F0 m pc lsA st0) := by
  intro T hT XX
  obtain ⟨v, st₀, t, T', L, h0, X', hL, e1, e2, ⟨r, nx', M', hv, hQ, hP', hz, hge, hk⟩, stp⟩ := hr T hT XX
  have hv' : v = r.map (cv B) := by cases hv; rfl
  obtain ⟨t2, a1, b1⟩ := kk r nx' M' T'.heap (locs ++ L) hQ (by rw [e1]; exact hP') (by rw [e1]; exact hz) ⟨Nat.le_trans hS.1 (by rw [e1, ← h0]; exact hge), fun q h1 h2 => by rw [e1, hk q (Nat.not_le.mp h2), h0]; exact hS.2.1 q h1 h2, fun q hq => by
      rcases List.mem_append.mp hq with h | h
      · exact hS.2.2 q h
      · exact hL q h⟩ T' rfl X'
  refine ⟨t2, stp t2 ?_, b1⟩
  rw [hv']
  have es : (r.map (cv B)).toList ++ rest.map (cv B) = (r.toList ++ rest).map (cv B) := by cases r <;> simp
  rw [es]
  exact a1
theorem pre_ok {s : State} {D : va_G} {cI cS : ClassId} {B : Nat} {H : Heap} {av : List AV} (hev : pp_Ev D cI cS B s) (hH : hP D cI cS B M H) (hz : H.size = B + nx) : PreS s H (va_Pc (av.map (cv B)) (fun U => pp_Ev D cI cS B U ∧ U.heap.size = B + nx ∧ hP D cI cS B M U.heap)) (av.map (cv B)) :=
  ⟨fun a U g mk q => ⟨q.1, q.2.1.call, q.2.2.1, q.2.2.2⟩, fun U hU hW => ⟨rfl, hev.warm hW (by rw [hU, hz]; omega), by rw [hU]; exact hz, by rw [hU]; exact hH⟩⟩
theorem aw_V (L : VL y.cls idx y' cc' nL' ret' As.length) (hM : RetP d' mc' ms' y' cc' nL' ret' (ar b :: As) nx M Q') (hb : M b = some (co_ ci fs)) (hcn : (pp_cls[ci]?).map (fun q => q.1) = some y'.cls) (hst : st = As.reverse ++ ar b :: rest) (hw : (rest.map acat).sum ≤ 8) (hr : d' + 1 ≤ R.frames ∧ 19 + nL' + 40 * d' ≤ R.locals) (hf : cells + mc' ≤ R.cells ∧ slots + ms' ≤ R.slots) (hd : fet cc pc = some (.invokevirtual idx))
    (K : ∀ (r : Option AV) (nx' : Nat) (M' : Mem), Q' r nx' M' → AW R y cc nL ret X E (cells + mc') (slots + ms') nx' (pc + 3) ls (r.toList ++ rest) M') : AW R y cc nL ret X E cells slots nx pc ls st M := by
  intro p l e s m args below meth c D cI cS B C hX H locs lsA hH hz hS hl
  obtain ⟨n0, hd, hl0⟩ := fet_d hd
  simp only [lenOk, beq_iff_eq] at hl0
  subst hl0
  obtain ⟨⟨L1, L2, L3, L4⟩, L5, L6⟩ := L
  rw [Option.map_eq_some_iff] at hcn
  obtain ⟨⟨C', T', N'⟩, hc, hcn⟩ := hcn
  have cb : CallB R s args y.cls idx y' cc' nL' ret' (.code y' cc' nL' ret' :: gw) (rp d' mc' ms') mc' ms' As.length := callB_of As.length C.wd (gw_call L3) rfl rfl rfl (C.wd _ L2) (C.wd _ L1) L4 ⟨hr.1, by show 8 + (nL' + 11) + 40 * d' ≤ _; omega⟩
  have rc := va_recv C.ev.1 (hH.one hb) (ci := ci) (q0 := 0) hc rfl
  have pr := pre_ok (av := ar b :: As) C.ev hH hz
  refine aw_run (rest := rest) C.ev.2.2.2 (va_runV (As := As.map (cv B)) (b := B + b) (C := y'.cls) ⟨C.1, C.2.1, C.2.2.2.1, C.ow, C.wd⟩ (hM l D cI cS B) ⟨cb, C.wd _ L5, C.wd _ L6⟩ ⟨pr.1, by rw [← hcn]; exact rc, pr.2⟩ rfl (by simp) hl.1 ?_ (lv_room (acat_sum hw)) hd hf) hS (fun r nx' M' H1 locs1 hq hP1 hz1 hS1 => K r nx' M' hq p l e s m args below meth c D cI cS B C hX H1 locs1 lsA hP1 hz1 hS1 hl)
  subst hst
  simp [List.map_append, List.map_reverse, cv]
theorem aw_S (L : SL y.cls idx y' cc' nL' ret' As.length) (hM : RetP d' mc' ms' y' cc' nL' ret' As nx M Q') (hst : st = As.reverse ++ rest) (hw : (rest.map acat).sum ≤ 8) (hr : d' + 1 ≤ R.frames ∧ 19 + nL' + 40 * d' ≤ R.locals) (hf : cells + mc' ≤ R.cells ∧ slots + ms' ≤ R.slots) (hd : fet cc pc = some (.invokestatic idx))
    (K : ∀ (r : Option AV) (nx' : Nat) (M' : Mem), Q' r nx' M' → AW R y cc nL ret X E (cells + mc') (slots + ms') nx' (pc + 3) ls (r.toList ++ rest) M') : AW R y cc nL ret X E cells slots nx pc ls st M := by
  intro p l e s m args below meth c D cI cS B C hX H locs lsA hH hz hS hl
  obtain ⟨n0, hd, hl0⟩ := fet_d hd
  simp only [lenOk, beq_iff_eq] at hl0
  subst hl0
  obtain ⟨⟨L1, L2, L3, L4⟩, L5⟩ := L
  have cb : CallB R s args y.cls idx y' cc' nL' ret' (.code y' cc' nL' ret' :: gw) (rp d' mc' ms') mc' ms' As.length := callB_of As.length C.wd (gw_call L3) rfl rfl rfl (C.wd _ L2) (C.wd _ L1) L4 ⟨hr.1, by show 8 + (nL' + 11) + 40 * d' ≤ _; omega⟩
  refine aw_run (rest := rest) C.ev.2.2.2 (va_runS (As := As.map (cv B)) ⟨C.1, C.2.1, C.2.2.2.1, C.ow, C.wd⟩ (hM l D cI cS B) ⟨cb, C.wd _ L5⟩ (pre_ok C.ev hH hz) rfl (by simp) hl.1 ?_ (lv_room (acat_sum hw)) hd hf) hS (fun r nx' M' H1 locs1 hq hP1 hz1 hS1 => K r nx' M' hq p l e s m args below meth c D cI cS B C hX H1 locs1 lsA hP1 hz1 hS1 hl)
  subst hst
  simp [List.map_append, List.map_reverse]
theorem aw_SN (L : SNL y.cls idx y' cc' nL' ret' As.length) (hM : RetP d' mc' ms' y' cc' nL' ret' As nx M Q') (hst : st = As.reverse ++ rest) (hw : (rest.map acat).sum ≤ 8) (hr : d' + 1 ≤ R.frames ∧ 19 + nL' + 40 * d' ≤ R.locals) (hf : cells + mc' ≤ R.cells ∧ slots + ms' ≤ R.slots) (hd : fet cc pc = some (.invokestatic idx))
    (K : ∀ (r : Option AV) (nx' : Nat) (M' : Mem), Q' r nx' M' → AW R y cc nL ret X E (cells + mc') (slots + ms') nx' (pc + 3) ls (r.toList ++ rest) M') : AW R y cc nL ret X E cells slots nx pc ls st M := by
  intro p l e s m args below meth c D cI cS B C hX H locs lsA hH hz hS hl
  obtain ⟨n0, hd, hl0⟩ := fet_d hd
  simp only [lenOk, beq_iff_eq] at hl0
  subst hl0
  obtain ⟨⟨L1, L2, L3, L4⟩, L5⟩ := L
  have cb := va_cnB (R := R) (s := s) (args := args) (rm := rp d' mc' ms') (mc := mc') (ms := ms') As.length C.wd (gw_call L3) rfl rfl rfl (C.ev.2.1 _ L1) (C.wd _ L2) L4 ⟨hr.1, by show 8 + (nL' + 11) + 40 * d' ≤ _; omega⟩
  refine aw_run (rest := rest) C.ev.2.2.2 (va_runSN (As := As.map (cv B)) ⟨C.1, C.2.1, C.2.2.2.1, C.ow, C.wd⟩ (hM l D cI cS B) ⟨cb, C.wd _ L5, trivial⟩ (pre_ok C.ev hH hz) rfl (by simp) hl.1 ?_ (lv_room (acat_sum hw)) hd hf) hS (fun r nx' M' H1 locs1 hq hP1 hz1 hS1 => K r nx' M' hq p l e s m args below meth c D cI cS B C hX H1 locs1 lsA hP1 hz1 hS1 hl)
  subst hst
  simp [List.map_append, List.map_reverse]
theorem aw_I (L : IL y.cls idx y' cc' nL' As.length) (hM : RetP d' mc' ms' y' cc' nL' none (ar b :: As) nx M Q') (hst : st = As.reverse ++ ar b :: rest) (hw : (rest.map acat).sum ≤ 8) (hr : d' + 1 ≤ R.frames ∧ 19 + nL' + 40 * d' ≤ R.locals) (hf : cells + mc' ≤ R.cells ∧ slots + ms' ≤ R.slots) (hd : fet cc pc = some (.invokespecial idx))
    (K : ∀ (r : Option AV) (nx' : Nat) (M' : Mem), Q' r nx' M' → AW R y cc nL ret X E (cells + mc') (slots + ms') nx' (pc + 3) ls (r.toList ++ rest) M') : AW R y cc nL ret X E cells slots nx pc ls st M := by
  intro p l e s m args below meth c D cI cS B C hX H locs lsA hH hz hS hl
  obtain ⟨n0, hd, hl0⟩ := fet_d hd
  simp only [lenOk, beq_iff_eq] at hl0
  subst hl0
  obtain ⟨⟨L1, L2, L3, L4⟩, L5, L6⟩ := L
  have cb : CallB R s args y.cls idx y' cc' nL' none (.code y' cc' nL' none :: gw) (rp d' mc' ms') mc' ms' As.length := callB_of As.length C.wd (gw_call L3) rfl rfl rfl (C.wd _ L2) (C.wd _ L1) L4 ⟨hr.1, by show 8 + (nL' + 11) + 40 * d' ≤ _; omega⟩
  refine aw_run (rest := rest) C.ev.2.2.2 (va_runI (As := As.map (cv B)) (b := B + b) ⟨C.1, C.2.1, C.2.2.2.1, C.ow, C.wd⟩ (hM l D cI cS B) ⟨cb, L5, C.wd _ L6⟩ (pre_ok (av := ar b :: As) C.ev hH hz) rfl (by simp) hl.1 ?_ (lv_room (acat_sum hw)) hd hf) hS (fun r nx' M' H1 locs1 hq hP1 hz1 hS1 => K r nx' M' hq p l e s m args below meth c D cI cS B C hX H1 locs1 lsA hP1 hz1 hS1 hl)
  subst hst
  simp [List.map_append, List.map_reverse, cv]
theorem aw_IN (L : INL y.cls idx y' cc' nL' As.length) (hM : RetP d' mc' ms' y' cc' nL' none (ar b :: As) nx M Q') (hst : st = As.reverse ++ ar b :: rest) (hw : (rest.map acat).sum ≤ 8) (hr : d' + 1 ≤ R.frames ∧ 19 + nL' + 40 * d' ≤ R.locals) (hf : cells + mc' ≤ R.cells ∧ slots + ms' ≤ R.slots) (hd : fet cc pc = some (.invokespecial idx))
    (K : ∀ (r : Option AV) (nx' : Nat) (M' : Mem), Q' r nx' M' → AW R y cc nL ret X E (cells + mc') (slots + ms') nx' (pc + 3) ls (r.toList ++ rest) M') : AW R y cc nL ret X E cells slots nx pc ls st M := by
  intro p l e s m args below meth c D cI cS B C hX H locs lsA hH hz hS hl
  obtain ⟨n0, hd, hl0⟩ := fet_d hd
  simp only [lenOk, beq_iff_eq] at hl0
  subst hl0
  obtain ⟨⟨L1, L2, L3, L4⟩, L5, L6⟩ := L
  have cb := va_cnB (R := R) (s := s) (args := args) (rm := rp d' mc' ms') (mc := mc') (ms := ms') As.length C.wd (gw_call L3) rfl rfl rfl (C.ev.2.1 _ L1) (C.wd _ L2) L4 ⟨hr.1, by show 8 + (nL' + 11) + 40 * d' ≤ _; omega⟩
  refine aw_run (rest := rest) C.ev.2.2.2 (va_runIN (As := As.map (cv B)) (b := B + b) ⟨C.1, C.2.1, C.2.2.2.1, C.ow, C.wd⟩ (hM l D cI cS B) ⟨cb, L5, C.wd _ L6⟩ (pre_ok (av := ar b :: As) C.ev hH hz) rfl (by simp) hl.1 ?_ (lv_room (acat_sum hw)) hd hf) hS (fun r nx' M' H1 locs1 hq hP1 hz1 hS1 => K r nx' M' hq p l e s m args below meth c D cI cS B C hX H1 locs1 lsA hP1 hz1 hS1 hl)
  subst hst
  simp [List.map_append, List.map_reverse, cv]
end AWc
