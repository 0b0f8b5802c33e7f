/-! the law's machine -/
def sxL (b L : Nat) (g : Nat → Int) : Nat → Option (Nat × (Nat → Int)) := fun k => if k = b then some (L, g) else none
theorem sxL_s {b L : Nat} {g : Nat → Int} : sxL b L g b = some (L, g) := if_pos rfl
def XL (q v : Nat) (f : Option Nat) (b L : Nat) (g : Nat → Int) (B : Nat) (U : State) : Prop := XS q v f B U ∧ (va_X b L (fun j => Int32.ofInt (g j)) U U.heap ∧ b < B) ∧ B = U.heap.size
theorem sxL_ok {q v : Nat} {f : Option Nat} {b L : Nat} {g : Nat → Int} : sxOk (XL q v f b L g) (sxL b L g) := fun B s h b' n f' e => by
  unfold sxL at e
  split at e
  · rename_i hb
    cases e
    subst hb
    exact h.2.1
  · cases e
def ELw : ETy := fun _ _ _ _ below args s => lw_Z below args s
def AL (q v : Nat) (f : Option Nat) (b L : Nat) (g : Nat → Int) (cells slots nx : Nat) : ATy := AW room_1 yL_law cL_law 4 (some .boolean) (XL q v f b L g) ELw cells slots nx
theorem al_ret {p : Program} {l : Launch} {e : Env} {s : State} {m : MethodId} {args : Array Value} {below : List Frame} {meth : Method} {c : Code} (hx : p.tables.exec = Jvm.exec) (hb : c.code = code) (hr : meth.sig.returnType = ret) (hlocks : meth.locks = false) {pc : Nat} {H : Heap} {ls : Array Slot} (hdg : decode code pc = .ok (.ireturn, 1)) : W p l e room_1 s m args below meth c H [] 600000 7302250 (lw_Z below args s) (F0 m pc ls [.int 1]) := by
  intro T hT X
  obtain ⟨fs, hret, hrun, hended, hW, hframe⟩ := X.leave (v := some (.int 1)) (hlocks := hlocks) (fun h => by rw [hr] at h; cases h)
  have hmeth' : T.vm.method? m = some meth := X.method'
  refine ⟨T.setFrames fs, ?_, .returned (some (.int 1)), hrun, hended, rfl, ⟨_, rfl⟩, hW, hframe⟩
  jvm_step X.here [X.here.top, hx, hb, hdg, hmeth', hr, ret, narrow_b1]
  (try refine ⟨rfl, ?_⟩); (try refine ⟨rfl, ?_⟩)
  first | (intro acts; rw [hret _ acts rfl rfl rfl]) | rw [hret _ _ rfl rfl rfl]
  exact Steps.refl _
section ALs
variable {q v : Nat} {f : Option Nat} {b L : Nat} {g : Nat → Int} {cells slots nx pc pc' : Nat} {ls : List (Option AV)} {st As rest : List AV} {M : Mem}
theorem endL (hc : cells ≤ 600000) (hs : slots ≤ 7302250) : endOk room_1 yL_law cL_law 4 (some .boolean) (XL q v f b L g) ELw cells slots nx 2 (fun r _ => r = some (ai 1)) :=
  ⟨fun pc ls z M hd hb hQ => by
    intro p l e s m args below meth c D cI cS B C hX H locs lsA hH hz hS hl
    have hz1 : z = 1 := by cases hQ; rfl
    subst hz1
    refine va_forget (fun q hq => by have := hS.2.2 q hq; rw [hX.2.2] at this; exact this) ?_
    exact W.widen hc hs (al_ret C.1 C.2.1 C.2.2.1 C.lk hd), fun _ _ _ _ hb _ => by omega⟩
theorem AL.go (n : Nat) (stops : List Nat) (hc : cells ≤ 600000) (hs : slots ≤ 7302250) (h : wp RL 2 (sxL b L g) (AL q v f b L g cells slots nx) (fun r _ => r = some (ai 1)) cL_law stops n pc ls st M) : AL q v f b L g cells slots nx pc ls st M := wp_sound rfl sxL_ok (endL hc hs) (fun _ _ _ _ h => h) n pc ls st M h
set_option maxRecDepth 100000 in
theorem AL.go1 (n : Nat) (stops : List Nat) (hc : cells ≤ 600000) (hs : slots ≤ 7302250) (h : wp1 RL 2 (sxL b L g) (AL q v f b L g cells slots nx) (fun r _ => r = some (ai 1)) cL_law stops n pc ls st M) : AL q v f b L g cells slots nx pc ls st M := wp1_sound rfl sxL_ok (endL hc hs) (fun _ _ _ _ h => h) h
theorem AL.V {idx a ci d' bz' nL' : Nat} {y' : MethodName} {cc' : ByteArray} {fs : List AV} {Q' : Option AV → Mem → Prop} (ep : pc + 3 = pc') (hM : RetN d' y' cc' nL' bz' (ar a :: As) M Q') (Lk : VL RL idx y' cc' nL' (rty bz') As.length) (hb : M a = some (co_ ci fs)) (hcn : (pp_cls[ci]?).map (fun q => q.1) = some y'.cls) (hd : fet cL_law pc = some (.invokevirtual idx)) (hst : st = As.reverse ++ ar a :: rest) (hw : (rest.map acat).sum ≤ 8) (hr : d' + 1 ≤ 11 ∧ 19 + nL' + 40 * d' ≤ 440) (hf : cells ≤ 600000 ∧ slots ≤ 7302250)
    (K : ∀ (r : Option AV) (M' : Mem), Q' r M' → AL q v f b L g cells slots nx pc' ls (r.toList ++ rest) M') : AL q v f b L g cells slots nx pc ls st M := by
  subst ep
  exact aw_V (y := yL_law) Lk (hM nx) hb hcn hst hw hr hf hd (fun r nx' M' h => by obtain ⟨rfl, h⟩ := h; exact K r M' h)
theorem AL.new {idx c c' s' nx' : Nat} {C : String} {T : u_T} {N : Nat} (ep : pc + 3 = pc') (ec : cells + 1 = c') (es : slots + N = s') (en : nx + 1 = nx') (hc : pp_cls[c]? = some (C, T, N)) (hl : Cond.classLink RL idx C ∈ gw) (hi : Cond.instantiable C N ∈ gw) (hn : Cond.initialized C ∈ gw) (hd : fet cL_law pc = some (.new idx)) (hcl : c' ≤ 600000) (hsl : s' ≤ 7302250) (K : AL q v f b L g c' s' nx' pc' ls (ar nx :: st) (mu M nx (co_ c (zfs c)))) : AL q v f b L g cells slots nx pc ls st M := by
  subst ep; subst ec; subst es; subst en; exact aw_new (y := yL_law) hc hl hi hn hd hcl hsl K
theorem AL.I {idx a d' mc' ms' nL' c' s' : Nat} {y' : MethodName} {cc' : ByteArray} {Q' : Option AV → Nat → Mem → Prop} (ep : pc + 3 = pc') (ec : cells + mc' = c') (es : slots + ms' = s') (Lk : IL RL idx y' cc' nL' As.length) (hM : RetP d' mc' ms' y' cc' nL' none (ar a :: As) nx M Q') (hst : st = As.reverse ++ ar a :: rest) (hw : (rest.map acat).sum ≤ 8) (hr : d' + 1 ≤ 11 ∧ 19 + nL' + 40 * d' ≤ 440) (hf : c' ≤ 600000 ∧ s' ≤ 7302250) (hd : fet cL_law pc = some (.invokespecial idx))
    (K : ∀ (r : Option AV) (nx' : Nat) (M' : Mem), Q' r nx' M' → AL q v f b L g c' s' nx' pc' ls (r.toList ++ rest) M') : AL q v f b L g cells slots nx pc ls st M := by
  subst ep; subst ec; subst es; exact aw_I (y := yL_law) Lk hM hst hw hr hf hd K
theorem AL.IX {idx a d' mc' ms' nL' c' s' : Nat} {y' : MethodName} {cc' : ByteArray} {Q' : Option AV → Nat → Mem → Prop} (ep : pc + 3 = pc') (ec : cells + mc' = c') (es : slots + ms' = s') (Lk : IL RL idx y' cc' nL' As.length) (hM : RetX q v f d' mc' ms' y' cc' nL' none (ar a :: As) nx M Q') (hst : st = As.reverse ++ ar a :: rest) (hw : (rest.map acat).sum ≤ 8) (hr : d' + 1 ≤ 11 ∧ 19 + nL' + 40 * d' ≤ 440) (hf : c' ≤ 600000 ∧ s' ≤ 7302250) (hd : fet cL_law pc = some (.invokespecial idx))
    (K : ∀ (r : Option AV) (nx' : Nat) (M' : Mem), Q' r nx' M' → AL q v f b L g c' s' nx' pc' ls (r.toList ++ rest) M') : AL q v f b L g cells slots nx pc ls st M := by
  subst ep; subst ec; subst es
  intro p l e s m args below meth c D cI cS B C hX H locs lsA hH hz hS hl
  obtain ⟨n0, hd, hl0⟩ := fet_d hd
  simp only [lenOk, beq_iff_eq] at hl0
  subst hl0
  obtain ⟨⟨L1, L2, L3, L4⟩, L5, L6⟩ := Lk
  have cb : CallB room_1 s args RL idx y' cc' nL' none (.code y' cc' nL' none :: gw) (rp d' mc' ms') mc' ms' As.length := callB_of As.length C.wd (gw_call L3) rfl rfl rfl (C.wd _ L2) (C.wd _ L1) L4 ⟨hr.1, by show 8 + (nL' + 11) + 40 * d' ≤ 440; omega⟩
  refine aw_run (rest := rest) C.ev.2.2.2 (va_runI (As := As.map (cv B)) (b := B + a) ⟨C.1, C.2.1, C.2.2.2.1, C.ow, C.wd⟩ (hM l D cI cS B) ⟨cb, L5, C.wd _ L6⟩ (preX_ok (av := ar a :: As) C.ev hX.1 hS hH hz) rfl (by simp) hl.1 ?_ (lv_room (acat_sum hw)) hd hf) hS (fun r nx' M' H1 locs1 hq hP1 hz1 hS1 => K r nx' M' hq p l e s m args below meth c D cI cS B C hX H1 locs1 lsA hP1 hz1 hS1 hl)
  subst hst
  simp [List.map_append, List.map_reverse, cv]
/-- two answers that are the same -/
theorem AL.same {z : Int} {off : Int} (ep : (pc : Int) + off = (pc' : Nat)) (hd : fet cL_law pc = some (.if_icmp .eq off)) (K : AL q v f b L g cells slots nx pc' ls rest M) : AL q v f b L g cells slots nx pc ls (ai z :: ai z :: rest) M := by
  intro p l e s m args below meth c D cI cS B C hX H locs lsA hH hz hS hl
  obtain ⟨n0, hd, hl0⟩ := fet_d hd
  simp only [lenOk, Bool.and_eq_true, beq_iff_eq, decide_eq_true_eq] at hl0
  obtain ⟨rfl, -⟩ := hl0
  exact lv_icmp_eq C.1 C.2.1 hd ep (fun _ => K p l e s m args below meth c D cI cS B C hX H locs lsA hH hz hS hl) (fun h => absurd rfl h)
end ALs
theorem RC.fr {M M' : Mem} {G : GG} {c : Nat → Int} (h : RC M G c) (hF : CFr M M') : RC M' G c := by
  obtain ⟨ρ, nu, f8, tr, se, th, a0, a1, a2, a3, a4, a5, a6, a7, a8, a9, a10, a11, a12, a13⟩ := h
  refine ⟨ρ, nu, f8, tr, se, th, ?_, a1, ?_, ?_, ?_, ?_, ?_, ?_, ?_, ?_, ?_, ?_, ?_, ?_⟩
  all_goals rw [hF _ (by decide)]; assumption
theorem CI.fr {M M' : Mem} {G : GG} {nb ng : Nat} (h : CI M G nb ng) (hF : RFr M M') : CI M' G nb ng := by
  obtain ⟨dl, dr, tx, h0, h1, ⟨h2, h2'⟩, ⟨⟨x, y, h3, h3'⟩, f, h4⟩, h5, h6, h7, h8, ⟨x', y', ct, cn, h9, h10, ⟨f1, h11⟩, f2, h12⟩, h13, h14, h15⟩ := h
  have hk : ∀ k, k < 133 → M' k = M k := hF
  refine ⟨dl, dr, tx, h0, ?_, ⟨?_, h2'⟩, ⟨⟨x, y, ?_, h3'⟩, f, ?_⟩, h5.fr2 (fun k a b => hk k (by omega)), h6.fr (fun k a b => hk k (by omega)), h7.fr (fun k a b => hk k (by omega)), h8.fr (fun k a b => hk k (by omega)), ⟨x', y', ct, cn, h9, ?_, ⟨f1, ?_⟩, f2, ?_⟩, h13.fr (fun k a b => hk k (by omega)), h14.fr (hk _ (by omega)) (hk _ (by omega)) (fun k a b => hk k (by omega)), h15.fr (hk _ (by omega)) (hk _ (by omega)) (fun k a b => hk k (by omega))⟩
  all_goals rw [hk _ (by omega)]; assumption
/-- the world between two calls -/
def WW (N : Mem) : Prop := ∃ G nb ng ni, CI N G nb ng ∧ RI N G ∧ WI G nb ng ni
