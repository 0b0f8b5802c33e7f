/-! methods that make no cell: RetN, AM -/
theorem ft0_0 : ft 0 0 = 9 := by decide +kernel
theorem ft0_1 : ft 0 1 = 2 := by decide +kernel
theorem ft0_2 : ft 0 2 = 0 := by decide +kernel
theorem ft0_3 : ft 0 3 = 0 := by decide +kernel
theorem ft0_4 : ft 0 4 = 0 := by decide +kernel
theorem ft0_5 : ft 0 5 = 0 := by decide +kernel
theorem ft0_6 : ft 0 6 = 0 := by decide +kernel
theorem ft0_7 : ft 0 7 = 0 := by decide +kernel
theorem ft0_8 : ft 0 8 = 0 := by decide +kernel
theorem ft0_9 : ft 0 9 = 0 := by decide +kernel
theorem ft0_10 : ft 0 10 = 0 := by decide +kernel
theorem ft0_11 : ft 0 11 = 9 := by decide +kernel
theorem ft0_12 : ft 0 12 = 9 := by decide +kernel
theorem ft1_0 : ft 1 0 = 0 := by decide +kernel
theorem ft1_1 : ft 1 1 = 0 := by decide +kernel
theorem ft1_2 : ft 1 2 = 0 := by decide +kernel
theorem ft1_3 : ft 1 3 = 0 := by decide +kernel
theorem ft1_4 : ft 1 4 = 0 := by decide +kernel
theorem ft1_5 : ft 1 5 = 9 := by decide +kernel
theorem ft1_6 : ft 1 6 = 9 := by decide +kernel
theorem ft1_7 : ft 1 7 = 9 := by decide +kernel
theorem ft1_8 : ft 1 8 = 9 := by decide +kernel
theorem ft1_9 : ft 1 9 = 9 := by decide +kernel
theorem ft1_10 : ft 1 10 = 9 := by decide +kernel
theorem ft1_11 : ft 1 11 = 9 := by decide +kernel
theorem ft1_12 : ft 1 12 = 9 := by decide +kernel
theorem ft1_13 : ft 1 13 = 9 := by decide +kernel
theorem ft2_0 : ft 2 0 = 0 := by decide +kernel
theorem ft2_1 : ft 2 1 = 9 := by decide +kernel
theorem ft2_2 : ft 2 2 = 9 := by decide +kernel
theorem ft2_3 : ft 2 3 = 9 := by decide +kernel
theorem ft2_4 : ft 2 4 = 9 := by decide +kernel
theorem ft3_0 : ft 3 0 = 0 := by decide +kernel
theorem ft3_1 : ft 3 1 = 9 := by decide +kernel
theorem ft4_0 : ft 4 0 = 9 := by decide +kernel
theorem ft4_1 : ft 4 1 = 0 := by decide +kernel
theorem ft4_2 : ft 4 2 = 1 := by decide +kernel
theorem ft5_0 : ft 5 0 = 0 := by decide +kernel
theorem ft5_1 : ft 5 1 = 0 := by decide +kernel
theorem ft5_2 : ft 5 2 = 9 := by decide +kernel
theorem ft5_3 : ft 5 3 = 9 := by decide +kernel
theorem ft5_4 : ft 5 4 = 9 := by decide +kernel
theorem ft5_5 : ft 5 5 = 9 := by decide +kernel
theorem ft5_6 : ft 5 6 = 9 := by decide +kernel
theorem ft5_7 : ft 5 7 = 9 := by decide +kernel
theorem ft6_0 : ft 6 0 = 0 := by decide +kernel
theorem ft6_1 : ft 6 1 = 0 := by decide +kernel
theorem ft6_2 : ft 6 2 = 2 := by decide +kernel
theorem ft6_3 : ft 6 3 = 2 := by decide +kernel
theorem ft7_0 : ft 7 0 = 9 := by decide +kernel
theorem ft7_1 : ft 7 1 = 0 := by decide +kernel
theorem ft7_2 : ft 7 2 = 9 := by decide +kernel
theorem ft7_3 : ft 7 3 = 2 := by decide +kernel
theorem ft7_4 : ft 7 4 = 2 := by decide +kernel
theorem ft7_5 : ft 7 5 = 9 := by decide +kernel
theorem ft7_6 : ft 7 6 = 9 := by decide +kernel
theorem ft7_7 : ft 7 7 = 9 := by decide +kernel
theorem ft7_8 : ft 7 8 = 9 := by decide +kernel
theorem ft7_9 : ft 7 9 = 9 := by decide +kernel
theorem ft7_10 : ft 7 10 = 9 := by decide +kernel
theorem ft8_0 : ft 8 0 = 9 := by decide +kernel
theorem ft8_1 : ft 8 1 = 9 := by decide +kernel
theorem ft8_2 : ft 8 2 = 9 := by decide +kernel
theorem ft8_3 : ft 8 3 = 0 := by decide +kernel
theorem ft8_4 : ft 8 4 = 9 := by decide +kernel
theorem ft8_5 : ft 8 5 = 9 := by decide +kernel
theorem ft8_6 : ft 8 6 = 0 := by decide +kernel
theorem ft8_7 : ft 8 7 = 9 := by decide +kernel
theorem ft8_8 : ft 8 8 = 0 := by decide +kernel
theorem ft8_9 : ft 8 9 = 9 := by decide +kernel
theorem ft8_10 : ft 8 10 = 0 := by decide +kernel
theorem ft8_11 : ft 8 11 = 0 := by decide +kernel
theorem ft8_12 : ft 8 12 = 9 := by decide +kernel
theorem ft8_13 : ft 8 13 = 0 := by decide +kernel
theorem ft8_14 : ft 8 14 = 0 := by decide +kernel
theorem ft8_15 : ft 8 15 = 0 := by decide +kernel
theorem ft8_16 : ft 8 16 = 0 := by decide +kernel
theorem ft8_17 : ft 8 17 = 0 := by decide +kernel
theorem ft8_18 : ft 8 18 = 0 := by decide +kernel
theorem ft8_19 : ft 8 19 = 0 := by decide +kernel
theorem ft8_20 : ft 8 20 = 0 := by decide +kernel
theorem ft8_21 : ft 8 21 = 0 := by decide +kernel
theorem ft8_22 : ft 8 22 = 0 := by decide +kernel
theorem ft8_23 : ft 8 23 = 0 := by decide +kernel
theorem ft8_24 : ft 8 24 = 9 := by decide +kernel
theorem ft8_25 : ft 8 25 = 9 := by decide +kernel
theorem ft8_26 : ft 8 26 = 9 := by decide +kernel
theorem ft8_27 : ft 8 27 = 9 := by decide +kernel
theorem RetP.ofF {d mc ms : Nat} {y : MethodName} {cc : ByteArray} {nL : Nat} {ret : Option FieldType} {av : List AV} {nx : Nat} {M : Mem} {Q : Option AV → Nat → Mem → Prop} (hy : plainFor y = true) (hn : (lsF av).length ≤ nL) (h : AW (rp d mc ms) y cc nL ret noX (pp_E mc ms Q) 0 0 nx 0 (lsOf nL av) [] M) : RetP d mc ms y cc nL ret av nx M Q := by
  intro l D cI cS B
  refine va_MetF (cc := cc) (maxL := nL) (ret := ret) hy rfl ?_
  intro p e s m args below meth c s₁ Bd hml hv
  obtain ⟨rfl, hev, hz, hH⟩ := hv
  have hts := atoms_spec (ws := .code y cc nL ret :: gw) Bd.pre
  have C : pp_C p s m ((av.map (cv B)).toArray) meth c y cc nL ret D cI cS B := ⟨Bd.exec, Bd.bytes, Bd.returns, hml, findClass_of_methodNamed Bd.named, fun w hw => hts w (List.mem_cons_of_mem _ hw), Bd.notSynchronized, fun hi => (name_of_methodNamed Bd.named Bd.method).1.trans hi, hev⟩
  rw [lg_entry_eq]
  exact h p l e s m _ below meth c D cI cS B C trivial s.heap [] _ hH hz va_S.rf (LH.entry hn)
def AM (d : Nat) (y : MethodName) (cc : ByteArray) (nL bz : Nat) (Q : Option AV → Mem → Prop) : ATy := fun pc ls st M => ∀ nx, AW (rp d 0 0) y cc nL (rty bz) noX (pp_E 0 0 (fun r n' M' => n' = nx ∧ Q r M')) 0 0 nx pc ls st M
def RetN (d : Nat) (y : MethodName) (cc : ByteArray) (nL bz : Nat) (av : List AV) (M : Mem) (Q : Option AV → Mem → Prop) : Prop := ∀ nx, RetP d 0 0 y cc nL (rty bz) av nx M (fun r n' M' => n' = nx ∧ Q r M')
theorem endN {d : Nat} {y : MethodName} {cc : ByteArray} {nL bz nx : Nat} {Q : Option AV → Mem → Prop} : endOk (rp d 0 0) y cc nL (rty bz) noX (pp_E 0 0 (fun r n' M' => n' = nx ∧ Q r M')) 0 0 nx bz Q :=
  ⟨fun _ _ _ _ hd hb hQ => aw_ireturn rfl hb (Nat.le_refl _) (Nat.le_refl _) hd ⟨rfl, hQ⟩, fun _ _ _ hd hb hQ => by subst hb; exact aw_return rfl (Nat.le_refl _) (Nat.le_refl _) hd ⟨rfl, hQ⟩⟩
theorem RetN.mono {d : Nat} {y : MethodName} {cc : ByteArray} {nL bz : Nat} {av : List AV} {M : Mem} {Q Q' : Option AV → Mem → Prop} (h : RetN d y cc nL bz av M Q) (hQ : ∀ r M', Q r M' → Q' r M') : RetN d y cc nL bz av M Q' := by
  intro nx l D cI cS B p e ha hc hk s m args below hf hx hP hK
  obtain ⟨k, o, h1, h2, h3, ⟨r, nx', M', q1, q2, q3⟩, h5⟩ := h nx l D cI cS B p e ha hc hk s m args below hf hx hP hK
  exact ⟨k, o, h1, h2, h3, ⟨r, nx', M', q1, ⟨q2.1, hQ _ _ q2.2⟩, q3⟩, h5⟩
section AMs
variable {d : Nat} {y y' : MethodName} {cc cc' : ByteArray} {nL bz nL' bz' : Nat} {Q Q' : Option AV → Mem → Prop} {pc : Nat} {ls : List (Option AV)} {st As rest : List AV} {M : Mem} {idx b ci d' : Nat} {fs av : List AV}
theorem RetN.ofF {ls0 : List (Option AV)} (hy : plainFor y = true) (hn : (lsF av).length ≤ nL) (hl : lsOf nL av = ls0) (h : AM d y cc nL bz Q 0 ls0 [] M) : RetN d y cc nL bz av M Q := fun nx => RetP.ofF hy hn (by rw [hl]; exact h nx)
theorem RetN.of {ls0 : List (Option AV)} (hy : plainName y.cls = true) (hn : (lsF av).length ≤ nL) (hl : lsOf nL av = ls0) (h : AM d y cc nL bz Q 0 ls0 [] M) : RetN d y cc nL bz av M Q := fun nx => RetP.of hy hn (by rw [hl]; exact h nx)
theorem AM.go (own : String) (n : Nat) (stops : List Nat) (ho : own = y.cls) (h : wp own bz sx0 (AM d y cc nL bz Q) Q cc stops n pc ls st M) : AM d y cc nL bz Q pc ls st M := fun nx => wp_sound ho sx0_ok endN (fun _ _ _ _ h => h nx) n pc ls st M h
theorem AM.go1 (own : String) (n : Nat) (stops : List Nat) (ho : own = y.cls) (h : wp1 own bz sx0 (AM d y cc nL bz Q) Q cc stops n pc ls st M) : AM d y cc nL bz Q pc ls st M := fun nx => wp1_sound ho sx0_ok endN (fun _ _ _ _ h => h nx) h
theorem AM.V (hM : RetN d' y' cc' nL' bz' (ar b :: As) M Q') (L : VL y.cls idx y' cc' nL' (rty bz') As.length) (hb : M b = some (co_ ci fs)) (hcn : (pp_cls[ci]?).map (fun q => q.1) = some y'.cls) (hd : fet cc pc = some (.invokevirtual idx)) (hst : st = As.reverse ++ ar b :: rest) (hw : (rest.map acat).sum ≤ 8) (hr : d' + 1 ≤ d ∧ 19 + nL' + 40 * d' ≤ 40 * d)
    (K : ∀ (r : Option AV) (M' : Mem), Q' r M' → AM d y cc nL bz Q (pc + 3) ls (r.toList ++ rest) M') : AM d y cc nL bz Q pc ls st M := fun nx => aw_V L (hM nx) hb hcn hst hw hr ⟨Nat.le_refl _, Nat.le_refl _⟩ hd (fun r nx' M' h => by obtain ⟨rfl, h⟩ := h; exact K r M' h nx')
theorem AM.S (hM : RetN d' y' cc' nL' bz' As M Q') (L : SL y.cls idx y' cc' nL' (rty bz') As.length) (hd : fet cc pc = some (.invokestatic idx)) (hst : st = As.reverse ++ rest) (hw : (rest.map acat).sum ≤ 8) (hr : d' + 1 ≤ d ∧ 19 + nL' + 40 * d' ≤ 40 * d)
    (K : ∀ (r : Option AV) (M' : Mem), Q' r M' → AM d y cc nL bz Q (pc + 3) ls (r.toList ++ rest) M') : AM d y cc nL bz Q pc ls st M := fun nx => aw_S L (hM nx) hst hw hr ⟨Nat.le_refl _, Nat.le_refl _⟩ hd (fun r nx' M' h => by obtain ⟨rfl, h⟩ := h; exact K r M' h nx')
theorem AM.SN (hM : RetN d' y' cc' nL' bz' As M Q') (L : SNL y.cls idx y' cc' nL' (rty bz') As.length) (hd : fet cc pc = some (.invokestatic idx)) (hst : st = As.reverse ++ rest) (hw : (rest.map acat).sum ≤ 8) (hr : d' + 1 ≤ d ∧ 19 + nL' + 40 * d' ≤ 40 * d)
    (K : ∀ (r : Option AV) (M' : Mem), Q' r M' → AM d y cc nL bz Q (pc + 3) ls (r.toList ++ rest) M') : AM d y cc nL bz Q pc ls st M := fun nx => aw_SN L (hM nx) hst hw hr ⟨Nat.le_refl _, Nat.le_refl _⟩ hd (fun r nx' M' h => by obtain ⟨rfl, h⟩ := h; exact K r M' h nx')
end AMs
theorem fv0 : ((0 : Fin 4) : Nat) = 0 := rfl
theorem fv1 : ((1 : Fin 4) : Nat) = 1 := rfl
theorem fv2 : ((2 : Fin 4) : Nat) = 2 := rfl
theorem fv3 : ((3 : Fin 4) : Nat) = 3 := rfl
theorem fw0 : ((0 : Fin 2) : Nat) = 0 := rfl
theorem fw1 : ((1 : Fin 2) : Nat) = 1 := rfl
