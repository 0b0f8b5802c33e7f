/-! from the entry -/
theorem inst_ok {c : Nat} {C : String} {T : u_T} {N : Nat} (h : pp_cls[c]? = some (C, T, N)) : Cond.instantiable C N ∈ lw_tbl := by
  match c, h with
  | 0, h => cases h; exact gw_tbl (gw_t 180 (by decide +kernel) rfl)
  | 1, h => cases h; exact gw_tbl (gw_t 43 (by decide +kernel) rfl)
  | 2, h => cases h; exact gw_tbl (gw_t 267 (by decide +kernel) rfl)
  | 3, h => cases h; exact gw_tbl (gw_t 290 (by decide +kernel) rfl)
  | 4, h => cases h; exact gw_tbl (gw_t 26 (by decide +kernel) rfl)
  | 5, h => cases h; exact gw_tbl (gw_t 135 (by decide +kernel) rfl)
  | 6, h => cases h; exact gw_tbl (gw_t 246 (by decide +kernel) rfl)
  | 7, h => cases h; exact gw_tbl (gw_t 18 (by decide +kernel) rfl)
  | 8, h => cases h; exact gw_tbl (gw_t 729 (by decide +kernel) rfl)
  | c + 9, h => simp [pp_cls] at h
theorem tbl_in {w : Cond} (i : Nat) (h : tables_1[i]? = some w) : w ∈ lw_tbl := List.mem_append_right _ (List.mem_of_getElem? h)
abbrev sTm : Term := Term.string "PennyPlanks" 70
theorem el_in : ∀ j, j < 46 → (Cond.eq (.elem (.field sTm "java/lang/String" "value" "[B") (.int (Int32.ofNat j))) (.int (stL.getD j 0))) ∈ flatC (Jvm.Cond.and given_1 narrow_1) := by decide +kernel
/-- the String constant at the entry -/
theorem xs_start {s : State} {b : Nat} (hts : ∀ w ∈ lw_tbl, w.before #[Value.ref b] s = true) (hgv : (Jvm.Cond.and given_1 narrow_1).before #[Value.ref b] s = true) : ∃ (q v : Nat) (f : Option Nat), XS q v f s.heap.size s := by
  have hs := flat_of_before _ hgv
  have hA : ∀ a : Nat, a < s.heap.size → ¬ (fun x => s.heap.size ≤ x) a := fun a h => Nat.not_le.mpr h
  obtain ⟨adK, adV, h1, h2⟩ := vk_Sof (args := #[Value.ref b]) (s := s) (N := 1) (tm := fun _ => sTm) (len := [46]) (byt := [stL]) (A := fun x => s.heap.size ≤ x)
    (fun i hi => by have : i = 0 := by omega
                    subst this; decide)
    (fun i hi => hs _ (by decide +kernel)) (fun i hi => hs _ (by decide +kernel)) (fun i hi => hs _ (by decide +kernel))
    (fun i hi => by have : i = 0 := by omega
                    subst this; exact hs _ (by decide +kernel))
    (fun i hi j hj => by
      have : i = 0 := by omega
      subst this
      exact hs _ (el_in j hj))
    (fun i j hi hj h => by omega) hA
  have hq := h2 0 (by omega)
  have z1 := va_Zof (C := RJ0) (n := "COMPACT_STRINGS") (d := "Z") (v := .int 1) (A := fun x => s.heap.size ≤ x) (hts _ (tbl_in 316 (by decide +kernel))) (hts _ (gw_tbl wiJ0)) (va_eqt (hs _ (by decide +kernel))) hA
  have z2 := va_Zqof (C := RJ3) (n := "SIOOBE_FORMATTER") (d := "Ljava/util/function/BiFunction;") (A := fun x => s.heap.size ≤ x) (hts _ (tbl_in 332 (by decide +kernel))) (hts _ (gw_tbl wiJ3)) (hs _ (by decide +kernel)) hA
  have hR : vk_R RX7 70 stT (adK 0) s := vk_R.of (hts _ (tbl_in 306 (by decide +kernel))) hq
  have hS : vk_S 1 [46] [stL] (fun _ => adK 0) (fun _ => adV 0) (fun x => s.heap.size ≤ x) s s.heap := ⟨fun i hi => by
    have : i = 0 := by omega
    subst this
    exact h1.1 0 hi, fun i j hi hj _ => by omega⟩
  rcases z2 with z2 | ⟨t, z2⟩
  · exact ⟨adK 0, adV 0, none, hR, hS, z1, z2⟩
  · exact ⟨adK 0, adV 0, some t, hR, hS, z1, z2⟩
/-- YOUR PART: from the entry, for every script of at most 320 ints, the law comes to its end with true -/
theorem whole_start {p : Program} {e : Env} {s : State} {m : MethodId} {below : List Frame} {meth : Method} {c : Code} (l : Launch) {b L : Nat} {xs : Nat → Int32} (hL : L ≤ 320) (C0 : lw_At p s m meth c b L xs) : W p l e room_1 s m #[Value.ref b] below meth c s.heap [] 0 0 (lw_Z below #[Value.ref b] s) (entryFrame m ([Value.ref b] : List Value).toArray 4) := by
  obtain ⟨hx, hb, hr, hml, hown, hts, hX, hbl, hlocks, hgv⟩ := C0
  obtain ⟨q, v, f, hXS⟩ := xs_start hts hgv
  have hk : ∀ c : Nat, ∃ P : ClassId × (Nat → Nat), ∀ q : vw_C, pp_cls[c]? = some q → u_Kn s q.1 q.2.1 q.2.2 P.1 P.2 := by
    intro c
    cases hc : pp_cls[c]? with
    | none => exact ⟨(m.cls, fun _ => 0), fun q h => by cases h⟩
    | some q =>
      obtain ⟨C, T, N⟩ := q
      obtain ⟨cC, iS, h⟩ := u_known (C := C) (T := T) (N := N) (n := N) hts (fun w hw => gw_tbl (cls_ws hc w hw)) (hts _ (inst_ok hc))
      exact ⟨(cC, iS), fun q h' => by cases h'; exact h⟩
  obtain ⟨F, hF⟩ := Classical.axiomOfChoice hk
  obtain ⟨cI, kI, compI, i1, i2, i3⟩ := Cond.arrayClass_spec (hts (.arrayClass .int) (tbl_in 41 (by decide +kernel)))
  have hao := hts (.arrayOver (.object RX5)) (tbl_in 296 (by decide +kernel))
  obtain ⟨comp, cS, kS, s1, -, s2, s3, s4⟩ := Cond.arrayOver_spec hao
  have hev : pp_Ev (fun c => (F c).1, fun c => (F c).2) cI cS s.heap.size s := by
    refine ⟨⟨fun c q h => hF c q h, fun k q h => ?_⟩, fun w hw => ?_, va_AO.of hao, Nat.le_refl _⟩
    · match k, h with
      | 0, h => cases h; exact ⟨fun n z => ⟨fun k h => (by cases h), kI, i2, compI, i3⟩, i1⟩
      | 1, h => cases h; exact ⟨fun n z => ⟨fun k h => (by cases h), kS, s2, comp, s3⟩, kS, comp, s2, s3, s1, s4⟩
      | k + 2, h => simp [pp_tys] at h
    · have hm := (List.mem_filter.mp hw).1
      obtain ⟨a, i, x, y, rfl⟩ := nws_w hw
      exact va_Nw.of rfl (hts _ hm)
  have C : pp_C p s m #[Value.ref b] meth c yL_law cL_law 4 (some .boolean) (fun c => (F c).1, fun c => (F c).2) cI cS s.heap.size := ⟨hx, hb, hr, hml, hown, fun w hw => hts w (gw_tbl hw), hlocks, fun h => absurd h (by decide), hev⟩
  have hg : ∀ j, inR ((xs j).toInt) := fun j => ⟨Int32.le_toInt _, Int32.toInt_lt _⟩
  have hXX : va_X b L (fun j => Int32.ofInt (xs j).toInt) s s.heap := by
    have : (fun j => Int32.ofInt (xs j).toInt) = xs := by funext j; exact Int32.ofInt_toInt _
    rw [this]; exact hX
  have st := law_start (q := q) (v := v) (f := f) (b := b) (L := L) (g := fun j => (xs j).toInt) hL hg
  rw [lg_entry_eq]
  exact st p l e s m #[Value.ref b] below meth c (fun c => (F c).1, fun c => (F c).2) cI cS s.heap.size C ⟨hXS, ⟨hXX, hbl⟩, rfl⟩ s.heap [] _ (fun k e h => by cases h) rfl va_S.rf (LH.entry (av := [ax b]) (nL := 4) (Nat.le_of_ble_eq_true rfl))
