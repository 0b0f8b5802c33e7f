/-! what a constructor needs: new, newarray, anewarray, Object.<init>, final fields -/
def zfs : Nat → List AV
  | 0 => [anul, anul, ai 0, ai 0, ai 0, ai 0, ai 0, ai 0, ai 0, ai 0, ai 0, anul, anul]
  | 1 => [ai 0, ai 0, ai 0, ai 0, ai 0, anul, anul, anul, anul, anul, anul, anul, anul, anul]
  | 2 => [ai 0, anul, anul, anul, anul]
  | 3 => [ai 0, anul]
  | 4 => [anul, ai 0, ai 0]
  | 5 => [ai 0, ai 0, anul, anul, anul, anul, anul, anul]
  | 6 => [ai 0, ai 0, anul, anul]
  | 7 => [anul, ai 0, anul, anul, anul, anul, anul, anul, anul, anul, anul]
  | 8 => [anul, anul, anul, ai 0, anul, anul, ai 0, anul, ai 0, anul, ai 0, ai 0, anul, ai 0, ai 0, ai 0, ai 0, ai 0, ai 0, ai 0, ai 0, ai 0, ai 0, ai 0, anul, anul, anul, anul]
  | _ => []
theorem zfs_0 (B : Nat) : ∀ j, j < 13 → defaultValue (tyX0 j) = vp_V ((zfs 0).map (cv B)) j
  | 0, _ => rfl
  | 1, _ => rfl
  | 2, _ => rfl
  | 3, _ => rfl
  | 4, _ => rfl
  | 5, _ => rfl
  | 6, _ => rfl
  | 7, _ => rfl
  | 8, _ => rfl
  | 9, _ => rfl
  | 10, _ => rfl
  | 11, _ => rfl
  | 12, _ => rfl
  | n + 13, h => absurd h (by omega)
theorem zfs_1 (B : Nat) : ∀ j, j < 14 → defaultValue (tyX1 j) = vp_V ((zfs 1).map (cv B)) j
  | 0, _ => rfl
  | 1, _ => rfl
  | 2, _ => rfl
  | 3, _ => rfl
  | 4, _ => rfl
  | 5, _ => rfl
  | 6, _ => rfl
  | 7, _ => rfl
  | 8, _ => rfl
  | 9, _ => rfl
  | 10, _ => rfl
  | 11, _ => rfl
  | 12, _ => rfl
  | 13, _ => rfl
  | n + 14, h => absurd h (by omega)
theorem zfs_2 (B : Nat) : ∀ j, j < 5 → defaultValue (tyX2 j) = vp_V ((zfs 2).map (cv B)) j
  | 0, _ => rfl
  | 1, _ => rfl
  | 2, _ => rfl
  | 3, _ => rfl
  | 4, _ => rfl
  | n + 5, h => absurd h (by omega)
theorem zfs_3 (B : Nat) : ∀ j, j < 2 → defaultValue (tyX3 j) = vp_V ((zfs 3).map (cv B)) j
  | 0, _ => rfl
  | 1, _ => rfl
  | n + 2, h => absurd h (by omega)
theorem zfs_4 (B : Nat) : ∀ j, j < 3 → defaultValue (tyX4 j) = vp_V ((zfs 4).map (cv B)) j
  | 0, _ => rfl
  | 1, _ => rfl
  | 2, _ => rfl
  | n + 3, h => absurd h (by omega)
theorem zfs_5 (B : Nat) : ∀ j, j < 8 → defaultValue (tyX5 j) = vp_V ((zfs 5).map (cv B)) j
  | 0, _ => rfl
  | 1, _ => rfl
  | 2, _ => rfl
  | 3, _ => rfl
  | 4, _ => rfl
  | 5, _ => rfl
  | 6, _ => rfl
  | 7, _ => rfl
  | n + 8, h => absurd h (by omega)
theorem zfs_6 (B : Nat) : ∀ j, j < 4 → defaultValue (tyX6 j) = vp_V ((zfs 6).map (cv B)) j
  | 0, _ => rfl
  | 1, _ => rfl
  | 2, _ => rfl
  | 3, _ => rfl
  | n + 4, h => absurd h (by omega)
theorem zfs_7 (B : Nat) : ∀ j, j < 11 → defaultValue (tyX7 j) = vp_V ((zfs 7).map (cv B)) j
  | 0, _ => rfl
  | 1, _ => rfl
  | 2, _ => rfl
  | 3, _ => rfl
  | 4, _ => rfl
  | 5, _ => rfl
  | 6, _ => rfl
  | 7, _ => rfl
  | 8, _ => rfl
  | 9, _ => rfl
  | 10, _ => rfl
  | n + 11, h => absurd h (by omega)
theorem zfs_8 (B : Nat) : ∀ j, j < 28 → defaultValue (tyX8 j) = vp_V ((zfs 8).map (cv B)) j
  | 0, _ => rfl
  | 1, _ => rfl
  | 2, _ => rfl
  | 3, _ => rfl
  | 4, _ => rfl
  | 5, _ => rfl
  | 6, _ => rfl
  | 7, _ => rfl
  | 8, _ => rfl
  | 9, _ => rfl
  | 10, _ => rfl
  | 11, _ => rfl
  | 12, _ => rfl
  | 13, _ => rfl
  | 14, _ => rfl
  | 15, _ => rfl
  | 16, _ => rfl
  | 17, _ => rfl
  | 18, _ => rfl
  | 19, _ => rfl
  | 20, _ => rfl
  | 21, _ => rfl
  | 22, _ => rfl
  | 23, _ => rfl
  | 24, _ => rfl
  | 25, _ => rfl
  | 26, _ => rfl
  | 27, _ => rfl
  | n + 28, h => absurd h (by omega)
theorem zfs_ok {c : Nat} {C : String} {T : u_T} {N : Nat} (h : pp_cls[c]? = some (C, T, N)) (B : Nat) : ∃ ty : Nat → FieldType, (∀ k, k < N → parseFieldDescriptor (T k).2.2.1 = some (ty k)) ∧ ∀ j, j < N → defaultValue (ty j) = vp_V ((zfs c).map (cv B)) j := by
  match c, h with
  | 0, h => cases h; exact ⟨tyX0, tyX0_ok, zfs_0 B⟩
  | 1, h => cases h; exact ⟨tyX1, tyX1_ok, zfs_1 B⟩
  | 2, h => cases h; exact ⟨tyX2, tyX2_ok, zfs_2 B⟩
  | 3, h => cases h; exact ⟨tyX3, tyX3_ok, zfs_3 B⟩
  | 4, h => cases h; exact ⟨tyX4, tyX4_ok, zfs_4 B⟩
  | 5, h => cases h; exact ⟨tyX5, tyX5_ok, zfs_5 B⟩
  | 6, h => cases h; exact ⟨tyX6, tyX6_ok, zfs_6 B⟩
  | 7, h => cases h; exact ⟨tyX7, tyX7_ok, zfs_7 B⟩
  | 8, h => cases h; exact ⟨tyX8, tyX8_ok, zfs_8 B⟩
  | c + 9, h => simp [pp_cls] at h
section AWn
variable {R : Room} {y : MethodName} {cc : ByteArray} {nL : Nat} {ret : Option FieldType} {X : Nat → State → Prop} {E : ETy} {cells slots nx pc : Nat} {ls : List (Option AV)} {st t : List AV} {M : Mem}
theorem hP.more {D : va_G} {cI cS : ClassId} {B nx : Nat} {M : Mem} {H H1 : Heap} (h : hP D cI cS B M H) (hz : H.size = B + nx) (o1 : ∀ q, q < B + nx → H1[q]? = H[q]?) {e : CE} (he : va_at D pp_cls (B + nx, ce_v B cI cS e) H1) : hP D cI cS B (mu M nx e) H1 := fun k e' hk => by
  by_cases hka : k = nx
  · subst hka
    rw [mu_s] at hk
    cases hk
    exact he
  · rw [mu_n _ _ hka] at hk
    have h1 := h k e' hk
    exact h1.kept (o1 _ (by rw [← hz]; exact h1.lt))
theorem va_S.more {B nx : Nat} {H0 H H1 : Heap} {locs : List Loc} (hS : va_S (fun q => B ≤ q) H0 H locs) (hz : H.size = B + nx) (z1 : H1.size = B + nx + 1) (o1 : ∀ q, q < B + nx → H1[q]? = H[q]?) : va_S (fun q => B ≤ q) H0 H1 locs := ⟨Nat.le_trans hS.1 (by omega), fun x h1 h2 => (o1 x (by rw [← hz]; exact Nat.lt_of_lt_of_le h1 hS.1)).trans (hS.2.1 x h1 h2), hS.2.2⟩
theorem aw_new {idx c : Nat} {C : String} {T : u_T} {N : Nat} (hc : pp_cls[c]? = some (C, T, N)) (hl : Cond.classLink y.cls idx C ∈ gw) (hi : Cond.instantiable C N ∈ gw) (hn : Cond.initialized C ∈ gw) (hd : fet cc pc = some (.new idx)) (hcl : cells + 1 ≤ R.cells) (hsl : slots + N ≤ R.slots) (K : AW R y cc nL ret X E (cells + 1) (slots + N) (nx + 1) (pc + 3) ls (ar nx :: st) (mu M nx (co_ c (zfs c)))) : AW R y cc nL ret X E cells slots nx pc ls st M := by
  intro p l e s m args below meth c0 D cI cS B CC hX H locs lsA hH hz hS hls
  obtain ⟨n0, hd, hl0⟩ := fet_d hd
  simp only [lenOk, beq_iff_eq] at hl0
  subst hl0
  have hKn := CC.ev.1.1 c _ hc
  obtain ⟨ty, hty, hfs⟩ := zfs_ok hc B
  refine W.newcK CC.1 CC.2.1 CC.ow (CC.wd _ hl) (CC.wd _ hi) (CC.wd _ hn) rfl hd hcl hsl hKn.2.1 hz fun H1 kC hkC e1 z1 o1 => ?_
  exact K p l e s m args below meth c0 D cI cS B CC hX H1 locs lsA (hH.more hz o1 ⟨_, hc, (u_born ty CC.wd (cls_ws hc) hKn hkC e1 hty).to hfs⟩) z1 (hS.more hz z1 o1) hls
theorem gw_int : Cond.arrayClass (newarray.typeOf .int) ∈ gw := gw_t 41 (by decide +kernel) rfl
theorem aw_newa {n : Nat} {z : Int} (hz0 : z = (n : Int)) (hn : n ≤ 100000) (hd : fet cc pc = some (.newarray .int)) (hcl : cells + 1 ≤ R.cells) (hsl : slots + n ≤ R.slots) (K : AW R y cc nL ret X E (cells + 1) (slots + n) (nx + 1) (pc + 2) ls (ar nx :: t) (mu M nx (ci_ n (fun _ => 0)))) : AW R y cc nL ret X E cells slots nx pc ls (ai z :: t) M := by
  intro p l e s m args below meth c0 D cI cS B CC hX H locs lsA hH hz hS hls
  obtain ⟨n0, hd, hl0⟩ := fet_d hd
  simp only [lenOk, beq_iff_eq] at hl0
  subst hl0
  subst hz0
  have hr : inR (n : Int) := ⟨by omega, by omega⟩
  have h0 : ¬ Int32.ofInt (n : Int) < 0 := by
    rw [show (0 : Int32) = Int32.ofInt 0 from rfl, z_lt hr ⟨by omega, by omega⟩]; omega
  have h1 : (Int32.ofInt (n : Int)).toNatClampNeg = n := by show (Int32.ofInt (n : Int)).toInt.toNat = n; rw [z_t hr]; omega
  have hw : (Cond.arrayClass (newarray.typeOf .int)).before args s = true := CC.wd _ gw_int
  have hb : n * componentBytes (newarray.typeOf .int) ≤ 536870912 := by
    have : componentBytes (newarray.typeOf .int) = 4 := rfl
    rw [this]; omega
  refine va_newaK CC.1 CC.2.1 (atype := .int) hw rfl hd (n := Int32.ofInt (n : Int)) (N := n) rfl h0 h1 hb hcl hsl hz fun H1 cA e1 z1 o1 hAr hNm => ?_
  have hcA : cA = cI := Option.some.inj (hNm.symm.trans (va_nm_int (CC.ev.1.2 0 (cI, .int) rfl).2))
  subst hcA
  have e2 : va_at D pp_cls (B + nx, ce_v B cA cS (ci_ n (fun _ => 0))) H1 := by
    show H1[B + nx]? = some (vp_cell cA (n, .inl (fun _ => Int32.ofInt 0)))
    rw [e1, vp_cell_i]
    rfl
  exact K p l e s m args below meth c0 D cA cS B CC hX H1 locs lsA (hH.more hz o1 e2) z1 (hS.more hz z1 o1) hls
theorem aw_anew {idx n : Nat} {z : Int} (hz0 : z = (n : Int)) (hn : n ≤ 100000) (hl : Cond.classLink y.cls idx RX5 ∈ gw) (hd : fet cc pc = some (.anewarray idx)) (hcl : cells + 1 ≤ R.cells) (hsl : slots + n ≤ R.slots) (K : AW R y cc nL ret X E (cells + 1) (slots + n) (nx + 1) (pc + 3) ls (ar nx :: t) (mu M nx (cr_ n (fun _ => none)))) : AW R y cc nL ret X E cells slots nx pc ls (ai z :: t) M := by
  intro p l e s m args below meth c0 D cI cS B CC hX H locs lsA hH hz hS hls
  obtain ⟨n0, hd, hl0⟩ := fet_d hd
  simp only [lenOk, beq_iff_eq] at hl0
  subst hl0
  subst hz0
  have hr : inR (n : Int) := ⟨by omega, by omega⟩
  have h0 : ¬ Int32.ofInt (n : Int) < 0 := by
    rw [show (0 : Int32) = Int32.ofInt 0 from rfl, z_lt hr ⟨by omega, by omega⟩]; omega
  have h1 : (Int32.ofInt (n : Int)).toNatClampNeg = n := by show (Int32.ofInt (n : Int)).toInt.toNat = n; rw [z_t hr]; omega
  refine W.anew CC.1 CC.2.1 CC.ow (CC.wd _ hl) (va_AO.use CC.ev.2.2.1) rfl hd rfl h0 (by rw [h1]; omega) hcl (by rw [h1]; exact hsl) fun cA kA comp f1 f2 f3 f4 => ?_
  obtain ⟨kA', comp', k1, k2, k3, k4⟩ := (CC.ev.1.2 1 (cS, .object RX5) rfl).2
  have hcA : cA = cS := Option.some.inj (f1.symm.trans k4)
  subst hcA
  rw [h1]
  generalize hH1 : H.push ({ cls := cA, slots := Array.replicate n .null, vm := .none } : Cell) = H1
  have z1 : H1.size = B + nx + 1 := by rw [← hH1, Array.size_push, hz]
  have e1 : H1[B + nx]? = some (arrV cA n (fun _ => .null)) := by rw [← hH1, ← hz, Array.getElem?_push_size, ← arrV_new]
  have o1 : ∀ q : Nat, q < B + nx → H1[q]? = H[q]? := fun q hq => by rw [← hH1, Array.getElem?_push, if_neg (by rw [hz]; exact Nat.ne_of_lt hq)]
  have k := K p l e s m args below meth c0 D cI _ B CC hX H1 locs lsA (hH.more hz o1 e1) z1 (hS.more hz z1 o1) hls
  rw [hz]
  exact k
theorem aw_obj {idx a : Nat} (hl : Cond.methodLink y.cls idx Lib.objectInit ∈ gw) (hd : fet cc pc = some (.invokespecial idx)) (hf : 1 ≤ R.frames) (hs : 12 ≤ R.locals) (K : AW R y cc nL ret X E cells slots nx (pc + 3) ls [] M) : AW R y cc nL ret X E cells slots nx pc ls [ar a] M := by
  intro p l e s m args below meth c0 D cI cS B CC hX H locs lsA hH hz hS hls
  obtain ⟨n0, hd, hl0⟩ := fet_d hd
  simp only [lenOk, beq_iff_eq] at hl0
  subst hl0
  refine W.objInit CC.1 CC.2.1 CC.ow (CC.wd _ hl) (CC.wd _ (gw_t 23 (by decide +kernel) rfl)) (CC.wd _ (gw_t 24 (by decide +kernel) rfl)) rfl (by rw [CC.2.2.2.1]; exact hls.1) rfl hd hf ?_ (K p l e s m args below meth c0 D cI cS B CC hX H locs lsA hH hz hS hls)
  show 2 * 0 + 0 + 12 ≤ _
  omega
end AWn
/-- a constructor -/
def AC (d mc ms : Nat) (y : MethodName) (cc : ByteArray) (nL bz : Nat) (X : Nat → State → Prop) (Q : Option AV → Nat → Mem → Prop) (cells slots nx : Nat) : ATy := AW (rp d mc ms) y cc nL (rty bz) X (pp_E mc ms Q) cells slots nx
theorem AC.go {d mc ms : Nat} {y : MethodName} {cc : ByteArray} {nL bz : Nat} {X : Nat → State → Prop} {Q : Option AV → Nat → Mem → Prop} {cells slots nx pc : Nat} {ls : List (Option AV)} {st : List AV} {M : Mem} (own : String) (n : Nat) (stops : List Nat) (ho : own = y.cls) (hc : cells ≤ mc) (hs : slots ≤ ms) (h : wp own bz sx0 (AC d mc ms y cc nL bz X Q cells slots nx) (fun r M => Q r nx M) cc stops n pc ls st M) : AC d mc ms y cc nL bz X Q cells slots nx pc ls st M := wp_sound ho sx0_ok (endM rfl hc hs) (fun _ _ _ _ h => h) n pc ls st M h
theorem AC.go1 {d mc ms : Nat} {y : MethodName} {cc : ByteArray} {nL bz : Nat} {X : Nat → State → Prop} {Q : Option AV → Nat → Mem → Prop} {cells slots nx pc : Nat} {ls : List (Option AV)} {st : List AV} {M : Mem} (own : String) (n : Nat) (stops : List Nat) (ho : own = y.cls) (hc : cells ≤ mc) (hs : slots ≤ ms) (h : wp1 own bz sx0 (AC d mc ms y cc nL bz X Q cells slots nx) (fun r M => Q r nx M) cc stops n pc ls st M) : AC d mc ms y cc nL bz X Q cells slots nx pc ls st M := wp1_sound ho sx0_ok (endM rfl hc hs) (fun _ _ _ _ h => h) h
theorem RetP.ofC {d mc ms : Nat} {y : MethodName} {cc : ByteArray} {nL bz : Nat} {av : List AV} {nx : Nat} {M : Mem} {Q : Option AV → Nat → Mem → Prop} {ls0 : List (Option AV)} (hy : plainName y.cls = true) (hn : (lsF av).length ≤ nL) (hl : lsOf nL av = ls0) (h : AC d mc ms y cc nL bz noX Q 0 0 nx 0 ls0 [] M) : RetP d mc ms y cc nL (rty bz) av nx M Q := RetP.of hy hn (by rw [hl]; exact h)
