/-! THE ABSTRACT MACHINE: values are whole numbers, cells are told by their places from a base B on; a method's contract is RetP, the machine at a place is AW. -/
-- values: an int, a long, a reference (or null) to a cell of ours, a reference to a cell that was there before
abbrev AV : Type := Int ⊕ (Int ⊕ (Option Nat ⊕ Nat))
abbrev ai (z : Int) : AV := .inl z
abbrev al (z : Int) : AV := .inr (.inl z)
abbrev ar (k : Nat) : AV := .inr (.inr (.inl (some k)))
abbrev anul : AV := .inr (.inr (.inl none))
abbrev ax (a : Nat) : AV := .inr (.inr (.inr a))
def cv (B : Nat) (v : AV) : Value := match v with
  | .inl z => .int (Int32.ofInt z)
  | .inr (.inl z) => .long (Int64.ofInt z)
  | .inr (.inr (.inl (some k))) => .ref (B + k)
  | .inr (.inr (.inl none)) => .null
  | .inr (.inr (.inr a)) => .ref a
-- cells: an array of ints, an array of references, an object (number of its class, its fields)
abbrev CE : Type := (Nat × (Nat → Int)) ⊕ ((Nat × (Nat → Option Nat)) ⊕ (Nat × List AV))
abbrev ci_ (n : Nat) (f : Nat → Int) : CE := .inl (n, f)
abbrev cr_ (n : Nat) (g : Nat → Option Nat) : CE := .inr (.inl (n, g))
abbrev co_ (c : Nat) (fs : List AV) : CE := .inr (.inr (c, fs))
abbrev Mem : Type := Nat → Option CE
def mu (M : Mem) (a : Nat) (e : CE) : Mem := fun k => if k = a then some e else M k
def fu (f : Nat → Int) (i : Nat) (x : Int) : Nat → Int := fun j => if j = i then x else f j
theorem mu_s (M : Mem) (a : Nat) (e : CE) : mu M a e a = some e := by simp [mu]
theorem mu_n (M : Mem) {a k : Nat} (e : CE) (h : k ≠ a) : mu M a e k = M k := by simp [mu, h]
theorem fu_s (f : Nat → Int) (i : Nat) (x : Int) : fu f i x i = x := by simp [fu]
theorem fu_n (f : Nat → Int) {i j : Nat} (x : Int) (h : j ≠ i) : fu f i x j = f j := by simp [fu, h]
def pp_cls : List vw_C := [(RX0, TX0, 13), (RX1, TX1, 14), (RX2, TX2, 5), (RX3, TX3, 2), (RX4, TX4, 3), (RX5, TX5, 8), (RX6, TX6, 4), (RX7, TX7, 11), (RX8, TX8, 28)]
def ce_v (B : Nat) (cI cS : ClassId) (e : CE) : va_E := match e with
  | .inl (n, f) => .inl (cI, n, .inl (fun j => Int32.ofInt (f j)))
  | .inr (.inl (n, g)) => .inl (cS, n, .inr (.inr (.inr (.inr (fun j => (g j).map (fun k => B + k))))))
  | .inr (.inr (c, fs)) => .inr (c, fs.map (cv B))
/-- the heap holds the cells M, from B on -/
def hP (D : va_G) (cI cS : ClassId) (B : Nat) (M : Mem) (H : Heap) : Prop := ∀ (k : Nat) (e : CE), M k = some e → va_at D pp_cls (B + k, ce_v B cI cS e) H
-- the words
def gw : List Cond := lw_tbl.filter goodWord
theorem gw_in {w : Cond} (h : w ∈ lw_tbl) (g : goodWord w = true) : w ∈ gw := List.mem_filter.mpr ⟨h, g⟩
theorem gw_good {w : Cond} (h : w ∈ gw) : goodWord w = true := (List.mem_filter.mp h).2
theorem gw_tbl {w : Cond} (h : w ∈ gw) : w ∈ lw_tbl := (List.mem_filter.mp h).1
def isNest : Cond → Bool
  | .methodLinkNest _ _ _ _ => true
  | _ => false
def nws : List Cond := lw_tbl.filter isNest
def pp_tys (cI cS : ClassId) : List (ClassId × FieldType) := [(cI, .int), (cS, .object RX5)]
/-- what a method's start says of the state -/
def pp_Ev (D : va_G) (cI cS : ClassId) (B : Nat) (U : State) : Prop := va_K D pp_cls (pp_tys cI cS) U ∧ (∀ w ∈ nws, va_Nw w U) ∧ va_AO RX5 U ∧ B ≤ U.heap.size
def pp_C (p : Program) (s : State) (m : MethodId) (args : Array Value) (meth : Method) (c : Code) (y : MethodName) (cc : ByteArray) (nL : Nat) (ret : Option FieldType) (D : va_G) (cI cS : ClassId) (B : Nat) : Prop :=
  p.tables.exec = Jvm.exec ∧ c.code = cc ∧ meth.sig.returnType = ret ∧ c.maxLocals = nL ∧ s.vm.findClass y.cls = some m.cls ∧ (∀ w ∈ gw, w.before args s = true) ∧ meth.locks = false ∧ (y.name = "<init>" → meth.name = "<init>") ∧ pp_Ev D cI cS B s
/-- locals by their places -/
def LH (B : Nat) (lsA : Array Slot) (nL : Nat) (ls : List (Option AV)) : Prop := lsA.size = nL ∧ lv_wf lsA ∧ ls.length = nL ∧ ∀ (i : Nat) (v : AV), ls[i]? = some (some v) → lsA[i]? = some (.val (cv B v))
abbrev ATy : Type := Nat → List (Option AV) → List AV → Mem → Prop
abbrev ETy : Type := va_G → ClassId → ClassId → Nat → List Frame → Array Value → State → State → Prop
/-- the machine at a place -/
def AW (R : Room) (y : MethodName) (cc : ByteArray) (nL : Nat) (ret : Option FieldType) (X : Nat → State → Prop) (E : ETy) (cells slots nx pc : Nat) (ls : List (Option AV)) (st : List AV) (M : Mem) : Prop :=
  ∀ (p : Program) (l : Launch) (e : Env) (s : State) (m : MethodId) (args : Array Value) (below : List Frame) (meth : Method) (c : Code) (D : va_G) (cI cS : ClassId) (B : Nat), pp_C p s m args meth c y cc nL ret D cI cS B → X B s →
    ∀ (H : Heap) (locs : List Loc) (lsA : Array Slot), hP D cI cS B M H → H.size = B + nx → va_S (fun q => B ≤ q) s.heap H locs → LH B lsA nL ls → W p l e R s m args below meth c H locs cells slots (E D cI cS B below args s) (F0 m pc lsA (st.map (cv B)))
def pp_Qc (D : va_G) (cI cS : ClassId) (B : Nat) (Q : Option AV → Nat → Mem → Prop) : Array Value → State → Outcome → State → Prop := fun _ st oc t => ∃ (r : Option AV) (nx : Nat) (M : Mem), oc = .returned (r.map (cv B)) ∧ Q r nx M ∧ hP D cI cS B M t.heap ∧ t.heap.size = B + nx ∧ st.heap.size ≤ t.heap.size ∧ ∀ q : Nat, q < B → t.heap[q]? = st.heap[q]?
def pp_E (mc ms : Nat) (Q : Option AV → Nat → Mem → Prop) : ETy := fun D cI cS B below args s => MQ below (pp_Qc D cI cS B Q) args s mc ms (fun q => B ≤ q)
def rp (d mc ms : Nat) : Room := { frames := d, cells := mc, slots := ms, locals := 40 * d }
/-- a method's contract -/
def RetP (d mc ms : Nat) (y : MethodName) (cc : ByteArray) (nL : Nat) (ret : Option FieldType) (av : List AV) (nx : Nat) (M : Mem) (Q : Option AV → Nat → Mem → Prop) : Prop :=
  ∀ (l : Launch) (D : va_G) (cI cS : ClassId) (B : Nat), Met l y (.code y cc nL ret :: gw) (rp d mc ms) (va_Pc (av.map (cv B)) (fun U => pp_Ev D cI cS B U ∧ U.heap.size = B + nx ∧ hP D cI cS B M U.heap)) (pp_Qc D cI cS B Q) mc ms (fun q => B ≤ q)
-- ===== numbers =====
abbrev inR (z : Int) : Prop := -2147483648 ≤ z ∧ z < 2147483648
abbrev inL (z : Int) : Prop := -9223372036854775808 ≤ z ∧ z < 9223372036854775808
theorem z_t {z : Int} (h : inR z) : (Int32.ofInt z).toInt = z := Int32.toInt_ofInt_of_le h.1 h.2
theorem z_tl {z : Int} (h : inL z) : (Int64.ofInt z).toInt = z := Int64.toInt_ofInt_of_le h.1 h.2
theorem z_eq {x y : Int} (hx : inR x) (hy : inR y) : Int32.ofInt x = Int32.ofInt y ↔ x = y := by rw [← Int32.toInt_inj, z_t hx, z_t hy]
theorem z_lt {x y : Int} (hx : inR x) (hy : inR y) : Int32.ofInt x < Int32.ofInt y ↔ x < y := by rw [Int32.lt_iff_toInt_lt, z_t hx, z_t hy]
theorem z_le {x y : Int} (hx : inR x) (hy : inR y) : Int32.ofInt x ≤ Int32.ofInt y ↔ x ≤ y := by rw [Int32.le_iff_toInt_le, z_t hx, z_t hy]
theorem z_i {x : Int} {n : Nat} (hn : n ≤ 2147483648) (h0 : 0 ≤ x) (h : x < n) : vp_in (Int32.ofInt x) n ∧ (Int32.ofInt x).toNatClampNeg = x.toNat := by
  have hx : inR x := ⟨by omega, by omega⟩
  have e : (Int32.ofInt x).toNatClampNeg = x.toNat := by show (Int32.ofInt x).toInt.toNat = _; rw [z_t hx]
  refine ⟨?_, e⟩
  rintro (q | q)
  · rw [show (0 : Int32) = Int32.ofInt 0 from rfl, z_lt hx ⟨by omega, by omega⟩] at q; omega
  · rw [e] at q; omega
theorem zand_x : ∃ f : Int → Int → Int, ∀ x y : Int, f x y = (Int32.ofInt x &&& Int32.ofInt y).toInt := ⟨fun x y => (Int32.ofInt x &&& Int32.ofInt y).toInt, fun _ _ => rfl⟩
/-- hidden from the kernel, which would evaluate it -/
noncomputable def zand : Int → Int → Int := Classical.choose zand_x
theorem zand_d (x y : Int) : zand x y = (Int32.ofInt x &&& Int32.ofInt y).toInt := Classical.choose_spec zand_x x y
theorem zor_x : ∃ f : Int → Int → Int, ∀ x y : Int, f x y = (Int32.ofInt x ||| Int32.ofInt y).toInt := ⟨fun x y => (Int32.ofInt x ||| Int32.ofInt y).toInt, fun _ _ => rfl⟩
/-- hidden from the kernel, which would evaluate it -/
noncomputable def zor : Int → Int → Int := Classical.choose zor_x
theorem zor_d (x y : Int) : zor x y = (Int32.ofInt x ||| Int32.ofInt y).toInt := Classical.choose_spec zor_x x y
theorem zxor_x : ∃ f : Int → Int → Int, ∀ x y : Int, f x y = (Int32.ofInt x ^^^ Int32.ofInt y).toInt := ⟨fun x y => (Int32.ofInt x ^^^ Int32.ofInt y).toInt, fun _ _ => rfl⟩
/-- hidden from the kernel, which would evaluate it -/
noncomputable def zxor : Int → Int → Int := Classical.choose zxor_x
theorem zxor_d (x y : Int) : zxor x y = (Int32.ofInt x ^^^ Int32.ofInt y).toInt := Classical.choose_spec zxor_x x y
theorem zshl_x : ∃ f : Int → Int → Int, ∀ x y : Int, f x y = (Int32.ofInt x <<< (Int32.ofInt y &&& 31)).toInt := ⟨fun x y => (Int32.ofInt x <<< (Int32.ofInt y &&& 31)).toInt, fun _ _ => rfl⟩
/-- hidden from the kernel, which would evaluate it -/
noncomputable def zshl : Int → Int → Int := Classical.choose zshl_x
theorem zshl_d (x y : Int) : zshl x y = (Int32.ofInt x <<< (Int32.ofInt y &&& 31)).toInt := Classical.choose_spec zshl_x x y
theorem zshr_x : ∃ f : Int → Int → Int, ∀ x y : Int, f x y = (Int32.ofInt x >>> (Int32.ofInt y &&& 31)).toInt := ⟨fun x y => (Int32.ofInt x >>> (Int32.ofInt y &&& 31)).toInt, fun _ _ => rfl⟩
/-- hidden from the kernel, which would evaluate it -/
noncomputable def zshr : Int → Int → Int := Classical.choose zshr_x
theorem zshr_d (x y : Int) : zshr x y = (Int32.ofInt x >>> (Int32.ofInt y &&& 31)).toInt := Classical.choose_spec zshr_x x y
theorem zushr_x : ∃ f : Int → Int → Int, ∀ x y : Int, f x y = ((Int32.ofInt x).toUInt32 >>> ((Int32.ofInt y).toUInt32 &&& Int32.toUInt32 31)).toInt32.toInt := ⟨fun x y => ((Int32.ofInt x).toUInt32 >>> ((Int32.ofInt y).toUInt32 &&& Int32.toUInt32 31)).toInt32.toInt, fun _ _ => rfl⟩
/-- hidden from the kernel, which would evaluate it -/
noncomputable def zushr : Int → Int → Int := Classical.choose zushr_x
theorem zushr_d (x y : Int) : zushr x y = ((Int32.ofInt x).toUInt32 >>> ((Int32.ofInt y).toUInt32 &&& Int32.toUInt32 31)).toInt32.toInt := Classical.choose_spec zushr_x x y
def zcmp (x y : Int) : Int := if y < x then 1 else if x = y then 0 else -1
theorem z_rem {x y : Int} (hx : inR x) (h0 : 0 < y) (hy : y < 2147483648) : Int32.ofInt x - Int32.ofInt x / Int32.ofInt y * Int32.ofInt y = Int32.ofInt (x.tmod y) := by
  have hyr : inR y := ⟨by omega, hy⟩
  have h1 : (Int32.ofInt x / Int32.ofInt y).toInt = x.tdiv y := by
    rw [Int32.toInt_div_of_ne_right _ _ (by rw [← z_t hyr] at h0; intro h; rw [h] at h0; exact absurd h0 (by decide)), z_t hx, z_t hyr]
  rw [← Int32.ofInt_toInt (Int32.ofInt x / Int32.ofInt y), h1, ← Int32.ofInt_mul, ← Int32.ofInt_sub]
  congr 1
  have := Int.tmod_add_mul_tdiv x y
  rw [Int.mul_comm] at this
  omega
theorem z_div {x y : Int} (hx : inR x) (h0 : 0 < y) (hy : y < 2147483648) : Int32.ofInt x / Int32.ofInt y = Int32.ofInt (x.tdiv y) := by
  have hyr : inR y := ⟨by omega, hy⟩
  rw [← Int32.ofInt_toInt (Int32.ofInt x / Int32.ofInt y), Int32.toInt_div_of_ne_right _ _ (by rw [← z_t hyr] at h0; intro h; rw [h] at h0; exact absurd h0 (by decide)), z_t hx, z_t hyr]
theorem z_lrem {x y : Int} (hx : inL x) (h0 : 0 < y) (hy : y < 9223372036854775808) : Int64.ofInt x - Int64.ofInt x / Int64.ofInt y * Int64.ofInt y = Int64.ofInt (x.tmod y) := by
  have hyr : inL y := ⟨by omega, hy⟩
  have h1 : (Int64.ofInt x / Int64.ofInt y).toInt = x.tdiv y := by
    rw [Int64.toInt_div_of_ne_right _ _ (by rw [← z_tl hyr] at h0; intro h; rw [h] at h0; exact absurd h0 (by decide)), z_tl hx, z_tl hyr]
  rw [← Int64.ofInt_toInt (Int64.ofInt x / Int64.ofInt y), h1, ← Int64.ofInt_mul, ← Int64.ofInt_sub]
  congr 1
  have := Int.tmod_add_mul_tdiv x y
  rw [Int.mul_comm] at this
  omega
theorem z_ne0 {y : Int} (h0 : 0 < y) (hy : y < 2147483648) : ¬ Int32.ofInt y = 0 := by
  rw [show (0 : Int32) = Int32.ofInt 0 from rfl, z_eq ⟨by omega, hy⟩ ⟨by omega, by omega⟩]; omega
theorem z_ne0l {y : Int} (h0 : 0 < y) (hy : y < 9223372036854775808) : ¬ Int64.ofInt y = 0 := by
  rw [show (0 : Int64) = Int64.ofInt 0 from rfl, ← Int64.toInt_inj, z_tl ⟨by omega, hy⟩, z_tl ⟨by omega, by omega⟩]; omega
theorem z_wide {x : Int} (hx : inR x) : (Int32.ofInt x).toInt64 = Int64.ofInt x := Int32.toInt64_ofInt (by have := hx.1; show (-2147483648 : Int) ≤ x; omega) (by have := hx.2; show x ≤ (2147483647 : Int); omega)
theorem z_cmp {x y : Int} (hx : inL x) (hy : inL y) : lg_cmp (Int64.ofInt x) (Int64.ofInt y) = Int32.ofInt (zcmp x y) := by
  unfold lg_cmp zcmp
  have e1 : (Int64.ofInt x > Int64.ofInt y) ↔ y < x := by show Int64.ofInt y < Int64.ofInt x ↔ _; rw [Int64.lt_iff_toInt_lt, z_tl hx, z_tl hy]
  have e2 : (Int64.ofInt x = Int64.ofInt y) ↔ x = y := by rw [← Int64.toInt_inj, z_tl hx, z_tl hy]
  by_cases h1 : y < x
  · rw [if_pos (e1.mpr h1), if_pos h1]; rfl
  · rw [if_neg (fun h => h1 (e1.mp h)), if_neg h1]
    by_cases h2 : x = y
    · rw [if_pos (e2.mpr h2), if_pos h2]; rfl
    · rw [if_neg (fun h => h2 (e2.mp h)), if_neg h2]; rfl
