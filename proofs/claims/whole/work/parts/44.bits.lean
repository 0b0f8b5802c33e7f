/-! bits: rows of kit/laws/BITS.to-paste, and of zand, zor, zshl, zshr by their bits -/
def bt (x : Int32) (i : Nat) : Bool := x.toBitVec.getLsbD i
theorem b_ext {x y : Int32} (h : ∀ i, i < 32 → bt x i = bt y i) : x = y := Int32.toBitVec_inj.mp (BitVec.eq_of_getLsbD_eq (fun i hi => h i hi))
theorem b_or (x y : Int32) (i : Nat) : bt (x ||| y) i = (bt x i || bt y i) := by unfold bt; rw [Int32.toBitVec_or, BitVec.getLsbD_or]
theorem b_and (x y : Int32) (i : Nat) : bt (x &&& y) i = (bt x i && bt y i) := by unfold bt; rw [Int32.toBitVec_and, BitVec.getLsbD_and]
theorem b_xor (x y : Int32) (i : Nat) : bt (x ^^^ y) i = (bt x i ^^ bt y i) := by unfold bt; rw [Int32.toBitVec_xor, BitVec.getLsbD_xor]
theorem b_big {x : Int32} {i : Nat} (h : 32 ≤ i) : bt x i = false := BitVec.getLsbD_of_ge _ _ h
theorem b_m1 : ∀ i, i < 32 → bt (-1) i = true := by decide +kernel
theorem b_0 (i : Nat) : bt 0 i = false := BitVec.getLsbD_zero
theorem s_l : ∀ n, n < 32 → ((nI n &&& 31).toBitVec.smod 32).toNat = n := by decide +kernel
theorem b_shl (n : Nat) (hn : n < 32) (x : Int32) {i : Nat} (hi : i < 32) : bt (x <<< (nI n &&& 31)) i = (decide (n ≤ i) && bt x (i - n)) := by
  unfold bt
  rw [Int32.toBitVec_shiftLeft]
  show (x.toBitVec <<< ((nI n &&& 31).toBitVec.smod 32).toNat).getLsbD i = _
  rw [s_l n hn, BitVec.getLsbD_shiftLeft]
  rcases Nat.lt_or_ge i n with h | h
  · simp [h, Nat.not_le.mpr h]
  · simp [hi, h, Nat.not_lt.mpr h]
theorem b_sshr (n : Nat) (hn : n < 32) (x : Int32) {i : Nat} (hi : i < 32) : bt (x >>> (nI n &&& 31)) i = if n + i < 32 then bt x (n + i) else bt x 31 := by
  unfold bt
  rw [Int32.toBitVec_shiftRight]
  show (x.toBitVec.sshiftRight ((nI n &&& 31).toBitVec.smod 32).toNat).getLsbD i = _
  rw [s_l n hn, BitVec.getLsbD_sshiftRight, BitVec.msb_eq_getLsbD_last]
  simp [hi]
def zt (x : Int) (i : Nat) : Bool := bt (Int32.ofInt x) i
theorem zof (x : Int32) : Int32.ofInt x.toInt = x := Int32.ofInt_toInt x
theorem zor_R {x y : Int} : inR (zor x y) := by rw [zor_d]; exact ⟨Int32.le_toInt _, Int32.toInt_lt _⟩
theorem zshl_R {x y : Int} : inR (zshl x y) := by rw [zshl_d]; exact ⟨Int32.le_toInt _, Int32.toInt_lt _⟩
theorem zshr_R {x y : Int} : inR (zshr x y) := by rw [zshr_d]; exact ⟨Int32.le_toInt _, Int32.toInt_lt _⟩
theorem zt_or (x y : Int) (i : Nat) : zt (zor x y) i = (zt x i || zt y i) := by unfold zt; rw [zor_d, zof, b_or]
theorem zt_and (x y : Int) (i : Nat) : zt (zand x y) i = (zt x i && zt y i) := by unfold zt; rw [zand_d, zof, b_and]
theorem zt_xor (x y : Int) (i : Nat) : zt (zxor x y) i = (zt x i ^^ zt y i) := by unfold zt; rw [zxor_d, zof, b_xor]
theorem zt_0 (i : Nat) : zt 0 i = false := b_0 i
theorem zt_m1 {i : Nat} (h : i < 32) : zt (-1) i = true := b_m1 i h
theorem zt_big {x : Int} {i : Nat} (h : 32 ≤ i) : zt x i = false := b_big h
theorem z_nI {b : Int} (h : 0 ≤ b) : Int32.ofInt b = nI b.toNat := by
  have : b = (b.toNat : Int) := by omega
  rw [this]; rfl
theorem zt_shl {x b : Int} {i : Nat} (hb : 0 ≤ b ∧ b < 32) (hi : i < 32) : zt (zshl x b) i = (decide (b.toNat ≤ i) && zt x (i - b.toNat)) := by
  unfold zt; rw [zshl_d, zof, z_nI hb.1, b_shl _ (by omega) _ hi]
theorem zt_shr {x b : Int} {i : Nat} (hb : 0 ≤ b ∧ b < 32) (hi : i < 32) : zt (zshr x b) i = if b.toNat + i < 32 then zt x (b.toNat + i) else zt x 31 := by
  unfold zt; rw [zshr_d, zof, z_nI hb.1, b_sshr _ (by omega) _ hi]
theorem zt_1 : ∀ i, i < 32 → zt 1 i = decide (i = 0) := by decide +kernel
theorem zt_one {b : Int} {i : Nat} (hb : 0 ≤ b ∧ b < 32) (hi : i < 32) : zt (zshl 1 b) i = decide (i = b.toNat) := by
  rw [zt_shl hb hi, zt_1 _ (by omega)]
  by_cases h : i = b.toNat
  · subst h; simp
  · by_cases h2 : b.toNat ≤ i
    · simp [h, h2]; omega
    · simp [h, h2]
theorem z_ext {x y : Int} (hx : inR x) (hy : inR y) (h : ∀ i, i < 32 → zt x i = zt y i) : x = y := (z_eq hx hy).mp (b_ext h)
theorem zb_t {x b : Int} (hb : 0 ≤ b ∧ b < 32) : zb x b = if zt x b.toNat = true then 1 else 0 := by
  have h1 : ∀ i, i < 32 → zt (zb x b) i = zt (if zt x b.toNat = true then 1 else 0) i := by
    intro i hi
    unfold zb
    rw [zt_and, zt_1 i hi, zt_shr hb hi]
    by_cases h0 : i = 0
    · subst h0
      rw [if_pos (by omega)]
      cases h : zt x b.toNat
      · simp [h, zt_0]
      · simp [h, zt_1 0 (by omega)]
    · simp only [h0, decide_false, Bool.and_false]
      split
      · rw [zt_1 i hi]; simp [h0]
      · rw [zt_0]
  refine z_ext zb_R ?_ h1
  split <;> exact ⟨by omega, by omega⟩
theorem zb_01 {x b : Int} (hb : 0 ≤ b ∧ b < 32) : 0 ≤ zb x b ∧ zb x b ≤ 1 := by rw [zb_t hb]; split <;> omega
theorem zb_1 {x b : Int} (hb : 0 ≤ b ∧ b < 32) : zb x b = 1 ↔ zt x b.toNat = true := by
  rw [zb_t hb]
  cases zt x b.toNat <;> simp
theorem zb_or1 {x b c : Int} (hb : 0 ≤ b ∧ b < 32) (hc : 0 ≤ c ∧ c < 32) : zb (zor x (zshl 1 b)) c = if c = b then 1 else zb x c := by
  rw [zb_t hc, zb_t hc, zt_or, zt_one hb (by omega)]
  by_cases h : c = b
  · subst h; simp
  · have : ¬ c.toNat = b.toNat := by omega
    simp [h, this]
theorem zor_0 {x : Int} (hx : inR x) : zor x 0 = x := z_ext zor_R hx (fun i _ => by rw [zt_or, zt_0, Bool.or_false])
theorem zt_bp {p : Prop} : bp p = 1 ↔ p := by
  by_cases h : p
  · rw [bp_t h]; simp [h]
  · rw [bp_f h]; simp [h]
-- the ranges, as rows for the machine
theorem R_bi {p : Prop} [Decidable p] : inR (bi p) = True := eq_true bi_R
theorem R_bp {p : Prop} : inR (bp p) = True := eq_true bp_R
theorem R_and {x y : Int} : inR (zand x y) = True := eq_true zand_R
theorem R_or {x y : Int} : inR (zor x y) = True := eq_true zor_R
theorem R_shl {x y : Int} : inR (zshl x y) = True := eq_true zshl_R
theorem R_shr {x y : Int} : inR (zshr x y) = True := eq_true zshr_R
theorem bi_01e {p : Prop} [Decidable p] : (bi p = 0 ∨ bi p = 1) = True := eq_true bi_01
theorem bp_01e {p : Prop} : (bp p = 0 ∨ bp p = 1) = True := eq_true bp_01
theorem zb_d {x b : Int} : zand (zshr x b) 1 = zb x b := rfl
theorem R_zb {x y : Int} : inR (zb x y) = True := eq_true zb_R
theorem mu_e {M : Mem} {a k : Nat} {e : CE} (h : k = a) : mu M a e k = some e := by subst h; exact mu_s _ _ _
theorem mu_o {M : Mem} {a k : Nat} {e : CE} (h : ¬ k = a) : mu M a e k = M k := mu_n _ _ h
theorem rg_e {p b t : Int} (h : -16 ≤ t) : rg p b t = p + 16 * b + t % 16 := by
  unfold rg
  rw [Int.tmod_eq_emod_of_nonneg (by omega)]
  omega
theorem wp_i {own : String} {bz : Nat} {sx : Nat → Option (Nat × (Nat → Int))} {A : ATy} {Rt : Option AV → Mem → Prop} {cc : ByteArray} {stops : List Nat} {n pc : Nat} {ls : List (Option AV)} {st : List AV} {M : Mem} : wp own bz sx A Rt cc stops (n + 1) pc ls st M = if stops.contains pc = true then A pc ls st M else os (A pc ls st M) (fet cc pc) (exi own bz sx (A pc ls st M) pc ls st M (wp own bz sx A Rt cc stops n) Rt) := by
  rw [wp_n]
  cases stops.contains pc with
  | true => rw [if_pos rfl]; rfl
  | false => rw [if_neg (by decide)]; rfl
