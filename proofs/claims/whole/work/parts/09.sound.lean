/-! EACH INSTRUCTION OF exi IS SOUND -/
theorem ocons_x {α : Type} {o : α} {l : Option (List α)} {r : List α} : ocons o l = some r ↔ ∃ q, l = some q ∧ o :: q = r := by
  cases l <;> simp [ocons]
theorem nth_get {ls : List (Option AV)} {i : Nat} {v : AV} (h : nth ls i = some v) : ls[i]? = some (some v) := by
  induction ls generalizing i with
  | nil => simp [nth] at h
  | cons o t ih => cases i with
    | zero => simp only [nth] at h; simp [h]
    | succ i => simp only [nth] at h; simpa using ih h
theorem nthV_get {fs : List AV} {i : Nat} {v : AV} (h : nthV fs i = some v) : fs[i]? = some v := by
  induction fs generalizing i with
  | nil => simp [nthV] at h
  | cons o t ih => cases i with
    | zero => simp only [nthV] at h; simpa using h
    | succ i => simp only [nthV] at h; simpa using ih h
theorem setV_get {fs fs' : List AV} {i : Nat} {v : AV} (h : setV fs i v = some fs') : i < fs.length ∧ fs' = fs.set i v := by
  induction fs generalizing i fs' with
  | nil => simp [setV] at h
  | cons o t ih => cases i with
    | zero => simp only [setV, Option.some.injEq] at h; subst h; simp
    | succ i =>
      simp only [setV, ocons_x] at h
      obtain ⟨l, h1, h2⟩ := h
      obtain ⟨h3, h4⟩ := ih h1
      subst h4; subst h2
      exact ⟨by simpa using h3, by simp⟩
def isLg (v : AV) : Prop := match v with
  | .inr (.inl _) => True
  | _ => False
theorem clr_some {o : Option AV} {w : AV} (h : clr o = some w) : o = some w ∧ ¬ isLg w := by
  match o, h with
  | none, h => simp [clr] at h
  | some (.inl z), h => simp only [clr, Option.some.injEq] at h; subst h; exact ⟨rfl, fun q => q⟩
  | some (.inr (.inl z)), h => simp [clr] at h
  | some (.inr (.inr z)), h => simp only [clr, Option.some.injEq] at h; subst h; exact ⟨rfl, fun q => q⟩
theorem stl_get {i : Nat} {v : AV} {ls ls' : List (Option AV)} (h : stl i v ls = some ls') : i < ls.length ∧ ls'.length = ls.length ∧ ∀ (j : Nat) (w : AV), ls'[j]? = some (some w) → (j = i ∧ w = v) ∨ (j ≠ i ∧ ls[j]? = some (some w) ∧ ¬ (j + 1 = i ∧ isLg w)) := by
  induction ls generalizing i ls' with
  | nil => cases i with
    | zero => simp [stl] at h
    | succ i => cases i <;> simp [stl] at h
  | cons o t ih =>
    match i, h with
    | 0, h =>
      simp only [stl, Option.some.injEq] at h; subst h
      refine ⟨by simp, by simp, fun j w hj => ?_⟩
      cases j with
      | zero => left; simp at hj; exact ⟨rfl, hj.symm⟩
      | succ j => right; exact ⟨by omega, by simpa using hj, by omega⟩
    | 1, h =>
      match t, h with
      | [], h => simp [stl] at h
      | o2 :: t, h =>
        simp only [stl, Option.some.injEq] at h; subst h
        refine ⟨by simp, by simp, fun j w hj => ?_⟩
        match j, hj with
        | 0, hj =>
          right
          simp only [List.getElem?_cons_zero, Option.some.injEq] at hj
          obtain ⟨h1, h2⟩ := clr_some hj
          exact ⟨by omega, by simp [h1], fun q => h2 q.2⟩
        | 1, hj => left; simp at hj; exact ⟨rfl, hj.symm⟩
        | j + 2, hj => right; exact ⟨by omega, by simpa using hj, by omega⟩
    | i + 2, h =>
      simp only [stl, ocons_x] at h
      obtain ⟨l, h1, h2⟩ := h
      subst h2
      obtain ⟨g1, g2, g3⟩ := ih h1
      refine ⟨by simp; omega, by simpa using g2, fun j w hj => ?_⟩
      cases j with
      | zero => right; exact ⟨by omega, by simpa using hj, by omega⟩
      | succ j =>
        rcases g3 j w (by simpa using hj) with ⟨q1, q2⟩ | ⟨q1, q2, q3⟩
        · left; exact ⟨by omega, q2⟩
        · right; exact ⟨by omega, by simpa using q2, fun q => q3 ⟨by omega, q.2⟩⟩
theorem stl2_get {i : Nat} {v : AV} {ls ls' : List (Option AV)} (h : stl2 i v ls = some ls') : i + 1 < ls.length ∧ ls'.length = ls.length ∧ ∀ (j : Nat) (w : AV), ls'[j]? = some (some w) → (j = i ∧ w = v) ∨ (j ≠ i ∧ j ≠ i + 1 ∧ ls[j]? = some (some w) ∧ ¬ (j + 1 = i ∧ isLg w)) := by
  induction ls generalizing i ls' with
  | nil => cases i with
    | zero => simp [stl2] at h
    | succ i => cases i <;> simp [stl2] at h
  | cons o t ih =>
    match i, h with
    | 0, h =>
      match t, h with
      | [], h => simp [stl2] at h
      | o2 :: t, h =>
        simp only [stl2, Option.some.injEq] at h; subst h
        refine ⟨by simp, by simp, fun j w hj => ?_⟩
        match j, hj with
        | 0, hj => left; simp at hj; exact ⟨rfl, hj.symm⟩
        | 1, hj => simp at hj
        | j + 2, hj => right; exact ⟨by omega, by omega, by simpa using hj, by omega⟩
    | 1, h =>
      match t, h with
      | [], h => simp [stl2] at h
      | [o2], h => simp [stl2] at h
      | o2 :: o3 :: t, h =>
        simp only [stl2, Option.some.injEq] at h; subst h
        refine ⟨by simp, by simp, fun j w hj => ?_⟩
        match j, hj with
        | 0, hj =>
          right
          simp only [List.getElem?_cons_zero, Option.some.injEq] at hj
          obtain ⟨h1, h2⟩ := clr_some hj
          exact ⟨by omega, by omega, by simp [h1], fun q => h2 q.2⟩
        | 1, hj => left; simp at hj; exact ⟨rfl, hj.symm⟩
        | 2, hj => simp at hj
        | j + 3, hj => right; exact ⟨by omega, by omega, by simpa using hj, by omega⟩
    | i + 2, h =>
      simp only [stl2, ocons_x] at h
      obtain ⟨l, h1, h2⟩ := h
      subst h2
      obtain ⟨g1, g2, g3⟩ := ih h1
      refine ⟨by simp; omega, by simpa using g2, fun j w hj => ?_⟩
      cases j with
      | zero => right; exact ⟨by omega, by omega, by simpa using hj, by omega⟩
      | succ j =>
        rcases g3 j w (by simpa using hj) with ⟨q1, q2⟩ | ⟨q1, q2, q3, q4⟩
        · left; exact ⟨by omega, q2⟩
        · right; exact ⟨by omega, by omega, by simpa using q3, fun q => q4 ⟨by omega, q.2⟩⟩
def prs (B : Nat) : Nat → List (Option AV) → List (Nat × Value)
  | _, [] => []
  | k, some v :: t => (k, cv B v) :: prs B (k + 1) t
  | k, none :: t => prs B (k + 1) t
theorem prs_in {B : Nat} {k : Nat} {ls : List (Option AV)} {q : Nat × Value} : q ∈ prs B k ls ↔ ∃ (i : Nat) (v : AV), ls[i]? = some (some v) ∧ q = (k + i, cv B v) := by
  induction ls generalizing k with
  | nil => simp [prs]
  | cons o t ih =>
    cases o with
    | none =>
      simp only [prs]
      rw [ih]
      constructor
      · rintro ⟨i, v, h, e⟩; exact ⟨i + 1, v, by simpa using h, by rw [e]; congr 1; omega⟩
      · rintro ⟨i, v, h, e⟩
        cases i with
        | zero => simp at h
        | succ i => exact ⟨i, v, by simpa using h, by rw [e]; congr 1; omega⟩
    | some w =>
      simp only [prs, List.mem_cons]
      rw [ih]
      constructor
      · rintro (e | ⟨i, v, h, e⟩)
        · exact ⟨0, w, by simp, by rw [e]; simp⟩
        · exact ⟨i + 1, v, by simpa using h, by rw [e]; congr 1; omega⟩
      · rintro ⟨i, v, h, e⟩
        cases i with
        | zero => left; simp at h; rw [e, h]; simp
        | succ i => right; exact ⟨i, v, by simpa using h, by rw [e]; congr 1; omega⟩
theorem cv_cat (B : Nat) (v : AV) : (cv B v).category = 2 ↔ isLg v := by
  match v with
  | .inl z => simp [cv, Value.category, isLg]
  | .inr (.inl z) => simp [cv, Value.category, isLg]
  | .inr (.inr (.inl (some z))) => simp [cv, Value.category, isLg]
  | .inr (.inr (.inl none)) => simp [cv, Value.category, isLg]
  | .inr (.inr (.inr z)) => simp [cv, Value.category, isLg]
theorem LH.has {B : Nat} {lsA : Array Slot} {nL : Nat} {ls : List (Option AV)} (h : LH B lsA nL ls) : lv_has lsA nL (prs B 0 ls) := ⟨h.1, h.2.1, fun q hq => by
  obtain ⟨i, v, h1, e⟩ := prs_in.mp hq
  rw [e]; simpa using h.2.2.2 i v h1⟩
theorem LH.at {B : Nat} {lsA : Array Slot} {nL : Nat} {ls : List (Option AV)} (h : LH B lsA nL ls) {i : Nat} {v : AV} (hi : nth ls i = some v) : lsA[i]? = some (.val (cv B v)) := h.2.2.2 i v (nth_get hi)
theorem LH.st {B : Nat} {lsA lsA' : Array Slot} {nL : Nat} {ls ls' : List (Option AV)} {i : Nat} {v : AV} (h : LH B lsA nL ls) (hs : stl i v ls = some ls')
    (g : lv_has lsA' nL ((i, cv B v) :: (prs B 0 ls).filter (fun q => !(q.1 == i) && !(q.1 + 1 == i && q.2.category == 2)))) : LH B lsA' nL ls' := by
  obtain ⟨s1, s2, s3⟩ := stl_get hs
  refine ⟨g.1, g.2.1, by rw [s2]; exact h.2.2.1, fun j w hj => ?_⟩
  rcases s3 j w hj with ⟨q1, q2⟩ | ⟨q1, q2, q3⟩
  · subst q1; subst q2; exact g.2.2 (j, cv B w) (by simp)
  · refine g.2.2 (j, cv B w) (List.mem_cons_of_mem _ (List.mem_filter.mpr ⟨prs_in.mpr ⟨j, w, q2, by simp⟩, ?_⟩))
    have e : (cv B w).category == 2 → isLg w := fun q => (cv_cat B w).mp (by simpa using q)
    by_cases hji : j + 1 = i
    · have : ¬ isLg w := fun q => q3 ⟨hji, q⟩
      simp only [Bool.and_eq_true, Bool.not_eq_true', beq_eq_false_iff_ne, ne_eq, Bool.and_eq_false_iff]
      exact ⟨q1, Or.inr (by simpa using fun q => this ((cv_cat B w).mp q))⟩
    · simp only [Bool.and_eq_true, Bool.not_eq_true', beq_eq_false_iff_ne, ne_eq, Bool.and_eq_false_iff]
      exact ⟨q1, Or.inl hji⟩
theorem LH.st2 {B : Nat} {lsA lsA' : Array Slot} {nL : Nat} {ls ls' : List (Option AV)} {i : Nat} {v : AV} (h : LH B lsA nL ls) (hs : stl2 i v ls = some ls')
    (g : lv_has lsA' nL ((i, cv B v) :: (prs B 0 ls).filter (fun q => !(q.1 == i) && (!(q.1 == i + 1) && !(q.1 + 1 == i && q.2.category == 2))))) : LH B lsA' nL ls' := by
  obtain ⟨s1, s2, s3⟩ := stl2_get hs
  refine ⟨g.1, g.2.1, by rw [s2]; exact h.2.2.1, fun j w hj => ?_⟩
  rcases s3 j w hj with ⟨q1, q2⟩ | ⟨q1, q0, q2, q3⟩
  · subst q1; subst q2; exact g.2.2 (j, cv B w) (by simp)
  · refine g.2.2 (j, cv B w) (List.mem_cons_of_mem _ (List.mem_filter.mpr ⟨prs_in.mpr ⟨j, w, q2, by simp⟩, ?_⟩))
    by_cases hji : j + 1 = i
    · have : ¬ isLg w := fun q => q3 ⟨hji, q⟩
      simp only [Bool.and_eq_true, Bool.not_eq_true', beq_eq_false_iff_ne, ne_eq, Bool.and_eq_false_iff]
      exact ⟨q1, q0, Or.inr (by simpa using fun q => this ((cv_cat B w).mp q))⟩
    · simp only [Bool.and_eq_true, Bool.not_eq_true', beq_eq_false_iff_ne, ne_eq, Bool.and_eq_false_iff]
      exact ⟨q1, q0, Or.inl hji⟩
theorem hP.one {D : va_G} {cI cS : ClassId} {B : Nat} {M : Mem} {H : Heap} (h : hP D cI cS B M H) {a : Nat} {e : CE} (ha : M a = some e) : va_P D pp_cls [(B + a, ce_v B cI cS e)] H := fun k q hk => by
  cases k with
  | zero => simp at hk; subst hk; exact h a e ha
  | succ k => simp at hk
theorem hP.set {D : va_G} {cI cS : ClassId} {B : Nat} {M : Mem} {H H1 : Heap} (h : hP D cI cS B M H) {a : Nat} {e : CE} (he : va_at D pp_cls (B + a, ce_v B cI cS e) H1) (o : ∀ q : Nat, q ≠ B + a → H1[q]? = H[q]?) : hP D cI cS B (mu M a e) H1 := fun k e' hk => by
  by_cases hka : k = a
  · subst hka
    rw [mu_s] at hk
    cases hk
    exact he
  · rw [mu_n _ _ hka] at hk
    exact (h k e' hk).kept (o _ (by show B + k ≠ B + a; omega))
set_option maxRecDepth 20000 in
theorem ftab_ok : ftab.all (fun q => match pp_cls[q.2.2.1]? with
  | some (_, T, N) => decide (q.2.2.2 < N) && decide (Cond.fieldLink q.1 q.2.1 (T q.2.2.2).1 (T q.2.2.2).2.1 (T q.2.2.2).2.2.1 ∈ lw_tbl)
  | none => false) = true := by decide +kernel
set_option maxRecDepth 20000 in
theorem itab_ok : itab.all (fun q => decide (Cond.constant q.1 q.2.1 (Int32.ofInt q.2.2) ∈ lw_tbl)) = true := by decide +kernel
set_option maxRecDepth 20000 in
theorem ltab_ok : ltab.all (fun q => decide (Cond.constantLong q.1 q.2.1 (Int64.ofInt q.2.2) ∈ lw_tbl)) = true := by decide +kernel
theorem tb_get_in {T : List (String × Nat × Nat × Nat)} {own : String} {i : Nat} {q : Nat × Nat} (h : tb_get T own i = some q) : (own, i, q.1, q.2) ∈ T := by
  unfold tb_get at h
  rw [Option.map_eq_some_iff] at h
  obtain ⟨r, h1, h2⟩ := h
  have hm := List.mem_of_find?_eq_some h1
  have hp := List.find?_some h1
  simp only [Bool.and_eq_true, beq_iff_eq] at hp
  obtain ⟨r1, r2, r3, r4⟩ := r
  simp only at hp h2
  obtain ⟨rfl, rfl⟩ := hp
  subst h2
  exact hm
theorem tb_int_in {T : List (String × Nat × Int)} {own : String} {i : Nat} {q : Int} (h : tb_int T own i = some q) : (own, i, q) ∈ T := by
  unfold tb_int at h
  rw [Option.map_eq_some_iff] at h
  obtain ⟨r, h1, h2⟩ := h
  have hm := List.mem_of_find?_eq_some h1
  have hp := List.find?_some h1
  simp only [Bool.and_eq_true, beq_iff_eq] at hp
  obtain ⟨r1, r2, r3⟩ := r
  simp only at hp h2
  obtain ⟨rfl, rfl⟩ := hp
  subst h2
  exact hm
theorem gf_ok {own : String} {i c k : Nat} (h : gf own i = some (c, k)) : ∃ (C : String) (T : u_T) (N : Nat), pp_cls[c]? = some (C, T, N) ∧ k < N ∧ Cond.fieldLink own i (T k).1 (T k).2.1 (T k).2.2.1 ∈ gw := by
  have h1 := List.all_eq_true.mp ftab_ok _ (tb_get_in h)
  simp only at h1
  cases hc : pp_cls[c]? with
  | none => rw [hc] at h1; simp at h1
  | some r =>
    obtain ⟨C, T, N⟩ := r
    rw [hc] at h1
    simp only [Bool.and_eq_true, decide_eq_true_eq] at h1
    exact ⟨C, T, N, rfl, h1.1, gw_in h1.2 rfl⟩
theorem gI_ok {own : String} {i : Nat} {z : Int} (h : gI own i = some z) : Cond.constant own i (Int32.ofInt z) ∈ gw := gw_in (by simpa using List.all_eq_true.mp itab_ok _ (tb_int_in h)) rfl
theorem gL_ok {own : String} {i : Nat} {z : Int} (h : gL own i = some z) : Cond.constantLong own i (Int64.ofInt z) ∈ gw := gw_in (by simpa using List.all_eq_true.mp ltab_ok _ (tb_int_in h)) rfl
theorem u_gw {C : String} {T : u_T} {N : Nat} (h : ∀ w ∈ u_ws C T N, w ∈ lw_tbl ∧ goodWord w = true) : ∀ w ∈ u_ws C T N, w ∈ gw := fun w hw => gw_in (h w hw).1 (h w hw).2
set_option maxRecDepth 20000 in
theorem cls_w : pp_cls.all (fun q => (u_ws q.1 q.2.1 q.2.2).all (fun w => decide (w ∈ lw_tbl) && goodWord w)) = true := by decide +kernel
theorem cls_ws {c : Nat} {C : String} {T : u_T} {N : Nat} (h : pp_cls[c]? = some (C, T, N)) : ∀ w ∈ u_ws C T N, w ∈ gw := fun w hw => by
  have h1 := List.all_eq_true.mp (List.all_eq_true.mp cls_w _ (List.mem_of_getElem? h)) w hw
  simp only [Bool.and_eq_true, decide_eq_true_eq] at h1
  exact gw_in h1.1 h1.2
theorem cls_tn {c : Nat} {C : String} {T : u_T} {N : Nat} (h : pp_cls[c]? = some (C, T, N)) : (∃ ty : Nat → FieldType, ∀ k, k < N → parseFieldDescriptor (T k).2.2.1 = some (ty k)) ∧ ∀ a, a < N → ∀ b, b < N → a ≠ b → (T a).2.1 ≠ (T b).2.1 := by
  match c, h with
  | 0, h => cases h; exact ⟨⟨tyX0, tyX0_ok⟩, nmX0⟩
  | 1, h => cases h; exact ⟨⟨tyX1, tyX1_ok⟩, nmX1⟩
  | 2, h => cases h; exact ⟨⟨tyX2, tyX2_ok⟩, nmX2⟩
  | 3, h => cases h; exact ⟨⟨tyX3, tyX3_ok⟩, nmX3⟩
  | 4, h => cases h; exact ⟨⟨tyX4, tyX4_ok⟩, nmX4⟩
  | 5, h => cases h; exact ⟨⟨tyX5, tyX5_ok⟩, nmX5⟩
  | 6, h => cases h; exact ⟨⟨tyX6, tyX6_ok⟩, nmX6⟩
  | 7, h => cases h; exact ⟨⟨tyX7, tyX7_ok⟩, nmX7⟩
  | 8, h => cases h; exact ⟨⟨tyX8, tyX8_ok⟩, nmX8⟩
  | c + 9, h => simp [pp_cls] at h
def ftOk (c k : Nat) : Bool := match pp_cls[c]? with
  | some (_, T, _) => match ft c k, parseFieldDescriptor (T k).2.2.1 with
    | 0, some .int => true
    | 1, some .boolean => true
    | 2, some (.object _) => true
    | 2, some (.array _) => true
    | 9, _ => true
    | _, _ => false
  | none => true
theorem ftOk_all : (List.range 9).all (fun c => (List.range 28).all (fun k => ftOk c k)) = true := by decide +kernel
