/-! THE ENGINE IS SOUND: the abstract walk is a walk of the machine -/
/-- the classes' and the array classes' numbers; where the cells begin; the script's cell, length, ints -/
abbrev Ev : Type := (Nat → ClassId) × (Nat → Nat → Nat) × (Nat → ClassId) × Nat × Nat
abbrev e_D (E : Ev) : va_G := (E.1, E.2.1)
abbrev e_cy (E : Ev) : Nat → ClassId := E.2.2.1
abbrev e_b (E : Ev) : Nat := E.2.2.2.1
abbrev e_sc (E : Ev) : Nat := E.2.2.2.2
def e_A (E : Ev) : Nat → Prop := fun q => e_b E ≤ q
def tyl (E : Ev) : List (ClassId × FieldType) := [(e_cy E 0, .byte), (e_cy E 1, .int), (e_cy E 2, .long), (e_cy E 3, .object RX1), (e_cy E 4, .object RX3), (e_cy E 5, .object RX6)]
def cv (E : Ev) (v : Value) : Value := match v with | .ref j => .ref (e_b E + j) | .retAddr n => bif Nat.beq n 1 then .ref (e_sc E) else .retAddr n | v => v
theorem cv_rfv (E : Ev) (o : Option Nat) : cv E (rfv o) = va_rf (o.map fun q => e_b E + q) := by cases o <;> rfl
theorem cv_cat (E : Ev) (v : Value) : (cv E v).category = v.category := by
  cases v <;> try rfl
  rename_i n
  show (bif Nat.beq n 1 then Value.ref (e_sc E) else .retAddr n).category = _
  cases Nat.beq n 1 <;> rfl
def clr (ci : Nat) : vw_C := vwCl.getD ci (RX1, TX1, 3)
def clty : Nat → Nat → FieldType := fun c => match c with
  | 0 => tyX0 | 1 => tyX1 | 2 => tyX2 | 3 => tyX3 | 4 => tyX4 | 5 => tyX5 | 6 => tyX6 | 7 => tyX7 | 8 => tyX8 | _ => tyX9
theorem lt10 {P : Nat → Prop} (h0 : P 0) (h1 : P 1) (h2 : P 2) (h3 : P 3) (h4 : P 4) (h5 : P 5) (h6 : P 6) (h7 : P 7) (h8 : P 8) (h9 : P 9) {c : Nat} (h : c < 10) : P c := by
  match c, h with
  | 0, _ => exact h0
  | 1, _ => exact h1
  | 2, _ => exact h2
  | 3, _ => exact h3
  | 4, _ => exact h4
  | 5, _ => exact h5
  | 6, _ => exact h6
  | 7, _ => exact h7
  | 8, _ => exact h8
  | 9, _ => exact h9
theorem cl_get {c : Nat} (h : c < 10) : vwCl[c]? = some (clr c) := lt10 (P := fun c => vwCl[c]? = some (clr c)) rfl rfl rfl rfl rfl rfl rfl rfl rfl rfl h
theorem cl_om {c : Nat} (h : c < 10) : ∀ w ∈ u_ws (clr c).1 (clr c).2.1 (clr c).2.2, w ∈ OM := lt10 (P := fun c => ∀ w ∈ u_ws (clr c).1 (clr c).2.1 (clr c).2.2, w ∈ OM) omX0 omX1 omX2 omX3 omX4 omX5 omX6 omX7 omX8 omX9 h
theorem cl_ty {c : Nat} (h : c < 10) : ∀ k, k < (clr c).2.2 → parseFieldDescriptor ((clr c).2.1 k).2.2.1 = some (clty c k) := lt10 (P := fun c => ∀ k, k < (clr c).2.2 → parseFieldDescriptor ((clr c).2.1 k).2.2.1 = some (clty c k)) tyX0_ok tyX1_ok tyX2_ok tyX3_ok tyX4_ok tyX5_ok tyX6_ok tyX7_ok tyX8_ok tyX9_ok h
theorem cl_nm {c : Nat} (h : c < 10) : ∀ a, a < (clr c).2.2 → ∀ b, b < (clr c).2.2 → a ≠ b → ((clr c).2.1 a).2.1 ≠ ((clr c).2.1 b).2.1 := lt10 (P := fun c => ∀ a, a < (clr c).2.2 → ∀ b, b < (clr c).2.2 → a ≠ b → ((clr c).2.1 a).2.1 ≠ ((clr c).2.1 b).2.1) nmX0 nmX1 nmX2 nmX3 nmX4 nmX5 nmX6 nmX7 nmX8 nmX9 h
def kdo (t : FieldType) : Nat := match t with | .int => 0 | .long => 1 | .boolean => 3 | .object _ => 2 | .array _ => 2 | _ => 9
theorem cl_fk : ∀ c, c < 10 → (fk c).length = (clr c).2.2 ∧ (ff c).length = (clr c).2.2 ∧ (clr c).2.2 ≤ 62 ∧ ∀ k, k < (clr c).2.2 → (fk c)[k]? = some (kdo (clty c k)) ∧ (ff c)[k]? = some ((clr c).2.1 k).2.2.2 ∧ ((clr c).2.1 k).1 = (clr c).1 := by decide +kernel
theorem cl_k3 : ∀ c, c < 10 → ∀ k, k < (clr c).2.2 → kdo (clty c k) ≤ 3 := by decide +kernel
theorem lay_ne : ∀ j, (LAY j).1 ≠ 99 ∧ (LAY j).1 ≠ 97 := by
  have h : ∀ q ∈ LAYL, q.1 ≠ 99 ∧ q.1 ≠ 97 := by decide +kernel
  intro j
  unfold LAY
  rw [List.getD_eq_getElem?_getD]
  cases e : LAYL[j]? with
  | none => exact ⟨by decide, by decide⟩
  | some q => exact h q (List.mem_of_getElem? e)
theorem lay_le : ∀ j, (LAY j).2 ≤ 400 := by
  have h : ∀ q ∈ LAYL, q.2 ≤ 400 := by decide +kernel
  intro j
  unfold LAY
  rw [List.getD_eq_getElem?_getD]
  cases e : LAYL[j]? with
  | none => exact Nat.zero_le _
  | some q => exact h q (List.mem_of_getElem? e)
def fvs (lg : LGt) (it : ITt) (rf : RFt) (j : Nat) (ks : List Nat) : List Value := ks.mapIdx fun k t => fva lg it rf j k t
def cellK (E : Ev) (lg : LGt) (it : ITt) (rf : RFt) (c n j : Nat) : va_E := match c with
  | 10 => .inl (e_cy E 0, n, .inl (it j))
  | 11 => .inl (e_cy E 1, n, .inl (it j))
  | 12 => .inl (e_cy E 2, n, .inr (.inl (lg j)))
  | 13 => .inl (e_cy E 3, n, .inr (.inr (.inr (.inr fun i => (rf j i).map fun q => e_b E + q))))
  | 14 => .inl (e_cy E 4, n, .inr (.inr (.inr (.inr fun i => (rf j i).map fun q => e_b E + q))))
  | 15 => .inl (e_cy E 5, n, .inr (.inr (.inr (.inr fun i => (rf j i).map fun q => e_b E + q))))
  | c => .inr (c, (fvs lg it rf j (fk c)).map (cv E))
theorem cellK_o {E : Ev} {lg : LGt} {it : ITt} {rf : RFt} {c n j : Nat} (h : c < 10) : cellK E lg it rf c n j = .inr (c, (fvs lg it rf j (fk c)).map (cv E)) := lt10 (P := fun c => cellK E lg it rf c n j = .inr (c, (fvs lg it rf j (fk c)).map (cv E))) rfl rfl rfl rfl rfl rfl rfl rfl rfl rfl h
def cellv (E : Ev) (lg : LGt) (it : ITt) (rf : RFt) (j : Nat) : va_E := cellK E lg it rf (LAY j).1 (LAY j).2 j
theorem cellv_eq {E : Ev} {lg lg' : LGt} {it it' : ITt} {rf rf' : RFt} {j : Nat} (h1 : lg' j = lg j) (h2 : it' j = it j) (h3 : rf' j = rf j) : cellv E lg' it' rf' j = cellv E lg it rf j := by
  unfold cellv cellK fvs fva
  rw [h1, h2, h3]
def WL (E : Ev) (N : Nat) (lg : LGt) (it : ITt) (rf : RFt) : va_W := (List.range N).map fun j => (e_b E + j, cellv E lg it rf j)
theorem WL_get {E : Ev} {N : Nat} {lg : LGt} {it : ITt} {rf : RFt} {j : Nat} (h : j < N) : (WL E N lg it rf)[j]? = some (e_b E + j, cellv E lg it rf j) := by
  simp [WL, List.getElem?_range h]
theorem WL_len {E : Ev} {N : Nat} {lg : LGt} {it : ITt} {rf : RFt} : (WL E N lg it rf).length = N := by simp [WL]
theorem WL_inv {E : Ev} {N : Nat} {lg : LGt} {it : ITt} {rf : RFt} {k : Nat} {q : Nat × va_E} (h : (WL E N lg it rf)[k]? = some q) : k < N ∧ q = (e_b E + k, cellv E lg it rf k) := by
  have hk : k < N := by have := (List.getElem?_eq_some_iff.mp h).1; rwa [WL_len] at this
  rw [WL_get hk] at h
  exact ⟨hk, (Option.some.inj h).symm⟩
theorem WL_D {E : Ev} {N : Nat} {lg : LGt} {it : ITt} {rf : RFt} : va_D (e_A E) (WL E N lg it rf) := by
  refine ⟨fun i j p q h1 h2 h => ?_, fun k q h => ?_⟩
  · obtain ⟨-, rfl⟩ := WL_inv h1
    obtain ⟨-, rfl⟩ := WL_inv h2
    exact Nat.add_left_cancel h
  · obtain ⟨-, rfl⟩ := WL_inv h
    exact Nat.le_add_right _ _
theorem WL_set {E : Ev} {N : Nat} {lg lg' : LGt} {it it' : ITt} {rf rf' : RFt} {j : Nat} {e : va_E} (hj : j < N) (he : e = cellv E lg' it' rf' j) (ho : ∀ i, i ≠ j → lg' i = lg i ∧ it' i = it i ∧ rf' i = rf i) :
    (WL E N lg it rf).set j (e_b E + j, e) = WL E N lg' it' rf' := by
  apply List.ext_getElem?
  intro i
  by_cases hi : i < N
  · rw [WL_get hi, List.getElem?_set]
    by_cases h : j = i
    · subst h
      rw [if_pos rfl, if_pos (by rw [WL_len]; exact hi), he]
    · obtain ⟨h1, h2, h3⟩ := ho i (fun q => h q.symm)
      rw [if_neg h, WL_get hi, cellv_eq h1 h2 h3]
  · rw [List.getElem?_eq_none (by rw [List.length_set, WL_len]; omega), List.getElem?_eq_none (by rw [WL_len]; omega)]
theorem u2_row {α : Type} {f : Nat → Nat → α} {j k i : Nat} {v : α} (h : i ≠ j) : u2 f j k v i = f i := by
  funext b
  simp [u2, h]
theorem zr_row {α : Type} {z : α} {f : Nat → Nat → α} {j i : Nat} (h : i ≠ j) : zr z f j i = f i := by
  funext b
  simp [zr, h]
theorem zr_self {α : Type} {z : α} {f : Nat → Nat → α} {j : Nat} : zr z f j j = fun _ => z := by
  funext b
  simp [zr]
theorem WL_P1 {E : Ev} {N : Nat} {lg lg' : LGt} {it it' : ITt} {rf rf' : RFt} {H H1 : Heap} (hP : va_P (e_D E) vwCl (WL E N lg it rf) H) (hk : ∀ q, q < e_b E + N → H1[q]? = H[q]?) (ho : ∀ i, i ≠ N → lg' i = lg i ∧ it' i = it i ∧ rf' i = rf i)
    (hn : va_at (e_D E) vwCl (e_b E + N, cellv E lg' it' rf' N) H1) : va_P (e_D E) vwCl (WL E (N + 1) lg' it' rf') H1 := by
  intro k q hq
  obtain ⟨h1, rfl⟩ := WL_inv hq
  by_cases h : k = N
  · subst h
    exact hn
  · have hk2 : k < N := by omega
    obtain ⟨e1, e2, e3⟩ := ho k h
    rw [cellv_eq e1 e2 e3]
    exact (hP k _ (WL_get hk2)).kept (hk _ (by show e_b E + k < _; omega))
def lva (E : Ev) : Nat → List Value → List (Nat × Value)
  | _, [] => []
  | i, v :: t => bif isU v then lva E (i + 1) t else (i, cv E v) :: lva E (i + 1) t
theorem lva_mem {E : Ev} : ∀ {ls : List Value} {i k : Nat} {w : Value}, (k, w) ∈ lva E i ls ↔ ∃ d v, k = i + d ∧ ls[d]? = some v ∧ isU v = false ∧ w = cv E v
  | [], i, k, w => by simp [lva]
  | v :: t, i, k, w => by
    unfold lva
    have ih := lva_mem (E := E) (ls := t) (i := i + 1) (k := k) (w := w)
    cases hu : isU v with
    | true =>
      simp only [cond_true]
      rw [ih]
      constructor
      · rintro ⟨d, v', e, h1, h2, h3⟩
        exact ⟨d + 1, v', by omega, by simpa using h1, h2, h3⟩
      · rintro ⟨d, v', e, h1, h2, h3⟩
        cases d with
        | zero => simp only [List.getElem?_cons_zero, Option.some.injEq] at h1; subst h1; rw [hu] at h2; cases h2
        | succ d => exact ⟨d, v', by omega, by simpa using h1, h2, h3⟩
    | false =>
      simp only [cond_false, List.mem_cons, Prod.mk.injEq]
      rw [ih]
      constructor
      · rintro (⟨e1, e2⟩ | ⟨d, v', e, h1, h2, h3⟩)
        · exact ⟨0, v, by omega, rfl, hu, e2⟩
        · exact ⟨d + 1, v', by omega, by simpa using h1, h2, h3⟩
      · rintro ⟨d, v', e, h1, h2, h3⟩
        cases d with
        | zero => simp only [List.getElem?_cons_zero, Option.some.injEq] at h1; subst h1; exact Or.inl ⟨by omega, h3⟩
        | succ d => exact Or.inr ⟨d, v', by omega, by simpa using h1, h2, h3⟩
theorem lv_ld {E : Ev} {arr : Array Slot} {nL : Nat} {ls : List Value} (h : lv_has arr nL (lva E 0 ls)) {k : Nat} {v : Value} (hk : ls[k]? = some v) (hu : isU v = false) : arr[k]? = some (.val (cv E v)) :=
  h.2.2 (k, cv E v) (lva_mem.mpr ⟨k, v, by omega, hk, hu, rfl⟩)
theorem stc_s {ls : List Value} {k : Nat} : stc ls (k + 1) = match ls[k]? with | some w => bif Nat.beq w.category 2 then ls.set k uu else ls | none => ls := rfl
theorem stc_len {ls : List Value} {i : Nat} : (stc ls i).length = ls.length := by
  cases i with
  | zero => rfl
  | succ k =>
    rw [stc_s]
    cases ls[k]? with
    | none => rfl
    | some w =>
      show (bif Nat.beq w.category 2 then ls.set k uu else ls).length = _
      cases h : Nat.beq w.category 2 <;> simp
theorem stc_get {ls : List Value} {i d : Nat} {v : Value} (hu : isU v = false) (h : (stc ls i)[d]? = some v) : ls[d]? = some v ∧ (d + 1 = i → ¬ v.category = 2) := by
  cases i with
  | zero => exact ⟨h, fun q => by omega⟩
  | succ k =>
    rw [stc_s] at h
    cases hw : ls[k]? with
    | none =>
      rw [hw] at h
      refine ⟨h, fun q => ?_⟩
      have : d = k := by omega
      subst this
      have h' : ls[d]? = some v := h
      rw [hw] at h'
      cases h'
    | some w =>
      rw [hw] at h
      simp only at h
      cases hb : Nat.beq w.category 2 with
      | true =>
        rw [hb, cond_true, List.getElem?_set] at h
        by_cases e : k = d
        · subst e
          rw [if_pos rfl] at h
          split at h
          · have := Option.some.inj h
            subst this
            cases hu
          · cases h
        · rw [if_neg e] at h
          exact ⟨h, fun q => by omega⟩
      | false =>
        rw [hb, cond_false] at h
        refine ⟨h, fun q hc => ?_⟩
        have : d = k := by omega
        subst this
        rw [hw] at h
        cases h
        rw [show Nat.beq v.category 2 = true from by rw [hc]; rfl] at hb
        cases hb
theorem st1_has {E : Ev} {arr : Array Slot} {nL : Nat} {ls : List Value} {i : Nat} {v : Value} (h : lv_has arr nL ((i, cv E v) :: (lva E 0 ls).filter (fun q => !(q.1 == i) && !(q.1 + 1 == i && q.2.category == 2)))) : lv_has arr nL (lva E 0 (st1 ls i v)) := by
  refine ⟨h.1, h.2.1, fun q hq => h.2.2 q ?_⟩
  obtain ⟨k, w⟩ := q
  obtain ⟨d, v', e1, e2, e3, e4⟩ := lva_mem.mp hq
  have e1 : k = d := by omega
  subst e1
  unfold st1 at e2
  rw [List.getElem?_set] at e2
  by_cases hk : i = k
  · subst hk
    rw [if_pos rfl] at e2
    split at e2
    · cases e2
      exact e4 ▸ List.mem_cons_self
    · cases e2
  · rw [if_neg hk] at e2
    obtain ⟨f1, f2⟩ := stc_get e3 e2
    refine List.mem_cons_of_mem _ (List.mem_filter.mpr ⟨lva_mem.mpr ⟨k, v', by omega, f1, e3, e4⟩, ?_⟩)
    rw [e4]
    have c1 : (k == i) = false := by simp; exact fun q => hk q.symm
    simp only [c1, cv_cat, Bool.not_false, Bool.true_and, Bool.not_eq_true', Bool.and_eq_false_iff, beq_eq_false_iff_ne, ne_eq]
    by_cases hc : k + 1 = i
    · exact Or.inr (f2 hc)
    · exact Or.inl hc
theorem st2_has {E : Ev} {arr : Array Slot} {nL : Nat} {ls : List Value} {i : Nat} {v : Value} (h : lv_has arr nL ((i, cv E v) :: (lva E 0 ls).filter (fun q => !(q.1 == i) && (!(q.1 == i + 1) && !(q.1 + 1 == i && q.2.category == 2))))) : lv_has arr nL (lva E 0 (st2 ls i v)) := by
  refine ⟨h.1, h.2.1, fun q hq => h.2.2 q ?_⟩
  obtain ⟨k, w⟩ := q
  obtain ⟨d, v', e1, e2, e3, e4⟩ := lva_mem.mp hq
  have e1 : k = d := by omega
  subst e1
  unfold st2 at e2
  rw [List.getElem?_set] at e2
  by_cases hk1 : i + 1 = k
  · subst hk1
    rw [if_pos rfl] at e2
    split at e2
    · cases e2
      cases e3
    · cases e2
  · rw [if_neg hk1, List.getElem?_set] at e2
    by_cases hk : i = k
    · subst hk
      rw [if_pos rfl] at e2
      split at e2
      · cases e2
        exact e4 ▸ List.mem_cons_self
      · cases e2
    · rw [if_neg hk] at e2
      obtain ⟨f1, f2⟩ := stc_get e3 e2
      refine List.mem_cons_of_mem _ (List.mem_filter.mpr ⟨lva_mem.mpr ⟨k, v', by omega, f1, e3, e4⟩, ?_⟩)
      rw [e4]
      have c1 : (k == i) = false := by simp; exact fun q => hk q.symm
      have c2 : (k == i + 1) = false := by simp; exact fun q => hk1 q.symm
      simp only [c1, c2, cv_cat, Bool.not_false, Bool.true_and, Bool.not_eq_true', Bool.and_eq_false_iff, beq_eq_false_iff_ne, ne_eq]
      by_cases hc : k + 1 = i
      · exact Or.inr (f2 hc)
      · exact Or.inl hc
theorem st1_len {ls : List Value} {i : Nat} {v : Value} : (st1 ls i v).length = ls.length := by simp [st1, stc_len]
theorem st2_len {ls : List Value} {i : Nat} {v : Value} : (st2 ls i v).length = ls.length := by simp [st2, stc_len]
theorem p_i_s {st : List Value} {K : Int32 → List Value → Prop} (h : p_i st K) : ∃ x r, st = .int x :: r ∧ K x r := by
  unfold p_i at h
  split at h
  · exact ⟨_, _, rfl, h⟩
  · exact h.elim
theorem p_l_s {st : List Value} {K : Int64 → List Value → Prop} (h : p_l st K) : ∃ x r, st = .long x :: r ∧ K x r := by
  unfold p_l at h
  split at h
  · exact ⟨_, _, rfl, h⟩
  · exact h.elim
theorem p_r_s {st : List Value} {K : Nat → List Value → Prop} (h : p_r st K) : ∃ x r, st = .ref x :: r ∧ K x r := by
  unfold p_r at h
  split at h
  · exact ⟨_, _, rfl, h⟩
  · exact h.elim
theorem p_d_s {st : List Value} {K : Value → List Value → Prop} (h : p_d st K) : ∃ v r, st = v :: r ∧ v.category = 1 ∧ K v r := by
  unfold p_d at h
  split at h
  · exact ⟨_, _, rfl, rfl, h⟩
  · exact ⟨_, _, rfl, rfl, h⟩
  · exact h.elim
theorem ret_i_s {o : Option FieldType} {x : Int32} {A : Prop} (h : ret_i o x A) : (o = some .int ∧ A) ∨ (o = some .boolean ∧ x &&& 1 = x ∧ A) := by
  unfold ret_i at h
  split at h
  · exact Or.inl ⟨rfl, h⟩
  · exact Or.inr ⟨rfl, h⟩
  · exact h.elim
theorem ret_l_s {o : Option FieldType} {A : Prop} (h : ret_l o A) : o = some .long ∧ A := by
  unfold ret_l at h
  split at h
  · exact ⟨rfl, h⟩
  · exact h.elim
theorem ret_a_s {o : Option FieldType} {A : Prop} (h : ret_a o A) : ∃ n, o = some (.object n) ∧ A := by
  unfold ret_a at h
  split at h
  · exact ⟨_, rfl, h⟩
  · exact h.elim
theorem ret_v_s {o : Option FieldType} {A : Prop} (h : ret_v o A) : o = none ∧ A := by
  unfold ret_v at h
  split at h
  · exact ⟨rfl, h⟩
  · exact h.elim
theorem g_i_s {ls : List Value} {k : Nat} {K : Int32 → Prop} (h : g_i ls k K) : ∃ x, ls[k]? = some (.int x) ∧ K x := by
  unfold g_i at h
  split at h
  · rename_i e; exact ⟨_, e, h⟩
  · exact h.elim
theorem g_l_s {ls : List Value} {k : Nat} {K : Int64 → Prop} (h : g_l ls k K) : ∃ x, ls[k]? = some (.long x) ∧ K x := by
  unfold g_l at h
  split at h
  · rename_i e; exact ⟨_, e, h⟩
  · exact h.elim
theorem g_r_s {ls : List Value} {k : Nat} {K : Value → Prop} (h : g_r ls k K) : ∃ x, ls[k]? = some x ∧ ((∃ j, x = .ref j) ∨ x = .retAddr 1) ∧ K x := by
  unfold g_r at h
  split at h
  · rename_i e; exact ⟨_, e, Or.inl ⟨_, rfl⟩, h⟩
  · rename_i e; exact ⟨_, e, Or.inr rfl, h⟩
  · exact h.elim
theorem p_s1_s {ls : List Value} {k : Nat} {v : Value} {K : List Value → Prop} (h : p_s1 ls k v K) : k < ls.length ∧ K (st1 ls k v) := by
  unfold p_s1 at h
  split at h
  · rename_i e; exact ⟨(List.getElem?_eq_some_iff.mp e).1, h⟩
  · exact h.elim
theorem p_s2_s {ls : List Value} {k : Nat} {v : Value} {K : List Value → Prop} (h : p_s2 ls k v K) : k + 1 < ls.length ∧ K (st2 ls k v) := by
  unfold p_s2 at h
  split at h
  · rename_i e; exact ⟨(List.getElem?_eq_some_iff.mp e).1, h⟩
  · exact h.elim
theorem o_o_s {α : Type} {o : Option α} {K : α → Prop} (h : o_o o K) : ∃ a, o = some a ∧ K a := by
  unfold o_o at h
  split at h
  · exact ⟨_, rfl, h⟩
  · exact h.elim
theorem isB_s {v : Bool} {A : Prop} (h : isB v A) : v = true ∧ A := by cases v <;> first | exact h.elim | exact ⟨rfl, h⟩
theorem tg_s {pc : Nat} {off : Int} {K : Nat → Prop} (h : tg pc off K) : ∃ t : Nat, (pc : Int) + off = (t : Int) ∧ K t := by
  unfold tg at h
  split at h
  · rename_i e; exact ⟨_, e, h⟩
  · exact h.elim
theorem pa_s : ∀ {n : Nat} {st acc : List Value} {K : List Value → List Value → Prop}, pa n st acc K → ∃ as rest, st = as.reverse ++ rest ∧ as.length = n ∧ K (as ++ acc) rest
  | 0, st, acc, K, h => ⟨[], st, rfl, rfl, h⟩
  | n + 1, [], acc, K, h => h.elim
  | n + 1, v :: st, acc, K, h => by
    obtain ⟨as, rest, e1, e2, e3⟩ := pa_s (n := n) (st := st) (acc := v :: acc) h
    exact ⟨as ++ [v], rest, by simp [e1], by simp [e2], by simpa using e3⟩
