def KW (E : Ev) (s : State) : Prop := va_K (e_D E) vwCl (tyl E) s ∧ va_AO RX1 s ∧ va_AO RX3 s ∧ va_AO RX6 s
theorem KW.moved {E : Ev} {u U : State} (hvm : u.vm.Alike U.vm) (h : KW E u) : KW E U := ⟨va_K.moved hvm h.1, h.2.1.moved hvm, h.2.2.1.moved hvm, h.2.2.2.moved hvm⟩
def PW (E : Ev) (p : Program) (l : Launch) (e : Env) (R : Room) (s : State) (m : MethodId) (args : Array Value) (below : List Frame) (meth : Method) (c : Code) (Qm : State → Prop) (nL Ne : Nat) : PT := fun pc ls st N lg it rf =>
  N ≤ Ne → ls.length = nL → ∀ (H : Heap) (locs : List Loc) (cells slots : Nat) (arr : Array Slot), H.size = e_b E + N → va_P (e_D E) vwCl (WL E N lg it rf) H → va_S (e_A E) s.heap H locs → lv_has arr nL (lva E 0 ls) →
    cells + (Ne - N) ≤ R.cells → slots + 400 * (Ne - N) ≤ R.slots → W p l e R s m args below meth c H locs cells slots Qm (F0 m pc arr (st.map (cv E)))
def xinv (kd idx : Nat) : Instr := match kd with | 0 => .invokevirtual idx | 1 => .invokestatic idx | _ => .invokespecial idx
/-- a call does what its entry says -/
def COK (E : Ev) (l : Launch) (R : Room) (own : String) (idx : Nat) (q : Ent) : Prop :=
  ∀ (p : Program) (e : Env) (s : State) (m : MethodId) (args : Array Value) (below : List Frame) (meth : Method) (c : Code) (cc : ByteArray) (nL : Nat) (Qm : State → Prop),
    p.tables.exec = Jvm.exec → c.code = cc → c.maxLocals = nL → s.vm.findClass own = some m.cls → (∀ w ∈ OM, w.before args s = true) → KW E s → e_b E ≤ s.heap.size →
    ∀ (pc : Nat) (arr : Array Slot) (H : Heap) (locs : List Loc) (cells slots : Nat) (as rest : List Value) (N : Nat) (lg : LGt) (it : ITt) (rf : RFt) (K : Post),
      decode cc pc = .ok (xinv q.1 idx, 3) → arr.size = nL → as.length = q.2.1 → (match q.1 with | 0 => ∃ j t, as = .ref j :: t ∧ Ob N j q.2.2.1 | _ => True) → H.size = e_b E + N → va_P (e_D E) vwCl (WL E N lg it rf) H → va_S (e_A E) s.heap H locs →
      ctgs rest ≤ 8 → cells + q.2.2.2.1 ≤ R.cells → slots + 400 * q.2.2.2.1 ≤ R.slots → q.2.2.2.2 as N lg it rf K →
      (∀ (r : Option Value) (lg' : LGt) (it' : ITt) (rf' : RFt) (H' : Heap) (locs' : List Loc), K r lg' it' rf' → H'.size = e_b E + (N + q.2.2.2.1) → va_P (e_D E) vwCl (WL E (N + q.2.2.2.1) lg' it' rf') H' → va_S (e_A E) s.heap H' locs' →
        W p l e R s m args below meth c H' locs' (cells + q.2.2.2.1) (slots + 400 * q.2.2.2.1) Qm (F0 m (pc + 3) arr ((r.toList ++ rest).map (cv E)))) →
      W p l e R s m args below meth c H locs cells slots Qm (F0 m pc arr ((as.reverse ++ rest).map (cv E)))
def FOK (own : String) (q : Nat × Nat × Nat) : Prop := q.2.1 < 10 ∧ q.2.2 < (clr q.2.1).2.2 ∧ Cond.fieldLink own q.1 (clr q.2.1).1 ((clr q.2.1).2.1 q.2.2).2.1 ((clr q.2.1).2.1 q.2.2).2.2.1 ∈ OM
def TOK (E : Ev) (l : Launch) (R : Room) (own : String) (T : Tab) : Prop :=
  (∀ q ∈ T.1, FOK own q) ∧ (∀ q ∈ T.2.1, q.2 < 10 ∧ Cond.classLink own q.1 (clr q.2).1 ∈ OM) ∧ (∀ q ∈ T.2.2.1, Cond.constantLong own q.1 q.2 ∈ OM) ∧ (∀ q ∈ T.2.2.2.1, COK E l R own q.1 q.2)
theorem cl_in : ∀ c, c < 10 → Cond.instantiable (clr c).1 (clr c).2.2 ∈ lw_tbl ∧ Cond.initialized (clr c).1 ∈ lw_tbl := by decide +kernel
theorem cl_ins {c : Nat} (h : c < 10) : Cond.instantiable (clr c).1 (clr c).2.2 ∈ OM ∧ Cond.initialized (clr c).1 ∈ OM := ⟨List.mem_filter.mpr ⟨(cl_in c h).1, rfl⟩, List.mem_filter.mpr ⟨(cl_in c h).2, rfl⟩⟩
theorem ar_in : ∀ t ∈ [FieldType.byte, .int, .long], Cond.arrayClass t ∈ OM := by decide +kernel
theorem tyl_get {E : Ev} {k : Nat} (h : k < 6) : (tyl E)[k]? = some (e_cy E k, match k with | 0 => .byte | 1 => .int | 2 => .long | 3 => .object RX1 | 4 => .object RX3 | _ => .object RX6) := by
  match k, h with
  | 0, _ => rfl
  | 1, _ => rfl
  | 2, _ => rfl
  | 3, _ => rfl
  | 4, _ => rfl
  | 5, _ => rfl
theorem fvs_get {lg : LGt} {it : ITt} {rf : RFt} {j k t : Nat} {ks : List Nat} (h : ks[k]? = some t) : (fvs lg it rf j ks)[k]? = some (fva lg it rf j k t) := by simp [fvs, h]
theorem fvs_len {lg : LGt} {it : ITt} {rf : RFt} {j : Nat} {ks : List Nat} : (fvs lg it rf j ks).length = ks.length := by simp [fvs]
theorem fva_eq {lg lg' : LGt} {it it' : ITt} {rf rf' : RFt} {j k t : Nat} (h1 : lg' j k = lg j k) (h2 : it' j k = it j k) (h3 : rf' j k = rf j k) : fva lg' it' rf' j k t = fva lg it rf j k t := by
  unfold fva
  rw [h1, h2, h3]
theorem fvs_set {lg lg' : LGt} {it it' : ITt} {rf rf' : RFt} {j k t : Nat} {ks : List Nat} (hk : ks[k]? = some t) (ho : ∀ i, i ≠ k → lg' j i = lg j i ∧ it' j i = it j i ∧ rf' j i = rf j i) :
    fvs lg' it' rf' j ks = (fvs lg it rf j ks).set k (fva lg' it' rf' j k t) := by
  apply List.ext_getElem?
  intro i
  rw [List.getElem?_set]
  have hl : k < ks.length := (List.getElem?_eq_some_iff.mp hk).1
  by_cases h : k = i
  · subst h
    rw [if_pos rfl, if_pos (by rw [fvs_len]; exact hl), fvs_get hk]
  · rw [if_neg h]
    cases e : ks[i]? with
    | none =>
      rw [List.getElem?_eq_none (by rw [fvs_len]; exact List.getElem?_eq_none_iff.mp e), List.getElem?_eq_none (by rw [fvs_len]; exact List.getElem?_eq_none_iff.mp e)]
    | some t' =>
      obtain ⟨h1, h2, h3⟩ := ho i (fun q => h q.symm)
      rw [fvs_get e, fvs_get e, fva_eq h1 h2 h3]
theorem cell_obj {E : Ev} {lg : LGt} {it : ITt} {rf : RFt} {j ci : Nat} (hc : (LAY j).1 = ci) (h : ci < 10) : cellv E lg it rf j = .inr (ci, (fvs lg it rf j (fk ci)).map (cv E)) := by
  unfold cellv
  rw [hc]
  exact cellK_o h
theorem u2_eq {α : Type} {f : Nat → Nat → α} {j k : Nat} {v : α} : u2 f j k v j k = v := by simp [u2]
theorem u2_ne {α : Type} {f : Nat → Nat → α} {j k i : Nat} {v : α} (h : i ≠ k) : u2 f j k v j i = f j i := by simp [u2, h]
theorem wr_s {t : Nat} {v : Value} {j k : Nat} {lg : LGt} {it : ITt} {rf : RFt} {K : LGt → ITt → RFt → Prop} (h : wr t v j k lg it rf K) :
    ∃ lg' it' rf', K lg' it' rf' ∧ fva lg' it' rf' j k t = v ∧ (∀ i, i ≠ j → lg' i = lg i ∧ it' i = it i ∧ rf' i = rf i) ∧ (∀ i, i ≠ k → lg' j i = lg j i ∧ it' j i = it j i ∧ rf' j i = rf j i) ∧
      (∀ (E : Ev) (ty : FieldType), kdo ty = t → narrow ty (cv E v) = cv E v ∧ fits ty (cv E v) = true) := by
  unfold wr at h
  split at h
  · split at h
    · rename_i x
      refine ⟨lg, _, rf, h, by simp [fva, u2], fun i hi => ⟨rfl, u2_row hi, rfl⟩, fun i hi => ⟨rfl, u2_ne hi, rfl⟩, fun E ty ht => ?_⟩
      cases ty <;> first | exact ⟨rfl, rfl⟩ | cases ht
    · exact h.elim
  · split at h
    · rename_i x
      refine ⟨_, it, rf, h, by simp [fva, u2], fun i hi => ⟨u2_row hi, rfl, rfl⟩, fun i hi => ⟨u2_ne hi, rfl, rfl⟩, fun E ty ht => ?_⟩
      cases ty <;> first | exact ⟨rfl, rfl⟩ | cases ht
    · exact h.elim
  · split at h
    · rename_i x
      refine ⟨lg, it, _, h, by simp [fva, u2, rfv], fun i hi => ⟨rfl, rfl, u2_row hi⟩, fun i hi => ⟨rfl, rfl, u2_ne hi⟩, fun E ty ht => ?_⟩
      cases ty <;> first | exact ⟨rfl, rfl⟩ | cases ht
    · exact h.elim
  · split at h
    · rename_i x
      obtain ⟨hx, h⟩ := h
      refine ⟨lg, _, rf, h, by simp [fva, u2], fun i hi => ⟨rfl, u2_row hi, rfl⟩, fun i hi => ⟨rfl, u2_ne hi, rfl⟩, fun E ty ht => ?_⟩
      cases ty <;> try cases ht
      refine ⟨?_, ?_⟩
      · show Value.int (x &&& 1) = .int x
        rw [hx]
      · show (x == 0 || x == 1) = true
        have h2 : ∀ y : Int32, y &&& 1 = 0 ∨ y &&& 1 = 1 := fun y => by
          have e := pk_and y (m := 1) 1 rfl
          have hlt : y.toBitVec.toNat % 2 ^ 1 < 2 := Nat.mod_lt _ (by decide)
          generalize y.toBitVec.toNat % 2 ^ 1 = z at e hlt
          match z, hlt with
          | 0, _ => exact Or.inl e
          | 1, _ => exact Or.inr e
        rcases h2 x with e | e <;> rw [hx] at e <;> subst e <;> rfl
    · exact h.elim
  · exact h.elim
