/-! what is true of the class's ints at any time; what is left alone -/
def ok8 (j k : Nat) (v : Int32) : Prop := match (LAY j).1 with
  | 0 => k = 3 → 0 ≤ v.toInt ∧ v.toInt ≤ 20
  | 1 => k = 2 → v = 0 ∨ v = 1
  | 2 => k = 2 → 0 ≤ v.toInt ∧ v.toInt ≤ ((LAY (j + 1)).2 : Int)
  | 3 => k = 0 → 0 ≤ v.toInt ∧ v.toInt ≤ 6
  | 6 => k = 1 → 0 ≤ v.toInt ∧ v.toInt ≤ 60
  | 7 => (k = 1 → 0 ≤ v.toInt ∧ v.toInt ≤ 100) ∧ (k = 6 → 0 ≤ v.toInt ∧ v.toInt ≤ 12) ∧ (k = 7 → 0 ≤ v.toInt ∧ v.toInt ≤ 100)
  | _ => True
def I8 (_ : LGt) (it : ITt) : Prop := ∀ j k, ok8 j k (it j k)
theorem i8_u {lg : LGt} {it : ITt} {j k : Nat} {v : Int32} (h : I8 lg it) (hv : ok8 j k v) : I8 lg (u2 it j k v) := by
  intro a b
  unfold u2
  split
  · rename_i e; rw [e.1, e.2]; exact hv
  · exact h a b
theorem ok8_a {j k c : Nat} {v : Int32} (h : Ob NT j c) (hc : 8 ≤ c) : ok8 j k v := by
  unfold ok8
  rw [h.2]
  match c, hc with
  | c + 8, _ => exact trivial
theorem ok8_0 {j k : Nat} {v : Int32} (h : Ob NT j 0) (hv : k = 3 → 0 ≤ v.toInt ∧ v.toInt ≤ 20) : ok8 j k v := by unfold ok8; rw [h.2]; exact hv
theorem ok8_1 {j k : Nat} {v : Int32} (h : Ob NT j 1) (hv : k = 2 → v = 0 ∨ v = 1) : ok8 j k v := by unfold ok8; rw [h.2]; exact hv
theorem ok8_2 {j k : Nat} {v : Int32} (h : Ob NT j 2) (hv : k = 2 → 0 ≤ v.toInt ∧ v.toInt ≤ ((LAY (j + 1)).2 : Int)) : ok8 j k v := by unfold ok8; rw [h.2]; exact hv
theorem ok8_3 {j k : Nat} {v : Int32} (h : Ob NT j 3) (hv : k = 0 → 0 ≤ v.toInt ∧ v.toInt ≤ 6) : ok8 j k v := by unfold ok8; rw [h.2]; exact hv
theorem ok8_6 {j k : Nat} {v : Int32} (h : Ob NT j 6) (hv : k = 1 → 0 ≤ v.toInt ∧ v.toInt ≤ 60) : ok8 j k v := by unfold ok8; rw [h.2]; exact hv
theorem ok8_7 {j k : Nat} {v : Int32} (h : Ob NT j 7) (hv : (k = 1 → 0 ≤ v.toInt ∧ v.toInt ≤ 100) ∧ (k = 6 → 0 ≤ v.toInt ∧ v.toInt ≤ 12) ∧ (k = 7 → 0 ≤ v.toInt ∧ v.toInt ≤ 100)) : ok8 j k v := by unfold ok8; rw [h.2]; exact hv
theorem i8_0 {lg : LGt} {it : ITt} (h : I8 lg it) : 0 ≤ (it 55 3).toInt ∧ (it 55 3).toInt ≤ 20 := by have := h 55 3; unfold ok8 at this; rw [oq_55.2] at this; exact this rfl
theorem i8_1 {lg : LGt} {it : ITt} {j : Nat} (h : I8 lg it) (ho : Ob NT j 1) : it j 2 = 0 ∨ it j 2 = 1 := by have := h j 2; unfold ok8 at this; rw [ho.2] at this; exact this rfl
theorem i8_2 {lg : LGt} {it : ITt} {j : Nat} (h : I8 lg it) (ho : Ob NT j 2) : 0 ≤ (it j 2).toInt ∧ (it j 2).toInt ≤ ((LAY (j + 1)).2 : Int) := by have := h j 2; unfold ok8 at this; rw [ho.2] at this; exact this rfl
theorem i8_3 {lg : LGt} {it : ITt} {j : Nat} (h : I8 lg it) (ho : Ob NT j 3) : 0 ≤ (it j 0).toInt ∧ (it j 0).toInt ≤ 6 := by have := h j 0; unfold ok8 at this; rw [ho.2] at this; exact this rfl
theorem i8_6 {lg : LGt} {it : ITt} {j : Nat} (h : I8 lg it) (ho : Ob NT j 6) : 0 ≤ (it j 1).toInt ∧ (it j 1).toInt ≤ 60 := by have := h j 1; unfold ok8 at this; rw [ho.2] at this; exact this rfl
theorem i8_71 {lg : LGt} {it : ITt} (h : I8 lg it) : 0 ≤ (it 467 1).toInt ∧ (it 467 1).toInt ≤ 100 := by have := h 467 1; unfold ok8 at this; rw [oq_467.2] at this; exact this.1 rfl
theorem i8_76 {lg : LGt} {it : ITt} (h : I8 lg it) : 0 ≤ (it 467 6).toInt ∧ (it 467 6).toInt ≤ 12 := by have := h 467 6; unfold ok8 at this; rw [oq_467.2] at this; exact this.2.1 rfl
theorem i8_77 {lg : LGt} {it : ITt} (h : I8 lg it) : 0 ≤ (it 467 7).toInt ∧ (it 467 7).toInt ≤ 100 := by have := h 467 7; unfold ok8 at this; rw [oq_467.2] at this; exact this.2.2 rfl
/-- all but the rows of S are as they were -/
def Kc (S : Nat → Prop) (lg : LGt) (it : ITt) (lg' : LGt) (it' : ITt) : Prop := ∀ j, ¬ S j → lg' j = lg j ∧ it' j = it j
theorem kc_r {S : Nat → Prop} {lg : LGt} {it : ITt} : Kc S lg it lg it := fun _ _ => ⟨rfl, rfl⟩
theorem kc_t {S S' : Nat → Prop} {lg lg' lg2 : LGt} {it it' it2 : ITt} (h : Kc S lg it lg' it') (h2 : Kc S' lg' it' lg2 it2) (hs : ∀ j, S' j → S j) : Kc S lg it lg2 it2 := fun j hj => ⟨((h2 j fun q => hj (hs j q)).1).trans (h j hj).1, ((h2 j fun q => hj (hs j q)).2).trans (h j hj).2⟩
theorem kc_u {S : Nat → Prop} {lg lg' : LGt} {it it' : ITt} {j k : Nat} {v : Int32} (hs : S j) (h : Kc S lg it lg' it') : Kc S lg it lg' (u2 it' j k v) := fun i hi => ⟨(h i hi).1, (u2_row (fun e => hi (by rw [e]; exact hs))).trans (h i hi).2⟩
theorem kc_l {S : Nat → Prop} {lg lg' : LGt} {it it' : ITt} {j k : Nat} {v : Int64} (hs : S j) (h : Kc S lg it lg' it') : Kc S lg it (u2 lg' j k v) it' := fun i hi => ⟨(u2_row (fun e => hi (by rw [e]; exact hs))).trans (h i hi).1, (h i hi).2⟩
theorem kc_f {S : Nat → Prop} {lg lg' : LGt} {it it' : ITt} {j k : Nat} {a b : Int64} {v : Int32} (hs : S j) (h : Kc S lg it lg' it') : Kc S lg it (sL lg' j a b) (sI it' j k v) := fun i hi => ⟨(sL_row (fun e => hi (by rw [e]; exact hs))).trans (h i hi).1, (u2_row (fun e => hi (by rw [e]; exact hs))).trans (h i hi).2⟩
theorem kc_fill {S : Nat → Prop} {lg lg' : LGt} {it it' : ITt} {j : Nat} {v : Int64} (hs : S j) (h : Kc S lg it lg' it') : Kc S lg it (fillL lg' j v) it' := fun i hi => ⟨by rw [← (h i hi).1]; funext b; unfold fillL; rw [if_neg (fun q => hi (by rw [q.1]; exact hs))], (h i hi).2⟩
theorem kc_cpi {S : Nat → Prop} {lg lg' : LGt} {it it' : ITt} {a j sp dp n : Nat} (hs : S j) (h : Kc S lg it lg' it') : Kc S lg it lg' (rcp it' a j sp dp n) := fun i hi => ⟨(h i hi).1, (rcp_row (fun e => hi (by rw [e]; exact hs))).trans (h i hi).2⟩
theorem kc_cpl {S : Nat → Prop} {lg lg' : LGt} {it it' : ITt} {a j sp dp n : Nat} (hs : S j) (h : Kc S lg it lg' it') : Kc S lg it (rcp lg' a j sp dp n) it' := fun i hi => ⟨(rcp_row (fun e => hi (by rw [e]; exact hs))).trans (h i hi).1, (h i hi).2⟩
theorem i8_cp {lg : LGt} {it : ITt} {a j sp dp n : Nat} (h : I8 lg it) (ho : Ob NT j 11) : I8 lg (rcp it a j sp dp n) := by
  intro b k
  by_cases e : b = j
  · subst e; exact ok8_a ho (by decide)
  · rw [rcp_row e]; exact h b k
theorem bm32 {z : Int} (h1 : -2147483648 ≤ z) (h2 : z < 2147483648) : z.bmod (2 ^ 32) = z := by
  first
  | exact Int.bmod_eq_of_le (by omega) (by omega)
  | (unfold Int.bmod; omega)
theorem ad32 {x y : Int32} {a b : Int} (hx : x.toInt = a) (hy : y.toInt = b) (h1 : -2147483648 ≤ a + b) (h2 : a + b < 2147483648) : (x + y).toInt = a + b := by rw [Int32.toInt_add, hx, hy]; exact bm32 h1 h2
theorem sb32 {x y : Int32} {a b : Int} (hx : x.toInt = a) (hy : y.toInt = b) (h1 : -2147483648 ≤ a - b) (h2 : a - b < 2147483648) : (x - y).toInt = a - b := by rw [Int32.toInt_sub, hx, hy]; exact bm32 h1 h2
theorem ml32 {x y : Int32} {a b : Int} (hx : x.toInt = a) (hy : y.toInt = b) (h1 : -2147483648 ≤ a * b) (h2 : a * b < 2147483648) : (x * y).toInt = a * b := by rw [Int32.toInt_mul, hx, hy]; exact bm32 h1 h2
theorem cl32 {i : Int32} (h : 0 ≤ i.toInt) : (i.toNatClampNeg : Int) = i.toInt := by show ((i.toInt.toNat : Nat) : Int) = i.toInt; omega
theorem stF_01 (a b : Int64) (o : Int32) (h w : Int64) : (stF a b o h w).2.2 = 0 ∨ (stF a b o h w).2.2 = 1 := by
  unfold stF
  split
  · exact Or.inr rfl
  · show ovr _ _ _ = 0 ∨ ovr _ _ _ = 1
    unfold ovr
    split
    · exact Or.inr rfl
    · exact Or.inl rfl
theorem pb_len {p : Nat} (h : p ∈ pb) : (LAY (p + 2)).2 = (LAY (p + 1)).2 ∧ (LAY (p + 1)).2 ≤ 8 ∧ 5 ≤ (LAY (p + 1)).2 := ⟨(pb_all p h).2.2.2.2.2.2.1.symm, (pb_all p h).2.2.2.2.2.2.2.1, (pb_all p h).2.2.2.2.2.2.2.2⟩
theorem oN {n : Nat} (h : n ≤ 400) : (Int32.ofNat n).toInt = (n : Int) := nI_toInt (show n < 2 ^ 31 by omega)
theorem lq_26 : (LAY 26).2 = 8 := by decide +kernel
