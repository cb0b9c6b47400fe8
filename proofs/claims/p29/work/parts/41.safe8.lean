/-! the class is safe: pairs, rails, settings, tapes, the text -/
set_option maxRecDepth 100000 in
theorem s_X2_add {a0 : Nat} (ha0 : a0 ∈ pb) (a1 : Int32) (a2 : Int32) {lg0 : LGt} {it0 : ITt} (hI : I8 lg0 it0) : w_X2_add a0 a1 a2 (fun (v : Int32) (lg' : LGt) (it' : ITt) => (I8 lg' it' ∧ Kc (fun j => (a0 ≤ j ∧ j < a0 + 3)) lg0 it0 lg' it'))  lg0 it0 := by
  have hb_a1 := And.intro a1.le_toInt a1.toInt_lt
  have hb_a2 := And.intro a2.le_toInt a2.toInt_lt
  have hKr : Kc (fun j => (a0 ≤ j ∧ j < a0 + 3)) lg0 it0 lg0 it0 := kc_r
  generalize hp : (fun (v : Int32) (lg' : LGt) (it' : ITt) => (I8 lg' it' ∧ Kc (fun j => (a0 ≤ j ∧ j < a0 + 3)) lg0 it0 lg' it')) = Pz
  unfold w_X2_add
  have hln := pb_len ha0
  have f11 : 0 ≤ (it0 a0 2).toInt ∧ (it0 a0 2).toInt ≤ ((LAY (a0 + 1)).2 : Int) := i8_2 hI (obp ha0)
  have f12 : (Int32.ofNat (LAY (a0 + 1)).2).toInt = ((LAY (a0 + 1)).2 : Int) := oN (lay_le _)
  refine ⟨fun c9 => ?_, fun c9 => ?_⟩
  · try simp only [Int32.lt_iff_toInt_lt, Int32.le_iff_toInt_le, ← Int32.toInt_inj, Int32.toInt_toInt64, ti_m14, ti_m13, ti_m12, ti_m11, ti_m10, ti_m9, ti_m6, ti_m5, ti_m4, ti_m3, ti_m2, ti_m1, ti_0, ti_1, ti_2, ti_3, ti_4, ti_5, ti_6, ti_7, ti_8, ti_9, ti_10, ti_11, ti_12, ti_19, ti_20, ti_21, ti_44, ti_45, ti_48, ti_57, ti_59, ti_60, ti_98, ti_99, ti_100, ti_101, ti_103, ti_108, ti_110, ti_114, ti_127] at c9
    have hi13 : vp_in (it0 a0 2) (LAY (a0 + 1)).2 := vp_of (by first | omega | ((try simp only [Int32.lt_iff_toInt_lt, Int32.le_iff_toInt_le, ← Int32.toInt_inj, Int32.toInt_toInt64, ti_m14, ti_m13, ti_m12, ti_m11, ti_m10, ti_m9, ti_m6, ti_m5, ti_m4, ti_m3, ti_m2, ti_m1, ti_0, ti_1, ti_2, ti_3, ti_4, ti_5, ti_6, ti_7, ti_8, ti_9, ti_10, ti_11, ti_12, ti_19, ti_20, ti_21, ti_44, ti_45, ti_48, ti_57, ti_59, ti_60, ti_98, ti_99, ti_100, ti_101, ti_103, ti_108, ti_110, ti_114, ti_127]); omega) | (split <;> omega)) (by first | omega | ((try simp only [Int32.lt_iff_toInt_lt, Int32.le_iff_toInt_le, ← Int32.toInt_inj, Int32.toInt_toInt64, ti_m14, ti_m13, ti_m12, ti_m11, ti_m10, ti_m9, ti_m6, ti_m5, ti_m4, ti_m3, ti_m2, ti_m1, ti_0, ti_1, ti_2, ti_3, ti_4, ti_5, ti_6, ti_7, ti_8, ti_9, ti_10, ti_11, ti_12, ti_19, ti_20, ti_21, ti_44, ti_45, ti_48, ti_57, ti_59, ti_60, ti_98, ti_99, ti_100, ti_101, ti_103, ti_108, ti_110, ti_114, ti_127]); omega) | (split <;> omega))
    refine ⟨hi13, ?_⟩
    have hz14 := vlt hi13
    intro it15 em16
    have hI17 : I8 lg0 it15 := by rw [em16]; exact i8_u hI (ok8_a (pob1 ha0) (by decide))
    have hK18 : Kc (fun j => (a0 ≤ j ∧ j < a0 + 3)) lg0 it0 lg0 it15 := by rw [em16]; exact kc_u (by first | omega | (dsimp only; omega)) hKr
    try have e19 : (it15 a0 2).toInt = (it0 a0 2).toInt := by rw [em16]; exact congrArg Int32.toInt (congrFun (u2_row (by omega)) 2)
    have f20 : 0 ≤ (it15 a0 2).toInt ∧ (it15 a0 2).toInt ≤ ((LAY (a0 + 1)).2 : Int) := i8_2 hI17 (obp ha0)
    have hi21 : vp_in (it15 a0 2) (LAY (a0 + 2)).2 := vp_of (by first | omega | ((try simp only [Int32.lt_iff_toInt_lt, Int32.le_iff_toInt_le, ← Int32.toInt_inj, Int32.toInt_toInt64, ti_m14, ti_m13, ti_m12, ti_m11, ti_m10, ti_m9, ti_m6, ti_m5, ti_m4, ti_m3, ti_m2, ti_m1, ti_0, ti_1, ti_2, ti_3, ti_4, ti_5, ti_6, ti_7, ti_8, ti_9, ti_10, ti_11, ti_12, ti_19, ti_20, ti_21, ti_44, ti_45, ti_48, ti_57, ti_59, ti_60, ti_98, ti_99, ti_100, ti_101, ti_103, ti_108, ti_110, ti_114, ti_127]); omega) | (split <;> omega)) (by first | omega | ((try simp only [Int32.lt_iff_toInt_lt, Int32.le_iff_toInt_le, ← Int32.toInt_inj, Int32.toInt_toInt64, ti_m14, ti_m13, ti_m12, ti_m11, ti_m10, ti_m9, ti_m6, ti_m5, ti_m4, ti_m3, ti_m2, ti_m1, ti_0, ti_1, ti_2, ti_3, ti_4, ti_5, ti_6, ti_7, ti_8, ti_9, ti_10, ti_11, ti_12, ti_19, ti_20, ti_21, ti_44, ti_45, ti_48, ti_57, ti_59, ti_60, ti_98, ti_99, ti_100, ti_101, ti_103, ti_108, ti_110, ti_114, ti_127]); omega) | (split <;> omega))
    refine ⟨hi21, ?_⟩
    have hz22 := vlt hi21
    intro it23 em24
    have hI25 : I8 lg0 it23 := by rw [em24]; exact i8_u hI17 (ok8_a (pob2 ha0) (by decide))
    have hK26 : Kc (fun j => (a0 ≤ j ∧ j < a0 + 3)) lg0 it0 lg0 it23 := by rw [em24]; exact kc_u (by first | omega | (dsimp only; omega)) hK18
    try have e27 : (it23 a0 2).toInt = (it15 a0 2).toInt := by rw [em24]; exact congrArg Int32.toInt (congrFun (u2_row (by omega)) 2)
    have f28 : 0 ≤ (it23 a0 2).toInt ∧ (it23 a0 2).toInt ≤ ((LAY (a0 + 1)).2 : Int) := i8_2 hI25 (obp ha0)
    try have f29 : (((it23 a0 2) + 1) : Int32).toInt = ((it23 a0 2)).toInt + 1 := ad32 (a := ((it23 a0 2)).toInt) (b := 1) (rfl) (ti_1) (by omega) (by omega)
    intro it30 em31
    have hI32 : I8 lg0 it30 := by rw [em31]; exact i8_u hI25 (ok8_2 (obp ha0) (fun _ => by (try simp only [Int32.lt_iff_toInt_lt, Int32.le_iff_toInt_le, ← Int32.toInt_inj, Int32.toInt_toInt64, ti_m14, ti_m13, ti_m12, ti_m11, ti_m10, ti_m9, ti_m6, ti_m5, ti_m4, ti_m3, ti_m2, ti_m1, ti_0, ti_1, ti_2, ti_3, ti_4, ti_5, ti_6, ti_7, ti_8, ti_9, ti_10, ti_11, ti_12, ti_19, ti_20, ti_21, ti_44, ti_45, ti_48, ti_57, ti_59, ti_60, ti_98, ti_99, ti_100, ti_101, ti_103, ti_108, ti_110, ti_114, ti_127]); omega))
    have hK33 : Kc (fun j => (a0 ≤ j ∧ j < a0 + 3)) lg0 it0 lg0 it30 := by rw [em31]; exact kc_u (by first | omega | (dsimp only; omega)) hK26
    have f35 : 0 ≤ (it30 a0 2).toInt ∧ (it30 a0 2).toInt ≤ ((LAY (a0 + 1)).2 : Int) := i8_2 hI32 (obp ha0)
    subst hp
    exact ⟨hI32, hK33⟩
  · try simp only [Int32.lt_iff_toInt_lt, Int32.le_iff_toInt_le, ← Int32.toInt_inj, Int32.toInt_toInt64, ti_m14, ti_m13, ti_m12, ti_m11, ti_m10, ti_m9, ti_m6, ti_m5, ti_m4, ti_m3, ti_m2, ti_m1, ti_0, ti_1, ti_2, ti_3, ti_4, ti_5, ti_6, ti_7, ti_8, ti_9, ti_10, ti_11, ti_12, ti_19, ti_20, ti_21, ti_44, ti_45, ti_48, ti_57, ti_59, ti_60, ti_98, ti_99, ti_100, ti_101, ti_103, ti_108, ti_110, ti_114, ti_127] at c9
    subst hp
    exact ⟨hI, hKr⟩
theorem s_X2_become {a0 : Nat} (ha0 : a0 ∈ pb) {a1 : Nat} (ha1 : a1 ∈ pb) {lg0 : LGt} {it0 : ITt} (hI : I8 lg0 it0) (hL : (LAY (a1 + 1)).2 = (LAY (a0 + 1)).2) : w_X2_become a0 a1 (fun (lg' : LGt) (it' : ITt) => (I8 lg' it' ∧ Kc (fun j => (a0 ≤ j ∧ j < a0 + 3)) lg0 it0 lg' it') ∧ it' a0 2 = it0 a1 2) lg0 it0 := by
  have h1 := pb_len ha0
  have h2 := pb_len ha1
  have hs := i8_2 hI (obp ha1)
  have hn : (Int32.ofNat (LAY (a0 + 1)).2).toInt = ((LAY (a0 + 1)).2 : Int) := oN (lay_le _)
  have e : (if Int32.ofNat (LAY (a0 + 1)).2 < it0 a1 2 then Int32.ofNat (LAY (a0 + 1)).2 else it0 a1 2) = it0 a1 2 := by
    rw [if_neg]
    rw [Int32.lt_iff_toInt_lt]
    omega
  have hc := cl32 hs.1
  have z : ¬ it0 a1 2 < 0 := by rw [Int32.lt_iff_toInt_lt, ti_0]; omega
  have z0 : ¬ (0 : Int32) < 0 := by decide
  have n0 : (0 : Int32).toNatClampNeg = 0 := by decide
  unfold w_X2_become
  rw [e]
  intro it1 m1
  have e1 : it1 a0 2 = it0 a1 2 := by rw [m1]; exact u2_eq
  have I1 : I8 lg0 it1 := by rw [m1]; exact i8_u hI (ok8_2 (obp ha0) (fun _ => by omega))
  have K1 : Kc (fun j => (a0 ≤ j ∧ j < a0 + 3)) lg0 it0 lg0 it1 := by rw [m1]; exact kc_u (by first | omega | (dsimp only; omega)) kc_r
  rw [e1]
  refine ⟨⟨⟨pob1 ha1, pob1 ha0⟩, ⟨z0, z0, z⟩, by omega, by omega⟩, ?_⟩
  intro it3 m3
  have e3 : it3 a0 2 = it0 a1 2 := by rw [m3]; exact (congrFun (rcp_row (by omega)) 2).trans e1
  have I3 : I8 lg0 it3 := by rw [m3]; exact i8_cp I1 (pob1 ha0)
  have K3 : Kc (fun j => (a0 ≤ j ∧ j < a0 + 3)) lg0 it0 lg0 it3 := by rw [m3]; exact kc_cpi (by first | omega | (dsimp only; omega)) K1
  rw [e3]
  refine ⟨⟨⟨pob2 ha1, pob2 ha0⟩, ⟨z0, z0, z⟩, by omega, by omega⟩, ?_⟩
  intro it7 m7
  rw [m7]
  exact ⟨⟨i8_cp I3 (pob2 ha0), kc_cpi (by first | omega | (dsimp only; omega)) K3⟩, (congrFun (rcp_row (by omega)) 2).trans e3⟩
set_option maxRecDepth 100000 in
theorem s_X3_become {a0 : Nat} (ha0 : a0 ∈ rb) {a1 : Nat} (ha1 : a1 ∈ rb) {lg0 : LGt} {it0 : ITt} (hI : I8 lg0 it0) : w_X3_become a0 a1 (fun (lg' : LGt) (it' : ITt) => (I8 lg' it' ∧ Kc (fun j => (a0 ≤ j ∧ j < a0 + 17)) lg0 it0 lg' it'))  lg0 it0 := by
  have hKr : Kc (fun j => (a0 ≤ j ∧ j < a0 + 17)) lg0 it0 lg0 it0 := kc_r
  generalize hp : (fun (lg' : LGt) (it' : ITt) => (I8 lg' it' ∧ Kc (fun j => (a0 ≤ j ∧ j < a0 + 17)) lg0 it0 lg' it')) = Pz
  unfold w_X3_become
  have f38 : 0 ≤ (it0 a1 0).toInt ∧ (it0 a1 0).toInt ≤ 6 := i8_3 hI (obr ha1)
  intro it39 em40
  have hI41 : I8 lg0 it39 := by rw [em40]; exact i8_u hI (ok8_3 (obr ha0) (fun _ => by (try simp only [Int32.lt_iff_toInt_lt, Int32.le_iff_toInt_le, ← Int32.toInt_inj, Int32.toInt_toInt64, ti_m14, ti_m13, ti_m12, ti_m11, ti_m10, ti_m9, ti_m6, ti_m5, ti_m4, ti_m3, ti_m2, ti_m1, ti_0, ti_1, ti_2, ti_3, ti_4, ti_5, ti_6, ti_7, ti_8, ti_9, ti_10, ti_11, ti_12, ti_19, ti_20, ti_21, ti_44, ti_45, ti_48, ti_57, ti_59, ti_60, ti_98, ti_99, ti_100, ti_101, ti_103, ti_108, ti_110, ti_114, ti_127]); omega))
  have hK42 : Kc (fun j => (a0 ≤ j ∧ j < a0 + 17)) lg0 it0 lg0 it39 := by rw [em40]; exact kc_u (by first | omega | (dsimp only; omega)) hKr
  try have e43 : (it39 a1 0).toInt = (it0 a1 0).toInt := by rw [em40]; exact congrArg Int32.toInt (congrFun (u2_row (by omega)) 0)
  have lp10 : ∀ (n : Nat) (x2 : Int32) (lg : LGt) (it : ITt), I8 lg it → Kc (fun j => (a0 ≤ j ∧ j < a0 + 17)) lg0 it0 lg it → ((0 ≤ (x2).toInt)) → (7 - (x2).toInt).toNat < n → w_X3_become_b10 a0 a1 Pz  n x2 lg it := by
    intro n10
    induction n10 with
    | zero => intro x2 lg it _ _ _ hn; exact absurd hn (Nat.not_lt_zero _)
    | succ n10 ih10 =>
      intro x2 lg46 it47 hI44 hK45 hv hn
      unfold w_X3_become_b10
      have hv10_0 := hv
      have f48 : 0 ≤ (it47 a1 0).toInt ∧ (it47 a1 0).toInt ≤ 6 := i8_3 hI44 (obr ha1)
      refine ⟨fun c15 => ?_, fun c15 => ?_⟩
      · try simp only [Int32.lt_iff_toInt_lt, Int32.le_iff_toInt_le, ← Int32.toInt_inj, Int32.toInt_toInt64, ti_m14, ti_m13, ti_m12, ti_m11, ti_m10, ti_m9, ti_m6, ti_m5, ti_m4, ti_m3, ti_m2, ti_m1, ti_0, ti_1, ti_2, ti_3, ti_4, ti_5, ti_6, ti_7, ti_8, ti_9, ti_10, ti_11, ti_12, ti_19, ti_20, ti_21, ti_44, ti_45, ti_48, ti_57, ti_59, ti_60, ti_98, ti_99, ti_100, ti_101, ti_103, ti_108, ti_110, ti_114, ti_127] at c15
        intro it49 em50
        have hI51 : I8 lg46 it49 := by rw [em50]; exact i8_u hI44 (ok8_3 (obr ha0) (fun q => absurd q (by decide)))
        have hK52 : Kc (fun j => (a0 ≤ j ∧ j < a0 + 17)) lg0 it0 lg46 it49 := by rw [em50]; exact kc_u (by first | omega | (dsimp only; omega)) hK45
        try have e53 : (it49 a1 0).toInt = (it47 a1 0).toInt := by rw [em50]; exact congrArg Int32.toInt (congrFun (u2_row (by omega)) 0)
        try have e54 : (it49 a1 4).toInt = (it47 a1 4).toInt := by rw [em50]; exact congrArg Int32.toInt (congrFun (u2_row (by omega)) 4)
        intro it55 em56
        have hI57 : I8 lg46 it55 := by rw [em56]; exact i8_u hI51 (ok8_a (rob ha0 16 (by decide) rfl) (by decide))
        have hK58 : Kc (fun j => (a0 ≤ j ∧ j < a0 + 17)) lg0 it0 lg46 it55 := by rw [em56]; exact kc_u (by first | omega | (dsimp only; omega)) hK52
        try have e59 : (it55 a1 0).toInt = (it49 a1 0).toInt := by rw [em56]; exact congrArg Int32.toInt (congrFun (u2_row (by omega)) 0)
        try have e60 : (it55 a1 4).toInt = (it49 a1 4).toInt := by rw [em56]; exact congrArg Int32.toInt (congrFun (u2_row (by omega)) 4)
        intro it61 em62
        have hI63 : I8 lg46 it61 := by rw [em62]; exact i8_u hI57 (ok8_a (rob ha0 16 (by decide) rfl) (by decide))
        have hK64 : Kc (fun j => (a0 ≤ j ∧ j < a0 + 17)) lg0 it0 lg46 it61 := by rw [em62]; exact kc_u (by first | omega | (dsimp only; omega)) hK58
        try have e65 : (it61 a1 0).toInt = (it55 a1 0).toInt := by rw [em62]; exact congrArg Int32.toInt (congrFun (u2_row (by omega)) 0)
        try have e66 : (it61 a1 4).toInt = (it55 a1 4).toInt := by rw [em62]; exact congrArg Int32.toInt (congrFun (u2_row (by omega)) 4)
        subst hp
        exact ⟨hI63, hK64⟩
      · try simp only [Int32.lt_iff_toInt_lt, Int32.le_iff_toInt_le, ← Int32.toInt_inj, Int32.toInt_toInt64, ti_m14, ti_m13, ti_m12, ti_m11, ti_m10, ti_m9, ti_m6, ti_m5, ti_m4, ti_m3, ti_m2, ti_m1, ti_0, ti_1, ti_2, ti_3, ti_4, ti_5, ti_6, ti_7, ti_8, ti_9, ti_10, ti_11, ti_12, ti_19, ti_20, ti_21, ti_44, ti_45, ti_48, ti_57, ti_59, ti_60, ti_98, ti_99, ti_100, ti_101, ti_103, ti_108, ti_110, ti_114, ti_127] at c15
        have hi67 : vp_in x2 6 := vp_of (by first | omega | ((try simp only [Int32.lt_iff_toInt_lt, Int32.le_iff_toInt_le, ← Int32.toInt_inj, Int32.toInt_toInt64, ti_m14, ti_m13, ti_m12, ti_m11, ti_m10, ti_m9, ti_m6, ti_m5, ti_m4, ti_m3, ti_m2, ti_m1, ti_0, ti_1, ti_2, ti_3, ti_4, ti_5, ti_6, ti_7, ti_8, ti_9, ti_10, ti_11, ti_12, ti_19, ti_20, ti_21, ti_44, ti_45, ti_48, ti_57, ti_59, ti_60, ti_98, ti_99, ti_100, ti_101, ti_103, ti_108, ti_110, ti_114, ti_127]); omega) | (split <;> omega)) (by first | omega | ((try simp only [Int32.lt_iff_toInt_lt, Int32.le_iff_toInt_le, ← Int32.toInt_inj, Int32.toInt_toInt64, ti_m14, ti_m13, ti_m12, ti_m11, ti_m10, ti_m9, ti_m6, ti_m5, ti_m4, ti_m3, ti_m2, ti_m1, ti_0, ti_1, ti_2, ti_3, ti_4, ti_5, ti_6, ti_7, ti_8, ti_9, ti_10, ti_11, ti_12, ti_19, ti_20, ti_21, ti_44, ti_45, ti_48, ti_57, ti_59, ti_60, ti_98, ti_99, ti_100, ti_101, ti_103, ti_108, ti_110, ti_114, ti_127]); omega) | (split <;> omega))
        refine ⟨hi67, ?_⟩
        have hz68 := vlt hi67
        have hi69 : vp_in x2 6 := vp_of (by first | omega | ((try simp only [Int32.lt_iff_toInt_lt, Int32.le_iff_toInt_le, ← Int32.toInt_inj, Int32.toInt_toInt64, ti_m14, ti_m13, ti_m12, ti_m11, ti_m10, ti_m9, ti_m6, ti_m5, ti_m4, ti_m3, ti_m2, ti_m1, ti_0, ti_1, ti_2, ti_3, ti_4, ti_5, ti_6, ti_7, ti_8, ti_9, ti_10, ti_11, ti_12, ti_19, ti_20, ti_21, ti_44, ti_45, ti_48, ti_57, ti_59, ti_60, ti_98, ti_99, ti_100, ti_101, ti_103, ti_108, ti_110, ti_114, ti_127]); omega) | (split <;> omega)) (by first | omega | ((try simp only [Int32.lt_iff_toInt_lt, Int32.le_iff_toInt_le, ← Int32.toInt_inj, Int32.toInt_toInt64, ti_m14, ti_m13, ti_m12, ti_m11, ti_m10, ti_m9, ti_m6, ti_m5, ti_m4, ti_m3, ti_m2, ti_m1, ti_0, ti_1, ti_2, ti_3, ti_4, ti_5, ti_6, ti_7, ti_8, ti_9, ti_10, ti_11, ti_12, ti_19, ti_20, ti_21, ti_44, ti_45, ti_48, ti_57, ti_59, ti_60, ti_98, ti_99, ti_100, ti_101, ti_103, ti_108, ti_110, ti_114, ti_127]); omega) | (split <;> omega))
        refine ⟨hi69, ?_⟩
        have hz70 := vlt hi69
        intro it71 em72
        have hI73 : I8 lg46 it71 := by rw [em72]; exact i8_u hI44 (ok8_a (rob ha0 1 (by decide) rfl) (by decide))
        have hK74 : Kc (fun j => (a0 ≤ j ∧ j < a0 + 17)) lg0 it0 lg46 it71 := by rw [em72]; exact kc_u (by first | omega | (dsimp only; omega)) hK45
        try have e75 : (it71 a1 0).toInt = (it47 a1 0).toInt := by rw [em72]; exact congrArg Int32.toInt (congrFun (u2_row (by omega)) 0)
        have hi76 : vp_in x2 6 := vp_of (by first | omega | ((try simp only [Int32.lt_iff_toInt_lt, Int32.le_iff_toInt_le, ← Int32.toInt_inj, Int32.toInt_toInt64, ti_m14, ti_m13, ti_m12, ti_m11, ti_m10, ti_m9, ti_m6, ti_m5, ti_m4, ti_m3, ti_m2, ti_m1, ti_0, ti_1, ti_2, ti_3, ti_4, ti_5, ti_6, ti_7, ti_8, ti_9, ti_10, ti_11, ti_12, ti_19, ti_20, ti_21, ti_44, ti_45, ti_48, ti_57, ti_59, ti_60, ti_98, ti_99, ti_100, ti_101, ti_103, ti_108, ti_110, ti_114, ti_127]); omega) | (split <;> omega)) (by first | omega | ((try simp only [Int32.lt_iff_toInt_lt, Int32.le_iff_toInt_le, ← Int32.toInt_inj, Int32.toInt_toInt64, ti_m14, ti_m13, ti_m12, ti_m11, ti_m10, ti_m9, ti_m6, ti_m5, ti_m4, ti_m3, ti_m2, ti_m1, ti_0, ti_1, ti_2, ti_3, ti_4, ti_5, ti_6, ti_7, ti_8, ti_9, ti_10, ti_11, ti_12, ti_19, ti_20, ti_21, ti_44, ti_45, ti_48, ti_57, ti_59, ti_60, ti_98, ti_99, ti_100, ti_101, ti_103, ti_108, ti_110, ti_114, ti_127]); omega) | (split <;> omega))
        refine ⟨hi76, ?_⟩
        have hz77 := vlt hi76
        have hi78 : vp_in x2 6 := vp_of (by first | omega | ((try simp only [Int32.lt_iff_toInt_lt, Int32.le_iff_toInt_le, ← Int32.toInt_inj, Int32.toInt_toInt64, ti_m14, ti_m13, ti_m12, ti_m11, ti_m10, ti_m9, ti_m6, ti_m5, ti_m4, ti_m3, ti_m2, ti_m1, ti_0, ti_1, ti_2, ti_3, ti_4, ti_5, ti_6, ti_7, ti_8, ti_9, ti_10, ti_11, ti_12, ti_19, ti_20, ti_21, ti_44, ti_45, ti_48, ti_57, ti_59, ti_60, ti_98, ti_99, ti_100, ti_101, ti_103, ti_108, ti_110, ti_114, ti_127]); omega) | (split <;> omega)) (by first | omega | ((try simp only [Int32.lt_iff_toInt_lt, Int32.le_iff_toInt_le, ← Int32.toInt_inj, Int32.toInt_toInt64, ti_m14, ti_m13, ti_m12, ti_m11, ti_m10, ti_m9, ti_m6, ti_m5, ti_m4, ti_m3, ti_m2, ti_m1, ti_0, ti_1, ti_2, ti_3, ti_4, ti_5, ti_6, ti_7, ti_8, ti_9, ti_10, ti_11, ti_12, ti_19, ti_20, ti_21, ti_44, ti_45, ti_48, ti_57, ti_59, ti_60, ti_98, ti_99, ti_100, ti_101, ti_103, ti_108, ti_110, ti_114, ti_127]); omega) | (split <;> omega))
        refine ⟨hi78, ?_⟩
        have hz79 := vlt hi78
        have hc82 : it71 (a1 + 4 + 2 * x2.toNatClampNeg) 2 &&& 1 = it71 (a1 + 4 + 2 * x2.toNatClampNeg) 2 := ib (i8_1 hI73 ((rpo4 ha1 (vlt (hi78)))))
        refine ⟨hc82, ?_⟩
        intro lg80 em_lg80 it81 em_it81
        have hI83 : I8 lg80 it81 := by rw [em_it81]; exact i8_u hI73 (ok8_1 ((rpo4 ha0 (vlt (hi76)))) (fun _ => i8_1 hI73 ((rpo4 ha1 (vlt (hi78))))))
        have hK84 : Kc (fun j => (a0 ≤ j ∧ j < a0 + 17)) lg0 it0 lg80 it81 := by rw [em_lg80, em_it81]; exact kc_f (by first | omega | (dsimp only; omega)) hK74
        try have e85 : (it81 a1 0).toInt = (it71 a1 0).toInt := by rw [em_it81]; exact congrArg Int32.toInt (congrFun (u2_row (by omega)) 0)
        have hi86 : vp_in x2 6 := vp_of (by first | omega | ((try simp only [Int32.lt_iff_toInt_lt, Int32.le_iff_toInt_le, ← Int32.toInt_inj, Int32.toInt_toInt64, ti_m14, ti_m13, ti_m12, ti_m11, ti_m10, ti_m9, ti_m6, ti_m5, ti_m4, ti_m3, ti_m2, ti_m1, ti_0, ti_1, ti_2, ti_3, ti_4, ti_5, ti_6, ti_7, ti_8, ti_9, ti_10, ti_11, ti_12, ti_19, ti_20, ti_21, ti_44, ti_45, ti_48, ti_57, ti_59, ti_60, ti_98, ti_99, ti_100, ti_101, ti_103, ti_108, ti_110, ti_114, ti_127]); omega) | (split <;> omega)) (by first | omega | ((try simp only [Int32.lt_iff_toInt_lt, Int32.le_iff_toInt_le, ← Int32.toInt_inj, Int32.toInt_toInt64, ti_m14, ti_m13, ti_m12, ti_m11, ti_m10, ti_m9, ti_m6, ti_m5, ti_m4, ti_m3, ti_m2, ti_m1, ti_0, ti_1, ti_2, ti_3, ti_4, ti_5, ti_6, ti_7, ti_8, ti_9, ti_10, ti_11, ti_12, ti_19, ti_20, ti_21, ti_44, ti_45, ti_48, ti_57, ti_59, ti_60, ti_98, ti_99, ti_100, ti_101, ti_103, ti_108, ti_110, ti_114, ti_127]); omega) | (split <;> omega))
        refine ⟨hi86, ?_⟩
        have hz87 := vlt hi86
        have hi88 : vp_in x2 6 := vp_of (by first | omega | ((try simp only [Int32.lt_iff_toInt_lt, Int32.le_iff_toInt_le, ← Int32.toInt_inj, Int32.toInt_toInt64, ti_m14, ti_m13, ti_m12, ti_m11, ti_m10, ti_m9, ti_m6, ti_m5, ti_m4, ti_m3, ti_m2, ti_m1, ti_0, ti_1, ti_2, ti_3, ti_4, ti_5, ti_6, ti_7, ti_8, ti_9, ti_10, ti_11, ti_12, ti_19, ti_20, ti_21, ti_44, ti_45, ti_48, ti_57, ti_59, ti_60, ti_98, ti_99, ti_100, ti_101, ti_103, ti_108, ti_110, ti_114, ti_127]); omega) | (split <;> omega)) (by first | omega | ((try simp only [Int32.lt_iff_toInt_lt, Int32.le_iff_toInt_le, ← Int32.toInt_inj, Int32.toInt_toInt64, ti_m14, ti_m13, ti_m12, ti_m11, ti_m10, ti_m9, ti_m6, ti_m5, ti_m4, ti_m3, ti_m2, ti_m1, ti_0, ti_1, ti_2, ti_3, ti_4, ti_5, ti_6, ti_7, ti_8, ti_9, ti_10, ti_11, ti_12, ti_19, ti_20, ti_21, ti_44, ti_45, ti_48, ti_57, ti_59, ti_60, ti_98, ti_99, ti_100, ti_101, ti_103, ti_108, ti_110, ti_114, ti_127]); omega) | (split <;> omega))
        refine ⟨hi88, ?_⟩
        have hz89 := vlt hi88
        have hc92 : it81 (a1 + 5 + 2 * x2.toNatClampNeg) 2 &&& 1 = it81 (a1 + 5 + 2 * x2.toNatClampNeg) 2 := ib (i8_1 hI83 ((rpo5 ha1 (vlt (hi88)))))
        refine ⟨hc92, ?_⟩
        intro lg90 em_lg90 it91 em_it91
        have hI93 : I8 lg90 it91 := by rw [em_it91]; exact i8_u hI83 (ok8_1 ((rpo5 ha0 (vlt (hi86)))) (fun _ => i8_1 hI83 ((rpo5 ha1 (vlt (hi88))))))
        have hK94 : Kc (fun j => (a0 ≤ j ∧ j < a0 + 17)) lg0 it0 lg90 it91 := by rw [em_lg90, em_it91]; exact kc_f (by first | omega | (dsimp only; omega)) hK84
        try have e95 : (it91 a1 0).toInt = (it81 a1 0).toInt := by rw [em_it91]; exact congrArg Int32.toInt (congrFun (u2_row (by omega)) 0)
        try have f96 : ((x2 + 1) : Int32).toInt = (x2).toInt + 1 := ad32 (a := (x2).toInt) (b := 1) (rfl) (ti_1) (by omega) (by omega)
        exact ih10 ((x2 + 1)) _ _ hI93 hK94 (by first | omega | assumption) (by omega)
  have t97 := ti_0
  exact ⟨_, lp10 ((7 - ((0 : Int32)).toInt).toNat + 1) ((0 : Int32)) _ _ hI41 hK42 (by first | omega | assumption) (Nat.lt_succ_self _)⟩
set_option maxRecDepth 100000 in
theorem s_X3_isLike {a0 : Nat} (ha0 : a0 ∈ rb) {a1 : Nat} (ha1 : a1 ∈ rb) {lg0 : LGt} {it0 : ITt} (hI : I8 lg0 it0) : w_X3_isLike a0 a1 (fun (v : Int32) (lg' : LGt) (it' : ITt) => (I8 lg' it' ∧ Kc (fun j => False) lg0 it0 lg' it') ∧ (v = 0 ∨ v = 1))  lg0 it0 := by
  have hKr : Kc (fun j => False) lg0 it0 lg0 it0 := kc_r
  generalize hp : (fun (v : Int32) (lg' : LGt) (it' : ITt) => (I8 lg' it' ∧ Kc (fun j => False) lg0 it0 lg' it') ∧ (v = 0 ∨ v = 1)) = Pz
  unfold w_X3_isLike
  have f37 : 0 ≤ (it0 a0 0).toInt ∧ (it0 a0 0).toInt ≤ 6 := i8_3 hI (obr ha0)
  have f38 : 0 ≤ (it0 a1 0).toInt ∧ (it0 a1 0).toInt ≤ 6 := i8_3 hI (obr ha1)
  refine ⟨fun c8 => ?_, fun c8 => ?_⟩
  · try simp only [Int32.lt_iff_toInt_lt, Int32.le_iff_toInt_le, ← Int32.toInt_inj, Int32.toInt_toInt64, ti_m14, ti_m13, ti_m12, ti_m11, ti_m10, ti_m9, ti_m6, ti_m5, ti_m4, ti_m3, ti_m2, ti_m1, ti_0, ti_1, ti_2, ti_3, ti_4, ti_5, ti_6, ti_7, ti_8, ti_9, ti_10, ti_11, ti_12, ti_19, ti_20, ti_21, ti_44, ti_45, ti_48, ti_57, ti_59, ti_60, ti_98, ti_99, ti_100, ti_101, ti_103, ti_108, ti_110, ti_114, ti_127] at c8
    subst hp
    exact ⟨⟨hI, hKr⟩, by first | exact Or.inl rfl | exact Or.inr rfl | assumption⟩
  · try simp only [Int32.lt_iff_toInt_lt, Int32.le_iff_toInt_le, ← Int32.toInt_inj, Int32.toInt_toInt64, ti_m14, ti_m13, ti_m12, ti_m11, ti_m10, ti_m9, ti_m6, ti_m5, ti_m4, ti_m3, ti_m2, ti_m1, ti_0, ti_1, ti_2, ti_3, ti_4, ti_5, ti_6, ti_7, ti_8, ti_9, ti_10, ti_11, ti_12, ti_19, ti_20, ti_21, ti_44, ti_45, ti_48, ti_57, ti_59, ti_60, ti_98, ti_99, ti_100, ti_101, ti_103, ti_108, ti_110, ti_114, ti_127] at c8
    refine ⟨fun c19 => ?_, fun c19 => ?_⟩
    · try simp only [Int32.lt_iff_toInt_lt, Int32.le_iff_toInt_le, ← Int32.toInt_inj, Int32.toInt_toInt64, ti_m14, ti_m13, ti_m12, ti_m11, ti_m10, ti_m9, ti_m6, ti_m5, ti_m4, ti_m3, ti_m2, ti_m1, ti_0, ti_1, ti_2, ti_3, ti_4, ti_5, ti_6, ti_7, ti_8, ti_9, ti_10, ti_11, ti_12, ti_19, ti_20, ti_21, ti_44, ti_45, ti_48, ti_57, ti_59, ti_60, ti_98, ti_99, ti_100, ti_101, ti_103, ti_108, ti_110, ti_114, ti_127] at c19
      subst hp
      exact ⟨⟨hI, hKr⟩, by first | exact Or.inl rfl | exact Or.inr rfl | assumption⟩
    · try simp only [Int32.lt_iff_toInt_lt, Int32.le_iff_toInt_le, ← Int32.toInt_inj, Int32.toInt_toInt64, ti_m14, ti_m13, ti_m12, ti_m11, ti_m10, ti_m9, ti_m6, ti_m5, ti_m4, ti_m3, ti_m2, ti_m1, ti_0, ti_1, ti_2, ti_3, ti_4, ti_5, ti_6, ti_7, ti_8, ti_9, ti_10, ti_11, ti_12, ti_19, ti_20, ti_21, ti_44, ti_45, ti_48, ti_57, ti_59, ti_60, ti_98, ti_99, ti_100, ti_101, ti_103, ti_108, ti_110, ti_114, ti_127] at c19
      refine ⟨fun c34 => ?_, fun c34 => ?_⟩
      · try simp only [Int32.lt_iff_toInt_lt, Int32.le_iff_toInt_le, ← Int32.toInt_inj, Int32.toInt_toInt64, ti_m14, ti_m13, ti_m12, ti_m11, ti_m10, ti_m9, ti_m6, ti_m5, ti_m4, ti_m3, ti_m2, ti_m1, ti_0, ti_1, ti_2, ti_3, ti_4, ti_5, ti_6, ti_7, ti_8, ti_9, ti_10, ti_11, ti_12, ti_19, ti_20, ti_21, ti_44, ti_45, ti_48, ti_57, ti_59, ti_60, ti_98, ti_99, ti_100, ti_101, ti_103, ti_108, ti_110, ti_114, ti_127] at c34
        subst hp
        exact ⟨⟨hI, hKr⟩, by first | exact Or.inl rfl | exact Or.inr rfl | assumption⟩
      · try simp only [Int32.lt_iff_toInt_lt, Int32.le_iff_toInt_le, ← Int32.toInt_inj, Int32.toInt_toInt64, ti_m14, ti_m13, ti_m12, ti_m11, ti_m10, ti_m9, ti_m6, ti_m5, ti_m4, ti_m3, ti_m2, ti_m1, ti_0, ti_1, ti_2, ti_3, ti_4, ti_5, ti_6, ti_7, ti_8, ti_9, ti_10, ti_11, ti_12, ti_19, ti_20, ti_21, ti_44, ti_45, ti_48, ti_57, ti_59, ti_60, ti_98, ti_99, ti_100, ti_101, ti_103, ti_108, ti_110, ti_114, ti_127] at c34
        refine ⟨fun c49 => ?_, fun c49 => ?_⟩
        · try simp only [Int32.lt_iff_toInt_lt, Int32.le_iff_toInt_le, ← Int32.toInt_inj, Int32.toInt_toInt64, ti_m14, ti_m13, ti_m12, ti_m11, ti_m10, ti_m9, ti_m6, ti_m5, ti_m4, ti_m3, ti_m2, ti_m1, ti_0, ti_1, ti_2, ti_3, ti_4, ti_5, ti_6, ti_7, ti_8, ti_9, ti_10, ti_11, ti_12, ti_19, ti_20, ti_21, ti_44, ti_45, ti_48, ti_57, ti_59, ti_60, ti_98, ti_99, ti_100, ti_101, ti_103, ti_108, ti_110, ti_114, ti_127] at c49
          have lp56 : ∀ (n : Nat) (x2 : Int32) (lg : LGt) (it : ITt), I8 lg it → Kc (fun j => False) lg0 it0 lg it → ((0 ≤ (x2).toInt)) → (7 - (x2).toInt).toNat < n → w_X3_isLike_b56 a0 a1 Pz  n x2 lg it := by
            intro n56
            induction n56 with
            | zero => intro x2 lg it _ _ _ hn; exact absurd hn (Nat.not_lt_zero _)
            | succ n56 ih56 =>
              intro x2 lg41 it42 hI39 hK40 hv hn
              unfold w_X3_isLike_b56
              have hv56_0 := hv
              have f43 : 0 ≤ (it42 a0 0).toInt ∧ (it42 a0 0).toInt ≤ 6 := i8_3 hI39 (obr ha0)
              refine ⟨fun c61 => ?_, fun c61 => ?_⟩
              · try simp only [Int32.lt_iff_toInt_lt, Int32.le_iff_toInt_le, ← Int32.toInt_inj, Int32.toInt_toInt64, ti_m14, ti_m13, ti_m12, ti_m11, ti_m10, ti_m9, ti_m6, ti_m5, ti_m4, ti_m3, ti_m2, ti_m1, ti_0, ti_1, ti_2, ti_3, ti_4, ti_5, ti_6, ti_7, ti_8, ti_9, ti_10, ti_11, ti_12, ti_19, ti_20, ti_21, ti_44, ti_45, ti_48, ti_57, ti_59, ti_60, ti_98, ti_99, ti_100, ti_101, ti_103, ti_108, ti_110, ti_114, ti_127] at c61
                subst hp
                exact ⟨⟨hI39, hK40⟩, by first | exact Or.inl rfl | exact Or.inr rfl | assumption⟩
              · try simp only [Int32.lt_iff_toInt_lt, Int32.le_iff_toInt_le, ← Int32.toInt_inj, Int32.toInt_toInt64, ti_m14, ti_m13, ti_m12, ti_m11, ti_m10, ti_m9, ti_m6, ti_m5, ti_m4, ti_m3, ti_m2, ti_m1, ti_0, ti_1, ti_2, ti_3, ti_4, ti_5, ti_6, ti_7, ti_8, ti_9, ti_10, ti_11, ti_12, ti_19, ti_20, ti_21, ti_44, ti_45, ti_48, ti_57, ti_59, ti_60, ti_98, ti_99, ti_100, ti_101, ti_103, ti_108, ti_110, ti_114, ti_127] at c61
                have hi44 : vp_in x2 6 := vp_of (by first | omega | ((try simp only [Int32.lt_iff_toInt_lt, Int32.le_iff_toInt_le, ← Int32.toInt_inj, Int32.toInt_toInt64, ti_m14, ti_m13, ti_m12, ti_m11, ti_m10, ti_m9, ti_m6, ti_m5, ti_m4, ti_m3, ti_m2, ti_m1, ti_0, ti_1, ti_2, ti_3, ti_4, ti_5, ti_6, ti_7, ti_8, ti_9, ti_10, ti_11, ti_12, ti_19, ti_20, ti_21, ti_44, ti_45, ti_48, ti_57, ti_59, ti_60, ti_98, ti_99, ti_100, ti_101, ti_103, ti_108, ti_110, ti_114, ti_127]); omega) | (split <;> omega)) (by first | omega | ((try simp only [Int32.lt_iff_toInt_lt, Int32.le_iff_toInt_le, ← Int32.toInt_inj, Int32.toInt_toInt64, ti_m14, ti_m13, ti_m12, ti_m11, ti_m10, ti_m9, ti_m6, ti_m5, ti_m4, ti_m3, ti_m2, ti_m1, ti_0, ti_1, ti_2, ti_3, ti_4, ti_5, ti_6, ti_7, ti_8, ti_9, ti_10, ti_11, ti_12, ti_19, ti_20, ti_21, ti_44, ti_45, ti_48, ti_57, ti_59, ti_60, ti_98, ti_99, ti_100, ti_101, ti_103, ti_108, ti_110, ti_114, ti_127]); omega) | (split <;> omega))
                refine ⟨hi44, ?_⟩
                have hz45 := vlt hi44
                have hi46 : vp_in x2 6 := vp_of (by first | omega | ((try simp only [Int32.lt_iff_toInt_lt, Int32.le_iff_toInt_le, ← Int32.toInt_inj, Int32.toInt_toInt64, ti_m14, ti_m13, ti_m12, ti_m11, ti_m10, ti_m9, ti_m6, ti_m5, ti_m4, ti_m3, ti_m2, ti_m1, ti_0, ti_1, ti_2, ti_3, ti_4, ti_5, ti_6, ti_7, ti_8, ti_9, ti_10, ti_11, ti_12, ti_19, ti_20, ti_21, ti_44, ti_45, ti_48, ti_57, ti_59, ti_60, ti_98, ti_99, ti_100, ti_101, ti_103, ti_108, ti_110, ti_114, ti_127]); omega) | (split <;> omega)) (by first | omega | ((try simp only [Int32.lt_iff_toInt_lt, Int32.le_iff_toInt_le, ← Int32.toInt_inj, Int32.toInt_toInt64, ti_m14, ti_m13, ti_m12, ti_m11, ti_m10, ti_m9, ti_m6, ti_m5, ti_m4, ti_m3, ti_m2, ti_m1, ti_0, ti_1, ti_2, ti_3, ti_4, ti_5, ti_6, ti_7, ti_8, ti_9, ti_10, ti_11, ti_12, ti_19, ti_20, ti_21, ti_44, ti_45, ti_48, ti_57, ti_59, ti_60, ti_98, ti_99, ti_100, ti_101, ti_103, ti_108, ti_110, ti_114, ti_127]); omega) | (split <;> omega))
                refine ⟨hi46, ?_⟩
                have hz47 := vlt hi46
                refine ⟨fun c76 => ?_, fun c76 => ?_⟩
                · try simp only [Int32.lt_iff_toInt_lt, Int32.le_iff_toInt_le, ← Int32.toInt_inj, Int32.toInt_toInt64, ti_m14, ti_m13, ti_m12, ti_m11, ti_m10, ti_m9, ti_m6, ti_m5, ti_m4, ti_m3, ti_m2, ti_m1, ti_0, ti_1, ti_2, ti_3, ti_4, ti_5, ti_6, ti_7, ti_8, ti_9, ti_10, ti_11, ti_12, ti_19, ti_20, ti_21, ti_44, ti_45, ti_48, ti_57, ti_59, ti_60, ti_98, ti_99, ti_100, ti_101, ti_103, ti_108, ti_110, ti_114, ti_127] at c76
                  subst hp
                  exact ⟨⟨hI39, hK40⟩, by first | exact Or.inl rfl | exact Or.inr rfl | assumption⟩
                · try simp only [Int32.lt_iff_toInt_lt, Int32.le_iff_toInt_le, ← Int32.toInt_inj, Int32.toInt_toInt64, ti_m14, ti_m13, ti_m12, ti_m11, ti_m10, ti_m9, ti_m6, ti_m5, ti_m4, ti_m3, ti_m2, ti_m1, ti_0, ti_1, ti_2, ti_3, ti_4, ti_5, ti_6, ti_7, ti_8, ti_9, ti_10, ti_11, ti_12, ti_19, ti_20, ti_21, ti_44, ti_45, ti_48, ti_57, ti_59, ti_60, ti_98, ti_99, ti_100, ti_101, ti_103, ti_108, ti_110, ti_114, ti_127] at c76
                  have hi48 : vp_in x2 6 := vp_of (by first | omega | ((try simp only [Int32.lt_iff_toInt_lt, Int32.le_iff_toInt_le, ← Int32.toInt_inj, Int32.toInt_toInt64, ti_m14, ti_m13, ti_m12, ti_m11, ti_m10, ti_m9, ti_m6, ti_m5, ti_m4, ti_m3, ti_m2, ti_m1, ti_0, ti_1, ti_2, ti_3, ti_4, ti_5, ti_6, ti_7, ti_8, ti_9, ti_10, ti_11, ti_12, ti_19, ti_20, ti_21, ti_44, ti_45, ti_48, ti_57, ti_59, ti_60, ti_98, ti_99, ti_100, ti_101, ti_103, ti_108, ti_110, ti_114, ti_127]); omega) | (split <;> omega)) (by first | omega | ((try simp only [Int32.lt_iff_toInt_lt, Int32.le_iff_toInt_le, ← Int32.toInt_inj, Int32.toInt_toInt64, ti_m14, ti_m13, ti_m12, ti_m11, ti_m10, ti_m9, ti_m6, ti_m5, ti_m4, ti_m3, ti_m2, ti_m1, ti_0, ti_1, ti_2, ti_3, ti_4, ti_5, ti_6, ti_7, ti_8, ti_9, ti_10, ti_11, ti_12, ti_19, ti_20, ti_21, ti_44, ti_45, ti_48, ti_57, ti_59, ti_60, ti_98, ti_99, ti_100, ti_101, ti_103, ti_108, ti_110, ti_114, ti_127]); omega) | (split <;> omega))
                  refine ⟨hi48, ?_⟩
                  have hz49 := vlt hi48
                  have hi50 : vp_in x2 6 := vp_of (by first | omega | ((try simp only [Int32.lt_iff_toInt_lt, Int32.le_iff_toInt_le, ← Int32.toInt_inj, Int32.toInt_toInt64, ti_m14, ti_m13, ti_m12, ti_m11, ti_m10, ti_m9, ti_m6, ti_m5, ti_m4, ti_m3, ti_m2, ti_m1, ti_0, ti_1, ti_2, ti_3, ti_4, ti_5, ti_6, ti_7, ti_8, ti_9, ti_10, ti_11, ti_12, ti_19, ti_20, ti_21, ti_44, ti_45, ti_48, ti_57, ti_59, ti_60, ti_98, ti_99, ti_100, ti_101, ti_103, ti_108, ti_110, ti_114, ti_127]); omega) | (split <;> omega)) (by first | omega | ((try simp only [Int32.lt_iff_toInt_lt, Int32.le_iff_toInt_le, ← Int32.toInt_inj, Int32.toInt_toInt64, ti_m14, ti_m13, ti_m12, ti_m11, ti_m10, ti_m9, ti_m6, ti_m5, ti_m4, ti_m3, ti_m2, ti_m1, ti_0, ti_1, ti_2, ti_3, ti_4, ti_5, ti_6, ti_7, ti_8, ti_9, ti_10, ti_11, ti_12, ti_19, ti_20, ti_21, ti_44, ti_45, ti_48, ti_57, ti_59, ti_60, ti_98, ti_99, ti_100, ti_101, ti_103, ti_108, ti_110, ti_114, ti_127]); omega) | (split <;> omega))
                  refine ⟨hi50, ?_⟩
                  have hz51 := vlt hi50
                  refine ⟨fun c94 => ?_, fun c94 => ?_⟩
                  · try simp only [Int32.lt_iff_toInt_lt, Int32.le_iff_toInt_le, ← Int32.toInt_inj, Int32.toInt_toInt64, ti_m14, ti_m13, ti_m12, ti_m11, ti_m10, ti_m9, ti_m6, ti_m5, ti_m4, ti_m3, ti_m2, ti_m1, ti_0, ti_1, ti_2, ti_3, ti_4, ti_5, ti_6, ti_7, ti_8, ti_9, ti_10, ti_11, ti_12, ti_19, ti_20, ti_21, ti_44, ti_45, ti_48, ti_57, ti_59, ti_60, ti_98, ti_99, ti_100, ti_101, ti_103, ti_108, ti_110, ti_114, ti_127] at c94
                    subst hp
                    exact ⟨⟨hI39, hK40⟩, by first | exact Or.inl rfl | exact Or.inr rfl | assumption⟩
                  · try simp only [Int32.lt_iff_toInt_lt, Int32.le_iff_toInt_le, ← Int32.toInt_inj, Int32.toInt_toInt64, ti_m14, ti_m13, ti_m12, ti_m11, ti_m10, ti_m9, ti_m6, ti_m5, ti_m4, ti_m3, ti_m2, ti_m1, ti_0, ti_1, ti_2, ti_3, ti_4, ti_5, ti_6, ti_7, ti_8, ti_9, ti_10, ti_11, ti_12, ti_19, ti_20, ti_21, ti_44, ti_45, ti_48, ti_57, ti_59, ti_60, ti_98, ti_99, ti_100, ti_101, ti_103, ti_108, ti_110, ti_114, ti_127] at c94
                    have hi52 : vp_in x2 6 := vp_of (by first | omega | ((try simp only [Int32.lt_iff_toInt_lt, Int32.le_iff_toInt_le, ← Int32.toInt_inj, Int32.toInt_toInt64, ti_m14, ti_m13, ti_m12, ti_m11, ti_m10, ti_m9, ti_m6, ti_m5, ti_m4, ti_m3, ti_m2, ti_m1, ti_0, ti_1, ti_2, ti_3, ti_4, ti_5, ti_6, ti_7, ti_8, ti_9, ti_10, ti_11, ti_12, ti_19, ti_20, ti_21, ti_44, ti_45, ti_48, ti_57, ti_59, ti_60, ti_98, ti_99, ti_100, ti_101, ti_103, ti_108, ti_110, ti_114, ti_127]); omega) | (split <;> omega)) (by first | omega | ((try simp only [Int32.lt_iff_toInt_lt, Int32.le_iff_toInt_le, ← Int32.toInt_inj, Int32.toInt_toInt64, ti_m14, ti_m13, ti_m12, ti_m11, ti_m10, ti_m9, ti_m6, ti_m5, ti_m4, ti_m3, ti_m2, ti_m1, ti_0, ti_1, ti_2, ti_3, ti_4, ti_5, ti_6, ti_7, ti_8, ti_9, ti_10, ti_11, ti_12, ti_19, ti_20, ti_21, ti_44, ti_45, ti_48, ti_57, ti_59, ti_60, ti_98, ti_99, ti_100, ti_101, ti_103, ti_108, ti_110, ti_114, ti_127]); omega) | (split <;> omega))
                    refine ⟨hi52, ?_⟩
                    have hz53 := vlt hi52
                    have hi54 : vp_in x2 6 := vp_of (by first | omega | ((try simp only [Int32.lt_iff_toInt_lt, Int32.le_iff_toInt_le, ← Int32.toInt_inj, Int32.toInt_toInt64, ti_m14, ti_m13, ti_m12, ti_m11, ti_m10, ti_m9, ti_m6, ti_m5, ti_m4, ti_m3, ti_m2, ti_m1, ti_0, ti_1, ti_2, ti_3, ti_4, ti_5, ti_6, ti_7, ti_8, ti_9, ti_10, ti_11, ti_12, ti_19, ti_20, ti_21, ti_44, ti_45, ti_48, ti_57, ti_59, ti_60, ti_98, ti_99, ti_100, ti_101, ti_103, ti_108, ti_110, ti_114, ti_127]); omega) | (split <;> omega)) (by first | omega | ((try simp only [Int32.lt_iff_toInt_lt, Int32.le_iff_toInt_le, ← Int32.toInt_inj, Int32.toInt_toInt64, ti_m14, ti_m13, ti_m12, ti_m11, ti_m10, ti_m9, ti_m6, ti_m5, ti_m4, ti_m3, ti_m2, ti_m1, ti_0, ti_1, ti_2, ti_3, ti_4, ti_5, ti_6, ti_7, ti_8, ti_9, ti_10, ti_11, ti_12, ti_19, ti_20, ti_21, ti_44, ti_45, ti_48, ti_57, ti_59, ti_60, ti_98, ti_99, ti_100, ti_101, ti_103, ti_108, ti_110, ti_114, ti_127]); omega) | (split <;> omega))
                    refine ⟨hi54, ?_⟩
                    have hz55 := vlt hi54
                    refine ⟨fun c112 => ?_, fun c112 => ?_⟩
                    · try simp only [Int32.lt_iff_toInt_lt, Int32.le_iff_toInt_le, ← Int32.toInt_inj, Int32.toInt_toInt64, ti_m14, ti_m13, ti_m12, ti_m11, ti_m10, ti_m9, ti_m6, ti_m5, ti_m4, ti_m3, ti_m2, ti_m1, ti_0, ti_1, ti_2, ti_3, ti_4, ti_5, ti_6, ti_7, ti_8, ti_9, ti_10, ti_11, ti_12, ti_19, ti_20, ti_21, ti_44, ti_45, ti_48, ti_57, ti_59, ti_60, ti_98, ti_99, ti_100, ti_101, ti_103, ti_108, ti_110, ti_114, ti_127] at c112
                      try have f56 : ((x2 + 1) : Int32).toInt = (x2).toInt + 1 := ad32 (a := (x2).toInt) (b := 1) (rfl) (ti_1) (by omega) (by omega)
                      exact ih56 ((x2 + 1)) _ _ hI39 hK40 (by first | omega | assumption) (by omega)
                    · try simp only [Int32.lt_iff_toInt_lt, Int32.le_iff_toInt_le, ← Int32.toInt_inj, Int32.toInt_toInt64, ti_m14, ti_m13, ti_m12, ti_m11, ti_m10, ti_m9, ti_m6, ti_m5, ti_m4, ti_m3, ti_m2, ti_m1, ti_0, ti_1, ti_2, ti_3, ti_4, ti_5, ti_6, ti_7, ti_8, ti_9, ti_10, ti_11, ti_12, ti_19, ti_20, ti_21, ti_44, ti_45, ti_48, ti_57, ti_59, ti_60, ti_98, ti_99, ti_100, ti_101, ti_103, ti_108, ti_110, ti_114, ti_127] at c112
                      subst hp
                      exact ⟨⟨hI39, hK40⟩, by first | exact Or.inl rfl | exact Or.inr rfl | assumption⟩
          have t57 := ti_0
          exact ⟨_, lp56 ((7 - ((0 : Int32)).toInt).toNat + 1) ((0 : Int32)) _ _ hI hKr (by first | omega | assumption) (Nat.lt_succ_self _)⟩
        · try simp only [Int32.lt_iff_toInt_lt, Int32.le_iff_toInt_le, ← Int32.toInt_inj, Int32.toInt_toInt64, ti_m14, ti_m13, ti_m12, ti_m11, ti_m10, ti_m9, ti_m6, ti_m5, ti_m4, ti_m3, ti_m2, ti_m1, ti_0, ti_1, ti_2, ti_3, ti_4, ti_5, ti_6, ti_7, ti_8, ti_9, ti_10, ti_11, ti_12, ti_19, ti_20, ti_21, ti_44, ti_45, ti_48, ti_57, ti_59, ti_60, ti_98, ti_99, ti_100, ti_101, ti_103, ti_108, ti_110, ti_114, ti_127] at c49
          subst hp
          exact ⟨⟨hI, hKr⟩, by first | exact Or.inl rfl | exact Or.inr rfl | assumption⟩
theorem sb_cases {s : Nat} (h : s ∈ sb) : s = 1 ∨ s = 28 := by
  unfold sb at h
  simpa using h
theorem sb_lens {s s' : Nat} (h : s ∈ sb) (h' : s' ∈ sb) : (LAY (s' + 18 + 1)).2 = (LAY (s + 18 + 1)).2 ∧ (LAY (s' + 21 + 1)).2 = (LAY (s + 21 + 1)).2 ∧ (LAY (s' + 24 + 1)).2 = (LAY (s + 24 + 1)).2 := by
  rcases sb_cases h with rfl | rfl <;> rcases sb_cases h' with rfl | rfl <;> decide +kernel
theorem rb_far {r : Nat} (h : r ∈ rb) : r + 17 ≤ 437 ∨ 450 ≤ r := (show ∀ r ∈ rb, r + 17 ≤ 437 ∨ 450 ≤ r by decide) r h
theorem ob_ne {a b c d : Nat} (h : Ob NT a c) (h2 : Ob NT b d) (e : c ≠ d) : a ≠ b := fun q => e (h.2.symm.trans (by rw [q]; exact h2.2))
theorem ob1_far {j : Nat} (h : Ob NT j 1) : j < 489 := by
  have h2 : ∀ j, j < 523 → (LAY j).1 = 1 → j < 489 := by decide +kernel
  exact h2 j h.1 h.2
set_option maxRecDepth 100000 in
theorem s_X4_become {a0 : Nat} (ha0 : a0 ∈ sb) {a1 : Nat} (ha1 : a1 ∈ sb) {lg0 : LGt} {it0 : ITt} (hI : I8 lg0 it0) : w_X4_become a0 a1 (fun (lg' : LGt) (it' : ITt) => (I8 lg' it' ∧ Kc (fun j => (a0 ≤ j ∧ j < a0 + 27)) lg0 it0 lg' it'))  lg0 it0 := by
  have hKr : Kc (fun j => (a0 ≤ j ∧ j < a0 + 27)) lg0 it0 lg0 it0 := kc_r
  generalize hp : (fun (lg' : LGt) (it' : ITt) => (I8 lg' it' ∧ Kc (fun j => (a0 ≤ j ∧ j < a0 + 27)) lg0 it0 lg' it')) = Pz
  unfold w_X4_become
  have hln := sb_lens ha0 ha1
  refine ⟨_, s_X3_become ((sm0 ha0)) ((sm0 ha1))  hI , ?_⟩
  intro lg29 it30 hq
  obtain ⟨hI31, hK32⟩ := hq
  have hK33 : Kc (fun j => (a0 ≤ j ∧ j < a0 + 27)) lg0 it0 lg29 it30 := kc_t hKr hK32 (fun j hj => by first | omega | exact False.elim hj | (dsimp only at hj ⊢; omega))
  refine ⟨_, s_X2_become ((sm1 ha0)) ((sm1 ha1))  hI31 (hln.1), ?_⟩
  intro lg36 it37 hq
  obtain ⟨⟨hI38, hK39⟩, ha42⟩ := hq
  have hK40 : Kc (fun j => (a0 ≤ j ∧ j < a0 + 27)) lg0 it0 lg36 it37 := kc_t hK33 hK39 (fun j hj => by first | omega | exact False.elim hj | (dsimp only at hj ⊢; omega))
  refine ⟨_, s_X2_become ((sm2 ha0)) ((sm2 ha1))  hI38 (hln.2.1), ?_⟩
  intro lg43 it44 hq
  obtain ⟨⟨hI45, hK46⟩, ha49⟩ := hq
  have hK47 : Kc (fun j => (a0 ≤ j ∧ j < a0 + 27)) lg0 it0 lg43 it44 := kc_t hK40 hK46 (fun j hj => by first | omega | exact False.elim hj | (dsimp only at hj ⊢; omega))
  refine ⟨_, s_X2_become ((sm3 ha0)) ((sm3 ha1))  hI45 (hln.2.2), ?_⟩
  intro lg50 it51 hq
  obtain ⟨⟨hI52, hK53⟩, ha56⟩ := hq
  have hK54 : Kc (fun j => (a0 ≤ j ∧ j < a0 + 27)) lg0 it0 lg50 it51 := kc_t hK47 hK53 (fun j hj => by first | omega | exact False.elim hj | (dsimp only at hj ⊢; omega))
  subst hp
  exact ⟨hI52, hK54⟩
set_option maxRecDepth 100000 in
theorem s_X6_renewAs {a0 : Nat} (ha0 : a0 ∈ tb) (a1 : Int32) (a2 : Int32) {lg0 : LGt} {it0 : ITt} (hI : I8 lg0 it0) (hn : 0 ≤ a2.toInt ∧ a2.toInt ≤ 60) : w_X6_renewAs a0 a1 a2 (fun (lg' : LGt) (it' : ITt) => (I8 lg' it' ∧ Kc (fun j => (a0 ≤ j ∧ j < a0 + 2)) lg0 it0 lg' it'))  lg0 it0 := by
  have hb_a1 := And.intro a1.le_toInt a1.toInt_lt
  have hb_a2 := And.intro a2.le_toInt a2.toInt_lt
  have hKr : Kc (fun j => (a0 ≤ j ∧ j < a0 + 2)) lg0 it0 lg0 it0 := kc_r
  generalize hp : (fun (lg' : LGt) (it' : ITt) => (I8 lg' it' ∧ Kc (fun j => (a0 ≤ j ∧ j < a0 + 2)) lg0 it0 lg' it')) = Pz
  unfold w_X6_renewAs
  intro it7 em8
  have hI9 : I8 lg0 it7 := by rw [em8]; exact i8_u hI (ok8_6 (obt ha0) (fun q => absurd q (by decide)))
  have hK10 : Kc (fun j => (a0 ≤ j ∧ j < a0 + 2)) lg0 it0 lg0 it7 := by rw [em8]; exact kc_u (by first | omega | (dsimp only; omega)) hKr
  intro it11 em12
  have hI13 : I8 lg0 it11 := by rw [em12]; exact i8_u hI9 (ok8_6 (obt ha0) (fun _ => by (try simp only [Int32.lt_iff_toInt_lt, Int32.le_iff_toInt_le, ← Int32.toInt_inj, Int32.toInt_toInt64, ti_m14, ti_m13, ti_m12, ti_m11, ti_m10, ti_m9, ti_m6, ti_m5, ti_m4, ti_m3, ti_m2, ti_m1, ti_0, ti_1, ti_2, ti_3, ti_4, ti_5, ti_6, ti_7, ti_8, ti_9, ti_10, ti_11, ti_12, ti_19, ti_20, ti_21, ti_44, ti_45, ti_48, ti_57, ti_59, ti_60, ti_98, ti_99, ti_100, ti_101, ti_103, ti_108, ti_110, ti_114, ti_127]); omega))
  have hK14 : Kc (fun j => (a0 ≤ j ∧ j < a0 + 2)) lg0 it0 lg0 it11 := by rw [em12]; exact kc_u (by first | omega | (dsimp only; omega)) hK10
  intro lg15 em_lg15
  have hI16 : I8 lg15 it11 := hI13
  have hK17 : Kc (fun j => (a0 ≤ j ∧ j < a0 + 2)) lg0 it0 lg15 it11 := by rw [em_lg15]; exact kc_fill (by first | omega | (dsimp only; omega)) hK14
  subst hp
  exact ⟨hI16, hK17⟩
set_option maxRecDepth 100000 in
theorem s_X6_cut {a0 : Nat} (ha0 : a0 ∈ tb) (a1 : Int64) {lg0 : LGt} {it0 : ITt} (hI : I8 lg0 it0) : w_X6_cut a0 a1 (fun (v : Int64) (lg' : LGt) (it' : ITt) => (I8 lg' it' ∧ Kc (fun j => False) lg0 it0 lg' it'))  lg0 it0 := by
  have hKr : Kc (fun j => False) lg0 it0 lg0 it0 := kc_r
  generalize hp : (fun (v : Int64) (lg' : LGt) (it' : ITt) => (I8 lg' it' ∧ Kc (fun j => False) lg0 it0 lg' it')) = Pz
  unfold w_X6_cut
  refine ⟨fun c4 => ?_, fun c4 => ?_, fun c4 => ?_, fun c4 => ?_, fun c4 => ?_, fun c4 => ?_, trivial⟩
  · skip
    subst hp
    exact ⟨hI, hKr⟩
  · skip
    subst hp
    exact ⟨hI, hKr⟩
  · skip
    subst hp
    exact ⟨hI, hKr⟩
  · skip
    subst hp
    exact ⟨hI, hKr⟩
  · skip
    subst hp
    exact ⟨hI, hKr⟩
  · skip
    refine ⟨fun c57 => ?_, fun c57 => ?_⟩
    · try simp only [Int32.lt_iff_toInt_lt, Int32.le_iff_toInt_le, ← Int32.toInt_inj, Int32.toInt_toInt64, ti_m14, ti_m13, ti_m12, ti_m11, ti_m10, ti_m9, ti_m6, ti_m5, ti_m4, ti_m3, ti_m2, ti_m1, ti_0, ti_1, ti_2, ti_3, ti_4, ti_5, ti_6, ti_7, ti_8, ti_9, ti_10, ti_11, ti_12, ti_19, ti_20, ti_21, ti_44, ti_45, ti_48, ti_57, ti_59, ti_60, ti_98, ti_99, ti_100, ti_101, ti_103, ti_108, ti_110, ti_114, ti_127] at c57
      subst hp
      exact ⟨hI, hKr⟩
    · try simp only [Int32.lt_iff_toInt_lt, Int32.le_iff_toInt_le, ← Int32.toInt_inj, Int32.toInt_toInt64, ti_m14, ti_m13, ti_m12, ti_m11, ti_m10, ti_m9, ti_m6, ti_m5, ti_m4, ti_m3, ti_m2, ti_m1, ti_0, ti_1, ti_2, ti_3, ti_4, ti_5, ti_6, ti_7, ti_8, ti_9, ti_10, ti_11, ti_12, ti_19, ti_20, ti_21, ti_44, ti_45, ti_48, ti_57, ti_59, ti_60, ti_98, ti_99, ti_100, ti_101, ti_103, ti_108, ti_110, ti_114, ti_127] at c57
      subst hp
      exact ⟨hI, hKr⟩
theorem sgn_at {it : ITt} : sgnv it = -1 ∨ (0 ≤ (it 467 7).toInt ∧ (it 467 7).toInt < (it 467 1).toInt ∧ (it 467 7).toInt < 100) := by
  unfold sgnv
  split
  · rename_i h; exact Or.inr h
  · exact Or.inl rfl
theorem sgn_ge {it : ITt} (h : ¬ (sgnv it).toInt < 48) : 0 ≤ (it 467 7).toInt ∧ (it 467 7).toInt < (it 467 1).toInt ∧ (it 467 7).toInt < 100 := by
  rcases sgn_at (it := it) with q | q
  · rw [q] at h; exact absurd (by decide) h
  · exact q
theorem sgn_eq {it : ITt} {x : Int32} (h : (sgnv it).toInt = x.toInt) (hd : ¬ x = -1) : 0 ≤ (it 467 7).toInt ∧ (it 467 7).toInt < (it 467 1).toInt ∧ (it 467 7).toInt < 100 := by
  rcases sgn_at (it := it) with q | q
  · rw [q] at h; exact absurd (Int32.toInt_inj.mp h.symm) hd
  · exact q
set_option maxRecDepth 100000 in
theorem s_X7_skip (a1 : Int32) {lg0 : LGt} {it0 : ITt} (hI : I8 lg0 it0) (hd : ¬ a1 = -1) : w_X7_skip a1 (fun (v : Int32) (lg' : LGt) (it' : ITt) => (I8 lg' it' ∧ Kc (fun j => (467 ≤ j ∧ j < 473)) lg0 it0 lg' it') ∧ (v = 0 ∨ v = 1))  lg0 it0 := by
  have hb_a1 := And.intro a1.le_toInt a1.toInt_lt
  have hKr : Kc (fun j => (467 ≤ j ∧ j < 473)) lg0 it0 lg0 it0 := kc_r
  generalize hp : (fun (v : Int32) (lg' : LGt) (it' : ITt) => (I8 lg' it' ∧ Kc (fun j => (467 ≤ j ∧ j < 473)) lg0 it0 lg' it') ∧ (v = 0 ∨ v = 1)) = Pz
  unfold w_X7_skip
  have f5 : 0 ≤ (it0 467 7).toInt ∧ (it0 467 7).toInt ≤ 100 := i8_77 hI
  have f6 : 0 ≤ (it0 467 1).toInt ∧ (it0 467 1).toInt ≤ 100 := i8_71 hI
  refine ⟨fun c5 => ?_, fun c5 => ?_⟩
  · try simp only [Int32.lt_iff_toInt_lt, Int32.le_iff_toInt_le, ← Int32.toInt_inj, Int32.toInt_toInt64, ti_m14, ti_m13, ti_m12, ti_m11, ti_m10, ti_m9, ti_m6, ti_m5, ti_m4, ti_m3, ti_m2, ti_m1, ti_0, ti_1, ti_2, ti_3, ti_4, ti_5, ti_6, ti_7, ti_8, ti_9, ti_10, ti_11, ti_12, ti_19, ti_20, ti_21, ti_44, ti_45, ti_48, ti_57, ti_59, ti_60, ti_98, ti_99, ti_100, ti_101, ti_103, ti_108, ti_110, ti_114, ti_127] at c5
    have hsg := sgn_eq c5 hd
    try have f7 : (((it0 467 7) + 1) : Int32).toInt = ((it0 467 7)).toInt + 1 := ad32 (a := ((it0 467 7)).toInt) (b := 1) (rfl) (ti_1) (by omega) (by omega)
    intro it8 em9
    have hI10 : I8 lg0 it8 := by rw [em9]; exact i8_u hI (ok8_7 (oq_467) ⟨fun q => absurd q (by decide), fun q => absurd q (by decide), fun _ => by (try simp only [Int32.lt_iff_toInt_lt, Int32.le_iff_toInt_le, ← Int32.toInt_inj, Int32.toInt_toInt64, ti_m14, ti_m13, ti_m12, ti_m11, ti_m10, ti_m9, ti_m6, ti_m5, ti_m4, ti_m3, ti_m2, ti_m1, ti_0, ti_1, ti_2, ti_3, ti_4, ti_5, ti_6, ti_7, ti_8, ti_9, ti_10, ti_11, ti_12, ti_19, ti_20, ti_21, ti_44, ti_45, ti_48, ti_57, ti_59, ti_60, ti_98, ti_99, ti_100, ti_101, ti_103, ti_108, ti_110, ti_114, ti_127]); omega⟩)
    have hK11 : Kc (fun j => (467 ≤ j ∧ j < 473)) lg0 it0 lg0 it8 := by rw [em9]; exact kc_u (by first | omega | (dsimp only; omega)) hKr
    have e13 : (it8 467 1).toInt = (it0 467 1).toInt := by rw [em9]; exact congrArg Int32.toInt (u2_ne (by decide))
    subst hp
    exact ⟨⟨hI10, hK11⟩, by first | exact Or.inl rfl | exact Or.inr rfl | assumption⟩
  · try simp only [Int32.lt_iff_toInt_lt, Int32.le_iff_toInt_le, ← Int32.toInt_inj, Int32.toInt_toInt64, ti_m14, ti_m13, ti_m12, ti_m11, ti_m10, ti_m9, ti_m6, ti_m5, ti_m4, ti_m3, ti_m2, ti_m1, ti_0, ti_1, ti_2, ti_3, ti_4, ti_5, ti_6, ti_7, ti_8, ti_9, ti_10, ti_11, ti_12, ti_19, ti_20, ti_21, ti_44, ti_45, ti_48, ti_57, ti_59, ti_60, ti_98, ti_99, ti_100, ti_101, ti_103, ti_108, ti_110, ti_114, ti_127] at c5
    subst hp
    exact ⟨⟨hI, hKr⟩, by first | exact Or.inl rfl | exact Or.inr rfl | assumption⟩
set_option maxRecDepth 100000 in
theorem s_X7_scanNumber (a1 : Int32) {lg0 : LGt} {it0 : ITt} (hI : I8 lg0 it0) (hm : a1.toInt ≤ 2) : w_X7_scanNumber a1 (fun (v : Int32) (lg' : LGt) (it' : ITt) => (I8 lg' it' ∧ Kc (fun j => (467 ≤ j ∧ j < 473)) lg0 it0 lg' it') ∧ (v = 0 ∨ v = 1))  lg0 it0 := by
  have hb_a1 := And.intro a1.le_toInt a1.toInt_lt
  have hKr : Kc (fun j => (467 ≤ j ∧ j < 473)) lg0 it0 lg0 it0 := kc_r
  generalize hp : (fun (v : Int32) (lg' : LGt) (it' : ITt) => (I8 lg' it' ∧ Kc (fun j => (467 ≤ j ∧ j < 473)) lg0 it0 lg' it') ∧ (v = 0 ∨ v = 1)) = Pz
  unfold w_X7_scanNumber
  intro it15 em16
  have hI17 : I8 lg0 it15 := by rw [em16]; exact i8_u hI (ok8_7 (oq_467) ⟨fun q => absurd q (by decide), fun q => absurd q (by decide), fun q => absurd q (by decide)⟩)
  have hK18 : Kc (fun j => (467 ≤ j ∧ j < 473)) lg0 it0 lg0 it15 := by rw [em16]; exact kc_u (by first | omega | (dsimp only; omega)) hKr
  have lp7 : ∀ (n : Nat) (x2 : Int32) (lg : LGt) (it : ITt), I8 lg it → Kc (fun j => (467 ≤ j ∧ j < 473)) lg0 it0 lg it → ((0 ≤ (x2).toInt)) → (3 - (x2).toInt).toNat < n → w_X7_scanNumber_b7 a1 Pz  n x2 lg it := by
    intro n7
    induction n7 with
    | zero => intro x2 lg it _ _ _ hn; exact absurd hn (Nat.not_lt_zero _)
    | succ n7 ih7 =>
      intro x2 lg21 it22 hI19 hK20 hv hn
      unfold w_X7_scanNumber_b7
      have hv7_0 := hv
      refine ⟨fun c9 => ?_, fun c9 => ?_⟩
      · try simp only [Int32.lt_iff_toInt_lt, Int32.le_iff_toInt_le, ← Int32.toInt_inj, Int32.toInt_toInt64, ti_m14, ti_m13, ti_m12, ti_m11, ti_m10, ti_m9, ti_m6, ti_m5, ti_m4, ti_m3, ti_m2, ti_m1, ti_0, ti_1, ti_2, ti_3, ti_4, ti_5, ti_6, ti_7, ti_8, ti_9, ti_10, ti_11, ti_12, ti_19, ti_20, ti_21, ti_44, ti_45, ti_48, ti_57, ti_59, ti_60, ti_98, ti_99, ti_100, ti_101, ti_103, ti_108, ti_110, ti_114, ti_127] at c9
        unfold w_X7_scanNumber_b65
        refine ⟨fun c66 => ?_, fun c66 => ?_⟩
        · try simp only [Int32.lt_iff_toInt_lt, Int32.le_iff_toInt_le, ← Int32.toInt_inj, Int32.toInt_toInt64, ti_m14, ti_m13, ti_m12, ti_m11, ti_m10, ti_m9, ti_m6, ti_m5, ti_m4, ti_m3, ti_m2, ti_m1, ti_0, ti_1, ti_2, ti_3, ti_4, ti_5, ti_6, ti_7, ti_8, ti_9, ti_10, ti_11, ti_12, ti_19, ti_20, ti_21, ti_44, ti_45, ti_48, ti_57, ti_59, ti_60, ti_98, ti_99, ti_100, ti_101, ti_103, ti_108, ti_110, ti_114, ti_127] at c66
          subst hp
          exact ⟨⟨hI19, hK20⟩, by first | exact Or.inl rfl | exact Or.inr rfl | assumption⟩
        · try simp only [Int32.lt_iff_toInt_lt, Int32.le_iff_toInt_le, ← Int32.toInt_inj, Int32.toInt_toInt64, ti_m14, ti_m13, ti_m12, ti_m11, ti_m10, ti_m9, ti_m6, ti_m5, ti_m4, ti_m3, ti_m2, ti_m1, ti_0, ti_1, ti_2, ti_3, ti_4, ti_5, ti_6, ti_7, ti_8, ti_9, ti_10, ti_11, ti_12, ti_19, ti_20, ti_21, ti_44, ti_45, ti_48, ti_57, ti_59, ti_60, ti_98, ti_99, ti_100, ti_101, ti_103, ti_108, ti_110, ti_114, ti_127] at c66
          subst hp
          exact ⟨⟨hI19, hK20⟩, by first | exact Or.inl rfl | exact Or.inr rfl | assumption⟩
      · try simp only [Int32.lt_iff_toInt_lt, Int32.le_iff_toInt_le, ← Int32.toInt_inj, Int32.toInt_toInt64, ti_m14, ti_m13, ti_m12, ti_m11, ti_m10, ti_m9, ti_m6, ti_m5, ti_m4, ti_m3, ti_m2, ti_m1, ti_0, ti_1, ti_2, ti_3, ti_4, ti_5, ti_6, ti_7, ti_8, ti_9, ti_10, ti_11, ti_12, ti_19, ti_20, ti_21, ti_44, ti_45, ti_48, ti_57, ti_59, ti_60, ti_98, ti_99, ti_100, ti_101, ti_103, ti_108, ti_110, ti_114, ti_127] at c9
        have f23 : 0 ≤ (it22 467 7).toInt ∧ (it22 467 7).toInt ≤ 100 := i8_77 hI19
        have f24 : 0 ≤ (it22 467 1).toInt ∧ (it22 467 1).toInt ≤ 100 := i8_71 hI19
        refine ⟨fun c18 => ?_, fun c18 => ?_⟩
        · try simp only [Int32.lt_iff_toInt_lt, Int32.le_iff_toInt_le, ← Int32.toInt_inj, Int32.toInt_toInt64, ti_m14, ti_m13, ti_m12, ti_m11, ti_m10, ti_m9, ti_m6, ti_m5, ti_m4, ti_m3, ti_m2, ti_m1, ti_0, ti_1, ti_2, ti_3, ti_4, ti_5, ti_6, ti_7, ti_8, ti_9, ti_10, ti_11, ti_12, ti_19, ti_20, ti_21, ti_44, ti_45, ti_48, ti_57, ti_59, ti_60, ti_98, ti_99, ti_100, ti_101, ti_103, ti_108, ti_110, ti_114, ti_127] at c18
          unfold w_X7_scanNumber_b65
          refine ⟨fun c66 => ?_, fun c66 => ?_⟩
          · try simp only [Int32.lt_iff_toInt_lt, Int32.le_iff_toInt_le, ← Int32.toInt_inj, Int32.toInt_toInt64, ti_m14, ti_m13, ti_m12, ti_m11, ti_m10, ti_m9, ti_m6, ti_m5, ti_m4, ti_m3, ti_m2, ti_m1, ti_0, ti_1, ti_2, ti_3, ti_4, ti_5, ti_6, ti_7, ti_8, ti_9, ti_10, ti_11, ti_12, ti_19, ti_20, ti_21, ti_44, ti_45, ti_48, ti_57, ti_59, ti_60, ti_98, ti_99, ti_100, ti_101, ti_103, ti_108, ti_110, ti_114, ti_127] at c66
            subst hp
            exact ⟨⟨hI19, hK20⟩, by first | exact Or.inl rfl | exact Or.inr rfl | assumption⟩
          · try simp only [Int32.lt_iff_toInt_lt, Int32.le_iff_toInt_le, ← Int32.toInt_inj, Int32.toInt_toInt64, ti_m14, ti_m13, ti_m12, ti_m11, ti_m10, ti_m9, ti_m6, ti_m5, ti_m4, ti_m3, ti_m2, ti_m1, ti_0, ti_1, ti_2, ti_3, ti_4, ti_5, ti_6, ti_7, ti_8, ti_9, ti_10, ti_11, ti_12, ti_19, ti_20, ti_21, ti_44, ti_45, ti_48, ti_57, ti_59, ti_60, ti_98, ti_99, ti_100, ti_101, ti_103, ti_108, ti_110, ti_114, ti_127] at c66
            subst hp
            exact ⟨⟨hI19, hK20⟩, by first | exact Or.inl rfl | exact Or.inr rfl | assumption⟩
        · try simp only [Int32.lt_iff_toInt_lt, Int32.le_iff_toInt_le, ← Int32.toInt_inj, Int32.toInt_toInt64, ti_m14, ti_m13, ti_m12, ti_m11, ti_m10, ti_m9, ti_m6, ti_m5, ti_m4, ti_m3, ti_m2, ti_m1, ti_0, ti_1, ti_2, ti_3, ti_4, ti_5, ti_6, ti_7, ti_8, ti_9, ti_10, ti_11, ti_12, ti_19, ti_20, ti_21, ti_44, ti_45, ti_48, ti_57, ti_59, ti_60, ti_98, ti_99, ti_100, ti_101, ti_103, ti_108, ti_110, ti_114, ti_127] at c18
          have hsg := sgn_ge c18
          refine ⟨fun c27 => ?_, fun c27 => ?_⟩
          · try simp only [Int32.lt_iff_toInt_lt, Int32.le_iff_toInt_le, ← Int32.toInt_inj, Int32.toInt_toInt64, ti_m14, ti_m13, ti_m12, ti_m11, ti_m10, ti_m9, ti_m6, ti_m5, ti_m4, ti_m3, ti_m2, ti_m1, ti_0, ti_1, ti_2, ti_3, ti_4, ti_5, ti_6, ti_7, ti_8, ti_9, ti_10, ti_11, ti_12, ti_19, ti_20, ti_21, ti_44, ti_45, ti_48, ti_57, ti_59, ti_60, ti_98, ti_99, ti_100, ti_101, ti_103, ti_108, ti_110, ti_114, ti_127] at c27
            unfold w_X7_scanNumber_b65
            refine ⟨fun c66 => ?_, fun c66 => ?_⟩
            · try simp only [Int32.lt_iff_toInt_lt, Int32.le_iff_toInt_le, ← Int32.toInt_inj, Int32.toInt_toInt64, ti_m14, ti_m13, ti_m12, ti_m11, ti_m10, ti_m9, ti_m6, ti_m5, ti_m4, ti_m3, ti_m2, ti_m1, ti_0, ti_1, ti_2, ti_3, ti_4, ti_5, ti_6, ti_7, ti_8, ti_9, ti_10, ti_11, ti_12, ti_19, ti_20, ti_21, ti_44, ti_45, ti_48, ti_57, ti_59, ti_60, ti_98, ti_99, ti_100, ti_101, ti_103, ti_108, ti_110, ti_114, ti_127] at c66
              subst hp
              exact ⟨⟨hI19, hK20⟩, by first | exact Or.inl rfl | exact Or.inr rfl | assumption⟩
            · try simp only [Int32.lt_iff_toInt_lt, Int32.le_iff_toInt_le, ← Int32.toInt_inj, Int32.toInt_toInt64, ti_m14, ti_m13, ti_m12, ti_m11, ti_m10, ti_m9, ti_m6, ti_m5, ti_m4, ti_m3, ti_m2, ti_m1, ti_0, ti_1, ti_2, ti_3, ti_4, ti_5, ti_6, ti_7, ti_8, ti_9, ti_10, ti_11, ti_12, ti_19, ti_20, ti_21, ti_44, ti_45, ti_48, ti_57, ti_59, ti_60, ti_98, ti_99, ti_100, ti_101, ti_103, ti_108, ti_110, ti_114, ti_127] at c66
              subst hp
              exact ⟨⟨hI19, hK20⟩, by first | exact Or.inl rfl | exact Or.inr rfl | assumption⟩
          · try simp only [Int32.lt_iff_toInt_lt, Int32.le_iff_toInt_le, ← Int32.toInt_inj, Int32.toInt_toInt64, ti_m14, ti_m13, ti_m12, ti_m11, ti_m10, ti_m9, ti_m6, ti_m5, ti_m4, ti_m3, ti_m2, ti_m1, ti_0, ti_1, ti_2, ti_3, ti_4, ti_5, ti_6, ti_7, ti_8, ti_9, ti_10, ti_11, ti_12, ti_19, ti_20, ti_21, ti_44, ti_45, ti_48, ti_57, ti_59, ti_60, ti_98, ti_99, ti_100, ti_101, ti_103, ti_108, ti_110, ti_114, ti_127] at c27
            try have f25 : (((it22 467 8) * 10) : Int32).toInt = ((it22 467 8)).toInt * 10 := ml32 (a := ((it22 467 8)).toInt) (b := 10) (rfl) (ti_10) (by omega) (by omega)
            try have f26 : ((((it22 467 8) * 10) + (sgnv it22)) : Int32).toInt = (((it22 467 8) * 10)).toInt + ((sgnv it22)).toInt := ad32 (a := (((it22 467 8) * 10)).toInt) (b := ((sgnv it22)).toInt) (rfl) (rfl) (by omega) (by omega)
            try have f27 : (((((it22 467 8) * 10) + (sgnv it22)) - 48) : Int32).toInt = ((((it22 467 8) * 10) + (sgnv it22))).toInt - 48 := sb32 (a := ((((it22 467 8) * 10) + (sgnv it22))).toInt) (b := 48) (rfl) (ti_48) (by omega) (by omega)
            intro it28 em29
            have hI30 : I8 lg21 it28 := by rw [em29]; exact i8_u hI19 (ok8_7 (oq_467) ⟨fun q => absurd q (by decide), fun q => absurd q (by decide), fun q => absurd q (by decide)⟩)
            have hK31 : Kc (fun j => (467 ≤ j ∧ j < 473)) lg0 it0 lg21 it28 := by rw [em29]; exact kc_u (by first | omega | (dsimp only; omega)) hK20
            have e32 : (it28 467 7).toInt = (it22 467 7).toInt := by rw [em29]; exact congrArg Int32.toInt (u2_ne (by decide))
            have e33 : (it28 467 1).toInt = (it22 467 1).toInt := by rw [em29]; exact congrArg Int32.toInt (u2_ne (by decide))
            try have f35 : ((x2 + 1) : Int32).toInt = (x2).toInt + 1 := ad32 (a := (x2).toInt) (b := 1) (rfl) (ti_1) (by omega) (by omega)
            have f36 : 0 ≤ (it28 467 7).toInt ∧ (it28 467 7).toInt ≤ 100 := i8_77 hI30
            try have f37 : (((it28 467 7) + 1) : Int32).toInt = ((it28 467 7)).toInt + 1 := ad32 (a := ((it28 467 7)).toInt) (b := 1) (rfl) (ti_1) (by omega) (by omega)
            intro it38 em39
            have hI40 : I8 lg21 it38 := by rw [em39]; exact i8_u hI30 (ok8_7 (oq_467) ⟨fun q => absurd q (by decide), fun q => absurd q (by decide), fun _ => by (try simp only [Int32.lt_iff_toInt_lt, Int32.le_iff_toInt_le, ← Int32.toInt_inj, Int32.toInt_toInt64, ti_m14, ti_m13, ti_m12, ti_m11, ti_m10, ti_m9, ti_m6, ti_m5, ti_m4, ti_m3, ti_m2, ti_m1, ti_0, ti_1, ti_2, ti_3, ti_4, ti_5, ti_6, ti_7, ti_8, ti_9, ti_10, ti_11, ti_12, ti_19, ti_20, ti_21, ti_44, ti_45, ti_48, ti_57, ti_59, ti_60, ti_98, ti_99, ti_100, ti_101, ti_103, ti_108, ti_110, ti_114, ti_127]); omega⟩)
            have hK41 : Kc (fun j => (467 ≤ j ∧ j < 473)) lg0 it0 lg21 it38 := by rw [em39]; exact kc_u (by first | omega | (dsimp only; omega)) hK31
            have e43 : (it38 467 1).toInt = (it28 467 1).toInt := by rw [em39]; exact congrArg Int32.toInt (u2_ne (by decide))
            have e44 : (it38 467 8).toInt = (it28 467 8).toInt := by rw [em39]; exact congrArg Int32.toInt (u2_ne (by decide))
            exact ih7 ((x2 + 1)) _ _ hI40 hK41 (by first | omega | assumption) (by omega)
  have t45 := ti_0
  exact ⟨_, lp7 ((3 - ((0 : Int32)).toInt).toNat + 1) ((0 : Int32)) _ _ hI17 hK18 (by first | omega | assumption) (Nat.lt_succ_self _)⟩
set_option maxRecDepth 100000 in
theorem s_X7_scanWall {lg0 : LGt} {it0 : ITt} (hI : I8 lg0 it0) : w_X7_scanWall  (fun (v : Int32) (lg' : LGt) (it' : ITt) => (I8 lg' it' ∧ Kc (fun j => (467 ≤ j ∧ j < 473)) lg0 it0 lg' it') ∧ (v = 0 ∨ v = 1))  lg0 it0 := by
  have hKr : Kc (fun j => (467 ≤ j ∧ j < 473)) lg0 it0 lg0 it0 := kc_r
  generalize hp : (fun (v : Int32) (lg' : LGt) (it' : ITt) => (I8 lg' it' ∧ Kc (fun j => (467 ≤ j ∧ j < 473)) lg0 it0 lg' it') ∧ (v = 0 ∨ v = 1)) = Pz
  unfold w_X7_scanWall
  refine ⟨_, s_X7_skip  ((110 : Int32)) hI (by decide), ?_⟩
  intro v24 lg19 it20 hq
  obtain ⟨⟨hI21, hK22⟩, ha25⟩ := hq
  have hK23 : Kc (fun j => (467 ≤ j ∧ j < 473)) lg0 it0 lg19 it20 := kc_t hKr hK22 (fun j hj => by first | omega | exact False.elim hj | (dsimp only at hj ⊢; omega))
  refine ⟨fun c6 => ?_, fun c6 => ?_⟩
  · try simp only [Int32.lt_iff_toInt_lt, Int32.le_iff_toInt_le, ← Int32.toInt_inj, Int32.toInt_toInt64, ti_m14, ti_m13, ti_m12, ti_m11, ti_m10, ti_m9, ti_m6, ti_m5, ti_m4, ti_m3, ti_m2, ti_m1, ti_0, ti_1, ti_2, ti_3, ti_4, ti_5, ti_6, ti_7, ti_8, ti_9, ti_10, ti_11, ti_12, ti_19, ti_20, ti_21, ti_44, ti_45, ti_48, ti_57, ti_59, ti_60, ti_98, ti_99, ti_100, ti_101, ti_103, ti_108, ti_110, ti_114, ti_127] at c6
    refine ⟨_, s_X7_scanNumber  ((1 : Int32)) hI21 (by decide), ?_⟩
    intro v31 lg26 it27 hq
    obtain ⟨⟨hI28, hK29⟩, ha32⟩ := hq
    have hK30 : Kc (fun j => (467 ≤ j ∧ j < 473)) lg0 it0 lg26 it27 := kc_t hK23 hK29 (fun j hj => by first | omega | exact False.elim hj | (dsimp only at hj ⊢; omega))
    refine ⟨ib (by first | assumption | exact Or.inl rfl | exact Or.inr rfl), ?_⟩
    subst hp
    exact ⟨⟨hI28, hK30⟩, by first | exact Or.inl rfl | exact Or.inr rfl | assumption⟩
  · try simp only [Int32.lt_iff_toInt_lt, Int32.le_iff_toInt_le, ← Int32.toInt_inj, Int32.toInt_toInt64, ti_m14, ti_m13, ti_m12, ti_m11, ti_m10, ti_m9, ti_m6, ti_m5, ti_m4, ti_m3, ti_m2, ti_m1, ti_0, ti_1, ti_2, ti_3, ti_4, ti_5, ti_6, ti_7, ti_8, ti_9, ti_10, ti_11, ti_12, ti_19, ti_20, ti_21, ti_44, ti_45, ti_48, ti_57, ti_59, ti_60, ti_98, ti_99, ti_100, ti_101, ti_103, ti_108, ti_110, ti_114, ti_127] at c6
    intro it33 em34
    have hI35 : I8 lg19 it33 := by rw [em34]; exact i8_u hI21 (ok8_7 (oq_467) ⟨fun q => absurd q (by decide), fun q => absurd q (by decide), fun q => absurd q (by decide)⟩)
    have hK36 : Kc (fun j => (467 ≤ j ∧ j < 473)) lg0 it0 lg19 it33 := by rw [em34]; exact kc_u (by first | omega | (dsimp only; omega)) hK23
    subst hp
    exact ⟨⟨hI35, hK36⟩, by first | exact Or.inl rfl | exact Or.inr rfl | assumption⟩
set_option maxRecDepth 100000 in
theorem s_X7_scanBumper (a1 : Int32) {lg0 : LGt} {it0 : ITt} (hI : I8 lg0 it0) (hb : 0 ≤ a1.toInt ∧ a1.toInt < 12) : w_X7_scanBumper a1 (fun (v : Int32) (lg' : LGt) (it' : ITt) => (I8 lg' it' ∧ Kc (fun j => (467 ≤ j ∧ j < 473)) lg0 it0 lg' it') ∧ (v = 0 ∨ v = 1))  lg0 it0 := by
  have hb_a1 := And.intro a1.le_toInt a1.toInt_lt
  have hKr : Kc (fun j => (467 ≤ j ∧ j < 473)) lg0 it0 lg0 it0 := kc_r
  generalize hp : (fun (v : Int32) (lg' : LGt) (it' : ITt) => (I8 lg' it' ∧ Kc (fun j => (467 ≤ j ∧ j < 473)) lg0 it0 lg' it') ∧ (v = 0 ∨ v = 1)) = Pz
  unfold w_X7_scanBumper
  refine ⟨_, s_X7_scanNumber  ((2 : Int32)) hI (by decide), ?_⟩
  intro v72 lg67 it68 hq
  obtain ⟨⟨hI69, hK70⟩, ha73⟩ := hq
  have hK71 : Kc (fun j => (467 ≤ j ∧ j < 473)) lg0 it0 lg67 it68 := kc_t hKr hK70 (fun j hj => by first | omega | exact False.elim hj | (dsimp only at hj ⊢; omega))
  refine ⟨fun c5 => ?_, fun c5 => ?_⟩
  · try simp only [Int32.lt_iff_toInt_lt, Int32.le_iff_toInt_le, ← Int32.toInt_inj, Int32.toInt_toInt64, ti_m14, ti_m13, ti_m12, ti_m11, ti_m10, ti_m9, ti_m6, ti_m5, ti_m4, ti_m3, ti_m2, ti_m1, ti_0, ti_1, ti_2, ti_3, ti_4, ti_5, ti_6, ti_7, ti_8, ti_9, ti_10, ti_11, ti_12, ti_19, ti_20, ti_21, ti_44, ti_45, ti_48, ti_57, ti_59, ti_60, ti_98, ti_99, ti_100, ti_101, ti_103, ti_108, ti_110, ti_114, ti_127] at c5
    subst hp
    exact ⟨⟨hI69, hK71⟩, by first | exact Or.inl rfl | exact Or.inr rfl | assumption⟩
  · try simp only [Int32.lt_iff_toInt_lt, Int32.le_iff_toInt_le, ← Int32.toInt_inj, Int32.toInt_toInt64, ti_m14, ti_m13, ti_m12, ti_m11, ti_m10, ti_m9, ti_m6, ti_m5, ti_m4, ti_m3, ti_m2, ti_m1, ti_0, ti_1, ti_2, ti_3, ti_4, ti_5, ti_6, ti_7, ti_8, ti_9, ti_10, ti_11, ti_12, ti_19, ti_20, ti_21, ti_44, ti_45, ti_48, ti_57, ti_59, ti_60, ti_98, ti_99, ti_100, ti_101, ti_103, ti_108, ti_110, ti_114, ti_127] at c5
    refine ⟨_, s_X7_skip  ((44 : Int32)) hI69 (by decide), ?_⟩
    intro v79 lg74 it75 hq
    obtain ⟨⟨hI76, hK77⟩, ha80⟩ := hq
    have hK78 : Kc (fun j => (467 ≤ j ∧ j < 473)) lg0 it0 lg74 it75 := kc_t hK71 hK77 (fun j hj => by first | omega | exact False.elim hj | (dsimp only at hj ⊢; omega))
    refine ⟨fun c14 => ?_, fun c14 => ?_⟩
    · try simp only [Int32.lt_iff_toInt_lt, Int32.le_iff_toInt_le, ← Int32.toInt_inj, Int32.toInt_toInt64, ti_m14, ti_m13, ti_m12, ti_m11, ti_m10, ti_m9, ti_m6, ti_m5, ti_m4, ti_m3, ti_m2, ti_m1, ti_0, ti_1, ti_2, ti_3, ti_4, ti_5, ti_6, ti_7, ti_8, ti_9, ti_10, ti_11, ti_12, ti_19, ti_20, ti_21, ti_44, ti_45, ti_48, ti_57, ti_59, ti_60, ti_98, ti_99, ti_100, ti_101, ti_103, ti_108, ti_110, ti_114, ti_127] at c14
      have hi81 : vp_in a1 12 := vp_of (by first | omega | ((try simp only [Int32.lt_iff_toInt_lt, Int32.le_iff_toInt_le, ← Int32.toInt_inj, Int32.toInt_toInt64, ti_m14, ti_m13, ti_m12, ti_m11, ti_m10, ti_m9, ti_m6, ti_m5, ti_m4, ti_m3, ti_m2, ti_m1, ti_0, ti_1, ti_2, ti_3, ti_4, ti_5, ti_6, ti_7, ti_8, ti_9, ti_10, ti_11, ti_12, ti_19, ti_20, ti_21, ti_44, ti_45, ti_48, ti_57, ti_59, ti_60, ti_98, ti_99, ti_100, ti_101, ti_103, ti_108, ti_110, ti_114, ti_127]); omega) | (split <;> omega)) (by first | omega | ((try simp only [Int32.lt_iff_toInt_lt, Int32.le_iff_toInt_le, ← Int32.toInt_inj, Int32.toInt_toInt64, ti_m14, ti_m13, ti_m12, ti_m11, ti_m10, ti_m9, ti_m6, ti_m5, ti_m4, ti_m3, ti_m2, ti_m1, ti_0, ti_1, ti_2, ti_3, ti_4, ti_5, ti_6, ti_7, ti_8, ti_9, ti_10, ti_11, ti_12, ti_19, ti_20, ti_21, ti_44, ti_45, ti_48, ti_57, ti_59, ti_60, ti_98, ti_99, ti_100, ti_101, ti_103, ti_108, ti_110, ti_114, ti_127]); omega) | (split <;> omega))
      refine ⟨hi81, ?_⟩
      have hz82 := vlt hi81
      intro it83 em84
      have hI85 : I8 lg74 it83 := by rw [em84]; exact i8_u hI76 (ok8_a (oq_470) (by decide))
      have hK86 : Kc (fun j => (467 ≤ j ∧ j < 473)) lg0 it0 lg74 it83 := by rw [em84]; exact kc_u (by first | omega | (dsimp only; omega)) hK78
      have e87 : (it83 467 8).toInt = (it75 467 8).toInt := by rw [em84]; exact congrArg Int32.toInt (congrFun (u2_row (by decide)) 8)
      refine ⟨_, s_X7_scanNumber  ((1 : Int32)) hI85 (by decide), ?_⟩
      intro v93 lg88 it89 hq
      obtain ⟨⟨hI90, hK91⟩, ha94⟩ := hq
      have hK92 : Kc (fun j => (467 ≤ j ∧ j < 473)) lg0 it0 lg88 it89 := kc_t hK86 hK91 (fun j hj => by first | omega | exact False.elim hj | (dsimp only at hj ⊢; omega))
      try have e95 : (it89 467 8).toInt = (it83 467 8).toInt := congrArg (fun f => Int32.toInt (f 8)) (hK91 467 (by first | omega | (dsimp only; omega))).2
      refine ⟨fun c34 => ?_, fun c34 => ?_⟩
      · try simp only [Int32.lt_iff_toInt_lt, Int32.le_iff_toInt_le, ← Int32.toInt_inj, Int32.toInt_toInt64, ti_m14, ti_m13, ti_m12, ti_m11, ti_m10, ti_m9, ti_m6, ti_m5, ti_m4, ti_m3, ti_m2, ti_m1, ti_0, ti_1, ti_2, ti_3, ti_4, ti_5, ti_6, ti_7, ti_8, ti_9, ti_10, ti_11, ti_12, ti_19, ti_20, ti_21, ti_44, ti_45, ti_48, ti_57, ti_59, ti_60, ti_98, ti_99, ti_100, ti_101, ti_103, ti_108, ti_110, ti_114, ti_127] at c34
        subst hp
        exact ⟨⟨hI90, hK92⟩, by first | exact Or.inl rfl | exact Or.inr rfl | assumption⟩
      · try simp only [Int32.lt_iff_toInt_lt, Int32.le_iff_toInt_le, ← Int32.toInt_inj, Int32.toInt_toInt64, ti_m14, ti_m13, ti_m12, ti_m11, ti_m10, ti_m9, ti_m6, ti_m5, ti_m4, ti_m3, ti_m2, ti_m1, ti_0, ti_1, ti_2, ti_3, ti_4, ti_5, ti_6, ti_7, ti_8, ti_9, ti_10, ti_11, ti_12, ti_19, ti_20, ti_21, ti_44, ti_45, ti_48, ti_57, ti_59, ti_60, ti_98, ti_99, ti_100, ti_101, ti_103, ti_108, ti_110, ti_114, ti_127] at c34
        refine ⟨_, s_X7_skip  ((44 : Int32)) hI90 (by decide), ?_⟩
        intro v101 lg96 it97 hq
        obtain ⟨⟨hI98, hK99⟩, ha102⟩ := hq
        have hK100 : Kc (fun j => (467 ≤ j ∧ j < 473)) lg0 it0 lg96 it97 := kc_t hK92 hK99 (fun j hj => by first | omega | exact False.elim hj | (dsimp only at hj ⊢; omega))
        try have e103 : (it97 467 8).toInt = (it89 467 8).toInt := congrArg (fun f => Int32.toInt (f 8)) (hK99 467 (by first | omega | (dsimp only; omega))).2
        refine ⟨fun c43 => ?_, fun c43 => ?_⟩
        · try simp only [Int32.lt_iff_toInt_lt, Int32.le_iff_toInt_le, ← Int32.toInt_inj, Int32.toInt_toInt64, ti_m14, ti_m13, ti_m12, ti_m11, ti_m10, ti_m9, ti_m6, ti_m5, ti_m4, ti_m3, ti_m2, ti_m1, ti_0, ti_1, ti_2, ti_3, ti_4, ti_5, ti_6, ti_7, ti_8, ti_9, ti_10, ti_11, ti_12, ti_19, ti_20, ti_21, ti_44, ti_45, ti_48, ti_57, ti_59, ti_60, ti_98, ti_99, ti_100, ti_101, ti_103, ti_108, ti_110, ti_114, ti_127] at c43
          have hi104 : vp_in a1 12 := vp_of (by first | omega | ((try simp only [Int32.lt_iff_toInt_lt, Int32.le_iff_toInt_le, ← Int32.toInt_inj, Int32.toInt_toInt64, ti_m14, ti_m13, ti_m12, ti_m11, ti_m10, ti_m9, ti_m6, ti_m5, ti_m4, ti_m3, ti_m2, ti_m1, ti_0, ti_1, ti_2, ti_3, ti_4, ti_5, ti_6, ti_7, ti_8, ti_9, ti_10, ti_11, ti_12, ti_19, ti_20, ti_21, ti_44, ti_45, ti_48, ti_57, ti_59, ti_60, ti_98, ti_99, ti_100, ti_101, ti_103, ti_108, ti_110, ti_114, ti_127]); omega) | (split <;> omega)) (by first | omega | ((try simp only [Int32.lt_iff_toInt_lt, Int32.le_iff_toInt_le, ← Int32.toInt_inj, Int32.toInt_toInt64, ti_m14, ti_m13, ti_m12, ti_m11, ti_m10, ti_m9, ti_m6, ti_m5, ti_m4, ti_m3, ti_m2, ti_m1, ti_0, ti_1, ti_2, ti_3, ti_4, ti_5, ti_6, ti_7, ti_8, ti_9, ti_10, ti_11, ti_12, ti_19, ti_20, ti_21, ti_44, ti_45, ti_48, ti_57, ti_59, ti_60, ti_98, ti_99, ti_100, ti_101, ti_103, ti_108, ti_110, ti_114, ti_127]); omega) | (split <;> omega))
          refine ⟨hi104, ?_⟩
          have hz105 := vlt hi104
          intro it106 em107
          have hI108 : I8 lg96 it106 := by rw [em107]; exact i8_u hI98 (ok8_a (oq_471) (by decide))
          have hK109 : Kc (fun j => (467 ≤ j ∧ j < 473)) lg0 it0 lg96 it106 := by rw [em107]; exact kc_u (by first | omega | (dsimp only; omega)) hK100
          have e110 : (it106 467 8).toInt = (it97 467 8).toInt := by rw [em107]; exact congrArg Int32.toInt (congrFun (u2_row (by decide)) 8)
          refine ⟨_, s_X7_skip  ((45 : Int32)) hI108 (by decide), ?_⟩
          intro v116 lg111 it112 hq
          obtain ⟨⟨hI113, hK114⟩, ha117⟩ := hq
          have hK115 : Kc (fun j => (467 ≤ j ∧ j < 473)) lg0 it0 lg111 it112 := kc_t hK109 hK114 (fun j hj => by first | omega | exact False.elim hj | (dsimp only at hj ⊢; omega))
          try have e118 : (it112 467 8).toInt = (it106 467 8).toInt := congrArg (fun f => Int32.toInt (f 8)) (hK114 467 (by first | omega | (dsimp only; omega))).2
          refine ⟨_, s_X7_scanNumber  ((1 : Int32)) hI113 (by decide), ?_⟩
          intro v124 lg119 it120 hq
          obtain ⟨⟨hI121, hK122⟩, ha125⟩ := hq
          have hK123 : Kc (fun j => (467 ≤ j ∧ j < 473)) lg0 it0 lg119 it120 := kc_t hK115 hK122 (fun j hj => by first | omega | exact False.elim hj | (dsimp only at hj ⊢; omega))
          try have e126 : (it120 467 8).toInt = (it112 467 8).toInt := congrArg (fun f => Int32.toInt (f 8)) (hK122 467 (by first | omega | (dsimp only; omega))).2
          refine ⟨fun c70 => ?_, fun c70 => ?_⟩
          · try simp only [Int32.lt_iff_toInt_lt, Int32.le_iff_toInt_le, ← Int32.toInt_inj, Int32.toInt_toInt64, ti_m14, ti_m13, ti_m12, ti_m11, ti_m10, ti_m9, ti_m6, ti_m5, ti_m4, ti_m3, ti_m2, ti_m1, ti_0, ti_1, ti_2, ti_3, ti_4, ti_5, ti_6, ti_7, ti_8, ti_9, ti_10, ti_11, ti_12, ti_19, ti_20, ti_21, ti_44, ti_45, ti_48, ti_57, ti_59, ti_60, ti_98, ti_99, ti_100, ti_101, ti_103, ti_108, ti_110, ti_114, ti_127] at c70
            refine ⟨fun c81 => ?_, fun c81 => ?_⟩
            · try simp only [Int32.lt_iff_toInt_lt, Int32.le_iff_toInt_le, ← Int32.toInt_inj, Int32.toInt_toInt64, ti_m14, ti_m13, ti_m12, ti_m11, ti_m10, ti_m9, ti_m6, ti_m5, ti_m4, ti_m3, ti_m2, ti_m1, ti_0, ti_1, ti_2, ti_3, ti_4, ti_5, ti_6, ti_7, ti_8, ti_9, ti_10, ti_11, ti_12, ti_19, ti_20, ti_21, ti_44, ti_45, ti_48, ti_57, ti_59, ti_60, ti_98, ti_99, ti_100, ti_101, ti_103, ti_108, ti_110, ti_114, ti_127] at c81
              have hi127 : vp_in a1 12 := vp_of (by first | omega | ((try simp only [Int32.lt_iff_toInt_lt, Int32.le_iff_toInt_le, ← Int32.toInt_inj, Int32.toInt_toInt64, ti_m14, ti_m13, ti_m12, ti_m11, ti_m10, ti_m9, ti_m6, ti_m5, ti_m4, ti_m3, ti_m2, ti_m1, ti_0, ti_1, ti_2, ti_3, ti_4, ti_5, ti_6, ti_7, ti_8, ti_9, ti_10, ti_11, ti_12, ti_19, ti_20, ti_21, ti_44, ti_45, ti_48, ti_57, ti_59, ti_60, ti_98, ti_99, ti_100, ti_101, ti_103, ti_108, ti_110, ti_114, ti_127]); omega) | (split <;> omega)) (by first | omega | ((try simp only [Int32.lt_iff_toInt_lt, Int32.le_iff_toInt_le, ← Int32.toInt_inj, Int32.toInt_toInt64, ti_m14, ti_m13, ti_m12, ti_m11, ti_m10, ti_m9, ti_m6, ti_m5, ti_m4, ti_m3, ti_m2, ti_m1, ti_0, ti_1, ti_2, ti_3, ti_4, ti_5, ti_6, ti_7, ti_8, ti_9, ti_10, ti_11, ti_12, ti_19, ti_20, ti_21, ti_44, ti_45, ti_48, ti_57, ti_59, ti_60, ti_98, ti_99, ti_100, ti_101, ti_103, ti_108, ti_110, ti_114, ti_127]); omega) | (split <;> omega))
              refine ⟨hi127, ?_⟩
              have hz128 := vlt hi127
              intro it129 em130
              have hI131 : I8 lg119 it129 := by rw [em130]; exact i8_u hI121 (ok8_a (oq_472) (by decide))
              have hK132 : Kc (fun j => (467 ≤ j ∧ j < 473)) lg0 it0 lg119 it129 := by rw [em130]; exact kc_u (by first | omega | (dsimp only; omega)) hK123
              have e133 : (it129 467 8).toInt = (it120 467 8).toInt := by rw [em130]; exact congrArg Int32.toInt (congrFun (u2_row (by decide)) 8)
              subst hp
              exact ⟨⟨hI131, hK132⟩, by first | exact Or.inl rfl | exact Or.inr rfl | assumption⟩
            · try simp only [Int32.lt_iff_toInt_lt, Int32.le_iff_toInt_le, ← Int32.toInt_inj, Int32.toInt_toInt64, ti_m14, ti_m13, ti_m12, ti_m11, ti_m10, ti_m9, ti_m6, ti_m5, ti_m4, ti_m3, ti_m2, ti_m1, ti_0, ti_1, ti_2, ti_3, ti_4, ti_5, ti_6, ti_7, ti_8, ti_9, ti_10, ti_11, ti_12, ti_19, ti_20, ti_21, ti_44, ti_45, ti_48, ti_57, ti_59, ti_60, ti_98, ti_99, ti_100, ti_101, ti_103, ti_108, ti_110, ti_114, ti_127] at c81
              have hi134 : vp_in a1 12 := vp_of (by first | omega | ((try simp only [Int32.lt_iff_toInt_lt, Int32.le_iff_toInt_le, ← Int32.toInt_inj, Int32.toInt_toInt64, ti_m14, ti_m13, ti_m12, ti_m11, ti_m10, ti_m9, ti_m6, ti_m5, ti_m4, ti_m3, ti_m2, ti_m1, ti_0, ti_1, ti_2, ti_3, ti_4, ti_5, ti_6, ti_7, ti_8, ti_9, ti_10, ti_11, ti_12, ti_19, ti_20, ti_21, ti_44, ti_45, ti_48, ti_57, ti_59, ti_60, ti_98, ti_99, ti_100, ti_101, ti_103, ti_108, ti_110, ti_114, ti_127]); omega) | (split <;> omega)) (by first | omega | ((try simp only [Int32.lt_iff_toInt_lt, Int32.le_iff_toInt_le, ← Int32.toInt_inj, Int32.toInt_toInt64, ti_m14, ti_m13, ti_m12, ti_m11, ti_m10, ti_m9, ti_m6, ti_m5, ti_m4, ti_m3, ti_m2, ti_m1, ti_0, ti_1, ti_2, ti_3, ti_4, ti_5, ti_6, ti_7, ti_8, ti_9, ti_10, ti_11, ti_12, ti_19, ti_20, ti_21, ti_44, ti_45, ti_48, ti_57, ti_59, ti_60, ti_98, ti_99, ti_100, ti_101, ti_103, ti_108, ti_110, ti_114, ti_127]); omega) | (split <;> omega))
              refine ⟨hi134, ?_⟩
              have hz135 := vlt hi134
              intro it136 em137
              have hI138 : I8 lg119 it136 := by rw [em137]; exact i8_u hI121 (ok8_a (oq_472) (by decide))
              have hK139 : Kc (fun j => (467 ≤ j ∧ j < 473)) lg0 it0 lg119 it136 := by rw [em137]; exact kc_u (by first | omega | (dsimp only; omega)) hK123
              have e140 : (it136 467 8).toInt = (it120 467 8).toInt := by rw [em137]; exact congrArg Int32.toInt (congrFun (u2_row (by decide)) 8)
              subst hp
              exact ⟨⟨hI138, hK139⟩, by first | exact Or.inl rfl | exact Or.inr rfl | assumption⟩
          · try simp only [Int32.lt_iff_toInt_lt, Int32.le_iff_toInt_le, ← Int32.toInt_inj, Int32.toInt_toInt64, ti_m14, ti_m13, ti_m12, ti_m11, ti_m10, ti_m9, ti_m6, ti_m5, ti_m4, ti_m3, ti_m2, ti_m1, ti_0, ti_1, ti_2, ti_3, ti_4, ti_5, ti_6, ti_7, ti_8, ti_9, ti_10, ti_11, ti_12, ti_19, ti_20, ti_21, ti_44, ti_45, ti_48, ti_57, ti_59, ti_60, ti_98, ti_99, ti_100, ti_101, ti_103, ti_108, ti_110, ti_114, ti_127] at c70
            subst hp
            exact ⟨⟨hI121, hK123⟩, by first | exact Or.inl rfl | exact Or.inr rfl | assumption⟩
        · try simp only [Int32.lt_iff_toInt_lt, Int32.le_iff_toInt_le, ← Int32.toInt_inj, Int32.toInt_toInt64, ti_m14, ti_m13, ti_m12, ti_m11, ti_m10, ti_m9, ti_m6, ti_m5, ti_m4, ti_m3, ti_m2, ti_m1, ti_0, ti_1, ti_2, ti_3, ti_4, ti_5, ti_6, ti_7, ti_8, ti_9, ti_10, ti_11, ti_12, ti_19, ti_20, ti_21, ti_44, ti_45, ti_48, ti_57, ti_59, ti_60, ti_98, ti_99, ti_100, ti_101, ti_103, ti_108, ti_110, ti_114, ti_127] at c43
          subst hp
          exact ⟨⟨hI98, hK100⟩, by first | exact Or.inl rfl | exact Or.inr rfl | assumption⟩
    · try simp only [Int32.lt_iff_toInt_lt, Int32.le_iff_toInt_le, ← Int32.toInt_inj, Int32.toInt_toInt64, ti_m14, ti_m13, ti_m12, ti_m11, ti_m10, ti_m9, ti_m6, ti_m5, ti_m4, ti_m3, ti_m2, ti_m1, ti_0, ti_1, ti_2, ti_3, ti_4, ti_5, ti_6, ti_7, ti_8, ti_9, ti_10, ti_11, ti_12, ti_19, ti_20, ti_21, ti_44, ti_45, ti_48, ti_57, ti_59, ti_60, ti_98, ti_99, ti_100, ti_101, ti_103, ti_108, ti_110, ti_114, ti_127] at c14
      subst hp
      exact ⟨⟨hI76, hK78⟩, by first | exact Or.inl rfl | exact Or.inr rfl | assumption⟩
set_option maxRecDepth 100000 in
theorem s_X7_scanClause (a1 : Int32) {lg0 : LGt} {it0 : ITt} (hI : I8 lg0 it0) (hb : 0 ≤ a1.toInt ∧ a1.toInt < 12) : w_X7_scanClause a1 (fun (v : Int32) (lg' : LGt) (it' : ITt) => (I8 lg' it' ∧ Kc (fun j => (467 ≤ j ∧ j < 473)) lg0 it0 lg' it') ∧ (v = 0 ∨ v = 1))  lg0 it0 := by
  have hb_a1 := And.intro a1.le_toInt a1.toInt_lt
  have hKr : Kc (fun j => (467 ≤ j ∧ j < 473)) lg0 it0 lg0 it0 := kc_r
  generalize hp : (fun (v : Int32) (lg' : LGt) (it' : ITt) => (I8 lg' it' ∧ Kc (fun j => (467 ≤ j ∧ j < 473)) lg0 it0 lg' it') ∧ (v = 0 ∨ v = 1)) = Pz
  unfold w_X7_scanClause
  have f82 : 0 ≤ (it0 467 7).toInt ∧ (it0 467 7).toInt ≤ 100 := i8_77 hI
  have f83 : 0 ≤ (it0 467 1).toInt ∧ (it0 467 1).toInt ≤ 100 := i8_71 hI
  have hi84 : vp_in a1 12 := vp_of (by first | omega | ((try simp only [Int32.lt_iff_toInt_lt, Int32.le_iff_toInt_le, ← Int32.toInt_inj, Int32.toInt_toInt64, ti_m14, ti_m13, ti_m12, ti_m11, ti_m10, ti_m9, ti_m6, ti_m5, ti_m4, ti_m3, ti_m2, ti_m1, ti_0, ti_1, ti_2, ti_3, ti_4, ti_5, ti_6, ti_7, ti_8, ti_9, ti_10, ti_11, ti_12, ti_19, ti_20, ti_21, ti_44, ti_45, ti_48, ti_57, ti_59, ti_60, ti_98, ti_99, ti_100, ti_101, ti_103, ti_108, ti_110, ti_114, ti_127]); omega) | (split <;> omega)) (by first | omega | ((try simp only [Int32.lt_iff_toInt_lt, Int32.le_iff_toInt_le, ← Int32.toInt_inj, Int32.toInt_toInt64, ti_m14, ti_m13, ti_m12, ti_m11, ti_m10, ti_m9, ti_m6, ti_m5, ti_m4, ti_m3, ti_m2, ti_m1, ti_0, ti_1, ti_2, ti_3, ti_4, ti_5, ti_6, ti_7, ti_8, ti_9, ti_10, ti_11, ti_12, ti_19, ti_20, ti_21, ti_44, ti_45, ti_48, ti_57, ti_59, ti_60, ti_98, ti_99, ti_100, ti_101, ti_103, ti_108, ti_110, ti_114, ti_127]); omega) | (split <;> omega))
  refine ⟨hi84, ?_⟩
  have hz85 := vlt hi84
  intro it86 em87
  have hI88 : I8 lg0 it86 := by rw [em87]; exact i8_u hI (ok8_a (oq_469) (by decide))
  have hK89 : Kc (fun j => (467 ≤ j ∧ j < 473)) lg0 it0 lg0 it86 := by rw [em87]; exact kc_u (by first | omega | (dsimp only; omega)) hKr
  have e90 : (it86 467 7).toInt = (it0 467 7).toInt := by rw [em87]; exact congrArg Int32.toInt (congrFun (u2_row (by decide)) 7)
  have e91 : (it86 467 1).toInt = (it0 467 1).toInt := by rw [em87]; exact congrArg Int32.toInt (congrFun (u2_row (by decide)) 1)
  refine ⟨_, s_X7_skip  ((98 : Int32)) hI88 (by decide), ?_⟩
  intro v97 lg92 it93 hq
  obtain ⟨⟨hI94, hK95⟩, ha98⟩ := hq
  have hK96 : Kc (fun j => (467 ≤ j ∧ j < 473)) lg0 it0 lg92 it93 := kc_t hK89 hK95 (fun j hj => by first | omega | exact False.elim hj | (dsimp only at hj ⊢; omega))
  try have e99 : (it93 467 7).toInt = (it86 467 7).toInt := congrArg (fun f => Int32.toInt (f 7)) (hK95 467 (by first | omega | (dsimp only; omega))).2
  try have e100 : (it93 467 1).toInt = (it86 467 1).toInt := congrArg (fun f => Int32.toInt (f 1)) (hK95 467 (by first | omega | (dsimp only; omega))).2
  refine ⟨fun c16 => ?_, fun c16 => ?_⟩
  · try simp only [Int32.lt_iff_toInt_lt, Int32.le_iff_toInt_le, ← Int32.toInt_inj, Int32.toInt_toInt64, ti_m14, ti_m13, ti_m12, ti_m11, ti_m10, ti_m9, ti_m6, ti_m5, ti_m4, ti_m3, ti_m2, ti_m1, ti_0, ti_1, ti_2, ti_3, ti_4, ti_5, ti_6, ti_7, ti_8, ti_9, ti_10, ti_11, ti_12, ti_19, ti_20, ti_21, ti_44, ti_45, ti_48, ti_57, ti_59, ti_60, ti_98, ti_99, ti_100, ti_101, ti_103, ti_108, ti_110, ti_114, ti_127] at c16
    refine ⟨_, s_X7_skip  ((103 : Int32)) hI94 (by decide), ?_⟩
    intro v106 lg101 it102 hq
    obtain ⟨⟨hI103, hK104⟩, ha107⟩ := hq
    have hK105 : Kc (fun j => (467 ≤ j ∧ j < 473)) lg0 it0 lg101 it102 := kc_t hK96 hK104 (fun j hj => by first | omega | exact False.elim hj | (dsimp only at hj ⊢; omega))
    try have e108 : (it102 467 7).toInt = (it93 467 7).toInt := congrArg (fun f => Int32.toInt (f 7)) (hK104 467 (by first | omega | (dsimp only; omega))).2
    try have e109 : (it102 467 1).toInt = (it93 467 1).toInt := congrArg (fun f => Int32.toInt (f 1)) (hK104 467 (by first | omega | (dsimp only; omega))).2
    refine ⟨fun c31 => ?_, fun c31 => ?_⟩
    · try simp only [Int32.lt_iff_toInt_lt, Int32.le_iff_toInt_le, ← Int32.toInt_inj, Int32.toInt_toInt64, ti_m14, ti_m13, ti_m12, ti_m11, ti_m10, ti_m9, ti_m6, ti_m5, ti_m4, ti_m3, ti_m2, ti_m1, ti_0, ti_1, ti_2, ti_3, ti_4, ti_5, ti_6, ti_7, ti_8, ti_9, ti_10, ti_11, ti_12, ti_19, ti_20, ti_21, ti_44, ti_45, ti_48, ti_57, ti_59, ti_60, ti_98, ti_99, ti_100, ti_101, ti_103, ti_108, ti_110, ti_114, ti_127] at c31
      refine ⟨_, s_X7_skip  ((101 : Int32)) hI103 (by decide), ?_⟩
      intro v115 lg110 it111 hq
      obtain ⟨⟨hI112, hK113⟩, ha116⟩ := hq
      have hK114 : Kc (fun j => (467 ≤ j ∧ j < 473)) lg0 it0 lg110 it111 := kc_t hK105 hK113 (fun j hj => by first | omega | exact False.elim hj | (dsimp only at hj ⊢; omega))
      try have e117 : (it111 467 7).toInt = (it102 467 7).toInt := congrArg (fun f => Int32.toInt (f 7)) (hK113 467 (by first | omega | (dsimp only; omega))).2
      try have e118 : (it111 467 1).toInt = (it102 467 1).toInt := congrArg (fun f => Int32.toInt (f 1)) (hK113 467 (by first | omega | (dsimp only; omega))).2
      refine ⟨fun c49 => ?_, fun c49 => ?_⟩
      · try simp only [Int32.lt_iff_toInt_lt, Int32.le_iff_toInt_le, ← Int32.toInt_inj, Int32.toInt_toInt64, ti_m14, ti_m13, ti_m12, ti_m11, ti_m10, ti_m9, ti_m6, ti_m5, ti_m4, ti_m3, ti_m2, ti_m1, ti_0, ti_1, ti_2, ti_3, ti_4, ti_5, ti_6, ti_7, ti_8, ti_9, ti_10, ti_11, ti_12, ti_19, ti_20, ti_21, ti_44, ti_45, ti_48, ti_57, ti_59, ti_60, ti_98, ti_99, ti_100, ti_101, ti_103, ti_108, ti_110, ti_114, ti_127] at c49
        refine ⟨_, s_X7_skip  ((108 : Int32)) hI112 (by decide), ?_⟩
        intro v124 lg119 it120 hq
        obtain ⟨⟨hI121, hK122⟩, ha125⟩ := hq
        have hK123 : Kc (fun j => (467 ≤ j ∧ j < 473)) lg0 it0 lg119 it120 := kc_t hK114 hK122 (fun j hj => by first | omega | exact False.elim hj | (dsimp only at hj ⊢; omega))
        try have e126 : (it120 467 7).toInt = (it111 467 7).toInt := congrArg (fun f => Int32.toInt (f 7)) (hK122 467 (by first | omega | (dsimp only; omega))).2
        try have e127 : (it120 467 1).toInt = (it111 467 1).toInt := congrArg (fun f => Int32.toInt (f 1)) (hK122 467 (by first | omega | (dsimp only; omega))).2
        refine ⟨fun c67 => ?_, fun c67 => ?_⟩
        · try simp only [Int32.lt_iff_toInt_lt, Int32.le_iff_toInt_le, ← Int32.toInt_inj, Int32.toInt_toInt64, ti_m14, ti_m13, ti_m12, ti_m11, ti_m10, ti_m9, ti_m6, ti_m5, ti_m4, ti_m3, ti_m2, ti_m1, ti_0, ti_1, ti_2, ti_3, ti_4, ti_5, ti_6, ti_7, ti_8, ti_9, ti_10, ti_11, ti_12, ti_19, ti_20, ti_21, ti_44, ti_45, ti_48, ti_57, ti_59, ti_60, ti_98, ti_99, ti_100, ti_101, ti_103, ti_108, ti_110, ti_114, ti_127] at c67
          unfold w_X7_scanClause_b79
          refine ⟨_, s_X7_scanWall   hI121 , ?_⟩
          intro v133 lg128 it129 hq
          obtain ⟨⟨hI130, hK131⟩, ha134⟩ := hq
          have hK132 : Kc (fun j => (467 ≤ j ∧ j < 473)) lg0 it0 lg128 it129 := kc_t hK123 hK131 (fun j hj => by first | omega | exact False.elim hj | (dsimp only at hj ⊢; omega))
          try have e135 : (it129 467 7).toInt = (it120 467 7).toInt := congrArg (fun f => Int32.toInt (f 7)) (hK131 467 (by first | omega | (dsimp only; omega))).2
          try have e136 : (it129 467 1).toInt = (it120 467 1).toInt := congrArg (fun f => Int32.toInt (f 1)) (hK131 467 (by first | omega | (dsimp only; omega))).2
          refine ⟨fun c83 => ?_, fun c83 => ?_⟩
          · try simp only [Int32.lt_iff_toInt_lt, Int32.le_iff_toInt_le, ← Int32.toInt_inj, Int32.toInt_toInt64, ti_m14, ti_m13, ti_m12, ti_m11, ti_m10, ti_m9, ti_m6, ti_m5, ti_m4, ti_m3, ti_m2, ti_m1, ti_0, ti_1, ti_2, ti_3, ti_4, ti_5, ti_6, ti_7, ti_8, ti_9, ti_10, ti_11, ti_12, ti_19, ti_20, ti_21, ti_44, ti_45, ti_48, ti_57, ti_59, ti_60, ti_98, ti_99, ti_100, ti_101, ti_103, ti_108, ti_110, ti_114, ti_127] at c83
            unfold w_X7_scanClause_b90
            unfold w_X7_scanClause_b91
            unfold w_X7_scanClause_b92
            have hi137 : vp_in a1 12 := vp_of (by first | omega | ((try simp only [Int32.lt_iff_toInt_lt, Int32.le_iff_toInt_le, ← Int32.toInt_inj, Int32.toInt_toInt64, ti_m14, ti_m13, ti_m12, ti_m11, ti_m10, ti_m9, ti_m6, ti_m5, ti_m4, ti_m3, ti_m2, ti_m1, ti_0, ti_1, ti_2, ti_3, ti_4, ti_5, ti_6, ti_7, ti_8, ti_9, ti_10, ti_11, ti_12, ti_19, ti_20, ti_21, ti_44, ti_45, ti_48, ti_57, ti_59, ti_60, ti_98, ti_99, ti_100, ti_101, ti_103, ti_108, ti_110, ti_114, ti_127]); omega) | (split <;> omega)) (by first | omega | ((try simp only [Int32.lt_iff_toInt_lt, Int32.le_iff_toInt_le, ← Int32.toInt_inj, Int32.toInt_toInt64, ti_m14, ti_m13, ti_m12, ti_m11, ti_m10, ti_m9, ti_m6, ti_m5, ti_m4, ti_m3, ti_m2, ti_m1, ti_0, ti_1, ti_2, ti_3, ti_4, ti_5, ti_6, ti_7, ti_8, ti_9, ti_10, ti_11, ti_12, ti_19, ti_20, ti_21, ti_44, ti_45, ti_48, ti_57, ti_59, ti_60, ti_98, ti_99, ti_100, ti_101, ti_103, ti_108, ti_110, ti_114, ti_127]); omega) | (split <;> omega))
            refine ⟨hi137, ?_⟩
            have hz138 := vlt hi137
            intro it139 em140
            have hI141 : I8 lg128 it139 := by rw [em140]; exact i8_u hI130 (ok8_a (oq_470) (by decide))
            have hK142 : Kc (fun j => (467 ≤ j ∧ j < 473)) lg0 it0 lg128 it139 := by rw [em140]; exact kc_u (by first | omega | (dsimp only; omega)) hK132
            have e143 : (it139 467 7).toInt = (it129 467 7).toInt := by rw [em140]; exact congrArg Int32.toInt (congrFun (u2_row (by decide)) 7)
            have e144 : (it139 467 1).toInt = (it129 467 1).toInt := by rw [em140]; exact congrArg Int32.toInt (congrFun (u2_row (by decide)) 1)
            have e145 : (it139 467 8).toInt = (it129 467 8).toInt := by rw [em140]; exact congrArg Int32.toInt (congrFun (u2_row (by decide)) 8)
            refine ⟨ib (by first | assumption | exact Or.inl rfl | exact Or.inr rfl), ?_⟩
            subst hp
            exact ⟨⟨hI141, hK142⟩, by first | exact Or.inl rfl | exact Or.inr rfl | assumption⟩
          · try simp only [Int32.lt_iff_toInt_lt, Int32.le_iff_toInt_le, ← Int32.toInt_inj, Int32.toInt_toInt64, ti_m14, ti_m13, ti_m12, ti_m11, ti_m10, ti_m9, ti_m6, ti_m5, ti_m4, ti_m3, ti_m2, ti_m1, ti_0, ti_1, ti_2, ti_3, ti_4, ti_5, ti_6, ti_7, ti_8, ti_9, ti_10, ti_11, ti_12, ti_19, ti_20, ti_21, ti_44, ti_45, ti_48, ti_57, ti_59, ti_60, ti_98, ti_99, ti_100, ti_101, ti_103, ti_108, ti_110, ti_114, ti_127] at c83
            unfold w_X7_scanClause_b91
            unfold w_X7_scanClause_b92
            have hi146 : vp_in a1 12 := vp_of (by first | omega | ((try simp only [Int32.lt_iff_toInt_lt, Int32.le_iff_toInt_le, ← Int32.toInt_inj, Int32.toInt_toInt64, ti_m14, ti_m13, ti_m12, ti_m11, ti_m10, ti_m9, ti_m6, ti_m5, ti_m4, ti_m3, ti_m2, ti_m1, ti_0, ti_1, ti_2, ti_3, ti_4, ti_5, ti_6, ti_7, ti_8, ti_9, ti_10, ti_11, ti_12, ti_19, ti_20, ti_21, ti_44, ti_45, ti_48, ti_57, ti_59, ti_60, ti_98, ti_99, ti_100, ti_101, ti_103, ti_108, ti_110, ti_114, ti_127]); omega) | (split <;> omega)) (by first | omega | ((try simp only [Int32.lt_iff_toInt_lt, Int32.le_iff_toInt_le, ← Int32.toInt_inj, Int32.toInt_toInt64, ti_m14, ti_m13, ti_m12, ti_m11, ti_m10, ti_m9, ti_m6, ti_m5, ti_m4, ti_m3, ti_m2, ti_m1, ti_0, ti_1, ti_2, ti_3, ti_4, ti_5, ti_6, ti_7, ti_8, ti_9, ti_10, ti_11, ti_12, ti_19, ti_20, ti_21, ti_44, ti_45, ti_48, ti_57, ti_59, ti_60, ti_98, ti_99, ti_100, ti_101, ti_103, ti_108, ti_110, ti_114, ti_127]); omega) | (split <;> omega))
            refine ⟨hi146, ?_⟩
            have hz147 := vlt hi146
            intro it148 em149
            have hI150 : I8 lg128 it148 := by rw [em149]; exact i8_u hI130 (ok8_a (oq_470) (by decide))
            have hK151 : Kc (fun j => (467 ≤ j ∧ j < 473)) lg0 it0 lg128 it148 := by rw [em149]; exact kc_u (by first | omega | (dsimp only; omega)) hK132
            have e152 : (it148 467 7).toInt = (it129 467 7).toInt := by rw [em149]; exact congrArg Int32.toInt (congrFun (u2_row (by decide)) 7)
            have e153 : (it148 467 1).toInt = (it129 467 1).toInt := by rw [em149]; exact congrArg Int32.toInt (congrFun (u2_row (by decide)) 1)
            have e154 : (it148 467 8).toInt = (it129 467 8).toInt := by rw [em149]; exact congrArg Int32.toInt (congrFun (u2_row (by decide)) 8)
            refine ⟨ib (by first | assumption | exact Or.inl rfl | exact Or.inr rfl), ?_⟩
            subst hp
            exact ⟨⟨hI150, hK151⟩, by first | exact Or.inl rfl | exact Or.inr rfl | assumption⟩
        · try simp only [Int32.lt_iff_toInt_lt, Int32.le_iff_toInt_le, ← Int32.toInt_inj, Int32.toInt_toInt64, ti_m14, ti_m13, ti_m12, ti_m11, ti_m10, ti_m9, ti_m6, ti_m5, ti_m4, ti_m3, ti_m2, ti_m1, ti_0, ti_1, ti_2, ti_3, ti_4, ti_5, ti_6, ti_7, ti_8, ti_9, ti_10, ti_11, ti_12, ti_19, ti_20, ti_21, ti_44, ti_45, ti_48, ti_57, ti_59, ti_60, ti_98, ti_99, ti_100, ti_101, ti_103, ti_108, ti_110, ti_114, ti_127] at c67
          refine ⟨_, s_X7_skip  ((114 : Int32)) hI121 (by decide), ?_⟩
          intro v160 lg155 it156 hq
          obtain ⟨⟨hI157, hK158⟩, ha161⟩ := hq
          have hK159 : Kc (fun j => (467 ≤ j ∧ j < 473)) lg0 it0 lg155 it156 := kc_t hK123 hK158 (fun j hj => by first | omega | exact False.elim hj | (dsimp only at hj ⊢; omega))
          try have e162 : (it156 467 7).toInt = (it120 467 7).toInt := congrArg (fun f => Int32.toInt (f 7)) (hK158 467 (by first | omega | (dsimp only; omega))).2
          try have e163 : (it156 467 1).toInt = (it120 467 1).toInt := congrArg (fun f => Int32.toInt (f 1)) (hK158 467 (by first | omega | (dsimp only; omega))).2
          refine ⟨fun c76 => ?_, fun c76 => ?_⟩
          · try simp only [Int32.lt_iff_toInt_lt, Int32.le_iff_toInt_le, ← Int32.toInt_inj, Int32.toInt_toInt64, ti_m14, ti_m13, ti_m12, ti_m11, ti_m10, ti_m9, ti_m6, ti_m5, ti_m4, ti_m3, ti_m2, ti_m1, ti_0, ti_1, ti_2, ti_3, ti_4, ti_5, ti_6, ti_7, ti_8, ti_9, ti_10, ti_11, ti_12, ti_19, ti_20, ti_21, ti_44, ti_45, ti_48, ti_57, ti_59, ti_60, ti_98, ti_99, ti_100, ti_101, ti_103, ti_108, ti_110, ti_114, ti_127] at c76
            unfold w_X7_scanClause_b90
            unfold w_X7_scanClause_b91
            unfold w_X7_scanClause_b92
            have hi164 : vp_in a1 12 := vp_of (by first | omega | ((try simp only [Int32.lt_iff_toInt_lt, Int32.le_iff_toInt_le, ← Int32.toInt_inj, Int32.toInt_toInt64, ti_m14, ti_m13, ti_m12, ti_m11, ti_m10, ti_m9, ti_m6, ti_m5, ti_m4, ti_m3, ti_m2, ti_m1, ti_0, ti_1, ti_2, ti_3, ti_4, ti_5, ti_6, ti_7, ti_8, ti_9, ti_10, ti_11, ti_12, ti_19, ti_20, ti_21, ti_44, ti_45, ti_48, ti_57, ti_59, ti_60, ti_98, ti_99, ti_100, ti_101, ti_103, ti_108, ti_110, ti_114, ti_127]); omega) | (split <;> omega)) (by first | omega | ((try simp only [Int32.lt_iff_toInt_lt, Int32.le_iff_toInt_le, ← Int32.toInt_inj, Int32.toInt_toInt64, ti_m14, ti_m13, ti_m12, ti_m11, ti_m10, ti_m9, ti_m6, ti_m5, ti_m4, ti_m3, ti_m2, ti_m1, ti_0, ti_1, ti_2, ti_3, ti_4, ti_5, ti_6, ti_7, ti_8, ti_9, ti_10, ti_11, ti_12, ti_19, ti_20, ti_21, ti_44, ti_45, ti_48, ti_57, ti_59, ti_60, ti_98, ti_99, ti_100, ti_101, ti_103, ti_108, ti_110, ti_114, ti_127]); omega) | (split <;> omega))
            refine ⟨hi164, ?_⟩
            have hz165 := vlt hi164
            intro it166 em167
            have hI168 : I8 lg155 it166 := by rw [em167]; exact i8_u hI157 (ok8_a (oq_470) (by decide))
            have hK169 : Kc (fun j => (467 ≤ j ∧ j < 473)) lg0 it0 lg155 it166 := by rw [em167]; exact kc_u (by first | omega | (dsimp only; omega)) hK159
            have e170 : (it166 467 7).toInt = (it156 467 7).toInt := by rw [em167]; exact congrArg Int32.toInt (congrFun (u2_row (by decide)) 7)
            have e171 : (it166 467 1).toInt = (it156 467 1).toInt := by rw [em167]; exact congrArg Int32.toInt (congrFun (u2_row (by decide)) 1)
            have e172 : (it166 467 8).toInt = (it156 467 8).toInt := by rw [em167]; exact congrArg Int32.toInt (congrFun (u2_row (by decide)) 8)
            refine ⟨ib (by first | assumption | exact Or.inl rfl | exact Or.inr rfl), ?_⟩
            subst hp
            exact ⟨⟨hI168, hK169⟩, by first | exact Or.inl rfl | exact Or.inr rfl | assumption⟩
          · try simp only [Int32.lt_iff_toInt_lt, Int32.le_iff_toInt_le, ← Int32.toInt_inj, Int32.toInt_toInt64, ti_m14, ti_m13, ti_m12, ti_m11, ti_m10, ti_m9, ti_m6, ti_m5, ti_m4, ti_m3, ti_m2, ti_m1, ti_0, ti_1, ti_2, ti_3, ti_4, ti_5, ti_6, ti_7, ti_8, ti_9, ti_10, ti_11, ti_12, ti_19, ti_20, ti_21, ti_44, ti_45, ti_48, ti_57, ti_59, ti_60, ti_98, ti_99, ti_100, ti_101, ti_103, ti_108, ti_110, ti_114, ti_127] at c76
            unfold w_X7_scanClause_b79
            refine ⟨_, s_X7_scanWall   hI157 , ?_⟩
            intro v178 lg173 it174 hq
            obtain ⟨⟨hI175, hK176⟩, ha179⟩ := hq
            have hK177 : Kc (fun j => (467 ≤ j ∧ j < 473)) lg0 it0 lg173 it174 := kc_t hK159 hK176 (fun j hj => by first | omega | exact False.elim hj | (dsimp only at hj ⊢; omega))
            try have e180 : (it174 467 7).toInt = (it156 467 7).toInt := congrArg (fun f => Int32.toInt (f 7)) (hK176 467 (by first | omega | (dsimp only; omega))).2
            try have e181 : (it174 467 1).toInt = (it156 467 1).toInt := congrArg (fun f => Int32.toInt (f 1)) (hK176 467 (by first | omega | (dsimp only; omega))).2
            refine ⟨fun c83 => ?_, fun c83 => ?_⟩
            · try simp only [Int32.lt_iff_toInt_lt, Int32.le_iff_toInt_le, ← Int32.toInt_inj, Int32.toInt_toInt64, ti_m14, ti_m13, ti_m12, ti_m11, ti_m10, ti_m9, ti_m6, ti_m5, ti_m4, ti_m3, ti_m2, ti_m1, ti_0, ti_1, ti_2, ti_3, ti_4, ti_5, ti_6, ti_7, ti_8, ti_9, ti_10, ti_11, ti_12, ti_19, ti_20, ti_21, ti_44, ti_45, ti_48, ti_57, ti_59, ti_60, ti_98, ti_99, ti_100, ti_101, ti_103, ti_108, ti_110, ti_114, ti_127] at c83
              unfold w_X7_scanClause_b90
              unfold w_X7_scanClause_b91
              unfold w_X7_scanClause_b92
              have hi182 : vp_in a1 12 := vp_of (by first | omega | ((try simp only [Int32.lt_iff_toInt_lt, Int32.le_iff_toInt_le, ← Int32.toInt_inj, Int32.toInt_toInt64, ti_m14, ti_m13, ti_m12, ti_m11, ti_m10, ti_m9, ti_m6, ti_m5, ti_m4, ti_m3, ti_m2, ti_m1, ti_0, ti_1, ti_2, ti_3, ti_4, ti_5, ti_6, ti_7, ti_8, ti_9, ti_10, ti_11, ti_12, ti_19, ti_20, ti_21, ti_44, ti_45, ti_48, ti_57, ti_59, ti_60, ti_98, ti_99, ti_100, ti_101, ti_103, ti_108, ti_110, ti_114, ti_127]); omega) | (split <;> omega)) (by first | omega | ((try simp only [Int32.lt_iff_toInt_lt, Int32.le_iff_toInt_le, ← Int32.toInt_inj, Int32.toInt_toInt64, ti_m14, ti_m13, ti_m12, ti_m11, ti_m10, ti_m9, ti_m6, ti_m5, ti_m4, ti_m3, ti_m2, ti_m1, ti_0, ti_1, ti_2, ti_3, ti_4, ti_5, ti_6, ti_7, ti_8, ti_9, ti_10, ti_11, ti_12, ti_19, ti_20, ti_21, ti_44, ti_45, ti_48, ti_57, ti_59, ti_60, ti_98, ti_99, ti_100, ti_101, ti_103, ti_108, ti_110, ti_114, ti_127]); omega) | (split <;> omega))
              refine ⟨hi182, ?_⟩
              have hz183 := vlt hi182
              intro it184 em185
              have hI186 : I8 lg173 it184 := by rw [em185]; exact i8_u hI175 (ok8_a (oq_470) (by decide))
              have hK187 : Kc (fun j => (467 ≤ j ∧ j < 473)) lg0 it0 lg173 it184 := by rw [em185]; exact kc_u (by first | omega | (dsimp only; omega)) hK177
              have e188 : (it184 467 7).toInt = (it174 467 7).toInt := by rw [em185]; exact congrArg Int32.toInt (congrFun (u2_row (by decide)) 7)
              have e189 : (it184 467 1).toInt = (it174 467 1).toInt := by rw [em185]; exact congrArg Int32.toInt (congrFun (u2_row (by decide)) 1)
              have e190 : (it184 467 8).toInt = (it174 467 8).toInt := by rw [em185]; exact congrArg Int32.toInt (congrFun (u2_row (by decide)) 8)
              refine ⟨ib (by first | assumption | exact Or.inl rfl | exact Or.inr rfl), ?_⟩
              subst hp
              exact ⟨⟨hI186, hK187⟩, by first | exact Or.inl rfl | exact Or.inr rfl | assumption⟩
            · try simp only [Int32.lt_iff_toInt_lt, Int32.le_iff_toInt_le, ← Int32.toInt_inj, Int32.toInt_toInt64, ti_m14, ti_m13, ti_m12, ti_m11, ti_m10, ti_m9, ti_m6, ti_m5, ti_m4, ti_m3, ti_m2, ti_m1, ti_0, ti_1, ti_2, ti_3, ti_4, ti_5, ti_6, ti_7, ti_8, ti_9, ti_10, ti_11, ti_12, ti_19, ti_20, ti_21, ti_44, ti_45, ti_48, ti_57, ti_59, ti_60, ti_98, ti_99, ti_100, ti_101, ti_103, ti_108, ti_110, ti_114, ti_127] at c83
              unfold w_X7_scanClause_b91
              unfold w_X7_scanClause_b92
              have hi191 : vp_in a1 12 := vp_of (by first | omega | ((try simp only [Int32.lt_iff_toInt_lt, Int32.le_iff_toInt_le, ← Int32.toInt_inj, Int32.toInt_toInt64, ti_m14, ti_m13, ti_m12, ti_m11, ti_m10, ti_m9, ti_m6, ti_m5, ti_m4, ti_m3, ti_m2, ti_m1, ti_0, ti_1, ti_2, ti_3, ti_4, ti_5, ti_6, ti_7, ti_8, ti_9, ti_10, ti_11, ti_12, ti_19, ti_20, ti_21, ti_44, ti_45, ti_48, ti_57, ti_59, ti_60, ti_98, ti_99, ti_100, ti_101, ti_103, ti_108, ti_110, ti_114, ti_127]); omega) | (split <;> omega)) (by first | omega | ((try simp only [Int32.lt_iff_toInt_lt, Int32.le_iff_toInt_le, ← Int32.toInt_inj, Int32.toInt_toInt64, ti_m14, ti_m13, ti_m12, ti_m11, ti_m10, ti_m9, ti_m6, ti_m5, ti_m4, ti_m3, ti_m2, ti_m1, ti_0, ti_1, ti_2, ti_3, ti_4, ti_5, ti_6, ti_7, ti_8, ti_9, ti_10, ti_11, ti_12, ti_19, ti_20, ti_21, ti_44, ti_45, ti_48, ti_57, ti_59, ti_60, ti_98, ti_99, ti_100, ti_101, ti_103, ti_108, ti_110, ti_114, ti_127]); omega) | (split <;> omega))
              refine ⟨hi191, ?_⟩
              have hz192 := vlt hi191
              intro it193 em194
              have hI195 : I8 lg173 it193 := by rw [em194]; exact i8_u hI175 (ok8_a (oq_470) (by decide))
              have hK196 : Kc (fun j => (467 ≤ j ∧ j < 473)) lg0 it0 lg173 it193 := by rw [em194]; exact kc_u (by first | omega | (dsimp only; omega)) hK177
              have e197 : (it193 467 7).toInt = (it174 467 7).toInt := by rw [em194]; exact congrArg Int32.toInt (congrFun (u2_row (by decide)) 7)
              have e198 : (it193 467 1).toInt = (it174 467 1).toInt := by rw [em194]; exact congrArg Int32.toInt (congrFun (u2_row (by decide)) 1)
              have e199 : (it193 467 8).toInt = (it174 467 8).toInt := by rw [em194]; exact congrArg Int32.toInt (congrFun (u2_row (by decide)) 8)
              refine ⟨ib (by first | assumption | exact Or.inl rfl | exact Or.inr rfl), ?_⟩
              subst hp
              exact ⟨⟨hI195, hK196⟩, by first | exact Or.inl rfl | exact Or.inr rfl | assumption⟩
      · try simp only [Int32.lt_iff_toInt_lt, Int32.le_iff_toInt_le, ← Int32.toInt_inj, Int32.toInt_toInt64, ti_m14, ti_m13, ti_m12, ti_m11, ti_m10, ti_m9, ti_m6, ti_m5, ti_m4, ti_m3, ti_m2, ti_m1, ti_0, ti_1, ti_2, ti_3, ti_4, ti_5, ti_6, ti_7, ti_8, ti_9, ti_10, ti_11, ti_12, ti_19, ti_20, ti_21, ti_44, ti_45, ti_48, ti_57, ti_59, ti_60, ti_98, ti_99, ti_100, ti_101, ti_103, ti_108, ti_110, ti_114, ti_127] at c49
        refine ⟨_, s_X7_scanNumber  ((1 : Int32)) hI112 (by decide), ?_⟩
        intro v205 lg200 it201 hq
        obtain ⟨⟨hI202, hK203⟩, ha206⟩ := hq
        have hK204 : Kc (fun j => (467 ≤ j ∧ j < 473)) lg0 it0 lg200 it201 := kc_t hK114 hK203 (fun j hj => by first | omega | exact False.elim hj | (dsimp only at hj ⊢; omega))
        try have e207 : (it201 467 7).toInt = (it111 467 7).toInt := congrArg (fun f => Int32.toInt (f 7)) (hK203 467 (by first | omega | (dsimp only; omega))).2
        try have e208 : (it201 467 1).toInt = (it111 467 1).toInt := congrArg (fun f => Int32.toInt (f 1)) (hK203 467 (by first | omega | (dsimp only; omega))).2
        unfold w_X7_scanClause_b92
        have hi209 : vp_in a1 12 := vp_of (by first | omega | ((try simp only [Int32.lt_iff_toInt_lt, Int32.le_iff_toInt_le, ← Int32.toInt_inj, Int32.toInt_toInt64, ti_m14, ti_m13, ti_m12, ti_m11, ti_m10, ti_m9, ti_m6, ti_m5, ti_m4, ti_m3, ti_m2, ti_m1, ti_0, ti_1, ti_2, ti_3, ti_4, ti_5, ti_6, ti_7, ti_8, ti_9, ti_10, ti_11, ti_12, ti_19, ti_20, ti_21, ti_44, ti_45, ti_48, ti_57, ti_59, ti_60, ti_98, ti_99, ti_100, ti_101, ti_103, ti_108, ti_110, ti_114, ti_127]); omega) | (split <;> omega)) (by first | omega | ((try simp only [Int32.lt_iff_toInt_lt, Int32.le_iff_toInt_le, ← Int32.toInt_inj, Int32.toInt_toInt64, ti_m14, ti_m13, ti_m12, ti_m11, ti_m10, ti_m9, ti_m6, ti_m5, ti_m4, ti_m3, ti_m2, ti_m1, ti_0, ti_1, ti_2, ti_3, ti_4, ti_5, ti_6, ti_7, ti_8, ti_9, ti_10, ti_11, ti_12, ti_19, ti_20, ti_21, ti_44, ti_45, ti_48, ti_57, ti_59, ti_60, ti_98, ti_99, ti_100, ti_101, ti_103, ti_108, ti_110, ti_114, ti_127]); omega) | (split <;> omega))
        refine ⟨hi209, ?_⟩
        have hz210 := vlt hi209
        intro it211 em212
        have hI213 : I8 lg200 it211 := by rw [em212]; exact i8_u hI202 (ok8_a (oq_470) (by decide))
        have hK214 : Kc (fun j => (467 ≤ j ∧ j < 473)) lg0 it0 lg200 it211 := by rw [em212]; exact kc_u (by first | omega | (dsimp only; omega)) hK204
        have e215 : (it211 467 7).toInt = (it201 467 7).toInt := by rw [em212]; exact congrArg Int32.toInt (congrFun (u2_row (by decide)) 7)
        have e216 : (it211 467 1).toInt = (it201 467 1).toInt := by rw [em212]; exact congrArg Int32.toInt (congrFun (u2_row (by decide)) 1)
        have e217 : (it211 467 8).toInt = (it201 467 8).toInt := by rw [em212]; exact congrArg Int32.toInt (congrFun (u2_row (by decide)) 8)
        refine ⟨ib (by first | assumption | exact Or.inl rfl | exact Or.inr rfl), ?_⟩
        subst hp
        exact ⟨⟨hI213, hK214⟩, by first | exact Or.inl rfl | exact Or.inr rfl | assumption⟩
    · try simp only [Int32.lt_iff_toInt_lt, Int32.le_iff_toInt_le, ← Int32.toInt_inj, Int32.toInt_toInt64, ti_m14, ti_m13, ti_m12, ti_m11, ti_m10, ti_m9, ti_m6, ti_m5, ti_m4, ti_m3, ti_m2, ti_m1, ti_0, ti_1, ti_2, ti_3, ti_4, ti_5, ti_6, ti_7, ti_8, ti_9, ti_10, ti_11, ti_12, ti_19, ti_20, ti_21, ti_44, ti_45, ti_48, ti_57, ti_59, ti_60, ti_98, ti_99, ti_100, ti_101, ti_103, ti_108, ti_110, ti_114, ti_127] at c31
      refine ⟨_, s_X7_scanNumber  ((2 : Int32)) hI103 (by decide), ?_⟩
      intro v223 lg218 it219 hq
      obtain ⟨⟨hI220, hK221⟩, ha224⟩ := hq
      have hK222 : Kc (fun j => (467 ≤ j ∧ j < 473)) lg0 it0 lg218 it219 := kc_t hK105 hK221 (fun j hj => by first | omega | exact False.elim hj | (dsimp only at hj ⊢; omega))
      try have e225 : (it219 467 7).toInt = (it102 467 7).toInt := congrArg (fun f => Int32.toInt (f 7)) (hK221 467 (by first | omega | (dsimp only; omega))).2
      try have e226 : (it219 467 1).toInt = (it102 467 1).toInt := congrArg (fun f => Int32.toInt (f 1)) (hK221 467 (by first | omega | (dsimp only; omega))).2
      unfold w_X7_scanClause_b92
      have hi227 : vp_in a1 12 := vp_of (by first | omega | ((try simp only [Int32.lt_iff_toInt_lt, Int32.le_iff_toInt_le, ← Int32.toInt_inj, Int32.toInt_toInt64, ti_m14, ti_m13, ti_m12, ti_m11, ti_m10, ti_m9, ti_m6, ti_m5, ti_m4, ti_m3, ti_m2, ti_m1, ti_0, ti_1, ti_2, ti_3, ti_4, ti_5, ti_6, ti_7, ti_8, ti_9, ti_10, ti_11, ti_12, ti_19, ti_20, ti_21, ti_44, ti_45, ti_48, ti_57, ti_59, ti_60, ti_98, ti_99, ti_100, ti_101, ti_103, ti_108, ti_110, ti_114, ti_127]); omega) | (split <;> omega)) (by first | omega | ((try simp only [Int32.lt_iff_toInt_lt, Int32.le_iff_toInt_le, ← Int32.toInt_inj, Int32.toInt_toInt64, ti_m14, ti_m13, ti_m12, ti_m11, ti_m10, ti_m9, ti_m6, ti_m5, ti_m4, ti_m3, ti_m2, ti_m1, ti_0, ti_1, ti_2, ti_3, ti_4, ti_5, ti_6, ti_7, ti_8, ti_9, ti_10, ti_11, ti_12, ti_19, ti_20, ti_21, ti_44, ti_45, ti_48, ti_57, ti_59, ti_60, ti_98, ti_99, ti_100, ti_101, ti_103, ti_108, ti_110, ti_114, ti_127]); omega) | (split <;> omega))
      refine ⟨hi227, ?_⟩
      have hz228 := vlt hi227
      intro it229 em230
      have hI231 : I8 lg218 it229 := by rw [em230]; exact i8_u hI220 (ok8_a (oq_470) (by decide))
      have hK232 : Kc (fun j => (467 ≤ j ∧ j < 473)) lg0 it0 lg218 it229 := by rw [em230]; exact kc_u (by first | omega | (dsimp only; omega)) hK222
      have e233 : (it229 467 7).toInt = (it219 467 7).toInt := by rw [em230]; exact congrArg Int32.toInt (congrFun (u2_row (by decide)) 7)
      have e234 : (it229 467 1).toInt = (it219 467 1).toInt := by rw [em230]; exact congrArg Int32.toInt (congrFun (u2_row (by decide)) 1)
      have e235 : (it229 467 8).toInt = (it219 467 8).toInt := by rw [em230]; exact congrArg Int32.toInt (congrFun (u2_row (by decide)) 8)
      refine ⟨ib (by first | assumption | exact Or.inl rfl | exact Or.inr rfl), ?_⟩
      subst hp
      exact ⟨⟨hI231, hK232⟩, by first | exact Or.inl rfl | exact Or.inr rfl | assumption⟩
  · try simp only [Int32.lt_iff_toInt_lt, Int32.le_iff_toInt_le, ← Int32.toInt_inj, Int32.toInt_toInt64, ti_m14, ti_m13, ti_m12, ti_m11, ti_m10, ti_m9, ti_m6, ti_m5, ti_m4, ti_m3, ti_m2, ti_m1, ti_0, ti_1, ti_2, ti_3, ti_4, ti_5, ti_6, ti_7, ti_8, ti_9, ti_10, ti_11, ti_12, ti_19, ti_20, ti_21, ti_44, ti_45, ti_48, ti_57, ti_59, ti_60, ti_98, ti_99, ti_100, ti_101, ti_103, ti_108, ti_110, ti_114, ti_127] at c16
    refine ⟨_, s_X7_scanBumper  (a1) hI94 (by first | omega | assumption), ?_⟩
    intro v241 lg236 it237 hq
    obtain ⟨⟨hI238, hK239⟩, ha242⟩ := hq
    have hK240 : Kc (fun j => (467 ≤ j ∧ j < 473)) lg0 it0 lg236 it237 := kc_t hK96 hK239 (fun j hj => by first | omega | exact False.elim hj | (dsimp only at hj ⊢; omega))
    try have e243 : (it237 467 7).toInt = (it93 467 7).toInt := congrArg (fun f => Int32.toInt (f 7)) (hK239 467 (by first | omega | (dsimp only; omega))).2
    try have e244 : (it237 467 1).toInt = (it93 467 1).toInt := congrArg (fun f => Int32.toInt (f 1)) (hK239 467 (by first | omega | (dsimp only; omega))).2
    refine ⟨ib (by first | assumption | exact Or.inl rfl | exact Or.inr rfl), ?_⟩
    subst hp
    exact ⟨⟨hI238, hK240⟩, by first | exact Or.inl rfl | exact Or.inr rfl | assumption⟩
set_option maxRecDepth 100000 in
theorem s_X7_scan {lg0 : LGt} {it0 : ITt} (hI : I8 lg0 it0) : w_X7_scan  (fun (v : Int32) (lg' : LGt) (it' : ITt) => (I8 lg' it' ∧ Kc (fun j => (467 ≤ j ∧ j < 473)) lg0 it0 lg' it') ∧ (v = 0 ∨ v = 1))  lg0 it0 := by
  have hKr : Kc (fun j => (467 ≤ j ∧ j < 473)) lg0 it0 lg0 it0 := kc_r
  generalize hp : (fun (v : Int32) (lg' : LGt) (it' : ITt) => (I8 lg' it' ∧ Kc (fun j => (467 ≤ j ∧ j < 473)) lg0 it0 lg' it') ∧ (v = 0 ∨ v = 1)) = Pz
  unfold w_X7_scan
  intro it31 em32
  have hI33 : I8 lg0 it31 := by rw [em32]; exact i8_u hI (ok8_7 (oq_467) ⟨fun q => absurd q (by decide), fun q => absurd q (by decide), fun _ => by (try simp only [Int32.lt_iff_toInt_lt, Int32.le_iff_toInt_le, ← Int32.toInt_inj, Int32.toInt_toInt64, ti_m14, ti_m13, ti_m12, ti_m11, ti_m10, ti_m9, ti_m6, ti_m5, ti_m4, ti_m3, ti_m2, ti_m1, ti_0, ti_1, ti_2, ti_3, ti_4, ti_5, ti_6, ti_7, ti_8, ti_9, ti_10, ti_11, ti_12, ti_19, ti_20, ti_21, ti_44, ti_45, ti_48, ti_57, ti_59, ti_60, ti_98, ti_99, ti_100, ti_101, ti_103, ti_108, ti_110, ti_114, ti_127]); omega⟩)
  have hK34 : Kc (fun j => (467 ≤ j ∧ j < 473)) lg0 it0 lg0 it31 := by rw [em32]; exact kc_u (by first | omega | (dsimp only; omega)) hKr
  intro it35 em36
  have hI37 : I8 lg0 it35 := by rw [em36]; exact i8_u hI33 (ok8_7 (oq_467) ⟨fun q => absurd q (by decide), fun _ => by (try simp only [Int32.lt_iff_toInt_lt, Int32.le_iff_toInt_le, ← Int32.toInt_inj, Int32.toInt_toInt64, ti_m14, ti_m13, ti_m12, ti_m11, ti_m10, ti_m9, ti_m6, ti_m5, ti_m4, ti_m3, ti_m2, ti_m1, ti_0, ti_1, ti_2, ti_3, ti_4, ti_5, ti_6, ti_7, ti_8, ti_9, ti_10, ti_11, ti_12, ti_19, ti_20, ti_21, ti_44, ti_45, ti_48, ti_57, ti_59, ti_60, ti_98, ti_99, ti_100, ti_101, ti_103, ti_108, ti_110, ti_114, ti_127]); omega, fun q => absurd q (by decide)⟩)
  have hK38 : Kc (fun j => (467 ≤ j ∧ j < 473)) lg0 it0 lg0 it35 := by rw [em36]; exact kc_u (by first | omega | (dsimp only; omega)) hK34
  have lp12 : ∀ (n : Nat) (x1 : Int32) (lg : LGt) (it : ITt), I8 lg it → Kc (fun j => (467 ≤ j ∧ j < 473)) lg0 it0 lg it → ((0 ≤ (x1).toInt)) → (13 - (x1).toInt).toNat < n → w_X7_scan_b12  Pz  n x1 lg it := by
    intro n12
    induction n12 with
    | zero => intro x1 lg it _ _ _ hn; exact absurd hn (Nat.not_lt_zero _)
    | succ n12 ih12 =>
      intro x1 lg41 it42 hI39 hK40 hv hn
      unfold w_X7_scan_b12
      have hv12_0 := hv
      refine ⟨fun c15 => ?_, fun c15 => ?_⟩
      · try simp only [Int32.lt_iff_toInt_lt, Int32.le_iff_toInt_le, ← Int32.toInt_inj, Int32.toInt_toInt64, ti_m14, ti_m13, ti_m12, ti_m11, ti_m10, ti_m9, ti_m6, ti_m5, ti_m4, ti_m3, ti_m2, ti_m1, ti_0, ti_1, ti_2, ti_3, ti_4, ti_5, ti_6, ti_7, ti_8, ti_9, ti_10, ti_11, ti_12, ti_19, ti_20, ti_21, ti_44, ti_45, ti_48, ti_57, ti_59, ti_60, ti_98, ti_99, ti_100, ti_101, ti_103, ti_108, ti_110, ti_114, ti_127] at c15
        subst hp
        exact ⟨⟨hI39, hK40⟩, by first | exact Or.inl rfl | exact Or.inr rfl | assumption⟩
      · try simp only [Int32.lt_iff_toInt_lt, Int32.le_iff_toInt_le, ← Int32.toInt_inj, Int32.toInt_toInt64, ti_m14, ti_m13, ti_m12, ti_m11, ti_m10, ti_m9, ti_m6, ti_m5, ti_m4, ti_m3, ti_m2, ti_m1, ti_0, ti_1, ti_2, ti_3, ti_4, ti_5, ti_6, ti_7, ti_8, ti_9, ti_10, ti_11, ti_12, ti_19, ti_20, ti_21, ti_44, ti_45, ti_48, ti_57, ti_59, ti_60, ti_98, ti_99, ti_100, ti_101, ti_103, ti_108, ti_110, ti_114, ti_127] at c15
        refine ⟨_, s_X7_scanClause  (x1) hI39 (by omega), ?_⟩
        intro v48 lg43 it44 hq
        obtain ⟨⟨hI45, hK46⟩, ha49⟩ := hq
        have hK47 : Kc (fun j => (467 ≤ j ∧ j < 473)) lg0 it0 lg43 it44 := kc_t hK40 hK46 (fun j hj => by first | omega | exact False.elim hj | (dsimp only at hj ⊢; omega))
        refine ⟨fun c23 => ?_, fun c23 => ?_⟩
        · try simp only [Int32.lt_iff_toInt_lt, Int32.le_iff_toInt_le, ← Int32.toInt_inj, Int32.toInt_toInt64, ti_m14, ti_m13, ti_m12, ti_m11, ti_m10, ti_m9, ti_m6, ti_m5, ti_m4, ti_m3, ti_m2, ti_m1, ti_0, ti_1, ti_2, ti_3, ti_4, ti_5, ti_6, ti_7, ti_8, ti_9, ti_10, ti_11, ti_12, ti_19, ti_20, ti_21, ti_44, ti_45, ti_48, ti_57, ti_59, ti_60, ti_98, ti_99, ti_100, ti_101, ti_103, ti_108, ti_110, ti_114, ti_127] at c23
          try have f50 : ((x1 + 1) : Int32).toInt = (x1).toInt + 1 := ad32 (a := (x1).toInt) (b := 1) (rfl) (ti_1) (by omega) (by omega)
          intro it51 em52
          have hI53 : I8 lg43 it51 := by rw [em52]; exact i8_u hI45 (ok8_7 (oq_467) ⟨fun q => absurd q (by decide), fun _ => by (try simp only [Int32.lt_iff_toInt_lt, Int32.le_iff_toInt_le, ← Int32.toInt_inj, Int32.toInt_toInt64, ti_m14, ti_m13, ti_m12, ti_m11, ti_m10, ti_m9, ti_m6, ti_m5, ti_m4, ti_m3, ti_m2, ti_m1, ti_0, ti_1, ti_2, ti_3, ti_4, ti_5, ti_6, ti_7, ti_8, ti_9, ti_10, ti_11, ti_12, ti_19, ti_20, ti_21, ti_44, ti_45, ti_48, ti_57, ti_59, ti_60, ti_98, ti_99, ti_100, ti_101, ti_103, ti_108, ti_110, ti_114, ti_127]); omega, fun q => absurd q (by decide)⟩)
          have hK54 : Kc (fun j => (467 ≤ j ∧ j < 473)) lg0 it0 lg43 it51 := by rw [em52]; exact kc_u (by first | omega | (dsimp only; omega)) hK47
          have f55 : 0 ≤ (it51 467 7).toInt ∧ (it51 467 7).toInt ≤ 100 := i8_77 hI53
          have f56 : 0 ≤ (it51 467 1).toInt ∧ (it51 467 1).toInt ≤ 100 := i8_71 hI53
          refine ⟨fun c40 => ?_, fun c40 => ?_⟩
          · try simp only [Int32.lt_iff_toInt_lt, Int32.le_iff_toInt_le, ← Int32.toInt_inj, Int32.toInt_toInt64, ti_m14, ti_m13, ti_m12, ti_m11, ti_m10, ti_m9, ti_m6, ti_m5, ti_m4, ti_m3, ti_m2, ti_m1, ti_0, ti_1, ti_2, ti_3, ti_4, ti_5, ti_6, ti_7, ti_8, ti_9, ti_10, ti_11, ti_12, ti_19, ti_20, ti_21, ti_44, ti_45, ti_48, ti_57, ti_59, ti_60, ti_98, ti_99, ti_100, ti_101, ti_103, ti_108, ti_110, ti_114, ti_127] at c40
            have f57 : 0 ≤ (it51 467 6).toInt ∧ (it51 467 6).toInt ≤ 12 := i8_76 hI53
            refine ⟨fun c51 => ?_, fun c51 => ?_⟩
            · try simp only [Int32.lt_iff_toInt_lt, Int32.le_iff_toInt_le, ← Int32.toInt_inj, Int32.toInt_toInt64, ti_m14, ti_m13, ti_m12, ti_m11, ti_m10, ti_m9, ti_m6, ti_m5, ti_m4, ti_m3, ti_m2, ti_m1, ti_0, ti_1, ti_2, ti_3, ti_4, ti_5, ti_6, ti_7, ti_8, ti_9, ti_10, ti_11, ti_12, ti_19, ti_20, ti_21, ti_44, ti_45, ti_48, ti_57, ti_59, ti_60, ti_98, ti_99, ti_100, ti_101, ti_103, ti_108, ti_110, ti_114, ti_127] at c51
              subst hp
              exact ⟨⟨hI53, hK54⟩, by first | exact Or.inl rfl | exact Or.inr rfl | assumption⟩
            · try simp only [Int32.lt_iff_toInt_lt, Int32.le_iff_toInt_le, ← Int32.toInt_inj, Int32.toInt_toInt64, ti_m14, ti_m13, ti_m12, ti_m11, ti_m10, ti_m9, ti_m6, ti_m5, ti_m4, ti_m3, ti_m2, ti_m1, ti_0, ti_1, ti_2, ti_3, ti_4, ti_5, ti_6, ti_7, ti_8, ti_9, ti_10, ti_11, ti_12, ti_19, ti_20, ti_21, ti_44, ti_45, ti_48, ti_57, ti_59, ti_60, ti_98, ti_99, ti_100, ti_101, ti_103, ti_108, ti_110, ti_114, ti_127] at c51
              refine ⟨_, s_X7_skip  ((59 : Int32)) hI53 (by decide), ?_⟩
              intro v63 lg58 it59 hq
              obtain ⟨⟨hI60, hK61⟩, ha64⟩ := hq
              have hK62 : Kc (fun j => (467 ≤ j ∧ j < 473)) lg0 it0 lg58 it59 := kc_t hK54 hK61 (fun j hj => by first | omega | exact False.elim hj | (dsimp only at hj ⊢; omega))
              try have e65 : (it59 467 7).toInt = (it51 467 7).toInt := congrArg (fun f => Int32.toInt (f 7)) (hK61 467 (by first | omega | (dsimp only; omega))).2
              try have e66 : (it59 467 1).toInt = (it51 467 1).toInt := congrArg (fun f => Int32.toInt (f 1)) (hK61 467 (by first | omega | (dsimp only; omega))).2
              try have e67 : (it59 467 6).toInt = (it51 467 6).toInt := congrArg (fun f => Int32.toInt (f 6)) (hK61 467 (by first | omega | (dsimp only; omega))).2
              refine ⟨fun c60 => ?_, fun c60 => ?_⟩
              · try simp only [Int32.lt_iff_toInt_lt, Int32.le_iff_toInt_le, ← Int32.toInt_inj, Int32.toInt_toInt64, ti_m14, ti_m13, ti_m12, ti_m11, ti_m10, ti_m9, ti_m6, ti_m5, ti_m4, ti_m3, ti_m2, ti_m1, ti_0, ti_1, ti_2, ti_3, ti_4, ti_5, ti_6, ti_7, ti_8, ti_9, ti_10, ti_11, ti_12, ti_19, ti_20, ti_21, ti_44, ti_45, ti_48, ti_57, ti_59, ti_60, ti_98, ti_99, ti_100, ti_101, ti_103, ti_108, ti_110, ti_114, ti_127] at c60
                try have f68 : ((x1 + 1) : Int32).toInt = (x1).toInt + 1 := ad32 (a := (x1).toInt) (b := 1) (rfl) (ti_1) (by omega) (by omega)
                exact ih12 ((x1 + 1)) _ _ hI60 hK62 (by first | omega | assumption) (by omega)
              · try simp only [Int32.lt_iff_toInt_lt, Int32.le_iff_toInt_le, ← Int32.toInt_inj, Int32.toInt_toInt64, ti_m14, ti_m13, ti_m12, ti_m11, ti_m10, ti_m9, ti_m6, ti_m5, ti_m4, ti_m3, ti_m2, ti_m1, ti_0, ti_1, ti_2, ti_3, ti_4, ti_5, ti_6, ti_7, ti_8, ti_9, ti_10, ti_11, ti_12, ti_19, ti_20, ti_21, ti_44, ti_45, ti_48, ti_57, ti_59, ti_60, ti_98, ti_99, ti_100, ti_101, ti_103, ti_108, ti_110, ti_114, ti_127] at c60
                subst hp
                exact ⟨⟨hI60, hK62⟩, by first | exact Or.inl rfl | exact Or.inr rfl | assumption⟩
          · try simp only [Int32.lt_iff_toInt_lt, Int32.le_iff_toInt_le, ← Int32.toInt_inj, Int32.toInt_toInt64, ti_m14, ti_m13, ti_m12, ti_m11, ti_m10, ti_m9, ti_m6, ti_m5, ti_m4, ti_m3, ti_m2, ti_m1, ti_0, ti_1, ti_2, ti_3, ti_4, ti_5, ti_6, ti_7, ti_8, ti_9, ti_10, ti_11, ti_12, ti_19, ti_20, ti_21, ti_44, ti_45, ti_48, ti_57, ti_59, ti_60, ti_98, ti_99, ti_100, ti_101, ti_103, ti_108, ti_110, ti_114, ti_127] at c40
            subst hp
            exact ⟨⟨hI53, hK54⟩, by first | exact Or.inl rfl | exact Or.inr rfl | assumption⟩
        · try simp only [Int32.lt_iff_toInt_lt, Int32.le_iff_toInt_le, ← Int32.toInt_inj, Int32.toInt_toInt64, ti_m14, ti_m13, ti_m12, ti_m11, ti_m10, ti_m9, ti_m6, ti_m5, ti_m4, ti_m3, ti_m2, ti_m1, ti_0, ti_1, ti_2, ti_3, ti_4, ti_5, ti_6, ti_7, ti_8, ti_9, ti_10, ti_11, ti_12, ti_19, ti_20, ti_21, ti_44, ti_45, ti_48, ti_57, ti_59, ti_60, ti_98, ti_99, ti_100, ti_101, ti_103, ti_108, ti_110, ti_114, ti_127] at c23
          subst hp
          exact ⟨⟨hI45, hK47⟩, by first | exact Or.inl rfl | exact Or.inr rfl | assumption⟩
  have t69 := ti_0
  exact ⟨_, lp12 ((13 - ((0 : Int32)).toInt).toNat + 1) ((0 : Int32)) _ _ hI37 hK38 (by first | omega | assumption) (Nat.lt_succ_self _)⟩
