/-! the first side: rails copied, compared; ALL worked -/
def CpR (lg : LGt) (it : ITt) (a : Nat) (lg0 : LGt) (it0 : ITt) (b j : Nat) : Prop := it (a + 1) j = it0 (b + 1) j ∧ fv lg it (a + 4 + 2 * j) = fv lg0 it0 (b + 4 + 2 * j) ∧ fv lg it (a + 5 + 2 * j) = fv lg0 it0 (b + 5 + 2 * j)
theorem cpr_s {lg0 lg lg1 lg2 : LGt} {it0 it it1 it2 it3 : ITt} {a b i : Nat} (hi : i < 6) (hap : a + 17 ≤ b ∨ b + 17 ≤ a) (hk : Kc (fun j => (a ≤ j ∧ j < a + 17)) lg0 it0 lg it) (h : ∀ j, j < i → CpR lg it a lg0 it0 b j) (e1 : it1 = u2 it (a + 1) i (it (b + 1) i)) (e2 : lg1 = sL lg (a + 4 + 2 * i) (lg (b + 4 + 2 * i) 0) (lg (b + 4 + 2 * i) 1)) (e3 : it2 = sI it1 (a + 4 + 2 * i) 2 (it1 (b + 4 + 2 * i) 2)) (e4 : lg2 = sL lg1 (a + 5 + 2 * i) (lg1 (b + 5 + 2 * i) 0) (lg1 (b + 5 + 2 * i) 1)) (e5 : it3 = sI it2 (a + 5 + 2 * i) 2 (it2 (b + 5 + 2 * i) 2)) : it3 a = it a ∧ ∀ j, j < i + 1 → CpR lg2 it3 a lg0 it0 b j := by
  have k (c : Nat) (hc : b ≤ c ∧ c < b + 17) : lg c = lg0 c ∧ it c = it0 c := hk c (by dsimp only; omega)
  have f1 (c : Nat) (hc : c ≠ a + 1) : fv lg it1 c = fv lg it c := by rw [e1]; exact fv_ui hc
  have f2 (c : Nat) (hc : c ≠ a + 4 + 2 * i) : fv lg1 it2 c = fv lg it1 c := by rw [e2, e3]; exact fv_ne hc
  have f3 (c : Nat) (hc : c ≠ a + 5 + 2 * i) : fv lg2 it3 c = fv lg1 it2 c := by rw [e4, e5]; exact fv_ne hc
  have g1 : fv lg1 it2 (a + 4 + 2 * i) = fv lg it1 (b + 4 + 2 * i) := by rw [e2, e3]; exact fv_a3
  have g2 : fv lg2 it3 (a + 5 + 2 * i) = fv lg1 it2 (b + 5 + 2 * i) := by rw [e4, e5]; exact fv_a3
  have r (c : Nat) (h1 : c ≠ a + 4 + 2 * i) (h2 : c ≠ a + 5 + 2 * i) : it3 c = it1 c := by rw [e5, e3]; exact (u2_row h2).trans (u2_row h1)
  refine ⟨by rw [r a (by omega) (by omega), e1]; exact u2_row (by omega), fun j hj => ?_⟩
  by_cases e : j = i
  · subst e
    refine ⟨?_, ?_, ?_⟩
    · rw [r _ (by omega) (by omega), e1, u2_eq, (k (b + 1) (by omega)).2]
    · rw [f3 _ (by omega), g1, f1 _ (by omega)]
      unfold fv
      rw [(k (b + 4 + 2 * j) (by omega)).1, (k (b + 4 + 2 * j) (by omega)).2]
    · rw [g2, f2 _ (by omega), f1 _ (by omega)]
      unfold fv
      rw [(k (b + 5 + 2 * j) (by omega)).1, (k (b + 5 + 2 * j) (by omega)).2]
  · obtain ⟨p, q, s⟩ := h j (by omega)
    refine ⟨?_, ?_, ?_⟩
    · rw [r _ (by omega) (by omega), e1, u2_ne e]; exact p
    · rw [f3 _ (by omega), f2 _ (by omega), f1 _ (by omega)]; exact q
    · rw [f3 _ (by omega), f2 _ (by omega), f1 _ (by omega)]; exact s
theorem cpr_e {lg0 lg : LGt} {it0 it it1 it2 it3 : ITt} {a b : Nat} (h6 : (it0 b 0).toNatClampNeg ≤ 6) (hap : a + 17 ≤ b ∨ b + 17 ≤ a) (hk : Kc (fun j => (a ≤ j ∧ j < a + 17)) lg0 it0 lg it) (h0 : it a 0 = it0 b 0) (h : ∀ j, j < (it0 b 0).toNatClampNeg → CpR lg it a lg0 it0 b j) (e1 : it1 = u2 it a 4 (it b 4)) (e2 : it2 = u2 it1 (a + 16) 0 (it1 (b + 16) 0)) (e3 : it3 = u2 it2 (a + 16) 1 (it2 (b + 16) 1)) : vw8 lg it3 a = vw8 lg0 it0 b ∧ (Ok8 it0 b → Ok8 it3 a) := by
  have k (c : Nat) (hc : b ≤ c ∧ c < b + 17) : it c = it0 c := (hk c (by dsimp only; omega)).2
  have r (c : Nat) (h1 : c ≠ a) (h2 : c ≠ a + 16) : it3 c = it c := by rw [e3, e2, e1]; exact (u2_row h2).trans ((u2_row h2).trans (u2_row h1))
  have ra (q : Nat) (hq : q ≠ 4) : it3 a q = it a q := by rw [e3, u2_row (by omega), e2, u2_row (by omega), e1, u2_ne hq]
  have z0 : it3 a 0 = it0 b 0 := (ra 0 (by decide)).trans h0
  have z4 : it3 a 4 = it0 b 4 := by rw [e3, u2_row (by omega), e2, u2_row (by omega), e1, u2_eq, k b (by omega)]
  have za : it3 (a + 16) 0 = it0 (b + 16) 0 := by rw [e3, u2_ne (by decide), e2, u2_eq, e1, u2_row (by omega), k (b + 16) (by omega)]
  have zb : it3 (a + 16) 1 = it0 (b + 16) 1 := by rw [e3, u2_eq, e2, u2_row (by omega), e1, u2_row (by omega), k (b + 16) (by omega)]
  constructor
  · refine vw8_q z0 z4 za zb (fun i hi => ?_)
    obtain ⟨p, q, s⟩ := h i hi
    refine ⟨by rw [r _ (by omega) (by omega)]; exact p, ?_, ?_⟩
    · exact ⟨congrArg (fun v : FV => v.1) q, congrArg (fun v : FV => v.2.1) q⟩
    · exact ⟨congrArg (fun v : FV => v.1) s, congrArg (fun v : FV => v.2.1) s⟩
  · intro hok i hi
    rw [z0] at hi
    obtain ⟨_, q, s⟩ := h i hi
    have hq : it (a + 4 + 2 * i) 2 = it0 (b + 4 + 2 * i) 2 := congrArg (fun v : FV => v.2.2) q
    have hs : it (a + 5 + 2 * i) 2 = it0 (b + 5 + 2 * i) 2 := congrArg (fun v : FV => v.2.2) s
    rw [r _ (by omega) (by omega), r _ (by omega) (by omega), hq, hs]
    exact hok i hi
def LkR (lg : LGt) (it : ITt) (a b j : Nat) : Prop := it (a + 1) j = it (b + 1) j ∧ (lg (a + 4 + 2 * j) 0 = lg (b + 4 + 2 * j) 0 ∧ lg (a + 4 + 2 * j) 1 = lg (b + 4 + 2 * j) 1) ∧ (lg (a + 5 + 2 * j) 0 = lg (b + 5 + 2 * j) 0 ∧ lg (a + 5 + 2 * j) 1 = lg (b + 5 + 2 * j) 1)
theorem lk_s {lg : LGt} {it : ITt} {a b i : Nat} (h : ∀ j, j < i → LkR lg it a b j) (hi : LkR lg it a b i) : ∀ j, j < i + 1 → LkR lg it a b j := by
  intro j hj
  by_cases e : j = i
  · rw [e]; exact hi
  · exact h j (by omega)
theorem lk_e {lg : LGt} {it : ITt} {a b i : Nat} (h0 : (it a 0).toInt = (it b 0).toInt) (h4 : (it a 4).toInt = (it b 4).toInt) (ha : (it (a + 16) 0).toInt = (it (b + 16) 0).toInt) (hb : (it (a + 16) 1).toInt = (it (b + 16) 1).toInt) (h : ∀ j, j < i → LkR lg it a b j) (hi : (it b 0).toNatClampNeg ≤ i) : vw8 lg it a = vw8 lg it b :=
  vw8_q (Int32.toInt_inj.mp h0) (Int32.toInt_inj.mp h4) (Int32.toInt_inj.mp ha) (Int32.toInt_inj.mp hb) (fun j hj => h j (by omega))
theorem kf_e {lg0 lg : LGt} {it0 it : ITt} (hk : Kc (fun j => False) lg0 it0 lg it) : lg = lg0 ∧ it = it0 := ⟨funext fun j => (hk j id).1, funext fun j => (hk j id).2⟩
set_option maxRecDepth 100000 in
theorem f_X3_become {a0 : Nat} (ha0 : a0 ∈ rb) {a1 : Nat} (ha1 : a1 ∈ rb) {lg0 : LGt} {it0 : ITt} (hI : I8 lg0 it0) (hne : a0 ≠ a1) : w_X3_become a0 a1 (fun (lg' : LGt) (it' : ITt) => (I8 lg' it' ∧ Kc (fun j => (a0 ≤ j ∧ j < a0 + 17)) lg0 it0 lg' it') ∧ (vw8 lg' it' a0 = vw8 lg0 it0 a1 ∧ (Ok8 it0 a1 → Ok8 it' a0)))  lg0 it0 := by
  have hKr : Kc (fun j => (a0 ≤ j ∧ j < a0 + 17)) lg0 it0 lg0 it0 := kc_r
  generalize hp : (fun (lg' : LGt) (it' : ITt) => (I8 lg' it' ∧ Kc (fun j => (a0 ≤ j ∧ j < a0 + 17)) lg0 it0 lg' it') ∧ (vw8 lg' it' a0 = vw8 lg0 it0 a1 ∧ (Ok8 it0 a1 → Ok8 it' a0))) = Pz
  unfold w_X3_become
  have hap := rb_apart ha0 ha1 hne
  have h6 := i8_3 hI (obr ha1)
  have hkn := cl32 h6.1
  have f38 : 0 ≤ (it0 a1 0).toInt ∧ (it0 a1 0).toInt ≤ 6 := i8_3 hI (obr ha1)
  intro it39 em40
  have hI41 : I8 lg0 it39 := by rw [em40]; exact i8_u hI (ok8_3 (obr ha0) (fun _ => by (try simp only [Int32.lt_iff_toInt_lt, Int32.le_iff_toInt_le, ← Int32.toInt_inj, Int32.toInt_toInt64, ti_m14, ti_m13, ti_m12, ti_m11, ti_m10, ti_m9, ti_m6, ti_m5, ti_m4, ti_m3, ti_m2, ti_m1, ti_0, ti_1, ti_2, ti_3, ti_4, ti_5, ti_6, ti_7, ti_8, ti_9, ti_10, ti_11, ti_12, ti_19, ti_20, ti_21, ti_44, ti_45, ti_48, ti_57, ti_59, ti_60, ti_98, ti_99, ti_100, ti_101, ti_103, ti_108, ti_110, ti_114, ti_127]); omega))
  have hK42 : Kc (fun j => (a0 ≤ j ∧ j < a0 + 17)) lg0 it0 lg0 it39 := by rw [em40]; exact kc_u (by first | omega | (dsimp only; omega)) hKr
  try have e43 : (it39 a1 0).toInt = (it0 a1 0).toInt := by rw [em40]; exact congrArg Int32.toInt (congrFun (u2_row (by omega)) 0)
  have lp10 : ∀ (n : Nat) (x2 : Int32) (lg : LGt) (it : ITt), I8 lg it → Kc (fun j => (a0 ≤ j ∧ j < a0 + 17)) lg0 it0 lg it → ((0 ≤ (x2).toInt ∧ (x2).toInt ≤ (it0 a1 0).toInt) ∧ (it a0 0 = it0 a1 0) ∧ (∀ j, j < (x2).toNatClampNeg → CpR lg it a0 lg0 it0 a1 j)) → (7 - (x2).toInt).toNat < n → w_X3_become_b10 a0 a1 Pz  n x2 lg it := by
    intro n10
    induction n10 with
    | zero => intro x2 lg it _ _ _ hn; exact absurd hn (Nat.not_lt_zero _)
    | succ n10 ih10 =>
      intro x2 lg46 it47 hI44 hK45 hv hn
      unfold w_X3_become_b10
      obtain ⟨hv10_0, hv10_1, hv10_2⟩ := hv
      have e0 : (it47 a1 0).toInt = (it0 a1 0).toInt := congrArg (fun f => Int32.toInt (f 0)) (hK45 a1 (by first | omega | (dsimp only; omega))).2
      have hkx := cl32 hv10_0.1
      have f48 : 0 ≤ (it47 a1 0).toInt ∧ (it47 a1 0).toInt ≤ 6 := i8_3 hI44 (obr ha1)
      refine ⟨fun c15 => ?_, fun c15 => ?_⟩
      · try simp only [Int32.lt_iff_toInt_lt, Int32.le_iff_toInt_le, ← Int32.toInt_inj, Int32.toInt_toInt64, ti_m14, ti_m13, ti_m12, ti_m11, ti_m10, ti_m9, ti_m6, ti_m5, ti_m4, ti_m3, ti_m2, ti_m1, ti_0, ti_1, ti_2, ti_3, ti_4, ti_5, ti_6, ti_7, ti_8, ti_9, ti_10, ti_11, ti_12, ti_19, ti_20, ti_21, ti_44, ti_45, ti_48, ti_57, ti_59, ti_60, ti_98, ti_99, ti_100, ti_101, ti_103, ti_108, ti_110, ti_114, ti_127] at c15
        have hxn : x2.toNatClampNeg = (it0 a1 0).toNatClampNeg := cl_eq (by omega)
        intro it49 em50
        have hI51 : I8 lg46 it49 := by rw [em50]; exact i8_u hI44 (ok8_3 (obr ha0) (fun q => absurd q (by decide)))
        have hK52 : Kc (fun j => (a0 ≤ j ∧ j < a0 + 17)) lg0 it0 lg46 it49 := by rw [em50]; exact kc_u (by first | omega | (dsimp only; omega)) hK45
        try have e53 : (it49 a1 0).toInt = (it47 a1 0).toInt := by rw [em50]; exact congrArg Int32.toInt (congrFun (u2_row (by omega)) 0)
        try have e54 : (it49 a1 4).toInt = (it47 a1 4).toInt := by rw [em50]; exact congrArg Int32.toInt (congrFun (u2_row (by omega)) 4)
        intro it55 em56
        have hI57 : I8 lg46 it55 := by rw [em56]; exact i8_u hI51 (ok8_a (rob ha0 16 (by decide) rfl) (by decide))
        have hK58 : Kc (fun j => (a0 ≤ j ∧ j < a0 + 17)) lg0 it0 lg46 it55 := by rw [em56]; exact kc_u (by first | omega | (dsimp only; omega)) hK52
        try have e59 : (it55 a1 0).toInt = (it49 a1 0).toInt := by rw [em56]; exact congrArg Int32.toInt (congrFun (u2_row (by omega)) 0)
        try have e60 : (it55 a1 4).toInt = (it49 a1 4).toInt := by rw [em56]; exact congrArg Int32.toInt (congrFun (u2_row (by omega)) 4)
        intro it61 em62
        have hI63 : I8 lg46 it61 := by rw [em62]; exact i8_u hI57 (ok8_a (rob ha0 16 (by decide) rfl) (by decide))
        have hK64 : Kc (fun j => (a0 ≤ j ∧ j < a0 + 17)) lg0 it0 lg46 it61 := by rw [em62]; exact kc_u (by first | omega | (dsimp only; omega)) hK58
        try have e65 : (it61 a1 0).toInt = (it55 a1 0).toInt := by rw [em62]; exact congrArg Int32.toInt (congrFun (u2_row (by omega)) 0)
        try have e66 : (it61 a1 4).toInt = (it55 a1 4).toInt := by rw [em62]; exact congrArg Int32.toInt (congrFun (u2_row (by omega)) 4)
        subst hp
        exact ⟨⟨hI63, hK64⟩, cpr_e (by omega) hap hK45 hv10_1 (by rw [← hxn]; exact hv10_2) em50 em56 em62⟩
      · try simp only [Int32.lt_iff_toInt_lt, Int32.le_iff_toInt_le, ← Int32.toInt_inj, Int32.toInt_toInt64, ti_m14, ti_m13, ti_m12, ti_m11, ti_m10, ti_m9, ti_m6, ti_m5, ti_m4, ti_m3, ti_m2, ti_m1, ti_0, ti_1, ti_2, ti_3, ti_4, ti_5, ti_6, ti_7, ti_8, ti_9, ti_10, ti_11, ti_12, ti_19, ti_20, ti_21, ti_44, ti_45, ti_48, ti_57, ti_59, ti_60, ti_98, ti_99, ti_100, ti_101, ti_103, ti_108, ti_110, ti_114, ti_127] at c15
        have hi67 : vp_in x2 6 := vp_of (by first | omega | ((try simp only [Int32.lt_iff_toInt_lt, Int32.le_iff_toInt_le, ← Int32.toInt_inj, Int32.toInt_toInt64, ti_m14, ti_m13, ti_m12, ti_m11, ti_m10, ti_m9, ti_m6, ti_m5, ti_m4, ti_m3, ti_m2, ti_m1, ti_0, ti_1, ti_2, ti_3, ti_4, ti_5, ti_6, ti_7, ti_8, ti_9, ti_10, ti_11, ti_12, ti_19, ti_20, ti_21, ti_44, ti_45, ti_48, ti_57, ti_59, ti_60, ti_98, ti_99, ti_100, ti_101, ti_103, ti_108, ti_110, ti_114, ti_127]); omega) | (split <;> omega)) (by first | omega | ((try simp only [Int32.lt_iff_toInt_lt, Int32.le_iff_toInt_le, ← Int32.toInt_inj, Int32.toInt_toInt64, ti_m14, ti_m13, ti_m12, ti_m11, ti_m10, ti_m9, ti_m6, ti_m5, ti_m4, ti_m3, ti_m2, ti_m1, ti_0, ti_1, ti_2, ti_3, ti_4, ti_5, ti_6, ti_7, ti_8, ti_9, ti_10, ti_11, ti_12, ti_19, ti_20, ti_21, ti_44, ti_45, ti_48, ti_57, ti_59, ti_60, ti_98, ti_99, ti_100, ti_101, ti_103, ti_108, ti_110, ti_114, ti_127]); omega) | (split <;> omega))
        refine ⟨hi67, ?_⟩
        have hz68 := vlt hi67
        have hi69 : vp_in x2 6 := vp_of (by first | omega | ((try simp only [Int32.lt_iff_toInt_lt, Int32.le_iff_toInt_le, ← Int32.toInt_inj, Int32.toInt_toInt64, ti_m14, ti_m13, ti_m12, ti_m11, ti_m10, ti_m9, ti_m6, ti_m5, ti_m4, ti_m3, ti_m2, ti_m1, ti_0, ti_1, ti_2, ti_3, ti_4, ti_5, ti_6, ti_7, ti_8, ti_9, ti_10, ti_11, ti_12, ti_19, ti_20, ti_21, ti_44, ti_45, ti_48, ti_57, ti_59, ti_60, ti_98, ti_99, ti_100, ti_101, ti_103, ti_108, ti_110, ti_114, ti_127]); omega) | (split <;> omega)) (by first | omega | ((try simp only [Int32.lt_iff_toInt_lt, Int32.le_iff_toInt_le, ← Int32.toInt_inj, Int32.toInt_toInt64, ti_m14, ti_m13, ti_m12, ti_m11, ti_m10, ti_m9, ti_m6, ti_m5, ti_m4, ti_m3, ti_m2, ti_m1, ti_0, ti_1, ti_2, ti_3, ti_4, ti_5, ti_6, ti_7, ti_8, ti_9, ti_10, ti_11, ti_12, ti_19, ti_20, ti_21, ti_44, ti_45, ti_48, ti_57, ti_59, ti_60, ti_98, ti_99, ti_100, ti_101, ti_103, ti_108, ti_110, ti_114, ti_127]); omega) | (split <;> omega))
        refine ⟨hi69, ?_⟩
        have hz70 := vlt hi69
        intro it71 em72
        have hI73 : I8 lg46 it71 := by rw [em72]; exact i8_u hI44 (ok8_a (rob ha0 1 (by decide) rfl) (by decide))
        have hK74 : Kc (fun j => (a0 ≤ j ∧ j < a0 + 17)) lg0 it0 lg46 it71 := by rw [em72]; exact kc_u (by first | omega | (dsimp only; omega)) hK45
        try have e75 : (it71 a1 0).toInt = (it47 a1 0).toInt := by rw [em72]; exact congrArg Int32.toInt (congrFun (u2_row (by omega)) 0)
        have hi76 : vp_in x2 6 := vp_of (by first | omega | ((try simp only [Int32.lt_iff_toInt_lt, Int32.le_iff_toInt_le, ← Int32.toInt_inj, Int32.toInt_toInt64, ti_m14, ti_m13, ti_m12, ti_m11, ti_m10, ti_m9, ti_m6, ti_m5, ti_m4, ti_m3, ti_m2, ti_m1, ti_0, ti_1, ti_2, ti_3, ti_4, ti_5, ti_6, ti_7, ti_8, ti_9, ti_10, ti_11, ti_12, ti_19, ti_20, ti_21, ti_44, ti_45, ti_48, ti_57, ti_59, ti_60, ti_98, ti_99, ti_100, ti_101, ti_103, ti_108, ti_110, ti_114, ti_127]); omega) | (split <;> omega)) (by first | omega | ((try simp only [Int32.lt_iff_toInt_lt, Int32.le_iff_toInt_le, ← Int32.toInt_inj, Int32.toInt_toInt64, ti_m14, ti_m13, ti_m12, ti_m11, ti_m10, ti_m9, ti_m6, ti_m5, ti_m4, ti_m3, ti_m2, ti_m1, ti_0, ti_1, ti_2, ti_3, ti_4, ti_5, ti_6, ti_7, ti_8, ti_9, ti_10, ti_11, ti_12, ti_19, ti_20, ti_21, ti_44, ti_45, ti_48, ti_57, ti_59, ti_60, ti_98, ti_99, ti_100, ti_101, ti_103, ti_108, ti_110, ti_114, ti_127]); omega) | (split <;> omega))
        refine ⟨hi76, ?_⟩
        have hz77 := vlt hi76
        have hi78 : vp_in x2 6 := vp_of (by first | omega | ((try simp only [Int32.lt_iff_toInt_lt, Int32.le_iff_toInt_le, ← Int32.toInt_inj, Int32.toInt_toInt64, ti_m14, ti_m13, ti_m12, ti_m11, ti_m10, ti_m9, ti_m6, ti_m5, ti_m4, ti_m3, ti_m2, ti_m1, ti_0, ti_1, ti_2, ti_3, ti_4, ti_5, ti_6, ti_7, ti_8, ti_9, ti_10, ti_11, ti_12, ti_19, ti_20, ti_21, ti_44, ti_45, ti_48, ti_57, ti_59, ti_60, ti_98, ti_99, ti_100, ti_101, ti_103, ti_108, ti_110, ti_114, ti_127]); omega) | (split <;> omega)) (by first | omega | ((try simp only [Int32.lt_iff_toInt_lt, Int32.le_iff_toInt_le, ← Int32.toInt_inj, Int32.toInt_toInt64, ti_m14, ti_m13, ti_m12, ti_m11, ti_m10, ti_m9, ti_m6, ti_m5, ti_m4, ti_m3, ti_m2, ti_m1, ti_0, ti_1, ti_2, ti_3, ti_4, ti_5, ti_6, ti_7, ti_8, ti_9, ti_10, ti_11, ti_12, ti_19, ti_20, ti_21, ti_44, ti_45, ti_48, ti_57, ti_59, ti_60, ti_98, ti_99, ti_100, ti_101, ti_103, ti_108, ti_110, ti_114, ti_127]); omega) | (split <;> omega))
        refine ⟨hi78, ?_⟩
        have hz79 := vlt hi78
        have hc82 : it71 (a1 + 4 + 2 * x2.toNatClampNeg) 2 &&& 1 = it71 (a1 + 4 + 2 * x2.toNatClampNeg) 2 := ib (i8_1 hI73 ((rpo4 ha1 (vlt (hi78)))))
        refine ⟨hc82, ?_⟩
        intro lg80 em_lg80 it81 em_it81
        have hI83 : I8 lg80 it81 := by rw [em_it81]; exact i8_u hI73 (ok8_1 ((rpo4 ha0 (vlt (hi76)))) (fun _ => i8_1 hI73 ((rpo4 ha1 (vlt (hi78))))))
        have hK84 : Kc (fun j => (a0 ≤ j ∧ j < a0 + 17)) lg0 it0 lg80 it81 := by rw [em_lg80, em_it81]; exact kc_f (by first | omega | (dsimp only; omega)) hK74
        try have e85 : (it81 a1 0).toInt = (it71 a1 0).toInt := by rw [em_it81]; exact congrArg Int32.toInt (congrFun (u2_row (by omega)) 0)
        have hi86 : vp_in x2 6 := vp_of (by first | omega | ((try simp only [Int32.lt_iff_toInt_lt, Int32.le_iff_toInt_le, ← Int32.toInt_inj, Int32.toInt_toInt64, ti_m14, ti_m13, ti_m12, ti_m11, ti_m10, ti_m9, ti_m6, ti_m5, ti_m4, ti_m3, ti_m2, ti_m1, ti_0, ti_1, ti_2, ti_3, ti_4, ti_5, ti_6, ti_7, ti_8, ti_9, ti_10, ti_11, ti_12, ti_19, ti_20, ti_21, ti_44, ti_45, ti_48, ti_57, ti_59, ti_60, ti_98, ti_99, ti_100, ti_101, ti_103, ti_108, ti_110, ti_114, ti_127]); omega) | (split <;> omega)) (by first | omega | ((try simp only [Int32.lt_iff_toInt_lt, Int32.le_iff_toInt_le, ← Int32.toInt_inj, Int32.toInt_toInt64, ti_m14, ti_m13, ti_m12, ti_m11, ti_m10, ti_m9, ti_m6, ti_m5, ti_m4, ti_m3, ti_m2, ti_m1, ti_0, ti_1, ti_2, ti_3, ti_4, ti_5, ti_6, ti_7, ti_8, ti_9, ti_10, ti_11, ti_12, ti_19, ti_20, ti_21, ti_44, ti_45, ti_48, ti_57, ti_59, ti_60, ti_98, ti_99, ti_100, ti_101, ti_103, ti_108, ti_110, ti_114, ti_127]); omega) | (split <;> omega))
        refine ⟨hi86, ?_⟩
        have hz87 := vlt hi86
        have hi88 : vp_in x2 6 := vp_of (by first | omega | ((try simp only [Int32.lt_iff_toInt_lt, Int32.le_iff_toInt_le, ← Int32.toInt_inj, Int32.toInt_toInt64, ti_m14, ti_m13, ti_m12, ti_m11, ti_m10, ti_m9, ti_m6, ti_m5, ti_m4, ti_m3, ti_m2, ti_m1, ti_0, ti_1, ti_2, ti_3, ti_4, ti_5, ti_6, ti_7, ti_8, ti_9, ti_10, ti_11, ti_12, ti_19, ti_20, ti_21, ti_44, ti_45, ti_48, ti_57, ti_59, ti_60, ti_98, ti_99, ti_100, ti_101, ti_103, ti_108, ti_110, ti_114, ti_127]); omega) | (split <;> omega)) (by first | omega | ((try simp only [Int32.lt_iff_toInt_lt, Int32.le_iff_toInt_le, ← Int32.toInt_inj, Int32.toInt_toInt64, ti_m14, ti_m13, ti_m12, ti_m11, ti_m10, ti_m9, ti_m6, ti_m5, ti_m4, ti_m3, ti_m2, ti_m1, ti_0, ti_1, ti_2, ti_3, ti_4, ti_5, ti_6, ti_7, ti_8, ti_9, ti_10, ti_11, ti_12, ti_19, ti_20, ti_21, ti_44, ti_45, ti_48, ti_57, ti_59, ti_60, ti_98, ti_99, ti_100, ti_101, ti_103, ti_108, ti_110, ti_114, ti_127]); omega) | (split <;> omega))
        refine ⟨hi88, ?_⟩
        have hz89 := vlt hi88
        have hc92 : it81 (a1 + 5 + 2 * x2.toNatClampNeg) 2 &&& 1 = it81 (a1 + 5 + 2 * x2.toNatClampNeg) 2 := ib (i8_1 hI83 ((rpo5 ha1 (vlt (hi88)))))
        refine ⟨hc92, ?_⟩
        intro lg90 em_lg90 it91 em_it91
        have hI93 : I8 lg90 it91 := by rw [em_it91]; exact i8_u hI83 (ok8_1 ((rpo5 ha0 (vlt (hi86)))) (fun _ => i8_1 hI83 ((rpo5 ha1 (vlt (hi88))))))
        have hK94 : Kc (fun j => (a0 ≤ j ∧ j < a0 + 17)) lg0 it0 lg90 it91 := by rw [em_lg90, em_it91]; exact kc_f (by first | omega | (dsimp only; omega)) hK84
        try have e95 : (it91 a1 0).toInt = (it81 a1 0).toInt := by rw [em_it91]; exact congrArg Int32.toInt (congrFun (u2_row (by omega)) 0)
        try have f96 : ((x2 + 1) : Int32).toInt = (x2).toInt + 1 := ad32 (a := (x2).toInt) (b := 1) (rfl) (ti_1) (by omega) (by omega)
        exact ih10 ((x2 + 1)) _ _ hI93 hK94 ⟨⟨by omega, by omega⟩, by rw [(cpr_s (by omega) hap hK45 hv10_2 em72 em_lg80 em_it81 em_lg90 em_it91).1]; exact hv10_1, by rw [cl_add1 (by omega) (by omega)]; exact (cpr_s (by omega) hap hK45 hv10_2 em72 em_lg80 em_it81 em_lg90 em_it91).2⟩ (by omega)
  have t97 := ti_0
  exact ⟨_, lp10 ((7 - ((0 : Int32)).toInt).toNat + 1) ((0 : Int32)) _ _ hI41 hK42 ⟨⟨by omega, by omega⟩, by rw [em40]; exact u2_eq, fun j hj => absurd hj (Nat.not_lt_zero _)⟩ (Nat.lt_succ_self _)⟩
set_option maxRecDepth 100000 in
theorem f_X3_isLike {a0 : Nat} (ha0 : a0 ∈ rb) {a1 : Nat} (ha1 : a1 ∈ rb) {lg0 : LGt} {it0 : ITt} (hI : I8 lg0 it0) : w_X3_isLike a0 a1 (fun (v : Int32) (lg' : LGt) (it' : ITt) => (I8 lg' it' ∧ Kc (fun j => False) lg0 it0 lg' it') ∧ ((v = 0 ∨ v = 1) ∧ (v = 1 → vw8 lg0 it0 a0 = vw8 lg0 it0 a1)))  lg0 it0 := by
  have hKr : Kc (fun j => False) lg0 it0 lg0 it0 := kc_r
  generalize hp : (fun (v : Int32) (lg' : LGt) (it' : ITt) => (I8 lg' it' ∧ Kc (fun j => False) lg0 it0 lg' it') ∧ ((v = 0 ∨ v = 1) ∧ (v = 1 → vw8 lg0 it0 a0 = vw8 lg0 it0 a1))) = Pz
  unfold w_X3_isLike
  have h6 := i8_3 hI (obr ha0)
  have f37 : 0 ≤ (it0 a0 0).toInt ∧ (it0 a0 0).toInt ≤ 6 := i8_3 hI (obr ha0)
  have f38 : 0 ≤ (it0 a1 0).toInt ∧ (it0 a1 0).toInt ≤ 6 := i8_3 hI (obr ha1)
  refine ⟨fun c8 => ?_, fun c8 => ?_⟩
  · try simp only [Int32.lt_iff_toInt_lt, Int32.le_iff_toInt_le, ← Int32.toInt_inj, Int32.toInt_toInt64, ti_m14, ti_m13, ti_m12, ti_m11, ti_m10, ti_m9, ti_m6, ti_m5, ti_m4, ti_m3, ti_m2, ti_m1, ti_0, ti_1, ti_2, ti_3, ti_4, ti_5, ti_6, ti_7, ti_8, ti_9, ti_10, ti_11, ti_12, ti_19, ti_20, ti_21, ti_44, ti_45, ti_48, ti_57, ti_59, ti_60, ti_98, ti_99, ti_100, ti_101, ti_103, ti_108, ti_110, ti_114, ti_127] at c8
    subst hp
    exact ⟨⟨hI, hKr⟩, ⟨Or.inl rfl, fun q => absurd q (by decide)⟩⟩
  · try simp only [Int32.lt_iff_toInt_lt, Int32.le_iff_toInt_le, ← Int32.toInt_inj, Int32.toInt_toInt64, ti_m14, ti_m13, ti_m12, ti_m11, ti_m10, ti_m9, ti_m6, ti_m5, ti_m4, ti_m3, ti_m2, ti_m1, ti_0, ti_1, ti_2, ti_3, ti_4, ti_5, ti_6, ti_7, ti_8, ti_9, ti_10, ti_11, ti_12, ti_19, ti_20, ti_21, ti_44, ti_45, ti_48, ti_57, ti_59, ti_60, ti_98, ti_99, ti_100, ti_101, ti_103, ti_108, ti_110, ti_114, ti_127] at c8
    refine ⟨fun c19 => ?_, fun c19 => ?_⟩
    · try simp only [Int32.lt_iff_toInt_lt, Int32.le_iff_toInt_le, ← Int32.toInt_inj, Int32.toInt_toInt64, ti_m14, ti_m13, ti_m12, ti_m11, ti_m10, ti_m9, ti_m6, ti_m5, ti_m4, ti_m3, ti_m2, ti_m1, ti_0, ti_1, ti_2, ti_3, ti_4, ti_5, ti_6, ti_7, ti_8, ti_9, ti_10, ti_11, ti_12, ti_19, ti_20, ti_21, ti_44, ti_45, ti_48, ti_57, ti_59, ti_60, ti_98, ti_99, ti_100, ti_101, ti_103, ti_108, ti_110, ti_114, ti_127] at c19
      subst hp
      exact ⟨⟨hI, hKr⟩, ⟨Or.inl rfl, fun q => absurd q (by decide)⟩⟩
    · try simp only [Int32.lt_iff_toInt_lt, Int32.le_iff_toInt_le, ← Int32.toInt_inj, Int32.toInt_toInt64, ti_m14, ti_m13, ti_m12, ti_m11, ti_m10, ti_m9, ti_m6, ti_m5, ti_m4, ti_m3, ti_m2, ti_m1, ti_0, ti_1, ti_2, ti_3, ti_4, ti_5, ti_6, ti_7, ti_8, ti_9, ti_10, ti_11, ti_12, ti_19, ti_20, ti_21, ti_44, ti_45, ti_48, ti_57, ti_59, ti_60, ti_98, ti_99, ti_100, ti_101, ti_103, ti_108, ti_110, ti_114, ti_127] at c19
      refine ⟨fun c34 => ?_, fun c34 => ?_⟩
      · try simp only [Int32.lt_iff_toInt_lt, Int32.le_iff_toInt_le, ← Int32.toInt_inj, Int32.toInt_toInt64, ti_m14, ti_m13, ti_m12, ti_m11, ti_m10, ti_m9, ti_m6, ti_m5, ti_m4, ti_m3, ti_m2, ti_m1, ti_0, ti_1, ti_2, ti_3, ti_4, ti_5, ti_6, ti_7, ti_8, ti_9, ti_10, ti_11, ti_12, ti_19, ti_20, ti_21, ti_44, ti_45, ti_48, ti_57, ti_59, ti_60, ti_98, ti_99, ti_100, ti_101, ti_103, ti_108, ti_110, ti_114, ti_127] at c34
        subst hp
        exact ⟨⟨hI, hKr⟩, ⟨Or.inl rfl, fun q => absurd q (by decide)⟩⟩
      · try simp only [Int32.lt_iff_toInt_lt, Int32.le_iff_toInt_le, ← Int32.toInt_inj, Int32.toInt_toInt64, ti_m14, ti_m13, ti_m12, ti_m11, ti_m10, ti_m9, ti_m6, ti_m5, ti_m4, ti_m3, ti_m2, ti_m1, ti_0, ti_1, ti_2, ti_3, ti_4, ti_5, ti_6, ti_7, ti_8, ti_9, ti_10, ti_11, ti_12, ti_19, ti_20, ti_21, ti_44, ti_45, ti_48, ti_57, ti_59, ti_60, ti_98, ti_99, ti_100, ti_101, ti_103, ti_108, ti_110, ti_114, ti_127] at c34
        refine ⟨fun c49 => ?_, fun c49 => ?_⟩
        · try simp only [Int32.lt_iff_toInt_lt, Int32.le_iff_toInt_le, ← Int32.toInt_inj, Int32.toInt_toInt64, ti_m14, ti_m13, ti_m12, ti_m11, ti_m10, ti_m9, ti_m6, ti_m5, ti_m4, ti_m3, ti_m2, ti_m1, ti_0, ti_1, ti_2, ti_3, ti_4, ti_5, ti_6, ti_7, ti_8, ti_9, ti_10, ti_11, ti_12, ti_19, ti_20, ti_21, ti_44, ti_45, ti_48, ti_57, ti_59, ti_60, ti_98, ti_99, ti_100, ti_101, ti_103, ti_108, ti_110, ti_114, ti_127] at c49
          have lp56 : ∀ (n : Nat) (x2 : Int32) (lg : LGt) (it : ITt), I8 lg it → Kc (fun j => False) lg0 it0 lg it → ((0 ≤ (x2).toInt ∧ (x2).toInt ≤ (it0 a0 0).toInt) ∧ (∀ j, j < (x2).toNatClampNeg → LkR lg0 it0 a0 a1 j)) → (7 - (x2).toInt).toNat < n → w_X3_isLike_b56 a0 a1 Pz  n x2 lg it := by
            intro n56
            induction n56 with
            | zero => intro x2 lg it _ _ _ hn; exact absurd hn (Nat.not_lt_zero _)
            | succ n56 ih56 =>
              intro x2 lg41 it42 hI39 hK40 hv hn
              unfold w_X3_isLike_b56
              obtain ⟨hv56_0, hv56_1⟩ := hv
              have e0 : (it42 a0 0).toInt = (it0 a0 0).toInt := congrArg (fun f => Int32.toInt (f 0)) (hK40 a0 (fun q => q)).2
              have hfl : lg41 = lg0 := (kf_e hK40).1
              have hfi : it42 = it0 := (kf_e hK40).2
              have f43 : 0 ≤ (it42 a0 0).toInt ∧ (it42 a0 0).toInt ≤ 6 := i8_3 hI39 (obr ha0)
              refine ⟨fun c61 => ?_, fun c61 => ?_⟩
              · try simp only [Int32.lt_iff_toInt_lt, Int32.le_iff_toInt_le, ← Int32.toInt_inj, Int32.toInt_toInt64, ti_m14, ti_m13, ti_m12, ti_m11, ti_m10, ti_m9, ti_m6, ti_m5, ti_m4, ti_m3, ti_m2, ti_m1, ti_0, ti_1, ti_2, ti_3, ti_4, ti_5, ti_6, ti_7, ti_8, ti_9, ti_10, ti_11, ti_12, ti_19, ti_20, ti_21, ti_44, ti_45, ti_48, ti_57, ti_59, ti_60, ti_98, ti_99, ti_100, ti_101, ti_103, ti_108, ti_110, ti_114, ti_127] at c61
                subst hp
                exact ⟨⟨hI39, hK40⟩, ⟨Or.inr rfl, fun _ => lk_e c8 c19 c34 c49 hv56_1 (by have z := cl_eq c8; have z2 := cl32 hv56_0.1; have z3 := cl32 h6.1; rw [hfi] at c61; omega)⟩⟩
              · try simp only [Int32.lt_iff_toInt_lt, Int32.le_iff_toInt_le, ← Int32.toInt_inj, Int32.toInt_toInt64, ti_m14, ti_m13, ti_m12, ti_m11, ti_m10, ti_m9, ti_m6, ti_m5, ti_m4, ti_m3, ti_m2, ti_m1, ti_0, ti_1, ti_2, ti_3, ti_4, ti_5, ti_6, ti_7, ti_8, ti_9, ti_10, ti_11, ti_12, ti_19, ti_20, ti_21, ti_44, ti_45, ti_48, ti_57, ti_59, ti_60, ti_98, ti_99, ti_100, ti_101, ti_103, ti_108, ti_110, ti_114, ti_127] at c61
                have hi44 : vp_in x2 6 := vp_of (by first | omega | ((try simp only [Int32.lt_iff_toInt_lt, Int32.le_iff_toInt_le, ← Int32.toInt_inj, Int32.toInt_toInt64, ti_m14, ti_m13, ti_m12, ti_m11, ti_m10, ti_m9, ti_m6, ti_m5, ti_m4, ti_m3, ti_m2, ti_m1, ti_0, ti_1, ti_2, ti_3, ti_4, ti_5, ti_6, ti_7, ti_8, ti_9, ti_10, ti_11, ti_12, ti_19, ti_20, ti_21, ti_44, ti_45, ti_48, ti_57, ti_59, ti_60, ti_98, ti_99, ti_100, ti_101, ti_103, ti_108, ti_110, ti_114, ti_127]); omega) | (split <;> omega)) (by first | omega | ((try simp only [Int32.lt_iff_toInt_lt, Int32.le_iff_toInt_le, ← Int32.toInt_inj, Int32.toInt_toInt64, ti_m14, ti_m13, ti_m12, ti_m11, ti_m10, ti_m9, ti_m6, ti_m5, ti_m4, ti_m3, ti_m2, ti_m1, ti_0, ti_1, ti_2, ti_3, ti_4, ti_5, ti_6, ti_7, ti_8, ti_9, ti_10, ti_11, ti_12, ti_19, ti_20, ti_21, ti_44, ti_45, ti_48, ti_57, ti_59, ti_60, ti_98, ti_99, ti_100, ti_101, ti_103, ti_108, ti_110, ti_114, ti_127]); omega) | (split <;> omega))
                refine ⟨hi44, ?_⟩
                have hz45 := vlt hi44
                have hi46 : vp_in x2 6 := vp_of (by first | omega | ((try simp only [Int32.lt_iff_toInt_lt, Int32.le_iff_toInt_le, ← Int32.toInt_inj, Int32.toInt_toInt64, ti_m14, ti_m13, ti_m12, ti_m11, ti_m10, ti_m9, ti_m6, ti_m5, ti_m4, ti_m3, ti_m2, ti_m1, ti_0, ti_1, ti_2, ti_3, ti_4, ti_5, ti_6, ti_7, ti_8, ti_9, ti_10, ti_11, ti_12, ti_19, ti_20, ti_21, ti_44, ti_45, ti_48, ti_57, ti_59, ti_60, ti_98, ti_99, ti_100, ti_101, ti_103, ti_108, ti_110, ti_114, ti_127]); omega) | (split <;> omega)) (by first | omega | ((try simp only [Int32.lt_iff_toInt_lt, Int32.le_iff_toInt_le, ← Int32.toInt_inj, Int32.toInt_toInt64, ti_m14, ti_m13, ti_m12, ti_m11, ti_m10, ti_m9, ti_m6, ti_m5, ti_m4, ti_m3, ti_m2, ti_m1, ti_0, ti_1, ti_2, ti_3, ti_4, ti_5, ti_6, ti_7, ti_8, ti_9, ti_10, ti_11, ti_12, ti_19, ti_20, ti_21, ti_44, ti_45, ti_48, ti_57, ti_59, ti_60, ti_98, ti_99, ti_100, ti_101, ti_103, ti_108, ti_110, ti_114, ti_127]); omega) | (split <;> omega))
                refine ⟨hi46, ?_⟩
                have hz47 := vlt hi46
                refine ⟨fun c76 => ?_, fun c76 => ?_⟩
                · try simp only [Int32.lt_iff_toInt_lt, Int32.le_iff_toInt_le, ← Int32.toInt_inj, Int32.toInt_toInt64, ti_m14, ti_m13, ti_m12, ti_m11, ti_m10, ti_m9, ti_m6, ti_m5, ti_m4, ti_m3, ti_m2, ti_m1, ti_0, ti_1, ti_2, ti_3, ti_4, ti_5, ti_6, ti_7, ti_8, ti_9, ti_10, ti_11, ti_12, ti_19, ti_20, ti_21, ti_44, ti_45, ti_48, ti_57, ti_59, ti_60, ti_98, ti_99, ti_100, ti_101, ti_103, ti_108, ti_110, ti_114, ti_127] at c76
                  subst hp
                  exact ⟨⟨hI39, hK40⟩, ⟨Or.inl rfl, fun q => absurd q (by decide)⟩⟩
                · try simp only [Int32.lt_iff_toInt_lt, Int32.le_iff_toInt_le, ← Int32.toInt_inj, Int32.toInt_toInt64, ti_m14, ti_m13, ti_m12, ti_m11, ti_m10, ti_m9, ti_m6, ti_m5, ti_m4, ti_m3, ti_m2, ti_m1, ti_0, ti_1, ti_2, ti_3, ti_4, ti_5, ti_6, ti_7, ti_8, ti_9, ti_10, ti_11, ti_12, ti_19, ti_20, ti_21, ti_44, ti_45, ti_48, ti_57, ti_59, ti_60, ti_98, ti_99, ti_100, ti_101, ti_103, ti_108, ti_110, ti_114, ti_127] at c76
                  have hi48 : vp_in x2 6 := vp_of (by first | omega | ((try simp only [Int32.lt_iff_toInt_lt, Int32.le_iff_toInt_le, ← Int32.toInt_inj, Int32.toInt_toInt64, ti_m14, ti_m13, ti_m12, ti_m11, ti_m10, ti_m9, ti_m6, ti_m5, ti_m4, ti_m3, ti_m2, ti_m1, ti_0, ti_1, ti_2, ti_3, ti_4, ti_5, ti_6, ti_7, ti_8, ti_9, ti_10, ti_11, ti_12, ti_19, ti_20, ti_21, ti_44, ti_45, ti_48, ti_57, ti_59, ti_60, ti_98, ti_99, ti_100, ti_101, ti_103, ti_108, ti_110, ti_114, ti_127]); omega) | (split <;> omega)) (by first | omega | ((try simp only [Int32.lt_iff_toInt_lt, Int32.le_iff_toInt_le, ← Int32.toInt_inj, Int32.toInt_toInt64, ti_m14, ti_m13, ti_m12, ti_m11, ti_m10, ti_m9, ti_m6, ti_m5, ti_m4, ti_m3, ti_m2, ti_m1, ti_0, ti_1, ti_2, ti_3, ti_4, ti_5, ti_6, ti_7, ti_8, ti_9, ti_10, ti_11, ti_12, ti_19, ti_20, ti_21, ti_44, ti_45, ti_48, ti_57, ti_59, ti_60, ti_98, ti_99, ti_100, ti_101, ti_103, ti_108, ti_110, ti_114, ti_127]); omega) | (split <;> omega))
                  refine ⟨hi48, ?_⟩
                  have hz49 := vlt hi48
                  have hi50 : vp_in x2 6 := vp_of (by first | omega | ((try simp only [Int32.lt_iff_toInt_lt, Int32.le_iff_toInt_le, ← Int32.toInt_inj, Int32.toInt_toInt64, ti_m14, ti_m13, ti_m12, ti_m11, ti_m10, ti_m9, ti_m6, ti_m5, ti_m4, ti_m3, ti_m2, ti_m1, ti_0, ti_1, ti_2, ti_3, ti_4, ti_5, ti_6, ti_7, ti_8, ti_9, ti_10, ti_11, ti_12, ti_19, ti_20, ti_21, ti_44, ti_45, ti_48, ti_57, ti_59, ti_60, ti_98, ti_99, ti_100, ti_101, ti_103, ti_108, ti_110, ti_114, ti_127]); omega) | (split <;> omega)) (by first | omega | ((try simp only [Int32.lt_iff_toInt_lt, Int32.le_iff_toInt_le, ← Int32.toInt_inj, Int32.toInt_toInt64, ti_m14, ti_m13, ti_m12, ti_m11, ti_m10, ti_m9, ti_m6, ti_m5, ti_m4, ti_m3, ti_m2, ti_m1, ti_0, ti_1, ti_2, ti_3, ti_4, ti_5, ti_6, ti_7, ti_8, ti_9, ti_10, ti_11, ti_12, ti_19, ti_20, ti_21, ti_44, ti_45, ti_48, ti_57, ti_59, ti_60, ti_98, ti_99, ti_100, ti_101, ti_103, ti_108, ti_110, ti_114, ti_127]); omega) | (split <;> omega))
                  refine ⟨hi50, ?_⟩
                  have hz51 := vlt hi50
                  refine ⟨fun c94 => ?_, fun c94 => ?_⟩
                  · try simp only [Int32.lt_iff_toInt_lt, Int32.le_iff_toInt_le, ← Int32.toInt_inj, Int32.toInt_toInt64, ti_m14, ti_m13, ti_m12, ti_m11, ti_m10, ti_m9, ti_m6, ti_m5, ti_m4, ti_m3, ti_m2, ti_m1, ti_0, ti_1, ti_2, ti_3, ti_4, ti_5, ti_6, ti_7, ti_8, ti_9, ti_10, ti_11, ti_12, ti_19, ti_20, ti_21, ti_44, ti_45, ti_48, ti_57, ti_59, ti_60, ti_98, ti_99, ti_100, ti_101, ti_103, ti_108, ti_110, ti_114, ti_127] at c94
                    subst hp
                    exact ⟨⟨hI39, hK40⟩, ⟨Or.inl rfl, fun q => absurd q (by decide)⟩⟩
                  · try simp only [Int32.lt_iff_toInt_lt, Int32.le_iff_toInt_le, ← Int32.toInt_inj, Int32.toInt_toInt64, ti_m14, ti_m13, ti_m12, ti_m11, ti_m10, ti_m9, ti_m6, ti_m5, ti_m4, ti_m3, ti_m2, ti_m1, ti_0, ti_1, ti_2, ti_3, ti_4, ti_5, ti_6, ti_7, ti_8, ti_9, ti_10, ti_11, ti_12, ti_19, ti_20, ti_21, ti_44, ti_45, ti_48, ti_57, ti_59, ti_60, ti_98, ti_99, ti_100, ti_101, ti_103, ti_108, ti_110, ti_114, ti_127] at c94
                    have hi52 : vp_in x2 6 := vp_of (by first | omega | ((try simp only [Int32.lt_iff_toInt_lt, Int32.le_iff_toInt_le, ← Int32.toInt_inj, Int32.toInt_toInt64, ti_m14, ti_m13, ti_m12, ti_m11, ti_m10, ti_m9, ti_m6, ti_m5, ti_m4, ti_m3, ti_m2, ti_m1, ti_0, ti_1, ti_2, ti_3, ti_4, ti_5, ti_6, ti_7, ti_8, ti_9, ti_10, ti_11, ti_12, ti_19, ti_20, ti_21, ti_44, ti_45, ti_48, ti_57, ti_59, ti_60, ti_98, ti_99, ti_100, ti_101, ti_103, ti_108, ti_110, ti_114, ti_127]); omega) | (split <;> omega)) (by first | omega | ((try simp only [Int32.lt_iff_toInt_lt, Int32.le_iff_toInt_le, ← Int32.toInt_inj, Int32.toInt_toInt64, ti_m14, ti_m13, ti_m12, ti_m11, ti_m10, ti_m9, ti_m6, ti_m5, ti_m4, ti_m3, ti_m2, ti_m1, ti_0, ti_1, ti_2, ti_3, ti_4, ti_5, ti_6, ti_7, ti_8, ti_9, ti_10, ti_11, ti_12, ti_19, ti_20, ti_21, ti_44, ti_45, ti_48, ti_57, ti_59, ti_60, ti_98, ti_99, ti_100, ti_101, ti_103, ti_108, ti_110, ti_114, ti_127]); omega) | (split <;> omega))
                    refine ⟨hi52, ?_⟩
                    have hz53 := vlt hi52
                    have hi54 : vp_in x2 6 := vp_of (by first | omega | ((try simp only [Int32.lt_iff_toInt_lt, Int32.le_iff_toInt_le, ← Int32.toInt_inj, Int32.toInt_toInt64, ti_m14, ti_m13, ti_m12, ti_m11, ti_m10, ti_m9, ti_m6, ti_m5, ti_m4, ti_m3, ti_m2, ti_m1, ti_0, ti_1, ti_2, ti_3, ti_4, ti_5, ti_6, ti_7, ti_8, ti_9, ti_10, ti_11, ti_12, ti_19, ti_20, ti_21, ti_44, ti_45, ti_48, ti_57, ti_59, ti_60, ti_98, ti_99, ti_100, ti_101, ti_103, ti_108, ti_110, ti_114, ti_127]); omega) | (split <;> omega)) (by first | omega | ((try simp only [Int32.lt_iff_toInt_lt, Int32.le_iff_toInt_le, ← Int32.toInt_inj, Int32.toInt_toInt64, ti_m14, ti_m13, ti_m12, ti_m11, ti_m10, ti_m9, ti_m6, ti_m5, ti_m4, ti_m3, ti_m2, ti_m1, ti_0, ti_1, ti_2, ti_3, ti_4, ti_5, ti_6, ti_7, ti_8, ti_9, ti_10, ti_11, ti_12, ti_19, ti_20, ti_21, ti_44, ti_45, ti_48, ti_57, ti_59, ti_60, ti_98, ti_99, ti_100, ti_101, ti_103, ti_108, ti_110, ti_114, ti_127]); omega) | (split <;> omega))
                    refine ⟨hi54, ?_⟩
                    have hz55 := vlt hi54
                    refine ⟨fun c112 => ?_, fun c112 => ?_⟩
                    · try simp only [Int32.lt_iff_toInt_lt, Int32.le_iff_toInt_le, ← Int32.toInt_inj, Int32.toInt_toInt64, ti_m14, ti_m13, ti_m12, ti_m11, ti_m10, ti_m9, ti_m6, ti_m5, ti_m4, ti_m3, ti_m2, ti_m1, ti_0, ti_1, ti_2, ti_3, ti_4, ti_5, ti_6, ti_7, ti_8, ti_9, ti_10, ti_11, ti_12, ti_19, ti_20, ti_21, ti_44, ti_45, ti_48, ti_57, ti_59, ti_60, ti_98, ti_99, ti_100, ti_101, ti_103, ti_108, ti_110, ti_114, ti_127] at c112
                      try have f56 : ((x2 + 1) : Int32).toInt = (x2).toInt + 1 := ad32 (a := (x2).toInt) (b := 1) (rfl) (ti_1) (by omega) (by omega)
                      exact ih56 ((x2 + 1)) _ _ hI39 hK40 ⟨⟨by omega, by omega⟩, by rw [cl_add1 (by omega) (by omega)]; exact lk_s hv56_1 ⟨Int32.toInt_inj.mp (hfi ▸ c76), hfl ▸ c94, hfl ▸ c112⟩⟩ (by omega)
                    · try simp only [Int32.lt_iff_toInt_lt, Int32.le_iff_toInt_le, ← Int32.toInt_inj, Int32.toInt_toInt64, ti_m14, ti_m13, ti_m12, ti_m11, ti_m10, ti_m9, ti_m6, ti_m5, ti_m4, ti_m3, ti_m2, ti_m1, ti_0, ti_1, ti_2, ti_3, ti_4, ti_5, ti_6, ti_7, ti_8, ti_9, ti_10, ti_11, ti_12, ti_19, ti_20, ti_21, ti_44, ti_45, ti_48, ti_57, ti_59, ti_60, ti_98, ti_99, ti_100, ti_101, ti_103, ti_108, ti_110, ti_114, ti_127] at c112
                      subst hp
                      exact ⟨⟨hI39, hK40⟩, ⟨Or.inl rfl, fun q => absurd q (by decide)⟩⟩
          have t57 := ti_0
          exact ⟨_, lp56 ((7 - ((0 : Int32)).toInt).toNat + 1) ((0 : Int32)) _ _ hI hKr ⟨⟨by omega, by omega⟩, fun j hj => absurd hj (Nat.not_lt_zero _)⟩ (Nat.lt_succ_self _)⟩
        · try simp only [Int32.lt_iff_toInt_lt, Int32.le_iff_toInt_le, ← Int32.toInt_inj, Int32.toInt_toInt64, ti_m14, ti_m13, ti_m12, ti_m11, ti_m10, ti_m9, ti_m6, ti_m5, ti_m4, ti_m3, ti_m2, ti_m1, ti_0, ti_1, ti_2, ti_3, ti_4, ti_5, ti_6, ti_7, ti_8, ti_9, ti_10, ti_11, ti_12, ti_19, ti_20, ti_21, ti_44, ti_45, ti_48, ti_57, ti_59, ti_60, ti_98, ti_99, ti_100, ti_101, ti_103, ti_108, ti_110, ti_114, ti_127] at c49
          subst hp
          exact ⟨⟨hI, hKr⟩, ⟨Or.inl rfl, fun q => absurd q (by decide)⟩⟩
