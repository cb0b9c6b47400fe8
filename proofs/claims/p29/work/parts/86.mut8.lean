/-! the first side: what changes the rail -/
theorem ofN {x : Int32} (h : 0 ≤ x.toInt ∧ x.toInt ≤ 400) : Int32.ofNat x.toNatClampNeg = x := by
  have e := cl32 h.1
  apply Int32.toInt_inj.mp
  rw [oN (by omega)]
  exact e
theorem tPV {S : Nat → Prop} {lg0 lg : LGt} {it0 it : ITt} {r i j : Nat} {V : Rlv} (h : RV lg0 it0 r V) (hk : Kc S lg0 it0 lg it) (e : j = i) (hi : j < rN V) (hs : ¬ S (r + 4 + 2 * j)) : abF (fv lg it (r + 4 + 2 * j)) = some (rP V i) := by
  obtain ⟨a, ok, _⟩ := h
  subst a
  exact tP hk ok e hi hs
theorem rb_low {r : Nat} (h : r ∈ rb) : r + 17 ≤ 467 := (show ∀ r ∈ rb, r + 17 ≤ 467 by decide) r h
theorem wT_n {x : Int32} (h : x.toInt = -1) : wTold x = -5 := by unfold wTold; rw [if_pos (by rw [Int32.lt_iff_toInt_lt, ti_0]; omega)]
theorem wT_p {x : Int32} (h : ¬ x.toInt = -1) (h2 : -1 ≤ x.toInt) : wTold x = x := by unfold wTold; rw [if_neg (by rw [Int32.lt_iff_toInt_lt, ti_0]; omega)]
theorem b1_0 {p : QQ} {s : Int32} {x : Int64} (hs : s.toInt = 0) (hp : x = p.1) (h : 0 ≤ x) : ¬ Bey1 p s := by
  rintro (⟨_, q⟩ | ⟨q, _⟩)
  · rw [← hp] at q; exact absurd q (Int64.not_lt.mpr h)
  · exact q hs
theorem b1_1 {p : QQ} {s : Int32} {x : Int64} (hs : s.toInt = 0) (hp : x = p.1) (h : ¬ 0 ≤ x) : Bey1 p s := Or.inl ⟨hs, by rw [← hp]; exact Int64.not_le.mp h⟩
theorem b1_o {p : QQ} {s : Int32} (hs : ¬ s.toInt = 0) (h : oL (some p) (some (100, 1)) = none) : Bey1 p s := Or.inr ⟨hs, fun r q => by rw [h] at q; cases q⟩
theorem b1_n {p r : QQ} {s : Int32} (hs : ¬ s.toInt = 0) (h : oL (some p) (some (100, 1)) = some r) (hr : r.1 ≤ 0) : ¬ Bey1 p s := by
  rintro (⟨q, _⟩ | ⟨_, q⟩)
  · exact hs q
  · exact absurd (q r h) (Int64.not_lt.mpr hr)
theorem b1_p {p r : QQ} {s : Int32} (hs : ¬ s.toInt = 0) (h : oL (some p) (some (100, 1)) = some r) (hr : ¬ r.1 ≤ 0) : Bey1 p s := Or.inr ⟨hs, fun r2 q => by rw [h] at q; cases q; exact Int64.not_le.mp hr⟩
theorem bm_r {V : Rlv} {p m s : Int32} (h : ¬ ((0 ≤ p.toInt ∧ p.toInt ≤ 99) ∧ (1 ≤ m.toInt ∧ m.toInt ≤ 9) ∧ (-9 ≤ s.toInt ∧ s.toInt ≤ 9))) : bmA V p m s = (-2, V) := if_pos h
theorem bm_s {V : Rlv} {p m s : Int32} (h : (0 ≤ p.toInt ∧ p.toInt ≤ 99) ∧ (1 ≤ m.toInt ∧ m.toInt ≤ 9) ∧ (-9 ≤ s.toInt ∧ s.toInt ≤ 9)) (hn : Nr V p) : bmA V p m s = (-3, V) := by unfold bmA; rw [if_neg (not_not_intro h), if_pos hn]
theorem bm_f {V : Rlv} {p m s : Int32} (h : (0 ≤ p.toInt ∧ p.toInt ≤ 99) ∧ (1 ≤ m.toInt ∧ m.toInt ≤ 9) ∧ (-9 ≤ s.toInt ∧ s.toInt ≤ 9)) (hn : ¬ Nr V p) (h6 : 6 ≤ rN V) : bmA V p m s = (-4, V) := by unfold bmA; rw [if_neg (not_not_intro h), if_neg hn, if_pos h6]
theorem bm_y {V : Rlv} {p m s : Int32} (h : (0 ≤ p.toInt ∧ p.toInt ≤ 99) ∧ (1 ≤ m.toInt ∧ m.toInt ≤ 9) ∧ (-9 ≤ s.toInt ∧ s.toInt ≤ 9)) (hn : ¬ Nr V p) (h6 : ¬ 6 ≤ rN V) : bmA V p m s = (Int32.ofNat (rN V), addB V (p.toInt64, 1) (s.toInt64, 1) m) := by unfold bmA; rw [if_neg (not_not_intro h), if_neg hn, if_neg h6]
theorem nr_z {V : Rlv} {p : Int32} (h : rN V = 0) : ¬ Nr V p := fun q => by have := q.1; omega
theorem nr_o {V : Rlv} {p : Int32} (h : 0 < rN V) (e : oL (some (rP V (rN V - 1))) (some (p.toInt64, 1)) = none) : Nr V p := ⟨h, fun r q => by rw [e] at q; cases q⟩
theorem nr_y {V : Rlv} {p : Int32} {r : QQ} (h : 0 < rN V) (e : oL (some (rP V (rN V - 1))) (some (p.toInt64, 1)) = some r) (c : ¬ r.1 < 0) : Nr V p := ⟨h, fun r2 q => by rw [e] at q; cases q; exact c⟩
theorem nr_n {V : Rlv} {p : Int32} {r : QQ} (e : oL (some (rP V (rN V - 1))) (some (p.toInt64, 1)) = some r) (c : r.1 < 0) : ¬ Nr V p := fun q => q.2 r e c
theorem mn_min {a b : Int32} {n : Nat} (ha : 0 ≤ a.toInt) (hb : b.toInt = n) : (if b < a then b else a) = Int32.ofNat (min a.toNatClampNeg n) ∧ (if b < a then b else a).toNatClampNeg = min a.toNatClampNeg n := by
  have k1 := cl32 ha
  have k2 := cl32 (i := b) (by omega)
  have l1 := a.toInt_lt
  by_cases c : b < a
  · have c2 := c
    rw [Int32.lt_iff_toInt_lt] at c2
    rw [if_pos c]
    have e : min a.toNatClampNeg n = b.toNatClampNeg := by omega
    rw [e]
    refine ⟨(Int32.toInt_inj.mp ?_), rfl⟩
    show b.toInt = (nI b.toNatClampNeg).toInt
    rw [nI_toInt (show b.toNatClampNeg < 2 ^ 31 by have := b.toInt_lt; omega)]
    omega
  · have c2 := c
    rw [Int32.lt_iff_toInt_lt] at c2
    rw [if_neg c]
    have e : min a.toNatClampNeg n = a.toNatClampNeg := by omega
    rw [e]
    refine ⟨(Int32.toInt_inj.mp ?_), rfl⟩
    show a.toInt = (nI a.toNatClampNeg).toInt
    rw [nI_toInt (show a.toNatClampNeg < 2 ^ 31 by omega)]
    omega
theorem wall_ge {lg : LGt} {it : ITt} {V : Rlv} {a : Int32} (h : RV lg it 2 V) (hV : VO V) (ha : 0 ≤ a.toInt ∧ a.toInt ≤ 1) : -1 ≤ (it 18 a.toNatClampNeg).toInt := by
  have z1 : -1 ≤ (it 18 0).toInt := by
    have z : -1 ≤ (rA V).toInt := hV.2.2.2.2.2.1.1
    rw [← h.1] at z
    exact z
  have z2 : -1 ≤ (it 18 1).toInt := by
    have z : -1 ≤ (rB V).toInt := hV.2.2.2.2.2.2.1
    rw [← h.1] at z
    exact z
  have k := cl32 ha.1
  rcases (show a.toNatClampNeg = 0 ∨ a.toNatClampNeg = 1 by omega) with q | q <;> rw [q]
  · exact z1
  · exact z2
set_option maxRecDepth 100000 in
theorem f_X8_spring (a1 : Int32) {lg0 : LGt} {it0 : ITt} (hI : I8 lg0 it0) (V : Rlv) (hV : RV lg0 it0 2 V) (hVO : VO V) : w_X8_spring a1 (fun (v : Int32) (lg' : LGt) (it' : ITt) => (I8 lg' it' ∧ Kc (fun j => (2 ≤ j ∧ j < 19)) lg0 it0 lg' it') ∧ (v = (spA V a1).1 ∧ RV lg' it' 2 (spA V a1).2))  lg0 it0 := by
  have hb_a1 := And.intro a1.le_toInt a1.toInt_lt
  have hKr : Kc (fun j => (2 ≤ j ∧ j < 19)) lg0 it0 lg0 it0 := kc_r
  generalize hp : (fun (v : Int32) (lg' : LGt) (it' : ITt) => (I8 lg' it' ∧ Kc (fun j => (2 ≤ j ∧ j < 19)) lg0 it0 lg' it') ∧ (v = (spA V a1).1 ∧ RV lg' it' 2 (spA V a1).2)) = Pz
  unfold w_X8_spring
  have hnV : rN V = (it0 2 0).toNatClampNeg := by rw [← hV.1]; rfl
  have f2 := i8_3 hI (obr in_rb_2)
  have hkn := cl32 f2.1
  have hrE : rE V = it0 2 4 := by rw [← hV.1]; rfl
  have hrA : rA V = it0 18 0 := by rw [← hV.1]; rfl
  have hrB : rB V = it0 18 1 := by rw [← hV.1]; rfl
  refine ⟨fun c4 => ?_, fun c4 => ?_⟩
  · try simp only [Int32.lt_iff_toInt_lt, Int32.le_iff_toInt_le, ← Int32.toInt_inj, Int32.toInt_toInt64, ti_m14, ti_m13, ti_m12, ti_m11, ti_m10, ti_m9, ti_m6, ti_m5, ti_m4, ti_m3, ti_m2, ti_m1, ti_0, ti_1, ti_2, ti_3, ti_4, ti_5, ti_6, ti_7, ti_8, ti_9, ti_10, ti_11, ti_12, ti_19, ti_20, ti_21, ti_44, ti_45, ti_48, ti_57, ti_59, ti_60, ti_98, ti_99, ti_100, ti_101, ti_103, ti_108, ti_110, ti_114, ti_127] at c4
    intro it5 em6
    have hI7 : I8 lg0 it5 := by rw [em6]; exact i8_u hI (ok8_3 (oq_2) (fun q => absurd q (by decide)))
    have hK8 : Kc (fun j => (2 ≤ j ∧ j < 19)) lg0 it0 lg0 it5 := by rw [em6]; exact kc_u (by first | omega | (dsimp only; omega)) hKr
    have e10 : (it5 2 4).toInt = (a1 : Int32).toInt := by rw [em6, u2_eq]
    subst hp
    exact ⟨⟨hI7, hK8⟩, by rw [show spA V a1 = (rE V, setE V a1) from if_pos (by omega)]; exact ⟨hrE.symm, by rw [em6]; exact rv_setE hV⟩⟩
  · try simp only [Int32.lt_iff_toInt_lt, Int32.le_iff_toInt_le, ← Int32.toInt_inj, Int32.toInt_toInt64, ti_m14, ti_m13, ti_m12, ti_m11, ti_m10, ti_m9, ti_m6, ti_m5, ti_m4, ti_m3, ti_m2, ti_m1, ti_0, ti_1, ti_2, ti_3, ti_4, ti_5, ti_6, ti_7, ti_8, ti_9, ti_10, ti_11, ti_12, ti_19, ti_20, ti_21, ti_44, ti_45, ti_48, ti_57, ti_59, ti_60, ti_98, ti_99, ti_100, ti_101, ti_103, ti_108, ti_110, ti_114, ti_127] at c4
    subst hp
    exact ⟨⟨hI, hKr⟩, by rw [show spA V a1 = (-2, V) from if_neg (by omega)]; exact ⟨rfl, hV⟩⟩
set_option maxRecDepth 100000 in
theorem f_X8_renew (a1 : Int32) (a2 : Int32) (a3 : Int32) {lg0 : LGt} {it0 : ITt} (hI : I8 lg0 it0) (V : Rlv) (hV : RV lg0 it0 2 V) (hVO : VO V) : w_X8_renew a1 a2 a3 (fun (v : Int32) (lg' : LGt) (it' : ITt) => (I8 lg' it' ∧ Kc (fun j => (2 ≤ j ∧ j < 19)) lg0 it0 lg' it') ∧ (v = (rnA V a1 a2 a3).1 ∧ RV lg' it' 2 (rnA V a1 a2 a3).2))  lg0 it0 := by
  have hb_a1 := And.intro a1.le_toInt a1.toInt_lt
  have hb_a2 := And.intro a2.le_toInt a2.toInt_lt
  have hb_a3 := And.intro a3.le_toInt a3.toInt_lt
  have hKr : Kc (fun j => (2 ≤ j ∧ j < 19)) lg0 it0 lg0 it0 := kc_r
  generalize hp : (fun (v : Int32) (lg' : LGt) (it' : ITt) => (I8 lg' it' ∧ Kc (fun j => (2 ≤ j ∧ j < 19)) lg0 it0 lg' it') ∧ (v = (rnA V a1 a2 a3).1 ∧ RV lg' it' 2 (rnA V a1 a2 a3).2)) = Pz
  unfold w_X8_renew
  have hnV : rN V = (it0 2 0).toNatClampNeg := by rw [← hV.1]; rfl
  have f2 := i8_3 hI (obr in_rb_2)
  have hkn := cl32 f2.1
  have hrE : rE V = it0 2 4 := by rw [← hV.1]; rfl
  have hrA : rA V = it0 18 0 := by rw [← hV.1]; rfl
  have hrB : rB V = it0 18 1 := by rw [← hV.1]; rfl
  have f23 : 0 ≤ (it0 2 0).toInt ∧ (it0 2 0).toInt ≤ 6 := i8_3 hI oq_2
  refine ⟨fun c14 => ?_, fun c14 => ?_⟩
  · try simp only [Int32.lt_iff_toInt_lt, Int32.le_iff_toInt_le, ← Int32.toInt_inj, Int32.toInt_toInt64, ti_m14, ti_m13, ti_m12, ti_m11, ti_m10, ti_m9, ti_m6, ti_m5, ti_m4, ti_m3, ti_m2, ti_m1, ti_0, ti_1, ti_2, ti_3, ti_4, ti_5, ti_6, ti_7, ti_8, ti_9, ti_10, ti_11, ti_12, ti_19, ti_20, ti_21, ti_44, ti_45, ti_48, ti_57, ti_59, ti_60, ti_98, ti_99, ti_100, ti_101, ti_103, ti_108, ti_110, ti_114, ti_127] at c14
    subst hp
    exact ⟨⟨hI, hKr⟩, by rw [show rnA V a1 a2 a3 = (-1, V) from (by unfold rnA; rw [if_pos (by omega)])]; exact ⟨rfl, hV⟩⟩
  · try simp only [Int32.lt_iff_toInt_lt, Int32.le_iff_toInt_le, ← Int32.toInt_inj, Int32.toInt_toInt64, ti_m14, ti_m13, ti_m12, ti_m11, ti_m10, ti_m9, ti_m6, ti_m5, ti_m4, ti_m3, ti_m2, ti_m1, ti_0, ti_1, ti_2, ti_3, ti_4, ti_5, ti_6, ti_7, ti_8, ti_9, ti_10, ti_11, ti_12, ti_19, ti_20, ti_21, ti_44, ti_45, ti_48, ti_57, ti_59, ti_60, ti_98, ti_99, ti_100, ti_101, ti_103, ti_108, ti_110, ti_114, ti_127] at c14
    refine ⟨fun c18 => ?_, fun c18 => ?_⟩
    · try simp only [Int32.lt_iff_toInt_lt, Int32.le_iff_toInt_le, ← Int32.toInt_inj, Int32.toInt_toInt64, ti_m14, ti_m13, ti_m12, ti_m11, ti_m10, ti_m9, ti_m6, ti_m5, ti_m4, ti_m3, ti_m2, ti_m1, ti_0, ti_1, ti_2, ti_3, ti_4, ti_5, ti_6, ti_7, ti_8, ti_9, ti_10, ti_11, ti_12, ti_19, ti_20, ti_21, ti_44, ti_45, ti_48, ti_57, ti_59, ti_60, ti_98, ti_99, ti_100, ti_101, ti_103, ti_108, ti_110, ti_114, ti_127] at c18
      subst hp
      exact ⟨⟨hI, hKr⟩, by rw [show rnA V a1 a2 a3 = (-1, V) from (by unfold rnA; rw [if_neg (not_not_intro (show 0 ≤ a1.toInt ∧ a1.toInt < (rN V : Int) by omega)), if_pos (by omega)])]; exact ⟨rfl, hV⟩⟩
    · try simp only [Int32.lt_iff_toInt_lt, Int32.le_iff_toInt_le, ← Int32.toInt_inj, Int32.toInt_toInt64, ti_m14, ti_m13, ti_m12, ti_m11, ti_m10, ti_m9, ti_m6, ti_m5, ti_m4, ti_m3, ti_m2, ti_m1, ti_0, ti_1, ti_2, ti_3, ti_4, ti_5, ti_6, ti_7, ti_8, ti_9, ti_10, ti_11, ti_12, ti_19, ti_20, ti_21, ti_44, ti_45, ti_48, ti_57, ti_59, ti_60, ti_98, ti_99, ti_100, ti_101, ti_103, ti_108, ti_110, ti_114, ti_127] at c18
      refine ⟨fun c23 => ?_, fun c23 => ?_⟩
      · try simp only [Int32.lt_iff_toInt_lt, Int32.le_iff_toInt_le, ← Int32.toInt_inj, Int32.toInt_toInt64, ti_m14, ti_m13, ti_m12, ti_m11, ti_m10, ti_m9, ti_m6, ti_m5, ti_m4, ti_m3, ti_m2, ti_m1, ti_0, ti_1, ti_2, ti_3, ti_4, ti_5, ti_6, ti_7, ti_8, ti_9, ti_10, ti_11, ti_12, ti_19, ti_20, ti_21, ti_44, ti_45, ti_48, ti_57, ti_59, ti_60, ti_98, ti_99, ti_100, ti_101, ti_103, ti_108, ti_110, ti_114, ti_127] at c23
        refine ⟨fun c29 => ?_, fun c29 => ?_⟩
        · try simp only [Int32.lt_iff_toInt_lt, Int32.le_iff_toInt_le, ← Int32.toInt_inj, Int32.toInt_toInt64, ti_m14, ti_m13, ti_m12, ti_m11, ti_m10, ti_m9, ti_m6, ti_m5, ti_m4, ti_m3, ti_m2, ti_m1, ti_0, ti_1, ti_2, ti_3, ti_4, ti_5, ti_6, ti_7, ti_8, ti_9, ti_10, ti_11, ti_12, ti_19, ti_20, ti_21, ti_44, ti_45, ti_48, ti_57, ti_59, ti_60, ti_98, ti_99, ti_100, ti_101, ti_103, ti_108, ti_110, ti_114, ti_127] at c29
          refine ⟨fun c46 => ?_, fun c46 => ?_⟩
          · try simp only [Int32.lt_iff_toInt_lt, Int32.le_iff_toInt_le, ← Int32.toInt_inj, Int32.toInt_toInt64, ti_m14, ti_m13, ti_m12, ti_m11, ti_m10, ti_m9, ti_m6, ti_m5, ti_m4, ti_m3, ti_m2, ti_m1, ti_0, ti_1, ti_2, ti_3, ti_4, ti_5, ti_6, ti_7, ti_8, ti_9, ti_10, ti_11, ti_12, ti_19, ti_20, ti_21, ti_44, ti_45, ti_48, ti_57, ti_59, ti_60, ti_98, ti_99, ti_100, ti_101, ti_103, ti_108, ti_110, ti_114, ti_127] at c46
            unfold w_X8_renew_b52
            refine ⟨fun c53 => ?_, fun c53 => ?_⟩
            · try simp only [Int32.lt_iff_toInt_lt, Int32.le_iff_toInt_le, ← Int32.toInt_inj, Int32.toInt_toInt64, ti_m14, ti_m13, ti_m12, ti_m11, ti_m10, ti_m9, ti_m6, ti_m5, ti_m4, ti_m3, ti_m2, ti_m1, ti_0, ti_1, ti_2, ti_3, ti_4, ti_5, ti_6, ti_7, ti_8, ti_9, ti_10, ti_11, ti_12, ti_19, ti_20, ti_21, ti_44, ti_45, ti_48, ti_57, ti_59, ti_60, ti_98, ti_99, ti_100, ti_101, ti_103, ti_108, ti_110, ti_114, ti_127] at c53
              have hi24 : vp_in a1 6 := vp_of (by first | omega | ((try simp only [Int32.lt_iff_toInt_lt, Int32.le_iff_toInt_le, ← Int32.toInt_inj, Int32.toInt_toInt64, ti_m14, ti_m13, ti_m12, ti_m11, ti_m10, ti_m9, ti_m6, ti_m5, ti_m4, ti_m3, ti_m2, ti_m1, ti_0, ti_1, ti_2, ti_3, ti_4, ti_5, ti_6, ti_7, ti_8, ti_9, ti_10, ti_11, ti_12, ti_19, ti_20, ti_21, ti_44, ti_45, ti_48, ti_57, ti_59, ti_60, ti_98, ti_99, ti_100, ti_101, ti_103, ti_108, ti_110, ti_114, ti_127]); omega) | (split <;> omega)) (by first | omega | ((try simp only [Int32.lt_iff_toInt_lt, Int32.le_iff_toInt_le, ← Int32.toInt_inj, Int32.toInt_toInt64, ti_m14, ti_m13, ti_m12, ti_m11, ti_m10, ti_m9, ti_m6, ti_m5, ti_m4, ti_m3, ti_m2, ti_m1, ti_0, ti_1, ti_2, ti_3, ti_4, ti_5, ti_6, ti_7, ti_8, ti_9, ti_10, ti_11, ti_12, ti_19, ti_20, ti_21, ti_44, ti_45, ti_48, ti_57, ti_59, ti_60, ti_98, ti_99, ti_100, ti_101, ti_103, ti_108, ti_110, ti_114, ti_127]); omega) | (split <;> omega))
              refine ⟨hi24, ?_⟩
              have hz25 := vlt hi24
              intro lg26 em_lg26 it27 em_it27
              have hI28 : I8 lg26 it27 := by rw [em_it27]; exact i8_u hI (ok8_1 ((rpo5 in_rb_2 (vlt (hi24)))) (fun _ => Or.inl rfl))
              have hK29 : Kc (fun j => (2 ≤ j ∧ j < 19)) lg0 it0 lg26 it27 := by rw [em_lg26, em_it27]; exact kc_f (by first | omega | (dsimp only; omega)) hKr
              have T30 : abF (fv lg26 it27 (7 + 2 * a1.toNatClampNeg)) = (some (a3.toInt64, 1)) := by rw [em_lg26, em_it27]; exact (congrArg abF fv_a3).trans (abF_0 rfl)
              have f31 : 0 ≤ (it27 2 0).toInt ∧ (it27 2 0).toInt ≤ 6 := i8_3 hI28 (oq_2)
              subst hp
              exact ⟨⟨hI28, hK29⟩, by rw [show rnA V a1 a2 a3 = (Int32.ofNat (rN V), setS V a1.toNatClampNeg (a3.toInt64, 1)) from (by unfold rnA; rw [if_neg (not_not_intro (show 0 ≤ a1.toInt ∧ a1.toInt < (rN V : Int) by omega)), if_neg (not_not_intro (show 0 ≤ a2.toInt ∧ a2.toInt ≤ 1 by omega)), if_neg (by omega), if_pos (by omega)])]; exact ⟨by rw [hnV, em_it27, show sI it0 (7 + 2 * a1.toNatClampNeg) 2 0 2 0 = it0 2 0 from congrFun (u2_row (by omega)) 0]; exact (ofN (by omega)).symm, by rw [em_lg26, em_it27]; exact rv_setS hV (by have z := cl32 (i := a1) (by omega); omega)⟩⟩
            · try simp only [Int32.lt_iff_toInt_lt, Int32.le_iff_toInt_le, ← Int32.toInt_inj, Int32.toInt_toInt64, ti_m14, ti_m13, ti_m12, ti_m11, ti_m10, ti_m9, ti_m6, ti_m5, ti_m4, ti_m3, ti_m2, ti_m1, ti_0, ti_1, ti_2, ti_3, ti_4, ti_5, ti_6, ti_7, ti_8, ti_9, ti_10, ti_11, ti_12, ti_19, ti_20, ti_21, ti_44, ti_45, ti_48, ti_57, ti_59, ti_60, ti_98, ti_99, ti_100, ti_101, ti_103, ti_108, ti_110, ti_114, ti_127] at c53
              have hi32 : vp_in a1 6 := vp_of (by first | omega | ((try simp only [Int32.lt_iff_toInt_lt, Int32.le_iff_toInt_le, ← Int32.toInt_inj, Int32.toInt_toInt64, ti_m14, ti_m13, ti_m12, ti_m11, ti_m10, ti_m9, ti_m6, ti_m5, ti_m4, ti_m3, ti_m2, ti_m1, ti_0, ti_1, ti_2, ti_3, ti_4, ti_5, ti_6, ti_7, ti_8, ti_9, ti_10, ti_11, ti_12, ti_19, ti_20, ti_21, ti_44, ti_45, ti_48, ti_57, ti_59, ti_60, ti_98, ti_99, ti_100, ti_101, ti_103, ti_108, ti_110, ti_114, ti_127]); omega) | (split <;> omega)) (by first | omega | ((try simp only [Int32.lt_iff_toInt_lt, Int32.le_iff_toInt_le, ← Int32.toInt_inj, Int32.toInt_toInt64, ti_m14, ti_m13, ti_m12, ti_m11, ti_m10, ti_m9, ti_m6, ti_m5, ti_m4, ti_m3, ti_m2, ti_m1, ti_0, ti_1, ti_2, ti_3, ti_4, ti_5, ti_6, ti_7, ti_8, ti_9, ti_10, ti_11, ti_12, ti_19, ti_20, ti_21, ti_44, ti_45, ti_48, ti_57, ti_59, ti_60, ti_98, ti_99, ti_100, ti_101, ti_103, ti_108, ti_110, ti_114, ti_127]); omega) | (split <;> omega))
              refine ⟨hi32, ?_⟩
              have hz33 := vlt hi32
              intro it34 em35
              have hI36 : I8 lg0 it34 := by rw [em35]; exact i8_u hI (ok8_a (oq_3) (by decide))
              have hK37 : Kc (fun j => (2 ≤ j ∧ j < 19)) lg0 it0 lg0 it34 := by rw [em35]; exact kc_u (by first | omega | (dsimp only; omega)) hKr
              have f38 : 0 ≤ (it34 2 0).toInt ∧ (it34 2 0).toInt ≤ 6 := i8_3 hI36 (oq_2)
              subst hp
              exact ⟨⟨hI36, hK37⟩, absurd c53 c29⟩
          · try simp only [Int32.lt_iff_toInt_lt, Int32.le_iff_toInt_le, ← Int32.toInt_inj, Int32.toInt_toInt64, ti_m14, ti_m13, ti_m12, ti_m11, ti_m10, ti_m9, ti_m6, ti_m5, ti_m4, ti_m3, ti_m2, ti_m1, ti_0, ti_1, ti_2, ti_3, ti_4, ti_5, ti_6, ti_7, ti_8, ti_9, ti_10, ti_11, ti_12, ti_19, ti_20, ti_21, ti_44, ti_45, ti_48, ti_57, ti_59, ti_60, ti_98, ti_99, ti_100, ti_101, ti_103, ti_108, ti_110, ti_114, ti_127] at c46
            subst hp
            exact ⟨⟨hI, hKr⟩, by rw [show rnA V a1 a2 a3 = (-2, V) from (by unfold rnA; rw [if_neg (not_not_intro (show 0 ≤ a1.toInt ∧ a1.toInt < (rN V : Int) by omega)), if_neg (not_not_intro (show 0 ≤ a2.toInt ∧ a2.toInt ≤ 1 by omega)), if_neg (by omega), if_neg (by omega)])]; exact ⟨rfl, hV⟩⟩
        · try simp only [Int32.lt_iff_toInt_lt, Int32.le_iff_toInt_le, ← Int32.toInt_inj, Int32.toInt_toInt64, ti_m14, ti_m13, ti_m12, ti_m11, ti_m10, ti_m9, ti_m6, ti_m5, ti_m4, ti_m3, ti_m2, ti_m1, ti_0, ti_1, ti_2, ti_3, ti_4, ti_5, ti_6, ti_7, ti_8, ti_9, ti_10, ti_11, ti_12, ti_19, ti_20, ti_21, ti_44, ti_45, ti_48, ti_57, ti_59, ti_60, ti_98, ti_99, ti_100, ti_101, ti_103, ti_108, ti_110, ti_114, ti_127] at c29
          refine ⟨fun c36 => ?_, fun c36 => ?_⟩
          · try simp only [Int32.lt_iff_toInt_lt, Int32.le_iff_toInt_le, ← Int32.toInt_inj, Int32.toInt_toInt64, ti_m14, ti_m13, ti_m12, ti_m11, ti_m10, ti_m9, ti_m6, ti_m5, ti_m4, ti_m3, ti_m2, ti_m1, ti_0, ti_1, ti_2, ti_3, ti_4, ti_5, ti_6, ti_7, ti_8, ti_9, ti_10, ti_11, ti_12, ti_19, ti_20, ti_21, ti_44, ti_45, ti_48, ti_57, ti_59, ti_60, ti_98, ti_99, ti_100, ti_101, ti_103, ti_108, ti_110, ti_114, ti_127] at c36
            unfold w_X8_renew_b52
            refine ⟨fun c53 => ?_, fun c53 => ?_⟩
            · try simp only [Int32.lt_iff_toInt_lt, Int32.le_iff_toInt_le, ← Int32.toInt_inj, Int32.toInt_toInt64, ti_m14, ti_m13, ti_m12, ti_m11, ti_m10, ti_m9, ti_m6, ti_m5, ti_m4, ti_m3, ti_m2, ti_m1, ti_0, ti_1, ti_2, ti_3, ti_4, ti_5, ti_6, ti_7, ti_8, ti_9, ti_10, ti_11, ti_12, ti_19, ti_20, ti_21, ti_44, ti_45, ti_48, ti_57, ti_59, ti_60, ti_98, ti_99, ti_100, ti_101, ti_103, ti_108, ti_110, ti_114, ti_127] at c53
              have hi39 : vp_in a1 6 := vp_of (by first | omega | ((try simp only [Int32.lt_iff_toInt_lt, Int32.le_iff_toInt_le, ← Int32.toInt_inj, Int32.toInt_toInt64, ti_m14, ti_m13, ti_m12, ti_m11, ti_m10, ti_m9, ti_m6, ti_m5, ti_m4, ti_m3, ti_m2, ti_m1, ti_0, ti_1, ti_2, ti_3, ti_4, ti_5, ti_6, ti_7, ti_8, ti_9, ti_10, ti_11, ti_12, ti_19, ti_20, ti_21, ti_44, ti_45, ti_48, ti_57, ti_59, ti_60, ti_98, ti_99, ti_100, ti_101, ti_103, ti_108, ti_110, ti_114, ti_127]); omega) | (split <;> omega)) (by first | omega | ((try simp only [Int32.lt_iff_toInt_lt, Int32.le_iff_toInt_le, ← Int32.toInt_inj, Int32.toInt_toInt64, ti_m14, ti_m13, ti_m12, ti_m11, ti_m10, ti_m9, ti_m6, ti_m5, ti_m4, ti_m3, ti_m2, ti_m1, ti_0, ti_1, ti_2, ti_3, ti_4, ti_5, ti_6, ti_7, ti_8, ti_9, ti_10, ti_11, ti_12, ti_19, ti_20, ti_21, ti_44, ti_45, ti_48, ti_57, ti_59, ti_60, ti_98, ti_99, ti_100, ti_101, ti_103, ti_108, ti_110, ti_114, ti_127]); omega) | (split <;> omega))
              refine ⟨hi39, ?_⟩
              have hz40 := vlt hi39
              intro lg41 em_lg41 it42 em_it42
              have hI43 : I8 lg41 it42 := by rw [em_it42]; exact i8_u hI (ok8_1 ((rpo5 in_rb_2 (vlt (hi39)))) (fun _ => Or.inl rfl))
              have hK44 : Kc (fun j => (2 ≤ j ∧ j < 19)) lg0 it0 lg41 it42 := by rw [em_lg41, em_it42]; exact kc_f (by first | omega | (dsimp only; omega)) hKr
              have T45 : abF (fv lg41 it42 (7 + 2 * a1.toNatClampNeg)) = (some (a3.toInt64, 1)) := by rw [em_lg41, em_it42]; exact (congrArg abF fv_a3).trans (abF_0 rfl)
              have f46 : 0 ≤ (it42 2 0).toInt ∧ (it42 2 0).toInt ≤ 6 := i8_3 hI43 (oq_2)
              subst hp
              exact ⟨⟨hI43, hK44⟩, absurd c29 c53⟩
            · try simp only [Int32.lt_iff_toInt_lt, Int32.le_iff_toInt_le, ← Int32.toInt_inj, Int32.toInt_toInt64, ti_m14, ti_m13, ti_m12, ti_m11, ti_m10, ti_m9, ti_m6, ti_m5, ti_m4, ti_m3, ti_m2, ti_m1, ti_0, ti_1, ti_2, ti_3, ti_4, ti_5, ti_6, ti_7, ti_8, ti_9, ti_10, ti_11, ti_12, ti_19, ti_20, ti_21, ti_44, ti_45, ti_48, ti_57, ti_59, ti_60, ti_98, ti_99, ti_100, ti_101, ti_103, ti_108, ti_110, ti_114, ti_127] at c53
              have hi47 : vp_in a1 6 := vp_of (by first | omega | ((try simp only [Int32.lt_iff_toInt_lt, Int32.le_iff_toInt_le, ← Int32.toInt_inj, Int32.toInt_toInt64, ti_m14, ti_m13, ti_m12, ti_m11, ti_m10, ti_m9, ti_m6, ti_m5, ti_m4, ti_m3, ti_m2, ti_m1, ti_0, ti_1, ti_2, ti_3, ti_4, ti_5, ti_6, ti_7, ti_8, ti_9, ti_10, ti_11, ti_12, ti_19, ti_20, ti_21, ti_44, ti_45, ti_48, ti_57, ti_59, ti_60, ti_98, ti_99, ti_100, ti_101, ti_103, ti_108, ti_110, ti_114, ti_127]); omega) | (split <;> omega)) (by first | omega | ((try simp only [Int32.lt_iff_toInt_lt, Int32.le_iff_toInt_le, ← Int32.toInt_inj, Int32.toInt_toInt64, ti_m14, ti_m13, ti_m12, ti_m11, ti_m10, ti_m9, ti_m6, ti_m5, ti_m4, ti_m3, ti_m2, ti_m1, ti_0, ti_1, ti_2, ti_3, ti_4, ti_5, ti_6, ti_7, ti_8, ti_9, ti_10, ti_11, ti_12, ti_19, ti_20, ti_21, ti_44, ti_45, ti_48, ti_57, ti_59, ti_60, ti_98, ti_99, ti_100, ti_101, ti_103, ti_108, ti_110, ti_114, ti_127]); omega) | (split <;> omega))
              refine ⟨hi47, ?_⟩
              have hz48 := vlt hi47
              intro it49 em50
              have hI51 : I8 lg0 it49 := by rw [em50]; exact i8_u hI (ok8_a (oq_3) (by decide))
              have hK52 : Kc (fun j => (2 ≤ j ∧ j < 19)) lg0 it0 lg0 it49 := by rw [em50]; exact kc_u (by first | omega | (dsimp only; omega)) hKr
              have f53 : 0 ≤ (it49 2 0).toInt ∧ (it49 2 0).toInt ≤ 6 := i8_3 hI51 (oq_2)
              subst hp
              exact ⟨⟨hI51, hK52⟩, by rw [show rnA V a1 a2 a3 = (Int32.ofNat (rN V), setM V a1.toNatClampNeg a3) from (by unfold rnA; rw [if_neg (not_not_intro (show 0 ≤ a1.toInt ∧ a1.toInt < (rN V : Int) by omega)), if_neg (not_not_intro (show 0 ≤ a2.toInt ∧ a2.toInt ≤ 1 by omega)), if_pos (by omega), if_pos (by omega)])]; exact ⟨by rw [hnV, em50, show u2 it0 3 a1.toNatClampNeg a3 2 0 = it0 2 0 from congrFun (u2_row (by omega)) 0]; exact (ofN (by omega)).symm, by rw [em50]; exact rv_setM hV (by have z := cl32 (i := a1) (by omega); omega)⟩⟩
          · try simp only [Int32.lt_iff_toInt_lt, Int32.le_iff_toInt_le, ← Int32.toInt_inj, Int32.toInt_toInt64, ti_m14, ti_m13, ti_m12, ti_m11, ti_m10, ti_m9, ti_m6, ti_m5, ti_m4, ti_m3, ti_m2, ti_m1, ti_0, ti_1, ti_2, ti_3, ti_4, ti_5, ti_6, ti_7, ti_8, ti_9, ti_10, ti_11, ti_12, ti_19, ti_20, ti_21, ti_44, ti_45, ti_48, ti_57, ti_59, ti_60, ti_98, ti_99, ti_100, ti_101, ti_103, ti_108, ti_110, ti_114, ti_127] at c36
            subst hp
            exact ⟨⟨hI, hKr⟩, by rw [show rnA V a1 a2 a3 = (-2, V) from (by unfold rnA; rw [if_neg (not_not_intro (show 0 ≤ a1.toInt ∧ a1.toInt < (rN V : Int) by omega)), if_neg (not_not_intro (show 0 ≤ a2.toInt ∧ a2.toInt ≤ 1 by omega)), if_pos (by omega), if_neg (by omega)])]; exact ⟨rfl, hV⟩⟩
      · try simp only [Int32.lt_iff_toInt_lt, Int32.le_iff_toInt_le, ← Int32.toInt_inj, Int32.toInt_toInt64, ti_m14, ti_m13, ti_m12, ti_m11, ti_m10, ti_m9, ti_m6, ti_m5, ti_m4, ti_m3, ti_m2, ti_m1, ti_0, ti_1, ti_2, ti_3, ti_4, ti_5, ti_6, ti_7, ti_8, ti_9, ti_10, ti_11, ti_12, ti_19, ti_20, ti_21, ti_44, ti_45, ti_48, ti_57, ti_59, ti_60, ti_98, ti_99, ti_100, ti_101, ti_103, ti_108, ti_110, ti_114, ti_127] at c23
        subst hp
        exact ⟨⟨hI, hKr⟩, by rw [show rnA V a1 a2 a3 = (-1, V) from (by unfold rnA; rw [if_neg (not_not_intro (show 0 ≤ a1.toInt ∧ a1.toInt < (rN V : Int) by omega)), if_pos (by omega)])]; exact ⟨rfl, hV⟩⟩
set_option maxRecDepth 100000 in
theorem f_X8_bumper (a1 : Int32) (a2 : Int32) (a3 : Int32) {lg0 : LGt} {it0 : ITt} (hI : I8 lg0 it0) (V : Rlv) (hV : RV lg0 it0 2 V) (hVO : VO V) : w_X8_bumper a1 a2 a3 (fun (v : Int32) (lg' : LGt) (it' : ITt) => (I8 lg' it' ∧ Kc (fun j => (2 ≤ j ∧ j < 19) ∨ (486 ≤ j ∧ j < 489)) lg0 it0 lg' it') ∧ (v = (bmA V a1 a2 a3).1 ∧ RV lg' it' 2 (bmA V a1 a2 a3).2))  lg0 it0 := by
  have hb_a1 := And.intro a1.le_toInt a1.toInt_lt
  have hb_a2 := And.intro a2.le_toInt a2.toInt_lt
  have hb_a3 := And.intro a3.le_toInt a3.toInt_lt
  have hKr : Kc (fun j => (2 ≤ j ∧ j < 19) ∨ (486 ≤ j ∧ j < 489)) lg0 it0 lg0 it0 := kc_r
  generalize hp : (fun (v : Int32) (lg' : LGt) (it' : ITt) => (I8 lg' it' ∧ Kc (fun j => (2 ≤ j ∧ j < 19) ∨ (486 ≤ j ∧ j < 489)) lg0 it0 lg' it') ∧ (v = (bmA V a1 a2 a3).1 ∧ RV lg' it' 2 (bmA V a1 a2 a3).2)) = Pz
  unfold w_X8_bumper
  have hnV : rN V = (it0 2 0).toNatClampNeg := by rw [← hV.1]; rfl
  have f2 := i8_3 hI (obr in_rb_2)
  have hkn := cl32 f2.1
  have hrE : rE V = it0 2 4 := by rw [← hV.1]; rfl
  have hrA : rA V = it0 18 0 := by rw [← hV.1]; rfl
  have hrB : rB V = it0 18 1 := by rw [← hV.1]; rfl
  refine ⟨fun c10 => ?_, fun c10 => ?_⟩
  · try simp only [Int32.lt_iff_toInt_lt, Int32.le_iff_toInt_le, ← Int32.toInt_inj, Int32.toInt_toInt64, ti_m14, ti_m13, ti_m12, ti_m11, ti_m10, ti_m9, ti_m6, ti_m5, ti_m4, ti_m3, ti_m2, ti_m1, ti_0, ti_1, ti_2, ti_3, ti_4, ti_5, ti_6, ti_7, ti_8, ti_9, ti_10, ti_11, ti_12, ti_19, ti_20, ti_21, ti_44, ti_45, ti_48, ti_57, ti_59, ti_60, ti_98, ti_99, ti_100, ti_101, ti_103, ti_108, ti_110, ti_114, ti_127] at c10
    subst hp
    exact ⟨⟨hI, hKr⟩, by rw [show bmA V a1 a2 a3 = (-2, V) from bm_r (by omega)]; exact ⟨rfl, hV⟩⟩
  · try simp only [Int32.lt_iff_toInt_lt, Int32.le_iff_toInt_le, ← Int32.toInt_inj, Int32.toInt_toInt64, ti_m14, ti_m13, ti_m12, ti_m11, ti_m10, ti_m9, ti_m6, ti_m5, ti_m4, ti_m3, ti_m2, ti_m1, ti_0, ti_1, ti_2, ti_3, ti_4, ti_5, ti_6, ti_7, ti_8, ti_9, ti_10, ti_11, ti_12, ti_19, ti_20, ti_21, ti_44, ti_45, ti_48, ti_57, ti_59, ti_60, ti_98, ti_99, ti_100, ti_101, ti_103, ti_108, ti_110, ti_114, ti_127] at c10
    refine ⟨fun c16 => ?_, fun c16 => ?_⟩
    · try simp only [Int32.lt_iff_toInt_lt, Int32.le_iff_toInt_le, ← Int32.toInt_inj, Int32.toInt_toInt64, ti_m14, ti_m13, ti_m12, ti_m11, ti_m10, ti_m9, ti_m6, ti_m5, ti_m4, ti_m3, ti_m2, ti_m1, ti_0, ti_1, ti_2, ti_3, ti_4, ti_5, ti_6, ti_7, ti_8, ti_9, ti_10, ti_11, ti_12, ti_19, ti_20, ti_21, ti_44, ti_45, ti_48, ti_57, ti_59, ti_60, ti_98, ti_99, ti_100, ti_101, ti_103, ti_108, ti_110, ti_114, ti_127] at c16
      subst hp
      exact ⟨⟨hI, hKr⟩, by rw [show bmA V a1 a2 a3 = (-2, V) from bm_r (by omega)]; exact ⟨rfl, hV⟩⟩
    · try simp only [Int32.lt_iff_toInt_lt, Int32.le_iff_toInt_le, ← Int32.toInt_inj, Int32.toInt_toInt64, ti_m14, ti_m13, ti_m12, ti_m11, ti_m10, ti_m9, ti_m6, ti_m5, ti_m4, ti_m3, ti_m2, ti_m1, ti_0, ti_1, ti_2, ti_3, ti_4, ti_5, ti_6, ti_7, ti_8, ti_9, ti_10, ti_11, ti_12, ti_19, ti_20, ti_21, ti_44, ti_45, ti_48, ti_57, ti_59, ti_60, ti_98, ti_99, ti_100, ti_101, ti_103, ti_108, ti_110, ti_114, ti_127] at c16
      refine ⟨fun c23 => ?_, fun c23 => ?_⟩
      · try simp only [Int32.lt_iff_toInt_lt, Int32.le_iff_toInt_le, ← Int32.toInt_inj, Int32.toInt_toInt64, ti_m14, ti_m13, ti_m12, ti_m11, ti_m10, ti_m9, ti_m6, ti_m5, ti_m4, ti_m3, ti_m2, ti_m1, ti_0, ti_1, ti_2, ti_3, ti_4, ti_5, ti_6, ti_7, ti_8, ti_9, ti_10, ti_11, ti_12, ti_19, ti_20, ti_21, ti_44, ti_45, ti_48, ti_57, ti_59, ti_60, ti_98, ti_99, ti_100, ti_101, ti_103, ti_108, ti_110, ti_114, ti_127] at c23
        subst hp
        exact ⟨⟨hI, hKr⟩, by rw [show bmA V a1 a2 a3 = (-2, V) from bm_r (by omega)]; exact ⟨rfl, hV⟩⟩
      · try simp only [Int32.lt_iff_toInt_lt, Int32.le_iff_toInt_le, ← Int32.toInt_inj, Int32.toInt_toInt64, ti_m14, ti_m13, ti_m12, ti_m11, ti_m10, ti_m9, ti_m6, ti_m5, ti_m4, ti_m3, ti_m2, ti_m1, ti_0, ti_1, ti_2, ti_3, ti_4, ti_5, ti_6, ti_7, ti_8, ti_9, ti_10, ti_11, ti_12, ti_19, ti_20, ti_21, ti_44, ti_45, ti_48, ti_57, ti_59, ti_60, ti_98, ti_99, ti_100, ti_101, ti_103, ti_108, ti_110, ti_114, ti_127] at c23
        refine ⟨fun c30 => ?_, fun c30 => ?_⟩
        · try simp only [Int32.lt_iff_toInt_lt, Int32.le_iff_toInt_le, ← Int32.toInt_inj, Int32.toInt_toInt64, ti_m14, ti_m13, ti_m12, ti_m11, ti_m10, ti_m9, ti_m6, ti_m5, ti_m4, ti_m3, ti_m2, ti_m1, ti_0, ti_1, ti_2, ti_3, ti_4, ti_5, ti_6, ti_7, ti_8, ti_9, ti_10, ti_11, ti_12, ti_19, ti_20, ti_21, ti_44, ti_45, ti_48, ti_57, ti_59, ti_60, ti_98, ti_99, ti_100, ti_101, ti_103, ti_108, ti_110, ti_114, ti_127] at c30
          have f46 : 0 ≤ (it0 2 0).toInt ∧ (it0 2 0).toInt ≤ 6 := i8_3 hI (oq_2)
          refine ⟨fun c41 => ?_, fun c41 => ?_⟩
          · try simp only [Int32.lt_iff_toInt_lt, Int32.le_iff_toInt_le, ← Int32.toInt_inj, Int32.toInt_toInt64, ti_m14, ti_m13, ti_m12, ti_m11, ti_m10, ti_m9, ti_m6, ti_m5, ti_m4, ti_m3, ti_m2, ti_m1, ti_0, ti_1, ti_2, ti_3, ti_4, ti_5, ti_6, ti_7, ti_8, ti_9, ti_10, ti_11, ti_12, ti_19, ti_20, ti_21, ti_44, ti_45, ti_48, ti_57, ti_59, ti_60, ti_98, ti_99, ti_100, ti_101, ti_103, ti_108, ti_110, ti_114, ti_127] at c41
            unfold w_X8_bumper_b109
            refine ⟨fun c116 => ?_, fun c116 => ?_⟩
            · try simp only [Int32.lt_iff_toInt_lt, Int32.le_iff_toInt_le, ← Int32.toInt_inj, Int32.toInt_toInt64, ti_m14, ti_m13, ti_m12, ti_m11, ti_m10, ti_m9, ti_m6, ti_m5, ti_m4, ti_m3, ti_m2, ti_m1, ti_0, ti_1, ti_2, ti_3, ti_4, ti_5, ti_6, ti_7, ti_8, ti_9, ti_10, ti_11, ti_12, ti_19, ti_20, ti_21, ti_44, ti_45, ti_48, ti_57, ti_59, ti_60, ti_98, ti_99, ti_100, ti_101, ti_103, ti_108, ti_110, ti_114, ti_127] at c116
              have hi47 : vp_in (it0 2 0) 6 := vp_of (by first | omega | ((try simp only [Int32.lt_iff_toInt_lt, Int32.le_iff_toInt_le, ← Int32.toInt_inj, Int32.toInt_toInt64, ti_m14, ti_m13, ti_m12, ti_m11, ti_m10, ti_m9, ti_m6, ti_m5, ti_m4, ti_m3, ti_m2, ti_m1, ti_0, ti_1, ti_2, ti_3, ti_4, ti_5, ti_6, ti_7, ti_8, ti_9, ti_10, ti_11, ti_12, ti_19, ti_20, ti_21, ti_44, ti_45, ti_48, ti_57, ti_59, ti_60, ti_98, ti_99, ti_100, ti_101, ti_103, ti_108, ti_110, ti_114, ti_127]); omega) | (split <;> omega)) (by first | omega | ((try simp only [Int32.lt_iff_toInt_lt, Int32.le_iff_toInt_le, ← Int32.toInt_inj, Int32.toInt_toInt64, ti_m14, ti_m13, ti_m12, ti_m11, ti_m10, ti_m9, ti_m6, ti_m5, ti_m4, ti_m3, ti_m2, ti_m1, ti_0, ti_1, ti_2, ti_3, ti_4, ti_5, ti_6, ti_7, ti_8, ti_9, ti_10, ti_11, ti_12, ti_19, ti_20, ti_21, ti_44, ti_45, ti_48, ti_57, ti_59, ti_60, ti_98, ti_99, ti_100, ti_101, ti_103, ti_108, ti_110, ti_114, ti_127]); omega) | (split <;> omega))
              refine ⟨hi47, ?_⟩
              have hz48 := vlt hi47
              intro lg49 em_lg49 it50 em_it50
              have hI51 : I8 lg49 it50 := by rw [em_it50]; exact i8_u hI (ok8_1 ((rpo4 in_rb_2 (vlt (hi47)))) (fun _ => Or.inl rfl))
              have hK52 : Kc (fun j => (2 ≤ j ∧ j < 19) ∨ (486 ≤ j ∧ j < 489)) lg0 it0 lg49 it50 := by rw [em_lg49, em_it50]; exact kc_f (by first | omega | (dsimp only; omega)) hKr
              have T53 : abF (fv lg49 it50 (6 + 2 * (it0 2 0).toNatClampNeg)) = (some (a1.toInt64, 1)) := by rw [em_lg49, em_it50]; exact (congrArg abF fv_a3).trans (abF_0 rfl)
              try have e54 : (it50 2 0).toInt = (it0 2 0).toInt := by rw [em_it50]; exact congrArg Int32.toInt (congrFun (u2_row (by omega)) 0)
              have hi55 : vp_in (it0 2 0) 6 := vp_of (by first | omega | ((try simp only [Int32.lt_iff_toInt_lt, Int32.le_iff_toInt_le, ← Int32.toInt_inj, Int32.toInt_toInt64, ti_m14, ti_m13, ti_m12, ti_m11, ti_m10, ti_m9, ti_m6, ti_m5, ti_m4, ti_m3, ti_m2, ti_m1, ti_0, ti_1, ti_2, ti_3, ti_4, ti_5, ti_6, ti_7, ti_8, ti_9, ti_10, ti_11, ti_12, ti_19, ti_20, ti_21, ti_44, ti_45, ti_48, ti_57, ti_59, ti_60, ti_98, ti_99, ti_100, ti_101, ti_103, ti_108, ti_110, ti_114, ti_127]); omega) | (split <;> omega)) (by first | omega | ((try simp only [Int32.lt_iff_toInt_lt, Int32.le_iff_toInt_le, ← Int32.toInt_inj, Int32.toInt_toInt64, ti_m14, ti_m13, ti_m12, ti_m11, ti_m10, ti_m9, ti_m6, ti_m5, ti_m4, ti_m3, ti_m2, ti_m1, ti_0, ti_1, ti_2, ti_3, ti_4, ti_5, ti_6, ti_7, ti_8, ti_9, ti_10, ti_11, ti_12, ti_19, ti_20, ti_21, ti_44, ti_45, ti_48, ti_57, ti_59, ti_60, ti_98, ti_99, ti_100, ti_101, ti_103, ti_108, ti_110, ti_114, ti_127]); omega) | (split <;> omega))
              refine ⟨hi55, ?_⟩
              have hz56 := vlt hi55
              intro it57 em58
              have hI59 : I8 lg49 it57 := by rw [em58]; exact i8_u hI51 (ok8_a (oq_3) (by decide))
              have hK60 : Kc (fun j => (2 ≤ j ∧ j < 19) ∨ (486 ≤ j ∧ j < 489)) lg0 it0 lg49 it57 := by rw [em58]; exact kc_u (by first | omega | (dsimp only; omega)) hK52
              have e61 : (it57 2 0).toInt = (it50 2 0).toInt := by rw [em58]; exact congrArg Int32.toInt (congrFun (u2_row (by decide)) 0)
              have T62 : abF (fv lg49 it57 (6 + 2 * (it0 2 0).toNatClampNeg)) = (some (a1.toInt64, 1)) := by rw [em58, fv_ui (by omega)]; exact T53
              have hi63 : vp_in (it0 2 0) 6 := vp_of (by first | omega | ((try simp only [Int32.lt_iff_toInt_lt, Int32.le_iff_toInt_le, ← Int32.toInt_inj, Int32.toInt_toInt64, ti_m14, ti_m13, ti_m12, ti_m11, ti_m10, ti_m9, ti_m6, ti_m5, ti_m4, ti_m3, ti_m2, ti_m1, ti_0, ti_1, ti_2, ti_3, ti_4, ti_5, ti_6, ti_7, ti_8, ti_9, ti_10, ti_11, ti_12, ti_19, ti_20, ti_21, ti_44, ti_45, ti_48, ti_57, ti_59, ti_60, ti_98, ti_99, ti_100, ti_101, ti_103, ti_108, ti_110, ti_114, ti_127]); omega) | (split <;> omega)) (by first | omega | ((try simp only [Int32.lt_iff_toInt_lt, Int32.le_iff_toInt_le, ← Int32.toInt_inj, Int32.toInt_toInt64, ti_m14, ti_m13, ti_m12, ti_m11, ti_m10, ti_m9, ti_m6, ti_m5, ti_m4, ti_m3, ti_m2, ti_m1, ti_0, ti_1, ti_2, ti_3, ti_4, ti_5, ti_6, ti_7, ti_8, ti_9, ti_10, ti_11, ti_12, ti_19, ti_20, ti_21, ti_44, ti_45, ti_48, ti_57, ti_59, ti_60, ti_98, ti_99, ti_100, ti_101, ti_103, ti_108, ti_110, ti_114, ti_127]); omega) | (split <;> omega))
              refine ⟨hi63, ?_⟩
              have hz64 := vlt hi63
              intro lg65 em_lg65 it66 em_it66
              have hI67 : I8 lg65 it66 := by rw [em_it66]; exact i8_u hI59 (ok8_1 ((rpo5 in_rb_2 (vlt (hi63)))) (fun _ => Or.inl rfl))
              have hK68 : Kc (fun j => (2 ≤ j ∧ j < 19) ∨ (486 ≤ j ∧ j < 489)) lg0 it0 lg65 it66 := by rw [em_lg65, em_it66]; exact kc_f (by first | omega | (dsimp only; omega)) hK60
              have T69 : abF (fv lg65 it66 (7 + 2 * (it0 2 0).toNatClampNeg)) = (some (a3.toInt64, 1)) := by rw [em_lg65, em_it66]; exact (congrArg abF fv_a3).trans (abF_0 rfl)
              have T70 : abF (fv lg65 it66 (6 + 2 * (it0 2 0).toNatClampNeg)) = (some (a1.toInt64, 1)) := by rw [em_lg65, em_it66, fv_ne (by omega)]; exact T62
              try have e71 : (it66 2 0).toInt = (it57 2 0).toInt := by rw [em_it66]; exact congrArg Int32.toInt (congrFun (u2_row (by omega)) 0)
              try have f72 : (((it0 2 0) + 1) : Int32).toInt = ((it0 2 0)).toInt + 1 := ad32 (a := ((it0 2 0)).toInt) (b := 1) (rfl) (ti_1) (by omega) (by omega)
              intro it73 em74
              have hI75 : I8 lg65 it73 := by rw [em74]; exact i8_u hI67 (ok8_3 (oq_2) (fun _ => by (try simp only [Int32.lt_iff_toInt_lt, Int32.le_iff_toInt_le, ← Int32.toInt_inj, Int32.toInt_toInt64, ti_m14, ti_m13, ti_m12, ti_m11, ti_m10, ti_m9, ti_m6, ti_m5, ti_m4, ti_m3, ti_m2, ti_m1, ti_0, ti_1, ti_2, ti_3, ti_4, ti_5, ti_6, ti_7, ti_8, ti_9, ti_10, ti_11, ti_12, ti_19, ti_20, ti_21, ti_44, ti_45, ti_48, ti_57, ti_59, ti_60, ti_98, ti_99, ti_100, ti_101, ti_103, ti_108, ti_110, ti_114, ti_127]); omega))
              have hK76 : Kc (fun j => (2 ≤ j ∧ j < 19) ∨ (486 ≤ j ∧ j < 489)) lg0 it0 lg65 it73 := by rw [em74]; exact kc_u (by first | omega | (dsimp only; omega)) hK68
              have T78 : abF (fv lg65 it73 (7 + 2 * (it0 2 0).toNatClampNeg)) = (some (a3.toInt64, 1)) := by rw [em74, fv_ui (by omega)]; exact T69
              have T79 : abF (fv lg65 it73 (6 + 2 * (it0 2 0).toNatClampNeg)) = (some (a1.toInt64, 1)) := by rw [em74, fv_ui (by omega)]; exact T70
              have e80 : (it73 2 0).toInt = (((it0 2 0) + 1) : Int32).toInt := by rw [em74, u2_eq]
              subst hp
              exact ⟨⟨hI75, hK76⟩, by rw [show bmA V a1 a2 a3 = (Int32.ofNat (rN V), addB V (a1.toInt64, 1) (a3.toInt64, 1) a2) from bm_y ⟨by omega, by omega, by omega⟩ (nr_z (by omega)) (by omega)]; exact ⟨by rw [hnV, ofN (by omega)], rv_add (r := 2) (n := it0 2 0) hV rfl (by omega) em_lg49 em_it50 em58 em_lg65 em_it66 em74 (by omega)⟩⟩
            · try simp only [Int32.lt_iff_toInt_lt, Int32.le_iff_toInt_le, ← Int32.toInt_inj, Int32.toInt_toInt64, ti_m14, ti_m13, ti_m12, ti_m11, ti_m10, ti_m9, ti_m6, ti_m5, ti_m4, ti_m3, ti_m2, ti_m1, ti_0, ti_1, ti_2, ti_3, ti_4, ti_5, ti_6, ti_7, ti_8, ti_9, ti_10, ti_11, ti_12, ti_19, ti_20, ti_21, ti_44, ti_45, ti_48, ti_57, ti_59, ti_60, ti_98, ti_99, ti_100, ti_101, ti_103, ti_108, ti_110, ti_114, ti_127] at c116
              subst hp
              exact ⟨⟨hI, hKr⟩, by rw [show bmA V a1 a2 a3 = (-4, V) from bm_f ⟨by omega, by omega, by omega⟩ (nr_z (by omega)) (by omega)]; exact ⟨rfl, hV⟩⟩
          · try simp only [Int32.lt_iff_toInt_lt, Int32.le_iff_toInt_le, ← Int32.toInt_inj, Int32.toInt_toInt64, ti_m14, ti_m13, ti_m12, ti_m11, ti_m10, ti_m9, ti_m6, ti_m5, ti_m4, ti_m3, ti_m2, ti_m1, ti_0, ti_1, ti_2, ti_3, ti_4, ti_5, ti_6, ti_7, ti_8, ti_9, ti_10, ti_11, ti_12, ti_19, ti_20, ti_21, ti_44, ti_45, ti_48, ti_57, ti_59, ti_60, ti_98, ti_99, ti_100, ti_101, ti_103, ti_108, ti_110, ti_114, ti_127] at c41
            try have f81 : (((it0 2 0) - 1) : Int32).toInt = ((it0 2 0)).toInt - 1 := sb32 (a := ((it0 2 0)).toInt) (b := 1) (rfl) (ti_1) (by omega) (by omega)
            have hi82 : vp_in ((it0 2 0) - 1) 6 := vp_of (by first | omega | ((try simp only [Int32.lt_iff_toInt_lt, Int32.le_iff_toInt_le, ← Int32.toInt_inj, Int32.toInt_toInt64, ti_m14, ti_m13, ti_m12, ti_m11, ti_m10, ti_m9, ti_m6, ti_m5, ti_m4, ti_m3, ti_m2, ti_m1, ti_0, ti_1, ti_2, ti_3, ti_4, ti_5, ti_6, ti_7, ti_8, ti_9, ti_10, ti_11, ti_12, ti_19, ti_20, ti_21, ti_44, ti_45, ti_48, ti_57, ti_59, ti_60, ti_98, ti_99, ti_100, ti_101, ti_103, ti_108, ti_110, ti_114, ti_127]); omega) | (split <;> omega)) (by first | omega | ((try simp only [Int32.lt_iff_toInt_lt, Int32.le_iff_toInt_le, ← Int32.toInt_inj, Int32.toInt_toInt64, ti_m14, ti_m13, ti_m12, ti_m11, ti_m10, ti_m9, ti_m6, ti_m5, ti_m4, ti_m3, ti_m2, ti_m1, ti_0, ti_1, ti_2, ti_3, ti_4, ti_5, ti_6, ti_7, ti_8, ti_9, ti_10, ti_11, ti_12, ti_19, ti_20, ti_21, ti_44, ti_45, ti_48, ti_57, ti_59, ti_60, ti_98, ti_99, ti_100, ti_101, ti_103, ti_108, ti_110, ti_114, ti_127]); omega) | (split <;> omega))
            refine ⟨hi82, ?_⟩
            have hz83 := vlt hi82
            have hc86 : it0 (6 + 2 * ((it0 2 0) - 1).toNatClampNeg) 2 &&& 1 = it0 (6 + 2 * ((it0 2 0) - 1).toNatClampNeg) 2 := ib (i8_1 hI ((rpo4 in_rb_2 (vlt (hi82)))))
            refine ⟨hc86, ?_⟩
            intro lg84 em_lg84 it85 em_it85
            have hI87 : I8 lg84 it85 := by rw [em_it85]; exact i8_u hI (ok8_1 (oq_486) (fun _ => i8_1 hI ((rpo4 in_rb_2 (vlt (hi82))))))
            have hK88 : Kc (fun j => (2 ≤ j ∧ j < 19) ∨ (486 ≤ j ∧ j < 489)) lg0 it0 lg84 it85 := by rw [em_lg84, em_it85]; exact kc_f (by first | omega | (dsimp only; omega)) hKr
            have tf89 : abF (fv lg0 it0 (6 + 2 * ((it0 2 0) - 1).toNatClampNeg)) = (some (rP V (rN V - 1))) := tPV (r := 2) (i := rN V - 1) (j := ((it0 2 0) - 1).toNatClampNeg) hV (kc_r (S := fun _ => False)) (by have z := cl_sub1 (a := it0 2 0) (by omega); omega) (by have z := cl_sub1 (a := it0 2 0) (by omega); omega) (fun q => q)
            have T90 : abF (fv lg84 it85 486) = (some (rP V (rN V - 1))) := by rw [em_lg84, em_it85]; exact (congrArg abF fv_a3).trans tf89
            have e91 : (it85 2 0).toInt = (it0 2 0).toInt := by rw [em_it85]; exact congrArg Int32.toInt (congrFun (u2_row (by decide)) 0)
            have F92 : RV lg84 it85 2 V := by rw [em_lg84, em_it85]; exact rv_f hV (by first | omega | (dsimp only; omega))
            intro lg93 em_lg93 it94 em_it94
            have hI95 : I8 lg93 it94 := by rw [em_it94]; exact i8_u hI87 (ok8_1 (oq_488) (fun _ => Or.inl rfl))
            have hK96 : Kc (fun j => (2 ≤ j ∧ j < 19) ∨ (486 ≤ j ∧ j < 489)) lg0 it0 lg93 it94 := by rw [em_lg93, em_it94]; exact kc_f (by first | omega | (dsimp only; omega)) hK88
            have T97 : abF (fv lg93 it94 488) = (some (a1.toInt64, 1)) := by rw [em_lg93, em_it94]; exact (congrArg abF fv_a3).trans (abF_0 rfl)
            have T98 : abF (fv lg93 it94 486) = (some (rP V (rN V - 1))) := by rw [em_lg93, em_it94, fv_ne (by omega)]; exact T90
            have e99 : (it94 2 0).toInt = (it85 2 0).toInt := by rw [em_it94]; exact congrArg Int32.toInt (congrFun (u2_row (by decide)) 0)
            have F100 : RV lg93 it94 2 V := by rw [em_lg93, em_it94]; exact rv_f F92 (by first | omega | (dsimp only; omega))
            intro q101 em_q101 lg102 em_lg102 it103 em_it103
            have hI104 : I8 lg102 it103 := by rw [em_it103]; exact i8_u hI95 (ok8_1 (oq_486) (fun _ => by rw [em_q101]; exact stF_01 _ _ _ _ _))
            have hK105 : Kc (fun j => (2 ≤ j ∧ j < 19) ∨ (486 ≤ j ∧ j < 489)) lg0 it0 lg102 it103 := by rw [em_lg102, em_it103]; exact kc_f (by first | omega | (dsimp only; omega)) hK96
            have T106 : abF (fv lg102 it103 486) = (oL (some (rP V (rN V - 1))) (some (a1.toInt64, 1))) := by rw [em_lg102, em_it103, fv_at, em_q101, ab_l, T98, T97]
            have T107 : abF (fv lg102 it103 488) = (some (a1.toInt64, 1)) := by rw [em_lg102, em_it103, fv_ne (by omega)]; exact T97
            have e108 : (it103 2 0).toInt = (it94 2 0).toInt := by rw [em_it103]; exact congrArg Int32.toInt (congrFun (u2_row (by decide)) 0)
            have F109 : RV lg102 it103 2 V := by rw [em_lg102, em_it103]; exact rv_f F100 (by first | omega | (dsimp only; omega))
            refine ⟨fun c91 => ?_, fun c91 => ?_⟩
            · try simp only [Int32.lt_iff_toInt_lt, Int32.le_iff_toInt_le, ← Int32.toInt_inj, Int32.toInt_toInt64, ti_m14, ti_m13, ti_m12, ti_m11, ti_m10, ti_m9, ti_m6, ti_m5, ti_m4, ti_m3, ti_m2, ti_m1, ti_0, ti_1, ti_2, ti_3, ti_4, ti_5, ti_6, ti_7, ti_8, ti_9, ti_10, ti_11, ti_12, ti_19, ti_20, ti_21, ti_44, ti_45, ti_48, ti_57, ti_59, ti_60, ti_98, ti_99, ti_100, ti_101, ti_103, ti_108, ti_110, ti_114, ti_127] at c91
              subst hp
              exact ⟨⟨hI104, hK105⟩, by rw [show bmA V a1 a2 a3 = (-3, V) from bm_s ⟨by omega, by omega, by omega⟩ (nr_o (by omega) (tno T106 c91))]; exact ⟨rfl, F109⟩⟩
            · try simp only [Int32.lt_iff_toInt_lt, Int32.le_iff_toInt_le, ← Int32.toInt_inj, Int32.toInt_toInt64, ti_m14, ti_m13, ti_m12, ti_m11, ti_m10, ti_m9, ti_m6, ti_m5, ti_m4, ti_m3, ti_m2, ti_m1, ti_0, ti_1, ti_2, ti_3, ti_4, ti_5, ti_6, ti_7, ti_8, ti_9, ti_10, ti_11, ti_12, ti_19, ti_20, ti_21, ti_44, ti_45, ti_48, ti_57, ti_59, ti_60, ti_98, ti_99, ti_100, ti_101, ti_103, ti_108, ti_110, ti_114, ti_127] at c91
              refine ⟨fun c103 => ?_, fun c103 => ?_⟩
              · try simp only [Int32.lt_iff_toInt_lt, Int32.le_iff_toInt_le, ← Int32.toInt_inj, Int32.toInt_toInt64, ti_m14, ti_m13, ti_m12, ti_m11, ti_m10, ti_m9, ti_m6, ti_m5, ti_m4, ti_m3, ti_m2, ti_m1, ti_0, ti_1, ti_2, ti_3, ti_4, ti_5, ti_6, ti_7, ti_8, ti_9, ti_10, ti_11, ti_12, ti_19, ti_20, ti_21, ti_44, ti_45, ti_48, ti_57, ti_59, ti_60, ti_98, ti_99, ti_100, ti_101, ti_103, ti_108, ti_110, ti_114, ti_127] at c103
                unfold w_X8_bumper_b109
                have f110 : 0 ≤ (it103 2 0).toInt ∧ (it103 2 0).toInt ≤ 6 := i8_3 hI104 (oq_2)
                refine ⟨fun c116 => ?_, fun c116 => ?_⟩
                · try simp only [Int32.lt_iff_toInt_lt, Int32.le_iff_toInt_le, ← Int32.toInt_inj, Int32.toInt_toInt64, ti_m14, ti_m13, ti_m12, ti_m11, ti_m10, ti_m9, ti_m6, ti_m5, ti_m4, ti_m3, ti_m2, ti_m1, ti_0, ti_1, ti_2, ti_3, ti_4, ti_5, ti_6, ti_7, ti_8, ti_9, ti_10, ti_11, ti_12, ti_19, ti_20, ti_21, ti_44, ti_45, ti_48, ti_57, ti_59, ti_60, ti_98, ti_99, ti_100, ti_101, ti_103, ti_108, ti_110, ti_114, ti_127] at c116
                  have hi111 : vp_in (it103 2 0) 6 := vp_of (by first | omega | ((try simp only [Int32.lt_iff_toInt_lt, Int32.le_iff_toInt_le, ← Int32.toInt_inj, Int32.toInt_toInt64, ti_m14, ti_m13, ti_m12, ti_m11, ti_m10, ti_m9, ti_m6, ti_m5, ti_m4, ti_m3, ti_m2, ti_m1, ti_0, ti_1, ti_2, ti_3, ti_4, ti_5, ti_6, ti_7, ti_8, ti_9, ti_10, ti_11, ti_12, ti_19, ti_20, ti_21, ti_44, ti_45, ti_48, ti_57, ti_59, ti_60, ti_98, ti_99, ti_100, ti_101, ti_103, ti_108, ti_110, ti_114, ti_127]); omega) | (split <;> omega)) (by first | omega | ((try simp only [Int32.lt_iff_toInt_lt, Int32.le_iff_toInt_le, ← Int32.toInt_inj, Int32.toInt_toInt64, ti_m14, ti_m13, ti_m12, ti_m11, ti_m10, ti_m9, ti_m6, ti_m5, ti_m4, ti_m3, ti_m2, ti_m1, ti_0, ti_1, ti_2, ti_3, ti_4, ti_5, ti_6, ti_7, ti_8, ti_9, ti_10, ti_11, ti_12, ti_19, ti_20, ti_21, ti_44, ti_45, ti_48, ti_57, ti_59, ti_60, ti_98, ti_99, ti_100, ti_101, ti_103, ti_108, ti_110, ti_114, ti_127]); omega) | (split <;> omega))
                  refine ⟨hi111, ?_⟩
                  have hz112 := vlt hi111
                  intro lg113 em_lg113 it114 em_it114
                  have hI115 : I8 lg113 it114 := by rw [em_it114]; exact i8_u hI104 (ok8_1 ((rpo4 in_rb_2 (vlt (hi111)))) (fun _ => Or.inl rfl))
                  have hK116 : Kc (fun j => (2 ≤ j ∧ j < 19) ∨ (486 ≤ j ∧ j < 489)) lg0 it0 lg113 it114 := by rw [em_lg113, em_it114]; exact kc_f (by first | omega | (dsimp only; omega)) hK105
                  have T117 : abF (fv lg113 it114 (6 + 2 * (it103 2 0).toNatClampNeg)) = (some (a1.toInt64, 1)) := by rw [em_lg113, em_it114]; exact (congrArg abF fv_a3).trans (abF_0 rfl)
                  have T118 : abF (fv lg113 it114 486) = (oL (some (rP V (rN V - 1))) (some (a1.toInt64, 1))) := by rw [em_lg113, em_it114, fv_ne (by omega)]; exact T106
                  have T119 : abF (fv lg113 it114 488) = (some (a1.toInt64, 1)) := by rw [em_lg113, em_it114, fv_ne (by omega)]; exact T107
                  try have e120 : (it114 2 0).toInt = (it103 2 0).toInt := by rw [em_it114]; exact congrArg Int32.toInt (congrFun (u2_row (by omega)) 0)
                  try have e121 : (it114 486 2).toInt = (it103 486 2).toInt := by rw [em_it114]; exact congrArg Int32.toInt (congrFun (u2_row (by omega)) 2)
                  have hi122 : vp_in (it103 2 0) 6 := vp_of (by first | omega | ((try simp only [Int32.lt_iff_toInt_lt, Int32.le_iff_toInt_le, ← Int32.toInt_inj, Int32.toInt_toInt64, ti_m14, ti_m13, ti_m12, ti_m11, ti_m10, ti_m9, ti_m6, ti_m5, ti_m4, ti_m3, ti_m2, ti_m1, ti_0, ti_1, ti_2, ti_3, ti_4, ti_5, ti_6, ti_7, ti_8, ti_9, ti_10, ti_11, ti_12, ti_19, ti_20, ti_21, ti_44, ti_45, ti_48, ti_57, ti_59, ti_60, ti_98, ti_99, ti_100, ti_101, ti_103, ti_108, ti_110, ti_114, ti_127]); omega) | (split <;> omega)) (by first | omega | ((try simp only [Int32.lt_iff_toInt_lt, Int32.le_iff_toInt_le, ← Int32.toInt_inj, Int32.toInt_toInt64, ti_m14, ti_m13, ti_m12, ti_m11, ti_m10, ti_m9, ti_m6, ti_m5, ti_m4, ti_m3, ti_m2, ti_m1, ti_0, ti_1, ti_2, ti_3, ti_4, ti_5, ti_6, ti_7, ti_8, ti_9, ti_10, ti_11, ti_12, ti_19, ti_20, ti_21, ti_44, ti_45, ti_48, ti_57, ti_59, ti_60, ti_98, ti_99, ti_100, ti_101, ti_103, ti_108, ti_110, ti_114, ti_127]); omega) | (split <;> omega))
                  refine ⟨hi122, ?_⟩
                  have hz123 := vlt hi122
                  intro it124 em125
                  have hI126 : I8 lg113 it124 := by rw [em125]; exact i8_u hI115 (ok8_a (oq_3) (by decide))
                  have hK127 : Kc (fun j => (2 ≤ j ∧ j < 19) ∨ (486 ≤ j ∧ j < 489)) lg0 it0 lg113 it124 := by rw [em125]; exact kc_u (by first | omega | (dsimp only; omega)) hK116
                  have e128 : (it124 2 0).toInt = (it114 2 0).toInt := by rw [em125]; exact congrArg Int32.toInt (congrFun (u2_row (by decide)) 0)
                  have e129 : (it124 486 2).toInt = (it114 486 2).toInt := by rw [em125]; exact congrArg Int32.toInt (congrFun (u2_row (by decide)) 2)
                  have T130 : abF (fv lg113 it124 (6 + 2 * (it103 2 0).toNatClampNeg)) = (some (a1.toInt64, 1)) := by rw [em125, fv_ui (by omega)]; exact T117
                  have T131 : abF (fv lg113 it124 486) = (oL (some (rP V (rN V - 1))) (some (a1.toInt64, 1))) := by rw [em125, fv_ui (by omega)]; exact T118
                  have T132 : abF (fv lg113 it124 488) = (some (a1.toInt64, 1)) := by rw [em125, fv_ui (by omega)]; exact T119
                  have hi133 : vp_in (it103 2 0) 6 := vp_of (by first | omega | ((try simp only [Int32.lt_iff_toInt_lt, Int32.le_iff_toInt_le, ← Int32.toInt_inj, Int32.toInt_toInt64, ti_m14, ti_m13, ti_m12, ti_m11, ti_m10, ti_m9, ti_m6, ti_m5, ti_m4, ti_m3, ti_m2, ti_m1, ti_0, ti_1, ti_2, ti_3, ti_4, ti_5, ti_6, ti_7, ti_8, ti_9, ti_10, ti_11, ti_12, ti_19, ti_20, ti_21, ti_44, ti_45, ti_48, ti_57, ti_59, ti_60, ti_98, ti_99, ti_100, ti_101, ti_103, ti_108, ti_110, ti_114, ti_127]); omega) | (split <;> omega)) (by first | omega | ((try simp only [Int32.lt_iff_toInt_lt, Int32.le_iff_toInt_le, ← Int32.toInt_inj, Int32.toInt_toInt64, ti_m14, ti_m13, ti_m12, ti_m11, ti_m10, ti_m9, ti_m6, ti_m5, ti_m4, ti_m3, ti_m2, ti_m1, ti_0, ti_1, ti_2, ti_3, ti_4, ti_5, ti_6, ti_7, ti_8, ti_9, ti_10, ti_11, ti_12, ti_19, ti_20, ti_21, ti_44, ti_45, ti_48, ti_57, ti_59, ti_60, ti_98, ti_99, ti_100, ti_101, ti_103, ti_108, ti_110, ti_114, ti_127]); omega) | (split <;> omega))
                  refine ⟨hi133, ?_⟩
                  have hz134 := vlt hi133
                  intro lg135 em_lg135 it136 em_it136
                  have hI137 : I8 lg135 it136 := by rw [em_it136]; exact i8_u hI126 (ok8_1 ((rpo5 in_rb_2 (vlt (hi133)))) (fun _ => Or.inl rfl))
                  have hK138 : Kc (fun j => (2 ≤ j ∧ j < 19) ∨ (486 ≤ j ∧ j < 489)) lg0 it0 lg135 it136 := by rw [em_lg135, em_it136]; exact kc_f (by first | omega | (dsimp only; omega)) hK127
                  have T139 : abF (fv lg135 it136 (7 + 2 * (it103 2 0).toNatClampNeg)) = (some (a3.toInt64, 1)) := by rw [em_lg135, em_it136]; exact (congrArg abF fv_a3).trans (abF_0 rfl)
                  have T140 : abF (fv lg135 it136 (6 + 2 * (it103 2 0).toNatClampNeg)) = (some (a1.toInt64, 1)) := by rw [em_lg135, em_it136, fv_ne (by omega)]; exact T130
                  have T141 : abF (fv lg135 it136 486) = (oL (some (rP V (rN V - 1))) (some (a1.toInt64, 1))) := by rw [em_lg135, em_it136, fv_ne (by omega)]; exact T131
                  have T142 : abF (fv lg135 it136 488) = (some (a1.toInt64, 1)) := by rw [em_lg135, em_it136, fv_ne (by omega)]; exact T132
                  try have e143 : (it136 2 0).toInt = (it124 2 0).toInt := by rw [em_it136]; exact congrArg Int32.toInt (congrFun (u2_row (by omega)) 0)
                  try have e144 : (it136 486 2).toInt = (it124 486 2).toInt := by rw [em_it136]; exact congrArg Int32.toInt (congrFun (u2_row (by omega)) 2)
                  try have f145 : (((it103 2 0) + 1) : Int32).toInt = ((it103 2 0)).toInt + 1 := ad32 (a := ((it103 2 0)).toInt) (b := 1) (rfl) (ti_1) (by omega) (by omega)
                  intro it146 em147
                  have hI148 : I8 lg135 it146 := by rw [em147]; exact i8_u hI137 (ok8_3 (oq_2) (fun _ => by (try simp only [Int32.lt_iff_toInt_lt, Int32.le_iff_toInt_le, ← Int32.toInt_inj, Int32.toInt_toInt64, ti_m14, ti_m13, ti_m12, ti_m11, ti_m10, ti_m9, ti_m6, ti_m5, ti_m4, ti_m3, ti_m2, ti_m1, ti_0, ti_1, ti_2, ti_3, ti_4, ti_5, ti_6, ti_7, ti_8, ti_9, ti_10, ti_11, ti_12, ti_19, ti_20, ti_21, ti_44, ti_45, ti_48, ti_57, ti_59, ti_60, ti_98, ti_99, ti_100, ti_101, ti_103, ti_108, ti_110, ti_114, ti_127]); omega))
                  have hK149 : Kc (fun j => (2 ≤ j ∧ j < 19) ∨ (486 ≤ j ∧ j < 489)) lg0 it0 lg135 it146 := by rw [em147]; exact kc_u (by first | omega | (dsimp only; omega)) hK138
                  have e151 : (it146 486 2).toInt = (it136 486 2).toInt := by rw [em147]; exact congrArg Int32.toInt (congrFun (u2_row (by decide)) 2)
                  have T152 : abF (fv lg135 it146 (7 + 2 * (it103 2 0).toNatClampNeg)) = (some (a3.toInt64, 1)) := by rw [em147, fv_ui (by omega)]; exact T139
                  have T153 : abF (fv lg135 it146 (6 + 2 * (it103 2 0).toNatClampNeg)) = (some (a1.toInt64, 1)) := by rw [em147, fv_ui (by omega)]; exact T140
                  have T154 : abF (fv lg135 it146 486) = (oL (some (rP V (rN V - 1))) (some (a1.toInt64, 1))) := by rw [em147, fv_ui (by omega)]; exact T141
                  have T155 : abF (fv lg135 it146 488) = (some (a1.toInt64, 1)) := by rw [em147, fv_ui (by omega)]; exact T142
                  have e156 : (it146 2 0).toInt = (((it103 2 0) + 1) : Int32).toInt := by rw [em147, u2_eq]
                  subst hp
                  exact ⟨⟨hI148, hK149⟩, by rw [show bmA V a1 a2 a3 = (Int32.ofNat (rN V), addB V (a1.toInt64, 1) (a3.toInt64, 1) a2) from bm_y ⟨by omega, by omega, by omega⟩ (nr_n (tsm T106 c91) c103) (by omega)]; exact ⟨by rw [hnV, ofN (by omega)]; exact Int32.toInt_inj.mp (show (it103 2 0).toInt = (it0 2 0).toInt by omega), rv_add (r := 2) (n := it103 2 0) F109 rfl (by omega) em_lg113 em_it114 em125 em_lg135 em_it136 em147 (by omega)⟩⟩
                · try simp only [Int32.lt_iff_toInt_lt, Int32.le_iff_toInt_le, ← Int32.toInt_inj, Int32.toInt_toInt64, ti_m14, ti_m13, ti_m12, ti_m11, ti_m10, ti_m9, ti_m6, ti_m5, ti_m4, ti_m3, ti_m2, ti_m1, ti_0, ti_1, ti_2, ti_3, ti_4, ti_5, ti_6, ti_7, ti_8, ti_9, ti_10, ti_11, ti_12, ti_19, ti_20, ti_21, ti_44, ti_45, ti_48, ti_57, ti_59, ti_60, ti_98, ti_99, ti_100, ti_101, ti_103, ti_108, ti_110, ti_114, ti_127] at c116
                  subst hp
                  exact ⟨⟨hI104, hK105⟩, by rw [show bmA V a1 a2 a3 = (-4, V) from bm_f ⟨by omega, by omega, by omega⟩ (nr_n (tsm T106 c91) c103) (by omega)]; exact ⟨rfl, F109⟩⟩
              · try simp only [Int32.lt_iff_toInt_lt, Int32.le_iff_toInt_le, ← Int32.toInt_inj, Int32.toInt_toInt64, ti_m14, ti_m13, ti_m12, ti_m11, ti_m10, ti_m9, ti_m6, ti_m5, ti_m4, ti_m3, ti_m2, ti_m1, ti_0, ti_1, ti_2, ti_3, ti_4, ti_5, ti_6, ti_7, ti_8, ti_9, ti_10, ti_11, ti_12, ti_19, ti_20, ti_21, ti_44, ti_45, ti_48, ti_57, ti_59, ti_60, ti_98, ti_99, ti_100, ti_101, ti_103, ti_108, ti_110, ti_114, ti_127] at c103
                subst hp
                exact ⟨⟨hI104, hK105⟩, by rw [show bmA V a1 a2 a3 = (-3, V) from bm_s ⟨by omega, by omega, by omega⟩ (nr_y (by omega) (tsm T106 c91) c103)]; exact ⟨rfl, F109⟩⟩
        · try simp only [Int32.lt_iff_toInt_lt, Int32.le_iff_toInt_le, ← Int32.toInt_inj, Int32.toInt_toInt64, ti_m14, ti_m13, ti_m12, ti_m11, ti_m10, ti_m9, ti_m6, ti_m5, ti_m4, ti_m3, ti_m2, ti_m1, ti_0, ti_1, ti_2, ti_3, ti_4, ti_5, ti_6, ti_7, ti_8, ti_9, ti_10, ti_11, ti_12, ti_19, ti_20, ti_21, ti_44, ti_45, ti_48, ti_57, ti_59, ti_60, ti_98, ti_99, ti_100, ti_101, ti_103, ti_108, ti_110, ti_114, ti_127] at c30
          subst hp
          exact ⟨⟨hI, hKr⟩, by rw [show bmA V a1 a2 a3 = (-2, V) from bm_r (by omega)]; exact ⟨rfl, hV⟩⟩
set_option maxRecDepth 100000 in
theorem f_X8_toldWall (a1 : Int32) {lg0 : LGt} {it0 : ITt} (hI : I8 lg0 it0) (hs : 0 ≤ a1.toInt ∧ a1.toInt ≤ 1) (hw : -1 ≤ (it0 18 a1.toNatClampNeg).toInt) : w_X8_toldWall a1 (fun (v : Int32) (lg' : LGt) (it' : ITt) => (I8 lg' it' ∧ Kc (fun j => False) lg0 it0 lg' it') ∧ v = wTold (it0 18 a1.toNatClampNeg))  lg0 it0 := by
  have hb_a1 := And.intro a1.le_toInt a1.toInt_lt
  have hKr : Kc (fun j => False) lg0 it0 lg0 it0 := kc_r
  generalize hp : (fun (v : Int32) (lg' : LGt) (it' : ITt) => (I8 lg' it' ∧ Kc (fun j => False) lg0 it0 lg' it') ∧ v = wTold (it0 18 a1.toNatClampNeg)) = Pz
  unfold w_X8_toldWall
  have hi5 : vp_in a1 2 := vp_of (by first | omega | ((try simp only [Int32.lt_iff_toInt_lt, Int32.le_iff_toInt_le, ← Int32.toInt_inj, Int32.toInt_toInt64, ti_m14, ti_m13, ti_m12, ti_m11, ti_m10, ti_m9, ti_m6, ti_m5, ti_m4, ti_m3, ti_m2, ti_m1, ti_0, ti_1, ti_2, ti_3, ti_4, ti_5, ti_6, ti_7, ti_8, ti_9, ti_10, ti_11, ti_12, ti_19, ti_20, ti_21, ti_44, ti_45, ti_48, ti_57, ti_59, ti_60, ti_98, ti_99, ti_100, ti_101, ti_103, ti_108, ti_110, ti_114, ti_127]); omega) | (split <;> omega)) (by first | omega | ((try simp only [Int32.lt_iff_toInt_lt, Int32.le_iff_toInt_le, ← Int32.toInt_inj, Int32.toInt_toInt64, ti_m14, ti_m13, ti_m12, ti_m11, ti_m10, ti_m9, ti_m6, ti_m5, ti_m4, ti_m3, ti_m2, ti_m1, ti_0, ti_1, ti_2, ti_3, ti_4, ti_5, ti_6, ti_7, ti_8, ti_9, ti_10, ti_11, ti_12, ti_19, ti_20, ti_21, ti_44, ti_45, ti_48, ti_57, ti_59, ti_60, ti_98, ti_99, ti_100, ti_101, ti_103, ti_108, ti_110, ti_114, ti_127]); omega) | (split <;> omega))
  refine ⟨hi5, ?_⟩
  have hz6 := vlt hi5
  refine ⟨fun c15 => ?_, fun c15 => ?_⟩
  · try simp only [Int32.lt_iff_toInt_lt, Int32.le_iff_toInt_le, ← Int32.toInt_inj, Int32.toInt_toInt64, ti_m14, ti_m13, ti_m12, ti_m11, ti_m10, ti_m9, ti_m6, ti_m5, ti_m4, ti_m3, ti_m2, ti_m1, ti_0, ti_1, ti_2, ti_3, ti_4, ti_5, ti_6, ti_7, ti_8, ti_9, ti_10, ti_11, ti_12, ti_19, ti_20, ti_21, ti_44, ti_45, ti_48, ti_57, ti_59, ti_60, ti_98, ti_99, ti_100, ti_101, ti_103, ti_108, ti_110, ti_114, ti_127] at c15
    subst hp
    exact ⟨⟨hI, hKr⟩, (wT_p c15 hw).symm⟩
  · try simp only [Int32.lt_iff_toInt_lt, Int32.le_iff_toInt_le, ← Int32.toInt_inj, Int32.toInt_toInt64, ti_m14, ti_m13, ti_m12, ti_m11, ti_m10, ti_m9, ti_m6, ti_m5, ti_m4, ti_m3, ti_m2, ti_m1, ti_0, ti_1, ti_2, ti_3, ti_4, ti_5, ti_6, ti_7, ti_8, ti_9, ti_10, ti_11, ti_12, ti_19, ti_20, ti_21, ti_44, ti_45, ti_48, ti_57, ti_59, ti_60, ti_98, ti_99, ti_100, ti_101, ti_103, ti_108, ti_110, ti_114, ti_127] at c15
    subst hp
    exact ⟨⟨hI, hKr⟩, (wT_n c15).symm⟩
set_option maxRecDepth 100000 in
theorem f_X8_isBeyond {a1 : Nat} (ha1 : Ob NT a1 1) (a2 : Int32) {lg0 : LGt} {it0 : ITt} (hI : I8 lg0 it0) (p : QQ) (hpp : abF (fv lg0 it0 a1) = some p) (hf : a1 < 486) : w_X8_isBeyond a1 a2 (fun (v : Int32) (lg' : LGt) (it' : ITt) => (I8 lg' it' ∧ Kc (fun j => (486 ≤ j ∧ j < 489)) lg0 it0 lg' it') ∧ ((v = 1 ∧ Bey1 p a2) ∨ (v = 0 ∧ ¬ Bey1 p a2)))  lg0 it0 := by
  have hb_a2 := And.intro a2.le_toInt a2.toInt_lt
  have hKr : Kc (fun j => (486 ≤ j ∧ j < 489)) lg0 it0 lg0 it0 := kc_r
  generalize hp : (fun (v : Int32) (lg' : LGt) (it' : ITt) => (I8 lg' it' ∧ Kc (fun j => (486 ≤ j ∧ j < 489)) lg0 it0 lg' it') ∧ ((v = 1 ∧ Bey1 p a2) ∨ (v = 0 ∧ ¬ Bey1 p a2))) = Pz
  unfold w_X8_isBeyond
  refine ⟨fun c1 => ?_, fun c1 => ?_⟩
  · try simp only [Int32.lt_iff_toInt_lt, Int32.le_iff_toInt_le, ← Int32.toInt_inj, Int32.toInt_toInt64, ti_m14, ti_m13, ti_m12, ti_m11, ti_m10, ti_m9, ti_m6, ti_m5, ti_m4, ti_m3, ti_m2, ti_m1, ti_0, ti_1, ti_2, ti_3, ti_4, ti_5, ti_6, ti_7, ti_8, ti_9, ti_10, ti_11, ti_12, ti_19, ti_20, ti_21, ti_44, ti_45, ti_48, ti_57, ti_59, ti_60, ti_98, ti_99, ti_100, ti_101, ti_103, ti_108, ti_110, ti_114, ti_127] at c1
    have hc23 : it0 a1 2 &&& 1 = it0 a1 2 := ib (i8_1 hI (ha1))
    refine ⟨hc23, ?_⟩
    intro lg21 em_lg21 it22 em_it22
    have hI24 : I8 lg21 it22 := by rw [em_it22]; exact i8_u hI (ok8_1 (oq_486) (fun _ => i8_1 hI (ha1)))
    have hK25 : Kc (fun j => (486 ≤ j ∧ j < 489)) lg0 it0 lg21 it22 := by rw [em_lg21, em_it22]; exact kc_f (by first | omega | (dsimp only; omega)) hKr
    have T26 : abF (fv lg21 it22 486) = (some p) := by rw [em_lg21, em_it22]; exact (congrArg abF fv_a3).trans hpp
    have T27 : abF (fv lg21 it22 a1) = (some p) := by rw [em_lg21, em_it22, fv_ne (by omega)]; exact hpp
    intro lg28 em_lg28 it29 em_it29
    have hI30 : I8 lg28 it29 := by rw [em_it29]; exact i8_u hI24 (ok8_1 (oq_488) (fun _ => Or.inl rfl))
    have hK31 : Kc (fun j => (486 ≤ j ∧ j < 489)) lg0 it0 lg28 it29 := by rw [em_lg28, em_it29]; exact kc_f (by first | omega | (dsimp only; omega)) hK25
    have T32 : abF (fv lg28 it29 488) = (some ((100 : Int64), 1)) := by rw [em_lg28, em_it29]; exact (congrArg abF fv_a3).trans (abF_0 rfl)
    have T33 : abF (fv lg28 it29 486) = (some p) := by rw [em_lg28, em_it29, fv_ne (by omega)]; exact T26
    have T34 : abF (fv lg28 it29 a1) = (some p) := by rw [em_lg28, em_it29, fv_ne (by omega)]; exact T27
    intro q35 em_q35 lg36 em_lg36 it37 em_it37
    have hI38 : I8 lg36 it37 := by rw [em_it37]; exact i8_u hI30 (ok8_1 (oq_486) (fun _ => by rw [em_q35]; exact stF_01 _ _ _ _ _))
    have hK39 : Kc (fun j => (486 ≤ j ∧ j < 489)) lg0 it0 lg36 it37 := by rw [em_lg36, em_it37]; exact kc_f (by first | omega | (dsimp only; omega)) hK31
    have T40 : abF (fv lg36 it37 486) = (oL (some p) (some ((100 : Int64), 1))) := by rw [em_lg36, em_it37, fv_at, em_q35, ab_l, T33, T32]
    have T41 : abF (fv lg36 it37 488) = (some ((100 : Int64), 1)) := by rw [em_lg36, em_it37, fv_ne (by omega)]; exact T32
    have T42 : abF (fv lg36 it37 a1) = (some p) := by rw [em_lg36, em_it37, fv_ne (by omega)]; exact T34
    refine ⟨fun c55 => ?_, fun c55 => ?_⟩
    · try simp only [Int32.lt_iff_toInt_lt, Int32.le_iff_toInt_le, ← Int32.toInt_inj, Int32.toInt_toInt64, ti_m14, ti_m13, ti_m12, ti_m11, ti_m10, ti_m9, ti_m6, ti_m5, ti_m4, ti_m3, ti_m2, ti_m1, ti_0, ti_1, ti_2, ti_3, ti_4, ti_5, ti_6, ti_7, ti_8, ti_9, ti_10, ti_11, ti_12, ti_19, ti_20, ti_21, ti_44, ti_45, ti_48, ti_57, ti_59, ti_60, ti_98, ti_99, ti_100, ti_101, ti_103, ti_108, ti_110, ti_114, ti_127] at c55
      subst hp
      exact ⟨⟨hI38, hK39⟩, Or.inl ⟨rfl, b1_o c1 (tno T40 c55)⟩⟩
    · try simp only [Int32.lt_iff_toInt_lt, Int32.le_iff_toInt_le, ← Int32.toInt_inj, Int32.toInt_toInt64, ti_m14, ti_m13, ti_m12, ti_m11, ti_m10, ti_m9, ti_m6, ti_m5, ti_m4, ti_m3, ti_m2, ti_m1, ti_0, ti_1, ti_2, ti_3, ti_4, ti_5, ti_6, ti_7, ti_8, ti_9, ti_10, ti_11, ti_12, ti_19, ti_20, ti_21, ti_44, ti_45, ti_48, ti_57, ti_59, ti_60, ti_98, ti_99, ti_100, ti_101, ti_103, ti_108, ti_110, ti_114, ti_127] at c55
      refine ⟨fun c67 => ?_, fun c67 => ?_⟩
      · try simp only [Int32.lt_iff_toInt_lt, Int32.le_iff_toInt_le, ← Int32.toInt_inj, Int32.toInt_toInt64, ti_m14, ti_m13, ti_m12, ti_m11, ti_m10, ti_m9, ti_m6, ti_m5, ti_m4, ti_m3, ti_m2, ti_m1, ti_0, ti_1, ti_2, ti_3, ti_4, ti_5, ti_6, ti_7, ti_8, ti_9, ti_10, ti_11, ti_12, ti_19, ti_20, ti_21, ti_44, ti_45, ti_48, ti_57, ti_59, ti_60, ti_98, ti_99, ti_100, ti_101, ti_103, ti_108, ti_110, ti_114, ti_127] at c67
        subst hp
        exact ⟨⟨hI38, hK39⟩, Or.inr ⟨rfl, b1_n c1 (tsm T40 c55) c67⟩⟩
      · try simp only [Int32.lt_iff_toInt_lt, Int32.le_iff_toInt_le, ← Int32.toInt_inj, Int32.toInt_toInt64, ti_m14, ti_m13, ti_m12, ti_m11, ti_m10, ti_m9, ti_m6, ti_m5, ti_m4, ti_m3, ti_m2, ti_m1, ti_0, ti_1, ti_2, ti_3, ti_4, ti_5, ti_6, ti_7, ti_8, ti_9, ti_10, ti_11, ti_12, ti_19, ti_20, ti_21, ti_44, ti_45, ti_48, ti_57, ti_59, ti_60, ti_98, ti_99, ti_100, ti_101, ti_103, ti_108, ti_110, ti_114, ti_127] at c67
        subst hp
        exact ⟨⟨hI38, hK39⟩, Or.inl ⟨rfl, b1_p c1 (tsm T40 c55) c67⟩⟩
  · try simp only [Int32.lt_iff_toInt_lt, Int32.le_iff_toInt_le, ← Int32.toInt_inj, Int32.toInt_toInt64, ti_m14, ti_m13, ti_m12, ti_m11, ti_m10, ti_m9, ti_m6, ti_m5, ti_m4, ti_m3, ti_m2, ti_m1, ti_0, ti_1, ti_2, ti_3, ti_4, ti_5, ti_6, ti_7, ti_8, ti_9, ti_10, ti_11, ti_12, ti_19, ti_20, ti_21, ti_44, ti_45, ti_48, ti_57, ti_59, ti_60, ti_98, ti_99, ti_100, ti_101, ti_103, ti_108, ti_110, ti_114, ti_127] at c1
    refine ⟨fun c10 => ?_, fun c10 => ?_⟩
    · try simp only [Int32.lt_iff_toInt_lt, Int32.le_iff_toInt_le, ← Int32.toInt_inj, Int32.toInt_toInt64, ti_m14, ti_m13, ti_m12, ti_m11, ti_m10, ti_m9, ti_m6, ti_m5, ti_m4, ti_m3, ti_m2, ti_m1, ti_0, ti_1, ti_2, ti_3, ti_4, ti_5, ti_6, ti_7, ti_8, ti_9, ti_10, ti_11, ti_12, ti_19, ti_20, ti_21, ti_44, ti_45, ti_48, ti_57, ti_59, ti_60, ti_98, ti_99, ti_100, ti_101, ti_103, ti_108, ti_110, ti_114, ti_127] at c10
      subst hp
      exact ⟨⟨hI, hKr⟩, Or.inr ⟨rfl, b1_0 c1 (congrArg (fun q : QQ => q.1) (abF_s hpp).2) c10⟩⟩
    · try simp only [Int32.lt_iff_toInt_lt, Int32.le_iff_toInt_le, ← Int32.toInt_inj, Int32.toInt_toInt64, ti_m14, ti_m13, ti_m12, ti_m11, ti_m10, ti_m9, ti_m6, ti_m5, ti_m4, ti_m3, ti_m2, ti_m1, ti_0, ti_1, ti_2, ti_3, ti_4, ti_5, ti_6, ti_7, ti_8, ti_9, ti_10, ti_11, ti_12, ti_19, ti_20, ti_21, ti_44, ti_45, ti_48, ti_57, ti_59, ti_60, ti_98, ti_99, ti_100, ti_101, ti_103, ti_108, ti_110, ti_114, ti_127] at c10
      subst hp
      exact ⟨⟨hI, hKr⟩, Or.inl ⟨rfl, b1_1 c1 (congrArg (fun q : QQ => q.1) (abF_s hpp).2) c10⟩⟩
set_option maxRecDepth 100000 in
theorem f_X8_isAnyBeyond {a1 : Nat} (ha1 : a1 ∈ rb) (a2 : Int32) {lg0 : LGt} {it0 : ITt} (hI : I8 lg0 it0) (V : Rlv) (hV : RV lg0 it0 a1 V) : w_X8_isAnyBeyond a1 a2 (fun (v : Int32) (lg' : LGt) (it' : ITt) => (I8 lg' it' ∧ Kc (fun j => (486 ≤ j ∧ j < 489)) lg0 it0 lg' it') ∧ ((v = 1 ∧ Bey V a2) ∨ (v = 0 ∧ ¬ Bey V a2)))  lg0 it0 := by
  have hb_a2 := And.intro a2.le_toInt a2.toInt_lt
  have hKr : Kc (fun j => (486 ≤ j ∧ j < 489)) lg0 it0 lg0 it0 := kc_r
  generalize hp : (fun (v : Int32) (lg' : LGt) (it' : ITt) => (I8 lg' it' ∧ Kc (fun j => (486 ≤ j ∧ j < 489)) lg0 it0 lg' it') ∧ ((v = 1 ∧ Bey V a2) ∨ (v = 0 ∧ ¬ Bey V a2))) = Pz
  unfold w_X8_isAnyBeyond
  have hnV : rN V = (it0 a1 0).toNatClampNeg := by rw [← hV.1]; rfl
  have f2 := i8_3 hI (obr ha1)
  have hkn := cl32 f2.1
  have hlow := rb_low ha1
  have lp2 : ∀ (n : Nat) (x3 : Int32) (lg : LGt) (it : ITt), I8 lg it → Kc (fun j => (486 ≤ j ∧ j < 489)) lg0 it0 lg it → ((0 ≤ (x3).toInt ∧ (x3).toInt ≤ (it0 a1 0).toInt) ∧ (RV lg it a1 V) ∧ (∀ j, j < (x3).toNatClampNeg → ¬ Bey1 (rP V j) a2)) → (7 - (x3).toInt).toNat < n → w_X8_isAnyBeyond_b2 a1 a2 Pz  n x3 lg it := by
    intro n2
    induction n2 with
    | zero => intro x3 lg it _ _ _ hn; exact absurd hn (Nat.not_lt_zero _)
    | succ n2 ih2 =>
      intro x3 lg16 it17 hI14 hK15 hv hn
      unfold w_X8_isAnyBeyond_b2
      obtain ⟨hv2_0, hv2_1, hv2_2⟩ := hv
      have hkx := cl32 (i := x3) hv2_0.1
      have e0 : (it17 a1 0).toInt = (it0 a1 0).toInt := congrArg (fun f => Int32.toInt (f 0)) (hK15 a1 (by first | omega | (dsimp only; omega))).2
      have f18 : 0 ≤ (it17 a1 0).toInt ∧ (it17 a1 0).toInt ≤ 6 := i8_3 hI14 (obr ha1)
      refine ⟨fun c7 => ?_, fun c7 => ?_⟩
      · try simp only [Int32.lt_iff_toInt_lt, Int32.le_iff_toInt_le, ← Int32.toInt_inj, Int32.toInt_toInt64, ti_m14, ti_m13, ti_m12, ti_m11, ti_m10, ti_m9, ti_m6, ti_m5, ti_m4, ti_m3, ti_m2, ti_m1, ti_0, ti_1, ti_2, ti_3, ti_4, ti_5, ti_6, ti_7, ti_8, ti_9, ti_10, ti_11, ti_12, ti_19, ti_20, ti_21, ti_44, ti_45, ti_48, ti_57, ti_59, ti_60, ti_98, ti_99, ti_100, ti_101, ti_103, ti_108, ti_110, ti_114, ti_127] at c7
        subst hp
        exact ⟨⟨hI14, hK15⟩, Or.inr ⟨rfl, fun ⟨j, hj, hb⟩ => hv2_2 j (by omega) hb⟩⟩
      · try simp only [Int32.lt_iff_toInt_lt, Int32.le_iff_toInt_le, ← Int32.toInt_inj, Int32.toInt_toInt64, ti_m14, ti_m13, ti_m12, ti_m11, ti_m10, ti_m9, ti_m6, ti_m5, ti_m4, ti_m3, ti_m2, ti_m1, ti_0, ti_1, ti_2, ti_3, ti_4, ti_5, ti_6, ti_7, ti_8, ti_9, ti_10, ti_11, ti_12, ti_19, ti_20, ti_21, ti_44, ti_45, ti_48, ti_57, ti_59, ti_60, ti_98, ti_99, ti_100, ti_101, ti_103, ti_108, ti_110, ti_114, ti_127] at c7
        have hk1 : (x3 + 1).toNatClampNeg = x3.toNatClampNeg + 1 := cl_add1 (by omega) (by omega)
        have hi19 : vp_in x3 6 := vp_of (by first | omega | ((try simp only [Int32.lt_iff_toInt_lt, Int32.le_iff_toInt_le, ← Int32.toInt_inj, Int32.toInt_toInt64, ti_m14, ti_m13, ti_m12, ti_m11, ti_m10, ti_m9, ti_m6, ti_m5, ti_m4, ti_m3, ti_m2, ti_m1, ti_0, ti_1, ti_2, ti_3, ti_4, ti_5, ti_6, ti_7, ti_8, ti_9, ti_10, ti_11, ti_12, ti_19, ti_20, ti_21, ti_44, ti_45, ti_48, ti_57, ti_59, ti_60, ti_98, ti_99, ti_100, ti_101, ti_103, ti_108, ti_110, ti_114, ti_127]); omega) | (split <;> omega)) (by first | omega | ((try simp only [Int32.lt_iff_toInt_lt, Int32.le_iff_toInt_le, ← Int32.toInt_inj, Int32.toInt_toInt64, ti_m14, ti_m13, ti_m12, ti_m11, ti_m10, ti_m9, ti_m6, ti_m5, ti_m4, ti_m3, ti_m2, ti_m1, ti_0, ti_1, ti_2, ti_3, ti_4, ti_5, ti_6, ti_7, ti_8, ti_9, ti_10, ti_11, ti_12, ti_19, ti_20, ti_21, ti_44, ti_45, ti_48, ti_57, ti_59, ti_60, ti_98, ti_99, ti_100, ti_101, ti_103, ti_108, ti_110, ti_114, ti_127]); omega) | (split <;> omega))
        refine ⟨hi19, ?_⟩
        have hz20 := vlt hi19
        refine ⟨_, f_X8_isBeyond ((rpo4 ha1 (vlt (hi19)))) (a2) hI14 ((rP V x3.toNatClampNeg)) (tPV (r := a1) (i := x3.toNatClampNeg) (j := x3.toNatClampNeg) hv2_1 (kc_r (S := fun _ => False)) rfl (by omega) (fun q => q)) (by omega), ?_⟩
        intro v26 lg21 it22 hq
        obtain ⟨⟨hI23, hK24⟩, ha27⟩ := hq
        have hK25 : Kc (fun j => (486 ≤ j ∧ j < 489)) lg0 it0 lg21 it22 := kc_t hK15 hK24 (fun j hj => by first | omega | exact False.elim hj | (dsimp only at hj ⊢; omega))
        try have e28 : (it22 a1 0).toInt = (it17 a1 0).toInt := congrArg (fun f => Int32.toInt (f 0)) (hK24 a1 (by first | omega | (dsimp only; omega))).2
        have F29 : RV lg21 it22 a1 V := rv_k hv2_1 hK24 (fun j hj => by first | omega | exact False.elim hj | (dsimp only at hj ⊢; omega))
        refine ⟨fun c21 => ?_, fun c21 => ?_⟩
        · try simp only [Int32.lt_iff_toInt_lt, Int32.le_iff_toInt_le, ← Int32.toInt_inj, Int32.toInt_toInt64, ti_m14, ti_m13, ti_m12, ti_m11, ti_m10, ti_m9, ti_m6, ti_m5, ti_m4, ti_m3, ti_m2, ti_m1, ti_0, ti_1, ti_2, ti_3, ti_4, ti_5, ti_6, ti_7, ti_8, ti_9, ti_10, ti_11, ti_12, ti_19, ti_20, ti_21, ti_44, ti_45, ti_48, ti_57, ti_59, ti_60, ti_98, ti_99, ti_100, ti_101, ti_103, ti_108, ti_110, ti_114, ti_127] at c21
          try have f30 : ((x3 + 1) : Int32).toInt = (x3).toInt + 1 := ad32 (a := (x3).toInt) (b := 1) (rfl) (ti_1) (by omega) (by omega)
          exact ih2 ((x3 + 1)) _ _ hI23 hK25 ⟨⟨by omega, by omega⟩, F29, fun j hj => by rw [hk1] at hj; by_cases z : j = x3.toNatClampNeg; (rw [z]; exact (ha27.resolve_left (fun q => by rw [q.1] at c21; exact absurd c21 (by decide))).2); exact hv2_2 j (by omega)⟩ (by omega)
        · try simp only [Int32.lt_iff_toInt_lt, Int32.le_iff_toInt_le, ← Int32.toInt_inj, Int32.toInt_toInt64, ti_m14, ti_m13, ti_m12, ti_m11, ti_m10, ti_m9, ti_m6, ti_m5, ti_m4, ti_m3, ti_m2, ti_m1, ti_0, ti_1, ti_2, ti_3, ti_4, ti_5, ti_6, ti_7, ti_8, ti_9, ti_10, ti_11, ti_12, ti_19, ti_20, ti_21, ti_44, ti_45, ti_48, ti_57, ti_59, ti_60, ti_98, ti_99, ti_100, ti_101, ti_103, ti_108, ti_110, ti_114, ti_127] at c21
          subst hp
          exact ⟨⟨hI23, hK25⟩, Or.inl ⟨rfl, x3.toNatClampNeg, by omega, (ha27.resolve_right (fun q => by rw [q.1] at c21; exact absurd rfl c21)).2⟩⟩
  have t31 := ti_0
  exact ⟨_, lp2 ((7 - ((0 : Int32)).toInt).toNat + 1) ((0 : Int32)) _ _ hI hKr ⟨⟨by omega, by omega⟩, hV, fun j hj => absurd hj (Nat.not_lt_zero _)⟩ (Nat.lt_succ_self _)⟩
set_option maxRecDepth 100000 in
theorem f_X8_wall (a1 : Int32) (a2 : Int32) {lg0 : LGt} {it0 : ITt} (hI : I8 lg0 it0) (V : Rlv) (hV : RV lg0 it0 2 V) (hVO : VO V) : w_X8_wall a1 a2 (fun (v : Int32) (lg' : LGt) (it' : ITt) => (I8 lg' it' ∧ Kc (fun j => (2 ≤ j ∧ j < 19) ∨ (486 ≤ j ∧ j < 489)) lg0 it0 lg' it') ∧ (v = (wlA V a1 a2).1 ∧ RV lg' it' 2 (wlA V a1 a2).2))  lg0 it0 := by
  have hb_a1 := And.intro a1.le_toInt a1.toInt_lt
  have hb_a2 := And.intro a2.le_toInt a2.toInt_lt
  have hKr : Kc (fun j => (2 ≤ j ∧ j < 19) ∨ (486 ≤ j ∧ j < 489)) lg0 it0 lg0 it0 := kc_r
  generalize hp : (fun (v : Int32) (lg' : LGt) (it' : ITt) => (I8 lg' it' ∧ Kc (fun j => (2 ≤ j ∧ j < 19) ∨ (486 ≤ j ∧ j < 489)) lg0 it0 lg' it') ∧ (v = (wlA V a1 a2).1 ∧ RV lg' it' 2 (wlA V a1 a2).2)) = Pz
  unfold w_X8_wall
  have hnV : rN V = (it0 2 0).toNatClampNeg := by rw [← hV.1]; rfl
  have f2 := i8_3 hI (obr in_rb_2)
  have hkn := cl32 f2.1
  have hrE : rE V = it0 2 4 := by rw [← hV.1]; rfl
  have hrA : rA V = it0 18 0 := by rw [← hV.1]; rfl
  have hrB : rB V = it0 18 1 := by rw [← hV.1]; rfl
  refine ⟨fun c1 => ?_, fun c1 => ?_⟩
  · try simp only [Int32.lt_iff_toInt_lt, Int32.le_iff_toInt_le, ← Int32.toInt_inj, Int32.toInt_toInt64, ti_m14, ti_m13, ti_m12, ti_m11, ti_m10, ti_m9, ti_m6, ti_m5, ti_m4, ti_m3, ti_m2, ti_m1, ti_0, ti_1, ti_2, ti_3, ti_4, ti_5, ti_6, ti_7, ti_8, ti_9, ti_10, ti_11, ti_12, ti_19, ti_20, ti_21, ti_44, ti_45, ti_48, ti_57, ti_59, ti_60, ti_98, ti_99, ti_100, ti_101, ti_103, ti_108, ti_110, ti_114, ti_127] at c1
    unfold w_X8_wall_b11
    refine ⟨fun c13 => ?_, fun c13 => ?_⟩
    · try simp only [Int32.lt_iff_toInt_lt, Int32.le_iff_toInt_le, ← Int32.toInt_inj, Int32.toInt_toInt64, ti_m14, ti_m13, ti_m12, ti_m11, ti_m10, ti_m9, ti_m6, ti_m5, ti_m4, ti_m3, ti_m2, ti_m1, ti_0, ti_1, ti_2, ti_3, ti_4, ti_5, ti_6, ti_7, ti_8, ti_9, ti_10, ti_11, ti_12, ti_19, ti_20, ti_21, ti_44, ti_45, ti_48, ti_57, ti_59, ti_60, ti_98, ti_99, ti_100, ti_101, ti_103, ti_108, ti_110, ti_114, ti_127] at c13
      unfold w_X8_wall_b26
      refine ⟨fun c28 => ?_, fun c28 => ?_⟩
      · try simp only [Int32.lt_iff_toInt_lt, Int32.le_iff_toInt_le, ← Int32.toInt_inj, Int32.toInt_toInt64, ti_m14, ti_m13, ti_m12, ti_m11, ti_m10, ti_m9, ti_m6, ti_m5, ti_m4, ti_m3, ti_m2, ti_m1, ti_0, ti_1, ti_2, ti_3, ti_4, ti_5, ti_6, ti_7, ti_8, ti_9, ti_10, ti_11, ti_12, ti_19, ti_20, ti_21, ti_44, ti_45, ti_48, ti_57, ti_59, ti_60, ti_98, ti_99, ti_100, ti_101, ti_103, ti_108, ti_110, ti_114, ti_127] at c28
        unfold w_X8_wall_b49
        refine ⟨_, f_X8_toldWall  (a1) hI (by omega) (wall_ge hV hVO (by omega)), ?_⟩
        intro v35 lg30 it31 hq
        obtain ⟨⟨hI32, hK33⟩, ha36⟩ := hq
        have hK34 : Kc (fun j => (2 ≤ j ∧ j < 19) ∨ (486 ≤ j ∧ j < 489)) lg0 it0 lg30 it31 := kc_t hKr hK33 (fun j hj => by first | omega | exact False.elim hj | (dsimp only at hj ⊢; omega))
        have F37 : RV lg30 it31 2 V := rv_k hV hK33 (fun j hj => by first | omega | exact False.elim hj | (dsimp only at hj ⊢; omega))
        have hi38 : vp_in a1 2 := vp_of (by first | omega | ((try simp only [Int32.lt_iff_toInt_lt, Int32.le_iff_toInt_le, ← Int32.toInt_inj, Int32.toInt_toInt64, ti_m14, ti_m13, ti_m12, ti_m11, ti_m10, ti_m9, ti_m6, ti_m5, ti_m4, ti_m3, ti_m2, ti_m1, ti_0, ti_1, ti_2, ti_3, ti_4, ti_5, ti_6, ti_7, ti_8, ti_9, ti_10, ti_11, ti_12, ti_19, ti_20, ti_21, ti_44, ti_45, ti_48, ti_57, ti_59, ti_60, ti_98, ti_99, ti_100, ti_101, ti_103, ti_108, ti_110, ti_114, ti_127]); omega) | (split <;> omega)) (by first | omega | ((try simp only [Int32.lt_iff_toInt_lt, Int32.le_iff_toInt_le, ← Int32.toInt_inj, Int32.toInt_toInt64, ti_m14, ti_m13, ti_m12, ti_m11, ti_m10, ti_m9, ti_m6, ti_m5, ti_m4, ti_m3, ti_m2, ti_m1, ti_0, ti_1, ti_2, ti_3, ti_4, ti_5, ti_6, ti_7, ti_8, ti_9, ti_10, ti_11, ti_12, ti_19, ti_20, ti_21, ti_44, ti_45, ti_48, ti_57, ti_59, ti_60, ti_98, ti_99, ti_100, ti_101, ti_103, ti_108, ti_110, ti_114, ti_127]); omega) | (split <;> omega))
        refine ⟨hi38, ?_⟩
        have hz39 := vlt hi38
        intro it40 em41
        have hI42 : I8 lg30 it40 := by rw [em41]; exact i8_u hI32 (ok8_a (oq_18) (by decide))
        have hK43 : Kc (fun j => (2 ≤ j ∧ j < 19) ∨ (486 ≤ j ∧ j < 489)) lg0 it0 lg30 it40 := by rw [em41]; exact kc_u (by first | omega | (dsimp only; omega)) hK34
        subst hp
        exact ⟨⟨hI42, hK43⟩, by rw [show wlA V a1 a2 = (wTold (rA V), setA V a2) from (by unfold wlA; rw [if_neg (not_not_intro (show 0 ≤ a1.toInt ∧ a1.toInt ≤ 1 by omega)), if_neg (not_not_intro (show -1 ≤ a2.toInt ∧ a2.toInt ≤ 4 by omega)), if_neg (fun q => by omega), if_pos c1])]; exact ⟨by rw [ha36, show rA V = it0 18 0 from by rw [← hV.1]; rfl, (show a1 = 0 from Int32.toInt_inj.mp (by first | exact c1.trans ti_0.symm | exact c6.trans ti_1.symm))]; rfl, by rw [em41, (show a1 = 0 from Int32.toInt_inj.mp (by first | exact c1.trans ti_0.symm | exact c6.trans ti_1.symm))]; exact rv_setA F37⟩⟩
      · try simp only [Int32.lt_iff_toInt_lt, Int32.le_iff_toInt_le, ← Int32.toInt_inj, Int32.toInt_toInt64, ti_m14, ti_m13, ti_m12, ti_m11, ti_m10, ti_m9, ti_m6, ti_m5, ti_m4, ti_m3, ti_m2, ti_m1, ti_0, ti_1, ti_2, ti_3, ti_4, ti_5, ti_6, ti_7, ti_8, ti_9, ti_10, ti_11, ti_12, ti_19, ti_20, ti_21, ti_44, ti_45, ti_48, ti_57, ti_59, ti_60, ti_98, ti_99, ti_100, ti_101, ti_103, ti_108, ti_110, ti_114, ti_127] at c28
        refine ⟨_, f_X8_isAnyBeyond (in_rb_2) (a1) hI (V) (hV), ?_⟩
        intro v49 lg44 it45 hq
        obtain ⟨⟨hI46, hK47⟩, ha50⟩ := hq
        have hK48 : Kc (fun j => (2 ≤ j ∧ j < 19) ∨ (486 ≤ j ∧ j < 489)) lg0 it0 lg44 it45 := kc_t hKr hK47 (fun j hj => by first | omega | exact False.elim hj | (dsimp only at hj ⊢; omega))
        have F51 : RV lg44 it45 2 V := rv_k hV hK47 (fun j hj => by first | omega | exact False.elim hj | (dsimp only at hj ⊢; omega))
        refine ⟨fun c43 => ?_, fun c43 => ?_⟩
        · try simp only [Int32.lt_iff_toInt_lt, Int32.le_iff_toInt_le, ← Int32.toInt_inj, Int32.toInt_toInt64, ti_m14, ti_m13, ti_m12, ti_m11, ti_m10, ti_m9, ti_m6, ti_m5, ti_m4, ti_m3, ti_m2, ti_m1, ti_0, ti_1, ti_2, ti_3, ti_4, ti_5, ti_6, ti_7, ti_8, ti_9, ti_10, ti_11, ti_12, ti_19, ti_20, ti_21, ti_44, ti_45, ti_48, ti_57, ti_59, ti_60, ti_98, ti_99, ti_100, ti_101, ti_103, ti_108, ti_110, ti_114, ti_127] at c43
          unfold w_X8_wall_b49
          refine ⟨_, f_X8_toldWall  (a1) hI46 (by omega) (wall_ge F51 hVO (by omega)), ?_⟩
          intro v57 lg52 it53 hq
          obtain ⟨⟨hI54, hK55⟩, ha58⟩ := hq
          have hK56 : Kc (fun j => (2 ≤ j ∧ j < 19) ∨ (486 ≤ j ∧ j < 489)) lg0 it0 lg52 it53 := kc_t hK48 hK55 (fun j hj => by first | omega | exact False.elim hj | (dsimp only at hj ⊢; omega))
          have F59 : RV lg52 it53 2 V := rv_k F51 hK55 (fun j hj => by first | omega | exact False.elim hj | (dsimp only at hj ⊢; omega))
          have hi60 : vp_in a1 2 := vp_of (by first | omega | ((try simp only [Int32.lt_iff_toInt_lt, Int32.le_iff_toInt_le, ← Int32.toInt_inj, Int32.toInt_toInt64, ti_m14, ti_m13, ti_m12, ti_m11, ti_m10, ti_m9, ti_m6, ti_m5, ti_m4, ti_m3, ti_m2, ti_m1, ti_0, ti_1, ti_2, ti_3, ti_4, ti_5, ti_6, ti_7, ti_8, ti_9, ti_10, ti_11, ti_12, ti_19, ti_20, ti_21, ti_44, ti_45, ti_48, ti_57, ti_59, ti_60, ti_98, ti_99, ti_100, ti_101, ti_103, ti_108, ti_110, ti_114, ti_127]); omega) | (split <;> omega)) (by first | omega | ((try simp only [Int32.lt_iff_toInt_lt, Int32.le_iff_toInt_le, ← Int32.toInt_inj, Int32.toInt_toInt64, ti_m14, ti_m13, ti_m12, ti_m11, ti_m10, ti_m9, ti_m6, ti_m5, ti_m4, ti_m3, ti_m2, ti_m1, ti_0, ti_1, ti_2, ti_3, ti_4, ti_5, ti_6, ti_7, ti_8, ti_9, ti_10, ti_11, ti_12, ti_19, ti_20, ti_21, ti_44, ti_45, ti_48, ti_57, ti_59, ti_60, ti_98, ti_99, ti_100, ti_101, ti_103, ti_108, ti_110, ti_114, ti_127]); omega) | (split <;> omega))
          refine ⟨hi60, ?_⟩
          have hz61 := vlt hi60
          intro it62 em63
          have hI64 : I8 lg52 it62 := by rw [em63]; exact i8_u hI54 (ok8_a (oq_18) (by decide))
          have hK65 : Kc (fun j => (2 ≤ j ∧ j < 19) ∨ (486 ≤ j ∧ j < 489)) lg0 it0 lg52 it62 := by rw [em63]; exact kc_u (by first | omega | (dsimp only; omega)) hK56
          subst hp
          exact ⟨⟨hI64, hK65⟩, by rw [show wlA V a1 a2 = (wTold (rA V), setA V a2) from (by unfold wlA; rw [if_neg (not_not_intro (show 0 ≤ a1.toInt ∧ a1.toInt ≤ 1 by omega)), if_neg (not_not_intro (show -1 ≤ a2.toInt ∧ a2.toInt ≤ 4 by omega)), if_neg (fun q => (ha50.resolve_left (fun q => by rw [q.1] at c43; exact absurd c43 (by decide))).2 q.2), if_pos c1])]; exact ⟨by rw [ha58, show rA V = it45 18 0 from by rw [← F51.1]; rfl, (show a1 = 0 from Int32.toInt_inj.mp (by first | exact c1.trans ti_0.symm | exact c6.trans ti_1.symm))]; rfl, by rw [em63, (show a1 = 0 from Int32.toInt_inj.mp (by first | exact c1.trans ti_0.symm | exact c6.trans ti_1.symm))]; exact rv_setA F59⟩⟩
        · try simp only [Int32.lt_iff_toInt_lt, Int32.le_iff_toInt_le, ← Int32.toInt_inj, Int32.toInt_toInt64, ti_m14, ti_m13, ti_m12, ti_m11, ti_m10, ti_m9, ti_m6, ti_m5, ti_m4, ti_m3, ti_m2, ti_m1, ti_0, ti_1, ti_2, ti_3, ti_4, ti_5, ti_6, ti_7, ti_8, ti_9, ti_10, ti_11, ti_12, ti_19, ti_20, ti_21, ti_44, ti_45, ti_48, ti_57, ti_59, ti_60, ti_98, ti_99, ti_100, ti_101, ti_103, ti_108, ti_110, ti_114, ti_127] at c43
          subst hp
          exact ⟨⟨hI46, hK48⟩, by rw [show wlA V a1 a2 = (-3, V) from (by unfold wlA; rw [if_neg (not_not_intro (show 0 ≤ a1.toInt ∧ a1.toInt ≤ 1 by omega)), if_neg (not_not_intro (show -1 ≤ a2.toInt ∧ a2.toInt ≤ 4 by omega)), if_pos ⟨by omega, (ha50.resolve_right (fun q => by rw [q.1] at c43; exact absurd rfl c43)).2⟩])]; exact ⟨rfl, F51⟩⟩
    · try simp only [Int32.lt_iff_toInt_lt, Int32.le_iff_toInt_le, ← Int32.toInt_inj, Int32.toInt_toInt64, ti_m14, ti_m13, ti_m12, ti_m11, ti_m10, ti_m9, ti_m6, ti_m5, ti_m4, ti_m3, ti_m2, ti_m1, ti_0, ti_1, ti_2, ti_3, ti_4, ti_5, ti_6, ti_7, ti_8, ti_9, ti_10, ti_11, ti_12, ti_19, ti_20, ti_21, ti_44, ti_45, ti_48, ti_57, ti_59, ti_60, ti_98, ti_99, ti_100, ti_101, ti_103, ti_108, ti_110, ti_114, ti_127] at c13
      refine ⟨fun c20 => ?_, fun c20 => ?_⟩
      · try simp only [Int32.lt_iff_toInt_lt, Int32.le_iff_toInt_le, ← Int32.toInt_inj, Int32.toInt_toInt64, ti_m14, ti_m13, ti_m12, ti_m11, ti_m10, ti_m9, ti_m6, ti_m5, ti_m4, ti_m3, ti_m2, ti_m1, ti_0, ti_1, ti_2, ti_3, ti_4, ti_5, ti_6, ti_7, ti_8, ti_9, ti_10, ti_11, ti_12, ti_19, ti_20, ti_21, ti_44, ti_45, ti_48, ti_57, ti_59, ti_60, ti_98, ti_99, ti_100, ti_101, ti_103, ti_108, ti_110, ti_114, ti_127] at c20
        unfold w_X8_wall_b26
        refine ⟨fun c28 => ?_, fun c28 => ?_⟩
        · try simp only [Int32.lt_iff_toInt_lt, Int32.le_iff_toInt_le, ← Int32.toInt_inj, Int32.toInt_toInt64, ti_m14, ti_m13, ti_m12, ti_m11, ti_m10, ti_m9, ti_m6, ti_m5, ti_m4, ti_m3, ti_m2, ti_m1, ti_0, ti_1, ti_2, ti_3, ti_4, ti_5, ti_6, ti_7, ti_8, ti_9, ti_10, ti_11, ti_12, ti_19, ti_20, ti_21, ti_44, ti_45, ti_48, ti_57, ti_59, ti_60, ti_98, ti_99, ti_100, ti_101, ti_103, ti_108, ti_110, ti_114, ti_127] at c28
          unfold w_X8_wall_b49
          refine ⟨_, f_X8_toldWall  (a1) hI (by omega) (wall_ge hV hVO (by omega)), ?_⟩
          intro v71 lg66 it67 hq
          obtain ⟨⟨hI68, hK69⟩, ha72⟩ := hq
          have hK70 : Kc (fun j => (2 ≤ j ∧ j < 19) ∨ (486 ≤ j ∧ j < 489)) lg0 it0 lg66 it67 := kc_t hKr hK69 (fun j hj => by first | omega | exact False.elim hj | (dsimp only at hj ⊢; omega))
          have F73 : RV lg66 it67 2 V := rv_k hV hK69 (fun j hj => by first | omega | exact False.elim hj | (dsimp only at hj ⊢; omega))
          have hi74 : vp_in a1 2 := vp_of (by first | omega | ((try simp only [Int32.lt_iff_toInt_lt, Int32.le_iff_toInt_le, ← Int32.toInt_inj, Int32.toInt_toInt64, ti_m14, ti_m13, ti_m12, ti_m11, ti_m10, ti_m9, ti_m6, ti_m5, ti_m4, ti_m3, ti_m2, ti_m1, ti_0, ti_1, ti_2, ti_3, ti_4, ti_5, ti_6, ti_7, ti_8, ti_9, ti_10, ti_11, ti_12, ti_19, ti_20, ti_21, ti_44, ti_45, ti_48, ti_57, ti_59, ti_60, ti_98, ti_99, ti_100, ti_101, ti_103, ti_108, ti_110, ti_114, ti_127]); omega) | (split <;> omega)) (by first | omega | ((try simp only [Int32.lt_iff_toInt_lt, Int32.le_iff_toInt_le, ← Int32.toInt_inj, Int32.toInt_toInt64, ti_m14, ti_m13, ti_m12, ti_m11, ti_m10, ti_m9, ti_m6, ti_m5, ti_m4, ti_m3, ti_m2, ti_m1, ti_0, ti_1, ti_2, ti_3, ti_4, ti_5, ti_6, ti_7, ti_8, ti_9, ti_10, ti_11, ti_12, ti_19, ti_20, ti_21, ti_44, ti_45, ti_48, ti_57, ti_59, ti_60, ti_98, ti_99, ti_100, ti_101, ti_103, ti_108, ti_110, ti_114, ti_127]); omega) | (split <;> omega))
          refine ⟨hi74, ?_⟩
          have hz75 := vlt hi74
          intro it76 em77
          have hI78 : I8 lg66 it76 := by rw [em77]; exact i8_u hI68 (ok8_a (oq_18) (by decide))
          have hK79 : Kc (fun j => (2 ≤ j ∧ j < 19) ∨ (486 ≤ j ∧ j < 489)) lg0 it0 lg66 it76 := by rw [em77]; exact kc_u (by first | omega | (dsimp only; omega)) hK70
          subst hp
          exact ⟨⟨hI78, hK79⟩, by rw [show wlA V a1 a2 = (wTold (rA V), setA V a2) from (by unfold wlA; rw [if_neg (not_not_intro (show 0 ≤ a1.toInt ∧ a1.toInt ≤ 1 by omega)), if_neg (not_not_intro (show -1 ≤ a2.toInt ∧ a2.toInt ≤ 4 by omega)), if_neg (fun q => by omega), if_pos c1])]; exact ⟨by rw [ha72, show rA V = it0 18 0 from by rw [← hV.1]; rfl, (show a1 = 0 from Int32.toInt_inj.mp (by first | exact c1.trans ti_0.symm | exact c6.trans ti_1.symm))]; rfl, by rw [em77, (show a1 = 0 from Int32.toInt_inj.mp (by first | exact c1.trans ti_0.symm | exact c6.trans ti_1.symm))]; exact rv_setA F73⟩⟩
        · try simp only [Int32.lt_iff_toInt_lt, Int32.le_iff_toInt_le, ← Int32.toInt_inj, Int32.toInt_toInt64, ti_m14, ti_m13, ti_m12, ti_m11, ti_m10, ti_m9, ti_m6, ti_m5, ti_m4, ti_m3, ti_m2, ti_m1, ti_0, ti_1, ti_2, ti_3, ti_4, ti_5, ti_6, ti_7, ti_8, ti_9, ti_10, ti_11, ti_12, ti_19, ti_20, ti_21, ti_44, ti_45, ti_48, ti_57, ti_59, ti_60, ti_98, ti_99, ti_100, ti_101, ti_103, ti_108, ti_110, ti_114, ti_127] at c28
          refine ⟨_, f_X8_isAnyBeyond (in_rb_2) (a1) hI (V) (hV), ?_⟩
          intro v85 lg80 it81 hq
          obtain ⟨⟨hI82, hK83⟩, ha86⟩ := hq
          have hK84 : Kc (fun j => (2 ≤ j ∧ j < 19) ∨ (486 ≤ j ∧ j < 489)) lg0 it0 lg80 it81 := kc_t hKr hK83 (fun j hj => by first | omega | exact False.elim hj | (dsimp only at hj ⊢; omega))
          have F87 : RV lg80 it81 2 V := rv_k hV hK83 (fun j hj => by first | omega | exact False.elim hj | (dsimp only at hj ⊢; omega))
          refine ⟨fun c43 => ?_, fun c43 => ?_⟩
          · try simp only [Int32.lt_iff_toInt_lt, Int32.le_iff_toInt_le, ← Int32.toInt_inj, Int32.toInt_toInt64, ti_m14, ti_m13, ti_m12, ti_m11, ti_m10, ti_m9, ti_m6, ti_m5, ti_m4, ti_m3, ti_m2, ti_m1, ti_0, ti_1, ti_2, ti_3, ti_4, ti_5, ti_6, ti_7, ti_8, ti_9, ti_10, ti_11, ti_12, ti_19, ti_20, ti_21, ti_44, ti_45, ti_48, ti_57, ti_59, ti_60, ti_98, ti_99, ti_100, ti_101, ti_103, ti_108, ti_110, ti_114, ti_127] at c43
            unfold w_X8_wall_b49
            refine ⟨_, f_X8_toldWall  (a1) hI82 (by omega) (wall_ge F87 hVO (by omega)), ?_⟩
            intro v93 lg88 it89 hq
            obtain ⟨⟨hI90, hK91⟩, ha94⟩ := hq
            have hK92 : Kc (fun j => (2 ≤ j ∧ j < 19) ∨ (486 ≤ j ∧ j < 489)) lg0 it0 lg88 it89 := kc_t hK84 hK91 (fun j hj => by first | omega | exact False.elim hj | (dsimp only at hj ⊢; omega))
            have F95 : RV lg88 it89 2 V := rv_k F87 hK91 (fun j hj => by first | omega | exact False.elim hj | (dsimp only at hj ⊢; omega))
            have hi96 : vp_in a1 2 := vp_of (by first | omega | ((try simp only [Int32.lt_iff_toInt_lt, Int32.le_iff_toInt_le, ← Int32.toInt_inj, Int32.toInt_toInt64, ti_m14, ti_m13, ti_m12, ti_m11, ti_m10, ti_m9, ti_m6, ti_m5, ti_m4, ti_m3, ti_m2, ti_m1, ti_0, ti_1, ti_2, ti_3, ti_4, ti_5, ti_6, ti_7, ti_8, ti_9, ti_10, ti_11, ti_12, ti_19, ti_20, ti_21, ti_44, ti_45, ti_48, ti_57, ti_59, ti_60, ti_98, ti_99, ti_100, ti_101, ti_103, ti_108, ti_110, ti_114, ti_127]); omega) | (split <;> omega)) (by first | omega | ((try simp only [Int32.lt_iff_toInt_lt, Int32.le_iff_toInt_le, ← Int32.toInt_inj, Int32.toInt_toInt64, ti_m14, ti_m13, ti_m12, ti_m11, ti_m10, ti_m9, ti_m6, ti_m5, ti_m4, ti_m3, ti_m2, ti_m1, ti_0, ti_1, ti_2, ti_3, ti_4, ti_5, ti_6, ti_7, ti_8, ti_9, ti_10, ti_11, ti_12, ti_19, ti_20, ti_21, ti_44, ti_45, ti_48, ti_57, ti_59, ti_60, ti_98, ti_99, ti_100, ti_101, ti_103, ti_108, ti_110, ti_114, ti_127]); omega) | (split <;> omega))
            refine ⟨hi96, ?_⟩
            have hz97 := vlt hi96
            intro it98 em99
            have hI100 : I8 lg88 it98 := by rw [em99]; exact i8_u hI90 (ok8_a (oq_18) (by decide))
            have hK101 : Kc (fun j => (2 ≤ j ∧ j < 19) ∨ (486 ≤ j ∧ j < 489)) lg0 it0 lg88 it98 := by rw [em99]; exact kc_u (by first | omega | (dsimp only; omega)) hK92
            subst hp
            exact ⟨⟨hI100, hK101⟩, by rw [show wlA V a1 a2 = (wTold (rA V), setA V a2) from (by unfold wlA; rw [if_neg (not_not_intro (show 0 ≤ a1.toInt ∧ a1.toInt ≤ 1 by omega)), if_neg (not_not_intro (show -1 ≤ a2.toInt ∧ a2.toInt ≤ 4 by omega)), if_neg (fun q => (ha86.resolve_left (fun q => by rw [q.1] at c43; exact absurd c43 (by decide))).2 q.2), if_pos c1])]; exact ⟨by rw [ha94, show rA V = it81 18 0 from by rw [← F87.1]; rfl, (show a1 = 0 from Int32.toInt_inj.mp (by first | exact c1.trans ti_0.symm | exact c6.trans ti_1.symm))]; rfl, by rw [em99, (show a1 = 0 from Int32.toInt_inj.mp (by first | exact c1.trans ti_0.symm | exact c6.trans ti_1.symm))]; exact rv_setA F95⟩⟩
          · try simp only [Int32.lt_iff_toInt_lt, Int32.le_iff_toInt_le, ← Int32.toInt_inj, Int32.toInt_toInt64, ti_m14, ti_m13, ti_m12, ti_m11, ti_m10, ti_m9, ti_m6, ti_m5, ti_m4, ti_m3, ti_m2, ti_m1, ti_0, ti_1, ti_2, ti_3, ti_4, ti_5, ti_6, ti_7, ti_8, ti_9, ti_10, ti_11, ti_12, ti_19, ti_20, ti_21, ti_44, ti_45, ti_48, ti_57, ti_59, ti_60, ti_98, ti_99, ti_100, ti_101, ti_103, ti_108, ti_110, ti_114, ti_127] at c43
            subst hp
            exact ⟨⟨hI82, hK84⟩, by rw [show wlA V a1 a2 = (-3, V) from (by unfold wlA; rw [if_neg (not_not_intro (show 0 ≤ a1.toInt ∧ a1.toInt ≤ 1 by omega)), if_neg (not_not_intro (show -1 ≤ a2.toInt ∧ a2.toInt ≤ 4 by omega)), if_pos ⟨by omega, (ha86.resolve_right (fun q => by rw [q.1] at c43; exact absurd rfl c43)).2⟩])]; exact ⟨rfl, F87⟩⟩
      · try simp only [Int32.lt_iff_toInt_lt, Int32.le_iff_toInt_le, ← Int32.toInt_inj, Int32.toInt_toInt64, ti_m14, ti_m13, ti_m12, ti_m11, ti_m10, ti_m9, ti_m6, ti_m5, ti_m4, ti_m3, ti_m2, ti_m1, ti_0, ti_1, ti_2, ti_3, ti_4, ti_5, ti_6, ti_7, ti_8, ti_9, ti_10, ti_11, ti_12, ti_19, ti_20, ti_21, ti_44, ti_45, ti_48, ti_57, ti_59, ti_60, ti_98, ti_99, ti_100, ti_101, ti_103, ti_108, ti_110, ti_114, ti_127] at c20
        subst hp
        exact ⟨⟨hI, hKr⟩, by rw [show wlA V a1 a2 = (-2, V) from (by unfold wlA; rw [if_neg (not_not_intro (show 0 ≤ a1.toInt ∧ a1.toInt ≤ 1 by omega)), if_pos (by omega)])]; exact ⟨rfl, hV⟩⟩
  · try simp only [Int32.lt_iff_toInt_lt, Int32.le_iff_toInt_le, ← Int32.toInt_inj, Int32.toInt_toInt64, ti_m14, ti_m13, ti_m12, ti_m11, ti_m10, ti_m9, ti_m6, ti_m5, ti_m4, ti_m3, ti_m2, ti_m1, ti_0, ti_1, ti_2, ti_3, ti_4, ti_5, ti_6, ti_7, ti_8, ti_9, ti_10, ti_11, ti_12, ti_19, ti_20, ti_21, ti_44, ti_45, ti_48, ti_57, ti_59, ti_60, ti_98, ti_99, ti_100, ti_101, ti_103, ti_108, ti_110, ti_114, ti_127] at c1
    refine ⟨fun c6 => ?_, fun c6 => ?_⟩
    · try simp only [Int32.lt_iff_toInt_lt, Int32.le_iff_toInt_le, ← Int32.toInt_inj, Int32.toInt_toInt64, ti_m14, ti_m13, ti_m12, ti_m11, ti_m10, ti_m9, ti_m6, ti_m5, ti_m4, ti_m3, ti_m2, ti_m1, ti_0, ti_1, ti_2, ti_3, ti_4, ti_5, ti_6, ti_7, ti_8, ti_9, ti_10, ti_11, ti_12, ti_19, ti_20, ti_21, ti_44, ti_45, ti_48, ti_57, ti_59, ti_60, ti_98, ti_99, ti_100, ti_101, ti_103, ti_108, ti_110, ti_114, ti_127] at c6
      unfold w_X8_wall_b11
      refine ⟨fun c13 => ?_, fun c13 => ?_⟩
      · try simp only [Int32.lt_iff_toInt_lt, Int32.le_iff_toInt_le, ← Int32.toInt_inj, Int32.toInt_toInt64, ti_m14, ti_m13, ti_m12, ti_m11, ti_m10, ti_m9, ti_m6, ti_m5, ti_m4, ti_m3, ti_m2, ti_m1, ti_0, ti_1, ti_2, ti_3, ti_4, ti_5, ti_6, ti_7, ti_8, ti_9, ti_10, ti_11, ti_12, ti_19, ti_20, ti_21, ti_44, ti_45, ti_48, ti_57, ti_59, ti_60, ti_98, ti_99, ti_100, ti_101, ti_103, ti_108, ti_110, ti_114, ti_127] at c13
        unfold w_X8_wall_b26
        refine ⟨fun c28 => ?_, fun c28 => ?_⟩
        · try simp only [Int32.lt_iff_toInt_lt, Int32.le_iff_toInt_le, ← Int32.toInt_inj, Int32.toInt_toInt64, ti_m14, ti_m13, ti_m12, ti_m11, ti_m10, ti_m9, ti_m6, ti_m5, ti_m4, ti_m3, ti_m2, ti_m1, ti_0, ti_1, ti_2, ti_3, ti_4, ti_5, ti_6, ti_7, ti_8, ti_9, ti_10, ti_11, ti_12, ti_19, ti_20, ti_21, ti_44, ti_45, ti_48, ti_57, ti_59, ti_60, ti_98, ti_99, ti_100, ti_101, ti_103, ti_108, ti_110, ti_114, ti_127] at c28
          unfold w_X8_wall_b49
          refine ⟨_, f_X8_toldWall  (a1) hI (by omega) (wall_ge hV hVO (by omega)), ?_⟩
          intro v107 lg102 it103 hq
          obtain ⟨⟨hI104, hK105⟩, ha108⟩ := hq
          have hK106 : Kc (fun j => (2 ≤ j ∧ j < 19) ∨ (486 ≤ j ∧ j < 489)) lg0 it0 lg102 it103 := kc_t hKr hK105 (fun j hj => by first | omega | exact False.elim hj | (dsimp only at hj ⊢; omega))
          have F109 : RV lg102 it103 2 V := rv_k hV hK105 (fun j hj => by first | omega | exact False.elim hj | (dsimp only at hj ⊢; omega))
          have hi110 : vp_in a1 2 := vp_of (by first | omega | ((try simp only [Int32.lt_iff_toInt_lt, Int32.le_iff_toInt_le, ← Int32.toInt_inj, Int32.toInt_toInt64, ti_m14, ti_m13, ti_m12, ti_m11, ti_m10, ti_m9, ti_m6, ti_m5, ti_m4, ti_m3, ti_m2, ti_m1, ti_0, ti_1, ti_2, ti_3, ti_4, ti_5, ti_6, ti_7, ti_8, ti_9, ti_10, ti_11, ti_12, ti_19, ti_20, ti_21, ti_44, ti_45, ti_48, ti_57, ti_59, ti_60, ti_98, ti_99, ti_100, ti_101, ti_103, ti_108, ti_110, ti_114, ti_127]); omega) | (split <;> omega)) (by first | omega | ((try simp only [Int32.lt_iff_toInt_lt, Int32.le_iff_toInt_le, ← Int32.toInt_inj, Int32.toInt_toInt64, ti_m14, ti_m13, ti_m12, ti_m11, ti_m10, ti_m9, ti_m6, ti_m5, ti_m4, ti_m3, ti_m2, ti_m1, ti_0, ti_1, ti_2, ti_3, ti_4, ti_5, ti_6, ti_7, ti_8, ti_9, ti_10, ti_11, ti_12, ti_19, ti_20, ti_21, ti_44, ti_45, ti_48, ti_57, ti_59, ti_60, ti_98, ti_99, ti_100, ti_101, ti_103, ti_108, ti_110, ti_114, ti_127]); omega) | (split <;> omega))
          refine ⟨hi110, ?_⟩
          have hz111 := vlt hi110
          intro it112 em113
          have hI114 : I8 lg102 it112 := by rw [em113]; exact i8_u hI104 (ok8_a (oq_18) (by decide))
          have hK115 : Kc (fun j => (2 ≤ j ∧ j < 19) ∨ (486 ≤ j ∧ j < 489)) lg0 it0 lg102 it112 := by rw [em113]; exact kc_u (by first | omega | (dsimp only; omega)) hK106
          subst hp
          exact ⟨⟨hI114, hK115⟩, by rw [show wlA V a1 a2 = (wTold (rB V), setB V a2) from (by unfold wlA; rw [if_neg (not_not_intro (show 0 ≤ a1.toInt ∧ a1.toInt ≤ 1 by omega)), if_neg (not_not_intro (show -1 ≤ a2.toInt ∧ a2.toInt ≤ 4 by omega)), if_neg (fun q => by omega), if_neg c1])]; exact ⟨by rw [ha108, show rB V = it0 18 1 from by rw [← hV.1]; rfl, (show a1 = 1 from Int32.toInt_inj.mp (by first | exact c1.trans ti_0.symm | exact c6.trans ti_1.symm))]; rfl, by rw [em113, (show a1 = 1 from Int32.toInt_inj.mp (by first | exact c1.trans ti_0.symm | exact c6.trans ti_1.symm))]; exact rv_setB F109⟩⟩
        · try simp only [Int32.lt_iff_toInt_lt, Int32.le_iff_toInt_le, ← Int32.toInt_inj, Int32.toInt_toInt64, ti_m14, ti_m13, ti_m12, ti_m11, ti_m10, ti_m9, ti_m6, ti_m5, ti_m4, ti_m3, ti_m2, ti_m1, ti_0, ti_1, ti_2, ti_3, ti_4, ti_5, ti_6, ti_7, ti_8, ti_9, ti_10, ti_11, ti_12, ti_19, ti_20, ti_21, ti_44, ti_45, ti_48, ti_57, ti_59, ti_60, ti_98, ti_99, ti_100, ti_101, ti_103, ti_108, ti_110, ti_114, ti_127] at c28
          refine ⟨_, f_X8_isAnyBeyond (in_rb_2) (a1) hI (V) (hV), ?_⟩
          intro v121 lg116 it117 hq
          obtain ⟨⟨hI118, hK119⟩, ha122⟩ := hq
          have hK120 : Kc (fun j => (2 ≤ j ∧ j < 19) ∨ (486 ≤ j ∧ j < 489)) lg0 it0 lg116 it117 := kc_t hKr hK119 (fun j hj => by first | omega | exact False.elim hj | (dsimp only at hj ⊢; omega))
          have F123 : RV lg116 it117 2 V := rv_k hV hK119 (fun j hj => by first | omega | exact False.elim hj | (dsimp only at hj ⊢; omega))
          refine ⟨fun c43 => ?_, fun c43 => ?_⟩
          · try simp only [Int32.lt_iff_toInt_lt, Int32.le_iff_toInt_le, ← Int32.toInt_inj, Int32.toInt_toInt64, ti_m14, ti_m13, ti_m12, ti_m11, ti_m10, ti_m9, ti_m6, ti_m5, ti_m4, ti_m3, ti_m2, ti_m1, ti_0, ti_1, ti_2, ti_3, ti_4, ti_5, ti_6, ti_7, ti_8, ti_9, ti_10, ti_11, ti_12, ti_19, ti_20, ti_21, ti_44, ti_45, ti_48, ti_57, ti_59, ti_60, ti_98, ti_99, ti_100, ti_101, ti_103, ti_108, ti_110, ti_114, ti_127] at c43
            unfold w_X8_wall_b49
            refine ⟨_, f_X8_toldWall  (a1) hI118 (by omega) (wall_ge F123 hVO (by omega)), ?_⟩
            intro v129 lg124 it125 hq
            obtain ⟨⟨hI126, hK127⟩, ha130⟩ := hq
            have hK128 : Kc (fun j => (2 ≤ j ∧ j < 19) ∨ (486 ≤ j ∧ j < 489)) lg0 it0 lg124 it125 := kc_t hK120 hK127 (fun j hj => by first | omega | exact False.elim hj | (dsimp only at hj ⊢; omega))
            have F131 : RV lg124 it125 2 V := rv_k F123 hK127 (fun j hj => by first | omega | exact False.elim hj | (dsimp only at hj ⊢; omega))
            have hi132 : vp_in a1 2 := vp_of (by first | omega | ((try simp only [Int32.lt_iff_toInt_lt, Int32.le_iff_toInt_le, ← Int32.toInt_inj, Int32.toInt_toInt64, ti_m14, ti_m13, ti_m12, ti_m11, ti_m10, ti_m9, ti_m6, ti_m5, ti_m4, ti_m3, ti_m2, ti_m1, ti_0, ti_1, ti_2, ti_3, ti_4, ti_5, ti_6, ti_7, ti_8, ti_9, ti_10, ti_11, ti_12, ti_19, ti_20, ti_21, ti_44, ti_45, ti_48, ti_57, ti_59, ti_60, ti_98, ti_99, ti_100, ti_101, ti_103, ti_108, ti_110, ti_114, ti_127]); omega) | (split <;> omega)) (by first | omega | ((try simp only [Int32.lt_iff_toInt_lt, Int32.le_iff_toInt_le, ← Int32.toInt_inj, Int32.toInt_toInt64, ti_m14, ti_m13, ti_m12, ti_m11, ti_m10, ti_m9, ti_m6, ti_m5, ti_m4, ti_m3, ti_m2, ti_m1, ti_0, ti_1, ti_2, ti_3, ti_4, ti_5, ti_6, ti_7, ti_8, ti_9, ti_10, ti_11, ti_12, ti_19, ti_20, ti_21, ti_44, ti_45, ti_48, ti_57, ti_59, ti_60, ti_98, ti_99, ti_100, ti_101, ti_103, ti_108, ti_110, ti_114, ti_127]); omega) | (split <;> omega))
            refine ⟨hi132, ?_⟩
            have hz133 := vlt hi132
            intro it134 em135
            have hI136 : I8 lg124 it134 := by rw [em135]; exact i8_u hI126 (ok8_a (oq_18) (by decide))
            have hK137 : Kc (fun j => (2 ≤ j ∧ j < 19) ∨ (486 ≤ j ∧ j < 489)) lg0 it0 lg124 it134 := by rw [em135]; exact kc_u (by first | omega | (dsimp only; omega)) hK128
            subst hp
            exact ⟨⟨hI136, hK137⟩, by rw [show wlA V a1 a2 = (wTold (rB V), setB V a2) from (by unfold wlA; rw [if_neg (not_not_intro (show 0 ≤ a1.toInt ∧ a1.toInt ≤ 1 by omega)), if_neg (not_not_intro (show -1 ≤ a2.toInt ∧ a2.toInt ≤ 4 by omega)), if_neg (fun q => (ha122.resolve_left (fun q => by rw [q.1] at c43; exact absurd c43 (by decide))).2 q.2), if_neg c1])]; exact ⟨by rw [ha130, show rB V = it117 18 1 from by rw [← F123.1]; rfl, (show a1 = 1 from Int32.toInt_inj.mp (by first | exact c1.trans ti_0.symm | exact c6.trans ti_1.symm))]; rfl, by rw [em135, (show a1 = 1 from Int32.toInt_inj.mp (by first | exact c1.trans ti_0.symm | exact c6.trans ti_1.symm))]; exact rv_setB F131⟩⟩
          · try simp only [Int32.lt_iff_toInt_lt, Int32.le_iff_toInt_le, ← Int32.toInt_inj, Int32.toInt_toInt64, ti_m14, ti_m13, ti_m12, ti_m11, ti_m10, ti_m9, ti_m6, ti_m5, ti_m4, ti_m3, ti_m2, ti_m1, ti_0, ti_1, ti_2, ti_3, ti_4, ti_5, ti_6, ti_7, ti_8, ti_9, ti_10, ti_11, ti_12, ti_19, ti_20, ti_21, ti_44, ti_45, ti_48, ti_57, ti_59, ti_60, ti_98, ti_99, ti_100, ti_101, ti_103, ti_108, ti_110, ti_114, ti_127] at c43
            subst hp
            exact ⟨⟨hI118, hK120⟩, by rw [show wlA V a1 a2 = (-3, V) from (by unfold wlA; rw [if_neg (not_not_intro (show 0 ≤ a1.toInt ∧ a1.toInt ≤ 1 by omega)), if_neg (not_not_intro (show -1 ≤ a2.toInt ∧ a2.toInt ≤ 4 by omega)), if_pos ⟨by omega, (ha122.resolve_right (fun q => by rw [q.1] at c43; exact absurd rfl c43)).2⟩])]; exact ⟨rfl, F123⟩⟩
      · try simp only [Int32.lt_iff_toInt_lt, Int32.le_iff_toInt_le, ← Int32.toInt_inj, Int32.toInt_toInt64, ti_m14, ti_m13, ti_m12, ti_m11, ti_m10, ti_m9, ti_m6, ti_m5, ti_m4, ti_m3, ti_m2, ti_m1, ti_0, ti_1, ti_2, ti_3, ti_4, ti_5, ti_6, ti_7, ti_8, ti_9, ti_10, ti_11, ti_12, ti_19, ti_20, ti_21, ti_44, ti_45, ti_48, ti_57, ti_59, ti_60, ti_98, ti_99, ti_100, ti_101, ti_103, ti_108, ti_110, ti_114, ti_127] at c13
        refine ⟨fun c20 => ?_, fun c20 => ?_⟩
        · try simp only [Int32.lt_iff_toInt_lt, Int32.le_iff_toInt_le, ← Int32.toInt_inj, Int32.toInt_toInt64, ti_m14, ti_m13, ti_m12, ti_m11, ti_m10, ti_m9, ti_m6, ti_m5, ti_m4, ti_m3, ti_m2, ti_m1, ti_0, ti_1, ti_2, ti_3, ti_4, ti_5, ti_6, ti_7, ti_8, ti_9, ti_10, ti_11, ti_12, ti_19, ti_20, ti_21, ti_44, ti_45, ti_48, ti_57, ti_59, ti_60, ti_98, ti_99, ti_100, ti_101, ti_103, ti_108, ti_110, ti_114, ti_127] at c20
          unfold w_X8_wall_b26
          refine ⟨fun c28 => ?_, fun c28 => ?_⟩
          · try simp only [Int32.lt_iff_toInt_lt, Int32.le_iff_toInt_le, ← Int32.toInt_inj, Int32.toInt_toInt64, ti_m14, ti_m13, ti_m12, ti_m11, ti_m10, ti_m9, ti_m6, ti_m5, ti_m4, ti_m3, ti_m2, ti_m1, ti_0, ti_1, ti_2, ti_3, ti_4, ti_5, ti_6, ti_7, ti_8, ti_9, ti_10, ti_11, ti_12, ti_19, ti_20, ti_21, ti_44, ti_45, ti_48, ti_57, ti_59, ti_60, ti_98, ti_99, ti_100, ti_101, ti_103, ti_108, ti_110, ti_114, ti_127] at c28
            unfold w_X8_wall_b49
            refine ⟨_, f_X8_toldWall  (a1) hI (by omega) (wall_ge hV hVO (by omega)), ?_⟩
            intro v143 lg138 it139 hq
            obtain ⟨⟨hI140, hK141⟩, ha144⟩ := hq
            have hK142 : Kc (fun j => (2 ≤ j ∧ j < 19) ∨ (486 ≤ j ∧ j < 489)) lg0 it0 lg138 it139 := kc_t hKr hK141 (fun j hj => by first | omega | exact False.elim hj | (dsimp only at hj ⊢; omega))
            have F145 : RV lg138 it139 2 V := rv_k hV hK141 (fun j hj => by first | omega | exact False.elim hj | (dsimp only at hj ⊢; omega))
            have hi146 : vp_in a1 2 := vp_of (by first | omega | ((try simp only [Int32.lt_iff_toInt_lt, Int32.le_iff_toInt_le, ← Int32.toInt_inj, Int32.toInt_toInt64, ti_m14, ti_m13, ti_m12, ti_m11, ti_m10, ti_m9, ti_m6, ti_m5, ti_m4, ti_m3, ti_m2, ti_m1, ti_0, ti_1, ti_2, ti_3, ti_4, ti_5, ti_6, ti_7, ti_8, ti_9, ti_10, ti_11, ti_12, ti_19, ti_20, ti_21, ti_44, ti_45, ti_48, ti_57, ti_59, ti_60, ti_98, ti_99, ti_100, ti_101, ti_103, ti_108, ti_110, ti_114, ti_127]); omega) | (split <;> omega)) (by first | omega | ((try simp only [Int32.lt_iff_toInt_lt, Int32.le_iff_toInt_le, ← Int32.toInt_inj, Int32.toInt_toInt64, ti_m14, ti_m13, ti_m12, ti_m11, ti_m10, ti_m9, ti_m6, ti_m5, ti_m4, ti_m3, ti_m2, ti_m1, ti_0, ti_1, ti_2, ti_3, ti_4, ti_5, ti_6, ti_7, ti_8, ti_9, ti_10, ti_11, ti_12, ti_19, ti_20, ti_21, ti_44, ti_45, ti_48, ti_57, ti_59, ti_60, ti_98, ti_99, ti_100, ti_101, ti_103, ti_108, ti_110, ti_114, ti_127]); omega) | (split <;> omega))
            refine ⟨hi146, ?_⟩
            have hz147 := vlt hi146
            intro it148 em149
            have hI150 : I8 lg138 it148 := by rw [em149]; exact i8_u hI140 (ok8_a (oq_18) (by decide))
            have hK151 : Kc (fun j => (2 ≤ j ∧ j < 19) ∨ (486 ≤ j ∧ j < 489)) lg0 it0 lg138 it148 := by rw [em149]; exact kc_u (by first | omega | (dsimp only; omega)) hK142
            subst hp
            exact ⟨⟨hI150, hK151⟩, by rw [show wlA V a1 a2 = (wTold (rB V), setB V a2) from (by unfold wlA; rw [if_neg (not_not_intro (show 0 ≤ a1.toInt ∧ a1.toInt ≤ 1 by omega)), if_neg (not_not_intro (show -1 ≤ a2.toInt ∧ a2.toInt ≤ 4 by omega)), if_neg (fun q => by omega), if_neg c1])]; exact ⟨by rw [ha144, show rB V = it0 18 1 from by rw [← hV.1]; rfl, (show a1 = 1 from Int32.toInt_inj.mp (by first | exact c1.trans ti_0.symm | exact c6.trans ti_1.symm))]; rfl, by rw [em149, (show a1 = 1 from Int32.toInt_inj.mp (by first | exact c1.trans ti_0.symm | exact c6.trans ti_1.symm))]; exact rv_setB F145⟩⟩
          · try simp only [Int32.lt_iff_toInt_lt, Int32.le_iff_toInt_le, ← Int32.toInt_inj, Int32.toInt_toInt64, ti_m14, ti_m13, ti_m12, ti_m11, ti_m10, ti_m9, ti_m6, ti_m5, ti_m4, ti_m3, ti_m2, ti_m1, ti_0, ti_1, ti_2, ti_3, ti_4, ti_5, ti_6, ti_7, ti_8, ti_9, ti_10, ti_11, ti_12, ti_19, ti_20, ti_21, ti_44, ti_45, ti_48, ti_57, ti_59, ti_60, ti_98, ti_99, ti_100, ti_101, ti_103, ti_108, ti_110, ti_114, ti_127] at c28
            refine ⟨_, f_X8_isAnyBeyond (in_rb_2) (a1) hI (V) (hV), ?_⟩
            intro v157 lg152 it153 hq
            obtain ⟨⟨hI154, hK155⟩, ha158⟩ := hq
            have hK156 : Kc (fun j => (2 ≤ j ∧ j < 19) ∨ (486 ≤ j ∧ j < 489)) lg0 it0 lg152 it153 := kc_t hKr hK155 (fun j hj => by first | omega | exact False.elim hj | (dsimp only at hj ⊢; omega))
            have F159 : RV lg152 it153 2 V := rv_k hV hK155 (fun j hj => by first | omega | exact False.elim hj | (dsimp only at hj ⊢; omega))
            refine ⟨fun c43 => ?_, fun c43 => ?_⟩
            · try simp only [Int32.lt_iff_toInt_lt, Int32.le_iff_toInt_le, ← Int32.toInt_inj, Int32.toInt_toInt64, ti_m14, ti_m13, ti_m12, ti_m11, ti_m10, ti_m9, ti_m6, ti_m5, ti_m4, ti_m3, ti_m2, ti_m1, ti_0, ti_1, ti_2, ti_3, ti_4, ti_5, ti_6, ti_7, ti_8, ti_9, ti_10, ti_11, ti_12, ti_19, ti_20, ti_21, ti_44, ti_45, ti_48, ti_57, ti_59, ti_60, ti_98, ti_99, ti_100, ti_101, ti_103, ti_108, ti_110, ti_114, ti_127] at c43
              unfold w_X8_wall_b49
              refine ⟨_, f_X8_toldWall  (a1) hI154 (by omega) (wall_ge F159 hVO (by omega)), ?_⟩
              intro v165 lg160 it161 hq
              obtain ⟨⟨hI162, hK163⟩, ha166⟩ := hq
              have hK164 : Kc (fun j => (2 ≤ j ∧ j < 19) ∨ (486 ≤ j ∧ j < 489)) lg0 it0 lg160 it161 := kc_t hK156 hK163 (fun j hj => by first | omega | exact False.elim hj | (dsimp only at hj ⊢; omega))
              have F167 : RV lg160 it161 2 V := rv_k F159 hK163 (fun j hj => by first | omega | exact False.elim hj | (dsimp only at hj ⊢; omega))
              have hi168 : vp_in a1 2 := vp_of (by first | omega | ((try simp only [Int32.lt_iff_toInt_lt, Int32.le_iff_toInt_le, ← Int32.toInt_inj, Int32.toInt_toInt64, ti_m14, ti_m13, ti_m12, ti_m11, ti_m10, ti_m9, ti_m6, ti_m5, ti_m4, ti_m3, ti_m2, ti_m1, ti_0, ti_1, ti_2, ti_3, ti_4, ti_5, ti_6, ti_7, ti_8, ti_9, ti_10, ti_11, ti_12, ti_19, ti_20, ti_21, ti_44, ti_45, ti_48, ti_57, ti_59, ti_60, ti_98, ti_99, ti_100, ti_101, ti_103, ti_108, ti_110, ti_114, ti_127]); omega) | (split <;> omega)) (by first | omega | ((try simp only [Int32.lt_iff_toInt_lt, Int32.le_iff_toInt_le, ← Int32.toInt_inj, Int32.toInt_toInt64, ti_m14, ti_m13, ti_m12, ti_m11, ti_m10, ti_m9, ti_m6, ti_m5, ti_m4, ti_m3, ti_m2, ti_m1, ti_0, ti_1, ti_2, ti_3, ti_4, ti_5, ti_6, ti_7, ti_8, ti_9, ti_10, ti_11, ti_12, ti_19, ti_20, ti_21, ti_44, ti_45, ti_48, ti_57, ti_59, ti_60, ti_98, ti_99, ti_100, ti_101, ti_103, ti_108, ti_110, ti_114, ti_127]); omega) | (split <;> omega))
              refine ⟨hi168, ?_⟩
              have hz169 := vlt hi168
              intro it170 em171
              have hI172 : I8 lg160 it170 := by rw [em171]; exact i8_u hI162 (ok8_a (oq_18) (by decide))
              have hK173 : Kc (fun j => (2 ≤ j ∧ j < 19) ∨ (486 ≤ j ∧ j < 489)) lg0 it0 lg160 it170 := by rw [em171]; exact kc_u (by first | omega | (dsimp only; omega)) hK164
              subst hp
              exact ⟨⟨hI172, hK173⟩, by rw [show wlA V a1 a2 = (wTold (rB V), setB V a2) from (by unfold wlA; rw [if_neg (not_not_intro (show 0 ≤ a1.toInt ∧ a1.toInt ≤ 1 by omega)), if_neg (not_not_intro (show -1 ≤ a2.toInt ∧ a2.toInt ≤ 4 by omega)), if_neg (fun q => (ha158.resolve_left (fun q => by rw [q.1] at c43; exact absurd c43 (by decide))).2 q.2), if_neg c1])]; exact ⟨by rw [ha166, show rB V = it153 18 1 from by rw [← F159.1]; rfl, (show a1 = 1 from Int32.toInt_inj.mp (by first | exact c1.trans ti_0.symm | exact c6.trans ti_1.symm))]; rfl, by rw [em171, (show a1 = 1 from Int32.toInt_inj.mp (by first | exact c1.trans ti_0.symm | exact c6.trans ti_1.symm))]; exact rv_setB F167⟩⟩
            · try simp only [Int32.lt_iff_toInt_lt, Int32.le_iff_toInt_le, ← Int32.toInt_inj, Int32.toInt_toInt64, ti_m14, ti_m13, ti_m12, ti_m11, ti_m10, ti_m9, ti_m6, ti_m5, ti_m4, ti_m3, ti_m2, ti_m1, ti_0, ti_1, ti_2, ti_3, ti_4, ti_5, ti_6, ti_7, ti_8, ti_9, ti_10, ti_11, ti_12, ti_19, ti_20, ti_21, ti_44, ti_45, ti_48, ti_57, ti_59, ti_60, ti_98, ti_99, ti_100, ti_101, ti_103, ti_108, ti_110, ti_114, ti_127] at c43
              subst hp
              exact ⟨⟨hI154, hK156⟩, by rw [show wlA V a1 a2 = (-3, V) from (by unfold wlA; rw [if_neg (not_not_intro (show 0 ≤ a1.toInt ∧ a1.toInt ≤ 1 by omega)), if_neg (not_not_intro (show -1 ≤ a2.toInt ∧ a2.toInt ≤ 4 by omega)), if_pos ⟨by omega, (ha158.resolve_right (fun q => by rw [q.1] at c43; exact absurd rfl c43)).2⟩])]; exact ⟨rfl, F159⟩⟩
        · try simp only [Int32.lt_iff_toInt_lt, Int32.le_iff_toInt_le, ← Int32.toInt_inj, Int32.toInt_toInt64, ti_m14, ti_m13, ti_m12, ti_m11, ti_m10, ti_m9, ti_m6, ti_m5, ti_m4, ti_m3, ti_m2, ti_m1, ti_0, ti_1, ti_2, ti_3, ti_4, ti_5, ti_6, ti_7, ti_8, ti_9, ti_10, ti_11, ti_12, ti_19, ti_20, ti_21, ti_44, ti_45, ti_48, ti_57, ti_59, ti_60, ti_98, ti_99, ti_100, ti_101, ti_103, ti_108, ti_110, ti_114, ti_127] at c20
          subst hp
          exact ⟨⟨hI, hKr⟩, by rw [show wlA V a1 a2 = (-2, V) from (by unfold wlA; rw [if_neg (not_not_intro (show 0 ≤ a1.toInt ∧ a1.toInt ≤ 1 by omega)), if_pos (by omega)])]; exact ⟨rfl, hV⟩⟩
    · try simp only [Int32.lt_iff_toInt_lt, Int32.le_iff_toInt_le, ← Int32.toInt_inj, Int32.toInt_toInt64, ti_m14, ti_m13, ti_m12, ti_m11, ti_m10, ti_m9, ti_m6, ti_m5, ti_m4, ti_m3, ti_m2, ti_m1, ti_0, ti_1, ti_2, ti_3, ti_4, ti_5, ti_6, ti_7, ti_8, ti_9, ti_10, ti_11, ti_12, ti_19, ti_20, ti_21, ti_44, ti_45, ti_48, ti_57, ti_59, ti_60, ti_98, ti_99, ti_100, ti_101, ti_103, ti_108, ti_110, ti_114, ti_127] at c6
      subst hp
      exact ⟨⟨hI, hKr⟩, by rw [show wlA V a1 a2 = (-1, V) from (by unfold wlA; rw [if_pos (by omega)])]; exact ⟨rfl, hV⟩⟩
theorem ci_k {S : Nat → Prop} {lg lg' : LGt} {it it' : ITt} (h : CI lg it) (hk : Kc S lg it lg' it') (hs : ∀ j, S j → j < 55 ∨ 437 ≤ j) : CI lg' it' := by
  have e55 : it' 55 = it 55 := (hk 55 (fun q => by have := hs _ q; omega)).2
  unfold CI at h ⊢
  rw [e55]
  rcases h with h | ⟨h1, h2, h3, h4⟩
  · exact Or.inl h
  · have h0 := h4.2.2.1 0 (Nat.zero_le _)
    have r0 : RV lg' it' 58 (vw8 lg it 58) := by
      have z := rv_k h0.1 hk (fun j hj => by have := hs j hj; omega)
      have e : (runA (vw8 lg it 58) 0).2.2 = vw8 lg it 58 := rfl
      rw [e] at z
      exact z
    refine Or.inr ⟨h1, h2, ?_, ?_⟩
    · rw [r0.1]; exact h3
    · rw [r0.1]
      obtain ⟨a, b, c, d⟩ := h4
      exact ⟨by rw [e55]; exact a, by rw [e55]; exact b, sk_k c hk (fun j hj => by have := hs j hj; have := cnt_le (vw8 lg it 58) (it 55 5).toNatClampNeg; have := cl32 (i := it 55 5) h1; omega), wk_k d hk (fun j hj => by have := hs j hj; omega)⟩
set_option maxRecDepth 100000 in
theorem f_X8_go (a1 : Int32) {lg0 : LGt} {it0 : ITt} (hI : I8 lg0 it0) (V : Rlv) (hV : RV lg0 it0 2 V) (hVO : VO V) (hc : CI lg0 it0) : w_X8_go a1 (fun (v : Int32) (lg' : LGt) (it' : ITt) => (I8 lg' it' ∧ Kc (fun j => (2 ≤ j ∧ j < 19) ∨ (55 ≤ j ∧ j < 450)) lg0 it0 lg' it') ∧ ((v = (goA V a1).1 ∧ RV lg' it' 2 (goA V a1).2) ∧ CI lg' it'))  lg0 it0 := by
  have hb_a1 := And.intro a1.le_toInt a1.toInt_lt
  have hKr : Kc (fun j => (2 ≤ j ∧ j < 19) ∨ (55 ≤ j ∧ j < 450)) lg0 it0 lg0 it0 := kc_r
  generalize hp : (fun (v : Int32) (lg' : LGt) (it' : ITt) => (I8 lg' it' ∧ Kc (fun j => (2 ≤ j ∧ j < 19) ∨ (55 ≤ j ∧ j < 450)) lg0 it0 lg' it') ∧ ((v = (goA V a1).1 ∧ RV lg' it' 2 (goA V a1).2) ∧ CI lg' it')) = Pz
  unfold w_X8_go
  have hnV : rN V = (it0 2 0).toNatClampNeg := by rw [← hV.1]; rfl
  have f2 := i8_3 hI (obr in_rb_2)
  have hkn := cl32 f2.1
  have hrE : rE V = it0 2 4 := by rw [← hV.1]; rfl
  have hrA : rA V = it0 18 0 := by rw [← hV.1]; rfl
  have hrB : rB V = it0 18 1 := by rw [← hV.1]; rfl
  refine ⟨fun c1 => ?_, fun c1 => ?_⟩
  · try simp only [Int32.lt_iff_toInt_lt, Int32.le_iff_toInt_le, ← Int32.toInt_inj, Int32.toInt_toInt64, ti_m14, ti_m13, ti_m12, ti_m11, ti_m10, ti_m9, ti_m6, ti_m5, ti_m4, ti_m3, ti_m2, ti_m1, ti_0, ti_1, ti_2, ti_3, ti_4, ti_5, ti_6, ti_7, ti_8, ti_9, ti_10, ti_11, ti_12, ti_19, ti_20, ti_21, ti_44, ti_45, ti_48, ti_57, ti_59, ti_60, ti_98, ti_99, ti_100, ti_101, ti_103, ti_108, ti_110, ti_114, ti_127] at c1
    subst hp
    exact ⟨⟨hI, hKr⟩, ⟨by rw [show goA V a1 = (-2, V) from if_pos (by omega)]; exact ⟨rfl, hV⟩, hc⟩⟩
  · try simp only [Int32.lt_iff_toInt_lt, Int32.le_iff_toInt_le, ← Int32.toInt_inj, Int32.toInt_toInt64, ti_m14, ti_m13, ti_m12, ti_m11, ti_m10, ti_m9, ti_m6, ti_m5, ti_m4, ti_m3, ti_m2, ti_m1, ti_0, ti_1, ti_2, ti_3, ti_4, ti_5, ti_6, ti_7, ti_8, ti_9, ti_10, ti_11, ti_12, ti_19, ti_20, ti_21, ti_44, ti_45, ti_48, ti_57, ti_59, ti_60, ti_98, ti_99, ti_100, ti_101, ti_103, ti_108, ti_110, ti_114, ti_127] at c1
    refine ⟨fun c7 => ?_, fun c7 => ?_⟩
    · try simp only [Int32.lt_iff_toInt_lt, Int32.le_iff_toInt_le, ← Int32.toInt_inj, Int32.toInt_toInt64, ti_m14, ti_m13, ti_m12, ti_m11, ti_m10, ti_m9, ti_m6, ti_m5, ti_m4, ti_m3, ti_m2, ti_m1, ti_0, ti_1, ti_2, ti_3, ti_4, ti_5, ti_6, ti_7, ti_8, ti_9, ti_10, ti_11, ti_12, ti_19, ti_20, ti_21, ti_44, ti_45, ti_48, ti_57, ti_59, ti_60, ti_98, ti_99, ti_100, ti_101, ti_103, ti_108, ti_110, ti_114, ti_127] at c7
      refine ⟨_, f_X0_work (in_rb_2) ((20 : Int32)) hI (Or.inl rfl) (hV.2.1) (by rw [hV.1]; exact hVO) (by rw [ti_20]; decide) (hc), ?_⟩
      intro lg21 it22 hq
      obtain ⟨⟨hI23, hK24⟩, ha27⟩ := hq
      have hK25 : Kc (fun j => (2 ≤ j ∧ j < 19) ∨ (55 ≤ j ∧ j < 450)) lg0 it0 lg21 it22 := kc_t hKr hK24 (fun j hj => by first | omega | exact False.elim hj | (dsimp only at hj ⊢; omega))
      try have e28 : (it22 55 3).toInt = (it0 55 3).toInt := congrArg (fun f => Int32.toInt (f 3)) (hK24 55 (by first | omega | (dsimp only; omega))).2
      have F29 : RV lg21 it22 2 V := rv_k hV hK24 (fun j hj => by first | omega | exact False.elim hj | (dsimp only at hj ⊢; omega))
      have hm := mn_min (a := a1) (b := it22 55 3) (n := cnt V 20) (by omega) (by have z := ha27.1.1; rw [hV.1] at z; exact z)
      have f30 : 0 ≤ (it22 55 3).toInt ∧ (it22 55 3).toInt ≤ 20 := i8_0 hI23
      have hi31 : vp_in (if (it22 55 3) < a1 then (it22 55 3) else a1) 21 := vp_of (by first | omega | ((try simp only [Int32.lt_iff_toInt_lt, Int32.le_iff_toInt_le, ← Int32.toInt_inj, Int32.toInt_toInt64, ti_m14, ti_m13, ti_m12, ti_m11, ti_m10, ti_m9, ti_m6, ti_m5, ti_m4, ti_m3, ti_m2, ti_m1, ti_0, ti_1, ti_2, ti_3, ti_4, ti_5, ti_6, ti_7, ti_8, ti_9, ti_10, ti_11, ti_12, ti_19, ti_20, ti_21, ti_44, ti_45, ti_48, ti_57, ti_59, ti_60, ti_98, ti_99, ti_100, ti_101, ti_103, ti_108, ti_110, ti_114, ti_127]); omega) | (split <;> omega)) (by first | omega | ((try simp only [Int32.lt_iff_toInt_lt, Int32.le_iff_toInt_le, ← Int32.toInt_inj, Int32.toInt_toInt64, ti_m14, ti_m13, ti_m12, ti_m11, ti_m10, ti_m9, ti_m6, ti_m5, ti_m4, ti_m3, ti_m2, ti_m1, ti_0, ti_1, ti_2, ti_3, ti_4, ti_5, ti_6, ti_7, ti_8, ti_9, ti_10, ti_11, ti_12, ti_19, ti_20, ti_21, ti_44, ti_45, ti_48, ti_57, ti_59, ti_60, ti_98, ti_99, ti_100, ti_101, ti_103, ti_108, ti_110, ti_114, ti_127]); omega) | (split <;> omega))
      refine ⟨hi31, ?_⟩
      have hz32 := vlt hi31
      refine ⟨_, f_X3_become (in_rb_2) ((rst (vlt (hi31))))  hI23 (by omega), ?_⟩
      intro lg33 it34 hq
      obtain ⟨⟨hI35, hK36⟩, ha39⟩ := hq
      have hK37 : Kc (fun j => (2 ≤ j ∧ j < 19) ∨ (55 ≤ j ∧ j < 450)) lg0 it0 lg33 it34 := kc_t hK25 hK36 (fun j hj => by first | omega | exact False.elim hj | (dsimp only at hj ⊢; omega))
      try have e40 : (it34 55 3).toInt = (it22 55 3).toInt := congrArg (fun f => Int32.toInt (f 3)) (hK36 55 (by first | omega | (dsimp only; omega))).2
      subst hp
      exact ⟨⟨hI35, hK37⟩, ⟨by rw [show goA V a1 = (Int32.ofNat (min a1.toNatClampNeg (cnt V 20)), (runA V (min a1.toNatClampNeg (cnt V 20))).2.2) from if_neg (by omega)]; exact ⟨hm.1, by have q := (ha27.1.2.2.1 (min a1.toNatClampNeg (cnt V 20)) (by rw [hV.1]; exact Nat.min_le_right _ _)).1; rw [hV.1] at q; rw [hm.2] at ha39; exact rv_o q ha39⟩, ci_k ha27.2 hK36 (fun j hj => by first | omega | (dsimp only at hj; omega))⟩⟩
    · try simp only [Int32.lt_iff_toInt_lt, Int32.le_iff_toInt_le, ← Int32.toInt_inj, Int32.toInt_toInt64, ti_m14, ti_m13, ti_m12, ti_m11, ti_m10, ti_m9, ti_m6, ti_m5, ti_m4, ti_m3, ti_m2, ti_m1, ti_0, ti_1, ti_2, ti_3, ti_4, ti_5, ti_6, ti_7, ti_8, ti_9, ti_10, ti_11, ti_12, ti_19, ti_20, ti_21, ti_44, ti_45, ti_48, ti_57, ti_59, ti_60, ti_98, ti_99, ti_100, ti_101, ti_103, ti_108, ti_110, ti_114, ti_127] at c7
      subst hp
      exact ⟨⟨hI, hKr⟩, ⟨by rw [show goA V a1 = (-2, V) from if_pos (by omega)]; exact ⟨rfl, hV⟩, hc⟩⟩
