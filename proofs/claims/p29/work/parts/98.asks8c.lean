/-! queries of the first side leave the course as it may be, and the rail as it was -/
def KC2 (V : Rlv) (S : Nat → Prop) (lg : LGt) (it : ITt) (lg' : LGt) (it' : ITt) : Prop := Kc S lg it lg' it' ∧ CI lg' it' ∧ RV lg' it' 2 V
theorem k2_i {V : Rlv} {S : Nat → Prop} {lg lg' lg2 : LGt} {it it' it2 : ITt} {R : Nat → Prop} (h : KC2 V S lg it lg' it') (n : Kc S lg it lg2 it2) (u : Kc R lg' it' lg2 it2) (hr : ∀ j, R j → 437 ≤ j) : KC2 V S lg it lg2 it2 := ⟨n, ci_k h.2.1 u (fun j hj => Or.inr (hr j hj)), rv_k h.2.2 u (fun j hj => by have := hr j hj; omega)⟩
theorem k2_u {V : Rlv} {S : Nat → Prop} {lg lg' : LGt} {it it' : ITt} {j k : Nat} {v : Int32} (hs : S j) (hj : 437 ≤ j) (h : KC2 V S lg it lg' it') : KC2 V S lg it lg' (u2 it' j k v) := k2_i (R := fun q => q = j) h (kc_u hs h.1) (kc_u rfl kc_r) (fun q e => by have e : q = j := e; omega)
theorem k2_l {V : Rlv} {S : Nat → Prop} {lg lg' : LGt} {it it' : ITt} {j k : Nat} {v : Int64} (hs : S j) (hj : 437 ≤ j) (h : KC2 V S lg it lg' it') : KC2 V S lg it (u2 lg' j k v) it' := k2_i (R := fun q => q = j) h (kc_l hs h.1) (kc_l rfl kc_r) (fun q e => by have e : q = j := e; omega)
theorem k2_f {V : Rlv} {S : Nat → Prop} {lg lg' : LGt} {it it' : ITt} {j k : Nat} {a b : Int64} {v : Int32} (hs : S j) (hj : 437 ≤ j) (h : KC2 V S lg it lg' it') : KC2 V S lg it (sL lg' j a b) (sI it' j k v) := k2_i (R := fun q => q = j) h (kc_f hs h.1) (kc_f rfl kc_r) (fun q e => by have e : q = j := e; omega)
theorem k2_t {V : Rlv} {S R : Nat → Prop} {lg lg' lg2 : LGt} {it it' it2 : ITt} (h : KC2 V S lg it lg' it') (u : Kc R lg' it' lg2 it2) (hs : ∀ j, R j → S j) (hr : ∀ j, R j → 437 ≤ j) : KC2 V S lg it lg2 it2 := k2_i h (kc_t h.1 u hs) u hr
theorem k2_w {V : Rlv} {S : Nat → Prop} {lg lg' lg2 : LGt} {it it' it2 : ITt} (h : KC2 V S lg it lg' it') (u : Kc (fun j => 55 ≤ j ∧ j < 450) lg' it' lg2 it2) (hc : CI lg2 it2) (hs : ∀ j, 55 ≤ j ∧ j < 450 → S j) : KC2 V S lg it lg2 it2 := ⟨kc_t h.1 u hs, hc, rv_k h.2.2 u (fun j hj => by omega)⟩
theorem k2_c {V : Rlv} {S R : Nat → Prop} {lg lg' lg2 : LGt} {it it' it2 : ITt} (h : KC2 V S lg it lg' it') (u : KC2 V R lg' it' lg2 it2) (hs : ∀ j, R j → S j) : KC2 V S lg it lg2 it2 := ⟨kc_t h.1 u.1 hs, u.2⟩
set_option maxRecDepth 100000 in
theorem c_X8_then (a1 : Int32) (a2 : Int32) {lg0 : LGt} {it0 : ITt} (hI : I8 lg0 it0) (V : Rlv) (hV : RV lg0 it0 2 V) (hVO : VO V) (hc : CI lg0 it0) : w_X8_then a1 a2 (fun (v : Int64) (lg' : LGt) (it' : ITt) => (I8 lg' it' ∧ KC2 V (fun j => (55 ≤ j ∧ j < 450) ∨ (486 ≤ j ∧ j < 489)) lg0 it0 lg' it'))  lg0 it0 := by
  have hb_a1 := And.intro a1.le_toInt a1.toInt_lt
  have hb_a2 := And.intro a2.le_toInt a2.toInt_lt
  have hKr : KC2 V (fun j => (55 ≤ j ∧ j < 450) ∨ (486 ≤ j ∧ j < 489)) lg0 it0 lg0 it0 := ⟨kc_r, hc, hV⟩
  generalize hp : (fun (v : Int64) (lg' : LGt) (it' : ITt) => (I8 lg' it' ∧ KC2 V (fun j => (55 ≤ j ∧ j < 450) ∨ (486 ≤ j ∧ j < 489)) lg0 it0 lg' it')) = Pz
  unfold w_X8_then
  refine ⟨fun c1 => ?_, fun c1 => ?_⟩
  · try simp only [Int32.lt_iff_toInt_lt, Int32.le_iff_toInt_le, ← Int32.toInt_inj, Int32.toInt_toInt64, ti_m14, ti_m13, ti_m12, ti_m11, ti_m10, ti_m9, ti_m6, ti_m5, ti_m4, ti_m3, ti_m2, ti_m1, ti_0, ti_1, ti_2, ti_3, ti_4, ti_5, ti_6, ti_7, ti_8, ti_9, ti_10, ti_11, ti_12, ti_19, ti_20, ti_21, ti_44, ti_45, ti_48, ti_57, ti_59, ti_60, ti_98, ti_99, ti_100, ti_101, ti_103, ti_108, ti_110, ti_114, ti_127] at c1
    subst hp
    exact ⟨hI, hKr⟩
  · try simp only [Int32.lt_iff_toInt_lt, Int32.le_iff_toInt_le, ← Int32.toInt_inj, Int32.toInt_toInt64, ti_m14, ti_m13, ti_m12, ti_m11, ti_m10, ti_m9, ti_m6, ti_m5, ti_m4, ti_m3, ti_m2, ti_m1, ti_0, ti_1, ti_2, ti_3, ti_4, ti_5, ti_6, ti_7, ti_8, ti_9, ti_10, ti_11, ti_12, ti_19, ti_20, ti_21, ti_44, ti_45, ti_48, ti_57, ti_59, ti_60, ti_98, ti_99, ti_100, ti_101, ti_103, ti_108, ti_110, ti_114, ti_127] at c1
    refine ⟨fun c6 => ?_, fun c6 => ?_⟩
    · try simp only [Int32.lt_iff_toInt_lt, Int32.le_iff_toInt_le, ← Int32.toInt_inj, Int32.toInt_toInt64, ti_m14, ti_m13, ti_m12, ti_m11, ti_m10, ti_m9, ti_m6, ti_m5, ti_m4, ti_m3, ti_m2, ti_m1, ti_0, ti_1, ti_2, ti_3, ti_4, ti_5, ti_6, ti_7, ti_8, ti_9, ti_10, ti_11, ti_12, ti_19, ti_20, ti_21, ti_44, ti_45, ti_48, ti_57, ti_59, ti_60, ti_98, ti_99, ti_100, ti_101, ti_103, ti_108, ti_110, ti_114, ti_127] at c6
      subst hp
      exact ⟨hI, hKr⟩
    · try simp only [Int32.lt_iff_toInt_lt, Int32.le_iff_toInt_le, ← Int32.toInt_inj, Int32.toInt_toInt64, ti_m14, ti_m13, ti_m12, ti_m11, ti_m10, ti_m9, ti_m6, ti_m5, ti_m4, ti_m3, ti_m2, ti_m1, ti_0, ti_1, ti_2, ti_3, ti_4, ti_5, ti_6, ti_7, ti_8, ti_9, ti_10, ti_11, ti_12, ti_19, ti_20, ti_21, ti_44, ti_45, ti_48, ti_57, ti_59, ti_60, ti_98, ti_99, ti_100, ti_101, ti_103, ti_108, ti_110, ti_114, ti_127] at c6
      refine ⟨fun c13 => ?_, fun c13 => ?_⟩
      · try simp only [Int32.lt_iff_toInt_lt, Int32.le_iff_toInt_le, ← Int32.toInt_inj, Int32.toInt_toInt64, ti_m14, ti_m13, ti_m12, ti_m11, ti_m10, ti_m9, ti_m6, ti_m5, ti_m4, ti_m3, ti_m2, ti_m1, ti_0, ti_1, ti_2, ti_3, ti_4, ti_5, ti_6, ti_7, ti_8, ti_9, ti_10, ti_11, ti_12, ti_19, ti_20, ti_21, ti_44, ti_45, ti_48, ti_57, ti_59, ti_60, ti_98, ti_99, ti_100, ti_101, ti_103, ti_108, ti_110, ti_114, ti_127] at c13
        refine ⟨_, f_X0_work (in_rb_2) ((20 : Int32)) hI (Or.inl rfl) (hKr.2.2.2.1) (by rw [hKr.2.2.1]; exact hVO) (by rw [ti_20]; omega) (hKr.2.1), ?_⟩
        intro lg23 it24 hq
        obtain ⟨⟨hI25, hK26⟩, ha29⟩ := hq
        have hK27 : KC2 V (fun j => (55 ≤ j ∧ j < 450) ∨ (486 ≤ j ∧ j < 489)) lg0 it0 lg23 it24 := k2_w hKr hK26 ha29.2 (fun j hj => by first | omega | exact False.elim hj | (dsimp only at hj ⊢; omega))
        have f30 : 0 ≤ (it24 55 3).toInt ∧ (it24 55 3).toInt ≤ 20 := i8_0 hI25
        have hi31 : vp_in (it24 55 3) 21 := vp_of (by first | omega | ((try simp only [Int32.lt_iff_toInt_lt, Int32.le_iff_toInt_le, ← Int32.toInt_inj, Int32.toInt_toInt64, ti_m14, ti_m13, ti_m12, ti_m11, ti_m10, ti_m9, ti_m6, ti_m5, ti_m4, ti_m3, ti_m2, ti_m1, ti_0, ti_1, ti_2, ti_3, ti_4, ti_5, ti_6, ti_7, ti_8, ti_9, ti_10, ti_11, ti_12, ti_19, ti_20, ti_21, ti_44, ti_45, ti_48, ti_57, ti_59, ti_60, ti_98, ti_99, ti_100, ti_101, ti_103, ti_108, ti_110, ti_114, ti_127]); omega) | (split <;> omega)) (by first | omega | ((try simp only [Int32.lt_iff_toInt_lt, Int32.le_iff_toInt_le, ← Int32.toInt_inj, Int32.toInt_toInt64, ti_m14, ti_m13, ti_m12, ti_m11, ti_m10, ti_m9, ti_m6, ti_m5, ti_m4, ti_m3, ti_m2, ti_m1, ti_0, ti_1, ti_2, ti_3, ti_4, ti_5, ti_6, ti_7, ti_8, ti_9, ti_10, ti_11, ti_12, ti_19, ti_20, ti_21, ti_44, ti_45, ti_48, ti_57, ti_59, ti_60, ti_98, ti_99, ti_100, ti_101, ti_103, ti_108, ti_110, ti_114, ti_127]); omega) | (split <;> omega))
        refine ⟨hi31, ?_⟩
        have hz32 := vlt hi31
        refine ⟨_, s_X8_addUp ((rst (vlt (hi31)))) (a1) hI25 , ?_⟩
        intro lg33 it34 hq
        obtain ⟨hI35, hK36⟩ := hq
        have hK37 : KC2 V (fun j => (55 ≤ j ∧ j < 450) ∨ (486 ≤ j ∧ j < 489)) lg0 it0 lg33 it34 := k2_t hK27 hK36 (fun j hj => by first | omega | exact False.elim hj | (dsimp only at hj ⊢; omega)) (fun j hj => by first | omega | exact False.elim hj | (dsimp only at hj ⊢; omega))
        try have e40 : (it34 55 3).toInt = (it24 55 3).toInt := congrArg (fun f => Int32.toInt (f 3)) (hK36 55 (by first | omega | (dsimp only; omega))).2
        subst hp
        exact ⟨hI35, hK37⟩
      · try simp only [Int32.lt_iff_toInt_lt, Int32.le_iff_toInt_le, ← Int32.toInt_inj, Int32.toInt_toInt64, ti_m14, ti_m13, ti_m12, ti_m11, ti_m10, ti_m9, ti_m6, ti_m5, ti_m4, ti_m3, ti_m2, ti_m1, ti_0, ti_1, ti_2, ti_3, ti_4, ti_5, ti_6, ti_7, ti_8, ti_9, ti_10, ti_11, ti_12, ti_19, ti_20, ti_21, ti_44, ti_45, ti_48, ti_57, ti_59, ti_60, ti_98, ti_99, ti_100, ti_101, ti_103, ti_108, ti_110, ti_114, ti_127] at c13
        subst hp
        exact ⟨hI, hKr⟩
set_option maxRecDepth 100000 in
theorem c_X8_often (a1 : Int32) {lg0 : LGt} {it0 : ITt} (hI : I8 lg0 it0) (V : Rlv) (hV : RV lg0 it0 2 V) (hVO : VO V) (hc : CI lg0 it0) : w_X8_often a1 (fun (v : Int32) (lg' : LGt) (it' : ITt) => (I8 lg' it' ∧ KC2 V (fun j => (55 ≤ j ∧ j < 450)) lg0 it0 lg' it'))  lg0 it0 := by
  have hb_a1 := And.intro a1.le_toInt a1.toInt_lt
  have hKr : KC2 V (fun j => (55 ≤ j ∧ j < 450)) lg0 it0 lg0 it0 := ⟨kc_r, hc, hV⟩
  generalize hp : (fun (v : Int32) (lg' : LGt) (it' : ITt) => (I8 lg' it' ∧ KC2 V (fun j => (55 ≤ j ∧ j < 450)) lg0 it0 lg' it')) = Pz
  unfold w_X8_often
  have f23 : 0 ≤ (it0 2 0).toInt ∧ (it0 2 0).toInt ≤ 6 := i8_3 hI oq_2
  refine ⟨fun c5 => ?_, fun c5 => ?_⟩
  · try simp only [Int32.lt_iff_toInt_lt, Int32.le_iff_toInt_le, ← Int32.toInt_inj, Int32.toInt_toInt64, ti_m14, ti_m13, ti_m12, ti_m11, ti_m10, ti_m9, ti_m6, ti_m5, ti_m4, ti_m3, ti_m2, ti_m1, ti_0, ti_1, ti_2, ti_3, ti_4, ti_5, ti_6, ti_7, ti_8, ti_9, ti_10, ti_11, ti_12, ti_19, ti_20, ti_21, ti_44, ti_45, ti_48, ti_57, ti_59, ti_60, ti_98, ti_99, ti_100, ti_101, ti_103, ti_108, ti_110, ti_114, ti_127] at c5
    refine ⟨_, f_X0_work (in_rb_2) ((20 : Int32)) hI (Or.inl rfl) (hKr.2.2.2.1) (by rw [hKr.2.2.1]; exact hVO) (by rw [ti_20]; omega) (hKr.2.1), ?_⟩
    intro lg24 it25 hq
    obtain ⟨⟨hI26, hK27⟩, ha30⟩ := hq
    have hK28 : KC2 V (fun j => (55 ≤ j ∧ j < 450)) lg0 it0 lg24 it25 := k2_w hKr hK27 ha30.2 (fun j hj => by first | omega | exact False.elim hj | (dsimp only at hj ⊢; omega))
    have lp30 : ∀ (n : Nat) (x2 : Int32) (x3 : Int32) (lg : LGt) (it : ITt), I8 lg it → KC2 V (fun j => (55 ≤ j ∧ j < 450)) lg0 it0 lg it → ((0 ≤ (x3).toInt)) → (21 - (x3).toInt).toNat < n → w_X8_often_b30 a1 Pz  n x2 x3 lg it := by
      intro n30
      induction n30 with
      | zero => intro x2 x3 lg it _ _ _ hn; exact absurd hn (Nat.not_lt_zero _)
      | succ n30 ih30 =>
        intro x2 x3 lg33 it34 hI31 hK32 hv hn
        unfold w_X8_often_b30
        have hv30_0 := hv
        have f35 : 0 ≤ (it34 55 3).toInt ∧ (it34 55 3).toInt ≤ 20 := i8_0 hI31
        refine ⟨fun c38 => ?_, fun c38 => ?_⟩
        · try simp only [Int32.lt_iff_toInt_lt, Int32.le_iff_toInt_le, ← Int32.toInt_inj, Int32.toInt_toInt64, ti_m14, ti_m13, ti_m12, ti_m11, ti_m10, ti_m9, ti_m6, ti_m5, ti_m4, ti_m3, ti_m2, ti_m1, ti_0, ti_1, ti_2, ti_3, ti_4, ti_5, ti_6, ti_7, ti_8, ti_9, ti_10, ti_11, ti_12, ti_19, ti_20, ti_21, ti_44, ti_45, ti_48, ti_57, ti_59, ti_60, ti_98, ti_99, ti_100, ti_101, ti_103, ti_108, ti_110, ti_114, ti_127] at c38
          subst hp
          exact ⟨hI31, hK32⟩
        · try simp only [Int32.lt_iff_toInt_lt, Int32.le_iff_toInt_le, ← Int32.toInt_inj, Int32.toInt_toInt64, ti_m14, ti_m13, ti_m12, ti_m11, ti_m10, ti_m9, ti_m6, ti_m5, ti_m4, ti_m3, ti_m2, ti_m1, ti_0, ti_1, ti_2, ti_3, ti_4, ti_5, ti_6, ti_7, ti_8, ti_9, ti_10, ti_11, ti_12, ti_19, ti_20, ti_21, ti_44, ti_45, ti_48, ti_57, ti_59, ti_60, ti_98, ti_99, ti_100, ti_101, ti_103, ti_108, ti_110, ti_114, ti_127] at c38
          have hi36 : vp_in x3 20 := vp_of (by first | omega | ((try simp only [Int32.lt_iff_toInt_lt, Int32.le_iff_toInt_le, ← Int32.toInt_inj, Int32.toInt_toInt64, ti_m14, ti_m13, ti_m12, ti_m11, ti_m10, ti_m9, ti_m6, ti_m5, ti_m4, ti_m3, ti_m2, ti_m1, ti_0, ti_1, ti_2, ti_3, ti_4, ti_5, ti_6, ti_7, ti_8, ti_9, ti_10, ti_11, ti_12, ti_19, ti_20, ti_21, ti_44, ti_45, ti_48, ti_57, ti_59, ti_60, ti_98, ti_99, ti_100, ti_101, ti_103, ti_108, ti_110, ti_114, ti_127]); omega) | (split <;> omega)) (by first | omega | ((try simp only [Int32.lt_iff_toInt_lt, Int32.le_iff_toInt_le, ← Int32.toInt_inj, Int32.toInt_toInt64, ti_m14, ti_m13, ti_m12, ti_m11, ti_m10, ti_m9, ti_m6, ti_m5, ti_m4, ti_m3, ti_m2, ti_m1, ti_0, ti_1, ti_2, ti_3, ti_4, ti_5, ti_6, ti_7, ti_8, ti_9, ti_10, ti_11, ti_12, ti_19, ti_20, ti_21, ti_44, ti_45, ti_48, ti_57, ti_59, ti_60, ti_98, ti_99, ti_100, ti_101, ti_103, ti_108, ti_110, ti_114, ti_127]); omega) | (split <;> omega))
          refine ⟨hi36, ?_⟩
          have hz37 := vlt hi36
          refine ⟨_, s_X8_takesPart  (a1) ((it34 436 x3.toNatClampNeg)) hI31 , ?_⟩
          intro v43 lg38 it39 hq
          obtain ⟨⟨hI40, hK41⟩, ha44⟩ := hq
          have hK42 : KC2 V (fun j => (55 ≤ j ∧ j < 450)) lg0 it0 lg38 it39 := k2_t hK32 hK41 (fun j hj => by first | omega | exact False.elim hj | (dsimp only at hj ⊢; omega)) (fun j hj => by first | omega | exact False.elim hj | (dsimp only at hj ⊢; omega))
          try have e45 : (it39 55 3).toInt = (it34 55 3).toInt := congrArg (fun f => Int32.toInt (f 3)) (hK41 55 (by first | omega | (dsimp only; omega))).2
          refine ⟨fun c55 => ?_, fun c55 => ?_⟩
          · try simp only [Int32.lt_iff_toInt_lt, Int32.le_iff_toInt_le, ← Int32.toInt_inj, Int32.toInt_toInt64, ti_m14, ti_m13, ti_m12, ti_m11, ti_m10, ti_m9, ti_m6, ti_m5, ti_m4, ti_m3, ti_m2, ti_m1, ti_0, ti_1, ti_2, ti_3, ti_4, ti_5, ti_6, ti_7, ti_8, ti_9, ti_10, ti_11, ti_12, ti_19, ti_20, ti_21, ti_44, ti_45, ti_48, ti_57, ti_59, ti_60, ti_98, ti_99, ti_100, ti_101, ti_103, ti_108, ti_110, ti_114, ti_127] at c55
            try have f46 : ((x3 + 1) : Int32).toInt = (x3).toInt + 1 := ad32 (a := (x3).toInt) (b := 1) (rfl) (ti_1) (by omega) (by omega)
            exact ih30 (x2) ((x3 + 1)) _ _ hI40 hK42 (by first | omega | assumption) (by omega)
          · try simp only [Int32.lt_iff_toInt_lt, Int32.le_iff_toInt_le, ← Int32.toInt_inj, Int32.toInt_toInt64, ti_m14, ti_m13, ti_m12, ti_m11, ti_m10, ti_m9, ti_m6, ti_m5, ti_m4, ti_m3, ti_m2, ti_m1, ti_0, ti_1, ti_2, ti_3, ti_4, ti_5, ti_6, ti_7, ti_8, ti_9, ti_10, ti_11, ti_12, ti_19, ti_20, ti_21, ti_44, ti_45, ti_48, ti_57, ti_59, ti_60, ti_98, ti_99, ti_100, ti_101, ti_103, ti_108, ti_110, ti_114, ti_127] at c55
            try have f47 : ((x2 + 1) : Int32).toInt = (x2).toInt + 1 := ad32 (a := (x2).toInt) (b := 1) (rfl) (ti_1) (by omega) (by omega)
            try have f48 : ((x3 + 1) : Int32).toInt = (x3).toInt + 1 := ad32 (a := (x3).toInt) (b := 1) (rfl) (ti_1) (by omega) (by omega)
            exact ih30 ((x2 + 1)) ((x3 + 1)) _ _ hI40 hK42 (by first | omega | assumption) (by omega)
    have t49 := ti_0
    have t50 := ti_0
    exact ⟨_, lp30 ((21 - ((0 : Int32)).toInt).toNat + 1) ((0 : Int32)) ((0 : Int32)) _ _ hI26 hK28 (by first | omega | assumption) (Nat.lt_succ_self _)⟩
  · try simp only [Int32.lt_iff_toInt_lt, Int32.le_iff_toInt_le, ← Int32.toInt_inj, Int32.toInt_toInt64, ti_m14, ti_m13, ti_m12, ti_m11, ti_m10, ti_m9, ti_m6, ti_m5, ti_m4, ti_m3, ti_m2, ti_m1, ti_0, ti_1, ti_2, ti_3, ti_4, ti_5, ti_6, ti_7, ti_8, ti_9, ti_10, ti_11, ti_12, ti_19, ti_20, ti_21, ti_44, ti_45, ti_48, ti_57, ti_59, ti_60, ti_98, ti_99, ti_100, ti_101, ti_103, ti_108, ti_110, ti_114, ti_127] at c5
    subst hp
    exact ⟨hI, hKr⟩
set_option maxRecDepth 100000 in
theorem c_X8_lastStopBy (a1 : Int32) {lg0 : LGt} {it0 : ITt} (hI : I8 lg0 it0) (V : Rlv) (hV : RV lg0 it0 2 V) (hVO : VO V) (hc : CI lg0 it0) : w_X8_lastStopBy a1 (fun (v : Int32) (lg' : LGt) (it' : ITt) => (I8 lg' it' ∧ KC2 V (fun j => (55 ≤ j ∧ j < 450) ∨ (486 ≤ j ∧ j < 489)) lg0 it0 lg' it') ∧ (v.toInt = -1 ∨ (0 ≤ v.toInt ∧ v.toInt ≤ 20)))  lg0 it0 := by
  have hb_a1 := And.intro a1.le_toInt a1.toInt_lt
  have hKr : KC2 V (fun j => (55 ≤ j ∧ j < 450) ∨ (486 ≤ j ∧ j < 489)) lg0 it0 lg0 it0 := ⟨kc_r, hc, hV⟩
  generalize hp : (fun (v : Int32) (lg' : LGt) (it' : ITt) => (I8 lg' it' ∧ KC2 V (fun j => (55 ≤ j ∧ j < 450) ∨ (486 ≤ j ∧ j < 489)) lg0 it0 lg' it') ∧ (v.toInt = -1 ∨ (0 ≤ v.toInt ∧ v.toInt ≤ 20))) = Pz
  unfold w_X8_lastStopBy
  refine ⟨_, f_X0_work (in_rb_2) ((20 : Int32)) hI (Or.inl rfl) (hKr.2.2.2.1) (by rw [hKr.2.2.1]; exact hVO) (by rw [ti_20]; omega) (hKr.2.1), ?_⟩
  intro lg25 it26 hq
  obtain ⟨⟨hI27, hK28⟩, ha31⟩ := hq
  have hK29 : KC2 V (fun j => (55 ≤ j ∧ j < 450) ∨ (486 ≤ j ∧ j < 489)) lg0 it0 lg25 it26 := k2_w hKr hK28 ha31.2 (fun j hj => by first | omega | exact False.elim hj | (dsimp only at hj ⊢; omega))
  have lp18 : ∀ (n : Nat) (x2 : Int32) (lg : LGt) (it : ITt), I8 lg it → KC2 V (fun j => (55 ≤ j ∧ j < 450) ∨ (486 ≤ j ∧ j < 489)) lg0 it0 lg it → ((0 ≤ (x2).toInt)) → (22 - (x2).toInt).toNat < n → w_X8_lastStopBy_b18 a1 Pz  n x2 lg it := by
    intro n18
    induction n18 with
    | zero => intro x2 lg it _ _ _ hn; exact absurd hn (Nat.not_lt_zero _)
    | succ n18 ih18 =>
      intro x2 lg34 it35 hI32 hK33 hv hn
      unfold w_X8_lastStopBy_b18
      have hv18_0 := hv
      have f36 : 0 ≤ (it35 55 3).toInt ∧ (it35 55 3).toInt ≤ 20 := i8_0 hI32
      refine ⟨fun c26 => ?_, fun c26 => ?_⟩
      · try simp only [Int32.lt_iff_toInt_lt, Int32.le_iff_toInt_le, ← Int32.toInt_inj, Int32.toInt_toInt64, ti_m14, ti_m13, ti_m12, ti_m11, ti_m10, ti_m9, ti_m6, ti_m5, ti_m4, ti_m3, ti_m2, ti_m1, ti_0, ti_1, ti_2, ti_3, ti_4, ti_5, ti_6, ti_7, ti_8, ti_9, ti_10, ti_11, ti_12, ti_19, ti_20, ti_21, ti_44, ti_45, ti_48, ti_57, ti_59, ti_60, ti_98, ti_99, ti_100, ti_101, ti_103, ti_108, ti_110, ti_114, ti_127] at c26
        refine ⟨fun c95 => ?_, fun c95 => ?_⟩
        · try simp only [Int32.lt_iff_toInt_lt, Int32.le_iff_toInt_le, ← Int32.toInt_inj, Int32.toInt_toInt64, ti_m14, ti_m13, ti_m12, ti_m11, ti_m10, ti_m9, ti_m6, ti_m5, ti_m4, ti_m3, ti_m2, ti_m1, ti_0, ti_1, ti_2, ti_3, ti_4, ti_5, ti_6, ti_7, ti_8, ti_9, ti_10, ti_11, ti_12, ti_19, ti_20, ti_21, ti_44, ti_45, ti_48, ti_57, ti_59, ti_60, ti_98, ti_99, ti_100, ti_101, ti_103, ti_108, ti_110, ti_114, ti_127] at c95
          subst hp
          exact ⟨⟨hI32, hK33⟩, by have tm1 := ti_m1; omega⟩
        · try simp only [Int32.lt_iff_toInt_lt, Int32.le_iff_toInt_le, ← Int32.toInt_inj, Int32.toInt_toInt64, ti_m14, ti_m13, ti_m12, ti_m11, ti_m10, ti_m9, ti_m6, ti_m5, ti_m4, ti_m3, ti_m2, ti_m1, ti_0, ti_1, ti_2, ti_3, ti_4, ti_5, ti_6, ti_7, ti_8, ti_9, ti_10, ti_11, ti_12, ti_19, ti_20, ti_21, ti_44, ti_45, ti_48, ti_57, ti_59, ti_60, ti_98, ti_99, ti_100, ti_101, ti_103, ti_108, ti_110, ti_114, ti_127] at c95
          subst hp
          exact ⟨⟨hI32, hK33⟩, by have tm1 := ti_m1; omega⟩
      · try simp only [Int32.lt_iff_toInt_lt, Int32.le_iff_toInt_le, ← Int32.toInt_inj, Int32.toInt_toInt64, ti_m14, ti_m13, ti_m12, ti_m11, ti_m10, ti_m9, ti_m6, ti_m5, ti_m4, ti_m3, ti_m2, ti_m1, ti_0, ti_1, ti_2, ti_3, ti_4, ti_5, ti_6, ti_7, ti_8, ti_9, ti_10, ti_11, ti_12, ti_19, ti_20, ti_21, ti_44, ti_45, ti_48, ti_57, ti_59, ti_60, ti_98, ti_99, ti_100, ti_101, ti_103, ti_108, ti_110, ti_114, ti_127] at c26
        intro lg37 em_lg37 it38 em_it38
        have hI39 : I8 lg37 it38 := by rw [em_it38]; exact i8_u hI32 (ok8_1 (oq_486) (fun _ => Or.inl rfl))
        have hK40 : KC2 V (fun j => (55 ≤ j ∧ j < 450) ∨ (486 ≤ j ∧ j < 489)) lg0 it0 lg37 it38 := by rw [em_lg37, em_it38]; exact k2_f (by first | omega | (dsimp only; omega)) (by first | omega | (dsimp only; omega)) hK33
        have e41 : (it38 55 3).toInt = (it35 55 3).toInt := by rw [em_it38]; exact congrArg Int32.toInt (congrFun (u2_row (by decide)) 3)
        try have f42 : ((x2 + 1) : Int32).toInt = (x2).toInt + 1 := ad32 (a := (x2).toInt) (b := 1) (rfl) (ti_1) (by omega) (by omega)
        have hi43 : vp_in (x2 + 1) 21 := vp_of (by first | omega | ((try simp only [Int32.lt_iff_toInt_lt, Int32.le_iff_toInt_le, ← Int32.toInt_inj, Int32.toInt_toInt64, ti_m14, ti_m13, ti_m12, ti_m11, ti_m10, ti_m9, ti_m6, ti_m5, ti_m4, ti_m3, ti_m2, ti_m1, ti_0, ti_1, ti_2, ti_3, ti_4, ti_5, ti_6, ti_7, ti_8, ti_9, ti_10, ti_11, ti_12, ti_19, ti_20, ti_21, ti_44, ti_45, ti_48, ti_57, ti_59, ti_60, ti_98, ti_99, ti_100, ti_101, ti_103, ti_108, ti_110, ti_114, ti_127]); omega) | (split <;> omega)) (by first | omega | ((try simp only [Int32.lt_iff_toInt_lt, Int32.le_iff_toInt_le, ← Int32.toInt_inj, Int32.toInt_toInt64, ti_m14, ti_m13, ti_m12, ti_m11, ti_m10, ti_m9, ti_m6, ti_m5, ti_m4, ti_m3, ti_m2, ti_m1, ti_0, ti_1, ti_2, ti_3, ti_4, ti_5, ti_6, ti_7, ti_8, ti_9, ti_10, ti_11, ti_12, ti_19, ti_20, ti_21, ti_44, ti_45, ti_48, ti_57, ti_59, ti_60, ti_98, ti_99, ti_100, ti_101, ti_103, ti_108, ti_110, ti_114, ti_127]); omega) | (split <;> omega))
        refine ⟨hi43, ?_⟩
        have hz44 := vlt hi43
        intro q45 em_q45 lg46 em_lg46 it47 em_it47
        have hI48 : I8 lg46 it47 := by rw [em_it47]; exact i8_u hI39 (ok8_1 (oq_486) (fun _ => by rw [em_q45]; exact stF_01 _ _ _ _ _))
        have hK49 : KC2 V (fun j => (55 ≤ j ∧ j < 450) ∨ (486 ≤ j ∧ j < 489)) lg0 it0 lg46 it47 := by rw [em_lg46, em_it47]; exact k2_f (by first | omega | (dsimp only; omega)) (by first | omega | (dsimp only; omega)) hK40
        have e50 : (it47 55 3).toInt = (it38 55 3).toInt := by rw [em_it47]; exact congrArg Int32.toInt (congrFun (u2_row (by decide)) 3)
        refine ⟨fun c63 => ?_, fun c63 => ?_⟩
        · try simp only [Int32.lt_iff_toInt_lt, Int32.le_iff_toInt_le, ← Int32.toInt_inj, Int32.toInt_toInt64, ti_m14, ti_m13, ti_m12, ti_m11, ti_m10, ti_m9, ti_m6, ti_m5, ti_m4, ti_m3, ti_m2, ti_m1, ti_0, ti_1, ti_2, ti_3, ti_4, ti_5, ti_6, ti_7, ti_8, ti_9, ti_10, ti_11, ti_12, ti_19, ti_20, ti_21, ti_44, ti_45, ti_48, ti_57, ti_59, ti_60, ti_98, ti_99, ti_100, ti_101, ti_103, ti_108, ti_110, ti_114, ti_127] at c63
          refine ⟨fun c77 => ?_, fun c77 => ?_⟩
          · try simp only [Int32.lt_iff_toInt_lt, Int32.le_iff_toInt_le, ← Int32.toInt_inj, Int32.toInt_toInt64, ti_m14, ti_m13, ti_m12, ti_m11, ti_m10, ti_m9, ti_m6, ti_m5, ti_m4, ti_m3, ti_m2, ti_m1, ti_0, ti_1, ti_2, ti_3, ti_4, ti_5, ti_6, ti_7, ti_8, ti_9, ti_10, ti_11, ti_12, ti_19, ti_20, ti_21, ti_44, ti_45, ti_48, ti_57, ti_59, ti_60, ti_98, ti_99, ti_100, ti_101, ti_103, ti_108, ti_110, ti_114, ti_127] at c77
            try have f51 : ((x2 + 1) : Int32).toInt = (x2).toInt + 1 := ad32 (a := (x2).toInt) (b := 1) (rfl) (ti_1) (by omega) (by omega)
            exact ih18 ((x2 + 1)) _ _ hI48 hK49 (by first | omega | assumption) (by omega)
          · try simp only [Int32.lt_iff_toInt_lt, Int32.le_iff_toInt_le, ← Int32.toInt_inj, Int32.toInt_toInt64, ti_m14, ti_m13, ti_m12, ti_m11, ti_m10, ti_m9, ti_m6, ti_m5, ti_m4, ti_m3, ti_m2, ti_m1, ti_0, ti_1, ti_2, ti_3, ti_4, ti_5, ti_6, ti_7, ti_8, ti_9, ti_10, ti_11, ti_12, ti_19, ti_20, ti_21, ti_44, ti_45, ti_48, ti_57, ti_59, ti_60, ti_98, ti_99, ti_100, ti_101, ti_103, ti_108, ti_110, ti_114, ti_127] at c77
            subst hp
            exact ⟨⟨hI48, hK49⟩, by have tm1 := ti_m1; omega⟩
        · try simp only [Int32.lt_iff_toInt_lt, Int32.le_iff_toInt_le, ← Int32.toInt_inj, Int32.toInt_toInt64, ti_m14, ti_m13, ti_m12, ti_m11, ti_m10, ti_m9, ti_m6, ti_m5, ti_m4, ti_m3, ti_m2, ti_m1, ti_0, ti_1, ti_2, ti_3, ti_4, ti_5, ti_6, ti_7, ti_8, ti_9, ti_10, ti_11, ti_12, ti_19, ti_20, ti_21, ti_44, ti_45, ti_48, ti_57, ti_59, ti_60, ti_98, ti_99, ti_100, ti_101, ti_103, ti_108, ti_110, ti_114, ti_127] at c63
          subst hp
          exact ⟨⟨hI48, hK49⟩, by have tm1 := ti_m1; omega⟩
  have t52 := ti_0
  exact ⟨_, lp18 ((22 - ((0 : Int32)).toInt).toNat + 1) ((0 : Int32)) _ _ hI27 hK29 (by first | omega | assumption) (Nat.lt_succ_self _)⟩
set_option maxRecDepth 100000 in
theorem c_X8_at (a1 : Int32) (a2 : Int32) (a3 : Int32) {lg0 : LGt} {it0 : ITt} (hI : I8 lg0 it0) (V : Rlv) (hV : RV lg0 it0 2 V) (hVO : VO V) (hc : CI lg0 it0) : w_X8_at a1 a2 a3 (fun (v : Int64) (lg' : LGt) (it' : ITt) => (I8 lg' it' ∧ KC2 V (fun j => (55 ≤ j ∧ j < 450) ∨ (486 ≤ j ∧ j < 489)) lg0 it0 lg' it'))  lg0 it0 := by
  have hb_a1 := And.intro a1.le_toInt a1.toInt_lt
  have hb_a2 := And.intro a2.le_toInt a2.toInt_lt
  have hb_a3 := And.intro a3.le_toInt a3.toInt_lt
  have hKr : KC2 V (fun j => (55 ≤ j ∧ j < 450) ∨ (486 ≤ j ∧ j < 489)) lg0 it0 lg0 it0 := ⟨kc_r, hc, hV⟩
  generalize hp : (fun (v : Int64) (lg' : LGt) (it' : ITt) => (I8 lg' it' ∧ KC2 V (fun j => (55 ≤ j ∧ j < 450) ∨ (486 ≤ j ∧ j < 489)) lg0 it0 lg' it')) = Pz
  unfold w_X8_at
  have f53 : 0 ≤ (it0 2 0).toInt ∧ (it0 2 0).toInt ≤ 6 := i8_3 hI oq_2
  refine ⟨fun c5 => ?_, fun c5 => ?_⟩
  · try simp only [Int32.lt_iff_toInt_lt, Int32.le_iff_toInt_le, ← Int32.toInt_inj, Int32.toInt_toInt64, ti_m14, ti_m13, ti_m12, ti_m11, ti_m10, ti_m9, ti_m6, ti_m5, ti_m4, ti_m3, ti_m2, ti_m1, ti_0, ti_1, ti_2, ti_3, ti_4, ti_5, ti_6, ti_7, ti_8, ti_9, ti_10, ti_11, ti_12, ti_19, ti_20, ti_21, ti_44, ti_45, ti_48, ti_57, ti_59, ti_60, ti_98, ti_99, ti_100, ti_101, ti_103, ti_108, ti_110, ti_114, ti_127] at c5
    subst hp
    exact ⟨hI, hKr⟩
  · try simp only [Int32.lt_iff_toInt_lt, Int32.le_iff_toInt_le, ← Int32.toInt_inj, Int32.toInt_toInt64, ti_m14, ti_m13, ti_m12, ti_m11, ti_m10, ti_m9, ti_m6, ti_m5, ti_m4, ti_m3, ti_m2, ti_m1, ti_0, ti_1, ti_2, ti_3, ti_4, ti_5, ti_6, ti_7, ti_8, ti_9, ti_10, ti_11, ti_12, ti_19, ti_20, ti_21, ti_44, ti_45, ti_48, ti_57, ti_59, ti_60, ti_98, ti_99, ti_100, ti_101, ti_103, ti_108, ti_110, ti_114, ti_127] at c5
    refine ⟨fun c9 => ?_, fun c9 => ?_⟩
    · try simp only [Int32.lt_iff_toInt_lt, Int32.le_iff_toInt_le, ← Int32.toInt_inj, Int32.toInt_toInt64, ti_m14, ti_m13, ti_m12, ti_m11, ti_m10, ti_m9, ti_m6, ti_m5, ti_m4, ti_m3, ti_m2, ti_m1, ti_0, ti_1, ti_2, ti_3, ti_4, ti_5, ti_6, ti_7, ti_8, ti_9, ti_10, ti_11, ti_12, ti_19, ti_20, ti_21, ti_44, ti_45, ti_48, ti_57, ti_59, ti_60, ti_98, ti_99, ti_100, ti_101, ti_103, ti_108, ti_110, ti_114, ti_127] at c9
      subst hp
      exact ⟨hI, hKr⟩
    · try simp only [Int32.lt_iff_toInt_lt, Int32.le_iff_toInt_le, ← Int32.toInt_inj, Int32.toInt_toInt64, ti_m14, ti_m13, ti_m12, ti_m11, ti_m10, ti_m9, ti_m6, ti_m5, ti_m4, ti_m3, ti_m2, ti_m1, ti_0, ti_1, ti_2, ti_3, ti_4, ti_5, ti_6, ti_7, ti_8, ti_9, ti_10, ti_11, ti_12, ti_19, ti_20, ti_21, ti_44, ti_45, ti_48, ti_57, ti_59, ti_60, ti_98, ti_99, ti_100, ti_101, ti_103, ti_108, ti_110, ti_114, ti_127] at c9
      refine ⟨fun c15 => ?_, fun c15 => ?_⟩
      · try simp only [Int32.lt_iff_toInt_lt, Int32.le_iff_toInt_le, ← Int32.toInt_inj, Int32.toInt_toInt64, ti_m14, ti_m13, ti_m12, ti_m11, ti_m10, ti_m9, ti_m6, ti_m5, ti_m4, ti_m3, ti_m2, ti_m1, ti_0, ti_1, ti_2, ti_3, ti_4, ti_5, ti_6, ti_7, ti_8, ti_9, ti_10, ti_11, ti_12, ti_19, ti_20, ti_21, ti_44, ti_45, ti_48, ti_57, ti_59, ti_60, ti_98, ti_99, ti_100, ti_101, ti_103, ti_108, ti_110, ti_114, ti_127] at c15
        subst hp
        exact ⟨hI, hKr⟩
      · try simp only [Int32.lt_iff_toInt_lt, Int32.le_iff_toInt_le, ← Int32.toInt_inj, Int32.toInt_toInt64, ti_m14, ti_m13, ti_m12, ti_m11, ti_m10, ti_m9, ti_m6, ti_m5, ti_m4, ti_m3, ti_m2, ti_m1, ti_0, ti_1, ti_2, ti_3, ti_4, ti_5, ti_6, ti_7, ti_8, ti_9, ti_10, ti_11, ti_12, ti_19, ti_20, ti_21, ti_44, ti_45, ti_48, ti_57, ti_59, ti_60, ti_98, ti_99, ti_100, ti_101, ti_103, ti_108, ti_110, ti_114, ti_127] at c15
        refine ⟨fun c22 => ?_, fun c22 => ?_⟩
        · try simp only [Int32.lt_iff_toInt_lt, Int32.le_iff_toInt_le, ← Int32.toInt_inj, Int32.toInt_toInt64, ti_m14, ti_m13, ti_m12, ti_m11, ti_m10, ti_m9, ti_m6, ti_m5, ti_m4, ti_m3, ti_m2, ti_m1, ti_0, ti_1, ti_2, ti_3, ti_4, ti_5, ti_6, ti_7, ti_8, ti_9, ti_10, ti_11, ti_12, ti_19, ti_20, ti_21, ti_44, ti_45, ti_48, ti_57, ti_59, ti_60, ti_98, ti_99, ti_100, ti_101, ti_103, ti_108, ti_110, ti_114, ti_127] at c22
          refine ⟨_, c_X8_lastStopBy  (a2) hI (V) (hKr.2.2) (hVO) (hKr.2.1), ?_⟩
          intro v59 lg54 it55 hq
          obtain ⟨⟨hI56, hK57⟩, ha60⟩ := hq
          have hK58 : KC2 V (fun j => (55 ≤ j ∧ j < 450) ∨ (486 ≤ j ∧ j < 489)) lg0 it0 lg54 it55 := k2_c hKr hK57 (fun j hj => by first | omega | exact False.elim hj | (dsimp only at hj ⊢; omega))
          refine ⟨fun c38 => ?_, fun c38 => ?_⟩
          · try simp only [Int32.lt_iff_toInt_lt, Int32.le_iff_toInt_le, ← Int32.toInt_inj, Int32.toInt_toInt64, ti_m14, ti_m13, ti_m12, ti_m11, ti_m10, ti_m9, ti_m6, ti_m5, ti_m4, ti_m3, ti_m2, ti_m1, ti_0, ti_1, ti_2, ti_3, ti_4, ti_5, ti_6, ti_7, ti_8, ti_9, ti_10, ti_11, ti_12, ti_19, ti_20, ti_21, ti_44, ti_45, ti_48, ti_57, ti_59, ti_60, ti_98, ti_99, ti_100, ti_101, ti_103, ti_108, ti_110, ti_114, ti_127] at c38
            intro lg61 em_lg61 it62 em_it62
            have hI63 : I8 lg61 it62 := by rw [em_it62]; exact i8_u hI56 (ok8_1 (oq_488) (fun _ => Or.inl rfl))
            have hK64 : KC2 V (fun j => (55 ≤ j ∧ j < 450) ∨ (486 ≤ j ∧ j < 489)) lg0 it0 lg61 it62 := by rw [em_lg61, em_it62]; exact k2_f (by first | omega | (dsimp only; omega)) (by first | omega | (dsimp only; omega)) hK58
            have hi65 : vp_in v59 21 := vp_of (by first | omega | ((try simp only [Int32.lt_iff_toInt_lt, Int32.le_iff_toInt_le, ← Int32.toInt_inj, Int32.toInt_toInt64, ti_m14, ti_m13, ti_m12, ti_m11, ti_m10, ti_m9, ti_m6, ti_m5, ti_m4, ti_m3, ti_m2, ti_m1, ti_0, ti_1, ti_2, ti_3, ti_4, ti_5, ti_6, ti_7, ti_8, ti_9, ti_10, ti_11, ti_12, ti_19, ti_20, ti_21, ti_44, ti_45, ti_48, ti_57, ti_59, ti_60, ti_98, ti_99, ti_100, ti_101, ti_103, ti_108, ti_110, ti_114, ti_127]); omega) | (split <;> omega)) (by first | omega | ((try simp only [Int32.lt_iff_toInt_lt, Int32.le_iff_toInt_le, ← Int32.toInt_inj, Int32.toInt_toInt64, ti_m14, ti_m13, ti_m12, ti_m11, ti_m10, ti_m9, ti_m6, ti_m5, ti_m4, ti_m3, ti_m2, ti_m1, ti_0, ti_1, ti_2, ti_3, ti_4, ti_5, ti_6, ti_7, ti_8, ti_9, ti_10, ti_11, ti_12, ti_19, ti_20, ti_21, ti_44, ti_45, ti_48, ti_57, ti_59, ti_60, ti_98, ti_99, ti_100, ti_101, ti_103, ti_108, ti_110, ti_114, ti_127]); omega) | (split <;> omega))
            refine ⟨hi65, ?_⟩
            have hz66 := vlt hi65
            intro q67 em_q67 lg68 em_lg68 it69 em_it69
            have hI70 : I8 lg68 it69 := by rw [em_it69]; exact i8_u hI63 (ok8_1 (oq_488) (fun _ => by rw [em_q67]; exact stF_01 _ _ _ _ _))
            have hK71 : KC2 V (fun j => (55 ≤ j ∧ j < 450) ∨ (486 ≤ j ∧ j < 489)) lg0 it0 lg68 it69 := by rw [em_lg68, em_it69]; exact k2_f (by first | omega | (dsimp only; omega)) (by first | omega | (dsimp only; omega)) hK64
            have hi72 : vp_in v59 21 := vp_of (by first | omega | ((try simp only [Int32.lt_iff_toInt_lt, Int32.le_iff_toInt_le, ← Int32.toInt_inj, Int32.toInt_toInt64, ti_m14, ti_m13, ti_m12, ti_m11, ti_m10, ti_m9, ti_m6, ti_m5, ti_m4, ti_m3, ti_m2, ti_m1, ti_0, ti_1, ti_2, ti_3, ti_4, ti_5, ti_6, ti_7, ti_8, ti_9, ti_10, ti_11, ti_12, ti_19, ti_20, ti_21, ti_44, ti_45, ti_48, ti_57, ti_59, ti_60, ti_98, ti_99, ti_100, ti_101, ti_103, ti_108, ti_110, ti_114, ti_127]); omega) | (split <;> omega)) (by first | omega | ((try simp only [Int32.lt_iff_toInt_lt, Int32.le_iff_toInt_le, ← Int32.toInt_inj, Int32.toInt_toInt64, ti_m14, ti_m13, ti_m12, ti_m11, ti_m10, ti_m9, ti_m6, ti_m5, ti_m4, ti_m3, ti_m2, ti_m1, ti_0, ti_1, ti_2, ti_3, ti_4, ti_5, ti_6, ti_7, ti_8, ti_9, ti_10, ti_11, ti_12, ti_19, ti_20, ti_21, ti_44, ti_45, ti_48, ti_57, ti_59, ti_60, ti_98, ti_99, ti_100, ti_101, ti_103, ti_108, ti_110, ti_114, ti_127]); omega) | (split <;> omega))
            refine ⟨hi72, ?_⟩
            have hz73 := vlt hi72
            have hi74 : vp_in a1 6 := vp_of (by first | omega | ((try simp only [Int32.lt_iff_toInt_lt, Int32.le_iff_toInt_le, ← Int32.toInt_inj, Int32.toInt_toInt64, ti_m14, ti_m13, ti_m12, ti_m11, ti_m10, ti_m9, ti_m6, ti_m5, ti_m4, ti_m3, ti_m2, ti_m1, ti_0, ti_1, ti_2, ti_3, ti_4, ti_5, ti_6, ti_7, ti_8, ti_9, ti_10, ti_11, ti_12, ti_19, ti_20, ti_21, ti_44, ti_45, ti_48, ti_57, ti_59, ti_60, ti_98, ti_99, ti_100, ti_101, ti_103, ti_108, ti_110, ti_114, ti_127]); omega) | (split <;> omega)) (by first | omega | ((try simp only [Int32.lt_iff_toInt_lt, Int32.le_iff_toInt_le, ← Int32.toInt_inj, Int32.toInt_toInt64, ti_m14, ti_m13, ti_m12, ti_m11, ti_m10, ti_m9, ti_m6, ti_m5, ti_m4, ti_m3, ti_m2, ti_m1, ti_0, ti_1, ti_2, ti_3, ti_4, ti_5, ti_6, ti_7, ti_8, ti_9, ti_10, ti_11, ti_12, ti_19, ti_20, ti_21, ti_44, ti_45, ti_48, ti_57, ti_59, ti_60, ti_98, ti_99, ti_100, ti_101, ti_103, ti_108, ti_110, ti_114, ti_127]); omega) | (split <;> omega))
            refine ⟨hi74, ?_⟩
            have hz75 := vlt hi74
            have hc78 : it69 ((58 + 18 * v59.toNatClampNeg) + 5 + 2 * a1.toNatClampNeg) 2 &&& 1 = it69 ((58 + 18 * v59.toNatClampNeg) + 5 + 2 * a1.toNatClampNeg) 2 := ib (i8_1 hI70 ((rpo5 (rst (vlt (hi72))) (vlt (hi74)))))
            refine ⟨hc78, ?_⟩
            intro lg76 em_lg76 it77 em_it77
            have hI79 : I8 lg76 it77 := by rw [em_it77]; exact i8_u hI70 (ok8_1 (oq_487) (fun _ => i8_1 hI70 ((rpo5 (rst (vlt (hi72))) (vlt (hi74))))))
            have hK80 : KC2 V (fun j => (55 ≤ j ∧ j < 450) ∨ (486 ≤ j ∧ j < 489)) lg0 it0 lg76 it77 := by rw [em_lg76, em_it77]; exact k2_f (by first | omega | (dsimp only; omega)) (by first | omega | (dsimp only; omega)) hK71
            intro q81 em_q81 lg82 em_lg82 it83 em_it83
            have hI84 : I8 lg82 it83 := by rw [em_it83]; exact i8_u hI79 (ok8_1 (oq_487) (fun _ => by rw [em_q81]; exact stF_01 _ _ _ _ _))
            have hK85 : KC2 V (fun j => (55 ≤ j ∧ j < 450) ∨ (486 ≤ j ∧ j < 489)) lg0 it0 lg82 it83 := by rw [em_lg82, em_it83]; exact k2_f (by first | omega | (dsimp only; omega)) (by first | omega | (dsimp only; omega)) hK80
            have hi86 : vp_in v59 21 := vp_of (by first | omega | ((try simp only [Int32.lt_iff_toInt_lt, Int32.le_iff_toInt_le, ← Int32.toInt_inj, Int32.toInt_toInt64, ti_m14, ti_m13, ti_m12, ti_m11, ti_m10, ti_m9, ti_m6, ti_m5, ti_m4, ti_m3, ti_m2, ti_m1, ti_0, ti_1, ti_2, ti_3, ti_4, ti_5, ti_6, ti_7, ti_8, ti_9, ti_10, ti_11, ti_12, ti_19, ti_20, ti_21, ti_44, ti_45, ti_48, ti_57, ti_59, ti_60, ti_98, ti_99, ti_100, ti_101, ti_103, ti_108, ti_110, ti_114, ti_127]); omega) | (split <;> omega)) (by first | omega | ((try simp only [Int32.lt_iff_toInt_lt, Int32.le_iff_toInt_le, ← Int32.toInt_inj, Int32.toInt_toInt64, ti_m14, ti_m13, ti_m12, ti_m11, ti_m10, ti_m9, ti_m6, ti_m5, ti_m4, ti_m3, ti_m2, ti_m1, ti_0, ti_1, ti_2, ti_3, ti_4, ti_5, ti_6, ti_7, ti_8, ti_9, ti_10, ti_11, ti_12, ti_19, ti_20, ti_21, ti_44, ti_45, ti_48, ti_57, ti_59, ti_60, ti_98, ti_99, ti_100, ti_101, ti_103, ti_108, ti_110, ti_114, ti_127]); omega) | (split <;> omega))
            refine ⟨hi86, ?_⟩
            have hz87 := vlt hi86
            have hi88 : vp_in a1 6 := vp_of (by first | omega | ((try simp only [Int32.lt_iff_toInt_lt, Int32.le_iff_toInt_le, ← Int32.toInt_inj, Int32.toInt_toInt64, ti_m14, ti_m13, ti_m12, ti_m11, ti_m10, ti_m9, ti_m6, ti_m5, ti_m4, ti_m3, ti_m2, ti_m1, ti_0, ti_1, ti_2, ti_3, ti_4, ti_5, ti_6, ti_7, ti_8, ti_9, ti_10, ti_11, ti_12, ti_19, ti_20, ti_21, ti_44, ti_45, ti_48, ti_57, ti_59, ti_60, ti_98, ti_99, ti_100, ti_101, ti_103, ti_108, ti_110, ti_114, ti_127]); omega) | (split <;> omega)) (by first | omega | ((try simp only [Int32.lt_iff_toInt_lt, Int32.le_iff_toInt_le, ← Int32.toInt_inj, Int32.toInt_toInt64, ti_m14, ti_m13, ti_m12, ti_m11, ti_m10, ti_m9, ti_m6, ti_m5, ti_m4, ti_m3, ti_m2, ti_m1, ti_0, ti_1, ti_2, ti_3, ti_4, ti_5, ti_6, ti_7, ti_8, ti_9, ti_10, ti_11, ti_12, ti_19, ti_20, ti_21, ti_44, ti_45, ti_48, ti_57, ti_59, ti_60, ti_98, ti_99, ti_100, ti_101, ti_103, ti_108, ti_110, ti_114, ti_127]); omega) | (split <;> omega))
            refine ⟨hi88, ?_⟩
            have hz89 := vlt hi88
            have hc92 : it83 ((58 + 18 * v59.toNatClampNeg) + 4 + 2 * a1.toNatClampNeg) 2 &&& 1 = it83 ((58 + 18 * v59.toNatClampNeg) + 4 + 2 * a1.toNatClampNeg) 2 := ib (i8_1 hI84 ((rpo4 (rst (vlt (hi86))) (vlt (hi88)))))
            refine ⟨hc92, ?_⟩
            intro lg90 em_lg90 it91 em_it91
            have hI93 : I8 lg90 it91 := by rw [em_it91]; exact i8_u hI84 (ok8_1 (oq_486) (fun _ => i8_1 hI84 ((rpo4 (rst (vlt (hi86))) (vlt (hi88))))))
            have hK94 : KC2 V (fun j => (55 ≤ j ∧ j < 450) ∨ (486 ≤ j ∧ j < 489)) lg0 it0 lg90 it91 := by rw [em_lg90, em_it91]; exact k2_f (by first | omega | (dsimp only; omega)) (by first | omega | (dsimp only; omega)) hK85
            intro q95 em_q95 lg96 em_lg96 it97 em_it97
            have hI98 : I8 lg96 it97 := by rw [em_it97]; exact i8_u hI93 (ok8_1 (oq_486) (fun _ => by rw [em_q95]; exact stF_01 _ _ _ _ _))
            have hK99 : KC2 V (fun j => (55 ≤ j ∧ j < 450) ∨ (486 ≤ j ∧ j < 489)) lg0 it0 lg96 it97 := by rw [em_lg96, em_it97]; exact k2_f (by first | omega | (dsimp only; omega)) (by first | omega | (dsimp only; omega)) hK94
            subst hp
            exact ⟨hI98, hK99⟩
          · try simp only [Int32.lt_iff_toInt_lt, Int32.le_iff_toInt_le, ← Int32.toInt_inj, Int32.toInt_toInt64, ti_m14, ti_m13, ti_m12, ti_m11, ti_m10, ti_m9, ti_m6, ti_m5, ti_m4, ti_m3, ti_m2, ti_m1, ti_0, ti_1, ti_2, ti_3, ti_4, ti_5, ti_6, ti_7, ti_8, ti_9, ti_10, ti_11, ti_12, ti_19, ti_20, ti_21, ti_44, ti_45, ti_48, ti_57, ti_59, ti_60, ti_98, ti_99, ti_100, ti_101, ti_103, ti_108, ti_110, ti_114, ti_127] at c38
            subst hp
            exact ⟨hI56, hK58⟩
        · try simp only [Int32.lt_iff_toInt_lt, Int32.le_iff_toInt_le, ← Int32.toInt_inj, Int32.toInt_toInt64, ti_m14, ti_m13, ti_m12, ti_m11, ti_m10, ti_m9, ti_m6, ti_m5, ti_m4, ti_m3, ti_m2, ti_m1, ti_0, ti_1, ti_2, ti_3, ti_4, ti_5, ti_6, ti_7, ti_8, ti_9, ti_10, ti_11, ti_12, ti_19, ti_20, ti_21, ti_44, ti_45, ti_48, ti_57, ti_59, ti_60, ti_98, ti_99, ti_100, ti_101, ti_103, ti_108, ti_110, ti_114, ti_127] at c22
          subst hp
          exact ⟨hI, hKr⟩
set_option maxRecDepth 100000 in
theorem c_X8_looked {lg0 : LGt} {it0 : ITt} (hI : I8 lg0 it0) (V : Rlv) (hV : RV lg0 it0 2 V) (hVO : VO V) (hc : CI lg0 it0) : w_X8_looked  (fun (v : Int32) (lg' : LGt) (it' : ITt) => (I8 lg' it' ∧ KC2 V (fun j => (55 ≤ j ∧ j < 450)) lg0 it0 lg' it'))  lg0 it0 := by
  have hKr : KC2 V (fun j => (55 ≤ j ∧ j < 450)) lg0 it0 lg0 it0 := ⟨kc_r, hc, hV⟩
  generalize hp : (fun (v : Int32) (lg' : LGt) (it' : ITt) => (I8 lg' it' ∧ KC2 V (fun j => (55 ≤ j ∧ j < 450)) lg0 it0 lg' it')) = Pz
  unfold w_X8_looked
  refine ⟨_, f_X0_work (in_rb_2) ((20 : Int32)) hI (Or.inl rfl) (hKr.2.2.2.1) (by rw [hKr.2.2.1]; exact hVO) (by rw [ti_20]; omega) (hKr.2.1), ?_⟩
  intro lg15 it16 hq
  obtain ⟨⟨hI17, hK18⟩, ha21⟩ := hq
  have hK19 : KC2 V (fun j => (55 ≤ j ∧ j < 450)) lg0 it0 lg15 it16 := k2_w hKr hK18 ha21.2 (fun j hj => by first | omega | exact False.elim hj | (dsimp only at hj ⊢; omega))
  refine ⟨_, s_X0_firstUnlike (in_pb_25)  hI17 , ?_⟩
  intro v27 lg22 it23 hq
  obtain ⟨hI24, hK25⟩ := hq
  have hK26 : KC2 V (fun j => (55 ≤ j ∧ j < 450)) lg0 it0 lg22 it23 := k2_t hK19 hK25 (fun j hj => by first | omega | exact False.elim hj | (dsimp only at hj ⊢; omega)) (fun j hj => by first | omega | exact False.elim hj | (dsimp only at hj ⊢; omega))
  subst hp
  exact ⟨hI24, hK26⟩
set_option maxRecDepth 100000 in
theorem c_X8_judge (a1 : Int32) (a2 : Int32) {lg0 : LGt} {it0 : ITt} (hI : I8 lg0 it0) (V : Rlv) (hV : RV lg0 it0 2 V) (hVO : VO V) (hc : CI lg0 it0) : w_X8_judge a1 a2 (fun (v : Int32) (lg' : LGt) (it' : ITt) => (I8 lg' it' ∧ KC2 V (fun j => (55 ≤ j ∧ j < 450)) lg0 it0 lg' it'))  lg0 it0 := by
  have hb_a1 := And.intro a1.le_toInt a1.toInt_lt
  have hb_a2 := And.intro a2.le_toInt a2.toInt_lt
  have hKr : KC2 V (fun j => (55 ≤ j ∧ j < 450)) lg0 it0 lg0 it0 := ⟨kc_r, hc, hV⟩
  generalize hp : (fun (v : Int32) (lg' : LGt) (it' : ITt) => (I8 lg' it' ∧ KC2 V (fun j => (55 ≤ j ∧ j < 450)) lg0 it0 lg' it')) = Pz
  unfold w_X8_judge
  refine ⟨fun c4 => ?_, fun c4 => ?_⟩
  · try simp only [Int32.lt_iff_toInt_lt, Int32.le_iff_toInt_le, ← Int32.toInt_inj, Int32.toInt_toInt64, ti_m14, ti_m13, ti_m12, ti_m11, ti_m10, ti_m9, ti_m6, ti_m5, ti_m4, ti_m3, ti_m2, ti_m1, ti_0, ti_1, ti_2, ti_3, ti_4, ti_5, ti_6, ti_7, ti_8, ti_9, ti_10, ti_11, ti_12, ti_19, ti_20, ti_21, ti_44, ti_45, ti_48, ti_57, ti_59, ti_60, ti_98, ti_99, ti_100, ti_101, ti_103, ti_108, ti_110, ti_114, ti_127] at c4
    have hi30 : vp_in a1 6 := vp_of (by first | omega | ((try simp only [Int32.lt_iff_toInt_lt, Int32.le_iff_toInt_le, ← Int32.toInt_inj, Int32.toInt_toInt64, ti_m14, ti_m13, ti_m12, ti_m11, ti_m10, ti_m9, ti_m6, ti_m5, ti_m4, ti_m3, ti_m2, ti_m1, ti_0, ti_1, ti_2, ti_3, ti_4, ti_5, ti_6, ti_7, ti_8, ti_9, ti_10, ti_11, ti_12, ti_19, ti_20, ti_21, ti_44, ti_45, ti_48, ti_57, ti_59, ti_60, ti_98, ti_99, ti_100, ti_101, ti_103, ti_108, ti_110, ti_114, ti_127]); omega) | (split <;> omega)) (by first | omega | ((try simp only [Int32.lt_iff_toInt_lt, Int32.le_iff_toInt_le, ← Int32.toInt_inj, Int32.toInt_toInt64, ti_m14, ti_m13, ti_m12, ti_m11, ti_m10, ti_m9, ti_m6, ti_m5, ti_m4, ti_m3, ti_m2, ti_m1, ti_0, ti_1, ti_2, ti_3, ti_4, ti_5, ti_6, ti_7, ti_8, ti_9, ti_10, ti_11, ti_12, ti_19, ti_20, ti_21, ti_44, ti_45, ti_48, ti_57, ti_59, ti_60, ti_98, ti_99, ti_100, ti_101, ti_103, ti_108, ti_110, ti_114, ti_127]); omega) | (split <;> omega))
    refine ⟨hi30, ?_⟩
    have hz31 := vlt hi30
    refine ⟨fun c21 => ?_, fun c21 => ?_⟩
    · try simp only [Int32.lt_iff_toInt_lt, Int32.le_iff_toInt_le, ← Int32.toInt_inj, Int32.toInt_toInt64, ti_m14, ti_m13, ti_m12, ti_m11, ti_m10, ti_m9, ti_m6, ti_m5, ti_m4, ti_m3, ti_m2, ti_m1, ti_0, ti_1, ti_2, ti_3, ti_4, ti_5, ti_6, ti_7, ti_8, ti_9, ti_10, ti_11, ti_12, ti_19, ti_20, ti_21, ti_44, ti_45, ti_48, ti_57, ti_59, ti_60, ti_98, ti_99, ti_100, ti_101, ti_103, ti_108, ti_110, ti_114, ti_127] at c21
      unfold w_X8_judge_b34
      refine ⟨_, f_X0_work (in_rb_2) ((20 : Int32)) hI (Or.inl rfl) (hKr.2.2.2.1) (by rw [hKr.2.2.1]; exact hVO) (by rw [ti_20]; omega) (hKr.2.1), ?_⟩
      intro lg32 it33 hq
      obtain ⟨⟨hI34, hK35⟩, ha38⟩ := hq
      have hK36 : KC2 V (fun j => (55 ≤ j ∧ j < 450)) lg0 it0 lg32 it33 := k2_w hKr hK35 ha38.2 (fun j hj => by first | omega | exact False.elim hj | (dsimp only at hj ⊢; omega))
      try have e39 : (it33 (474 + 2 * a1.toNatClampNeg) 0).toInt = (it0 (474 + 2 * a1.toNatClampNeg) 0).toInt := congrArg (fun f => Int32.toInt (f 0)) (hK35 (474 + 2 * a1.toNatClampNeg) (by first | omega | (dsimp only; omega))).2
      have f40 : 0 ≤ (it33 55 3).toInt ∧ (it33 55 3).toInt ≤ 20 := i8_0 hI34
      refine ⟨fun c57 => ?_, fun c57 => ?_⟩
      · try simp only [Int32.lt_iff_toInt_lt, Int32.le_iff_toInt_le, ← Int32.toInt_inj, Int32.toInt_toInt64, ti_m14, ti_m13, ti_m12, ti_m11, ti_m10, ti_m9, ti_m6, ti_m5, ti_m4, ti_m3, ti_m2, ti_m1, ti_0, ti_1, ti_2, ti_3, ti_4, ti_5, ti_6, ti_7, ti_8, ti_9, ti_10, ti_11, ti_12, ti_19, ti_20, ti_21, ti_44, ti_45, ti_48, ti_57, ti_59, ti_60, ti_98, ti_99, ti_100, ti_101, ti_103, ti_108, ti_110, ti_114, ti_127] at c57
        refine ⟨fun c64 => ?_, fun c64 => ?_⟩
        · try simp only [Int32.lt_iff_toInt_lt, Int32.le_iff_toInt_le, ← Int32.toInt_inj, Int32.toInt_toInt64, ti_m14, ti_m13, ti_m12, ti_m11, ti_m10, ti_m9, ti_m6, ti_m5, ti_m4, ti_m3, ti_m2, ti_m1, ti_0, ti_1, ti_2, ti_3, ti_4, ti_5, ti_6, ti_7, ti_8, ti_9, ti_10, ti_11, ti_12, ti_19, ti_20, ti_21, ti_44, ti_45, ti_48, ti_57, ti_59, ti_60, ti_98, ti_99, ti_100, ti_101, ti_103, ti_108, ti_110, ti_114, ti_127] at c64
          have lp73 : ∀ (n : Nat) (x4 : Int32) (lg : LGt) (it : ITt), I8 lg it → KC2 V (fun j => (55 ≤ j ∧ j < 450)) lg0 it0 lg it → ((0 ≤ (x4).toInt)) → (21 - (x4).toInt).toNat < n → w_X8_judge_b73 a1 a2 Pz  n x4 lg it := by
            intro n73
            induction n73 with
            | zero => intro x4 lg it _ _ _ hn; exact absurd hn (Nat.not_lt_zero _)
            | succ n73 ih73 =>
              intro x4 lg43 it44 hI41 hK42 hv hn
              unfold w_X8_judge_b73
              have hv73_0 := hv
              have f45 : 0 ≤ (it44 55 3).toInt ∧ (it44 55 3).toInt ≤ 20 := i8_0 hI41
              refine ⟨fun c82 => ?_, fun c82 => ?_⟩
              · try simp only [Int32.lt_iff_toInt_lt, Int32.le_iff_toInt_le, ← Int32.toInt_inj, Int32.toInt_toInt64, ti_m14, ti_m13, ti_m12, ti_m11, ti_m10, ti_m9, ti_m6, ti_m5, ti_m4, ti_m3, ti_m2, ti_m1, ti_0, ti_1, ti_2, ti_3, ti_4, ti_5, ti_6, ti_7, ti_8, ti_9, ti_10, ti_11, ti_12, ti_19, ti_20, ti_21, ti_44, ti_45, ti_48, ti_57, ti_59, ti_60, ti_98, ti_99, ti_100, ti_101, ti_103, ti_108, ti_110, ti_114, ti_127] at c82
                subst hp
                exact ⟨hI41, hK42⟩
              · try simp only [Int32.lt_iff_toInt_lt, Int32.le_iff_toInt_le, ← Int32.toInt_inj, Int32.toInt_toInt64, ti_m14, ti_m13, ti_m12, ti_m11, ti_m10, ti_m9, ti_m6, ti_m5, ti_m4, ti_m3, ti_m2, ti_m1, ti_0, ti_1, ti_2, ti_3, ti_4, ti_5, ti_6, ti_7, ti_8, ti_9, ti_10, ti_11, ti_12, ti_19, ti_20, ti_21, ti_44, ti_45, ti_48, ti_57, ti_59, ti_60, ti_98, ti_99, ti_100, ti_101, ti_103, ti_108, ti_110, ti_114, ti_127] at c82
                have f46 : 0 ≤ (it44 (474 + 2 * a1.toNatClampNeg) 1).toInt ∧ (it44 (474 + 2 * a1.toNatClampNeg) 1).toInt ≤ 60 := i8_6 hI41 (obt (rtp (vlt (hi30))))
                try have f47 : (((it44 (474 + 2 * a1.toNatClampNeg) 1) - x4) : Int32).toInt = ((it44 (474 + 2 * a1.toNatClampNeg) 1)).toInt - (x4).toInt := sb32 (a := ((it44 (474 + 2 * a1.toNatClampNeg) 1)).toInt) (b := (x4).toInt) (rfl) (rfl) (by omega) (by omega)
                refine ⟨fun c93 => ?_, fun c93 => ?_⟩
                · try simp only [Int32.lt_iff_toInt_lt, Int32.le_iff_toInt_le, ← Int32.toInt_inj, Int32.toInt_toInt64, ti_m14, ti_m13, ti_m12, ti_m11, ti_m10, ti_m9, ti_m6, ti_m5, ti_m4, ti_m3, ti_m2, ti_m1, ti_0, ti_1, ti_2, ti_3, ti_4, ti_5, ti_6, ti_7, ti_8, ti_9, ti_10, ti_11, ti_12, ti_19, ti_20, ti_21, ti_44, ti_45, ti_48, ti_57, ti_59, ti_60, ti_98, ti_99, ti_100, ti_101, ti_103, ti_108, ti_110, ti_114, ti_127] at c93
                  try have f48 : ((a2 + x4) : Int32).toInt = (a2).toInt + (x4).toInt := ad32 (a := (a2).toInt) (b := (x4).toInt) (rfl) (rfl) (by omega) (by omega)
                  have hi49 : vp_in (a2 + x4) 60 := vp_of (by first | omega | ((try simp only [Int32.lt_iff_toInt_lt, Int32.le_iff_toInt_le, ← Int32.toInt_inj, Int32.toInt_toInt64, ti_m14, ti_m13, ti_m12, ti_m11, ti_m10, ti_m9, ti_m6, ti_m5, ti_m4, ti_m3, ti_m2, ti_m1, ti_0, ti_1, ti_2, ti_3, ti_4, ti_5, ti_6, ti_7, ti_8, ti_9, ti_10, ti_11, ti_12, ti_19, ti_20, ti_21, ti_44, ti_45, ti_48, ti_57, ti_59, ti_60, ti_98, ti_99, ti_100, ti_101, ti_103, ti_108, ti_110, ti_114, ti_127]); omega) | (split <;> omega)) (by first | omega | ((try simp only [Int32.lt_iff_toInt_lt, Int32.le_iff_toInt_le, ← Int32.toInt_inj, Int32.toInt_toInt64, ti_m14, ti_m13, ti_m12, ti_m11, ti_m10, ti_m9, ti_m6, ti_m5, ti_m4, ti_m3, ti_m2, ti_m1, ti_0, ti_1, ti_2, ti_3, ti_4, ti_5, ti_6, ti_7, ti_8, ti_9, ti_10, ti_11, ti_12, ti_19, ti_20, ti_21, ti_44, ti_45, ti_48, ti_57, ti_59, ti_60, ti_98, ti_99, ti_100, ti_101, ti_103, ti_108, ti_110, ti_114, ti_127]); omega) | (split <;> omega))
                  refine ⟨hi49, ?_⟩
                  have hz50 := vlt hi49
                  have hi51 : vp_in x4 20 := vp_of (by first | omega | ((try simp only [Int32.lt_iff_toInt_lt, Int32.le_iff_toInt_le, ← Int32.toInt_inj, Int32.toInt_toInt64, ti_m14, ti_m13, ti_m12, ti_m11, ti_m10, ti_m9, ti_m6, ti_m5, ti_m4, ti_m3, ti_m2, ti_m1, ti_0, ti_1, ti_2, ti_3, ti_4, ti_5, ti_6, ti_7, ti_8, ti_9, ti_10, ti_11, ti_12, ti_19, ti_20, ti_21, ti_44, ti_45, ti_48, ti_57, ti_59, ti_60, ti_98, ti_99, ti_100, ti_101, ti_103, ti_108, ti_110, ti_114, ti_127]); omega) | (split <;> omega)) (by first | omega | ((try simp only [Int32.lt_iff_toInt_lt, Int32.le_iff_toInt_le, ← Int32.toInt_inj, Int32.toInt_toInt64, ti_m14, ti_m13, ti_m12, ti_m11, ti_m10, ti_m9, ti_m6, ti_m5, ti_m4, ti_m3, ti_m2, ti_m1, ti_0, ti_1, ti_2, ti_3, ti_4, ti_5, ti_6, ti_7, ti_8, ti_9, ti_10, ti_11, ti_12, ti_19, ti_20, ti_21, ti_44, ti_45, ti_48, ti_57, ti_59, ti_60, ti_98, ti_99, ti_100, ti_101, ti_103, ti_108, ti_110, ti_114, ti_127]); omega) | (split <;> omega))
                  refine ⟨hi51, ?_⟩
                  have hz52 := vlt hi51
                  refine ⟨fun c123 => ?_, fun c123 => ?_⟩
                  · try simp only [Int32.lt_iff_toInt_lt, Int32.le_iff_toInt_le, ← Int32.toInt_inj, Int32.toInt_toInt64, ti_m14, ti_m13, ti_m12, ti_m11, ti_m10, ti_m9, ti_m6, ti_m5, ti_m4, ti_m3, ti_m2, ti_m1, ti_0, ti_1, ti_2, ti_3, ti_4, ti_5, ti_6, ti_7, ti_8, ti_9, ti_10, ti_11, ti_12, ti_19, ti_20, ti_21, ti_44, ti_45, ti_48, ti_57, ti_59, ti_60, ti_98, ti_99, ti_100, ti_101, ti_103, ti_108, ti_110, ti_114, ti_127] at c123
                    try have f53 : ((x4 + 1) : Int32).toInt = (x4).toInt + 1 := ad32 (a := (x4).toInt) (b := 1) (rfl) (ti_1) (by omega) (by omega)
                    exact ih73 ((x4 + 1)) _ _ hI41 hK42 (by first | omega | assumption) (by omega)
                  · try simp only [Int32.lt_iff_toInt_lt, Int32.le_iff_toInt_le, ← Int32.toInt_inj, Int32.toInt_toInt64, ti_m14, ti_m13, ti_m12, ti_m11, ti_m10, ti_m9, ti_m6, ti_m5, ti_m4, ti_m3, ti_m2, ti_m1, ti_0, ti_1, ti_2, ti_3, ti_4, ti_5, ti_6, ti_7, ti_8, ti_9, ti_10, ti_11, ti_12, ti_19, ti_20, ti_21, ti_44, ti_45, ti_48, ti_57, ti_59, ti_60, ti_98, ti_99, ti_100, ti_101, ti_103, ti_108, ti_110, ti_114, ti_127] at c123
                    subst hp
                    exact ⟨hI41, hK42⟩
                · try simp only [Int32.lt_iff_toInt_lt, Int32.le_iff_toInt_le, ← Int32.toInt_inj, Int32.toInt_toInt64, ti_m14, ti_m13, ti_m12, ti_m11, ti_m10, ti_m9, ti_m6, ti_m5, ti_m4, ti_m3, ti_m2, ti_m1, ti_0, ti_1, ti_2, ti_3, ti_4, ti_5, ti_6, ti_7, ti_8, ti_9, ti_10, ti_11, ti_12, ti_19, ti_20, ti_21, ti_44, ti_45, ti_48, ti_57, ti_59, ti_60, ti_98, ti_99, ti_100, ti_101, ti_103, ti_108, ti_110, ti_114, ti_127] at c93
                  try have f54 : ((100 + x4) : Int32).toInt = 100 + (x4).toInt := ad32 (a := 100) (b := (x4).toInt) (ti_100) (rfl) (by omega) (by omega)
                  subst hp
                  exact ⟨hI41, hK42⟩
          have t55 := ti_0
          exact ⟨_, lp73 ((21 - ((0 : Int32)).toInt).toNat + 1) ((0 : Int32)) _ _ hI34 hK36 (by first | omega | assumption) (Nat.lt_succ_self _)⟩
        · try simp only [Int32.lt_iff_toInt_lt, Int32.le_iff_toInt_le, ← Int32.toInt_inj, Int32.toInt_toInt64, ti_m14, ti_m13, ti_m12, ti_m11, ti_m10, ti_m9, ti_m6, ti_m5, ti_m4, ti_m3, ti_m2, ti_m1, ti_0, ti_1, ti_2, ti_3, ti_4, ti_5, ti_6, ti_7, ti_8, ti_9, ti_10, ti_11, ti_12, ti_19, ti_20, ti_21, ti_44, ti_45, ti_48, ti_57, ti_59, ti_60, ti_98, ti_99, ti_100, ti_101, ti_103, ti_108, ti_110, ti_114, ti_127] at c64
          subst hp
          exact ⟨hI34, hK36⟩
      · try simp only [Int32.lt_iff_toInt_lt, Int32.le_iff_toInt_le, ← Int32.toInt_inj, Int32.toInt_toInt64, ti_m14, ti_m13, ti_m12, ti_m11, ti_m10, ti_m9, ti_m6, ti_m5, ti_m4, ti_m3, ti_m2, ti_m1, ti_0, ti_1, ti_2, ti_3, ti_4, ti_5, ti_6, ti_7, ti_8, ti_9, ti_10, ti_11, ti_12, ti_19, ti_20, ti_21, ti_44, ti_45, ti_48, ti_57, ti_59, ti_60, ti_98, ti_99, ti_100, ti_101, ti_103, ti_108, ti_110, ti_114, ti_127] at c57
        subst hp
        exact ⟨hI34, hK36⟩
    · try simp only [Int32.lt_iff_toInt_lt, Int32.le_iff_toInt_le, ← Int32.toInt_inj, Int32.toInt_toInt64, ti_m14, ti_m13, ti_m12, ti_m11, ti_m10, ti_m9, ti_m6, ti_m5, ti_m4, ti_m3, ti_m2, ti_m1, ti_0, ti_1, ti_2, ti_3, ti_4, ti_5, ti_6, ti_7, ti_8, ti_9, ti_10, ti_11, ti_12, ti_19, ti_20, ti_21, ti_44, ti_45, ti_48, ti_57, ti_59, ti_60, ti_98, ti_99, ti_100, ti_101, ti_103, ti_108, ti_110, ti_114, ti_127] at c21
      refine ⟨fun c28 => ?_, fun c28 => ?_⟩
      · try simp only [Int32.lt_iff_toInt_lt, Int32.le_iff_toInt_le, ← Int32.toInt_inj, Int32.toInt_toInt64, ti_m14, ti_m13, ti_m12, ti_m11, ti_m10, ti_m9, ti_m6, ti_m5, ti_m4, ti_m3, ti_m2, ti_m1, ti_0, ti_1, ti_2, ti_3, ti_4, ti_5, ti_6, ti_7, ti_8, ti_9, ti_10, ti_11, ti_12, ti_19, ti_20, ti_21, ti_44, ti_45, ti_48, ti_57, ti_59, ti_60, ti_98, ti_99, ti_100, ti_101, ti_103, ti_108, ti_110, ti_114, ti_127] at c28
        unfold w_X8_judge_b34
        refine ⟨_, f_X0_work (in_rb_2) ((20 : Int32)) hI (Or.inl rfl) (hKr.2.2.2.1) (by rw [hKr.2.2.1]; exact hVO) (by rw [ti_20]; omega) (hKr.2.1), ?_⟩
        intro lg56 it57 hq
        obtain ⟨⟨hI58, hK59⟩, ha62⟩ := hq
        have hK60 : KC2 V (fun j => (55 ≤ j ∧ j < 450)) lg0 it0 lg56 it57 := k2_w hKr hK59 ha62.2 (fun j hj => by first | omega | exact False.elim hj | (dsimp only at hj ⊢; omega))
        try have e63 : (it57 (474 + 2 * a1.toNatClampNeg) 0).toInt = (it0 (474 + 2 * a1.toNatClampNeg) 0).toInt := congrArg (fun f => Int32.toInt (f 0)) (hK59 (474 + 2 * a1.toNatClampNeg) (by first | omega | (dsimp only; omega))).2
        have f64 : 0 ≤ (it57 55 3).toInt ∧ (it57 55 3).toInt ≤ 20 := i8_0 hI58
        refine ⟨fun c57 => ?_, fun c57 => ?_⟩
        · try simp only [Int32.lt_iff_toInt_lt, Int32.le_iff_toInt_le, ← Int32.toInt_inj, Int32.toInt_toInt64, ti_m14, ti_m13, ti_m12, ti_m11, ti_m10, ti_m9, ti_m6, ti_m5, ti_m4, ti_m3, ti_m2, ti_m1, ti_0, ti_1, ti_2, ti_3, ti_4, ti_5, ti_6, ti_7, ti_8, ti_9, ti_10, ti_11, ti_12, ti_19, ti_20, ti_21, ti_44, ti_45, ti_48, ti_57, ti_59, ti_60, ti_98, ti_99, ti_100, ti_101, ti_103, ti_108, ti_110, ti_114, ti_127] at c57
          refine ⟨fun c64 => ?_, fun c64 => ?_⟩
          · try simp only [Int32.lt_iff_toInt_lt, Int32.le_iff_toInt_le, ← Int32.toInt_inj, Int32.toInt_toInt64, ti_m14, ti_m13, ti_m12, ti_m11, ti_m10, ti_m9, ti_m6, ti_m5, ti_m4, ti_m3, ti_m2, ti_m1, ti_0, ti_1, ti_2, ti_3, ti_4, ti_5, ti_6, ti_7, ti_8, ti_9, ti_10, ti_11, ti_12, ti_19, ti_20, ti_21, ti_44, ti_45, ti_48, ti_57, ti_59, ti_60, ti_98, ti_99, ti_100, ti_101, ti_103, ti_108, ti_110, ti_114, ti_127] at c64
            have lp73 : ∀ (n : Nat) (x4 : Int32) (lg : LGt) (it : ITt), I8 lg it → KC2 V (fun j => (55 ≤ j ∧ j < 450)) lg0 it0 lg it → ((0 ≤ (x4).toInt)) → (21 - (x4).toInt).toNat < n → w_X8_judge_b73 a1 a2 Pz  n x4 lg it := by
              intro n73
              induction n73 with
              | zero => intro x4 lg it _ _ _ hn; exact absurd hn (Nat.not_lt_zero _)
              | succ n73 ih73 =>
                intro x4 lg67 it68 hI65 hK66 hv hn
                unfold w_X8_judge_b73
                have hv73_0 := hv
                have f69 : 0 ≤ (it68 55 3).toInt ∧ (it68 55 3).toInt ≤ 20 := i8_0 hI65
                refine ⟨fun c82 => ?_, fun c82 => ?_⟩
                · try simp only [Int32.lt_iff_toInt_lt, Int32.le_iff_toInt_le, ← Int32.toInt_inj, Int32.toInt_toInt64, ti_m14, ti_m13, ti_m12, ti_m11, ti_m10, ti_m9, ti_m6, ti_m5, ti_m4, ti_m3, ti_m2, ti_m1, ti_0, ti_1, ti_2, ti_3, ti_4, ti_5, ti_6, ti_7, ti_8, ti_9, ti_10, ti_11, ti_12, ti_19, ti_20, ti_21, ti_44, ti_45, ti_48, ti_57, ti_59, ti_60, ti_98, ti_99, ti_100, ti_101, ti_103, ti_108, ti_110, ti_114, ti_127] at c82
                  subst hp
                  exact ⟨hI65, hK66⟩
                · try simp only [Int32.lt_iff_toInt_lt, Int32.le_iff_toInt_le, ← Int32.toInt_inj, Int32.toInt_toInt64, ti_m14, ti_m13, ti_m12, ti_m11, ti_m10, ti_m9, ti_m6, ti_m5, ti_m4, ti_m3, ti_m2, ti_m1, ti_0, ti_1, ti_2, ti_3, ti_4, ti_5, ti_6, ti_7, ti_8, ti_9, ti_10, ti_11, ti_12, ti_19, ti_20, ti_21, ti_44, ti_45, ti_48, ti_57, ti_59, ti_60, ti_98, ti_99, ti_100, ti_101, ti_103, ti_108, ti_110, ti_114, ti_127] at c82
                  have f70 : 0 ≤ (it68 (474 + 2 * a1.toNatClampNeg) 1).toInt ∧ (it68 (474 + 2 * a1.toNatClampNeg) 1).toInt ≤ 60 := i8_6 hI65 (obt (rtp (vlt (hi30))))
                  try have f71 : (((it68 (474 + 2 * a1.toNatClampNeg) 1) - x4) : Int32).toInt = ((it68 (474 + 2 * a1.toNatClampNeg) 1)).toInt - (x4).toInt := sb32 (a := ((it68 (474 + 2 * a1.toNatClampNeg) 1)).toInt) (b := (x4).toInt) (rfl) (rfl) (by omega) (by omega)
                  refine ⟨fun c93 => ?_, fun c93 => ?_⟩
                  · try simp only [Int32.lt_iff_toInt_lt, Int32.le_iff_toInt_le, ← Int32.toInt_inj, Int32.toInt_toInt64, ti_m14, ti_m13, ti_m12, ti_m11, ti_m10, ti_m9, ti_m6, ti_m5, ti_m4, ti_m3, ti_m2, ti_m1, ti_0, ti_1, ti_2, ti_3, ti_4, ti_5, ti_6, ti_7, ti_8, ti_9, ti_10, ti_11, ti_12, ti_19, ti_20, ti_21, ti_44, ti_45, ti_48, ti_57, ti_59, ti_60, ti_98, ti_99, ti_100, ti_101, ti_103, ti_108, ti_110, ti_114, ti_127] at c93
                    try have f72 : ((a2 + x4) : Int32).toInt = (a2).toInt + (x4).toInt := ad32 (a := (a2).toInt) (b := (x4).toInt) (rfl) (rfl) (by omega) (by omega)
                    have hi73 : vp_in (a2 + x4) 60 := vp_of (by first | omega | ((try simp only [Int32.lt_iff_toInt_lt, Int32.le_iff_toInt_le, ← Int32.toInt_inj, Int32.toInt_toInt64, ti_m14, ti_m13, ti_m12, ti_m11, ti_m10, ti_m9, ti_m6, ti_m5, ti_m4, ti_m3, ti_m2, ti_m1, ti_0, ti_1, ti_2, ti_3, ti_4, ti_5, ti_6, ti_7, ti_8, ti_9, ti_10, ti_11, ti_12, ti_19, ti_20, ti_21, ti_44, ti_45, ti_48, ti_57, ti_59, ti_60, ti_98, ti_99, ti_100, ti_101, ti_103, ti_108, ti_110, ti_114, ti_127]); omega) | (split <;> omega)) (by first | omega | ((try simp only [Int32.lt_iff_toInt_lt, Int32.le_iff_toInt_le, ← Int32.toInt_inj, Int32.toInt_toInt64, ti_m14, ti_m13, ti_m12, ti_m11, ti_m10, ti_m9, ti_m6, ti_m5, ti_m4, ti_m3, ti_m2, ti_m1, ti_0, ti_1, ti_2, ti_3, ti_4, ti_5, ti_6, ti_7, ti_8, ti_9, ti_10, ti_11, ti_12, ti_19, ti_20, ti_21, ti_44, ti_45, ti_48, ti_57, ti_59, ti_60, ti_98, ti_99, ti_100, ti_101, ti_103, ti_108, ti_110, ti_114, ti_127]); omega) | (split <;> omega))
                    refine ⟨hi73, ?_⟩
                    have hz74 := vlt hi73
                    have hi75 : vp_in x4 20 := vp_of (by first | omega | ((try simp only [Int32.lt_iff_toInt_lt, Int32.le_iff_toInt_le, ← Int32.toInt_inj, Int32.toInt_toInt64, ti_m14, ti_m13, ti_m12, ti_m11, ti_m10, ti_m9, ti_m6, ti_m5, ti_m4, ti_m3, ti_m2, ti_m1, ti_0, ti_1, ti_2, ti_3, ti_4, ti_5, ti_6, ti_7, ti_8, ti_9, ti_10, ti_11, ti_12, ti_19, ti_20, ti_21, ti_44, ti_45, ti_48, ti_57, ti_59, ti_60, ti_98, ti_99, ti_100, ti_101, ti_103, ti_108, ti_110, ti_114, ti_127]); omega) | (split <;> omega)) (by first | omega | ((try simp only [Int32.lt_iff_toInt_lt, Int32.le_iff_toInt_le, ← Int32.toInt_inj, Int32.toInt_toInt64, ti_m14, ti_m13, ti_m12, ti_m11, ti_m10, ti_m9, ti_m6, ti_m5, ti_m4, ti_m3, ti_m2, ti_m1, ti_0, ti_1, ti_2, ti_3, ti_4, ti_5, ti_6, ti_7, ti_8, ti_9, ti_10, ti_11, ti_12, ti_19, ti_20, ti_21, ti_44, ti_45, ti_48, ti_57, ti_59, ti_60, ti_98, ti_99, ti_100, ti_101, ti_103, ti_108, ti_110, ti_114, ti_127]); omega) | (split <;> omega))
                    refine ⟨hi75, ?_⟩
                    have hz76 := vlt hi75
                    refine ⟨fun c123 => ?_, fun c123 => ?_⟩
                    · try simp only [Int32.lt_iff_toInt_lt, Int32.le_iff_toInt_le, ← Int32.toInt_inj, Int32.toInt_toInt64, ti_m14, ti_m13, ti_m12, ti_m11, ti_m10, ti_m9, ti_m6, ti_m5, ti_m4, ti_m3, ti_m2, ti_m1, ti_0, ti_1, ti_2, ti_3, ti_4, ti_5, ti_6, ti_7, ti_8, ti_9, ti_10, ti_11, ti_12, ti_19, ti_20, ti_21, ti_44, ti_45, ti_48, ti_57, ti_59, ti_60, ti_98, ti_99, ti_100, ti_101, ti_103, ti_108, ti_110, ti_114, ti_127] at c123
                      try have f77 : ((x4 + 1) : Int32).toInt = (x4).toInt + 1 := ad32 (a := (x4).toInt) (b := 1) (rfl) (ti_1) (by omega) (by omega)
                      exact ih73 ((x4 + 1)) _ _ hI65 hK66 (by first | omega | assumption) (by omega)
                    · try simp only [Int32.lt_iff_toInt_lt, Int32.le_iff_toInt_le, ← Int32.toInt_inj, Int32.toInt_toInt64, ti_m14, ti_m13, ti_m12, ti_m11, ti_m10, ti_m9, ti_m6, ti_m5, ti_m4, ti_m3, ti_m2, ti_m1, ti_0, ti_1, ti_2, ti_3, ti_4, ti_5, ti_6, ti_7, ti_8, ti_9, ti_10, ti_11, ti_12, ti_19, ti_20, ti_21, ti_44, ti_45, ti_48, ti_57, ti_59, ti_60, ti_98, ti_99, ti_100, ti_101, ti_103, ti_108, ti_110, ti_114, ti_127] at c123
                      subst hp
                      exact ⟨hI65, hK66⟩
                  · try simp only [Int32.lt_iff_toInt_lt, Int32.le_iff_toInt_le, ← Int32.toInt_inj, Int32.toInt_toInt64, ti_m14, ti_m13, ti_m12, ti_m11, ti_m10, ti_m9, ti_m6, ti_m5, ti_m4, ti_m3, ti_m2, ti_m1, ti_0, ti_1, ti_2, ti_3, ti_4, ti_5, ti_6, ti_7, ti_8, ti_9, ti_10, ti_11, ti_12, ti_19, ti_20, ti_21, ti_44, ti_45, ti_48, ti_57, ti_59, ti_60, ti_98, ti_99, ti_100, ti_101, ti_103, ti_108, ti_110, ti_114, ti_127] at c93
                    try have f78 : ((100 + x4) : Int32).toInt = 100 + (x4).toInt := ad32 (a := 100) (b := (x4).toInt) (ti_100) (rfl) (by omega) (by omega)
                    subst hp
                    exact ⟨hI65, hK66⟩
            have t79 := ti_0
            exact ⟨_, lp73 ((21 - ((0 : Int32)).toInt).toNat + 1) ((0 : Int32)) _ _ hI58 hK60 (by first | omega | assumption) (Nat.lt_succ_self _)⟩
          · try simp only [Int32.lt_iff_toInt_lt, Int32.le_iff_toInt_le, ← Int32.toInt_inj, Int32.toInt_toInt64, ti_m14, ti_m13, ti_m12, ti_m11, ti_m10, ti_m9, ti_m6, ti_m5, ti_m4, ti_m3, ti_m2, ti_m1, ti_0, ti_1, ti_2, ti_3, ti_4, ti_5, ti_6, ti_7, ti_8, ti_9, ti_10, ti_11, ti_12, ti_19, ti_20, ti_21, ti_44, ti_45, ti_48, ti_57, ti_59, ti_60, ti_98, ti_99, ti_100, ti_101, ti_103, ti_108, ti_110, ti_114, ti_127] at c64
            subst hp
            exact ⟨hI58, hK60⟩
        · try simp only [Int32.lt_iff_toInt_lt, Int32.le_iff_toInt_le, ← Int32.toInt_inj, Int32.toInt_toInt64, ti_m14, ti_m13, ti_m12, ti_m11, ti_m10, ti_m9, ti_m6, ti_m5, ti_m4, ti_m3, ti_m2, ti_m1, ti_0, ti_1, ti_2, ti_3, ti_4, ti_5, ti_6, ti_7, ti_8, ti_9, ti_10, ti_11, ti_12, ti_19, ti_20, ti_21, ti_44, ti_45, ti_48, ti_57, ti_59, ti_60, ti_98, ti_99, ti_100, ti_101, ti_103, ti_108, ti_110, ti_114, ti_127] at c57
          subst hp
          exact ⟨hI58, hK60⟩
      · try simp only [Int32.lt_iff_toInt_lt, Int32.le_iff_toInt_le, ← Int32.toInt_inj, Int32.toInt_toInt64, ti_m14, ti_m13, ti_m12, ti_m11, ti_m10, ti_m9, ti_m6, ti_m5, ti_m4, ti_m3, ti_m2, ti_m1, ti_0, ti_1, ti_2, ti_3, ti_4, ti_5, ti_6, ti_7, ti_8, ti_9, ti_10, ti_11, ti_12, ti_19, ti_20, ti_21, ti_44, ti_45, ti_48, ti_57, ti_59, ti_60, ti_98, ti_99, ti_100, ti_101, ti_103, ti_108, ti_110, ti_114, ti_127] at c28
        subst hp
        exact ⟨hI, hKr⟩
  · try simp only [Int32.lt_iff_toInt_lt, Int32.le_iff_toInt_le, ← Int32.toInt_inj, Int32.toInt_toInt64, ti_m14, ti_m13, ti_m12, ti_m11, ti_m10, ti_m9, ti_m6, ti_m5, ti_m4, ti_m3, ti_m2, ti_m1, ti_0, ti_1, ti_2, ti_3, ti_4, ti_5, ti_6, ti_7, ti_8, ti_9, ti_10, ti_11, ti_12, ti_19, ti_20, ti_21, ti_44, ti_45, ti_48, ti_57, ti_59, ti_60, ti_98, ti_99, ti_100, ti_101, ti_103, ti_108, ti_110, ti_114, ti_127] at c4
    subst hp
    exact ⟨hI, hKr⟩
/-! the rail that is supposed -/
theorem w450 (m : Int32) {lg0 : LGt} {it0 : ITt} (hI : I8 lg0 it0) (W : Rlv) (hW : RV lg0 it0 450 W) (hWO : VO W) (hm : 0 ≤ m.toInt ∧ m.toInt ≤ 20) (hc : CI lg0 it0) : w_X0_work 450 m (fun (lg' : LGt) (it' : ITt) => (I8 lg' it' ∧ Kc (fun j => (55 ≤ j ∧ j < 450)) lg0 it0 lg' it') ∧ (CIs lg' it' W m.toNatClampNeg ∧ CI lg' it')) lg0 it0 := by
  have h := f_X0_work in_rb_450 m hI (Or.inr rfl) hW.2.1 (by rw [hW.1]; exact hWO) hm hc
  rw [hW.1] at h
  exact h
theorem sup {lg0 lg : LGt} {it0 it : ITt} {V : Rlv} (hV : RV lg0 it0 2 V) (hc : CI lg0 it0) (K : Kc (fun j => (450 ≤ j ∧ j < 450 + 17)) lg0 it0 lg it) (e : vw8 lg it 450 = vw8 lg0 it0 2 ∧ (Ok8 it0 2 → Ok8 it 450)) : Kc (fun j => (450 ≤ j ∧ j < 467)) lg0 it0 lg it ∧ RV lg it 450 V ∧ RV lg it 2 V ∧ CI lg it :=
  ⟨kc_t kc_r K (fun j hj => by omega), rv_o hV e, rv_k hV K (fun j hj => by omega), ci_k hc K (fun j hj => by omega)⟩
/-- how many of the five springinesses take it as far as n -/
noncomputable def odN (V : Rlv) (n : Int32) : Nat → Nat
  | 0 => 0
  | e + 1 => odN V n e + if cnt (setE V (Int32.ofNat e)) n.toNatClampNeg < n.toNatClampNeg then 0 else 1
noncomputable def odA (V : Rlv) (n q : Int32) : Int64 := if ¬ (0 ≤ n.toInt ∧ n.toInt ≤ 20) ∨ ¬ (0 ≤ q.toInt ∧ q.toInt ≤ 1) then MNL else hlf (stF 0 1 0 (Int32.ofNat (odN V n 5)).toInt64 5).1 (stF 0 1 0 (Int32.ofNat (odN V n 5)).toInt64 5).2.1 (stF 0 1 0 (Int32.ofNat (odN V n 5)).toInt64 5).2.2 q
theorem odN_le (V : Rlv) (n : Int32) : ∀ k, odN V n k ≤ k
  | 0 => Nat.le_refl 0
  | k + 1 => by have h := odN_le V n k; unfold odN; split <;> omega
/-- what comes after all that happens -/
noncomputable def afI (W : Rlv) (a : Int32) : Int := if a.toInt = 0 then (cnt W 20 : Int) else if a.toInt = 1 then ((runA W 20).1 : Int) else if a.toInt = 2 then (if cnt W 20 = 0 then -5 else whr W 0) else -1
theorem c_X8_after (a1 : Int32) {lg0 : LGt} {it0 : ITt} (hI : I8 lg0 it0) (V : Rlv) (hV : RV lg0 it0 2 V) (hVO : VO V) (hc : CI lg0 it0) (hE : AE (p8 it0 22)) : w_X8_after a1 (fun (v : Int32) (lg' : LGt) (it' : ITt) => (I8 lg' it' ∧ KC2 V (fun j => (450 ≤ j ∧ j < 467) ∨ (55 ≤ j ∧ j < 450) ∨ (486 ≤ j ∧ j < 489)) lg0 it0 lg' it') ∧ v.toInt = afI (hpN V (p8 it0 22) (it0 22 2).toNatClampNeg) a1) lg0 it0 := by
  have tm5 : (-5 : Int32).toInt = -5 := by decide
  have i0 : a1 = 0 ↔ a1.toInt = 0 := by rw [← ti_0]; exact Int32.toInt_inj.symm
  have i1 : a1 = 1 ↔ a1.toInt = 1 := by rw [← ti_1]; exact Int32.toInt_inj.symm
  have b22 := i8_2 hI oq_22
  rw [c8L 22 (by decide), if_neg (by decide)] at b22
  have k22 := cl32 b22.1
  generalize hp : (fun (v : Int32) (lg' : LGt) (it' : ITt) => (I8 lg' it' ∧ KC2 V (fun j => (450 ≤ j ∧ j < 467) ∨ (55 ≤ j ∧ j < 450) ∨ (486 ≤ j ∧ j < 489)) lg0 it0 lg' it') ∧ v.toInt = afI (hpN V (p8 it0 22) (it0 22 2).toNatClampNeg) a1) = Pz
  have leaf : ∀ (x : Int32) (lg : LGt) (it : ITt), I8 lg it → KC2 V (fun j => (450 ≤ j ∧ j < 467) ∨ (55 ≤ j ∧ j < 450) ∨ (486 ≤ j ∧ j < 489)) lg0 it0 lg it → x.toInt = afI (hpN V (p8 it0 22) (it0 22 2).toNatClampNeg) a1 → Pz x lg it := by
    intro x lg it J K e; subst hp; exact ⟨⟨J, K⟩, e⟩
  unfold w_X8_after
  rw [lt0, le0, ti_0, ti_2]
  refine ⟨fun c => leaf _ _ _ hI ⟨kc_r, hc, hV⟩ (by unfold afI; rw [if_neg (by omega), if_neg (by omega), if_neg (by omega)]; exact ti_m1), fun c => ⟨fun c2 => ⟨_, f_X3_become in_rb_450 in_rb_2 hI (by decide), ?_⟩, fun c2 => leaf _ _ _ hI ⟨kc_r, hc, hV⟩ (by unfold afI; rw [if_neg (by omega), if_neg (by omega), if_neg (by omega)]; exact ti_m1)⟩⟩
  rintro lgS itS ⟨⟨JS, KS0⟩, eS⟩
  obtain ⟨KS, RS, R2S, CS⟩ := sup hV hc KS0 eS
  generalize hm : (it0 22 2).toNatClampNeg = m at k22 leaf hp
  have lp : ∀ (n : Nat) (x : Int32) (lg : LGt) (it : ITt) (k : Nat), I8 lg it → KC2 V (fun j => (450 ≤ j ∧ j < 467) ∨ (55 ≤ j ∧ j < 450) ∨ (486 ≤ j ∧ j < 489)) lg0 it0 lg it → x.toInt = k → k ≤ m → RV lg it 450 (hpN V (p8 it0 22) k) → m - k < n → w_X8_after_b27 a1 Pz n x lg it := by
    intro n
    induction n with
    | zero => intro x lg it k _ _ _ _ _ hn; exact absurd hn (Nat.not_lt_zero _)
    | succ n ih =>
      intro x lg it k hJ hK hx hk hR hn
      have e22 := p8_k (a := 22) hK.1 (fun j hj => by omega)
      have n22 : it 22 2 = it0 22 2 := congrArg (fun X : Pr => X.1) e22
      have f22 : it 23 = it0 23 := congrArg (fun X : Pr => X.2.1) e22
      have g22 : it 24 = it0 24 := congrArg (fun X : Pr => X.2.2) e22
      have hxk : x.toNatClampNeg = k := by have := cl32 (i := x) (by omega); omega
      have fx : (x + 1).toInt = x.toInt + 1 := ad32 rfl ti_1 (by omega) (by omega)
      unfold w_X8_after_b27
      rw [le0, n22, ← k22, hx]
      refine ⟨fun c3 => ?_, fun c3 => ?_⟩
      · obtain rfl : k = m := by omega
        refine ⟨_, w450 20 hJ _ hR (vo_hpN hVO hE k) (by rw [ti_20]; omega) hK.2.1, ?_⟩
        rintro lg' it' ⟨⟨J, K⟩, s, C⟩
        rw [show (20 : Int32).toNatClampNeg = 20 by decide] at s
        have K2 := k2_w hK K C (fun j hj => by omega)
        have hcl := cnt_le (hpN V (p8 it0 22) k) 20
        rw [i0, i1, le0, ti_0, s.1]
        refine ⟨fun c4 => ⟨fun c5 => ⟨fun c6 => leaf _ _ _ J K2 ?_, fun c6 => leaf _ _ _ J K2 ?_⟩, fun c5 => leaf _ _ _ J K2 ?_⟩, fun c4 => leaf _ _ _ J K2 ?_⟩
        · unfold afI; rw [if_neg c4, if_neg c5, if_pos (by omega), if_pos (by omega)]; exact tm5
        · unfold afI; rw [if_neg c4, if_neg c5, if_pos (by omega), if_neg (by omega)]; exact s.2.2.2 0 (by omega)
        · unfold afI; rw [if_neg c4, if_pos c5]; exact s.2.1
        · unfold afI; rw [if_pos c4]; exact s.1
      · have hv : vp_in x 8 := vp_of (by omega) (by omega)
        rw [hxk, f22, g22]
        refine ⟨hv, hv, _, f_X8_happen in_rb_450 (it0 23 k) (it0 24 k) hJ _ hR (hE k), ?_⟩
        rintro lgB itB ⟨⟨JB, KB⟩, RB⟩
        exact ih (x + 1) lgB itB (k + 1) JB (k2_t hK KB (fun j hj => by omega) (fun j hj => by omega)) (by omega) (by omega) RB (by omega)
  exact ⟨_, lp (m + 1) 0 lgS itS 0 JS ⟨kc_t kc_r KS (fun j hj => by omega), CS, R2S⟩ ti_0 (Nat.zero_le _) RS (by omega)⟩
set_option maxRecDepth 100000 in
theorem c_X8_odds (a1 a2 : Int32) {lg0 : LGt} {it0 : ITt} (hI : I8 lg0 it0) (V : Rlv) (hV : RV lg0 it0 2 V) (hVO : VO V) (hc : CI lg0 it0) : w_X8_odds a1 a2 (fun (v : Int64) (lg' : LGt) (it' : ITt) => (I8 lg' it' ∧ KC2 V (fun j => (55 ≤ j ∧ j < 450) ∨ (450 ≤ j ∧ j < 467) ∨ (486 ≤ j ∧ j < 489)) lg0 it0 lg' it')) lg0 it0 := by
  generalize hp : (fun (v : Int64) (lg' : LGt) (it' : ITt) => (I8 lg' it' ∧ KC2 V (fun j => (55 ≤ j ∧ j < 450) ∨ (450 ≤ j ∧ j < 467) ∨ (486 ≤ j ∧ j < 489)) lg0 it0 lg' it')) = Pz
  have leaf : ∀ (x : Int64) (lg : LGt) (it : ITt), I8 lg it → KC2 V (fun j => (55 ≤ j ∧ j < 450) ∨ (450 ≤ j ∧ j < 467) ∨ (486 ≤ j ∧ j < 489)) lg0 it0 lg it → Pz x lg it := by
    intro x lg it J K; subst hp; exact ⟨J, K⟩
  have K0 : KC2 V (fun j => (55 ≤ j ∧ j < 450) ∨ (450 ≤ j ∧ j < 467) ∨ (486 ≤ j ∧ j < 489)) lg0 it0 lg0 it0 := ⟨kc_r, hc, hV⟩
  unfold w_X8_odds
  rw [lt0, lt0, ti_0, ti_20]
  refine ⟨fun c => leaf _ _ _ hI K0, fun c => ⟨fun c2 => leaf _ _ _ hI K0, fun c2 => ⟨fun c3 => ?_, fun c3 => leaf _ _ _ hI K0⟩⟩⟩
  have lp : ∀ (n : Nat) (y x : Int32) (lg : LGt) (it : ITt) (k : Nat), I8 lg it → KC2 V (fun j => (55 ≤ j ∧ j < 450) ∨ (450 ≤ j ∧ j < 467) ∨ (486 ≤ j ∧ j < 489)) lg0 it0 lg it → x.toInt = k → k ≤ 5 → 5 - k < n → w_X8_odds_b26 a1 a2 Pz n y x lg it := by
    intro n
    induction n with
    | zero => intro y x lg it k _ _ _ _ hn; exact absurd hn (Nat.not_lt_zero _)
    | succ n ih =>
      intro y x lg it k hJ hK hx hk hn
      have fx : (x + 1).toInt = x.toInt + 1 := ad32 rfl ti_1 (by omega) (by omega)
      unfold w_X8_odds_b26
      rw [lt0, ti_4]
      refine ⟨fun c4 => ?_, fun c4 => ⟨_, f_X3_become in_rb_450 in_rb_2 hJ (by decide), ?_⟩⟩
      · intro q9 mq lg10 m10 it11 m11
        refine leaf _ _ _ (by rw [m11]; exact i8_u hJ (ok8_1 oq_486 (fun _ => by rw [mq]; exact stF_01 _ _ _ _ _))) ?_
        rw [m10, m11]; exact k2_f (by omega) (by omega) hK
      · rintro lgS itS ⟨⟨JS, KS0⟩, eS⟩
        obtain ⟨KS, RS, R2S, CS⟩ := sup hK.2.2 hK.2.1 KS0 eS
        have K2 := k2_t hK KS (fun j hj => by omega) (fun j hj => by omega)
        intro it20 m20
        have J20 : I8 lgS it20 := by rw [m20]; exact i8_u JS (ok8_3 (obr in_rb_450) (fun q => absurd q (by decide)))
        have R20 : RV lgS it20 450 (setE V x) := by rw [m20]; exact rv_setE RS
        have K20 : KC2 V (fun j => (55 ≤ j ∧ j < 450) ∨ (450 ≤ j ∧ j < 467) ∨ (486 ≤ j ∧ j < 489)) lg0 it0 lgS it20 := by rw [m20]; exact k2_u (by omega) (by omega) K2
        refine ⟨_, w450 a1 J20 _ R20 (vo_setE hVO (by omega)) (by omega) K20.2.1, ?_⟩
        rintro lg' it' ⟨⟨J, K⟩, s, C⟩
        have K3 := k2_w K20 K C (fun j hj => by omega)
        exact ⟨fun _ => ih y (x + 1) lg' it' (k + 1) J K3 (by omega) (by omega) (by omega), fun _ => ih (y + 1) (x + 1) lg' it' (k + 1) J K3 (by omega) (by omega) (by omega)⟩
  exact ⟨_, lp 6 0 0 lg0 it0 0 hI K0 ti_0 (by omega) (by omega)⟩
theorem c_X8_fits (a1 a2 : Int32) {lg0 : LGt} {it0 : ITt} (hI : I8 lg0 it0) (V : Rlv) (hV : RV lg0 it0 2 V) (hVO : VO V) (hc : CI lg0 it0) (hS : AS (p8 it0 19)) : w_X8_fits a1 a2 (fun (v : Int32) (lg' : LGt) (it' : ITt) => (I8 lg' it' ∧ KC2 V (fun j => (55 ≤ j ∧ j < 450) ∨ (450 ≤ j ∧ j < 467)) lg0 it0 lg' it')) lg0 it0 := by
  have tm5 : (-5 : Int32).toInt = -5 := by decide
  generalize hp : (fun (v : Int32) (lg' : LGt) (it' : ITt) => (I8 lg' it' ∧ KC2 V (fun j => (55 ≤ j ∧ j < 450) ∨ (450 ≤ j ∧ j < 467)) lg0 it0 lg' it')) = Pz
  have leaf : ∀ (x : Int32) (lg : LGt) (it : ITt), I8 lg it → KC2 V (fun j => (55 ≤ j ∧ j < 450) ∨ (450 ≤ j ∧ j < 467)) lg0 it0 lg it → Pz x lg it := by
    intro x lg it J K; subst hp; exact ⟨J, K⟩
  have K0 : KC2 V (fun j => (55 ≤ j ∧ j < 450) ∨ (450 ≤ j ∧ j < 467)) lg0 it0 lg0 it0 := ⟨kc_r, hc, hV⟩
  have hN := rN_f hI in_rb_2 hV
  have h6 := hVO.1
  have b19 := i8_2 hI oq_19
  rw [c8L 19 (by decide), if_pos rfl] at b19
  unfold w_X8_fits
  rw [hN, lt0, le0, ti_0, ti_1]
  refine ⟨fun c => leaf _ _ _ hI K0, fun c => ⟨fun c2 => leaf _ _ _ hI K0, fun c2 => ⟨fun c3 => ?_, fun c3 => leaf _ _ _ hI K0⟩⟩⟩
  have k1 := cl32 c.1
  have hv1 : vp_in a1 6 := vp_of c.1 (by omega)
  -- the speeds, from 5 down
  have lp : ∀ (n : Nat) (x3 x4 x5 x6 : Int32) (lg : LGt) (it : ITt), I8 lg it → KC2 V (fun j => (55 ≤ j ∧ j < 450) ∨ (450 ≤ j ∧ j < 467)) lg0 it0 lg it → (0 ≤ x3.toInt ∧ x3.toInt ≤ 20) → (-6 ≤ x6.toInt ∧ x6.toInt ≤ 5) → (x6.toInt + 6).toNat < n → w_X8_fits_b75 a1 a2 Pz n x3 x4 x5 x6 lg it := by
    intro n
    induction n with
    | zero => intro x3 x4 x5 x6 lg it _ _ _ _ hn; exact absurd hn (Nat.not_lt_zero _)
    | succ n ih =>
      intro x3 x4 x5 x6 lg it hJ hK h3 hx hn
      have fx : (x6 - 1).toInt = x6.toInt - 1 := sb32 rfl ti_1 (by omega) (by omega)
      unfold w_X8_fits_b75
      rw [lt0, tm5]
      refine ⟨fun c4 => ⟨fun _ => leaf _ _ _ hJ hK, fun _ => leaf _ _ _ hJ hK⟩, fun c4 => ⟨_, f_X3_become in_rb_450 in_rb_2 hJ (by decide), ?_⟩⟩
      rintro lgS itS ⟨⟨JS, KS0⟩, eS⟩
      obtain ⟨KS, RS, R2S, CS⟩ := sup hK.2.2 hK.2.1 KS0 eS
      have K2 := k2_t hK KS (fun j hj => by omega) (fun j hj => by omega)
      refine ⟨hv1, ?_⟩
      intro lg24 m24 it25 m25
      have J25 : I8 lg24 it25 := by rw [m25]; exact i8_u JS (ok8_1 (rpo5 in_rb_450 (by omega)) (fun _ => Or.inl rfl))
      have R25 : RV lg24 it25 450 (setS V a1.toNatClampNeg (x6.toInt64, 1)) := by rw [m24, m25]; exact rv_setS RS (by omega)
      have K25 : KC2 V (fun j => (55 ≤ j ∧ j < 450) ∨ (450 ≤ j ∧ j < 467)) lg0 it0 lg24 it25 := by rw [m24, m25]; exact k2_f (by omega) (by omega) K2
      refine ⟨_, w450 x3 J25 _ R25 (vo_setS hVO (by omega) (show 0 < (1 : Int64).toInt by decide)) h3 K25.2.1, ?_⟩
      rintro lg' it' ⟨⟨J, K⟩, s, C⟩
      have K3 := k2_w K25 K C (fun j hj => by omega)
      refine ⟨_, s_X0_firstUnlike (a1 := 19) (by decide) J, ?_⟩
      rintro v35 lg36 it37 ⟨J36, K36⟩
      have K4 := k2_t K3 K36 (fun j hj => hj.elim) (fun j hj => hj.elim)
      exact ⟨fun _ => ih x3 x4 x5 (x6 - 1) lg36 it37 J36 K4 h3 (by omega) (by omega), fun _ => ih x3 (x4 + 1) x6 (x6 - 1) lg36 it37 J36 K4 h3 (by omega) (by omega)⟩
  -- how far the seen ones go
  have lq : ∀ (n : Nat) (x3 x4 : Int32), (0 ≤ x3.toInt ∧ x3.toInt ≤ 20) → 0 ≤ x4.toInt → (9 - x4.toInt).toNat < n → w_X8_fits_b24 a1 a2 Pz n x3 x4 lg0 it0 := by
    intro n
    induction n with
    | zero => intro x3 x4 _ _ hn; exact absurd hn (Nat.not_lt_zero _)
    | succ n ih =>
      intro x3 x4 h3 h4 hn
      unfold w_X8_fits_b24
      rw [le0]
      refine ⟨fun c4 => ?_, fun c4 => ?_⟩
      · exact ⟨_, lp 12 x3 _ _ 5 lg0 it0 hI K0 h3 (by rw [ti_5]; omega) (by rw [ti_5]; omega)⟩
      · have fx : (x4 + 1).toInt = x4.toInt + 1 := ad32 rfl ti_1 (by omega) (by omega)
        have hs := (hS x4.toNatClampNeg).1
        have hs : 0 ≤ (it0 20 x4.toNatClampNeg).toInt ∧ (it0 20 x4.toNatClampNeg).toInt ≤ 19 := hs
        have fy : (it0 20 x4.toNatClampNeg + 1).toInt = (it0 20 x4.toNatClampNeg).toInt + 1 := ad32 rfl ti_1 (by omega) (by omega)
        refine ⟨vp_of h4 (by omega), ih _ (x4 + 1) ?_ (by omega) (by omega)⟩
        split
        · omega
        · exact h3
  exact ⟨_, lq 10 0 0 (by rw [ti_0]; omega) (by rw [ti_0]; omega) (by rw [ti_0]; omega)⟩
