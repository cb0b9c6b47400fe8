/-! the reference is safe: its other methods -/
theorem tl_0 : (0 : Int64).toInt = 0 := by decide
theorem tl_1 : (1 : Int64).toInt = 1 := by decide
theorem tl_2 : (2 : Int64).toInt = 2 := by decide
theorem tl_3 : (3 : Int64).toInt = 3 := by decide
theorem tl_4 : (4 : Int64).toInt = 4 := by decide
theorem tl_5 : (5 : Int64).toInt = 5 := by decide
theorem tl_6 : (6 : Int64).toInt = 6 := by decide
theorem tl_9 : (9 : Int64).toInt = 9 := by decide
theorem tl_11 : (11 : Int64).toInt = 11 := by decide
theorem tl_19 : (19 : Int64).toInt = 19 := by decide
theorem tl_20 : (20 : Int64).toInt = 20 := by decide
theorem tl_48 : (48 : Int64).toInt = 48 := by decide
theorem tl_57 : (57 : Int64).toInt = 57 := by decide
theorem tl_60 : (60 : Int64).toInt = 60 := by decide
theorem tl_99 : (99 : Int64).toInt = 99 := by decide
theorem tl_100 : (100 : Int64).toInt = 100 := by decide
theorem tl_127 : (127 : Int64).toInt = 127 := by decide
theorem tl_m1 : ((-1) : Int64).toInt = -1 := by decide
theorem tl_m9 : ((-9) : Int64).toInt = -9 := by decide
theorem or_bit {x y : Int32} (h : x = 0 ∨ x = 1) (g : y = 0 ∨ y = 1) : x ||| y = 0 ∨ x ||| y = 1 := by rcases h with rfl | rfl <;> rcases g with rfl | rfl <;> decide
theorem and_bit {x y : Int32} (h : x = 0 ∨ x = 1) (g : y = 0 ∨ y = 1) : x &&& y = 0 ∨ x &&& y = 1 := by rcases h with rfl | rfl <;> rcases g with rfl | rfl <;> decide
theorem ad64 {x y : Int32} : (x.toInt64 + y.toInt64).toInt = x.toInt + y.toInt := by
  rw [Int64.toInt_add, Int32.toInt_toInt64, Int32.toInt_toInt64]
  have h1 := x.le_toInt
  have h2 := x.toInt_lt
  have h3 := y.le_toInt
  have h4 := y.toInt_lt
  exact bmL (by omega) (by omega)
theorem B9_1 {lg : LGt} {it : ITt} {k : Nat} (h : B9 lg it) (h1 : k < 20) (h2 : (k : Int) < (it 489 42).toInt) : ¬ lg 510 k = 0 := (h k h1 h2).1
theorem B9_2 {lg : LGt} {it : ITt} {s i q : Nat} (h : B9 lg it) (h1 : s < 20) (h2 : (s : Int) < (it 489 42).toInt) (h3 : i < 6) (h4 : (i : Int) < (it 489 0).toInt) (hq : q = 12 * s + i ∨ q = 12 * s + 6 + i) : ¬ lg 512 q = 0 := by
  rcases hq with rfl | rfl
  · exact ((h s h1 h2).2 i h3 h4).1
  · exact ((h s h1 h2).2 i h3 h4).2
theorem i9_many {lg : LGt} {it : ITt} {v : Int32} {m : Nat} (h : I9 lg it) (hm : (m : Int) = (it 489 0).toInt) (hv : v.toInt = (it 489 0).toInt + 1) (h6 : v.toInt ≤ 6) (h1 : ¬ lg 492 m = 0) (h2 : ¬ lg 494 m = 0) (h3 : 1 ≤ (it 490 m).toInt ∧ (it 490 m).toInt ≤ 9) : I9 lg (u2 it 489 0 v) := by
  have f0 := i9_f h (j := 489) (k := 0) rfl
  refine ⟨fun a b => ?_, h.2.1, fun i a b => ?_, h.2.2.2⟩
  · unfold u2
    split
    · rename_i e; rw [e.1, e.2]; exact ok9_b (a := 0) (b := 6) rfl (by omega)
    · exact h.1 a b
  · rw [u2_eq] at b
    have e : u2 it 489 0 v 490 = it 490 := u2_row (by decide)
    rw [e]
    by_cases q : (i : Int) < (it 489 0).toInt
    · exact h.2.2.1 i a q
    · have q2 : i = m := by omega
      subst q2
      exact ⟨⟨h1, h2⟩, h3⟩
theorem tiA : ((-14) : Int32).toInt = -14 ∧ ((-13) : Int32).toInt = -13 ∧ ((-12) : Int32).toInt = -12 ∧ ((-11) : Int32).toInt = -11 ∧ ((-10) : Int32).toInt = -10 ∧ ((-9) : Int32).toInt = -9 ∧ ((-6) : Int32).toInt = -6 ∧ ((-5) : Int32).toInt = -5 ∧ ((-4) : Int32).toInt = -4 ∧ ((-3) : Int32).toInt = -3 ∧ ((-2) : Int32).toInt = -2 ∧ ((-1) : Int32).toInt = -1 ∧ ((0) : Int32).toInt = 0 ∧ ((1) : Int32).toInt = 1 ∧ ((2) : Int32).toInt = 2 ∧ ((3) : Int32).toInt = 3 ∧ ((4) : Int32).toInt = 4 ∧ ((5) : Int32).toInt = 5 ∧ ((6) : Int32).toInt = 6 ∧ ((7) : Int32).toInt = 7 ∧ ((8) : Int32).toInt = 8 ∧ ((9) : Int32).toInt = 9 ∧ ((10) : Int32).toInt = 10 ∧ ((11) : Int32).toInt = 11 ∧ ((12) : Int32).toInt = 12 ∧ ((19) : Int32).toInt = 19 ∧ ((20) : Int32).toInt = 20 ∧ ((21) : Int32).toInt = 21 ∧ ((44) : Int32).toInt = 44 ∧ ((45) : Int32).toInt = 45 ∧ ((48) : Int32).toInt = 48 ∧ ((57) : Int32).toInt = 57 ∧ ((59) : Int32).toInt = 59 ∧ ((60) : Int32).toInt = 60 ∧ ((98) : Int32).toInt = 98 ∧ ((99) : Int32).toInt = 99 ∧ ((100) : Int32).toInt = 100 ∧ ((101) : Int32).toInt = 101 ∧ ((103) : Int32).toInt = 103 ∧ ((108) : Int32).toInt = 108 ∧ ((110) : Int32).toInt = 110 ∧ ((114) : Int32).toInt = 114 ∧ ((127) : Int32).toInt = 127 := ⟨ti_m14, ti_m13, ti_m12, ti_m11, ti_m10, ti_m9, ti_m6, ti_m5, ti_m4, ti_m3, ti_m2, ti_m1, ti_0, ti_1, ti_2, ti_3, ti_4, ti_5, ti_6, ti_7, ti_8, ti_9, ti_10, ti_11, ti_12, ti_19, ti_20, ti_21, ti_44, ti_45, ti_48, ti_57, ti_59, ti_60, ti_98, ti_99, ti_100, ti_101, ti_103, ti_108, ti_110, ti_114, ti_127⟩
theorem tlA : ((0) : Int64).toInt = 0 ∧ ((1) : Int64).toInt = 1 ∧ ((2) : Int64).toInt = 2 ∧ ((3) : Int64).toInt = 3 ∧ ((4) : Int64).toInt = 4 ∧ ((5) : Int64).toInt = 5 ∧ ((6) : Int64).toInt = 6 ∧ ((9) : Int64).toInt = 9 ∧ ((11) : Int64).toInt = 11 ∧ ((19) : Int64).toInt = 19 ∧ ((20) : Int64).toInt = 20 ∧ ((48) : Int64).toInt = 48 ∧ ((57) : Int64).toInt = 57 ∧ ((60) : Int64).toInt = 60 ∧ ((99) : Int64).toInt = 99 ∧ ((100) : Int64).toInt = 100 ∧ ((127) : Int64).toInt = 127 ∧ ((-1) : Int64).toInt = -1 ∧ ((-9) : Int64).toInt = -9 := ⟨tl_0, tl_1, tl_2, tl_3, tl_4, tl_5, tl_6, tl_9, tl_11, tl_19, tl_20, tl_48, tl_57, tl_60, tl_99, tl_100, tl_127, tl_m1, tl_m9⟩
set_option maxRecDepth 100000 in
theorem s_X9_isBeyond (a1 : Int32) {lg0 : LGt} {it0 : ITt} (hI : I9 lg0 it0) : w_X9_isBeyond a1 (fun (v : Int32) (lg' : LGt) (it' : ITt) => (I9 lg' it' ∧ Kd (fun j => False) (fun k => k = 18 ∨ k = 19 ∨ k = 20) lg0 it0 lg' it') ∧ (v = 0 ∨ v = 1))  lg0 it0 := by
  have hb_a1 := And.intro a1.le_toInt a1.toInt_lt
  have hKr : Kd (fun j => False) (fun k => k = 18 ∨ k = 19 ∨ k = 20) lg0 it0 lg0 it0 := kd_r
  generalize hp : (fun (v : Int32) (lg' : LGt) (it' : ITt) => (I9 lg' it' ∧ Kd (fun j => False) (fun k => k = 18 ∨ k = 19 ∨ k = 20) lg0 it0 lg' it') ∧ (v = 0 ∨ v = 1)) = Pz
  unfold w_X9_isBeyond
  have t0 := ti_0
  have t9 := ti_9
  have tm1 := ti_m1
  have f0 := i9_f hI (j := 489) (k := 0) rfl
  have fB : (it0 489 0 - 1).toInt = (it0 489 0).toInt - 1 := sb32 rfl ti_1 (by omega) (by omega)
  have lp4 : ∀ (n : Nat) (x2 : Int32) (x3 : Int32) (lg : LGt) (it : ITt), I9 lg it → Kd (fun j => False) (fun k => k = 18 ∨ k = 19 ∨ k = 20) lg0 it0 lg it → ((0 ≤ (x3).toInt) ∧ (((x2) = 0 ∨ (x2) = 1))) → (7 - (x3).toInt).toNat < n → w_X9_isBeyond_b4 a1 Pz  n x2 x3 lg it := by
    intro n4
    induction n4 with
    | zero => intro x2 x3 lg it _ _ _ hn; exact absurd hn (Nat.not_lt_zero _)
    | succ n4 ih4 =>
      intro x2 x3 lg33 it34 hI31 hK32 hv hn
      unfold w_X9_isBeyond_b4
      obtain ⟨hv4_0, hv4_1⟩ := hv
      have f35 : 0 ≤ (it34 489 0).toInt ∧ (it34 489 0).toInt ≤ 6 := i9_f hI31 (j := 489) (k := 0) rfl
      refine ⟨fun c9 => ?_, fun c9 => ?_⟩
      · try simp only [Int32.lt_iff_toInt_lt, Int32.le_iff_toInt_le, ← Int32.toInt_inj, Int32.toInt_toInt64, tiA, tlA] at c9
        intro it36 em37
        have hI38 : I9 lg33 it36 := by rw [em37]; exact i9_u hI31 (ok9_b (a := 0) (b := 1) rfl (by first | decide | ((try simp only [Int32.lt_iff_toInt_lt, Int32.le_iff_toInt_le, ← Int32.toInt_inj, Int32.toInt_toInt64, tiA, tlA]); omega) | (split <;> (try simp only [Int32.lt_iff_toInt_lt, Int32.le_iff_toInt_le, ← Int32.toInt_inj, Int32.toInt_toInt64, tiA, tlA]) <;> omega))) (by decide) (fun _ => by decide)
        have hK39 : Kd (fun j => False) (fun k => k = 18 ∨ k = 19 ∨ k = 20) lg0 it0 lg33 it36 := by rw [em37]; exact kd_uf (by first | decide | (dsimp only; decide) | omega | (dsimp only; omega)) hK32
        have e40 : (it36 489 0).toInt = (it34 489 0).toInt := by rw [em37]; exact congrArg Int32.toInt (u2_ne (by decide))
        refine ⟨ib (by first | assumption | exact Or.inl rfl | exact Or.inr rfl), ?_⟩
        subst hp
        exact ⟨⟨hI38, hK39⟩, by first | exact Or.inl rfl | exact Or.inr rfl | assumption⟩
      · try simp only [Int32.lt_iff_toInt_lt, Int32.le_iff_toInt_le, ← Int32.toInt_inj, Int32.toInt_toInt64, tiA, tlA] at c9
        intro it41 em42
        have hI43 : I9 lg33 it41 := by rw [em42]; exact i9_u hI31 (ok9_b (a := 0) (b := 1) rfl (by first | decide | ((try simp only [Int32.lt_iff_toInt_lt, Int32.le_iff_toInt_le, ← Int32.toInt_inj, Int32.toInt_toInt64, tiA, tlA]); omega) | (split <;> (try simp only [Int32.lt_iff_toInt_lt, Int32.le_iff_toInt_le, ← Int32.toInt_inj, Int32.toInt_toInt64, tiA, tlA]) <;> omega))) (by decide) (fun _ => by decide)
        have hK44 : Kd (fun j => False) (fun k => k = 18 ∨ k = 19 ∨ k = 20) lg0 it0 lg33 it41 := by rw [em42]; exact kd_uf (by first | decide | (dsimp only; decide) | omega | (dsimp only; omega)) hK32
        have e45 : (it41 489 0).toInt = (it34 489 0).toInt := by rw [em42]; exact congrArg Int32.toInt (u2_ne (by decide))
        refine ⟨fun c18 => ?_, fun c18 => ?_⟩
        · try simp only [Int32.lt_iff_toInt_lt, Int32.le_iff_toInt_le, ← Int32.toInt_inj, Int32.toInt_toInt64, tiA, tlA] at c18
          have hi46 : vp_in x3 6 := vp_of (by first | omega | ((try simp only [Int32.lt_iff_toInt_lt, Int32.le_iff_toInt_le, ← Int32.toInt_inj, Int32.toInt_toInt64, tiA, tlA]); omega) | (split <;> omega)) (by first | omega | ((try simp only [Int32.lt_iff_toInt_lt, Int32.le_iff_toInt_le, ← Int32.toInt_inj, Int32.toInt_toInt64, tiA, tlA]); omega) | (split <;> omega))
          refine ⟨hi46, ?_⟩
          have hz47 := vlt hi46
          have hi48 : vp_in x3 6 := vp_of (by first | omega | ((try simp only [Int32.lt_iff_toInt_lt, Int32.le_iff_toInt_le, ← Int32.toInt_inj, Int32.toInt_toInt64, tiA, tlA]); omega) | (split <;> omega)) (by first | omega | ((try simp only [Int32.lt_iff_toInt_lt, Int32.le_iff_toInt_le, ← Int32.toInt_inj, Int32.toInt_toInt64, tiA, tlA]); omega) | (split <;> omega))
          refine ⟨hi48, ?_⟩
          have hz49 := vlt hi48
          have hc53 : o01 it41 := i9_o hI43
          refine ⟨hc53, ?_⟩
          have hc54 : ¬ (lg33 492 x3.toNatClampNeg) = 0 := (hI43.2.2.1 (x3).toNatClampNeg (by have z1 := cl32 (i := x3) (by omega); omega) (by have z1 := cl32 (i := x3) (by omega); omega)).1.1
          refine ⟨hc54, ?_⟩
          have hc55 : ¬ (1 : Int64) = 0 := by decide
          refine ⟨hc55, ?_⟩
          intro q50 em_q50 lg51 em_lg51 it52 em_it52
          have hI56 : I9 lg51 it52 := by rw [em_lg51, em_it52]; exact i9_g hI43 (by rw [em_q50]; exact gL_o (i9_o hI43))
          have hK57 : Kd (fun j => False) (fun k => k = 18 ∨ k = 19 ∨ k = 20) lg0 it0 lg51 it52 := by rw [em_lg51, em_it52]; exact kd_g (by first | decide | (dsimp only; decide) | omega | (dsimp only; omega)) (by first | decide | (dsimp only; decide) | omega | (dsimp only; omega)) (by first | decide | (dsimp only; decide) | omega | (dsimp only; omega)) hK44
          have z19_lg51 : ¬ lg51 489 19 = 0 := by rw [em_lg51, setU_19, em_q50]; exact gL_d hc54 hc55
          have e58 : (it52 489 0).toInt = (it41 489 0).toInt := by rw [em_it52]; exact congrArg Int32.toInt (setO_c (by decide))
          have f59 : 0 ≤ (it52 489 20).toInt ∧ (it52 489 20).toInt ≤ 1 := i9_f hI56 (j := 489) (k := 20) rfl
          refine ⟨fun c68 => ?_, fun c68 => ?_⟩
          · try simp only [Int32.lt_iff_toInt_lt, Int32.le_iff_toInt_le, ← Int32.toInt_inj, Int32.toInt_toInt64, tiA, tlA] at c68
            unfold w_X9_isBeyond_b80
            try have f60 : ((x3 + 1) : Int32).toInt = (x3).toInt + 1 := ad32 (a := (x3).toInt) (b := 1) (rfl) (ti_1) (by omega) (by omega)
            exact ih4 ((x2 ||| 1)) ((x3 + 1)) _ _ hI56 hK57 (by refine ⟨?_, ?_⟩ <;> first | exact Nx_0 | omega | assumption | exact Or.inl rfl | exact or_bit (by assumption) (Or.inl rfl) | exact or_bit (by assumption) (Or.inr rfl)) (by omega)
          · try simp only [Int32.lt_iff_toInt_lt, Int32.le_iff_toInt_le, ← Int32.toInt_inj, Int32.toInt_toInt64, tiA, tlA] at c68
            refine ⟨fun c77 => ?_, fun c77 => ?_⟩
            · try simp only [Int32.lt_iff_toInt_lt, Int32.le_iff_toInt_le, ← Int32.toInt_inj, Int32.toInt_toInt64, tiA, tlA] at c77
              try have f61 : ((x3 + 1) : Int32).toInt = (x3).toInt + 1 := ad32 (a := (x3).toInt) (b := 1) (rfl) (ti_1) (by omega) (by omega)
              exact ih4 ((x2 ||| 0)) ((x3 + 1)) _ _ hI56 hK57 (by refine ⟨?_, ?_⟩ <;> first | exact Nx_0 | omega | assumption | exact Or.inl rfl | exact or_bit (by assumption) (Or.inl rfl) | exact or_bit (by assumption) (Or.inr rfl)) (by omega)
            · try simp only [Int32.lt_iff_toInt_lt, Int32.le_iff_toInt_le, ← Int32.toInt_inj, Int32.toInt_toInt64, tiA, tlA] at c77
              unfold w_X9_isBeyond_b80
              try have f62 : ((x3 + 1) : Int32).toInt = (x3).toInt + 1 := ad32 (a := (x3).toInt) (b := 1) (rfl) (ti_1) (by omega) (by omega)
              exact ih4 ((x2 ||| 1)) ((x3 + 1)) _ _ hI56 hK57 (by refine ⟨?_, ?_⟩ <;> first | exact Nx_0 | omega | assumption | exact Or.inl rfl | exact or_bit (by assumption) (Or.inl rfl) | exact or_bit (by assumption) (Or.inr rfl)) (by omega)
        · try simp only [Int32.lt_iff_toInt_lt, Int32.le_iff_toInt_le, ← Int32.toInt_inj, Int32.toInt_toInt64, tiA, tlA] at c18
          have hi63 : vp_in x3 6 := vp_of (by first | omega | ((try simp only [Int32.lt_iff_toInt_lt, Int32.le_iff_toInt_le, ← Int32.toInt_inj, Int32.toInt_toInt64, tiA, tlA]); omega) | (split <;> omega)) (by first | omega | ((try simp only [Int32.lt_iff_toInt_lt, Int32.le_iff_toInt_le, ← Int32.toInt_inj, Int32.toInt_toInt64, tiA, tlA]); omega) | (split <;> omega))
          refine ⟨hi63, ?_⟩
          have hz64 := vlt hi63
          refine ⟨fun c30 => ?_, fun c30 => ?_⟩
          · try simp only [Int32.lt_iff_toInt_lt, Int32.le_iff_toInt_le, ← Int32.toInt_inj, Int32.toInt_toInt64, tiA, tlA] at c30
            try have f65 : ((x3 + 1) : Int32).toInt = (x3).toInt + 1 := ad32 (a := (x3).toInt) (b := 1) (rfl) (ti_1) (by omega) (by omega)
            exact ih4 ((x2 ||| 0)) ((x3 + 1)) _ _ hI43 hK44 (by refine ⟨?_, ?_⟩ <;> first | exact Nx_0 | omega | assumption | exact Or.inl rfl | exact or_bit (by assumption) (Or.inl rfl) | exact or_bit (by assumption) (Or.inr rfl)) (by omega)
          · try simp only [Int32.lt_iff_toInt_lt, Int32.le_iff_toInt_le, ← Int32.toInt_inj, Int32.toInt_toInt64, tiA, tlA] at c30
            try have f66 : ((x3 + 1) : Int32).toInt = (x3).toInt + 1 := ad32 (a := (x3).toInt) (b := 1) (rfl) (ti_1) (by omega) (by omega)
            exact ih4 ((x2 ||| 1)) ((x3 + 1)) _ _ hI43 hK44 (by refine ⟨?_, ?_⟩ <;> first | exact Nx_0 | omega | assumption | exact Or.inl rfl | exact or_bit (by assumption) (Or.inl rfl) | exact or_bit (by assumption) (Or.inr rfl)) (by omega)
  have t67 := ti_0
  have t68 := ti_0
  exact ⟨_, lp4 ((7 - ((0 : Int32)).toInt).toNat + 1) ((0 : Int32)) ((0 : Int32)) _ _ hI hKr (by refine ⟨?_, ?_⟩ <;> first | exact Nx_0 | omega | assumption | exact Or.inl rfl | exact or_bit (by assumption) (Or.inl rfl) | exact or_bit (by assumption) (Or.inr rfl)) (Nat.lt_succ_self _)⟩
theorem s_X9_bumper (a1 a2 a3 : Int32) {lg0 : LGt} {it0 : ITt} (hI : I9 lg0 it0) : w_X9_bumper a1 a2 a3 (fun (v : Int32) (lg' : LGt) (it' : ITt) => (I9 lg' it' ∧ Kd (fun j => j = 490 ∨ j = 491 ∨ j = 492 ∨ j = 493 ∨ j = 494) (fun k => k = 0 ∨ k = 18 ∨ k = 19 ∨ k = 20) lg0 it0 lg' it')) lg0 it0 := by
  generalize hp : (fun (v : Int32) (lg' : LGt) (it' : ITt) => (I9 lg' it' ∧ Kd (fun j => j = 490 ∨ j = 491 ∨ j = 492 ∨ j = 493 ∨ j = 494) (fun k => k = 0 ∨ k = 18 ∨ k = 19 ∨ k = 20) lg0 it0 lg' it')) = Pz
  have fin : ∀ (lg : LGt) (it : ITt), I9 lg it → Kd (fun j => j = 490 ∨ j = 491 ∨ j = 492 ∨ j = 493 ∨ j = 494) (fun k => k = 0 ∨ k = 18 ∨ k = 19 ∨ k = 20) lg0 it0 lg it → 1 ≤ a2.toInt ∧ a2.toInt ≤ 9 → w_X9_bumper_b104 a1 a2 a3 Pz lg it := by
    intro lg it hJ hK ha
    have f0 := i9_f hJ (j := 489) (k := 0) rfl
    unfold w_X9_bumper_b104
    refine ⟨fun c => ?_, fun c => by subst hp; exact ⟨hJ, hK⟩⟩
    have c6 : ¬ (it 489 0).toInt = 6 := fun q => c (Int32.toInt_inj.mp (q.trans ti_6.symm))
    have hv : vp_in (it 489 0) 6 := vp_of f0.1 (by omega)
    have hz := cl32 (i := it 489 0) f0.1
    refine ⟨hv, fun it35 m35 => ?_⟩
    have e0 : it35 489 0 = it 489 0 := by rw [m35]; exact congrFun (u2_row (by decide)) 0
    rw [e0]
    refine ⟨hv, fun lg37 m37 => ⟨hv, fun lg39 m39 => ⟨hv, fun lg41 m41 => ⟨hv, fun lg43 m43 it45 m45 => ?_⟩⟩⟩⟩
    have J35 : I9 lg it35 := by rw [m35]; exact i9_m hJ ha
    have J43 : I9 lg43 it35 := by rw [m43, m41, m39, m37]; exact i9_d (i9_l (i9_d (i9_l J35 (by decide) (by decide) (by decide)) (by decide) (by decide)) (by decide) (by decide) (by decide)) (by decide) (by decide)
    have K43 : Kd (fun j => j = 490 ∨ j = 491 ∨ j = 492 ∨ j = 493 ∨ j = 494) (fun k => k = 0 ∨ k = 18 ∨ k = 19 ∨ k = 20) lg0 it0 lg43 it35 := by rw [m43, m41, m39, m37, m35]; exact kd_lr (by decide) (by first | decide | (dsimp only; decide) | omega | (dsimp only; omega)) (kd_lr (by decide) (by first | decide | (dsimp only; decide) | omega | (dsimp only; omega)) (kd_lr (by decide) (by first | decide | (dsimp only; decide) | omega | (dsimp only; omega)) (kd_lr (by decide) (by first | decide | (dsimp only; decide) | omega | (dsimp only; omega)) (kd_ur (by decide) (by first | decide | (dsimp only; decide) | omega | (dsimp only; omega)) hK))))
    have fv : (it 489 0 + 1).toInt = (it 489 0).toInt + 1 := ad32 rfl ti_1 (by omega) (by omega)
    subst hp
    refine ⟨?_, by rw [m45]; exact kd_uf (by first | decide | (dsimp only; decide) | omega | (dsimp only; omega)) K43⟩
    rw [m45]
    refine i9_many (m := (it 489 0).toNatClampNeg) J43 (by rw [e0]; exact hz) (by rw [e0]; exact fv) (by omega) ?_ ?_ ?_
    · rw [m43, u2_row (by decide), m41, u2_row (by decide), m39, u2_eq]; decide
    · rw [m43, u2_eq]; decide
    · rw [m35, u2_eq]; exact ha
  have f0 := i9_f hI (j := 489) (k := 0) rfl
  unfold w_X9_bumper
  refine ⟨fun _ => by subst hp; exact ⟨hI, kd_r⟩, fun _ => ⟨fun _ => by subst hp; exact ⟨hI, kd_r⟩, fun c2 => ⟨fun _ => ⟨fun _ => fin _ _ hI kd_r ?_, fun c0 => ?_⟩, fun _ => by subst hp; exact ⟨hI, kd_r⟩⟩⟩⟩
  · simp only [Int32.lt_iff_toInt_lt, Int32.le_iff_toInt_le, ← Int32.toInt_inj, Int32.toInt_toInt64, tiA, tlA] at c2; exact c2
  · simp only [Int32.lt_iff_toInt_lt, Int32.le_iff_toInt_le, ← Int32.toInt_inj, Int32.toInt_toInt64, tiA, tlA] at c2 c0
    intro it9 m9
    have e0 : it9 489 0 = it0 489 0 := by rw [m9]; exact u2_ne (by decide)
    rw [e0]
    have fB : (it0 489 0 - 1).toInt = (it0 489 0).toInt - 1 := sb32 rfl ti_1 (by omega) (by omega)
    have hv : vp_in (it0 489 0 - 1) 6 := vp_of (by omega) (by omega)
    have hz := cl32 (i := it0 489 0 - 1) (by omega)
    have J9 : I9 lg0 it9 := by rw [m9]; exact i9_u hI (ok9_b (a := 0) (b := 1) rfl (by decide)) (by decide) (fun _ => by decide)
    have K9 : Kd (fun j => j = 490 ∨ j = 491 ∨ j = 492 ∨ j = 493 ∨ j = 494) (fun k => k = 0 ∨ k = 18 ∨ k = 19 ∨ k = 20) lg0 it0 lg0 it9 := by rw [m9]; exact kd_uf (by first | decide | (dsimp only; decide) | omega | (dsimp only; omega)) kd_r
    refine ⟨hv, hv, i9_o J9, (hI.2.2.1 _ (vlt hv) (by omega)).1.1, by decide, ?_⟩
    intro q15 mq lg16 m16 it17 m17
    have J : I9 lg16 it17 := by rw [m16, m17]; exact i9_g J9 (by rw [mq]; exact gL_o (i9_o J9))
    have K : Kd (fun j => j = 490 ∨ j = 491 ∨ j = 492 ∨ j = 493 ∨ j = 494) (fun k => k = 0 ∨ k = 18 ∨ k = 19 ∨ k = 20) lg0 it0 lg16 it17 := by rw [m16, m17]; exact kd_g (by first | decide | (dsimp only; decide) | omega | (dsimp only; omega)) (by first | decide | (dsimp only; decide) | omega | (dsimp only; omega)) (by first | decide | (dsimp only; decide) | omega | (dsimp only; omega)) K9
    have Z : ∀ it2 : ITt, it2 = u2 it17 489 20 0 → I9 lg16 it2 ∧ Kd (fun j => j = 490 ∨ j = 491 ∨ j = 492 ∨ j = 493 ∨ j = 494) (fun k => k = 0 ∨ k = 18 ∨ k = 19 ∨ k = 20) lg0 it0 lg16 it2 := fun it2 m2 => ⟨by rw [m2]; exact i9_u J (ok9_b (a := 0) (b := 1) rfl (by decide)) (by decide) (fun _ => by decide), by rw [m2]; exact kd_uf (by first | decide | (dsimp only; decide) | omega | (dsimp only; omega)) K⟩
    exact ⟨fun _ it2 m2 => by subst hp; exact Z it2 m2, fun _ => ⟨fun _ => fin _ _ J K c2, fun _ it2 m2 => by subst hp; exact Z it2 m2⟩⟩
set_option maxRecDepth 100000 in
theorem s_X9_renew (a1 : Int32) (a2 : Int32) (a3 : Int32) {lg0 : LGt} {it0 : ITt} (hI : I9 lg0 it0) : w_X9_renew a1 a2 a3 (fun (v : Int32) (lg' : LGt) (it' : ITt) => (I9 lg' it' ∧ Kd (fun j => j = 490 ∨ j = 493 ∨ j = 494) (fun k => False) lg0 it0 lg' it'))  lg0 it0 := by
  have hb_a1 := And.intro a1.le_toInt a1.toInt_lt
  have hb_a2 := And.intro a2.le_toInt a2.toInt_lt
  have hb_a3 := And.intro a3.le_toInt a3.toInt_lt
  have hKr : Kd (fun j => j = 490 ∨ j = 493 ∨ j = 494) (fun k => False) lg0 it0 lg0 it0 := kd_r
  generalize hp : (fun (v : Int32) (lg' : LGt) (it' : ITt) => (I9 lg' it' ∧ Kd (fun j => j = 490 ∨ j = 493 ∨ j = 494) (fun k => False) lg0 it0 lg' it')) = Pz
  unfold w_X9_renew
  have t0 := ti_0
  have t9 := ti_9
  have tm1 := ti_m1
  have f0 := i9_f hI (j := 489) (k := 0) rfl
  have fB : (it0 489 0 - 1).toInt = (it0 489 0).toInt - 1 := sb32 rfl ti_1 (by omega) (by omega)
  have f22 : 0 ≤ (it0 489 0).toInt ∧ (it0 489 0).toInt ≤ 6 := i9_f hI (j := 489) (k := 0) rfl
  refine ⟨fun c5 => ?_, fun c5 => ?_⟩
  · try simp only [Int32.lt_iff_toInt_lt, Int32.le_iff_toInt_le, ← Int32.toInt_inj, Int32.toInt_toInt64, tiA, tlA] at c5
    subst hp
    exact ⟨hI, hKr⟩
  · try simp only [Int32.lt_iff_toInt_lt, Int32.le_iff_toInt_le, ← Int32.toInt_inj, Int32.toInt_toInt64, tiA, tlA] at c5
    refine ⟨fun c15 => ?_, fun c15 => ?_⟩
    · try simp only [Int32.lt_iff_toInt_lt, Int32.le_iff_toInt_le, ← Int32.toInt_inj, Int32.toInt_toInt64, tiA, tlA] at c15
      refine ⟨fun c21 => ?_, fun c21 => ?_⟩
      · try simp only [Int32.lt_iff_toInt_lt, Int32.le_iff_toInt_le, ← Int32.toInt_inj, Int32.toInt_toInt64, tiA, tlA] at c21
        refine ⟨fun c50 => ?_, fun c50 => ?_⟩
        · try simp only [Int32.lt_iff_toInt_lt, Int32.le_iff_toInt_le, ← Int32.toInt_inj, Int32.toInt_toInt64, tiA, tlA] at c50
          unfold w_X9_renew_b56
          refine ⟨fun c57 => ?_, fun c57 => ?_⟩
          · try simp only [Int32.lt_iff_toInt_lt, Int32.le_iff_toInt_le, ← Int32.toInt_inj, Int32.toInt_toInt64, tiA, tlA] at c57
            have hi23 : vp_in a1 6 := vp_of (by first | omega | ((try simp only [Int32.lt_iff_toInt_lt, Int32.le_iff_toInt_le, ← Int32.toInt_inj, Int32.toInt_toInt64, tiA, tlA]); omega) | (split <;> omega)) (by first | omega | ((try simp only [Int32.lt_iff_toInt_lt, Int32.le_iff_toInt_le, ← Int32.toInt_inj, Int32.toInt_toInt64, tiA, tlA]); omega) | (split <;> omega))
            refine ⟨hi23, ?_⟩
            have hz24 := vlt hi23
            intro lg25 em26
            have hI27 : I9 lg25 it0 := by rw [em26]; exact i9_l hI (by decide) (by decide) (by decide)
            have hK28 : Kd (fun j => j = 490 ∨ j = 493 ∨ j = 494) (fun k => False) lg0 it0 lg25 it0 := by rw [em26]; exact kd_lr (by decide) (by first | decide | (dsimp only; decide) | omega | (dsimp only; omega)) hKr
            have hi29 : vp_in a1 6 := vp_of (by first | omega | ((try simp only [Int32.lt_iff_toInt_lt, Int32.le_iff_toInt_le, ← Int32.toInt_inj, Int32.toInt_toInt64, tiA, tlA]); omega) | (split <;> omega)) (by first | omega | ((try simp only [Int32.lt_iff_toInt_lt, Int32.le_iff_toInt_le, ← Int32.toInt_inj, Int32.toInt_toInt64, tiA, tlA]); omega) | (split <;> omega))
            refine ⟨hi29, ?_⟩
            have hz30 := vlt hi29
            intro lg31 em32
            have hI33 : I9 lg31 it0 := by rw [em32]; exact i9_d hI27 (by decide) (by decide)
            have hK34 : Kd (fun j => j = 490 ∨ j = 493 ∨ j = 494) (fun k => False) lg0 it0 lg31 it0 := by rw [em32]; exact kd_lr (by decide) (by first | decide | (dsimp only; decide) | omega | (dsimp only; omega)) hK28
            subst hp
            exact ⟨hI33, hK34⟩
          · try simp only [Int32.lt_iff_toInt_lt, Int32.le_iff_toInt_le, ← Int32.toInt_inj, Int32.toInt_toInt64, tiA, tlA] at c57
            have hi35 : vp_in a1 6 := vp_of (by first | omega | ((try simp only [Int32.lt_iff_toInt_lt, Int32.le_iff_toInt_le, ← Int32.toInt_inj, Int32.toInt_toInt64, tiA, tlA]); omega) | (split <;> omega)) (by first | omega | ((try simp only [Int32.lt_iff_toInt_lt, Int32.le_iff_toInt_le, ← Int32.toInt_inj, Int32.toInt_toInt64, tiA, tlA]); omega) | (split <;> omega))
            refine ⟨hi35, ?_⟩
            have hz36 := vlt hi35
            intro it37 em38
            have hI39 : I9 lg0 it37 := by rw [em38]; exact i9_m hI (by (try simp only [Int32.lt_iff_toInt_lt, Int32.le_iff_toInt_le, ← Int32.toInt_inj, Int32.toInt_toInt64, tiA, tlA]); omega)
            have hK40 : Kd (fun j => j = 490 ∨ j = 493 ∨ j = 494) (fun k => False) lg0 it0 lg0 it37 := by rw [em38]; exact kd_ur (by decide) (by first | decide | (dsimp only; decide) | omega | (dsimp only; omega)) hKr
            have e41 : (it37 489 0).toInt = (it0 489 0).toInt := by rw [em38]; exact congrArg Int32.toInt (congrFun (u2_row (by decide)) 0)
            have f42 : 0 ≤ (it37 489 0).toInt ∧ (it37 489 0).toInt ≤ 6 := i9_f hI39 (j := 489) (k := 0) rfl
            subst hp
            exact ⟨hI39, hK40⟩
        · try simp only [Int32.lt_iff_toInt_lt, Int32.le_iff_toInt_le, ← Int32.toInt_inj, Int32.toInt_toInt64, tiA, tlA] at c50
          subst hp
          exact ⟨hI, hKr⟩
      · try simp only [Int32.lt_iff_toInt_lt, Int32.le_iff_toInt_le, ← Int32.toInt_inj, Int32.toInt_toInt64, tiA, tlA] at c21
        refine ⟨fun c33 => ?_, fun c33 => ?_⟩
        · try simp only [Int32.lt_iff_toInt_lt, Int32.le_iff_toInt_le, ← Int32.toInt_inj, Int32.toInt_toInt64, tiA, tlA] at c33
          unfold w_X9_renew_b56
          refine ⟨fun c57 => ?_, fun c57 => ?_⟩
          · try simp only [Int32.lt_iff_toInt_lt, Int32.le_iff_toInt_le, ← Int32.toInt_inj, Int32.toInt_toInt64, tiA, tlA] at c57
            have hi43 : vp_in a1 6 := vp_of (by first | omega | ((try simp only [Int32.lt_iff_toInt_lt, Int32.le_iff_toInt_le, ← Int32.toInt_inj, Int32.toInt_toInt64, tiA, tlA]); omega) | (split <;> omega)) (by first | omega | ((try simp only [Int32.lt_iff_toInt_lt, Int32.le_iff_toInt_le, ← Int32.toInt_inj, Int32.toInt_toInt64, tiA, tlA]); omega) | (split <;> omega))
            refine ⟨hi43, ?_⟩
            have hz44 := vlt hi43
            intro lg45 em46
            have hI47 : I9 lg45 it0 := by rw [em46]; exact i9_l hI (by decide) (by decide) (by decide)
            have hK48 : Kd (fun j => j = 490 ∨ j = 493 ∨ j = 494) (fun k => False) lg0 it0 lg45 it0 := by rw [em46]; exact kd_lr (by decide) (by first | decide | (dsimp only; decide) | omega | (dsimp only; omega)) hKr
            have hi49 : vp_in a1 6 := vp_of (by first | omega | ((try simp only [Int32.lt_iff_toInt_lt, Int32.le_iff_toInt_le, ← Int32.toInt_inj, Int32.toInt_toInt64, tiA, tlA]); omega) | (split <;> omega)) (by first | omega | ((try simp only [Int32.lt_iff_toInt_lt, Int32.le_iff_toInt_le, ← Int32.toInt_inj, Int32.toInt_toInt64, tiA, tlA]); omega) | (split <;> omega))
            refine ⟨hi49, ?_⟩
            have hz50 := vlt hi49
            intro lg51 em52
            have hI53 : I9 lg51 it0 := by rw [em52]; exact i9_d hI47 (by decide) (by decide)
            have hK54 : Kd (fun j => j = 490 ∨ j = 493 ∨ j = 494) (fun k => False) lg0 it0 lg51 it0 := by rw [em52]; exact kd_lr (by decide) (by first | decide | (dsimp only; decide) | omega | (dsimp only; omega)) hK48
            subst hp
            exact ⟨hI53, hK54⟩
          · try simp only [Int32.lt_iff_toInt_lt, Int32.le_iff_toInt_le, ← Int32.toInt_inj, Int32.toInt_toInt64, tiA, tlA] at c57
            have hi55 : vp_in a1 6 := vp_of (by first | omega | ((try simp only [Int32.lt_iff_toInt_lt, Int32.le_iff_toInt_le, ← Int32.toInt_inj, Int32.toInt_toInt64, tiA, tlA]); omega) | (split <;> omega)) (by first | omega | ((try simp only [Int32.lt_iff_toInt_lt, Int32.le_iff_toInt_le, ← Int32.toInt_inj, Int32.toInt_toInt64, tiA, tlA]); omega) | (split <;> omega))
            refine ⟨hi55, ?_⟩
            have hz56 := vlt hi55
            intro it57 em58
            have hI59 : I9 lg0 it57 := by rw [em58]; exact i9_m hI (by (try simp only [Int32.lt_iff_toInt_lt, Int32.le_iff_toInt_le, ← Int32.toInt_inj, Int32.toInt_toInt64, tiA, tlA]); omega)
            have hK60 : Kd (fun j => j = 490 ∨ j = 493 ∨ j = 494) (fun k => False) lg0 it0 lg0 it57 := by rw [em58]; exact kd_ur (by decide) (by first | decide | (dsimp only; decide) | omega | (dsimp only; omega)) hKr
            have e61 : (it57 489 0).toInt = (it0 489 0).toInt := by rw [em58]; exact congrArg Int32.toInt (congrFun (u2_row (by decide)) 0)
            have f62 : 0 ≤ (it57 489 0).toInt ∧ (it57 489 0).toInt ≤ 6 := i9_f hI59 (j := 489) (k := 0) rfl
            subst hp
            exact ⟨hI59, hK60⟩
        · try simp only [Int32.lt_iff_toInt_lt, Int32.le_iff_toInt_le, ← Int32.toInt_inj, Int32.toInt_toInt64, tiA, tlA] at c33
          subst hp
          exact ⟨hI, hKr⟩
    · try simp only [Int32.lt_iff_toInt_lt, Int32.le_iff_toInt_le, ← Int32.toInt_inj, Int32.toInt_toInt64, tiA, tlA] at c15
      subst hp
      exact ⟨hI, hKr⟩
set_option maxRecDepth 100000 in
theorem s_X9_spring (a1 : Int32) {lg0 : LGt} {it0 : ITt} (hI : I9 lg0 it0) : w_X9_spring a1 (fun (v : Int32) (lg' : LGt) (it' : ITt) => (I9 lg' it' ∧ Kd (fun j => False) (fun k => k = 1) lg0 it0 lg' it'))  lg0 it0 := by
  have hb_a1 := And.intro a1.le_toInt a1.toInt_lt
  have hKr : Kd (fun j => False) (fun k => k = 1) lg0 it0 lg0 it0 := kd_r
  generalize hp : (fun (v : Int32) (lg' : LGt) (it' : ITt) => (I9 lg' it' ∧ Kd (fun j => False) (fun k => k = 1) lg0 it0 lg' it')) = Pz
  unfold w_X9_spring
  refine ⟨fun c9 => ?_, fun c9 => ?_⟩
  · try simp only [Int32.lt_iff_toInt_lt, Int32.le_iff_toInt_le, ← Int32.toInt_inj, Int32.toInt_toInt64, tiA, tlA] at c9
    intro it5 em6
    have hI7 : I9 lg0 it5 := by rw [em6]; exact i9_u hI (ok9_n rfl) (by decide) (fun _ => by decide)
    have hK8 : Kd (fun j => False) (fun k => k = 1) lg0 it0 lg0 it5 := by rw [em6]; exact kd_uf (by first | decide | (dsimp only; decide) | omega | (dsimp only; omega)) hKr
    have e10 : (it5 489 1).toInt = (a1 : Int32).toInt := by rw [em6]; exact congrArg Int32.toInt u2_eq
    subst hp
    exact ⟨hI7, hK8⟩
  · try simp only [Int32.lt_iff_toInt_lt, Int32.le_iff_toInt_le, ← Int32.toInt_inj, Int32.toInt_toInt64, tiA, tlA] at c9
    subst hp
    exact ⟨hI, hKr⟩
set_option maxRecDepth 100000 in
theorem s_X9_wall (a1 : Int32) (a2 : Int32) {lg0 : LGt} {it0 : ITt} (hI : I9 lg0 it0) : w_X9_wall a1 a2 (fun (v : Int32) (lg' : LGt) (it' : ITt) => (I9 lg' it' ∧ Kd (fun j => False) (fun k => k = 2 ∨ k = 3 ∨ k = 18 ∨ k = 19 ∨ k = 20) lg0 it0 lg' it'))  lg0 it0 := by
  have hb_a1 := And.intro a1.le_toInt a1.toInt_lt
  have hb_a2 := And.intro a2.le_toInt a2.toInt_lt
  have hKr : Kd (fun j => False) (fun k => k = 2 ∨ k = 3 ∨ k = 18 ∨ k = 19 ∨ k = 20) lg0 it0 lg0 it0 := kd_r
  generalize hp : (fun (v : Int32) (lg' : LGt) (it' : ITt) => (I9 lg' it' ∧ Kd (fun j => False) (fun k => k = 2 ∨ k = 3 ∨ k = 18 ∨ k = 19 ∨ k = 20) lg0 it0 lg' it')) = Pz
  unfold w_X9_wall
  refine ⟨fun c7 => ?_, fun c7 => ?_⟩
  · try simp only [Int32.lt_iff_toInt_lt, Int32.le_iff_toInt_le, ← Int32.toInt_inj, Int32.toInt_toInt64, tiA, tlA] at c7
    refine ⟨fun c23 => ?_, fun c23 => ?_⟩
    · try simp only [Int32.lt_iff_toInt_lt, Int32.le_iff_toInt_le, ← Int32.toInt_inj, Int32.toInt_toInt64, tiA, tlA] at c23
      refine ⟨fun c30 => ?_, fun c30 => ?_⟩
      · try simp only [Int32.lt_iff_toInt_lt, Int32.le_iff_toInt_le, ← Int32.toInt_inj, Int32.toInt_toInt64, tiA, tlA] at c30
        unfold w_X9_wall_b44
        refine ⟨fun c45 => ?_, fun c45 => ?_⟩
        · try simp only [Int32.lt_iff_toInt_lt, Int32.le_iff_toInt_le, ← Int32.toInt_inj, Int32.toInt_toInt64, tiA, tlA] at c45
          unfold w_X9_wall_b59
          refine ⟨fun c61 => ?_, fun c61 => ?_⟩
          · try simp only [Int32.lt_iff_toInt_lt, Int32.le_iff_toInt_le, ← Int32.toInt_inj, Int32.toInt_toInt64, tiA, tlA] at c61
            intro it24 em25
            have hI26 : I9 lg0 it24 := by rw [em25]; exact i9_u hI (ok9_n rfl) (by decide) (fun _ => by decide)
            have hK27 : Kd (fun j => False) (fun k => k = 2 ∨ k = 3 ∨ k = 18 ∨ k = 19 ∨ k = 20) lg0 it0 lg0 it24 := by rw [em25]; exact kd_uf (by first | decide | (dsimp only; decide) | omega | (dsimp only; omega)) hKr
            have e28 : (it24 489 0).toInt = (it0 489 0).toInt := by rw [em25]; exact congrArg Int32.toInt (u2_ne (by decide))
            have e30 : (it24 489 3).toInt = (a2 : Int32).toInt := by rw [em25]; exact congrArg Int32.toInt u2_eq
            unfold w_X9_wall_b77
            subst hp
            exact ⟨hI26, hK27⟩
          · try simp only [Int32.lt_iff_toInt_lt, Int32.le_iff_toInt_le, ← Int32.toInt_inj, Int32.toInt_toInt64, tiA, tlA] at c61
            intro it31 em32
            have hI33 : I9 lg0 it31 := by rw [em32]; exact i9_u hI (ok9_n rfl) (by decide) (fun _ => by decide)
            have hK34 : Kd (fun j => False) (fun k => k = 2 ∨ k = 3 ∨ k = 18 ∨ k = 19 ∨ k = 20) lg0 it0 lg0 it31 := by rw [em32]; exact kd_uf (by first | decide | (dsimp only; decide) | omega | (dsimp only; omega)) hKr
            have e35 : (it31 489 0).toInt = (it0 489 0).toInt := by rw [em32]; exact congrArg Int32.toInt (u2_ne (by decide))
            have e36 : (it31 489 3).toInt = (it0 489 3).toInt := by rw [em32]; exact congrArg Int32.toInt (u2_ne (by decide))
            unfold w_X9_wall_b77
            subst hp
            exact ⟨hI33, hK34⟩
        · try simp only [Int32.lt_iff_toInt_lt, Int32.le_iff_toInt_le, ← Int32.toInt_inj, Int32.toInt_toInt64, tiA, tlA] at c45
          unfold w_X9_wall_b59
          refine ⟨fun c61 => ?_, fun c61 => ?_⟩
          · try simp only [Int32.lt_iff_toInt_lt, Int32.le_iff_toInt_le, ← Int32.toInt_inj, Int32.toInt_toInt64, tiA, tlA] at c61
            intro it37 em38
            have hI39 : I9 lg0 it37 := by rw [em38]; exact i9_u hI (ok9_n rfl) (by decide) (fun _ => by decide)
            have hK40 : Kd (fun j => False) (fun k => k = 2 ∨ k = 3 ∨ k = 18 ∨ k = 19 ∨ k = 20) lg0 it0 lg0 it37 := by rw [em38]; exact kd_uf (by first | decide | (dsimp only; decide) | omega | (dsimp only; omega)) hKr
            have e41 : (it37 489 0).toInt = (it0 489 0).toInt := by rw [em38]; exact congrArg Int32.toInt (u2_ne (by decide))
            have e42 : (it37 489 2).toInt = (it0 489 2).toInt := by rw [em38]; exact congrArg Int32.toInt (u2_ne (by decide))
            unfold w_X9_wall_b77
            subst hp
            exact ⟨hI39, hK40⟩
          · try simp only [Int32.lt_iff_toInt_lt, Int32.le_iff_toInt_le, ← Int32.toInt_inj, Int32.toInt_toInt64, tiA, tlA] at c61
            intro it43 em44
            have hI45 : I9 lg0 it43 := by rw [em44]; exact i9_u hI (ok9_n rfl) (by decide) (fun _ => by decide)
            have hK46 : Kd (fun j => False) (fun k => k = 2 ∨ k = 3 ∨ k = 18 ∨ k = 19 ∨ k = 20) lg0 it0 lg0 it43 := by rw [em44]; exact kd_uf (by first | decide | (dsimp only; decide) | omega | (dsimp only; omega)) hKr
            have e47 : (it43 489 0).toInt = (it0 489 0).toInt := by rw [em44]; exact congrArg Int32.toInt (u2_ne (by decide))
            have e49 : (it43 489 2).toInt = (a2 : Int32).toInt := by rw [em44]; exact congrArg Int32.toInt u2_eq
            unfold w_X9_wall_b77
            subst hp
            exact ⟨hI45, hK46⟩
      · try simp only [Int32.lt_iff_toInt_lt, Int32.le_iff_toInt_le, ← Int32.toInt_inj, Int32.toInt_toInt64, tiA, tlA] at c30
        refine ⟨_, s_X9_isBeyond  (a1) hI , ?_⟩
        intro v55 lg50 it51 hq
        obtain ⟨⟨hI52, hK53⟩, ha56⟩ := hq
        have hK54 : Kd (fun j => False) (fun k => k = 2 ∨ k = 3 ∨ k = 18 ∨ k = 19 ∨ k = 20) lg0 it0 lg50 it51 := kd_t hKr hK53 (fun j hj => by first | omega | exact False.elim hj | (dsimp only at hj ⊢; omega)) (fun j hj => by first | omega | exact False.elim hj | (dsimp only at hj ⊢; omega))
        try have e57 : (it51 489 0).toInt = (it0 489 0).toInt := congrArg Int32.toInt (hK53.2 0 (by first | decide | (dsimp only; decide) | omega | (dsimp only; omega))).2
        refine ⟨fun c38 => ?_, fun c38 => ?_⟩
        · try simp only [Int32.lt_iff_toInt_lt, Int32.le_iff_toInt_le, ← Int32.toInt_inj, Int32.toInt_toInt64, tiA, tlA] at c38
          unfold w_X9_wall_b44
          refine ⟨fun c45 => ?_, fun c45 => ?_⟩
          · try simp only [Int32.lt_iff_toInt_lt, Int32.le_iff_toInt_le, ← Int32.toInt_inj, Int32.toInt_toInt64, tiA, tlA] at c45
            unfold w_X9_wall_b59
            refine ⟨fun c61 => ?_, fun c61 => ?_⟩
            · try simp only [Int32.lt_iff_toInt_lt, Int32.le_iff_toInt_le, ← Int32.toInt_inj, Int32.toInt_toInt64, tiA, tlA] at c61
              intro it58 em59
              have hI60 : I9 lg50 it58 := by rw [em59]; exact i9_u hI52 (ok9_n rfl) (by decide) (fun _ => by decide)
              have hK61 : Kd (fun j => False) (fun k => k = 2 ∨ k = 3 ∨ k = 18 ∨ k = 19 ∨ k = 20) lg0 it0 lg50 it58 := by rw [em59]; exact kd_uf (by first | decide | (dsimp only; decide) | omega | (dsimp only; omega)) hK54
              have e62 : (it58 489 0).toInt = (it51 489 0).toInt := by rw [em59]; exact congrArg Int32.toInt (u2_ne (by decide))
              have e64 : (it58 489 3).toInt = (a2 : Int32).toInt := by rw [em59]; exact congrArg Int32.toInt u2_eq
              unfold w_X9_wall_b77
              subst hp
              exact ⟨hI60, hK61⟩
            · try simp only [Int32.lt_iff_toInt_lt, Int32.le_iff_toInt_le, ← Int32.toInt_inj, Int32.toInt_toInt64, tiA, tlA] at c61
              intro it65 em66
              have hI67 : I9 lg50 it65 := by rw [em66]; exact i9_u hI52 (ok9_n rfl) (by decide) (fun _ => by decide)
              have hK68 : Kd (fun j => False) (fun k => k = 2 ∨ k = 3 ∨ k = 18 ∨ k = 19 ∨ k = 20) lg0 it0 lg50 it65 := by rw [em66]; exact kd_uf (by first | decide | (dsimp only; decide) | omega | (dsimp only; omega)) hK54
              have e69 : (it65 489 0).toInt = (it51 489 0).toInt := by rw [em66]; exact congrArg Int32.toInt (u2_ne (by decide))
              have e70 : (it65 489 3).toInt = (it51 489 3).toInt := by rw [em66]; exact congrArg Int32.toInt (u2_ne (by decide))
              unfold w_X9_wall_b77
              subst hp
              exact ⟨hI67, hK68⟩
          · try simp only [Int32.lt_iff_toInt_lt, Int32.le_iff_toInt_le, ← Int32.toInt_inj, Int32.toInt_toInt64, tiA, tlA] at c45
            unfold w_X9_wall_b59
            refine ⟨fun c61 => ?_, fun c61 => ?_⟩
            · try simp only [Int32.lt_iff_toInt_lt, Int32.le_iff_toInt_le, ← Int32.toInt_inj, Int32.toInt_toInt64, tiA, tlA] at c61
              intro it71 em72
              have hI73 : I9 lg50 it71 := by rw [em72]; exact i9_u hI52 (ok9_n rfl) (by decide) (fun _ => by decide)
              have hK74 : Kd (fun j => False) (fun k => k = 2 ∨ k = 3 ∨ k = 18 ∨ k = 19 ∨ k = 20) lg0 it0 lg50 it71 := by rw [em72]; exact kd_uf (by first | decide | (dsimp only; decide) | omega | (dsimp only; omega)) hK54
              have e75 : (it71 489 0).toInt = (it51 489 0).toInt := by rw [em72]; exact congrArg Int32.toInt (u2_ne (by decide))
              have e76 : (it71 489 2).toInt = (it51 489 2).toInt := by rw [em72]; exact congrArg Int32.toInt (u2_ne (by decide))
              unfold w_X9_wall_b77
              subst hp
              exact ⟨hI73, hK74⟩
            · try simp only [Int32.lt_iff_toInt_lt, Int32.le_iff_toInt_le, ← Int32.toInt_inj, Int32.toInt_toInt64, tiA, tlA] at c61
              intro it77 em78
              have hI79 : I9 lg50 it77 := by rw [em78]; exact i9_u hI52 (ok9_n rfl) (by decide) (fun _ => by decide)
              have hK80 : Kd (fun j => False) (fun k => k = 2 ∨ k = 3 ∨ k = 18 ∨ k = 19 ∨ k = 20) lg0 it0 lg50 it77 := by rw [em78]; exact kd_uf (by first | decide | (dsimp only; decide) | omega | (dsimp only; omega)) hK54
              have e81 : (it77 489 0).toInt = (it51 489 0).toInt := by rw [em78]; exact congrArg Int32.toInt (u2_ne (by decide))
              have e83 : (it77 489 2).toInt = (a2 : Int32).toInt := by rw [em78]; exact congrArg Int32.toInt u2_eq
              unfold w_X9_wall_b77
              subst hp
              exact ⟨hI79, hK80⟩
        · try simp only [Int32.lt_iff_toInt_lt, Int32.le_iff_toInt_le, ← Int32.toInt_inj, Int32.toInt_toInt64, tiA, tlA] at c38
          subst hp
          exact ⟨hI52, hK54⟩
    · try simp only [Int32.lt_iff_toInt_lt, Int32.le_iff_toInt_le, ← Int32.toInt_inj, Int32.toInt_toInt64, tiA, tlA] at c23
      subst hp
      exact ⟨hI, hKr⟩
  · try simp only [Int32.lt_iff_toInt_lt, Int32.le_iff_toInt_le, ← Int32.toInt_inj, Int32.toInt_toInt64, tiA, tlA] at c7
    subst hp
    exact ⟨hI, hKr⟩
set_option maxRecDepth 100000 in
theorem s_X9_go (a1 : Int32) {lg0 : LGt} {it0 : ITt} (hI : I9 lg0 it0) : w_X9_go a1 (fun (v : Int32) (lg' : LGt) (it' : ITt) => (I9 lg' it' ∧ Kd (fun j => j = 491 ∨ j = 492 ∨ j = 493 ∨ j = 494 ∨ j = 501 ∨ j = 502 ∨ j = 503 ∨ j = 504 ∨ j = 505 ∨ j = 506 ∨ j = 507 ∨ j = 508 ∨ j = 509 ∨ j = 510 ∨ j = 511 ∨ j = 512) (fun k => k = 18 ∨ k = 19 ∨ k = 20 ∨ k = 28 ∨ k = 29 ∨ k = 30 ∨ k = 31 ∨ k = 32 ∨ k = 33 ∨ k = 34 ∨ k = 35 ∨ k = 36 ∨ k = 37 ∨ k = 38 ∨ k = 39 ∨ k = 40 ∨ k = 41 ∨ k = 42 ∨ k = 43) lg0 it0 lg' it'))  lg0 it0 := by
  have hb_a1 := And.intro a1.le_toInt a1.toInt_lt
  have hKr : Kd (fun j => j = 491 ∨ j = 492 ∨ j = 493 ∨ j = 494 ∨ j = 501 ∨ j = 502 ∨ j = 503 ∨ j = 504 ∨ j = 505 ∨ j = 506 ∨ j = 507 ∨ j = 508 ∨ j = 509 ∨ j = 510 ∨ j = 511 ∨ j = 512) (fun k => k = 18 ∨ k = 19 ∨ k = 20 ∨ k = 28 ∨ k = 29 ∨ k = 30 ∨ k = 31 ∨ k = 32 ∨ k = 33 ∨ k = 34 ∨ k = 35 ∨ k = 36 ∨ k = 37 ∨ k = 38 ∨ k = 39 ∨ k = 40 ∨ k = 41 ∨ k = 42 ∨ k = 43) lg0 it0 lg0 it0 := kd_r
  generalize hp : (fun (v : Int32) (lg' : LGt) (it' : ITt) => (I9 lg' it' ∧ Kd (fun j => j = 491 ∨ j = 492 ∨ j = 493 ∨ j = 494 ∨ j = 501 ∨ j = 502 ∨ j = 503 ∨ j = 504 ∨ j = 505 ∨ j = 506 ∨ j = 507 ∨ j = 508 ∨ j = 509 ∨ j = 510 ∨ j = 511 ∨ j = 512) (fun k => k = 18 ∨ k = 19 ∨ k = 20 ∨ k = 28 ∨ k = 29 ∨ k = 30 ∨ k = 31 ∨ k = 32 ∨ k = 33 ∨ k = 34 ∨ k = 35 ∨ k = 36 ∨ k = 37 ∨ k = 38 ∨ k = 39 ∨ k = 40 ∨ k = 41 ∨ k = 42 ∨ k = 43) lg0 it0 lg' it')) = Pz
  unfold w_X9_go
  have t0 := ti_0
  have t9 := ti_9
  have tm1 := ti_m1
  refine ⟨fun c9 => ?_, fun c9 => ?_⟩
  · try simp only [Int32.lt_iff_toInt_lt, Int32.le_iff_toInt_le, ← Int32.toInt_inj, Int32.toInt_toInt64, tiA, tlA] at c9
    refine ⟨_, s_X9_findAll   hI , ?_⟩
    intro lg36 it37 hq
    obtain ⟨⟨hI38, hK39⟩, ha42⟩ := hq
    have hK40 : Kd (fun j => j = 491 ∨ j = 492 ∨ j = 493 ∨ j = 494 ∨ j = 501 ∨ j = 502 ∨ j = 503 ∨ j = 504 ∨ j = 505 ∨ j = 506 ∨ j = 507 ∨ j = 508 ∨ j = 509 ∨ j = 510 ∨ j = 511 ∨ j = 512) (fun k => k = 18 ∨ k = 19 ∨ k = 20 ∨ k = 28 ∨ k = 29 ∨ k = 30 ∨ k = 31 ∨ k = 32 ∨ k = 33 ∨ k = 34 ∨ k = 35 ∨ k = 36 ∨ k = 37 ∨ k = 38 ∨ k = 39 ∨ k = 40 ∨ k = 41 ∨ k = 42 ∨ k = 43) lg0 it0 lg36 it37 := kd_t hKr hK39 (fun j hj => by first | omega | exact False.elim hj | (dsimp only at hj ⊢; omega)) (fun j hj => by first | omega | exact False.elim hj | (dsimp only at hj ⊢; omega))
    try have e43 : (it37 489 0).toInt = (it0 489 0).toInt := congrArg Int32.toInt (hK39.2 0 (by first | decide | (dsimp only; decide) | omega | (dsimp only; omega))).2
    try have e44 : (it37 489 42).toInt = (it0 489 42).toInt := congrArg Int32.toInt (hK39.2 42 (by first | decide | (dsimp only; decide) | omega | (dsimp only; omega))).2
    have PB45 := ha42.1
    have PT46 := ha42.2
    have f47 : 0 ≤ (it37 489 42).toInt ∧ (it37 489 42).toInt ≤ 20 := i9_f hI38 (j := 489) (k := 42) rfl
    refine ⟨fun c24 => ?_, fun c24 => ?_⟩
    · try simp only [Int32.lt_iff_toInt_lt, Int32.le_iff_toInt_le, ← Int32.toInt_inj, Int32.toInt_toInt64, tiA, tlA] at c24
      have lp38 : ∀ (n : Nat) (x2 : Int32) (x3 : Int32) (lg : LGt) (it : ITt), I9 lg it → Kd (fun j => j = 491 ∨ j = 492 ∨ j = 493 ∨ j = 494 ∨ j = 501 ∨ j = 502 ∨ j = 503 ∨ j = 504 ∨ j = 505 ∨ j = 506 ∨ j = 507 ∨ j = 508 ∨ j = 509 ∨ j = 510 ∨ j = 511 ∨ j = 512) (fun k => k = 18 ∨ k = 19 ∨ k = 20 ∨ k = 28 ∨ k = 29 ∨ k = 30 ∨ k = 31 ∨ k = 32 ∨ k = 33 ∨ k = 34 ∨ k = 35 ∨ k = 36 ∨ k = 37 ∨ k = 38 ∨ k = 39 ∨ k = 40 ∨ k = 41 ∨ k = 42 ∨ k = 43) lg0 it0 lg it → ((0 ≤ (x3).toInt) ∧ (B9 lg it) ∧ ((x2).toInt ≤ (it 489 42).toInt) ∧ ((x2).toInt ≤ 20)) → (7 - (x3).toInt).toNat < n → w_X9_go_b38 a1 Pz  n x2 x3 lg it := by
        intro n38
        induction n38 with
        | zero => intro x2 x3 lg it _ _ _ hn; exact absurd hn (Nat.not_lt_zero _)
        | succ n38 ih38 =>
          intro x2 x3 lg50 it51 hI48 hK49 hv hn
          unfold w_X9_go_b38
          obtain ⟨hv38_0, hv38_1, hv38_2, hv38_3⟩ := hv
          have f52 : 0 ≤ (it51 489 0).toInt ∧ (it51 489 0).toInt ≤ 6 := i9_f hI48 (j := 489) (k := 0) rfl
          refine ⟨fun c43 => ?_, fun c43 => ?_⟩
          · try simp only [Int32.lt_iff_toInt_lt, Int32.le_iff_toInt_le, ← Int32.toInt_inj, Int32.toInt_toInt64, tiA, tlA] at c43
            subst hp
            exact ⟨hI48, hK49⟩
          · try simp only [Int32.lt_iff_toInt_lt, Int32.le_iff_toInt_le, ← Int32.toInt_inj, Int32.toInt_toInt64, tiA, tlA] at c43
            refine ⟨fun c47 => ?_, fun c47 => ?_⟩
            · try simp only [Int32.lt_iff_toInt_lt, Int32.le_iff_toInt_le, ← Int32.toInt_inj, Int32.toInt_toInt64, tiA, tlA] at c47
              subst hp
              exact ⟨hI48, hK49⟩
            · try simp only [Int32.lt_iff_toInt_lt, Int32.le_iff_toInt_le, ← Int32.toInt_inj, Int32.toInt_toInt64, tiA, tlA] at c47
              try have f53 : ((x2 - 1) : Int32).toInt = (x2).toInt - 1 := sb32 (a := (x2).toInt) (b := 1) (rfl) (ti_1) (by omega) (by omega)
              try have f54 : ((12 * (x2 - 1)) : Int32).toInt = 12 * ((x2 - 1)).toInt := ml32 (a := 12) (b := ((x2 - 1)).toInt) (ti_12) (rfl) (by omega) (by omega)
              try have f55 : (((12 * (x2 - 1)) + x3) : Int32).toInt = ((12 * (x2 - 1))).toInt + (x3).toInt := ad32 (a := ((12 * (x2 - 1))).toInt) (b := (x3).toInt) (rfl) (rfl) (by omega) (by omega)
              have hi56 : vp_in ((12 * (x2 - 1)) + x3) 240 := vp_of (by first | omega | ((try simp only [Int32.lt_iff_toInt_lt, Int32.le_iff_toInt_le, ← Int32.toInt_inj, Int32.toInt_toInt64, tiA, tlA]); omega) | (split <;> omega)) (by first | omega | ((try simp only [Int32.lt_iff_toInt_lt, Int32.le_iff_toInt_le, ← Int32.toInt_inj, Int32.toInt_toInt64, tiA, tlA]); omega) | (split <;> omega))
              refine ⟨hi56, ?_⟩
              have hz57 := vlt hi56
              have hi58 : vp_in x3 6 := vp_of (by first | omega | ((try simp only [Int32.lt_iff_toInt_lt, Int32.le_iff_toInt_le, ← Int32.toInt_inj, Int32.toInt_toInt64, tiA, tlA]); omega) | (split <;> omega)) (by first | omega | ((try simp only [Int32.lt_iff_toInt_lt, Int32.le_iff_toInt_le, ← Int32.toInt_inj, Int32.toInt_toInt64, tiA, tlA]); omega) | (split <;> omega))
              refine ⟨hi58, ?_⟩
              have hz59 := vlt hi58
              intro lg60 em61
              have hI62 : I9 lg60 it51 := by rw [em61]; exact i9_l hI48 (by decide) (by decide) (by decide)
              have hK63 : Kd (fun j => j = 491 ∨ j = 492 ∨ j = 493 ∨ j = 494 ∨ j = 501 ∨ j = 502 ∨ j = 503 ∨ j = 504 ∨ j = 505 ∨ j = 506 ∨ j = 507 ∨ j = 508 ∨ j = 509 ∨ j = 510 ∨ j = 511 ∨ j = 512) (fun k => k = 18 ∨ k = 19 ∨ k = 20 ∨ k = 28 ∨ k = 29 ∨ k = 30 ∨ k = 31 ∨ k = 32 ∨ k = 33 ∨ k = 34 ∨ k = 35 ∨ k = 36 ∨ k = 37 ∨ k = 38 ∨ k = 39 ∨ k = 40 ∨ k = 41 ∨ k = 42 ∨ k = 43) lg0 it0 lg60 it51 := by rw [em61]; exact kd_lr (by decide) (by first | decide | (dsimp only; decide) | omega | (dsimp only; omega)) hK49
              have PB64 : B9 lg60 it51 := B9_c hv38_1 (by rw [em61]; exact u2_row (by decide)) (by rw [em61]; exact u2_row (by decide)) rfl rfl
              try have f65 : (((12 * (x2 - 1)) + x3) : Int32).toInt = ((12 * (x2 - 1))).toInt + (x3).toInt := ad32 (a := ((12 * (x2 - 1))).toInt) (b := (x3).toInt) (rfl) (rfl) (by omega) (by omega)
              have hi66 : vp_in ((12 * (x2 - 1)) + x3) 240 := vp_of (by first | omega | ((try simp only [Int32.lt_iff_toInt_lt, Int32.le_iff_toInt_le, ← Int32.toInt_inj, Int32.toInt_toInt64, tiA, tlA]); omega) | (split <;> omega)) (by first | omega | ((try simp only [Int32.lt_iff_toInt_lt, Int32.le_iff_toInt_le, ← Int32.toInt_inj, Int32.toInt_toInt64, tiA, tlA]); omega) | (split <;> omega))
              refine ⟨hi66, ?_⟩
              have hz67 := vlt hi66
              have hi68 : vp_in x3 6 := vp_of (by first | omega | ((try simp only [Int32.lt_iff_toInt_lt, Int32.le_iff_toInt_le, ← Int32.toInt_inj, Int32.toInt_toInt64, tiA, tlA]); omega) | (split <;> omega)) (by first | omega | ((try simp only [Int32.lt_iff_toInt_lt, Int32.le_iff_toInt_le, ← Int32.toInt_inj, Int32.toInt_toInt64, tiA, tlA]); omega) | (split <;> omega))
              refine ⟨hi68, ?_⟩
              have hz69 := vlt hi68
              intro lg70 em71
              have hI72 : I9 lg70 it51 := by rw [em71]; exact i9_d hI62 (by decide) (B9_2 (s := (x2 - 1).toNatClampNeg) (i := (x3).toNatClampNeg) PB64 (by have z1 := cl32 (i := x2 - 1) (by omega); omega) (by have z1 := cl32 (i := x2 - 1) (by omega); omega) (by have z1 := cl32 (i := x3) (by omega); omega) (by have z1 := cl32 (i := x3) (by omega); omega) (by have z1 := cl32 (i := x2 - 1) (by omega); have z2 := cl32 (i := x3) (by omega); have z3 := cl32 (i := ((12 * (x2 - 1)) + x3)) (by omega); omega))
              have hK73 : Kd (fun j => j = 491 ∨ j = 492 ∨ j = 493 ∨ j = 494 ∨ j = 501 ∨ j = 502 ∨ j = 503 ∨ j = 504 ∨ j = 505 ∨ j = 506 ∨ j = 507 ∨ j = 508 ∨ j = 509 ∨ j = 510 ∨ j = 511 ∨ j = 512) (fun k => k = 18 ∨ k = 19 ∨ k = 20 ∨ k = 28 ∨ k = 29 ∨ k = 30 ∨ k = 31 ∨ k = 32 ∨ k = 33 ∨ k = 34 ∨ k = 35 ∨ k = 36 ∨ k = 37 ∨ k = 38 ∨ k = 39 ∨ k = 40 ∨ k = 41 ∨ k = 42 ∨ k = 43) lg0 it0 lg70 it51 := by rw [em71]; exact kd_lr (by decide) (by first | decide | (dsimp only; decide) | omega | (dsimp only; omega)) hK63
              have PB74 : B9 lg70 it51 := B9_c PB64 (by rw [em71]; exact u2_row (by decide)) (by rw [em71]; exact u2_row (by decide)) rfl rfl
              try have f75 : (((12 * (x2 - 1)) + 6) : Int32).toInt = ((12 * (x2 - 1))).toInt + 6 := ad32 (a := ((12 * (x2 - 1))).toInt) (b := 6) (rfl) (ti_6) (by omega) (by omega)
              try have f76 : ((((12 * (x2 - 1)) + 6) + x3) : Int32).toInt = (((12 * (x2 - 1)) + 6)).toInt + (x3).toInt := ad32 (a := (((12 * (x2 - 1)) + 6)).toInt) (b := (x3).toInt) (rfl) (rfl) (by omega) (by omega)
              have hi77 : vp_in (((12 * (x2 - 1)) + 6) + x3) 240 := vp_of (by first | omega | ((try simp only [Int32.lt_iff_toInt_lt, Int32.le_iff_toInt_le, ← Int32.toInt_inj, Int32.toInt_toInt64, tiA, tlA]); omega) | (split <;> omega)) (by first | omega | ((try simp only [Int32.lt_iff_toInt_lt, Int32.le_iff_toInt_le, ← Int32.toInt_inj, Int32.toInt_toInt64, tiA, tlA]); omega) | (split <;> omega))
              refine ⟨hi77, ?_⟩
              have hz78 := vlt hi77
              have hi79 : vp_in x3 6 := vp_of (by first | omega | ((try simp only [Int32.lt_iff_toInt_lt, Int32.le_iff_toInt_le, ← Int32.toInt_inj, Int32.toInt_toInt64, tiA, tlA]); omega) | (split <;> omega)) (by first | omega | ((try simp only [Int32.lt_iff_toInt_lt, Int32.le_iff_toInt_le, ← Int32.toInt_inj, Int32.toInt_toInt64, tiA, tlA]); omega) | (split <;> omega))
              refine ⟨hi79, ?_⟩
              have hz80 := vlt hi79
              intro lg81 em82
              have hI83 : I9 lg81 it51 := by rw [em82]; exact i9_l hI72 (by decide) (by decide) (by decide)
              have hK84 : Kd (fun j => j = 491 ∨ j = 492 ∨ j = 493 ∨ j = 494 ∨ j = 501 ∨ j = 502 ∨ j = 503 ∨ j = 504 ∨ j = 505 ∨ j = 506 ∨ j = 507 ∨ j = 508 ∨ j = 509 ∨ j = 510 ∨ j = 511 ∨ j = 512) (fun k => k = 18 ∨ k = 19 ∨ k = 20 ∨ k = 28 ∨ k = 29 ∨ k = 30 ∨ k = 31 ∨ k = 32 ∨ k = 33 ∨ k = 34 ∨ k = 35 ∨ k = 36 ∨ k = 37 ∨ k = 38 ∨ k = 39 ∨ k = 40 ∨ k = 41 ∨ k = 42 ∨ k = 43) lg0 it0 lg81 it51 := by rw [em82]; exact kd_lr (by decide) (by first | decide | (dsimp only; decide) | omega | (dsimp only; omega)) hK73
              have PB85 : B9 lg81 it51 := B9_c PB74 (by rw [em82]; exact u2_row (by decide)) (by rw [em82]; exact u2_row (by decide)) rfl rfl
              try have f86 : (((12 * (x2 - 1)) + 6) : Int32).toInt = ((12 * (x2 - 1))).toInt + 6 := ad32 (a := ((12 * (x2 - 1))).toInt) (b := 6) (rfl) (ti_6) (by omega) (by omega)
              try have f87 : ((((12 * (x2 - 1)) + 6) + x3) : Int32).toInt = (((12 * (x2 - 1)) + 6)).toInt + (x3).toInt := ad32 (a := (((12 * (x2 - 1)) + 6)).toInt) (b := (x3).toInt) (rfl) (rfl) (by omega) (by omega)
              have hi88 : vp_in (((12 * (x2 - 1)) + 6) + x3) 240 := vp_of (by first | omega | ((try simp only [Int32.lt_iff_toInt_lt, Int32.le_iff_toInt_le, ← Int32.toInt_inj, Int32.toInt_toInt64, tiA, tlA]); omega) | (split <;> omega)) (by first | omega | ((try simp only [Int32.lt_iff_toInt_lt, Int32.le_iff_toInt_le, ← Int32.toInt_inj, Int32.toInt_toInt64, tiA, tlA]); omega) | (split <;> omega))
              refine ⟨hi88, ?_⟩
              have hz89 := vlt hi88
              have hi90 : vp_in x3 6 := vp_of (by first | omega | ((try simp only [Int32.lt_iff_toInt_lt, Int32.le_iff_toInt_le, ← Int32.toInt_inj, Int32.toInt_toInt64, tiA, tlA]); omega) | (split <;> omega)) (by first | omega | ((try simp only [Int32.lt_iff_toInt_lt, Int32.le_iff_toInt_le, ← Int32.toInt_inj, Int32.toInt_toInt64, tiA, tlA]); omega) | (split <;> omega))
              refine ⟨hi90, ?_⟩
              have hz91 := vlt hi90
              intro lg92 em93
              have hI94 : I9 lg92 it51 := by rw [em93]; exact i9_d hI83 (by decide) (B9_2 (s := (x2 - 1).toNatClampNeg) (i := (x3).toNatClampNeg) PB85 (by have z1 := cl32 (i := x2 - 1) (by omega); omega) (by have z1 := cl32 (i := x2 - 1) (by omega); omega) (by have z1 := cl32 (i := x3) (by omega); omega) (by have z1 := cl32 (i := x3) (by omega); omega) (by have z1 := cl32 (i := x2 - 1) (by omega); have z2 := cl32 (i := x3) (by omega); have z3 := cl32 (i := (((12 * (x2 - 1)) + 6) + x3)) (by omega); omega))
              have hK95 : Kd (fun j => j = 491 ∨ j = 492 ∨ j = 493 ∨ j = 494 ∨ j = 501 ∨ j = 502 ∨ j = 503 ∨ j = 504 ∨ j = 505 ∨ j = 506 ∨ j = 507 ∨ j = 508 ∨ j = 509 ∨ j = 510 ∨ j = 511 ∨ j = 512) (fun k => k = 18 ∨ k = 19 ∨ k = 20 ∨ k = 28 ∨ k = 29 ∨ k = 30 ∨ k = 31 ∨ k = 32 ∨ k = 33 ∨ k = 34 ∨ k = 35 ∨ k = 36 ∨ k = 37 ∨ k = 38 ∨ k = 39 ∨ k = 40 ∨ k = 41 ∨ k = 42 ∨ k = 43) lg0 it0 lg92 it51 := by rw [em93]; exact kd_lr (by decide) (by first | decide | (dsimp only; decide) | omega | (dsimp only; omega)) hK84
              have PB96 : B9 lg92 it51 := B9_c PB85 (by rw [em93]; exact u2_row (by decide)) (by rw [em93]; exact u2_row (by decide)) rfl rfl
              try have f97 : ((x3 + 1) : Int32).toInt = (x3).toInt + 1 := ad32 (a := (x3).toInt) (b := 1) (rfl) (ti_1) (by omega) (by omega)
              exact ih38 (x2) ((x3 + 1)) _ _ hI94 hK95 (by refine ⟨?_, ?_, ?_, ?_⟩ <;> first | exact Nx_0 | omega | assumption | exact Or.inl rfl | exact Or.inr rfl | exact i8_1 (by assumption) (by assumption) | decide) (by omega)
      have t98 := ti_0
      exact ⟨_, lp38 ((7 - ((0 : Int32)).toInt).toNat + 1) ((it37 489 42)) ((0 : Int32)) _ _ hI38 hK40 (by refine ⟨?_, ?_, ?_, ?_⟩ <;> first | exact Nx_0 | omega | assumption | exact Or.inl rfl | exact Or.inr rfl | exact i8_1 (by assumption) (by assumption) | decide) (Nat.lt_succ_self _)⟩
    · try simp only [Int32.lt_iff_toInt_lt, Int32.le_iff_toInt_le, ← Int32.toInt_inj, Int32.toInt_toInt64, tiA, tlA] at c24
      have lp38 : ∀ (n : Nat) (x2 : Int32) (x3 : Int32) (lg : LGt) (it : ITt), I9 lg it → Kd (fun j => j = 491 ∨ j = 492 ∨ j = 493 ∨ j = 494 ∨ j = 501 ∨ j = 502 ∨ j = 503 ∨ j = 504 ∨ j = 505 ∨ j = 506 ∨ j = 507 ∨ j = 508 ∨ j = 509 ∨ j = 510 ∨ j = 511 ∨ j = 512) (fun k => k = 18 ∨ k = 19 ∨ k = 20 ∨ k = 28 ∨ k = 29 ∨ k = 30 ∨ k = 31 ∨ k = 32 ∨ k = 33 ∨ k = 34 ∨ k = 35 ∨ k = 36 ∨ k = 37 ∨ k = 38 ∨ k = 39 ∨ k = 40 ∨ k = 41 ∨ k = 42 ∨ k = 43) lg0 it0 lg it → ((0 ≤ (x3).toInt) ∧ (B9 lg it) ∧ ((x2).toInt ≤ (it 489 42).toInt) ∧ ((x2).toInt ≤ 20)) → (7 - (x3).toInt).toNat < n → w_X9_go_b38 a1 Pz  n x2 x3 lg it := by
        intro n38
        induction n38 with
        | zero => intro x2 x3 lg it _ _ _ hn; exact absurd hn (Nat.not_lt_zero _)
        | succ n38 ih38 =>
          intro x2 x3 lg101 it102 hI99 hK100 hv hn
          unfold w_X9_go_b38
          obtain ⟨hv38_0, hv38_1, hv38_2, hv38_3⟩ := hv
          have f103 : 0 ≤ (it102 489 0).toInt ∧ (it102 489 0).toInt ≤ 6 := i9_f hI99 (j := 489) (k := 0) rfl
          refine ⟨fun c43 => ?_, fun c43 => ?_⟩
          · try simp only [Int32.lt_iff_toInt_lt, Int32.le_iff_toInt_le, ← Int32.toInt_inj, Int32.toInt_toInt64, tiA, tlA] at c43
            subst hp
            exact ⟨hI99, hK100⟩
          · try simp only [Int32.lt_iff_toInt_lt, Int32.le_iff_toInt_le, ← Int32.toInt_inj, Int32.toInt_toInt64, tiA, tlA] at c43
            refine ⟨fun c47 => ?_, fun c47 => ?_⟩
            · try simp only [Int32.lt_iff_toInt_lt, Int32.le_iff_toInt_le, ← Int32.toInt_inj, Int32.toInt_toInt64, tiA, tlA] at c47
              subst hp
              exact ⟨hI99, hK100⟩
            · try simp only [Int32.lt_iff_toInt_lt, Int32.le_iff_toInt_le, ← Int32.toInt_inj, Int32.toInt_toInt64, tiA, tlA] at c47
              try have f104 : ((x2 - 1) : Int32).toInt = (x2).toInt - 1 := sb32 (a := (x2).toInt) (b := 1) (rfl) (ti_1) (by omega) (by omega)
              try have f105 : ((12 * (x2 - 1)) : Int32).toInt = 12 * ((x2 - 1)).toInt := ml32 (a := 12) (b := ((x2 - 1)).toInt) (ti_12) (rfl) (by omega) (by omega)
              try have f106 : (((12 * (x2 - 1)) + x3) : Int32).toInt = ((12 * (x2 - 1))).toInt + (x3).toInt := ad32 (a := ((12 * (x2 - 1))).toInt) (b := (x3).toInt) (rfl) (rfl) (by omega) (by omega)
              have hi107 : vp_in ((12 * (x2 - 1)) + x3) 240 := vp_of (by first | omega | ((try simp only [Int32.lt_iff_toInt_lt, Int32.le_iff_toInt_le, ← Int32.toInt_inj, Int32.toInt_toInt64, tiA, tlA]); omega) | (split <;> omega)) (by first | omega | ((try simp only [Int32.lt_iff_toInt_lt, Int32.le_iff_toInt_le, ← Int32.toInt_inj, Int32.toInt_toInt64, tiA, tlA]); omega) | (split <;> omega))
              refine ⟨hi107, ?_⟩
              have hz108 := vlt hi107
              have hi109 : vp_in x3 6 := vp_of (by first | omega | ((try simp only [Int32.lt_iff_toInt_lt, Int32.le_iff_toInt_le, ← Int32.toInt_inj, Int32.toInt_toInt64, tiA, tlA]); omega) | (split <;> omega)) (by first | omega | ((try simp only [Int32.lt_iff_toInt_lt, Int32.le_iff_toInt_le, ← Int32.toInt_inj, Int32.toInt_toInt64, tiA, tlA]); omega) | (split <;> omega))
              refine ⟨hi109, ?_⟩
              have hz110 := vlt hi109
              intro lg111 em112
              have hI113 : I9 lg111 it102 := by rw [em112]; exact i9_l hI99 (by decide) (by decide) (by decide)
              have hK114 : Kd (fun j => j = 491 ∨ j = 492 ∨ j = 493 ∨ j = 494 ∨ j = 501 ∨ j = 502 ∨ j = 503 ∨ j = 504 ∨ j = 505 ∨ j = 506 ∨ j = 507 ∨ j = 508 ∨ j = 509 ∨ j = 510 ∨ j = 511 ∨ j = 512) (fun k => k = 18 ∨ k = 19 ∨ k = 20 ∨ k = 28 ∨ k = 29 ∨ k = 30 ∨ k = 31 ∨ k = 32 ∨ k = 33 ∨ k = 34 ∨ k = 35 ∨ k = 36 ∨ k = 37 ∨ k = 38 ∨ k = 39 ∨ k = 40 ∨ k = 41 ∨ k = 42 ∨ k = 43) lg0 it0 lg111 it102 := by rw [em112]; exact kd_lr (by decide) (by first | decide | (dsimp only; decide) | omega | (dsimp only; omega)) hK100
              have PB115 : B9 lg111 it102 := B9_c hv38_1 (by rw [em112]; exact u2_row (by decide)) (by rw [em112]; exact u2_row (by decide)) rfl rfl
              try have f116 : (((12 * (x2 - 1)) + x3) : Int32).toInt = ((12 * (x2 - 1))).toInt + (x3).toInt := ad32 (a := ((12 * (x2 - 1))).toInt) (b := (x3).toInt) (rfl) (rfl) (by omega) (by omega)
              have hi117 : vp_in ((12 * (x2 - 1)) + x3) 240 := vp_of (by first | omega | ((try simp only [Int32.lt_iff_toInt_lt, Int32.le_iff_toInt_le, ← Int32.toInt_inj, Int32.toInt_toInt64, tiA, tlA]); omega) | (split <;> omega)) (by first | omega | ((try simp only [Int32.lt_iff_toInt_lt, Int32.le_iff_toInt_le, ← Int32.toInt_inj, Int32.toInt_toInt64, tiA, tlA]); omega) | (split <;> omega))
              refine ⟨hi117, ?_⟩
              have hz118 := vlt hi117
              have hi119 : vp_in x3 6 := vp_of (by first | omega | ((try simp only [Int32.lt_iff_toInt_lt, Int32.le_iff_toInt_le, ← Int32.toInt_inj, Int32.toInt_toInt64, tiA, tlA]); omega) | (split <;> omega)) (by first | omega | ((try simp only [Int32.lt_iff_toInt_lt, Int32.le_iff_toInt_le, ← Int32.toInt_inj, Int32.toInt_toInt64, tiA, tlA]); omega) | (split <;> omega))
              refine ⟨hi119, ?_⟩
              have hz120 := vlt hi119
              intro lg121 em122
              have hI123 : I9 lg121 it102 := by rw [em122]; exact i9_d hI113 (by decide) (B9_2 (s := (x2 - 1).toNatClampNeg) (i := (x3).toNatClampNeg) PB115 (by have z1 := cl32 (i := x2 - 1) (by omega); omega) (by have z1 := cl32 (i := x2 - 1) (by omega); omega) (by have z1 := cl32 (i := x3) (by omega); omega) (by have z1 := cl32 (i := x3) (by omega); omega) (by have z1 := cl32 (i := x2 - 1) (by omega); have z2 := cl32 (i := x3) (by omega); have z3 := cl32 (i := ((12 * (x2 - 1)) + x3)) (by omega); omega))
              have hK124 : Kd (fun j => j = 491 ∨ j = 492 ∨ j = 493 ∨ j = 494 ∨ j = 501 ∨ j = 502 ∨ j = 503 ∨ j = 504 ∨ j = 505 ∨ j = 506 ∨ j = 507 ∨ j = 508 ∨ j = 509 ∨ j = 510 ∨ j = 511 ∨ j = 512) (fun k => k = 18 ∨ k = 19 ∨ k = 20 ∨ k = 28 ∨ k = 29 ∨ k = 30 ∨ k = 31 ∨ k = 32 ∨ k = 33 ∨ k = 34 ∨ k = 35 ∨ k = 36 ∨ k = 37 ∨ k = 38 ∨ k = 39 ∨ k = 40 ∨ k = 41 ∨ k = 42 ∨ k = 43) lg0 it0 lg121 it102 := by rw [em122]; exact kd_lr (by decide) (by first | decide | (dsimp only; decide) | omega | (dsimp only; omega)) hK114
              have PB125 : B9 lg121 it102 := B9_c PB115 (by rw [em122]; exact u2_row (by decide)) (by rw [em122]; exact u2_row (by decide)) rfl rfl
              try have f126 : (((12 * (x2 - 1)) + 6) : Int32).toInt = ((12 * (x2 - 1))).toInt + 6 := ad32 (a := ((12 * (x2 - 1))).toInt) (b := 6) (rfl) (ti_6) (by omega) (by omega)
              try have f127 : ((((12 * (x2 - 1)) + 6) + x3) : Int32).toInt = (((12 * (x2 - 1)) + 6)).toInt + (x3).toInt := ad32 (a := (((12 * (x2 - 1)) + 6)).toInt) (b := (x3).toInt) (rfl) (rfl) (by omega) (by omega)
              have hi128 : vp_in (((12 * (x2 - 1)) + 6) + x3) 240 := vp_of (by first | omega | ((try simp only [Int32.lt_iff_toInt_lt, Int32.le_iff_toInt_le, ← Int32.toInt_inj, Int32.toInt_toInt64, tiA, tlA]); omega) | (split <;> omega)) (by first | omega | ((try simp only [Int32.lt_iff_toInt_lt, Int32.le_iff_toInt_le, ← Int32.toInt_inj, Int32.toInt_toInt64, tiA, tlA]); omega) | (split <;> omega))
              refine ⟨hi128, ?_⟩
              have hz129 := vlt hi128
              have hi130 : vp_in x3 6 := vp_of (by first | omega | ((try simp only [Int32.lt_iff_toInt_lt, Int32.le_iff_toInt_le, ← Int32.toInt_inj, Int32.toInt_toInt64, tiA, tlA]); omega) | (split <;> omega)) (by first | omega | ((try simp only [Int32.lt_iff_toInt_lt, Int32.le_iff_toInt_le, ← Int32.toInt_inj, Int32.toInt_toInt64, tiA, tlA]); omega) | (split <;> omega))
              refine ⟨hi130, ?_⟩
              have hz131 := vlt hi130
              intro lg132 em133
              have hI134 : I9 lg132 it102 := by rw [em133]; exact i9_l hI123 (by decide) (by decide) (by decide)
              have hK135 : Kd (fun j => j = 491 ∨ j = 492 ∨ j = 493 ∨ j = 494 ∨ j = 501 ∨ j = 502 ∨ j = 503 ∨ j = 504 ∨ j = 505 ∨ j = 506 ∨ j = 507 ∨ j = 508 ∨ j = 509 ∨ j = 510 ∨ j = 511 ∨ j = 512) (fun k => k = 18 ∨ k = 19 ∨ k = 20 ∨ k = 28 ∨ k = 29 ∨ k = 30 ∨ k = 31 ∨ k = 32 ∨ k = 33 ∨ k = 34 ∨ k = 35 ∨ k = 36 ∨ k = 37 ∨ k = 38 ∨ k = 39 ∨ k = 40 ∨ k = 41 ∨ k = 42 ∨ k = 43) lg0 it0 lg132 it102 := by rw [em133]; exact kd_lr (by decide) (by first | decide | (dsimp only; decide) | omega | (dsimp only; omega)) hK124
              have PB136 : B9 lg132 it102 := B9_c PB125 (by rw [em133]; exact u2_row (by decide)) (by rw [em133]; exact u2_row (by decide)) rfl rfl
              try have f137 : (((12 * (x2 - 1)) + 6) : Int32).toInt = ((12 * (x2 - 1))).toInt + 6 := ad32 (a := ((12 * (x2 - 1))).toInt) (b := 6) (rfl) (ti_6) (by omega) (by omega)
              try have f138 : ((((12 * (x2 - 1)) + 6) + x3) : Int32).toInt = (((12 * (x2 - 1)) + 6)).toInt + (x3).toInt := ad32 (a := (((12 * (x2 - 1)) + 6)).toInt) (b := (x3).toInt) (rfl) (rfl) (by omega) (by omega)
              have hi139 : vp_in (((12 * (x2 - 1)) + 6) + x3) 240 := vp_of (by first | omega | ((try simp only [Int32.lt_iff_toInt_lt, Int32.le_iff_toInt_le, ← Int32.toInt_inj, Int32.toInt_toInt64, tiA, tlA]); omega) | (split <;> omega)) (by first | omega | ((try simp only [Int32.lt_iff_toInt_lt, Int32.le_iff_toInt_le, ← Int32.toInt_inj, Int32.toInt_toInt64, tiA, tlA]); omega) | (split <;> omega))
              refine ⟨hi139, ?_⟩
              have hz140 := vlt hi139
              have hi141 : vp_in x3 6 := vp_of (by first | omega | ((try simp only [Int32.lt_iff_toInt_lt, Int32.le_iff_toInt_le, ← Int32.toInt_inj, Int32.toInt_toInt64, tiA, tlA]); omega) | (split <;> omega)) (by first | omega | ((try simp only [Int32.lt_iff_toInt_lt, Int32.le_iff_toInt_le, ← Int32.toInt_inj, Int32.toInt_toInt64, tiA, tlA]); omega) | (split <;> omega))
              refine ⟨hi141, ?_⟩
              have hz142 := vlt hi141
              intro lg143 em144
              have hI145 : I9 lg143 it102 := by rw [em144]; exact i9_d hI134 (by decide) (B9_2 (s := (x2 - 1).toNatClampNeg) (i := (x3).toNatClampNeg) PB136 (by have z1 := cl32 (i := x2 - 1) (by omega); omega) (by have z1 := cl32 (i := x2 - 1) (by omega); omega) (by have z1 := cl32 (i := x3) (by omega); omega) (by have z1 := cl32 (i := x3) (by omega); omega) (by have z1 := cl32 (i := x2 - 1) (by omega); have z2 := cl32 (i := x3) (by omega); have z3 := cl32 (i := (((12 * (x2 - 1)) + 6) + x3)) (by omega); omega))
              have hK146 : Kd (fun j => j = 491 ∨ j = 492 ∨ j = 493 ∨ j = 494 ∨ j = 501 ∨ j = 502 ∨ j = 503 ∨ j = 504 ∨ j = 505 ∨ j = 506 ∨ j = 507 ∨ j = 508 ∨ j = 509 ∨ j = 510 ∨ j = 511 ∨ j = 512) (fun k => k = 18 ∨ k = 19 ∨ k = 20 ∨ k = 28 ∨ k = 29 ∨ k = 30 ∨ k = 31 ∨ k = 32 ∨ k = 33 ∨ k = 34 ∨ k = 35 ∨ k = 36 ∨ k = 37 ∨ k = 38 ∨ k = 39 ∨ k = 40 ∨ k = 41 ∨ k = 42 ∨ k = 43) lg0 it0 lg143 it102 := by rw [em144]; exact kd_lr (by decide) (by first | decide | (dsimp only; decide) | omega | (dsimp only; omega)) hK135
              have PB147 : B9 lg143 it102 := B9_c PB136 (by rw [em144]; exact u2_row (by decide)) (by rw [em144]; exact u2_row (by decide)) rfl rfl
              try have f148 : ((x3 + 1) : Int32).toInt = (x3).toInt + 1 := ad32 (a := (x3).toInt) (b := 1) (rfl) (ti_1) (by omega) (by omega)
              exact ih38 (x2) ((x3 + 1)) _ _ hI145 hK146 (by refine ⟨?_, ?_, ?_, ?_⟩ <;> first | exact Nx_0 | omega | assumption | exact Or.inl rfl | exact Or.inr rfl | exact i8_1 (by assumption) (by assumption) | decide) (by omega)
      have t149 := ti_0
      exact ⟨_, lp38 ((7 - ((0 : Int32)).toInt).toNat + 1) (a1) ((0 : Int32)) _ _ hI38 hK40 (by refine ⟨?_, ?_, ?_, ?_⟩ <;> first | exact Nx_0 | omega | assumption | exact Or.inl rfl | exact Or.inr rfl | exact i8_1 (by assumption) (by assumption) | decide) (Nat.lt_succ_self _)⟩
  · try simp only [Int32.lt_iff_toInt_lt, Int32.le_iff_toInt_le, ← Int32.toInt_inj, Int32.toInt_toInt64, tiA, tlA] at c9
    subst hp
    exact ⟨hI, hKr⟩
set_option maxRecDepth 100000 in
theorem s_X9_feed (a1 : Int32) {lg0 : LGt} {it0 : ITt} (hI : I9 lg0 it0) : w_X9_feed a1 (fun (v : Int32) (lg' : LGt) (it' : ITt) => (I9 lg' it' ∧ Kd (fun j => j = 513) (fun k => k = 50) lg0 it0 lg' it'))  lg0 it0 := by
  have hb_a1 := And.intro a1.le_toInt a1.toInt_lt
  have hKr : Kd (fun j => j = 513) (fun k => k = 50) lg0 it0 lg0 it0 := kd_r
  generalize hp : (fun (v : Int32) (lg' : LGt) (it' : ITt) => (I9 lg' it' ∧ Kd (fun j => j = 513) (fun k => k = 50) lg0 it0 lg' it')) = Pz
  unfold w_X9_feed
  refine ⟨fun c9 => ?_, fun c9 => ?_⟩
  · try simp only [Int32.lt_iff_toInt_lt, Int32.le_iff_toInt_le, ← Int32.toInt_inj, Int32.toInt_toInt64, tiA, tlA] at c9
    have f10 : 0 ≤ (it0 489 50).toInt ∧ (it0 489 50).toInt ≤ 100 := i9_f hI (j := 489) (k := 50) rfl
    refine ⟨fun c21 => ?_, fun c21 => ?_⟩
    · try simp only [Int32.lt_iff_toInt_lt, Int32.le_iff_toInt_le, ← Int32.toInt_inj, Int32.toInt_toInt64, tiA, tlA] at c21
      have hi11 : vp_in (it0 489 50) 100 := vp_of (by first | omega | ((try simp only [Int32.lt_iff_toInt_lt, Int32.le_iff_toInt_le, ← Int32.toInt_inj, Int32.toInt_toInt64, tiA, tlA]); omega) | (split <;> omega)) (by first | omega | ((try simp only [Int32.lt_iff_toInt_lt, Int32.le_iff_toInt_le, ← Int32.toInt_inj, Int32.toInt_toInt64, tiA, tlA]); omega) | (split <;> omega))
      refine ⟨hi11, ?_⟩
      have hz12 := vlt hi11
      intro it13 em14
      have hI15 : I9 lg0 it13 := by rw [em14]; exact i9_u hI (ok9_n rfl) (by decide) (fun q => absurd q (by decide))
      have hK16 : Kd (fun j => j = 513) (fun k => k = 50) lg0 it0 lg0 it13 := by rw [em14]; exact kd_ur (by decide) (by first | decide | (dsimp only; decide) | omega | (dsimp only; omega)) hKr
      have e17 : (it13 489 50).toInt = (it0 489 50).toInt := by rw [em14]; exact congrArg Int32.toInt (congrFun (u2_row (by decide)) 50)
      have f18 : 0 ≤ (it13 489 50).toInt ∧ (it13 489 50).toInt ≤ 100 := i9_f hI15 (j := 489) (k := 50) rfl
      try have f19 : (((it13 489 50) + 1) : Int32).toInt = ((it13 489 50)).toInt + 1 := ad32 (a := ((it13 489 50)).toInt) (b := 1) (rfl) (ti_1) (by omega) (by omega)
      intro it20 em21
      have hI22 : I9 lg0 it20 := by rw [em21]; exact i9_u hI15 (ok9_b (a := 0) (b := 100) rfl (by first | decide | ((try simp only [Int32.lt_iff_toInt_lt, Int32.le_iff_toInt_le, ← Int32.toInt_inj, Int32.toInt_toInt64, tiA, tlA]); omega) | (split <;> (try simp only [Int32.lt_iff_toInt_lt, Int32.le_iff_toInt_le, ← Int32.toInt_inj, Int32.toInt_toInt64, tiA, tlA]) <;> omega))) (by decide) (fun _ => by decide)
      have hK23 : Kd (fun j => j = 513) (fun k => k = 50) lg0 it0 lg0 it20 := by rw [em21]; exact kd_uf (by first | decide | (dsimp only; decide) | omega | (dsimp only; omega)) hK16
      have e25 : (it20 489 50).toInt = (((it13 489 50) + 1) : Int32).toInt := by rw [em21]; exact congrArg Int32.toInt u2_eq
      have f26 : 0 ≤ (it20 489 50).toInt ∧ (it20 489 50).toInt ≤ 100 := i9_f hI22 (j := 489) (k := 50) rfl
      subst hp
      exact ⟨hI22, hK23⟩
    · try simp only [Int32.lt_iff_toInt_lt, Int32.le_iff_toInt_le, ← Int32.toInt_inj, Int32.toInt_toInt64, tiA, tlA] at c21
      subst hp
      exact ⟨hI, hKr⟩
  · try simp only [Int32.lt_iff_toInt_lt, Int32.le_iff_toInt_le, ← Int32.toInt_inj, Int32.toInt_toInt64, tiA, tlA] at c9
    subst hp
    exact ⟨hI, hKr⟩
set_option maxRecDepth 100000 in
theorem s_X9_isSign (a1 : Int32) {lg0 : LGt} {it0 : ITt} (hI : I9 lg0 it0) (hat : (it0 489 51).toInt ≤ (it0 489 50).toInt) : w_X9_isSign a1 (fun (v : Int32) (lg' : LGt) (it' : ITt) => (I9 lg' it' ∧ Kd (fun j => False) (fun k => k = 51) lg0 it0 lg' it') ∧ ((v = 0 ∨ v = 1) ∧ (it' 489 51).toInt ≤ (it' 489 50).toInt))  lg0 it0 := by
  have hb_a1 := And.intro a1.le_toInt a1.toInt_lt
  have hKr : Kd (fun j => False) (fun k => k = 51) lg0 it0 lg0 it0 := kd_r
  generalize hp : (fun (v : Int32) (lg' : LGt) (it' : ITt) => (I9 lg' it' ∧ Kd (fun j => False) (fun k => k = 51) lg0 it0 lg' it') ∧ ((v = 0 ∨ v = 1) ∧ (it' 489 51).toInt ≤ (it' 489 50).toInt)) = Pz
  unfold w_X9_isSign
  have f9 : 0 ≤ (it0 489 51).toInt ∧ (it0 489 51).toInt ≤ 100 := i9_f hI (j := 489) (k := 51) rfl
  have f10 : 0 ≤ (it0 489 50).toInt ∧ (it0 489 50).toInt ≤ 100 := i9_f hI (j := 489) (k := 50) rfl
  refine ⟨fun c8 => ?_, fun c8 => ?_⟩
  · try simp only [Int32.lt_iff_toInt_lt, Int32.le_iff_toInt_le, ← Int32.toInt_inj, Int32.toInt_toInt64, tiA, tlA] at c8
    subst hp
    exact ⟨⟨hI, hKr⟩, by first | omega | (constructor <;> first | omega | exact Or.inl rfl | exact Or.inr rfl | assumption)⟩
  · try simp only [Int32.lt_iff_toInt_lt, Int32.le_iff_toInt_le, ← Int32.toInt_inj, Int32.toInt_toInt64, tiA, tlA] at c8
    have hi11 : vp_in (it0 489 51) 100 := vp_of (by first | omega | ((try simp only [Int32.lt_iff_toInt_lt, Int32.le_iff_toInt_le, ← Int32.toInt_inj, Int32.toInt_toInt64, tiA, tlA]); omega) | (split <;> omega)) (by first | omega | ((try simp only [Int32.lt_iff_toInt_lt, Int32.le_iff_toInt_le, ← Int32.toInt_inj, Int32.toInt_toInt64, tiA, tlA]); omega) | (split <;> omega))
    refine ⟨hi11, ?_⟩
    have hz12 := vlt hi11
    refine ⟨fun c21 => ?_, fun c21 => ?_⟩
    · try simp only [Int32.lt_iff_toInt_lt, Int32.le_iff_toInt_le, ← Int32.toInt_inj, Int32.toInt_toInt64, tiA, tlA] at c21
      try have f13 : (((it0 489 51) + 1) : Int32).toInt = ((it0 489 51)).toInt + 1 := ad32 (a := ((it0 489 51)).toInt) (b := 1) (rfl) (ti_1) (by omega) (by omega)
      intro it14 em15
      have hI16 : I9 lg0 it14 := by rw [em15]; exact i9_u hI (ok9_b (a := 0) (b := 100) rfl (by first | decide | ((try simp only [Int32.lt_iff_toInt_lt, Int32.le_iff_toInt_le, ← Int32.toInt_inj, Int32.toInt_toInt64, tiA, tlA]); omega) | (split <;> (try simp only [Int32.lt_iff_toInt_lt, Int32.le_iff_toInt_le, ← Int32.toInt_inj, Int32.toInt_toInt64, tiA, tlA]) <;> omega))) (by decide) (fun _ => by decide)
      have hK17 : Kd (fun j => False) (fun k => k = 51) lg0 it0 lg0 it14 := by rw [em15]; exact kd_uf (by first | decide | (dsimp only; decide) | omega | (dsimp only; omega)) hKr
      have e18 : (it14 489 50).toInt = (it0 489 50).toInt := by rw [em15]; exact congrArg Int32.toInt (u2_ne (by decide))
      have e20 : (it14 489 51).toInt = (((it0 489 51) + 1) : Int32).toInt := by rw [em15]; exact congrArg Int32.toInt u2_eq
      subst hp
      exact ⟨⟨hI16, hK17⟩, by first | omega | (constructor <;> first | omega | exact Or.inl rfl | exact Or.inr rfl | assumption)⟩
    · try simp only [Int32.lt_iff_toInt_lt, Int32.le_iff_toInt_le, ← Int32.toInt_inj, Int32.toInt_toInt64, tiA, tlA] at c21
      subst hp
      exact ⟨⟨hI, hKr⟩, by first | omega | (constructor <;> first | omega | exact Or.inl rfl | exact Or.inr rfl | assumption)⟩
set_option maxRecDepth 100000 in
theorem s_X9_number (a1 : Int32) {lg0 : LGt} {it0 : ITt} (hI : I9 lg0 it0) (hm : a1.toInt ≤ 2) (hat : (it0 489 51).toInt ≤ (it0 489 50).toInt) : w_X9_number a1 (fun (v : Int32) (lg' : LGt) (it' : ITt) => (I9 lg' it' ∧ Kd (fun j => False) (fun k => k = 51) lg0 it0 lg' it') ∧ (it' 489 51).toInt ≤ (it' 489 50).toInt)  lg0 it0 := by
  have hb_a1 := And.intro a1.le_toInt a1.toInt_lt
  have hKr : Kd (fun j => False) (fun k => k = 51) lg0 it0 lg0 it0 := kd_r
  generalize hp : (fun (v : Int32) (lg' : LGt) (it' : ITt) => (I9 lg' it' ∧ Kd (fun j => False) (fun k => k = 51) lg0 it0 lg' it') ∧ (it' 489 51).toInt ≤ (it' 489 50).toInt) = Pz
  unfold w_X9_number
  have lp4 : ∀ (n : Nat) (x2 : Int32) (x3 : Int32) (lg : LGt) (it : ITt), I9 lg it → Kd (fun j => False) (fun k => k = 51) lg0 it0 lg it → ((0 ≤ (x3).toInt) ∧ ((it 489 51).toInt ≤ (it 489 50).toInt)) → (3 - (x3).toInt).toNat < n → w_X9_number_b4 a1 Pz  n x2 x3 lg it := by
    intro n4
    induction n4 with
    | zero => intro x2 x3 lg it _ _ _ hn; exact absurd hn (Nat.not_lt_zero _)
    | succ n4 ih4 =>
      intro x2 x3 lg17 it18 hI15 hK16 hv hn
      unfold w_X9_number_b4
      obtain ⟨hv4_0, hv4_1⟩ := hv
      refine ⟨fun c6 => ?_, fun c6 => ?_⟩
      · try simp only [Int32.lt_iff_toInt_lt, Int32.le_iff_toInt_le, ← Int32.toInt_inj, Int32.toInt_toInt64, tiA, tlA] at c6
        subst hp
        exact ⟨⟨hI15, hK16⟩, by first | omega | (constructor <;> first | omega | exact Or.inl rfl | exact Or.inr rfl | assumption)⟩
      · try simp only [Int32.lt_iff_toInt_lt, Int32.le_iff_toInt_le, ← Int32.toInt_inj, Int32.toInt_toInt64, tiA, tlA] at c6
        have f19 : 0 ≤ (it18 489 51).toInt ∧ (it18 489 51).toInt ≤ 100 := i9_f hI15 (j := 489) (k := 51) rfl
        have f20 : 0 ≤ (it18 489 50).toInt ∧ (it18 489 50).toInt ≤ 100 := i9_f hI15 (j := 489) (k := 50) rfl
        refine ⟨fun c17 => ?_, fun c17 => ?_⟩
        · try simp only [Int32.lt_iff_toInt_lt, Int32.le_iff_toInt_le, ← Int32.toInt_inj, Int32.toInt_toInt64, tiA, tlA] at c17
          subst hp
          exact ⟨⟨hI15, hK16⟩, by first | omega | (constructor <;> first | omega | exact Or.inl rfl | exact Or.inr rfl | assumption)⟩
        · try simp only [Int32.lt_iff_toInt_lt, Int32.le_iff_toInt_le, ← Int32.toInt_inj, Int32.toInt_toInt64, tiA, tlA] at c17
          have hi21 : vp_in (it18 489 51) 100 := vp_of (by first | omega | ((try simp only [Int32.lt_iff_toInt_lt, Int32.le_iff_toInt_le, ← Int32.toInt_inj, Int32.toInt_toInt64, tiA, tlA]); omega) | (split <;> omega)) (by first | omega | ((try simp only [Int32.lt_iff_toInt_lt, Int32.le_iff_toInt_le, ← Int32.toInt_inj, Int32.toInt_toInt64, tiA, tlA]); omega) | (split <;> omega))
          refine ⟨hi21, ?_⟩
          have hz22 := vlt hi21
          refine ⟨fun c39 => ?_, fun c39 => ?_⟩
          · try simp only [Int32.lt_iff_toInt_lt, Int32.le_iff_toInt_le, ← Int32.toInt_inj, Int32.toInt_toInt64, tiA, tlA] at c39
            subst hp
            exact ⟨⟨hI15, hK16⟩, by first | omega | (constructor <;> first | omega | exact Or.inl rfl | exact Or.inr rfl | assumption)⟩
          · try simp only [Int32.lt_iff_toInt_lt, Int32.le_iff_toInt_le, ← Int32.toInt_inj, Int32.toInt_toInt64, tiA, tlA] at c39
            refine ⟨fun c43 => ?_, fun c43 => ?_⟩
            · try simp only [Int32.lt_iff_toInt_lt, Int32.le_iff_toInt_le, ← Int32.toInt_inj, Int32.toInt_toInt64, tiA, tlA] at c43
              try have f23 : ((10 * x2) : Int32).toInt = 10 * (x2).toInt := ml32 (a := 10) (b := (x2).toInt) (ti_10) (rfl) (by omega) (by omega)
              unfold w_X9_number_b54
              have hi24 : vp_in (it18 489 51) 100 := vp_of (by first | omega | ((try simp only [Int32.lt_iff_toInt_lt, Int32.le_iff_toInt_le, ← Int32.toInt_inj, Int32.toInt_toInt64, tiA, tlA]); omega) | (split <;> omega)) (by first | omega | ((try simp only [Int32.lt_iff_toInt_lt, Int32.le_iff_toInt_le, ← Int32.toInt_inj, Int32.toInt_toInt64, tiA, tlA]); omega) | (split <;> omega))
              refine ⟨hi24, ?_⟩
              have hz25 := vlt hi24
              try have f26 : (((10 * x2) + (it18 513 (it18 489 51).toNatClampNeg)) : Int32).toInt = ((10 * x2)).toInt + ((it18 513 (it18 489 51).toNatClampNeg)).toInt := ad32 (a := ((10 * x2)).toInt) (b := ((it18 513 (it18 489 51).toNatClampNeg)).toInt) (rfl) (rfl) (by omega) (by omega)
              try have f27 : ((((10 * x2) + (it18 513 (it18 489 51).toNatClampNeg)) - 48) : Int32).toInt = (((10 * x2) + (it18 513 (it18 489 51).toNatClampNeg))).toInt - 48 := sb32 (a := (((10 * x2) + (it18 513 (it18 489 51).toNatClampNeg))).toInt) (b := 48) (rfl) (ti_48) (by omega) (by omega)
              try have f28 : (((it18 489 51) + 1) : Int32).toInt = ((it18 489 51)).toInt + 1 := ad32 (a := ((it18 489 51)).toInt) (b := 1) (rfl) (ti_1) (by omega) (by omega)
              intro it29 em30
              have hI31 : I9 lg17 it29 := by rw [em30]; exact i9_u hI15 (ok9_b (a := 0) (b := 100) rfl (by first | decide | ((try simp only [Int32.lt_iff_toInt_lt, Int32.le_iff_toInt_le, ← Int32.toInt_inj, Int32.toInt_toInt64, tiA, tlA]); omega) | (split <;> (try simp only [Int32.lt_iff_toInt_lt, Int32.le_iff_toInt_le, ← Int32.toInt_inj, Int32.toInt_toInt64, tiA, tlA]) <;> omega))) (by decide) (fun _ => by decide)
              have hK32 : Kd (fun j => False) (fun k => k = 51) lg0 it0 lg17 it29 := by rw [em30]; exact kd_uf (by first | decide | (dsimp only; decide) | omega | (dsimp only; omega)) hK16
              have e33 : (it29 489 50).toInt = (it18 489 50).toInt := by rw [em30]; exact congrArg Int32.toInt (u2_ne (by decide))
              have e35 : (it29 489 51).toInt = (((it18 489 51) + 1) : Int32).toInt := by rw [em30]; exact congrArg Int32.toInt u2_eq
              try have f36 : ((x3 + 1) : Int32).toInt = (x3).toInt + 1 := ad32 (a := (x3).toInt) (b := 1) (rfl) (ti_1) (by omega) (by omega)
              exact ih4 ((((10 * x2) + (it18 513 (it18 489 51).toNatClampNeg)) - 48)) ((x3 + 1)) _ _ hI31 hK32 (by refine ⟨?_, ?_⟩ <;> first | exact Nx_0 | omega | assumption | exact Or.inl rfl | exact Or.inr rfl | exact i8_1 (by assumption) (by assumption) | decide) (by omega)
            · try simp only [Int32.lt_iff_toInt_lt, Int32.le_iff_toInt_le, ← Int32.toInt_inj, Int32.toInt_toInt64, tiA, tlA] at c43
              unfold w_X9_number_b54
              have hi37 : vp_in (it18 489 51) 100 := vp_of (by first | omega | ((try simp only [Int32.lt_iff_toInt_lt, Int32.le_iff_toInt_le, ← Int32.toInt_inj, Int32.toInt_toInt64, tiA, tlA]); omega) | (split <;> omega)) (by first | omega | ((try simp only [Int32.lt_iff_toInt_lt, Int32.le_iff_toInt_le, ← Int32.toInt_inj, Int32.toInt_toInt64, tiA, tlA]); omega) | (split <;> omega))
              refine ⟨hi37, ?_⟩
              have hz38 := vlt hi37
              try have f39 : (((0 : Int32) + (it18 513 (it18 489 51).toNatClampNeg)) : Int32).toInt = ((0 : Int32)).toInt + ((it18 513 (it18 489 51).toNatClampNeg)).toInt := ad32 (a := ((0 : Int32)).toInt) (b := ((it18 513 (it18 489 51).toNatClampNeg)).toInt) (rfl) (rfl) (by omega) (by omega)
              try have f40 : ((((0 : Int32) + (it18 513 (it18 489 51).toNatClampNeg)) - 48) : Int32).toInt = (((0 : Int32) + (it18 513 (it18 489 51).toNatClampNeg))).toInt - 48 := sb32 (a := (((0 : Int32) + (it18 513 (it18 489 51).toNatClampNeg))).toInt) (b := 48) (rfl) (ti_48) (by omega) (by omega)
              try have f41 : (((it18 489 51) + 1) : Int32).toInt = ((it18 489 51)).toInt + 1 := ad32 (a := ((it18 489 51)).toInt) (b := 1) (rfl) (ti_1) (by omega) (by omega)
              intro it42 em43
              have hI44 : I9 lg17 it42 := by rw [em43]; exact i9_u hI15 (ok9_b (a := 0) (b := 100) rfl (by first | decide | ((try simp only [Int32.lt_iff_toInt_lt, Int32.le_iff_toInt_le, ← Int32.toInt_inj, Int32.toInt_toInt64, tiA, tlA]); omega) | (split <;> (try simp only [Int32.lt_iff_toInt_lt, Int32.le_iff_toInt_le, ← Int32.toInt_inj, Int32.toInt_toInt64, tiA, tlA]) <;> omega))) (by decide) (fun _ => by decide)
              have hK45 : Kd (fun j => False) (fun k => k = 51) lg0 it0 lg17 it42 := by rw [em43]; exact kd_uf (by first | decide | (dsimp only; decide) | omega | (dsimp only; omega)) hK16
              have e46 : (it42 489 50).toInt = (it18 489 50).toInt := by rw [em43]; exact congrArg Int32.toInt (u2_ne (by decide))
              have e48 : (it42 489 51).toInt = (((it18 489 51) + 1) : Int32).toInt := by rw [em43]; exact congrArg Int32.toInt u2_eq
              try have f49 : ((x3 + 1) : Int32).toInt = (x3).toInt + 1 := ad32 (a := (x3).toInt) (b := 1) (rfl) (ti_1) (by omega) (by omega)
              exact ih4 ((((0 : Int32) + (it18 513 (it18 489 51).toNatClampNeg)) - 48)) ((x3 + 1)) _ _ hI44 hK45 (by refine ⟨?_, ?_⟩ <;> first | exact Nx_0 | omega | assumption | exact Or.inl rfl | exact Or.inr rfl | exact i8_1 (by assumption) (by assumption) | decide) (by omega)
  have t50 := ti_m1
  have t51 := ti_0
  exact ⟨_, lp4 ((3 - ((0 : Int32)).toInt).toNat + 1) (((-1) : Int32)) ((0 : Int32)) _ _ hI hKr (by refine ⟨?_, ?_⟩ <;> first | exact Nx_0 | omega | assumption | exact Or.inl rfl | exact Or.inr rfl | exact i8_1 (by assumption) (by assumption) | decide) (Nat.lt_succ_self _)⟩
set_option maxRecDepth 100000 in
theorem s_X9_clause (a1 : Int32) {lg0 : LGt} {it0 : ITt} (hI : I9 lg0 it0) (hk : 0 ≤ a1.toInt ∧ a1.toInt < 12) (hat : (it0 489 51).toInt ≤ (it0 489 50).toInt) : w_X9_clause a1 (fun (v : Int32) (lg' : LGt) (it' : ITt) => (I9 lg' it' ∧ Kd (fun j => j = 514 ∨ j = 515 ∨ j = 516 ∨ j = 517) (fun k => k = 51) lg0 it0 lg' it') ∧ ((v = 0 ∨ v = 1) ∧ (it' 489 51).toInt ≤ (it' 489 50).toInt))  lg0 it0 := by
  have hb_a1 := And.intro a1.le_toInt a1.toInt_lt
  have hKr : Kd (fun j => j = 514 ∨ j = 515 ∨ j = 516 ∨ j = 517) (fun k => k = 51) lg0 it0 lg0 it0 := kd_r
  generalize hp : (fun (v : Int32) (lg' : LGt) (it' : ITt) => (I9 lg' it' ∧ Kd (fun j => j = 514 ∨ j = 515 ∨ j = 516 ∨ j = 517) (fun k => k = 51) lg0 it0 lg' it') ∧ ((v = 0 ∨ v = 1) ∧ (it' 489 51).toInt ≤ (it' 489 50).toInt)) = Pz
  have bl127 : ∀ (x2 : Int32) (s0 : Int32) (s2 : Int32) (lg : LGt) (it : ITt), I9 lg it → Kd (fun j => j = 514 ∨ j = 515 ∨ j = 516 ∨ j = 517) (fun k => k = 51) lg0 it0 lg it → (((s0).toInt ≤ 2) ∧ (0 ≤ (s2).toInt) ∧ ((s2).toInt < 12) ∧ ((it 489 51).toInt ≤ (it 489 50).toInt)) → w_X9_clause_b127 a1 Pz  x2 s0 s2 lg it := by
    intro x2 s0 s2 lg123 it124 hI121 hK122 hv
    unfold w_X9_clause_b127
    obtain ⟨hv127_0, hv127_1, hv127_2, hv127_3⟩ := hv
    refine ⟨_, s_X9_number  (s0) hI121 (by first | decide | omega) (by omega), ?_⟩
    intro v130 lg125 it126 hq
    obtain ⟨⟨hI127, hK128⟩, ha131⟩ := hq
    have hK129 : Kd (fun j => j = 514 ∨ j = 515 ∨ j = 516 ∨ j = 517) (fun k => k = 51) lg0 it0 lg125 it126 := kd_t hK122 hK128 (fun j hj => by first | omega | exact False.elim hj | (dsimp only at hj ⊢; omega)) (fun j hj => by first | omega | exact False.elim hj | (dsimp only at hj ⊢; omega))
    try have e132 : (it126 489 50).toInt = (it124 489 50).toInt := congrArg Int32.toInt (hK128.2 50 (by first | decide | (dsimp only; decide) | omega | (dsimp only; omega))).2
    try have e133 : (it126 489 51).toInt = (it124 489 51).toInt := congrArg Int32.toInt (hK128.2 51 (by first | decide | (dsimp only; decide) | omega | (dsimp only; omega))).2
    have hi134 : vp_in s2 12 := vp_of (by first | omega | ((try simp only [Int32.lt_iff_toInt_lt, Int32.le_iff_toInt_le, ← Int32.toInt_inj, Int32.toInt_toInt64, tiA, tlA]); omega) | (split <;> omega)) (by first | omega | ((try simp only [Int32.lt_iff_toInt_lt, Int32.le_iff_toInt_le, ← Int32.toInt_inj, Int32.toInt_toInt64, tiA, tlA]); omega) | (split <;> omega))
    refine ⟨hi134, ?_⟩
    have hz135 := vlt hi134
    intro it136 em137
    have hI138 : I9 lg125 it136 := by rw [em137]; exact i9_u hI127 (ok9_n rfl) (by decide) (fun q => absurd q (by decide))
    have hK139 : Kd (fun j => j = 514 ∨ j = 515 ∨ j = 516 ∨ j = 517) (fun k => k = 51) lg0 it0 lg125 it136 := by rw [em137]; exact kd_ur (by decide) (by first | decide | (dsimp only; decide) | omega | (dsimp only; omega)) hK129
    have e140 : (it136 489 50).toInt = (it126 489 50).toInt := by rw [em137]; exact congrArg Int32.toInt (congrFun (u2_row (by decide)) 50)
    have e141 : (it136 489 51).toInt = (it126 489 51).toInt := by rw [em137]; exact congrArg Int32.toInt (congrFun (u2_row (by decide)) 51)
    have hi142 : vp_in a1 12 := vp_of (by first | omega | ((try simp only [Int32.lt_iff_toInt_lt, Int32.le_iff_toInt_le, ← Int32.toInt_inj, Int32.toInt_toInt64, tiA, tlA]); omega) | (split <;> omega)) (by first | omega | ((try simp only [Int32.lt_iff_toInt_lt, Int32.le_iff_toInt_le, ← Int32.toInt_inj, Int32.toInt_toInt64, tiA, tlA]); omega) | (split <;> omega))
    refine ⟨hi142, ?_⟩
    have hz143 := vlt hi142
    refine ⟨fun c137 => ?_, fun c137 => ?_⟩
    · try simp only [Int32.lt_iff_toInt_lt, Int32.le_iff_toInt_le, ← Int32.toInt_inj, Int32.toInt_toInt64, tiA, tlA] at c137
      refine ⟨fun c145 => ?_, fun c145 => ?_⟩
      · try simp only [Int32.lt_iff_toInt_lt, Int32.le_iff_toInt_le, ← Int32.toInt_inj, Int32.toInt_toInt64, tiA, tlA] at c145
        refine ⟨_, s_X9_isSign  ((44 : Int32)) hI138 (by omega), ?_⟩
        intro v149 lg144 it145 hq
        obtain ⟨⟨hI146, hK147⟩, ha150⟩ := hq
        have hK148 : Kd (fun j => j = 514 ∨ j = 515 ∨ j = 516 ∨ j = 517) (fun k => k = 51) lg0 it0 lg144 it145 := kd_t hK139 hK147 (fun j hj => by first | omega | exact False.elim hj | (dsimp only at hj ⊢; omega)) (fun j hj => by first | omega | exact False.elim hj | (dsimp only at hj ⊢; omega))
        try have e151 : (it145 489 50).toInt = (it136 489 50).toInt := congrArg Int32.toInt (hK147.2 50 (by first | decide | (dsimp only; decide) | omega | (dsimp only; omega))).2
        try have e152 : (it145 489 51).toInt = (it136 489 51).toInt := congrArg Int32.toInt (hK147.2 51 (by first | decide | (dsimp only; decide) | omega | (dsimp only; omega))).2
        have hb153 := ha150.1
        refine ⟨fun c156 => ?_, fun c156 => ?_⟩
        · try simp only [Int32.lt_iff_toInt_lt, Int32.le_iff_toInt_le, ← Int32.toInt_inj, Int32.toInt_toInt64, tiA, tlA] at c156
          refine ⟨_, s_X9_number  ((1 : Int32)) hI146 (by first | decide | omega) (by omega), ?_⟩
          intro v159 lg154 it155 hq
          obtain ⟨⟨hI156, hK157⟩, ha160⟩ := hq
          have hK158 : Kd (fun j => j = 514 ∨ j = 515 ∨ j = 516 ∨ j = 517) (fun k => k = 51) lg0 it0 lg154 it155 := kd_t hK148 hK157 (fun j hj => by first | omega | exact False.elim hj | (dsimp only at hj ⊢; omega)) (fun j hj => by first | omega | exact False.elim hj | (dsimp only at hj ⊢; omega))
          try have e161 : (it155 489 50).toInt = (it145 489 50).toInt := congrArg Int32.toInt (hK157.2 50 (by first | decide | (dsimp only; decide) | omega | (dsimp only; omega))).2
          try have e162 : (it155 489 51).toInt = (it145 489 51).toInt := congrArg Int32.toInt (hK157.2 51 (by first | decide | (dsimp only; decide) | omega | (dsimp only; omega))).2
          have hi163 : vp_in a1 12 := vp_of (by first | omega | ((try simp only [Int32.lt_iff_toInt_lt, Int32.le_iff_toInt_le, ← Int32.toInt_inj, Int32.toInt_toInt64, tiA, tlA]); omega) | (split <;> omega)) (by first | omega | ((try simp only [Int32.lt_iff_toInt_lt, Int32.le_iff_toInt_le, ← Int32.toInt_inj, Int32.toInt_toInt64, tiA, tlA]); omega) | (split <;> omega))
          refine ⟨hi163, ?_⟩
          have hz164 := vlt hi163
          intro it165 em166
          have hI167 : I9 lg154 it165 := by rw [em166]; exact i9_u hI156 (ok9_n rfl) (by decide) (fun q => absurd q (by decide))
          have hK168 : Kd (fun j => j = 514 ∨ j = 515 ∨ j = 516 ∨ j = 517) (fun k => k = 51) lg0 it0 lg154 it165 := by rw [em166]; exact kd_ur (by decide) (by first | decide | (dsimp only; decide) | omega | (dsimp only; omega)) hK158
          have e169 : (it165 489 50).toInt = (it155 489 50).toInt := by rw [em166]; exact congrArg Int32.toInt (congrFun (u2_row (by decide)) 50)
          have e170 : (it165 489 51).toInt = (it155 489 51).toInt := by rw [em166]; exact congrArg Int32.toInt (congrFun (u2_row (by decide)) 51)
          have hi171 : vp_in a1 12 := vp_of (by first | omega | ((try simp only [Int32.lt_iff_toInt_lt, Int32.le_iff_toInt_le, ← Int32.toInt_inj, Int32.toInt_toInt64, tiA, tlA]); omega) | (split <;> omega)) (by first | omega | ((try simp only [Int32.lt_iff_toInt_lt, Int32.le_iff_toInt_le, ← Int32.toInt_inj, Int32.toInt_toInt64, tiA, tlA]); omega) | (split <;> omega))
          refine ⟨hi171, ?_⟩
          have hz172 := vlt hi171
          refine ⟨fun c178 => ?_, fun c178 => ?_⟩
          · try simp only [Int32.lt_iff_toInt_lt, Int32.le_iff_toInt_le, ← Int32.toInt_inj, Int32.toInt_toInt64, tiA, tlA] at c178
            subst hp
            exact ⟨⟨hI167, hK168⟩, by first | omega | (constructor <;> first | omega | exact Or.inl rfl | exact Or.inr rfl | assumption)⟩
          · try simp only [Int32.lt_iff_toInt_lt, Int32.le_iff_toInt_le, ← Int32.toInt_inj, Int32.toInt_toInt64, tiA, tlA] at c178
            refine ⟨_, s_X9_isSign  ((44 : Int32)) hI167 (by omega), ?_⟩
            intro v178 lg173 it174 hq
            obtain ⟨⟨hI175, hK176⟩, ha179⟩ := hq
            have hK177 : Kd (fun j => j = 514 ∨ j = 515 ∨ j = 516 ∨ j = 517) (fun k => k = 51) lg0 it0 lg173 it174 := kd_t hK168 hK176 (fun j hj => by first | omega | exact False.elim hj | (dsimp only at hj ⊢; omega)) (fun j hj => by first | omega | exact False.elim hj | (dsimp only at hj ⊢; omega))
            try have e180 : (it174 489 50).toInt = (it165 489 50).toInt := congrArg Int32.toInt (hK176.2 50 (by first | decide | (dsimp only; decide) | omega | (dsimp only; omega))).2
            try have e181 : (it174 489 51).toInt = (it165 489 51).toInt := congrArg Int32.toInt (hK176.2 51 (by first | decide | (dsimp only; decide) | omega | (dsimp only; omega))).2
            have hb182 := ha179.1
            refine ⟨fun c187 => ?_, fun c187 => ?_⟩
            · try simp only [Int32.lt_iff_toInt_lt, Int32.le_iff_toInt_le, ← Int32.toInt_inj, Int32.toInt_toInt64, tiA, tlA] at c187
              refine ⟨_, s_X9_isSign  ((45 : Int32)) hI175 (by omega), ?_⟩
              intro v188 lg183 it184 hq
              obtain ⟨⟨hI185, hK186⟩, ha189⟩ := hq
              have hK187 : Kd (fun j => j = 514 ∨ j = 515 ∨ j = 516 ∨ j = 517) (fun k => k = 51) lg0 it0 lg183 it184 := kd_t hK177 hK186 (fun j hj => by first | omega | exact False.elim hj | (dsimp only at hj ⊢; omega)) (fun j hj => by first | omega | exact False.elim hj | (dsimp only at hj ⊢; omega))
              try have e190 : (it184 489 50).toInt = (it174 489 50).toInt := congrArg Int32.toInt (hK186.2 50 (by first | decide | (dsimp only; decide) | omega | (dsimp only; omega))).2
              try have e191 : (it184 489 51).toInt = (it174 489 51).toInt := congrArg Int32.toInt (hK186.2 51 (by first | decide | (dsimp only; decide) | omega | (dsimp only; omega))).2
              have hb192 := ha189.1
              refine ⟨_, s_X9_number  ((1 : Int32)) hI185 (by first | decide | omega) (by omega), ?_⟩
              intro v198 lg193 it194 hq
              obtain ⟨⟨hI195, hK196⟩, ha199⟩ := hq
              have hK197 : Kd (fun j => j = 514 ∨ j = 515 ∨ j = 516 ∨ j = 517) (fun k => k = 51) lg0 it0 lg193 it194 := kd_t hK187 hK196 (fun j hj => by first | omega | exact False.elim hj | (dsimp only at hj ⊢; omega)) (fun j hj => by first | omega | exact False.elim hj | (dsimp only at hj ⊢; omega))
              try have e200 : (it194 489 50).toInt = (it184 489 50).toInt := congrArg Int32.toInt (hK196.2 50 (by first | decide | (dsimp only; decide) | omega | (dsimp only; omega))).2
              try have e201 : (it194 489 51).toInt = (it184 489 51).toInt := congrArg Int32.toInt (hK196.2 51 (by first | decide | (dsimp only; decide) | omega | (dsimp only; omega))).2
              have hi202 : vp_in a1 12 := vp_of (by first | omega | ((try simp only [Int32.lt_iff_toInt_lt, Int32.le_iff_toInt_le, ← Int32.toInt_inj, Int32.toInt_toInt64, tiA, tlA]); omega) | (split <;> omega)) (by first | omega | ((try simp only [Int32.lt_iff_toInt_lt, Int32.le_iff_toInt_le, ← Int32.toInt_inj, Int32.toInt_toInt64, tiA, tlA]); omega) | (split <;> omega))
              refine ⟨hi202, ?_⟩
              have hz203 := vlt hi202
              intro it204 em205
              have hI206 : I9 lg193 it204 := by rw [em205]; exact i9_u hI195 (ok9_n rfl) (by decide) (fun q => absurd q (by decide))
              have hK207 : Kd (fun j => j = 514 ∨ j = 515 ∨ j = 516 ∨ j = 517) (fun k => k = 51) lg0 it0 lg193 it204 := by rw [em205]; exact kd_ur (by decide) (by first | decide | (dsimp only; decide) | omega | (dsimp only; omega)) hK197
              have e208 : (it204 489 50).toInt = (it194 489 50).toInt := by rw [em205]; exact congrArg Int32.toInt (congrFun (u2_row (by decide)) 50)
              have e209 : (it204 489 51).toInt = (it194 489 51).toInt := by rw [em205]; exact congrArg Int32.toInt (congrFun (u2_row (by decide)) 51)
              have hi210 : vp_in a1 12 := vp_of (by first | omega | ((try simp only [Int32.lt_iff_toInt_lt, Int32.le_iff_toInt_le, ← Int32.toInt_inj, Int32.toInt_toInt64, tiA, tlA]); omega) | (split <;> omega)) (by first | omega | ((try simp only [Int32.lt_iff_toInt_lt, Int32.le_iff_toInt_le, ← Int32.toInt_inj, Int32.toInt_toInt64, tiA, tlA]); omega) | (split <;> omega))
              refine ⟨hi210, ?_⟩
              have hz211 := vlt hi210
              refine ⟨fun c216 => ?_, fun c216 => ?_⟩
              · try simp only [Int32.lt_iff_toInt_lt, Int32.le_iff_toInt_le, ← Int32.toInt_inj, Int32.toInt_toInt64, tiA, tlA] at c216
                refine ⟨fun c227 => ?_, fun c227 => ?_⟩
                · try simp only [Int32.lt_iff_toInt_lt, Int32.le_iff_toInt_le, ← Int32.toInt_inj, Int32.toInt_toInt64, tiA, tlA] at c227
                  have hi212 : vp_in a1 12 := vp_of (by first | omega | ((try simp only [Int32.lt_iff_toInt_lt, Int32.le_iff_toInt_le, ← Int32.toInt_inj, Int32.toInt_toInt64, tiA, tlA]); omega) | (split <;> omega)) (by first | omega | ((try simp only [Int32.lt_iff_toInt_lt, Int32.le_iff_toInt_le, ← Int32.toInt_inj, Int32.toInt_toInt64, tiA, tlA]); omega) | (split <;> omega))
                  refine ⟨hi212, ?_⟩
                  have hz213 := vlt hi212
                  have hi214 : vp_in a1 12 := vp_of (by first | omega | ((try simp only [Int32.lt_iff_toInt_lt, Int32.le_iff_toInt_le, ← Int32.toInt_inj, Int32.toInt_toInt64, tiA, tlA]); omega) | (split <;> omega)) (by first | omega | ((try simp only [Int32.lt_iff_toInt_lt, Int32.le_iff_toInt_le, ← Int32.toInt_inj, Int32.toInt_toInt64, tiA, tlA]); omega) | (split <;> omega))
                  refine ⟨hi214, ?_⟩
                  have hz215 := vlt hi214
                  intro it216 em217
                  have hI218 : I9 lg193 it216 := by rw [em217]; exact i9_u hI206 (ok9_n rfl) (by decide) (fun q => absurd q (by decide))
                  have hK219 : Kd (fun j => j = 514 ∨ j = 515 ∨ j = 516 ∨ j = 517) (fun k => k = 51) lg0 it0 lg193 it216 := by rw [em217]; exact kd_ur (by decide) (by first | decide | (dsimp only; decide) | omega | (dsimp only; omega)) hK207
                  have e220 : (it216 489 50).toInt = (it204 489 50).toInt := by rw [em217]; exact congrArg Int32.toInt (congrFun (u2_row (by decide)) 50)
                  have e221 : (it216 489 51).toInt = (it204 489 51).toInt := by rw [em217]; exact congrArg Int32.toInt (congrFun (u2_row (by decide)) 51)
                  subst hp
                  exact ⟨⟨hI218, hK219⟩, by first | omega | (constructor <;> first | omega | exact Or.inl rfl | exact Or.inr rfl | assumption)⟩
                · try simp only [Int32.lt_iff_toInt_lt, Int32.le_iff_toInt_le, ← Int32.toInt_inj, Int32.toInt_toInt64, tiA, tlA] at c227
                  have hi222 : vp_in a1 12 := vp_of (by first | omega | ((try simp only [Int32.lt_iff_toInt_lt, Int32.le_iff_toInt_le, ← Int32.toInt_inj, Int32.toInt_toInt64, tiA, tlA]); omega) | (split <;> omega)) (by first | omega | ((try simp only [Int32.lt_iff_toInt_lt, Int32.le_iff_toInt_le, ← Int32.toInt_inj, Int32.toInt_toInt64, tiA, tlA]); omega) | (split <;> omega))
                  refine ⟨hi222, ?_⟩
                  have hz223 := vlt hi222
                  have hi224 : vp_in a1 12 := vp_of (by first | omega | ((try simp only [Int32.lt_iff_toInt_lt, Int32.le_iff_toInt_le, ← Int32.toInt_inj, Int32.toInt_toInt64, tiA, tlA]); omega) | (split <;> omega)) (by first | omega | ((try simp only [Int32.lt_iff_toInt_lt, Int32.le_iff_toInt_le, ← Int32.toInt_inj, Int32.toInt_toInt64, tiA, tlA]); omega) | (split <;> omega))
                  refine ⟨hi224, ?_⟩
                  have hz225 := vlt hi224
                  intro it226 em227
                  have hI228 : I9 lg193 it226 := by rw [em227]; exact i9_u hI206 (ok9_n rfl) (by decide) (fun q => absurd q (by decide))
                  have hK229 : Kd (fun j => j = 514 ∨ j = 515 ∨ j = 516 ∨ j = 517) (fun k => k = 51) lg0 it0 lg193 it226 := by rw [em227]; exact kd_ur (by decide) (by first | decide | (dsimp only; decide) | omega | (dsimp only; omega)) hK207
                  have e230 : (it226 489 50).toInt = (it204 489 50).toInt := by rw [em227]; exact congrArg Int32.toInt (congrFun (u2_row (by decide)) 50)
                  have e231 : (it226 489 51).toInt = (it204 489 51).toInt := by rw [em227]; exact congrArg Int32.toInt (congrFun (u2_row (by decide)) 51)
                  subst hp
                  exact ⟨⟨hI228, hK229⟩, by first | omega | (constructor <;> first | omega | exact Or.inl rfl | exact Or.inr rfl | assumption)⟩
              · try simp only [Int32.lt_iff_toInt_lt, Int32.le_iff_toInt_le, ← Int32.toInt_inj, Int32.toInt_toInt64, tiA, tlA] at c216
                subst hp
                exact ⟨⟨hI206, hK207⟩, by first | omega | (constructor <;> first | omega | exact Or.inl rfl | exact Or.inr rfl | assumption)⟩
            · try simp only [Int32.lt_iff_toInt_lt, Int32.le_iff_toInt_le, ← Int32.toInt_inj, Int32.toInt_toInt64, tiA, tlA] at c187
              subst hp
              exact ⟨⟨hI175, hK177⟩, by first | omega | (constructor <;> first | omega | exact Or.inl rfl | exact Or.inr rfl | assumption)⟩
        · try simp only [Int32.lt_iff_toInt_lt, Int32.le_iff_toInt_le, ← Int32.toInt_inj, Int32.toInt_toInt64, tiA, tlA] at c156
          subst hp
          exact ⟨⟨hI146, hK148⟩, by first | omega | (constructor <;> first | omega | exact Or.inl rfl | exact Or.inr rfl | assumption)⟩
      · try simp only [Int32.lt_iff_toInt_lt, Int32.le_iff_toInt_le, ← Int32.toInt_inj, Int32.toInt_toInt64, tiA, tlA] at c145
        subst hp
        exact ⟨⟨hI138, hK139⟩, by first | omega | (constructor <;> first | omega | exact Or.inl rfl | exact Or.inr rfl | assumption)⟩
    · try simp only [Int32.lt_iff_toInt_lt, Int32.le_iff_toInt_le, ← Int32.toInt_inj, Int32.toInt_toInt64, tiA, tlA] at c137
      subst hp
      exact ⟨⟨hI138, hK139⟩, by first | omega | (constructor <;> first | omega | exact Or.inl rfl | exact Or.inr rfl | assumption)⟩
  have bl104 : ∀ (x2 : Int32) (lg : LGt) (it : ITt), I9 lg it → Kd (fun j => j = 514 ∨ j = 515 ∨ j = 516 ∨ j = 517) (fun k => k = 51) lg0 it0 lg it → (((it 489 51).toInt ≤ (it 489 50).toInt)) → w_X9_clause_b104 a1 Pz  x2 lg it := by
    intro x2 lg234 it235 hI232 hK233 hv
    unfold w_X9_clause_b104
    have hv104_0 := hv
    refine ⟨fun c113 => ?_, fun c113 => ?_⟩
    · try simp only [Int32.lt_iff_toInt_lt, Int32.le_iff_toInt_le, ← Int32.toInt_inj, Int32.toInt_toInt64, tiA, tlA] at c113
      unfold w_X9_clause_b122
      have t236 := ti_2
      exact bl127 (x2) ((2 : Int32)) (a1) _ _ hI232 hK233 (by refine ⟨?_, ?_, ?_, ?_⟩ <;> first | omega | assumption | exact Or.inl rfl | exact Or.inr rfl | decide)
    · try simp only [Int32.lt_iff_toInt_lt, Int32.le_iff_toInt_le, ← Int32.toInt_inj, Int32.toInt_toInt64, tiA, tlA] at c113
      refine ⟨fun c119 => ?_, fun c119 => ?_⟩
      · try simp only [Int32.lt_iff_toInt_lt, Int32.le_iff_toInt_le, ← Int32.toInt_inj, Int32.toInt_toInt64, tiA, tlA] at c119
        have t237 := ti_1
        exact bl127 (x2) ((1 : Int32)) (a1) _ _ hI232 hK233 (by refine ⟨?_, ?_, ?_, ?_⟩ <;> first | omega | assumption | exact Or.inl rfl | exact Or.inr rfl | decide)
      · try simp only [Int32.lt_iff_toInt_lt, Int32.le_iff_toInt_le, ← Int32.toInt_inj, Int32.toInt_toInt64, tiA, tlA] at c119
        unfold w_X9_clause_b122
        have t238 := ti_2
        exact bl127 (x2) ((2 : Int32)) (a1) _ _ hI232 hK233 (by refine ⟨?_, ?_, ?_, ?_⟩ <;> first | omega | assumption | exact Or.inl rfl | exact Or.inr rfl | decide)
  have bl86 : ∀ (x2 : Int32) (lg : LGt) (it : ITt), I9 lg it → Kd (fun j => j = 514 ∨ j = 515 ∨ j = 516 ∨ j = 517) (fun k => k = 51) lg0 it0 lg it → (((it 489 51).toInt ≤ (it 489 50).toInt)) → w_X9_clause_b86 a1 Pz  x2 lg it := by
    intro x2 lg241 it242 hI239 hK240 hv
    unfold w_X9_clause_b86
    have hv86_0 := hv
    refine ⟨_, s_X9_isSign  ((110 : Int32)) hI239 (by omega), ?_⟩
    intro v248 lg243 it244 hq
    obtain ⟨⟨hI245, hK246⟩, ha249⟩ := hq
    have hK247 : Kd (fun j => j = 514 ∨ j = 515 ∨ j = 516 ∨ j = 517) (fun k => k = 51) lg0 it0 lg243 it244 := kd_t hK240 hK246 (fun j hj => by first | omega | exact False.elim hj | (dsimp only at hj ⊢; omega)) (fun j hj => by first | omega | exact False.elim hj | (dsimp only at hj ⊢; omega))
    try have e250 : (it244 489 50).toInt = (it242 489 50).toInt := congrArg Int32.toInt (hK246.2 50 (by first | decide | (dsimp only; decide) | omega | (dsimp only; omega))).2
    try have e251 : (it244 489 51).toInt = (it242 489 51).toInt := congrArg Int32.toInt (hK246.2 51 (by first | decide | (dsimp only; decide) | omega | (dsimp only; omega))).2
    have hb252 := ha249.1
    refine ⟨fun c92 => ?_, fun c92 => ?_⟩
    · try simp only [Int32.lt_iff_toInt_lt, Int32.le_iff_toInt_le, ← Int32.toInt_inj, Int32.toInt_toInt64, tiA, tlA] at c92
      exact bl104 (x2) _ _ hI245 hK247 (by first | omega | assumption)
    · try simp only [Int32.lt_iff_toInt_lt, Int32.le_iff_toInt_le, ← Int32.toInt_inj, Int32.toInt_toInt64, tiA, tlA] at c92
      have hi253 : vp_in a1 12 := vp_of (by first | omega | ((try simp only [Int32.lt_iff_toInt_lt, Int32.le_iff_toInt_le, ← Int32.toInt_inj, Int32.toInt_toInt64, tiA, tlA]); omega) | (split <;> omega)) (by first | omega | ((try simp only [Int32.lt_iff_toInt_lt, Int32.le_iff_toInt_le, ← Int32.toInt_inj, Int32.toInt_toInt64, tiA, tlA]); omega) | (split <;> omega))
      refine ⟨hi253, ?_⟩
      have hz254 := vlt hi253
      intro it255 em256
      have hI257 : I9 lg243 it255 := by rw [em256]; exact i9_u hI245 (ok9_n rfl) (by decide) (fun q => absurd q (by decide))
      have hK258 : Kd (fun j => j = 514 ∨ j = 515 ∨ j = 516 ∨ j = 517) (fun k => k = 51) lg0 it0 lg243 it255 := by rw [em256]; exact kd_ur (by decide) (by first | decide | (dsimp only; decide) | omega | (dsimp only; omega)) hK247
      have e259 : (it255 489 50).toInt = (it244 489 50).toInt := by rw [em256]; exact congrArg Int32.toInt (congrFun (u2_row (by decide)) 50)
      have e260 : (it255 489 51).toInt = (it244 489 51).toInt := by rw [em256]; exact congrArg Int32.toInt (congrFun (u2_row (by decide)) 51)
      subst hp
      exact ⟨⟨hI257, hK258⟩, by first | omega | (constructor <;> first | omega | exact Or.inl rfl | exact Or.inr rfl | assumption)⟩
  have bl57 : ∀ (x2 : Int32) (lg : LGt) (it : ITt), I9 lg it → Kd (fun j => j = 514 ∨ j = 515 ∨ j = 516 ∨ j = 517) (fun k => k = 51) lg0 it0 lg it → (((it 489 51).toInt < (it 489 50).toInt)) → w_X9_clause_b57 a1 Pz  x2 lg it := by
    intro x2 lg263 it264 hI261 hK262 hv
    unfold w_X9_clause_b57
    have hv57_0 := hv
    have f50 := i9_f hI261 (j := 489) (k := 50) rfl
    have f265 : 0 ≤ (it264 489 51).toInt ∧ (it264 489 51).toInt ≤ 100 := i9_f hI261 (j := 489) (k := 51) rfl
    try have f266 : (((it264 489 51) + 1) : Int32).toInt = ((it264 489 51)).toInt + 1 := ad32 (a := ((it264 489 51)).toInt) (b := 1) (rfl) (ti_1) (by omega) (by omega)
    intro it267 em268
    have hI269 : I9 lg263 it267 := by rw [em268]; exact i9_u hI261 (ok9_b (a := 0) (b := 100) rfl (by first | decide | ((try simp only [Int32.lt_iff_toInt_lt, Int32.le_iff_toInt_le, ← Int32.toInt_inj, Int32.toInt_toInt64, tiA, tlA]); omega) | (split <;> (try simp only [Int32.lt_iff_toInt_lt, Int32.le_iff_toInt_le, ← Int32.toInt_inj, Int32.toInt_toInt64, tiA, tlA]) <;> omega))) (by decide) (fun _ => by decide)
    have hK270 : Kd (fun j => j = 514 ∨ j = 515 ∨ j = 516 ∨ j = 517) (fun k => k = 51) lg0 it0 lg263 it267 := by rw [em268]; exact kd_uf (by first | decide | (dsimp only; decide) | omega | (dsimp only; omega)) hK262
    have e271 : (it267 489 50).toInt = (it264 489 50).toInt := by rw [em268]; exact congrArg Int32.toInt (u2_ne (by decide))
    have e273 : (it267 489 51).toInt = (((it264 489 51) + 1) : Int32).toInt := by rw [em268]; exact congrArg Int32.toInt u2_eq
    have hi274 : vp_in a1 12 := vp_of (by first | omega | ((try simp only [Int32.lt_iff_toInt_lt, Int32.le_iff_toInt_le, ← Int32.toInt_inj, Int32.toInt_toInt64, tiA, tlA]); omega) | (split <;> omega)) (by first | omega | ((try simp only [Int32.lt_iff_toInt_lt, Int32.le_iff_toInt_le, ← Int32.toInt_inj, Int32.toInt_toInt64, tiA, tlA]); omega) | (split <;> omega))
    refine ⟨hi274, ?_⟩
    have hz275 := vlt hi274
    intro it276 em277
    have hI278 : I9 lg263 it276 := by rw [em277]; exact i9_u hI269 (ok9_n rfl) (by decide) (fun q => absurd q (by decide))
    have hK279 : Kd (fun j => j = 514 ∨ j = 515 ∨ j = 516 ∨ j = 517) (fun k => k = 51) lg0 it0 lg263 it276 := by rw [em277]; exact kd_ur (by decide) (by first | decide | (dsimp only; decide) | omega | (dsimp only; omega)) hK270
    have e280 : (it276 489 50).toInt = (it267 489 50).toInt := by rw [em277]; exact congrArg Int32.toInt (congrFun (u2_row (by decide)) 50)
    have e281 : (it276 489 51).toInt = (it267 489 51).toInt := by rw [em277]; exact congrArg Int32.toInt (congrFun (u2_row (by decide)) 51)
    refine ⟨fun c77 => ?_, fun c77 => ?_⟩
    · try simp only [Int32.lt_iff_toInt_lt, Int32.le_iff_toInt_le, ← Int32.toInt_inj, Int32.toInt_toInt64, tiA, tlA] at c77
      exact bl86 (x2) _ _ hI278 hK279 (by first | omega | assumption)
    · try simp only [Int32.lt_iff_toInt_lt, Int32.le_iff_toInt_le, ← Int32.toInt_inj, Int32.toInt_toInt64, tiA, tlA] at c77
      refine ⟨fun c83 => ?_, fun c83 => ?_⟩
      · try simp only [Int32.lt_iff_toInt_lt, Int32.le_iff_toInt_le, ← Int32.toInt_inj, Int32.toInt_toInt64, tiA, tlA] at c83
        exact bl104 (x2) _ _ hI278 hK279 (by first | omega | assumption)
      · try simp only [Int32.lt_iff_toInt_lt, Int32.le_iff_toInt_le, ← Int32.toInt_inj, Int32.toInt_toInt64, tiA, tlA] at c83
        exact bl86 (x2) _ _ hI278 hK279 (by first | omega | assumption)
  unfold w_X9_clause
  have f282 : 0 ≤ (it0 489 51).toInt ∧ (it0 489 51).toInt ≤ 100 := i9_f hI (j := 489) (k := 51) rfl
  have f283 : 0 ≤ (it0 489 50).toInt ∧ (it0 489 50).toInt ≤ 100 := i9_f hI (j := 489) (k := 50) rfl
  refine ⟨fun c8 => ?_, fun c8 => ?_⟩
  · try simp only [Int32.lt_iff_toInt_lt, Int32.le_iff_toInt_le, ← Int32.toInt_inj, Int32.toInt_toInt64, tiA, tlA] at c8
    unfold w_X9_clause_b24
    refine ⟨fun c28 => ?_, fun c28 => ?_⟩
    · exact absurd c28 (by decide)
    · skip
      refine ⟨fun c34 => ?_, fun c34 => ?_⟩
      · exact absurd c34 (by decide)
      · skip
        refine ⟨fun c40 => ?_, fun c40 => ?_⟩
        · exact absurd c40 (by decide)
        · skip
          refine ⟨fun c46 => ?_, fun c46 => ?_⟩
          · exact absurd c46 (by decide)
          · skip
            refine ⟨fun c52 => ?_, fun c52 => ?_⟩
            · exact absurd c52 (by decide)
            · skip
              subst hp
              exact ⟨⟨hI, hKr⟩, by first | omega | (constructor <;> first | omega | exact Or.inl rfl | exact Or.inr rfl | assumption)⟩
  · try simp only [Int32.lt_iff_toInt_lt, Int32.le_iff_toInt_le, ← Int32.toInt_inj, Int32.toInt_toInt64, tiA, tlA] at c8
    have hi284 : vp_in (it0 489 51) 100 := vp_of (by first | omega | ((try simp only [Int32.lt_iff_toInt_lt, Int32.le_iff_toInt_le, ← Int32.toInt_inj, Int32.toInt_toInt64, tiA, tlA]); omega) | (split <;> omega)) (by first | omega | ((try simp only [Int32.lt_iff_toInt_lt, Int32.le_iff_toInt_le, ← Int32.toInt_inj, Int32.toInt_toInt64, tiA, tlA]); omega) | (split <;> omega))
    refine ⟨hi284, ?_⟩
    have hz285 := vlt hi284
    unfold w_X9_clause_b24
    refine ⟨fun c28 => ?_, fun c28 => ?_⟩
    · try simp only [Int32.lt_iff_toInt_lt, Int32.le_iff_toInt_le, ← Int32.toInt_inj, Int32.toInt_toInt64, tiA, tlA] at c28
      exact bl57 ((it0 513 (it0 489 51).toNatClampNeg)) _ _ hI hKr (by first | omega | assumption)
    · try simp only [Int32.lt_iff_toInt_lt, Int32.le_iff_toInt_le, ← Int32.toInt_inj, Int32.toInt_toInt64, tiA, tlA] at c28
      refine ⟨fun c34 => ?_, fun c34 => ?_⟩
      · try simp only [Int32.lt_iff_toInt_lt, Int32.le_iff_toInt_le, ← Int32.toInt_inj, Int32.toInt_toInt64, tiA, tlA] at c34
        exact bl57 ((it0 513 (it0 489 51).toNatClampNeg)) _ _ hI hKr (by first | omega | assumption)
      · try simp only [Int32.lt_iff_toInt_lt, Int32.le_iff_toInt_le, ← Int32.toInt_inj, Int32.toInt_toInt64, tiA, tlA] at c34
        refine ⟨fun c40 => ?_, fun c40 => ?_⟩
        · try simp only [Int32.lt_iff_toInt_lt, Int32.le_iff_toInt_le, ← Int32.toInt_inj, Int32.toInt_toInt64, tiA, tlA] at c40
          exact bl57 ((it0 513 (it0 489 51).toNatClampNeg)) _ _ hI hKr (by first | omega | assumption)
        · try simp only [Int32.lt_iff_toInt_lt, Int32.le_iff_toInt_le, ← Int32.toInt_inj, Int32.toInt_toInt64, tiA, tlA] at c40
          refine ⟨fun c46 => ?_, fun c46 => ?_⟩
          · try simp only [Int32.lt_iff_toInt_lt, Int32.le_iff_toInt_le, ← Int32.toInt_inj, Int32.toInt_toInt64, tiA, tlA] at c46
            exact bl57 ((it0 513 (it0 489 51).toNatClampNeg)) _ _ hI hKr (by first | omega | assumption)
          · try simp only [Int32.lt_iff_toInt_lt, Int32.le_iff_toInt_le, ← Int32.toInt_inj, Int32.toInt_toInt64, tiA, tlA] at c46
            refine ⟨fun c52 => ?_, fun c52 => ?_⟩
            · try simp only [Int32.lt_iff_toInt_lt, Int32.le_iff_toInt_le, ← Int32.toInt_inj, Int32.toInt_toInt64, tiA, tlA] at c52
              exact bl57 ((it0 513 (it0 489 51).toNatClampNeg)) _ _ hI hKr (by first | omega | assumption)
            · try simp only [Int32.lt_iff_toInt_lt, Int32.le_iff_toInt_le, ← Int32.toInt_inj, Int32.toInt_toInt64, tiA, tlA] at c52
              subst hp
              exact ⟨⟨hI, hKr⟩, by first | omega | (constructor <;> first | omega | exact Or.inl rfl | exact Or.inr rfl | assumption)⟩
set_option maxRecDepth 100000 in
theorem s_X9_isDone (a1 : Int32) {lg0 : LGt} {it0 : ITt} (hI : I9 lg0 it0) (hk : 0 ≤ a1.toInt ∧ a1.toInt < 12) : w_X9_isDone a1 (fun (v : Int32) (lg' : LGt) (it' : ITt) => (I9 lg' it' ∧ Kd (fun j => j = 490 ∨ j = 491 ∨ j = 492 ∨ j = 493 ∨ j = 494 ∨ j = 501 ∨ j = 502 ∨ j = 503 ∨ j = 504 ∨ j = 505 ∨ j = 506 ∨ j = 507 ∨ j = 508 ∨ j = 509 ∨ j = 510 ∨ j = 511 ∨ j = 512) (fun k => k = 0 ∨ k = 1 ∨ k = 2 ∨ k = 3 ∨ k = 18 ∨ k = 19 ∨ k = 20 ∨ k = 28 ∨ k = 29 ∨ k = 30 ∨ k = 31 ∨ k = 32 ∨ k = 33 ∨ k = 34 ∨ k = 35 ∨ k = 36 ∨ k = 37 ∨ k = 38 ∨ k = 39 ∨ k = 40 ∨ k = 41 ∨ k = 42 ∨ k = 43) lg0 it0 lg' it') ∧ (v = 0 ∨ v = 1))  lg0 it0 := by
  have hb_a1 := And.intro a1.le_toInt a1.toInt_lt
  have hKr : Kd (fun j => j = 490 ∨ j = 491 ∨ j = 492 ∨ j = 493 ∨ j = 494 ∨ j = 501 ∨ j = 502 ∨ j = 503 ∨ j = 504 ∨ j = 505 ∨ j = 506 ∨ j = 507 ∨ j = 508 ∨ j = 509 ∨ j = 510 ∨ j = 511 ∨ j = 512) (fun k => k = 0 ∨ k = 1 ∨ k = 2 ∨ k = 3 ∨ k = 18 ∨ k = 19 ∨ k = 20 ∨ k = 28 ∨ k = 29 ∨ k = 30 ∨ k = 31 ∨ k = 32 ∨ k = 33 ∨ k = 34 ∨ k = 35 ∨ k = 36 ∨ k = 37 ∨ k = 38 ∨ k = 39 ∨ k = 40 ∨ k = 41 ∨ k = 42 ∨ k = 43) lg0 it0 lg0 it0 := kd_r
  generalize hp : (fun (v : Int32) (lg' : LGt) (it' : ITt) => (I9 lg' it' ∧ Kd (fun j => j = 490 ∨ j = 491 ∨ j = 492 ∨ j = 493 ∨ j = 494 ∨ j = 501 ∨ j = 502 ∨ j = 503 ∨ j = 504 ∨ j = 505 ∨ j = 506 ∨ j = 507 ∨ j = 508 ∨ j = 509 ∨ j = 510 ∨ j = 511 ∨ j = 512) (fun k => k = 0 ∨ k = 1 ∨ k = 2 ∨ k = 3 ∨ k = 18 ∨ k = 19 ∨ k = 20 ∨ k = 28 ∨ k = 29 ∨ k = 30 ∨ k = 31 ∨ k = 32 ∨ k = 33 ∨ k = 34 ∨ k = 35 ∨ k = 36 ∨ k = 37 ∨ k = 38 ∨ k = 39 ∨ k = 40 ∨ k = 41 ∨ k = 42 ∨ k = 43) lg0 it0 lg' it') ∧ (v = 0 ∨ v = 1)) = Pz
  unfold w_X9_isDone
  have hi63 : vp_in a1 12 := vp_of (by first | omega | ((try simp only [Int32.lt_iff_toInt_lt, Int32.le_iff_toInt_le, ← Int32.toInt_inj, Int32.toInt_toInt64, tiA, tlA]); omega) | (split <;> omega)) (by first | omega | ((try simp only [Int32.lt_iff_toInt_lt, Int32.le_iff_toInt_le, ← Int32.toInt_inj, Int32.toInt_toInt64, tiA, tlA]); omega) | (split <;> omega))
  refine ⟨hi63, ?_⟩
  have hz64 := vlt hi63
  refine ⟨fun c6 => ?_, fun c6 => ?_⟩
  · skip
    have hi65 : vp_in a1 12 := vp_of (by first | omega | ((try simp only [Int32.lt_iff_toInt_lt, Int32.le_iff_toInt_le, ← Int32.toInt_inj, Int32.toInt_toInt64, tiA, tlA]); omega) | (split <;> omega)) (by first | omega | ((try simp only [Int32.lt_iff_toInt_lt, Int32.le_iff_toInt_le, ← Int32.toInt_inj, Int32.toInt_toInt64, tiA, tlA]); omega) | (split <;> omega))
    refine ⟨hi65, ?_⟩
    have hz66 := vlt hi65
    have hi67 : vp_in a1 12 := vp_of (by first | omega | ((try simp only [Int32.lt_iff_toInt_lt, Int32.le_iff_toInt_le, ← Int32.toInt_inj, Int32.toInt_toInt64, tiA, tlA]); omega) | (split <;> omega)) (by first | omega | ((try simp only [Int32.lt_iff_toInt_lt, Int32.le_iff_toInt_le, ← Int32.toInt_inj, Int32.toInt_toInt64, tiA, tlA]); omega) | (split <;> omega))
    refine ⟨hi67, ?_⟩
    have hz68 := vlt hi67
    have hi69 : vp_in a1 12 := vp_of (by first | omega | ((try simp only [Int32.lt_iff_toInt_lt, Int32.le_iff_toInt_le, ← Int32.toInt_inj, Int32.toInt_toInt64, tiA, tlA]); omega) | (split <;> omega)) (by first | omega | ((try simp only [Int32.lt_iff_toInt_lt, Int32.le_iff_toInt_le, ← Int32.toInt_inj, Int32.toInt_toInt64, tiA, tlA]); omega) | (split <;> omega))
    refine ⟨hi69, ?_⟩
    have hz70 := vlt hi69
    refine ⟨_, s_X9_bumper  ((it0 515 a1.toNatClampNeg)) ((it0 516 a1.toNatClampNeg)) ((it0 517 a1.toNatClampNeg)) hI , ?_⟩
    intro v76 lg71 it72 hq
    obtain ⟨hI73, hK74⟩ := hq
    have hK75 : Kd (fun j => j = 490 ∨ j = 491 ∨ j = 492 ∨ j = 493 ∨ j = 494 ∨ j = 501 ∨ j = 502 ∨ j = 503 ∨ j = 504 ∨ j = 505 ∨ j = 506 ∨ j = 507 ∨ j = 508 ∨ j = 509 ∨ j = 510 ∨ j = 511 ∨ j = 512) (fun k => k = 0 ∨ k = 1 ∨ k = 2 ∨ k = 3 ∨ k = 18 ∨ k = 19 ∨ k = 20 ∨ k = 28 ∨ k = 29 ∨ k = 30 ∨ k = 31 ∨ k = 32 ∨ k = 33 ∨ k = 34 ∨ k = 35 ∨ k = 36 ∨ k = 37 ∨ k = 38 ∨ k = 39 ∨ k = 40 ∨ k = 41 ∨ k = 42 ∨ k = 43) lg0 it0 lg71 it72 := kd_t hKr hK74 (fun j hj => by first | omega | exact False.elim hj | (dsimp only at hj ⊢; omega)) (fun j hj => by first | omega | exact False.elim hj | (dsimp only at hj ⊢; omega))
    refine ⟨fun c62 => ?_, fun c62 => ?_⟩
    · try simp only [Int32.lt_iff_toInt_lt, Int32.le_iff_toInt_le, ← Int32.toInt_inj, Int32.toInt_toInt64, tiA, tlA] at c62
      subst hp
      exact ⟨⟨hI73, hK75⟩, by first | exact Or.inl rfl | exact Or.inr rfl | assumption⟩
    · try simp only [Int32.lt_iff_toInt_lt, Int32.le_iff_toInt_le, ← Int32.toInt_inj, Int32.toInt_toInt64, tiA, tlA] at c62
      subst hp
      exact ⟨⟨hI73, hK75⟩, by first | exact Or.inl rfl | exact Or.inr rfl | assumption⟩
  refine ⟨fun c6 => ?_, fun c6 => ?_⟩
  · skip
    have hi78 : vp_in a1 12 := vp_of (by first | omega | ((try simp only [Int32.lt_iff_toInt_lt, Int32.le_iff_toInt_le, ← Int32.toInt_inj, Int32.toInt_toInt64, tiA, tlA]); omega) | (split <;> omega)) (by first | omega | ((try simp only [Int32.lt_iff_toInt_lt, Int32.le_iff_toInt_le, ← Int32.toInt_inj, Int32.toInt_toInt64, tiA, tlA]); omega) | (split <;> omega))
    refine ⟨hi78, ?_⟩
    have hz79 := vlt hi78
    refine ⟨_, s_X9_spring  ((it0 515 a1.toNatClampNeg)) hI , ?_⟩
    intro v85 lg80 it81 hq
    obtain ⟨hI82, hK83⟩ := hq
    have hK84 : Kd (fun j => j = 490 ∨ j = 491 ∨ j = 492 ∨ j = 493 ∨ j = 494 ∨ j = 501 ∨ j = 502 ∨ j = 503 ∨ j = 504 ∨ j = 505 ∨ j = 506 ∨ j = 507 ∨ j = 508 ∨ j = 509 ∨ j = 510 ∨ j = 511 ∨ j = 512) (fun k => k = 0 ∨ k = 1 ∨ k = 2 ∨ k = 3 ∨ k = 18 ∨ k = 19 ∨ k = 20 ∨ k = 28 ∨ k = 29 ∨ k = 30 ∨ k = 31 ∨ k = 32 ∨ k = 33 ∨ k = 34 ∨ k = 35 ∨ k = 36 ∨ k = 37 ∨ k = 38 ∨ k = 39 ∨ k = 40 ∨ k = 41 ∨ k = 42 ∨ k = 43) lg0 it0 lg80 it81 := kd_t hKr hK83 (fun j hj => by first | omega | exact False.elim hj | (dsimp only at hj ⊢; omega)) (fun j hj => by first | omega | exact False.elim hj | (dsimp only at hj ⊢; omega))
    refine ⟨fun c81 => ?_, fun c81 => ?_⟩
    · try simp only [Int32.lt_iff_toInt_lt, Int32.le_iff_toInt_le, ← Int32.toInt_inj, Int32.toInt_toInt64, tiA, tlA] at c81
      subst hp
      exact ⟨⟨hI82, hK84⟩, by first | exact Or.inl rfl | exact Or.inr rfl | assumption⟩
    · try simp only [Int32.lt_iff_toInt_lt, Int32.le_iff_toInt_le, ← Int32.toInt_inj, Int32.toInt_toInt64, tiA, tlA] at c81
      subst hp
      exact ⟨⟨hI82, hK84⟩, by first | exact Or.inl rfl | exact Or.inr rfl | assumption⟩
  refine ⟨fun c6 => ?_, fun c6 => ?_⟩
  · skip
    have hi87 : vp_in a1 12 := vp_of (by first | omega | ((try simp only [Int32.lt_iff_toInt_lt, Int32.le_iff_toInt_le, ← Int32.toInt_inj, Int32.toInt_toInt64, tiA, tlA]); omega) | (split <;> omega)) (by first | omega | ((try simp only [Int32.lt_iff_toInt_lt, Int32.le_iff_toInt_le, ← Int32.toInt_inj, Int32.toInt_toInt64, tiA, tlA]); omega) | (split <;> omega))
    refine ⟨hi87, ?_⟩
    have hz88 := vlt hi87
    refine ⟨_, s_X9_go  ((it0 515 a1.toNatClampNeg)) hI , ?_⟩
    intro v94 lg89 it90 hq
    obtain ⟨hI91, hK92⟩ := hq
    have hK93 : Kd (fun j => j = 490 ∨ j = 491 ∨ j = 492 ∨ j = 493 ∨ j = 494 ∨ j = 501 ∨ j = 502 ∨ j = 503 ∨ j = 504 ∨ j = 505 ∨ j = 506 ∨ j = 507 ∨ j = 508 ∨ j = 509 ∨ j = 510 ∨ j = 511 ∨ j = 512) (fun k => k = 0 ∨ k = 1 ∨ k = 2 ∨ k = 3 ∨ k = 18 ∨ k = 19 ∨ k = 20 ∨ k = 28 ∨ k = 29 ∨ k = 30 ∨ k = 31 ∨ k = 32 ∨ k = 33 ∨ k = 34 ∨ k = 35 ∨ k = 36 ∨ k = 37 ∨ k = 38 ∨ k = 39 ∨ k = 40 ∨ k = 41 ∨ k = 42 ∨ k = 43) lg0 it0 lg89 it90 := kd_t hKr hK92 (fun j hj => by first | omega | exact False.elim hj | (dsimp only at hj ⊢; omega)) (fun j hj => by first | omega | exact False.elim hj | (dsimp only at hj ⊢; omega))
    refine ⟨fun c100 => ?_, fun c100 => ?_⟩
    · try simp only [Int32.lt_iff_toInt_lt, Int32.le_iff_toInt_le, ← Int32.toInt_inj, Int32.toInt_toInt64, tiA, tlA] at c100
      subst hp
      exact ⟨⟨hI91, hK93⟩, by first | exact Or.inl rfl | exact Or.inr rfl | assumption⟩
    · try simp only [Int32.lt_iff_toInt_lt, Int32.le_iff_toInt_le, ← Int32.toInt_inj, Int32.toInt_toInt64, tiA, tlA] at c100
      subst hp
      exact ⟨⟨hI91, hK93⟩, by first | exact Or.inl rfl | exact Or.inr rfl | assumption⟩
  have hi96 : vp_in a1 12 := vp_of (by first | omega | ((try simp only [Int32.lt_iff_toInt_lt, Int32.le_iff_toInt_le, ← Int32.toInt_inj, Int32.toInt_toInt64, tiA, tlA]); omega) | (split <;> omega)) (by first | omega | ((try simp only [Int32.lt_iff_toInt_lt, Int32.le_iff_toInt_le, ← Int32.toInt_inj, Int32.toInt_toInt64, tiA, tlA]); omega) | (split <;> omega))
  refine ⟨hi96, ?_⟩
  have hz97 := vlt hi96
  refine ⟨fun c118 => ?_, fun c118 => ?_⟩
  · try simp only [Int32.lt_iff_toInt_lt, Int32.le_iff_toInt_le, ← Int32.toInt_inj, Int32.toInt_toInt64, tiA, tlA] at c118
    unfold w_X9_isDone_b126
    have hi98 : vp_in a1 12 := vp_of (by first | omega | ((try simp only [Int32.lt_iff_toInt_lt, Int32.le_iff_toInt_le, ← Int32.toInt_inj, Int32.toInt_toInt64, tiA, tlA]); omega) | (split <;> omega)) (by first | omega | ((try simp only [Int32.lt_iff_toInt_lt, Int32.le_iff_toInt_le, ← Int32.toInt_inj, Int32.toInt_toInt64, tiA, tlA]); omega) | (split <;> omega))
    refine ⟨hi98, ?_⟩
    have hz99 := vlt hi98
    refine ⟨_, s_X9_wall  ((1 : Int32)) ((it0 515 a1.toNatClampNeg)) hI , ?_⟩
    intro v105 lg100 it101 hq
    obtain ⟨hI102, hK103⟩ := hq
    have hK104 : Kd (fun j => j = 490 ∨ j = 491 ∨ j = 492 ∨ j = 493 ∨ j = 494 ∨ j = 501 ∨ j = 502 ∨ j = 503 ∨ j = 504 ∨ j = 505 ∨ j = 506 ∨ j = 507 ∨ j = 508 ∨ j = 509 ∨ j = 510 ∨ j = 511 ∨ j = 512) (fun k => k = 0 ∨ k = 1 ∨ k = 2 ∨ k = 3 ∨ k = 18 ∨ k = 19 ∨ k = 20 ∨ k = 28 ∨ k = 29 ∨ k = 30 ∨ k = 31 ∨ k = 32 ∨ k = 33 ∨ k = 34 ∨ k = 35 ∨ k = 36 ∨ k = 37 ∨ k = 38 ∨ k = 39 ∨ k = 40 ∨ k = 41 ∨ k = 42 ∨ k = 43) lg0 it0 lg100 it101 := kd_t hKr hK103 (fun j hj => by first | omega | exact False.elim hj | (dsimp only at hj ⊢; omega)) (fun j hj => by first | omega | exact False.elim hj | (dsimp only at hj ⊢; omega))
    refine ⟨fun c137 => ?_, fun c137 => ?_⟩
    · try simp only [Int32.lt_iff_toInt_lt, Int32.le_iff_toInt_le, ← Int32.toInt_inj, Int32.toInt_toInt64, tiA, tlA] at c137
      subst hp
      exact ⟨⟨hI102, hK104⟩, by first | exact Or.inl rfl | exact Or.inr rfl | assumption⟩
    · try simp only [Int32.lt_iff_toInt_lt, Int32.le_iff_toInt_le, ← Int32.toInt_inj, Int32.toInt_toInt64, tiA, tlA] at c137
      refine ⟨fun c143 => ?_, fun c143 => ?_⟩
      · try simp only [Int32.lt_iff_toInt_lt, Int32.le_iff_toInt_le, ← Int32.toInt_inj, Int32.toInt_toInt64, tiA, tlA] at c143
        subst hp
        exact ⟨⟨hI102, hK104⟩, by first | exact Or.inl rfl | exact Or.inr rfl | assumption⟩
      · try simp only [Int32.lt_iff_toInt_lt, Int32.le_iff_toInt_le, ← Int32.toInt_inj, Int32.toInt_toInt64, tiA, tlA] at c143
        subst hp
        exact ⟨⟨hI102, hK104⟩, by first | exact Or.inl rfl | exact Or.inr rfl | assumption⟩
  · try simp only [Int32.lt_iff_toInt_lt, Int32.le_iff_toInt_le, ← Int32.toInt_inj, Int32.toInt_toInt64, tiA, tlA] at c118
    unfold w_X9_isDone_b126
    have hi107 : vp_in a1 12 := vp_of (by first | omega | ((try simp only [Int32.lt_iff_toInt_lt, Int32.le_iff_toInt_le, ← Int32.toInt_inj, Int32.toInt_toInt64, tiA, tlA]); omega) | (split <;> omega)) (by first | omega | ((try simp only [Int32.lt_iff_toInt_lt, Int32.le_iff_toInt_le, ← Int32.toInt_inj, Int32.toInt_toInt64, tiA, tlA]); omega) | (split <;> omega))
    refine ⟨hi107, ?_⟩
    have hz108 := vlt hi107
    refine ⟨_, s_X9_wall  ((0 : Int32)) ((it0 515 a1.toNatClampNeg)) hI , ?_⟩
    intro v114 lg109 it110 hq
    obtain ⟨hI111, hK112⟩ := hq
    have hK113 : Kd (fun j => j = 490 ∨ j = 491 ∨ j = 492 ∨ j = 493 ∨ j = 494 ∨ j = 501 ∨ j = 502 ∨ j = 503 ∨ j = 504 ∨ j = 505 ∨ j = 506 ∨ j = 507 ∨ j = 508 ∨ j = 509 ∨ j = 510 ∨ j = 511 ∨ j = 512) (fun k => k = 0 ∨ k = 1 ∨ k = 2 ∨ k = 3 ∨ k = 18 ∨ k = 19 ∨ k = 20 ∨ k = 28 ∨ k = 29 ∨ k = 30 ∨ k = 31 ∨ k = 32 ∨ k = 33 ∨ k = 34 ∨ k = 35 ∨ k = 36 ∨ k = 37 ∨ k = 38 ∨ k = 39 ∨ k = 40 ∨ k = 41 ∨ k = 42 ∨ k = 43) lg0 it0 lg109 it110 := kd_t hKr hK112 (fun j hj => by first | omega | exact False.elim hj | (dsimp only at hj ⊢; omega)) (fun j hj => by first | omega | exact False.elim hj | (dsimp only at hj ⊢; omega))
    refine ⟨fun c137 => ?_, fun c137 => ?_⟩
    · try simp only [Int32.lt_iff_toInt_lt, Int32.le_iff_toInt_le, ← Int32.toInt_inj, Int32.toInt_toInt64, tiA, tlA] at c137
      subst hp
      exact ⟨⟨hI111, hK113⟩, by first | exact Or.inl rfl | exact Or.inr rfl | assumption⟩
    · try simp only [Int32.lt_iff_toInt_lt, Int32.le_iff_toInt_le, ← Int32.toInt_inj, Int32.toInt_toInt64, tiA, tlA] at c137
      refine ⟨fun c143 => ?_, fun c143 => ?_⟩
      · try simp only [Int32.lt_iff_toInt_lt, Int32.le_iff_toInt_le, ← Int32.toInt_inj, Int32.toInt_toInt64, tiA, tlA] at c143
        subst hp
        exact ⟨⟨hI111, hK113⟩, by first | exact Or.inl rfl | exact Or.inr rfl | assumption⟩
      · try simp only [Int32.lt_iff_toInt_lt, Int32.le_iff_toInt_le, ← Int32.toInt_inj, Int32.toInt_toInt64, tiA, tlA] at c143
        subst hp
        exact ⟨⟨hI111, hK113⟩, by first | exact Or.inl rfl | exact Or.inr rfl | assumption⟩
set_option maxRecDepth 100000 in
theorem s_X9_of (a1 : Int32) (a2 : Int32) (a3 : Int32) {lg0 : LGt} {it0 : ITt} (hI : I9 lg0 it0) : w_X9_of a1 a2 a3 (fun (v : Int64) (lg' : LGt) (it' : ITt) => (I9 lg' it' ∧ Kd (fun j => False) (fun k => False) lg0 it0 lg' it'))  lg0 it0 := by
  have hb_a1 := And.intro a1.le_toInt a1.toInt_lt
  have hb_a2 := And.intro a2.le_toInt a2.toInt_lt
  have hb_a3 := And.intro a3.le_toInt a3.toInt_lt
  have hKr : Kd (fun j => False) (fun k => False) lg0 it0 lg0 it0 := kd_r
  generalize hp : (fun (v : Int64) (lg' : LGt) (it' : ITt) => (I9 lg' it' ∧ Kd (fun j => False) (fun k => False) lg0 it0 lg' it')) = Pz
  unfold w_X9_of
  have t0 := ti_0
  have t9 := ti_9
  have tm1 := ti_m1
  have f0 := i9_f hI (j := 489) (k := 0) rfl
  have fB : (it0 489 0 - 1).toInt = (it0 489 0).toInt - 1 := sb32 rfl ti_1 (by omega) (by omega)
  have f27 : 0 ≤ (it0 489 0).toInt ∧ (it0 489 0).toInt ≤ 6 := i9_f hI (j := 489) (k := 0) rfl
  refine ⟨fun c5 => ?_, fun c5 => ?_⟩
  · try simp only [Int32.lt_iff_toInt_lt, Int32.le_iff_toInt_le, ← Int32.toInt_inj, Int32.toInt_toInt64, tiA, tlA] at c5
    subst hp
    exact ⟨hI, hKr⟩
  · try simp only [Int32.lt_iff_toInt_lt, Int32.le_iff_toInt_le, ← Int32.toInt_inj, Int32.toInt_toInt64, tiA, tlA] at c5
    refine ⟨fun c17 => ?_, fun c17 => ?_⟩
    · try simp only [Int32.lt_iff_toInt_lt, Int32.le_iff_toInt_le, ← Int32.toInt_inj, Int32.toInt_toInt64, tiA, tlA] at c17
      subst hp
      exact ⟨hI, hKr⟩
    · try simp only [Int32.lt_iff_toInt_lt, Int32.le_iff_toInt_le, ← Int32.toInt_inj, Int32.toInt_toInt64, tiA, tlA] at c17
      refine ⟨fun c24 => ?_, fun c24 => ?_⟩
      · try simp only [Int32.lt_iff_toInt_lt, Int32.le_iff_toInt_le, ← Int32.toInt_inj, Int32.toInt_toInt64, tiA, tlA] at c24
        refine ⟨fun c33 => ?_, fun c33 => ?_⟩
        · try simp only [Int32.lt_iff_toInt_lt, Int32.le_iff_toInt_le, ← Int32.toInt_inj, Int32.toInt_toInt64, tiA, tlA] at c33
          refine ⟨fun c53 => ?_, fun c53 => ?_⟩
          · try simp only [Int32.lt_iff_toInt_lt, Int32.le_iff_toInt_le, ← Int32.toInt_inj, Int32.toInt_toInt64, tiA, tlA] at c53
            refine ⟨fun c77 => ?_, fun c77 => ?_⟩
            · try simp only [Int32.lt_iff_toInt_lt, Int32.le_iff_toInt_le, ← Int32.toInt_inj, Int32.toInt_toInt64, tiA, tlA] at c77
              have hi28 : vp_in a1 6 := vp_of (by first | omega | ((try simp only [Int32.lt_iff_toInt_lt, Int32.le_iff_toInt_le, ← Int32.toInt_inj, Int32.toInt_toInt64, tiA, tlA]); omega) | (split <;> omega)) (by first | omega | ((try simp only [Int32.lt_iff_toInt_lt, Int32.le_iff_toInt_le, ← Int32.toInt_inj, Int32.toInt_toInt64, tiA, tlA]); omega) | (split <;> omega))
              refine ⟨hi28, ?_⟩
              have hz29 := vlt hi28
              subst hp
              exact ⟨hI, hKr⟩
            · try simp only [Int32.lt_iff_toInt_lt, Int32.le_iff_toInt_le, ← Int32.toInt_inj, Int32.toInt_toInt64, tiA, tlA] at c77
              have hi30 : vp_in a1 6 := vp_of (by first | omega | ((try simp only [Int32.lt_iff_toInt_lt, Int32.le_iff_toInt_le, ← Int32.toInt_inj, Int32.toInt_toInt64, tiA, tlA]); omega) | (split <;> omega)) (by first | omega | ((try simp only [Int32.lt_iff_toInt_lt, Int32.le_iff_toInt_le, ← Int32.toInt_inj, Int32.toInt_toInt64, tiA, tlA]); omega) | (split <;> omega))
              refine ⟨hi30, ?_⟩
              have hz31 := vlt hi30
              subst hp
              exact ⟨hI, hKr⟩
          · try simp only [Int32.lt_iff_toInt_lt, Int32.le_iff_toInt_le, ← Int32.toInt_inj, Int32.toInt_toInt64, tiA, tlA] at c53
            refine ⟨fun c57 => ?_, fun c57 => ?_⟩
            · try simp only [Int32.lt_iff_toInt_lt, Int32.le_iff_toInt_le, ← Int32.toInt_inj, Int32.toInt_toInt64, tiA, tlA] at c57
              have hi32 : vp_in a1 6 := vp_of (by first | omega | ((try simp only [Int32.lt_iff_toInt_lt, Int32.le_iff_toInt_le, ← Int32.toInt_inj, Int32.toInt_toInt64, tiA, tlA]); omega) | (split <;> omega)) (by first | omega | ((try simp only [Int32.lt_iff_toInt_lt, Int32.le_iff_toInt_le, ← Int32.toInt_inj, Int32.toInt_toInt64, tiA, tlA]); omega) | (split <;> omega))
              refine ⟨hi32, ?_⟩
              have hz33 := vlt hi32
              subst hp
              exact ⟨hI, hKr⟩
            · try simp only [Int32.lt_iff_toInt_lt, Int32.le_iff_toInt_le, ← Int32.toInt_inj, Int32.toInt_toInt64, tiA, tlA] at c57
              have hi34 : vp_in a1 6 := vp_of (by first | omega | ((try simp only [Int32.lt_iff_toInt_lt, Int32.le_iff_toInt_le, ← Int32.toInt_inj, Int32.toInt_toInt64, tiA, tlA]); omega) | (split <;> omega)) (by first | omega | ((try simp only [Int32.lt_iff_toInt_lt, Int32.le_iff_toInt_le, ← Int32.toInt_inj, Int32.toInt_toInt64, tiA, tlA]); omega) | (split <;> omega))
              refine ⟨hi34, ?_⟩
              have hz35 := vlt hi34
              subst hp
              exact ⟨hI, hKr⟩
        · try simp only [Int32.lt_iff_toInt_lt, Int32.le_iff_toInt_le, ← Int32.toInt_inj, Int32.toInt_toInt64, tiA, tlA] at c33
          refine ⟨fun c37 => ?_, fun c37 => ?_⟩
          · try simp only [Int32.lt_iff_toInt_lt, Int32.le_iff_toInt_le, ← Int32.toInt_inj, Int32.toInt_toInt64, tiA, tlA] at c37
            subst hp
            exact ⟨hI, hKr⟩
          · try simp only [Int32.lt_iff_toInt_lt, Int32.le_iff_toInt_le, ← Int32.toInt_inj, Int32.toInt_toInt64, tiA, tlA] at c37
            have hi36 : vp_in a1 6 := vp_of (by first | omega | ((try simp only [Int32.lt_iff_toInt_lt, Int32.le_iff_toInt_le, ← Int32.toInt_inj, Int32.toInt_toInt64, tiA, tlA]); omega) | (split <;> omega)) (by first | omega | ((try simp only [Int32.lt_iff_toInt_lt, Int32.le_iff_toInt_le, ← Int32.toInt_inj, Int32.toInt_toInt64, tiA, tlA]); omega) | (split <;> omega))
            refine ⟨hi36, ?_⟩
            have hz37 := vlt hi36
            subst hp
            exact ⟨hI, hKr⟩
      · try simp only [Int32.lt_iff_toInt_lt, Int32.le_iff_toInt_le, ← Int32.toInt_inj, Int32.toInt_toInt64, tiA, tlA] at c24
        subst hp
        exact ⟨hI, hKr⟩
set_option maxRecDepth 100000 in
theorem s_X9_told (a1 : Int32) {lg0 : LGt} {it0 : ITt} (hI : I9 lg0 it0) : w_X9_told a1 (fun (v : Int32) (lg' : LGt) (it' : ITt) => (I9 lg' it' ∧ Kd (fun j => j = 501 ∨ j = 502 ∨ j = 503 ∨ j = 504 ∨ j = 505 ∨ j = 506 ∨ j = 507 ∨ j = 508 ∨ j = 509 ∨ j = 510 ∨ j = 511 ∨ j = 512) (fun k => k = 18 ∨ k = 19 ∨ k = 20 ∨ k = 28 ∨ k = 29 ∨ k = 30 ∨ k = 31 ∨ k = 32 ∨ k = 33 ∨ k = 34 ∨ k = 35 ∨ k = 36 ∨ k = 37 ∨ k = 38 ∨ k = 39 ∨ k = 40 ∨ k = 41 ∨ k = 42 ∨ k = 43) lg0 it0 lg' it'))  lg0 it0 := by
  have hb_a1 := And.intro a1.le_toInt a1.toInt_lt
  have hKr : Kd (fun j => j = 501 ∨ j = 502 ∨ j = 503 ∨ j = 504 ∨ j = 505 ∨ j = 506 ∨ j = 507 ∨ j = 508 ∨ j = 509 ∨ j = 510 ∨ j = 511 ∨ j = 512) (fun k => k = 18 ∨ k = 19 ∨ k = 20 ∨ k = 28 ∨ k = 29 ∨ k = 30 ∨ k = 31 ∨ k = 32 ∨ k = 33 ∨ k = 34 ∨ k = 35 ∨ k = 36 ∨ k = 37 ∨ k = 38 ∨ k = 39 ∨ k = 40 ∨ k = 41 ∨ k = 42 ∨ k = 43) lg0 it0 lg0 it0 := kd_r
  generalize hp : (fun (v : Int32) (lg' : LGt) (it' : ITt) => (I9 lg' it' ∧ Kd (fun j => j = 501 ∨ j = 502 ∨ j = 503 ∨ j = 504 ∨ j = 505 ∨ j = 506 ∨ j = 507 ∨ j = 508 ∨ j = 509 ∨ j = 510 ∨ j = 511 ∨ j = 512) (fun k => k = 18 ∨ k = 19 ∨ k = 20 ∨ k = 28 ∨ k = 29 ∨ k = 30 ∨ k = 31 ∨ k = 32 ∨ k = 33 ∨ k = 34 ∨ k = 35 ∨ k = 36 ∨ k = 37 ∨ k = 38 ∨ k = 39 ∨ k = 40 ∨ k = 41 ∨ k = 42 ∨ k = 43) lg0 it0 lg' it')) = Pz
  unfold w_X9_told
  refine ⟨fun c9 => ?_, fun c9 => ?_⟩
  · try simp only [Int32.lt_iff_toInt_lt, Int32.le_iff_toInt_le, ← Int32.toInt_inj, Int32.toInt_toInt64, tiA, tlA] at c9
    refine ⟨fun c15 => ?_, fun c15 => ?_, fun c15 => ?_, fun c15 => ?_, fun c15 => ?_, trivial⟩
    · skip
      refine ⟨_, s_X9_findAll   hI , ?_⟩
      intro lg22 it23 hq
      obtain ⟨⟨hI24, hK25⟩, ha28⟩ := hq
      have hK26 : Kd (fun j => j = 501 ∨ j = 502 ∨ j = 503 ∨ j = 504 ∨ j = 505 ∨ j = 506 ∨ j = 507 ∨ j = 508 ∨ j = 509 ∨ j = 510 ∨ j = 511 ∨ j = 512) (fun k => k = 18 ∨ k = 19 ∨ k = 20 ∨ k = 28 ∨ k = 29 ∨ k = 30 ∨ k = 31 ∨ k = 32 ∨ k = 33 ∨ k = 34 ∨ k = 35 ∨ k = 36 ∨ k = 37 ∨ k = 38 ∨ k = 39 ∨ k = 40 ∨ k = 41 ∨ k = 42 ∨ k = 43) lg0 it0 lg22 it23 := kd_t hKr hK25 (fun j hj => by first | omega | exact False.elim hj | (dsimp only at hj ⊢; omega)) (fun j hj => by first | omega | exact False.elim hj | (dsimp only at hj ⊢; omega))
      have PB29 := ha28.1
      have PT30 := ha28.2
      refine ⟨fun c76 => ?_, fun c76 => ?_⟩
      · try simp only [Int32.lt_iff_toInt_lt, Int32.le_iff_toInt_le, ← Int32.toInt_inj, Int32.toInt_toInt64, tiA, tlA] at c76
        subst hp
        exact ⟨hI24, hK26⟩
      · try simp only [Int32.lt_iff_toInt_lt, Int32.le_iff_toInt_le, ← Int32.toInt_inj, Int32.toInt_toInt64, tiA, tlA] at c76
        have f31 : 0 ≤ (it23 489 42).toInt ∧ (it23 489 42).toInt ≤ 20 := i9_f hI24 (j := 489) (k := 42) rfl
        subst hp
        exact ⟨hI24, hK26⟩
    · skip
      have f32 : 0 ≤ (it0 489 0).toInt ∧ (it0 489 0).toInt ≤ 6 := i9_f hI (j := 489) (k := 0) rfl
      subst hp
      exact ⟨hI, hKr⟩
    · skip
      subst hp
      exact ⟨hI, hKr⟩
    · skip
      subst hp
      exact ⟨hI, hKr⟩
    · skip
      subst hp
      exact ⟨hI, hKr⟩
  · try simp only [Int32.lt_iff_toInt_lt, Int32.le_iff_toInt_le, ← Int32.toInt_inj, Int32.toInt_toInt64, tiA, tlA] at c9
    subst hp
    exact ⟨hI, hKr⟩
set_option maxRecDepth 100000 in
theorem s_X9_sums (a1 : Int32) {lg0 : LGt} {it0 : ITt} (hI : I9 lg0 it0) (hT : T9 lg0 it0) : w_X9_sums a1 (fun (v : Int32) (lg' : LGt) (it' : ITt) => (I9 lg' it' ∧ Kd (fun j => False) (fun k => k = 18 ∨ k = 19 ∨ k = 20) lg0 it0 lg' it') ∧ (v = 0 ∨ v = 1))  lg0 it0 := by
  have hb_a1 := And.intro a1.le_toInt a1.toInt_lt
  have hKr : Kd (fun j => False) (fun k => k = 18 ∨ k = 19 ∨ k = 20) lg0 it0 lg0 it0 := kd_r
  generalize hp : (fun (v : Int32) (lg' : LGt) (it' : ITt) => (I9 lg' it' ∧ Kd (fun j => False) (fun k => k = 18 ∨ k = 19 ∨ k = 20) lg0 it0 lg' it') ∧ (v = 0 ∨ v = 1)) = Pz
  unfold w_X9_sums
  have t0 := ti_0
  have t9 := ti_9
  have tm1 := ti_m1
  intro it73 em74
  have hI75 : I9 lg0 it73 := by rw [em74]; exact i9_u hI (ok9_b (a := 0) (b := 1) rfl (by first | decide | ((try simp only [Int32.lt_iff_toInt_lt, Int32.le_iff_toInt_le, ← Int32.toInt_inj, Int32.toInt_toInt64, tiA, tlA]); omega) | (split <;> (try simp only [Int32.lt_iff_toInt_lt, Int32.le_iff_toInt_le, ← Int32.toInt_inj, Int32.toInt_toInt64, tiA, tlA]) <;> omega))) (by decide) (fun _ => by decide)
  have hK76 : Kd (fun j => False) (fun k => k = 18 ∨ k = 19 ∨ k = 20) lg0 it0 lg0 it73 := by rw [em74]; exact kd_uf (by first | decide | (dsimp only; decide) | omega | (dsimp only; omega)) hKr
  have e77 : (it73 489 0).toInt = (it0 489 0).toInt := by rw [em74]; exact congrArg Int32.toInt (u2_ne (by decide))
  have PT78 : T9 lg0 it73 := T9_c hT rfl rfl (by rw [em74]; exact u2_row (by decide)) (by rw [em74]; exact u2_ne (by decide))
  have lp13 : ∀ (n : Nat) (x2 : Int64) (x4 : Int64) (x6 : Int32) (lg : LGt) (it : ITt), I9 lg it → Kd (fun j => False) (fun k => k = 18 ∨ k = 19 ∨ k = 20) lg0 it0 lg it → ((0 ≤ (x6).toInt) ∧ (T9 lg it) ∧ (¬ (x4) = 0)) → (7 - (x6).toInt).toNat < n → w_X9_sums_b13 a1 Pz  n x2 x4 x6 lg it := by
    intro n13
    induction n13 with
    | zero => intro x2 x4 x6 lg it _ _ _ hn; exact absurd hn (Nat.not_lt_zero _)
    | succ n13 ih13 =>
      intro x2 x4 x6 lg81 it82 hI79 hK80 hv hn
      unfold w_X9_sums_b13
      obtain ⟨hv13_0, hv13_1, hv13_2⟩ := hv
      have f83 : 0 ≤ (it82 489 0).toInt ∧ (it82 489 0).toInt ≤ 6 := i9_f hI79 (j := 489) (k := 0) rfl
      refine ⟨fun c19 => ?_, fun c19 => ?_⟩
      · try simp only [Int32.lt_iff_toInt_lt, Int32.le_iff_toInt_le, ← Int32.toInt_inj, Int32.toInt_toInt64, tiA, tlA] at c19
        intro lg84 em85
        have hI86 : I9 lg84 it82 := by rw [em85]; exact i9_l hI79 (by decide) (by decide) (by decide)
        have hK87 : Kd (fun j => False) (fun k => k = 18 ∨ k = 19 ∨ k = 20) lg0 it0 lg84 it82 := by rw [em85]; exact kd_lf (by first | decide | (dsimp only; decide) | omega | (dsimp only; omega)) hK80
        have PT88 : T9 lg84 it82 := T9_c hv13_1 (by rw [em85]; exact u2_row (by decide)) (by rw [em85]; exact u2_row (by decide)) rfl rfl
        intro lg89 em90
        have hI91 : I9 lg89 it82 := by rw [em90]; exact i9_l hI86 (by decide) (by decide) (by decide)
        have hK92 : Kd (fun j => False) (fun k => k = 18 ∨ k = 19 ∨ k = 20) lg0 it0 lg89 it82 := by rw [em90]; exact kd_lf (by first | decide | (dsimp only; decide) | omega | (dsimp only; omega)) hK87
        have PT93 : T9 lg89 it82 := T9_c PT88 (by rw [em90]; exact u2_row (by decide)) (by rw [em90]; exact u2_row (by decide)) rfl rfl
        have f94 : 0 ≤ (it82 489 20).toInt ∧ (it82 489 20).toInt ≤ 1 := i9_f hI91 (j := 489) (k := 20) rfl
        refine ⟨fun c156 => ?_, fun c156 => ?_⟩
        · try simp only [Int32.lt_iff_toInt_lt, Int32.le_iff_toInt_le, ← Int32.toInt_inj, Int32.toInt_toInt64, tiA, tlA] at c156
          intro it95 em96
          have hI97 : I9 lg89 it95 := by rw [em96]; exact i9_u hI91 (ok9_b (a := 0) (b := 1) rfl (by first | decide | ((try simp only [Int32.lt_iff_toInt_lt, Int32.le_iff_toInt_le, ← Int32.toInt_inj, Int32.toInt_toInt64, tiA, tlA]); omega) | (split <;> (try simp only [Int32.lt_iff_toInt_lt, Int32.le_iff_toInt_le, ← Int32.toInt_inj, Int32.toInt_toInt64, tiA, tlA]) <;> omega))) (by decide) (fun _ => by decide)
          have hK98 : Kd (fun j => False) (fun k => k = 18 ∨ k = 19 ∨ k = 20) lg0 it0 lg89 it95 := by rw [em96]; exact kd_uf (by first | decide | (dsimp only; decide) | omega | (dsimp only; omega)) hK92
          have e99 : (it95 489 0).toInt = (it82 489 0).toInt := by rw [em96]; exact congrArg Int32.toInt (u2_ne (by decide))
          have PT101 : T9 lg89 it95 := T9_c PT93 rfl rfl (by rw [em96]; exact u2_row (by decide)) (by rw [em96]; exact u2_ne (by decide))
          have e102 : (it95 489 20).toInt = (0 : Int32).toInt := by rw [em96]; exact congrArg Int32.toInt u2_eq
          subst hp
          exact ⟨⟨hI97, hK98⟩, by first | exact Or.inl rfl | exact Or.inr rfl | assumption⟩
        · try simp only [Int32.lt_iff_toInt_lt, Int32.le_iff_toInt_le, ← Int32.toInt_inj, Int32.toInt_toInt64, tiA, tlA] at c156
          intro it103 em104
          have hI105 : I9 lg89 it103 := by rw [em104]; exact i9_u hI91 (ok9_b (a := 0) (b := 1) rfl (by first | decide | ((try simp only [Int32.lt_iff_toInt_lt, Int32.le_iff_toInt_le, ← Int32.toInt_inj, Int32.toInt_toInt64, tiA, tlA]); omega) | (split <;> (try simp only [Int32.lt_iff_toInt_lt, Int32.le_iff_toInt_le, ← Int32.toInt_inj, Int32.toInt_toInt64, tiA, tlA]) <;> omega))) (by decide) (fun _ => by decide)
          have hK106 : Kd (fun j => False) (fun k => k = 18 ∨ k = 19 ∨ k = 20) lg0 it0 lg89 it103 := by rw [em104]; exact kd_uf (by first | decide | (dsimp only; decide) | omega | (dsimp only; omega)) hK92
          have e107 : (it103 489 0).toInt = (it82 489 0).toInt := by rw [em104]; exact congrArg Int32.toInt (u2_ne (by decide))
          have PT109 : T9 lg89 it103 := T9_c PT93 rfl rfl (by rw [em104]; exact u2_row (by decide)) (by rw [em104]; exact u2_ne (by decide))
          have e110 : (it103 489 20).toInt = (0 : Int32).toInt := by rw [em104]; exact congrArg Int32.toInt u2_eq
          subst hp
          exact ⟨⟨hI105, hK106⟩, by first | exact Or.inl rfl | exact Or.inr rfl | assumption⟩
      · try simp only [Int32.lt_iff_toInt_lt, Int32.le_iff_toInt_le, ← Int32.toInt_inj, Int32.toInt_toInt64, tiA, tlA] at c19
        refine ⟨fun c23 => ?_, fun c23 => ?_⟩
        · try simp only [Int32.lt_iff_toInt_lt, Int32.le_iff_toInt_le, ← Int32.toInt_inj, Int32.toInt_toInt64, tiA, tlA] at c23
          have hi111 : vp_in x6 6 := vp_of (by first | omega | ((try simp only [Int32.lt_iff_toInt_lt, Int32.le_iff_toInt_le, ← Int32.toInt_inj, Int32.toInt_toInt64, tiA, tlA]); omega) | (split <;> omega)) (by first | omega | ((try simp only [Int32.lt_iff_toInt_lt, Int32.le_iff_toInt_le, ← Int32.toInt_inj, Int32.toInt_toInt64, tiA, tlA]); omega) | (split <;> omega))
          refine ⟨hi111, ?_⟩
          have hz112 := vlt hi111
          have hi113 : vp_in x6 6 := vp_of (by first | omega | ((try simp only [Int32.lt_iff_toInt_lt, Int32.le_iff_toInt_le, ← Int32.toInt_inj, Int32.toInt_toInt64, tiA, tlA]); omega) | (split <;> omega)) (by first | omega | ((try simp only [Int32.lt_iff_toInt_lt, Int32.le_iff_toInt_le, ← Int32.toInt_inj, Int32.toInt_toInt64, tiA, tlA]); omega) | (split <;> omega))
          refine ⟨hi113, ?_⟩
          have hz114 := vlt hi113
          have hi115 : vp_in x6 6 := vp_of (by first | omega | ((try simp only [Int32.lt_iff_toInt_lt, Int32.le_iff_toInt_le, ← Int32.toInt_inj, Int32.toInt_toInt64, tiA, tlA]); omega) | (split <;> omega)) (by first | omega | ((try simp only [Int32.lt_iff_toInt_lt, Int32.le_iff_toInt_le, ← Int32.toInt_inj, Int32.toInt_toInt64, tiA, tlA]); omega) | (split <;> omega))
          refine ⟨hi115, ?_⟩
          have hz116 := vlt hi115
          have hi117 : vp_in x6 6 := vp_of (by first | omega | ((try simp only [Int32.lt_iff_toInt_lt, Int32.le_iff_toInt_le, ← Int32.toInt_inj, Int32.toInt_toInt64, tiA, tlA]); omega) | (split <;> omega)) (by first | omega | ((try simp only [Int32.lt_iff_toInt_lt, Int32.le_iff_toInt_le, ← Int32.toInt_inj, Int32.toInt_toInt64, tiA, tlA]); omega) | (split <;> omega))
          refine ⟨hi117, ?_⟩
          have hz118 := vlt hi117
          have hc122 : o01 it82 := i9_o hI79
          refine ⟨hc122, ?_⟩
          have hc123 : ¬ (lg81 505 x6.toNatClampNeg) = 0 := (hv13_1 (x6).toNatClampNeg (by have z1 := cl32 (i := x6) (by omega); omega) (by have z1 := cl32 (i := x6) (by omega); omega)).1.2
          refine ⟨hc123, ?_⟩
          have hc124 : ¬ (lg81 505 x6.toNatClampNeg) = 0 := (hv13_1 (x6).toNatClampNeg (by have z1 := cl32 (i := x6) (by omega); omega) (by have z1 := cl32 (i := x6) (by omega); omega)).1.2
          refine ⟨hc124, ?_⟩
          intro q119 em_q119 lg120 em_lg120 it121 em_it121
          have hI125 : I9 lg120 it121 := by rw [em_lg120, em_it121]; exact i9_g hI79 (by rw [em_q119]; exact gT_o (i9_o hI79))
          have hK126 : Kd (fun j => False) (fun k => k = 18 ∨ k = 19 ∨ k = 20) lg0 it0 lg120 it121 := by rw [em_lg120, em_it121]; exact kd_g (by first | decide | (dsimp only; decide) | omega | (dsimp only; omega)) (by first | decide | (dsimp only; decide) | omega | (dsimp only; omega)) (by first | decide | (dsimp only; decide) | omega | (dsimp only; omega)) hK80
          have z19_lg120 : ¬ lg120 489 19 = 0 := by rw [em_lg120, setU_19, em_q119]; exact gT_d hc123 hc124
          have e127 : (it121 489 0).toInt = (it82 489 0).toInt := by rw [em_it121]; exact congrArg Int32.toInt (setO_c (by decide))
          have PT128 : T9 lg120 it121 := T9_c hv13_1 (by rw [em_lg120]; exact setU_row (by decide)) (by rw [em_lg120]; exact setU_row (by decide)) (by rw [em_it121]; exact setO_row (by decide)) (by rw [em_it121]; exact setO_c (by decide))
          have hi129 : vp_in x6 6 := vp_of (by first | omega | ((try simp only [Int32.lt_iff_toInt_lt, Int32.le_iff_toInt_le, ← Int32.toInt_inj, Int32.toInt_toInt64, tiA, tlA]); omega) | (split <;> omega)) (by first | omega | ((try simp only [Int32.lt_iff_toInt_lt, Int32.le_iff_toInt_le, ← Int32.toInt_inj, Int32.toInt_toInt64, tiA, tlA]); omega) | (split <;> omega))
          refine ⟨hi129, ?_⟩
          have hz130 := vlt hi129
          have hc134 : o01 it121 := i9_o hI125
          refine ⟨hc134, ?_⟩
          have hc135 : ¬ (lg120 489 19) = 0 := by assumption
          refine ⟨hc135, ?_⟩
          have hc136 : ¬ (1 : Int64) = 0 := by decide
          refine ⟨hc136, ?_⟩
          intro q131 em_q131 lg132 em_lg132 it133 em_it133
          have hI137 : I9 lg132 it133 := by rw [em_lg132, em_it133]; exact i9_g hI125 (by rw [em_q131]; exact gT_o (i9_o hI125))
          have hK138 : Kd (fun j => False) (fun k => k = 18 ∨ k = 19 ∨ k = 20) lg0 it0 lg132 it133 := by rw [em_lg132, em_it133]; exact kd_g (by first | decide | (dsimp only; decide) | omega | (dsimp only; omega)) (by first | decide | (dsimp only; decide) | omega | (dsimp only; omega)) (by first | decide | (dsimp only; decide) | omega | (dsimp only; omega)) hK126
          have z19_lg132 : ¬ lg132 489 19 = 0 := by rw [em_lg132, setU_19, em_q131]; exact gT_d hc135 hc136
          have e139 : (it133 489 0).toInt = (it121 489 0).toInt := by rw [em_it133]; exact congrArg Int32.toInt (setO_c (by decide))
          have PT140 : T9 lg132 it133 := T9_c PT128 (by rw [em_lg132]; exact setU_row (by decide)) (by rw [em_lg132]; exact setU_row (by decide)) (by rw [em_it133]; exact setO_row (by decide)) (by rw [em_it133]; exact setO_c (by decide))
          unfold w_X9_sums_b109
          have hc144 : o01 it133 := i9_o hI137
          refine ⟨hc144, ?_⟩
          have hc145 : ¬ x4 = 0 := by assumption
          refine ⟨hc145, ?_⟩
          have hc146 : ¬ (lg132 489 19) = 0 := by assumption
          refine ⟨hc146, ?_⟩
          intro q141 em_q141 lg142 em_lg142 it143 em_it143
          have hI147 : I9 lg142 it143 := by rw [em_lg142, em_it143]; exact i9_g hI137 (by rw [em_q141]; exact gP_o (i9_o hI137))
          have hK148 : Kd (fun j => False) (fun k => k = 18 ∨ k = 19 ∨ k = 20) lg0 it0 lg142 it143 := by rw [em_lg142, em_it143]; exact kd_g (by first | decide | (dsimp only; decide) | omega | (dsimp only; omega)) (by first | decide | (dsimp only; decide) | omega | (dsimp only; omega)) (by first | decide | (dsimp only; decide) | omega | (dsimp only; omega)) hK138
          have z19_lg142 : ¬ lg142 489 19 = 0 := by rw [em_lg142, setU_19, em_q141]; exact gP_d hc145 hc146
          have e149 : (it143 489 0).toInt = (it133 489 0).toInt := by rw [em_it143]; exact congrArg Int32.toInt (setO_c (by decide))
          have PT150 : T9 lg142 it143 := T9_c PT140 (by rw [em_lg142]; exact setU_row (by decide)) (by rw [em_lg142]; exact setU_row (by decide)) (by rw [em_it143]; exact setO_row (by decide)) (by rw [em_it143]; exact setO_c (by decide))
          try have f151 : ((x6 + 1) : Int32).toInt = (x6).toInt + 1 := ad32 (a := (x6).toInt) (b := 1) (rfl) (ti_1) (by omega) (by omega)
          exact ih13 ((lg142 489 18)) ((lg142 489 19)) ((x6 + 1)) _ _ hI147 hK148 (by refine ⟨?_, ?_, ?_⟩ <;> first | exact Nx_0 | omega | assumption | exact Or.inl rfl | exact Or.inr rfl | exact i8_1 (by assumption) (by assumption) | decide) (by omega)
        · try simp only [Int32.lt_iff_toInt_lt, Int32.le_iff_toInt_le, ← Int32.toInt_inj, Int32.toInt_toInt64, tiA, tlA] at c23
          have hi152 : vp_in x6 6 := vp_of (by first | omega | ((try simp only [Int32.lt_iff_toInt_lt, Int32.le_iff_toInt_le, ← Int32.toInt_inj, Int32.toInt_toInt64, tiA, tlA]); omega) | (split <;> omega)) (by first | omega | ((try simp only [Int32.lt_iff_toInt_lt, Int32.le_iff_toInt_le, ← Int32.toInt_inj, Int32.toInt_toInt64, tiA, tlA]); omega) | (split <;> omega))
          refine ⟨hi152, ?_⟩
          have hz153 := vlt hi152
          have hi154 : vp_in x6 6 := vp_of (by first | omega | ((try simp only [Int32.lt_iff_toInt_lt, Int32.le_iff_toInt_le, ← Int32.toInt_inj, Int32.toInt_toInt64, tiA, tlA]); omega) | (split <;> omega)) (by first | omega | ((try simp only [Int32.lt_iff_toInt_lt, Int32.le_iff_toInt_le, ← Int32.toInt_inj, Int32.toInt_toInt64, tiA, tlA]); omega) | (split <;> omega))
          refine ⟨hi154, ?_⟩
          have hz155 := vlt hi154
          have hi156 : vp_in x6 6 := vp_of (by first | omega | ((try simp only [Int32.lt_iff_toInt_lt, Int32.le_iff_toInt_le, ← Int32.toInt_inj, Int32.toInt_toInt64, tiA, tlA]); omega) | (split <;> omega)) (by first | omega | ((try simp only [Int32.lt_iff_toInt_lt, Int32.le_iff_toInt_le, ← Int32.toInt_inj, Int32.toInt_toInt64, tiA, tlA]); omega) | (split <;> omega))
          refine ⟨hi156, ?_⟩
          have hz157 := vlt hi156
          have hc161 : o01 it82 := i9_o hI79
          refine ⟨hc161, ?_⟩
          have hc162 : ¬ (lg81 505 x6.toNatClampNeg) = 0 := (hv13_1 (x6).toNatClampNeg (by have z1 := cl32 (i := x6) (by omega); omega) (by have z1 := cl32 (i := x6) (by omega); omega)).1.2
          refine ⟨hc162, ?_⟩
          have hc163 : ¬ (1 : Int64) = 0 := by decide
          refine ⟨hc163, ?_⟩
          intro q158 em_q158 lg159 em_lg159 it160 em_it160
          have hI164 : I9 lg159 it160 := by rw [em_lg159, em_it160]; exact i9_g hI79 (by rw [em_q158]; exact gT_o (i9_o hI79))
          have hK165 : Kd (fun j => False) (fun k => k = 18 ∨ k = 19 ∨ k = 20) lg0 it0 lg159 it160 := by rw [em_lg159, em_it160]; exact kd_g (by first | decide | (dsimp only; decide) | omega | (dsimp only; omega)) (by first | decide | (dsimp only; decide) | omega | (dsimp only; omega)) (by first | decide | (dsimp only; decide) | omega | (dsimp only; omega)) hK80
          have z19_lg159 : ¬ lg159 489 19 = 0 := by rw [em_lg159, setU_19, em_q158]; exact gT_d hc162 hc163
          have e166 : (it160 489 0).toInt = (it82 489 0).toInt := by rw [em_it160]; exact congrArg Int32.toInt (setO_c (by decide))
          have PT167 : T9 lg159 it160 := T9_c hv13_1 (by rw [em_lg159]; exact setU_row (by decide)) (by rw [em_lg159]; exact setU_row (by decide)) (by rw [em_it160]; exact setO_row (by decide)) (by rw [em_it160]; exact setO_c (by decide))
          unfold w_X9_sums_b109
          have hc171 : o01 it160 := i9_o hI164
          refine ⟨hc171, ?_⟩
          have hc172 : ¬ x4 = 0 := by assumption
          refine ⟨hc172, ?_⟩
          have hc173 : ¬ (lg159 489 19) = 0 := by assumption
          refine ⟨hc173, ?_⟩
          intro q168 em_q168 lg169 em_lg169 it170 em_it170
          have hI174 : I9 lg169 it170 := by rw [em_lg169, em_it170]; exact i9_g hI164 (by rw [em_q168]; exact gP_o (i9_o hI164))
          have hK175 : Kd (fun j => False) (fun k => k = 18 ∨ k = 19 ∨ k = 20) lg0 it0 lg169 it170 := by rw [em_lg169, em_it170]; exact kd_g (by first | decide | (dsimp only; decide) | omega | (dsimp only; omega)) (by first | decide | (dsimp only; decide) | omega | (dsimp only; omega)) (by first | decide | (dsimp only; decide) | omega | (dsimp only; omega)) hK165
          have z19_lg169 : ¬ lg169 489 19 = 0 := by rw [em_lg169, setU_19, em_q168]; exact gP_d hc172 hc173
          have e176 : (it170 489 0).toInt = (it160 489 0).toInt := by rw [em_it170]; exact congrArg Int32.toInt (setO_c (by decide))
          have PT177 : T9 lg169 it170 := T9_c PT167 (by rw [em_lg169]; exact setU_row (by decide)) (by rw [em_lg169]; exact setU_row (by decide)) (by rw [em_it170]; exact setO_row (by decide)) (by rw [em_it170]; exact setO_c (by decide))
          try have f178 : ((x6 + 1) : Int32).toInt = (x6).toInt + 1 := ad32 (a := (x6).toInt) (b := 1) (rfl) (ti_1) (by omega) (by omega)
          exact ih13 ((lg169 489 18)) ((lg169 489 19)) ((x6 + 1)) _ _ hI174 hK175 (by refine ⟨?_, ?_, ?_⟩ <;> first | exact Nx_0 | omega | assumption | exact Or.inl rfl | exact Or.inr rfl | exact i8_1 (by assumption) (by assumption) | decide) (by omega)
  have t179 := ti_0
  exact ⟨_, lp13 ((7 - ((0 : Int32)).toInt).toNat + 1) ((0 : Int64)) ((1 : Int64)) ((0 : Int32)) _ _ hI75 hK76 (by refine ⟨?_, ?_, ?_⟩ <;> first | exact Nx_0 | omega | assumption | exact Or.inl rfl | exact Or.inr rfl | exact i8_1 (by assumption) (by assumption) | decide) (Nat.lt_succ_self _)⟩
set_option maxRecDepth 100000 in
theorem s_X9_push (a1 : Int32) (a2 : Int32) {lg0 : LGt} {it0 : ITt} (hI : I9 lg0 it0) : w_X9_push a1 a2 (fun (v : Int64) (lg' : LGt) (it' : ITt) => (I9 lg' it' ∧ Kd (fun j => j = 501 ∨ j = 502 ∨ j = 503 ∨ j = 504 ∨ j = 505 ∨ j = 506 ∨ j = 507 ∨ j = 508 ∨ j = 509 ∨ j = 510 ∨ j = 511 ∨ j = 512) (fun k => k = 18 ∨ k = 19 ∨ k = 20 ∨ k = 28 ∨ k = 29 ∨ k = 30 ∨ k = 31 ∨ k = 32 ∨ k = 33 ∨ k = 34 ∨ k = 35 ∨ k = 36 ∨ k = 37 ∨ k = 38 ∨ k = 39 ∨ k = 40 ∨ k = 41 ∨ k = 42 ∨ k = 43) lg0 it0 lg' it'))  lg0 it0 := by
  have hb_a1 := And.intro a1.le_toInt a1.toInt_lt
  have hb_a2 := And.intro a2.le_toInt a2.toInt_lt
  have hKr : Kd (fun j => j = 501 ∨ j = 502 ∨ j = 503 ∨ j = 504 ∨ j = 505 ∨ j = 506 ∨ j = 507 ∨ j = 508 ∨ j = 509 ∨ j = 510 ∨ j = 511 ∨ j = 512) (fun k => k = 18 ∨ k = 19 ∨ k = 20 ∨ k = 28 ∨ k = 29 ∨ k = 30 ∨ k = 31 ∨ k = 32 ∨ k = 33 ∨ k = 34 ∨ k = 35 ∨ k = 36 ∨ k = 37 ∨ k = 38 ∨ k = 39 ∨ k = 40 ∨ k = 41 ∨ k = 42 ∨ k = 43) lg0 it0 lg0 it0 := kd_r
  generalize hp : (fun (v : Int64) (lg' : LGt) (it' : ITt) => (I9 lg' it' ∧ Kd (fun j => j = 501 ∨ j = 502 ∨ j = 503 ∨ j = 504 ∨ j = 505 ∨ j = 506 ∨ j = 507 ∨ j = 508 ∨ j = 509 ∨ j = 510 ∨ j = 511 ∨ j = 512) (fun k => k = 18 ∨ k = 19 ∨ k = 20 ∨ k = 28 ∨ k = 29 ∨ k = 30 ∨ k = 31 ∨ k = 32 ∨ k = 33 ∨ k = 34 ∨ k = 35 ∨ k = 36 ∨ k = 37 ∨ k = 38 ∨ k = 39 ∨ k = 40 ∨ k = 41 ∨ k = 42 ∨ k = 43) lg0 it0 lg' it')) = Pz
  unfold w_X9_push
  refine ⟨fun c7 => ?_, fun c7 => ?_⟩
  · try simp only [Int32.lt_iff_toInt_lt, Int32.le_iff_toInt_le, ← Int32.toInt_inj, Int32.toInt_toInt64, tiA, tlA] at c7
    subst hp
    exact ⟨hI, hKr⟩
  · try simp only [Int32.lt_iff_toInt_lt, Int32.le_iff_toInt_le, ← Int32.toInt_inj, Int32.toInt_toInt64, tiA, tlA] at c7
    refine ⟨fun c14 => ?_, fun c14 => ?_⟩
    · try simp only [Int32.lt_iff_toInt_lt, Int32.le_iff_toInt_le, ← Int32.toInt_inj, Int32.toInt_toInt64, tiA, tlA] at c14
      refine ⟨_, s_X9_minds   hI , ?_⟩
      intro lg23 it24 hq
      obtain ⟨⟨hI25, hK26⟩, ha29⟩ := hq
      have hK27 : Kd (fun j => j = 501 ∨ j = 502 ∨ j = 503 ∨ j = 504 ∨ j = 505 ∨ j = 506 ∨ j = 507 ∨ j = 508 ∨ j = 509 ∨ j = 510 ∨ j = 511 ∨ j = 512) (fun k => k = 18 ∨ k = 19 ∨ k = 20 ∨ k = 28 ∨ k = 29 ∨ k = 30 ∨ k = 31 ∨ k = 32 ∨ k = 33 ∨ k = 34 ∨ k = 35 ∨ k = 36 ∨ k = 37 ∨ k = 38 ∨ k = 39 ∨ k = 40 ∨ k = 41 ∨ k = 42 ∨ k = 43) lg0 it0 lg23 it24 := kd_t hKr hK26 (fun j hj => by first | omega | exact False.elim hj | (dsimp only at hj ⊢; omega)) (fun j hj => by first | omega | exact False.elim hj | (dsimp only at hj ⊢; omega))
      refine ⟨_, s_X9_sums  (a1) hI25 (ha29), ?_⟩
      intro v35 lg30 it31 hq
      obtain ⟨⟨hI32, hK33⟩, ha36⟩ := hq
      have hK34 : Kd (fun j => j = 501 ∨ j = 502 ∨ j = 503 ∨ j = 504 ∨ j = 505 ∨ j = 506 ∨ j = 507 ∨ j = 508 ∨ j = 509 ∨ j = 510 ∨ j = 511 ∨ j = 512) (fun k => k = 18 ∨ k = 19 ∨ k = 20 ∨ k = 28 ∨ k = 29 ∨ k = 30 ∨ k = 31 ∨ k = 32 ∨ k = 33 ∨ k = 34 ∨ k = 35 ∨ k = 36 ∨ k = 37 ∨ k = 38 ∨ k = 39 ∨ k = 40 ∨ k = 41 ∨ k = 42 ∨ k = 43) lg0 it0 lg30 it31 := kd_t hK27 hK33 (fun j hj => by first | omega | exact False.elim hj | (dsimp only at hj ⊢; omega)) (fun j hj => by first | omega | exact False.elim hj | (dsimp only at hj ⊢; omega))
      have PT37 : T9 lg30 it31 := T9_c ha29 (hK33.1 503 (by decide) (by first | decide | (dsimp only; decide) | omega | (dsimp only; omega))).1 (hK33.1 505 (by decide) (by first | decide | (dsimp only; decide) | omega | (dsimp only; omega))).1 (hK33.1 501 (by decide) (by first | decide | (dsimp only; decide) | omega | (dsimp only; omega))).2 (hK33.2 0 (by first | decide | (dsimp only; decide) | omega | (dsimp only; omega))).2
      refine ⟨fun c30 => ?_, fun c30 => ?_⟩
      · try simp only [Int32.lt_iff_toInt_lt, Int32.le_iff_toInt_le, ← Int32.toInt_inj, Int32.toInt_toInt64, tiA, tlA] at c30
        subst hp
        exact ⟨hI32, hK34⟩
      · try simp only [Int32.lt_iff_toInt_lt, Int32.le_iff_toInt_le, ← Int32.toInt_inj, Int32.toInt_toInt64, tiA, tlA] at c30
        refine ⟨fun c34 => ?_, fun c34 => ?_⟩
        · try simp only [Int32.lt_iff_toInt_lt, Int32.le_iff_toInt_le, ← Int32.toInt_inj, Int32.toInt_toInt64, tiA, tlA] at c34
          subst hp
          exact ⟨hI32, hK34⟩
        · try simp only [Int32.lt_iff_toInt_lt, Int32.le_iff_toInt_le, ← Int32.toInt_inj, Int32.toInt_toInt64, tiA, tlA] at c34
          subst hp
          exact ⟨hI32, hK34⟩
    · try simp only [Int32.lt_iff_toInt_lt, Int32.le_iff_toInt_le, ← Int32.toInt_inj, Int32.toInt_toInt64, tiA, tlA] at c14
      subst hp
      exact ⟨hI, hKr⟩
set_option maxRecDepth 100000 in
theorem s_X9_where (a1 : Int32) {lg0 : LGt} {it0 : ITt} (hI : I9 lg0 it0) : w_X9_where a1 (fun (v : Int32) (lg' : LGt) (it' : ITt) => (I9 lg' it' ∧ Kd (fun j => j = 501 ∨ j = 502 ∨ j = 503 ∨ j = 504 ∨ j = 505 ∨ j = 506 ∨ j = 507 ∨ j = 508 ∨ j = 509 ∨ j = 510 ∨ j = 511 ∨ j = 512) (fun k => k = 18 ∨ k = 19 ∨ k = 20 ∨ k = 28 ∨ k = 29 ∨ k = 30 ∨ k = 31 ∨ k = 32 ∨ k = 33 ∨ k = 34 ∨ k = 35 ∨ k = 36 ∨ k = 37 ∨ k = 38 ∨ k = 39 ∨ k = 40 ∨ k = 41 ∨ k = 42 ∨ k = 43) lg0 it0 lg' it'))  lg0 it0 := by
  have hb_a1 := And.intro a1.le_toInt a1.toInt_lt
  have hKr : Kd (fun j => j = 501 ∨ j = 502 ∨ j = 503 ∨ j = 504 ∨ j = 505 ∨ j = 506 ∨ j = 507 ∨ j = 508 ∨ j = 509 ∨ j = 510 ∨ j = 511 ∨ j = 512) (fun k => k = 18 ∨ k = 19 ∨ k = 20 ∨ k = 28 ∨ k = 29 ∨ k = 30 ∨ k = 31 ∨ k = 32 ∨ k = 33 ∨ k = 34 ∨ k = 35 ∨ k = 36 ∨ k = 37 ∨ k = 38 ∨ k = 39 ∨ k = 40 ∨ k = 41 ∨ k = 42 ∨ k = 43) lg0 it0 lg0 it0 := kd_r
  generalize hp : (fun (v : Int32) (lg' : LGt) (it' : ITt) => (I9 lg' it' ∧ Kd (fun j => j = 501 ∨ j = 502 ∨ j = 503 ∨ j = 504 ∨ j = 505 ∨ j = 506 ∨ j = 507 ∨ j = 508 ∨ j = 509 ∨ j = 510 ∨ j = 511 ∨ j = 512) (fun k => k = 18 ∨ k = 19 ∨ k = 20 ∨ k = 28 ∨ k = 29 ∨ k = 30 ∨ k = 31 ∨ k = 32 ∨ k = 33 ∨ k = 34 ∨ k = 35 ∨ k = 36 ∨ k = 37 ∨ k = 38 ∨ k = 39 ∨ k = 40 ∨ k = 41 ∨ k = 42 ∨ k = 43) lg0 it0 lg' it')) = Pz
  unfold w_X9_where
  refine ⟨fun c1 => ?_, fun c1 => ?_⟩
  · try simp only [Int32.lt_iff_toInt_lt, Int32.le_iff_toInt_le, ← Int32.toInt_inj, Int32.toInt_toInt64, tiA, tlA] at c1
    refine ⟨_, s_X9_findAll   hI , ?_⟩
    intro lg14 it15 hq
    obtain ⟨⟨hI16, hK17⟩, ha20⟩ := hq
    have hK18 : Kd (fun j => j = 501 ∨ j = 502 ∨ j = 503 ∨ j = 504 ∨ j = 505 ∨ j = 506 ∨ j = 507 ∨ j = 508 ∨ j = 509 ∨ j = 510 ∨ j = 511 ∨ j = 512) (fun k => k = 18 ∨ k = 19 ∨ k = 20 ∨ k = 28 ∨ k = 29 ∨ k = 30 ∨ k = 31 ∨ k = 32 ∨ k = 33 ∨ k = 34 ∨ k = 35 ∨ k = 36 ∨ k = 37 ∨ k = 38 ∨ k = 39 ∨ k = 40 ∨ k = 41 ∨ k = 42 ∨ k = 43) lg0 it0 lg14 it15 := kd_t hKr hK17 (fun j hj => by first | omega | exact False.elim hj | (dsimp only at hj ⊢; omega)) (fun j hj => by first | omega | exact False.elim hj | (dsimp only at hj ⊢; omega))
    try have e21 : (it15 489 0).toInt = (it0 489 0).toInt := congrArg Int32.toInt (hK17.2 0 (by first | decide | (dsimp only; decide) | omega | (dsimp only; omega))).2
    try have e22 : (it15 489 42).toInt = (it0 489 42).toInt := congrArg Int32.toInt (hK17.2 42 (by first | decide | (dsimp only; decide) | omega | (dsimp only; omega))).2
    have PB23 := ha20.1
    have PT24 := ha20.2
    have f25 : 0 ≤ (it15 489 42).toInt ∧ (it15 489 42).toInt ≤ 20 := i9_f hI16 (j := 489) (k := 42) rfl
    refine ⟨fun c15 => ?_, fun c15 => ?_⟩
    · try simp only [Int32.lt_iff_toInt_lt, Int32.le_iff_toInt_le, ← Int32.toInt_inj, Int32.toInt_toInt64, tiA, tlA] at c15
      subst hp
      exact ⟨hI16, hK18⟩
    · try simp only [Int32.lt_iff_toInt_lt, Int32.le_iff_toInt_le, ← Int32.toInt_inj, Int32.toInt_toInt64, tiA, tlA] at c15
      have hi26 : vp_in a1 20 := vp_of (by first | omega | ((try simp only [Int32.lt_iff_toInt_lt, Int32.le_iff_toInt_le, ← Int32.toInt_inj, Int32.toInt_toInt64, tiA, tlA]); omega) | (split <;> omega)) (by first | omega | ((try simp only [Int32.lt_iff_toInt_lt, Int32.le_iff_toInt_le, ← Int32.toInt_inj, Int32.toInt_toInt64, tiA, tlA]); omega) | (split <;> omega))
      refine ⟨hi26, ?_⟩
      have hz27 := vlt hi26
      subst hp
      exact ⟨hI16, hK18⟩
  · try simp only [Int32.lt_iff_toInt_lt, Int32.le_iff_toInt_le, ← Int32.toInt_inj, Int32.toInt_toInt64, tiA, tlA] at c1
    subst hp
    exact ⟨hI, hKr⟩
set_option maxRecDepth 100000 in
theorem s_X9_time (a1 : Int32) (a2 : Int32) {lg0 : LGt} {it0 : ITt} (hI : I9 lg0 it0) : w_X9_time a1 a2 (fun (v : Int64) (lg' : LGt) (it' : ITt) => (I9 lg' it' ∧ Kd (fun j => j = 501 ∨ j = 502 ∨ j = 503 ∨ j = 504 ∨ j = 505 ∨ j = 506 ∨ j = 507 ∨ j = 508 ∨ j = 509 ∨ j = 510 ∨ j = 511 ∨ j = 512) (fun k => k = 18 ∨ k = 19 ∨ k = 20 ∨ k = 28 ∨ k = 29 ∨ k = 30 ∨ k = 31 ∨ k = 32 ∨ k = 33 ∨ k = 34 ∨ k = 35 ∨ k = 36 ∨ k = 37 ∨ k = 38 ∨ k = 39 ∨ k = 40 ∨ k = 41 ∨ k = 42 ∨ k = 43) lg0 it0 lg' it'))  lg0 it0 := by
  have hb_a1 := And.intro a1.le_toInt a1.toInt_lt
  have hb_a2 := And.intro a2.le_toInt a2.toInt_lt
  have hKr : Kd (fun j => j = 501 ∨ j = 502 ∨ j = 503 ∨ j = 504 ∨ j = 505 ∨ j = 506 ∨ j = 507 ∨ j = 508 ∨ j = 509 ∨ j = 510 ∨ j = 511 ∨ j = 512) (fun k => k = 18 ∨ k = 19 ∨ k = 20 ∨ k = 28 ∨ k = 29 ∨ k = 30 ∨ k = 31 ∨ k = 32 ∨ k = 33 ∨ k = 34 ∨ k = 35 ∨ k = 36 ∨ k = 37 ∨ k = 38 ∨ k = 39 ∨ k = 40 ∨ k = 41 ∨ k = 42 ∨ k = 43) lg0 it0 lg0 it0 := kd_r
  generalize hp : (fun (v : Int64) (lg' : LGt) (it' : ITt) => (I9 lg' it' ∧ Kd (fun j => j = 501 ∨ j = 502 ∨ j = 503 ∨ j = 504 ∨ j = 505 ∨ j = 506 ∨ j = 507 ∨ j = 508 ∨ j = 509 ∨ j = 510 ∨ j = 511 ∨ j = 512) (fun k => k = 18 ∨ k = 19 ∨ k = 20 ∨ k = 28 ∨ k = 29 ∨ k = 30 ∨ k = 31 ∨ k = 32 ∨ k = 33 ∨ k = 34 ∨ k = 35 ∨ k = 36 ∨ k = 37 ∨ k = 38 ∨ k = 39 ∨ k = 40 ∨ k = 41 ∨ k = 42 ∨ k = 43) lg0 it0 lg' it')) = Pz
  unfold w_X9_time
  refine ⟨fun c1 => ?_, fun c1 => ?_⟩
  · try simp only [Int32.lt_iff_toInt_lt, Int32.le_iff_toInt_le, ← Int32.toInt_inj, Int32.toInt_toInt64, tiA, tlA] at c1
    subst hp
    exact ⟨hI, hKr⟩
  · try simp only [Int32.lt_iff_toInt_lt, Int32.le_iff_toInt_le, ← Int32.toInt_inj, Int32.toInt_toInt64, tiA, tlA] at c1
    refine ⟨fun c8 => ?_, fun c8 => ?_⟩
    · try simp only [Int32.lt_iff_toInt_lt, Int32.le_iff_toInt_le, ← Int32.toInt_inj, Int32.toInt_toInt64, tiA, tlA] at c8
      refine ⟨_, s_X9_findAll   hI , ?_⟩
      intro lg20 it21 hq
      obtain ⟨⟨hI22, hK23⟩, ha26⟩ := hq
      have hK24 : Kd (fun j => j = 501 ∨ j = 502 ∨ j = 503 ∨ j = 504 ∨ j = 505 ∨ j = 506 ∨ j = 507 ∨ j = 508 ∨ j = 509 ∨ j = 510 ∨ j = 511 ∨ j = 512) (fun k => k = 18 ∨ k = 19 ∨ k = 20 ∨ k = 28 ∨ k = 29 ∨ k = 30 ∨ k = 31 ∨ k = 32 ∨ k = 33 ∨ k = 34 ∨ k = 35 ∨ k = 36 ∨ k = 37 ∨ k = 38 ∨ k = 39 ∨ k = 40 ∨ k = 41 ∨ k = 42 ∨ k = 43) lg0 it0 lg20 it21 := kd_t hKr hK23 (fun j hj => by first | omega | exact False.elim hj | (dsimp only at hj ⊢; omega)) (fun j hj => by first | omega | exact False.elim hj | (dsimp only at hj ⊢; omega))
      try have e27 : (it21 489 0).toInt = (it0 489 0).toInt := congrArg Int32.toInt (hK23.2 0 (by first | decide | (dsimp only; decide) | omega | (dsimp only; omega))).2
      try have e28 : (it21 489 42).toInt = (it0 489 42).toInt := congrArg Int32.toInt (hK23.2 42 (by first | decide | (dsimp only; decide) | omega | (dsimp only; omega))).2
      have PB29 := ha26.1
      have PT30 := ha26.2
      have f31 : 0 ≤ (it21 489 42).toInt ∧ (it21 489 42).toInt ≤ 20 := i9_f hI22 (j := 489) (k := 42) rfl
      refine ⟨fun c24 => ?_, fun c24 => ?_⟩
      · try simp only [Int32.lt_iff_toInt_lt, Int32.le_iff_toInt_le, ← Int32.toInt_inj, Int32.toInt_toInt64, tiA, tlA] at c24
        subst hp
        exact ⟨hI22, hK24⟩
      · try simp only [Int32.lt_iff_toInt_lt, Int32.le_iff_toInt_le, ← Int32.toInt_inj, Int32.toInt_toInt64, tiA, tlA] at c24
        refine ⟨fun c28 => ?_, fun c28 => ?_⟩
        · try simp only [Int32.lt_iff_toInt_lt, Int32.le_iff_toInt_le, ← Int32.toInt_inj, Int32.toInt_toInt64, tiA, tlA] at c28
          have hi32 : vp_in a1 20 := vp_of (by first | omega | ((try simp only [Int32.lt_iff_toInt_lt, Int32.le_iff_toInt_le, ← Int32.toInt_inj, Int32.toInt_toInt64, tiA, tlA]); omega) | (split <;> omega)) (by first | omega | ((try simp only [Int32.lt_iff_toInt_lt, Int32.le_iff_toInt_le, ← Int32.toInt_inj, Int32.toInt_toInt64, tiA, tlA]); omega) | (split <;> omega))
          refine ⟨hi32, ?_⟩
          have hz33 := vlt hi32
          subst hp
          exact ⟨hI22, hK24⟩
        · try simp only [Int32.lt_iff_toInt_lt, Int32.le_iff_toInt_le, ← Int32.toInt_inj, Int32.toInt_toInt64, tiA, tlA] at c28
          have hi34 : vp_in a1 20 := vp_of (by first | omega | ((try simp only [Int32.lt_iff_toInt_lt, Int32.le_iff_toInt_le, ← Int32.toInt_inj, Int32.toInt_toInt64, tiA, tlA]); omega) | (split <;> omega)) (by first | omega | ((try simp only [Int32.lt_iff_toInt_lt, Int32.le_iff_toInt_le, ← Int32.toInt_inj, Int32.toInt_toInt64, tiA, tlA]); omega) | (split <;> omega))
          refine ⟨hi34, ?_⟩
          have hz35 := vlt hi34
          subst hp
          exact ⟨hI22, hK24⟩
    · try simp only [Int32.lt_iff_toInt_lt, Int32.le_iff_toInt_le, ← Int32.toInt_inj, Int32.toInt_toInt64, tiA, tlA] at c8
      subst hp
      exact ⟨hI, hKr⟩
set_option maxRecDepth 100000 in
theorem s_X9_behind (a1 : Int32) (a2 : Int32) (a3 : Int32) (a4 : Int32) {lg0 : LGt} {it0 : ITt} (hI : I9 lg0 it0) : w_X9_behind a1 a2 a3 a4 (fun (v : Int64) (lg' : LGt) (it' : ITt) => (I9 lg' it' ∧ Kd (fun j => j = 501 ∨ j = 502 ∨ j = 503 ∨ j = 504 ∨ j = 505 ∨ j = 506 ∨ j = 507 ∨ j = 508 ∨ j = 509 ∨ j = 510 ∨ j = 511 ∨ j = 512) (fun k => k = 18 ∨ k = 19 ∨ k = 20 ∨ k = 28 ∨ k = 29 ∨ k = 30 ∨ k = 31 ∨ k = 32 ∨ k = 33 ∨ k = 34 ∨ k = 35 ∨ k = 36 ∨ k = 37 ∨ k = 38 ∨ k = 39 ∨ k = 40 ∨ k = 41 ∨ k = 42 ∨ k = 43) lg0 it0 lg' it'))  lg0 it0 := by
  have hb_a1 := And.intro a1.le_toInt a1.toInt_lt
  have hb_a2 := And.intro a2.le_toInt a2.toInt_lt
  have hb_a3 := And.intro a3.le_toInt a3.toInt_lt
  have hb_a4 := And.intro a4.le_toInt a4.toInt_lt
  have hKr : Kd (fun j => j = 501 ∨ j = 502 ∨ j = 503 ∨ j = 504 ∨ j = 505 ∨ j = 506 ∨ j = 507 ∨ j = 508 ∨ j = 509 ∨ j = 510 ∨ j = 511 ∨ j = 512) (fun k => k = 18 ∨ k = 19 ∨ k = 20 ∨ k = 28 ∨ k = 29 ∨ k = 30 ∨ k = 31 ∨ k = 32 ∨ k = 33 ∨ k = 34 ∨ k = 35 ∨ k = 36 ∨ k = 37 ∨ k = 38 ∨ k = 39 ∨ k = 40 ∨ k = 41 ∨ k = 42 ∨ k = 43) lg0 it0 lg0 it0 := kd_r
  generalize hp : (fun (v : Int64) (lg' : LGt) (it' : ITt) => (I9 lg' it' ∧ Kd (fun j => j = 501 ∨ j = 502 ∨ j = 503 ∨ j = 504 ∨ j = 505 ∨ j = 506 ∨ j = 507 ∨ j = 508 ∨ j = 509 ∨ j = 510 ∨ j = 511 ∨ j = 512) (fun k => k = 18 ∨ k = 19 ∨ k = 20 ∨ k = 28 ∨ k = 29 ∨ k = 30 ∨ k = 31 ∨ k = 32 ∨ k = 33 ∨ k = 34 ∨ k = 35 ∨ k = 36 ∨ k = 37 ∨ k = 38 ∨ k = 39 ∨ k = 40 ∨ k = 41 ∨ k = 42 ∨ k = 43) lg0 it0 lg' it')) = Pz
  unfold w_X9_behind
  have t0 := ti_0
  have t9 := ti_9
  have tm1 := ti_m1
  have f0 := i9_f hI (j := 489) (k := 0) rfl
  have fB : (it0 489 0 - 1).toInt = (it0 489 0).toInt - 1 := sb32 rfl ti_1 (by omega) (by omega)
  have f35 : 0 ≤ (it0 489 0).toInt ∧ (it0 489 0).toInt ≤ 6 := i9_f hI (j := 489) (k := 0) rfl
  refine ⟨fun c5 => ?_, fun c5 => ?_⟩
  · try simp only [Int32.lt_iff_toInt_lt, Int32.le_iff_toInt_le, ← Int32.toInt_inj, Int32.toInt_toInt64, tiA, tlA] at c5
    subst hp
    exact ⟨hI, hKr⟩
  · try simp only [Int32.lt_iff_toInt_lt, Int32.le_iff_toInt_le, ← Int32.toInt_inj, Int32.toInt_toInt64, tiA, tlA] at c5
    refine ⟨fun c10 => ?_, fun c10 => ?_⟩
    · try simp only [Int32.lt_iff_toInt_lt, Int32.le_iff_toInt_le, ← Int32.toInt_inj, Int32.toInt_toInt64, tiA, tlA] at c10
      subst hp
      exact ⟨hI, hKr⟩
    · try simp only [Int32.lt_iff_toInt_lt, Int32.le_iff_toInt_le, ← Int32.toInt_inj, Int32.toInt_toInt64, tiA, tlA] at c10
      refine ⟨fun c20 => ?_, fun c20 => ?_⟩
      · try simp only [Int32.lt_iff_toInt_lt, Int32.le_iff_toInt_le, ← Int32.toInt_inj, Int32.toInt_toInt64, tiA, tlA] at c20
        subst hp
        exact ⟨hI, hKr⟩
      · try simp only [Int32.lt_iff_toInt_lt, Int32.le_iff_toInt_le, ← Int32.toInt_inj, Int32.toInt_toInt64, tiA, tlA] at c20
        refine ⟨fun c28 => ?_, fun c28 => ?_⟩
        · try simp only [Int32.lt_iff_toInt_lt, Int32.le_iff_toInt_le, ← Int32.toInt_inj, Int32.toInt_toInt64, tiA, tlA] at c28
          refine ⟨_, s_X9_findAll   hI , ?_⟩
          intro lg36 it37 hq
          obtain ⟨⟨hI38, hK39⟩, ha42⟩ := hq
          have hK40 : Kd (fun j => j = 501 ∨ j = 502 ∨ j = 503 ∨ j = 504 ∨ j = 505 ∨ j = 506 ∨ j = 507 ∨ j = 508 ∨ j = 509 ∨ j = 510 ∨ j = 511 ∨ j = 512) (fun k => k = 18 ∨ k = 19 ∨ k = 20 ∨ k = 28 ∨ k = 29 ∨ k = 30 ∨ k = 31 ∨ k = 32 ∨ k = 33 ∨ k = 34 ∨ k = 35 ∨ k = 36 ∨ k = 37 ∨ k = 38 ∨ k = 39 ∨ k = 40 ∨ k = 41 ∨ k = 42 ∨ k = 43) lg0 it0 lg36 it37 := kd_t hKr hK39 (fun j hj => by first | omega | exact False.elim hj | (dsimp only at hj ⊢; omega)) (fun j hj => by first | omega | exact False.elim hj | (dsimp only at hj ⊢; omega))
          try have e43 : (it37 489 0).toInt = (it0 489 0).toInt := congrArg Int32.toInt (hK39.2 0 (by first | decide | (dsimp only; decide) | omega | (dsimp only; omega))).2
          try have e44 : (it37 489 42).toInt = (it0 489 42).toInt := congrArg Int32.toInt (hK39.2 42 (by first | decide | (dsimp only; decide) | omega | (dsimp only; omega))).2
          have PB45 := ha42.1
          have PT46 := ha42.2
          have f47 : 0 ≤ (it37 489 42).toInt ∧ (it37 489 42).toInt ≤ 20 := i9_f hI38 (j := 489) (k := 42) rfl
          refine ⟨fun c44 => ?_, fun c44 => ?_⟩
          · try simp only [Int32.lt_iff_toInt_lt, Int32.le_iff_toInt_le, ← Int32.toInt_inj, Int32.toInt_toInt64, tiA, tlA] at c44
            refine ⟨fun c52 => ?_, fun c52 => ?_⟩
            · try simp only [Int32.lt_iff_toInt_lt, Int32.le_iff_toInt_le, ← Int32.toInt_inj, Int32.toInt_toInt64, tiA, tlA] at c52
              unfold w_X9_behind_b65
              refine ⟨fun c69 => ?_, fun c69 => ?_⟩
              · try simp only [Int32.lt_iff_toInt_lt, Int32.le_iff_toInt_le, ← Int32.toInt_inj, Int32.toInt_toInt64, tiA, tlA] at c69
                try have f48 : ((12 * a2) : Int32).toInt = 12 * (a2).toInt := ml32 (a := 12) (b := (a2).toInt) (ti_12) (rfl) (by omega) (by omega)
                try have f49 : ((6 * a3) : Int32).toInt = 6 * (a3).toInt := ml32 (a := 6) (b := (a3).toInt) (ti_6) (rfl) (by omega) (by omega)
                try have f50 : (((12 * a2) + (6 * a3)) : Int32).toInt = ((12 * a2)).toInt + ((6 * a3)).toInt := ad32 (a := ((12 * a2)).toInt) (b := ((6 * a3)).toInt) (rfl) (rfl) (by omega) (by omega)
                try have f51 : ((((12 * a2) + (6 * a3)) + a1) : Int32).toInt = (((12 * a2) + (6 * a3))).toInt + (a1).toInt := ad32 (a := (((12 * a2) + (6 * a3))).toInt) (b := (a1).toInt) (rfl) (rfl) (by omega) (by omega)
                refine ⟨fun c97 => ?_, fun c97 => ?_⟩
                · try simp only [Int32.lt_iff_toInt_lt, Int32.le_iff_toInt_le, ← Int32.toInt_inj, Int32.toInt_toInt64, tiA, tlA] at c97
                  have hi52 : vp_in (((12 * a2) + (6 * a3)) + a1) 240 := vp_of (by first | omega | ((try simp only [Int32.lt_iff_toInt_lt, Int32.le_iff_toInt_le, ← Int32.toInt_inj, Int32.toInt_toInt64, tiA, tlA]); omega) | (split <;> omega)) (by first | omega | ((try simp only [Int32.lt_iff_toInt_lt, Int32.le_iff_toInt_le, ← Int32.toInt_inj, Int32.toInt_toInt64, tiA, tlA]); omega) | (split <;> omega))
                  refine ⟨hi52, ?_⟩
                  have hz53 := vlt hi52
                  subst hp
                  exact ⟨hI38, hK40⟩
                · try simp only [Int32.lt_iff_toInt_lt, Int32.le_iff_toInt_le, ← Int32.toInt_inj, Int32.toInt_toInt64, tiA, tlA] at c97
                  have hi54 : vp_in (((12 * a2) + (6 * a3)) + a1) 240 := vp_of (by first | omega | ((try simp only [Int32.lt_iff_toInt_lt, Int32.le_iff_toInt_le, ← Int32.toInt_inj, Int32.toInt_toInt64, tiA, tlA]); omega) | (split <;> omega)) (by first | omega | ((try simp only [Int32.lt_iff_toInt_lt, Int32.le_iff_toInt_le, ← Int32.toInt_inj, Int32.toInt_toInt64, tiA, tlA]); omega) | (split <;> omega))
                  refine ⟨hi54, ?_⟩
                  have hz55 := vlt hi54
                  subst hp
                  exact ⟨hI38, hK40⟩
              · try simp only [Int32.lt_iff_toInt_lt, Int32.le_iff_toInt_le, ← Int32.toInt_inj, Int32.toInt_toInt64, tiA, tlA] at c69
                refine ⟨_, s_X9_of  (a1) (a3) (a4) hI38 , ?_⟩
                intro v61 lg56 it57 hq
                obtain ⟨hI58, hK59⟩ := hq
                have hK60 : Kd (fun j => j = 501 ∨ j = 502 ∨ j = 503 ∨ j = 504 ∨ j = 505 ∨ j = 506 ∨ j = 507 ∨ j = 508 ∨ j = 509 ∨ j = 510 ∨ j = 511 ∨ j = 512) (fun k => k = 18 ∨ k = 19 ∨ k = 20 ∨ k = 28 ∨ k = 29 ∨ k = 30 ∨ k = 31 ∨ k = 32 ∨ k = 33 ∨ k = 34 ∨ k = 35 ∨ k = 36 ∨ k = 37 ∨ k = 38 ∨ k = 39 ∨ k = 40 ∨ k = 41 ∨ k = 42 ∨ k = 43) lg0 it0 lg56 it57 := kd_t hK40 hK59 (fun j hj => by first | omega | exact False.elim hj | (dsimp only at hj ⊢; omega)) (fun j hj => by first | omega | exact False.elim hj | (dsimp only at hj ⊢; omega))
                try have e63 : (it57 489 0).toInt = (it37 489 0).toInt := congrArg Int32.toInt (hK59.2 0 (by first | decide | (dsimp only; decide) | omega | (dsimp only; omega))).2
                try have e64 : (it57 489 42).toInt = (it37 489 42).toInt := congrArg Int32.toInt (hK59.2 42 (by first | decide | (dsimp only; decide) | omega | (dsimp only; omega))).2
                have PB65 : B9 lg56 it57 := B9_c PB45 (hK59.1 510 (by decide) (by first | decide | (dsimp only; decide) | omega | (dsimp only; omega))).1 (hK59.1 512 (by decide) (by first | decide | (dsimp only; decide) | omega | (dsimp only; omega))).1 (hK59.2 0 (by first | decide | (dsimp only; decide) | omega | (dsimp only; omega))).2 (hK59.2 42 (by first | decide | (dsimp only; decide) | omega | (dsimp only; omega))).2
                have PT66 : T9 lg56 it57 := T9_c PT46 (hK59.1 503 (by decide) (by first | decide | (dsimp only; decide) | omega | (dsimp only; omega))).1 (hK59.1 505 (by decide) (by first | decide | (dsimp only; decide) | omega | (dsimp only; omega))).1 (hK59.1 501 (by decide) (by first | decide | (dsimp only; decide) | omega | (dsimp only; omega))).2 (hK59.2 0 (by first | decide | (dsimp only; decide) | omega | (dsimp only; omega))).2
                subst hp
                exact ⟨hI58, hK60⟩
            · try simp only [Int32.lt_iff_toInt_lt, Int32.le_iff_toInt_le, ← Int32.toInt_inj, Int32.toInt_toInt64, tiA, tlA] at c52
              try have f67 : (((it37 489 42) - 1) : Int32).toInt = ((it37 489 42)).toInt - 1 := sb32 (a := ((it37 489 42)).toInt) (b := 1) (rfl) (ti_1) (by omega) (by omega)
              unfold w_X9_behind_b65
              refine ⟨fun c69 => ?_, fun c69 => ?_⟩
              · try simp only [Int32.lt_iff_toInt_lt, Int32.le_iff_toInt_le, ← Int32.toInt_inj, Int32.toInt_toInt64, tiA, tlA] at c69
                try have f68 : ((12 * ((it37 489 42) - 1)) : Int32).toInt = 12 * (((it37 489 42) - 1)).toInt := ml32 (a := 12) (b := (((it37 489 42) - 1)).toInt) (ti_12) (rfl) (by omega) (by omega)
                try have f69 : ((6 * a3) : Int32).toInt = 6 * (a3).toInt := ml32 (a := 6) (b := (a3).toInt) (ti_6) (rfl) (by omega) (by omega)
                try have f70 : (((12 * ((it37 489 42) - 1)) + (6 * a3)) : Int32).toInt = ((12 * ((it37 489 42) - 1))).toInt + ((6 * a3)).toInt := ad32 (a := ((12 * ((it37 489 42) - 1))).toInt) (b := ((6 * a3)).toInt) (rfl) (rfl) (by omega) (by omega)
                try have f71 : ((((12 * ((it37 489 42) - 1)) + (6 * a3)) + a1) : Int32).toInt = (((12 * ((it37 489 42) - 1)) + (6 * a3))).toInt + (a1).toInt := ad32 (a := (((12 * ((it37 489 42) - 1)) + (6 * a3))).toInt) (b := (a1).toInt) (rfl) (rfl) (by omega) (by omega)
                refine ⟨fun c97 => ?_, fun c97 => ?_⟩
                · try simp only [Int32.lt_iff_toInt_lt, Int32.le_iff_toInt_le, ← Int32.toInt_inj, Int32.toInt_toInt64, tiA, tlA] at c97
                  have hi72 : vp_in (((12 * ((it37 489 42) - 1)) + (6 * a3)) + a1) 240 := vp_of (by first | omega | ((try simp only [Int32.lt_iff_toInt_lt, Int32.le_iff_toInt_le, ← Int32.toInt_inj, Int32.toInt_toInt64, tiA, tlA]); omega) | (split <;> omega)) (by first | omega | ((try simp only [Int32.lt_iff_toInt_lt, Int32.le_iff_toInt_le, ← Int32.toInt_inj, Int32.toInt_toInt64, tiA, tlA]); omega) | (split <;> omega))
                  refine ⟨hi72, ?_⟩
                  have hz73 := vlt hi72
                  subst hp
                  exact ⟨hI38, hK40⟩
                · try simp only [Int32.lt_iff_toInt_lt, Int32.le_iff_toInt_le, ← Int32.toInt_inj, Int32.toInt_toInt64, tiA, tlA] at c97
                  have hi74 : vp_in (((12 * ((it37 489 42) - 1)) + (6 * a3)) + a1) 240 := vp_of (by first | omega | ((try simp only [Int32.lt_iff_toInt_lt, Int32.le_iff_toInt_le, ← Int32.toInt_inj, Int32.toInt_toInt64, tiA, tlA]); omega) | (split <;> omega)) (by first | omega | ((try simp only [Int32.lt_iff_toInt_lt, Int32.le_iff_toInt_le, ← Int32.toInt_inj, Int32.toInt_toInt64, tiA, tlA]); omega) | (split <;> omega))
                  refine ⟨hi74, ?_⟩
                  have hz75 := vlt hi74
                  subst hp
                  exact ⟨hI38, hK40⟩
              · try simp only [Int32.lt_iff_toInt_lt, Int32.le_iff_toInt_le, ← Int32.toInt_inj, Int32.toInt_toInt64, tiA, tlA] at c69
                refine ⟨_, s_X9_of  (a1) (a3) (a4) hI38 , ?_⟩
                intro v81 lg76 it77 hq
                obtain ⟨hI78, hK79⟩ := hq
                have hK80 : Kd (fun j => j = 501 ∨ j = 502 ∨ j = 503 ∨ j = 504 ∨ j = 505 ∨ j = 506 ∨ j = 507 ∨ j = 508 ∨ j = 509 ∨ j = 510 ∨ j = 511 ∨ j = 512) (fun k => k = 18 ∨ k = 19 ∨ k = 20 ∨ k = 28 ∨ k = 29 ∨ k = 30 ∨ k = 31 ∨ k = 32 ∨ k = 33 ∨ k = 34 ∨ k = 35 ∨ k = 36 ∨ k = 37 ∨ k = 38 ∨ k = 39 ∨ k = 40 ∨ k = 41 ∨ k = 42 ∨ k = 43) lg0 it0 lg76 it77 := kd_t hK40 hK79 (fun j hj => by first | omega | exact False.elim hj | (dsimp only at hj ⊢; omega)) (fun j hj => by first | omega | exact False.elim hj | (dsimp only at hj ⊢; omega))
                try have e83 : (it77 489 0).toInt = (it37 489 0).toInt := congrArg Int32.toInt (hK79.2 0 (by first | decide | (dsimp only; decide) | omega | (dsimp only; omega))).2
                try have e84 : (it77 489 42).toInt = (it37 489 42).toInt := congrArg Int32.toInt (hK79.2 42 (by first | decide | (dsimp only; decide) | omega | (dsimp only; omega))).2
                have PB85 : B9 lg76 it77 := B9_c PB45 (hK79.1 510 (by decide) (by first | decide | (dsimp only; decide) | omega | (dsimp only; omega))).1 (hK79.1 512 (by decide) (by first | decide | (dsimp only; decide) | omega | (dsimp only; omega))).1 (hK79.2 0 (by first | decide | (dsimp only; decide) | omega | (dsimp only; omega))).2 (hK79.2 42 (by first | decide | (dsimp only; decide) | omega | (dsimp only; omega))).2
                have PT86 : T9 lg76 it77 := T9_c PT46 (hK79.1 503 (by decide) (by first | decide | (dsimp only; decide) | omega | (dsimp only; omega))).1 (hK79.1 505 (by decide) (by first | decide | (dsimp only; decide) | omega | (dsimp only; omega))).1 (hK79.1 501 (by decide) (by first | decide | (dsimp only; decide) | omega | (dsimp only; omega))).2 (hK79.2 0 (by first | decide | (dsimp only; decide) | omega | (dsimp only; omega))).2
                subst hp
                exact ⟨hI78, hK80⟩
          · try simp only [Int32.lt_iff_toInt_lt, Int32.le_iff_toInt_le, ← Int32.toInt_inj, Int32.toInt_toInt64, tiA, tlA] at c44
            subst hp
            exact ⟨hI38, hK40⟩
        · try simp only [Int32.lt_iff_toInt_lt, Int32.le_iff_toInt_le, ← Int32.toInt_inj, Int32.toInt_toInt64, tiA, tlA] at c28
          subst hp
          exact ⟨hI, hKr⟩
set_option maxRecDepth 100000 in
theorem s_X9_then (a1 : Int32) (a2 : Int32) {lg0 : LGt} {it0 : ITt} (hI : I9 lg0 it0) : w_X9_then a1 a2 (fun (v : Int64) (lg' : LGt) (it' : ITt) => (I9 lg' it' ∧ Kd (fun j => j = 501 ∨ j = 502 ∨ j = 503 ∨ j = 504 ∨ j = 505 ∨ j = 506 ∨ j = 507 ∨ j = 508 ∨ j = 509 ∨ j = 510 ∨ j = 511 ∨ j = 512) (fun k => k = 18 ∨ k = 19 ∨ k = 20 ∨ k = 28 ∨ k = 29 ∨ k = 30 ∨ k = 31 ∨ k = 32 ∨ k = 33 ∨ k = 34 ∨ k = 35 ∨ k = 36 ∨ k = 37 ∨ k = 38 ∨ k = 39 ∨ k = 40 ∨ k = 41 ∨ k = 42 ∨ k = 43) lg0 it0 lg' it'))  lg0 it0 := by
  have hb_a1 := And.intro a1.le_toInt a1.toInt_lt
  have hb_a2 := And.intro a2.le_toInt a2.toInt_lt
  have hKr : Kd (fun j => j = 501 ∨ j = 502 ∨ j = 503 ∨ j = 504 ∨ j = 505 ∨ j = 506 ∨ j = 507 ∨ j = 508 ∨ j = 509 ∨ j = 510 ∨ j = 511 ∨ j = 512) (fun k => k = 18 ∨ k = 19 ∨ k = 20 ∨ k = 28 ∨ k = 29 ∨ k = 30 ∨ k = 31 ∨ k = 32 ∨ k = 33 ∨ k = 34 ∨ k = 35 ∨ k = 36 ∨ k = 37 ∨ k = 38 ∨ k = 39 ∨ k = 40 ∨ k = 41 ∨ k = 42 ∨ k = 43) lg0 it0 lg0 it0 := kd_r
  generalize hp : (fun (v : Int64) (lg' : LGt) (it' : ITt) => (I9 lg' it' ∧ Kd (fun j => j = 501 ∨ j = 502 ∨ j = 503 ∨ j = 504 ∨ j = 505 ∨ j = 506 ∨ j = 507 ∨ j = 508 ∨ j = 509 ∨ j = 510 ∨ j = 511 ∨ j = 512) (fun k => k = 18 ∨ k = 19 ∨ k = 20 ∨ k = 28 ∨ k = 29 ∨ k = 30 ∨ k = 31 ∨ k = 32 ∨ k = 33 ∨ k = 34 ∨ k = 35 ∨ k = 36 ∨ k = 37 ∨ k = 38 ∨ k = 39 ∨ k = 40 ∨ k = 41 ∨ k = 42 ∨ k = 43) lg0 it0 lg' it')) = Pz
  unfold w_X9_then
  refine ⟨fun c7 => ?_, fun c7 => ?_⟩
  · try simp only [Int32.lt_iff_toInt_lt, Int32.le_iff_toInt_le, ← Int32.toInt_inj, Int32.toInt_toInt64, tiA, tlA] at c7
    subst hp
    exact ⟨hI, hKr⟩
  · try simp only [Int32.lt_iff_toInt_lt, Int32.le_iff_toInt_le, ← Int32.toInt_inj, Int32.toInt_toInt64, tiA, tlA] at c7
    refine ⟨fun c14 => ?_, fun c14 => ?_⟩
    · try simp only [Int32.lt_iff_toInt_lt, Int32.le_iff_toInt_le, ← Int32.toInt_inj, Int32.toInt_toInt64, tiA, tlA] at c14
      refine ⟨_, s_X9_findAll   hI , ?_⟩
      intro lg23 it24 hq
      obtain ⟨⟨hI25, hK26⟩, ha29⟩ := hq
      have hK27 : Kd (fun j => j = 501 ∨ j = 502 ∨ j = 503 ∨ j = 504 ∨ j = 505 ∨ j = 506 ∨ j = 507 ∨ j = 508 ∨ j = 509 ∨ j = 510 ∨ j = 511 ∨ j = 512) (fun k => k = 18 ∨ k = 19 ∨ k = 20 ∨ k = 28 ∨ k = 29 ∨ k = 30 ∨ k = 31 ∨ k = 32 ∨ k = 33 ∨ k = 34 ∨ k = 35 ∨ k = 36 ∨ k = 37 ∨ k = 38 ∨ k = 39 ∨ k = 40 ∨ k = 41 ∨ k = 42 ∨ k = 43) lg0 it0 lg23 it24 := kd_t hKr hK26 (fun j hj => by first | omega | exact False.elim hj | (dsimp only at hj ⊢; omega)) (fun j hj => by first | omega | exact False.elim hj | (dsimp only at hj ⊢; omega))
      have PB30 := ha29.1
      have PT31 := ha29.2
      refine ⟨_, s_X9_sums  (a1) hI25 (PT31), ?_⟩
      intro v37 lg32 it33 hq
      obtain ⟨⟨hI34, hK35⟩, ha38⟩ := hq
      have hK36 : Kd (fun j => j = 501 ∨ j = 502 ∨ j = 503 ∨ j = 504 ∨ j = 505 ∨ j = 506 ∨ j = 507 ∨ j = 508 ∨ j = 509 ∨ j = 510 ∨ j = 511 ∨ j = 512) (fun k => k = 18 ∨ k = 19 ∨ k = 20 ∨ k = 28 ∨ k = 29 ∨ k = 30 ∨ k = 31 ∨ k = 32 ∨ k = 33 ∨ k = 34 ∨ k = 35 ∨ k = 36 ∨ k = 37 ∨ k = 38 ∨ k = 39 ∨ k = 40 ∨ k = 41 ∨ k = 42 ∨ k = 43) lg0 it0 lg32 it33 := kd_t hK27 hK35 (fun j hj => by first | omega | exact False.elim hj | (dsimp only at hj ⊢; omega)) (fun j hj => by first | omega | exact False.elim hj | (dsimp only at hj ⊢; omega))
      have PB39 : B9 lg32 it33 := B9_c PB30 (hK35.1 510 (by decide) (by first | decide | (dsimp only; decide) | omega | (dsimp only; omega))).1 (hK35.1 512 (by decide) (by first | decide | (dsimp only; decide) | omega | (dsimp only; omega))).1 (hK35.2 0 (by first | decide | (dsimp only; decide) | omega | (dsimp only; omega))).2 (hK35.2 42 (by first | decide | (dsimp only; decide) | omega | (dsimp only; omega))).2
      have PT40 : T9 lg32 it33 := T9_c PT31 (hK35.1 503 (by decide) (by first | decide | (dsimp only; decide) | omega | (dsimp only; omega))).1 (hK35.1 505 (by decide) (by first | decide | (dsimp only; decide) | omega | (dsimp only; omega))).1 (hK35.1 501 (by decide) (by first | decide | (dsimp only; decide) | omega | (dsimp only; omega))).2 (hK35.2 0 (by first | decide | (dsimp only; decide) | omega | (dsimp only; omega))).2
      refine ⟨fun c30 => ?_, fun c30 => ?_⟩
      · try simp only [Int32.lt_iff_toInt_lt, Int32.le_iff_toInt_le, ← Int32.toInt_inj, Int32.toInt_toInt64, tiA, tlA] at c30
        subst hp
        exact ⟨hI34, hK36⟩
      · try simp only [Int32.lt_iff_toInt_lt, Int32.le_iff_toInt_le, ← Int32.toInt_inj, Int32.toInt_toInt64, tiA, tlA] at c30
        refine ⟨fun c34 => ?_, fun c34 => ?_⟩
        · try simp only [Int32.lt_iff_toInt_lt, Int32.le_iff_toInt_le, ← Int32.toInt_inj, Int32.toInt_toInt64, tiA, tlA] at c34
          subst hp
          exact ⟨hI34, hK36⟩
        · try simp only [Int32.lt_iff_toInt_lt, Int32.le_iff_toInt_le, ← Int32.toInt_inj, Int32.toInt_toInt64, tiA, tlA] at c34
          subst hp
          exact ⟨hI34, hK36⟩
    · try simp only [Int32.lt_iff_toInt_lt, Int32.le_iff_toInt_le, ← Int32.toInt_inj, Int32.toInt_toInt64, tiA, tlA] at c14
      subst hp
      exact ⟨hI, hKr⟩
set_option maxRecDepth 100000 in
theorem s_X9_isOf (a0 : Int32) (a1 : Int32) (a2 : Int32) {lg0 : LGt} {it0 : ITt} (hI : I9 lg0 it0) : w_X9_isOf a0 a1 a2 (fun (v : Int32) (lg' : LGt) (it' : ITt) => (I9 lg' it' ∧ Kd (fun j => False) (fun k => False) lg0 it0 lg' it') ∧ (v = 0 ∨ v = 1))  lg0 it0 := by
  have hb_a0 := And.intro a0.le_toInt a0.toInt_lt
  have hb_a1 := And.intro a1.le_toInt a1.toInt_lt
  have hb_a2 := And.intro a2.le_toInt a2.toInt_lt
  have hKr : Kd (fun j => False) (fun k => False) lg0 it0 lg0 it0 := kd_r
  generalize hp : (fun (v : Int32) (lg' : LGt) (it' : ITt) => (I9 lg' it' ∧ Kd (fun j => False) (fun k => False) lg0 it0 lg' it') ∧ (v = 0 ∨ v = 1)) = Pz
  unfold w_X9_isOf
  refine ⟨fun c1 => ?_, fun c1 => ?_⟩
  · try simp only [Int32.lt_iff_toInt_lt, Int32.le_iff_toInt_le, ← Int32.toInt_inj, Int32.toInt_toInt64, tiA, tlA] at c1
    refine ⟨fun c19 => ?_, fun c19 => ?_⟩
    · try simp only [Int32.lt_iff_toInt_lt, Int32.le_iff_toInt_le, ← Int32.toInt_inj, Int32.toInt_toInt64, tiA, tlA] at c19
      refine ⟨fun c37 => ?_, fun c37 => ?_⟩
      · try simp only [Int32.lt_iff_toInt_lt, Int32.le_iff_toInt_le, ← Int32.toInt_inj, Int32.toInt_toInt64, tiA, tlA] at c37
        subst hp
        exact ⟨⟨hI, hKr⟩, by first | exact Or.inl rfl | exact Or.inr rfl | assumption⟩
      · try simp only [Int32.lt_iff_toInt_lt, Int32.le_iff_toInt_le, ← Int32.toInt_inj, Int32.toInt_toInt64, tiA, tlA] at c37
        try have f13 : ((a0 - 1) : Int32).toInt = (a0).toInt - 1 := sb32 (a := (a0).toInt) (b := 1) (rfl) (ti_1) (by omega) (by omega)
        refine ⟨fun c44 => ?_, fun c44 => ?_⟩
        · try simp only [Int32.lt_iff_toInt_lt, Int32.le_iff_toInt_le, ← Int32.toInt_inj, Int32.toInt_toInt64, tiA, tlA] at c44
          subst hp
          exact ⟨⟨hI, hKr⟩, by first | exact Or.inl rfl | exact Or.inr rfl | assumption⟩
        · try simp only [Int32.lt_iff_toInt_lt, Int32.le_iff_toInt_le, ← Int32.toInt_inj, Int32.toInt_toInt64, tiA, tlA] at c44
          subst hp
          exact ⟨⟨hI, hKr⟩, by first | exact Or.inl rfl | exact Or.inr rfl | assumption⟩
    · try simp only [Int32.lt_iff_toInt_lt, Int32.le_iff_toInt_le, ← Int32.toInt_inj, Int32.toInt_toInt64, tiA, tlA] at c19
      refine ⟨fun c24 => ?_, fun c24 => ?_⟩
      · try simp only [Int32.lt_iff_toInt_lt, Int32.le_iff_toInt_le, ← Int32.toInt_inj, Int32.toInt_toInt64, tiA, tlA] at c24
        subst hp
        exact ⟨⟨hI, hKr⟩, by first | exact Or.inl rfl | exact Or.inr rfl | assumption⟩
      · try simp only [Int32.lt_iff_toInt_lt, Int32.le_iff_toInt_le, ← Int32.toInt_inj, Int32.toInt_toInt64, tiA, tlA] at c24
        subst hp
        exact ⟨⟨hI, hKr⟩, by first | exact Or.inl rfl | exact Or.inr rfl | assumption⟩
  · try simp only [Int32.lt_iff_toInt_lt, Int32.le_iff_toInt_le, ← Int32.toInt_inj, Int32.toInt_toInt64, tiA, tlA] at c1
    refine ⟨fun c5 => ?_, fun c5 => ?_⟩
    · try simp only [Int32.lt_iff_toInt_lt, Int32.le_iff_toInt_le, ← Int32.toInt_inj, Int32.toInt_toInt64, tiA, tlA] at c5
      subst hp
      exact ⟨⟨hI, hKr⟩, by first | exact Or.inl rfl | exact Or.inr rfl | assumption⟩
    · try simp only [Int32.lt_iff_toInt_lt, Int32.le_iff_toInt_le, ← Int32.toInt_inj, Int32.toInt_toInt64, tiA, tlA] at c5
      subst hp
      exact ⟨⟨hI, hKr⟩, by first | exact Or.inl rfl | exact Or.inr rfl | assumption⟩
set_option maxRecDepth 100000 in
theorem s_X9_often (a1 : Int32) {lg0 : LGt} {it0 : ITt} (hI : I9 lg0 it0) : w_X9_often a1 (fun (v : Int32) (lg' : LGt) (it' : ITt) => (I9 lg' it' ∧ Kd (fun j => j = 501 ∨ j = 502 ∨ j = 503 ∨ j = 504 ∨ j = 505 ∨ j = 506 ∨ j = 507 ∨ j = 508 ∨ j = 509 ∨ j = 510 ∨ j = 511 ∨ j = 512) (fun k => k = 18 ∨ k = 19 ∨ k = 20 ∨ k = 28 ∨ k = 29 ∨ k = 30 ∨ k = 31 ∨ k = 32 ∨ k = 33 ∨ k = 34 ∨ k = 35 ∨ k = 36 ∨ k = 37 ∨ k = 38 ∨ k = 39 ∨ k = 40 ∨ k = 41 ∨ k = 42 ∨ k = 43) lg0 it0 lg' it'))  lg0 it0 := by
  have hb_a1 := And.intro a1.le_toInt a1.toInt_lt
  have hKr : Kd (fun j => j = 501 ∨ j = 502 ∨ j = 503 ∨ j = 504 ∨ j = 505 ∨ j = 506 ∨ j = 507 ∨ j = 508 ∨ j = 509 ∨ j = 510 ∨ j = 511 ∨ j = 512) (fun k => k = 18 ∨ k = 19 ∨ k = 20 ∨ k = 28 ∨ k = 29 ∨ k = 30 ∨ k = 31 ∨ k = 32 ∨ k = 33 ∨ k = 34 ∨ k = 35 ∨ k = 36 ∨ k = 37 ∨ k = 38 ∨ k = 39 ∨ k = 40 ∨ k = 41 ∨ k = 42 ∨ k = 43) lg0 it0 lg0 it0 := kd_r
  generalize hp : (fun (v : Int32) (lg' : LGt) (it' : ITt) => (I9 lg' it' ∧ Kd (fun j => j = 501 ∨ j = 502 ∨ j = 503 ∨ j = 504 ∨ j = 505 ∨ j = 506 ∨ j = 507 ∨ j = 508 ∨ j = 509 ∨ j = 510 ∨ j = 511 ∨ j = 512) (fun k => k = 18 ∨ k = 19 ∨ k = 20 ∨ k = 28 ∨ k = 29 ∨ k = 30 ∨ k = 31 ∨ k = 32 ∨ k = 33 ∨ k = 34 ∨ k = 35 ∨ k = 36 ∨ k = 37 ∨ k = 38 ∨ k = 39 ∨ k = 40 ∨ k = 41 ∨ k = 42 ∨ k = 43) lg0 it0 lg' it')) = Pz
  unfold w_X9_often
  have t0 := ti_0
  have t9 := ti_9
  have tm1 := ti_m1
  have f0 := i9_f hI (j := 489) (k := 0) rfl
  have fB : (it0 489 0 - 1).toInt = (it0 489 0).toInt - 1 := sb32 rfl ti_1 (by omega) (by omega)
  have f23 : 0 ≤ (it0 489 0).toInt ∧ (it0 489 0).toInt ≤ 6 := i9_f hI (j := 489) (k := 0) rfl
  refine ⟨fun c5 => ?_, fun c5 => ?_⟩
  · try simp only [Int32.lt_iff_toInt_lt, Int32.le_iff_toInt_le, ← Int32.toInt_inj, Int32.toInt_toInt64, tiA, tlA] at c5
    refine ⟨_, s_X9_findAll   hI , ?_⟩
    intro lg24 it25 hq
    obtain ⟨⟨hI26, hK27⟩, ha30⟩ := hq
    have hK28 : Kd (fun j => j = 501 ∨ j = 502 ∨ j = 503 ∨ j = 504 ∨ j = 505 ∨ j = 506 ∨ j = 507 ∨ j = 508 ∨ j = 509 ∨ j = 510 ∨ j = 511 ∨ j = 512) (fun k => k = 18 ∨ k = 19 ∨ k = 20 ∨ k = 28 ∨ k = 29 ∨ k = 30 ∨ k = 31 ∨ k = 32 ∨ k = 33 ∨ k = 34 ∨ k = 35 ∨ k = 36 ∨ k = 37 ∨ k = 38 ∨ k = 39 ∨ k = 40 ∨ k = 41 ∨ k = 42 ∨ k = 43) lg0 it0 lg24 it25 := kd_t hKr hK27 (fun j hj => by first | omega | exact False.elim hj | (dsimp only at hj ⊢; omega)) (fun j hj => by first | omega | exact False.elim hj | (dsimp only at hj ⊢; omega))
    try have e31 : (it25 489 0).toInt = (it0 489 0).toInt := congrArg Int32.toInt (hK27.2 0 (by first | decide | (dsimp only; decide) | omega | (dsimp only; omega))).2
    try have e32 : (it25 489 42).toInt = (it0 489 42).toInt := congrArg Int32.toInt (hK27.2 42 (by first | decide | (dsimp only; decide) | omega | (dsimp only; omega))).2
    have PB33 := ha30.1
    have PT34 := ha30.2
    have lp18 : ∀ (n : Nat) (x2 : Int32) (x3 : Int32) (lg : LGt) (it : ITt), I9 lg it → Kd (fun j => j = 501 ∨ j = 502 ∨ j = 503 ∨ j = 504 ∨ j = 505 ∨ j = 506 ∨ j = 507 ∨ j = 508 ∨ j = 509 ∨ j = 510 ∨ j = 511 ∨ j = 512) (fun k => k = 18 ∨ k = 19 ∨ k = 20 ∨ k = 28 ∨ k = 29 ∨ k = 30 ∨ k = 31 ∨ k = 32 ∨ k = 33 ∨ k = 34 ∨ k = 35 ∨ k = 36 ∨ k = 37 ∨ k = 38 ∨ k = 39 ∨ k = 40 ∨ k = 41 ∨ k = 42 ∨ k = 43) lg0 it0 lg it → ((0 ≤ (x3).toInt)) → (21 - (x3).toInt).toNat < n → w_X9_often_b18 a1 Pz  n x2 x3 lg it := by
      intro n18
      induction n18 with
      | zero => intro x2 x3 lg it _ _ _ hn; exact absurd hn (Nat.not_lt_zero _)
      | succ n18 ih18 =>
        intro x2 x3 lg37 it38 hI35 hK36 hv hn
        unfold w_X9_often_b18
        have hv18_0 := hv
        have f39 : 0 ≤ (it38 489 42).toInt ∧ (it38 489 42).toInt ≤ 20 := i9_f hI35 (j := 489) (k := 42) rfl
        refine ⟨fun c23 => ?_, fun c23 => ?_⟩
        · try simp only [Int32.lt_iff_toInt_lt, Int32.le_iff_toInt_le, ← Int32.toInt_inj, Int32.toInt_toInt64, tiA, tlA] at c23
          subst hp
          exact ⟨hI35, hK36⟩
        · try simp only [Int32.lt_iff_toInt_lt, Int32.le_iff_toInt_le, ← Int32.toInt_inj, Int32.toInt_toInt64, tiA, tlA] at c23
          have hi40 : vp_in x3 20 := vp_of (by first | omega | ((try simp only [Int32.lt_iff_toInt_lt, Int32.le_iff_toInt_le, ← Int32.toInt_inj, Int32.toInt_toInt64, tiA, tlA]); omega) | (split <;> omega)) (by first | omega | ((try simp only [Int32.lt_iff_toInt_lt, Int32.le_iff_toInt_le, ← Int32.toInt_inj, Int32.toInt_toInt64, tiA, tlA]); omega) | (split <;> omega))
          refine ⟨hi40, ?_⟩
          have hz41 := vlt hi40
          have f42 : 0 ≤ (it38 489 0).toInt ∧ (it38 489 0).toInt ≤ 6 := i9_f hI35 (j := 489) (k := 0) rfl
          try have f43 : (((it38 489 0) - 1) : Int32).toInt = ((it38 489 0)).toInt - 1 := sb32 (a := ((it38 489 0)).toInt) (b := 1) (rfl) (ti_1) (by omega) (by omega)
          refine ⟨_, s_X9_isOf  ((it38 508 x3.toNatClampNeg)) (a1) (((it38 489 0) - 1)) hI35 , ?_⟩
          intro v49 lg44 it45 hq
          obtain ⟨⟨hI46, hK47⟩, ha50⟩ := hq
          have hK48 : Kd (fun j => j = 501 ∨ j = 502 ∨ j = 503 ∨ j = 504 ∨ j = 505 ∨ j = 506 ∨ j = 507 ∨ j = 508 ∨ j = 509 ∨ j = 510 ∨ j = 511 ∨ j = 512) (fun k => k = 18 ∨ k = 19 ∨ k = 20 ∨ k = 28 ∨ k = 29 ∨ k = 30 ∨ k = 31 ∨ k = 32 ∨ k = 33 ∨ k = 34 ∨ k = 35 ∨ k = 36 ∨ k = 37 ∨ k = 38 ∨ k = 39 ∨ k = 40 ∨ k = 41 ∨ k = 42 ∨ k = 43) lg0 it0 lg44 it45 := kd_t hK36 hK47 (fun j hj => by first | omega | exact False.elim hj | (dsimp only at hj ⊢; omega)) (fun j hj => by first | omega | exact False.elim hj | (dsimp only at hj ⊢; omega))
          try have e51 : (it45 489 0).toInt = (it38 489 0).toInt := congrArg Int32.toInt (hK47.2 0 (by first | decide | (dsimp only; decide) | omega | (dsimp only; omega))).2
          try have e52 : (it45 489 42).toInt = (it38 489 42).toInt := congrArg Int32.toInt (hK47.2 42 (by first | decide | (dsimp only; decide) | omega | (dsimp only; omega))).2
          refine ⟨fun c43 => ?_, fun c43 => ?_⟩
          · try simp only [Int32.lt_iff_toInt_lt, Int32.le_iff_toInt_le, ← Int32.toInt_inj, Int32.toInt_toInt64, tiA, tlA] at c43
            try have f53 : ((x2 + 0) : Int32).toInt = (x2).toInt + 0 := ad32 (a := (x2).toInt) (b := 0) (rfl) (ti_0) (by omega) (by omega)
            try have f54 : ((x3 + 1) : Int32).toInt = (x3).toInt + 1 := ad32 (a := (x3).toInt) (b := 1) (rfl) (ti_1) (by omega) (by omega)
            exact ih18 ((x2 + 0)) ((x3 + 1)) _ _ hI46 hK48 (by first | exact Nx_0 | omega | assumption) (by omega)
          · try simp only [Int32.lt_iff_toInt_lt, Int32.le_iff_toInt_le, ← Int32.toInt_inj, Int32.toInt_toInt64, tiA, tlA] at c43
            try have f55 : ((x2 + 1) : Int32).toInt = (x2).toInt + 1 := ad32 (a := (x2).toInt) (b := 1) (rfl) (ti_1) (by omega) (by omega)
            try have f56 : ((x3 + 1) : Int32).toInt = (x3).toInt + 1 := ad32 (a := (x3).toInt) (b := 1) (rfl) (ti_1) (by omega) (by omega)
            exact ih18 ((x2 + 1)) ((x3 + 1)) _ _ hI46 hK48 (by first | exact Nx_0 | omega | assumption) (by omega)
    have t57 := ti_0
    have t58 := ti_0
    exact ⟨_, lp18 ((21 - ((0 : Int32)).toInt).toNat + 1) ((0 : Int32)) ((0 : Int32)) _ _ hI26 hK28 (by first | exact Nx_0 | omega | assumption) (Nat.lt_succ_self _)⟩
  · try simp only [Int32.lt_iff_toInt_lt, Int32.le_iff_toInt_le, ← Int32.toInt_inj, Int32.toInt_toInt64, tiA, tlA] at c5
    subst hp
    exact ⟨hI, hKr⟩
