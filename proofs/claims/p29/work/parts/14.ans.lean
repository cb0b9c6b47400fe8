/-! p1: the first call on new objects: tools, answers -/
theorem gx {P : PT} {pc : Nat} {ls st : List Value} {N : Nat} {lg : LGt} {it : ITt} {rf : RFt} {x v : Int32} (h : x = v) (kk : P pc ls (.int v :: st) N lg it rf) : P pc ls (.int x :: st) N lg it rf := h ▸ kk
theorem gxl {P : PT} {pc : Nat} {ls st : List Value} {N : Nat} {lg : LGt} {it : ITt} {rf : RFt} {x v : Int64} (h : x = v) (kk : P pc ls (.long v :: st) N lg it rf) : P pc ls (.long x :: st) N lg it rf := h ▸ kk
def b2 (p : Prop) [Decidable p] : Int32 := if p then 1 else 0
theorem b2_0 {p : Prop} [Decidable p] : b2 p = 0 ↔ ¬ p := by unfold b2; split <;> simp [*]
theorem b2_1 {p : Prop} [Decidable p] : b2 p = 1 ↔ p := by unfold b2; split <;> simp [*]
theorem nb2 {p : Prop} [Decidable p] (h : ¬ b2 p = 0) : p := Classical.byContradiction fun q => h (b2_0.mpr q)
theorem b2_p {p : Prop} [Decidable p] (h : p) : b2 p = 1 := if_pos h
theorem b2_n {p : Prop} [Decidable p] (h : ¬ p) : b2 p = 0 := if_neg h
def mx {α : Type} (f g : Nat → Nat → α) : Nat → Nat → α := fun j => if j < 489 then f j else g j
theorem mx_hi {α : Type} {f g : Nat → Nat → α} {j : Nat} (h : ¬ j < 489) : mx f g j = g j := if_neg h
/-- the reference's rows are as at the start -/
def Up (lg : LGt) (it : ITt) : Prop := ∀ j, 489 ≤ j → j < 523 → lg j = LG0 j ∧ it j = IT0 j
theorem Up_0 : Up LG0 IT0 := fun _ _ _ => ⟨rfl, rfl⟩
theorem Up_u {lg : LGt} {it : ITt} {j k : Nat} {v : Int32} (h : Up lg it) (hj : j < 489) : Up lg (u2 it j k v) := fun i a b => ⟨(h i a b).1, (u2_row (by omega)).trans (h i a b).2⟩
theorem Up_l {lg : LGt} {it : ITt} {j k : Nat} {v : Int64} (h : Up lg it) (hj : j < 489) : Up (u2 lg j k v) it := fun i a b => ⟨(u2_row (by omega)).trans (h i a b).1, (h i a b).2⟩
theorem Up_sL {lg : LGt} {it : ITt} {j : Nat} {a b : Int64} (h : Up lg it) (hj : j < 489) : Up (sL lg j a b) it := fun i x y => ⟨(sL_row (by omega)).trans (h i x y).1, (h i x y).2⟩
theorem Up_sI {lg : LGt} {it : ITt} {j k : Nat} {v : Int32} (h : Up lg it) (hj : j < 489) : Up lg (sI it j k v) := Up_u h hj
theorem Up_rows {lg lg' : LGt} {it it' : ITt} (h : Up lg it) (hr : ∀ j, 489 ≤ j → j < 523 → lg' j = lg j ∧ it' j = it j) : Up lg' it' := fun i a b => ⟨(hr i a b).1.trans (h i a b).1, (hr i a b).2.trans (h i a b).2⟩
def Kp {α : Type} (f f' : Nat → Nat → α) : Prop := ∀ j, 489 ≤ j → f' j = f j
theorem Up_k {lg lg' : LGt} {it it' : ITt} (h : Up lg it) (h1 : Kp lg lg') (h2 : Kp it it') : Up lg' it' := fun i a b => ⟨(h1 i a).trans (h i a b).1, (h2 i a).trans (h i a b).2⟩
theorem Kp_0 {α : Type} {f : Nat → Nat → α} : Kp f f := fun _ _ => rfl
theorem Kp_u {α : Type} {f f' : Nat → Nat → α} {j k : Nat} {v : α} (h : Kp f f') (hj : j < 489) : Kp f (u2 f' j k v) := fun i a => (u2_row (by omega)).trans (h i a)
theorem Kp_sL {f f' : LGt} {j : Nat} {a b : Int64} (h : Kp f f') (hj : j < 489) : Kp f (sL f' j a b) := fun i x => (sL_row (by omega)).trans (h i x)
theorem Kp_sI {f f' : ITt} {j k : Nat} {v : Int32} (h : Kp f f') (hj : j < 489) : Kp f (sI f' j k v) := Kp_u h hj
theorem Kp_t {α : Type} {f f' f'' : Nat → Nat → α} (h : Kp f f') (h2 : Kp f' f'') : Kp f f'' := fun i a => (h2 i a).trans (h i a)
theorem tpx {a : Int32} (h1 : 0 ≤ a.toInt) (h2 : a.toInt ≤ 5) : ∃ t : Nat, t < 6 ∧ a = nI t := ⟨a.toInt.toNat, by omega, Int32.toInt_inj.mp (by rw [nI_toInt (by omega)]; omega)⟩
theorem tpr : ∀ t, t < 6 → RF0 473 t = some (474 + 2 * t) ∧ RF0 (474 + 2 * t) 2 = some (475 + 2 * t) ∧ IT0 (474 + 2 * t) 0 = -1 ∧ IT0 (474 + 2 * t) 1 = 0 ∧ (LAY (474 + 2 * t)).1 = 6 ∧ (LAY (475 + 2 * t)).1 = 12 ∧ (LAY (475 + 2 * t)).2 = 60 := by decide +kernel
theorem tpi {t : Nat} (h : t < 6) : (nI t).toNatClampNeg = t := nI_clamp (by omega)
theorem tpv {t : Nat} (h : t < 6) : vp_in (nI t) (LAY 473).2 := vin (show (LAY 473).2 = 6 by decide +kernel) (nI_in (by omega) (by omega))
theorem tpo {t : Nat} (h : t < 6) : Ob NT (474 + 2 * t) 6 ∧ Ob NT (475 + 2 * t) 12 := ⟨⟨by show _ < 523; omega, (tpr t h).2.2.2.2.1⟩, ⟨by show _ < 523; omega, (tpr t h).2.2.2.2.2.1⟩⟩
theorem tpa {t : Nat} (h : t < 6) : RF0 473 (nI t).toNatClampNeg = some (474 + 2 * t) := by rw [tpi h]; exact (tpr t h).1
theorem ti_m14 : ((-14) : Int32).toInt = -14 := by decide
theorem ti_m13 : ((-13) : Int32).toInt = -13 := by decide
theorem ti_m12 : ((-12) : Int32).toInt = -12 := by decide
theorem ti_m11 : ((-11) : Int32).toInt = -11 := by decide
theorem ti_m10 : ((-10) : Int32).toInt = -10 := by decide
theorem ti_m9 : ((-9) : Int32).toInt = -9 := by decide
theorem ti_m6 : ((-6) : Int32).toInt = -6 := by decide
theorem ti_m5 : ((-5) : Int32).toInt = -5 := by decide
theorem ti_m4 : ((-4) : Int32).toInt = -4 := by decide
theorem ti_m3 : ((-3) : Int32).toInt = -3 := by decide
theorem ti_m2 : ((-2) : Int32).toInt = -2 := by decide
theorem ti_m1 : ((-1) : Int32).toInt = -1 := by decide
theorem ti_0 : (0 : Int32).toInt = 0 := by decide
theorem ti_1 : (1 : Int32).toInt = 1 := by decide
theorem ti_2 : (2 : Int32).toInt = 2 := by decide
theorem ti_3 : (3 : Int32).toInt = 3 := by decide
theorem ti_4 : (4 : Int32).toInt = 4 := by decide
theorem ti_5 : (5 : Int32).toInt = 5 := by decide
theorem ti_6 : (6 : Int32).toInt = 6 := by decide
theorem ti_7 : (7 : Int32).toInt = 7 := by decide
theorem ti_8 : (8 : Int32).toInt = 8 := by decide
theorem ti_9 : (9 : Int32).toInt = 9 := by decide
theorem ti_10 : (10 : Int32).toInt = 10 := by decide
theorem ti_12 : (12 : Int32).toInt = 12 := by decide
theorem ti_20 : (20 : Int32).toInt = 20 := by decide
theorem ti_21 : (21 : Int32).toInt = 21 := by decide
theorem ti_31 : (31 : Int32).toInt = 31 := by decide
theorem ti_32 : (32 : Int32).toInt = 32 := by decide
theorem ti_44 : (44 : Int32).toInt = 44 := by decide
theorem ti_45 : (45 : Int32).toInt = 45 := by decide
theorem ti_48 : (48 : Int32).toInt = 48 := by decide
theorem ti_57 : (57 : Int32).toInt = 57 := by decide
theorem ti_59 : (59 : Int32).toInt = 59 := by decide
theorem ti_60 : (60 : Int32).toInt = 60 := by decide
theorem ti_80 : (80 : Int32).toInt = 80 := by decide
theorem ti_98 : (98 : Int32).toInt = 98 := by decide
theorem ti_99 : (99 : Int32).toInt = 99 := by decide
theorem ti_100 : (100 : Int32).toInt = 100 := by decide
theorem ti_101 : (101 : Int32).toInt = 101 := by decide
theorem ti_103 : (103 : Int32).toInt = 103 := by decide
theorem ti_108 : (108 : Int32).toInt = 108 := by decide
theorem ti_110 : (110 : Int32).toInt = 110 := by decide
theorem ti_114 : (114 : Int32).toInt = 114 := by decide
theorem ti_127 : (127 : Int32).toInt = 127 := by decide
theorem ti_200 : (200 : Int32).toInt = 200 := by decide
theorem ti_240 : (240 : Int32).toInt = 240 := by decide
theorem ti_360 : (360 : Int32).toInt = 360 := by decide
theorem tj_m9223372036854775808 : ((-9223372036854775808) : Int64).toInt = -9223372036854775808 := by decide
theorem tj_m9 : ((-9) : Int64).toInt = -9 := by decide
theorem tj_m1 : ((-1) : Int64).toInt = -1 := by decide
theorem tj_0 : (0 : Int64).toInt = 0 := by decide
theorem tj_1 : (1 : Int64).toInt = 1 := by decide
theorem tj_2 : (2 : Int64).toInt = 2 := by decide
theorem tj_3 : (3 : Int64).toInt = 3 := by decide
theorem tj_4 : (4 : Int64).toInt = 4 := by decide
theorem tj_5 : (5 : Int64).toInt = 5 := by decide
theorem tj_9 : (9 : Int64).toInt = 9 := by decide
theorem tj_10 : (10 : Int64).toInt = 10 := by decide
theorem tj_19 : (19 : Int64).toInt = 19 := by decide
theorem tj_20 : (20 : Int64).toInt = 20 := by decide
theorem tj_48 : (48 : Int64).toInt = 48 := by decide
theorem tj_57 : (57 : Int64).toInt = 57 := by decide
theorem tj_99 : (99 : Int64).toInt = 99 := by decide
theorem tj_100 : (100 : Int64).toInt = 100 := by decide
theorem tj_127 : (127 : Int64).toInt = 127 := by decide
theorem tj_4294967295 : (4294967295 : Int64).toInt = 4294967295 := by decide
def an_bumper (a : Int32) (b : Int32) (c : Int32) : Int32 := if (0 ≤ a.toInt ∧ a.toInt ≤ 99) ∧ (1 ≤ b.toInt ∧ b.toInt ≤ 9) ∧ (-9 ≤ c.toInt ∧ c.toInt ≤ 9) then 0 else -2
def an_renew (a : Int32) (b : Int32) (c : Int32) : Int32 := -1
def an_spring (a : Int32) : Int32 := if (0 ≤ a.toInt ∧ a.toInt ≤ 4) then 4 else -2
def an_wall (a : Int32) (b : Int32) : Int32 := if (0 ≤ a.toInt ∧ a.toInt ≤ 1) then (if (-1 ≤ b.toInt ∧ b.toInt ≤ 4) then 4 else -2) else -1
def an_go (a : Int32) : Int32 := if (0 ≤ a.toInt ∧ a.toInt ≤ 20) then 0 else -2
def an_feed (a : Int32) : Int32 := if (0 ≤ a.toInt ∧ a.toInt ≤ 127) then 1 else -2
def an_read : Int32 := -10
def an_of (a : Int32) (b : Int32) (c : Int32) : Int64 := MNL
def an_told (a : Int32) : Int32 := if a.toInt = 0 then 0 else if (1 ≤ a.toInt ∧ a.toInt ≤ 3) then 4 else if (4 ≤ a.toInt ∧ a.toInt ≤ 5) then 0 else -1
def an_push (a : Int32) (b : Int32) : Int64 := if (0 ≤ a.toInt ∧ a.toInt ≤ 1) ∧ (0 ≤ b.toInt ∧ b.toInt ≤ 1) then (if b.toInt = 0 then 0 else 1) else MNL
def an_where (a : Int32) : Int32 := if a.toInt < 0 then -1 else -5
def an_time (a : Int32) (b : Int32) : Int64 := MNL
def an_behind (a : Int32) (b : Int32) (c : Int32) (d : Int32) : Int64 := MNL
def an_then (a : Int32) (b : Int32) : Int64 := if (0 ≤ a.toInt ∧ a.toInt ≤ 1) ∧ (0 ≤ b.toInt ∧ b.toInt ≤ 1) then (if b.toInt = 0 then 0 else 1) else MNL
def an_often (a : Int32) : Int32 := -1
def an_at (a : Int32) (b : Int32) (c : Int32) : Int64 := MNL
def an_see (a : Int32) (b : Int32) : Int32 := if a.toInt = -1 then 0 else if (0 ≤ a.toInt ∧ a.toInt ≤ 19) ∧ ((0 ≤ b.toInt ∧ b.toInt ≤ 5) ∨ b.toInt = 9) then 1 else -1
def an_book (a : Int32) (b : Int32) : Int32 := if a.toInt = -1 then 0 else if (0 ≤ a.toInt ∧ a.toInt ≤ 19) ∧ ((0 ≤ b.toInt ∧ b.toInt ≤ 5) ∨ b.toInt = 9) then 1 else -1
def an_fits (a : Int32) (b : Int32) : Int32 := -1
def an_odds (a : Int32) (b : Int32) : Int64 := if (0 ≤ a.toInt ∧ a.toInt ≤ 20) ∧ (0 ≤ b.toInt ∧ b.toInt ≤ 1) then (if b.toInt = 0 then (if a.toInt = 0 then 1 else 0) else 1) else MNL
def an_mean (a : Int32) : Int64 := MNL
def an_event (a : Int32) (b : Int32) : Int32 := if a.toInt = -1 then 0 else if (1 ≤ a.toInt ∧ a.toInt ≤ 3) then (if (a.toInt = 1 ∧ b.toInt = 0) ∨ (a.toInt = 2 ∧ (0 ≤ b.toInt ∧ b.toInt ≤ 4)) ∨ (a.toInt = 3 ∧ ((0 ≤ b.toInt ∧ b.toInt ≤ 4) ∨ b.toInt = 9)) then 1 else -2) else -1
def an_after (a : Int32) : Int32 := if (0 ≤ a.toInt ∧ a.toInt ≤ 1) then 0 else if a.toInt = 2 then -5 else -1
def an_looked : Int32 := -5
def an_judge (a : Int32) (b : Int32) : Int32 := if (0 ≤ a.toInt ∧ a.toInt ≤ 5) then -5 else -1
def an_image : Int32 := 0
def an_undo : Int32 := -3
def an_count (a : Int32) : Int32 := if (0 ≤ a.toInt ∧ a.toInt ≤ 3) then 0 else -2
def an_tape (a : Int32) (b : Int32) (c : Int32) : Int32 := if (0 ≤ a.toInt ∧ a.toInt ≤ 5) then (if (-1 ≤ b.toInt ∧ b.toInt ≤ 4) then (if b.toInt = -1 then 1 else if 60 < c.toInt then -2 else if c.toInt < 0 then -14 else 1) else -2) else -1
def an_item (a : Int32) (b : Int32) : Int32 := if (0 ≤ a.toInt ∧ a.toInt ≤ 5) then -11 else -1
def an_peek (a : Int32) (b : Int32) : Int64 := MNL
def an_shift (a : Int32) (b : Int32) (c : Int32) (d : Int32) (e : Int32) : Int32 := if (0 ≤ a.toInt ∧ a.toInt ≤ 5) ∧ (0 ≤ c.toInt ∧ c.toInt ≤ 5) then -11 else -1
