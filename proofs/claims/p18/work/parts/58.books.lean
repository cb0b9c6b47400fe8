/-! the sizes of what is seen and booked, now and kept: the same on both sides -/
def RB (lg : LGt) (it : ITt) : Prop := it 19 2 = it 489 9 ∧ it 25 2 = it 489 11 ∧ (it 46 2).toInt64 = lg 522 4 ∧ (it 52 2).toInt64 = lg 522 6 ∧ (it 0 2 = 0 ↔ it 489 61 = 0)
theorem RB_0 : RB LG0 IT0 := by unfold RB; decide +kernel
theorem rb_8 {S : Nat → Prop} {lg lg' : LGt} {it it' : ITt} (h : RB lg it) (hk : Kc S lg it lg' it') (hs : ∀ j, S j → j < 489 ∧ j ≠ 0 ∧ j ≠ 19 ∧ j ≠ 25 ∧ j ≠ 46 ∧ j ≠ 52) : RB lg' it' := by
  have e (j : Nat) (q : j = 0 ∨ j = 19 ∨ j = 25 ∨ j = 46 ∨ j = 52 ∨ 489 ≤ j) : lg' j = lg j ∧ it' j = it j := hk j (fun z => by have := hs j z; omega)
  unfold RB
  rw [(e 0 (by decide)).2, (e 19 (by decide)).2, (e 25 (by decide)).2, (e 46 (by decide)).2, (e 52 (by decide)).2, (e 489 (by decide)).2, (e 522 (by decide)).1]
  exact h
theorem rb_9 {S F : Nat → Prop} {lg lg' : LGt} {it it' : ITt} (h : RB lg it) (hk : Kd S F lg it lg' it') (hs : ∀ j, S j → 489 < j ∧ j ≠ 522) (hf : ∀ k, F k → k ≠ 9 ∧ k ≠ 11 ∧ k ≠ 61) : RB lg' it' := by
  have e (j : Nat) (q : j < 489 ∨ j = 522) : lg' j = lg j ∧ it' j = it j := hk.1 j (by omega) (fun z => by have := hs j z; omega)
  have f (k : Nat) (q : k = 9 ∨ k = 11 ∨ k = 61) : it' 489 k = it 489 k := (hk.2 k (fun z => by have := hf k z; omega)).2
  unfold RB
  rw [(e 0 (by decide)).2, (e 19 (by decide)).2, (e 25 (by decide)).2, (e 46 (by decide)).2, (e 52 (by decide)).2, f 9 (by decide), f 11 (by decide), f 61 (by decide), (e 522 (by decide)).1]
  exact h
/-- an answer, and the size behind -/
def adA (n : Int32) (cap : Int) : Int32 × Int32 := if n.toInt = cap then (-4, n) else (n + 1, n + 1)
def stA (k w n : Int32) (cap : Int) : Int32 × Int32 := if k.toInt = -1 then (0, 0) else if ¬ (0 ≤ k.toInt ∧ k.toInt ≤ 19) ∨ ¬ ((0 ≤ w.toInt ∧ w.toInt ≤ 5) ∨ w.toInt = 9) then (-1, n) else adA n cap
theorem st_1 {k w n : Int32} {cap : Int} (h : k.toInt = -1) : ((0 : Int32), (0 : Int32)) = stA k w n cap := by unfold stA; rw [if_pos h]
theorem st_2 {k w n : Int32} {cap : Int} (h : ¬ k.toInt = -1) (h2 : ¬ (0 ≤ k.toInt ∧ k.toInt ≤ 19) ∨ ¬ ((0 ≤ w.toInt ∧ w.toInt ≤ 5) ∨ w.toInt = 9)) : ((-1 : Int32), n) = stA k w n cap := by unfold stA; rw [if_neg h, if_pos h2]
theorem st_3 {k w n : Int32} {cap : Int} (h : ¬ k.toInt = -1) (h2 : ¬ (¬ (0 ≤ k.toInt ∧ k.toInt ≤ 19) ∨ ¬ ((0 ≤ w.toInt ∧ w.toInt ≤ 5) ∨ w.toInt = 9))) : adA n cap = stA k w n cap := by unfold stA; rw [if_neg h, if_neg h2]
theorem ad_1 {n : Int32} {cap : Int} (h : n.toInt = cap) : ((-4 : Int32), n) = adA n cap := by unfold adA; rw [if_pos h]
theorem ad_2 {n m : Int32} {cap : Int} (h : ¬ n.toInt = cap) (e : m = n + 1) : (m, m) = adA n cap := by unfold adA; rw [if_neg h, e]
theorem u2_at {f g : ITt} {j k : Nat} {v : Int32} (e : g = u2 f j k v) : g j k = v := by rw [e]; unfold u2; rw [if_pos ⟨rfl, rfl⟩]
theorem u2_nr {f g : ITt} {j k i : Nat} {v : Int32} (e : g = u2 f j k v) (h : i ≠ j) : g i = f i := by rw [e]; exact u2_row h
theorem ad_8 {a0 : Nat} {it it1 it2 it3 : ITt} {x y : Int32} {k1 k2 : Nat} (e3 : it3 = u2 it2 a0 2 (it2 a0 2 + 1)) (e2 : it2 = u2 it1 (a0 + 2) k2 y) (e1 : it1 = u2 it (a0 + 1) k1 x) : it3 a0 2 = it a0 2 + 1 := by
  rw [u2_at e3, u2_nr e2 (by omega), u2_nr e1 (by omega)]
theorem ad_9 {f r1 r2 k1 k2 : Nat} {it it1 it2 it3 : ITt} {x y : Int32} (e3 : it3 = u2 it2 489 f (it2 489 f + 1)) (e2 : it2 = u2 it1 r2 k2 y) (e1 : it1 = u2 it r1 k1 x) (h : 489 < r1 ∧ 489 < r2) : it3 489 f = it 489 f + 1 := by
  rw [u2_at e3, u2_nr e2 (by omega), u2_nr e1 (by omega)]
theorem st_0 {k w n m : Int32} {cap : Int} (e : m = 0) (h : k.toInt = -1) : ((0 : Int32), m) = stA k w n cap := by rw [e]; exact st_1 h
theorem cap5 : ((LAY (19 + 1)).2 : Int) = 5 := by decide +kernel
theorem cap8 : ((LAY (25 + 1)).2 : Int) = 8 := by decide +kernel
theorem rb_see {S S' F : Nat → Prop} {lg lg1 lg2 : LGt} {it it1 it2 : ITt} {v v' a b : Int32} (h : RB lg it) (q8 : (v, it1 19 2) = stA a b (it 19 2) ((LAY (19 + 1)).2 : Int)) (k8 : Kc S lg it lg1 it1) (s8 : ∀ j, S j → 19 ≤ j ∧ j < 22)
    (q9 : (v', it2 489 9) = stA a b (it1 489 9) 5) (k9 : Kd S' F lg1 it1 lg2 it2) (s9 : ∀ j, S' j → 489 < j ∧ j ≠ 522) (f9 : ∀ k, F k → k = 9) : RB lg2 it2 ∧ v = v' := by
  have c (j : Nat) (q : ¬ (19 ≤ j ∧ j < 22)) : lg1 j = lg j ∧ it1 j = it j := k8 j (fun z => q (s8 j z))
  have r (j : Nat) (q : j < 489 ∨ j = 522) : lg2 j = lg1 j ∧ it2 j = it1 j := k9.1 j (by omega) (fun z => by have := s9 j z; omega)
  have f (k : Nat) (q : k ≠ 9) : it2 489 k = it1 489 k := (k9.2 k (fun z => q (f9 k z))).2
  obtain ⟨h1, h2, h3, h4, h5⟩ := h
  rw [cap5, h1] at q8
  rw [(c 489 (by decide)).2] at q9
  obtain ⟨ev, en⟩ := Prod.mk.inj (q8.trans q9.symm)
  refine ⟨⟨?_, ?_, ?_, ?_, ?_⟩, ev⟩
  · rw [(r 19 (by decide)).2]; exact en
  · rw [(r 25 (by decide)).2, f 11 (by decide), (c 25 (by decide)).2, (c 489 (by decide)).2]; exact h2
  · rw [(r 46 (by decide)).2, (r 522 (by decide)).1, (c 46 (by decide)).2, (c 522 (by decide)).1]; exact h3
  · rw [(r 52 (by decide)).2, (r 522 (by decide)).1, (c 52 (by decide)).2, (c 522 (by decide)).1]; exact h4
  · rw [(r 0 (by decide)).2, f 61 (by decide), (c 0 (by decide)).2, (c 489 (by decide)).2]; exact h5
theorem rb_book {S S' F : Nat → Prop} {lg lg1 lg2 : LGt} {it it1 it2 : ITt} {v v' a b : Int32} (h : RB lg it) (q8 : (v, it1 25 2) = stA a b (it 25 2) ((LAY (25 + 1)).2 : Int)) (k8 : Kc S lg it lg1 it1) (s8 : ∀ j, S j → 25 ≤ j ∧ j < 28)
    (q9 : (v', it2 489 11) = stA a b (it1 489 11) 8) (k9 : Kd S' F lg1 it1 lg2 it2) (s9 : ∀ j, S' j → 489 < j ∧ j ≠ 522) (f9 : ∀ k, F k → k = 11) : RB lg2 it2 ∧ v = v' := by
  have c (j : Nat) (q : ¬ (25 ≤ j ∧ j < 28)) : lg1 j = lg j ∧ it1 j = it j := k8 j (fun z => q (s8 j z))
  have r (j : Nat) (q : j < 489 ∨ j = 522) : lg2 j = lg1 j ∧ it2 j = it1 j := k9.1 j (by omega) (fun z => by have := s9 j z; omega)
  have f (k : Nat) (q : k ≠ 11) : it2 489 k = it1 489 k := (k9.2 k (fun z => q (f9 k z))).2
  obtain ⟨h1, h2, h3, h4, h5⟩ := h
  rw [cap8, h2] at q8
  rw [(c 489 (by decide)).2] at q9
  obtain ⟨ev, en⟩ := Prod.mk.inj (q8.trans q9.symm)
  refine ⟨⟨?_, ?_, ?_, ?_, ?_⟩, ev⟩
  · rw [(r 19 (by decide)).2, f 9 (by decide), (c 19 (by decide)).2, (c 489 (by decide)).2]; exact h1
  · rw [(r 25 (by decide)).2]; exact en
  · rw [(r 46 (by decide)).2, (r 522 (by decide)).1, (c 46 (by decide)).2, (c 522 (by decide)).1]; exact h3
  · rw [(r 52 (by decide)).2, (r 522 (by decide)).1, (c 52 (by decide)).2, (c 522 (by decide)).1]; exact h4
  · rw [(r 0 (by decide)).2, f 61 (by decide), (c 0 (by decide)).2, (c 489 (by decide)).2]; exact h5
theorem rb_image {S S' F : Nat → Prop} {lg lg1 lg2 : LGt} {it it1 it2 : ITt} (h : RB lg it) (q8 : it1 46 2 = it 19 2 ∧ it1 52 2 = it 25 2 ∧ it1 0 2 = 1) (k8 : Kc S lg it lg1 it1) (s8 : ∀ j, S j → j = 0 ∨ 28 ≤ j ∧ j < 55)
    (q9 : (lg2 522 1 = (it1 489 1).toInt64 ∧ lg2 522 4 = (it1 489 9).toInt64 ∧ lg2 522 6 = (it1 489 11).toInt64) ∧ ¬ it2 489 61 = 0) (k9 : Kd S' F lg1 it1 lg2 it2) (s9 : ∀ j, S' j → 489 < j) (f9 : ∀ k, F k → k = 61) : RB lg2 it2 := by
  have c (j : Nat) (q : ¬ (j = 0 ∨ 28 ≤ j ∧ j < 55)) : lg1 j = lg j ∧ it1 j = it j := k8 j (fun z => q (s8 j z))
  have r (j : Nat) (q : j < 489) : lg2 j = lg1 j ∧ it2 j = it1 j := k9.1 j (by omega) (fun z => by have := s9 j z; omega)
  have f (k : Nat) (q : k ≠ 61) : it2 489 k = it1 489 k := (k9.2 k (fun z => q (f9 k z))).2
  obtain ⟨h1, h2, h3, h4, h5⟩ := h
  obtain ⟨a1, a2, a3⟩ := q8
  obtain ⟨⟨b1, b2, b3⟩, b4⟩ := q9
  refine ⟨?_, ?_, ?_, ?_, ?_⟩
  · rw [(r 19 (by decide)).2, f 9 (by decide), (c 19 (by decide)).2, (c 489 (by decide)).2]; exact h1
  · rw [(r 25 (by decide)).2, f 11 (by decide), (c 25 (by decide)).2, (c 489 (by decide)).2]; exact h2
  · rw [(r 46 (by decide)).2, a1, b2, (c 489 (by decide)).2, h1]
  · rw [(r 52 (by decide)).2, a2, b3, (c 489 (by decide)).2, h2]
  · rw [(r 0 (by decide)).2, a3]; exact ⟨fun q => absurd q (by decide), fun q => absurd q b4⟩
theorem rb_undo {S S' F : Nat → Prop} {lg lg1 lg2 : LGt} {it it1 it2 : ITt} (h : RB lg it) (q8 : (it 0 2 = 0 ∧ lg1 = lg ∧ it1 = it) ∨ (¬ it 0 2 = 0 ∧ it1 19 2 = it 46 2 ∧ it1 25 2 = it 52 2)) (k8 : Kc S lg it lg1 it1) (s8 : ∀ j, S j → 1 ≤ j ∧ j < 28)
    (q9 : (it1 489 61 = 0 ∧ lg2 = lg1 ∧ it2 = it1) ∨ (¬ it1 489 61 = 0 ∧ it2 489 1 = (lg1 522 1).toInt32 ∧ it2 489 9 = (lg1 522 4).toInt32 ∧ it2 489 11 = (lg1 522 6).toInt32)) (k9 : Kd S' F lg1 it1 lg2 it2) (s9 : ∀ j, S' j → 489 < j ∧ j ≠ 522) (f9 : ∀ k, F k → k ≠ 61) : RB lg2 it2 := by
  have c (j : Nat) (q : ¬ (1 ≤ j ∧ j < 28)) : lg1 j = lg j ∧ it1 j = it j := k8 j (fun z => q (s8 j z))
  have r (j : Nat) (q : j < 489 ∨ j = 522) : lg2 j = lg1 j ∧ it2 j = it1 j := k9.1 j (by omega) (fun z => by have := s9 j z; omega)
  have f : it2 489 61 = it1 489 61 := (k9.2 61 (fun z => f9 61 z rfl)).2
  have h' := h
  obtain ⟨h1, h2, h3, h4, h5⟩ := h
  rcases q8 with ⟨a1, a2, a3⟩ | ⟨a1, a2, a3⟩
  · subst a2 a3
    rcases q9 with ⟨b1, b2, b3⟩ | ⟨b1, _⟩
    · subst b2 b3
      exact h'
    · exact absurd (h5.mp a1) b1
  · rcases q9 with ⟨b1, _⟩ | ⟨b1, b2, b3, b4⟩
    · rw [(c 489 (by decide)).2] at b1
      exact absurd (h5.mpr b1) a1
    · refine ⟨?_, ?_, ?_, ?_, ?_⟩
      · rw [(r 19 (by decide)).2, a2, b3, (c 522 (by decide)).1, ← h3]; exact (Int32.toInt32_toInt64 _).symm
      · rw [(r 25 (by decide)).2, a3, b4, (c 522 (by decide)).1, ← h4]; exact (Int32.toInt32_toInt64 _).symm
      · rw [(r 46 (by decide)).2, (r 522 (by decide)).1, (c 46 (by decide)).2, (c 522 (by decide)).1]; exact h3
      · rw [(r 52 (by decide)).2, (r 522 (by decide)).1, (c 52 (by decide)).2, (c 522 (by decide)).1]; exact h4
      · rw [(r 0 (by decide)).2, f, (c 0 (by decide)).2, (c 489 (by decide)).2]; exact h5
theorem im_x {it it1 it2 : ITt} (e : it2 = u2 it1 0 2 1) (h : it1 (28 + 18) 2 = it (1 + 18) 2 ∧ it1 (28 + 24) 2 = it (1 + 24) 2) : it2 46 2 = it 19 2 ∧ it2 52 2 = it 25 2 ∧ it2 0 2 = 1 := by
  rw [u2_nr e (i := 46) (by decide), u2_nr e (i := 52) (by decide), u2_at e]
  exact ⟨h.1, h.2, rfl⟩
set_option maxRecDepth 100000 in
theorem t_X2_add {a0 : Nat} (ha0 : a0 ∈ pb) (a1 : Int32) (a2 : Int32) {lg0 : LGt} {it0 : ITt} (hI : I8 lg0 it0) : w_X2_add a0 a1 a2 (fun (v : Int32) (lg' : LGt) (it' : ITt) => (I8 lg' it' ∧ Kc (fun j => (a0 ≤ j ∧ j < a0 + 3)) lg0 it0 lg' it') ∧ ((v, it' a0 2) = adA (it0 a0 2) ((LAY (a0 + 1)).2 : Int)))  lg0 it0 := by
  have hb_a1 := And.intro a1.le_toInt a1.toInt_lt
  have hb_a2 := And.intro a2.le_toInt a2.toInt_lt
  have hKr : Kc (fun j => (a0 ≤ j ∧ j < a0 + 3)) lg0 it0 lg0 it0 := kc_r
  generalize hp : (fun (v : Int32) (lg' : LGt) (it' : ITt) => (I8 lg' it' ∧ Kc (fun j => (a0 ≤ j ∧ j < a0 + 3)) lg0 it0 lg' it') ∧ ((v, it' a0 2) = adA (it0 a0 2) ((LAY (a0 + 1)).2 : Int))) = Pz
  unfold w_X2_add
  have hln := pb_len ha0
  have hb2 := i8_2 hI (obp ha0)
  have f11 : 0 ≤ (it0 a0 2).toInt ∧ (it0 a0 2).toInt ≤ ((LAY (a0 + 1)).2 : Int) := i8_2 hI (obp ha0)
  have f12 : (Int32.ofNat (LAY (a0 + 1)).2).toInt = ((LAY (a0 + 1)).2 : Int) := oN (lay_le _)
  refine ⟨fun c9 => ?_, fun c9 => ?_⟩
  · try simp only [Int32.lt_iff_toInt_lt, Int32.le_iff_toInt_le, ← Int32.toInt_inj, Int32.toInt_toInt64, tiA, tlA] at c9
    have hi13 : vp_in (it0 a0 2) (LAY (a0 + 1)).2 := vp_of (by first | omega | ((try simp only [Int32.lt_iff_toInt_lt, Int32.le_iff_toInt_le, ← Int32.toInt_inj, Int32.toInt_toInt64, tiA, tlA]); omega) | (split <;> omega)) (by first | omega | ((try simp only [Int32.lt_iff_toInt_lt, Int32.le_iff_toInt_le, ← Int32.toInt_inj, Int32.toInt_toInt64, tiA, tlA]); omega) | (split <;> omega))
    refine ⟨hi13, ?_⟩
    have hz14 := vlt hi13
    intro it15 em16
    have hI17 : I8 lg0 it15 := by rw [em16]; exact i8_u hI (ok8_a (pob1 ha0) (by decide))
    have hK18 : Kc (fun j => (a0 ≤ j ∧ j < a0 + 3)) lg0 it0 lg0 it15 := by rw [em16]; exact kc_u (by first | omega | (dsimp only; omega)) hKr
    try have e19 : (it15 a0 2).toInt = (it0 a0 2).toInt := by rw [em16]; exact congrArg Int32.toInt (congrFun (u2_row (by omega)) 2)
    have f20 : 0 ≤ (it15 a0 2).toInt ∧ (it15 a0 2).toInt ≤ ((LAY (a0 + 1)).2 : Int) := i8_2 hI17 (obp ha0)
    have hi21 : vp_in (it15 a0 2) (LAY (a0 + 2)).2 := vp_of (by first | omega | ((try simp only [Int32.lt_iff_toInt_lt, Int32.le_iff_toInt_le, ← Int32.toInt_inj, Int32.toInt_toInt64, tiA, tlA]); omega) | (split <;> omega)) (by first | omega | ((try simp only [Int32.lt_iff_toInt_lt, Int32.le_iff_toInt_le, ← Int32.toInt_inj, Int32.toInt_toInt64, tiA, tlA]); omega) | (split <;> omega))
    refine ⟨hi21, ?_⟩
    have hz22 := vlt hi21
    intro it23 em24
    have hI25 : I8 lg0 it23 := by rw [em24]; exact i8_u hI17 (ok8_a (pob2 ha0) (by decide))
    have hK26 : Kc (fun j => (a0 ≤ j ∧ j < a0 + 3)) lg0 it0 lg0 it23 := by rw [em24]; exact kc_u (by first | omega | (dsimp only; omega)) hK18
    try have e27 : (it23 a0 2).toInt = (it15 a0 2).toInt := by rw [em24]; exact congrArg Int32.toInt (congrFun (u2_row (by omega)) 2)
    have f28 : 0 ≤ (it23 a0 2).toInt ∧ (it23 a0 2).toInt ≤ ((LAY (a0 + 1)).2 : Int) := i8_2 hI25 (obp ha0)
    try have f29 : (((it23 a0 2) + 1) : Int32).toInt = ((it23 a0 2)).toInt + 1 := ad32 (a := ((it23 a0 2)).toInt) (b := 1) (rfl) (ti_1) (by omega) (by omega)
    intro it30 em31
    have hI32 : I8 lg0 it30 := by rw [em31]; exact i8_u hI25 (ok8_2 (obp ha0) (fun _ => by (try simp only [Int32.lt_iff_toInt_lt, Int32.le_iff_toInt_le, ← Int32.toInt_inj, Int32.toInt_toInt64, tiA, tlA]); omega))
    have hK33 : Kc (fun j => (a0 ≤ j ∧ j < a0 + 3)) lg0 it0 lg0 it30 := by rw [em31]; exact kc_u (by first | omega | (dsimp only; omega)) hK26
    have f35 : 0 ≤ (it30 a0 2).toInt ∧ (it30 a0 2).toInt ≤ ((LAY (a0 + 1)).2 : Int) := i8_2 hI32 (obp ha0)
    subst hp
    exact ⟨⟨hI32, hK33⟩, by first | exact ad_1 (by omega) | exact ad_2 (by omega) (ad_8 (by assumption) (by assumption) (by assumption))⟩
  · try simp only [Int32.lt_iff_toInt_lt, Int32.le_iff_toInt_le, ← Int32.toInt_inj, Int32.toInt_toInt64, tiA, tlA] at c9
    subst hp
    exact ⟨⟨hI, hKr⟩, by first | exact ad_1 (by omega) | exact ad_2 (by omega) (ad_8 (by assumption) (by assumption) (by assumption))⟩
set_option maxRecDepth 100000 in
theorem t_X8_addStrike {a0 : Nat} (ha0 : a0 ∈ pb) (a1 : Int32) (a2 : Int32) {lg0 : LGt} {it0 : ITt} (hI : I8 lg0 it0) : w_X8_addStrike a0 a1 a2 (fun (v : Int32) (lg' : LGt) (it' : ITt) => (I8 lg' it' ∧ Kc (fun j => (a0 ≤ j ∧ j < a0 + 3)) lg0 it0 lg' it') ∧ ((v, it' a0 2) = stA a1 a2 (it0 a0 2) ((LAY (a0 + 1)).2 : Int)))  lg0 it0 := by
  have hb_a1 := And.intro a1.le_toInt a1.toInt_lt
  have hb_a2 := And.intro a2.le_toInt a2.toInt_lt
  have hKr : Kc (fun j => (a0 ≤ j ∧ j < a0 + 3)) lg0 it0 lg0 it0 := kc_r
  generalize hp : (fun (v : Int32) (lg' : LGt) (it' : ITt) => (I8 lg' it' ∧ Kc (fun j => (a0 ≤ j ∧ j < a0 + 3)) lg0 it0 lg' it') ∧ ((v, it' a0 2) = stA a1 a2 (it0 a0 2) ((LAY (a0 + 1)).2 : Int))) = Pz
  unfold w_X8_addStrike
  refine ⟨fun c2 => ?_, fun c2 => ?_⟩
  · try simp only [Int32.lt_iff_toInt_lt, Int32.le_iff_toInt_le, ← Int32.toInt_inj, Int32.toInt_toInt64, tiA, tlA] at c2
    refine ⟨fun c13 => ?_, fun c13 => ?_⟩
    · try simp only [Int32.lt_iff_toInt_lt, Int32.le_iff_toInt_le, ← Int32.toInt_inj, Int32.toInt_toInt64, tiA, tlA] at c13
      subst hp
      exact ⟨⟨hI, hKr⟩, by first | exact st_0 (u2_at (by assumption)) (by omega) | exact st_2 (by omega) (by omega) | exact Eq.trans (by assumption) (st_3 (by omega) (by omega))⟩
    · try simp only [Int32.lt_iff_toInt_lt, Int32.le_iff_toInt_le, ← Int32.toInt_inj, Int32.toInt_toInt64, tiA, tlA] at c13
      refine ⟨fun c19 => ?_, fun c19 => ?_⟩
      · try simp only [Int32.lt_iff_toInt_lt, Int32.le_iff_toInt_le, ← Int32.toInt_inj, Int32.toInt_toInt64, tiA, tlA] at c19
        subst hp
        exact ⟨⟨hI, hKr⟩, by first | exact st_0 (u2_at (by assumption)) (by omega) | exact st_2 (by omega) (by omega) | exact Eq.trans (by assumption) (st_3 (by omega) (by omega))⟩
      · try simp only [Int32.lt_iff_toInt_lt, Int32.le_iff_toInt_le, ← Int32.toInt_inj, Int32.toInt_toInt64, tiA, tlA] at c19
        refine ⟨fun c26 => ?_, fun c26 => ?_⟩
        · try simp only [Int32.lt_iff_toInt_lt, Int32.le_iff_toInt_le, ← Int32.toInt_inj, Int32.toInt_toInt64, tiA, tlA] at c26
          refine ⟨_, t_X2_add (ha0) (a1) (a2) hI , ?_⟩
          intro v23 lg18 it19 hq
          obtain ⟨⟨hI20, hK21⟩, ha24⟩ := hq
          have hK22 : Kc (fun j => (a0 ≤ j ∧ j < a0 + 3)) lg0 it0 lg18 it19 := kc_t hKr hK21 (fun j hj => by first | omega | exact False.elim hj | (dsimp only at hj ⊢; omega))
          subst hp
          exact ⟨⟨hI20, hK22⟩, by first | exact st_0 (u2_at (by assumption)) (by omega) | exact st_2 (by omega) (by omega) | exact Eq.trans (by assumption) (st_3 (by omega) (by omega))⟩
        · try simp only [Int32.lt_iff_toInt_lt, Int32.le_iff_toInt_le, ← Int32.toInt_inj, Int32.toInt_toInt64, tiA, tlA] at c26
          subst hp
          exact ⟨⟨hI, hKr⟩, by first | exact st_0 (u2_at (by assumption)) (by omega) | exact st_2 (by omega) (by omega) | exact Eq.trans (by assumption) (st_3 (by omega) (by omega))⟩
  · try simp only [Int32.lt_iff_toInt_lt, Int32.le_iff_toInt_le, ← Int32.toInt_inj, Int32.toInt_toInt64, tiA, tlA] at c2
    intro it25 em26
    have hI27 : I8 lg0 it25 := by rw [em26]; exact i8_u hI (ok8_2 (obp ha0) (fun _ => by (try simp only [Int32.lt_iff_toInt_lt, Int32.le_iff_toInt_le, ← Int32.toInt_inj, Int32.toInt_toInt64, tiA, tlA]); omega))
    have hK28 : Kc (fun j => (a0 ≤ j ∧ j < a0 + 3)) lg0 it0 lg0 it25 := by rw [em26]; exact kc_u (by first | omega | (dsimp only; omega)) hKr
    subst hp
    exact ⟨⟨hI27, hK28⟩, by first | exact st_0 (u2_at (by assumption)) (by omega) | exact st_2 (by omega) (by omega) | exact Eq.trans (by assumption) (st_3 (by omega) (by omega))⟩
set_option maxRecDepth 100000 in
theorem t_X8_see (a1 : Int32) (a2 : Int32) {lg0 : LGt} {it0 : ITt} (hI : I8 lg0 it0) : w_X8_see a1 a2 (fun (v : Int32) (lg' : LGt) (it' : ITt) => (I8 lg' it' ∧ Kc (fun j => (19 ≤ j ∧ j < 22)) lg0 it0 lg' it') ∧ ((v, it' 19 2) = stA a1 a2 (it0 19 2) ((LAY (19 + 1)).2 : Int)))  lg0 it0 := by
  have hb_a1 := And.intro a1.le_toInt a1.toInt_lt
  have hb_a2 := And.intro a2.le_toInt a2.toInt_lt
  have hKr : Kc (fun j => (19 ≤ j ∧ j < 22)) lg0 it0 lg0 it0 := kc_r
  generalize hp : (fun (v : Int32) (lg' : LGt) (it' : ITt) => (I8 lg' it' ∧ Kc (fun j => (19 ≤ j ∧ j < 22)) lg0 it0 lg' it') ∧ ((v, it' 19 2) = stA a1 a2 (it0 19 2) ((LAY (19 + 1)).2 : Int))) = Pz
  unfold w_X8_see
  refine ⟨_, t_X8_addStrike (in_pb_19) (a1) (a2) hI , ?_⟩
  intro v13 lg8 it9 hq
  obtain ⟨⟨hI10, hK11⟩, ha14⟩ := hq
  have hK12 : Kc (fun j => (19 ≤ j ∧ j < 22)) lg0 it0 lg8 it9 := kc_t hKr hK11 (fun j hj => by first | omega | exact False.elim hj | (dsimp only at hj ⊢; omega))
  subst hp
  exact ⟨⟨hI10, hK12⟩, by assumption⟩
set_option maxRecDepth 100000 in
theorem t_X8_book (a1 : Int32) (a2 : Int32) {lg0 : LGt} {it0 : ITt} (hI : I8 lg0 it0) : w_X8_book a1 a2 (fun (v : Int32) (lg' : LGt) (it' : ITt) => (I8 lg' it' ∧ Kc (fun j => (25 ≤ j ∧ j < 28)) lg0 it0 lg' it') ∧ ((v, it' 25 2) = stA a1 a2 (it0 25 2) ((LAY (25 + 1)).2 : Int)))  lg0 it0 := by
  have hb_a1 := And.intro a1.le_toInt a1.toInt_lt
  have hb_a2 := And.intro a2.le_toInt a2.toInt_lt
  have hKr : Kc (fun j => (25 ≤ j ∧ j < 28)) lg0 it0 lg0 it0 := kc_r
  generalize hp : (fun (v : Int32) (lg' : LGt) (it' : ITt) => (I8 lg' it' ∧ Kc (fun j => (25 ≤ j ∧ j < 28)) lg0 it0 lg' it') ∧ ((v, it' 25 2) = stA a1 a2 (it0 25 2) ((LAY (25 + 1)).2 : Int))) = Pz
  unfold w_X8_book
  refine ⟨_, t_X8_addStrike (in_pb_25) (a1) (a2) hI , ?_⟩
  intro v13 lg8 it9 hq
  obtain ⟨⟨hI10, hK11⟩, ha14⟩ := hq
  have hK12 : Kc (fun j => (25 ≤ j ∧ j < 28)) lg0 it0 lg8 it9 := kc_t hKr hK11 (fun j hj => by first | omega | exact False.elim hj | (dsimp only at hj ⊢; omega))
  subst hp
  exact ⟨⟨hI10, hK12⟩, by assumption⟩
set_option maxRecDepth 100000 in
theorem t_X4_become {a0 : Nat} (ha0 : a0 ∈ sb) {a1 : Nat} (ha1 : a1 ∈ sb) {lg0 : LGt} {it0 : ITt} (hI : I8 lg0 it0) (h2 : (a0 = 28 ∧ a1 = 1) ∨ (a0 = 1 ∧ a1 = 28)) : w_X4_become a0 a1 (fun (lg' : LGt) (it' : ITt) => (I8 lg' it' ∧ Kc (fun j => (a0 ≤ j ∧ j < a0 + 27)) lg0 it0 lg' it') ∧ (it' (a0 + 18) 2 = it0 (a1 + 18) 2 ∧ it' (a0 + 24) 2 = it0 (a1 + 24) 2))  lg0 it0 := by
  have hKr : Kc (fun j => (a0 ≤ j ∧ j < a0 + 27)) lg0 it0 lg0 it0 := kc_r
  generalize hp : (fun (lg' : LGt) (it' : ITt) => (I8 lg' it' ∧ Kc (fun j => (a0 ≤ j ∧ j < a0 + 27)) lg0 it0 lg' it') ∧ (it' (a0 + 18) 2 = it0 (a1 + 18) 2 ∧ it' (a0 + 24) 2 = it0 (a1 + 24) 2)) = Pz
  unfold w_X4_become
  have hln := sb_lens ha0 ha1
  refine ⟨_, s_X3_become ((sm0 ha0)) ((sm0 ha1))  hI , ?_⟩
  intro lg29 it30 hq
  obtain ⟨hI31, hK32⟩ := hq
  have hK33 : Kc (fun j => (a0 ≤ j ∧ j < a0 + 27)) lg0 it0 lg29 it30 := kc_t hKr hK32 (fun j hj => by first | omega | exact False.elim hj | (dsimp only at hj ⊢; omega))
  try have e36 : (it30 (a0 + 18) 2).toInt = (it0 (a0 + 18) 2).toInt := congrArg (fun f => Int32.toInt (f 2)) (hK32 (a0 + 18) (by first | omega | (dsimp only; omega))).2
  try have e37 : (it30 (a1 + 18) 2).toInt = (it0 (a1 + 18) 2).toInt := congrArg (fun f => Int32.toInt (f 2)) (hK32 (a1 + 18) (by first | omega | (dsimp only; omega))).2
  try have e38 : (it30 (a0 + 24) 2).toInt = (it0 (a0 + 24) 2).toInt := congrArg (fun f => Int32.toInt (f 2)) (hK32 (a0 + 24) (by first | omega | (dsimp only; omega))).2
  try have e39 : (it30 (a1 + 24) 2).toInt = (it0 (a1 + 24) 2).toInt := congrArg (fun f => Int32.toInt (f 2)) (hK32 (a1 + 24) (by first | omega | (dsimp only; omega))).2
  refine ⟨_, s_X2_become ((sm1 ha0)) ((sm1 ha1))  hI31 (hln.1), ?_⟩
  intro lg40 it41 hq
  obtain ⟨⟨hI42, hK43⟩, ha46⟩ := hq
  have hK44 : Kc (fun j => (a0 ≤ j ∧ j < a0 + 27)) lg0 it0 lg40 it41 := kc_t hK33 hK43 (fun j hj => by first | omega | exact False.elim hj | (dsimp only at hj ⊢; omega))
  try have e47 : (it41 (a0 + 18) 2).toInt = (it30 (a0 + 18) 2).toInt := congrArg (fun f => Int32.toInt (f 2)) (hK43 (a0 + 18) (by first | omega | (dsimp only; omega))).2
  try have e48 : (it41 (a1 + 18) 2).toInt = (it30 (a1 + 18) 2).toInt := congrArg (fun f => Int32.toInt (f 2)) (hK43 (a1 + 18) (by first | omega | (dsimp only; omega))).2
  try have e49 : (it41 (a0 + 24) 2).toInt = (it30 (a0 + 24) 2).toInt := congrArg (fun f => Int32.toInt (f 2)) (hK43 (a0 + 24) (by first | omega | (dsimp only; omega))).2
  try have e50 : (it41 (a1 + 24) 2).toInt = (it30 (a1 + 24) 2).toInt := congrArg (fun f => Int32.toInt (f 2)) (hK43 (a1 + 24) (by first | omega | (dsimp only; omega))).2
  have := congrArg Int32.toInt ha46
  refine ⟨_, s_X2_become ((sm2 ha0)) ((sm2 ha1))  hI42 (hln.2.1), ?_⟩
  intro lg51 it52 hq
  obtain ⟨⟨hI53, hK54⟩, ha57⟩ := hq
  have hK55 : Kc (fun j => (a0 ≤ j ∧ j < a0 + 27)) lg0 it0 lg51 it52 := kc_t hK44 hK54 (fun j hj => by first | omega | exact False.elim hj | (dsimp only at hj ⊢; omega))
  try have e58 : (it52 (a0 + 18) 2).toInt = (it41 (a0 + 18) 2).toInt := congrArg (fun f => Int32.toInt (f 2)) (hK54 (a0 + 18) (by first | omega | (dsimp only; omega))).2
  try have e59 : (it52 (a1 + 18) 2).toInt = (it41 (a1 + 18) 2).toInt := congrArg (fun f => Int32.toInt (f 2)) (hK54 (a1 + 18) (by first | omega | (dsimp only; omega))).2
  try have e60 : (it52 (a0 + 24) 2).toInt = (it41 (a0 + 24) 2).toInt := congrArg (fun f => Int32.toInt (f 2)) (hK54 (a0 + 24) (by first | omega | (dsimp only; omega))).2
  try have e61 : (it52 (a1 + 24) 2).toInt = (it41 (a1 + 24) 2).toInt := congrArg (fun f => Int32.toInt (f 2)) (hK54 (a1 + 24) (by first | omega | (dsimp only; omega))).2
  have := congrArg Int32.toInt ha57
  refine ⟨_, s_X2_become ((sm3 ha0)) ((sm3 ha1))  hI53 (hln.2.2), ?_⟩
  intro lg62 it63 hq
  obtain ⟨⟨hI64, hK65⟩, ha68⟩ := hq
  have hK66 : Kc (fun j => (a0 ≤ j ∧ j < a0 + 27)) lg0 it0 lg62 it63 := kc_t hK55 hK65 (fun j hj => by first | omega | exact False.elim hj | (dsimp only at hj ⊢; omega))
  try have e69 : (it63 (a0 + 18) 2).toInt = (it52 (a0 + 18) 2).toInt := congrArg (fun f => Int32.toInt (f 2)) (hK65 (a0 + 18) (by first | omega | (dsimp only; omega))).2
  try have e70 : (it63 (a1 + 18) 2).toInt = (it52 (a1 + 18) 2).toInt := congrArg (fun f => Int32.toInt (f 2)) (hK65 (a1 + 18) (by first | omega | (dsimp only; omega))).2
  try have e71 : (it63 (a0 + 24) 2).toInt = (it52 (a0 + 24) 2).toInt := congrArg (fun f => Int32.toInt (f 2)) (hK65 (a0 + 24) (by first | omega | (dsimp only; omega))).2
  try have e72 : (it63 (a1 + 24) 2).toInt = (it52 (a1 + 24) 2).toInt := congrArg (fun f => Int32.toInt (f 2)) (hK65 (a1 + 24) (by first | omega | (dsimp only; omega))).2
  have := congrArg Int32.toInt ha68
  subst hp
  exact ⟨⟨hI64, hK66⟩, by constructor <;> (apply Int32.toInt_inj.mp; omega)⟩
set_option maxRecDepth 100000 in
theorem t_X8_image {lg0 : LGt} {it0 : ITt} (hI : I8 lg0 it0) : w_X8_image  (fun (v : Int32) (lg' : LGt) (it' : ITt) => (I8 lg' it' ∧ Kc (fun j => (28 ≤ j ∧ j < 55) ∨ (0 ≤ j ∧ j < 1)) lg0 it0 lg' it') ∧ (it' 46 2 = it0 19 2 ∧ it' 52 2 = it0 25 2 ∧ it' 0 2 = 1))  lg0 it0 := by
  have hKr : Kc (fun j => (28 ≤ j ∧ j < 55) ∨ (0 ≤ j ∧ j < 1)) lg0 it0 lg0 it0 := kc_r
  generalize hp : (fun (v : Int32) (lg' : LGt) (it' : ITt) => (I8 lg' it' ∧ Kc (fun j => (28 ≤ j ∧ j < 55) ∨ (0 ≤ j ∧ j < 1)) lg0 it0 lg' it') ∧ (it' 46 2 = it0 19 2 ∧ it' 52 2 = it0 25 2 ∧ it' 0 2 = 1)) = Pz
  unfold w_X8_image
  refine ⟨_, t_X4_become (in_sb_28) (in_sb_1)  hI (by decide), ?_⟩
  intro lg10 it11 hq
  obtain ⟨⟨hI12, hK13⟩, ha16⟩ := hq
  have hK14 : Kc (fun j => (28 ≤ j ∧ j < 55) ∨ (0 ≤ j ∧ j < 1)) lg0 it0 lg10 it11 := kc_t hKr hK13 (fun j hj => by first | omega | exact False.elim hj | (dsimp only at hj ⊢; omega))
  intro it17 em18
  have hI19 : I8 lg10 it17 := by rw [em18]; exact i8_u hI12 (ok8_a (oq_0) (by decide))
  have hK20 : Kc (fun j => (28 ≤ j ∧ j < 55) ∨ (0 ≤ j ∧ j < 1)) lg0 it0 lg10 it17 := by rw [em18]; exact kc_u (by first | omega | (dsimp only; omega)) hK14
  have f21 : 0 ≤ (it17 2 0).toInt ∧ (it17 2 0).toInt ≤ 6 := i8_3 hI19 (oq_2)
  subst hp
  exact ⟨⟨hI19, hK20⟩, im_x (by assumption) (by assumption)⟩
set_option maxRecDepth 100000 in
theorem t_X8_undo {lg0 : LGt} {it0 : ITt} (hI : I8 lg0 it0) : w_X8_undo  (fun (v : Int32) (lg' : LGt) (it' : ITt) => (I8 lg' it' ∧ Kc (fun j => (1 ≤ j ∧ j < 28)) lg0 it0 lg' it') ∧ ((it0 0 2 = 0 ∧ lg' = lg0 ∧ it' = it0) ∨ (¬ it0 0 2 = 0 ∧ it' 19 2 = it0 46 2 ∧ it' 25 2 = it0 52 2)))  lg0 it0 := by
  have hKr : Kc (fun j => (1 ≤ j ∧ j < 28)) lg0 it0 lg0 it0 := kc_r
  generalize hp : (fun (v : Int32) (lg' : LGt) (it' : ITt) => (I8 lg' it' ∧ Kc (fun j => (1 ≤ j ∧ j < 28)) lg0 it0 lg' it') ∧ ((it0 0 2 = 0 ∧ lg' = lg0 ∧ it' = it0) ∨ (¬ it0 0 2 = 0 ∧ it' 19 2 = it0 46 2 ∧ it' 25 2 = it0 52 2))) = Pz
  unfold w_X8_undo
  refine ⟨fun c4 => ?_, fun c4 => ?_⟩
  · try simp only [Int32.lt_iff_toInt_lt, Int32.le_iff_toInt_le, ← Int32.toInt_inj, Int32.toInt_toInt64, tiA, tlA] at c4
    refine ⟨_, t_X4_become (in_sb_1) (in_sb_28)  hI (by decide), ?_⟩
    intro lg10 it11 hq
    obtain ⟨⟨hI12, hK13⟩, ha16⟩ := hq
    have hK14 : Kc (fun j => (1 ≤ j ∧ j < 28)) lg0 it0 lg10 it11 := kc_t hKr hK13 (fun j hj => by first | omega | exact False.elim hj | (dsimp only at hj ⊢; omega))
    try have e17 : (it11 0 2).toInt = (it0 0 2).toInt := congrArg (fun f => Int32.toInt (f 2)) (hK13 0 (by first | omega | (dsimp only; omega))).2
    have f18 : 0 ≤ (it11 2 0).toInt ∧ (it11 2 0).toInt ≤ 6 := i8_3 hI12 (oq_2)
    subst hp
    exact ⟨⟨hI12, hK14⟩, by first | exact Or.inl ⟨Int32.toInt_inj.mp (by rw [ti_0]; assumption), rfl, rfl⟩ | exact Or.inr ⟨fun e => absurd (congrArg Int32.toInt e) (by rw [ti_0]; assumption), by assumption⟩⟩
  · try simp only [Int32.lt_iff_toInt_lt, Int32.le_iff_toInt_le, ← Int32.toInt_inj, Int32.toInt_toInt64, tiA, tlA] at c4
    subst hp
    exact ⟨⟨hI, hKr⟩, by first | exact Or.inl ⟨Int32.toInt_inj.mp (by rw [ti_0]; assumption), rfl, rfl⟩ | exact Or.inr ⟨fun e => absurd (congrArg Int32.toInt e) (by rw [ti_0]; assumption), by assumption⟩⟩
set_option maxRecDepth 100000 in
theorem t_X9_see (a1 : Int32) (a2 : Int32) {lg0 : LGt} {it0 : ITt} (hI : I9 lg0 it0) : w_X9_see a1 a2 (fun (v : Int32) (lg' : LGt) (it' : ITt) => (I9 lg' it' ∧ Kd (fun j => j = 495 ∨ j = 496) (fun k => k = 9) lg0 it0 lg' it') ∧ ((v, it' 489 9) = stA a1 a2 (it0 489 9) 5))  lg0 it0 := by
  have hb_a1 := And.intro a1.le_toInt a1.toInt_lt
  have hb_a2 := And.intro a2.le_toInt a2.toInt_lt
  have hKr : Kd (fun j => j = 495 ∨ j = 496) (fun k => k = 9) lg0 it0 lg0 it0 := kd_r
  generalize hp : (fun (v : Int32) (lg' : LGt) (it' : ITt) => (I9 lg' it' ∧ Kd (fun j => j = 495 ∨ j = 496) (fun k => k = 9) lg0 it0 lg' it') ∧ ((v, it' 489 9) = stA a1 a2 (it0 489 9) 5)) = Pz
  unfold w_X9_see
  have t0 := ti_0
  have tm1 := ti_m1
  have b0 := i9_f hI (j := 489) (k := 9) rfl
  refine ⟨fun c2 => ?_, fun c2 => ?_⟩
  · try simp only [Int32.lt_iff_toInt_lt, Int32.le_iff_toInt_le, ← Int32.toInt_inj, Int32.toInt_toInt64, tiA, tlA] at c2
    refine ⟨fun c21 => ?_, fun c21 => ?_⟩
    · try simp only [Int32.lt_iff_toInt_lt, Int32.le_iff_toInt_le, ← Int32.toInt_inj, Int32.toInt_toInt64, tiA, tlA] at c21
      subst hp
      exact ⟨⟨hI, hKr⟩, by first | exact st_0 (u2_at (by assumption)) (by omega) | exact st_2 (by omega) (by omega) | exact (ad_1 (by omega)).trans (st_3 (by omega) (by omega)) | exact (ad_2 (by omega) (ad_9 (by assumption) (by assumption) (by assumption) (by decide))).trans (st_3 (by omega) (by omega))⟩
    · try simp only [Int32.lt_iff_toInt_lt, Int32.le_iff_toInt_le, ← Int32.toInt_inj, Int32.toInt_toInt64, tiA, tlA] at c21
      refine ⟨fun c28 => ?_, fun c28 => ?_⟩
      · try simp only [Int32.lt_iff_toInt_lt, Int32.le_iff_toInt_le, ← Int32.toInt_inj, Int32.toInt_toInt64, tiA, tlA] at c28
        have f19 : 0 ≤ (it0 489 9).toInt ∧ (it0 489 9).toInt ≤ 5 := i9_f hI (j := 489) (k := 9) rfl
        refine ⟨fun c38 => ?_, fun c38 => ?_⟩
        · try simp only [Int32.lt_iff_toInt_lt, Int32.le_iff_toInt_le, ← Int32.toInt_inj, Int32.toInt_toInt64, tiA, tlA] at c38
          have hi20 : vp_in (it0 489 9) 5 := vp_of (by first | omega | ((try simp only [Int32.lt_iff_toInt_lt, Int32.le_iff_toInt_le, ← Int32.toInt_inj, Int32.toInt_toInt64, tiA, tlA]); omega) | (split <;> omega)) (by first | omega | ((try simp only [Int32.lt_iff_toInt_lt, Int32.le_iff_toInt_le, ← Int32.toInt_inj, Int32.toInt_toInt64, tiA, tlA]); omega) | (split <;> omega))
          refine ⟨hi20, ?_⟩
          have hz21 := vlt hi20
          intro it22 em23
          have hI24 : I9 lg0 it22 := by rw [em23]; exact i9_u hI (ok9_b (a := 0) (b := 19) rfl (by first | decide | ((try simp only [Int32.lt_iff_toInt_lt, Int32.le_iff_toInt_le, ← Int32.toInt_inj, Int32.toInt_toInt64, tiA, tlA]); omega) | (split <;> (try simp only [Int32.lt_iff_toInt_lt, Int32.le_iff_toInt_le, ← Int32.toInt_inj, Int32.toInt_toInt64, tiA, tlA]) <;> omega))) (by decide) (fun q => absurd q (by decide))
          have hK25 : Kd (fun j => j = 495 ∨ j = 496) (fun k => k = 9) lg0 it0 lg0 it22 := by rw [em23]; exact kd_ur (by decide) (by first | decide | (dsimp only; decide) | omega | (dsimp only; omega)) hKr
          have e26 : (it22 489 9).toInt = (it0 489 9).toInt := by rw [em23]; exact congrArg Int32.toInt (congrFun (u2_row (by decide)) 9)
          have f27 : 0 ≤ (it22 489 9).toInt ∧ (it22 489 9).toInt ≤ 5 := i9_f hI24 (j := 489) (k := 9) rfl
          have hi28 : vp_in (it22 489 9) 5 := vp_of (by first | omega | ((try simp only [Int32.lt_iff_toInt_lt, Int32.le_iff_toInt_le, ← Int32.toInt_inj, Int32.toInt_toInt64, tiA, tlA]); omega) | (split <;> omega)) (by first | omega | ((try simp only [Int32.lt_iff_toInt_lt, Int32.le_iff_toInt_le, ← Int32.toInt_inj, Int32.toInt_toInt64, tiA, tlA]); omega) | (split <;> omega))
          refine ⟨hi28, ?_⟩
          have hz29 := vlt hi28
          intro it30 em31
          have hI32 : I9 lg0 it30 := by rw [em31]; exact i9_u hI24 (ok9_n rfl) (by decide) (fun q => absurd q (by decide))
          have hK33 : Kd (fun j => j = 495 ∨ j = 496) (fun k => k = 9) lg0 it0 lg0 it30 := by rw [em31]; exact kd_ur (by decide) (by first | decide | (dsimp only; decide) | omega | (dsimp only; omega)) hK25
          have e34 : (it30 489 9).toInt = (it22 489 9).toInt := by rw [em31]; exact congrArg Int32.toInt (congrFun (u2_row (by decide)) 9)
          have f35 : 0 ≤ (it30 489 9).toInt ∧ (it30 489 9).toInt ≤ 5 := i9_f hI32 (j := 489) (k := 9) rfl
          try have f36 : (((it30 489 9) + 1) : Int32).toInt = ((it30 489 9)).toInt + 1 := ad32 (a := ((it30 489 9)).toInt) (b := 1) (rfl) (ti_1) (by omega) (by omega)
          intro it37 em38
          have hI39 : I9 lg0 it37 := by rw [em38]; exact i9_u hI32 (ok9_b (a := 0) (b := 5) rfl (by first | decide | ((try simp only [Int32.lt_iff_toInt_lt, Int32.le_iff_toInt_le, ← Int32.toInt_inj, Int32.toInt_toInt64, tiA, tlA]); omega) | (split <;> (try simp only [Int32.lt_iff_toInt_lt, Int32.le_iff_toInt_le, ← Int32.toInt_inj, Int32.toInt_toInt64, tiA, tlA]) <;> omega))) (by decide) (fun _ => by decide)
          have hK40 : Kd (fun j => j = 495 ∨ j = 496) (fun k => k = 9) lg0 it0 lg0 it37 := by rw [em38]; exact kd_uf (by first | decide | (dsimp only; decide) | omega | (dsimp only; omega)) hK33
          have e42 : (it37 489 9).toInt = (((it30 489 9) + 1) : Int32).toInt := by rw [em38]; exact congrArg Int32.toInt u2_eq
          have f43 : 0 ≤ (it37 489 9).toInt ∧ (it37 489 9).toInt ≤ 5 := i9_f hI39 (j := 489) (k := 9) rfl
          subst hp
          exact ⟨⟨hI39, hK40⟩, by first | exact st_0 (u2_at (by assumption)) (by omega) | exact st_2 (by omega) (by omega) | exact (ad_1 (by omega)).trans (st_3 (by omega) (by omega)) | exact (ad_2 (by omega) (ad_9 (by assumption) (by assumption) (by assumption) (by decide))).trans (st_3 (by omega) (by omega))⟩
        · try simp only [Int32.lt_iff_toInt_lt, Int32.le_iff_toInt_le, ← Int32.toInt_inj, Int32.toInt_toInt64, tiA, tlA] at c38
          subst hp
          exact ⟨⟨hI, hKr⟩, by first | exact st_0 (u2_at (by assumption)) (by omega) | exact st_2 (by omega) (by omega) | exact (ad_1 (by omega)).trans (st_3 (by omega) (by omega)) | exact (ad_2 (by omega) (ad_9 (by assumption) (by assumption) (by assumption) (by decide))).trans (st_3 (by omega) (by omega))⟩
      · try simp only [Int32.lt_iff_toInt_lt, Int32.le_iff_toInt_le, ← Int32.toInt_inj, Int32.toInt_toInt64, tiA, tlA] at c28
        subst hp
        exact ⟨⟨hI, hKr⟩, by first | exact st_0 (u2_at (by assumption)) (by omega) | exact st_2 (by omega) (by omega) | exact (ad_1 (by omega)).trans (st_3 (by omega) (by omega)) | exact (ad_2 (by omega) (ad_9 (by assumption) (by assumption) (by assumption) (by decide))).trans (st_3 (by omega) (by omega))⟩
  · try simp only [Int32.lt_iff_toInt_lt, Int32.le_iff_toInt_le, ← Int32.toInt_inj, Int32.toInt_toInt64, tiA, tlA] at c2
    intro it44 em45
    have hI46 : I9 lg0 it44 := by rw [em45]; exact i9_u hI (ok9_b (a := 0) (b := 5) rfl (by first | decide | ((try simp only [Int32.lt_iff_toInt_lt, Int32.le_iff_toInt_le, ← Int32.toInt_inj, Int32.toInt_toInt64, tiA, tlA]); omega) | (split <;> (try simp only [Int32.lt_iff_toInt_lt, Int32.le_iff_toInt_le, ← Int32.toInt_inj, Int32.toInt_toInt64, tiA, tlA]) <;> omega))) (by decide) (fun _ => by decide)
    have hK47 : Kd (fun j => j = 495 ∨ j = 496) (fun k => k = 9) lg0 it0 lg0 it44 := by rw [em45]; exact kd_uf (by first | decide | (dsimp only; decide) | omega | (dsimp only; omega)) hKr
    subst hp
    exact ⟨⟨hI46, hK47⟩, by first | exact st_0 (u2_at (by assumption)) (by omega) | exact st_2 (by omega) (by omega) | exact (ad_1 (by omega)).trans (st_3 (by omega) (by omega)) | exact (ad_2 (by omega) (ad_9 (by assumption) (by assumption) (by assumption) (by decide))).trans (st_3 (by omega) (by omega))⟩
set_option maxRecDepth 100000 in
theorem t_X9_book (a1 : Int32) (a2 : Int32) {lg0 : LGt} {it0 : ITt} (hI : I9 lg0 it0) : w_X9_book a1 a2 (fun (v : Int32) (lg' : LGt) (it' : ITt) => (I9 lg' it' ∧ Kd (fun j => j = 499 ∨ j = 500) (fun k => k = 11) lg0 it0 lg' it') ∧ ((v, it' 489 11) = stA a1 a2 (it0 489 11) 8))  lg0 it0 := by
  have hb_a1 := And.intro a1.le_toInt a1.toInt_lt
  have hb_a2 := And.intro a2.le_toInt a2.toInt_lt
  have hKr : Kd (fun j => j = 499 ∨ j = 500) (fun k => k = 11) lg0 it0 lg0 it0 := kd_r
  generalize hp : (fun (v : Int32) (lg' : LGt) (it' : ITt) => (I9 lg' it' ∧ Kd (fun j => j = 499 ∨ j = 500) (fun k => k = 11) lg0 it0 lg' it') ∧ ((v, it' 489 11) = stA a1 a2 (it0 489 11) 8)) = Pz
  unfold w_X9_book
  have t0 := ti_0
  have tm1 := ti_m1
  have b0 := i9_f hI (j := 489) (k := 11) rfl
  refine ⟨fun c2 => ?_, fun c2 => ?_⟩
  · try simp only [Int32.lt_iff_toInt_lt, Int32.le_iff_toInt_le, ← Int32.toInt_inj, Int32.toInt_toInt64, tiA, tlA] at c2
    refine ⟨fun c21 => ?_, fun c21 => ?_⟩
    · try simp only [Int32.lt_iff_toInt_lt, Int32.le_iff_toInt_le, ← Int32.toInt_inj, Int32.toInt_toInt64, tiA, tlA] at c21
      subst hp
      exact ⟨⟨hI, hKr⟩, by first | exact st_0 (u2_at (by assumption)) (by omega) | exact st_2 (by omega) (by omega) | exact (ad_1 (by omega)).trans (st_3 (by omega) (by omega)) | exact (ad_2 (by omega) (ad_9 (by assumption) (by assumption) (by assumption) (by decide))).trans (st_3 (by omega) (by omega))⟩
    · try simp only [Int32.lt_iff_toInt_lt, Int32.le_iff_toInt_le, ← Int32.toInt_inj, Int32.toInt_toInt64, tiA, tlA] at c21
      refine ⟨fun c28 => ?_, fun c28 => ?_⟩
      · try simp only [Int32.lt_iff_toInt_lt, Int32.le_iff_toInt_le, ← Int32.toInt_inj, Int32.toInt_toInt64, tiA, tlA] at c28
        have f19 : 0 ≤ (it0 489 11).toInt ∧ (it0 489 11).toInt ≤ 8 := i9_f hI (j := 489) (k := 11) rfl
        refine ⟨fun c39 => ?_, fun c39 => ?_⟩
        · try simp only [Int32.lt_iff_toInt_lt, Int32.le_iff_toInt_le, ← Int32.toInt_inj, Int32.toInt_toInt64, tiA, tlA] at c39
          have hi20 : vp_in (it0 489 11) 8 := vp_of (by first | omega | ((try simp only [Int32.lt_iff_toInt_lt, Int32.le_iff_toInt_le, ← Int32.toInt_inj, Int32.toInt_toInt64, tiA, tlA]); omega) | (split <;> omega)) (by first | omega | ((try simp only [Int32.lt_iff_toInt_lt, Int32.le_iff_toInt_le, ← Int32.toInt_inj, Int32.toInt_toInt64, tiA, tlA]); omega) | (split <;> omega))
          refine ⟨hi20, ?_⟩
          have hz21 := vlt hi20
          intro it22 em23
          have hI24 : I9 lg0 it22 := by rw [em23]; exact i9_u hI (ok9_b (a := 0) (b := 19) rfl (by first | decide | ((try simp only [Int32.lt_iff_toInt_lt, Int32.le_iff_toInt_le, ← Int32.toInt_inj, Int32.toInt_toInt64, tiA, tlA]); omega) | (split <;> (try simp only [Int32.lt_iff_toInt_lt, Int32.le_iff_toInt_le, ← Int32.toInt_inj, Int32.toInt_toInt64, tiA, tlA]) <;> omega))) (by decide) (fun q => absurd q (by decide))
          have hK25 : Kd (fun j => j = 499 ∨ j = 500) (fun k => k = 11) lg0 it0 lg0 it22 := by rw [em23]; exact kd_ur (by decide) (by first | decide | (dsimp only; decide) | omega | (dsimp only; omega)) hKr
          have e26 : (it22 489 11).toInt = (it0 489 11).toInt := by rw [em23]; exact congrArg Int32.toInt (congrFun (u2_row (by decide)) 11)
          have f27 : 0 ≤ (it22 489 11).toInt ∧ (it22 489 11).toInt ≤ 8 := i9_f hI24 (j := 489) (k := 11) rfl
          have hi28 : vp_in (it22 489 11) 8 := vp_of (by first | omega | ((try simp only [Int32.lt_iff_toInt_lt, Int32.le_iff_toInt_le, ← Int32.toInt_inj, Int32.toInt_toInt64, tiA, tlA]); omega) | (split <;> omega)) (by first | omega | ((try simp only [Int32.lt_iff_toInt_lt, Int32.le_iff_toInt_le, ← Int32.toInt_inj, Int32.toInt_toInt64, tiA, tlA]); omega) | (split <;> omega))
          refine ⟨hi28, ?_⟩
          have hz29 := vlt hi28
          intro it30 em31
          have hI32 : I9 lg0 it30 := by rw [em31]; exact i9_u hI24 (ok9_b (a := 0) (b := 9) rfl (by first | decide | ((try simp only [Int32.lt_iff_toInt_lt, Int32.le_iff_toInt_le, ← Int32.toInt_inj, Int32.toInt_toInt64, tiA, tlA]); omega) | (split <;> (try simp only [Int32.lt_iff_toInt_lt, Int32.le_iff_toInt_le, ← Int32.toInt_inj, Int32.toInt_toInt64, tiA, tlA]) <;> omega))) (by decide) (fun q => absurd q (by decide))
          have hK33 : Kd (fun j => j = 499 ∨ j = 500) (fun k => k = 11) lg0 it0 lg0 it30 := by rw [em31]; exact kd_ur (by decide) (by first | decide | (dsimp only; decide) | omega | (dsimp only; omega)) hK25
          have e34 : (it30 489 11).toInt = (it22 489 11).toInt := by rw [em31]; exact congrArg Int32.toInt (congrFun (u2_row (by decide)) 11)
          have f35 : 0 ≤ (it30 489 11).toInt ∧ (it30 489 11).toInt ≤ 8 := i9_f hI32 (j := 489) (k := 11) rfl
          try have f36 : (((it30 489 11) + 1) : Int32).toInt = ((it30 489 11)).toInt + 1 := ad32 (a := ((it30 489 11)).toInt) (b := 1) (rfl) (ti_1) (by omega) (by omega)
          intro it37 em38
          have hI39 : I9 lg0 it37 := by rw [em38]; exact i9_u hI32 (ok9_b (a := 0) (b := 8) rfl (by first | decide | ((try simp only [Int32.lt_iff_toInt_lt, Int32.le_iff_toInt_le, ← Int32.toInt_inj, Int32.toInt_toInt64, tiA, tlA]); omega) | (split <;> (try simp only [Int32.lt_iff_toInt_lt, Int32.le_iff_toInt_le, ← Int32.toInt_inj, Int32.toInt_toInt64, tiA, tlA]) <;> omega))) (by decide) (fun _ => by decide)
          have hK40 : Kd (fun j => j = 499 ∨ j = 500) (fun k => k = 11) lg0 it0 lg0 it37 := by rw [em38]; exact kd_uf (by first | decide | (dsimp only; decide) | omega | (dsimp only; omega)) hK33
          have e42 : (it37 489 11).toInt = (((it30 489 11) + 1) : Int32).toInt := by rw [em38]; exact congrArg Int32.toInt u2_eq
          have f43 : 0 ≤ (it37 489 11).toInt ∧ (it37 489 11).toInt ≤ 8 := i9_f hI39 (j := 489) (k := 11) rfl
          subst hp
          exact ⟨⟨hI39, hK40⟩, by first | exact st_0 (u2_at (by assumption)) (by omega) | exact st_2 (by omega) (by omega) | exact (ad_1 (by omega)).trans (st_3 (by omega) (by omega)) | exact (ad_2 (by omega) (ad_9 (by assumption) (by assumption) (by assumption) (by decide))).trans (st_3 (by omega) (by omega))⟩
        · try simp only [Int32.lt_iff_toInt_lt, Int32.le_iff_toInt_le, ← Int32.toInt_inj, Int32.toInt_toInt64, tiA, tlA] at c39
          subst hp
          exact ⟨⟨hI, hKr⟩, by first | exact st_0 (u2_at (by assumption)) (by omega) | exact st_2 (by omega) (by omega) | exact (ad_1 (by omega)).trans (st_3 (by omega) (by omega)) | exact (ad_2 (by omega) (ad_9 (by assumption) (by assumption) (by assumption) (by decide))).trans (st_3 (by omega) (by omega))⟩
      · try simp only [Int32.lt_iff_toInt_lt, Int32.le_iff_toInt_le, ← Int32.toInt_inj, Int32.toInt_toInt64, tiA, tlA] at c28
        subst hp
        exact ⟨⟨hI, hKr⟩, by first | exact st_0 (u2_at (by assumption)) (by omega) | exact st_2 (by omega) (by omega) | exact (ad_1 (by omega)).trans (st_3 (by omega) (by omega)) | exact (ad_2 (by omega) (ad_9 (by assumption) (by assumption) (by assumption) (by decide))).trans (st_3 (by omega) (by omega))⟩
  · try simp only [Int32.lt_iff_toInt_lt, Int32.le_iff_toInt_le, ← Int32.toInt_inj, Int32.toInt_toInt64, tiA, tlA] at c2
    intro it44 em45
    have hI46 : I9 lg0 it44 := by rw [em45]; exact i9_u hI (ok9_b (a := 0) (b := 8) rfl (by first | decide | ((try simp only [Int32.lt_iff_toInt_lt, Int32.le_iff_toInt_le, ← Int32.toInt_inj, Int32.toInt_toInt64, tiA, tlA]); omega) | (split <;> (try simp only [Int32.lt_iff_toInt_lt, Int32.le_iff_toInt_le, ← Int32.toInt_inj, Int32.toInt_toInt64, tiA, tlA]) <;> omega))) (by decide) (fun _ => by decide)
    have hK47 : Kd (fun j => j = 499 ∨ j = 500) (fun k => k = 11) lg0 it0 lg0 it44 := by rw [em45]; exact kd_uf (by first | decide | (dsimp only; decide) | omega | (dsimp only; omega)) hKr
    subst hp
    exact ⟨⟨hI46, hK47⟩, by first | exact st_0 (u2_at (by assumption)) (by omega) | exact st_2 (by omega) (by omega) | exact (ad_1 (by omega)).trans (st_3 (by omega) (by omega)) | exact (ad_2 (by omega) (ad_9 (by assumption) (by assumption) (by assumption) (by decide))).trans (st_3 (by omega) (by omega))⟩
