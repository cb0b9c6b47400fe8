/-! the lists of pairs, now and kept: alike on both sides -/
def k9s (lg : LGt) : Pr := ((lg 522 4).toInt32, (fun k => (lg 522 (37 + k)).toInt32), (fun k => (lg 522 (42 + k)).toInt32))
def k9e (lg : LGt) : Pr := ((lg 522 5).toInt32, (fun k => (lg 522 (47 + k)).toInt32), (fun k => (lg 522 (55 + k)).toInt32))
def k9b (lg : LGt) : Pr := ((lg 522 6).toInt32, bk1 lg, bk2 lg)
def RP (lg : LGt) (it : ITt) : Prop := PQ (p8 it 19) (p9 it 9 495) ∧ PQ (p8 it 22) (p9 it 10 497) ∧ PQ (p8 it 25) (p9 it 11 499) ∧ (¬ it 0 2 = 0 → PQ (p8 it 46) (k9s lg) ∧ PQ (p8 it 49) (k9e lg) ∧ PQ (p8 it 52) (k9b lg))
theorem pq_w {X Y Z : Pr} (h : PQ X Y) (e : Y.1 = Z.1) (hk : ∀ k, k < X.1.toNatClampNeg → Y.2.1 k = Z.2.1 k ∧ Y.2.2 k = Z.2.2 k) : PQ X Z := ⟨h.1.trans e, h.2.1, h.2.2.1, fun k q => ⟨(h.2.2.2 k q).1.trans (hk k q).1, (h.2.2.2 k q).2.trans (hk k q).2⟩⟩
theorem pq_z {it : ITt} {a f r : Nat} (h : it a 2 = 0) (h2 : it 489 f = 0) : PQ (p8 it a) (p9 it f r) := by
  refine ⟨?_, ?_, ?_, fun k hk => ?_⟩
  · show it a 2 = it 489 f; rw [h, h2]
  · show 0 ≤ (it a 2).toInt; rw [h, ti_0]; omega
  · show (it a 2).toInt ≤ 8; rw [h, ti_0]; omega
  · have hk : k < (it a 2).toNatClampNeg := hk
    rw [h, show (0 : Int32).toNatClampNeg = 0 by decide] at hk
    exact absurd hk (Nat.not_lt_zero k)
theorem RP_0 : RP LG0 IT0 := ⟨pq_z (by decide +kernel) (by decide +kernel), pq_z (by decide +kernel) (by decide +kernel), pq_z (by decide +kernel) (by decide +kernel), fun q => absurd (by decide +kernel) q⟩
theorem rp_8 {S : Nat → Prop} {lg lg' : LGt} {it it' : ITt} (h : RP lg it) (hk : Kc S lg it lg' it') (hs : ∀ j, S j → j < 489 ∧ j ≠ 0 ∧ ¬ (19 ≤ j ∧ j < 28) ∧ ¬ (46 ≤ j ∧ j < 55)) : RP lg' it' := by
  have e (j : Nat) (q : ¬ (j < 489 ∧ j ≠ 0 ∧ ¬ (19 ≤ j ∧ j < 28) ∧ ¬ (46 ≤ j ∧ j < 55))) : lg' j = lg j ∧ it' j = it j := hk j (fun z => q (hs j z))
  unfold RP p8 p9 k9s k9e k9b bk1 bk2
  rw [(e 0 (by omega)).2, (e 19 (by omega)).2, (e (19 + 1) (by omega)).2, (e (19 + 2) (by omega)).2, (e 22 (by omega)).2, (e (22 + 1) (by omega)).2, (e (22 + 2) (by omega)).2, (e 25 (by omega)).2, (e (25 + 1) (by omega)).2, (e (25 + 2) (by omega)).2, (e 46 (by omega)).2, (e (46 + 1) (by omega)).2, (e (46 + 2) (by omega)).2, (e 49 (by omega)).2, (e (49 + 1) (by omega)).2, (e (49 + 2) (by omega)).2, (e 52 (by omega)).2, (e (52 + 1) (by omega)).2, (e (52 + 2) (by omega)).2, (e 489 (by omega)).2, (e 495 (by omega)).2, (e (495 + 1) (by omega)).2, (e 497 (by omega)).2, (e (497 + 1) (by omega)).2, (e 499 (by omega)).2, (e (499 + 1) (by omega)).2, (e 522 (by omega)).1]
  exact h
theorem rp_9 {S F : Nat → Prop} {lg lg' : LGt} {it it' : ITt} (h : RP lg it) (hk : Kd S F lg it lg' it') (hs : ∀ j, S j → 489 < j ∧ ¬ (495 ≤ j ∧ j ≤ 500) ∧ j ≠ 522) (hf : ∀ k, F k → k ≠ 9 ∧ k ≠ 10 ∧ k ≠ 11) : RP lg' it' := by
  have e (j : Nat) (q : j < 489 ∨ (495 ≤ j ∧ j ≤ 500) ∨ j = 522) : lg' j = lg j ∧ it' j = it j := hk.1 j (by omega) (fun z => by have := hs j z; omega)
  have f (k : Nat) (q : k = 9 ∨ k = 10 ∨ k = 11) : it' 489 k = it 489 k := (hk.2 k (fun z => by have := hf k z; omega)).2
  unfold RP p8 p9 k9s k9e k9b bk1 bk2
  rw [(e 0 (by omega)).2, (e 19 (by omega)).2, (e (19 + 1) (by omega)).2, (e (19 + 2) (by omega)).2, (e 22 (by omega)).2, (e (22 + 1) (by omega)).2, (e (22 + 2) (by omega)).2, (e 25 (by omega)).2, (e (25 + 1) (by omega)).2, (e (25 + 2) (by omega)).2, (e 46 (by omega)).2, (e (46 + 1) (by omega)).2, (e (46 + 2) (by omega)).2, (e 49 (by omega)).2, (e (49 + 1) (by omega)).2, (e (49 + 2) (by omega)).2, (e 52 (by omega)).2, (e (52 + 1) (by omega)).2, (e (52 + 2) (by omega)).2, f 9 (by omega), f 10 (by omega), f 11 (by omega), (e 495 (by omega)).2, (e (495 + 1) (by omega)).2, (e 497 (by omega)).2, (e (497 + 1) (by omega)).2, (e 499 (by omega)).2, (e (499 + 1) (by omega)).2, (e 522 (by omega)).1]
  exact h
/-- one list moved on both sides, a of the first and f, r of the second -/
theorem rp_l {S S' F : Nat → Prop} {lg lg1 lg2 : LGt} {it it1 it2 : ITt} {a f r : Nat} (ha : (a = 19 ∧ f = 9 ∧ r = 495) ∨ (a = 22 ∧ f = 10 ∧ r = 497) ∨ (a = 25 ∧ f = 11 ∧ r = 499)) (h : RP lg it) (k8 : Kc S lg it lg1 it1) (s8 : ∀ j, S j → a ≤ j ∧ j < a + 3) (k9 : Kd S' F lg1 it1 lg2 it2) (s9 : ∀ j, S' j → j = r ∨ j = r + 1) (f9 : ∀ k, F k → k = f) (q : PQ (p8 it1 a) (p9 it2 f r)) : RP lg2 it2 := by
  have c (j : Nat) (z : ¬ (a ≤ j ∧ j < a + 3)) : lg1 j = lg j ∧ it1 j = it j := k8 j (fun y => z (s8 j y))
  have d (j : Nat) (z : j ≠ 489 ∧ j ≠ r ∧ j ≠ r + 1) : lg2 j = lg1 j ∧ it2 j = it1 j := k9.1 j z.1 (fun y => by have := s9 j y; omega)
  have g (k : Nat) (z : k ≠ f) : it2 489 k = it1 489 k := (k9.2 k (fun y => z (f9 k y))).2
  have p (b : Nat) (hb : b < 480) : p8 it2 b = p8 it1 b := by unfold p8; rw [(d b (by omega)).2, (d (b + 1) (by omega)).2, (d (b + 2) (by omega)).2]
  have p1 (b : Nat) (hb : b < 480 ∧ (b + 3 ≤ a ∨ a + 3 ≤ b)) : p8 it2 b = p8 it b := by rw [p b hb.1]; unfold p8; rw [(c b (by omega)).2, (c (b + 1) (by omega)).2, (c (b + 2) (by omega)).2]
  have n (x y : Nat) (hx : x ≠ f) (hy : y ≠ r ∧ y ≠ r + 1 ∧ y + 1 ≠ r ∧ y ≠ r ∧ 489 < y) : p9 it2 x y = p9 it x y := by unfold p9; rw [g x hx, (d y (by omega)).2, (d (y + 1) (by omega)).2, (c 489 (by omega)).2, (c y (by omega)).2, (c (y + 1) (by omega)).2]
  have q2 : PQ (p8 it2 a) (p9 it2 f r) := by rw [p a (by omega)]; exact q
  have im : ¬ it2 0 2 = 0 → PQ (p8 it2 46) (k9s lg2) ∧ PQ (p8 it2 49) (k9e lg2) ∧ PQ (p8 it2 52) (k9b lg2) := by
    rw [(d 0 (by omega)).2, (c 0 (by omega)).2, p1 46 (by omega), p1 49 (by omega), p1 52 (by omega)]
    unfold k9s k9e k9b bk1 bk2
    rw [(d 522 (by omega)).1, (c 522 (by omega)).1]
    exact h.2.2.2
  rcases ha with ⟨rfl, rfl, rfl⟩ | ⟨rfl, rfl, rfl⟩ | ⟨rfl, rfl, rfl⟩
  · exact ⟨q2, by rw [p1 22 (by omega), n 10 497 (by omega) (by omega)]; exact h.2.1, by rw [p1 25 (by omega), n 11 499 (by omega) (by omega)]; exact h.2.2.1, im⟩
  · exact ⟨by rw [p1 19 (by omega), n 9 495 (by omega) (by omega)]; exact h.1, q2, by rw [p1 25 (by omega), n 11 499 (by omega) (by omega)]; exact h.2.2.1, im⟩
  · exact ⟨by rw [p1 19 (by omega), n 9 495 (by omega) (by omega)]; exact h.1, by rw [p1 22 (by omega), n 10 497 (by omega) (by omega)]; exact h.2.1, q2, im⟩
/-- booked, and kept as one number -/
theorem bk_d {x : Int64} {a b : Int32} (ha : 0 ≤ a.toInt ∧ a.toInt ≤ 19) (hb : 0 ≤ b.toInt ∧ b.toInt ≤ 9) (h : x = 10 * a.toInt64 + b.toInt64) : (x / 10).toInt32 = a ∧ (x - x / 10 * 10).toInt32 = b := by
  have ex : x.toInt = 10 * a.toInt + b.toInt := by
    have e1 : (10 * a.toInt64).toInt = 10 * a.toInt := by
      rw [Int64.toInt_mul, Int32.toInt_toInt64, show (10 : Int64).toInt = 10 by decide]
      exact bmL (by omega) (by omega)
    rw [h, Int64.toInt_add, e1, Int32.toInt_toInt64, bmL (by omega) (by omega)]
  have t10 : (10 : Int64).toInt = 10 := by decide
  have ed : (x / 10).toInt = a.toInt := by
    rw [Int64.toInt_div, t10, ex, Int.tdiv_eq_ediv_of_nonneg (by omega), bmL (by omega) (by omega)]
    omega
  have em : (x / 10 * 10).toInt = a.toInt * 10 := by
    rw [Int64.toInt_mul, ed, t10]
    exact bmL (by omega) (by omega)
  have es : (x - x / 10 * 10).toInt = b.toInt := by
    rw [Int64.toInt_sub, em, ex, bmL (by omega) (by omega)]
    omega
  exact ⟨Int32.toInt_inj.mp (by rw [l32 (by omega) (by omega)]; exact ed), Int32.toInt_inj.mp (by rw [l32 (by omega) (by omega)]; exact es)⟩
theorem rp_image {S S' F : Nat → Prop} {lg lg1 lg2 : LGt} {it it1 it2 : ITt} (h : RP lg it) (hJ : I9 lg it) (hI : I8 lg it) (k8 : Kc S lg it lg1 it1) (s8 : ∀ j, S j → (28 ≤ j ∧ j < 55) ∨ j < 1) (a46 : p8 it1 46 = bcP (p8 it 46) (p8 it 19)) (a49 : p8 it1 49 = bcP (p8 it 49) (p8 it 22)) (a52 : p8 it1 52 = bcP (p8 it 52) (p8 it 25)) (k9 : Kd S' F lg1 it1 lg2 it2) (im : IM9 lg2 lg1 it1) (s9 : ∀ j, S' j → j = 522) (f9 : ∀ k, F k → k = 61) : RP lg2 it2 := by
  have c (j : Nat) (z : ¬ ((28 ≤ j ∧ j < 55) ∨ j < 1)) : lg1 j = lg j ∧ it1 j = it j := k8 j (fun y => z (s8 j y))
  have d (j : Nat) (z : j ≠ 489 ∧ j ≠ 522) : lg2 j = lg1 j ∧ it2 j = it1 j := k9.1 j z.1 (fun y => by have := s9 j y; omega)
  have g (k : Nat) (z : k ≠ 61) : it2 489 k = it1 489 k := (k9.2 k (fun y => z (f9 k y))).2
  have p (b : Nat) (hb : b < 480) : p8 it2 b = p8 it1 b := by unfold p8; rw [(d b (by omega)).2, (d (b + 1) (by omega)).2, (d (b + 2) (by omega)).2]
  have p1 (b : Nat) (hb : 1 ≤ b ∧ b + 3 ≤ 28) : p8 it2 b = p8 it b := by rw [p b (by omega)]; unfold p8; rw [(c b (by omega)).2, (c (b + 1) (by omega)).2, (c (b + 2) (by omega)).2]
  have n (x y : Nat) (hx : x ≠ 61) (hy : 489 < y ∧ y < 520) : p9 it2 x y = p9 it x y := by unfold p9; rw [g x hx, (d y (by omega)).2, (d (y + 1) (by omega)).2, (c 489 (by omega)).2, (c y (by omega)).2, (c (y + 1) (by omega)).2]
  obtain ⟨h1, h2, h3, _⟩ := h
  obtain ⟨⟨_, _, _, _, i4, i5, i6⟩, _, im5, im8⟩ := im
  rw [(c 489 (by omega)).2] at i4 i5 i6
  have b19 := i8_2 hI oq_19
  rw [c8L 19 (by decide), if_pos rfl] at b19
  have k19 := cl32 b19.1
  have k22 := cl32 h2.2.1
  have k25 := cl32 h3.2.1
  refine ⟨by rw [p1 19 (by omega), n 9 495 (by omega) (by omega)]; exact h1, by rw [p1 22 (by omega), n 10 497 (by omega) (by omega)]; exact h2, by rw [p1 25 (by omega), n 11 499 (by omega) (by omega)]; exact h3, fun _ => ⟨?_, ?_, ?_⟩⟩
  · rw [p 46 (by omega), a46]
    refine pq_bc (pq_w h1 ?_ (fun k hk => ?_))
    · show it 489 9 = (lg2 522 4).toInt32; rw [i4, rt32]
    · have hk : k < (it 19 2).toNatClampNeg := hk
      obtain ⟨u1, u2⟩ := im5 k (by omega)
      show it 495 k = (lg2 522 (37 + k)).toInt32 ∧ it (495 + 1) k = (lg2 522 (42 + k)).toInt32
      rw [u1, u2, rt32, rt32, (c 495 (by omega)).2, (c 496 (by omega)).2]; exact ⟨rfl, rfl⟩
  · rw [p 49 (by omega), a49]
    refine pq_bc (pq_w h2 ?_ (fun k hk => ?_))
    · show it 489 10 = (lg2 522 5).toInt32; rw [i5, rt32]
    · have h8 : (p8 it 22).1.toInt ≤ 8 := h2.2.2.1
      obtain ⟨u1, u2, _⟩ := im8 k (by omega)
      show it 497 k = (lg2 522 (47 + k)).toInt32 ∧ it (497 + 1) k = (lg2 522 (55 + k)).toInt32
      rw [u1, u2, rt32, rt32, (c 497 (by omega)).2, (c 498 (by omega)).2]; exact ⟨rfl, rfl⟩
  · rw [p 52 (by omega), a52]
    refine pq_bc (pq_w h3 ?_ (fun k hk => ?_))
    · show it 489 11 = (lg2 522 6).toInt32; rw [i6, rt32]
    · have h8 : (p8 it 25).1.toInt ≤ 8 := h3.2.2.1
      obtain ⟨_, _, u3⟩ := im8 k (by omega)
      unfold bkv at u3
      rw [(c 499 (by omega)).2, (c 500 (by omega)).2] at u3
      obtain ⟨x1, x2⟩ := bk_d (i9_f hJ (j := 499) (k := k) rfl) (i9_f hJ (j := 500) (k := k) rfl) u3
      show it 499 k = bk1 lg2 k ∧ it (499 + 1) k = bk2 lg2 k
      unfold bk1 bk2
      rw [x1, x2]; exact ⟨rfl, rfl⟩
theorem rp_undo {S S' F : Nat → Prop} {lg lg1 lg2 : LGt} {it it1 it2 : ITt} (h : RP lg it) (hI : I8 lg it) (c0 : ¬ it 0 2 = 0) (k8 : Kc S lg it lg1 it1) (s8 : ∀ j, S j → 1 ≤ j ∧ j < 28) (a19 : p8 it1 19 = bcP (p8 it 19) (p8 it 46)) (a22 : p8 it1 22 = bcP (p8 it 22) (p8 it 49)) (a25 : p8 it1 25 = bcP (p8 it 25) (p8 it 52)) (k9 : Kd S' F lg1 it1 lg2 it2) (un : UN9 lg2 it2 lg1) (s9 : ∀ j, S' j → 489 < j ∧ j ≠ 522) : RP lg2 it2 := by
  have c (j : Nat) (z : ¬ (1 ≤ j ∧ j < 28)) : lg1 j = lg j ∧ it1 j = it j := k8 j (fun y => z (s8 j y))
  have d (j : Nat) (z : j < 489 ∨ j = 522) : lg2 j = lg1 j ∧ it2 j = it1 j := k9.1 j (by omega) (fun y => by have := s9 j y; omega)
  have p (b : Nat) (hb : b < 480) : p8 it2 b = p8 it1 b := by unfold p8; rw [(d b (by omega)).2, (d (b + 1) (by omega)).2, (d (b + 2) (by omega)).2]
  have p1 (b : Nat) (hb : 28 ≤ b ∧ b < 480) : p8 it2 b = p8 it b := by rw [p b (by omega)]; unfold p8; rw [(c b (by omega)).2, (c (b + 1) (by omega)).2, (c (b + 2) (by omega)).2]
  obtain ⟨h1, h2, h3⟩ := h.2.2.2 c0
  obtain ⟨⟨_, _, _, _, i4, i5, i6⟩, _, un5, un8⟩ := un
  rw [(c 522 (by omega)).1] at i4 i5 i6
  have b46 := i8_2 hI (obp (show 46 ∈ pb by decide))
  have l46 : ((LAY (46 + 1)).2 : Int) = 5 := by decide +kernel
  rw [l46] at b46
  have k46 := cl32 b46.1
  have k49 := cl32 h2.2.1
  have k52 := cl32 h3.2.1
  refine ⟨?_, ?_, ?_, fun _ => ?_⟩
  · rw [p 19 (by omega), a19]
    refine pq_bc (pq_w h1 ?_ (fun k hk => ?_))
    · show (lg 522 4).toInt32 = it2 489 9; rw [i4]
    · have hk : k < (it 46 2).toNatClampNeg := hk
      obtain ⟨u1, u2⟩ := un5 k (by omega)
      show (lg 522 (37 + k)).toInt32 = it2 495 k ∧ (lg 522 (42 + k)).toInt32 = it2 (495 + 1) k
      rw [u1, u2, (c 522 (by omega)).1]; exact ⟨rfl, rfl⟩
  · rw [p 22 (by omega), a22]
    refine pq_bc (pq_w h2 ?_ (fun k hk => ?_))
    · show (lg 522 5).toInt32 = it2 489 10; rw [i5]
    · have h8 : (p8 it 49).1.toInt ≤ 8 := h2.2.2.1
      obtain ⟨u1, u2, _⟩ := un8 k (by omega)
      show (lg 522 (47 + k)).toInt32 = it2 497 k ∧ (lg 522 (55 + k)).toInt32 = it2 (497 + 1) k
      rw [u1, u2, (c 522 (by omega)).1]; exact ⟨rfl, rfl⟩
  · rw [p 25 (by omega), a25]
    refine pq_bc (pq_w h3 ?_ (fun k hk => ?_))
    · show (lg 522 6).toInt32 = it2 489 11; rw [i6]
    · have h8 : (p8 it 52).1.toInt ≤ 8 := h3.2.2.1
      obtain ⟨_, _, u3, u4⟩ := un8 k (by omega)
      show bk1 lg k = it2 499 k ∧ bk2 lg k = it2 (499 + 1) k
      rw [u3, u4]
      unfold bk1 bk2
      rw [(c 522 (by omega)).1]; exact ⟨rfl, rfl⟩
  · rw [p1 46 (by omega), p1 49 (by omega), p1 52 (by omega)]
    unfold k9s k9e k9b bk1 bk2
    rw [(d 522 (by omega)).1, (c 522 (by omega)).1]
    exact ⟨h1, h2, h3⟩
