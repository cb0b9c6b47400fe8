/-! the image kept, and gone back to, exactly -/
def vk9 (lg : LGt) : Rlv :=
  ((lg 522 0).toInt32.toNatClampNeg,
   (fun i => if i < (lg 522 0).toInt32.toNatClampNeg then (lg 522 (7 + i)).toInt32 else 0),
   (fun i => if i < (lg 522 0).toInt32.toNatClampNeg then (lg 522 (13 + i), lg 522 (19 + i)) else (0, 1)),
   (fun i => if i < (lg 522 0).toInt32.toNatClampNeg then (lg 522 (25 + i), lg 522 (31 + i)) else (0, 1)),
   (lg 522 1).toInt32, (lg 522 2).toInt32, (lg 522 3).toInt32)
theorem rt32 (x : Int32) : x.toInt64.toInt32 = x := Int32.toInt32_toInt64 x
theorem rv_ext {n : Nat} {m m2 : Nat → Int32} {p p2 s s2 : Nat → QQ} {e a b : Int32} (hm : ∀ i, i < n → m i = m2 i) (hp : ∀ i, i < n → p i = p2 i) (hs : ∀ i, i < n → s i = s2 i) : ((n, (fun i => if i < n then m i else 0), (fun i => if i < n then p i else (0, 1)), (fun i => if i < n then s i else (0, 1)), e, a, b) : Rlv) = (n, (fun i => if i < n then m2 i else 0), (fun i => if i < n then p2 i else (0, 1)), (fun i => if i < n then s2 i else (0, 1)), e, a, b) := by
  have e1 : (fun i => if i < n then m i else 0) = (fun i => if i < n then m2 i else 0) := by funext i; split; exact hm i (by assumption); rfl
  have e2 : (fun i => if i < n then p i else ((0, 1) : QQ)) = (fun i => if i < n then p2 i else (0, 1)) := by funext i; split; exact hp i (by assumption); rfl
  have e3 : (fun i => if i < n then s i else ((0, 1) : QQ)) = (fun i => if i < n then s2 i else (0, 1)) := by funext i; split; exact hs i (by assumption); rfl
  rw [e1, e2, e3]
/-- what is kept -/
def IM9 (lg' lg : LGt) (it : ITt) : Prop := (lg' 522 0 = (it 489 0).toInt64 ∧ lg' 522 1 = (it 489 1).toInt64 ∧ lg' 522 2 = (it 489 2).toInt64 ∧ lg' 522 3 = (it 489 3).toInt64 ∧ lg' 522 4 = (it 489 9).toInt64 ∧ lg' 522 5 = (it 489 10).toInt64 ∧ lg' 522 6 = (it 489 11).toInt64) ∧ (∀ i, i < 6 → lg' 522 (7 + i) = (it 490 i).toInt64 ∧ lg' 522 (13 + i) = lg 491 i ∧ lg' 522 (19 + i) = lg 492 i ∧ lg' 522 (25 + i) = lg 493 i ∧ lg' 522 (31 + i) = lg 494 i) ∧ (∀ i, i < 5 → lg' 522 (37 + i) = (it 495 i).toInt64 ∧ lg' 522 (42 + i) = (it 496 i).toInt64) ∧ ∀ i, i < 8 → lg' 522 (47 + i) = (it 497 i).toInt64 ∧ lg' 522 (55 + i) = (it 498 i).toInt64 ∧ lg' 522 (63 + i) = bkv it i
/-- what comes back -/
def UN9 (lg' : LGt) (it' : ITt) (lg : LGt) : Prop := (it' 489 0 = (lg 522 0).toInt32 ∧ it' 489 1 = (lg 522 1).toInt32 ∧ it' 489 2 = (lg 522 2).toInt32 ∧ it' 489 3 = (lg 522 3).toInt32 ∧ it' 489 9 = (lg 522 4).toInt32 ∧ it' 489 10 = (lg 522 5).toInt32 ∧ it' 489 11 = (lg 522 6).toInt32) ∧ (∀ i, i < 6 → it' 490 i = (lg 522 (7 + i)).toInt32 ∧ lg' 491 i = lg 522 (13 + i) ∧ lg' 492 i = lg 522 (19 + i) ∧ lg' 493 i = lg 522 (25 + i) ∧ lg' 494 i = lg 522 (31 + i)) ∧ (∀ i, i < 5 → it' 495 i = (lg 522 (37 + i)).toInt32 ∧ it' 496 i = (lg 522 (42 + i)).toInt32) ∧ ∀ i, i < 8 → it' 497 i = (lg 522 (47 + i)).toInt32 ∧ it' 498 i = (lg 522 (55 + i)).toInt32 ∧ it' 499 i = bk1 lg i ∧ it' 500 i = bk2 lg i
theorem im_v {lg' lg : LGt} {it : ITt} (h : IM9 lg' lg it) (hn : (it 489 0).toNatClampNeg ≤ 6) : vk9 lg' = vw9 lg it := by
  obtain ⟨⟨a0, a1, a2, a3, _⟩, b, _⟩ := h
  unfold vk9 vw9
  rw [a0, a1, a2, a3, rt32, rt32, rt32, rt32]
  refine rv_ext (fun i hi => ?_) (fun i hi => ?_) (fun i hi => ?_) <;> obtain ⟨c1, c2, c3, c4, c5⟩ := b i (by omega)
  · rw [c1, rt32]
  · rw [c2, c3]
  · rw [c4, c5]
theorem un_v {lg' lg : LGt} {it' : ITt} (h : UN9 lg' it' lg) (hn : (lg 522 0).toInt32.toNatClampNeg ≤ 6) : vw9 lg' it' = vk9 lg := by
  obtain ⟨⟨a0, a1, a2, a3, _⟩, b, _⟩ := h
  unfold vk9 vw9
  rw [a0, a1, a2, a3]
  refine rv_ext (fun i hi => ?_) (fun i hi => ?_) (fun i hi => ?_) <;> obtain ⟨c1, c2, c3, c4, c5⟩ := b i (by omega)
  · exact c1
  · rw [c2, c3]
  · rw [c4, c5]
theorem f_X9_image {lg0 : LGt} {it0 : ITt} (hI : I9 lg0 it0) : w_X9_image (fun (v : Int32) (lg' : LGt) (it' : ITt) => (I9 lg' it' ∧ Kd (fun j => j = 522) (fun k => k = 61) lg0 it0 lg' it') ∧ (IM9 lg' lg0 it0 ∧ it' 489 61 = 1 ∧ v = it0 489 0)) lg0 it0 := by
  have f0 := i9_f hI (j := 489) (k := 0) rfl
  have f9 := i9_f hI (j := 489) (k := 9) rfl
  have f10 := i9_f hI (j := 489) (k := 10) rfl
  have f11 := i9_f hI (j := 489) (k := 11) rfl
  unfold w_X9_image
  intro A1 m1 A2 m2 A3 m3 A4 m4 A5 m5 A6 m6 A7 m7
  have q0 : ∀ k, lk9 k (lg0 522 k) := hI.2.1
  have q1 : ∀ k, lk9 k (A1 522 k) := by rw [m1]; exact lk9_u2 q0 (lk9_i (by decide) f0)
  have q2 : ∀ k, lk9 k (A2 522 k) := by rw [m2]; exact lk9_u2 q1 (lk9_n (by decide))
  have q3 : ∀ k, lk9 k (A3 522 k) := by rw [m3]; exact lk9_u2 q2 (lk9_n (by decide))
  have q4 : ∀ k, lk9 k (A4 522 k) := by rw [m4]; exact lk9_u2 q3 (lk9_n (by decide))
  have q5 : ∀ k, lk9 k (A5 522 k) := by rw [m5]; exact lk9_u2 q4 (lk9_i (by decide) f9)
  have q6 : ∀ k, lk9 k (A6 522 k) := by rw [m6]; exact lk9_u2 q5 (lk9_i (by decide) f10)
  have q7 : ∀ k, lk9 k (A7 522 k) := by rw [m7]; exact lk9_u2 q6 (lk9_i (by decide) f11)
  have r7 : ∀ j, j ≠ 522 → A7 j = lg0 j := fun j hj => by rw [m7, u2_row hj, m6, u2_row hj, m5, u2_row hj, m4, u2_row hj, m3, u2_row hj, m2, u2_row hj, m1, u2_row hj]
  have s0 : A7 522 0 = (it0 489 0).toInt64 := by rw [m7, u2_ne (by decide), m6, u2_ne (by decide), m5, u2_ne (by decide), m4, u2_ne (by decide), m3, u2_ne (by decide), m2, u2_ne (by decide), m1, u2_eq]
  have s1 : A7 522 1 = (it0 489 1).toInt64 := by rw [m7, u2_ne (by decide), m6, u2_ne (by decide), m5, u2_ne (by decide), m4, u2_ne (by decide), m3, u2_ne (by decide), m2, u2_eq]
  have s4 : A7 522 4 = (it0 489 9).toInt64 := by rw [m7, u2_ne (by decide), m6, u2_ne (by decide), m5, u2_eq]
  have s6 : A7 522 6 = (it0 489 11).toInt64 := by rw [m7, u2_eq]
  have g0 : A7 522 0 = (it0 489 0).toInt64 := by rw [m7, u2_ne (by decide), m6, u2_ne (by decide), m5, u2_ne (by decide), m4, u2_ne (by decide), m3, u2_ne (by decide), m2, u2_ne (by decide), m1, u2_eq]
  have g1 : A7 522 1 = (it0 489 1).toInt64 := by rw [m7, u2_ne (by decide), m6, u2_ne (by decide), m5, u2_ne (by decide), m4, u2_ne (by decide), m3, u2_ne (by decide), m2, u2_eq]
  have g2 : A7 522 2 = (it0 489 2).toInt64 := by rw [m7, u2_ne (by decide), m6, u2_ne (by decide), m5, u2_ne (by decide), m4, u2_ne (by decide), m3, u2_eq]
  have g3 : A7 522 3 = (it0 489 3).toInt64 := by rw [m7, u2_ne (by decide), m6, u2_ne (by decide), m5, u2_ne (by decide), m4, u2_eq]
  have g4 : A7 522 4 = (it0 489 9).toInt64 := by rw [m7, u2_ne (by decide), m6, u2_ne (by decide), m5, u2_eq]
  have g5 : A7 522 5 = (it0 489 10).toInt64 := by rw [m7, u2_ne (by decide), m6, u2_eq]
  have g6 : A7 522 6 = (it0 489 11).toInt64 := by rw [m7, u2_eq]
  clear m1 m2 m3 m4 m5 m6 m7 q0 q1 q2 q3 q4 q5 q6
  refine ⟨fun lg' it' => it' = it0 ∧ (∀ k, lk9 k (lg' 522 k)) ∧ (∀ j, j ≠ 522 → lg' j = lg0 j) ∧ (∀ k, k < 7 → lg' 522 k = A7 522 k) ∧ (∀ i, i < 6 → lg' 522 (7 + i) = (it0 490 i).toInt64 ∧ lg' 522 (13 + i) = lg0 491 i ∧ lg' 522 (19 + i) = lg0 492 i ∧ lg' 522 (25 + i) = lg0 493 i ∧ lg' 522 (31 + i) = lg0 494 i) ∧ (∀ i, i < 5 → lg' 522 (37 + i) = (it0 495 i).toInt64 ∧ lg' 522 (42 + i) = (it0 496 i).toInt64) ∧ ∀ i, i < 8 → lg' 522 (47 + i) = (it0 497 i).toInt64 ∧ lg' 522 (55 + i) = (it0 498 i).toInt64 ∧ lg' 522 (63 + i) = bkv it0 i, ?_, ?_⟩
  · unfold w_X9_carriesAll
    refine ⟨fun v lg' it' => v = nI 13 ∧ lg' = rngF A7 522 7 6 (fun k => (it0 490 k).toInt64) ∧ it' = it0, x_carries 490 6 7 0 A7 it0 _ (by decide +kernel) (by decide) (fun _ => ⟨rfl, rfl, rfl⟩) (fun h => absurd rfl h), ?_⟩
    intro v0 L1 i0 hq0
    obtain ⟨w1, e1, w2⟩ := hq0
    subst w1
    have w2 := w2.symm
    subst w2
    refine ⟨fun v lg' it' => v = nI 19 ∧ lg' = rngF L1 522 13 6 (fun k => L1 491 k) ∧ it' = it0, x_carriesLongs 491 13 0 L1 it0 _ (by decide +kernel) (by decide) (by decide) (fun _ => ⟨rfl, rfl, rfl⟩) (fun h => absurd rfl h), ?_⟩
    intro v1 L2 i1 hq1
    obtain ⟨w1, e2, w2⟩ := hq1
    subst w1
    have w2 := w2.symm
    subst w2
    refine ⟨fun v lg' it' => v = nI 25 ∧ lg' = rngF L2 522 19 6 (fun k => L2 492 k) ∧ it' = it0, x_carriesLongs 492 19 0 L2 it0 _ (by decide +kernel) (by decide) (by decide) (fun _ => ⟨rfl, rfl, rfl⟩) (fun h => absurd rfl h), ?_⟩
    intro v2 L3 i2 hq2
    obtain ⟨w1, e3, w2⟩ := hq2
    subst w1
    have w2 := w2.symm
    subst w2
    refine ⟨fun v lg' it' => v = nI 31 ∧ lg' = rngF L3 522 25 6 (fun k => L3 493 k) ∧ it' = it0, x_carriesLongs 493 25 0 L3 it0 _ (by decide +kernel) (by decide) (by decide) (fun _ => ⟨rfl, rfl, rfl⟩) (fun h => absurd rfl h), ?_⟩
    intro v3 L4 i3 hq3
    obtain ⟨w1, e4, w2⟩ := hq3
    subst w1
    have w2 := w2.symm
    subst w2
    refine ⟨fun v lg' it' => v = nI 37 ∧ lg' = rngF L4 522 31 6 (fun k => L4 494 k) ∧ it' = it0, x_carriesLongs 494 31 0 L4 it0 _ (by decide +kernel) (by decide) (by decide) (fun _ => ⟨rfl, rfl, rfl⟩) (fun h => absurd rfl h), ?_⟩
    intro v4 L5 i4 hq4
    obtain ⟨w1, e5, w2⟩ := hq4
    subst w1
    have w2 := w2.symm
    subst w2
    refine ⟨fun v lg' it' => v = nI 42 ∧ lg' = rngF L5 522 37 5 (fun k => (it0 495 k).toInt64) ∧ it' = it0, x_carries 495 5 37 0 L5 it0 _ (by decide +kernel) (by decide) (fun _ => ⟨rfl, rfl, rfl⟩) (fun h => absurd rfl h), ?_⟩
    intro v5 L6 i5 hq5
    obtain ⟨w1, e6, w2⟩ := hq5
    subst w1
    have w2 := w2.symm
    subst w2
    refine ⟨fun v lg' it' => v = nI 47 ∧ lg' = rngF L6 522 42 5 (fun k => (it0 496 k).toInt64) ∧ it' = it0, x_carries 496 5 42 0 L6 it0 _ (by decide +kernel) (by decide) (fun _ => ⟨rfl, rfl, rfl⟩) (fun h => absurd rfl h), ?_⟩
    intro v6 L7 i6 hq6
    obtain ⟨w1, e7, w2⟩ := hq6
    subst w1
    have w2 := w2.symm
    subst w2
    refine ⟨fun v lg' it' => v = nI 55 ∧ lg' = rngF L7 522 47 8 (fun k => (it0 497 k).toInt64) ∧ it' = it0, x_carries 497 8 47 0 L7 it0 _ (by decide +kernel) (by decide) (fun _ => ⟨rfl, rfl, rfl⟩) (fun h => absurd rfl h), ?_⟩
    intro v7 L8 i7 hq7
    obtain ⟨w1, e8, w2⟩ := hq7
    subst w1
    have w2 := w2.symm
    subst w2
    refine ⟨fun v lg' it' => v = nI 63 ∧ lg' = rngF L8 522 55 8 (fun k => (it0 498 k).toInt64) ∧ it' = it0, x_carries 498 8 55 0 L8 it0 _ (by decide +kernel) (by decide) (fun _ => ⟨rfl, rfl, rfl⟩) (fun h => absurd rfl h), ?_⟩
    intro v8 L9 i8 hq8
    obtain ⟨w1, e9, w2⟩ := hq8
    subst w1
    have w2 := w2.symm
    subst w2
    refine ⟨9, x_book 0 L9 it0 _ (fun _ => ?_) (fun h => absurd rfl h)⟩
    have R : ∀ j, j ≠ 522 → L9 j = lg0 j := fun j hj => by rw [e9, rng_row hj, e8, rng_row hj, e7, rng_row hj, e6, rng_row hj, e5, rng_row hj, e4, rng_row hj, e3, rng_row hj, e2, rng_row hj, e1, rng_row hj]; exact r7 j hj
    have t1 : ∀ k, lk9 k (L1 522 k) := by rw [e1]; exact lk9_rng q7 (fun i hi => lk9_n ((show ∀ i, i < 6 → bl9 (7 + i) = none by decide) i hi))
    have t2 : ∀ k, lk9 k (L2 522 k) := by rw [e2]; exact lk9_rng t1 (fun i hi => lk9_n ((show ∀ i, i < 6 → bl9 (13 + i) = none by decide) i hi))
    have t3 : ∀ k, lk9 k (L3 522 k) := by rw [e3]; exact lk9_rng t2 (fun i hi => lk9_n ((show ∀ i, i < 6 → bl9 (19 + i) = none by decide) i hi))
    have t4 : ∀ k, lk9 k (L4 522 k) := by rw [e4]; exact lk9_rng t3 (fun i hi => lk9_n ((show ∀ i, i < 6 → bl9 (25 + i) = none by decide) i hi))
    have t5 : ∀ k, lk9 k (L5 522 k) := by rw [e5]; exact lk9_rng t4 (fun i hi => lk9_n ((show ∀ i, i < 6 → bl9 (31 + i) = none by decide) i hi))
    have t6 : ∀ k, lk9 k (L6 522 k) := by rw [e6]; exact lk9_rng t5 (fun i hi => lk9_i ((show ∀ i, i < 5 → bl9 (37 + i) = some (0, 19) by decide) i hi) (i9_f hI (j := 495) (k := i) rfl))
    have t7 : ∀ k, lk9 k (L7 522 k) := by rw [e7]; exact lk9_rng t6 (fun i hi => lk9_n ((show ∀ i, i < 5 → bl9 (42 + i) = none by decide) i hi))
    have t8 : ∀ k, lk9 k (L8 522 k) := by rw [e8]; exact lk9_rng t7 (fun i hi => lk9_n ((show ∀ i, i < 8 → bl9 (47 + i) = none by decide) i hi))
    have t9 : ∀ k, lk9 k (L9 522 k) := by rw [e9]; exact lk9_rng t8 (fun i hi => lk9_i ((show ∀ i, i < 8 → bl9 (55 + i) = some (0, 9) by decide) i hi) (i9_f hI (j := 498) (k := i) rfl))
    refine ⟨rfl, lk9_rng t9 (fun i hi => lk9_b ((show ∀ i, i < 8 → bl9 (63 + i) = some (0, 199) by decide) i hi) (bkv_b (i9_f hI (j := 499) (k := i) rfl) (i9_f hI (j := 500) (k := i) rfl))), fun j hj => (rng_row hj).trans (R j hj), fun k hk => ?_, fun i hi => ⟨?_, ?_, ?_, ?_, ?_⟩, fun i hi => ⟨?_, ?_⟩, fun i hi => ⟨?_, ?_, ?_⟩⟩
    · rw [rng_out (by omega), e9, rng_out (by omega), e8, rng_out (by omega), e7, rng_out (by omega), e6, rng_out (by omega), e5, rng_out (by omega), e4, rng_out (by omega), e3, rng_out (by omega), e2, rng_out (by omega), e1, rng_out (by omega)]
    · rw [rng_out (by omega), e9, rng_out (by omega), e8, rng_out (by omega), e7, rng_out (by omega), e6, rng_out (by omega), e5, rng_out (by omega), e4, rng_out (by omega), e3, rng_out (by omega), e2, rng_out (by omega), e1, rng_in (i := i) rfl hi]
    · rw [rng_out (by omega), e9, rng_out (by omega), e8, rng_out (by omega), e7, rng_out (by omega), e6, rng_out (by omega), e5, rng_out (by omega), e4, rng_out (by omega), e3, rng_out (by omega), e2, rng_in (i := i) rfl hi]
      show L1 491 i = _
      rw [e1, rng_row (by decide), r7 491 (by decide)]
    · rw [rng_out (by omega), e9, rng_out (by omega), e8, rng_out (by omega), e7, rng_out (by omega), e6, rng_out (by omega), e5, rng_out (by omega), e4, rng_out (by omega), e3, rng_in (i := i) rfl hi]
      show L2 492 i = _
      rw [e2, rng_row (by decide), e1, rng_row (by decide), r7 492 (by decide)]
    · rw [rng_out (by omega), e9, rng_out (by omega), e8, rng_out (by omega), e7, rng_out (by omega), e6, rng_out (by omega), e5, rng_out (by omega), e4, rng_in (i := i) rfl hi]
      show L3 493 i = _
      rw [e3, rng_row (by decide), e2, rng_row (by decide), e1, rng_row (by decide), r7 493 (by decide)]
    · rw [rng_out (by omega), e9, rng_out (by omega), e8, rng_out (by omega), e7, rng_out (by omega), e6, rng_out (by omega), e5, rng_in (i := i) rfl hi]
      show L4 494 i = _
      rw [e4, rng_row (by decide), e3, rng_row (by decide), e2, rng_row (by decide), e1, rng_row (by decide), r7 494 (by decide)]
    · rw [rng_out (by omega), e9, rng_out (by omega), e8, rng_out (by omega), e7, rng_out (by omega), e6, rng_in (i := i) rfl hi]
    · rw [rng_out (by omega), e9, rng_out (by omega), e8, rng_out (by omega), e7, rng_in (i := i) rfl hi]
    · rw [rng_out (by omega), e9, rng_out (by omega), e8, rng_in (i := i) rfl hi]
    · rw [rng_out (by omega), e9, rng_in (i := i) rfl hi]
    · rw [rng_in (i := i) rfl hi]
  · intro lg2 it2 h
    obtain ⟨h1, h2, h3, h4, h5, h6, h7⟩ := h
    have h1 := h1.symm
    subst h1
    intro it3 m3
    have J : I9 lg2 it0 := by
      refine ⟨hI.1, h2, L19_c hI.2.2.1 (h3 492 (by decide)) (h3 494 (by decide)) rfl rfl, fun i a b => ?_⟩
      rw [h4 0 (by decide), s0, Int32.toInt_toInt64] at b
      obtain ⟨p1, _, p2, _, p3⟩ := h5 i a
      rw [p1, p2, p3, Int32.toInt_toInt64]
      exact hI.2.2.1 i a b
    refine ⟨⟨by rw [m3]; exact i9_u J (ok9_b (a := 0) (b := 1) rfl (by decide)) (by decide) (fun _ => by decide), ?_⟩, ⟨⟨(h4 0 (by decide)).trans g0, (h4 1 (by decide)).trans g1, (h4 2 (by decide)).trans g2, (h4 3 (by decide)).trans g3, (h4 4 (by decide)).trans g4, (h4 5 (by decide)).trans g5, (h4 6 (by decide)).trans g6⟩, h5, h6, h7⟩, ?_, ?_⟩
    · rw [m3]; exact kd_uf (by first | decide | (dsimp only; decide) | omega | (dsimp only; omega)) ⟨fun j hj n => ⟨h3 j n, rfl⟩, fun k _ => ⟨congrFun (h3 489 (by decide)) k, rfl⟩⟩
    · rw [m3, u2_eq]
    · rw [m3, u2_ne (by decide)]
theorem f_X9_undo {lg0 : LGt} {it0 : ITt} (hI : I9 lg0 it0) : w_X9_undo (fun (v : Int32) (lg' : LGt) (it' : ITt) => (I9 lg' it' ∧ Kd (fun j => 490 ≤ j ∧ j ≤ 500) (fun k => k = 0 ∨ k = 1 ∨ k = 2 ∨ k = 3 ∨ k = 9 ∨ k = 10 ∨ k = 11) lg0 it0 lg' it') ∧ ((it0 489 61 = 0 ∧ v = -3 ∧ lg' = lg0 ∧ it' = it0) ∨ (¬ it0 489 61 = 0 ∧ v = it' 489 0 ∧ UN9 lg' it' lg0))) lg0 it0 := by
  have k0 := i9_k hI (k := 0) (a := 0) (b := 6) (by decide)
  have k4 := i9_k hI (k := 4) (a := 0) (b := 5) (by decide)
  have k5 := i9_k hI (k := 5) (a := 0) (b := 8) (by decide)
  have k6 := i9_k hI (k := 6) (a := 0) (b := 8) (by decide)
  unfold w_X9_undo
  refine ⟨fun c => ?_, fun c => ⟨⟨hI, kd_r⟩, Or.inl ⟨c, rfl, rfl, rfl⟩⟩⟩
  intro A1 m1 A2 m2 A3 m3 A4 m4 A5 m5 A6 m6 A7 m7
  have q0 : ∀ j k, ok9 j k (it0 j k) := hI.1
  have q1 : ∀ j k, ok9 j k (A1 j k) := by rw [m1]; exact ok9_u2 q0 (ok9_b (a := 0) (b := 6) rfl (by rw [l32 (by omega) (by omega)]; exact k0))
  have q2 : ∀ j k, ok9 j k (A2 j k) := by rw [m2]; exact ok9_u2 q1 (ok9_n rfl)
  have q3 : ∀ j k, ok9 j k (A3 j k) := by rw [m3]; exact ok9_u2 q2 (ok9_n rfl)
  have q4 : ∀ j k, ok9 j k (A4 j k) := by rw [m4]; exact ok9_u2 q3 (ok9_n rfl)
  have q5 : ∀ j k, ok9 j k (A5 j k) := by rw [m5]; exact ok9_u2 q4 (ok9_b (a := 0) (b := 5) rfl (by rw [l32 (by omega) (by omega)]; exact k4))
  have q6 : ∀ j k, ok9 j k (A6 j k) := by rw [m6]; exact ok9_u2 q5 (ok9_b (a := 0) (b := 8) rfl (by rw [l32 (by omega) (by omega)]; exact k5))
  have q7 : ∀ j k, ok9 j k (A7 j k) := by rw [m7]; exact ok9_u2 q6 (ok9_b (a := 0) (b := 8) rfl (by rw [l32 (by omega) (by omega)]; exact k6))
  have s0 : A7 489 0 = (lg0 522 0).toInt32 := by rw [m7, u2_ne (by decide), m6, u2_ne (by decide), m5, u2_ne (by decide), m4, u2_ne (by decide), m3, u2_ne (by decide), m2, u2_ne (by decide), m1, u2_eq]
  have s1 : A7 489 1 = (lg0 522 1).toInt32 := by rw [m7, u2_ne (by decide), m6, u2_ne (by decide), m5, u2_ne (by decide), m4, u2_ne (by decide), m3, u2_ne (by decide), m2, u2_eq]
  have s9 : A7 489 9 = (lg0 522 4).toInt32 := by rw [m7, u2_ne (by decide), m6, u2_ne (by decide), m5, u2_eq]
  have s11 : A7 489 11 = (lg0 522 6).toInt32 := by rw [m7, u2_eq]
  have r7 : ∀ j, j ≠ 489 → A7 j = it0 j := fun j hj => by rw [m7, u2_row hj, m6, u2_row hj, m5, u2_row hj, m4, u2_row hj, m3, u2_row hj, m2, u2_row hj, m1, u2_row hj]
  have f7 : ∀ k, ¬ (k = 0 ∨ k = 1 ∨ k = 2 ∨ k = 3 ∨ k = 9 ∨ k = 10 ∨ k = 11) → A7 489 k = it0 489 k := fun k hk => by rw [m7, u2_ne (by omega), m6, u2_ne (by omega), m5, u2_ne (by omega), m4, u2_ne (by omega), m3, u2_ne (by omega), m2, u2_ne (by omega), m1, u2_ne (by omega)]
  have g0 : A7 489 0 = (lg0 522 0).toInt32 := by rw [m7, u2_ne (by decide), m6, u2_ne (by decide), m5, u2_ne (by decide), m4, u2_ne (by decide), m3, u2_ne (by decide), m2, u2_ne (by decide), m1, u2_eq]
  have g1 : A7 489 1 = (lg0 522 1).toInt32 := by rw [m7, u2_ne (by decide), m6, u2_ne (by decide), m5, u2_ne (by decide), m4, u2_ne (by decide), m3, u2_ne (by decide), m2, u2_eq]
  have g2 : A7 489 2 = (lg0 522 2).toInt32 := by rw [m7, u2_ne (by decide), m6, u2_ne (by decide), m5, u2_ne (by decide), m4, u2_ne (by decide), m3, u2_eq]
  have g3 : A7 489 3 = (lg0 522 3).toInt32 := by rw [m7, u2_ne (by decide), m6, u2_ne (by decide), m5, u2_ne (by decide), m4, u2_eq]
  have g4 : A7 489 9 = (lg0 522 4).toInt32 := by rw [m7, u2_ne (by decide), m6, u2_ne (by decide), m5, u2_eq]
  have g5 : A7 489 10 = (lg0 522 5).toInt32 := by rw [m7, u2_ne (by decide), m6, u2_eq]
  have g6 : A7 489 11 = (lg0 522 6).toInt32 := by rw [m7, u2_eq]
  clear m1 m2 m3 m4 m5 m6 m7 q0 q1 q2 q3 q4 q5 q6
  refine ⟨fun lg' it' => (∀ j k, ok9 j k (it' j k)) ∧ (∀ j, ¬ (491 ≤ j ∧ j ≤ 494) → lg' j = lg0 j) ∧ (∀ j, ¬ (490 ≤ j ∧ j ≤ 500) → it' j = A7 j) ∧ (∀ i, i < 6 → it' 490 i = (lg0 522 (7 + i)).toInt32 ∧ lg' 491 i = lg0 522 (13 + i) ∧ lg' 492 i = lg0 522 (19 + i) ∧ lg' 493 i = lg0 522 (25 + i) ∧ lg' 494 i = lg0 522 (31 + i)) ∧ (∀ i, i < 5 → it' 495 i = (lg0 522 (37 + i)).toInt32 ∧ it' 496 i = (lg0 522 (42 + i)).toInt32) ∧ ∀ i, i < 8 → it' 497 i = (lg0 522 (47 + i)).toInt32 ∧ it' 498 i = (lg0 522 (55 + i)).toInt32 ∧ it' 499 i = bk1 lg0 i ∧ it' 500 i = bk2 lg0 i, ?_, ?_⟩
  · unfold w_X9_carriesAll
    refine ⟨fun v lg' it' => v = nI 13 ∧ it' = rngF A7 490 0 6 (fun k => (lg0 522 (7 + k)).toInt32) ∧ lg' = lg0, x_carries 490 6 7 1 lg0 A7 _ (by decide +kernel) (by decide) (fun h => absurd h (by decide)) (fun _ => ⟨rfl, rfl, rfl⟩), ?_⟩
    intro v0 y0 X1 hq0
    obtain ⟨w1, e1, w2⟩ := hq0
    subst w1
    have w2 := w2.symm
    subst w2
    refine ⟨fun v lg' it' => v = nI 19 ∧ lg' = rngF lg0 491 0 6 (fun k => lg0 522 (13 + k)) ∧ it' = X1, x_carriesLongs 491 13 1 lg0 X1 _ (by decide +kernel) (by decide) (by decide) (fun h => absurd h (by decide)) (fun _ => ⟨rfl, rfl, rfl⟩), ?_⟩
    intro v1 X2 y1 hq1
    obtain ⟨w1, e2, w2⟩ := hq1
    subst w1
    have w2 := w2.symm
    subst w2
    refine ⟨fun v lg' it' => v = nI 25 ∧ lg' = rngF X2 492 0 6 (fun k => X2 522 (19 + k)) ∧ it' = X1, x_carriesLongs 492 19 1 X2 X1 _ (by decide +kernel) (by decide) (by decide) (fun h => absurd h (by decide)) (fun _ => ⟨rfl, rfl, rfl⟩), ?_⟩
    intro v2 X3 y2 hq2
    obtain ⟨w1, e3, w2⟩ := hq2
    subst w1
    have w2 := w2.symm
    subst w2
    refine ⟨fun v lg' it' => v = nI 31 ∧ lg' = rngF X3 493 0 6 (fun k => X3 522 (25 + k)) ∧ it' = X1, x_carriesLongs 493 25 1 X3 X1 _ (by decide +kernel) (by decide) (by decide) (fun h => absurd h (by decide)) (fun _ => ⟨rfl, rfl, rfl⟩), ?_⟩
    intro v3 X4 y3 hq3
    obtain ⟨w1, e4, w2⟩ := hq3
    subst w1
    have w2 := w2.symm
    subst w2
    refine ⟨fun v lg' it' => v = nI 37 ∧ lg' = rngF X4 494 0 6 (fun k => X4 522 (31 + k)) ∧ it' = X1, x_carriesLongs 494 31 1 X4 X1 _ (by decide +kernel) (by decide) (by decide) (fun h => absurd h (by decide)) (fun _ => ⟨rfl, rfl, rfl⟩), ?_⟩
    intro v4 X5 y4 hq4
    obtain ⟨w1, e5, w2⟩ := hq4
    subst w1
    have w2 := w2.symm
    subst w2
    refine ⟨fun v lg' it' => v = nI 42 ∧ it' = rngF X1 495 0 5 (fun k => (X5 522 (37 + k)).toInt32) ∧ lg' = X5, x_carries 495 5 37 1 X5 X1 _ (by decide +kernel) (by decide) (fun h => absurd h (by decide)) (fun _ => ⟨rfl, rfl, rfl⟩), ?_⟩
    intro v5 y5 X6 hq5
    obtain ⟨w1, e6, w2⟩ := hq5
    subst w1
    have w2 := w2.symm
    subst w2
    refine ⟨fun v lg' it' => v = nI 47 ∧ it' = rngF X6 496 0 5 (fun k => (X5 522 (42 + k)).toInt32) ∧ lg' = X5, x_carries 496 5 42 1 X5 X6 _ (by decide +kernel) (by decide) (fun h => absurd h (by decide)) (fun _ => ⟨rfl, rfl, rfl⟩), ?_⟩
    intro v6 y6 X7 hq6
    obtain ⟨w1, e7, w2⟩ := hq6
    subst w1
    have w2 := w2.symm
    subst w2
    refine ⟨fun v lg' it' => v = nI 55 ∧ it' = rngF X7 497 0 8 (fun k => (X5 522 (47 + k)).toInt32) ∧ lg' = X5, x_carries 497 8 47 1 X5 X7 _ (by decide +kernel) (by decide) (fun h => absurd h (by decide)) (fun _ => ⟨rfl, rfl, rfl⟩), ?_⟩
    intro v7 y7 X8 hq7
    obtain ⟨w1, e8, w2⟩ := hq7
    subst w1
    have w2 := w2.symm
    subst w2
    refine ⟨fun v lg' it' => v = nI 63 ∧ it' = rngF X8 498 0 8 (fun k => (X5 522 (55 + k)).toInt32) ∧ lg' = X5, x_carries 498 8 55 1 X5 X8 _ (by decide +kernel) (by decide) (fun h => absurd h (by decide)) (fun _ => ⟨rfl, rfl, rfl⟩), ?_⟩
    intro v8 y8 X9 hq8
    obtain ⟨w1, e9, w2⟩ := hq8
    subst w1
    have w2 := w2.symm
    subst w2
    have l5 : ∀ j, ¬ (491 ≤ j ∧ j ≤ 494) → X5 j = lg0 j := fun j hj => by rw [e5, rng_row (by omega), e4, rng_row (by omega), e3, rng_row (by omega), e2, rng_row (by omega)]
    have z2 : X2 522 = lg0 522 := by rw [e2, rng_row (by decide)]
    have z3 : X3 522 = lg0 522 := by rw [e3, rng_row (by decide)]; exact z2
    have z4 : X4 522 = lg0 522 := by rw [e4, rng_row (by decide)]; exact z3
    have z5 : X5 522 = lg0 522 := l5 522 (by decide)
    have o1 : ∀ j k, ok9 j k (X1 j k) := by rw [e1]; exact ok9_rng q7 (fun i hi => ok9_n rfl)
    have o6 : ∀ j k, ok9 j k (X6 j k) := by rw [e6]; exact ok9_rng o1 (fun i hi => ok9_b (a := 0) (b := 19) rfl (by rw [z5]; have z := i9_k hI ((show ∀ i, i < 5 → bl9 (37 + i) = some (0, 19) by decide) i hi); rw [l32 (by omega) (by omega)]; exact z))
    have o7 : ∀ j k, ok9 j k (X7 j k) := by rw [e7]; exact ok9_rng o6 (fun i hi => ok9_n rfl)
    have o8 : ∀ j k, ok9 j k (X8 j k) := by rw [e8]; exact ok9_rng o7 (fun i hi => ok9_n rfl)
    have o9 : ∀ j k, ok9 j k (X9 j k) := by rw [e9]; exact ok9_rng o8 (fun i hi => ok9_b (a := 0) (b := 9) rfl (by rw [z5]; have z := i9_k hI ((show ∀ i, i < 8 → bl9 (55 + i) = some (0, 9) by decide) i hi); rw [l32 (by omega) (by omega)]; exact z))
    refine ⟨9, x_book 1 X5 X9 _ (fun h => absurd h (by decide)) (fun _ => ⟨?_, l5, fun j hj => ?_, fun i hi => ⟨?_, ?_, ?_, ?_, ?_⟩, fun i hi => ⟨?_, ?_⟩, fun i hi => ⟨?_, ?_, ?_, ?_⟩⟩)⟩
    · refine ok9_rng (ok9_rng o9 (fun i hi => ok9_b (a := 0) (b := 19) rfl ?_)) (fun i hi => ok9_b (a := 0) (b := 9) rfl ?_)
      · unfold bk1; rw [z5]; exact d10 (i9_k hI ((show ∀ i, i < 8 → bl9 (63 + i) = some (0, 199) by decide) i hi))
      · unfold bk2; rw [z5]; exact m10 (i9_k hI ((show ∀ i, i < 8 → bl9 (63 + i) = some (0, 199) by decide) i hi))
    · rw [rng_row (by omega), rng_row (by omega), e9, rng_row (by omega), e8, rng_row (by omega), e7, rng_row (by omega), e6, rng_row (by omega), e1, rng_row (by omega)]
    · rw [rng_row (by decide), rng_row (by decide), e9, rng_row (by decide), e8, rng_row (by decide), e7, rng_row (by decide), e6, rng_row (by decide), e1, rng_in (i := i) (Nat.zero_add i).symm hi]
    · rw [e5, rng_row (by decide), e4, rng_row (by decide), e3, rng_row (by decide), e2, rng_in (i := i) (Nat.zero_add i).symm hi]
    · rw [e5, rng_row (by decide), e4, rng_row (by decide), e3, rng_in (i := i) (Nat.zero_add i).symm hi]
      show X2 522 (19 + i) = _
      rw [z2]
    · rw [e5, rng_row (by decide), e4, rng_in (i := i) (Nat.zero_add i).symm hi]
      show X3 522 (25 + i) = _
      rw [z3]
    · rw [e5, rng_in (i := i) (Nat.zero_add i).symm hi]
      show X4 522 (31 + i) = _
      rw [z4]
    · rw [rng_row (by decide), rng_row (by decide), e9, rng_row (by decide), e8, rng_row (by decide), e7, rng_row (by decide), e6, rng_in (i := i) (Nat.zero_add i).symm hi]
      show (X5 522 (37 + i)).toInt32 = _
      rw [z5]
    · rw [rng_row (by decide), rng_row (by decide), e9, rng_row (by decide), e8, rng_row (by decide), e7, rng_in (i := i) (Nat.zero_add i).symm hi]
      show (X5 522 (42 + i)).toInt32 = _
      rw [z5]
    · rw [rng_row (by decide), rng_row (by decide), e9, rng_row (by decide), e8, rng_in (i := i) (Nat.zero_add i).symm hi]
      show (X5 522 (47 + i)).toInt32 = _
      rw [z5]
    · rw [rng_row (by decide), rng_row (by decide), e9, rng_in (i := i) (Nat.zero_add i).symm hi]
      show (X5 522 (55 + i)).toInt32 = _
      rw [z5]
    · rw [rng_row (by decide), rng_in (i := i) (Nat.zero_add i).symm hi]
      unfold bk1; rw [z5]
    · rw [rng_in (i := i) (Nat.zero_add i).symm hi]
      unfold bk2; rw [z5]
  · intro lg2 it2 h
    obtain ⟨h1, h2, h3, h4, h5, h6⟩ := h
    have z : lg2 522 = lg0 522 := h2 522 (by decide)
    have a9 : it2 489 = A7 489 := h3 489 (by decide)
    refine ⟨⟨⟨h1, fun k => by rw [z]; exact hI.2.1 k, fun i a b => ?_, fun i a b => by rw [z] at b ⊢; exact hI.2.2.2 i a b⟩, ?_⟩, Or.inr ⟨c, rfl, ⟨?_, ?_, ?_, ?_, ?_, ?_, ?_⟩, h4, h5, h6⟩⟩
    · obtain ⟨p1, _, p2, _, p3⟩ := h4 i a
      rw [a9, s0, l32 (by omega) (by omega)] at b
      obtain ⟨g1, g2⟩ := hI.2.2.2 i a b
      rw [p1, p2, p3, l32 (by omega) (by omega)]
      exact ⟨g1, g2⟩
    · exact ⟨fun j hj n => ⟨h2 j (fun q => n ⟨by omega, by omega⟩), (h3 j n).trans (r7 j hj)⟩, fun k n => ⟨congrFun (h2 489 (by decide)) k, by rw [a9]; exact f7 k n⟩⟩
    · rw [a9]; exact g0
    · rw [a9]; exact g1
    · rw [a9]; exact g2
    · rw [a9]; exact g3
    · rw [a9]; exact g4
    · rw [a9]; exact g5
    · rw [a9]; exact g6
/-! the first side -/
def X4a (a0 a1 : Nat) (lg0 : LGt) (it0 : ITt) (lg' : LGt) (it' : ITt) : Prop := vw8 lg' it' (a0 + 1) = vw8 lg0 it0 (a1 + 1) ∧ (Ok8 it0 (a1 + 1) → Ok8 it' (a0 + 1))
theorem f_X4_become {a0 : Nat} (ha0 : a0 ∈ sb) {a1 : Nat} (ha1 : a1 ∈ sb) (hne : a0 ≠ a1) {lg0 : LGt} {it0 : ITt} (hI : I8 lg0 it0) : w_X4_become a0 a1 (fun (lg' : LGt) (it' : ITt) => (I8 lg' it' ∧ Kc (fun j => (a0 ≤ j ∧ j < a0 + 27)) lg0 it0 lg' it') ∧ X4a a0 a1 lg0 it0 lg' it' ∧ it' (a0 + 18) 2 = it0 (a1 + 18) 2 ∧ it' (a0 + 24) 2 = it0 (a1 + 24) 2) lg0 it0 := by
  have ap : a0 + 27 ≤ a1 ∨ a1 + 27 ≤ a0 := (show ∀ r ∈ sb, ∀ s ∈ sb, r ≠ s → r + 27 ≤ s ∨ s + 27 ≤ r by decide) a0 ha0 a1 ha1 hne
  have hln := sb_lens ha0 ha1
  unfold w_X4_become
  refine ⟨_, f_X3_become (sm0 ha0) (sm0 ha1) hI (by omega), ?_⟩
  rintro lgA itA ⟨⟨JA, KA⟩, VA⟩
  refine ⟨_, s_X2_become (sm1 ha0) (sm1 ha1) JA hln.1, ?_⟩
  rintro lgB itB ⟨⟨JB, KB⟩, eB⟩
  refine ⟨_, s_X2_become (sm2 ha0) (sm2 ha1) JB hln.2.1, ?_⟩
  rintro lgC itC ⟨⟨JC, KC⟩, eC⟩
  refine ⟨_, s_X2_become (sm3 ha0) (sm3 ha1) JC hln.2.2, ?_⟩
  rintro lgD itD ⟨⟨JD, KD⟩, eD⟩
  have k1 := vw8_k (sm0 ha0) JA KB (fun j h1 h2 h3 => by omega)
  have k2 := vw8_k (sm0 ha0) JB KC (fun j h1 h2 h3 => by omega)
  have k3 := vw8_k (sm0 ha0) JC KD (fun j h1 h2 h3 => by omega)
  refine ⟨⟨JD, ?_⟩, ⟨?_, fun h => k3.2 (k2.2 (k1.2 (VA.2 h)))⟩, ?_, ?_⟩
  · exact kc_t (kc_t (kc_t (kc_t kc_r KA (fun j hj => by omega)) KB (fun j hj => by omega)) KC (fun j hj => by omega)) KD (fun j hj => by omega)
  · rw [k3.1, k2.1, k1.1]; exact VA.1
  · rw [(KD (a0 + 18) (by omega)).2, (KC (a0 + 18) (by omega)).2, eB, (KA (a1 + 18) (by omega)).2]
  · rw [eD, (KC (a1 + 24) (by omega)).2, (KB (a1 + 24) (by omega)).2, (KA (a1 + 24) (by omega)).2]
theorem f_X8_image {lg0 : LGt} {it0 : ITt} (hI : I8 lg0 it0) (V : Rlv) (hV : RV lg0 it0 2 V) : w_X8_image (fun (v : Int32) (lg' : LGt) (it' : ITt) => (I8 lg' it' ∧ Kc (fun j => (28 ≤ j ∧ j < 55) ∨ (0 ≤ j ∧ j < 1)) lg0 it0 lg' it') ∧ RV lg' it' 29 V ∧ (it' 0 2 = 1 ∧ v = it0 2 0 ∧ (∀ k, k ≠ 2 → it' 0 k = it0 0 k) ∧ it' 46 2 = it0 19 2 ∧ it' 52 2 = it0 25 2)) lg0 it0 := by
  unfold w_X8_image
  refine ⟨_, f_X4_become in_sb_28 in_sb_1 (by decide) hI, ?_⟩
  rintro lgA itA ⟨⟨JA, KA⟩, VA, s1, s2⟩
  intro it8 m8
  have RA : RV lgA itA 29 V := rv_o hV VA
  refine ⟨⟨by rw [m8]; exact i8_u JA (ok8_a oq_0 (by decide)), ?_⟩, ?_, ?_, ?_, ?_, ?_, ?_⟩
  · rw [m8]; exact kc_u (by omega) (kc_t kc_r KA (fun j hj => by omega))
  · rw [m8]; exact rv_u RA (by omega)
  · rw [m8, u2_eq]
  · rw [m8, u2_row (by decide), (KA 2 (by omega)).2]
  · intro k hk; rw [m8, u2_ne (fun q => hk (by omega)), (KA 0 (by omega)).2]
  · rw [m8, u2_row (by decide)]; exact s1
  · rw [m8, u2_row (by decide)]; exact s2
theorem f_X8_undo {lg0 : LGt} {it0 : ITt} (hI : I8 lg0 it0) (V W : Rlv) (hV : RV lg0 it0 2 V) (hW : ¬ it0 0 2 = 0 → RV lg0 it0 29 W) : w_X8_undo (fun (v : Int32) (lg' : LGt) (it' : ITt) => (I8 lg' it' ∧ Kc (fun j => (1 ≤ j ∧ j < 28)) lg0 it0 lg' it') ∧ ((it0 0 2 = 0 ∧ v = -3 ∧ lg' = lg0 ∧ it' = it0) ∨ (¬ it0 0 2 = 0 ∧ v = it' 2 0 ∧ RV lg' it' 2 W ∧ it' 19 2 = it0 46 2 ∧ it' 25 2 = it0 52 2))) lg0 it0 := by
  unfold w_X8_undo
  refine ⟨fun c => ?_, fun c => ⟨⟨hI, kc_r⟩, Or.inl ⟨c, rfl, rfl, rfl⟩⟩⟩
  refine ⟨_, f_X4_become in_sb_1 in_sb_28 (by decide) hI, ?_⟩
  rintro lgA itA ⟨⟨JA, KA⟩, VA, s1, s2⟩
  exact ⟨⟨JA, kc_t kc_r KA (fun j hj => by omega)⟩, Or.inr ⟨c, rfl, rv_o (hW c) VA, s1, s2⟩⟩
