/-! the start; image and undo; feed -/
theorem it0_11 {j k : Nat} (h : (LAY j).1 = 11) (h2 : ¬ (LAY j).2 = 2) (h3 : j ≠ 518) : IT0 j k = 0 := by
  unfold IT0
  generalize (LAY j).1 = c at h
  subst h
  show (if (LAY j).2 = 2 ∧ k < 2 then 4 else if j = 518 ∧ k < 6 then -1 else 0 : Int32) = 0
  rw [if_neg (fun q => h2 q.1), if_neg (fun q => h3 q.1)]
theorem as_0 {a : Nat} (h1 : (LAY (a + 1)).1 = 11) (h2 : ¬ (LAY (a + 1)).2 = 2) (h3 : a + 1 ≠ 518) (g1 : (LAY (a + 2)).1 = 11) (g2 : ¬ (LAY (a + 2)).2 = 2) (g3 : a + 2 ≠ 518) : AS (p8 IT0 a) ∧ AE (p8 IT0 a) := by
  refine ⟨fun k => ?_, fun k => ?_⟩
  · show okS (IT0 (a + 1) k) (IT0 (a + 2) k)
    rw [it0_11 h1 h2 h3, it0_11 g1 g2 g3]
    unfold okS; rw [ti_0]; omega
  · show okE (IT0 (a + 1) k) (IT0 (a + 2) k)
    rw [it0_11 h1 h2 h3, it0_11 g1 g2 g3]
    unfold okE; rw [ti_0]; omega
theorem rN_w {lg : LGt} {it : ITt} : rN (vw9 lg it) = (it 489 0).toNatClampNeg := rfl
theorem vo_z {lg : LGt} {it : ITt} (n9 : (it 489 0).toNatClampNeg = 0) (b : (0 ≤ (it 489 1).toInt ∧ (it 489 1).toInt ≤ 4) ∧ (-1 ≤ (it 489 2).toInt ∧ (it 489 2).toInt ≤ 4) ∧ (-1 ≤ (it 489 3).toInt ∧ (it 489 3).toInt ≤ 4)) : VO (vw9 lg it) := by
  have z9 : rN (vw9 lg it) = 0 := n9
  have hP : ∀ i, rP (vw9 lg it) i = (0, 1) := fun i => if_neg (by rw [n9]; exact Nat.not_lt_zero i)
  have hS : ∀ i, rS (vw9 lg it) i = (0, 1) := fun i => if_neg (by rw [n9]; exact Nat.not_lt_zero i)
  have hM : ∀ i, rM (vw9 lg it) i = 0 := fun i => if_neg (by rw [n9]; exact Nat.not_lt_zero i)
  refine ⟨by rw [z9]; omega, fun i => ?_, fun i hi => absurd hi (by rw [z9]; exact Nat.not_lt_zero i), fun i _ => ⟨hM i, hP i, hS i⟩, b.1, b.2.1, b.2.2⟩
  rw [hP, hS]; decide
theorem RA_0 : RA LG0 IT0 := by
  have n8 : (IT0 2 0).toNatClampNeg = 0 := by decide +kernel
  have n9 : (IT0 489 0).toNatClampNeg = 0 := by decide +kernel
  have eE : IT0 489 1 = IT0 2 4 := by decide +kernel
  have eA : IT0 489 2 = IT0 18 0 := by decide +kernel
  have eB : IT0 489 3 = IT0 18 1 := by decide +kernel
  have b : (0 ≤ (IT0 2 4).toInt ∧ (IT0 2 4).toInt ≤ 4) ∧ (-1 ≤ (IT0 18 0).toInt ∧ (IT0 18 0).toInt ≤ 4) ∧ (-1 ≤ (IT0 18 1).toInt ∧ (IT0 18 1).toInt ≤ 4) := by decide +kernel
  have ev : vw8 LG0 IT0 2 = vw9 LG0 IT0 := by
    unfold vw8 vw9
    rw [n8, n9, eE, eA, eB]
    exact rv_ext (fun i hi => absurd hi (Nat.not_lt_zero i)) (fun i hi => absurd hi (Nat.not_lt_zero i)) (fun i hi => absurd hi (Nat.not_lt_zero i))
  refine ⟨⟨⟨ev, fun i hi => absurd hi (by rw [n8]; exact Nat.not_lt_zero i), by rw [n8]; omega⟩, ?_⟩, Or.inl (by decide +kernel), ⟨by decide +kernel, fun q => absurd (by decide +kernel) q⟩, ⟨by decide +kernel, fun p hp => absurd hp (by rw [show (IT0 467 1).toNatClampNeg = 0 by decide +kernel]; exact Nat.not_lt_zero p)⟩, (as_0 (a := 19) (by decide +kernel) (by decide +kernel) (by decide) (by decide +kernel) (by decide +kernel) (by decide)).1, (as_0 (a := 46) (by decide +kernel) (by decide +kernel) (by decide) (by decide +kernel) (by decide +kernel) (by decide)).1, (as_0 (a := 22) (by decide +kernel) (by decide +kernel) (by decide) (by decide +kernel) (by decide +kernel) (by decide)).2, (as_0 (a := 49) (by decide +kernel) (by decide +kernel) (by decide) (by decide +kernel) (by decide +kernel) (by decide)).2⟩
  exact vo_z n9 (by rw [eE, eA, eB]; exact b)
/-! the first side's image and undo, with the lists -/
theorem e_X8_image {lg0 : LGt} {it0 : ITt} (hI : I8 lg0 it0) : w_X8_image (fun (v : Int32) (lg' : LGt) (it' : ITt) => (I8 lg' it' ∧ Kc (fun j => (28 ≤ j ∧ j < 55) ∨ (0 ≤ j ∧ j < 1)) lg0 it0 lg' it') ∧ ((vw8 lg' it' 29 = vw8 lg0 it0 2 ∧ (Ok8 it0 2 → Ok8 it' 29)) ∧ p8 it' 46 = bcP (p8 it0 46) (p8 it0 19) ∧ p8 it' 49 = bcP (p8 it0 49) (p8 it0 22) ∧ p8 it' 52 = bcP (p8 it0 52) (p8 it0 25)) ∧ it' 0 2 = 1 ∧ v = it0 2 0) lg0 it0 := by
  unfold w_X8_image
  refine ⟨_, e_X4_become in_sb_28 in_sb_1 (by decide) hI, ?_⟩
  rintro lgA itA ⟨⟨JA, KA⟩, ⟨v1, v2⟩, s1, s2, s3⟩
  intro it8 m8
  have J8 : I8 lgA it8 := by rw [m8]; exact i8_u JA (ok8_a oq_0 (by decide))
  have k : Kc (fun j => j = 0) lgA itA lgA it8 := by rw [m8]; exact kc_u rfl kc_r
  have q := vw8_k (r := 29) (by decide) JA k (fun j h1 h2 h3 => by have h3 : j = 0 := h3; omega)
  refine ⟨⟨J8, kc_t (kc_t kc_r KA (fun j hj => by omega)) k (fun j hj => by have hj : j = 0 := hj; omega)⟩, ⟨⟨q.1.trans v1, fun z => q.2 (v2 z)⟩, ?_, ?_, ?_⟩, by rw [m8, u2_eq], ?_⟩
  · rw [p8_k k (fun j hj => by have hj : j = 0 := hj; omega)]; exact s1
  · rw [p8_k k (fun j hj => by have hj : j = 0 := hj; omega)]; exact s2
  · rw [p8_k k (fun j hj => by have hj : j = 0 := hj; omega)]; exact s3
  · rw [m8, u2_row (by decide), (KA 2 (by omega)).2]
theorem e_X8_undo {lg0 : LGt} {it0 : ITt} (hI : I8 lg0 it0) : w_X8_undo (fun (v : Int32) (lg' : LGt) (it' : ITt) => (I8 lg' it' ∧ Kc (fun j => (1 ≤ j ∧ j < 28)) lg0 it0 lg' it') ∧ ((it0 0 2 = 0 ∧ v = -3 ∧ lg' = lg0 ∧ it' = it0) ∨ (¬ it0 0 2 = 0 ∧ v = it' 2 0 ∧ (vw8 lg' it' 2 = vw8 lg0 it0 29 ∧ (Ok8 it0 29 → Ok8 it' 2)) ∧ p8 it' 19 = bcP (p8 it0 19) (p8 it0 46) ∧ p8 it' 22 = bcP (p8 it0 22) (p8 it0 49) ∧ p8 it' 25 = bcP (p8 it0 25) (p8 it0 52)))) lg0 it0 := by
  unfold w_X8_undo
  refine ⟨fun c => ?_, fun c => ⟨⟨hI, kc_r⟩, Or.inl ⟨c, rfl, rfl, rfl⟩⟩⟩
  refine ⟨_, e_X4_become in_sb_1 in_sb_28 (by decide) hI, ?_⟩
  rintro lgA itA ⟨⟨JA, KA⟩, ⟨v1, v2⟩, s1, s2, s3⟩
  exact ⟨⟨JA, kc_t kc_r KA (fun j hj => by omega)⟩, Or.inr ⟨c, rfl, ⟨v1, v2⟩, s1, s2, s3⟩⟩
theorem ra_image {S' F : Nat → Prop} {lg lg1 lg2 : LGt} {it it1 it2 : ITt} {v v' : Int32} (h : RA lg it) (hI : I8 lg it) (hJ : I9 lg it) (k8 : Kc (fun j => (28 ≤ j ∧ j < 55) ∨ (0 ≤ j ∧ j < 1)) lg it lg1 it1) (q8 : ((vw8 lg1 it1 29 = vw8 lg it 2 ∧ (Ok8 it 2 → Ok8 it1 29)) ∧ p8 it1 46 = bcP (p8 it 46) (p8 it 19) ∧ p8 it1 49 = bcP (p8 it 49) (p8 it 22) ∧ p8 it1 52 = bcP (p8 it 52) (p8 it 25)) ∧ it1 0 2 = 1 ∧ v = it 2 0)
    (k9 : Kd S' F lg1 it1 lg2 it2) (q9 : IM9 lg2 lg1 it1 ∧ it2 489 61 = 1 ∧ v' = it1 489 0) (s9 : ∀ j, S' j → j = 522) (f9 : ∀ k, F k → k = 61) : RA lg2 it2 ∧ v = v' := by
  obtain ⟨⟨e29, a46, a49, _⟩, e02, ev⟩ := q8
  obtain ⟨im, e61, ev'⟩ := q9
  have w := w9_8 k8 (fun j hj => by omega)
  have c (j : Nat) (q : ¬ ((28 ≤ j ∧ j < 55) ∨ (0 ≤ j ∧ j < 1))) : it1 j = it j := (k8 j q).2
  have r (j : Nat) (q : j < 489) : lg2 j = lg1 j ∧ it2 j = it1 j := k9.1 j (by omega) (fun z => by have := s9 j z; omega)
  have kk : Kc (fun j => 489 ≤ j) lg1 it1 lg2 it2 := fun j hj => r j (by omega)
  have w2 : vw9 lg2 it2 = vw9 lg it := by rw [w9_k k9 (fun j hj => by have := s9 j hj; omega) (fun k hk => by have := f9 k hk; omega)]; exact w
  have b0 := i9_f hJ (j := 489) (k := 0) rfl
  have wk : vk9 lg2 = vw9 lg it := by
    rw [im_v im (by rw [c 489 (by omega)]; have := cl32 b0.1; omega)]; exact w
  have R2 : RV lg1 it1 2 (vw9 lg it) := rv_k (ra_v h) k8 (fun j hj => by omega)
  have R29 : RV lg1 it1 29 (vw9 lg it) := rv_o (ra_v h) e29
  have hN := rN_f hI in_rb_2 (ra_v h)
  refine ⟨⟨⟨by rw [w2]; exact rv_k R2 kk (fun j hj => by have hj : 489 ≤ j := hj; omega), by rw [w2]; exact ra_o h⟩, ci_k (ci_k (ra_c h) k8 (fun j hj => by omega)) kk (fun j hj => Or.inr (by have hj : 489 ≤ j := hj; omega)), ⟨?_, fun _ => ⟨by rw [wk]; exact rv_k R29 kk (fun j hj => by have hj : 489 ≤ j := hj; omega), by rw [wk]; exact ra_o h⟩⟩, ?_, ?_, ?_, ?_, ?_⟩, ?_⟩
  · rw [(r 0 (by omega)).2, e02, e61]
  · exact tx_9 (by unfold TXr; rw [c 467 (by omega), c 489 (by omega), c 468 (by omega), c 513 (by omega)]; exact ra_t h) k9 (fun j hj => by have := s9 j hj; omega) (fun k hk => by have := f9 k hk; omega)
  · rw [p8_k kk (fun j hj => by have hj : 489 ≤ j := hj; omega), p8_k k8 (fun j hj => by omega)]; exact (ra_l h).1
  · rw [p8_k kk (fun j hj => by have hj : 489 ≤ j := hj; omega), a46]; exact as_bc (ra_l h).2.1 (ra_l h).1
  · rw [p8_k kk (fun j hj => by have hj : 489 ≤ j := hj; omega), p8_k k8 (fun j hj => by omega)]; exact (ra_l h).2.2.1
  · rw [p8_k kk (fun j hj => by have hj : 489 ≤ j := hj; omega), a49]; exact ae_bc (ra_l h).2.2.2 (ra_l h).2.2.1
  · rw [ev, ev', c 489 (by omega)]
    exact Int32.toInt_inj.mp (hN.trans (n9_b hJ).1.symm)
theorem ra_undo {S' F : Nat → Prop} {lg lg1 lg2 : LGt} {it it1 it2 : ITt} {v v' : Int32} (h : RA lg it) (hI : I8 lg1 it1) (hJ : I9 lg1 it1) (hJ2 : I9 lg2 it2) (k8 : Kc (fun j => (1 ≤ j ∧ j < 28)) lg it lg1 it1) (q8 : (it 0 2 = 0 ∧ v = -3 ∧ lg1 = lg ∧ it1 = it) ∨ (¬ it 0 2 = 0 ∧ v = it1 2 0 ∧ (vw8 lg1 it1 2 = vw8 lg it 29 ∧ (Ok8 it 29 → Ok8 it1 2)) ∧ p8 it1 19 = bcP (p8 it 19) (p8 it 46) ∧ p8 it1 22 = bcP (p8 it 22) (p8 it 49) ∧ p8 it1 25 = bcP (p8 it 25) (p8 it 52)))
    (k9 : Kd S' F lg1 it1 lg2 it2) (q9 : (it1 489 61 = 0 ∧ v' = -3 ∧ lg2 = lg1 ∧ it2 = it1) ∨ (¬ it1 489 61 = 0 ∧ v' = it2 489 0 ∧ UN9 lg2 it2 lg1)) (s9 : ∀ j, S' j → 489 < j ∧ j ≠ 513 ∧ j ≠ 522) (f9 : ∀ k, F k → k ≠ 50 ∧ k ≠ 61) : RA lg2 it2 ∧ v = v' := by
  have c (j : Nat) (q : ¬ (1 ≤ j ∧ j < 28)) : lg1 j = lg j ∧ it1 j = it j := k8 j q
  rcases q8 with ⟨a1, a2, rfl, rfl⟩ | ⟨a1, a2, a3, a4, a5, _⟩
  · rcases q9 with ⟨b1, b2, rfl, rfl⟩ | ⟨b1, _⟩
    · exact ⟨h, by rw [a2, b2]⟩
    · exact absurd ((ra_i h).1.mp a1) b1
  · rcases q9 with ⟨b1, _⟩ | ⟨b1, b2, b3⟩
    · rw [(c 489 (by omega)).2] at b1
      exact absurd ((ra_i h).1.mpr b1) a1
    · obtain ⟨g1, g2⟩ := (ra_i h).2 a1
      have wk : vk9 lg1 = vk9 lg := k9_8 k8 (fun j hj => by omega)
      have k0 := i9_k hJ (k := 0) (a := 0) (b := 6) (by decide)
      have e0 := l32 k0.1 (by omega)
      have w2 : vw9 lg2 it2 = vk9 lg := by
        rw [un_v b3 (by have := cl32 (i := (lg1 522 0).toInt32) (by omega); omega)]; exact wk
      have R2 : RV lg1 it1 2 (vk9 lg) := rv_o g1 a3
      have hN := rN_f hI in_rb_2 R2
      have hN9 := (n9_b hJ2).1
      rw [w2] at hN9
      refine ⟨ra_9w (by rw [w2]; exact R2) (by rw [w2]; exact g2) (ci_k (ra_c h) k8 (fun j hj => by omega)) ⟨?_, fun _ => ?_⟩ ⟨?_, ?_, ?_, ?_⟩ k9 (fun j hj => by have := s9 j hj; omega) (fun k hk => (f9 k hk).2) (tx_9 ?_ k9 (fun j hj => by have := s9 j hj; omega) (fun k hk => (f9 k hk).1)), ?_⟩
      · rw [(c 0 (by omega)).2, (c 489 (by omega)).2]; exact (ra_i h).1
      · rw [wk]; exact ⟨rv_k g1 k8 (fun j hj => by omega), g2⟩
      · rw [a4]; exact as_bc (ra_l h).1 (ra_l h).2.1
      · rw [p8_k k8 (fun j hj => by omega)]; exact (ra_l h).2.1
      · rw [a5]; exact ae_bc (ra_l h).2.2.1 (ra_l h).2.2.2
      · rw [p8_k k8 (fun j hj => by omega)]; exact (ra_l h).2.2.2
      · unfold TXr; rw [(c 467 (by omega)).2, (c 489 (by omega)).2, (c 468 (by omega)).2, (c 513 (by omega)).2]; exact ra_t h
      · rw [a2, b2]; exact Int32.toInt_inj.mp (hN.trans hN9.symm)
/-! feed -/
theorem by8 {a : Int32} (h : 0 ≤ a.toInt ∧ a.toInt ≤ 127) : a.toInt8.toInt32.toInt8.toInt32 = a := by
  have e : a.toInt8.toInt32 = a := by
    apply Int32.toInt_inj.mp
    rw [Int8.toInt_toInt32, Int32.toInt_toInt8]
    first
    | exact Int.bmod_eq_of_le (by omega) (by omega)
    | (unfold Int.bmod; omega)
  rw [e, e]
def fdS (a : Int32) (v : Int32) (n' : Int32) (g' : Nat → Int32) (n : Int32) (g : Nat → Int32) : Prop := if 0 ≤ a.toInt ∧ a.toInt ≤ 127 then (if n.toInt = 100 then (v = -4 ∧ n' = n ∧ g' = g) else (v = n + 1 ∧ n' = n + 1 ∧ g' = uf1 g n.toNatClampNeg a)) else (v = -2 ∧ n' = n ∧ g' = g)
theorem f_X8_feed (a1 : Int32) {lg0 : LGt} {it0 : ITt} (hI : I8 lg0 it0) : w_X8_feed a1 (fun (v : Int32) (lg' : LGt) (it' : ITt) => (I8 lg' it' ∧ Kc (fun j => (467 ≤ j ∧ j < 473)) lg0 it0 lg' it') ∧ fdS a1 v (it' 467 1) (it' 468) (it0 467 1) (it0 468)) lg0 it0 := by
  have b := i8_71 hI
  unfold w_X8_feed fdS
  rw [lt0, le0, lt0, ti_0, show (127 : Int32).toInt = 127 by decide, show (100 : Int32).toInt = 100 by decide]
  refine ⟨fun c => ⟨⟨hI, kc_r⟩, by rw [if_neg (by omega)]; exact ⟨rfl, rfl, rfl⟩⟩, fun c => ⟨fun c2 => ⟨fun c3 => ⟨vp_of b.1 (by omega), fun it7 m7 it9 m9 => ?_⟩, fun c3 => ⟨⟨hI, kc_r⟩, by rw [if_pos (by omega), if_pos (by omega)]; exact ⟨rfl, rfl, rfl⟩⟩⟩, fun c2 => ⟨⟨hI, kc_r⟩, by rw [if_neg (by omega)]; exact ⟨rfl, rfl, rfl⟩⟩⟩⟩
  have e7 : it7 467 1 = it0 467 1 := by rw [m7, u2_row (by decide)]
  rw [e7] at m9
  have fx : (it0 467 1 + 1).toInt = (it0 467 1).toInt + 1 := ad32 rfl ti_1 (by omega) (by omega)
  have e9 : it9 467 1 = it0 467 1 + 1 := by rw [m9, u2_eq]
  refine ⟨⟨?_, ?_⟩, ?_⟩
  · rw [m9]; exact i8_u (by rw [m7]; exact i8_u hI (ok8_a oq_468 (by decide))) (ok8_7 oq_467 ⟨fun _ => by omega, fun q => absurd q (by decide), fun q => absurd q (by decide)⟩)
  · rw [m9]; exact kc_u (by omega) (by rw [m7]; exact kc_u (by omega) kc_r)
  · rw [if_pos (by omega), if_neg (by omega)]
    refine ⟨e9, e9, ?_⟩
    rw [m9, u2_row (by decide), m7, u2_up, by8 (by omega)]
theorem f_X9_feed (a1 : Int32) {lg0 : LGt} {it0 : ITt} (hI : I9 lg0 it0) : w_X9_feed a1 (fun (v : Int32) (lg' : LGt) (it' : ITt) => (I9 lg' it' ∧ Kd (fun j => j = 513) (fun k => k = 50) lg0 it0 lg' it') ∧ fdS a1 v (it' 489 50) (it' 513) (it0 489 50) (it0 513)) lg0 it0 := by
  have b := (i9_5 hI).1
  have ic : it0 489 50 = 100 ↔ (it0 489 50).toInt = 100 := by rw [← show (100 : Int32).toInt = 100 by decide]; exact Int32.toInt_inj.symm
  unfold w_X9_feed fdS
  rw [Int32.toInt_toInt64, tl_0, show ((127 : Int64) : Int64).toInt = 127 by decide, ic]
  refine ⟨fun c => ⟨fun c2 => ⟨vp_of b.1 (by omega), fun it5 m5 it7 m7 => ?_⟩, fun c2 => ⟨⟨hI, kd_r⟩, by rw [if_pos c, if_pos c2]; exact ⟨rfl, rfl, rfl⟩⟩⟩, fun c => ⟨⟨hI, kd_r⟩, by rw [if_neg c]; exact ⟨rfl, rfl, rfl⟩⟩⟩
  have e5 : it5 489 50 = it0 489 50 := by rw [m5, u2_row (by decide)]
  rw [e5] at m7
  have fx : (it0 489 50 + 1).toInt = (it0 489 50).toInt + 1 := ad32 rfl ti_1 (by omega) (by omega)
  have e7 : it7 489 50 = it0 489 50 + 1 := by rw [m7, u2_eq]
  refine ⟨⟨?_, ?_⟩, ?_⟩
  · rw [m7]; exact i9_u (by rw [m5]; exact i9_u hI (ok9_n rfl) (by decide) (fun q => absurd q (by decide))) (ok9_b (a := 0) (b := 100) rfl (by omega)) (by decide) (fun _ => by decide)
  · rw [m7]; exact kd_uf rfl (by rw [m5]; exact kd_ur (by decide) rfl kd_r)
  · rw [if_pos c, if_neg c2]
    refine ⟨e7, e7, ?_⟩
    rw [m7, u2_row (by decide), m5, u2_up]
theorem ra_feed {S' F : Nat → Prop} {lg lg1 lg2 : LGt} {it it1 it2 : ITt} {v v' a : Int32} (h : RA lg it) (hI : I8 lg it) (k8 : Kc (fun j => (467 ≤ j ∧ j < 473)) lg it lg1 it1) (q8 : fdS a v (it1 467 1) (it1 468) (it 467 1) (it 468)) (k9 : Kd S' F lg1 it1 lg2 it2) (q9 : fdS a v' (it2 489 50) (it2 513) (it1 489 50) (it1 513)) (s9 : ∀ j, S' j → j = 513) (f9 : ∀ k, F k → k = 50) : RA lg2 it2 ∧ v = v' := by
  have c (j : Nat) (q : ¬ (467 ≤ j ∧ j < 473)) : it1 j = it j := (k8 j q).2
  have w := w9_8 k8 (fun j hj => by omega)
  have wk := k9_8 k8 (fun j hj => by omega)
  have w2 : vw9 lg2 it2 = vw9 lg it := by rw [w9_k k9 (fun j hj => by have := s9 j hj; omega) (fun k hk => by have := f9 k hk; omega)]; exact w
  have t (j : Nat) (q : j < 489) : it2 j = it1 j := (k9.1 j (by omega) (fun z => by have := s9 j z; omega)).2
  obtain ⟨tl, tp⟩ := ra_t h
  rw [c 489 (by omega), c 513 (by omega), ← tl] at q9
  have b := i8_71 hI
  have core : TXr it2 ∧ v = v' := by
    unfold TXr
    rw [t 467 (by omega), t 468 (by omega)]
    unfold fdS at q8 q9
    by_cases z : 0 ≤ a.toInt ∧ a.toInt ≤ 127
    · rw [if_pos z] at q8 q9
      by_cases y : (it 467 1).toInt = 100
      · rw [if_pos y] at q8 q9
        obtain ⟨x1, x2, x3⟩ := q8
        obtain ⟨y1, y2, y3⟩ := q9
        rw [x2, x3, y2, y3]
        exact ⟨⟨rfl, tp⟩, by rw [x1, y1]⟩
      · rw [if_neg y] at q8 q9
        obtain ⟨x1, x2, x3⟩ := q8
        obtain ⟨y1, y2, y3⟩ := q9
        rw [x2, x3, y2, y3]
        refine ⟨⟨rfl, fun p hp => ?_⟩, by rw [x1, y1]⟩
        have fx : (it 467 1 + 1).toInt = (it 467 1).toInt + 1 := ad32 rfl ti_1 (by omega) (by omega)
        have kx := cl32 (i := it 467 1 + 1) (by omega)
        have ky := cl32 b.1
        unfold uf1
        by_cases u : p = (it 467 1).toNatClampNeg
        · rw [if_pos u, if_pos u]; exact ⟨rfl, z.1⟩
        · rw [if_neg u, if_neg u]; exact tp p (by omega)
    · rw [if_neg z] at q8 q9
      obtain ⟨x1, x2, x3⟩ := q8
      obtain ⟨y1, y2, y3⟩ := q9
      rw [x2, x3, y2, y3]
      exact ⟨⟨rfl, tp⟩, by rw [x1, y1]⟩
  refine ⟨ra_9w (by rw [w2]; exact rv_k (ra_v h) k8 (fun j hj => by omega)) (by rw [w2]; exact ra_o h) (ci_k (ra_c h) k8 (fun j hj => by omega)) ⟨?_, fun q => ?_⟩ ⟨?_, ?_, ?_, ?_⟩ k9 (fun j hj => by have := s9 j hj; omega) (fun k hk => by have := f9 k hk; omega) core.1, core.2⟩
  · rw [c 0 (by omega), c 489 (by omega)]; exact (ra_i h).1
  · rw [c 0 (by omega)] at q
    rw [wk]
    obtain ⟨x, y⟩ := (ra_i h).2 q
    exact ⟨rv_k x k8 (fun j hj => by omega), y⟩
  · rw [p8_k k8 (fun j hj => by omega)]; exact (ra_l h).1
  · rw [p8_k k8 (fun j hj => by omega)]; exact (ra_l h).2.1
  · rw [p8_k k8 (fun j hj => by omega)]; exact (ra_l h).2.2.1
  · rw [p8_k k8 (fun j hj => by omega)]; exact (ra_l h).2.2.2
