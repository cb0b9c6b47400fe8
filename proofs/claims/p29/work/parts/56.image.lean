/-! the reference is safe: the image -/
def rngF {α : Type} (f : Nat → Nat → α) (row q n : Nat) (v : Nat → α) : Nat → Nat → α := fun j k => if j = row ∧ q ≤ k ∧ k < q + n then v (k - q) else f j k
theorem rng_s {α : Type} {f : Nat → Nat → α} {row q i : Nat} {v : Nat → α} : u2 (rngF f row q i v) row (q + i) (v i) = rngF f row q (i + 1) v := by
  funext j b
  unfold u2 rngF
  by_cases hb : j = row ∧ b = q + i
  · rw [if_pos hb, if_pos ⟨hb.1, by omega, by omega⟩, show b - q = i by omega]
  · rw [if_neg hb]
    by_cases h2 : j = row ∧ q ≤ b ∧ b < q + i
    · rw [if_pos h2, if_pos ⟨h2.1, h2.2.1, by omega⟩]
    · rw [if_neg h2, if_neg (fun z => by
        rcases (show b = q + i ∨ b < q + i by omega) with e | e
        · exact hb ⟨z.1, e⟩
        · exact h2 ⟨z.1, z.2.1, e⟩)]
theorem rng_0 {α : Type} {f : Nat → Nat → α} {row q : Nat} {v : Nat → α} : rngF f row q 0 v = f := by
  funext j b
  unfold rngF
  rw [if_neg (fun z => by omega)]
theorem rng_in {α : Type} {f : Nat → Nat → α} {row q n k i : Nat} {v : Nat → α} (h : k = q + i) (hi : i < n) : rngF f row q n v row k = v i := by
  unfold rngF
  rw [if_pos ⟨rfl, by omega, by omega⟩, show k - q = i by omega]
theorem rng_out {α : Type} {f : Nat → Nat → α} {row q n k : Nat} {v : Nat → α} (h : k < q ∨ q + n ≤ k) : rngF f row q n v row k = f row k := by
  unfold rngF
  rw [if_neg (fun z => by omega)]
theorem rng_row {α : Type} {f : Nat → Nat → α} {row q n j : Nat} {v : Nat → α} (h : j ≠ row) : rngF f row q n v j = f j := by
  funext b
  unfold rngF
  rw [if_neg (fun z => h z.1)]
theorem u2_rng {α : Type} {f : Nat → Nat → α} {row q n r k : Nat} {v : Nat → α} {x : α} (h : r ≠ row) : u2 (rngF f row q n v) r k x = rngF (u2 f r k x) row q n v := by
  funext j b
  by_cases h1 : j = row
  · subst h1
    rw [show u2 (rngF f j q n v) r k x j = rngF f j q n v j from u2_row (fun z => h z.symm)]
    unfold rngF
    by_cases c : j = j ∧ q ≤ b ∧ b < q + n
    · rw [if_pos c, if_pos c]
    · rw [if_neg c, if_neg c, show u2 f r k x j = f j from u2_row (fun z => h z.symm)]
  · rw [show rngF (u2 f r k x) row q n v j = u2 f r k x j from rng_row h1]
    unfold u2
    rw [show rngF f row q n v j = f j from rng_row h1]
theorem x_carries (a1 n q : Nat) (a4 : Int32) (lg : LGt) (it : ITt) (R : Int32 → LGt → ITt → Prop) (h1 : n ≤ (LAY a1).2) (h2 : q + n ≤ 80) (hR : a4 = 0 → R (nI (q + n)) (rngF lg 522 q n (fun k => (it a1 k).toInt64)) it) (hR2 : ¬ a4 = 0 → R (nI (q + n)) lg (rngF it a1 0 n (fun k => (lg 522 (q + k)).toInt32))) : w_X9_carries a1 (nI n) (nI q) a4 R lg it := by
  have hle := lay_le a1
  have lp : ∀ (k i : Nat) (lg1 : LGt) (it1 : ITt), i + k = n → (a4 = 0 → it1 = it ∧ lg1 = rngF lg 522 q i (fun k => (it a1 k).toInt64)) → (¬ a4 = 0 → lg1 = lg ∧ it1 = rngF it a1 0 i (fun k => (lg 522 (q + k)).toInt32)) → w_X9_carries_b3 a1 (nI n) (nI q) a4 R (k + 1) (nI i) lg1 it1 := by
    intro k
    induction k with
    | zero =>
      intro i lg1 it1 hi e1 e2
      have hi : i = n := by omega
      subst hi
      unfold w_X9_carries_b3
      refine ⟨fun _ => ?_, fun c => absurd (nI_le (Nat.le_refl _) (by omega)) c⟩
      rw [nI_add]
      by_cases h0 : a4 = 0
      · obtain ⟨p, r⟩ := e1 h0
        rw [p, r]
        exact hR h0
      · obtain ⟨p, r⟩ := e2 h0
        rw [p, r]
        exact hR2 h0
    | succ k ih =>
      intro i lg1 it1 hi e1 e2
      unfold w_X9_carries_b3
      have v1 : vp_in (nI i) (LAY a1).2 := nI_in (by omega) (by omega)
      have v2 : vp_in (nI q + nI i) 80 := by rw [nI_add]; exact nI_in (by omega) (by omega)
      have c1 : (nI i).toNatClampNeg = i := nI_clamp (by omega)
      have c2 : (nI q + nI i).toNatClampNeg = q + i := by rw [nI_add]; exact nI_clamp (by omega)
      refine ⟨fun c => absurd c (nI_ge (by omega) (by omega)), fun _ => ⟨fun h0 => ⟨v1, v2, fun lg7 m7 => ?_⟩, fun h0 => ⟨v2, v1, fun it12 m12 => ?_⟩⟩⟩
      · rw [c1, c2] at m7
        obtain ⟨p, r⟩ := e1 h0
        have hs := ih (i + 1) lg7 it1 (by omega) (fun _ => ⟨p, by rw [m7, p, r]; exact rng_s⟩) (fun h => absurd h0 h)
        rw [nI_succ i] at hs
        exact hs
      · rw [c1, c2] at m12
        obtain ⟨p, r⟩ := e2 h0
        have hs := ih (i + 1) lg1 it12 (by omega) (fun h => absurd h h0) (fun _ => ⟨p, by
          rw [m12, p, r]
          have z := rng_s (f := it) (row := a1) (q := 0) (i := i) (v := fun k => (lg 522 (q + k)).toInt32)
          rw [Nat.zero_add] at z
          exact z⟩)
        rw [nI_succ i] at hs
        exact hs
  unfold w_X9_carries
  exact ⟨_, lp n 0 lg it (by omega) (fun _ => ⟨rfl, rng_0.symm⟩) (fun _ => ⟨rfl, rng_0.symm⟩)⟩
theorem x_carriesLongs (a1 q : Nat) (a3 : Int32) (lg : LGt) (it : ITt) (R : Int32 → LGt → ITt → Prop) (h1 : 6 ≤ (LAY a1).2) (ha : a1 ≠ 522) (h2 : q + 6 ≤ 80) (hR : a3 = 0 → R (nI (q + 6)) (rngF lg 522 q 6 (fun k => lg a1 k)) it) (hR2 : ¬ a3 = 0 → R (nI (q + 6)) (rngF lg a1 0 6 (fun k => lg 522 (q + k))) it) : w_X9_carriesLongs a1 (nI q) a3 R lg it := by
  have lp : ∀ (k i : Nat) (lg1 : LGt), i + k = 6 → (a3 = 0 → lg1 = rngF lg 522 q i (fun k => lg a1 k)) → (¬ a3 = 0 → lg1 = rngF lg a1 0 i (fun k => lg 522 (q + k))) → w_X9_carriesLongs_b3 a1 (nI q) a3 R (k + 1) (nI i) lg1 it := by
    intro k
    induction k with
    | zero =>
      intro i lg1 hi e1 e2
      have hi : i = 6 := by omega
      subst hi
      unfold w_X9_carriesLongs_b3
      refine ⟨fun _ => ?_, fun c => absurd (by decide) c⟩
      have e6 : nI q + 6 = nI (q + 6) := nI_add q 6
      rw [e6]
      by_cases h0 : a3 = 0
      · rw [e1 h0]
        exact hR h0
      · rw [e2 h0]
        exact hR2 h0
    | succ k ih =>
      intro i lg1 hi e1 e2
      unfold w_X9_carriesLongs_b3
      have v1 : vp_in (nI i) (LAY a1).2 := nI_in (by omega) (by have := lay_le a1; omega)
      have v2 : vp_in (nI q + nI i) 80 := by rw [nI_add]; exact nI_in (by omega) (by omega)
      have c1 : (nI i).toNatClampNeg = i := nI_clamp (by omega)
      have c2 : (nI q + nI i).toNatClampNeg = q + i := by rw [nI_add]; exact nI_clamp (by omega)
      have c6 : ¬ nI 6 ≤ nI i := nI_ge (by omega) (by omega)
      refine ⟨fun c => absurd c c6, fun _ => ⟨fun h0 => ⟨v1, v2, fun lg7 m7 => ?_⟩, fun h0 => ⟨v2, v1, fun lg12 m12 => ?_⟩⟩⟩
      · rw [c1, c2] at m7
        have r := e1 h0
        have ea : lg1 a1 i = lg a1 i := by rw [r, rng_row ha]
        have hs := ih (i + 1) lg7 (by omega) (fun _ => by rw [m7, ea, r]; exact rng_s (v := fun k => lg a1 k)) (fun h => absurd h0 h)
        rw [nI_succ i] at hs
        exact hs
      · rw [c1, c2] at m12
        have r := e2 h0
        have ea : lg1 522 (q + i) = lg 522 (q + i) := by rw [r, rng_row (fun z => ha z.symm)]
        have hs := ih (i + 1) lg12 (by omega) (fun h => absurd h h0) (fun _ => by
          rw [m12, ea, r]
          have z := rng_s (f := lg) (row := a1) (q := 0) (i := i) (v := fun k => lg 522 (q + k))
          rw [Nat.zero_add] at z
          exact z)
        rw [nI_succ i] at hs
        exact hs
  unfold w_X9_carriesLongs
  exact ⟨_, lp 6 0 lg rfl (fun _ => rng_0.symm) (fun _ => rng_0.symm)⟩
def bk1 (lg : LGt) (k : Nat) : Int32 := (lg 522 (63 + k) / 10).toInt32
def bk2 (lg : LGt) (k : Nat) : Int32 := (lg 522 (63 + k) - lg 522 (63 + k) / 10 * 10).toInt32
def bkv (it : ITt) (k : Nat) : Int64 := 10 * (it 499 k).toInt64 + (it 500 k).toInt64
theorem x_book (a1 : Int32) (lg : LGt) (it : ITt) (R : LGt → ITt → Prop) (hR : a1 = 0 → R (rngF lg 522 63 8 (bkv it)) it) (hR2 : ¬ a1 = 0 → R lg (rngF (rngF it 499 0 8 (bk1 lg)) 500 0 8 (bk2 lg))) : w_X9_carriesAll_b110 a1 R 9 (nI 63) 0 lg it := by
  have lp : ∀ (k i : Nat) (lg1 : LGt) (it1 : ITt), i + k = 8 → (a1 = 0 → it1 = it ∧ lg1 = rngF lg 522 63 i (bkv it)) → (¬ a1 = 0 → lg1 = lg ∧ it1 = rngF (rngF it 499 0 i (bk1 lg)) 500 0 i (bk2 lg)) → w_X9_carriesAll_b110 a1 R (k + 1) (nI 63) (nI i) lg1 it1 := by
    intro k
    induction k with
    | zero =>
      intro i lg1 it1 hi e1 e2
      have hi : i = 8 := by omega
      subst hi
      unfold w_X9_carriesAll_b110
      refine ⟨fun _ => ?_, fun c => absurd (by decide) c⟩
      by_cases h0 : a1 = 0
      · obtain ⟨p, r⟩ := e1 h0
        rw [p, r]
        exact hR h0
      · obtain ⟨p, r⟩ := e2 h0
        rw [p, r]
        exact hR2 h0
    | succ k ih =>
      intro i lg1 it1 hi e1 e2
      unfold w_X9_carriesAll_b110
      have v1 : vp_in (nI i) 8 := nI_in (by omega) (by omega)
      have v2 : vp_in (nI 63 + nI i) 80 := by rw [nI_add]; exact nI_in (by omega) (by omega)
      have c1 : (nI i).toNatClampNeg = i := nI_clamp (by omega)
      have c2 : (nI 63 + nI i).toNatClampNeg = 63 + i := by rw [nI_add]; exact nI_clamp (by omega)
      have c6 : ¬ nI 8 ≤ nI i := nI_ge (by omega) (by omega)
      refine ⟨fun c => absurd c c6, fun _ => ⟨fun h0 => ⟨v1, v1, v2, fun lg7 m7 => ?_⟩, fun h0 => ⟨v2, v1, fun it12 m12 => ⟨v2, v1, fun it13 m13 => ?_⟩⟩⟩⟩
      · rw [c1, c2] at m7
        obtain ⟨p, r⟩ := e1 h0
        have hs := ih (i + 1) lg7 it1 (by omega) (fun _ => ⟨p, by rw [m7, p, r]; exact rng_s (v := bkv it)⟩) (fun h => absurd h0 h)
        rw [nI_succ i] at hs
        exact hs
      · rw [c1, c2] at m12 m13
        obtain ⟨p, r⟩ := e2 h0
        have hs := ih (i + 1) lg1 it13 (by omega) (fun h => absurd h h0) (fun _ => ⟨p, by
          rw [m13, m12, p, r, u2_rng (by decide)]
          have z1 := rng_s (f := it) (row := 499) (q := 0) (i := i) (v := bk1 lg)
          rw [Nat.zero_add] at z1
          have z2 := rng_s (f := rngF it 499 0 (i + 1) (bk1 lg)) (row := 500) (q := 0) (i := i) (v := bk2 lg)
          rw [Nat.zero_add] at z2
          rw [← z2, ← z1]
          rfl⟩)
        rw [nI_succ i] at hs
        exact hs
  exact lp 8 0 lg it rfl (fun _ => ⟨rfl, rng_0.symm⟩) (fun _ => ⟨rfl, by rw [rng_0, rng_0]⟩)
theorem ok9_rng {f : ITt} {row q n : Nat} {v : Nat → Int32} (h : ∀ j k, ok9 j k (f j k)) (hv : ∀ i, i < n → ok9 row (q + i) (v i)) : ∀ j k, ok9 j k (rngF f row q n v j k) := by
  intro j k
  unfold rngF
  split
  · rename_i e
    have := hv (k - q) (by omega)
    rw [show q + (k - q) = k by omega] at this
    rw [e.1]
    exact this
  · exact h j k
theorem ok9_u2 {f : ITt} {a b : Nat} {v : Int32} (h : ∀ j k, ok9 j k (f j k)) (hv : ok9 a b v) : ∀ j k, ok9 j k (u2 f a b v j k) := by
  intro j k
  unfold u2
  split
  · rename_i e; rw [e.1, e.2]; exact hv
  · exact h j k
theorem lk9_rng {f : LGt} {q n : Nat} {v : Nat → Int64} (h : ∀ k, lk9 k (f 522 k)) (hv : ∀ i, i < n → lk9 (q + i) (v i)) : ∀ k, lk9 k (rngF f 522 q n v 522 k) := by
  intro k
  unfold rngF
  split
  · rename_i e
    have := hv (k - q) (by omega)
    rw [show q + (k - q) = k by omega] at this
    exact this
  · exact h k
theorem lk9_u2 {f : LGt} {b : Nat} {v : Int64} (h : ∀ k, lk9 k (f 522 k)) (hv : lk9 b v) : ∀ k, lk9 k (u2 f 522 b v 522 k) := by
  intro k
  unfold u2
  split
  · rename_i e; rw [e.2]; exact hv
  · exact h k
theorem lk9_b {k : Nat} {v : Int64} {a b : Int} (e : bl9 k = some (a, b)) (h : a ≤ v.toInt ∧ v.toInt ≤ b) : lk9 k v := by unfold lk9; rw [e]; exact h
theorem lk9_n {k : Nat} {v : Int64} (e : bl9 k = none) : lk9 k v := by unfold lk9; rw [e]; exact trivial
theorem lk9_i {k : Nat} {v : Int32} {a b : Int} (e : bl9 k = some (a, b)) (h : a ≤ v.toInt ∧ v.toInt ≤ b) : lk9 k v.toInt64 := lk9_b e (by rw [Int32.toInt_toInt64]; exact h)
theorem l32 {x : Int64} (h1 : 0 ≤ x.toInt) (h2 : x.toInt ≤ 1000) : x.toInt32.toInt = x.toInt := by
  rw [Int64.toInt_toInt32]
  exact bm32 (by omega) (by omega)
theorem d10 {x : Int64} (h : 0 ≤ x.toInt ∧ x.toInt ≤ 199) : 0 ≤ (x / 10).toInt32.toInt ∧ (x / 10).toInt32.toInt ≤ 19 := by
  have e : (x / 10).toInt = x.toInt.tdiv 10 := Int64.toInt_div_of_ne_right x 10 (by decide)
  rw [Int.tdiv_eq_ediv_of_nonneg h.1] at e
  rw [l32 (by omega) (by omega)]
  omega
theorem m10 {x : Int64} (h : 0 ≤ x.toInt ∧ x.toInt ≤ 199) : 0 ≤ (x - x / 10 * 10).toInt32.toInt ∧ (x - x / 10 * 10).toInt32.toInt ≤ 9 := by
  have e : (x - x / 10 * 10).toInt = x.toInt.tmod 10 := rem_int x 10
  rw [Int.tmod_eq_emod_of_nonneg h.1] at e
  rw [l32 (by omega) (by omega)]
  omega
theorem bkv_b {it : ITt} {k : Nat} (h1 : 0 ≤ (it 499 k).toInt ∧ (it 499 k).toInt ≤ 19) (h2 : 0 ≤ (it 500 k).toInt ∧ (it 500 k).toInt ≤ 9) : 0 ≤ (bkv it k).toInt ∧ (bkv it k).toInt ≤ 199 := by
  unfold bkv
  have e : ((10 : Int64) * (it 499 k).toInt64).toInt = 10 * (it 499 k).toInt := by
    rw [Int64.toInt_mul, Int32.toInt_toInt64, show (10 : Int64).toInt = 10 by decide]
    exact bmL (by omega) (by omega)
  rw [Int64.toInt_add, e, Int32.toInt_toInt64, bmL (by omega) (by omega)]
  omega
theorem s_X9_image {lg0 : LGt} {it0 : ITt} (hI : I9 lg0 it0) : w_X9_image (fun (v : Int32) (lg' : LGt) (it' : ITt) => (I9 lg' it' ∧ Kd (fun j => j = 522) (fun k => k = 61) lg0 it0 lg' it') ∧ (lg' 522 1 = (it0 489 1).toInt64 ∧ lg' 522 4 = (it0 489 9).toInt64 ∧ lg' 522 6 = (it0 489 11).toInt64)) lg0 it0 := by
  have f0 := i9_f hI (j := 489) (k := 0) rfl
  have f9 := i9_f hI (j := 489) (k := 9) rfl
  have f10 := i9_f hI (j := 489) (k := 10) rfl
  have f11 := i9_f hI (j := 489) (k := 11) rfl
  unfold w_X9_image
  intro A1 m1 A2 m2 A3 m3 A4 m4 A5 m5 A6 m6 A7 m7
  have q0 : ∀ k, lk9 k (lg0 522 k) := hI.2.1
  have q1 : ∀ k, lk9 k (A1 522 k) := by rw [m1]; exact lk9_u2 q0 (lk9_i (by decide) f0)
  have q2 : ∀ k, lk9 k (A2 522 k) := by rw [m2]; exact lk9_u2 q1 (lk9_n (by decide))
  have q3 : ∀ k, lk9 k (A3 522 k) := by rw [m3]; exact lk9_u2 q2 (lk9_n (by decide))
  have q4 : ∀ k, lk9 k (A4 522 k) := by rw [m4]; exact lk9_u2 q3 (lk9_n (by decide))
  have q5 : ∀ k, lk9 k (A5 522 k) := by rw [m5]; exact lk9_u2 q4 (lk9_i (by decide) f9)
  have q6 : ∀ k, lk9 k (A6 522 k) := by rw [m6]; exact lk9_u2 q5 (lk9_i (by decide) f10)
  have q7 : ∀ k, lk9 k (A7 522 k) := by rw [m7]; exact lk9_u2 q6 (lk9_i (by decide) f11)
  have r7 : ∀ j, j ≠ 522 → A7 j = lg0 j := fun j hj => by rw [m7, u2_row hj, m6, u2_row hj, m5, u2_row hj, m4, u2_row hj, m3, u2_row hj, m2, u2_row hj, m1, u2_row hj]
  have s0 : A7 522 0 = (it0 489 0).toInt64 := by rw [m7, u2_ne (by decide), m6, u2_ne (by decide), m5, u2_ne (by decide), m4, u2_ne (by decide), m3, u2_ne (by decide), m2, u2_ne (by decide), m1, u2_eq]
  have s1 : A7 522 1 = (it0 489 1).toInt64 := by rw [m7, u2_ne (by decide), m6, u2_ne (by decide), m5, u2_ne (by decide), m4, u2_ne (by decide), m3, u2_ne (by decide), m2, u2_eq]
  have s4 : A7 522 4 = (it0 489 9).toInt64 := by rw [m7, u2_ne (by decide), m6, u2_ne (by decide), m5, u2_eq]
  have s6 : A7 522 6 = (it0 489 11).toInt64 := by rw [m7, u2_eq]
  clear m1 m2 m3 m4 m5 m6 m7 q0 q1 q2 q3 q4 q5 q6
  refine ⟨fun lg' it' => it' = it0 ∧ (∀ k, lk9 k (lg' 522 k)) ∧ (∀ j, j ≠ 522 → lg' j = lg0 j) ∧ (∀ k, k < 7 → lg' 522 k = A7 522 k) ∧ ∀ i, i < 6 → lg' 522 (7 + i) = (it0 490 i).toInt64 ∧ lg' 522 (19 + i) = lg0 492 i ∧ lg' 522 (31 + i) = lg0 494 i, ?_, ?_⟩
  · unfold w_X9_carriesAll
    refine ⟨fun v lg' it' => v = nI 13 ∧ lg' = rngF A7 522 7 6 (fun k => (it0 490 k).toInt64) ∧ it' = it0, x_carries 490 6 7 0 A7 it0 _ (by decide +kernel) (by decide) (fun _ => ⟨rfl, rfl, rfl⟩) (fun h => absurd rfl h), ?_⟩
    intro v0 L1 i0 hq0
    obtain ⟨w1, e1, w2⟩ := hq0
    subst w1
    have w2 := w2.symm
    subst w2
    refine ⟨fun v lg' it' => v = nI 19 ∧ lg' = rngF L1 522 13 6 (fun k => L1 491 k) ∧ it' = it0, x_carriesLongs 491 13 0 L1 it0 _ (by decide +kernel) (by decide) (by decide) (fun _ => ⟨rfl, rfl, rfl⟩) (fun h => absurd rfl h), ?_⟩
    intro v1 L2 i1 hq1
    obtain ⟨w1, e2, w2⟩ := hq1
    subst w1
    have w2 := w2.symm
    subst w2
    refine ⟨fun v lg' it' => v = nI 25 ∧ lg' = rngF L2 522 19 6 (fun k => L2 492 k) ∧ it' = it0, x_carriesLongs 492 19 0 L2 it0 _ (by decide +kernel) (by decide) (by decide) (fun _ => ⟨rfl, rfl, rfl⟩) (fun h => absurd rfl h), ?_⟩
    intro v2 L3 i2 hq2
    obtain ⟨w1, e3, w2⟩ := hq2
    subst w1
    have w2 := w2.symm
    subst w2
    refine ⟨fun v lg' it' => v = nI 31 ∧ lg' = rngF L3 522 25 6 (fun k => L3 493 k) ∧ it' = it0, x_carriesLongs 493 25 0 L3 it0 _ (by decide +kernel) (by decide) (by decide) (fun _ => ⟨rfl, rfl, rfl⟩) (fun h => absurd rfl h), ?_⟩
    intro v3 L4 i3 hq3
    obtain ⟨w1, e4, w2⟩ := hq3
    subst w1
    have w2 := w2.symm
    subst w2
    refine ⟨fun v lg' it' => v = nI 37 ∧ lg' = rngF L4 522 31 6 (fun k => L4 494 k) ∧ it' = it0, x_carriesLongs 494 31 0 L4 it0 _ (by decide +kernel) (by decide) (by decide) (fun _ => ⟨rfl, rfl, rfl⟩) (fun h => absurd rfl h), ?_⟩
    intro v4 L5 i4 hq4
    obtain ⟨w1, e5, w2⟩ := hq4
    subst w1
    have w2 := w2.symm
    subst w2
    refine ⟨fun v lg' it' => v = nI 42 ∧ lg' = rngF L5 522 37 5 (fun k => (it0 495 k).toInt64) ∧ it' = it0, x_carries 495 5 37 0 L5 it0 _ (by decide +kernel) (by decide) (fun _ => ⟨rfl, rfl, rfl⟩) (fun h => absurd rfl h), ?_⟩
    intro v5 L6 i5 hq5
    obtain ⟨w1, e6, w2⟩ := hq5
    subst w1
    have w2 := w2.symm
    subst w2
    refine ⟨fun v lg' it' => v = nI 47 ∧ lg' = rngF L6 522 42 5 (fun k => (it0 496 k).toInt64) ∧ it' = it0, x_carries 496 5 42 0 L6 it0 _ (by decide +kernel) (by decide) (fun _ => ⟨rfl, rfl, rfl⟩) (fun h => absurd rfl h), ?_⟩
    intro v6 L7 i6 hq6
    obtain ⟨w1, e7, w2⟩ := hq6
    subst w1
    have w2 := w2.symm
    subst w2
    refine ⟨fun v lg' it' => v = nI 55 ∧ lg' = rngF L7 522 47 8 (fun k => (it0 497 k).toInt64) ∧ it' = it0, x_carries 497 8 47 0 L7 it0 _ (by decide +kernel) (by decide) (fun _ => ⟨rfl, rfl, rfl⟩) (fun h => absurd rfl h), ?_⟩
    intro v7 L8 i7 hq7
    obtain ⟨w1, e8, w2⟩ := hq7
    subst w1
    have w2 := w2.symm
    subst w2
    refine ⟨fun v lg' it' => v = nI 63 ∧ lg' = rngF L8 522 55 8 (fun k => (it0 498 k).toInt64) ∧ it' = it0, x_carries 498 8 55 0 L8 it0 _ (by decide +kernel) (by decide) (fun _ => ⟨rfl, rfl, rfl⟩) (fun h => absurd rfl h), ?_⟩
    intro v8 L9 i8 hq8
    obtain ⟨w1, e9, w2⟩ := hq8
    subst w1
    have w2 := w2.symm
    subst w2
    refine ⟨9, x_book 0 L9 it0 _ (fun _ => ?_) (fun h => absurd rfl h)⟩
    have R : ∀ j, j ≠ 522 → L9 j = lg0 j := fun j hj => by rw [e9, rng_row hj, e8, rng_row hj, e7, rng_row hj, e6, rng_row hj, e5, rng_row hj, e4, rng_row hj, e3, rng_row hj, e2, rng_row hj, e1, rng_row hj]; exact r7 j hj
    have t1 : ∀ k, lk9 k (L1 522 k) := by rw [e1]; exact lk9_rng q7 (fun i hi => lk9_n ((show ∀ i, i < 6 → bl9 (7 + i) = none by decide) i hi))
    have t2 : ∀ k, lk9 k (L2 522 k) := by rw [e2]; exact lk9_rng t1 (fun i hi => lk9_n ((show ∀ i, i < 6 → bl9 (13 + i) = none by decide) i hi))
    have t3 : ∀ k, lk9 k (L3 522 k) := by rw [e3]; exact lk9_rng t2 (fun i hi => lk9_n ((show ∀ i, i < 6 → bl9 (19 + i) = none by decide) i hi))
    have t4 : ∀ k, lk9 k (L4 522 k) := by rw [e4]; exact lk9_rng t3 (fun i hi => lk9_n ((show ∀ i, i < 6 → bl9 (25 + i) = none by decide) i hi))
    have t5 : ∀ k, lk9 k (L5 522 k) := by rw [e5]; exact lk9_rng t4 (fun i hi => lk9_n ((show ∀ i, i < 6 → bl9 (31 + i) = none by decide) i hi))
    have t6 : ∀ k, lk9 k (L6 522 k) := by rw [e6]; exact lk9_rng t5 (fun i hi => lk9_i ((show ∀ i, i < 5 → bl9 (37 + i) = some (0, 19) by decide) i hi) (i9_f hI (j := 495) (k := i) rfl))
    have t7 : ∀ k, lk9 k (L7 522 k) := by rw [e7]; exact lk9_rng t6 (fun i hi => lk9_n ((show ∀ i, i < 5 → bl9 (42 + i) = none by decide) i hi))
    have t8 : ∀ k, lk9 k (L8 522 k) := by rw [e8]; exact lk9_rng t7 (fun i hi => lk9_n ((show ∀ i, i < 8 → bl9 (47 + i) = none by decide) i hi))
    have t9 : ∀ k, lk9 k (L9 522 k) := by rw [e9]; exact lk9_rng t8 (fun i hi => lk9_i ((show ∀ i, i < 8 → bl9 (55 + i) = some (0, 9) by decide) i hi) (i9_f hI (j := 498) (k := i) rfl))
    refine ⟨rfl, lk9_rng t9 (fun i hi => lk9_b ((show ∀ i, i < 8 → bl9 (63 + i) = some (0, 199) by decide) i hi) (bkv_b (i9_f hI (j := 499) (k := i) rfl) (i9_f hI (j := 500) (k := i) rfl))), fun j hj => (rng_row hj).trans (R j hj), fun k hk => ?_, fun i hi => ⟨?_, ?_, ?_⟩⟩
    · rw [rng_out (by omega), e9, rng_out (by omega), e8, rng_out (by omega), e7, rng_out (by omega), e6, rng_out (by omega), e5, rng_out (by omega), e4, rng_out (by omega), e3, rng_out (by omega), e2, rng_out (by omega), e1, rng_out (by omega)]
    · rw [rng_out (by omega), e9, rng_out (by omega), e8, rng_out (by omega), e7, rng_out (by omega), e6, rng_out (by omega), e5, rng_out (by omega), e4, rng_out (by omega), e3, rng_out (by omega), e2, rng_out (by omega), e1, rng_in (i := i) rfl hi]
    · rw [rng_out (by omega), e9, rng_out (by omega), e8, rng_out (by omega), e7, rng_out (by omega), e6, rng_out (by omega), e5, rng_out (by omega), e4, rng_out (by omega), e3, rng_in (i := i) rfl hi]
      show L2 492 i = _
      rw [e2, rng_row (by decide), e1, rng_row (by decide), r7 492 (by decide)]
    · rw [rng_out (by omega), e9, rng_out (by omega), e8, rng_out (by omega), e7, rng_out (by omega), e6, rng_out (by omega), e5, rng_in (i := i) rfl hi]
      show L4 494 i = _
      rw [e4, rng_row (by decide), e3, rng_row (by decide), e2, rng_row (by decide), e1, rng_row (by decide), r7 494 (by decide)]
  · intro lg2 it2 h
    obtain ⟨h1, h2, h3, h4, h5⟩ := h
    have h1 := h1.symm
    subst h1
    intro it3 m3
    have J : I9 lg2 it0 := by
      refine ⟨hI.1, h2, L19_c hI.2.2.1 (h3 492 (by decide)) (h3 494 (by decide)) rfl rfl, fun i a b => ?_⟩
      rw [h4 0 (by decide), s0, Int32.toInt_toInt64] at b
      obtain ⟨p1, p2, p3⟩ := h5 i a
      rw [p1, p2, p3, Int32.toInt_toInt64]
      exact hI.2.2.1 i a b
    refine ⟨⟨by rw [m3]; exact i9_u J (ok9_b (a := 0) (b := 1) rfl (by decide)) (by decide) (fun _ => by decide), ?_⟩, ?_, ?_, ?_⟩
    · rw [m3]; exact kd_uf (by first | decide | (dsimp only; decide) | omega | (dsimp only; omega)) ⟨fun j hj n => ⟨h3 j n, rfl⟩, fun k _ => ⟨congrFun (h3 489 (by decide)) k, rfl⟩⟩
    · exact (h4 1 (by decide)).trans s1
    · exact (h4 4 (by decide)).trans s4
    · exact (h4 6 (by decide)).trans s6
theorem s_X9_undo {lg0 : LGt} {it0 : ITt} (hI : I9 lg0 it0) : w_X9_undo (fun (v : Int32) (lg' : LGt) (it' : ITt) => (I9 lg' it' ∧ Kd (fun j => 490 ≤ j ∧ j ≤ 500) (fun k => k = 0 ∨ k = 1 ∨ k = 2 ∨ k = 3 ∨ k = 9 ∨ k = 10 ∨ k = 11) lg0 it0 lg' it') ∧ ((it0 489 61 = 0 ∧ lg' = lg0 ∧ it' = it0) ∨ (¬ it0 489 61 = 0 ∧ it' 489 1 = (lg0 522 1).toInt32 ∧ it' 489 9 = (lg0 522 4).toInt32 ∧ it' 489 11 = (lg0 522 6).toInt32))) lg0 it0 := by
  have k0 := i9_k hI (k := 0) (a := 0) (b := 6) (by decide)
  have k4 := i9_k hI (k := 4) (a := 0) (b := 5) (by decide)
  have k5 := i9_k hI (k := 5) (a := 0) (b := 8) (by decide)
  have k6 := i9_k hI (k := 6) (a := 0) (b := 8) (by decide)
  unfold w_X9_undo
  refine ⟨fun c => ?_, fun c => ⟨⟨hI, kd_r⟩, Or.inl ⟨c, rfl, rfl⟩⟩⟩
  intro A1 m1 A2 m2 A3 m3 A4 m4 A5 m5 A6 m6 A7 m7
  have q0 : ∀ j k, ok9 j k (it0 j k) := hI.1
  have q1 : ∀ j k, ok9 j k (A1 j k) := by rw [m1]; exact ok9_u2 q0 (ok9_b (a := 0) (b := 6) rfl (by rw [l32 (by omega) (by omega)]; exact k0))
  have q2 : ∀ j k, ok9 j k (A2 j k) := by rw [m2]; exact ok9_u2 q1 (ok9_n rfl)
  have q3 : ∀ j k, ok9 j k (A3 j k) := by rw [m3]; exact ok9_u2 q2 (ok9_n rfl)
  have q4 : ∀ j k, ok9 j k (A4 j k) := by rw [m4]; exact ok9_u2 q3 (ok9_n rfl)
  have q5 : ∀ j k, ok9 j k (A5 j k) := by rw [m5]; exact ok9_u2 q4 (ok9_b (a := 0) (b := 5) rfl (by rw [l32 (by omega) (by omega)]; exact k4))
  have q6 : ∀ j k, ok9 j k (A6 j k) := by rw [m6]; exact ok9_u2 q5 (ok9_b (a := 0) (b := 8) rfl (by rw [l32 (by omega) (by omega)]; exact k5))
  have q7 : ∀ j k, ok9 j k (A7 j k) := by rw [m7]; exact ok9_u2 q6 (ok9_b (a := 0) (b := 8) rfl (by rw [l32 (by omega) (by omega)]; exact k6))
  have s0 : A7 489 0 = (lg0 522 0).toInt32 := by rw [m7, u2_ne (by decide), m6, u2_ne (by decide), m5, u2_ne (by decide), m4, u2_ne (by decide), m3, u2_ne (by decide), m2, u2_ne (by decide), m1, u2_eq]
  have s1 : A7 489 1 = (lg0 522 1).toInt32 := by rw [m7, u2_ne (by decide), m6, u2_ne (by decide), m5, u2_ne (by decide), m4, u2_ne (by decide), m3, u2_ne (by decide), m2, u2_eq]
  have s9 : A7 489 9 = (lg0 522 4).toInt32 := by rw [m7, u2_ne (by decide), m6, u2_ne (by decide), m5, u2_eq]
  have s11 : A7 489 11 = (lg0 522 6).toInt32 := by rw [m7, u2_eq]
  have r7 : ∀ j, j ≠ 489 → A7 j = it0 j := fun j hj => by rw [m7, u2_row hj, m6, u2_row hj, m5, u2_row hj, m4, u2_row hj, m3, u2_row hj, m2, u2_row hj, m1, u2_row hj]
  have f7 : ∀ k, ¬ (k = 0 ∨ k = 1 ∨ k = 2 ∨ k = 3 ∨ k = 9 ∨ k = 10 ∨ k = 11) → A7 489 k = it0 489 k := fun k hk => by rw [m7, u2_ne (by omega), m6, u2_ne (by omega), m5, u2_ne (by omega), m4, u2_ne (by omega), m3, u2_ne (by omega), m2, u2_ne (by omega), m1, u2_ne (by omega)]
  clear m1 m2 m3 m4 m5 m6 m7 q0 q1 q2 q3 q4 q5 q6
  refine ⟨fun lg' it' => (∀ j k, ok9 j k (it' j k)) ∧ (∀ j, ¬ (491 ≤ j ∧ j ≤ 494) → lg' j = lg0 j) ∧ (∀ j, ¬ (490 ≤ j ∧ j ≤ 500) → it' j = A7 j) ∧ ∀ i, i < 6 → it' 490 i = (lg0 522 (7 + i)).toInt32 ∧ lg' 492 i = lg0 522 (19 + i) ∧ lg' 494 i = lg0 522 (31 + i), ?_, ?_⟩
  · unfold w_X9_carriesAll
    refine ⟨fun v lg' it' => v = nI 13 ∧ it' = rngF A7 490 0 6 (fun k => (lg0 522 (7 + k)).toInt32) ∧ lg' = lg0, x_carries 490 6 7 1 lg0 A7 _ (by decide +kernel) (by decide) (fun h => absurd h (by decide)) (fun _ => ⟨rfl, rfl, rfl⟩), ?_⟩
    intro v0 y0 X1 hq0
    obtain ⟨w1, e1, w2⟩ := hq0
    subst w1
    have w2 := w2.symm
    subst w2
    refine ⟨fun v lg' it' => v = nI 19 ∧ lg' = rngF lg0 491 0 6 (fun k => lg0 522 (13 + k)) ∧ it' = X1, x_carriesLongs 491 13 1 lg0 X1 _ (by decide +kernel) (by decide) (by decide) (fun h => absurd h (by decide)) (fun _ => ⟨rfl, rfl, rfl⟩), ?_⟩
    intro v1 X2 y1 hq1
    obtain ⟨w1, e2, w2⟩ := hq1
    subst w1
    have w2 := w2.symm
    subst w2
    refine ⟨fun v lg' it' => v = nI 25 ∧ lg' = rngF X2 492 0 6 (fun k => X2 522 (19 + k)) ∧ it' = X1, x_carriesLongs 492 19 1 X2 X1 _ (by decide +kernel) (by decide) (by decide) (fun h => absurd h (by decide)) (fun _ => ⟨rfl, rfl, rfl⟩), ?_⟩
    intro v2 X3 y2 hq2
    obtain ⟨w1, e3, w2⟩ := hq2
    subst w1
    have w2 := w2.symm
    subst w2
    refine ⟨fun v lg' it' => v = nI 31 ∧ lg' = rngF X3 493 0 6 (fun k => X3 522 (25 + k)) ∧ it' = X1, x_carriesLongs 493 25 1 X3 X1 _ (by decide +kernel) (by decide) (by decide) (fun h => absurd h (by decide)) (fun _ => ⟨rfl, rfl, rfl⟩), ?_⟩
    intro v3 X4 y3 hq3
    obtain ⟨w1, e4, w2⟩ := hq3
    subst w1
    have w2 := w2.symm
    subst w2
    refine ⟨fun v lg' it' => v = nI 37 ∧ lg' = rngF X4 494 0 6 (fun k => X4 522 (31 + k)) ∧ it' = X1, x_carriesLongs 494 31 1 X4 X1 _ (by decide +kernel) (by decide) (by decide) (fun h => absurd h (by decide)) (fun _ => ⟨rfl, rfl, rfl⟩), ?_⟩
    intro v4 X5 y4 hq4
    obtain ⟨w1, e5, w2⟩ := hq4
    subst w1
    have w2 := w2.symm
    subst w2
    refine ⟨fun v lg' it' => v = nI 42 ∧ it' = rngF X1 495 0 5 (fun k => (X5 522 (37 + k)).toInt32) ∧ lg' = X5, x_carries 495 5 37 1 X5 X1 _ (by decide +kernel) (by decide) (fun h => absurd h (by decide)) (fun _ => ⟨rfl, rfl, rfl⟩), ?_⟩
    intro v5 y5 X6 hq5
    obtain ⟨w1, e6, w2⟩ := hq5
    subst w1
    have w2 := w2.symm
    subst w2
    refine ⟨fun v lg' it' => v = nI 47 ∧ it' = rngF X6 496 0 5 (fun k => (X5 522 (42 + k)).toInt32) ∧ lg' = X5, x_carries 496 5 42 1 X5 X6 _ (by decide +kernel) (by decide) (fun h => absurd h (by decide)) (fun _ => ⟨rfl, rfl, rfl⟩), ?_⟩
    intro v6 y6 X7 hq6
    obtain ⟨w1, e7, w2⟩ := hq6
    subst w1
    have w2 := w2.symm
    subst w2
    refine ⟨fun v lg' it' => v = nI 55 ∧ it' = rngF X7 497 0 8 (fun k => (X5 522 (47 + k)).toInt32) ∧ lg' = X5, x_carries 497 8 47 1 X5 X7 _ (by decide +kernel) (by decide) (fun h => absurd h (by decide)) (fun _ => ⟨rfl, rfl, rfl⟩), ?_⟩
    intro v7 y7 X8 hq7
    obtain ⟨w1, e8, w2⟩ := hq7
    subst w1
    have w2 := w2.symm
    subst w2
    refine ⟨fun v lg' it' => v = nI 63 ∧ it' = rngF X8 498 0 8 (fun k => (X5 522 (55 + k)).toInt32) ∧ lg' = X5, x_carries 498 8 55 1 X5 X8 _ (by decide +kernel) (by decide) (fun h => absurd h (by decide)) (fun _ => ⟨rfl, rfl, rfl⟩), ?_⟩
    intro v8 y8 X9 hq8
    obtain ⟨w1, e9, w2⟩ := hq8
    subst w1
    have w2 := w2.symm
    subst w2
    have l5 : ∀ j, ¬ (491 ≤ j ∧ j ≤ 494) → X5 j = lg0 j := fun j hj => by rw [e5, rng_row (by omega), e4, rng_row (by omega), e3, rng_row (by omega), e2, rng_row (by omega)]
    have z2 : X2 522 = lg0 522 := by rw [e2, rng_row (by decide)]
    have z3 : X3 522 = lg0 522 := by rw [e3, rng_row (by decide)]; exact z2
    have z4 : X4 522 = lg0 522 := by rw [e4, rng_row (by decide)]; exact z3
    have z5 : X5 522 = lg0 522 := l5 522 (by decide)
    have o1 : ∀ j k, ok9 j k (X1 j k) := by rw [e1]; exact ok9_rng q7 (fun i hi => ok9_n rfl)
    have o6 : ∀ j k, ok9 j k (X6 j k) := by rw [e6]; exact ok9_rng o1 (fun i hi => ok9_b (a := 0) (b := 19) rfl (by rw [z5]; have z := i9_k hI ((show ∀ i, i < 5 → bl9 (37 + i) = some (0, 19) by decide) i hi); rw [l32 (by omega) (by omega)]; exact z))
    have o7 : ∀ j k, ok9 j k (X7 j k) := by rw [e7]; exact ok9_rng o6 (fun i hi => ok9_n rfl)
    have o8 : ∀ j k, ok9 j k (X8 j k) := by rw [e8]; exact ok9_rng o7 (fun i hi => ok9_n rfl)
    have o9 : ∀ j k, ok9 j k (X9 j k) := by rw [e9]; exact ok9_rng o8 (fun i hi => ok9_b (a := 0) (b := 9) rfl (by rw [z5]; have z := i9_k hI ((show ∀ i, i < 8 → bl9 (55 + i) = some (0, 9) by decide) i hi); rw [l32 (by omega) (by omega)]; exact z))
    refine ⟨9, x_book 1 X5 X9 _ (fun h => absurd h (by decide)) (fun _ => ⟨?_, l5, fun j hj => ?_, fun i hi => ⟨?_, ?_, ?_⟩⟩)⟩
    · refine ok9_rng (ok9_rng o9 (fun i hi => ok9_b (a := 0) (b := 19) rfl ?_)) (fun i hi => ok9_b (a := 0) (b := 9) rfl ?_)
      · unfold bk1; rw [z5]; exact d10 (i9_k hI ((show ∀ i, i < 8 → bl9 (63 + i) = some (0, 199) by decide) i hi))
      · unfold bk2; rw [z5]; exact m10 (i9_k hI ((show ∀ i, i < 8 → bl9 (63 + i) = some (0, 199) by decide) i hi))
    · rw [rng_row (by omega), rng_row (by omega), e9, rng_row (by omega), e8, rng_row (by omega), e7, rng_row (by omega), e6, rng_row (by omega), e1, rng_row (by omega)]
    · rw [rng_row (by decide), rng_row (by decide), e9, rng_row (by decide), e8, rng_row (by decide), e7, rng_row (by decide), e6, rng_row (by decide), e1, rng_in (i := i) (Nat.zero_add i).symm hi]
    · rw [e5, rng_row (by decide), e4, rng_row (by decide), e3, rng_in (i := i) (Nat.zero_add i).symm hi]
      show X2 522 (19 + i) = _
      rw [z2]
    · rw [e5, rng_in (i := i) (Nat.zero_add i).symm hi]
      show X4 522 (31 + i) = _
      rw [z4]
  · intro lg2 it2 h
    obtain ⟨h1, h2, h3, h4⟩ := h
    have z : lg2 522 = lg0 522 := h2 522 (by decide)
    have a9 : it2 489 = A7 489 := h3 489 (by decide)
    refine ⟨⟨⟨h1, fun k => by rw [z]; exact hI.2.1 k, fun i a b => ?_, fun i a b => by rw [z] at b ⊢; exact hI.2.2.2 i a b⟩, ?_⟩, Or.inr ⟨c, ?_, ?_, ?_⟩⟩
    · obtain ⟨p1, p2, p3⟩ := h4 i a
      rw [a9, s0, l32 (by omega) (by omega)] at b
      obtain ⟨g1, g2⟩ := hI.2.2.2 i a b
      rw [p1, p2, p3, l32 (by omega) (by omega)]
      exact ⟨g1, g2⟩
    · exact ⟨fun j hj n => ⟨h2 j (fun q => n ⟨by omega, by omega⟩), (h3 j n).trans (r7 j hj)⟩, fun k n => ⟨congrFun (h2 489 (by decide)) k, by rw [a9]; exact f7 k n⟩⟩
    · rw [a9]; exact s1
    · rw [a9]; exact s9
    · rw [a9]; exact s11
