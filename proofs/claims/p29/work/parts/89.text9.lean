/-! the text, read by the second side -/
def tx9 (it : ITt) : Tx := ((it 489 50).toNatClampNeg, it 513)
def TF9 (i : Nat) (it0 it : ITt) : Prop := (∀ k, k ≠ 51 → it 489 k = it0 489 k) ∧ (∀ j, j ≠ i → it 514 j = it0 514 j ∧ it 515 j = it0 515 j ∧ it 516 j = it0 516 j ∧ it 517 j = it0 517 j) ∧ ∀ j, ¬ (j = 489 ∨ (514 ≤ j ∧ j ≤ 517)) → it j = it0 j
theorem t9_r {i : Nat} {it : ITt} : TF9 i it it := ⟨fun _ _ => rfl, fun _ _ => ⟨rfl, rfl, rfl, rfl⟩, fun _ _ => rfl⟩
theorem t9_t {i : Nat} {a b c : ITt} (h : TF9 i a b) (g : TF9 i b c) : TF9 i a c := ⟨fun k hk => (g.1 k hk).trans (h.1 k hk), fun j hj => ⟨(g.2.1 j hj).1.trans (h.2.1 j hj).1, (g.2.1 j hj).2.1.trans (h.2.1 j hj).2.1, (g.2.1 j hj).2.2.1.trans (h.2.1 j hj).2.2.1, (g.2.1 j hj).2.2.2.trans (h.2.1 j hj).2.2.2⟩, fun j hj => (g.2.2 j hj).trans (h.2.2 j hj)⟩
theorem t9_f {i : Nat} {it : ITt} {x : Int32} : TF9 i it (u2 it 489 51 x) := by
  have r (j : Nat) (h : j ≠ 489) : u2 it 489 51 x j = it j := u2_row h
  refine ⟨fun k hk => u2_ne (fun q => hk (by omega)), fun j _ => ?_, fun j hj => r j (by omega)⟩
  rw [r 514 (by decide), r 515 (by decide), r 516 (by decide), r 517 (by decide)]
  exact ⟨rfl, rfl, rfl, rfl⟩
theorem t9_w {i row : Nat} {it : ITt} {x : Int32} (hr : 514 ≤ row ∧ row ≤ 517) : TF9 i it (u2 it row i x) := by
  have r (j : Nat) (h : j ≠ row) : u2 it row i x j = it j := u2_row h
  have w (j q : Nat) (h : q ≠ i) : u2 it row i x j q = it j q := by unfold u2; rw [if_neg (fun z => h z.2)]
  refine ⟨fun k _ => by rw [r 489 (by omega)], fun j hj => ⟨w 514 j hj, w 515 j hj, w 516 j hj, w 517 j hj⟩, fun j hj => r j (by omega)⟩
theorem t9_tx {i : Nat} {a b : ITt} (h : TF9 i a b) : tx9 b = tx9 a := by unfold tx9; rw [h.1 50 (by decide), h.2.2 513 (by decide)]
theorem i9_at {lg : LGt} {it : ITt} {x : Int32} (h : I9 lg it) (hx : 0 ≤ x.toInt ∧ x.toInt ≤ 100) : I9 lg (u2 it 489 51 x) := i9_u h (ok9_b (a := 0) (b := 100) rfl hx) (by decide) (fun _ => by decide)
theorem i9_ar {lg : LGt} {it : ITt} {row k : Nat} {x : Int32} (h : I9 lg it) (hr : row = 514 ∨ row = 515 ∨ row = 516 ∨ row = 517) : I9 lg (u2 it row k x) := i9_u h (by rcases hr with rfl | rfl | rfl | rfl <;> exact ok9_n rfl) (by omega) (fun q => by omega)
theorem i9_5 {lg : LGt} {it : ITt} (h : I9 lg it) : (0 ≤ (it 489 50).toInt ∧ (it 489 50).toInt ≤ 100) ∧ (0 ≤ (it 489 51).toInt ∧ (it 489 51).toInt ≤ 100) := ⟨i9_f h (j := 489) (k := 50) rfl, i9_f h (j := 489) (k := 51) rfl⟩
theorem s9_in {lg : LGt} {it : ITt} {p : Nat} (hI : I9 lg it) (hp : (it 489 51).toInt = p) (h : (it 489 51).toInt < (it 489 50).toInt) : it 513 (it 489 51).toNatClampNeg = sgI (tx9 it) p := by
  have b := i9_5 hI
  have k := cl32 b.1.1
  have k2 := cl32 b.2.1
  unfold sgI
  show _ = if p < (it 489 50).toNatClampNeg then it 513 p else -1
  rw [if_pos (by omega)]
  exact congrArg (it 513) (by omega)
theorem s9_out {lg : LGt} {it : ITt} {p : Nat} (hI : I9 lg it) (h : (it 489 50).toInt ≤ (p : Int)) : sgI (tx9 it) p = -1 := by
  have k := cl32 (i9_5 hI).1.1
  unfold sgI
  show (if p < (it 489 50).toNatClampNeg then it 513 p else -1) = _
  rw [if_neg (by omega)]
abbrev RS9 (i : Nat) (it0 it : ITt) (lg0 lg : LGt) : Prop := (I9 lg it ∧ (it 489 51).toInt ≤ (it 489 50).toInt) ∧ lg = lg0 ∧ TF9 i it0 it
theorem f_X9_isSign (i : Nat) (a1 : Int32) {lg0 : LGt} {it0 : ITt} (hI : I9 lg0 it0) (hat : (it0 489 51).toInt ≤ (it0 489 50).toInt) (hd : ¬ a1 = -1) (p : Nat) (hp0 : (it0 489 51).toInt = p) : w_X9_isSign a1 (fun (v : Int32) (lg' : LGt) (it' : ITt) => RS9 i it0 it' lg0 lg' ∧ (∀ j, 514 ≤ j → j ≤ 517 → it' j = it0 j) ∧ ((v = 1 ∧ sg (tx9 it0) p = a1.toInt ∧ (it' 489 51).toInt = ((p + 1 : Nat) : Int)) ∨ (v = 0 ∧ ¬ sg (tx9 it0) p = a1.toInt ∧ (it' 489 51).toInt = p))) lg0 it0 := by
  unfold w_X9_isSign
  have b := i9_5 hI
  refine ⟨fun c => ?_, fun c => ?_⟩
  · have hc := congrArg Int32.toInt c
    refine ⟨⟨⟨hI, hat⟩, rfl, t9_r⟩, fun _ _ _ => rfl, Or.inr ⟨rfl, fun q => hd ?_, hp0⟩⟩
    unfold sg at q
    rw [s9_out hI (by omega)] at q
    exact (Int32.toInt_inj.mp q).symm
  · have hc : ¬ (it0 489 51).toInt = (it0 489 50).toInt := fun q => c (Int32.toInt_inj.mp q)
    have hlt : (it0 489 51).toInt < (it0 489 50).toInt := by omega
    have e := s9_in hI hp0 hlt
    have f : (it0 489 51 + 1).toInt = (it0 489 51).toInt + 1 := ad32 rfl ti_1 (by omega) (by omega)
    refine ⟨vp_of (by omega) (by omega), fun c2 it7 m7 => ?_, fun c2 => ?_⟩
    · rw [m7]
      refine ⟨⟨⟨i9_at hI (by omega), ?_⟩, rfl, t9_f⟩, fun j h1 h2 => u2_row (by omega), Or.inl ⟨rfl, ?_, ?_⟩⟩
      · rw [u2_eq, u2_ne (by decide), f]; omega
      · unfold sg; rw [← e, c2]
      · rw [u2_eq, f]; omega
    · refine ⟨⟨⟨hI, hat⟩, rfl, t9_r⟩, fun _ _ _ => rfl, Or.inr ⟨rfl, fun q => c2 ?_, hp0⟩⟩
      rw [e]
      exact Int32.toInt_inj.mp q
/-- a number: from p on -/
def NB9 (it : ITt) (v : Int32) (X : Option (Int × Nat)) (p : Nat) : Prop := (∃ r, X = some r ∧ v.toInt = r.1 ∧ 0 ≤ r.1 ∧ (it 489 51).toInt = r.2) ∨ (v.toInt = -1 ∧ X = none ∧ (it 489 51).toInt = p)
/-- how far a number has been read: x signs, of value y -/
def NX9 (it : ITt) (t : Tx) (a x y : Int) (p : Nat) : Prop := (x = 0 ∧ (it 489 51).toInt = p ∧ y = -1) ∨ (x = 1 ∧ (48 ≤ sg t p ∧ sg t p ≤ 57) ∧ (it 489 51).toInt = ((p + 1 : Nat) : Int) ∧ y = sg t p - 48) ∨ (x = 2 ∧ a = 2 ∧ (48 ≤ sg t p ∧ sg t p ≤ 57) ∧ (48 ≤ sg t (p + 1) ∧ sg t (p + 1) ≤ 57) ∧ (it 489 51).toInt = ((p + 2 : Nat) : Int) ∧ y = 10 * (sg t p - 48) + (sg t (p + 1) - 48))
theorem nx9_e {it : ITt} {t : Tx} {a x : Int} {y : Int32} {p : Nat} (h : NX9 it t a x y.toInt p) (ha : a = 1 ∨ a = 2) (he : x = a ∨ ∃ q : Nat, (it 489 51).toInt = q ∧ ¬ (48 ≤ sg t q ∧ sg t q ≤ 57)) : NB9 it y (nmd a t p) p := by
  rcases h with ⟨h0, h7, h8⟩ | ⟨h1, hd1, h7, h8⟩ | ⟨h2, ha2, hd1, hd2, h7, h8⟩
  · obtain ⟨q, e1, e2⟩ := he.resolve_left (by omega)
    obtain rfl : q = p := by omega
    refine Or.inr ⟨h8, ?_, h7⟩
    unfold nmd; rw [if_neg e2]
  · refine Or.inl ⟨(sg t p - 48, p + 1), ?_, h8, ?_, h7⟩
    · unfold nmd; rw [if_pos hd1, if_neg]
      intro z
      rcases he with e | ⟨q, e1, e2⟩
      · omega
      · obtain rfl : q = p + 1 := by omega
        exact e2 z.2
    · show 0 ≤ sg t p - 48; omega
  · refine Or.inl ⟨(10 * (sg t p - 48) + (sg t (p + 1) - 48), p + 2), ?_, h8, ?_, h7⟩
    · unfold nmd; rw [if_pos hd1, if_pos ⟨ha2, hd2⟩]
    · show 0 ≤ 10 * (sg t p - 48) + (sg t (p + 1) - 48); omega
theorem nx9_s {it it' : ITt} {t : Tx} {a x x' y y' s : Int} {p q : Nat} (h : NX9 it t a x y p) (ha : a = 1 ∨ a = 2) (hx : x < a) (hq : (it 489 51).toInt = q) (hq' : (it' 489 51).toInt = ((q + 1 : Nat) : Int)) (hs : s = sg t q) (hd : 48 ≤ s ∧ s ≤ 57) (hx' : x' = x + 1) (hy : y' = (if 0 ≤ y then 10 * y else 0) + s - 48) : NX9 it' t a x' y' p := by
  rcases h with ⟨h0, h7, h8⟩ | ⟨h1, hd1, h7, h8⟩ | ⟨h2, ha2, _⟩
  · obtain rfl : q = p := by omega
    rw [if_neg (by omega)] at hy
    exact Or.inr (Or.inl ⟨by omega, by omega, hq', by omega⟩)
  · obtain rfl : q = p + 1 := by omega
    rw [if_pos (by omega)] at hy
    exact Or.inr (Or.inr ⟨by omega, by omega, hd1, by omega, hq', by omega⟩)
  · omega
theorem f_X9_number (i : Nat) (a1 : Int32) {lg0 : LGt} {it0 : ITt} (hI : I9 lg0 it0) (hat : (it0 489 51).toInt ≤ (it0 489 50).toInt) (hd : a1.toInt = 1 ∨ a1.toInt = 2) (p : Nat) (hp0 : (it0 489 51).toInt = p) : w_X9_number a1 (fun (v : Int32) (lg' : LGt) (it' : ITt) => RS9 i it0 it' lg0 lg' ∧ (∀ j, 514 ≤ j → j ≤ 517 → it' j = it0 j) ∧ NB9 it' v (nmd a1.toInt (tx9 it0) p) p) lg0 it0 := by
  generalize hq : (fun (v : Int32) (lg' : LGt) (it' : ITt) => RS9 i it0 it' lg0 lg' ∧ (∀ j, 514 ≤ j → j ≤ 517 → it' j = it0 j) ∧ NB9 it' v (nmd a1.toInt (tx9 it0) p) p) = Pz
  have t48 : ((48 : Int64) : Int64).toInt = 48 := by decide
  have t57 : ((57 : Int64) : Int64).toInt = 57 := by decide
  have lp : ∀ (n : Nat) (y x : Int32) (it : ITt), I9 lg0 it → (it 489 51).toInt ≤ (it 489 50).toInt → TF9 i it0 it → (∀ j, 514 ≤ j → j ≤ 517 → it j = it0 j) → NX9 it (tx9 it0) a1.toInt x.toInt y.toInt p → (0 ≤ x.toInt ∧ x.toInt ≤ a1.toInt) → (-1 ≤ y.toInt ∧ y.toInt ≤ 99 ∧ (x.toInt < 2 → y.toInt ≤ 9)) → (3 - x.toInt).toNat < n → w_X9_number_b4 a1 Pz n y x lg0 it := by
    intro n
    induction n with
    | zero => intro y x it _ _ _ _ _ _ _ hn; exact absurd hn (Nat.not_lt_zero _)
    | succ n ih =>
      intro y x it hJ hA hT hR hx hxa hyb hn
      have htx := t9_tx hT
      have b := i9_5 hJ
      have kq := cl32 b.2.1
      generalize hqq : (it 489 51).toNatClampNeg = q at kq
      have fin : (x.toInt = a1.toInt ∨ ∃ q : Nat, (it 489 51).toInt = q ∧ ¬ (48 ≤ sg (tx9 it0) q ∧ sg (tx9 it0) q ≤ 57)) → Pz y lg0 it := by
        intro he
        subst hq
        exact ⟨⟨⟨hJ, hA⟩, rfl, hT⟩, hR, nx9_e hx hd he⟩
      unfold w_X9_number_b4
      rw [Int32.le_iff_toInt_le, Int32.le_iff_toInt_le, Int32.le_iff_toInt_le, ti_0, Int32.toInt_toInt64, t48, t57]
      refine ⟨fun c => fin (Or.inl (by omega)), fun c => ⟨fun c1 => fin (Or.inr ⟨q, kq.symm, fun z => ?_⟩), fun c1 => ?_⟩⟩
      · have e := s9_out hJ (p := q) (by omega)
        rw [htx] at e
        unfold sg at z
        rw [e] at z
        exact absurd z (by decide)
      have e := s9_in hJ kq.symm (by omega)
      rw [htx] at e
      have es : (it 513 (it 489 51).toNatClampNeg).toInt = sg (tx9 it0) q := by rw [e]; rfl
      have hv : vp_in (it 489 51) 100 := vp_of (by omega) (by omega)
      refine ⟨hv, fun c2 => fin (Or.inr ⟨q, kq.symm, by rw [← es]; exact c2⟩), fun c2 => ?_⟩
      have f : (it 489 51 + 1).toInt = (it 489 51).toInt + 1 := ad32 rfl ti_1 (by omega) (by omega)
      have fx : (x + 1).toInt = x.toInt + 1 := ad32 rfl ti_1 (by omega) (by omega)
      have go : ∀ (s0 : Int32), s0.toInt = (if 0 ≤ y.toInt then 10 * y.toInt else 0) → w_X9_number_b54 a1 Pz (w_X9_number_b4 a1 Pz n) x s0 lg0 it := by
        intro s0 hs0
        unfold w_X9_number_b54
        have hs0b : 0 ≤ s0.toInt ∧ s0.toInt ≤ 90 ∧ (x.toInt = 0 → s0.toInt = 0) := by
          rcases hx with ⟨h0, h7, h8⟩ | ⟨h1, hd1, h7, h8⟩ | ⟨h2, ha2, _⟩
          · rw [if_neg (by omega)] at hs0; omega
          · rw [if_pos (by omega)] at hs0; omega
          · omega
        refine ⟨hv, fun it13 m13 => ?_⟩
        have g1 : (s0 + it 513 (it 489 51).toNatClampNeg).toInt = s0.toInt + (it 513 (it 489 51).toNatClampNeg).toInt := ad32 rfl rfl (by omega) (by omega)
        have g2 : (s0 + it 513 (it 489 51).toNatClampNeg - 48).toInt = s0.toInt + (it 513 (it 489 51).toNatClampNeg).toInt - 48 := sb32 g1 ti_48 (by omega) (by omega)
        have e5 : (it13 489 51).toInt = (it 489 51).toInt + 1 := by rw [m13, u2_eq]; exact f
        have e50 : (it13 489 50).toInt = (it 489 50).toInt := by rw [m13, u2_ne (by decide)]
        refine ih _ (x + 1) it13 (by rw [m13]; exact i9_at hJ (by omega)) (by omega) (t9_t (b := it) hT (by rw [m13]; exact t9_f)) (fun j h1 h2 => by rw [m13, u2_row (by omega)]; exact hR j h1 h2) (nx9_s hx hd (by omega) kq.symm (by omega) es (by omega) fx (by rw [g2, hs0])) (by omega) (by omega) (by omega)
      refine ⟨fun c3 => go _ ?_, fun c3 => go _ ?_⟩
      · rw [if_pos c3]
        exact ml32 ti_10 rfl (by omega) (by omega)
      · rw [if_neg c3]; exact ti_0
  unfold w_X9_number
  exact ⟨_, lp ((3 - (0 : Int32).toInt).toNat + 1) (-1) 0 it0 hI hat t9_r (fun _ _ _ => rfl) (Or.inl ⟨ti_0, hp0, ti_m1⟩) (by rw [ti_0]; omega) (by rw [ti_m1, ti_0]; omega) (Nat.lt_succ_self _)⟩
theorem nb9_1 {it : ITt} {v : Int32} {X : Option (Int × Nat)} {p : Nat} (h : NB9 it v X p) (c : 0 ≤ v.toInt) : ∃ r, X = some r ∧ v.toInt = r.1 ∧ (it 489 51).toInt = r.2 := by
  obtain ⟨r, a, b, _, d⟩ := h.resolve_right (fun q => by omega)
  exact ⟨r, a, b, d⟩
theorem nb9_0 {it : ITt} {v : Int32} {X : Option (Int × Nat)} {p : Nat} (h : NB9 it v X p) (c : ¬ 0 ≤ v.toInt) : X = none ∧ (it 489 51).toInt = p := (h.resolve_left (fun q => by obtain ⟨r, _, b, d, _⟩ := q; omega)).2
/-- a clause -/
def CC9 (it : ITt) (v : Int32) (X : Nat × Option Cl) (i : Nat) : Prop := (it 489 51).toInt = X.1 ∧ ((v = 1 ∧ ∃ c, X.2 = some c ∧ (it 514 i).toInt = c.1 ∧ (it 515 i).toInt = c.2.1 ∧ (c.1 = 98 → (it 516 i).toInt = c.2.2.1 ∧ (it 517 i).toInt = c.2.2.2)) ∨ (v = 0 ∧ X.2 = none))
def pb1 (X : Nat × Option (Int × Int × Int)) : Nat × Option Cl := match X.2 with | none => (X.1, none) | some c => (X.1, some (98, c))
theorem f_X9_clause (a1 : Int32) {lg0 : LGt} {it0 : ITt} (hI : I9 lg0 it0) (hat : (it0 489 51).toInt ≤ (it0 489 50).toInt) (ha : 0 ≤ a1.toInt ∧ a1.toInt < 12) (p : Nat) (hp0 : (it0 489 51).toInt = p) : w_X9_clause a1 (fun (v : Int32) (lg' : LGt) (it' : ITt) => RS9 a1.toNatClampNeg it0 it' lg0 lg' ∧ CC9 it' v (pcl (tx9 it0) p) a1.toNatClampNeg) lg0 it0 := by
  have hv : vp_in a1 12 := vp_of ha.1 (by omega)
  have t98 : (98 : Int32).toInt = 98 := by decide
  have t103 : (103 : Int32).toInt = 103 := by decide
  have t101 : (101 : Int32).toInt = 101 := by decide
  have t108 : (108 : Int32).toInt = 108 := by decide
  have t114 : (114 : Int32).toInt = 114 := by decide
  have t110 : (110 : Int32).toInt = 110 := by decide
  have t44 : (44 : Int32).toInt = 44 := by decide
  have t45 : (45 : Int32).toInt = 45 := by decide
  generalize hi : a1.toNatClampNeg = i
  -- the number behind a letter that isn't b
  have n127 : ∀ (x2 s0 : Int32) (q : Nat) (itA : ITt), I9 lg0 itA → (itA 489 51).toInt ≤ (itA 489 50).toInt → TF9 i it0 itA → (itA 514 i).toInt = x2.toInt → (itA 489 51).toInt = q → (s0.toInt = 1 ∨ s0.toInt = 2) → ¬ x2.toInt = 98 → w_X9_clause_b127 a1 (fun (v : Int32) (lg' : LGt) (it' : ITt) => RS9 i it0 it' lg0 lg' ∧ CC9 it' v (one x2.toInt q (nmd s0.toInt (tx9 it0) q)) i) x2 s0 a1 lg0 itA := by
    intro x2 s0 q itA J A T hk h5 hs0 hx2
    unfold w_X9_clause_b127
    refine ⟨_, f_X9_number i s0 J A hs0 q h5, ?_⟩
    intro v41 lg42 it43 hq
    obtain ⟨⟨⟨J43, A43⟩, rfl, T43⟩, R43, hb⟩ := hq
    rw [t9_tx T] at hb
    refine ⟨hv, fun it47 m47 => ⟨hv, ?_⟩⟩
    rw [hi] at m47 ⊢
    have J47 : I9 lg42 it47 := by rw [m47]; exact i9_ar J43 (by decide)
    have e5 : it47 489 = it43 489 := by rw [m47, u2_row (by decide)]
    have T47 : TF9 i it0 it47 := t9_t T (t9_t (b := it43) T43 (by rw [m47]; exact t9_w (by decide)))
    have e15 : it47 515 i = v41 := by rw [m47, u2_eq]
    have k47 : (it47 514 i).toInt = x2.toInt := by rw [m47, u2_row (by decide), R43 514 (by decide) (by decide)]; exact hk
    have A47 : (it47 489 51).toInt ≤ (it47 489 50).toInt := by rw [e5]; exact A43
    rw [e15, Int32.le_iff_toInt_le, ti_0]
    refine ⟨fun c => ⟨fun c2 => absurd (congrArg Int32.toInt c2) (by rw [t98]; exact hx2), fun c2 => ?_⟩, fun c => ?_⟩
    · obtain ⟨r, e, h1, h2⟩ := nb9_1 hb c
      rw [e]
      exact ⟨⟨⟨J47, A47⟩, rfl, T47⟩, by rw [e5]; exact h2, Or.inl ⟨rfl, _, rfl, k47, by rw [e15]; exact h1, fun z => absurd z hx2⟩⟩
    · obtain ⟨e, h2⟩ := nb9_0 hb c
      rw [e]
      exact ⟨⟨⟨J47, A47⟩, rfl, T47⟩, by rw [e5]; exact h2, Or.inr ⟨rfl, rfl⟩⟩
  -- a bumper
  have y127 : ∀ (x2 s0 : Int32) (q : Nat) (itA : ITt), I9 lg0 itA → (itA 489 51).toInt ≤ (itA 489 50).toInt → TF9 i it0 itA → (itA 514 i).toInt = 98 → (itA 489 51).toInt = q → s0.toInt = 2 → x2 = 98 → w_X9_clause_b127 a1 (fun (v : Int32) (lg' : LGt) (it' : ITt) => RS9 i it0 it' lg0 lg' ∧ CC9 it' v (pb1 (pbm (tx9 it0) q)) i) x2 s0 a1 lg0 itA := by
    intro x2 s0 q itA J A T hk h5 hs0 hx2
    unfold w_X9_clause_b127
    refine ⟨_, f_X9_number i s0 J A (Or.inr hs0) q h5, ?_⟩
    intro v41 lg42 it43 hq
    obtain ⟨⟨⟨J43, A43⟩, rfl, T43⟩, R43, hb⟩ := hq
    rw [t9_tx T, hs0] at hb
    refine ⟨hv, fun it47 m47 => ⟨hv, ?_⟩⟩
    rw [hi] at m47 ⊢
    have J47 : I9 lg42 it47 := by rw [m47]; exact i9_ar J43 (by decide)
    have e5 : it47 489 = it43 489 := by rw [m47, u2_row (by decide)]
    have T47 : TF9 i it0 it47 := t9_t T (t9_t (b := it43) T43 (by rw [m47]; exact t9_w (by decide)))
    have e15 : it47 515 i = v41 := by rw [m47, u2_eq]
    have k47 : (it47 514 i).toInt = 98 := by rw [m47, u2_row (by decide), R43 514 (by decide) (by decide)]; exact hk
    have A47 : (it47 489 51).toInt ≤ (it47 489 50).toInt := by rw [e5]; exact A43
    rw [e15, Int32.le_iff_toInt_le, ti_0]
    refine ⟨fun c => ⟨fun c2 => ?_, fun c2 => absurd hx2 c2⟩, fun c => ?_⟩
    case refine_2 =>
      obtain ⟨e, h2⟩ := nb9_0 hb c
      have eX : pb1 (pbm (tx9 it0) q) = (q, none) := by unfold pb1 pbm; rw [e]
      rw [eX]
      exact ⟨⟨⟨J47, A47⟩, rfl, T47⟩, by rw [e5]; exact h2, Or.inr ⟨rfl, rfl⟩⟩
    obtain ⟨r, e, h1, h2⟩ := nb9_1 hb c
    have f47 : (it47 515 i).toInt = r.1 := by rw [e15]; exact h1
    have eX : pbm (tx9 it0) q = if sg (tx9 it0) r.2 = 44 then (match (pbm2 (tx9 it0) (r.2 + 1)).2 with | none => ((pbm2 (tx9 it0) (r.2 + 1)).1, none) | some c => ((pbm2 (tx9 it0) (r.2 + 1)).1, some (r.1, c))) else (r.2, none) := by unfold pbm; rw [e]; rfl
    refine ⟨_, f_X9_isSign i 44 J47 A47 (by decide) r.2 (by rw [e5]; exact h2), ?_⟩
    intro v56 lg57 it58 hq
    obtain ⟨⟨⟨J58, A58⟩, rfl, T58⟩, R58, hs⟩ := hq
    rw [t9_tx T47, t44] at hs
    have T58x := t9_t T47 T58
    refine ⟨fun c3 => ?_, fun c3 => ?_⟩
    case refine_2 =>
      obtain ⟨_, hn, h7⟩ := hs.resolve_left (fun y => by rw [y.1] at c3; exact absurd c3 (by decide))
      rw [eX, if_neg hn]
      exact ⟨⟨⟨J58, A58⟩, rfl, T58x⟩, h7, Or.inr ⟨rfl, rfl⟩⟩
    obtain ⟨_, hy, h7⟩ := hs.resolve_right (fun y => c3 y.1)
    rw [if_pos hy] at eX
    refine ⟨_, f_X9_number i 1 J58 A58 (Or.inl ti_1) (r.2 + 1) h7, ?_⟩
    intro v65 lg66 it67 hq
    obtain ⟨⟨⟨J67, A67⟩, rfl, T67⟩, R67, hb2⟩ := hq
    rw [t9_tx T58x, ti_1] at hb2
    refine ⟨hv, fun it71 m71 => ⟨hv, ?_⟩⟩
    have J71 : I9 lg66 it71 := by rw [m71]; exact i9_ar J67 (by decide)
    have e71 : it71 489 = it67 489 := by rw [m71, u2_row (by decide)]
    have T71 : TF9 i it0 it71 := t9_t T58x (t9_t (b := it67) T67 (by rw [m71]; exact t9_w (by decide)))
    have e16 : it71 516 i = v65 := by rw [m71, u2_eq]
    have k71 : (it71 514 i).toInt = 98 := by rw [m71, u2_row (by decide), R67 514 (by decide) (by decide), R58 514 (by decide) (by decide)]; exact k47
    have f71 : (it71 515 i).toInt = r.1 := by rw [m71, u2_row (by decide), R67 515 (by decide) (by decide), R58 515 (by decide) (by decide)]; exact f47
    have A71 : (it71 489 51).toInt ≤ (it71 489 50).toInt := by rw [e71]; exact A67
    rw [e16, Int32.lt_iff_toInt_lt, ti_0]
    refine ⟨fun c4 => ?_, fun c4 => ?_⟩
    · obtain ⟨e2, h2b⟩ := nb9_0 hb2 (by omega)
      have eY : pb1 (pbm (tx9 it0) q) = (r.2 + 1, none) := by unfold pb1; rw [eX]; unfold pbm2; rw [e2]
      rw [eY]
      exact ⟨⟨⟨J71, A71⟩, rfl, T71⟩, by rw [e71]; exact h2b, Or.inr ⟨rfl, rfl⟩⟩
    obtain ⟨r2, e2, h1b, h2b⟩ := nb9_1 hb2 (by omega)
    have s71 : (it71 516 i).toInt = r2.1 := by rw [e16]; exact h1b
    have eY : pbm2 (tx9 it0) (r.2 + 1) = if sg (tx9 it0) r2.2 = 44 then (match (pbm3 (tx9 it0) (r2.2 + 1)).2 with | none => ((pbm3 (tx9 it0) (r2.2 + 1)).1, none) | some c => ((pbm3 (tx9 it0) (r2.2 + 1)).1, some (r2.1, c))) else (r2.2, none) := by unfold pbm2; rw [e2]; rfl
    refine ⟨_, f_X9_isSign i 44 J71 A71 (by decide) r2.2 (by rw [e71]; exact h2b), ?_⟩
    intro v78 lg79 it80 hq
    obtain ⟨⟨⟨J80, A80⟩, rfl, T80⟩, R80, hs2⟩ := hq
    rw [t9_tx T71, t44] at hs2
    have T80x := t9_t T71 T80
    refine ⟨fun c5 => ?_, fun c5 => ?_⟩
    case refine_2 =>
      obtain ⟨_, hn, h7c⟩ := hs2.resolve_left (fun y => by rw [y.1] at c5; exact absurd c5 (by decide))
      rw [if_neg hn] at eY
      have eZ : pb1 (pbm (tx9 it0) q) = (r2.2, none) := by unfold pb1; rw [eX, eY]
      rw [eZ]
      exact ⟨⟨⟨J80, A80⟩, rfl, T80x⟩, h7c, Or.inr ⟨rfl, rfl⟩⟩
    obtain ⟨_, hy2, h7c⟩ := hs2.resolve_right (fun y => c5 y.1)
    rw [if_pos hy2] at eY
    refine ⟨_, f_X9_isSign i 45 J80 A80 (by decide) (r2.2 + 1) h7c, ?_⟩
    intro v87 lg88 it89 hq
    obtain ⟨⟨⟨J89, A89⟩, rfl, T89⟩, R89, hs3⟩ := hq
    rw [t9_tx T80x, t45] at hs3
    have T89x := t9_t T80x T89
    have h89 : (it89 489 51).toInt = ((if sg (tx9 it0) (r2.2 + 1) = 45 then r2.2 + 1 + 1 else r2.2 + 1 : Nat) : Int) := by
      rcases hs3 with ⟨_, y, h⟩ | ⟨_, y, h⟩
      · rw [if_pos y]; exact h
      · rw [if_neg y]; exact h
    refine ⟨_, f_X9_number i 1 J89 A89 (Or.inl ti_1) _ h89, ?_⟩
    intro v94 lg95 it96 hq
    obtain ⟨⟨⟨J96, A96⟩, rfl, T96⟩, R96, hb3⟩ := hq
    rw [t9_tx T89x, ti_1] at hb3
    refine ⟨hv, fun it100 m100 => ⟨hv, ?_⟩⟩
    have J100 : I9 lg95 it100 := by rw [m100]; exact i9_ar J96 (by decide)
    have e100 : it100 489 = it96 489 := by rw [m100, u2_row (by decide)]
    have T100 : TF9 i it0 it100 := t9_t T89x (t9_t (b := it96) T96 (by rw [m100]; exact t9_w (by decide)))
    have e17 : it100 517 i = v94 := by rw [m100, u2_eq]
    have k100 : (it100 514 i).toInt = 98 := by rw [m100, u2_row (by decide), R96 514 (by decide) (by decide), R89 514 (by decide) (by decide), R80 514 (by decide) (by decide)]; exact k71
    have f100 : (it100 515 i).toInt = r.1 := by rw [m100, u2_row (by decide), R96 515 (by decide) (by decide), R89 515 (by decide) (by decide), R80 515 (by decide) (by decide)]; exact f71
    have s100 : (it100 516 i).toInt = r2.1 := by rw [m100, u2_row (by decide), R96 516 (by decide) (by decide), R89 516 (by decide) (by decide), R80 516 (by decide) (by decide)]; exact s71
    have A100 : (it100 489 51).toInt ≤ (it100 489 50).toInt := by rw [e100]; exact A96
    rw [e17, Int32.le_iff_toInt_le, ti_0]
    refine ⟨fun c6 => ?_, fun c6 => ?_⟩
    case refine_2 =>
      obtain ⟨e3, h7e⟩ := nb9_0 hb3 c6
      have eZ : pb1 (pbm (tx9 it0) q) = (if sg (tx9 it0) (r2.2 + 1) = 45 then r2.2 + 1 + 1 else r2.2 + 1, none) := by unfold pb1; rw [eX, eY]; unfold pbm3; rw [e3]
      rw [eZ]
      exact ⟨⟨⟨J100, A100⟩, rfl, T100⟩, by rw [e100]; exact h7e, Or.inr ⟨rfl, rfl⟩⟩
    obtain ⟨r3, e3, h8c, h7e⟩ := nb9_1 hb3 c6
    have hr3 := nmd_b e3
    have eZ : pb1 (pbm (tx9 it0) q) = (r3.2, some (98, r.1, r2.1, if sg (tx9 it0) (r2.2 + 1) = 45 then -r3.1 else r3.1)) := by unfold pb1; rw [eX, eY]; unfold pbm3; rw [e3]
    rw [eZ]
    have end3 : ∀ (x : Int32) (itZ : ITt), itZ = u2 it100 517 i x → x.toInt = (if sg (tx9 it0) (r2.2 + 1) = 45 then -r3.1 else r3.1) → RS9 i it0 itZ lg95 lg95 ∧ CC9 itZ 1 (r3.2, some (98, r.1, r2.1, if sg (tx9 it0) (r2.2 + 1) = 45 then -r3.1 else r3.1)) i := by
      intro x itZ mZ hx
      rw [mZ]
      refine ⟨⟨⟨i9_ar J100 (by decide), ?_⟩, rfl, t9_t T100 (t9_w (by decide))⟩, ?_, Or.inl ⟨rfl, _, rfl, ?_, ?_, fun _ => ⟨?_, ?_⟩⟩⟩
      · rw [u2_row (by decide)]; exact A100
      · rw [u2_row (by decide), e100]; exact h7e
      · rw [u2_row (by decide)]; exact k100
      · rw [u2_row (by decide)]; exact f100
      · rw [u2_row (by decide)]; exact s100
      · rw [u2_eq]; exact hx
    refine ⟨fun c7 => ⟨hv, hv, fun itZ mZ => end3 _ itZ mZ ?_⟩, fun c7 => ⟨hv, hv, fun itZ mZ => end3 _ itZ mZ ?_⟩⟩
    · rw [if_neg (hs3.resolve_left (fun y => by rw [y.1] at c7; exact absurd c7 (by decide))).2.1]; exact h8c
    · rw [if_pos (hs3.resolve_right (fun y => c7 y.1)).2.1, neg32 (by omega), h8c]
  -- the letter
  have b57 : ∀ (x2 : Int32), x2.toInt = sg (tx9 it0) p → (x2.toInt = 98 ∨ x2.toInt = 101 ∨ x2.toInt = 108 ∨ x2.toInt = 114 ∨ x2.toInt = 103) → w_X9_clause_b57 a1 (fun (v : Int32) (lg' : LGt) (it' : ITt) => RS9 i it0 it' lg0 lg' ∧ CC9 it' v (pcl (tx9 it0) p) i) x2 lg0 it0 := by
    intro x2 hx hk
    have b := i9_5 hI
    have hlt : (p : Int) < (it0 489 50).toInt := by
      refine Int.lt_of_not_ge fun z => ?_
      have e := s9_out hI (p := p) z
      have : sg (tx9 it0) p = -1 := by unfold sg; rw [e]; exact ti_m1
      omega
    have f : (it0 489 51 + 1).toInt = (it0 489 51).toInt + 1 := ad32 rfl ti_1 (by omega) (by omega)
    unfold w_X9_clause_b57
    intro it15 m15
    refine ⟨hv, fun it17 m17 => ?_⟩
    rw [hi] at m17
    have J15 : I9 lg0 it15 := by rw [m15]; exact i9_at hI (by omega)
    have J17 : I9 lg0 it17 := by rw [m17]; exact i9_ar J15 (by decide)
    have T17 : TF9 i it0 it17 := t9_t (b := it15) (by rw [m15]; exact t9_f) (by rw [m17]; exact t9_w (by decide))
    have e17 : it17 489 = it15 489 := by rw [m17, u2_row (by decide)]
    have h17 : (it17 489 51).toInt = ((p + 1 : Nat) : Int) := by rw [e17, m15, u2_eq, f]; omega
    have A17 : (it17 489 51).toInt ≤ (it17 489 50).toInt := by rw [h17, e17, m15, u2_ne (by decide)]; omega
    have k17 : (it17 514 i).toInt = x2.toInt := by rw [m17, u2_eq]
    have i98 : x2 = 98 ↔ x2.toInt = 98 := by rw [← t98]; exact Int32.toInt_inj.symm
    have i103 : x2 = 103 ↔ x2.toInt = 103 := by rw [← t103]; exact Int32.toInt_inj.symm
    have i108 : x2 = 108 ↔ x2.toInt = 108 := by rw [← t108]; exact Int32.toInt_inj.symm
    have i114 : x2 = 114 ↔ x2.toInt = 114 := by rw [← t114]; exact Int32.toInt_inj.symm
    have wall : (x2.toInt = 108 ∨ x2.toInt = 114) → w_X9_clause_b86 a1 (fun (v : Int32) (lg' : LGt) (it' : ITt) => RS9 i it0 it' lg0 lg' ∧ CC9 it' v (pcl (tx9 it0) p) i) x2 lg0 it17 := by
      intro hw
      have e : pcl (tx9 it0) p = one x2.toInt (p + 1) (wln (tx9 it0) (p + 1)) := by unfold pcl; rw [← hx, if_neg (by omega), if_neg (by omega), if_neg (by omega), if_pos hw]
      rw [e]
      unfold w_X9_clause_b86
      refine ⟨_, f_X9_isSign i 110 J17 A17 (by decide) (p + 1) h17, ?_⟩
      intro v25 lg26 it27 hq
      obtain ⟨⟨⟨J27, A27⟩, rfl, T27⟩, R27, hs⟩ := hq
      rw [t9_tx T17, t110] at hs
      have T27x := t9_t T17 T27
      have k27 : (it27 514 i).toInt = x2.toInt := by rw [R27 514 (by decide) (by decide)]; exact k17
      refine ⟨fun c => ?_, fun c => ⟨hv, fun it33 m33 => ?_⟩⟩
      · obtain ⟨_, hn, h7⟩ := hs.resolve_left (fun y => by rw [y.1] at c; exact absurd c (by decide))
        have e2 : wln (tx9 it0) (p + 1) = nmd (1 : Int32).toInt (tx9 it0) (p + 1) := by unfold wln; rw [if_neg hn, ti_1]
        rw [e2]
        unfold w_X9_clause_b104
        refine ⟨fun c2 => absurd (i98.mp c2) (by omega), fun c2 => ⟨fun c3 => ?_, fun c3 => absurd (i103.mp c3) (by omega)⟩⟩
        exact n127 x2 1 (p + 1) it27 J27 A27 T27x k27 h7 (Or.inl ti_1) (by omega)
      · obtain ⟨_, hy, h7⟩ := hs.resolve_right (fun y => c y.1)
        have e2 : wln (tx9 it0) (p + 1) = some (-1, p + 1 + 1) := by unfold wln; rw [if_pos hy]
        rw [e2, m33, hi]
        refine ⟨⟨⟨i9_ar J27 (by decide), ?_⟩, rfl, t9_t T27x (t9_w (by decide))⟩, ?_, Or.inl ⟨rfl, _, rfl, ?_, ?_, fun z => ?_⟩⟩
        · rw [u2_row (by decide)]; exact A27
        · rw [u2_row (by decide)]; exact h7
        · rw [u2_row (by decide)]; exact k27
        · rw [u2_eq]; exact ti_m1
        · have z : x2.toInt = 98 := z
          omega
    refine ⟨fun c => wall (Or.inl (i108.mp c)), fun c => ⟨fun c2 => ?_, fun c2 => wall (Or.inr (i114.mp c2))⟩⟩
    rw [i108] at c
    rw [i114] at c2
    unfold w_X9_clause_b104
    refine ⟨fun c3 => ?_, fun c3 => ⟨fun c4 => ?_, fun c4 => ?_⟩⟩
    · have e : pcl (tx9 it0) p = pb1 (pbm (tx9 it0) (p + 1)) := by unfold pcl; rw [← hx, if_pos (i98.mp c3)]; rfl
      rw [e]
      unfold w_X9_clause_b122
      exact y127 x2 2 (p + 1) it17 J17 A17 T17 (by rw [k17]; exact i98.mp c3) h17 ti_2 c3
    · rw [i98] at c3
      rw [i103] at c4
      have e : pcl (tx9 it0) p = one x2.toInt (p + 1) (nmd (1 : Int32).toInt (tx9 it0) (p + 1)) := by unfold pcl; rw [← hx, if_neg c3, if_neg c4, if_pos (by omega), ti_1, show x2.toInt = 101 by omega]
      rw [e]
      exact n127 x2 1 (p + 1) it17 J17 A17 T17 k17 h17 (Or.inl ti_1) c3
    · rw [i98] at c3
      rw [i103] at c4
      have e : pcl (tx9 it0) p = one x2.toInt (p + 1) (nmd (2 : Int32).toInt (tx9 it0) (p + 1)) := by unfold pcl; rw [← hx, if_neg c3, if_pos c4, ti_2, c4]
      rw [e]
      unfold w_X9_clause_b122
      exact n127 x2 2 (p + 1) it17 J17 A17 T17 k17 h17 (Or.inr ti_2) c3
  have b24 : ∀ (x2 : Int32), x2.toInt = sg (tx9 it0) p → w_X9_clause_b24 a1 (fun (v : Int32) (lg' : LGt) (it' : ITt) => RS9 i it0 it' lg0 lg' ∧ CC9 it' v (pcl (tx9 it0) p) i) x2 lg0 it0 := by
    intro x2 hx
    unfold w_X9_clause_b24
    refine ⟨fun c => b57 x2 hx (Or.inl (by rw [c]; exact t98)), fun c => ⟨fun c2 => b57 x2 hx (Or.inr (Or.inl (by rw [c2]; exact t101))), fun c2 => ⟨fun c3 => b57 x2 hx (Or.inr (Or.inr (Or.inl (by rw [c3]; exact t108)))), fun c3 => ⟨fun c4 => b57 x2 hx (Or.inr (Or.inr (Or.inr (Or.inl (by rw [c4]; exact t114))))), fun c4 => ⟨fun c5 => b57 x2 hx (Or.inr (Or.inr (Or.inr (Or.inr (by rw [c5]; exact t103))))), fun c5 => ?_⟩⟩⟩⟩⟩
    have n1 : ¬ sg (tx9 it0) p = 98 := fun z => c (Int32.toInt_inj.mp (by rw [hx, z]; rfl))
    have n2 : ¬ sg (tx9 it0) p = 101 := fun z => c2 (Int32.toInt_inj.mp (by rw [hx, z]; rfl))
    have n3 : ¬ sg (tx9 it0) p = 108 := fun z => c3 (Int32.toInt_inj.mp (by rw [hx, z]; rfl))
    have n4 : ¬ sg (tx9 it0) p = 114 := fun z => c4 (Int32.toInt_inj.mp (by rw [hx, z]; rfl))
    have n5 : ¬ sg (tx9 it0) p = 103 := fun z => c5 (Int32.toInt_inj.mp (by rw [hx, z]; rfl))
    have e : pcl (tx9 it0) p = (p, none) := by unfold pcl; rw [if_neg n1, if_neg n5, if_neg n2, if_neg (fun z => z.elim n3 n4)]
    rw [e]
    exact ⟨⟨⟨hI, hat⟩, rfl, t9_r⟩, hp0, Or.inr ⟨rfl, rfl⟩⟩
  have b := i9_5 hI
  unfold w_X9_clause
  rw [Int32.le_iff_toInt_le]
  refine ⟨fun c => b24 _ ?_, fun c => ⟨vp_of (by omega) (by omega), b24 _ ?_⟩⟩
  · unfold sg; rw [s9_out hI (by omega)]
  · unfold sg; rw [s9_in hI hp0 (by omega)]
