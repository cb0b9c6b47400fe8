/-! the text, read by the first side -/
abbrev Tx : Type := Nat × (Nat → Int32)
def sgI (t : Tx) (p : Nat) : Int32 := if p < t.1 then t.2 p else -1
def sg (t : Tx) (p : Nat) : Int := (sgI t p).toInt
def isd (x : Int) : Prop := 48 ≤ x ∧ x ≤ 57
def nmd (d : Int) (t : Tx) (p : Nat) : Option (Int × Nat) :=
  if 48 ≤ sg t p ∧ sg t p ≤ 57 then (if d = 2 ∧ 48 ≤ sg t (p + 1) ∧ sg t (p + 1) ≤ 57 then some (10 * (sg t p - 48) + (sg t (p + 1) - 48), p + 2) else some (sg t p - 48, p + 1)) else none
def wln (t : Tx) (p : Nat) : Option (Int × Nat) := if sg t p = 110 then some (-1, p + 1) else nmd 1 t p
def pbm3 (t : Tx) (p : Nat) : Nat × Option Int := match nmd 1 t (if sg t p = 45 then p + 1 else p) with
  | none => (if sg t p = 45 then p + 1 else p, none)
  | some r => (r.2, some (if sg t p = 45 then -r.1 else r.1))
def pbm2 (t : Tx) (p : Nat) : Nat × Option (Int × Int) := match nmd 1 t p with
  | none => (p, none)
  | some r => if sg t r.2 = 44 then (match (pbm3 t (r.2 + 1)).2 with | none => ((pbm3 t (r.2 + 1)).1, none) | some c => ((pbm3 t (r.2 + 1)).1, some (r.1, c))) else (r.2, none)
def pbm (t : Tx) (p : Nat) : Nat × Option (Int × Int × Int) := match nmd 2 t p with
  | none => (p, none)
  | some r => if sg t r.2 = 44 then (match (pbm2 t (r.2 + 1)).2 with | none => ((pbm2 t (r.2 + 1)).1, none) | some c => ((pbm2 t (r.2 + 1)).1, some (r.1, c))) else (r.2, none)
abbrev Cl : Type := Int × Int × Int × Int
def one (k : Int) (p : Nat) (X : Option (Int × Nat)) : Nat × Option Cl := match X with
  | none => (p, none)
  | some r => (r.2, some (k, r.1, 0, 0))
def pcl (t : Tx) (p : Nat) : Nat × Option Cl :=
  if sg t p = 98 then (match (pbm t (p + 1)).2 with | none => ((pbm t (p + 1)).1, none) | some c => ((pbm t (p + 1)).1, some (98, c)))
  else if sg t p = 103 then one 103 (p + 1) (nmd 2 t (p + 1))
  else if sg t p = 101 then one 101 (p + 1) (nmd 1 t (p + 1))
  else if sg t p = 108 ∨ sg t p = 114 then one (sg t p) (p + 1) (wln t (p + 1))
  else (p, none)
/-- where the text is at behind, and how many clauses there are (none: a fault) -/
def psc (t : Tx) : Nat → Nat → Nat → Nat × Option Nat
  | 0, _, p => (p, none)
  | f + 1, n, p => match (pcl t p).2 with
    | none => ((pcl t p).1, none)
    | some _ => if t.1 ≤ (pcl t p).1 then ((pcl t p).1, some (n + 1)) else if n + 1 = 12 then ((pcl t p).1, none) else if sg t (pcl t p).1 = 59 then psc t f (n + 1) ((pcl t p).1 + 1) else ((pcl t p).1, none)
def cpos (t : Tx) : Nat → Nat
  | 0 => 0
  | n + 1 => (pcl t (cpos t n)).1 + 1
def cdat (t : Tx) (n : Nat) : Cl := ((pcl t (cpos t n)).2).getD (0, 0, 0, 0)
/-! the first side -/
def tx8 (it : ITt) : Tx := ((it 467 1).toNatClampNeg, it 468)
theorem sg_v {lg : LGt} {it : ITt} {p : Nat} (hI : I8 lg it) (hp : (it 467 7).toInt = p) : sgnv it = sgI (tx8 it) p := by
  have h1 := i8_71 hI
  have k := cl32 h1.1
  have k2 := cl32 (i := it 467 7) (by omega)
  unfold sgnv sgI
  show _ = if p < (it 467 1).toNatClampNeg then it 468 p else -1
  by_cases c : p < (it 467 1).toNatClampNeg
  · rw [if_pos (by omega), if_pos c]
    exact congrArg (it 468) (by omega)
  · rw [if_neg (by omega), if_neg c]
theorem i8_at {lg : LGt} {it : ITt} {x : Int32} (h : I8 lg it) (hx : 0 ≤ x.toInt ∧ x.toInt ≤ 100) : I8 lg (u2 it 467 7 x) := i8_u h (ok8_7 oq_467 ⟨fun q => absurd q (by decide), fun q => absurd q (by decide), fun _ => hx⟩)
theorem i8_nb {lg : LGt} {it : ITt} {x : Int32} (h : I8 lg it) : I8 lg (u2 it 467 8 x) := i8_u h (ok8_7 oq_467 ⟨fun q => absurd q (by decide), fun q => absurd q (by decide), fun q => absurd q (by decide)⟩)
theorem i8_n6 {lg : LGt} {it : ITt} {x : Int32} (h : I8 lg it) (hx : 0 ≤ x.toInt ∧ x.toInt ≤ 12) : I8 lg (u2 it 467 6 x) := i8_u h (ok8_7 oq_467 ⟨fun q => absurd q (by decide), fun _ => hx, fun q => absurd q (by decide)⟩)
/-- what scanning leaves as it is: all but where it stands, the number, and the clause i -/
def TF (i : Nat) (it0 it : ITt) : Prop := it 467 1 = it0 467 1 ∧ it 467 6 = it0 467 6 ∧ it 468 = it0 468 ∧ (∀ j, j ≠ i → it 469 j = it0 469 j ∧ it 470 j = it0 470 j ∧ it 471 j = it0 471 j ∧ it 472 j = it0 472 j) ∧ ∀ j, (j < 467 ∨ 473 ≤ j) → it j = it0 j
theorem tf_r {i : Nat} {it : ITt} : TF i it it := ⟨rfl, rfl, rfl, fun _ _ => ⟨rfl, rfl, rfl, rfl⟩, fun _ _ => rfl⟩
theorem tf_t {i : Nat} {a b c : ITt} (h : TF i a b) (g : TF i b c) : TF i a c := ⟨g.1.trans h.1, g.2.1.trans h.2.1, g.2.2.1.trans h.2.2.1, fun j hj => ⟨(g.2.2.2.1 j hj).1.trans (h.2.2.2.1 j hj).1, (g.2.2.2.1 j hj).2.1.trans (h.2.2.2.1 j hj).2.1, (g.2.2.2.1 j hj).2.2.1.trans (h.2.2.2.1 j hj).2.2.1, (g.2.2.2.1 j hj).2.2.2.trans (h.2.2.2.1 j hj).2.2.2⟩, fun j hj => (g.2.2.2.2 j hj).trans (h.2.2.2.2 j hj)⟩
theorem tf_f {i k : Nat} {it : ITt} {x : Int32} (hk : k = 7 ∨ k = 8) : TF i it (u2 it 467 k x) := by
  have r (j : Nat) (h : j ≠ 467) : u2 it 467 k x j = it j := u2_row h
  refine ⟨u2_ne (by omega), u2_ne (by omega), r 468 (by decide), fun j _ => ?_, fun j hj => r j (by omega)⟩
  rw [r 469 (by decide), r 470 (by decide), r 471 (by decide), r 472 (by decide)]
  exact ⟨rfl, rfl, rfl, rfl⟩
theorem tf_w {i row : Nat} {it : ITt} {x : Int32} (hr : 469 ≤ row ∧ row ≤ 472) : TF i it (u2 it row i x) := by
  have r (j : Nat) (h : j ≠ row) : u2 it row i x j = it j := u2_row h
  have w (j q : Nat) (h : q ≠ i) : u2 it row i x j q = it j q := by unfold u2; rw [if_neg (fun z => h z.2)]
  refine ⟨by rw [r 467 (by omega)], by rw [r 467 (by omega)], r 468 (by omega), fun j hj => ⟨w 469 j hj, w 470 j hj, w 471 j hj, w 472 j hj⟩, fun j hj => r j (by omega)⟩
theorem tf_tx {i : Nat} {a b : ITt} (h : TF i a b) : tx8 b = tx8 a := by unfold tx8; rw [h.1, h.2.2.1]
abbrev RS (i : Nat) (it0 it : ITt) (lg0 lg : LGt) : Prop := I8 lg it ∧ lg = lg0 ∧ TF i it0 it
theorem f_X7_skip (i : Nat) (a1 : Int32) {lg0 : LGt} {it0 : ITt} (hI : I8 lg0 it0) (hd : ¬ a1 = -1) (p : Nat) (hp0 : (it0 467 7).toInt = p) : w_X7_skip a1 (fun (v : Int32) (lg' : LGt) (it' : ITt) => RS i it0 it' lg0 lg' ∧ it' 467 8 = it0 467 8 ∧ (∀ j, 469 ≤ j → j ≤ 472 → it' j = it0 j) ∧ ((v = 1 ∧ sg (tx8 it0) p = a1.toInt ∧ (it' 467 7).toInt = ((p + 1 : Nat) : Int)) ∨ (v = 0 ∧ ¬ sg (tx8 it0) p = a1.toInt ∧ (it' 467 7).toInt = p))) lg0 it0 := by
  unfold w_X7_skip
  have e := sg_v hI hp0
  refine ⟨fun c it3 m3 => ?_, fun c => ?_⟩
  · have hb := sgn_eq (congrArg Int32.toInt c) hd
    have f : (it0 467 7 + 1).toInt = (it0 467 7).toInt + 1 := ad32 rfl ti_1 (by omega) (by omega)
    rw [m3]
    refine ⟨⟨i8_at hI (by omega), rfl, tf_f (Or.inl rfl)⟩, u2_ne (by decide), fun j h1 h2 => u2_row (by omega), Or.inl ⟨rfl, ?_, ?_⟩⟩
    · unfold sg; rw [← e, c]
    · rw [u2_eq, f]; omega
  · refine ⟨⟨hI, rfl, tf_r⟩, rfl, fun _ _ _ => rfl, Or.inr ⟨rfl, fun q => c ?_, hp0⟩⟩
    rw [e]
    exact Int32.toInt_inj.mp q
/-- a number: from p on -/
def NB (it0 it : ITt) (v : Int32) (X : Option (Int × Nat)) (p : Nat) : Prop := (v = 1 ∧ ∃ r, X = some r ∧ (it 467 8).toInt = r.1 ∧ (it 467 7).toInt = r.2) ∨ (v = 0 ∧ X = none ∧ (it 467 7).toInt = p)
theorem f_X7_scanNumber (i : Nat) (a1 : Int32) {lg0 : LGt} {it0 : ITt} (hI : I8 lg0 it0) (hd : a1.toInt = 1 ∨ a1.toInt = 2) (p : Nat) (hp0 : (it0 467 7).toInt = p) : w_X7_scanNumber a1 (fun (v : Int32) (lg' : LGt) (it' : ITt) => RS i it0 it' lg0 lg' ∧ (∀ j, 469 ≤ j → j ≤ 472 → it' j = it0 j) ∧ NB it0 it' v (nmd a1.toInt (tx8 it0) p) p) lg0 it0 := by
  generalize hq : (fun (v : Int32) (lg' : LGt) (it' : ITt) => RS i it0 it' lg0 lg' ∧ (∀ j, 469 ≤ j → j ≤ 472 → it' j = it0 j) ∧ NB it0 it' v (nmd a1.toInt (tx8 it0) p) p) = Pz
  have lp : ∀ (n : Nat) (x : Int32) (it : ITt), I8 lg0 it → TF i it0 it → (∀ j, 469 ≤ j → j ≤ 472 → it j = it0 j) → ((x.toInt = 0 ∧ (it 467 7).toInt = p ∧ (it 467 8).toInt = 0) ∨ (x.toInt = 1 ∧ (48 ≤ sg (tx8 it0) p ∧ sg (tx8 it0) p ≤ 57) ∧ (it 467 7).toInt = ((p + 1 : Nat) : Int) ∧ (it 467 8).toInt = sg (tx8 it0) p - 48) ∨ (x.toInt = 2 ∧ a1.toInt = 2 ∧ (48 ≤ sg (tx8 it0) p ∧ sg (tx8 it0) p ≤ 57) ∧ (48 ≤ sg (tx8 it0) (p + 1) ∧ sg (tx8 it0) (p + 1) ≤ 57) ∧ (it 467 7).toInt = ((p + 2 : Nat) : Int) ∧ (it 467 8).toInt = 10 * (sg (tx8 it0) p - 48) + (sg (tx8 it0) (p + 1) - 48))) → x.toInt ≤ a1.toInt → (3 - x.toInt).toNat < n → w_X7_scanNumber_b7 a1 Pz n x lg0 it := by
    intro n
    induction n with
    | zero => intro x it _ _ _ _ _ hn; exact absurd hn (Nat.not_lt_zero _)
    | succ n ih =>
      intro x it hJ hT hR hx hxa hn
      have htx := tf_tx hT
      -- the end, where the next sign is no digit or there are enough
      have fin : (x.toInt = a1.toInt ∨ ¬ (48 ≤ (sgnv it).toInt ∧ (sgnv it).toInt ≤ 57)) → w_X7_scanNumber_b65 a1 Pz x lg0 it := by
        intro hend
        unfold w_X7_scanNumber_b65
        subst hq
        rw [Int32.le_iff_toInt_le, ti_0]
        rcases hx with ⟨h0, h7, h8⟩ | ⟨h1, hd1, h7, h8⟩ | ⟨h2, ha2, hd1, hd2, h7, h8⟩
        · have hs := sg_v hJ h7
          rw [htx] at hs
          have hnd : ¬ (48 ≤ sg (tx8 it0) p ∧ sg (tx8 it0) p ≤ 57) := by
            unfold sg
            rw [← hs]
            exact hend.resolve_left (fun q => by omega)
          refine ⟨fun _ => ⟨⟨hJ, rfl, hT⟩, hR, Or.inr ⟨rfl, ?_, h7⟩⟩, fun c => absurd (by omega) c⟩
          unfold nmd; rw [if_neg hnd]
        · have hs := sg_v hJ h7
          rw [htx] at hs
          refine ⟨fun c => absurd c (by omega), fun _ => ⟨⟨hJ, rfl, hT⟩, hR, Or.inl ⟨rfl, (sg (tx8 it0) p - 48, p + 1), ?_, h8, h7⟩⟩⟩
          unfold nmd; rw [if_pos hd1, if_neg]
          intro q
          rcases hend with e | e
          · omega
          · apply e; rw [hs]; exact q.2
        · refine ⟨fun c => absurd c (by omega), fun _ => ⟨⟨hJ, rfl, hT⟩, hR, Or.inl ⟨rfl, (10 * (sg (tx8 it0) p - 48) + (sg (tx8 it0) (p + 1) - 48), p + 2), ?_, h8, h7⟩⟩⟩
          unfold nmd; rw [if_pos hd1, if_pos ⟨ha2, hd2⟩]
      unfold w_X7_scanNumber_b7
      rw [Int32.le_iff_toInt_le, Int32.lt_iff_toInt_lt, Int32.lt_iff_toInt_lt, ti_48, ti_57]
      refine ⟨fun c => fin (Or.inl (by omega)), fun c => ⟨fun c1 => fin (Or.inr (by omega)), fun c1 => ⟨fun c2 => fin (Or.inr (by omega)), fun c2 => ?_⟩⟩⟩
      intro it9 m9 it11 m11
      have hb := sgn_ge c1
      have hlt : x.toInt < a1.toInt := by omega
      have h8b : 0 ≤ (it 467 8).toInt ∧ (it 467 8).toInt ≤ 9 := by
        rcases hx with ⟨h0, h7, h8⟩ | ⟨h1, hd1, h7, h8⟩ | ⟨h2, ha2, _⟩ <;> omega
      have g1 : (it 467 8 * 10).toInt = (it 467 8).toInt * 10 := ml32 rfl ti_10 (by omega) (by omega)
      have g2 : (it 467 8 * 10 + sgnv it).toInt = (it 467 8).toInt * 10 + (sgnv it).toInt := ad32 g1 rfl (by omega) (by omega)
      have g3 : (it 467 8 * 10 + sgnv it - 48).toInt = (it 467 8).toInt * 10 + (sgnv it).toInt - 48 := sb32 g2 ti_48 (by omega) (by omega)
      have e97 : it9 467 7 = it 467 7 := by rw [m9]; exact u2_ne (by decide)
      have g4 : (it9 467 7 + 1).toInt = (it 467 7).toInt + 1 := by rw [e97]; exact ad32 rfl ti_1 (by omega) (by omega)
      have e7 : (it11 467 7).toInt = (it 467 7).toInt + 1 := by rw [m11, u2_eq]; exact g4
      have e8 : (it11 467 8).toInt = (it 467 8).toInt * 10 + (sgnv it).toInt - 48 := by rw [m11, u2_ne (by decide), m9, u2_eq]; exact g3
      have J : I8 lg0 it11 := by rw [m11]; exact i8_at (by rw [m9]; exact i8_nb hJ) (by rw [g4]; omega)
      have T : TF i it0 it11 := tf_t hT (tf_t (b := it9) (by rw [m9]; exact tf_f (Or.inr rfl)) (by rw [m11]; exact tf_f (Or.inl rfl)))
      have R : ∀ j, 469 ≤ j → j ≤ 472 → it11 j = it0 j := fun j h1 h2 => by rw [m11, u2_row (by omega), m9, u2_row (by omega)]; exact hR j h1 h2
      have fx : (x + 1).toInt = x.toInt + 1 := ad32 rfl ti_1 (by omega) (by omega)
      refine ih (x + 1) it11 J T R ?_ (by omega) (by omega)
      rcases hx with ⟨h0, h7, h8⟩ | ⟨h1, hd1, h7, h8⟩ | ⟨h2, ha2, _⟩
      · have hs := sg_v hJ h7
        rw [htx] at hs
        have hs2 : (sgnv it).toInt = sg (tx8 it0) p := by rw [hs]; rfl
        exact Or.inr (Or.inl ⟨by omega, by omega, by omega, by omega⟩)
      · have hs := sg_v hJ h7
        rw [htx] at hs
        have hs2 : (sgnv it).toInt = sg (tx8 it0) (p + 1) := by rw [hs]; rfl
        exact Or.inr (Or.inr ⟨by omega, by omega, hd1, by omega, by omega, by omega⟩)
      · omega
  unfold w_X7_scanNumber
  intro it1 m1
  exact ⟨_, lp ((3 - (0 : Int32).toInt).toNat + 1) 0 it1 (by rw [m1]; exact i8_nb hI) (by rw [m1]; exact tf_f (Or.inr rfl)) (fun j h1 h2 => by rw [m1]; exact u2_row (by omega)) (Or.inl ⟨ti_0, by rw [m1, u2_ne (by decide)]; exact hp0, by rw [m1, u2_eq]; exact ti_0⟩) (by rw [ti_0]; omega) (Nat.lt_succ_self _)⟩
theorem nb_b {it0 it : ITt} {v : Int32} {X : Option (Int × Nat)} {p : Nat} (h : NB it0 it v X p) : v = 0 ∨ v = 1 := h.elim (fun q => Or.inr q.1) (fun q => Or.inl q.1)
theorem nb_1 {it0 it : ITt} {v : Int32} {X : Option (Int × Nat)} {p : Nat} (h : NB it0 it v X p) (c : ¬ v = 0) : ∃ r, X = some r ∧ (it 467 8).toInt = r.1 ∧ (it 467 7).toInt = r.2 := (h.resolve_right (fun q => c q.1)).2
theorem nb_0 {it0 it : ITt} {v : Int32} {X : Option (Int × Nat)} {p : Nat} (h : NB it0 it v X p) (c : v = 0) : X = none ∧ (it 467 7).toInt = p := (h.resolve_left (fun q => by rw [q.1] at c; exact absurd c (by decide))).2
theorem f_X7_scanWall (i : Nat) {lg0 : LGt} {it0 : ITt} (hI : I8 lg0 it0) (p : Nat) (hp0 : (it0 467 7).toInt = p) : w_X7_scanWall (fun (v : Int32) (lg' : LGt) (it' : ITt) => RS i it0 it' lg0 lg' ∧ (∀ j, 469 ≤ j → j ≤ 472 → it' j = it0 j) ∧ NB it0 it' v (wln (tx8 it0) p) p) lg0 it0 := by
  unfold w_X7_scanWall
  refine ⟨_, f_X7_skip i 110 hI (by decide) p hp0, ?_⟩
  intro v2 lg3 it4 hq
  obtain ⟨⟨J, rfl, T⟩, _, R, hv⟩ := hq
  have t110 : (110 : Int32).toInt = 110 := by decide
  rw [t110] at hv
  refine ⟨fun c => ?_, fun c it17 m17 => ?_⟩
  · obtain ⟨_, hn, h7⟩ := hv.resolve_left (fun q => by rw [q.1] at c; exact absurd c (by decide))
    refine ⟨_, f_X7_scanNumber i 1 J (Or.inl ti_1) p h7, ?_⟩
    intro v11 lg12 it13 hq
    obtain ⟨⟨J2, rfl, T2⟩, R2, hb⟩ := hq
    rw [tf_tx T, ti_1] at hb
    refine ⟨ib (nb_b hb), ⟨J2, rfl, tf_t T T2⟩, fun j h1 h2 => (R2 j h1 h2).trans (R j h1 h2), ?_⟩
    unfold wln
    rw [if_neg hn]
    exact hb
  · obtain ⟨_, hy, h7⟩ := hv.resolve_right (fun q => c q.1)
    rw [m17]
    refine ⟨⟨i8_nb J, rfl, tf_t T (tf_f (Or.inr rfl))⟩, fun j h1 h2 => (u2_row (by omega)).trans (R j h1 h2), Or.inl ⟨rfl, (-1, p + 1), ?_, ?_, ?_⟩⟩
    · unfold wln; rw [if_pos hy]
    · rw [u2_eq]; exact ti_m1
    · rw [u2_ne (by decide)]; exact h7
theorem i8_arr {lg : LGt} {it : ITt} {row k : Nat} {x : Int32} (h : I8 lg it) (hr : row = 469 ∨ row = 470 ∨ row = 471 ∨ row = 472) : I8 lg (u2 it row k x) := i8_u h (by rcases hr with rfl | rfl | rfl | rfl <;> exact ok8_a ⟨by decide, by decide +kernel⟩ (show 8 ≤ 11 by decide))
theorem neg32 {x : Int32} (h : 0 ≤ x.toInt ∧ x.toInt ≤ 9) : (-x).toInt = -x.toInt := by rw [Int32.toInt_neg]; exact bm32 (by omega) (by omega)
theorem nmd_b {t : Tx} {p : Nat} {r : Int × Nat} (h : nmd 1 t p = some r) : 0 ≤ r.1 ∧ r.1 ≤ 9 := by
  unfold nmd at h
  split at h
  · rw [if_neg (fun q => absurd q.1 (by decide))] at h
    injection h with h
    subst h
    dsimp only
    omega
  · cases h
/-- a bumper's clause behind its letter -/
def BB (it : ITt) (v : Int32) (X : Nat × Option (Int × Int × Int)) (i : Nat) : Prop := (it 467 7).toInt = X.1 ∧ ((v = 1 ∧ ∃ c, X.2 = some c ∧ (it 470 i).toInt = c.1 ∧ (it 471 i).toInt = c.2.1 ∧ (it 472 i).toInt = c.2.2) ∨ (v = 0 ∧ X.2 = none))
theorem f_X7_scanBumper (a1 : Int32) {lg0 : LGt} {it0 : ITt} (hI : I8 lg0 it0) (ha : 0 ≤ a1.toInt ∧ a1.toInt < 12) (p : Nat) (hp0 : (it0 467 7).toInt = p) : w_X7_scanBumper a1 (fun (v : Int32) (lg' : LGt) (it' : ITt) => RS a1.toNatClampNeg it0 it' lg0 lg' ∧ it' 469 = it0 469 ∧ BB it' v (pbm (tx8 it0) p) a1.toNatClampNeg) lg0 it0 := by
  have hv : vp_in a1 12 := vp_of ha.1 (by omega)
  have t44 : (44 : Int32).toInt = 44 := by decide
  have t45 : (45 : Int32).toInt = 45 := by decide
  unfold w_X7_scanBumper
  refine ⟨_, f_X7_scanNumber a1.toNatClampNeg 2 hI (Or.inr ti_2) p hp0, ?_⟩
  intro v2 lg3 it4 hq
  obtain ⟨⟨J4, rfl, T4⟩, R4, hb⟩ := hq
  rw [ti_2] at hb
  refine ⟨fun c => ?_, fun c => ?_⟩
  · obtain ⟨e, h7⟩ := nb_0 hb c
    have eX : pbm (tx8 it0) p = (p, none) := by unfold pbm; rw [e]
    rw [eX]
    exact ⟨⟨J4, rfl, T4⟩, R4 469 (by decide) (by decide), h7, Or.inr ⟨rfl, rfl⟩⟩
  obtain ⟨r, e, h8, h7⟩ := nb_1 hb c
  have eX : pbm (tx8 it0) p = if sg (tx8 it0) r.2 = 44 then (match (pbm2 (tx8 it0) (r.2 + 1)).2 with | none => ((pbm2 (tx8 it0) (r.2 + 1)).1, none) | some c => ((pbm2 (tx8 it0) (r.2 + 1)).1, some (r.1, c))) else (r.2, none) := by unfold pbm; rw [e]
  rw [eX]
  refine ⟨_, f_X7_skip a1.toNatClampNeg 44 J4 (by decide) r.2 h7, ?_⟩
  intro v11 lg12 it13 hq
  obtain ⟨⟨J13, rfl, T13⟩, n13, R13, hs⟩ := hq
  rw [tf_tx T4, t44] at hs
  refine ⟨fun c2 => ?_, fun c2 => ?_⟩
  case refine_2 =>
    obtain ⟨_, hn, h7b⟩ := hs.resolve_left (fun q => by rw [q.1] at c2; exact absurd c2 (by decide))
    rw [if_neg hn]
    exact ⟨⟨J13, rfl, tf_t T4 T13⟩, (R13 469 (by decide) (by decide)).trans (R4 469 (by decide) (by decide)), h7b, Or.inr ⟨rfl, rfl⟩⟩
  obtain ⟨_, hy, h7b⟩ := hs.resolve_right (fun q => c2 q.1)
  rw [if_pos hy]
  refine ⟨hv, fun it19 m19 => ?_⟩
  have J19 : I8 lg12 it19 := by rw [m19]; exact i8_arr J13 (by decide)
  have T19 : TF a1.toNatClampNeg it0 it19 := tf_t (tf_t T4 T13) (by rw [m19]; exact tf_w (by decide))
  have h19 : (it19 467 7).toInt = ((r.2 + 1 : Nat) : Int) := by rw [m19, u2_row (by decide)]; exact h7b
  have f19 : (it19 470 a1.toNatClampNeg).toInt = r.1 := by rw [m19, u2_eq, n13]; exact h8
  have k19 : it19 469 = it0 469 := by rw [m19, u2_row (by decide), R13 469 (by decide) (by decide), R4 469 (by decide) (by decide)]
  refine ⟨_, f_X7_scanNumber a1.toNatClampNeg 1 J19 (Or.inl ti_1) (r.2 + 1) h19, ?_⟩
  intro v22 lg23 it24 hq
  obtain ⟨⟨J24, rfl, T24⟩, R24, hb2⟩ := hq
  rw [tf_tx T19, ti_1] at hb2
  refine ⟨fun c3 => ?_, fun c3 => ?_⟩
  · obtain ⟨e2, h7c⟩ := nb_0 hb2 c3
    have eY : pbm2 (tx8 it0) (r.2 + 1) = (r.2 + 1, none) := by unfold pbm2; rw [e2]
    rw [eY]
    exact ⟨⟨J24, rfl, tf_t T19 T24⟩, (R24 469 (by decide) (by decide)).trans k19, h7c, Or.inr ⟨rfl, rfl⟩⟩
  obtain ⟨r2, e2, h8b, h7c⟩ := nb_1 hb2 c3
  have eY : pbm2 (tx8 it0) (r.2 + 1) = if sg (tx8 it0) r2.2 = 44 then (match (pbm3 (tx8 it0) (r2.2 + 1)).2 with | none => ((pbm3 (tx8 it0) (r2.2 + 1)).1, none) | some c => ((pbm3 (tx8 it0) (r2.2 + 1)).1, some (r2.1, c))) else (r2.2, none) := by unfold pbm2; rw [e2]
  rw [eY]
  refine ⟨_, f_X7_skip a1.toNatClampNeg 44 J24 (by decide) r2.2 h7c, ?_⟩
  intro v31 lg32 it33 hq
  obtain ⟨⟨J33, rfl, T33⟩, n33, R33, hs2⟩ := hq
  rw [tf_tx (tf_t T19 T24), t44] at hs2
  refine ⟨fun c4 => ?_, fun c4 => ?_⟩
  case refine_2 =>
    obtain ⟨_, hn, h7d⟩ := hs2.resolve_left (fun q => by rw [q.1] at c4; exact absurd c4 (by decide))
    rw [if_neg hn]
    exact ⟨⟨J33, rfl, tf_t (tf_t T19 T24) T33⟩, (R33 469 (by decide) (by decide)).trans ((R24 469 (by decide) (by decide)).trans k19), h7d, Or.inr ⟨rfl, rfl⟩⟩
  obtain ⟨_, hy2, h7d⟩ := hs2.resolve_right (fun q => c4 q.1)
  rw [if_pos hy2]
  refine ⟨hv, fun it39 m39 => ?_⟩
  have J39 : I8 lg32 it39 := by rw [m39]; exact i8_arr J33 (by decide)
  have T39 : TF a1.toNatClampNeg it0 it39 := tf_t (tf_t (tf_t T19 T24) T33) (by rw [m39]; exact tf_w (by decide))
  have h39 : (it39 467 7).toInt = ((r2.2 + 1 : Nat) : Int) := by rw [m39, u2_row (by decide)]; exact h7d
  have f39 : (it39 470 a1.toNatClampNeg).toInt = r.1 := by rw [m39, u2_row (by decide), R33 470 (by decide) (by decide), R24 470 (by decide) (by decide)]; exact f19
  have s39 : (it39 471 a1.toNatClampNeg).toInt = r2.1 := by rw [m39, u2_eq, n33]; exact h8b
  have k39 : it39 469 = it0 469 := by rw [m39, u2_row (by decide), R33 469 (by decide) (by decide), R24 469 (by decide) (by decide)]; exact k19
  refine ⟨_, f_X7_skip a1.toNatClampNeg 45 J39 (by decide) (r2.2 + 1) h39, ?_⟩
  intro v42 lg43 it44 hq
  obtain ⟨⟨J44, rfl, T44⟩, n44, R44, hs3⟩ := hq
  rw [tf_tx T39, t45] at hs3
  have h44 : (it44 467 7).toInt = ((if sg (tx8 it0) (r2.2 + 1) = 45 then r2.2 + 1 + 1 else r2.2 + 1 : Nat) : Int) := by
    rcases hs3 with ⟨_, q, h⟩ | ⟨_, q, h⟩
    · rw [if_pos q]; exact h
    · rw [if_neg q]; exact h
  refine ⟨_, f_X7_scanNumber a1.toNatClampNeg 1 J44 (Or.inl ti_1) _ h44, ?_⟩
  intro v49 lg50 it51 hq
  obtain ⟨⟨J51, rfl, T51⟩, R51, hb3⟩ := hq
  rw [tf_tx (tf_t T39 T44), ti_1] at hb3
  have T51x := tf_t (tf_t T39 T44) T51
  refine ⟨fun c5 => ?_, fun c5 => ?_⟩
  case refine_2 =>
    obtain ⟨e3, h7e⟩ := nb_0 hb3 c5
    have eZ : pbm3 (tx8 it0) (r2.2 + 1) = (if sg (tx8 it0) (r2.2 + 1) = 45 then r2.2 + 1 + 1 else r2.2 + 1, none) := by unfold pbm3; rw [e3]
    rw [eZ]
    exact ⟨⟨J51, rfl, T51x⟩, (R51 469 (by decide) (by decide)).trans ((R44 469 (by decide) (by decide)).trans k39), h7e, Or.inr ⟨rfl, rfl⟩⟩
  obtain ⟨r3, e3, h8c, h7e⟩ := nb_1 hb3 c5
  have hr3 := nmd_b e3
  have eZ : pbm3 (tx8 it0) (r2.2 + 1) = (r3.2, some (if sg (tx8 it0) (r2.2 + 1) = 45 then -r3.1 else r3.1)) := by unfold pbm3; rw [e3]
  rw [eZ]
  have f51 : (it51 470 a1.toNatClampNeg).toInt = r.1 := by rw [R51 470 (by decide) (by decide), R44 470 (by decide) (by decide)]; exact f39
  have s51 : (it51 471 a1.toNatClampNeg).toInt = r2.1 := by rw [R51 471 (by decide) (by decide), R44 471 (by decide) (by decide)]; exact s39
  have k51 : it51 469 = it0 469 := (R51 469 (by decide) (by decide)).trans ((R44 469 (by decide) (by decide)).trans k39)
  have end3 : ∀ (x : Int32) (it59 : ITt), it59 = u2 it51 472 a1.toNatClampNeg x → x.toInt = (if sg (tx8 it0) (r2.2 + 1) = 45 then -r3.1 else r3.1) → RS a1.toNatClampNeg it0 it59 lg50 lg50 ∧ it59 469 = it0 469 ∧ BB it59 1 (r3.2, some (r.1, r2.1, if sg (tx8 it0) (r2.2 + 1) = 45 then -r3.1 else r3.1)) a1.toNatClampNeg := by
    intro x it59 m59 hx
    rw [m59]
    refine ⟨⟨i8_arr J51 (by decide), rfl, tf_t T51x (tf_w (by decide))⟩, (u2_row (by decide)).trans k51, ?_, Or.inl ⟨rfl, _, rfl, ?_, ?_, ?_⟩⟩
    · rw [u2_row (by decide)]; exact h7e
    · rw [u2_row (by decide)]; exact f51
    · rw [u2_row (by decide)]; exact s51
    · rw [u2_eq]; exact hx
  refine ⟨fun c6 => ⟨hv, fun it59 m59 => end3 _ it59 m59 ?_⟩, fun c6 => ⟨hv, fun it59 m59 => end3 _ it59 m59 ?_⟩⟩
  · rw [if_neg (hs3.resolve_left (fun q => by rw [q.1] at c6; exact absurd c6 (by decide))).2.1]; exact h8c
  · rw [if_pos (hs3.resolve_right (fun q => c6 q.1)).2.1, neg32 (by omega), h8c]
/-- a clause -/
def CC (it : ITt) (v : Int32) (X : Nat × Option Cl) (i : Nat) : Prop := (it 467 7).toInt = X.1 ∧ ((v = 1 ∧ ∃ c, X.2 = some c ∧ (it 469 i).toInt = c.1 ∧ (it 470 i).toInt = c.2.1 ∧ (c.1 = 98 → (it 471 i).toInt = c.2.2.1 ∧ (it 472 i).toInt = c.2.2.2)) ∨ (v = 0 ∧ X.2 = none))
theorem f_X7_scanClause (a1 : Int32) {lg0 : LGt} {it0 : ITt} (hI : I8 lg0 it0) (ha : 0 ≤ a1.toInt ∧ a1.toInt < 12) (p : Nat) (hp0 : (it0 467 7).toInt = p) : w_X7_scanClause a1 (fun (v : Int32) (lg' : LGt) (it' : ITt) => RS a1.toNatClampNeg it0 it' lg0 lg' ∧ CC it' v (pcl (tx8 it0) p) a1.toNatClampNeg) lg0 it0 := by
  have hv : vp_in a1 12 := vp_of ha.1 (by omega)
  have t98 : (98 : Int32).toInt = 98 := by decide
  have t103 : (103 : Int32).toInt = 103 := by decide
  have t101 : (101 : Int32).toInt = 101 := by decide
  have t108 : (108 : Int32).toInt = 108 := by decide
  have t114 : (114 : Int32).toInt = 114 := by decide
  unfold w_X7_scanClause
  refine ⟨hv, fun it1 m1 => ?_⟩
  have J1 : I8 lg0 it1 := by rw [m1]; exact i8_arr hI (by decide)
  have T1 : TF a1.toNatClampNeg it0 it1 := by rw [m1]; exact tf_w (by decide)
  have h1 : (it1 467 7).toInt = p := by rw [m1, u2_row (by decide)]; exact hp0
  have k1 : (it1 469 a1.toNatClampNeg).toInt = sg (tx8 it0) p := by rw [m1, u2_eq, sg_v hI hp0]; rfl
  -- one number behind the letter
  have b92 : ∀ (k : Int) (v : Int32) (X : Option (Int × Nat)) (q : Nat) (itA : ITt), I8 lg0 itA → TF a1.toNatClampNeg it0 itA → (itA 469 a1.toNatClampNeg).toInt = k → ¬ k = 98 → NB it0 itA v X q → w_X7_scanClause_b92 a1 (fun (v : Int32) (lg' : LGt) (it' : ITt) => RS a1.toNatClampNeg it0 it' lg0 lg' ∧ CC it' v (one k q X) a1.toNatClampNeg) v lg0 itA := by
    intro k v X q itA J T hk h98 hb
    unfold w_X7_scanClause_b92
    refine ⟨hv, fun it79 m79 => ⟨ib (nb_b hb), ?_⟩⟩
    rw [m79]
    refine ⟨⟨i8_arr J (by decide), rfl, tf_t T (tf_w (by decide))⟩, ?_⟩
    rcases hb with ⟨hv1, r, e, h8, h7⟩ | ⟨hv0, e, h7⟩
    · unfold one
      rw [e]
      refine ⟨by rw [u2_row (by decide)]; exact h7, Or.inl ⟨hv1, _, rfl, ?_, ?_, fun z => absurd z h98⟩⟩
      · rw [u2_row (by decide)]; exact hk
      · rw [u2_eq]; exact h8
    · unfold one
      rw [e]
      exact ⟨by rw [u2_row (by decide)]; exact h7, Or.inr ⟨hv0, rfl⟩⟩
  -- the letters, one behind the other
  refine ⟨_, f_X7_skip a1.toNatClampNeg 98 J1 (by decide) p h1, ?_⟩
  intro v4 lg5 it6 hq
  obtain ⟨⟨J6, rfl, T6⟩, _, R6, hs⟩ := hq
  rw [tf_tx T1, t98] at hs
  have T6x := tf_t T1 T6
  refine ⟨fun c => ?_, fun c => ?_⟩
  case refine_2 =>
    obtain ⟨_, hy, h7⟩ := hs.resolve_right (fun q => c q.1)
    refine ⟨_, f_X7_scanBumper a1 J6 ha (p + 1) h7, ?_⟩
    intro v63 lg64 it65 hq
    obtain ⟨⟨J65, rfl, T65⟩, R65, hb1, hb2⟩ := hq
    rw [tf_tx T6x] at hb1 hb2
    have e : pcl (tx8 it0) p = (match (pbm (tx8 it0) (p + 1)).2 with | none => ((pbm (tx8 it0) (p + 1)).1, none) | some c => ((pbm (tx8 it0) (p + 1)).1, some (98, c))) := by unfold pcl; rw [if_pos hy]
    rw [e]
    rcases hb2 with ⟨w1, c', e2, q1, q2, q3⟩ | ⟨w0, e2⟩
    · rw [e2]
      refine ⟨ib (Or.inr w1), ⟨J65, rfl, tf_t T6x T65⟩, hb1, Or.inl ⟨w1, _, rfl, ?_, q1, fun _ => ⟨q2, q3⟩⟩⟩
      rw [R65, R6 469 (by decide) (by decide), k1]; exact hy
    · rw [e2]
      exact ⟨ib (Or.inl w0), ⟨J65, rfl, tf_t T6x T65⟩, hb1, Or.inr ⟨w0, rfl⟩⟩
  obtain ⟨_, n98, h6⟩ := hs.resolve_left (fun q => by rw [q.1] at c; exact absurd c (by decide))
  have k6 : (it6 469 a1.toNatClampNeg).toInt = sg (tx8 it0) p := by rw [R6 469 (by decide) (by decide)]; exact k1
  refine ⟨_, f_X7_skip a1.toNatClampNeg 103 J6 (by decide) p h6, ?_⟩
  intro v13 lg14 it15 hq
  obtain ⟨⟨J15, rfl, T15⟩, _, R15, hs2⟩ := hq
  rw [tf_tx T6x, t103] at hs2
  have T15x := tf_t T6x T15
  have k15 : (it15 469 a1.toNatClampNeg).toInt = sg (tx8 it0) p := by rw [R15 469 (by decide) (by decide)]; exact k6
  refine ⟨fun c2 => ?_, fun c2 => ?_⟩
  case refine_2 =>
    obtain ⟨_, hy, h7⟩ := hs2.resolve_right (fun q => c2 q.1)
    refine ⟨_, f_X7_scanNumber a1.toNatClampNeg 2 J15 (Or.inr ti_2) (p + 1) h7, ?_⟩
    intro v56 lg57 it58 hq
    obtain ⟨⟨J58, rfl, T58⟩, R58, hb⟩ := hq
    rw [tf_tx T15x, ti_2] at hb
    have e : pcl (tx8 it0) p = one 103 (p + 1) (nmd 2 (tx8 it0) (p + 1)) := by unfold pcl; rw [if_neg n98, if_pos hy]
    rw [e]
    exact b92 103 v56 _ (p + 1) it58 J58 (tf_t T15x T58) (by rw [R58 469 (by decide) (by decide), k15]; exact hy) (by decide) hb
  obtain ⟨_, n103, h15⟩ := hs2.resolve_left (fun q => by rw [q.1] at c2; exact absurd c2 (by decide))
  refine ⟨_, f_X7_skip a1.toNatClampNeg 101 J15 (by decide) p h15, ?_⟩
  intro v22 lg23 it24 hq
  obtain ⟨⟨J24, rfl, T24⟩, _, R24, hs3⟩ := hq
  rw [tf_tx T15x, t101] at hs3
  have T24x := tf_t T15x T24
  have k24 : (it24 469 a1.toNatClampNeg).toInt = sg (tx8 it0) p := by rw [R24 469 (by decide) (by decide)]; exact k15
  refine ⟨fun c3 => ?_, fun c3 => ?_⟩
  case refine_2 =>
    obtain ⟨_, hy, h7⟩ := hs3.resolve_right (fun q => c3 q.1)
    refine ⟨_, f_X7_scanNumber a1.toNatClampNeg 1 J24 (Or.inl ti_1) (p + 1) h7, ?_⟩
    intro v49 lg50 it51 hq
    obtain ⟨⟨J51, rfl, T51⟩, R51, hb⟩ := hq
    rw [tf_tx T24x, ti_1] at hb
    have e : pcl (tx8 it0) p = one 101 (p + 1) (nmd 1 (tx8 it0) (p + 1)) := by unfold pcl; rw [if_neg n98, if_neg n103, if_pos hy]
    rw [e]
    exact b92 101 v49 _ (p + 1) it51 J51 (tf_t T24x T51) (by rw [R51 469 (by decide) (by decide), k24]; exact hy) (by decide) hb
  obtain ⟨_, n101, h24⟩ := hs3.resolve_left (fun q => by rw [q.1] at c3; exact absurd c3 (by decide))
  -- a wall
  have wall : ∀ (itA : ITt), I8 lg23 itA → TF a1.toNatClampNeg it0 itA → (itA 469 a1.toNatClampNeg).toInt = sg (tx8 it0) p → (sg (tx8 it0) p = 108 ∨ sg (tx8 it0) p = 114) → (itA 467 7).toInt = ((p + 1 : Nat) : Int) → w_X7_scanClause_b79 a1 (fun (v : Int32) (lg' : LGt) (it' : ITt) => RS a1.toNatClampNeg it0 it' lg23 lg' ∧ CC it' v (pcl (tx8 it0) p) a1.toNatClampNeg) lg23 itA := by
    intro itA J T hk hy h7
    have e : pcl (tx8 it0) p = one (sg (tx8 it0) p) (p + 1) (wln (tx8 it0) (p + 1)) := by unfold pcl; rw [if_neg n98, if_neg n103, if_neg n101, if_pos hy]
    rw [e]
    unfold w_X7_scanClause_b79
    refine ⟨_, f_X7_scanWall a1.toNatClampNeg J (p + 1) h7, ?_⟩
    intro v71 lg72 it73 hq
    obtain ⟨⟨J73, rfl, T73⟩, R73, hb⟩ := hq
    rw [tf_tx T] at hb
    have hk73 : (it73 469 a1.toNatClampNeg).toInt = sg (tx8 it0) p := by rw [R73 469 (by decide) (by decide)]; exact hk
    have z := b92 (sg (tx8 it0) p) v71 _ (p + 1) it73 J73 (tf_t T T73) hk73 n98 hb
    refine ⟨fun c => ?_, fun c => ?_⟩
    · unfold w_X7_scanClause_b90 w_X7_scanClause_b91; rw [c] at z; exact z
    · unfold w_X7_scanClause_b91; rw [(nb_b hb).resolve_left c] at z; exact z
  refine ⟨_, f_X7_skip a1.toNatClampNeg 108 J24 (by decide) p h24, ?_⟩
  intro v31 lg32 it33 hq
  obtain ⟨⟨J33, rfl, T33⟩, _, R33, hs4⟩ := hq
  rw [tf_tx T24x, t108] at hs4
  have T33x := tf_t T24x T33
  have k33 : (it33 469 a1.toNatClampNeg).toInt = sg (tx8 it0) p := by rw [R33 469 (by decide) (by decide)]; exact k24
  refine ⟨fun c4 => ?_, fun c4 => ?_⟩
  · obtain ⟨_, hy, h7⟩ := hs4.resolve_right (fun q => c4 q.1)
    exact wall it33 J33 T33x k33 (Or.inl hy) h7
  obtain ⟨_, n108, h33⟩ := hs4.resolve_left (fun q => by rw [q.1] at c4; exact absurd c4 (by decide))
  refine ⟨_, f_X7_skip a1.toNatClampNeg 114 J33 (by decide) p h33, ?_⟩
  intro v40 lg41 it42 hq
  obtain ⟨⟨J42, rfl, T42⟩, _, R42, hs5⟩ := hq
  rw [tf_tx T33x, t114] at hs5
  have T42x := tf_t T33x T42
  refine ⟨fun c5 => ?_, fun c5 => ?_⟩
  · obtain ⟨_, n114, h42⟩ := hs5.resolve_left (fun q => by rw [q.1] at c5; exact absurd c5 (by decide))
    have e : pcl (tx8 it0) p = (p, none) := by unfold pcl; rw [if_neg n98, if_neg n103, if_neg n101, if_neg (fun q => q.elim n108 n114)]
    rw [e]
    unfold w_X7_scanClause_b90 w_X7_scanClause_b91 w_X7_scanClause_b92
    refine ⟨hv, fun it79 m79 => ⟨by decide, ?_⟩⟩
    rw [m79]
    exact ⟨⟨i8_arr J42 (by decide), rfl, tf_t T42x (tf_w (by decide))⟩, by rw [u2_row (by decide)]; exact h42, Or.inr ⟨rfl, rfl⟩⟩
  · obtain ⟨_, hy, h7⟩ := hs5.resolve_right (fun q => c5 q.1)
    exact wall it42 J42 T42x (by rw [R42 469 (by decide) (by decide)]; exact k33) (Or.inr hy) h7
/-- the clauses below n are held -/
def CD (it : ITt) (t : Tx) (n : Nat) : Prop := ∀ j, j < n → (it 469 j).toInt = (cdat t j).1 ∧ (it 470 j).toInt = (cdat t j).2.1 ∧ ((cdat t j).1 = 98 → (it 471 j).toInt = (cdat t j).2.2.1 ∧ (it 472 j).toInt = (cdat t j).2.2.2)
theorem cd_t {it it' : ITt} {t : Tx} {n : Nat} (h : CD it t n) (hT : TF n it it') : CD it' t n := by
  intro j hj
  obtain ⟨a, b, c, d⟩ := hT.2.2.2.1 j (by omega)
  rw [a, b, c, d]
  exact h j hj
theorem cd_s {it : ITt} {t : Tx} {n : Nat} {c : Cl} (h : CD it t n) (e : (pcl t (cpos t n)).2 = some c) (h1 : (it 469 n).toInt = c.1) (h2 : (it 470 n).toInt = c.2.1) (h3 : c.1 = 98 → (it 471 n).toInt = c.2.2.1 ∧ (it 472 n).toInt = c.2.2.2) : CD it t (n + 1) := by
  intro j hj
  by_cases z : j = n
  · subst z
    have ec : cdat t j = c := by unfold cdat; rw [e]; rfl
    rw [ec]
    exact ⟨h1, h2, h3⟩
  · exact h j (by omega)
def SCN (it0 it : ITt) (v : Int32) (X : Nat × Option Nat) : Prop := (v = 1 ∧ ∃ m, X.2 = some m ∧ m ≤ 12 ∧ (it 467 6).toInt = m ∧ CD it (tx8 it0) m) ∨ (v = 0 ∧ X.2 = none ∧ (it 467 7).toInt = X.1)
/-- all but the text's own rows, its signs too -/
def TG (it0 it : ITt) : Prop := it 467 1 = it0 467 1 ∧ it 468 = it0 468 ∧ ∀ j, (j < 467 ∨ 473 ≤ j) → it j = it0 j
theorem sub12 {n : Nat} (h : n < 12) : 12 - n = (11 - n) + 1 ∧ 12 - (n + 1) = 11 - n := by omega
theorem f_X7_scan {lg0 : LGt} {it0 : ITt} (hI : I8 lg0 it0) (hP8 : ∀ p, p < (it0 467 1).toNatClampNeg → 0 ≤ (it0 468 p).toInt) : w_X7_scan (fun (v : Int32) (lg' : LGt) (it' : ITt) => (I8 lg' it' ∧ lg' = lg0 ∧ TG it0 it') ∧ SCN it0 it' v (psc (tx8 it0) 12 0 0)) lg0 it0 := by
  generalize hq : (fun (v : Int32) (lg' : LGt) (it' : ITt) => (I8 lg' it' ∧ lg' = lg0 ∧ TG it0 it') ∧ SCN it0 it' v (psc (tx8 it0) 12 0 0)) = Pz
  have hL := i8_71 hI
  have kL := cl32 hL.1
  have t59 : (59 : Int32).toInt = 59 := by decide
  have lp : ∀ (q : Nat) (x : Int32) (it : ITt) (n : Nat), I8 lg0 it → TG it0 it → x.toInt = n → n < 12 → (it 467 7).toInt = cpos (tx8 it0) n → CD it (tx8 it0) n → psc (tx8 it0) 12 0 0 = psc (tx8 it0) (12 - n) n (cpos (tx8 it0) n) → 12 - n < q → w_X7_scan_b12 Pz q x lg0 it := by
    intro q
    induction q with
    | zero => intro x it n _ _ _ _ _ _ _ hn; exact absurd hn (Nat.not_lt_zero _)
    | succ q ih =>
      intro x it n hJ hG hx hn12 h7 hcd hps hn
      obtain ⟨hf, hf2⟩ := sub12 hn12
      generalize 11 - n = f at hf hf2
      have ha : 0 ≤ x.toInt ∧ x.toInt < 12 := by omega
      have fx : (x + 1).toInt = x.toInt + 1 := ad32 rfl ti_1 (by omega) (by omega)
      have hb6 : 0 ≤ (x + 1).toInt ∧ (x + 1).toInt ≤ 12 := by omega
      have fxn : (x + 1).toInt = ((n + 1 : Nat) : Int) := by omega
      have hqn : 12 - (n + 1) < q := by omega
      have htx : tx8 it = tx8 it0 := by unfold tx8; rw [hG.1, hG.2.1]
      have hxn : x.toNatClampNeg = n := by have := cl32 (i := x) (by omega); omega
      unfold w_X7_scan_b12
      rw [Int32.le_iff_toInt_le, ti_12]
      refine ⟨fun c => absurd c (by omega), fun c => ?_⟩
      refine ⟨_, f_X7_scanClause x hJ ha _ h7, ?_⟩
      intro v8 lg9 it10 hq2
      obtain ⟨⟨J10, rfl, T10⟩, h10, hc⟩ := hq2
      rw [htx] at h10 hc
      rw [hxn] at hc T10
      have G10 : TG it0 it10 := ⟨T10.1.trans hG.1, T10.2.2.1.trans hG.2.1, fun j hj => (T10.2.2.2.2 j hj).trans (hG.2.2 j hj)⟩
      refine ⟨fun c2 => ?_, fun c2 => ?_⟩
      case refine_2 =>
        have e := (hc.resolve_left (fun y => by rw [y.1] at c2; exact absurd c2 (by decide))).2
        subst hq
        refine ⟨⟨J10, rfl, G10⟩, Or.inr ⟨rfl, ?_, ?_⟩⟩
        · rw [hps, hf]; unfold psc; rw [e]
        · rw [h10, hps, hf]; unfold psc; rw [e]
      obtain ⟨_, cl, e, g1, g2, g3⟩ := hc.resolve_right (fun y => c2 y.1)
      intro it16 m16
      have J16 : I8 lg9 it16 := by rw [m16]; exact i8_n6 J10 hb6
      have G16 : TG it0 it16 := ⟨by rw [m16, u2_ne (by decide)]; exact G10.1, by rw [m16, u2_row (by decide)]; exact G10.2.1, fun j hj => by rw [m16, u2_row (by omega)]; exact G10.2.2 j hj⟩
      have tx16 : tx8 it16 = tx8 it0 := by unfold tx8; rw [G16.1, G16.2.1]
      have h16 : (it16 467 7).toInt = (pcl (tx8 it0) (cpos (tx8 it0) n)).1 := by rw [m16, u2_ne (by decide)]; exact h10
      have r16 (j : Nat) (hj : j ≠ 467) : it16 j = it10 j := by rw [m16, u2_row hj]
      have cd10 : CD it10 (tx8 it0) (n + 1) := cd_s (cd_t hcd T10) e g1 g2 g3
      have cd16 : CD it16 (tx8 it0) (n + 1) := by
        intro j hj
        rw [r16 469 (by decide), r16 470 (by decide), r16 471 (by decide), r16 472 (by decide)]
        exact cd10 j hj
      have c6 : (it16 467 6).toInt = ((n + 1 : Nat) : Int) := by rw [m16, u2_eq]; exact fxn
      have sv := sg_v J16 h16
      rw [tx16] at sv
      have hsg : (sgnv it16).toInt = sg (tx8 it0) (pcl (tx8 it0) (cpos (tx8 it0) n)).1 := by rw [sv]; rfl
      have hpe : psc (tx8 it0) 12 0 0 = if (tx8 it0).1 ≤ (pcl (tx8 it0) (cpos (tx8 it0) n)).1 then ((pcl (tx8 it0) (cpos (tx8 it0) n)).1, some (n + 1)) else if n + 1 = 12 then ((pcl (tx8 it0) (cpos (tx8 it0) n)).1, none) else if sg (tx8 it0) (pcl (tx8 it0) (cpos (tx8 it0) n)).1 = 59 then psc (tx8 it0) f (n + 1) ((pcl (tx8 it0) (cpos (tx8 it0) n)).1 + 1) else ((pcl (tx8 it0) (cpos (tx8 it0) n)).1, none) := by
        rw [hps, hf]
        show (match (pcl (tx8 it0) (cpos (tx8 it0) n)).2 with | none => _ | some _ => _) = _
        rw [e]
      -- the text's end: the sign there is none
      have hend : sgnv it16 = -1 ↔ (tx8 it0).1 ≤ (pcl (tx8 it0) (cpos (tx8 it0) n)).1 := by
        rw [sv]
        unfold sgI
        constructor
        · intro z
          by_cases y : (pcl (tx8 it0) (cpos (tx8 it0) n)).1 < (tx8 it0).1
          · rw [if_pos y] at z
            have := hP8 (pcl (tx8 it0) (cpos (tx8 it0) n)).1 y
            have z : it0 468 (pcl (tx8 it0) (cpos (tx8 it0) n)).1 = -1 := z
            rw [z] at this
            exact absurd this (by decide)
          · omega
        · intro z
          rw [if_neg (by omega)]
      refine ⟨fun c3 => ?_, fun c3 => ?_⟩
      case refine_2 =>
        subst hq
        refine ⟨⟨J16, rfl, G16⟩, Or.inl ⟨rfl, n + 1, ?_, by omega, c6, cd16⟩⟩
        rw [hpe, if_pos (hend.mp c3)]
      have nend : ¬ (tx8 it0).1 ≤ (pcl (tx8 it0) (cpos (tx8 it0) n)).1 := fun z => c3 (hend.mpr z)
      rw [if_neg nend] at hpe
      refine ⟨fun c4 => ?_, fun c4 => ?_⟩
      · have n12 : n + 1 = 12 := by have := congrArg Int32.toInt c4; rw [c6, ti_12] at this; omega
        subst hq
        refine ⟨⟨J16, rfl, G16⟩, Or.inr ⟨rfl, ?_, ?_⟩⟩
        · rw [hpe, if_pos n12]
        · rw [hpe, if_pos n12]; exact h16
      have n12 : ¬ n + 1 = 12 := fun z => c4 (Int32.toInt_inj.mp (by rw [c6, ti_12]; omega))
      rw [if_neg n12] at hpe
      refine ⟨_, f_X7_skip (n + 1) 59 J16 (by decide) _ h16, ?_⟩
      intro v23 lg24 it25 hq2
      obtain ⟨⟨J25, rfl, T25⟩, _, R25, hs⟩ := hq2
      rw [tx16, t59] at hs
      have G25 : TG it0 it25 := ⟨T25.1.trans G16.1, T25.2.2.1.trans G16.2.1, fun j hj => (T25.2.2.2.2 j hj).trans (G16.2.2 j hj)⟩
      refine ⟨fun c5 => ?_, fun c5 => ?_⟩
      · obtain ⟨_, hy, h25⟩ := hs.resolve_right (fun y => c5 y.1)
        rw [if_pos hy] at hpe
        exact ih (x + 1) it25 (n + 1) J25 G25 fxn (by omega) h25 (cd_t cd16 T25) (by rw [hpe, hf2]; rfl) hqn
      · obtain ⟨_, hn2, h25⟩ := hs.resolve_left (fun y => by rw [y.1] at c5; exact absurd c5 (by decide))
        rw [if_neg hn2] at hpe
        subst hq
        refine ⟨⟨J25, rfl, G25⟩, Or.inr ⟨rfl, ?_, ?_⟩⟩
        · rw [hpe]
        · rw [hpe]; exact h25
  unfold w_X7_scan
  intro it1 m1 it3 m3
  have J1 : I8 lg0 it1 := by rw [m1]; exact i8_at hI (by rw [ti_0]; omega)
  have J3 : I8 lg0 it3 := by rw [m3]; exact i8_u J1 (ok8_7 oq_467 ⟨fun z => absurd z (by decide), fun _ => by rw [ti_0]; omega, fun z => absurd z (by decide)⟩)
  have G3 : TG it0 it3 := ⟨by rw [m3, u2_ne (by decide), m1, u2_ne (by decide)], by rw [m3, u2_row (by decide), m1, u2_row (by decide)], fun j hj => by rw [m3, u2_row (by omega), m1, u2_row (by omega)]⟩
  exact ⟨_, lp 13 0 it3 0 J3 G3 ti_0 (by decide) (by rw [m3, u2_ne (by decide), m1, u2_eq]; exact ti_0) (fun j hj => absurd hj (Nat.not_lt_zero _)) rfl (by decide)⟩
