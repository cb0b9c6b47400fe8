/-! the lists of pairs on the second side -/
theorem p9_k {S F : Nat → Prop} {lg lg' : LGt} {it it' : ITt} {f r : Nat} (hk : Kd S F lg it lg' it') (hr : 489 < r) (h1 : ¬ S r) (h2 : ¬ S (r + 1)) (h3 : ¬ F f) : p9 it' f r = p9 it f r := by
  unfold p9
  rw [(hk.2 f h3).2, (hk.1 r (by omega) h1).2, (hk.1 (r + 1) (by omega) h2).2]
theorem put9 {it it9 it11 it13 : ITt} {f r n n2 : Nat} {a b : Int32} (hr : 489 < r) (m9 : it9 = u2 it r n a) (m11 : it11 = u2 it9 (r + 1) n2 b) (m13 : it13 = u2 it11 489 f (it11 489 f + 1)) : it13 489 f = it 489 f + 1 ∧ p9 it13 f r = (it 489 f + 1, uf1 (it r) n a, uf1 (it (r + 1)) n2 b) := by
  have e : it11 489 f = it 489 f := by rw [m11, u2_row (by omega), m9, u2_row (by omega)]
  have e1 : it13 489 f = it 489 f + 1 := by rw [m13, u2_eq, e]
  refine ⟨e1, ?_⟩
  unfold p9
  rw [e1, m13, u2_row (i := r) (by omega), u2_row (i := r + 1) (by omega), m11, u2_row (i := r) (by omega), u2_up, m9, u2_up, u2_row (i := r + 1) (by omega)]
theorem ad9_1 {it : ITt} {f r : Nat} {cap : Int} {a b : Int32} (h : (it 489 f).toInt = cap) : adP (p9 it f r) cap a b = (-4, p9 it f r) := if_pos h
theorem ad9_2 {it : ITt} {f r : Nat} {cap : Int} {a b : Int32} (h : ¬ (it 489 f).toInt = cap) : adP (p9 it f r) cap a b = (it 489 f + 1, (it 489 f + 1, uf1 (it r) (it 489 f).toNatClampNeg a, uf1 (it (r + 1)) (it 489 f).toNatClampNeg b)) := if_neg h
theorem f_X9_see (a1 a2 : Int32) {lg0 : LGt} {it0 : ITt} (hI : I9 lg0 it0) : w_X9_see a1 a2 (fun (v : Int32) (lg' : LGt) (it' : ITt) => (I9 lg' it' ∧ Kd (fun j => j = 495 ∨ j = 496) (fun k => k = 9) lg0 it0 lg' it') ∧ v = (stP (p9 it0 9 495) 5 a1 a2).1 ∧ p9 it' 9 495 = (stP (p9 it0 9 495) 5 a1 a2).2) lg0 it0 := by
  have im : a1 = -1 ↔ a1.toInt = -1 := by rw [← ti_m1]; exact Int32.toInt_inj.symm
  have b := i9_f hI (j := 489) (k := 9) rfl
  have tc : (5 : Int32).toInt = 5 := by decide
  have ic : it0 489 9 = 5 ↔ (it0 489 9).toInt = 5 := by rw [← tc]; exact Int32.toInt_inj.symm
  have bad : ¬ a1.toInt = -1 → ¬ ((0 ≤ a1.toInt ∧ a1.toInt ≤ 19) ∧ ((0 ≤ a2.toInt ∧ a2.toInt ≤ 5) ∨ a2.toInt = 9)) → stP (p9 it0 9 495) 5 a1 a2 = (-1, p9 it0 9 495) := fun n1 n2 => by unfold stP; rw [if_neg n1, if_pos n2]
  unfold w_X9_see
  rw [im, ic, Int32.toInt_toInt64, tl_0, show ((19 : Int64) : Int64).toInt = 19 by decide]
  refine ⟨fun c => ⟨fun c2 => ⟨⟨hI, kd_r⟩, by rw [bad c (fun q => c2 q.1)]; exact ⟨rfl, rfl⟩⟩, fun c2 => ⟨fun c3 => ?_, fun c3 => ⟨⟨hI, kd_r⟩, by rw [bad c (fun q => c3 q.2)]; exact ⟨rfl, rfl⟩⟩⟩⟩, fun c it17 m17 => ?_⟩
  · have e : stP (p9 it0 9 495) 5 a1 a2 = adP (p9 it0 9 495) 5 a1 a2 := by unfold stP; rw [if_neg c, if_neg (not_not_intro ⟨c2, c3⟩)]
    rw [e]
    refine ⟨fun c4 => ?_, fun c4 => ⟨⟨hI, kd_r⟩, by rw [ad9_1 c4]; exact ⟨rfl, rfl⟩⟩⟩
    rw [ad9_2 c4]
    refine ⟨vp_of b.1 (by omega), fun it9 m9 => ?_⟩
    have e9 : it9 489 9 = it0 489 9 := by rw [m9, u2_row (by decide)]
    have I9a : I9 lg0 it9 := by rw [m9]; exact i9_u hI (by first | exact ok9_n rfl | exact ok9_b (a := 0) (b := 19) rfl (by omega) | exact ok9_b (a := 0) (b := 9) rfl (by omega)) (by decide) (fun q => absurd q (by decide))
    rw [e9]
    refine ⟨vp_of b.1 (by omega), fun it11 m11 it13 m13 => ?_⟩
    have I9b : I9 lg0 it11 := by rw [m11]; exact i9_u I9a (by first | exact ok9_n rfl | exact ok9_b (a := 0) (b := 19) rfl (by omega) | exact ok9_b (a := 0) (b := 9) rfl (by omega)) (by decide) (fun q => absurd q (by decide))
    have e11 : it11 489 9 = it0 489 9 := by rw [m11, u2_row (by decide)]; exact e9
    have fx : (it0 489 9 + 1).toInt = (it0 489 9).toInt + 1 := ad32 rfl ti_1 (by omega) (by omega)
    obtain ⟨q1, q2⟩ := put9 (f := 9) (r := 495) (by decide) m9 m11 m13
    refine ⟨⟨?_, ?_⟩, q1, q2⟩
    · rw [m13, e11]; exact i9_u I9b (ok9_b (a := 0) (b := 5) rfl (by omega)) (by decide) (fun _ => by decide)
    · rw [m13]; exact kd_uf rfl (by rw [m11]; exact kd_ur (by decide) (Or.inr rfl) (by rw [m9]; exact kd_ur (by decide) (Or.inl rfl) kd_r))
  · have e : stP (p9 it0 9 495) 5 a1 a2 = (0, (0, (p9 it0 9 495).2)) := by unfold stP; rw [if_pos c]
    rw [e, m17]
    refine ⟨⟨i9_u hI (ok9_b (a := 0) (b := 5) rfl (by rw [ti_0]; omega)) (by decide) (fun _ => by decide), kd_uf rfl kd_r⟩, rfl, ?_⟩
    unfold p9
    rw [u2_eq, u2_row (i := 495) (by omega), u2_row (i := 495 + 1) (by omega)]
theorem f_X9_book (a1 a2 : Int32) {lg0 : LGt} {it0 : ITt} (hI : I9 lg0 it0) : w_X9_book a1 a2 (fun (v : Int32) (lg' : LGt) (it' : ITt) => (I9 lg' it' ∧ Kd (fun j => j = 499 ∨ j = 500) (fun k => k = 11) lg0 it0 lg' it') ∧ v = (stP (p9 it0 11 499) 8 a1 a2).1 ∧ p9 it' 11 499 = (stP (p9 it0 11 499) 8 a1 a2).2) lg0 it0 := by
  have im : a1 = -1 ↔ a1.toInt = -1 := by rw [← ti_m1]; exact Int32.toInt_inj.symm
  have b := i9_f hI (j := 489) (k := 11) rfl
  have tc : (8 : Int32).toInt = 8 := by decide
  have ic : it0 489 11 = 8 ↔ (it0 489 11).toInt = 8 := by rw [← tc]; exact Int32.toInt_inj.symm
  have bad : ¬ a1.toInt = -1 → ¬ ((0 ≤ a1.toInt ∧ a1.toInt ≤ 19) ∧ ((0 ≤ a2.toInt ∧ a2.toInt ≤ 5) ∨ a2.toInt = 9)) → stP (p9 it0 11 499) 8 a1 a2 = (-1, p9 it0 11 499) := fun n1 n2 => by unfold stP; rw [if_neg n1, if_pos n2]
  unfold w_X9_book
  rw [im, ic, Int32.toInt_toInt64, tl_0, show ((19 : Int64) : Int64).toInt = 19 by decide]
  refine ⟨fun c => ⟨fun c2 => ⟨⟨hI, kd_r⟩, by rw [bad c (fun q => c2 q.1)]; exact ⟨rfl, rfl⟩⟩, fun c2 => ⟨fun c3 => ?_, fun c3 => ⟨⟨hI, kd_r⟩, by rw [bad c (fun q => c3 q.2)]; exact ⟨rfl, rfl⟩⟩⟩⟩, fun c it17 m17 => ?_⟩
  · have e : stP (p9 it0 11 499) 8 a1 a2 = adP (p9 it0 11 499) 8 a1 a2 := by unfold stP; rw [if_neg c, if_neg (not_not_intro ⟨c2, c3⟩)]
    rw [e]
    refine ⟨fun c4 => ?_, fun c4 => ⟨⟨hI, kd_r⟩, by rw [ad9_1 c4]; exact ⟨rfl, rfl⟩⟩⟩
    rw [ad9_2 c4]
    refine ⟨vp_of b.1 (by omega), fun it9 m9 => ?_⟩
    have e9 : it9 489 11 = it0 489 11 := by rw [m9, u2_row (by decide)]
    have I9a : I9 lg0 it9 := by rw [m9]; exact i9_u hI (by first | exact ok9_n rfl | exact ok9_b (a := 0) (b := 19) rfl (by omega) | exact ok9_b (a := 0) (b := 9) rfl (by omega)) (by decide) (fun q => absurd q (by decide))
    rw [e9]
    refine ⟨vp_of b.1 (by omega), fun it11 m11 it13 m13 => ?_⟩
    have I9b : I9 lg0 it11 := by rw [m11]; exact i9_u I9a (by first | exact ok9_n rfl | exact ok9_b (a := 0) (b := 19) rfl (by omega) | exact ok9_b (a := 0) (b := 9) rfl (by omega)) (by decide) (fun q => absurd q (by decide))
    have e11 : it11 489 11 = it0 489 11 := by rw [m11, u2_row (by decide)]; exact e9
    have fx : (it0 489 11 + 1).toInt = (it0 489 11).toInt + 1 := ad32 rfl ti_1 (by omega) (by omega)
    obtain ⟨q1, q2⟩ := put9 (f := 11) (r := 499) (by decide) m9 m11 m13
    refine ⟨⟨?_, ?_⟩, q1, q2⟩
    · rw [m13, e11]; exact i9_u I9b (ok9_b (a := 0) (b := 8) rfl (by omega)) (by decide) (fun _ => by decide)
    · rw [m13]; exact kd_uf rfl (by rw [m11]; exact kd_ur (by decide) (Or.inr rfl) (by rw [m9]; exact kd_ur (by decide) (Or.inl rfl) kd_r))
  · have e : stP (p9 it0 11 499) 8 a1 a2 = (0, (0, (p9 it0 11 499).2)) := by unfold stP; rw [if_pos c]
    rw [e, m17]
    refine ⟨⟨i9_u hI (ok9_b (a := 0) (b := 8) rfl (by rw [ti_0]; omega)) (by decide) (fun _ => by decide), kd_uf rfl kd_r⟩, rfl, ?_⟩
    unfold p9
    rw [u2_eq, u2_row (i := 499) (by omega), u2_row (i := 499 + 1) (by omega)]
theorem f_X9_event (a1 a2 : Int32) {lg0 : LGt} {it0 : ITt} (hI : I9 lg0 it0) : w_X9_event a1 a2 (fun (v : Int32) (lg' : LGt) (it' : ITt) => (I9 lg' it' ∧ Kd (fun j => j = 497 ∨ j = 498) (fun k => k = 10) lg0 it0 lg' it') ∧ v = (evP (rN (vw9 lg0 it0)) (p9 it0 10 497) a1 a2).1 ∧ p9 it' 10 497 = (evP (rN (vw9 lg0 it0)) (p9 it0 10 497) a1 a2).2) lg0 it0 := by
  have im : a1 = -1 ↔ a1.toInt = -1 := by rw [← ti_m1]; exact Int32.toInt_inj.symm
  have i0 : a1 = 0 ↔ a1.toInt = 0 := by rw [← ti_0]; exact Int32.toInt_inj.symm
  have i1 : a1 = 1 ↔ a1.toInt = 1 := by rw [← ti_1]; exact Int32.toInt_inj.symm
  have i2 : a1 = 2 ↔ a1.toInt = 2 := by rw [← ti_2]; exact Int32.toInt_inj.symm
  have i3 : a1 = 3 ↔ a1.toInt = 3 := by rw [← ti_3]; exact Int32.toInt_inj.symm
  have j0 : a2 = 0 ↔ a2.toInt = 0 := by rw [← ti_0]; exact Int32.toInt_inj.symm
  have j9 : a2 = 9 ↔ a2.toInt = 9 := by rw [← ti_9]; exact Int32.toInt_inj.symm
  obtain ⟨hn, h6, hs⟩ := n9_b hI
  have b := i9_f hI (j := 489) (k := 10) rfl
  have tc : (8 : Int32).toInt = 8 := by decide
  have ic : it0 489 10 = 8 ↔ (it0 489 10).toInt = 8 := by rw [← tc]; exact Int32.toInt_inj.symm
  generalize hE : evP (rN (vw9 lg0 it0)) (p9 it0 10 497) a1 a2 = E
  generalize rN (vw9 lg0 it0) = Nn at hn h6 hE
  have put : E = adP (p9 it0 10 497) 8 a1 a2 → (0 ≤ a2.toInt ∧ a2.toInt ≤ 9) → w_X9_event_b90 a1 a2 (fun (v : Int32) (lg' : LGt) (it' : ITt) => (I9 lg' it' ∧ Kd (fun j => j = 497 ∨ j = 498) (fun k => k = 10) lg0 it0 lg' it') ∧ v = E.1 ∧ p9 it' 10 497 = E.2) lg0 it0 := by
    intro e hb2
    rw [e]
    unfold w_X9_event_b90
    rw [ic]
    refine ⟨fun c4 => ?_, fun c4 => ⟨⟨hI, kd_r⟩, by rw [ad9_1 c4]; exact ⟨rfl, rfl⟩⟩⟩
    rw [ad9_2 c4]
    refine ⟨vp_of b.1 (by omega), fun it9 m9 => ?_⟩
    have e9 : it9 489 10 = it0 489 10 := by rw [m9, u2_row (by decide)]
    have I9a : I9 lg0 it9 := by rw [m9]; exact i9_u hI (by first | exact ok9_n rfl | exact ok9_b (a := 0) (b := 9) rfl hb2) (by decide) (fun q => absurd q (by decide))
    rw [e9]
    refine ⟨vp_of b.1 (by omega), fun it11 m11 it13 m13 => ?_⟩
    have I9b : I9 lg0 it11 := by rw [m11]; exact i9_u I9a (by first | exact ok9_n rfl | exact ok9_b (a := 0) (b := 9) rfl hb2) (by decide) (fun q => absurd q (by decide))
    have e11 : it11 489 10 = it0 489 10 := by rw [m11, u2_row (by decide)]; exact e9
    have fx : (it0 489 10 + 1).toInt = (it0 489 10).toInt + 1 := ad32 rfl ti_1 (by omega) (by omega)
    obtain ⟨q1, q2⟩ := put9 (f := 10) (r := 497) (by decide) m9 m11 m13
    refine ⟨⟨?_, ?_⟩, q1, q2⟩
    · rw [m13, e11]; exact i9_u I9b (ok9_b (a := 0) (b := 8) rfl (by omega)) (by decide) (fun _ => by decide)
    · rw [m13]; exact kd_uf rfl (by rw [m11]; exact kd_ur (by decide) (Or.inr rfl) (by rw [m9]; exact kd_ur (by decide) (Or.inl rfl) kd_r))
  have no : ∀ x : Int32, E = (x, p9 it0 10 497) → (fun (v : Int32) (lg' : LGt) (it' : ITt) => (I9 lg' it' ∧ Kd (fun j => j = 497 ∨ j = 498) (fun k => k = 10) lg0 it0 lg' it') ∧ v = E.1 ∧ p9 it' 10 497 = E.2) x lg0 it0 := fun x e => ⟨⟨hI, kd_r⟩, by rw [e]; exact ⟨rfl, rfl⟩⟩
  have mid : ¬ a1.toInt = -1 → ¬ (¬ (0 ≤ a1.toInt ∧ a1.toInt ≤ 3) ∨ (a1.toInt = 0 ∧ ¬ (0 ≤ a2.toInt ∧ a2.toInt < Nn))) → w_X9_event_b38 a1 a2 (fun (v : Int32) (lg' : LGt) (it' : ITt) => (I9 lg' it' ∧ Kd (fun j => j = 497 ∨ j = 498) (fun k => k = 10) lg0 it0 lg' it') ∧ v = E.1 ∧ p9 it' 10 497 = E.2) lg0 it0 := by
    intro n1 n2
    unfold evP at hE
    rw [if_neg n1, if_neg n2] at hE
    have P : ¬ ((a1.toInt = 1 ∧ ¬ a2.toInt = 0) ∨ (a1.toInt = 2 ∧ ¬ (0 ≤ a2.toInt ∧ a2.toInt ≤ 4)) ∨ (a1.toInt = 3 ∧ ¬ (0 ≤ a2.toInt ∧ a2.toInt ≤ 4) ∧ ¬ a2.toInt = 9)) → E = adP (p9 it0 10 497) 8 a1 a2 := fun q => by rw [if_neg q] at hE; exact hE.symm
    have N : ((a1.toInt = 1 ∧ ¬ a2.toInt = 0) ∨ (a1.toInt = 2 ∧ ¬ (0 ≤ a2.toInt ∧ a2.toInt ≤ 4)) ∨ (a1.toInt = 3 ∧ ¬ (0 ≤ a2.toInt ∧ a2.toInt ≤ 4) ∧ ¬ a2.toInt = 9)) → E = (-2, p9 it0 10 497) := fun q => by rw [if_pos q] at hE; exact hE.symm
    unfold w_X9_event_b38 w_X9_event_b47 w_X9_event_b64
    rw [i1, i2, i3, j0, j9, Int32.toInt_toInt64, tl_0, show ((4 : Int64) : Int64).toInt = 4 by decide]
    refine ⟨fun c1 => ⟨fun c2 => ⟨fun c3 => put (P (by omega)) (by omega), fun c3 => ⟨fun c4 => put (P (by omega)) (by omega), fun c4 => ⟨fun c5 => put (P (by omega)) (by omega), fun c5 => no _ (N (by omega))⟩⟩⟩, fun c2 => ⟨fun c3 => no _ (N (by omega)), fun c3 => ⟨fun c4 => put (P (by omega)) (by omega), fun c4 => absurd c4 (by omega)⟩⟩⟩, fun c1 => ⟨fun c2 => no _ (N (by omega)), fun c2 => ⟨fun c3 => ⟨fun c4 => put (P (by omega)) (by omega), fun c4 => absurd c4 (by omega)⟩, fun c3 => absurd c3 (by omega)⟩⟩⟩
  have bad : ¬ a1.toInt = -1 → (¬ (0 ≤ a1.toInt ∧ a1.toInt ≤ 3) ∨ (a1.toInt = 0 ∧ ¬ (0 ≤ a2.toInt ∧ a2.toInt < Nn))) → E = (-1, p9 it0 10 497) := fun n1 n2 => by rw [← hE]; unfold evP; rw [if_neg n1, if_pos n2]
  unfold w_X9_event
  rw [im, i0, hs, hn, Int32.toInt_toInt64, tl_0, show ((3 : Int64) : Int64).toInt = 3 by decide]
  refine ⟨fun c => ⟨fun c2 => no _ (bad c (by omega)), fun c2 => ⟨fun c4 => mid c (by omega), fun c4 => ⟨fun c5 => mid c (by omega), fun c5 => no _ (bad c (by omega))⟩⟩⟩, fun c it11 m11 => ?_⟩
  have e : E = (0, (0, (p9 it0 10 497).2)) := by rw [← hE]; unfold evP; rw [if_pos c]
  rw [e, m11]
  refine ⟨⟨i9_u hI (ok9_b (a := 0) (b := 8) rfl (by rw [ti_0]; omega)) (by decide) (fun _ => by decide), kd_uf rfl kd_r⟩, rfl, ?_⟩
  unfold p9
  rw [u2_eq, u2_row (i := 497) (by omega), u2_row (i := 497 + 1) (by omega)]
/-! become, on the first side -/
theorem vac {f g : Nat → Int32} {n k : Nat} : va_cpy f g 0 0 n k = if k < n then f k else g k := by
  unfold va_cpy
  by_cases c : k < n
  · rw [if_pos (by omega), if_pos c]; exact congrArg f (by omega)
  · rw [if_neg (by omega), if_neg c]
/-- the first n pairs are those of Y, the others are X's still -/
def bcP (X Y : Pr) : Pr := (Y.1, (fun k => if k < Y.1.toNatClampNeg then Y.2.1 k else X.2.1 k), (fun k => if k < Y.1.toNatClampNeg then Y.2.2 k else X.2.2 k))
theorem f_X2_become {a0 : Nat} (ha0 : a0 ∈ pb) {a1 : Nat} (ha1 : a1 ∈ pb) (hap : a0 + 3 ≤ a1 ∨ a1 + 3 ≤ a0) {lg0 : LGt} {it0 : ITt} (hI : I8 lg0 it0) (hL : (LAY (a1 + 1)).2 = (LAY (a0 + 1)).2) : w_X2_become a0 a1 (fun (lg' : LGt) (it' : ITt) => (I8 lg' it' ∧ Kc (fun j => (a0 ≤ j ∧ j < a0 + 3)) lg0 it0 lg' it') ∧ p8 it' a0 = bcP (p8 it0 a0) (p8 it0 a1)) lg0 it0 := by
  have h1 := pb_len ha0
  have h2 := pb_len ha1
  have hs := i8_2 hI (obp ha1)
  have hn : (Int32.ofNat (LAY (a0 + 1)).2).toInt = ((LAY (a0 + 1)).2 : Int) := oN (lay_le _)
  have e : (if Int32.ofNat (LAY (a0 + 1)).2 < it0 a1 2 then Int32.ofNat (LAY (a0 + 1)).2 else it0 a1 2) = it0 a1 2 := by
    rw [if_neg]
    rw [Int32.lt_iff_toInt_lt]
    omega
  have hc := cl32 hs.1
  have z : ¬ it0 a1 2 < 0 := by rw [Int32.lt_iff_toInt_lt, ti_0]; omega
  have z0 : ¬ (0 : Int32) < 0 := by decide
  have n0 : (0 : Int32).toNatClampNeg = 0 := by decide
  unfold w_X2_become
  rw [e]
  intro it1 m1
  have e1 : it1 a0 2 = it0 a1 2 := by rw [m1]; exact u2_eq
  have I1 : I8 lg0 it1 := by rw [m1]; exact i8_u hI (ok8_2 (obp ha0) (fun _ => by omega))
  have K1 : Kc (fun j => (a0 ≤ j ∧ j < a0 + 3)) lg0 it0 lg0 it1 := by rw [m1]; exact kc_u (by first | omega | (dsimp only; omega)) kc_r
  rw [e1]
  refine ⟨⟨⟨pob1 ha1, pob1 ha0⟩, ⟨z0, z0, z⟩, by omega, by omega⟩, ?_⟩
  intro it3 m3
  have e3 : it3 a0 2 = it0 a1 2 := by rw [m3]; exact (congrFun (rcp_row (by omega)) 2).trans e1
  have I3 : I8 lg0 it3 := by rw [m3]; exact i8_cp I1 (pob1 ha0)
  have K3 : Kc (fun j => (a0 ≤ j ∧ j < a0 + 3)) lg0 it0 lg0 it3 := by rw [m3]; exact kc_cpi (by first | omega | (dsimp only; omega)) K1
  rw [e3]
  refine ⟨⟨⟨pob2 ha1, pob2 ha0⟩, ⟨z0, z0, z⟩, by omega, by omega⟩, ?_⟩
  intro it7 m7
  refine ⟨by rw [m7]; exact ⟨i8_cp I3 (pob2 ha0), kc_cpi (by first | omega | (dsimp only; omega)) K3⟩, ?_⟩
  have w0 : it7 a0 2 = it0 a1 2 := by rw [m7]; exact (congrFun (rcp_row (by omega)) 2).trans e3
  have w1 : it7 (a0 + 1) = fun k => if k < (it0 a1 2).toNatClampNeg then it0 (a1 + 1) k else it0 (a0 + 1) k := by
    rw [m7, rcp_row (by omega), m3, rcp_eq, n0, m1, u2_row (by omega), u2_row (by omega)]
    funext k; exact vac
  have w2 : it7 (a0 + 2) = fun k => if k < (it0 a1 2).toNatClampNeg then it0 (a1 + 2) k else it0 (a0 + 2) k := by
    rw [m7, rcp_eq, n0, m3, rcp_row (by omega), rcp_row (by omega), m1, u2_row (by omega), u2_row (by omega)]
    funext k; exact vac
  unfold p8 bcP
  rw [w0, w1, w2]
theorem pq_bc {X Y Z : Pr} (h : PQ Y Z) : PQ (bcP X Y) Z := ⟨h.1, h.2.1, h.2.2.1, fun k hk => by
  have hk : k < Y.1.toNatClampNeg := hk
  have e := h.2.2.2 k hk
  show (if k < Y.1.toNatClampNeg then Y.2.1 k else X.2.1 k) = Z.2.1 k ∧ (if k < Y.1.toNatClampNeg then Y.2.2 k else X.2.2 k) = Z.2.2 k
  rw [if_pos hk, if_pos hk]
  exact e⟩
theorem as_bc {X Y : Pr} (h : AS X) (g : AS Y) : AS (bcP X Y) := fun k => by
  show okS (if k < Y.1.toNatClampNeg then Y.2.1 k else X.2.1 k) (if k < Y.1.toNatClampNeg then Y.2.2 k else X.2.2 k)
  by_cases c : k < Y.1.toNatClampNeg
  · rw [if_pos c, if_pos c]; exact g k
  · rw [if_neg c, if_neg c]; exact h k
theorem ae_bc {X Y : Pr} (h : AE X) (g : AE Y) : AE (bcP X Y) := fun k => by
  show okE (if k < Y.1.toNatClampNeg then Y.2.1 k else X.2.1 k) (if k < Y.1.toNatClampNeg then Y.2.2 k else X.2.2 k)
  by_cases c : k < Y.1.toNatClampNeg
  · rw [if_pos c, if_pos c]; exact g k
  · rw [if_neg c, if_neg c]; exact h k
/-- what a stand becomes: the rail, and three lists -/
def X4b (a0 a1 : Nat) (lg0 : LGt) (it0 : ITt) (lg' : LGt) (it' : ITt) : Prop := (vw8 lg' it' (a0 + 1) = vw8 lg0 it0 (a1 + 1) ∧ (Ok8 it0 (a1 + 1) → Ok8 it' (a0 + 1))) ∧ p8 it' (a0 + 18) = bcP (p8 it0 (a0 + 18)) (p8 it0 (a1 + 18)) ∧ p8 it' (a0 + 21) = bcP (p8 it0 (a0 + 21)) (p8 it0 (a1 + 21)) ∧ p8 it' (a0 + 24) = bcP (p8 it0 (a0 + 24)) (p8 it0 (a1 + 24))
theorem e_X4_become {a0 : Nat} (ha0 : a0 ∈ sb) {a1 : Nat} (ha1 : a1 ∈ sb) (hne : a0 ≠ a1) {lg0 : LGt} {it0 : ITt} (hI : I8 lg0 it0) : w_X4_become a0 a1 (fun (lg' : LGt) (it' : ITt) => (I8 lg' it' ∧ Kc (fun j => (a0 ≤ j ∧ j < a0 + 27)) lg0 it0 lg' it') ∧ X4b a0 a1 lg0 it0 lg' it') lg0 it0 := by
  have ap : a0 + 27 ≤ a1 ∨ a1 + 27 ≤ a0 := (show ∀ r ∈ sb, ∀ s ∈ sb, r ≠ s → r + 27 ≤ s ∨ s + 27 ≤ r by decide) a0 ha0 a1 ha1 hne
  have hln := sb_lens ha0 ha1
  unfold w_X4_become
  refine ⟨_, f_X3_become (sm0 ha0) (sm0 ha1) hI (by omega), ?_⟩
  rintro lgA itA ⟨⟨JA, KA⟩, VA⟩
  refine ⟨_, f_X2_become (sm1 ha0) (sm1 ha1) (by omega) JA hln.1, ?_⟩
  rintro lgB itB ⟨⟨JB, KB⟩, eB⟩
  refine ⟨_, f_X2_become (sm2 ha0) (sm2 ha1) (by omega) JB hln.2.1, ?_⟩
  rintro lgC itC ⟨⟨JC, KC⟩, eC⟩
  refine ⟨_, f_X2_become (sm3 ha0) (sm3 ha1) (by omega) JC hln.2.2, ?_⟩
  rintro lgD itD ⟨⟨JD, KD⟩, eD⟩
  have k1 := vw8_k (sm0 ha0) JA KB (fun j h1 h2 h3 => by omega)
  have k2 := vw8_k (sm0 ha0) JB KC (fun j h1 h2 h3 => by omega)
  have k3 := vw8_k (sm0 ha0) JC KD (fun j h1 h2 h3 => by omega)
  have A (q : Nat) (h : q ≤ 24) (h2 : 18 ≤ q) (a : Nat) (ha : a = a0 ∨ a = a1) : p8 itA (a + q) = p8 it0 (a + q) := p8_k KA (fun j hj => by omega)
  refine ⟨⟨JD, ?_⟩, ⟨?_, fun h => k3.2 (k2.2 (k1.2 (VA.2 h)))⟩, ?_, ?_, ?_⟩
  · exact kc_t (kc_t (kc_t (kc_t kc_r KA (fun j hj => by omega)) KB (fun j hj => by omega)) KC (fun j hj => by omega)) KD (fun j hj => by omega)
  · rw [k3.1, k2.1, k1.1]; exact VA.1
  · rw [p8_k KD (fun j hj => by omega), p8_k KC (fun j hj => by omega), eB, A 18 (by omega) (by omega) a0 (Or.inl rfl), A 18 (by omega) (by omega) a1 (Or.inr rfl)]
  · rw [p8_k KD (fun j hj => by omega), eC, p8_k KB (fun j hj => by omega), p8_k (a := a1 + 21) KB (fun j hj => by omega), A 21 (by omega) (by omega) a0 (Or.inl rfl), A 21 (by omega) (by omega) a1 (Or.inr rfl)]
  · rw [eD, p8_k KC (fun j hj => by omega), p8_k (a := a1 + 24) KC (fun j hj => by omega), p8_k KB (fun j hj => by omega), p8_k (a := a1 + 24) KB (fun j hj => by omega), A 24 (by omega) (by omega) a0 (Or.inl rfl), A 24 (by omega) (by omega) a1 (Or.inr rfl)]
