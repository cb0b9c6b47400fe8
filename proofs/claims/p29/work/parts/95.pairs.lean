/-! what is seen, booked, and happens: lists of pairs, on both sides -/
abbrev Pr : Type := Int32 × (Nat → Int32) × (Nat → Int32)
def uf1 (f : Nat → Int32) (n : Nat) (a : Int32) : Nat → Int32 := fun k => if k = n then a else f k
def adP (X : Pr) (cap : Int) (a b : Int32) : Int32 × Pr := if X.1.toInt = cap then (-4, X) else (X.1 + 1, (X.1 + 1, uf1 X.2.1 X.1.toNatClampNeg a, uf1 X.2.2 X.1.toNatClampNeg b))
def okS (a b : Int32) : Prop := (0 ≤ a.toInt ∧ a.toInt ≤ 19) ∧ ((0 ≤ b.toInt ∧ b.toInt ≤ 5) ∨ b.toInt = 9)
def stP (X : Pr) (cap : Int) (a b : Int32) : Int32 × Pr := if a.toInt = -1 then (0, (0, X.2)) else if ¬ ((0 ≤ a.toInt ∧ a.toInt ≤ 19) ∧ ((0 ≤ b.toInt ∧ b.toInt ≤ 5) ∨ b.toInt = 9)) then (-1, X) else adP X cap a b
def evP (N : Nat) (X : Pr) (a b : Int32) : Int32 × Pr := if a.toInt = -1 then (0, (0, X.2)) else if ¬ (0 ≤ a.toInt ∧ a.toInt ≤ 3) ∨ (a.toInt = 0 ∧ ¬ (0 ≤ b.toInt ∧ b.toInt < N)) then (-1, X) else if (a.toInt = 1 ∧ ¬ b.toInt = 0) ∨ (a.toInt = 2 ∧ ¬ (0 ≤ b.toInt ∧ b.toInt ≤ 4)) ∨ (a.toInt = 3 ∧ ¬ (0 ≤ b.toInt ∧ b.toInt ≤ 4) ∧ ¬ b.toInt = 9) then (-2, X) else adP X 8 a b
def p8 (it : ITt) (a : Nat) : Pr := (it a 2, it (a + 1), it (a + 2))
def p9 (it : ITt) (f r : Nat) : Pr := (it 489 f, it r, it (r + 1))
theorem u2_up {f : ITt} {row k : Nat} {v : Int32} : u2 f row k v row = uf1 (f row) k v := by
  funext b
  unfold u2 uf1
  by_cases c : b = k
  · rw [if_pos ⟨rfl, c⟩, if_pos c]
  · rw [if_neg (fun q => c q.2), if_neg c]
theorem p8_k {S : Nat → Prop} {lg lg' : LGt} {it it' : ITt} {a : Nat} (hk : Kc S lg it lg' it') (hs : ∀ j, S j → j < a ∨ a + 3 ≤ j) : p8 it' a = p8 it a := by
  unfold p8
  rw [(hk a (fun q => by have := hs _ q; omega)).2, (hk (a + 1) (fun q => by have := hs _ q; omega)).2, (hk (a + 2) (fun q => by have := hs _ q; omega)).2]
/-- the same pairs, as far as they go -/
def PQ (X Y : Pr) : Prop := X.1 = Y.1 ∧ 0 ≤ X.1.toInt ∧ X.1.toInt ≤ 8 ∧ ∀ k, k < X.1.toNatClampNeg → X.2.1 k = Y.2.1 k ∧ X.2.2 k = Y.2.2 k
theorem pq_0 {X Y : Pr} : PQ (0, X.2) (0, Y.2) := ⟨rfl, by show 0 ≤ (0 : Int32).toInt; rw [ti_0]; omega, by show (0 : Int32).toInt ≤ 8; rw [ti_0]; omega, fun k hk => absurd hk (by show ¬ k < (0 : Int32).toNatClampNeg; rw [show (0 : Int32).toNatClampNeg = 0 by decide]; omega)⟩
theorem pq_ad {X Y : Pr} {cap : Int} {a b : Int32} (h : PQ X Y) (hc : X.1.toInt ≤ cap) (h8 : cap ≤ 8) : (adP X cap a b).1 = (adP Y cap a b).1 ∧ PQ (adP X cap a b).2 (adP Y cap a b).2 := by
  obtain ⟨e, h0, h1, hk⟩ := h
  unfold adP
  rw [← e]
  by_cases c : X.1.toInt = cap
  · rw [if_pos c, if_pos c]; exact ⟨rfl, e, h0, h1, hk⟩
  · rw [if_neg c, if_neg c]
    have f : (X.1 + 1).toInt = X.1.toInt + 1 := ad32 rfl ti_1 (by omega) (by omega)
    have k0 := cl32 h0
    have k1 := cl32 (i := X.1 + 1) (by omega)
    refine ⟨rfl, rfl, by show 0 ≤ (X.1 + 1).toInt; omega, by show (X.1 + 1).toInt ≤ 8; omega, fun k hk2 => ?_⟩
    have hk2 : k < (X.1 + 1).toNatClampNeg := hk2
    show uf1 X.2.1 X.1.toNatClampNeg a k = uf1 Y.2.1 X.1.toNatClampNeg a k ∧ uf1 X.2.2 X.1.toNatClampNeg b k = uf1 Y.2.2 X.1.toNatClampNeg b k
    unfold uf1
    by_cases z : k = X.1.toNatClampNeg
    · rw [if_pos z, if_pos z, if_pos z, if_pos z]; exact ⟨rfl, rfl⟩
    · rw [if_neg z, if_neg z, if_neg z, if_neg z]; exact hk k (by omega)
theorem pq_st {X Y : Pr} {cap : Int} {a b : Int32} (h : PQ X Y) (hc : X.1.toInt ≤ cap) (h8 : cap ≤ 8) : (stP X cap a b).1 = (stP Y cap a b).1 ∧ PQ (stP X cap a b).2 (stP Y cap a b).2 := by
  unfold stP
  split
  · exact ⟨rfl, pq_0⟩
  · split
    · exact ⟨rfl, h⟩
    · exact pq_ad h hc h8
theorem pq_ev {N : Nat} {X Y : Pr} {a b : Int32} (h : PQ X Y) : (evP N X a b).1 = (evP N Y a b).1 ∧ PQ (evP N X a b).2 (evP N Y a b).2 := by
  unfold evP
  split
  · exact ⟨rfl, pq_0⟩
  · split
    · exact ⟨rfl, h⟩
    · split
      · exact ⟨rfl, h⟩
      · exact pq_ad h h.2.2.1 (by omega)
/-- every pair that was ever put there -/
def AS (X : Pr) : Prop := ∀ k, okS (X.2.1 k) (X.2.2 k)
def okE (a b : Int32) : Prop := (a.toInt = 0 ∨ a.toInt = 1 ∨ (a.toInt = 2 ∧ 0 ≤ b.toInt ∧ b.toInt ≤ 4) ∨ (a.toInt = 3 ∧ ((0 ≤ b.toInt ∧ b.toInt ≤ 4) ∨ b.toInt = 9)))
def AE (X : Pr) : Prop := ∀ k, okE (X.2.1 k) (X.2.2 k)
theorem as_st {X : Pr} {cap : Int} {a b : Int32} (h : AS X) : AS (stP X cap a b).2 := by
  unfold stP
  split
  · exact h
  · split
    · exact h
    · rename_i c
      have c := Decidable.not_not.mp c
      unfold adP
      split
      · exact h
      · intro k
        show okS (uf1 X.2.1 X.1.toNatClampNeg a k) (uf1 X.2.2 X.1.toNatClampNeg b k)
        unfold uf1
        by_cases z : k = X.1.toNatClampNeg
        · rw [if_pos z, if_pos z]; exact c
        · rw [if_neg z, if_neg z]; exact h k
theorem ae_ev {N : Nat} {X : Pr} {a b : Int32} (h : AE X) : AE (evP N X a b).2 := by
  unfold evP
  split
  · exact h
  · split
    · exact h
    · split
      · exact h
      · unfold adP
        split
        · exact h
        · intro k
          show okE (uf1 X.2.1 X.1.toNatClampNeg a k) (uf1 X.2.2 X.1.toNatClampNeg b k)
          unfold uf1
          by_cases z : k = X.1.toNatClampNeg
          · rw [if_pos z, if_pos z]; unfold okE; omega
          · rw [if_neg z, if_neg z]; exact h k
/-! the first side -/
theorem ad8_1 {it0 : ITt} {a0 : Nat} {cap : Int} {a1 a2 : Int32} (h : (it0 a0 2).toInt = cap) : adP (p8 it0 a0) cap a1 a2 = (-4, p8 it0 a0) := if_pos h
theorem ad8_2 {it0 : ITt} {a0 : Nat} {cap : Int} {a1 a2 : Int32} (h : ¬ (it0 a0 2).toInt = cap) : adP (p8 it0 a0) cap a1 a2 = (it0 a0 2 + 1, (it0 a0 2 + 1, uf1 (it0 (a0 + 1)) (it0 a0 2).toNatClampNeg a1, uf1 (it0 (a0 + 2)) (it0 a0 2).toNatClampNeg a2)) := if_neg h
theorem f_X2_add {a0 : Nat} (ha0 : a0 ∈ pb) (a1 a2 : Int32) {lg0 : LGt} {it0 : ITt} (hI : I8 lg0 it0) : w_X2_add a0 a1 a2 (fun (v : Int32) (lg' : LGt) (it' : ITt) => (I8 lg' it' ∧ Kc (fun j => (a0 ≤ j ∧ j < a0 + 3)) lg0 it0 lg' it') ∧ v = (adP (p8 it0 a0) ((LAY (a0 + 1)).2 : Int) a1 a2).1 ∧ p8 it' a0 = (adP (p8 it0 a0) ((LAY (a0 + 1)).2 : Int) a1 a2).2) lg0 it0 := by
  have hln := pb_len ha0
  have f11 : 0 ≤ (it0 a0 2).toInt ∧ (it0 a0 2).toInt ≤ ((LAY (a0 + 1)).2 : Int) := i8_2 hI (obp ha0)
  have f12 : (Int32.ofNat (LAY (a0 + 1)).2).toInt = ((LAY (a0 + 1)).2 : Int) := oN (lay_le _)
  unfold w_X2_add
  rw [lt0, f12]
  refine ⟨fun c => ?_, fun c => ⟨⟨hI, kc_r⟩, ?_⟩⟩
  case refine_2 =>
    have e : adP (p8 it0 a0) ((LAY (a0 + 1)).2 : Int) a1 a2 = (-4, p8 it0 a0) := ad8_1 (by omega)
    rw [e]; exact ⟨rfl, rfl⟩
  have e : adP (p8 it0 a0) ((LAY (a0 + 1)).2 : Int) a1 a2 = (it0 a0 2 + 1, (it0 a0 2 + 1, uf1 (it0 (a0 + 1)) (it0 a0 2).toNatClampNeg a1, uf1 (it0 (a0 + 2)) (it0 a0 2).toNatClampNeg a2)) := ad8_2 (by omega)
  rw [e]
  have hv1 : vp_in (it0 a0 2) (LAY (a0 + 1)).2 := vp_of f11.1 c
  refine ⟨hv1, fun it3 m3 => ?_⟩
  have e3 : it3 a0 2 = it0 a0 2 := by rw [m3, u2_row (by omega)]
  have I3 : I8 lg0 it3 := by rw [m3]; exact i8_u hI (ok8_a (pob1 ha0) (by decide))
  rw [e3]
  refine ⟨vp_of f11.1 (by omega), fun it5 m5 => ?_⟩
  have e5 : it5 a0 2 = it0 a0 2 := by rw [m5, u2_row (by omega)]; exact e3
  have I5 : I8 lg0 it5 := by rw [m5]; exact i8_u I3 (ok8_a (pob2 ha0) (by decide))
  have fx : (it0 a0 2 + 1).toInt = (it0 a0 2).toInt + 1 := ad32 rfl ti_1 (by omega) (by have := lay_le (a0 + 1); omega)
  rw [e5]
  intro it7 m7
  have e7 : it7 a0 2 = it0 a0 2 + 1 := by rw [m7, u2_eq]
  have I7 : I8 lg0 it7 := by rw [m7]; exact i8_u I5 (ok8_2 (obp ha0) (fun _ => by omega))
  refine ⟨⟨I7, ?_⟩, e7, ?_⟩
  · rw [m7]; exact kc_u (by omega) (by rw [m5]; exact kc_u (by omega) (by rw [m3]; exact kc_u (by omega) kc_r))
  · unfold p8
    rw [e7]
    rw [m7, u2_row (i := a0 + 1) (by omega), u2_row (i := a0 + 2) (by omega), m5, u2_row (i := a0 + 1) (by omega), u2_up, m3, u2_up, u2_row (i := a0 + 2) (by omega)]
theorem f_X8_addStrike {a0 : Nat} (ha0 : a0 ∈ pb) (a1 a2 : Int32) {lg0 : LGt} {it0 : ITt} (hI : I8 lg0 it0) : w_X8_addStrike a0 a1 a2 (fun (v : Int32) (lg' : LGt) (it' : ITt) => (I8 lg' it' ∧ Kc (fun j => (a0 ≤ j ∧ j < a0 + 3)) lg0 it0 lg' it') ∧ v = (stP (p8 it0 a0) ((LAY (a0 + 1)).2 : Int) a1 a2).1 ∧ p8 it' a0 = (stP (p8 it0 a0) ((LAY (a0 + 1)).2 : Int) a1 a2).2) lg0 it0 := by
  have im : a1 = -1 ↔ a1.toInt = -1 := by rw [← ti_m1]; exact Int32.toInt_inj.symm
  unfold w_X8_addStrike
  rw [im, lt0, le0, ti_0, ti_20]
  have bad : ¬ a1.toInt = -1 → ¬ ((0 ≤ a1.toInt ∧ a1.toInt ≤ 19) ∧ ((0 ≤ a2.toInt ∧ a2.toInt ≤ 5) ∨ a2.toInt = 9)) → stP (p8 it0 a0) ((LAY (a0 + 1)).2 : Int) a1 a2 = (-1, p8 it0 a0) := fun n1 n2 => by unfold stP; rw [if_neg n1, if_pos n2]
  refine ⟨fun c => ⟨fun c2 => ⟨⟨hI, kc_r⟩, by rw [bad c (by omega)]; exact ⟨rfl, rfl⟩⟩, fun c2 => ⟨fun c3 => ⟨⟨hI, kc_r⟩, by rw [bad c (by omega)]; exact ⟨rfl, rfl⟩⟩, fun c3 => ⟨fun c4 => ?_, fun c4 => ⟨⟨hI, kc_r⟩, by rw [bad c (fun q => c4 q.2)]; exact ⟨rfl, rfl⟩⟩⟩⟩⟩, fun c it16 m16 => ?_⟩
  · have e : stP (p8 it0 a0) ((LAY (a0 + 1)).2 : Int) a1 a2 = adP (p8 it0 a0) ((LAY (a0 + 1)).2 : Int) a1 a2 := by unfold stP; rw [if_neg c, if_neg (not_not_intro ⟨by omega, c4⟩)]
    rw [e]
    exact ⟨_, f_X2_add ha0 a1 a2 hI, fun v lg' it' h => h⟩
  · have e : stP (p8 it0 a0) ((LAY (a0 + 1)).2 : Int) a1 a2 = (0, (0, (p8 it0 a0).2)) := by unfold stP; rw [if_pos c]
    rw [e, m16]
    refine ⟨⟨i8_u hI (ok8_2 (obp ha0) (fun _ => by rw [ti_0]; omega)), kc_u (by omega) kc_r⟩, rfl, ?_⟩
    unfold p8
    rw [u2_eq, u2_row (i := a0 + 1) (by omega), u2_row (i := a0 + 2) (by omega)]
theorem c8L (a : Nat) (h : a = 19 ∨ a = 22 ∨ a = 25) : ((LAY (a + 1)).2 : Int) = if a = 19 then 5 else 8 := by rcases h with rfl | rfl | rfl <;> decide +kernel
theorem f_X8_see (a1 a2 : Int32) {lg0 : LGt} {it0 : ITt} (hI : I8 lg0 it0) : w_X8_see a1 a2 (fun (v : Int32) (lg' : LGt) (it' : ITt) => (I8 lg' it' ∧ Kc (fun j => (19 ≤ j ∧ j < 22)) lg0 it0 lg' it') ∧ v = (stP (p8 it0 19) 5 a1 a2).1 ∧ p8 it' 19 = (stP (p8 it0 19) 5 a1 a2).2) lg0 it0 := by
  have h := f_X8_addStrike (a0 := 19) (by decide) a1 a2 hI
  rw [c8L 19 (by decide), if_pos rfl] at h
  unfold w_X8_see
  exact ⟨_, h, fun v lg' it' h => h⟩
theorem f_X8_book (a1 a2 : Int32) {lg0 : LGt} {it0 : ITt} (hI : I8 lg0 it0) : w_X8_book a1 a2 (fun (v : Int32) (lg' : LGt) (it' : ITt) => (I8 lg' it' ∧ Kc (fun j => (25 ≤ j ∧ j < 28)) lg0 it0 lg' it') ∧ v = (stP (p8 it0 25) 8 a1 a2).1 ∧ p8 it' 25 = (stP (p8 it0 25) 8 a1 a2).2) lg0 it0 := by
  have h := f_X8_addStrike (a0 := 25) (by decide) a1 a2 hI
  rw [c8L 25 (by decide), if_neg (by decide)] at h
  unfold w_X8_book
  exact ⟨_, h, fun v lg' it' h => h⟩
theorem f_X8_event (a1 a2 : Int32) {lg0 : LGt} {it0 : ITt} (hI : I8 lg0 it0) (V : Rlv) (hV : RV lg0 it0 2 V) : w_X8_event a1 a2 (fun (v : Int32) (lg' : LGt) (it' : ITt) => (I8 lg' it' ∧ Kc (fun j => (22 ≤ j ∧ j < 25)) lg0 it0 lg' it') ∧ v = (evP (rN V) (p8 it0 22) a1 a2).1 ∧ p8 it' 22 = (evP (rN V) (p8 it0 22) a1 a2).2) lg0 it0 := by
  have im : a1 = -1 ↔ a1.toInt = -1 := by rw [← ti_m1]; exact Int32.toInt_inj.symm
  have i0 : a1 = 0 ↔ a1.toInt = 0 := by rw [← ti_0]; exact Int32.toInt_inj.symm
  have i1 : a1 = 1 ↔ a1.toInt = 1 := by rw [← ti_1]; exact Int32.toInt_inj.symm
  have i2 : a1 = 2 ↔ a1.toInt = 2 := by rw [← ti_2]; exact Int32.toInt_inj.symm
  have i3 : a1 = 3 ↔ a1.toInt = 3 := by rw [← ti_3]; exact Int32.toInt_inj.symm
  have j0 : a2 = 0 ↔ a2.toInt = 0 := by rw [← ti_0]; exact Int32.toInt_inj.symm
  have j9 : a2 = 9 ↔ a2.toInt = 9 := by rw [← ti_9]; exact Int32.toInt_inj.symm
  have hn := rN_f hI in_rb_2 hV
  have cap : ((LAY (22 + 1)).2 : Int) = 8 := by rw [c8L 22 (by decide), if_neg (by decide)]
  generalize hE : evP (rN V) (p8 it0 22) a1 a2 = E
  -- it is put there
  have put : E = adP (p8 it0 22) 8 a1 a2 → w_X8_event_b84 a1 a2 (fun (v : Int32) (lg' : LGt) (it' : ITt) => (I8 lg' it' ∧ Kc (fun j => (22 ≤ j ∧ j < 25)) lg0 it0 lg' it') ∧ v = E.1 ∧ p8 it' 22 = E.2) lg0 it0 := by
    intro e
    have h := f_X2_add (a0 := 22) (by decide) a1 a2 hI
    rw [cap, ← e] at h
    unfold w_X8_event_b84 w_X8_event_b85
    exact ⟨fun _ => ⟨_, h, fun v lg' it' h => h⟩, fun c => absurd rfl c⟩
  have no : E = (-2, p8 it0 22) → w_X8_event_b80 a1 a2 (fun (v : Int32) (lg' : LGt) (it' : ITt) => (I8 lg' it' ∧ Kc (fun j => (22 ≤ j ∧ j < 25)) lg0 it0 lg' it') ∧ v = E.1 ∧ p8 it' 22 = E.2) lg0 it0 := by
    intro e
    unfold w_X8_event_b80 w_X8_event_b85
    exact ⟨fun c => absurd c (by decide), fun _ => ⟨⟨hI, kc_r⟩, by rw [e]; exact ⟨rfl, rfl⟩⟩⟩
  have mid : ¬ a1.toInt = -1 → ¬ (¬ (0 ≤ a1.toInt ∧ a1.toInt ≤ 3) ∨ (a1.toInt = 0 ∧ ¬ (0 ≤ a2.toInt ∧ a2.toInt < rN V))) → w_X8_event_b41 a1 a2 (fun (v : Int32) (lg' : LGt) (it' : ITt) => (I8 lg' it' ∧ Kc (fun j => (22 ≤ j ∧ j < 25)) lg0 it0 lg' it') ∧ v = E.1 ∧ p8 it' 22 = E.2) lg0 it0 := by
    intro n1 n2
    unfold evP at hE
    rw [if_neg n1, if_neg n2] at hE
    have P : ¬ ((a1.toInt = 1 ∧ ¬ a2.toInt = 0) ∨ (a1.toInt = 2 ∧ ¬ (0 ≤ a2.toInt ∧ a2.toInt ≤ 4)) ∨ (a1.toInt = 3 ∧ ¬ (0 ≤ a2.toInt ∧ a2.toInt ≤ 4) ∧ ¬ a2.toInt = 9)) → E = adP (p8 it0 22) 8 a1 a2 := fun q => by rw [if_neg q] at hE; exact hE.symm
    have N : ((a1.toInt = 1 ∧ ¬ a2.toInt = 0) ∨ (a1.toInt = 2 ∧ ¬ (0 ≤ a2.toInt ∧ a2.toInt ≤ 4)) ∨ (a1.toInt = 3 ∧ ¬ (0 ≤ a2.toInt ∧ a2.toInt ≤ 4) ∧ ¬ a2.toInt = 9)) → E = (-2, p8 it0 22) := fun q => by rw [if_pos q] at hE; exact hE.symm
    unfold w_X8_event_b41 w_X8_event_b50 w_X8_event_b62
    rw [i1, i2, i3, j0, j9]
    refine ⟨fun c1 => ⟨fun c2 => ⟨fun c3 => put (P (by omega)), fun c3 => ⟨fun c4 => put (P (by omega)), fun c4 => ⟨fun c5 => put (P (by omega)), fun c5 => no (N (by omega))⟩⟩⟩, fun c2 => ⟨fun c3 => no (N (by omega)), fun c3 => ⟨fun c4 => put (P (by omega)), fun c4 => absurd c4 (by omega)⟩⟩⟩, fun c1 => ⟨fun c2 => no (N (by omega)), fun c2 => ⟨fun c3 => ⟨fun c4 => put (P (by omega)), fun c4 => absurd c4 (by omega)⟩, fun c3 => absurd c3 (by omega)⟩⟩⟩
  unfold w_X8_event
  rw [im, i0, lt0, lt0, ti_0, ti_3, hn]
  have bad : ¬ a1.toInt = -1 → (¬ (0 ≤ a1.toInt ∧ a1.toInt ≤ 3) ∨ (a1.toInt = 0 ∧ ¬ (0 ≤ a2.toInt ∧ a2.toInt < rN V))) → E = (-1, p8 it0 22) := fun n1 n2 => by rw [← hE]; unfold evP; rw [if_neg n1, if_pos n2]
  refine ⟨fun c => ⟨fun c2 => ⟨⟨hI, kc_r⟩, by rw [bad c (by omega)]; exact ⟨rfl, rfl⟩⟩, fun c2 => ⟨fun c3 => ⟨⟨hI, kc_r⟩, by rw [bad c (by omega)]; exact ⟨rfl, rfl⟩⟩, fun c3 => ⟨fun c4 => mid c (by omega), fun c4 => ⟨fun c5 => mid c (by omega), fun c5 => ⟨⟨hI, kc_r⟩, by rw [bad c (by omega)]; exact ⟨rfl, rfl⟩⟩⟩⟩⟩⟩, fun c it11 m11 => ?_⟩
  have e : E = (0, (0, (p8 it0 22).2)) := by rw [← hE]; unfold evP; rw [if_pos c]
  rw [e, m11]
  refine ⟨⟨i8_u hI (ok8_2 oq_22 (fun _ => by rw [ti_0]; omega)), kc_u (by omega) kc_r⟩, rfl, ?_⟩
  unfold p8
  rw [u2_eq, u2_row (i := 22 + 1) (by omega), u2_row (i := 22 + 2) (by omega)]
