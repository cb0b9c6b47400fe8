/-! addresses: what the references are that an object holds -/
def pb : List Nat := [19, 22, 25, 46, 49, 52]
def sb : List Nat := [1, 28]
def tb : List Nat := [474, 476, 478, 480, 482, 484]
theorem vlt {i : Int32} {n : Nat} (h : vp_in i n) : i.toNatClampNeg < n := Nat.not_le.mp fun q => h (Or.inr q)
theorem vpos {i : Int32} {n : Nat} (h : vp_in i n) : ¬ i < 0 := fun q => h (Or.inl q)
theorem obr {r : Nat} (h : r ∈ rb) : Ob NT r 3 := ⟨by have := (rb_rf r h).1; show r < 523; omega, by have := rb_lay r h 0 (by decide); rw [Nat.add_zero] at this; rw [this]; rfl⟩
theorem rob {r : Nat} (h : r ∈ rb) (o : Nat) {c : Nat} (ho : o < 17) (e : (railLay o).1 = c) : Ob NT (r + o) c := ⟨by have := (rb_rf r h).1; show r + o < 523; omega, by rw [rb_lay r h o ho, e]⟩
theorem rln {r : Nat} (h : r ∈ rb) (o : Nat) (ho : o < 17) : (LAY (r + o)).2 = (railLay o).2 := by rw [rb_lay r h o ho]
theorem rr1 {r : Nat} (h : r ∈ rb) : RF0 r 1 = some (r + 1) := (rb_rf r h).2.1
theorem rr2 {r : Nat} (h : r ∈ rb) : RF0 r 2 = some (r + 2) := (rb_rf r h).2.2.1
theorem rr3 {r : Nat} (h : r ∈ rb) : RF0 r 3 = some (r + 3) := (rb_rf r h).2.2.2.1
theorem rr5 {r : Nat} (h : r ∈ rb) : RF0 r 5 = some (r + 16) := (rb_rf r h).2.2.2.2.1
theorem re4 {r k : Nat} (h : r ∈ rb) (hk : k < 6) : RF0 (r + 2) k = some (r + 4 + 2 * k) := ((rb_rf r h).2.2.2.2.2 k hk).1
theorem re5 {r k : Nat} (h : r ∈ rb) (hk : k < 6) : RF0 (r + 3) k = some (r + 5 + 2 * k) := ((rb_rf r h).2.2.2.2.2 k hk).2
theorem rpo4 {r k : Nat} (h : r ∈ rb) (hk : k < 6) : Ob NT (r + 4 + 2 * k) 1 := by
  have h2 : (railLay (4 + 2 * k)).1 = 1 := (show ∀ k, k < 6 → (railLay (4 + 2 * k)).1 = 1 by decide) k hk
  have := rob h (4 + 2 * k) (by omega) h2
  rwa [← Nat.add_assoc] at this
theorem rpo5 {r k : Nat} (h : r ∈ rb) (hk : k < 6) : Ob NT (r + 5 + 2 * k) 1 := by
  have h2 : (railLay (5 + 2 * k)).1 = 1 := (show ∀ k, k < 6 → (railLay (5 + 2 * k)).1 = 1 by decide) k hk
  have := rob h (5 + 2 * k) (by omega) h2
  rwa [← Nat.add_assoc] at this
theorem rst_all : ∀ k, k < 21 → 58 + 18 * k ∈ rb ∧ RF0 56 k = some (58 + 18 * k) ∧ RF0 57 k = some (75 + 18 * k) ∧ (LAY (75 + 18 * k)).1 = 1 := by decide +kernel
theorem rst {k : Nat} (h : k < 21) : 58 + 18 * k ∈ rb := (rst_all k h).1
theorem rst0 {k : Nat} (h : k < 21) : RF0 56 k = some (58 + 18 * k) := (rst_all k h).2.1
theorem rti {k : Nat} (h : k < 21) : Ob NT (75 + 18 * k) 1 := ⟨by show _ < 523; omega, (rst_all k h).2.2.2⟩
theorem rti0 {k : Nat} (h : k < 21) : RF0 57 k = some (75 + 18 * k) := (rst_all k h).2.2.1
theorem pb_all : ∀ p ∈ pb, p + 2 < 523 ∧ (LAY p).1 = 2 ∧ (LAY (p + 1)).1 = 11 ∧ (LAY (p + 2)).1 = 11 ∧ RF0 p 0 = some (p + 1) ∧ RF0 p 1 = some (p + 2) ∧ (LAY (p + 1)).2 = (LAY (p + 2)).2 ∧ (LAY (p + 1)).2 ≤ 8 ∧ 5 ≤ (LAY (p + 1)).2 := by decide +kernel
theorem obp {p : Nat} (h : p ∈ pb) : Ob NT p 2 := ⟨by have := (pb_all p h).1; show p < 523; omega, (pb_all p h).2.1⟩
theorem pob1 {p : Nat} (h : p ∈ pb) : Ob NT (p + 1) 11 := ⟨by have := (pb_all p h).1; show _ < 523; omega, (pb_all p h).2.2.1⟩
theorem pob2 {p : Nat} (h : p ∈ pb) : Ob NT (p + 2) 11 := ⟨by have := (pb_all p h).1; show _ < 523; omega, (pb_all p h).2.2.2.1⟩
theorem pr0 {p : Nat} (h : p ∈ pb) : RF0 p 0 = some (p + 1) := (pb_all p h).2.2.2.2.1
theorem pr1 {p : Nat} (h : p ∈ pb) : RF0 p 1 = some (p + 2) := (pb_all p h).2.2.2.2.2.1
theorem sb_all : ∀ s ∈ sb, s < 523 ∧ (LAY s).1 = 4 ∧ RF0 s 0 = some (s + 1) ∧ RF0 s 1 = some (s + 18) ∧ RF0 s 2 = some (s + 21) ∧ RF0 s 3 = some (s + 24) ∧ s + 1 ∈ rb ∧ s + 18 ∈ pb ∧ s + 21 ∈ pb ∧ s + 24 ∈ pb := by decide +kernel
theorem obs {s : Nat} (h : s ∈ sb) : Ob NT s 4 := ⟨(sb_all s h).1, (sb_all s h).2.1⟩
theorem sr0 {s : Nat} (h : s ∈ sb) : RF0 s 0 = some (s + 1) := (sb_all s h).2.2.1
theorem sr1 {s : Nat} (h : s ∈ sb) : RF0 s 1 = some (s + 18) := (sb_all s h).2.2.2.1
theorem sr2 {s : Nat} (h : s ∈ sb) : RF0 s 2 = some (s + 21) := (sb_all s h).2.2.2.2.1
theorem sr3 {s : Nat} (h : s ∈ sb) : RF0 s 3 = some (s + 24) := (sb_all s h).2.2.2.2.2.1
theorem sm0 {s : Nat} (h : s ∈ sb) : s + 1 ∈ rb := (sb_all s h).2.2.2.2.2.2.1
theorem sm1 {s : Nat} (h : s ∈ sb) : s + 18 ∈ pb := (sb_all s h).2.2.2.2.2.2.2.1
theorem sm2 {s : Nat} (h : s ∈ sb) : s + 21 ∈ pb := (sb_all s h).2.2.2.2.2.2.2.2.1
theorem sm3 {s : Nat} (h : s ∈ sb) : s + 24 ∈ pb := (sb_all s h).2.2.2.2.2.2.2.2.2
theorem tb_all : ∀ t ∈ tb, t + 1 < 523 ∧ (LAY t).1 = 6 ∧ (LAY (t + 1)).1 = 12 ∧ (LAY (t + 1)).2 = 60 ∧ RF0 t 2 = some (t + 1) := by decide +kernel
theorem obt {t : Nat} (h : t ∈ tb) : Ob NT t 6 := ⟨by have := (tb_all t h).1; show _ < 523; omega, (tb_all t h).2.1⟩
theorem tob {t : Nat} (h : t ∈ tb) : Ob NT (t + 1) 12 := ⟨(tb_all t h).1, (tb_all t h).2.2.1⟩
theorem tln {t : Nat} (h : t ∈ tb) : (LAY (t + 1)).2 = 60 := (tb_all t h).2.2.2.1
theorem tr2 {t : Nat} (h : t ∈ tb) : RF0 t 2 = some (t + 1) := (tb_all t h).2.2.2.2
theorem rtp_all : ∀ k, k < 6 → 474 + 2 * k ∈ tb ∧ RF0 473 k = some (474 + 2 * k) := by decide +kernel
theorem rtp {k : Nat} (h : k < 6) : 474 + 2 * k ∈ tb := (rtp_all k h).1
theorem rtp0 {k : Nat} (h : k < 6) : RF0 473 k = some (474 + 2 * k) := (rtp_all k h).2
theorem oba11 {j : Nat} (h : Ob NT j 11) : j < NT ∧ 10 ≤ (LAY j).1 ∧ (LAY j).1 ≤ 15 := ⟨h.1, by rw [h.2]; decide, by rw [h.2]; decide⟩
theorem oba13 {j : Nat} (h : Ob NT j 13) : j < NT ∧ 13 ≤ (LAY j).1 ∧ (LAY j).1 ≤ 15 := ⟨h.1, by rw [h.2]; decide, by rw [h.2]; decide⟩
theorem oba14 {j : Nat} (h : Ob NT j 14) : j < NT ∧ 13 ≤ (LAY j).1 ∧ (LAY j).1 ≤ 15 := ⟨h.1, by rw [h.2]; decide, by rw [h.2]; decide⟩
theorem oba15 {j : Nat} (h : Ob NT j 15) : j < NT ∧ 13 ≤ (LAY j).1 ∧ (LAY j).1 ≤ 15 := ⟨h.1, by rw [h.2]; decide, by rw [h.2]; decide⟩
theorem el_lit {j k q : Nat} {i : Int32} (e : i.toNatClampNeg = k) (h : RF0 j k = some q) : RF0 j i.toNatClampNeg = some q := by rw [e]; exact h
theorem rg {α : Type} {f : Nat → Nat → α} {j a b : Nat} (e : a = b) : f j a = f j b := by rw [e]
theorem gwi {P : PT} {pc : Nat} {ls st : List Value} {N : Nat} {lg : LGt} {it : ITt} {rf : RFt} {j a b : Nat} {v : Int32} (e : a = b) (kk : P pc ls st N lg (u2 it j b v) rf) : P pc ls st N lg (u2 it j a v) rf := by rw [e]; exact kk
theorem gwl {P : PT} {pc : Nat} {ls st : List Value} {N : Nat} {lg : LGt} {it : ITt} {rf : RFt} {j a b : Nat} {v : Int64} (e : a = b) (kk : P pc ls st N (u2 lg j b v) it rf) : P pc ls st N (u2 lg j a v) it rf := by rw [e]; exact kk
theorem gi1 {P : PT} {pc k : Nat} {ls st : List Value} {N : Nat} {lg : LGt} {it : ITt} {rf : RFt} {x : Int32} (kk : P pc (st1 ls k (.int (x + 1))) st N lg it rf) : P pc (st1 ls k (.int (x + Int32.ofInt 1))) st N lg it rf := by rw [ki_1]; exact kk
theorem gim1 {P : PT} {pc k : Nat} {ls st : List Value} {N : Nat} {lg : LGt} {it : ITt} {rf : RFt} {x : Int32} (kk : P pc (st1 ls k (.int (x - 1))) st N lg it rf) : P pc (st1 ls k (.int (x + Int32.ofInt (-1)))) st N lg it rf := by
  have e : x + Int32.ofInt (-1) = x - 1 := by rw [ki_m1, Int32.sub_eq_add_neg]; rfl
  rw [e]; exact kk
theorem b2_and {p : Prop} [Decidable p] : b2 p &&& 1 = b2 p := by unfold b2; split <;> decide
theorem ct_weak {E : Ev} {l : Launch} {y : MethodName} {ws : List Cond} {rm : Room} {mc : Nat} {sp sn : Spc} (h : CT E l y ws rm mc sp) (f : ∀ (as : List Value) (N : Nat) (lg : LGt) (it : ITt) (rf : RFt) (K : Post), sn as N lg it rf K → sp as N lg it rf K) : CT E l y ws rm mc sn := ⟨h.1, h.2.1, fun as N lg it rf Q hs => h.2.2 as N lg it rf Q (f _ _ _ _ _ _ hs)⟩
theorem in_pb_19 : 19 ∈ pb := by decide
theorem in_pb_22 : 22 ∈ pb := by decide
theorem in_pb_25 : 25 ∈ pb := by decide
theorem in_rb_2 : 2 ∈ rb := by decide
theorem in_rb_450 : 450 ∈ rb := by decide
theorem in_rb_58 : 58 ∈ rb := by decide
theorem in_sb_1 : 1 ∈ sb := by decide
theorem in_sb_28 : 28 ∈ sb := by decide
theorem lq_18 : (LAY 18).2 = 2 := by decide +kernel
theorem lq_20 : (LAY 20).2 = 5 := by decide +kernel
theorem lq_23 : (LAY 23).2 = 8 := by decide +kernel
theorem lq_24 : (LAY 24).2 = 8 := by decide +kernel
theorem lq_3 : (LAY 3).2 = 6 := by decide +kernel
theorem lq_4 : (LAY 4).2 = 6 := by decide +kernel
theorem lq_436 : (LAY 436).2 = 20 := by decide +kernel
theorem lq_453 : (LAY 453).2 = 6 := by decide +kernel
theorem lq_468 : (LAY 468).2 = 100 := by decide +kernel
theorem lq_469 : (LAY 469).2 = 12 := by decide +kernel
theorem lq_470 : (LAY 470).2 = 12 := by decide +kernel
theorem lq_471 : (LAY 471).2 = 12 := by decide +kernel
theorem lq_472 : (LAY 472).2 = 12 := by decide +kernel
theorem lq_473 : (LAY 473).2 = 6 := by decide +kernel
theorem lq_5 : (LAY 5).2 = 6 := by decide +kernel
theorem lq_56 : (LAY 56).2 = 21 := by decide +kernel
theorem lq_57 : (LAY 57).2 = 21 := by decide +kernel
theorem nc_0 : (0 : Int32).toNatClampNeg = 0 := by decide
theorem nc_1 : (1 : Int32).toNatClampNeg = 1 := by decide
theorem oq_0 : Ob NT 0 8 := ⟨by decide, by decide +kernel⟩
theorem oq_1 : Ob NT 1 4 := ⟨by decide, by decide +kernel⟩
theorem oq_18 : Ob NT 18 11 := ⟨by decide, by decide +kernel⟩
theorem oq_19 : Ob NT 19 2 := ⟨by decide, by decide +kernel⟩
theorem oq_2 : Ob NT 2 3 := ⟨by decide, by decide +kernel⟩
theorem oq_20 : Ob NT 20 11 := ⟨by decide, by decide +kernel⟩
theorem oq_22 : Ob NT 22 2 := ⟨by decide, by decide +kernel⟩
theorem oq_23 : Ob NT 23 11 := ⟨by decide, by decide +kernel⟩
theorem oq_24 : Ob NT 24 11 := ⟨by decide, by decide +kernel⟩
theorem oq_25 : Ob NT 25 2 := ⟨by decide, by decide +kernel⟩
theorem oq_28 : Ob NT 28 4 := ⟨by decide, by decide +kernel⟩
theorem oq_3 : Ob NT 3 11 := ⟨by decide, by decide +kernel⟩
theorem oq_4 : Ob NT 4 13 := ⟨by decide, by decide +kernel⟩
theorem oq_436 : Ob NT 436 11 := ⟨by decide, by decide +kernel⟩
theorem oq_437 : Ob NT 437 5 := ⟨by decide, by decide +kernel⟩
theorem oq_438 : Ob NT 438 1 := ⟨by decide, by decide +kernel⟩
theorem oq_439 : Ob NT 439 1 := ⟨by decide, by decide +kernel⟩
theorem oq_440 : Ob NT 440 1 := ⟨by decide, by decide +kernel⟩
theorem oq_441 : Ob NT 441 1 := ⟨by decide, by decide +kernel⟩
theorem oq_442 : Ob NT 442 1 := ⟨by decide, by decide +kernel⟩
theorem oq_443 : Ob NT 443 1 := ⟨by decide, by decide +kernel⟩
theorem oq_444 : Ob NT 444 1 := ⟨by decide, by decide +kernel⟩
theorem oq_445 : Ob NT 445 1 := ⟨by decide, by decide +kernel⟩
theorem oq_446 : Ob NT 446 1 := ⟨by decide, by decide +kernel⟩
theorem oq_447 : Ob NT 447 1 := ⟨by decide, by decide +kernel⟩
theorem oq_448 : Ob NT 448 1 := ⟨by decide, by decide +kernel⟩
theorem oq_449 : Ob NT 449 1 := ⟨by decide, by decide +kernel⟩
theorem oq_450 : Ob NT 450 3 := ⟨by decide, by decide +kernel⟩
theorem oq_453 : Ob NT 453 13 := ⟨by decide, by decide +kernel⟩
theorem oq_467 : Ob NT 467 7 := ⟨by decide, by decide +kernel⟩
theorem oq_468 : Ob NT 468 10 := ⟨by decide, by decide +kernel⟩
theorem oq_469 : Ob NT 469 11 := ⟨by decide, by decide +kernel⟩
theorem oq_470 : Ob NT 470 11 := ⟨by decide, by decide +kernel⟩
theorem oq_471 : Ob NT 471 11 := ⟨by decide, by decide +kernel⟩
theorem oq_472 : Ob NT 472 11 := ⟨by decide, by decide +kernel⟩
theorem oq_473 : Ob NT 473 15 := ⟨by decide, by decide +kernel⟩
theorem oq_486 : Ob NT 486 1 := ⟨by decide, by decide +kernel⟩
theorem oq_487 : Ob NT 487 1 := ⟨by decide, by decide +kernel⟩
theorem oq_488 : Ob NT 488 1 := ⟨by decide, by decide +kernel⟩
theorem oq_5 : Ob NT 5 13 := ⟨by decide, by decide +kernel⟩
theorem oq_55 : Ob NT 55 0 := ⟨by decide, by decide +kernel⟩
theorem oq_56 : Ob NT 56 14 := ⟨by decide, by decide +kernel⟩
theorem oq_57 : Ob NT 57 13 := ⟨by decide, by decide +kernel⟩
theorem oq_58 : Ob NT 58 3 := ⟨by decide, by decide +kernel⟩
theorem oq_75 : Ob NT 75 1 := ⟨by decide, by decide +kernel⟩
theorem rq_0_0 : RF0 0 0 = some 1 := by decide +kernel
theorem rq_0_1 : RF0 0 1 = some 28 := by decide +kernel
theorem rq_0_3 : RF0 0 3 = some 55 := by decide +kernel
theorem rq_0_4 : RF0 0 4 = some 450 := by decide +kernel
theorem rq_0_5 : RF0 0 5 = some 467 := by decide +kernel
theorem rq_0_6 : RF0 0 6 = some 473 := by decide +kernel
theorem rq_0_7 : RF0 0 7 = some 486 := by decide +kernel
theorem rq_0_8 : RF0 0 8 = some 487 := by decide +kernel
theorem rq_0_9 : RF0 0 9 = some 488 := by decide +kernel
theorem rq_19_0 : RF0 19 0 = some 20 := by decide +kernel
theorem rq_1_0 : RF0 1 0 = some 2 := by decide +kernel
theorem rq_1_1 : RF0 1 1 = some 19 := by decide +kernel
theorem rq_1_2 : RF0 1 2 = some 22 := by decide +kernel
theorem rq_1_3 : RF0 1 3 = some 25 := by decide +kernel
theorem rq_22_0 : RF0 22 0 = some 23 := by decide +kernel
theorem rq_22_1 : RF0 22 1 = some 24 := by decide +kernel
theorem rq_2_1 : RF0 2 1 = some 3 := by decide +kernel
theorem rq_2_2 : RF0 2 2 = some 4 := by decide +kernel
theorem rq_2_3 : RF0 2 3 = some 5 := by decide +kernel
theorem rq_2_5 : RF0 2 5 = some 18 := by decide +kernel
theorem rq_437_0 : RF0 437 0 = some 438 := by decide +kernel
theorem rq_437_1 : RF0 437 1 = some 439 := by decide +kernel
theorem rq_437_10 : RF0 437 10 = some 448 := by decide +kernel
theorem rq_437_11 : RF0 437 11 = some 449 := by decide +kernel
theorem rq_437_2 : RF0 437 2 = some 440 := by decide +kernel
theorem rq_437_3 : RF0 437 3 = some 441 := by decide +kernel
theorem rq_437_4 : RF0 437 4 = some 442 := by decide +kernel
theorem rq_437_5 : RF0 437 5 = some 443 := by decide +kernel
theorem rq_437_6 : RF0 437 6 = some 444 := by decide +kernel
theorem rq_437_7 : RF0 437 7 = some 445 := by decide +kernel
theorem rq_437_8 : RF0 437 8 = some 446 := by decide +kernel
theorem rq_437_9 : RF0 437 9 = some 447 := by decide +kernel
theorem rq_450_3 : RF0 450 3 = some 453 := by decide +kernel
theorem rq_467_0 : RF0 467 0 = some 468 := by decide +kernel
theorem rq_467_2 : RF0 467 2 = some 469 := by decide +kernel
theorem rq_467_3 : RF0 467 3 = some 470 := by decide +kernel
theorem rq_467_4 : RF0 467 4 = some 471 := by decide +kernel
theorem rq_467_5 : RF0 467 5 = some 472 := by decide +kernel
theorem rq_55_0 : RF0 55 0 = some 56 := by decide +kernel
theorem rq_55_1 : RF0 55 1 = some 57 := by decide +kernel
theorem rq_55_2 : RF0 55 2 = some 436 := by decide +kernel
theorem rq_55_6 : RF0 55 6 = some 437 := by decide +kernel
theorem vp_of {i : Int32} {n : Nat} (h : 0 ≤ i.toInt) (h2 : i.toInt < (n : Int)) : vp_in i n := by
  intro q
  have e : (i.toNatClampNeg : Int) = i.toInt := by show ((i.toInt.toNat : Nat) : Int) = i.toInt; omega
  rcases q with q | q
  · rw [Int32.lt_iff_toInt_lt] at q
    have : (0 : Int32).toInt = 0 := by decide
    omega
  · omega
theorem ti_11 : (11 : Int32).toInt = 11 := by decide
theorem ti_19 : (19 : Int32).toInt = 19 := by decide
