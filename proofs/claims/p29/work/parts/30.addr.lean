/-! addresses: what the references are that an object holds -/
def pb : List Nat := [19, 22, 25, 46, 49, 52]
def sb : List Nat := [1, 28]
def tb : List Nat := [474, 476, 478, 480, 482, 484]
theorem vlt {i : Int32} {n : Nat} (h : vp_in i n) : i.toNatClampNeg < n := Nat.not_le.mp fun q => h (Or.inr q)
theorem vpos {i : Int32} {n : Nat} (h : vp_in i n) : ¬ i < 0 := fun q => h (Or.inl q)
theorem obr {r : Nat} (h : r ∈ rb) : Ob NT r 3 := ⟨by have := (rb_rf r h).1; show r < 523; omega, by have := rb_lay r h 0 (by decide); rw [Nat.add_zero] at this; rw [this]; rfl⟩
theorem rob {r : Nat} (h : r ∈ rb) (o : Nat) {c : Nat} (ho : o < 17) (e : (railLay o).1 = c) : Ob NT (r + o) c := ⟨by have := (rb_rf r h).1; show r + o < 523; omega, by rw [rb_lay r h o ho, e]⟩
theorem rln {r : Nat} (h : r ∈ rb) (o : Nat) (ho : o < 17) : (LAY (r + o)).2 = (railLay o).2 := by rw [rb_lay r h o ho]
theorem rr1 {r : Nat} (h : r ∈ rb) : RF0 r 1 = some (r + 1) := (rb_rf r h).2.1
theorem rr2 {r : Nat} (h : r ∈ rb) : RF0 r 2 = some (r + 2) := (rb_rf r h).2.2.1
theorem rr3 {r : Nat} (h : r ∈ rb) : RF0 r 3 = some (r + 3) := (rb_rf r h).2.2.2.1
theorem rr5 {r : Nat} (h : r ∈ rb) : RF0 r 5 = some (r + 16) := (rb_rf r h).2.2.2.2.1
theorem re4 {r k : Nat} (h : r ∈ rb) (hk : k < 6) : RF0 (r + 2) k = some (r + 4 + 2 * k) := ((rb_rf r h).2.2.2.2.2 k hk).1
theorem re5 {r k : Nat} (h : r ∈ rb) (hk : k < 6) : RF0 (r + 3) k = some (r + 5 + 2 * k) := ((rb_rf r h).2.2.2.2.2 k hk).2
theorem rpo4 {r k : Nat} (h : r ∈ rb) (hk : k < 6) : Ob NT (r + 4 + 2 * k) 1 := by
  have h2 : (railLay (4 + 2 * k)).1 = 1 := (show ∀ k, k < 6 → (railLay (4 + 2 * k)).1 = 1 by decide) k hk
  have := rob h (4 + 2 * k) (by omega) h2
  rwa [← Nat.add_assoc] at this
theorem rpo5 {r k : Nat} (h : r ∈ rb) (hk : k < 6) : Ob NT (r + 5 + 2 * k) 1 := by
  have h2 : (railLay (5 + 2 * k)).1 = 1 := (show ∀ k, k < 6 → (railLay (5 + 2 * k)).1 = 1 by decide) k hk
  have := rob h (5 + 2 * k) (by omega) h2
  rwa [← Nat.add_assoc] at this
theorem rst_all : ∀ k, k < 21 → 58 + 18 * k ∈ rb ∧ RF0 56 k = some (58 + 18 * k) ∧ RF0 57 k = some (75 + 18 * k) ∧ (LAY (75 + 18 * k)).1 = 1 := by decide +kernel
theorem rst {k : Nat} (h : k < 21) : 58 + 18 * k ∈ rb := (rst_all k h).1
theorem rst0 {k : Nat} (h : k < 21) : RF0 56 k = some (58 + 18 * k) := (rst_all k h).2.1
theorem rti {k : Nat} (h : k < 21) : Ob NT (75 + 18 * k) 1 := ⟨by show _ < 523; omega, (rst_all k h).2.2.2⟩
theorem rti0 {k : Nat} (h : k < 21) : RF0 57 k = some (75 + 18 * k) := (rst_all k h).2.2.1
theorem pb_all : ∀ p ∈ pb, p + 2 < 523 ∧ (LAY p).1 = 2 ∧ (LAY (p + 1)).1 = 11 ∧ (LAY (p + 2)).1 = 11 ∧ RF0 p 0 = some (p + 1) ∧ RF0 p 1 = some (p + 2) ∧ (LAY (p + 1)).2 = (LAY (p + 2)).2 ∧ (LAY (p + 1)).2 ≤ 8 ∧ 5 ≤ (LAY (p + 1)).2 := by decide +kernel
theorem obp {p : Nat} (h : p ∈ pb) : Ob NT p 2 := ⟨by have := (pb_all p h).1; show p < 523; omega, (pb_all p h).2.1⟩
theorem pob1 {p : Nat} (h : p ∈ pb) : Ob NT (p + 1) 11 := ⟨by have := (pb_all p h).1; show _ < 523; omega, (pb_all p h).2.2.1⟩
theorem pob2 {p : Nat} (h : p ∈ pb) : Ob NT (p + 2) 11 := ⟨by have := (pb_all p h).1; show _ < 523; omega, (pb_all p h).2.2.2.1⟩
theorem pr0 {p : Nat} (h : p ∈ pb) : RF0 p 0 = some (p + 1) := (pb_all p h).2.2.2.2.1
theorem pr1 {p : Nat} (h : p ∈ pb) : RF0 p 1 = some (p + 2) := (pb_all p h).2.2.2.2.2.1
theorem sb_all : ∀ s ∈ sb, s < 523 ∧ (LAY s).1 = 4 ∧ RF0 s 0 = some (s + 1) ∧ RF0 s 1 = some (s + 18) ∧ RF0 s 2 = some (s + 21) ∧ RF0 s 3 = some (s + 24) ∧ s + 1 ∈ rb ∧ s + 18 ∈ pb ∧ s + 21 ∈ pb ∧ s + 24 ∈ pb := by decide +kernel
theorem obs {s : Nat} (h : s ∈ sb) : Ob NT s 4 := ⟨(sb_all s h).1, (sb_all s h).2.1⟩
theorem sr0 {s : Nat} (h : s ∈ sb) : RF0 s 0 = some (s + 1) := (sb_all s h).2.2.1
theorem sr1 {s : Nat} (h : s ∈ sb) : RF0 s 1 = some (s + 18) := (sb_all s h).2.2.2.1
theorem sr2 {s : Nat} (h : s ∈ sb) : RF0 s 2 = some (s + 21) := (sb_all s h).2.2.2.2.1
theorem sr3 {s : Nat} (h : s ∈ sb) : RF0 s 3 = some (s + 24) := (sb_all s h).2.2.2.2.2.1
theorem sm0 {s : Nat} (h : s ∈ sb) : s + 1 ∈ rb := (sb_all s h).2.2.2.2.2.2.1
theorem sm1 {s : Nat} (h : s ∈ sb) : s + 18 ∈ pb := (sb_all s h).2.2.2.2.2.2.2.1
theorem sm2 {s : Nat} (h : s ∈ sb) : s + 21 ∈ pb := (sb_all s h).2.2.2.2.2.2.2.2.1
theorem sm3 {s : Nat} (h : s ∈ sb) : s + 24 ∈ pb := (sb_all s h).2.2.2.2.2.2.2.2.2
theorem tb_all : ∀ t ∈ tb, t + 1 < 523 ∧ (LAY t).1 = 6 ∧ (LAY (t + 1)).1 = 12 ∧ (LAY (t + 1)).2 = 60 ∧ RF0 t 2 = some (t + 1) := by decide +kernel
theorem obt {t : Nat} (h : t ∈ tb) : Ob NT t 6 := ⟨by have := (tb_all t h).1; show _ < 523; omega, (tb_all t h).2.1⟩
theorem tob {t : Nat} (h : t ∈ tb) : Ob NT (t + 1) 12 := ⟨(tb_all t h).1, (tb_all t h).2.2.1⟩
theorem tln {t : Nat} (h : t ∈ tb) : (LAY (t + 1)).2 = 60 := (tb_all t h).2.2.2.1
theorem tr2 {t : Nat} (h : t ∈ tb) : RF0 t 2 = some (t + 1) := (tb_all t h).2.2.2.2
theorem rtp_all : ∀ k, k < 6 → 474 + 2 * k ∈ tb ∧ RF0 473 k = some (474 + 2 * k) := by decide +kernel
theorem rtp {k : Nat} (h : k < 6) : 474 + 2 * k ∈ tb := (rtp_all k h).1
theorem rtp0 {k : Nat} (h : k < 6) : RF0 473 k = some (474 + 2 * k) := (rtp_all k h).2
theorem oba11 {j : Nat} (h : Ob NT j 11) : j < NT ∧ 10 ≤ (LAY j).1 ∧ (LAY j).1 ≤ 15 := ⟨h.1, by rw [h.2]; decide, by rw [h.2]; decide⟩
theorem oba12 {j : Nat} (h : Ob NT j 12) : j < NT ∧ 10 ≤ (LAY j).1 ∧ (LAY j).1 ≤ 15 := ⟨h.1, by rw [h.2]; decide, by rw [h.2]; decide⟩
theorem oba13 {j : Nat} (h : Ob NT j 13) : j < NT ∧ 13 ≤ (LAY j).1 ∧ (LAY j).1 ≤ 15 := ⟨h.1, by rw [h.2]; decide, by rw [h.2]; decide⟩
theorem oba14 {j : Nat} (h : Ob NT j 14) : j < NT ∧ 13 ≤ (LAY j).1 ∧ (LAY j).1 ≤ 15 := ⟨h.1, by rw [h.2]; decide, by rw [h.2]; decide⟩
theorem oba15 {j : Nat} (h : Ob NT j 15) : j < NT ∧ 13 ≤ (LAY j).1 ∧ (LAY j).1 ≤ 15 := ⟨h.1, by rw [h.2]; decide, by rw [h.2]; decide⟩
theorem el_lit {j k q : Nat} {i : Int32} (e : i.toNatClampNeg = k) (h : RF0 j k = some q) : RF0 j i.toNatClampNeg = some q := by rw [e]; exact h
theorem rg {α : Type} {f : Nat → Nat → α} {j a b : Nat} (e : a = b) : f j a = f j b := by rw [e]
theorem gwi {P : PT} {pc : Nat} {ls st : List Value} {N : Nat} {lg : LGt} {it : ITt} {rf : RFt} {j a b : Nat} {v : Int32} (e : a = b) (kk : P pc ls st N lg (u2 it j b v) rf) : P pc ls st N lg (u2 it j a v) rf := by rw [e]; exact kk
theorem gwl {P : PT} {pc : Nat} {ls st : List Value} {N : Nat} {lg : LGt} {it : ITt} {rf : RFt} {j a b : Nat} {v : Int64} (e : a = b) (kk : P pc ls st N (u2 lg j b v) it rf) : P pc ls st N (u2 lg j a v) it rf := by rw [e]; exact kk
theorem gi1 {P : PT} {pc k : Nat} {ls st : List Value} {N : Nat} {lg : LGt} {it : ITt} {rf : RFt} {x : Int32} (kk : P pc (st1 ls k (.int (x + 1))) st N lg it rf) : P pc (st1 ls k (.int (x + Int32.ofInt 1))) st N lg it rf := by rw [ki_1]; exact kk
theorem gim1 {P : PT} {pc k : Nat} {ls st : List Value} {N : Nat} {lg : LGt} {it : ITt} {rf : RFt} {x : Int32} (kk : P pc (st1 ls k (.int (x - 1))) st N lg it rf) : P pc (st1 ls k (.int (x + Int32.ofInt (-1)))) st N lg it rf := by
  have e : x + Int32.ofInt (-1) = x - 1 := by rw [ki_m1, Int32.sub_eq_add_neg]
  rw [e]; exact kk
theorem gml {P : PT} {pc : Nat} {ls st : List Value} {N : Nat} {lg : LGt} {it : ITt} {rf : RFt} (k : ∀ lg2 : LGt, lg2 = lg → P pc ls st N lg2 it rf) : P pc ls st N lg it rf := k _ rfl
theorem gmi {P : PT} {pc : Nat} {ls st : List Value} {N : Nat} {lg : LGt} {it : ITt} {rf : RFt} (k : ∀ it2 : ITt, it2 = it → P pc ls st N lg it2 rf) : P pc ls st N lg it rf := k _ rfl
theorem gmb {P : PT} {pc : Nat} {ls st : List Value} {N : Nat} {lg : LGt} {it : ITt} {rf : RFt} (k : ∀ (lg2 : LGt) (it2 : ITt), lg2 = lg → it2 = it → P pc ls st N lg2 it2 rf) : P pc ls st N lg it rf := k _ _ rfl rfl
theorem b2_and {p : Prop} [Decidable p] : b2 p &&& 1 = b2 p := by unfold b2; split <;> decide
theorem ct_weak {E : Ev} {l : Launch} {y : MethodName} {ws : List Cond} {rm : Room} {mc : Nat} {sp sn : Spc} (h : CT E l y ws rm mc sp) (f : ∀ (as : List Value) (N : Nat) (lg : LGt) (it : ITt) (rf : RFt) (K : Post), sn as N lg it rf K → sp as N lg it rf K) : CT E l y ws rm mc sn := ⟨h.1, h.2.1, fun as N lg it rf Q hs => h.2.2 as N lg it rf Q (f _ _ _ _ _ _ hs)⟩
theorem in_pb_19 : 19 ∈ pb := by decide
theorem in_pb_22 : 22 ∈ pb := by decide
theorem in_pb_25 : 25 ∈ pb := by decide
theorem in_rb_2 : 2 ∈ rb := by decide
theorem in_rb_450 : 450 ∈ rb := by decide
theorem in_rb_58 : 58 ∈ rb := by decide
theorem in_sb_1 : 1 ∈ sb := by decide
theorem in_sb_28 : 28 ∈ sb := by decide
theorem lq_18 : (LAY 18).2 = 2 := by decide +kernel
theorem lq_20 : (LAY 20).2 = 5 := by decide +kernel
theorem lq_23 : (LAY 23).2 = 8 := by decide +kernel
theorem lq_24 : (LAY 24).2 = 8 := by decide +kernel
theorem lq_3 : (LAY 3).2 = 6 := by decide +kernel
theorem lq_4 : (LAY 4).2 = 6 := by decide +kernel
theorem lq_436 : (LAY 436).2 = 20 := by decide +kernel
theorem lq_453 : (LAY 453).2 = 6 := by decide +kernel
theorem lq_468 : (LAY 468).2 = 100 := by decide +kernel
theorem lq_469 : (LAY 469).2 = 12 := by decide +kernel
theorem lq_470 : (LAY 470).2 = 12 := by decide +kernel
theorem lq_471 : (LAY 471).2 = 12 := by decide +kernel
theorem lq_472 : (LAY 472).2 = 12 := by decide +kernel
theorem lq_473 : (LAY 473).2 = 6 := by decide +kernel
theorem lq_490 : (LAY 490).2 = 6 := by decide +kernel
theorem lq_491 : (LAY 491).2 = 6 := by decide +kernel
theorem lq_492 : (LAY 492).2 = 6 := by decide +kernel
theorem lq_493 : (LAY 493).2 = 6 := by decide +kernel
theorem lq_494 : (LAY 494).2 = 6 := by decide +kernel
theorem lq_495 : (LAY 495).2 = 5 := by decide +kernel
theorem lq_496 : (LAY 496).2 = 5 := by decide +kernel
theorem lq_497 : (LAY 497).2 = 8 := by decide +kernel
theorem lq_498 : (LAY 498).2 = 8 := by decide +kernel
theorem lq_499 : (LAY 499).2 = 8 := by decide +kernel
theorem lq_5 : (LAY 5).2 = 6 := by decide +kernel
theorem lq_500 : (LAY 500).2 = 8 := by decide +kernel
theorem lq_501 : (LAY 501).2 = 6 := by decide +kernel
theorem lq_502 : (LAY 502).2 = 6 := by decide +kernel
theorem lq_503 : (LAY 503).2 = 6 := by decide +kernel
theorem lq_504 : (LAY 504).2 = 6 := by decide +kernel
theorem lq_505 : (LAY 505).2 = 6 := by decide +kernel
theorem lq_506 : (LAY 506).2 = 6 := by decide +kernel
theorem lq_507 : (LAY 507).2 = 6 := by decide +kernel
theorem lq_508 : (LAY 508).2 = 20 := by decide +kernel
theorem lq_509 : (LAY 509).2 = 20 := by decide +kernel
theorem lq_510 : (LAY 510).2 = 20 := by decide +kernel
theorem lq_511 : (LAY 511).2 = 240 := by decide +kernel
theorem lq_512 : (LAY 512).2 = 240 := by decide +kernel
theorem lq_513 : (LAY 513).2 = 100 := by decide +kernel
theorem lq_514 : (LAY 514).2 = 12 := by decide +kernel
theorem lq_515 : (LAY 515).2 = 12 := by decide +kernel
theorem lq_516 : (LAY 516).2 = 12 := by decide +kernel
theorem lq_517 : (LAY 517).2 = 12 := by decide +kernel
theorem lq_518 : (LAY 518).2 = 6 := by decide +kernel
theorem lq_519 : (LAY 519).2 = 6 := by decide +kernel
theorem lq_520 : (LAY 520).2 = 360 := by decide +kernel
theorem lq_521 : (LAY 521).2 = 60 := by decide +kernel
theorem lq_522 : (LAY 522).2 = 80 := by decide +kernel
theorem lq_56 : (LAY 56).2 = 21 := by decide +kernel
theorem lq_57 : (LAY 57).2 = 21 := by decide +kernel
theorem nc_0 : (0 : Int32).toNatClampNeg = 0 := by decide
theorem nc_1 : (1 : Int32).toNatClampNeg = 1 := by decide
theorem nc_2 : (2 : Int32).toNatClampNeg = 2 := by decide
theorem nc_3 : (3 : Int32).toNatClampNeg = 3 := by decide
theorem nc_4 : (4 : Int32).toNatClampNeg = 4 := by decide
theorem nc_5 : (5 : Int32).toNatClampNeg = 5 := by decide
theorem nc_6 : (6 : Int32).toNatClampNeg = 6 := by decide
theorem oq_0 : Ob NT 0 8 := ⟨by decide, by decide +kernel⟩
theorem oq_1 : Ob NT 1 4 := ⟨by decide, by decide +kernel⟩
theorem oq_18 : Ob NT 18 11 := ⟨by decide, by decide +kernel⟩
theorem oq_19 : Ob NT 19 2 := ⟨by decide, by decide +kernel⟩
theorem oq_2 : Ob NT 2 3 := ⟨by decide, by decide +kernel⟩
theorem oq_20 : Ob NT 20 11 := ⟨by decide, by decide +kernel⟩
theorem oq_22 : Ob NT 22 2 := ⟨by decide, by decide +kernel⟩
theorem oq_23 : Ob NT 23 11 := ⟨by decide, by decide +kernel⟩
theorem oq_24 : Ob NT 24 11 := ⟨by decide, by decide +kernel⟩
theorem oq_25 : Ob NT 25 2 := ⟨by decide, by decide +kernel⟩
theorem oq_28 : Ob NT 28 4 := ⟨by decide, by decide +kernel⟩
theorem oq_3 : Ob NT 3 11 := ⟨by decide, by decide +kernel⟩
theorem oq_4 : Ob NT 4 13 := ⟨by decide, by decide +kernel⟩
theorem oq_436 : Ob NT 436 11 := ⟨by decide, by decide +kernel⟩
theorem oq_437 : Ob NT 437 5 := ⟨by decide, by decide +kernel⟩
theorem oq_438 : Ob NT 438 1 := ⟨by decide, by decide +kernel⟩
theorem oq_439 : Ob NT 439 1 := ⟨by decide, by decide +kernel⟩
theorem oq_440 : Ob NT 440 1 := ⟨by decide, by decide +kernel⟩
theorem oq_441 : Ob NT 441 1 := ⟨by decide, by decide +kernel⟩
theorem oq_442 : Ob NT 442 1 := ⟨by decide, by decide +kernel⟩
theorem oq_443 : Ob NT 443 1 := ⟨by decide, by decide +kernel⟩
theorem oq_444 : Ob NT 444 1 := ⟨by decide, by decide +kernel⟩
theorem oq_445 : Ob NT 445 1 := ⟨by decide, by decide +kernel⟩
theorem oq_446 : Ob NT 446 1 := ⟨by decide, by decide +kernel⟩
theorem oq_447 : Ob NT 447 1 := ⟨by decide, by decide +kernel⟩
theorem oq_448 : Ob NT 448 1 := ⟨by decide, by decide +kernel⟩
theorem oq_449 : Ob NT 449 1 := ⟨by decide, by decide +kernel⟩
theorem oq_450 : Ob NT 450 3 := ⟨by decide, by decide +kernel⟩
theorem oq_453 : Ob NT 453 13 := ⟨by decide, by decide +kernel⟩
theorem oq_467 : Ob NT 467 7 := ⟨by decide, by decide +kernel⟩
theorem oq_468 : Ob NT 468 10 := ⟨by decide, by decide +kernel⟩
theorem oq_469 : Ob NT 469 11 := ⟨by decide, by decide +kernel⟩
theorem oq_470 : Ob NT 470 11 := ⟨by decide, by decide +kernel⟩
theorem oq_471 : Ob NT 471 11 := ⟨by decide, by decide +kernel⟩
theorem oq_472 : Ob NT 472 11 := ⟨by decide, by decide +kernel⟩
theorem oq_473 : Ob NT 473 15 := ⟨by decide, by decide +kernel⟩
theorem oq_486 : Ob NT 486 1 := ⟨by decide, by decide +kernel⟩
theorem oq_487 : Ob NT 487 1 := ⟨by decide, by decide +kernel⟩
theorem oq_488 : Ob NT 488 1 := ⟨by decide, by decide +kernel⟩
theorem oq_489 : Ob NT 489 9 := ⟨by decide, by decide +kernel⟩
theorem oq_490 : Ob NT 490 11 := ⟨by decide, by decide +kernel⟩
theorem oq_491 : Ob NT 491 12 := ⟨by decide, by decide +kernel⟩
theorem oq_492 : Ob NT 492 12 := ⟨by decide, by decide +kernel⟩
theorem oq_493 : Ob NT 493 12 := ⟨by decide, by decide +kernel⟩
theorem oq_494 : Ob NT 494 12 := ⟨by decide, by decide +kernel⟩
theorem oq_495 : Ob NT 495 11 := ⟨by decide, by decide +kernel⟩
theorem oq_496 : Ob NT 496 11 := ⟨by decide, by decide +kernel⟩
theorem oq_497 : Ob NT 497 11 := ⟨by decide, by decide +kernel⟩
theorem oq_498 : Ob NT 498 11 := ⟨by decide, by decide +kernel⟩
theorem oq_499 : Ob NT 499 11 := ⟨by decide, by decide +kernel⟩
theorem oq_5 : Ob NT 5 13 := ⟨by decide, by decide +kernel⟩
theorem oq_500 : Ob NT 500 11 := ⟨by decide, by decide +kernel⟩
theorem oq_501 : Ob NT 501 11 := ⟨by decide, by decide +kernel⟩
theorem oq_502 : Ob NT 502 12 := ⟨by decide, by decide +kernel⟩
theorem oq_503 : Ob NT 503 12 := ⟨by decide, by decide +kernel⟩
theorem oq_504 : Ob NT 504 12 := ⟨by decide, by decide +kernel⟩
theorem oq_505 : Ob NT 505 12 := ⟨by decide, by decide +kernel⟩
theorem oq_506 : Ob NT 506 12 := ⟨by decide, by decide +kernel⟩
theorem oq_507 : Ob NT 507 12 := ⟨by decide, by decide +kernel⟩
theorem oq_508 : Ob NT 508 11 := ⟨by decide, by decide +kernel⟩
theorem oq_509 : Ob NT 509 12 := ⟨by decide, by decide +kernel⟩
theorem oq_510 : Ob NT 510 12 := ⟨by decide, by decide +kernel⟩
theorem oq_511 : Ob NT 511 12 := ⟨by decide, by decide +kernel⟩
theorem oq_512 : Ob NT 512 12 := ⟨by decide, by decide +kernel⟩
theorem oq_513 : Ob NT 513 11 := ⟨by decide, by decide +kernel⟩
theorem oq_514 : Ob NT 514 11 := ⟨by decide, by decide +kernel⟩
theorem oq_515 : Ob NT 515 11 := ⟨by decide, by decide +kernel⟩
theorem oq_516 : Ob NT 516 11 := ⟨by decide, by decide +kernel⟩
theorem oq_517 : Ob NT 517 11 := ⟨by decide, by decide +kernel⟩
theorem oq_518 : Ob NT 518 11 := ⟨by decide, by decide +kernel⟩
theorem oq_519 : Ob NT 519 11 := ⟨by decide, by decide +kernel⟩
theorem oq_520 : Ob NT 520 12 := ⟨by decide, by decide +kernel⟩
theorem oq_521 : Ob NT 521 12 := ⟨by decide, by decide +kernel⟩
theorem oq_522 : Ob NT 522 12 := ⟨by decide, by decide +kernel⟩
theorem oq_55 : Ob NT 55 0 := ⟨by decide, by decide +kernel⟩
theorem oq_56 : Ob NT 56 14 := ⟨by decide, by decide +kernel⟩
theorem oq_57 : Ob NT 57 13 := ⟨by decide, by decide +kernel⟩
theorem oq_58 : Ob NT 58 3 := ⟨by decide, by decide +kernel⟩
theorem oq_75 : Ob NT 75 1 := ⟨by decide, by decide +kernel⟩
theorem rq_0_0 : RF0 0 0 = some 1 := by decide +kernel
theorem rq_0_1 : RF0 0 1 = some 28 := by decide +kernel
theorem rq_0_3 : RF0 0 3 = some 55 := by decide +kernel
theorem rq_0_4 : RF0 0 4 = some 450 := by decide +kernel
theorem rq_0_5 : RF0 0 5 = some 467 := by decide +kernel
theorem rq_0_6 : RF0 0 6 = some 473 := by decide +kernel
theorem rq_0_7 : RF0 0 7 = some 486 := by decide +kernel
theorem rq_0_8 : RF0 0 8 = some 487 := by decide +kernel
theorem rq_0_9 : RF0 0 9 = some 488 := by decide +kernel
theorem rq_19_0 : RF0 19 0 = some 20 := by decide +kernel
theorem rq_1_0 : RF0 1 0 = some 2 := by decide +kernel
theorem rq_1_1 : RF0 1 1 = some 19 := by decide +kernel
theorem rq_1_2 : RF0 1 2 = some 22 := by decide +kernel
theorem rq_1_3 : RF0 1 3 = some 25 := by decide +kernel
theorem rq_22_0 : RF0 22 0 = some 23 := by decide +kernel
theorem rq_22_1 : RF0 22 1 = some 24 := by decide +kernel
theorem rq_2_1 : RF0 2 1 = some 3 := by decide +kernel
theorem rq_2_2 : RF0 2 2 = some 4 := by decide +kernel
theorem rq_2_3 : RF0 2 3 = some 5 := by decide +kernel
theorem rq_2_5 : RF0 2 5 = some 18 := by decide +kernel
theorem rq_437_0 : RF0 437 0 = some 438 := by decide +kernel
theorem rq_437_1 : RF0 437 1 = some 439 := by decide +kernel
theorem rq_437_10 : RF0 437 10 = some 448 := by decide +kernel
theorem rq_437_11 : RF0 437 11 = some 449 := by decide +kernel
theorem rq_437_2 : RF0 437 2 = some 440 := by decide +kernel
theorem rq_437_3 : RF0 437 3 = some 441 := by decide +kernel
theorem rq_437_4 : RF0 437 4 = some 442 := by decide +kernel
theorem rq_437_5 : RF0 437 5 = some 443 := by decide +kernel
theorem rq_437_6 : RF0 437 6 = some 444 := by decide +kernel
theorem rq_437_7 : RF0 437 7 = some 445 := by decide +kernel
theorem rq_437_8 : RF0 437 8 = some 446 := by decide +kernel
theorem rq_437_9 : RF0 437 9 = some 447 := by decide +kernel
theorem rq_450_3 : RF0 450 3 = some 453 := by decide +kernel
theorem rq_467_0 : RF0 467 0 = some 468 := by decide +kernel
theorem rq_467_2 : RF0 467 2 = some 469 := by decide +kernel
theorem rq_467_3 : RF0 467 3 = some 470 := by decide +kernel
theorem rq_467_4 : RF0 467 4 = some 471 := by decide +kernel
theorem rq_467_5 : RF0 467 5 = some 472 := by decide +kernel
theorem rq_489_12 : RF0 489 12 = some 495 := by decide +kernel
theorem rq_489_13 : RF0 489 13 = some 496 := by decide +kernel
theorem rq_489_14 : RF0 489 14 = some 497 := by decide +kernel
theorem rq_489_15 : RF0 489 15 = some 498 := by decide +kernel
theorem rq_489_16 : RF0 489 16 = some 499 := by decide +kernel
theorem rq_489_17 : RF0 489 17 = some 500 := by decide +kernel
theorem rq_489_21 : RF0 489 21 = some 501 := by decide +kernel
theorem rq_489_22 : RF0 489 22 = some 502 := by decide +kernel
theorem rq_489_23 : RF0 489 23 = some 503 := by decide +kernel
theorem rq_489_24 : RF0 489 24 = some 504 := by decide +kernel
theorem rq_489_25 : RF0 489 25 = some 505 := by decide +kernel
theorem rq_489_26 : RF0 489 26 = some 506 := by decide +kernel
theorem rq_489_27 : RF0 489 27 = some 507 := by decide +kernel
theorem rq_489_4 : RF0 489 4 = some 490 := by decide +kernel
theorem rq_489_44 : RF0 489 44 = some 508 := by decide +kernel
theorem rq_489_45 : RF0 489 45 = some 509 := by decide +kernel
theorem rq_489_46 : RF0 489 46 = some 510 := by decide +kernel
theorem rq_489_47 : RF0 489 47 = some 511 := by decide +kernel
theorem rq_489_48 : RF0 489 48 = some 512 := by decide +kernel
theorem rq_489_49 : RF0 489 49 = some 513 := by decide +kernel
theorem rq_489_5 : RF0 489 5 = some 491 := by decide +kernel
theorem rq_489_52 : RF0 489 52 = some 514 := by decide +kernel
theorem rq_489_53 : RF0 489 53 = some 515 := by decide +kernel
theorem rq_489_54 : RF0 489 54 = some 516 := by decide +kernel
theorem rq_489_55 : RF0 489 55 = some 517 := by decide +kernel
theorem rq_489_56 : RF0 489 56 = some 518 := by decide +kernel
theorem rq_489_57 : RF0 489 57 = some 519 := by decide +kernel
theorem rq_489_58 : RF0 489 58 = some 520 := by decide +kernel
theorem rq_489_59 : RF0 489 59 = some 521 := by decide +kernel
theorem rq_489_6 : RF0 489 6 = some 492 := by decide +kernel
theorem rq_489_60 : RF0 489 60 = some 522 := by decide +kernel
theorem rq_489_7 : RF0 489 7 = some 493 := by decide +kernel
theorem rq_489_8 : RF0 489 8 = some 494 := by decide +kernel
theorem rq_55_0 : RF0 55 0 = some 56 := by decide +kernel
theorem rq_55_1 : RF0 55 1 = some 57 := by decide +kernel
theorem rq_55_2 : RF0 55 2 = some 436 := by decide +kernel
theorem rq_55_6 : RF0 55 6 = some 437 := by decide +kernel
theorem vp_of {i : Int32} {n : Nat} (h : 0 ≤ i.toInt) (h2 : i.toInt < (n : Int)) : vp_in i n := by
  intro q
  have e : (i.toNatClampNeg : Int) = i.toInt := by show ((i.toInt.toNat : Nat) : Int) = i.toInt; omega
  rcases q with q | q
  · rw [Int32.lt_iff_toInt_lt] at q
    have : (0 : Int32).toInt = 0 := by decide
    omega
  · omega
theorem ti_11 : (11 : Int32).toInt = 11 := by decide
theorem ti_19 : (19 : Int32).toInt = 19 := by decide
