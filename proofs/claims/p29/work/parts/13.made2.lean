/-! the larger constructors: what is built so far, row by row -/
def Bl (op : Nat → Prop) (lo m : Nat) (lg lg0 : LGt) (it it0 : ITt) (rf rf0 : RFt) : Prop := (∀ j, lo ≤ j → j < m → ¬ op j → lg j = LG0 j ∧ it j = IT0 j ∧ rf j = RF0 j) ∧ Ex lo lg0 lg it0 it rf0 rf
def Rw (j : Nat) (lg : LGt) (it : ITt) (rf : RFt) (a : Nat → Int64) (b : Nat → Int32) (c : Nat → Option Nat) : Prop := lg j = a ∧ it j = b ∧ rf j = c
theorem Bl_ex {op : Nat → Prop} {lo m n : Nat} {lg lg0 lg' : LGt} {it it0 it' : ITt} {rf rf0 rf' : RFt} (h : Bl op lo m lg lg0 it it0 rf rf0) (hl : lo ≤ m) (hF : Fr m n lg' it' rf') (hE : Ex m (zr 0 lg m) lg' (zr 0 it m) it' (zr none rf m) rf') : Bl op lo n lg' lg0 it' it0 rf' rf0 := by
  have key : ∀ j, j < m → lg' j = lg j ∧ it' j = it j ∧ rf' j = rf j := fun j hj => by
    obtain ⟨e1, e2, e3⟩ := hE j hj
    have hn : j ≠ m := by omega
    exact ⟨e1.trans (zr_row hn), e2.trans (zr_row hn), e3.trans (zr_row hn)⟩
  refine ⟨fun j h1 h2 h3 => ?_, fun j hj => ?_⟩
  · by_cases hj : j < m
    · obtain ⟨e1, e2, e3⟩ := key j hj
      obtain ⟨f1, f2, f3⟩ := h.1 j h1 hj h3
      exact ⟨e1.trans f1, e2.trans f2, e3.trans f3⟩
    · exact hF j (by omega) h2
  · obtain ⟨e1, e2, e3⟩ := key j (by omega)
    obtain ⟨f1, f2, f3⟩ := h.2 j hj
    exact ⟨e1.trans f1, e2.trans f2, e3.trans f3⟩
theorem Rw_ex {j m : Nat} {lg lg' : LGt} {it it' : ITt} {rf rf' : RFt} {a : Nat → Int64} {b : Nat → Int32} {c : Nat → Option Nat} (h : Rw j lg it rf a b c) (hj : j < m) (hE : Ex m (zr 0 lg m) lg' (zr 0 it m) it' (zr none rf m) rf') : Rw j lg' it' rf' a b c := by
  obtain ⟨e1, e2, e3⟩ := hE j hj
  have hn : j ≠ m := by omega
  exact ⟨(e1.trans (zr_row hn)).trans h.1, (e2.trans (zr_row hn)).trans h.2.1, (e3.trans (zr_row hn)).trans h.2.2⟩
theorem Ex_rf {m : Nat} {lg : LGt} {it : ITt} {rf : RFt} : Ex m lg lg it it rf rf := fun _ _ => ⟨rfl, rfl, rfl⟩
theorem Fr_zero {m : Nat} {lg : LGt} {it : ITt} {rf : RFt} (h1 : LG0 m = fun _ => 0) (h2 : IT0 m = fun _ => 0) (h3 : RF0 m = fun _ => none) : Fr m (m + 1) (zr 0 lg m) (zr 0 it m) (zr none rf m) := fun j a b => by
  have : j = m := by omega
  subst this
  exact ⟨zr_self.trans h1.symm, zr_self.trans h2.symm, zr_self.trans h3.symm⟩
theorem Fr_frac {m : Nat} {lg : LGt} {it : ITt} {rf : RFt} (h : LAY m = (1, 3)) (h3 : RFL.getD m [] = []) : Fr m (m + 1) (sL (zr 0 lg m) m 0 1) (sI (zr 0 it m) m 2 0) (zr none rf m) ∧ Ex m (zr 0 lg m) (sL (zr 0 lg m) m 0 1) (zr 0 it m) (sI (zr 0 it m) m 2 0) (zr none rf m) (zr none rf m) := by
  refine ⟨fun j a b => ?_, fun j hj => ⟨sL_row (by omega), u2_row (by omega), rfl⟩⟩
  have : j = m := by omega
  subst this
  refine row3 (lg0_fr h) (it0_row h) (rf0_row h3) ?_ ?_ ?_
  · funext k; simp [sL, zr] <;> intros <;> omega
  · funext k; simp [sI, u2, zr, itk]
  · funext k; simp [zr]
theorem Bl_opn {op : Nat → Prop} {lo m : Nat} {lg lg0 : LGt} {it it0 : ITt} {rf rf0 : RFt} (h : Bl op lo m lg lg0 it it0 rf rf0) (hl : lo ≤ m) (ho : op m) : Bl op lo (m + 1) (zr 0 lg m) lg0 (zr 0 it m) it0 (zr none rf m) rf0 := by
  refine ⟨fun j h1 h2 h3 => ?_, fun j hj => ?_⟩
  · have hn : j ≠ m := fun q => h3 (q ▸ ho)
    rw [zr_row hn, zr_row hn, zr_row hn]
    exact h.1 j h1 (by omega) h3
  · have hn : j ≠ m := by omega
    rw [zr_row hn, zr_row hn, zr_row hn]
    exact h.2 j hj
theorem Bl_pr {op : Nat → Prop} {lo m j k : Nat} {v : Option Nat} {lg lg0 : LGt} {it it0 : ITt} {rf rf0 : RFt} (h : Bl op lo m lg lg0 it it0 rf rf0) (hl : lo ≤ j) (ho : op j) : Bl op lo m lg lg0 it it0 (u2 rf j k v) rf0 := by
  refine ⟨fun i h1 h2 h3 => ?_, fun i hi => ?_⟩
  · have hn : i ≠ j := fun q => h3 (by rw [q]; exact ho)
    rw [u2_row hn]
    exact h.1 i h1 h2 h3
  · rw [u2_row (by omega)]
    exact h.2 i hi
theorem Bl_pi {op : Nat → Prop} {lo m j k : Nat} {v : Int32} {lg lg0 : LGt} {it it0 : ITt} {rf rf0 : RFt} (h : Bl op lo m lg lg0 it it0 rf rf0) (hl : lo ≤ j) (ho : op j) : Bl op lo m lg lg0 (u2 it j k v) it0 rf rf0 := by
  refine ⟨fun i h1 h2 h3 => ?_, fun i hi => ?_⟩
  · have hn : i ≠ j := fun q => h3 (by rw [q]; exact ho)
    rw [u2_row hn]
    exact h.1 i h1 h2 h3
  · rw [u2_row (by omega)]
    exact h.2 i hi
theorem Rw_new {m : Nat} {lg : LGt} {it : ITt} {rf : RFt} : Rw m (zr 0 lg m) (zr 0 it m) (zr none rf m) (fun _ => 0) (fun _ => 0) (fun _ => none) := Zr_new
theorem Rw_zr {j m : Nat} {lg : LGt} {it : ITt} {rf : RFt} {a : Nat → Int64} {b : Nat → Int32} {c : Nat → Option Nat} (h : Rw j lg it rf a b c) (hj : j ≠ m) : Rw j (zr 0 lg m) (zr 0 it m) (zr none rf m) a b c := ⟨(zr_row hj).trans h.1, (zr_row hj).trans h.2.1, (zr_row hj).trans h.2.2⟩
theorem Rw_pr {j k : Nat} {v : Option Nat} {lg : LGt} {it : ITt} {rf : RFt} {a : Nat → Int64} {b : Nat → Int32} {c : Nat → Option Nat} (h : Rw j lg it rf a b c) : Rw j lg it (u2 rf j k v) a b (va_up c k v) := ⟨h.1, h.2.1, by
  funext i
  rw [← h.2.2]
  simp [u2, va_up]⟩
theorem Rw_pi {j k : Nat} {v : Int32} {lg : LGt} {it : ITt} {rf : RFt} {a : Nat → Int64} {b : Nat → Int32} {c : Nat → Option Nat} (h : Rw j lg it rf a b c) : Rw j lg (u2 it j k v) rf a (va_up b k v) c := ⟨h.1, by
  funext i
  rw [← h.2.1]
  simp [u2, va_up], h.2.2⟩
theorem Rw_nr {i j k : Nat} {v : Option Nat} {lg : LGt} {it : ITt} {rf : RFt} {a : Nat → Int64} {b : Nat → Int32} {c : Nat → Option Nat} (h : Rw j lg it rf a b c) (hn : j ≠ i) : Rw j lg it (u2 rf i k v) a b c := ⟨h.1, h.2.1, (u2_row hn).trans h.2.2⟩
theorem Rw_ni {i j k : Nat} {v : Int32} {lg : LGt} {it : ITt} {rf : RFt} {a : Nat → Int64} {b : Nat → Int32} {c : Nat → Option Nat} (h : Rw j lg it rf a b c) (hn : j ≠ i) : Rw j lg (u2 it i k v) rf a b c := ⟨h.1, (u2_row hn).trans h.2.1, h.2.2⟩
theorem Rw_fr {j m : Nat} {lg : LGt} {it : ITt} {rf : RFt} {a : Nat → Int64} {b : Nat → Int32} {c : Nat → Option Nat} (h : Rw j lg it rf a b c) (hn : j ≠ m) : Rw j (sL (zr 0 lg m) m 0 1) (sI (zr 0 it m) m 2 0) (zr none rf m) a b c := ⟨((sL_row hn).trans (zr_row hn)).trans h.1, ((u2_row hn).trans (zr_row hn)).trans h.2.1, (zr_row hn).trans h.2.2⟩
theorem Bl_0 {op : Nat → Prop} {lo : Nat} {lg : LGt} {it : ITt} {rf : RFt} (ho : op lo) : Bl op lo (lo + 1) lg lg it it rf rf := by
  refine ⟨fun j h1 h2 h3 => ?_, fun _ _ => ⟨rfl, rfl, rfl⟩⟩
  have e : j = lo := by omega
  exact absurd ho (by rw [← e]; exact h3)
theorem lay_t (l : List (Nat × (Nat × Nat))) (h : l.all (fun q => decide (LAY q.1 = q.2)) = true) : ∀ q ∈ l, LAY q.1 = q.2 := fun q hq => of_decide_eq_true (List.all_eq_true.mp h q hq)
theorem rowf {j : Nat} {L : List (Option Nat)} {f : Nat → Option Nat} (h : RFL.getD j [] = L) (hlt : ∀ k, k < L.length → f k = L.getD k none) (hge : ∀ k, L.length ≤ k → f k = none) : RF0 j = f := by
  rw [rf0_row h]
  funext k
  by_cases hk : k < L.length
  · exact (hlt k hk).symm
  · rw [hge k (by omega), List.getD_eq_getElem?_getD, List.getElem?_eq_none (by omega)]
    rfl
theorem Bl_end {op : Nat → Prop} {lo m : Nat} {lg lg0 : LGt} {it it0 : ITt} {rf rf0 : RFt} (h : Bl op lo m lg lg0 it it0 rf rf0) (ho : ∀ j, lo ≤ j → j < m → op j → lg j = LG0 j ∧ it j = IT0 j ∧ rf j = RF0 j) : Fr lo m lg it rf ∧ Ex lo lg0 lg it0 it rf0 rf := ⟨fun j h1 h2 => by
  by_cases hj : op j
  · exact ho j h1 h2 hj
  · exact h.1 j h1 h2 hj, h.2⟩
theorem Rw_of {op : Nat → Prop} {lo m j : Nat} {lg lg0 : LGt} {it it0 : ITt} {rf rf0 : RFt} {a : Nat → Int64} {b : Nat → Int32} {c : Nat → Option Nat} (_ : Bl op lo m lg lg0 it it0 rf rf0) (h : Rw j lg it rf a b c) : Rw j lg it rf a b c := h
theorem ly_0 : LAY 0 = (8, 10) := by decide +kernel
theorem ly_1 : LAY 1 = (4, 4) := by decide +kernel
theorem ly_2 : LAY 2 = (3, 6) := by decide +kernel
theorem ly_19 : LAY 19 = (2, 3) := by decide +kernel
theorem ly_22 : LAY 22 = (2, 3) := by decide +kernel
theorem ly_25 : LAY 25 = (2, 3) := by decide +kernel
theorem ly_28 : LAY 28 = (4, 4) := by decide +kernel
theorem ly_29 : LAY 29 = (3, 6) := by decide +kernel
theorem ly_46 : LAY 46 = (2, 3) := by decide +kernel
theorem ly_49 : LAY 49 = (2, 3) := by decide +kernel
theorem ly_52 : LAY 52 = (2, 3) := by decide +kernel
theorem ly_55 : LAY 55 = (0, 7) := by decide +kernel
theorem ly_56 : LAY 56 = (14, 21) := by decide +kernel
theorem ly_57 : LAY 57 = (13, 21) := by decide +kernel
theorem ly_58 : LAY 58 = (3, 6) := by decide +kernel
theorem ly_75 : LAY 75 = (1, 3) := by decide +kernel
theorem ly_76 : LAY 76 = (3, 6) := by decide +kernel
theorem ly_93 : LAY 93 = (1, 3) := by decide +kernel
theorem ly_94 : LAY 94 = (3, 6) := by decide +kernel
theorem ly_111 : LAY 111 = (1, 3) := by decide +kernel
theorem ly_112 : LAY 112 = (3, 6) := by decide +kernel
theorem ly_129 : LAY 129 = (1, 3) := by decide +kernel
theorem ly_130 : LAY 130 = (3, 6) := by decide +kernel
theorem ly_147 : LAY 147 = (1, 3) := by decide +kernel
theorem ly_148 : LAY 148 = (3, 6) := by decide +kernel
theorem ly_165 : LAY 165 = (1, 3) := by decide +kernel
theorem ly_166 : LAY 166 = (3, 6) := by decide +kernel
theorem ly_183 : LAY 183 = (1, 3) := by decide +kernel
theorem ly_184 : LAY 184 = (3, 6) := by decide +kernel
theorem ly_201 : LAY 201 = (1, 3) := by decide +kernel
theorem ly_202 : LAY 202 = (3, 6) := by decide +kernel
theorem ly_219 : LAY 219 = (1, 3) := by decide +kernel
theorem ly_220 : LAY 220 = (3, 6) := by decide +kernel
theorem ly_237 : LAY 237 = (1, 3) := by decide +kernel
theorem ly_238 : LAY 238 = (3, 6) := by decide +kernel
theorem ly_255 : LAY 255 = (1, 3) := by decide +kernel
theorem ly_256 : LAY 256 = (3, 6) := by decide +kernel
theorem ly_273 : LAY 273 = (1, 3) := by decide +kernel
theorem ly_274 : LAY 274 = (3, 6) := by decide +kernel
theorem ly_291 : LAY 291 = (1, 3) := by decide +kernel
theorem ly_292 : LAY 292 = (3, 6) := by decide +kernel
theorem ly_309 : LAY 309 = (1, 3) := by decide +kernel
theorem ly_310 : LAY 310 = (3, 6) := by decide +kernel
theorem ly_327 : LAY 327 = (1, 3) := by decide +kernel
theorem ly_328 : LAY 328 = (3, 6) := by decide +kernel
theorem ly_345 : LAY 345 = (1, 3) := by decide +kernel
theorem ly_346 : LAY 346 = (3, 6) := by decide +kernel
theorem ly_363 : LAY 363 = (1, 3) := by decide +kernel
theorem ly_364 : LAY 364 = (3, 6) := by decide +kernel
theorem ly_381 : LAY 381 = (1, 3) := by decide +kernel
theorem ly_382 : LAY 382 = (3, 6) := by decide +kernel
theorem ly_399 : LAY 399 = (1, 3) := by decide +kernel
theorem ly_400 : LAY 400 = (3, 6) := by decide +kernel
theorem ly_417 : LAY 417 = (1, 3) := by decide +kernel
theorem ly_418 : LAY 418 = (3, 6) := by decide +kernel
theorem ly_435 : LAY 435 = (1, 3) := by decide +kernel
theorem ly_436 : LAY 436 = (11, 20) := by decide +kernel
theorem ly_437 : LAY 437 = (5, 12) := by decide +kernel
theorem ly_438 : LAY 438 = (1, 3) := by decide +kernel
theorem ly_439 : LAY 439 = (1, 3) := by decide +kernel
theorem ly_440 : LAY 440 = (1, 3) := by decide +kernel
theorem ly_441 : LAY 441 = (1, 3) := by decide +kernel
theorem ly_442 : LAY 442 = (1, 3) := by decide +kernel
theorem ly_443 : LAY 443 = (1, 3) := by decide +kernel
theorem ly_444 : LAY 444 = (1, 3) := by decide +kernel
theorem ly_445 : LAY 445 = (1, 3) := by decide +kernel
theorem ly_446 : LAY 446 = (1, 3) := by decide +kernel
theorem ly_447 : LAY 447 = (1, 3) := by decide +kernel
theorem ly_448 : LAY 448 = (1, 3) := by decide +kernel
theorem ly_449 : LAY 449 = (1, 3) := by decide +kernel
theorem ly_450 : LAY 450 = (3, 6) := by decide +kernel
theorem ly_467 : LAY 467 = (7, 9) := by decide +kernel
theorem ly_468 : LAY 468 = (10, 100) := by decide +kernel
theorem ly_469 : LAY 469 = (11, 12) := by decide +kernel
theorem ly_470 : LAY 470 = (11, 12) := by decide +kernel
theorem ly_471 : LAY 471 = (11, 12) := by decide +kernel
theorem ly_472 : LAY 472 = (11, 12) := by decide +kernel
theorem ly_473 : LAY 473 = (15, 6) := by decide +kernel
theorem ly_474 : LAY 474 = (6, 3) := by decide +kernel
theorem ly_475 : LAY 475 = (12, 60) := by decide +kernel
theorem ly_476 : LAY 476 = (6, 3) := by decide +kernel
theorem ly_477 : LAY 477 = (12, 60) := by decide +kernel
theorem ly_478 : LAY 478 = (6, 3) := by decide +kernel
theorem ly_479 : LAY 479 = (12, 60) := by decide +kernel
theorem ly_480 : LAY 480 = (6, 3) := by decide +kernel
theorem ly_481 : LAY 481 = (12, 60) := by decide +kernel
theorem ly_482 : LAY 482 = (6, 3) := by decide +kernel
theorem ly_483 : LAY 483 = (12, 60) := by decide +kernel
theorem ly_484 : LAY 484 = (6, 3) := by decide +kernel
theorem ly_485 : LAY 485 = (12, 60) := by decide +kernel
theorem ly_486 : LAY 486 = (1, 3) := by decide +kernel
theorem ly_487 : LAY 487 = (1, 3) := by decide +kernel
theorem ly_488 : LAY 488 = (1, 3) := by decide +kernel
theorem ly_489 : LAY 489 = (9, 62) := by decide +kernel
theorem ly_490 : LAY 490 = (11, 6) := by decide +kernel
theorem ly_491 : LAY 491 = (12, 6) := by decide +kernel
theorem ly_492 : LAY 492 = (12, 6) := by decide +kernel
theorem ly_493 : LAY 493 = (12, 6) := by decide +kernel
theorem ly_494 : LAY 494 = (12, 6) := by decide +kernel
theorem ly_495 : LAY 495 = (11, 5) := by decide +kernel
theorem ly_496 : LAY 496 = (11, 5) := by decide +kernel
theorem ly_497 : LAY 497 = (11, 8) := by decide +kernel
theorem ly_498 : LAY 498 = (11, 8) := by decide +kernel
theorem ly_499 : LAY 499 = (11, 8) := by decide +kernel
theorem ly_500 : LAY 500 = (11, 8) := by decide +kernel
theorem ly_501 : LAY 501 = (11, 6) := by decide +kernel
theorem ly_502 : LAY 502 = (12, 6) := by decide +kernel
theorem ly_503 : LAY 503 = (12, 6) := by decide +kernel
theorem ly_504 : LAY 504 = (12, 6) := by decide +kernel
theorem ly_505 : LAY 505 = (12, 6) := by decide +kernel
theorem ly_506 : LAY 506 = (12, 6) := by decide +kernel
theorem ly_507 : LAY 507 = (12, 6) := by decide +kernel
theorem ly_508 : LAY 508 = (11, 20) := by decide +kernel
theorem ly_509 : LAY 509 = (12, 20) := by decide +kernel
theorem ly_510 : LAY 510 = (12, 20) := by decide +kernel
theorem ly_511 : LAY 511 = (12, 240) := by decide +kernel
theorem ly_512 : LAY 512 = (12, 240) := by decide +kernel
theorem ly_513 : LAY 513 = (11, 100) := by decide +kernel
theorem ly_514 : LAY 514 = (11, 12) := by decide +kernel
theorem ly_515 : LAY 515 = (11, 12) := by decide +kernel
theorem ly_516 : LAY 516 = (11, 12) := by decide +kernel
theorem ly_517 : LAY 517 = (11, 12) := by decide +kernel
theorem ly_518 : LAY 518 = (11, 6) := by decide +kernel
theorem ly_519 : LAY 519 = (11, 6) := by decide +kernel
theorem ly_520 : LAY 520 = (12, 360) := by decide +kernel
theorem ly_521 : LAY 521 = (12, 60) := by decide +kernel
theorem ly_522 : LAY 522 = (12, 80) := by decide +kernel
theorem tb_0 : RFL.getD 0 [] = [some 1, some 28, none, some 55, some 450, some 467, some 473, some 486, some 487, some 488] := by decide +kernel
theorem tb_1 : RFL.getD 1 [] = [some 2, some 19, some 22, some 25] := by decide +kernel
theorem tb_28 : RFL.getD 28 [] = [some 29, some 46, some 49, some 52] := by decide +kernel
theorem tb_55 : RFL.getD 55 [] = [some 56, some 57, some 436, none, none, none, some 437] := by decide +kernel
theorem tb_56 : RFL.getD 56 [] = [some 58, some 76, some 94, some 112, some 130, some 148, some 166, some 184, some 202, some 220, some 238, some 256, some 274, some 292, some 310, some 328, some 346, some 364, some 382, some 400, some 418] := by decide +kernel
theorem tb_57 : RFL.getD 57 [] = [some 75, some 93, some 111, some 129, some 147, some 165, some 183, some 201, some 219, some 237, some 255, some 273, some 291, some 309, some 327, some 345, some 363, some 381, some 399, some 417, some 435] := by decide +kernel
theorem tb_75 : RFL.getD 75 [] = [] := by decide +kernel
theorem tb_93 : RFL.getD 93 [] = [] := by decide +kernel
theorem tb_111 : RFL.getD 111 [] = [] := by decide +kernel
theorem tb_129 : RFL.getD 129 [] = [] := by decide +kernel
theorem tb_147 : RFL.getD 147 [] = [] := by decide +kernel
theorem tb_165 : RFL.getD 165 [] = [] := by decide +kernel
theorem tb_183 : RFL.getD 183 [] = [] := by decide +kernel
theorem tb_201 : RFL.getD 201 [] = [] := by decide +kernel
theorem tb_219 : RFL.getD 219 [] = [] := by decide +kernel
theorem tb_237 : RFL.getD 237 [] = [] := by decide +kernel
theorem tb_255 : RFL.getD 255 [] = [] := by decide +kernel
theorem tb_273 : RFL.getD 273 [] = [] := by decide +kernel
theorem tb_291 : RFL.getD 291 [] = [] := by decide +kernel
theorem tb_309 : RFL.getD 309 [] = [] := by decide +kernel
theorem tb_327 : RFL.getD 327 [] = [] := by decide +kernel
theorem tb_345 : RFL.getD 345 [] = [] := by decide +kernel
theorem tb_363 : RFL.getD 363 [] = [] := by decide +kernel
theorem tb_381 : RFL.getD 381 [] = [] := by decide +kernel
theorem tb_399 : RFL.getD 399 [] = [] := by decide +kernel
theorem tb_417 : RFL.getD 417 [] = [] := by decide +kernel
theorem tb_435 : RFL.getD 435 [] = [] := by decide +kernel
theorem tb_436 : RFL.getD 436 [] = [] := by decide +kernel
theorem tb_437 : RFL.getD 437 [] = [some 438, some 439, some 440, some 441, some 442, some 443, some 444, some 445, some 446, some 447, some 448, some 449] := by decide +kernel
theorem tb_438 : RFL.getD 438 [] = [] := by decide +kernel
theorem tb_439 : RFL.getD 439 [] = [] := by decide +kernel
theorem tb_440 : RFL.getD 440 [] = [] := by decide +kernel
theorem tb_441 : RFL.getD 441 [] = [] := by decide +kernel
theorem tb_442 : RFL.getD 442 [] = [] := by decide +kernel
theorem tb_443 : RFL.getD 443 [] = [] := by decide +kernel
theorem tb_444 : RFL.getD 444 [] = [] := by decide +kernel
theorem tb_445 : RFL.getD 445 [] = [] := by decide +kernel
theorem tb_446 : RFL.getD 446 [] = [] := by decide +kernel
theorem tb_447 : RFL.getD 447 [] = [] := by decide +kernel
theorem tb_448 : RFL.getD 448 [] = [] := by decide +kernel
theorem tb_449 : RFL.getD 449 [] = [] := by decide +kernel
theorem tb_467 : RFL.getD 467 [] = [some 468, none, some 469, some 470, some 471, some 472] := by decide +kernel
theorem tb_468 : RFL.getD 468 [] = [] := by decide +kernel
theorem tb_469 : RFL.getD 469 [] = [] := by decide +kernel
theorem tb_470 : RFL.getD 470 [] = [] := by decide +kernel
theorem tb_471 : RFL.getD 471 [] = [] := by decide +kernel
theorem tb_472 : RFL.getD 472 [] = [] := by decide +kernel
theorem tb_473 : RFL.getD 473 [] = [some 474, some 476, some 478, some 480, some 482, some 484] := by decide +kernel
theorem tb_474 : RFL.getD 474 [] = [none, none, some 475] := by decide +kernel
theorem tb_475 : RFL.getD 475 [] = [] := by decide +kernel
theorem tb_476 : RFL.getD 476 [] = [none, none, some 477] := by decide +kernel
theorem tb_477 : RFL.getD 477 [] = [] := by decide +kernel
theorem tb_478 : RFL.getD 478 [] = [none, none, some 479] := by decide +kernel
theorem tb_479 : RFL.getD 479 [] = [] := by decide +kernel
theorem tb_480 : RFL.getD 480 [] = [none, none, some 481] := by decide +kernel
theorem tb_481 : RFL.getD 481 [] = [] := by decide +kernel
theorem tb_482 : RFL.getD 482 [] = [none, none, some 483] := by decide +kernel
theorem tb_483 : RFL.getD 483 [] = [] := by decide +kernel
theorem tb_484 : RFL.getD 484 [] = [none, none, some 485] := by decide +kernel
theorem tb_485 : RFL.getD 485 [] = [] := by decide +kernel
theorem tb_486 : RFL.getD 486 [] = [] := by decide +kernel
theorem tb_487 : RFL.getD 487 [] = [] := by decide +kernel
theorem tb_488 : RFL.getD 488 [] = [] := by decide +kernel
theorem tb_489 : RFL.getD 489 [] = [none, none, none, none, some 490, some 491, some 492, some 493, some 494, none, none, none, some 495, some 496, some 497, some 498, some 499, some 500, none, none, none, some 501, some 502, some 503, some 504, some 505, some 506, some 507, none, none, none, none, none, none, none, none, none, none, none, none, none, none, none, none, some 508, some 509, some 510, some 511, some 512, some 513, none, none, some 514, some 515, some 516, some 517, some 518, some 519, some 520, some 521, some 522] := by decide +kernel
theorem tb_490 : RFL.getD 490 [] = [] := by decide +kernel
theorem tb_491 : RFL.getD 491 [] = [] := by decide +kernel
theorem tb_492 : RFL.getD 492 [] = [] := by decide +kernel
theorem tb_493 : RFL.getD 493 [] = [] := by decide +kernel
theorem tb_494 : RFL.getD 494 [] = [] := by decide +kernel
theorem tb_495 : RFL.getD 495 [] = [] := by decide +kernel
theorem tb_496 : RFL.getD 496 [] = [] := by decide +kernel
theorem tb_497 : RFL.getD 497 [] = [] := by decide +kernel
theorem tb_498 : RFL.getD 498 [] = [] := by decide +kernel
theorem tb_499 : RFL.getD 499 [] = [] := by decide +kernel
theorem tb_500 : RFL.getD 500 [] = [] := by decide +kernel
theorem tb_501 : RFL.getD 501 [] = [] := by decide +kernel
theorem tb_502 : RFL.getD 502 [] = [] := by decide +kernel
theorem tb_503 : RFL.getD 503 [] = [] := by decide +kernel
theorem tb_504 : RFL.getD 504 [] = [] := by decide +kernel
theorem tb_505 : RFL.getD 505 [] = [] := by decide +kernel
theorem tb_506 : RFL.getD 506 [] = [] := by decide +kernel
theorem tb_507 : RFL.getD 507 [] = [] := by decide +kernel
theorem tb_508 : RFL.getD 508 [] = [] := by decide +kernel
theorem tb_509 : RFL.getD 509 [] = [] := by decide +kernel
theorem tb_510 : RFL.getD 510 [] = [] := by decide +kernel
theorem tb_511 : RFL.getD 511 [] = [] := by decide +kernel
theorem tb_512 : RFL.getD 512 [] = [] := by decide +kernel
theorem tb_513 : RFL.getD 513 [] = [] := by decide +kernel
theorem tb_514 : RFL.getD 514 [] = [] := by decide +kernel
theorem tb_515 : RFL.getD 515 [] = [] := by decide +kernel
theorem tb_516 : RFL.getD 516 [] = [] := by decide +kernel
theorem tb_517 : RFL.getD 517 [] = [] := by decide +kernel
theorem tb_518 : RFL.getD 518 [] = [] := by decide +kernel
theorem tb_519 : RFL.getD 519 [] = [] := by decide +kernel
theorem tb_520 : RFL.getD 520 [] = [] := by decide +kernel
theorem tb_521 : RFL.getD 521 [] = [] := by decide +kernel
theorem tb_522 : RFL.getD 522 [] = [] := by decide +kernel
def sp_X5_init : Spc := fun as N lg it rf K => match as with | [.ref 437] => ((N = 438 ∧ Zr 437 lg it rf) ∧ ∀ lg' it' rf', Fr 437 450 lg' it' rf' → Ex 437 lg lg' it it' rf rf' → K none lg' it' rf') | _ => False
def T_X5_init : Tab := (FL_X5, CL_X5, JL_X5, [(3, 2, 1, 0, 0, sp_obj), (11, 2, 1, 0, 0, sp_X1_init)], 5, none)
def rm_X5_init : Room := { frames := 2, cells := 12, slots := 4800, locals := 40 }
set_option maxRecDepth 100000 in
theorem bd_X5_init (as : List Value) (N : Nat) (lg : LGt) (it : ITt) (rf : RFt) (Q : Post) (h : sp_X5_init as N lg it rf Q) : Bd T_X5_init cX5_init 1 12 as N lg it rf Q := by
  unfold sp_X5_init at h
  split at h
  · refine ⟨Nat.le_of_ble_eq_true rfl, fun P hs hw hf => ?_⟩
    obtain ⟨⟨rfl, hz⟩, hk⟩ := h
    have hB := Bl_0 (op := fun j => j = 437) (lo := 437) (lg := lg) (it := it) (rf := rf) (by omega)
    have hR0 : Rw 437 lg it rf _ _ _ := hz
    refine hs dX5_init_0 (hs dX5_init_1 (And.intro (trivial) (n0 (hs dX5_init_4 (hs dX5_init_5 (And.intro (⟨by omega, ly_438⟩) (nM (M := 439) rfl (hs dX5_init_8 (hs dX5_init_9 (And.intro (trivial) (And.intro (⟨by omega, by rw [ly_438]⟩) (n0 ?_) )))))))))))
    have hB := Bl_ex hB (by omega) (Fr_frac ly_438 tb_438).1 (Fr_frac ly_438 tb_438).2
    have hR0 := Rw_fr hR0 (m := 438) (by omega)
    refine hs dX5_init_12 (And.intro (⟨by omega, by rw [ly_437]⟩) ?_)
    have hB := Bl_pr hB (j := 437) (k := 0) (v := some 438) (by omega) (by omega)
    have hR0 := Rw_pr hR0 (k := 0) (v := some 438)
    refine hs dX5_init_15 (hs dX5_init_16 (And.intro (⟨by omega, ly_439⟩) (nM (M := 440) rfl (hs dX5_init_19 (hs dX5_init_20 (And.intro (trivial) (And.intro (⟨by omega, by rw [ly_439]⟩) (n0 ?_) )))))))
    have hB := Bl_ex hB (by omega) (Fr_frac ly_439 tb_439).1 (Fr_frac ly_439 tb_439).2
    have hR0 := Rw_fr hR0 (m := 439) (by omega)
    refine hs dX5_init_23 (And.intro (⟨by omega, by rw [ly_437]⟩) ?_)
    have hB := Bl_pr hB (j := 437) (k := 1) (v := some 439) (by omega) (by omega)
    have hR0 := Rw_pr hR0 (k := 1) (v := some 439)
    refine hs dX5_init_26 (hs dX5_init_27 (And.intro (⟨by omega, ly_440⟩) (nM (M := 441) rfl (hs dX5_init_30 (hs dX5_init_31 (And.intro (trivial) (And.intro (⟨by omega, by rw [ly_440]⟩) (n0 ?_) )))))))
    have hB := Bl_ex hB (by omega) (Fr_frac ly_440 tb_440).1 (Fr_frac ly_440 tb_440).2
    have hR0 := Rw_fr hR0 (m := 440) (by omega)
    refine hs dX5_init_34 (And.intro (⟨by omega, by rw [ly_437]⟩) ?_)
    have hB := Bl_pr hB (j := 437) (k := 2) (v := some 440) (by omega) (by omega)
    have hR0 := Rw_pr hR0 (k := 2) (v := some 440)
    refine hs dX5_init_37 (hs dX5_init_38 (And.intro (⟨by omega, ly_441⟩) (nM (M := 442) rfl (hs dX5_init_41 (hs dX5_init_42 (And.intro (trivial) (And.intro (⟨by omega, by rw [ly_441]⟩) (n0 ?_) )))))))
    have hB := Bl_ex hB (by omega) (Fr_frac ly_441 tb_441).1 (Fr_frac ly_441 tb_441).2
    have hR0 := Rw_fr hR0 (m := 441) (by omega)
    refine hs dX5_init_45 (And.intro (⟨by omega, by rw [ly_437]⟩) ?_)
    have hB := Bl_pr hB (j := 437) (k := 3) (v := some 441) (by omega) (by omega)
    have hR0 := Rw_pr hR0 (k := 3) (v := some 441)
    refine hs dX5_init_48 (hs dX5_init_49 (And.intro (⟨by omega, ly_442⟩) (nM (M := 443) rfl (hs dX5_init_52 (hs dX5_init_53 (And.intro (trivial) (And.intro (⟨by omega, by rw [ly_442]⟩) (n0 ?_) )))))))
    have hB := Bl_ex hB (by omega) (Fr_frac ly_442 tb_442).1 (Fr_frac ly_442 tb_442).2
    have hR0 := Rw_fr hR0 (m := 442) (by omega)
    refine hs dX5_init_56 (And.intro (⟨by omega, by rw [ly_437]⟩) ?_)
    have hB := Bl_pr hB (j := 437) (k := 4) (v := some 442) (by omega) (by omega)
    have hR0 := Rw_pr hR0 (k := 4) (v := some 442)
    refine hs dX5_init_59 (hs dX5_init_60 (And.intro (⟨by omega, ly_443⟩) (nM (M := 444) rfl (hs dX5_init_63 (hs dX5_init_64 (And.intro (trivial) (And.intro (⟨by omega, by rw [ly_443]⟩) (n0 ?_) )))))))
    have hB := Bl_ex hB (by omega) (Fr_frac ly_443 tb_443).1 (Fr_frac ly_443 tb_443).2
    have hR0 := Rw_fr hR0 (m := 443) (by omega)
    refine hs dX5_init_67 (And.intro (⟨by omega, by rw [ly_437]⟩) ?_)
    have hB := Bl_pr hB (j := 437) (k := 5) (v := some 443) (by omega) (by omega)
    have hR0 := Rw_pr hR0 (k := 5) (v := some 443)
    refine hs dX5_init_70 (hs dX5_init_71 (And.intro (⟨by omega, ly_444⟩) (nM (M := 445) rfl (hs dX5_init_74 (hs dX5_init_75 (And.intro (trivial) (And.intro (⟨by omega, by rw [ly_444]⟩) (n0 ?_) )))))))
    have hB := Bl_ex hB (by omega) (Fr_frac ly_444 tb_444).1 (Fr_frac ly_444 tb_444).2
    have hR0 := Rw_fr hR0 (m := 444) (by omega)
    refine hs dX5_init_78 (And.intro (⟨by omega, by rw [ly_437]⟩) ?_)
    have hB := Bl_pr hB (j := 437) (k := 6) (v := some 444) (by omega) (by omega)
    have hR0 := Rw_pr hR0 (k := 6) (v := some 444)
    refine hs dX5_init_81 (hs dX5_init_82 (And.intro (⟨by omega, ly_445⟩) (nM (M := 446) rfl (hs dX5_init_85 (hs dX5_init_86 (And.intro (trivial) (And.intro (⟨by omega, by rw [ly_445]⟩) (n0 ?_) )))))))
    have hB := Bl_ex hB (by omega) (Fr_frac ly_445 tb_445).1 (Fr_frac ly_445 tb_445).2
    have hR0 := Rw_fr hR0 (m := 445) (by omega)
    refine hs dX5_init_89 (And.intro (⟨by omega, by rw [ly_437]⟩) ?_)
    have hB := Bl_pr hB (j := 437) (k := 7) (v := some 445) (by omega) (by omega)
    have hR0 := Rw_pr hR0 (k := 7) (v := some 445)
    refine hs dX5_init_92 (hs dX5_init_93 (And.intro (⟨by omega, ly_446⟩) (nM (M := 447) rfl (hs dX5_init_96 (hs dX5_init_97 (And.intro (trivial) (And.intro (⟨by omega, by rw [ly_446]⟩) (n0 ?_) )))))))
    have hB := Bl_ex hB (by omega) (Fr_frac ly_446 tb_446).1 (Fr_frac ly_446 tb_446).2
    have hR0 := Rw_fr hR0 (m := 446) (by omega)
    refine hs dX5_init_100 (And.intro (⟨by omega, by rw [ly_437]⟩) ?_)
    have hB := Bl_pr hB (j := 437) (k := 8) (v := some 446) (by omega) (by omega)
    have hR0 := Rw_pr hR0 (k := 8) (v := some 446)
    refine hs dX5_init_103 (hs dX5_init_104 (And.intro (⟨by omega, ly_447⟩) (nM (M := 448) rfl (hs dX5_init_107 (hs dX5_init_108 (And.intro (trivial) (And.intro (⟨by omega, by rw [ly_447]⟩) (n0 ?_) )))))))
    have hB := Bl_ex hB (by omega) (Fr_frac ly_447 tb_447).1 (Fr_frac ly_447 tb_447).2
    have hR0 := Rw_fr hR0 (m := 447) (by omega)
    refine hs dX5_init_111 (And.intro (⟨by omega, by rw [ly_437]⟩) ?_)
    have hB := Bl_pr hB (j := 437) (k := 9) (v := some 447) (by omega) (by omega)
    have hR0 := Rw_pr hR0 (k := 9) (v := some 447)
    refine hs dX5_init_114 (hs dX5_init_115 (And.intro (⟨by omega, ly_448⟩) (nM (M := 449) rfl (hs dX5_init_118 (hs dX5_init_119 (And.intro (trivial) (And.intro (⟨by omega, by rw [ly_448]⟩) (n0 ?_) )))))))
    have hB := Bl_ex hB (by omega) (Fr_frac ly_448 tb_448).1 (Fr_frac ly_448 tb_448).2
    have hR0 := Rw_fr hR0 (m := 448) (by omega)
    refine hs dX5_init_122 (And.intro (⟨by omega, by rw [ly_437]⟩) ?_)
    have hB := Bl_pr hB (j := 437) (k := 10) (v := some 448) (by omega) (by omega)
    have hR0 := Rw_pr hR0 (k := 10) (v := some 448)
    refine hs dX5_init_125 (hs dX5_init_126 (And.intro (⟨by omega, ly_449⟩) (nM (M := 450) rfl (hs dX5_init_129 (hs dX5_init_130 (And.intro (trivial) (And.intro (⟨by omega, by rw [ly_449]⟩) (n0 ?_) )))))))
    have hB := Bl_ex hB (by omega) (Fr_frac ly_449 tb_449).1 (Fr_frac ly_449 tb_449).2
    have hR0 := Rw_fr hR0 (m := 449) (by omega)
    refine hs dX5_init_133 (And.intro (⟨by omega, by rw [ly_437]⟩) ?_)
    have hB := Bl_pr hB (j := 437) (k := 11) (v := some 449) (by omega) (by omega)
    have hR0 := Rw_pr hR0 (k := 11) (v := some 449)
    refine hs dX5_init_136 (And.intro (rfl) (And.intro rfl ?_))
    refine (fun z => hk _ _ _ z.1 z.2) (Bl_end hB (fun j h1 h2 h3 => ?_))
    · rcases (show j = 437 by omega) with rfl
      · exact ⟨hR0.1.trans (lg0_row ly_437 (by decide)).symm, hR0.2.1.trans (Eq.symm (by rw [it0_row ly_437]; funext k; simp [itk])), hR0.2.2.trans (rowf tb_437 (by decide +kernel) (by intro k hk; replace hk : 12 ≤ k := hk; obtain ⟨k2, rfl⟩ := Nat.exists_eq_add_of_le' hk; simp [va_up, tn_0, tn_1, tn_2, tn_3, tn_4, tn_5, tn_6, tn_7, tn_8, tn_9, tn_10, tn_11, tn_12, tn_13, tn_14, tn_15, tn_16, tn_17, tn_18, tn_19, tn_20, tn_21])).symm⟩
  · exact h.elim
theorem sh_X5_init (as : List Value) (N : Nat) (lg : LGt) (it : ITt) (rf : RFt) (Q : Post) (h : sp_X5_init as N lg it rf Q) : ∃ j t, as = .ref j :: t := by
  unfold sp_X5_init at h
  split at h
  · exact ⟨_, _, rfl⟩
  · exact h.elim
theorem ct_X5_init {E : Ev} {l : Launch} : CT E l yX5_init (wsY yX5_init cX5_init 1 none) rm_X5_init 12 sp_X5_init := ct_of (T := T_X5_init) (own := RX5) (by decide) rfl (fun ci _ hc => by have h2 : (5 : Nat) = ci := Nat.eq_of_beq_eq_true hc; subst h2; exact ⟨rfl, rfl⟩) ⟨rfl, rfl⟩ ⟨fok_X5, clok_X5, jok_X5, List.forall_mem_cons.mpr ⟨cok_obj ml_X5_3 o_obj.1 o_obj.2 (by decide), List.forall_mem_cons.mpr ⟨cok_I ct_X1_init sh_X1_init rfl ((cl_ins (c := 1) (by decide)).2) ml_X5_11 im_X1_init co_X1_init mo_X1_init (by decide), fun _ h => absurd h List.not_mem_nil⟩⟩⟩ bd_X5_init
def sp_X7_init : Spc := fun as N lg it rf K => match as with | [.ref 467] => ((N = 468 ∧ Zr 467 lg it rf) ∧ ∀ lg' it' rf', Fr 467 473 lg' it' rf' → Ex 467 lg lg' it it' rf rf' → K none lg' it' rf') | _ => False
def T_X7_init : Tab := (FL_X7, CL_X7, JL_X7, [(3, 2, 1, 0, 0, sp_obj)], 7, none)
def rm_X7_init : Room := { frames := 1, cells := 5, slots := 2000, locals := 20 }
set_option maxRecDepth 100000 in
theorem bd_X7_init (as : List Value) (N : Nat) (lg : LGt) (it : ITt) (rf : RFt) (Q : Post) (h : sp_X7_init as N lg it rf Q) : Bd T_X7_init cX7_init 1 5 as N lg it rf Q := by
  unfold sp_X7_init at h
  split at h
  · refine ⟨Nat.le_of_ble_eq_true rfl, fun P hs hw hf => ?_⟩
    obtain ⟨⟨rfl, hz⟩, hk⟩ := h
    have hB := Bl_0 (op := fun j => j = 467) (lo := 467) (lg := lg) (it := it) (rf := rf) (by omega)
    have hR0 : Rw 467 lg it rf _ _ _ := hz
    refine hs dX7_init_0 (hs dX7_init_1 (And.intro (trivial) (n0 (hs dX7_init_4 (hs dX7_init_5 (hs dX7_init_7 (And.intro (⟨by omega, by decide, ly_468⟩) (nM (M := 469) rfl ?_))))))))
    have hB := Bl_ex hB (by omega) (Fr_zero (lg0_row ly_468 (by decide)) (by rw [it0_row ly_468]; funext k; simp [itk]) (rf0_row tb_468)) Ex_rf
    have hR0 := Rw_zr hR0 (m := 468) (by omega)
    refine hs dX7_init_9 (And.intro (⟨by omega, by rw [ly_467]⟩) ?_)
    have hB := Bl_pr hB (j := 467) (k := 0) (v := some 468) (by omega) (by omega)
    have hR0 := Rw_pr hR0 (k := 0) (v := some 468)
    refine hs dX7_init_12 (hs dX7_init_13 (hs dX7_init_14 (And.intro (⟨by omega, by rw [ly_467]⟩) ?_)))
    have hB := Bl_pi hB (j := 467) (k := 1) (v := Int32.ofInt 0) (by omega) (by omega)
    have hR0 := Rw_pi hR0 (k := 1) (v := Int32.ofInt 0)
    refine hs dX7_init_17 (hs dX7_init_18 (hs dX7_init_20 (And.intro (⟨by omega, by decide, ly_469⟩) (nM (M := 470) rfl ?_))))
    have hB := Bl_ex hB (by omega) (Fr_zero (lg0_row ly_469 (by decide)) (by rw [it0_row ly_469]; funext k; simp [itk]) (rf0_row tb_469)) Ex_rf
    have hR0 := Rw_zr hR0 (m := 469) (by omega)
    refine hs dX7_init_22 (And.intro (⟨by omega, by rw [ly_467]⟩) ?_)
    have hB := Bl_pr hB (j := 467) (k := 2) (v := some 469) (by omega) (by omega)
    have hR0 := Rw_pr hR0 (k := 2) (v := some 469)
    refine hs dX7_init_25 (hs dX7_init_26 (hs dX7_init_28 (And.intro (⟨by omega, by decide, ly_470⟩) (nM (M := 471) rfl ?_))))
    have hB := Bl_ex hB (by omega) (Fr_zero (lg0_row ly_470 (by decide)) (by rw [it0_row ly_470]; funext k; simp [itk]) (rf0_row tb_470)) Ex_rf
    have hR0 := Rw_zr hR0 (m := 470) (by omega)
    refine hs dX7_init_30 (And.intro (⟨by omega, by rw [ly_467]⟩) ?_)
    have hB := Bl_pr hB (j := 467) (k := 3) (v := some 470) (by omega) (by omega)
    have hR0 := Rw_pr hR0 (k := 3) (v := some 470)
    refine hs dX7_init_33 (hs dX7_init_34 (hs dX7_init_36 (And.intro (⟨by omega, by decide, ly_471⟩) (nM (M := 472) rfl ?_))))
    have hB := Bl_ex hB (by omega) (Fr_zero (lg0_row ly_471 (by decide)) (by rw [it0_row ly_471]; funext k; simp [itk]) (rf0_row tb_471)) Ex_rf
    have hR0 := Rw_zr hR0 (m := 471) (by omega)
    refine hs dX7_init_38 (And.intro (⟨by omega, by rw [ly_467]⟩) ?_)
    have hB := Bl_pr hB (j := 467) (k := 4) (v := some 471) (by omega) (by omega)
    have hR0 := Rw_pr hR0 (k := 4) (v := some 471)
    refine hs dX7_init_41 (hs dX7_init_42 (hs dX7_init_44 (And.intro (⟨by omega, by decide, ly_472⟩) (nM (M := 473) rfl ?_))))
    have hB := Bl_ex hB (by omega) (Fr_zero (lg0_row ly_472 (by decide)) (by rw [it0_row ly_472]; funext k; simp [itk]) (rf0_row tb_472)) Ex_rf
    have hR0 := Rw_zr hR0 (m := 472) (by omega)
    refine hs dX7_init_46 (And.intro (⟨by omega, by rw [ly_467]⟩) ?_)
    have hB := Bl_pr hB (j := 467) (k := 5) (v := some 472) (by omega) (by omega)
    have hR0 := Rw_pr hR0 (k := 5) (v := some 472)
    refine hs dX7_init_49 (hs dX7_init_50 (hs dX7_init_51 (And.intro (⟨by omega, by rw [ly_467]⟩) ?_)))
    have hB := Bl_pi hB (j := 467) (k := 6) (v := Int32.ofInt 0) (by omega) (by omega)
    have hR0 := Rw_pi hR0 (k := 6) (v := Int32.ofInt 0)
    refine hs dX7_init_54 (hs dX7_init_55 (hs dX7_init_56 (And.intro (⟨by omega, by rw [ly_467]⟩) ?_)))
    have hB := Bl_pi hB (j := 467) (k := 7) (v := Int32.ofInt 0) (by omega) (by omega)
    have hR0 := Rw_pi hR0 (k := 7) (v := Int32.ofInt 0)
    refine hs dX7_init_59 (hs dX7_init_60 (hs dX7_init_61 (And.intro (⟨by omega, by rw [ly_467]⟩) ?_)))
    have hB := Bl_pi hB (j := 467) (k := 8) (v := Int32.ofInt 0) (by omega) (by omega)
    have hR0 := Rw_pi hR0 (k := 8) (v := Int32.ofInt 0)
    refine hs dX7_init_64 (And.intro (rfl) (And.intro rfl ?_))
    refine (fun z => hk _ _ _ z.1 z.2) (Bl_end hB (fun j h1 h2 h3 => ?_))
    · rcases (show j = 467 by omega) with rfl
      · exact ⟨hR0.1.trans (lg0_row ly_467 (by decide)).symm, hR0.2.1.trans (Eq.symm (by rw [it0_row ly_467]; funext k; simp [va_up, itk, ki_0])), hR0.2.2.trans (rowf tb_467 (by decide +kernel) (by intro k hk; replace hk : 6 ≤ k := hk; obtain ⟨k2, rfl⟩ := Nat.exists_eq_add_of_le' hk; simp [va_up, tn_0, tn_1, tn_2, tn_3, tn_4, tn_5, tn_6, tn_7, tn_8, tn_9, tn_10, tn_11, tn_12, tn_13, tn_14, tn_15, tn_16, tn_17, tn_18, tn_19, tn_20, tn_21])).symm⟩
  · exact h.elim
theorem sh_X7_init (as : List Value) (N : Nat) (lg : LGt) (it : ITt) (rf : RFt) (Q : Post) (h : sp_X7_init as N lg it rf Q) : ∃ j t, as = .ref j :: t := by
  unfold sp_X7_init at h
  split at h
  · exact ⟨_, _, rfl⟩
  · exact h.elim
theorem ct_X7_init {E : Ev} {l : Launch} : CT E l yX7_init (wsY yX7_init cX7_init 1 none) rm_X7_init 5 sp_X7_init := ct_of (T := T_X7_init) (own := RX7) (by decide) rfl (fun ci _ hc => by have h2 : (7 : Nat) = ci := Nat.eq_of_beq_eq_true hc; subst h2; exact ⟨rfl, rfl⟩) ⟨rfl, rfl⟩ ⟨fok_X7, clok_X7, jok_X7, List.forall_mem_cons.mpr ⟨cok_obj ml_X7_3 o_obj.1 o_obj.2 (by decide), fun _ h => absurd h List.not_mem_nil⟩⟩ bd_X7_init
def sp_X6_init_474 : Spc := fun as N lg it rf K => match as with | [.ref 474] => ((N = 475 ∧ Zr 474 lg it rf) ∧ ∀ lg' it' rf', Fr 474 476 lg' it' rf' → Ex 474 lg lg' it it' rf rf' → K none lg' it' rf') | _ => False
def T_X6_init_474 : Tab := (FL_X6, CL_X6, JL_X6, [(3, 2, 1, 0, 0, sp_obj)], 6, none)
def rm_X6_init_474 : Room := { frames := 1, cells := 1, slots := 400, locals := 20 }
set_option maxRecDepth 100000 in
theorem bd_X6_init_474 (as : List Value) (N : Nat) (lg : LGt) (it : ITt) (rf : RFt) (Q : Post) (h : sp_X6_init_474 as N lg it rf Q) : Bd T_X6_init_474 cX6_init 1 1 as N lg it rf Q := by
  unfold sp_X6_init_474 at h
  split at h
  · refine ⟨Nat.le_of_ble_eq_true rfl, fun P hs hw hf => ?_⟩
    obtain ⟨⟨rfl, hz⟩, hk⟩ := h
    have hB := Bl_0 (op := fun j => j = 474) (lo := 474) (lg := lg) (it := it) (rf := rf) (by omega)
    have hR0 : Rw 474 lg it rf _ _ _ := hz
    refine hs dX6_init_0 (hs dX6_init_1 (And.intro (trivial) (n0 (hs dX6_init_4 (hs dX6_init_5 (hs dX6_init_6 (And.intro (⟨by omega, by rw [ly_474]⟩) ?_)))))))
    have hB := Bl_pi hB (j := 474) (k := 0) (v := Int32.ofInt (-1)) (by omega) (by omega)
    have hR0 := Rw_pi hR0 (k := 0) (v := Int32.ofInt (-1))
    refine hs dX6_init_9 (hs dX6_init_10 (hs dX6_init_11 (And.intro (⟨by omega, by rw [ly_474]⟩) ?_)))
    have hB := Bl_pi hB (j := 474) (k := 1) (v := Int32.ofInt 0) (by omega) (by omega)
    have hR0 := Rw_pi hR0 (k := 1) (v := Int32.ofInt 0)
    refine hs dX6_init_14 (hs dX6_init_15 (hs dX6_init_17 (And.intro (⟨by omega, by decide, ly_475⟩) (nM (M := 476) rfl ?_))))
    have hB := Bl_ex hB (by omega) (Fr_zero (lg0_row ly_475 (by decide)) (by rw [it0_row ly_475]; funext k; simp [itk]) (rf0_row tb_475)) Ex_rf
    have hR0 := Rw_zr hR0 (m := 475) (by omega)
    refine hs dX6_init_19 (And.intro (⟨by omega, by rw [ly_474]⟩) ?_)
    have hB := Bl_pr hB (j := 474) (k := 2) (v := some 475) (by omega) (by omega)
    have hR0 := Rw_pr hR0 (k := 2) (v := some 475)
    refine hs dX6_init_22 (And.intro (rfl) (And.intro rfl ?_))
    refine (fun z => hk _ _ _ z.1 z.2) (Bl_end hB (fun j h1 h2 h3 => ?_))
    · rcases (show j = 474 by omega) with rfl
      · exact ⟨hR0.1.trans (lg0_row ly_474 (by decide)).symm, hR0.2.1.trans (Eq.symm (by rw [it0_row ly_474]; funext k; simp [va_up, itk, ki_0, ki_m1] <;> intros <;> omega)), hR0.2.2.trans (rowf tb_474 (by decide +kernel) (by intro k hk; replace hk : 3 ≤ k := hk; obtain ⟨k2, rfl⟩ := Nat.exists_eq_add_of_le' hk; simp [va_up, tn_0, tn_1, tn_2, tn_3, tn_4, tn_5, tn_6, tn_7, tn_8, tn_9, tn_10, tn_11, tn_12, tn_13, tn_14, tn_15, tn_16, tn_17, tn_18, tn_19, tn_20, tn_21])).symm⟩
  · exact h.elim
theorem sh_X6_init_474 (as : List Value) (N : Nat) (lg : LGt) (it : ITt) (rf : RFt) (Q : Post) (h : sp_X6_init_474 as N lg it rf Q) : ∃ j t, as = .ref j :: t := by
  unfold sp_X6_init_474 at h
  split at h
  · exact ⟨_, _, rfl⟩
  · exact h.elim
theorem ct_X6_init_474 {E : Ev} {l : Launch} : CT E l yX6_init (wsY yX6_init cX6_init 1 none) rm_X6_init_474 1 sp_X6_init_474 := ct_of (T := T_X6_init_474) (own := RX6) (by decide) rfl (fun ci _ hc => by have h2 : (6 : Nat) = ci := Nat.eq_of_beq_eq_true hc; subst h2; exact ⟨rfl, rfl⟩) ⟨rfl, rfl⟩ ⟨fok_X6, clok_X6, jok_X6, List.forall_mem_cons.mpr ⟨cok_obj ml_X6_3 o_obj.1 o_obj.2 (by decide), fun _ h => absurd h List.not_mem_nil⟩⟩ bd_X6_init_474
def sp_X6_init_476 : Spc := fun as N lg it rf K => match as with | [.ref 476] => ((N = 477 ∧ Zr 476 lg it rf) ∧ ∀ lg' it' rf', Fr 476 478 lg' it' rf' → Ex 476 lg lg' it it' rf rf' → K none lg' it' rf') | _ => False
def T_X6_init_476 : Tab := (FL_X6, CL_X6, JL_X6, [(3, 2, 1, 0, 0, sp_obj)], 6, none)
def rm_X6_init_476 : Room := { frames := 1, cells := 1, slots := 400, locals := 20 }
set_option maxRecDepth 100000 in
theorem bd_X6_init_476 (as : List Value) (N : Nat) (lg : LGt) (it : ITt) (rf : RFt) (Q : Post) (h : sp_X6_init_476 as N lg it rf Q) : Bd T_X6_init_476 cX6_init 1 1 as N lg it rf Q := by
  unfold sp_X6_init_476 at h
  split at h
  · refine ⟨Nat.le_of_ble_eq_true rfl, fun P hs hw hf => ?_⟩
    obtain ⟨⟨rfl, hz⟩, hk⟩ := h
    have hB := Bl_0 (op := fun j => j = 476) (lo := 476) (lg := lg) (it := it) (rf := rf) (by omega)
    have hR0 : Rw 476 lg it rf _ _ _ := hz
    refine hs dX6_init_0 (hs dX6_init_1 (And.intro (trivial) (n0 (hs dX6_init_4 (hs dX6_init_5 (hs dX6_init_6 (And.intro (⟨by omega, by rw [ly_476]⟩) ?_)))))))
    have hB := Bl_pi hB (j := 476) (k := 0) (v := Int32.ofInt (-1)) (by omega) (by omega)
    have hR0 := Rw_pi hR0 (k := 0) (v := Int32.ofInt (-1))
    refine hs dX6_init_9 (hs dX6_init_10 (hs dX6_init_11 (And.intro (⟨by omega, by rw [ly_476]⟩) ?_)))
    have hB := Bl_pi hB (j := 476) (k := 1) (v := Int32.ofInt 0) (by omega) (by omega)
    have hR0 := Rw_pi hR0 (k := 1) (v := Int32.ofInt 0)
    refine hs dX6_init_14 (hs dX6_init_15 (hs dX6_init_17 (And.intro (⟨by omega, by decide, ly_477⟩) (nM (M := 478) rfl ?_))))
    have hB := Bl_ex hB (by omega) (Fr_zero (lg0_row ly_477 (by decide)) (by rw [it0_row ly_477]; funext k; simp [itk]) (rf0_row tb_477)) Ex_rf
    have hR0 := Rw_zr hR0 (m := 477) (by omega)
    refine hs dX6_init_19 (And.intro (⟨by omega, by rw [ly_476]⟩) ?_)
    have hB := Bl_pr hB (j := 476) (k := 2) (v := some 477) (by omega) (by omega)
    have hR0 := Rw_pr hR0 (k := 2) (v := some 477)
    refine hs dX6_init_22 (And.intro (rfl) (And.intro rfl ?_))
    refine (fun z => hk _ _ _ z.1 z.2) (Bl_end hB (fun j h1 h2 h3 => ?_))
    · rcases (show j = 476 by omega) with rfl
      · exact ⟨hR0.1.trans (lg0_row ly_476 (by decide)).symm, hR0.2.1.trans (Eq.symm (by rw [it0_row ly_476]; funext k; simp [va_up, itk, ki_0, ki_m1] <;> intros <;> omega)), hR0.2.2.trans (rowf tb_476 (by decide +kernel) (by intro k hk; replace hk : 3 ≤ k := hk; obtain ⟨k2, rfl⟩ := Nat.exists_eq_add_of_le' hk; simp [va_up, tn_0, tn_1, tn_2, tn_3, tn_4, tn_5, tn_6, tn_7, tn_8, tn_9, tn_10, tn_11, tn_12, tn_13, tn_14, tn_15, tn_16, tn_17, tn_18, tn_19, tn_20, tn_21])).symm⟩
  · exact h.elim
theorem sh_X6_init_476 (as : List Value) (N : Nat) (lg : LGt) (it : ITt) (rf : RFt) (Q : Post) (h : sp_X6_init_476 as N lg it rf Q) : ∃ j t, as = .ref j :: t := by
  unfold sp_X6_init_476 at h
  split at h
  · exact ⟨_, _, rfl⟩
  · exact h.elim
theorem ct_X6_init_476 {E : Ev} {l : Launch} : CT E l yX6_init (wsY yX6_init cX6_init 1 none) rm_X6_init_476 1 sp_X6_init_476 := ct_of (T := T_X6_init_476) (own := RX6) (by decide) rfl (fun ci _ hc => by have h2 : (6 : Nat) = ci := Nat.eq_of_beq_eq_true hc; subst h2; exact ⟨rfl, rfl⟩) ⟨rfl, rfl⟩ ⟨fok_X6, clok_X6, jok_X6, List.forall_mem_cons.mpr ⟨cok_obj ml_X6_3 o_obj.1 o_obj.2 (by decide), fun _ h => absurd h List.not_mem_nil⟩⟩ bd_X6_init_476
def sp_X6_init_478 : Spc := fun as N lg it rf K => match as with | [.ref 478] => ((N = 479 ∧ Zr 478 lg it rf) ∧ ∀ lg' it' rf', Fr 478 480 lg' it' rf' → Ex 478 lg lg' it it' rf rf' → K none lg' it' rf') | _ => False
def T_X6_init_478 : Tab := (FL_X6, CL_X6, JL_X6, [(3, 2, 1, 0, 0, sp_obj)], 6, none)
def rm_X6_init_478 : Room := { frames := 1, cells := 1, slots := 400, locals := 20 }
set_option maxRecDepth 100000 in
theorem bd_X6_init_478 (as : List Value) (N : Nat) (lg : LGt) (it : ITt) (rf : RFt) (Q : Post) (h : sp_X6_init_478 as N lg it rf Q) : Bd T_X6_init_478 cX6_init 1 1 as N lg it rf Q := by
  unfold sp_X6_init_478 at h
  split at h
  · refine ⟨Nat.le_of_ble_eq_true rfl, fun P hs hw hf => ?_⟩
    obtain ⟨⟨rfl, hz⟩, hk⟩ := h
    have hB := Bl_0 (op := fun j => j = 478) (lo := 478) (lg := lg) (it := it) (rf := rf) (by omega)
    have hR0 : Rw 478 lg it rf _ _ _ := hz
    refine hs dX6_init_0 (hs dX6_init_1 (And.intro (trivial) (n0 (hs dX6_init_4 (hs dX6_init_5 (hs dX6_init_6 (And.intro (⟨by omega, by rw [ly_478]⟩) ?_)))))))
    have hB := Bl_pi hB (j := 478) (k := 0) (v := Int32.ofInt (-1)) (by omega) (by omega)
    have hR0 := Rw_pi hR0 (k := 0) (v := Int32.ofInt (-1))
    refine hs dX6_init_9 (hs dX6_init_10 (hs dX6_init_11 (And.intro (⟨by omega, by rw [ly_478]⟩) ?_)))
    have hB := Bl_pi hB (j := 478) (k := 1) (v := Int32.ofInt 0) (by omega) (by omega)
    have hR0 := Rw_pi hR0 (k := 1) (v := Int32.ofInt 0)
    refine hs dX6_init_14 (hs dX6_init_15 (hs dX6_init_17 (And.intro (⟨by omega, by decide, ly_479⟩) (nM (M := 480) rfl ?_))))
    have hB := Bl_ex hB (by omega) (Fr_zero (lg0_row ly_479 (by decide)) (by rw [it0_row ly_479]; funext k; simp [itk]) (rf0_row tb_479)) Ex_rf
    have hR0 := Rw_zr hR0 (m := 479) (by omega)
    refine hs dX6_init_19 (And.intro (⟨by omega, by rw [ly_478]⟩) ?_)
    have hB := Bl_pr hB (j := 478) (k := 2) (v := some 479) (by omega) (by omega)
    have hR0 := Rw_pr hR0 (k := 2) (v := some 479)
    refine hs dX6_init_22 (And.intro (rfl) (And.intro rfl ?_))
    refine (fun z => hk _ _ _ z.1 z.2) (Bl_end hB (fun j h1 h2 h3 => ?_))
    · rcases (show j = 478 by omega) with rfl
      · exact ⟨hR0.1.trans (lg0_row ly_478 (by decide)).symm, hR0.2.1.trans (Eq.symm (by rw [it0_row ly_478]; funext k; simp [va_up, itk, ki_0, ki_m1] <;> intros <;> omega)), hR0.2.2.trans (rowf tb_478 (by decide +kernel) (by intro k hk; replace hk : 3 ≤ k := hk; obtain ⟨k2, rfl⟩ := Nat.exists_eq_add_of_le' hk; simp [va_up, tn_0, tn_1, tn_2, tn_3, tn_4, tn_5, tn_6, tn_7, tn_8, tn_9, tn_10, tn_11, tn_12, tn_13, tn_14, tn_15, tn_16, tn_17, tn_18, tn_19, tn_20, tn_21])).symm⟩
  · exact h.elim
theorem sh_X6_init_478 (as : List Value) (N : Nat) (lg : LGt) (it : ITt) (rf : RFt) (Q : Post) (h : sp_X6_init_478 as N lg it rf Q) : ∃ j t, as = .ref j :: t := by
  unfold sp_X6_init_478 at h
  split at h
  · exact ⟨_, _, rfl⟩
  · exact h.elim
theorem ct_X6_init_478 {E : Ev} {l : Launch} : CT E l yX6_init (wsY yX6_init cX6_init 1 none) rm_X6_init_478 1 sp_X6_init_478 := ct_of (T := T_X6_init_478) (own := RX6) (by decide) rfl (fun ci _ hc => by have h2 : (6 : Nat) = ci := Nat.eq_of_beq_eq_true hc; subst h2; exact ⟨rfl, rfl⟩) ⟨rfl, rfl⟩ ⟨fok_X6, clok_X6, jok_X6, List.forall_mem_cons.mpr ⟨cok_obj ml_X6_3 o_obj.1 o_obj.2 (by decide), fun _ h => absurd h List.not_mem_nil⟩⟩ bd_X6_init_478
def sp_X6_init_480 : Spc := fun as N lg it rf K => match as with | [.ref 480] => ((N = 481 ∧ Zr 480 lg it rf) ∧ ∀ lg' it' rf', Fr 480 482 lg' it' rf' → Ex 480 lg lg' it it' rf rf' → K none lg' it' rf') | _ => False
def T_X6_init_480 : Tab := (FL_X6, CL_X6, JL_X6, [(3, 2, 1, 0, 0, sp_obj)], 6, none)
def rm_X6_init_480 : Room := { frames := 1, cells := 1, slots := 400, locals := 20 }
set_option maxRecDepth 100000 in
theorem bd_X6_init_480 (as : List Value) (N : Nat) (lg : LGt) (it : ITt) (rf : RFt) (Q : Post) (h : sp_X6_init_480 as N lg it rf Q) : Bd T_X6_init_480 cX6_init 1 1 as N lg it rf Q := by
  unfold sp_X6_init_480 at h
  split at h
  · refine ⟨Nat.le_of_ble_eq_true rfl, fun P hs hw hf => ?_⟩
    obtain ⟨⟨rfl, hz⟩, hk⟩ := h
    have hB := Bl_0 (op := fun j => j = 480) (lo := 480) (lg := lg) (it := it) (rf := rf) (by omega)
    have hR0 : Rw 480 lg it rf _ _ _ := hz
    refine hs dX6_init_0 (hs dX6_init_1 (And.intro (trivial) (n0 (hs dX6_init_4 (hs dX6_init_5 (hs dX6_init_6 (And.intro (⟨by omega, by rw [ly_480]⟩) ?_)))))))
    have hB := Bl_pi hB (j := 480) (k := 0) (v := Int32.ofInt (-1)) (by omega) (by omega)
    have hR0 := Rw_pi hR0 (k := 0) (v := Int32.ofInt (-1))
    refine hs dX6_init_9 (hs dX6_init_10 (hs dX6_init_11 (And.intro (⟨by omega, by rw [ly_480]⟩) ?_)))
    have hB := Bl_pi hB (j := 480) (k := 1) (v := Int32.ofInt 0) (by omega) (by omega)
    have hR0 := Rw_pi hR0 (k := 1) (v := Int32.ofInt 0)
    refine hs dX6_init_14 (hs dX6_init_15 (hs dX6_init_17 (And.intro (⟨by omega, by decide, ly_481⟩) (nM (M := 482) rfl ?_))))
    have hB := Bl_ex hB (by omega) (Fr_zero (lg0_row ly_481 (by decide)) (by rw [it0_row ly_481]; funext k; simp [itk]) (rf0_row tb_481)) Ex_rf
    have hR0 := Rw_zr hR0 (m := 481) (by omega)
    refine hs dX6_init_19 (And.intro (⟨by omega, by rw [ly_480]⟩) ?_)
    have hB := Bl_pr hB (j := 480) (k := 2) (v := some 481) (by omega) (by omega)
    have hR0 := Rw_pr hR0 (k := 2) (v := some 481)
    refine hs dX6_init_22 (And.intro (rfl) (And.intro rfl ?_))
    refine (fun z => hk _ _ _ z.1 z.2) (Bl_end hB (fun j h1 h2 h3 => ?_))
    · rcases (show j = 480 by omega) with rfl
      · exact ⟨hR0.1.trans (lg0_row ly_480 (by decide)).symm, hR0.2.1.trans (Eq.symm (by rw [it0_row ly_480]; funext k; simp [va_up, itk, ki_0, ki_m1] <;> intros <;> omega)), hR0.2.2.trans (rowf tb_480 (by decide +kernel) (by intro k hk; replace hk : 3 ≤ k := hk; obtain ⟨k2, rfl⟩ := Nat.exists_eq_add_of_le' hk; simp [va_up, tn_0, tn_1, tn_2, tn_3, tn_4, tn_5, tn_6, tn_7, tn_8, tn_9, tn_10, tn_11, tn_12, tn_13, tn_14, tn_15, tn_16, tn_17, tn_18, tn_19, tn_20, tn_21])).symm⟩
  · exact h.elim
theorem sh_X6_init_480 (as : List Value) (N : Nat) (lg : LGt) (it : ITt) (rf : RFt) (Q : Post) (h : sp_X6_init_480 as N lg it rf Q) : ∃ j t, as = .ref j :: t := by
  unfold sp_X6_init_480 at h
  split at h
  · exact ⟨_, _, rfl⟩
  · exact h.elim
theorem ct_X6_init_480 {E : Ev} {l : Launch} : CT E l yX6_init (wsY yX6_init cX6_init 1 none) rm_X6_init_480 1 sp_X6_init_480 := ct_of (T := T_X6_init_480) (own := RX6) (by decide) rfl (fun ci _ hc => by have h2 : (6 : Nat) = ci := Nat.eq_of_beq_eq_true hc; subst h2; exact ⟨rfl, rfl⟩) ⟨rfl, rfl⟩ ⟨fok_X6, clok_X6, jok_X6, List.forall_mem_cons.mpr ⟨cok_obj ml_X6_3 o_obj.1 o_obj.2 (by decide), fun _ h => absurd h List.not_mem_nil⟩⟩ bd_X6_init_480
def sp_X6_init_482 : Spc := fun as N lg it rf K => match as with | [.ref 482] => ((N = 483 ∧ Zr 482 lg it rf) ∧ ∀ lg' it' rf', Fr 482 484 lg' it' rf' → Ex 482 lg lg' it it' rf rf' → K none lg' it' rf') | _ => False
def T_X6_init_482 : Tab := (FL_X6, CL_X6, JL_X6, [(3, 2, 1, 0, 0, sp_obj)], 6, none)
def rm_X6_init_482 : Room := { frames := 1, cells := 1, slots := 400, locals := 20 }
set_option maxRecDepth 100000 in
theorem bd_X6_init_482 (as : List Value) (N : Nat) (lg : LGt) (it : ITt) (rf : RFt) (Q : Post) (h : sp_X6_init_482 as N lg it rf Q) : Bd T_X6_init_482 cX6_init 1 1 as N lg it rf Q := by
  unfold sp_X6_init_482 at h
  split at h
  · refine ⟨Nat.le_of_ble_eq_true rfl, fun P hs hw hf => ?_⟩
    obtain ⟨⟨rfl, hz⟩, hk⟩ := h
    have hB := Bl_0 (op := fun j => j = 482) (lo := 482) (lg := lg) (it := it) (rf := rf) (by omega)
    have hR0 : Rw 482 lg it rf _ _ _ := hz
    refine hs dX6_init_0 (hs dX6_init_1 (And.intro (trivial) (n0 (hs dX6_init_4 (hs dX6_init_5 (hs dX6_init_6 (And.intro (⟨by omega, by rw [ly_482]⟩) ?_)))))))
    have hB := Bl_pi hB (j := 482) (k := 0) (v := Int32.ofInt (-1)) (by omega) (by omega)
    have hR0 := Rw_pi hR0 (k := 0) (v := Int32.ofInt (-1))
    refine hs dX6_init_9 (hs dX6_init_10 (hs dX6_init_11 (And.intro (⟨by omega, by rw [ly_482]⟩) ?_)))
    have hB := Bl_pi hB (j := 482) (k := 1) (v := Int32.ofInt 0) (by omega) (by omega)
    have hR0 := Rw_pi hR0 (k := 1) (v := Int32.ofInt 0)
    refine hs dX6_init_14 (hs dX6_init_15 (hs dX6_init_17 (And.intro (⟨by omega, by decide, ly_483⟩) (nM (M := 484) rfl ?_))))
    have hB := Bl_ex hB (by omega) (Fr_zero (lg0_row ly_483 (by decide)) (by rw [it0_row ly_483]; funext k; simp [itk]) (rf0_row tb_483)) Ex_rf
    have hR0 := Rw_zr hR0 (m := 483) (by omega)
    refine hs dX6_init_19 (And.intro (⟨by omega, by rw [ly_482]⟩) ?_)
    have hB := Bl_pr hB (j := 482) (k := 2) (v := some 483) (by omega) (by omega)
    have hR0 := Rw_pr hR0 (k := 2) (v := some 483)
    refine hs dX6_init_22 (And.intro (rfl) (And.intro rfl ?_))
    refine (fun z => hk _ _ _ z.1 z.2) (Bl_end hB (fun j h1 h2 h3 => ?_))
    · rcases (show j = 482 by omega) with rfl
      · exact ⟨hR0.1.trans (lg0_row ly_482 (by decide)).symm, hR0.2.1.trans (Eq.symm (by rw [it0_row ly_482]; funext k; simp [va_up, itk, ki_0, ki_m1] <;> intros <;> omega)), hR0.2.2.trans (rowf tb_482 (by decide +kernel) (by intro k hk; replace hk : 3 ≤ k := hk; obtain ⟨k2, rfl⟩ := Nat.exists_eq_add_of_le' hk; simp [va_up, tn_0, tn_1, tn_2, tn_3, tn_4, tn_5, tn_6, tn_7, tn_8, tn_9, tn_10, tn_11, tn_12, tn_13, tn_14, tn_15, tn_16, tn_17, tn_18, tn_19, tn_20, tn_21])).symm⟩
  · exact h.elim
theorem sh_X6_init_482 (as : List Value) (N : Nat) (lg : LGt) (it : ITt) (rf : RFt) (Q : Post) (h : sp_X6_init_482 as N lg it rf Q) : ∃ j t, as = .ref j :: t := by
  unfold sp_X6_init_482 at h
  split at h
  · exact ⟨_, _, rfl⟩
  · exact h.elim
theorem ct_X6_init_482 {E : Ev} {l : Launch} : CT E l yX6_init (wsY yX6_init cX6_init 1 none) rm_X6_init_482 1 sp_X6_init_482 := ct_of (T := T_X6_init_482) (own := RX6) (by decide) rfl (fun ci _ hc => by have h2 : (6 : Nat) = ci := Nat.eq_of_beq_eq_true hc; subst h2; exact ⟨rfl, rfl⟩) ⟨rfl, rfl⟩ ⟨fok_X6, clok_X6, jok_X6, List.forall_mem_cons.mpr ⟨cok_obj ml_X6_3 o_obj.1 o_obj.2 (by decide), fun _ h => absurd h List.not_mem_nil⟩⟩ bd_X6_init_482
def sp_X6_init_484 : Spc := fun as N lg it rf K => match as with | [.ref 484] => ((N = 485 ∧ Zr 484 lg it rf) ∧ ∀ lg' it' rf', Fr 484 486 lg' it' rf' → Ex 484 lg lg' it it' rf rf' → K none lg' it' rf') | _ => False
def T_X6_init_484 : Tab := (FL_X6, CL_X6, JL_X6, [(3, 2, 1, 0, 0, sp_obj)], 6, none)
def rm_X6_init_484 : Room := { frames := 1, cells := 1, slots := 400, locals := 20 }
set_option maxRecDepth 100000 in
theorem bd_X6_init_484 (as : List Value) (N : Nat) (lg : LGt) (it : ITt) (rf : RFt) (Q : Post) (h : sp_X6_init_484 as N lg it rf Q) : Bd T_X6_init_484 cX6_init 1 1 as N lg it rf Q := by
  unfold sp_X6_init_484 at h
  split at h
  · refine ⟨Nat.le_of_ble_eq_true rfl, fun P hs hw hf => ?_⟩
    obtain ⟨⟨rfl, hz⟩, hk⟩ := h
    have hB := Bl_0 (op := fun j => j = 484) (lo := 484) (lg := lg) (it := it) (rf := rf) (by omega)
    have hR0 : Rw 484 lg it rf _ _ _ := hz
    refine hs dX6_init_0 (hs dX6_init_1 (And.intro (trivial) (n0 (hs dX6_init_4 (hs dX6_init_5 (hs dX6_init_6 (And.intro (⟨by omega, by rw [ly_484]⟩) ?_)))))))
    have hB := Bl_pi hB (j := 484) (k := 0) (v := Int32.ofInt (-1)) (by omega) (by omega)
    have hR0 := Rw_pi hR0 (k := 0) (v := Int32.ofInt (-1))
    refine hs dX6_init_9 (hs dX6_init_10 (hs dX6_init_11 (And.intro (⟨by omega, by rw [ly_484]⟩) ?_)))
    have hB := Bl_pi hB (j := 484) (k := 1) (v := Int32.ofInt 0) (by omega) (by omega)
    have hR0 := Rw_pi hR0 (k := 1) (v := Int32.ofInt 0)
    refine hs dX6_init_14 (hs dX6_init_15 (hs dX6_init_17 (And.intro (⟨by omega, by decide, ly_485⟩) (nM (M := 486) rfl ?_))))
    have hB := Bl_ex hB (by omega) (Fr_zero (lg0_row ly_485 (by decide)) (by rw [it0_row ly_485]; funext k; simp [itk]) (rf0_row tb_485)) Ex_rf
    have hR0 := Rw_zr hR0 (m := 485) (by omega)
    refine hs dX6_init_19 (And.intro (⟨by omega, by rw [ly_484]⟩) ?_)
    have hB := Bl_pr hB (j := 484) (k := 2) (v := some 485) (by omega) (by omega)
    have hR0 := Rw_pr hR0 (k := 2) (v := some 485)
    refine hs dX6_init_22 (And.intro (rfl) (And.intro rfl ?_))
    refine (fun z => hk _ _ _ z.1 z.2) (Bl_end hB (fun j h1 h2 h3 => ?_))
    · rcases (show j = 484 by omega) with rfl
      · exact ⟨hR0.1.trans (lg0_row ly_484 (by decide)).symm, hR0.2.1.trans (Eq.symm (by rw [it0_row ly_484]; funext k; simp [va_up, itk, ki_0, ki_m1] <;> intros <;> omega)), hR0.2.2.trans (rowf tb_484 (by decide +kernel) (by intro k hk; replace hk : 3 ≤ k := hk; obtain ⟨k2, rfl⟩ := Nat.exists_eq_add_of_le' hk; simp [va_up, tn_0, tn_1, tn_2, tn_3, tn_4, tn_5, tn_6, tn_7, tn_8, tn_9, tn_10, tn_11, tn_12, tn_13, tn_14, tn_15, tn_16, tn_17, tn_18, tn_19, tn_20, tn_21])).symm⟩
  · exact h.elim
theorem sh_X6_init_484 (as : List Value) (N : Nat) (lg : LGt) (it : ITt) (rf : RFt) (Q : Post) (h : sp_X6_init_484 as N lg it rf Q) : ∃ j t, as = .ref j :: t := by
  unfold sp_X6_init_484 at h
  split at h
  · exact ⟨_, _, rfl⟩
  · exact h.elim
theorem ct_X6_init_484 {E : Ev} {l : Launch} : CT E l yX6_init (wsY yX6_init cX6_init 1 none) rm_X6_init_484 1 sp_X6_init_484 := ct_of (T := T_X6_init_484) (own := RX6) (by decide) rfl (fun ci _ hc => by have h2 : (6 : Nat) = ci := Nat.eq_of_beq_eq_true hc; subst h2; exact ⟨rfl, rfl⟩) ⟨rfl, rfl⟩ ⟨fok_X6, clok_X6, jok_X6, List.forall_mem_cons.mpr ⟨cok_obj ml_X6_3 o_obj.1 o_obj.2 (by decide), fun _ h => absurd h List.not_mem_nil⟩⟩ bd_X6_init_484
def sp_X6_init : Spc := fun as N lg it rf K => sp_X6_init_474 as N lg it rf K ∨ sp_X6_init_476 as N lg it rf K ∨ sp_X6_init_478 as N lg it rf K ∨ sp_X6_init_480 as N lg it rf K ∨ sp_X6_init_482 as N lg it rf K ∨ sp_X6_init_484 as N lg it rf K
theorem ct_X6_init {E : Ev} {l : Launch} : CT E l yX6_init (wsY yX6_init cX6_init 1 none) rm_X6_init_474 1 sp_X6_init := ⟨rfl, rfl, fun as N lg it rf Q h => by
  rcases h with h | h | h | h | h | h
  · exact ct_X6_init_474.2.2 as N lg it rf Q h
  · exact ct_X6_init_476.2.2 as N lg it rf Q h
  · exact ct_X6_init_478.2.2 as N lg it rf Q h
  · exact ct_X6_init_480.2.2 as N lg it rf Q h
  · exact ct_X6_init_482.2.2 as N lg it rf Q h
  · exact ct_X6_init_484.2.2 as N lg it rf Q h⟩
theorem sh_X6_init (as : List Value) (N : Nat) (lg : LGt) (it : ITt) (rf : RFt) (Q : Post) (h : sp_X6_init as N lg it rf Q) : ∃ j t, as = .ref j :: t := by
  rcases h with h | h | h | h | h | h
  · exact sh_X6_init_474 as N lg it rf Q h
  · exact sh_X6_init_476 as N lg it rf Q h
  · exact sh_X6_init_478 as N lg it rf Q h
  · exact sh_X6_init_480 as N lg it rf Q h
  · exact sh_X6_init_482 as N lg it rf Q h
  · exact sh_X6_init_484 as N lg it rf Q h
def sp_X4_init_1 : Spc := fun as N lg it rf K => match as with | [.ref 1] => ((N = 2 ∧ Zr 1 lg it rf) ∧ ∀ lg' it' rf', Fr 1 28 lg' it' rf' → Ex 1 lg lg' it it' rf rf' → K none lg' it' rf') | _ => False
def T_X4_init_1 : Tab := (FL_X4, CL_X4, JL_X4, [(3, 2, 1, 0, 0, sp_obj), (11, 2, 1, 0, 16, sp_X3_init), (20, 2, 2, 0, 2, sp_X2_init)], 4, none)
def rm_X4_init_1 : Room := { frames := 3, cells := 26, slots := 10400, locals := 61 }
set_option maxRecDepth 100000 in
theorem bd_X4_init_1 (as : List Value) (N : Nat) (lg : LGt) (it : ITt) (rf : RFt) (Q : Post) (h : sp_X4_init_1 as N lg it rf Q) : Bd T_X4_init_1 cX4_init 1 26 as N lg it rf Q := by
  unfold sp_X4_init_1 at h
  split at h
  · refine ⟨Nat.le_of_ble_eq_true rfl, fun P hs hw hf => ?_⟩
    obtain ⟨⟨rfl, hz⟩, hk⟩ := h
    have hB := Bl_0 (op := fun j => j = 1) (lo := 1) (lg := lg) (it := it) (rf := rf) (by omega)
    have hR0 : Rw 1 lg it rf _ _ _ := hz
    refine hs dX4_init_0 (hs dX4_init_1 (And.intro (trivial) (n0 (hs dX4_init_4 (hs dX4_init_5 (And.intro (⟨by omega, ly_2⟩) (nM (M := 3) rfl (hs dX4_init_8 (hs dX4_init_9 (And.intro (trivial) (And.intro (by show 3 + 16 ≤ 2 + 26; omega) (And.intro (⟨by decide, rfl, Zr_new⟩) (fun lg1 it1 rf1 hF1 hE1 => nM (M := 19) rfl ?_) ))))))))))))
    have hB := Bl_ex hB (by omega) hF1 hE1
    have hR0 := Rw_ex hR0 (by omega) hE1
    refine hs dX4_init_12 (And.intro (⟨by omega, by rw [ly_1]⟩) ?_)
    have hB := Bl_pr hB (j := 1) (k := 0) (v := some 2) (by omega) (by omega)
    have hR0 := Rw_pr hR0 (k := 0) (v := some 2)
    refine hs dX4_init_15 (hs dX4_init_16 (And.intro (⟨by omega, ly_19⟩) (nM (M := 20) rfl (hs dX4_init_19 (hs dX4_init_20 (hs dX4_init_21 (And.intro (trivial) (And.intro (by show 20 + 2 ≤ 2 + 26; omega) (And.intro (⟨by decide, rfl, Zr_new⟩) (fun lg2 it2 rf2 hF2 hE2 => nM (M := 22) rfl ?_) )))))))))
    have hB := Bl_ex hB (by omega) hF2 hE2
    have hR0 := Rw_ex hR0 (by omega) hE2
    refine hs dX4_init_24 (And.intro (⟨by omega, by rw [ly_1]⟩) ?_)
    have hB := Bl_pr hB (j := 1) (k := 1) (v := some 19) (by omega) (by omega)
    have hR0 := Rw_pr hR0 (k := 1) (v := some 19)
    refine hs dX4_init_27 (hs dX4_init_28 (And.intro (⟨by omega, ly_22⟩) (nM (M := 23) rfl (hs dX4_init_31 (hs dX4_init_32 (hs dX4_init_34 (And.intro (trivial) (And.intro (by show 23 + 2 ≤ 2 + 26; omega) (And.intro (⟨by decide, rfl, Zr_new⟩) (fun lg3 it3 rf3 hF3 hE3 => nM (M := 25) rfl ?_) )))))))))
    have hB := Bl_ex hB (by omega) hF3 hE3
    have hR0 := Rw_ex hR0 (by omega) hE3
    refine hs dX4_init_37 (And.intro (⟨by omega, by rw [ly_1]⟩) ?_)
    have hB := Bl_pr hB (j := 1) (k := 2) (v := some 22) (by omega) (by omega)
    have hR0 := Rw_pr hR0 (k := 2) (v := some 22)
    refine hs dX4_init_40 (hs dX4_init_41 (And.intro (⟨by omega, ly_25⟩) (nM (M := 26) rfl (hs dX4_init_44 (hs dX4_init_45 (hs dX4_init_47 (And.intro (trivial) (And.intro (by show 26 + 2 ≤ 2 + 26; omega) (And.intro (⟨by decide, rfl, Zr_new⟩) (fun lg4 it4 rf4 hF4 hE4 => nM (M := 28) rfl ?_) )))))))))
    have hB := Bl_ex hB (by omega) hF4 hE4
    have hR0 := Rw_ex hR0 (by omega) hE4
    refine hs dX4_init_50 (And.intro (⟨by omega, by rw [ly_1]⟩) ?_)
    have hB := Bl_pr hB (j := 1) (k := 3) (v := some 25) (by omega) (by omega)
    have hR0 := Rw_pr hR0 (k := 3) (v := some 25)
    refine hs dX4_init_53 (And.intro (rfl) (And.intro rfl ?_))
    refine (fun z => hk _ _ _ z.1 z.2) (Bl_end hB (fun j h1 h2 h3 => ?_))
    · rcases (show j = 1 by omega) with rfl
      · exact ⟨hR0.1.trans (lg0_row ly_1 (by decide)).symm, hR0.2.1.trans (Eq.symm (by rw [it0_row ly_1]; funext k; simp [itk])), hR0.2.2.trans (rowf tb_1 (by decide +kernel) (by intro k hk; replace hk : 4 ≤ k := hk; obtain ⟨k2, rfl⟩ := Nat.exists_eq_add_of_le' hk; simp [va_up, tn_0, tn_1, tn_2, tn_3, tn_4, tn_5, tn_6, tn_7, tn_8, tn_9, tn_10, tn_11, tn_12, tn_13, tn_14, tn_15, tn_16, tn_17, tn_18, tn_19, tn_20, tn_21])).symm⟩
  · exact h.elim
theorem sh_X4_init_1 (as : List Value) (N : Nat) (lg : LGt) (it : ITt) (rf : RFt) (Q : Post) (h : sp_X4_init_1 as N lg it rf Q) : ∃ j t, as = .ref j :: t := by
  unfold sp_X4_init_1 at h
  split at h
  · exact ⟨_, _, rfl⟩
  · exact h.elim
theorem ct_X4_init_1 {E : Ev} {l : Launch} : CT E l yX4_init (wsY yX4_init cX4_init 1 none) rm_X4_init_1 26 sp_X4_init_1 := ct_of (T := T_X4_init_1) (own := RX4) (by decide) rfl (fun ci _ hc => by have h2 : (4 : Nat) = ci := Nat.eq_of_beq_eq_true hc; subst h2; exact ⟨rfl, rfl⟩) ⟨rfl, rfl⟩ ⟨fok_X4, clok_X4, jok_X4, List.forall_mem_cons.mpr ⟨cok_obj ml_X4_3 o_obj.1 o_obj.2 (by decide), List.forall_mem_cons.mpr ⟨cok_I ct_X3_init sh_X3_init rfl ((cl_ins (c := 3) (by decide)).2) ml_X4_11 im_X3_init co_X3_init mo_X3_init (by decide), List.forall_mem_cons.mpr ⟨cok_I ct_X2_init sh_X2_init rfl ((cl_ins (c := 2) (by decide)).2) ml_X4_20 im_X2_init co_X2_init mo_X2_init (by decide), fun _ h => absurd h List.not_mem_nil⟩⟩⟩⟩ bd_X4_init_1
def sp_X4_init_28 : Spc := fun as N lg it rf K => match as with | [.ref 28] => ((N = 29 ∧ Zr 28 lg it rf) ∧ ∀ lg' it' rf', Fr 28 55 lg' it' rf' → Ex 28 lg lg' it it' rf rf' → K none lg' it' rf') | _ => False
def T_X4_init_28 : Tab := (FL_X4, CL_X4, JL_X4, [(3, 2, 1, 0, 0, sp_obj), (11, 2, 1, 0, 16, sp_X3_init), (20, 2, 2, 0, 2, sp_X2_init)], 4, none)
def rm_X4_init_28 : Room := { frames := 3, cells := 26, slots := 10400, locals := 61 }
set_option maxRecDepth 100000 in
theorem bd_X4_init_28 (as : List Value) (N : Nat) (lg : LGt) (it : ITt) (rf : RFt) (Q : Post) (h : sp_X4_init_28 as N lg it rf Q) : Bd T_X4_init_28 cX4_init 1 26 as N lg it rf Q := by
  unfold sp_X4_init_28 at h
  split at h
  · refine ⟨Nat.le_of_ble_eq_true rfl, fun P hs hw hf => ?_⟩
    obtain ⟨⟨rfl, hz⟩, hk⟩ := h
    have hB := Bl_0 (op := fun j => j = 28) (lo := 28) (lg := lg) (it := it) (rf := rf) (by omega)
    have hR0 : Rw 28 lg it rf _ _ _ := hz
    refine hs dX4_init_0 (hs dX4_init_1 (And.intro (trivial) (n0 (hs dX4_init_4 (hs dX4_init_5 (And.intro (⟨by omega, ly_29⟩) (nM (M := 30) rfl (hs dX4_init_8 (hs dX4_init_9 (And.intro (trivial) (And.intro (by show 30 + 16 ≤ 29 + 26; omega) (And.intro (⟨by decide, rfl, Zr_new⟩) (fun lg1 it1 rf1 hF1 hE1 => nM (M := 46) rfl ?_) ))))))))))))
    have hB := Bl_ex hB (by omega) hF1 hE1
    have hR0 := Rw_ex hR0 (by omega) hE1
    refine hs dX4_init_12 (And.intro (⟨by omega, by rw [ly_28]⟩) ?_)
    have hB := Bl_pr hB (j := 28) (k := 0) (v := some 29) (by omega) (by omega)
    have hR0 := Rw_pr hR0 (k := 0) (v := some 29)
    refine hs dX4_init_15 (hs dX4_init_16 (And.intro (⟨by omega, ly_46⟩) (nM (M := 47) rfl (hs dX4_init_19 (hs dX4_init_20 (hs dX4_init_21 (And.intro (trivial) (And.intro (by show 47 + 2 ≤ 29 + 26; omega) (And.intro (⟨by decide, rfl, Zr_new⟩) (fun lg2 it2 rf2 hF2 hE2 => nM (M := 49) rfl ?_) )))))))))
    have hB := Bl_ex hB (by omega) hF2 hE2
    have hR0 := Rw_ex hR0 (by omega) hE2
    refine hs dX4_init_24 (And.intro (⟨by omega, by rw [ly_28]⟩) ?_)
    have hB := Bl_pr hB (j := 28) (k := 1) (v := some 46) (by omega) (by omega)
    have hR0 := Rw_pr hR0 (k := 1) (v := some 46)
    refine hs dX4_init_27 (hs dX4_init_28 (And.intro (⟨by omega, ly_49⟩) (nM (M := 50) rfl (hs dX4_init_31 (hs dX4_init_32 (hs dX4_init_34 (And.intro (trivial) (And.intro (by show 50 + 2 ≤ 29 + 26; omega) (And.intro (⟨by decide, rfl, Zr_new⟩) (fun lg3 it3 rf3 hF3 hE3 => nM (M := 52) rfl ?_) )))))))))
    have hB := Bl_ex hB (by omega) hF3 hE3
    have hR0 := Rw_ex hR0 (by omega) hE3
    refine hs dX4_init_37 (And.intro (⟨by omega, by rw [ly_28]⟩) ?_)
    have hB := Bl_pr hB (j := 28) (k := 2) (v := some 49) (by omega) (by omega)
    have hR0 := Rw_pr hR0 (k := 2) (v := some 49)
    refine hs dX4_init_40 (hs dX4_init_41 (And.intro (⟨by omega, ly_52⟩) (nM (M := 53) rfl (hs dX4_init_44 (hs dX4_init_45 (hs dX4_init_47 (And.intro (trivial) (And.intro (by show 53 + 2 ≤ 29 + 26; omega) (And.intro (⟨by decide, rfl, Zr_new⟩) (fun lg4 it4 rf4 hF4 hE4 => nM (M := 55) rfl ?_) )))))))))
    have hB := Bl_ex hB (by omega) hF4 hE4
    have hR0 := Rw_ex hR0 (by omega) hE4
    refine hs dX4_init_50 (And.intro (⟨by omega, by rw [ly_28]⟩) ?_)
    have hB := Bl_pr hB (j := 28) (k := 3) (v := some 52) (by omega) (by omega)
    have hR0 := Rw_pr hR0 (k := 3) (v := some 52)
    refine hs dX4_init_53 (And.intro (rfl) (And.intro rfl ?_))
    refine (fun z => hk _ _ _ z.1 z.2) (Bl_end hB (fun j h1 h2 h3 => ?_))
    · rcases (show j = 28 by omega) with rfl
      · exact ⟨hR0.1.trans (lg0_row ly_28 (by decide)).symm, hR0.2.1.trans (Eq.symm (by rw [it0_row ly_28]; funext k; simp [itk])), hR0.2.2.trans (rowf tb_28 (by decide +kernel) (by intro k hk; replace hk : 4 ≤ k := hk; obtain ⟨k2, rfl⟩ := Nat.exists_eq_add_of_le' hk; simp [va_up, tn_0, tn_1, tn_2, tn_3, tn_4, tn_5, tn_6, tn_7, tn_8, tn_9, tn_10, tn_11, tn_12, tn_13, tn_14, tn_15, tn_16, tn_17, tn_18, tn_19, tn_20, tn_21])).symm⟩
  · exact h.elim
theorem sh_X4_init_28 (as : List Value) (N : Nat) (lg : LGt) (it : ITt) (rf : RFt) (Q : Post) (h : sp_X4_init_28 as N lg it rf Q) : ∃ j t, as = .ref j :: t := by
  unfold sp_X4_init_28 at h
  split at h
  · exact ⟨_, _, rfl⟩
  · exact h.elim
theorem ct_X4_init_28 {E : Ev} {l : Launch} : CT E l yX4_init (wsY yX4_init cX4_init 1 none) rm_X4_init_28 26 sp_X4_init_28 := ct_of (T := T_X4_init_28) (own := RX4) (by decide) rfl (fun ci _ hc => by have h2 : (4 : Nat) = ci := Nat.eq_of_beq_eq_true hc; subst h2; exact ⟨rfl, rfl⟩) ⟨rfl, rfl⟩ ⟨fok_X4, clok_X4, jok_X4, List.forall_mem_cons.mpr ⟨cok_obj ml_X4_3 o_obj.1 o_obj.2 (by decide), List.forall_mem_cons.mpr ⟨cok_I ct_X3_init sh_X3_init rfl ((cl_ins (c := 3) (by decide)).2) ml_X4_11 im_X3_init co_X3_init mo_X3_init (by decide), List.forall_mem_cons.mpr ⟨cok_I ct_X2_init sh_X2_init rfl ((cl_ins (c := 2) (by decide)).2) ml_X4_20 im_X2_init co_X2_init mo_X2_init (by decide), fun _ h => absurd h List.not_mem_nil⟩⟩⟩⟩ bd_X4_init_28
def sp_X4_init : Spc := fun as N lg it rf K => sp_X4_init_1 as N lg it rf K ∨ sp_X4_init_28 as N lg it rf K
theorem ct_X4_init {E : Ev} {l : Launch} : CT E l yX4_init (wsY yX4_init cX4_init 1 none) rm_X4_init_1 26 sp_X4_init := ⟨rfl, rfl, fun as N lg it rf Q h => by
  rcases h with h | h
  · exact ct_X4_init_1.2.2 as N lg it rf Q h
  · exact ct_X4_init_28.2.2 as N lg it rf Q h⟩
theorem sh_X4_init (as : List Value) (N : Nat) (lg : LGt) (it : ITt) (rf : RFt) (Q : Post) (h : sp_X4_init as N lg it rf Q) : ∃ j t, as = .ref j :: t := by
  rcases h with h | h
  · exact sh_X4_init_1 as N lg it rf Q h
  · exact sh_X4_init_28 as N lg it rf Q h
def sp_X0_init : Spc := fun as N lg it rf K => match as with | [.ref 55] => ((N = 56 ∧ Zr 55 lg it rf) ∧ ∀ lg' it' rf', Fr 55 450 lg' it' rf' → Ex 55 lg lg' it it' rf rf' → K none lg' it' rf') | _ => False
def T_X0_init : Tab := (FL_X0, CL_X0, JL_X0, [(3, 2, 1, 0, 0, sp_obj), (23, 2, 1, 0, 16, sp_X3_init), (24, 2, 1, 0, 0, sp_X1_init), (41, 2, 1, 0, 12, sp_X5_init)], 0, none)
def rm_X0_init : Room := { frames := 3, cells := 394, slots := 157600, locals := 61 }
set_option maxRecDepth 100000 in
theorem bd_X0_init (as : List Value) (N : Nat) (lg : LGt) (it : ITt) (rf : RFt) (Q : Post) (h : sp_X0_init as N lg it rf Q) : Bd T_X0_init cX0_init 2 394 as N lg it rf Q := by
  unfold sp_X0_init at h
  split at h
  · refine ⟨Nat.le_of_ble_eq_true rfl, fun P hs hw hf => ?_⟩
    obtain ⟨⟨rfl, hz⟩, hk⟩ := h
    have hB := Bl_0 (op := fun j => j = 55 ∨ j = 56 ∨ j = 57) (lo := 55) (lg := lg) (it := it) (rf := rf) (by omega)
    have hR0 : Rw 55 lg it rf _ _ _ := hz
    refine hs dX0_init_0 (hs dX0_init_1 (And.intro (trivial) (n0 (hs dX0_init_4 (hs dX0_init_5 (hs dX0_init_7 (And.intro (⟨by omega, by decide, ly_56⟩) (nM (M := 57) rfl ?_))))))))
    have hB := Bl_opn hB (by omega) (by omega)
    have hR0 := Rw_zr hR0 (m := 56) (by omega)
    have hR1 := Rw_of hB (Rw_new (m := 56))
    refine hs dX0_init_10 (And.intro (⟨by omega, by rw [ly_55]⟩) ?_)
    have hB := Bl_pr hB (j := 55) (k := 0) (v := some 56) (by omega) (by omega)
    have hR0 := Rw_pr hR0 (k := 0) (v := some 56)
    have hR1 := Rw_nr hR1 (i := 55) (k := 0) (v := some 56) (by omega)
    refine hs dX0_init_13 (hs dX0_init_14 (hs dX0_init_16 (And.intro (⟨by omega, by decide, ly_57⟩) (nM (M := 58) rfl ?_))))
    have hB := Bl_opn hB (by omega) (by omega)
    have hR0 := Rw_zr hR0 (m := 57) (by omega)
    have hR1 := Rw_zr hR1 (m := 57) (by omega)
    have hR2 := Rw_of hB (Rw_new (m := 57))
    refine hs dX0_init_19 (And.intro (⟨by omega, by rw [ly_55]⟩) ?_)
    have hB := Bl_pr hB (j := 55) (k := 1) (v := some 57) (by omega) (by omega)
    have hR0 := Rw_pr hR0 (k := 1) (v := some 57)
    have hR1 := Rw_nr hR1 (i := 55) (k := 1) (v := some 57) (by omega)
    have hR2 := Rw_nr hR2 (i := 55) (k := 1) (v := some 57) (by omega)
    refine hs dX0_init_22 (hs dX0_init_23 ?_)
    show P 24 [.ref 55, .int 0] [] _ _ _ _
    refine hs dX0_init_24 (hs dX0_init_25 (hs dX0_init_27 (And.intro (fun c27 => absurd c27 (by decide)) (fun c27 => (hs dX0_init_30 (hs dX0_init_31 (And.intro (⟨by omega, by rw [ly_55]⟩) (gr (by rw [hR0.2.2]; rfl) (hs dX0_init_34 (hs dX0_init_35 (And.intro (⟨by omega, ly_58⟩) (nM (M := 59) rfl (hs dX0_init_38 (hs dX0_init_39 (And.intro (trivial) (And.intro (by show 59 + 16 ≤ 56 + 394; omega) (And.intro (⟨by decide, rfl, Zr_new⟩) (fun lg1 it1 rf1 hF1 hE1 => nM (M := 75) rfl ?_) )))))))))))))))))
    have hB := Bl_ex hB (by omega) hF1 hE1
    have hR0 := Rw_ex hR0 (by omega) hE1
    have hR1 := Rw_ex hR1 (by omega) hE1
    have hR2 := Rw_ex hR2 (by omega) hE1
    refine hs dX0_init_42 (And.intro (⟨by omega, by omega, by rw [ly_58, ly_56]; rfl, by rw [ly_56]; decide, by rw [ly_56]; decide⟩) (And.intro (vin (show (LAY 56).2 = 21 by rw [ly_56]) (by decide)) ?_))
    have hB := Bl_pr hB (j := 56) (k := (Int32.toNatClampNeg 0)) (v := some 58) (by omega) (by omega)
    have hR1 := Rw_pr hR1 (k := (Int32.toNatClampNeg 0)) (v := some 58)
    have hR0 := Rw_nr hR0 (i := 56) (k := (Int32.toNatClampNeg 0)) (v := some 58) (by omega)
    have hR2 := Rw_nr hR2 (i := 56) (k := (Int32.toNatClampNeg 0)) (v := some 58) (by omega)
    refine hs dX0_init_43 (hs dX0_init_44 (And.intro (⟨by omega, by rw [ly_55]⟩) (gr (by rw [hR0.2.2]; rfl) (hs dX0_init_47 (hs dX0_init_48 (And.intro (⟨by omega, ly_75⟩) (nM (M := 76) rfl (hs dX0_init_51 (hs dX0_init_52 (And.intro (trivial) (And.intro (⟨by omega, by rw [ly_75]⟩) (n0 ?_) )))))))))))
    have hB := Bl_ex hB (by omega) (Fr_frac ly_75 tb_75).1 (Fr_frac ly_75 tb_75).2
    have hR0 := Rw_fr hR0 (m := 75) (by omega)
    have hR1 := Rw_fr hR1 (m := 75) (by omega)
    have hR2 := Rw_fr hR2 (m := 75) (by omega)
    refine hs dX0_init_55 (And.intro (⟨by omega, by omega, by rw [ly_75, ly_57]; rfl, by rw [ly_57]; decide, by rw [ly_57]; decide⟩) (And.intro (vin (show (LAY 57).2 = 21 by rw [ly_57]) (by decide)) ?_))
    have hB := Bl_pr hB (j := 57) (k := (Int32.toNatClampNeg 0)) (v := some 75) (by omega) (by omega)
    have hR2 := Rw_pr hR2 (k := (Int32.toNatClampNeg 0)) (v := some 75)
    have hR0 := Rw_nr hR0 (i := 57) (k := (Int32.toNatClampNeg 0)) (v := some 75) (by omega)
    have hR1 := Rw_nr hR1 (i := 57) (k := (Int32.toNatClampNeg 0)) (v := some 75) (by omega)
    refine hs dX0_init_56 (hs dX0_init_59 ?_)
    show P 24 [.ref 55, .int 1] [] _ _ _ _
    refine hs dX0_init_24 (hs dX0_init_25 (hs dX0_init_27 (And.intro (fun c27 => absurd c27 (by decide)) (fun c27 => (hs dX0_init_30 (hs dX0_init_31 (And.intro (⟨by omega, by rw [ly_55]⟩) (gr (by rw [hR0.2.2]; rfl) (hs dX0_init_34 (hs dX0_init_35 (And.intro (⟨by omega, ly_76⟩) (nM (M := 77) rfl (hs dX0_init_38 (hs dX0_init_39 (And.intro (trivial) (And.intro (by show 77 + 16 ≤ 56 + 394; omega) (And.intro (⟨by decide, rfl, Zr_new⟩) (fun lg2 it2 rf2 hF2 hE2 => nM (M := 93) rfl ?_) )))))))))))))))))
    have hB := Bl_ex hB (by omega) hF2 hE2
    have hR0 := Rw_ex hR0 (by omega) hE2
    have hR1 := Rw_ex hR1 (by omega) hE2
    have hR2 := Rw_ex hR2 (by omega) hE2
    refine hs dX0_init_42 (And.intro (⟨by omega, by omega, by rw [ly_76, ly_56]; rfl, by rw [ly_56]; decide, by rw [ly_56]; decide⟩) (And.intro (vin (show (LAY 56).2 = 21 by rw [ly_56]) (by decide)) ?_))
    have hB := Bl_pr hB (j := 56) (k := (Int32.toNatClampNeg 1)) (v := some 76) (by omega) (by omega)
    have hR1 := Rw_pr hR1 (k := (Int32.toNatClampNeg 1)) (v := some 76)
    have hR0 := Rw_nr hR0 (i := 56) (k := (Int32.toNatClampNeg 1)) (v := some 76) (by omega)
    have hR2 := Rw_nr hR2 (i := 56) (k := (Int32.toNatClampNeg 1)) (v := some 76) (by omega)
    refine hs dX0_init_43 (hs dX0_init_44 (And.intro (⟨by omega, by rw [ly_55]⟩) (gr (by rw [hR0.2.2]; rfl) (hs dX0_init_47 (hs dX0_init_48 (And.intro (⟨by omega, ly_93⟩) (nM (M := 94) rfl (hs dX0_init_51 (hs dX0_init_52 (And.intro (trivial) (And.intro (⟨by omega, by rw [ly_93]⟩) (n0 ?_) )))))))))))
    have hB := Bl_ex hB (by omega) (Fr_frac ly_93 tb_93).1 (Fr_frac ly_93 tb_93).2
    have hR0 := Rw_fr hR0 (m := 93) (by omega)
    have hR1 := Rw_fr hR1 (m := 93) (by omega)
    have hR2 := Rw_fr hR2 (m := 93) (by omega)
    refine hs dX0_init_55 (And.intro (⟨by omega, by omega, by rw [ly_93, ly_57]; rfl, by rw [ly_57]; decide, by rw [ly_57]; decide⟩) (And.intro (vin (show (LAY 57).2 = 21 by rw [ly_57]) (by decide)) ?_))
    have hB := Bl_pr hB (j := 57) (k := (Int32.toNatClampNeg 1)) (v := some 93) (by omega) (by omega)
    have hR2 := Rw_pr hR2 (k := (Int32.toNatClampNeg 1)) (v := some 93)
    have hR0 := Rw_nr hR0 (i := 57) (k := (Int32.toNatClampNeg 1)) (v := some 93) (by omega)
    have hR1 := Rw_nr hR1 (i := 57) (k := (Int32.toNatClampNeg 1)) (v := some 93) (by omega)
    refine hs dX0_init_56 (hs dX0_init_59 ?_)
    show P 24 [.ref 55, .int 2] [] _ _ _ _
    refine hs dX0_init_24 (hs dX0_init_25 (hs dX0_init_27 (And.intro (fun c27 => absurd c27 (by decide)) (fun c27 => (hs dX0_init_30 (hs dX0_init_31 (And.intro (⟨by omega, by rw [ly_55]⟩) (gr (by rw [hR0.2.2]; rfl) (hs dX0_init_34 (hs dX0_init_35 (And.intro (⟨by omega, ly_94⟩) (nM (M := 95) rfl (hs dX0_init_38 (hs dX0_init_39 (And.intro (trivial) (And.intro (by show 95 + 16 ≤ 56 + 394; omega) (And.intro (⟨by decide, rfl, Zr_new⟩) (fun lg3 it3 rf3 hF3 hE3 => nM (M := 111) rfl ?_) )))))))))))))))))
    have hB := Bl_ex hB (by omega) hF3 hE3
    have hR0 := Rw_ex hR0 (by omega) hE3
    have hR1 := Rw_ex hR1 (by omega) hE3
    have hR2 := Rw_ex hR2 (by omega) hE3
    refine hs dX0_init_42 (And.intro (⟨by omega, by omega, by rw [ly_94, ly_56]; rfl, by rw [ly_56]; decide, by rw [ly_56]; decide⟩) (And.intro (vin (show (LAY 56).2 = 21 by rw [ly_56]) (by decide)) ?_))
    have hB := Bl_pr hB (j := 56) (k := (Int32.toNatClampNeg 2)) (v := some 94) (by omega) (by omega)
    have hR1 := Rw_pr hR1 (k := (Int32.toNatClampNeg 2)) (v := some 94)
    have hR0 := Rw_nr hR0 (i := 56) (k := (Int32.toNatClampNeg 2)) (v := some 94) (by omega)
    have hR2 := Rw_nr hR2 (i := 56) (k := (Int32.toNatClampNeg 2)) (v := some 94) (by omega)
    refine hs dX0_init_43 (hs dX0_init_44 (And.intro (⟨by omega, by rw [ly_55]⟩) (gr (by rw [hR0.2.2]; rfl) (hs dX0_init_47 (hs dX0_init_48 (And.intro (⟨by omega, ly_111⟩) (nM (M := 112) rfl (hs dX0_init_51 (hs dX0_init_52 (And.intro (trivial) (And.intro (⟨by omega, by rw [ly_111]⟩) (n0 ?_) )))))))))))
    have hB := Bl_ex hB (by omega) (Fr_frac ly_111 tb_111).1 (Fr_frac ly_111 tb_111).2
    have hR0 := Rw_fr hR0 (m := 111) (by omega)
    have hR1 := Rw_fr hR1 (m := 111) (by omega)
    have hR2 := Rw_fr hR2 (m := 111) (by omega)
    refine hs dX0_init_55 (And.intro (⟨by omega, by omega, by rw [ly_111, ly_57]; rfl, by rw [ly_57]; decide, by rw [ly_57]; decide⟩) (And.intro (vin (show (LAY 57).2 = 21 by rw [ly_57]) (by decide)) ?_))
    have hB := Bl_pr hB (j := 57) (k := (Int32.toNatClampNeg 2)) (v := some 111) (by omega) (by omega)
    have hR2 := Rw_pr hR2 (k := (Int32.toNatClampNeg 2)) (v := some 111)
    have hR0 := Rw_nr hR0 (i := 57) (k := (Int32.toNatClampNeg 2)) (v := some 111) (by omega)
    have hR1 := Rw_nr hR1 (i := 57) (k := (Int32.toNatClampNeg 2)) (v := some 111) (by omega)
    refine hs dX0_init_56 (hs dX0_init_59 ?_)
    show P 24 [.ref 55, .int 3] [] _ _ _ _
    refine hs dX0_init_24 (hs dX0_init_25 (hs dX0_init_27 (And.intro (fun c27 => absurd c27 (by decide)) (fun c27 => (hs dX0_init_30 (hs dX0_init_31 (And.intro (⟨by omega, by rw [ly_55]⟩) (gr (by rw [hR0.2.2]; rfl) (hs dX0_init_34 (hs dX0_init_35 (And.intro (⟨by omega, ly_112⟩) (nM (M := 113) rfl (hs dX0_init_38 (hs dX0_init_39 (And.intro (trivial) (And.intro (by show 113 + 16 ≤ 56 + 394; omega) (And.intro (⟨by decide, rfl, Zr_new⟩) (fun lg4 it4 rf4 hF4 hE4 => nM (M := 129) rfl ?_) )))))))))))))))))
    have hB := Bl_ex hB (by omega) hF4 hE4
    have hR0 := Rw_ex hR0 (by omega) hE4
    have hR1 := Rw_ex hR1 (by omega) hE4
    have hR2 := Rw_ex hR2 (by omega) hE4
    refine hs dX0_init_42 (And.intro (⟨by omega, by omega, by rw [ly_112, ly_56]; rfl, by rw [ly_56]; decide, by rw [ly_56]; decide⟩) (And.intro (vin (show (LAY 56).2 = 21 by rw [ly_56]) (by decide)) ?_))
    have hB := Bl_pr hB (j := 56) (k := (Int32.toNatClampNeg 3)) (v := some 112) (by omega) (by omega)
    have hR1 := Rw_pr hR1 (k := (Int32.toNatClampNeg 3)) (v := some 112)
    have hR0 := Rw_nr hR0 (i := 56) (k := (Int32.toNatClampNeg 3)) (v := some 112) (by omega)
    have hR2 := Rw_nr hR2 (i := 56) (k := (Int32.toNatClampNeg 3)) (v := some 112) (by omega)
    refine hs dX0_init_43 (hs dX0_init_44 (And.intro (⟨by omega, by rw [ly_55]⟩) (gr (by rw [hR0.2.2]; rfl) (hs dX0_init_47 (hs dX0_init_48 (And.intro (⟨by omega, ly_129⟩) (nM (M := 130) rfl (hs dX0_init_51 (hs dX0_init_52 (And.intro (trivial) (And.intro (⟨by omega, by rw [ly_129]⟩) (n0 ?_) )))))))))))
    have hB := Bl_ex hB (by omega) (Fr_frac ly_129 tb_129).1 (Fr_frac ly_129 tb_129).2
    have hR0 := Rw_fr hR0 (m := 129) (by omega)
    have hR1 := Rw_fr hR1 (m := 129) (by omega)
    have hR2 := Rw_fr hR2 (m := 129) (by omega)
    refine hs dX0_init_55 (And.intro (⟨by omega, by omega, by rw [ly_129, ly_57]; rfl, by rw [ly_57]; decide, by rw [ly_57]; decide⟩) (And.intro (vin (show (LAY 57).2 = 21 by rw [ly_57]) (by decide)) ?_))
    have hB := Bl_pr hB (j := 57) (k := (Int32.toNatClampNeg 3)) (v := some 129) (by omega) (by omega)
    have hR2 := Rw_pr hR2 (k := (Int32.toNatClampNeg 3)) (v := some 129)
    have hR0 := Rw_nr hR0 (i := 57) (k := (Int32.toNatClampNeg 3)) (v := some 129) (by omega)
    have hR1 := Rw_nr hR1 (i := 57) (k := (Int32.toNatClampNeg 3)) (v := some 129) (by omega)
    refine hs dX0_init_56 (hs dX0_init_59 ?_)
    show P 24 [.ref 55, .int 4] [] _ _ _ _
    refine hs dX0_init_24 (hs dX0_init_25 (hs dX0_init_27 (And.intro (fun c27 => absurd c27 (by decide)) (fun c27 => (hs dX0_init_30 (hs dX0_init_31 (And.intro (⟨by omega, by rw [ly_55]⟩) (gr (by rw [hR0.2.2]; rfl) (hs dX0_init_34 (hs dX0_init_35 (And.intro (⟨by omega, ly_130⟩) (nM (M := 131) rfl (hs dX0_init_38 (hs dX0_init_39 (And.intro (trivial) (And.intro (by show 131 + 16 ≤ 56 + 394; omega) (And.intro (⟨by decide, rfl, Zr_new⟩) (fun lg5 it5 rf5 hF5 hE5 => nM (M := 147) rfl ?_) )))))))))))))))))
    have hB := Bl_ex hB (by omega) hF5 hE5
    have hR0 := Rw_ex hR0 (by omega) hE5
    have hR1 := Rw_ex hR1 (by omega) hE5
    have hR2 := Rw_ex hR2 (by omega) hE5
    refine hs dX0_init_42 (And.intro (⟨by omega, by omega, by rw [ly_130, ly_56]; rfl, by rw [ly_56]; decide, by rw [ly_56]; decide⟩) (And.intro (vin (show (LAY 56).2 = 21 by rw [ly_56]) (by decide)) ?_))
    have hB := Bl_pr hB (j := 56) (k := (Int32.toNatClampNeg 4)) (v := some 130) (by omega) (by omega)
    have hR1 := Rw_pr hR1 (k := (Int32.toNatClampNeg 4)) (v := some 130)
    have hR0 := Rw_nr hR0 (i := 56) (k := (Int32.toNatClampNeg 4)) (v := some 130) (by omega)
    have hR2 := Rw_nr hR2 (i := 56) (k := (Int32.toNatClampNeg 4)) (v := some 130) (by omega)
    refine hs dX0_init_43 (hs dX0_init_44 (And.intro (⟨by omega, by rw [ly_55]⟩) (gr (by rw [hR0.2.2]; rfl) (hs dX0_init_47 (hs dX0_init_48 (And.intro (⟨by omega, ly_147⟩) (nM (M := 148) rfl (hs dX0_init_51 (hs dX0_init_52 (And.intro (trivial) (And.intro (⟨by omega, by rw [ly_147]⟩) (n0 ?_) )))))))))))
    have hB := Bl_ex hB (by omega) (Fr_frac ly_147 tb_147).1 (Fr_frac ly_147 tb_147).2
    have hR0 := Rw_fr hR0 (m := 147) (by omega)
    have hR1 := Rw_fr hR1 (m := 147) (by omega)
    have hR2 := Rw_fr hR2 (m := 147) (by omega)
    refine hs dX0_init_55 (And.intro (⟨by omega, by omega, by rw [ly_147, ly_57]; rfl, by rw [ly_57]; decide, by rw [ly_57]; decide⟩) (And.intro (vin (show (LAY 57).2 = 21 by rw [ly_57]) (by decide)) ?_))
    have hB := Bl_pr hB (j := 57) (k := (Int32.toNatClampNeg 4)) (v := some 147) (by omega) (by omega)
    have hR2 := Rw_pr hR2 (k := (Int32.toNatClampNeg 4)) (v := some 147)
    have hR0 := Rw_nr hR0 (i := 57) (k := (Int32.toNatClampNeg 4)) (v := some 147) (by omega)
    have hR1 := Rw_nr hR1 (i := 57) (k := (Int32.toNatClampNeg 4)) (v := some 147) (by omega)
    refine hs dX0_init_56 (hs dX0_init_59 ?_)
    show P 24 [.ref 55, .int 5] [] _ _ _ _
    refine hs dX0_init_24 (hs dX0_init_25 (hs dX0_init_27 (And.intro (fun c27 => absurd c27 (by decide)) (fun c27 => (hs dX0_init_30 (hs dX0_init_31 (And.intro (⟨by omega, by rw [ly_55]⟩) (gr (by rw [hR0.2.2]; rfl) (hs dX0_init_34 (hs dX0_init_35 (And.intro (⟨by omega, ly_148⟩) (nM (M := 149) rfl (hs dX0_init_38 (hs dX0_init_39 (And.intro (trivial) (And.intro (by show 149 + 16 ≤ 56 + 394; omega) (And.intro (⟨by decide, rfl, Zr_new⟩) (fun lg6 it6 rf6 hF6 hE6 => nM (M := 165) rfl ?_) )))))))))))))))))
    have hB := Bl_ex hB (by omega) hF6 hE6
    have hR0 := Rw_ex hR0 (by omega) hE6
    have hR1 := Rw_ex hR1 (by omega) hE6
    have hR2 := Rw_ex hR2 (by omega) hE6
    refine hs dX0_init_42 (And.intro (⟨by omega, by omega, by rw [ly_148, ly_56]; rfl, by rw [ly_56]; decide, by rw [ly_56]; decide⟩) (And.intro (vin (show (LAY 56).2 = 21 by rw [ly_56]) (by decide)) ?_))
    have hB := Bl_pr hB (j := 56) (k := (Int32.toNatClampNeg 5)) (v := some 148) (by omega) (by omega)
    have hR1 := Rw_pr hR1 (k := (Int32.toNatClampNeg 5)) (v := some 148)
    have hR0 := Rw_nr hR0 (i := 56) (k := (Int32.toNatClampNeg 5)) (v := some 148) (by omega)
    have hR2 := Rw_nr hR2 (i := 56) (k := (Int32.toNatClampNeg 5)) (v := some 148) (by omega)
    refine hs dX0_init_43 (hs dX0_init_44 (And.intro (⟨by omega, by rw [ly_55]⟩) (gr (by rw [hR0.2.2]; rfl) (hs dX0_init_47 (hs dX0_init_48 (And.intro (⟨by omega, ly_165⟩) (nM (M := 166) rfl (hs dX0_init_51 (hs dX0_init_52 (And.intro (trivial) (And.intro (⟨by omega, by rw [ly_165]⟩) (n0 ?_) )))))))))))
    have hB := Bl_ex hB (by omega) (Fr_frac ly_165 tb_165).1 (Fr_frac ly_165 tb_165).2
    have hR0 := Rw_fr hR0 (m := 165) (by omega)
    have hR1 := Rw_fr hR1 (m := 165) (by omega)
    have hR2 := Rw_fr hR2 (m := 165) (by omega)
    refine hs dX0_init_55 (And.intro (⟨by omega, by omega, by rw [ly_165, ly_57]; rfl, by rw [ly_57]; decide, by rw [ly_57]; decide⟩) (And.intro (vin (show (LAY 57).2 = 21 by rw [ly_57]) (by decide)) ?_))
    have hB := Bl_pr hB (j := 57) (k := (Int32.toNatClampNeg 5)) (v := some 165) (by omega) (by omega)
    have hR2 := Rw_pr hR2 (k := (Int32.toNatClampNeg 5)) (v := some 165)
    have hR0 := Rw_nr hR0 (i := 57) (k := (Int32.toNatClampNeg 5)) (v := some 165) (by omega)
    have hR1 := Rw_nr hR1 (i := 57) (k := (Int32.toNatClampNeg 5)) (v := some 165) (by omega)
    refine hs dX0_init_56 (hs dX0_init_59 ?_)
    show P 24 [.ref 55, .int 6] [] _ _ _ _
    refine hs dX0_init_24 (hs dX0_init_25 (hs dX0_init_27 (And.intro (fun c27 => absurd c27 (by decide)) (fun c27 => (hs dX0_init_30 (hs dX0_init_31 (And.intro (⟨by omega, by rw [ly_55]⟩) (gr (by rw [hR0.2.2]; rfl) (hs dX0_init_34 (hs dX0_init_35 (And.intro (⟨by omega, ly_166⟩) (nM (M := 167) rfl (hs dX0_init_38 (hs dX0_init_39 (And.intro (trivial) (And.intro (by show 167 + 16 ≤ 56 + 394; omega) (And.intro (⟨by decide, rfl, Zr_new⟩) (fun lg7 it7 rf7 hF7 hE7 => nM (M := 183) rfl ?_) )))))))))))))))))
    have hB := Bl_ex hB (by omega) hF7 hE7
    have hR0 := Rw_ex hR0 (by omega) hE7
    have hR1 := Rw_ex hR1 (by omega) hE7
    have hR2 := Rw_ex hR2 (by omega) hE7
    refine hs dX0_init_42 (And.intro (⟨by omega, by omega, by rw [ly_166, ly_56]; rfl, by rw [ly_56]; decide, by rw [ly_56]; decide⟩) (And.intro (vin (show (LAY 56).2 = 21 by rw [ly_56]) (by decide)) ?_))
    have hB := Bl_pr hB (j := 56) (k := (Int32.toNatClampNeg 6)) (v := some 166) (by omega) (by omega)
    have hR1 := Rw_pr hR1 (k := (Int32.toNatClampNeg 6)) (v := some 166)
    have hR0 := Rw_nr hR0 (i := 56) (k := (Int32.toNatClampNeg 6)) (v := some 166) (by omega)
    have hR2 := Rw_nr hR2 (i := 56) (k := (Int32.toNatClampNeg 6)) (v := some 166) (by omega)
    refine hs dX0_init_43 (hs dX0_init_44 (And.intro (⟨by omega, by rw [ly_55]⟩) (gr (by rw [hR0.2.2]; rfl) (hs dX0_init_47 (hs dX0_init_48 (And.intro (⟨by omega, ly_183⟩) (nM (M := 184) rfl (hs dX0_init_51 (hs dX0_init_52 (And.intro (trivial) (And.intro (⟨by omega, by rw [ly_183]⟩) (n0 ?_) )))))))))))
    have hB := Bl_ex hB (by omega) (Fr_frac ly_183 tb_183).1 (Fr_frac ly_183 tb_183).2
    have hR0 := Rw_fr hR0 (m := 183) (by omega)
    have hR1 := Rw_fr hR1 (m := 183) (by omega)
    have hR2 := Rw_fr hR2 (m := 183) (by omega)
    refine hs dX0_init_55 (And.intro (⟨by omega, by omega, by rw [ly_183, ly_57]; rfl, by rw [ly_57]; decide, by rw [ly_57]; decide⟩) (And.intro (vin (show (LAY 57).2 = 21 by rw [ly_57]) (by decide)) ?_))
    have hB := Bl_pr hB (j := 57) (k := (Int32.toNatClampNeg 6)) (v := some 183) (by omega) (by omega)
    have hR2 := Rw_pr hR2 (k := (Int32.toNatClampNeg 6)) (v := some 183)
    have hR0 := Rw_nr hR0 (i := 57) (k := (Int32.toNatClampNeg 6)) (v := some 183) (by omega)
    have hR1 := Rw_nr hR1 (i := 57) (k := (Int32.toNatClampNeg 6)) (v := some 183) (by omega)
    refine hs dX0_init_56 (hs dX0_init_59 ?_)
    show P 24 [.ref 55, .int 7] [] _ _ _ _
    refine hs dX0_init_24 (hs dX0_init_25 (hs dX0_init_27 (And.intro (fun c27 => absurd c27 (by decide)) (fun c27 => (hs dX0_init_30 (hs dX0_init_31 (And.intro (⟨by omega, by rw [ly_55]⟩) (gr (by rw [hR0.2.2]; rfl) (hs dX0_init_34 (hs dX0_init_35 (And.intro (⟨by omega, ly_184⟩) (nM (M := 185) rfl (hs dX0_init_38 (hs dX0_init_39 (And.intro (trivial) (And.intro (by show 185 + 16 ≤ 56 + 394; omega) (And.intro (⟨by decide, rfl, Zr_new⟩) (fun lg8 it8 rf8 hF8 hE8 => nM (M := 201) rfl ?_) )))))))))))))))))
    have hB := Bl_ex hB (by omega) hF8 hE8
    have hR0 := Rw_ex hR0 (by omega) hE8
    have hR1 := Rw_ex hR1 (by omega) hE8
    have hR2 := Rw_ex hR2 (by omega) hE8
    refine hs dX0_init_42 (And.intro (⟨by omega, by omega, by rw [ly_184, ly_56]; rfl, by rw [ly_56]; decide, by rw [ly_56]; decide⟩) (And.intro (vin (show (LAY 56).2 = 21 by rw [ly_56]) (by decide)) ?_))
    have hB := Bl_pr hB (j := 56) (k := (Int32.toNatClampNeg 7)) (v := some 184) (by omega) (by omega)
    have hR1 := Rw_pr hR1 (k := (Int32.toNatClampNeg 7)) (v := some 184)
    have hR0 := Rw_nr hR0 (i := 56) (k := (Int32.toNatClampNeg 7)) (v := some 184) (by omega)
    have hR2 := Rw_nr hR2 (i := 56) (k := (Int32.toNatClampNeg 7)) (v := some 184) (by omega)
    refine hs dX0_init_43 (hs dX0_init_44 (And.intro (⟨by omega, by rw [ly_55]⟩) (gr (by rw [hR0.2.2]; rfl) (hs dX0_init_47 (hs dX0_init_48 (And.intro (⟨by omega, ly_201⟩) (nM (M := 202) rfl (hs dX0_init_51 (hs dX0_init_52 (And.intro (trivial) (And.intro (⟨by omega, by rw [ly_201]⟩) (n0 ?_) )))))))))))
    have hB := Bl_ex hB (by omega) (Fr_frac ly_201 tb_201).1 (Fr_frac ly_201 tb_201).2
    have hR0 := Rw_fr hR0 (m := 201) (by omega)
    have hR1 := Rw_fr hR1 (m := 201) (by omega)
    have hR2 := Rw_fr hR2 (m := 201) (by omega)
    refine hs dX0_init_55 (And.intro (⟨by omega, by omega, by rw [ly_201, ly_57]; rfl, by rw [ly_57]; decide, by rw [ly_57]; decide⟩) (And.intro (vin (show (LAY 57).2 = 21 by rw [ly_57]) (by decide)) ?_))
    have hB := Bl_pr hB (j := 57) (k := (Int32.toNatClampNeg 7)) (v := some 201) (by omega) (by omega)
    have hR2 := Rw_pr hR2 (k := (Int32.toNatClampNeg 7)) (v := some 201)
    have hR0 := Rw_nr hR0 (i := 57) (k := (Int32.toNatClampNeg 7)) (v := some 201) (by omega)
    have hR1 := Rw_nr hR1 (i := 57) (k := (Int32.toNatClampNeg 7)) (v := some 201) (by omega)
    refine hs dX0_init_56 (hs dX0_init_59 ?_)
    show P 24 [.ref 55, .int 8] [] _ _ _ _
    refine hs dX0_init_24 (hs dX0_init_25 (hs dX0_init_27 (And.intro (fun c27 => absurd c27 (by decide)) (fun c27 => (hs dX0_init_30 (hs dX0_init_31 (And.intro (⟨by omega, by rw [ly_55]⟩) (gr (by rw [hR0.2.2]; rfl) (hs dX0_init_34 (hs dX0_init_35 (And.intro (⟨by omega, ly_202⟩) (nM (M := 203) rfl (hs dX0_init_38 (hs dX0_init_39 (And.intro (trivial) (And.intro (by show 203 + 16 ≤ 56 + 394; omega) (And.intro (⟨by decide, rfl, Zr_new⟩) (fun lg9 it9 rf9 hF9 hE9 => nM (M := 219) rfl ?_) )))))))))))))))))
    have hB := Bl_ex hB (by omega) hF9 hE9
    have hR0 := Rw_ex hR0 (by omega) hE9
    have hR1 := Rw_ex hR1 (by omega) hE9
    have hR2 := Rw_ex hR2 (by omega) hE9
    refine hs dX0_init_42 (And.intro (⟨by omega, by omega, by rw [ly_202, ly_56]; rfl, by rw [ly_56]; decide, by rw [ly_56]; decide⟩) (And.intro (vin (show (LAY 56).2 = 21 by rw [ly_56]) (by decide)) ?_))
    have hB := Bl_pr hB (j := 56) (k := (Int32.toNatClampNeg 8)) (v := some 202) (by omega) (by omega)
    have hR1 := Rw_pr hR1 (k := (Int32.toNatClampNeg 8)) (v := some 202)
    have hR0 := Rw_nr hR0 (i := 56) (k := (Int32.toNatClampNeg 8)) (v := some 202) (by omega)
    have hR2 := Rw_nr hR2 (i := 56) (k := (Int32.toNatClampNeg 8)) (v := some 202) (by omega)
    refine hs dX0_init_43 (hs dX0_init_44 (And.intro (⟨by omega, by rw [ly_55]⟩) (gr (by rw [hR0.2.2]; rfl) (hs dX0_init_47 (hs dX0_init_48 (And.intro (⟨by omega, ly_219⟩) (nM (M := 220) rfl (hs dX0_init_51 (hs dX0_init_52 (And.intro (trivial) (And.intro (⟨by omega, by rw [ly_219]⟩) (n0 ?_) )))))))))))
    have hB := Bl_ex hB (by omega) (Fr_frac ly_219 tb_219).1 (Fr_frac ly_219 tb_219).2
    have hR0 := Rw_fr hR0 (m := 219) (by omega)
    have hR1 := Rw_fr hR1 (m := 219) (by omega)
    have hR2 := Rw_fr hR2 (m := 219) (by omega)
    refine hs dX0_init_55 (And.intro (⟨by omega, by omega, by rw [ly_219, ly_57]; rfl, by rw [ly_57]; decide, by rw [ly_57]; decide⟩) (And.intro (vin (show (LAY 57).2 = 21 by rw [ly_57]) (by decide)) ?_))
    have hB := Bl_pr hB (j := 57) (k := (Int32.toNatClampNeg 8)) (v := some 219) (by omega) (by omega)
    have hR2 := Rw_pr hR2 (k := (Int32.toNatClampNeg 8)) (v := some 219)
    have hR0 := Rw_nr hR0 (i := 57) (k := (Int32.toNatClampNeg 8)) (v := some 219) (by omega)
    have hR1 := Rw_nr hR1 (i := 57) (k := (Int32.toNatClampNeg 8)) (v := some 219) (by omega)
    refine hs dX0_init_56 (hs dX0_init_59 ?_)
    show P 24 [.ref 55, .int 9] [] _ _ _ _
    refine hs dX0_init_24 (hs dX0_init_25 (hs dX0_init_27 (And.intro (fun c27 => absurd c27 (by decide)) (fun c27 => (hs dX0_init_30 (hs dX0_init_31 (And.intro (⟨by omega, by rw [ly_55]⟩) (gr (by rw [hR0.2.2]; rfl) (hs dX0_init_34 (hs dX0_init_35 (And.intro (⟨by omega, ly_220⟩) (nM (M := 221) rfl (hs dX0_init_38 (hs dX0_init_39 (And.intro (trivial) (And.intro (by show 221 + 16 ≤ 56 + 394; omega) (And.intro (⟨by decide, rfl, Zr_new⟩) (fun lg10 it10 rf10 hF10 hE10 => nM (M := 237) rfl ?_) )))))))))))))))))
    have hB := Bl_ex hB (by omega) hF10 hE10
    have hR0 := Rw_ex hR0 (by omega) hE10
    have hR1 := Rw_ex hR1 (by omega) hE10
    have hR2 := Rw_ex hR2 (by omega) hE10
    refine hs dX0_init_42 (And.intro (⟨by omega, by omega, by rw [ly_220, ly_56]; rfl, by rw [ly_56]; decide, by rw [ly_56]; decide⟩) (And.intro (vin (show (LAY 56).2 = 21 by rw [ly_56]) (by decide)) ?_))
    have hB := Bl_pr hB (j := 56) (k := (Int32.toNatClampNeg 9)) (v := some 220) (by omega) (by omega)
    have hR1 := Rw_pr hR1 (k := (Int32.toNatClampNeg 9)) (v := some 220)
    have hR0 := Rw_nr hR0 (i := 56) (k := (Int32.toNatClampNeg 9)) (v := some 220) (by omega)
    have hR2 := Rw_nr hR2 (i := 56) (k := (Int32.toNatClampNeg 9)) (v := some 220) (by omega)
    refine hs dX0_init_43 (hs dX0_init_44 (And.intro (⟨by omega, by rw [ly_55]⟩) (gr (by rw [hR0.2.2]; rfl) (hs dX0_init_47 (hs dX0_init_48 (And.intro (⟨by omega, ly_237⟩) (nM (M := 238) rfl (hs dX0_init_51 (hs dX0_init_52 (And.intro (trivial) (And.intro (⟨by omega, by rw [ly_237]⟩) (n0 ?_) )))))))))))
    have hB := Bl_ex hB (by omega) (Fr_frac ly_237 tb_237).1 (Fr_frac ly_237 tb_237).2
    have hR0 := Rw_fr hR0 (m := 237) (by omega)
    have hR1 := Rw_fr hR1 (m := 237) (by omega)
    have hR2 := Rw_fr hR2 (m := 237) (by omega)
    refine hs dX0_init_55 (And.intro (⟨by omega, by omega, by rw [ly_237, ly_57]; rfl, by rw [ly_57]; decide, by rw [ly_57]; decide⟩) (And.intro (vin (show (LAY 57).2 = 21 by rw [ly_57]) (by decide)) ?_))
    have hB := Bl_pr hB (j := 57) (k := (Int32.toNatClampNeg 9)) (v := some 237) (by omega) (by omega)
    have hR2 := Rw_pr hR2 (k := (Int32.toNatClampNeg 9)) (v := some 237)
    have hR0 := Rw_nr hR0 (i := 57) (k := (Int32.toNatClampNeg 9)) (v := some 237) (by omega)
    have hR1 := Rw_nr hR1 (i := 57) (k := (Int32.toNatClampNeg 9)) (v := some 237) (by omega)
    refine hs dX0_init_56 (hs dX0_init_59 ?_)
    show P 24 [.ref 55, .int 10] [] _ _ _ _
    refine hs dX0_init_24 (hs dX0_init_25 (hs dX0_init_27 (And.intro (fun c27 => absurd c27 (by decide)) (fun c27 => (hs dX0_init_30 (hs dX0_init_31 (And.intro (⟨by omega, by rw [ly_55]⟩) (gr (by rw [hR0.2.2]; rfl) (hs dX0_init_34 (hs dX0_init_35 (And.intro (⟨by omega, ly_238⟩) (nM (M := 239) rfl (hs dX0_init_38 (hs dX0_init_39 (And.intro (trivial) (And.intro (by show 239 + 16 ≤ 56 + 394; omega) (And.intro (⟨by decide, rfl, Zr_new⟩) (fun lg11 it11 rf11 hF11 hE11 => nM (M := 255) rfl ?_) )))))))))))))))))
    have hB := Bl_ex hB (by omega) hF11 hE11
    have hR0 := Rw_ex hR0 (by omega) hE11
    have hR1 := Rw_ex hR1 (by omega) hE11
    have hR2 := Rw_ex hR2 (by omega) hE11
    refine hs dX0_init_42 (And.intro (⟨by omega, by omega, by rw [ly_238, ly_56]; rfl, by rw [ly_56]; decide, by rw [ly_56]; decide⟩) (And.intro (vin (show (LAY 56).2 = 21 by rw [ly_56]) (by decide)) ?_))
    have hB := Bl_pr hB (j := 56) (k := (Int32.toNatClampNeg 10)) (v := some 238) (by omega) (by omega)
    have hR1 := Rw_pr hR1 (k := (Int32.toNatClampNeg 10)) (v := some 238)
    have hR0 := Rw_nr hR0 (i := 56) (k := (Int32.toNatClampNeg 10)) (v := some 238) (by omega)
    have hR2 := Rw_nr hR2 (i := 56) (k := (Int32.toNatClampNeg 10)) (v := some 238) (by omega)
    refine hs dX0_init_43 (hs dX0_init_44 (And.intro (⟨by omega, by rw [ly_55]⟩) (gr (by rw [hR0.2.2]; rfl) (hs dX0_init_47 (hs dX0_init_48 (And.intro (⟨by omega, ly_255⟩) (nM (M := 256) rfl (hs dX0_init_51 (hs dX0_init_52 (And.intro (trivial) (And.intro (⟨by omega, by rw [ly_255]⟩) (n0 ?_) )))))))))))
    have hB := Bl_ex hB (by omega) (Fr_frac ly_255 tb_255).1 (Fr_frac ly_255 tb_255).2
    have hR0 := Rw_fr hR0 (m := 255) (by omega)
    have hR1 := Rw_fr hR1 (m := 255) (by omega)
    have hR2 := Rw_fr hR2 (m := 255) (by omega)
    refine hs dX0_init_55 (And.intro (⟨by omega, by omega, by rw [ly_255, ly_57]; rfl, by rw [ly_57]; decide, by rw [ly_57]; decide⟩) (And.intro (vin (show (LAY 57).2 = 21 by rw [ly_57]) (by decide)) ?_))
    have hB := Bl_pr hB (j := 57) (k := (Int32.toNatClampNeg 10)) (v := some 255) (by omega) (by omega)
    have hR2 := Rw_pr hR2 (k := (Int32.toNatClampNeg 10)) (v := some 255)
    have hR0 := Rw_nr hR0 (i := 57) (k := (Int32.toNatClampNeg 10)) (v := some 255) (by omega)
    have hR1 := Rw_nr hR1 (i := 57) (k := (Int32.toNatClampNeg 10)) (v := some 255) (by omega)
    refine hs dX0_init_56 (hs dX0_init_59 ?_)
    show P 24 [.ref 55, .int 11] [] _ _ _ _
    refine hs dX0_init_24 (hs dX0_init_25 (hs dX0_init_27 (And.intro (fun c27 => absurd c27 (by decide)) (fun c27 => (hs dX0_init_30 (hs dX0_init_31 (And.intro (⟨by omega, by rw [ly_55]⟩) (gr (by rw [hR0.2.2]; rfl) (hs dX0_init_34 (hs dX0_init_35 (And.intro (⟨by omega, ly_256⟩) (nM (M := 257) rfl (hs dX0_init_38 (hs dX0_init_39 (And.intro (trivial) (And.intro (by show 257 + 16 ≤ 56 + 394; omega) (And.intro (⟨by decide, rfl, Zr_new⟩) (fun lg12 it12 rf12 hF12 hE12 => nM (M := 273) rfl ?_) )))))))))))))))))
    have hB := Bl_ex hB (by omega) hF12 hE12
    have hR0 := Rw_ex hR0 (by omega) hE12
    have hR1 := Rw_ex hR1 (by omega) hE12
    have hR2 := Rw_ex hR2 (by omega) hE12
    refine hs dX0_init_42 (And.intro (⟨by omega, by omega, by rw [ly_256, ly_56]; rfl, by rw [ly_56]; decide, by rw [ly_56]; decide⟩) (And.intro (vin (show (LAY 56).2 = 21 by rw [ly_56]) (by decide)) ?_))
    have hB := Bl_pr hB (j := 56) (k := (Int32.toNatClampNeg 11)) (v := some 256) (by omega) (by omega)
    have hR1 := Rw_pr hR1 (k := (Int32.toNatClampNeg 11)) (v := some 256)
    have hR0 := Rw_nr hR0 (i := 56) (k := (Int32.toNatClampNeg 11)) (v := some 256) (by omega)
    have hR2 := Rw_nr hR2 (i := 56) (k := (Int32.toNatClampNeg 11)) (v := some 256) (by omega)
    refine hs dX0_init_43 (hs dX0_init_44 (And.intro (⟨by omega, by rw [ly_55]⟩) (gr (by rw [hR0.2.2]; rfl) (hs dX0_init_47 (hs dX0_init_48 (And.intro (⟨by omega, ly_273⟩) (nM (M := 274) rfl (hs dX0_init_51 (hs dX0_init_52 (And.intro (trivial) (And.intro (⟨by omega, by rw [ly_273]⟩) (n0 ?_) )))))))))))
    have hB := Bl_ex hB (by omega) (Fr_frac ly_273 tb_273).1 (Fr_frac ly_273 tb_273).2
    have hR0 := Rw_fr hR0 (m := 273) (by omega)
    have hR1 := Rw_fr hR1 (m := 273) (by omega)
    have hR2 := Rw_fr hR2 (m := 273) (by omega)
    refine hs dX0_init_55 (And.intro (⟨by omega, by omega, by rw [ly_273, ly_57]; rfl, by rw [ly_57]; decide, by rw [ly_57]; decide⟩) (And.intro (vin (show (LAY 57).2 = 21 by rw [ly_57]) (by decide)) ?_))
    have hB := Bl_pr hB (j := 57) (k := (Int32.toNatClampNeg 11)) (v := some 273) (by omega) (by omega)
    have hR2 := Rw_pr hR2 (k := (Int32.toNatClampNeg 11)) (v := some 273)
    have hR0 := Rw_nr hR0 (i := 57) (k := (Int32.toNatClampNeg 11)) (v := some 273) (by omega)
    have hR1 := Rw_nr hR1 (i := 57) (k := (Int32.toNatClampNeg 11)) (v := some 273) (by omega)
    refine hs dX0_init_56 (hs dX0_init_59 ?_)
    show P 24 [.ref 55, .int 12] [] _ _ _ _
    refine hs dX0_init_24 (hs dX0_init_25 (hs dX0_init_27 (And.intro (fun c27 => absurd c27 (by decide)) (fun c27 => (hs dX0_init_30 (hs dX0_init_31 (And.intro (⟨by omega, by rw [ly_55]⟩) (gr (by rw [hR0.2.2]; rfl) (hs dX0_init_34 (hs dX0_init_35 (And.intro (⟨by omega, ly_274⟩) (nM (M := 275) rfl (hs dX0_init_38 (hs dX0_init_39 (And.intro (trivial) (And.intro (by show 275 + 16 ≤ 56 + 394; omega) (And.intro (⟨by decide, rfl, Zr_new⟩) (fun lg13 it13 rf13 hF13 hE13 => nM (M := 291) rfl ?_) )))))))))))))))))
    have hB := Bl_ex hB (by omega) hF13 hE13
    have hR0 := Rw_ex hR0 (by omega) hE13
    have hR1 := Rw_ex hR1 (by omega) hE13
    have hR2 := Rw_ex hR2 (by omega) hE13
    refine hs dX0_init_42 (And.intro (⟨by omega, by omega, by rw [ly_274, ly_56]; rfl, by rw [ly_56]; decide, by rw [ly_56]; decide⟩) (And.intro (vin (show (LAY 56).2 = 21 by rw [ly_56]) (by decide)) ?_))
    have hB := Bl_pr hB (j := 56) (k := (Int32.toNatClampNeg 12)) (v := some 274) (by omega) (by omega)
    have hR1 := Rw_pr hR1 (k := (Int32.toNatClampNeg 12)) (v := some 274)
    have hR0 := Rw_nr hR0 (i := 56) (k := (Int32.toNatClampNeg 12)) (v := some 274) (by omega)
    have hR2 := Rw_nr hR2 (i := 56) (k := (Int32.toNatClampNeg 12)) (v := some 274) (by omega)
    refine hs dX0_init_43 (hs dX0_init_44 (And.intro (⟨by omega, by rw [ly_55]⟩) (gr (by rw [hR0.2.2]; rfl) (hs dX0_init_47 (hs dX0_init_48 (And.intro (⟨by omega, ly_291⟩) (nM (M := 292) rfl (hs dX0_init_51 (hs dX0_init_52 (And.intro (trivial) (And.intro (⟨by omega, by rw [ly_291]⟩) (n0 ?_) )))))))))))
    have hB := Bl_ex hB (by omega) (Fr_frac ly_291 tb_291).1 (Fr_frac ly_291 tb_291).2
    have hR0 := Rw_fr hR0 (m := 291) (by omega)
    have hR1 := Rw_fr hR1 (m := 291) (by omega)
    have hR2 := Rw_fr hR2 (m := 291) (by omega)
    refine hs dX0_init_55 (And.intro (⟨by omega, by omega, by rw [ly_291, ly_57]; rfl, by rw [ly_57]; decide, by rw [ly_57]; decide⟩) (And.intro (vin (show (LAY 57).2 = 21 by rw [ly_57]) (by decide)) ?_))
    have hB := Bl_pr hB (j := 57) (k := (Int32.toNatClampNeg 12)) (v := some 291) (by omega) (by omega)
    have hR2 := Rw_pr hR2 (k := (Int32.toNatClampNeg 12)) (v := some 291)
    have hR0 := Rw_nr hR0 (i := 57) (k := (Int32.toNatClampNeg 12)) (v := some 291) (by omega)
    have hR1 := Rw_nr hR1 (i := 57) (k := (Int32.toNatClampNeg 12)) (v := some 291) (by omega)
    refine hs dX0_init_56 (hs dX0_init_59 ?_)
    show P 24 [.ref 55, .int 13] [] _ _ _ _
    refine hs dX0_init_24 (hs dX0_init_25 (hs dX0_init_27 (And.intro (fun c27 => absurd c27 (by decide)) (fun c27 => (hs dX0_init_30 (hs dX0_init_31 (And.intro (⟨by omega, by rw [ly_55]⟩) (gr (by rw [hR0.2.2]; rfl) (hs dX0_init_34 (hs dX0_init_35 (And.intro (⟨by omega, ly_292⟩) (nM (M := 293) rfl (hs dX0_init_38 (hs dX0_init_39 (And.intro (trivial) (And.intro (by show 293 + 16 ≤ 56 + 394; omega) (And.intro (⟨by decide, rfl, Zr_new⟩) (fun lg14 it14 rf14 hF14 hE14 => nM (M := 309) rfl ?_) )))))))))))))))))
    have hB := Bl_ex hB (by omega) hF14 hE14
    have hR0 := Rw_ex hR0 (by omega) hE14
    have hR1 := Rw_ex hR1 (by omega) hE14
    have hR2 := Rw_ex hR2 (by omega) hE14
    refine hs dX0_init_42 (And.intro (⟨by omega, by omega, by rw [ly_292, ly_56]; rfl, by rw [ly_56]; decide, by rw [ly_56]; decide⟩) (And.intro (vin (show (LAY 56).2 = 21 by rw [ly_56]) (by decide)) ?_))
    have hB := Bl_pr hB (j := 56) (k := (Int32.toNatClampNeg 13)) (v := some 292) (by omega) (by omega)
    have hR1 := Rw_pr hR1 (k := (Int32.toNatClampNeg 13)) (v := some 292)
    have hR0 := Rw_nr hR0 (i := 56) (k := (Int32.toNatClampNeg 13)) (v := some 292) (by omega)
    have hR2 := Rw_nr hR2 (i := 56) (k := (Int32.toNatClampNeg 13)) (v := some 292) (by omega)
    refine hs dX0_init_43 (hs dX0_init_44 (And.intro (⟨by omega, by rw [ly_55]⟩) (gr (by rw [hR0.2.2]; rfl) (hs dX0_init_47 (hs dX0_init_48 (And.intro (⟨by omega, ly_309⟩) (nM (M := 310) rfl (hs dX0_init_51 (hs dX0_init_52 (And.intro (trivial) (And.intro (⟨by omega, by rw [ly_309]⟩) (n0 ?_) )))))))))))
    have hB := Bl_ex hB (by omega) (Fr_frac ly_309 tb_309).1 (Fr_frac ly_309 tb_309).2
    have hR0 := Rw_fr hR0 (m := 309) (by omega)
    have hR1 := Rw_fr hR1 (m := 309) (by omega)
    have hR2 := Rw_fr hR2 (m := 309) (by omega)
    refine hs dX0_init_55 (And.intro (⟨by omega, by omega, by rw [ly_309, ly_57]; rfl, by rw [ly_57]; decide, by rw [ly_57]; decide⟩) (And.intro (vin (show (LAY 57).2 = 21 by rw [ly_57]) (by decide)) ?_))
    have hB := Bl_pr hB (j := 57) (k := (Int32.toNatClampNeg 13)) (v := some 309) (by omega) (by omega)
    have hR2 := Rw_pr hR2 (k := (Int32.toNatClampNeg 13)) (v := some 309)
    have hR0 := Rw_nr hR0 (i := 57) (k := (Int32.toNatClampNeg 13)) (v := some 309) (by omega)
    have hR1 := Rw_nr hR1 (i := 57) (k := (Int32.toNatClampNeg 13)) (v := some 309) (by omega)
    refine hs dX0_init_56 (hs dX0_init_59 ?_)
    show P 24 [.ref 55, .int 14] [] _ _ _ _
    refine hs dX0_init_24 (hs dX0_init_25 (hs dX0_init_27 (And.intro (fun c27 => absurd c27 (by decide)) (fun c27 => (hs dX0_init_30 (hs dX0_init_31 (And.intro (⟨by omega, by rw [ly_55]⟩) (gr (by rw [hR0.2.2]; rfl) (hs dX0_init_34 (hs dX0_init_35 (And.intro (⟨by omega, ly_310⟩) (nM (M := 311) rfl (hs dX0_init_38 (hs dX0_init_39 (And.intro (trivial) (And.intro (by show 311 + 16 ≤ 56 + 394; omega) (And.intro (⟨by decide, rfl, Zr_new⟩) (fun lg15 it15 rf15 hF15 hE15 => nM (M := 327) rfl ?_) )))))))))))))))))
    have hB := Bl_ex hB (by omega) hF15 hE15
    have hR0 := Rw_ex hR0 (by omega) hE15
    have hR1 := Rw_ex hR1 (by omega) hE15
    have hR2 := Rw_ex hR2 (by omega) hE15
    refine hs dX0_init_42 (And.intro (⟨by omega, by omega, by rw [ly_310, ly_56]; rfl, by rw [ly_56]; decide, by rw [ly_56]; decide⟩) (And.intro (vin (show (LAY 56).2 = 21 by rw [ly_56]) (by decide)) ?_))
    have hB := Bl_pr hB (j := 56) (k := (Int32.toNatClampNeg 14)) (v := some 310) (by omega) (by omega)
    have hR1 := Rw_pr hR1 (k := (Int32.toNatClampNeg 14)) (v := some 310)
    have hR0 := Rw_nr hR0 (i := 56) (k := (Int32.toNatClampNeg 14)) (v := some 310) (by omega)
    have hR2 := Rw_nr hR2 (i := 56) (k := (Int32.toNatClampNeg 14)) (v := some 310) (by omega)
    refine hs dX0_init_43 (hs dX0_init_44 (And.intro (⟨by omega, by rw [ly_55]⟩) (gr (by rw [hR0.2.2]; rfl) (hs dX0_init_47 (hs dX0_init_48 (And.intro (⟨by omega, ly_327⟩) (nM (M := 328) rfl (hs dX0_init_51 (hs dX0_init_52 (And.intro (trivial) (And.intro (⟨by omega, by rw [ly_327]⟩) (n0 ?_) )))))))))))
    have hB := Bl_ex hB (by omega) (Fr_frac ly_327 tb_327).1 (Fr_frac ly_327 tb_327).2
    have hR0 := Rw_fr hR0 (m := 327) (by omega)
    have hR1 := Rw_fr hR1 (m := 327) (by omega)
    have hR2 := Rw_fr hR2 (m := 327) (by omega)
    refine hs dX0_init_55 (And.intro (⟨by omega, by omega, by rw [ly_327, ly_57]; rfl, by rw [ly_57]; decide, by rw [ly_57]; decide⟩) (And.intro (vin (show (LAY 57).2 = 21 by rw [ly_57]) (by decide)) ?_))
    have hB := Bl_pr hB (j := 57) (k := (Int32.toNatClampNeg 14)) (v := some 327) (by omega) (by omega)
    have hR2 := Rw_pr hR2 (k := (Int32.toNatClampNeg 14)) (v := some 327)
    have hR0 := Rw_nr hR0 (i := 57) (k := (Int32.toNatClampNeg 14)) (v := some 327) (by omega)
    have hR1 := Rw_nr hR1 (i := 57) (k := (Int32.toNatClampNeg 14)) (v := some 327) (by omega)
    refine hs dX0_init_56 (hs dX0_init_59 ?_)
    show P 24 [.ref 55, .int 15] [] _ _ _ _
    refine hs dX0_init_24 (hs dX0_init_25 (hs dX0_init_27 (And.intro (fun c27 => absurd c27 (by decide)) (fun c27 => (hs dX0_init_30 (hs dX0_init_31 (And.intro (⟨by omega, by rw [ly_55]⟩) (gr (by rw [hR0.2.2]; rfl) (hs dX0_init_34 (hs dX0_init_35 (And.intro (⟨by omega, ly_328⟩) (nM (M := 329) rfl (hs dX0_init_38 (hs dX0_init_39 (And.intro (trivial) (And.intro (by show 329 + 16 ≤ 56 + 394; omega) (And.intro (⟨by decide, rfl, Zr_new⟩) (fun lg16 it16 rf16 hF16 hE16 => nM (M := 345) rfl ?_) )))))))))))))))))
    have hB := Bl_ex hB (by omega) hF16 hE16
    have hR0 := Rw_ex hR0 (by omega) hE16
    have hR1 := Rw_ex hR1 (by omega) hE16
    have hR2 := Rw_ex hR2 (by omega) hE16
    refine hs dX0_init_42 (And.intro (⟨by omega, by omega, by rw [ly_328, ly_56]; rfl, by rw [ly_56]; decide, by rw [ly_56]; decide⟩) (And.intro (vin (show (LAY 56).2 = 21 by rw [ly_56]) (by decide)) ?_))
    have hB := Bl_pr hB (j := 56) (k := (Int32.toNatClampNeg 15)) (v := some 328) (by omega) (by omega)
    have hR1 := Rw_pr hR1 (k := (Int32.toNatClampNeg 15)) (v := some 328)
    have hR0 := Rw_nr hR0 (i := 56) (k := (Int32.toNatClampNeg 15)) (v := some 328) (by omega)
    have hR2 := Rw_nr hR2 (i := 56) (k := (Int32.toNatClampNeg 15)) (v := some 328) (by omega)
    refine hs dX0_init_43 (hs dX0_init_44 (And.intro (⟨by omega, by rw [ly_55]⟩) (gr (by rw [hR0.2.2]; rfl) (hs dX0_init_47 (hs dX0_init_48 (And.intro (⟨by omega, ly_345⟩) (nM (M := 346) rfl (hs dX0_init_51 (hs dX0_init_52 (And.intro (trivial) (And.intro (⟨by omega, by rw [ly_345]⟩) (n0 ?_) )))))))))))
    have hB := Bl_ex hB (by omega) (Fr_frac ly_345 tb_345).1 (Fr_frac ly_345 tb_345).2
    have hR0 := Rw_fr hR0 (m := 345) (by omega)
    have hR1 := Rw_fr hR1 (m := 345) (by omega)
    have hR2 := Rw_fr hR2 (m := 345) (by omega)
    refine hs dX0_init_55 (And.intro (⟨by omega, by omega, by rw [ly_345, ly_57]; rfl, by rw [ly_57]; decide, by rw [ly_57]; decide⟩) (And.intro (vin (show (LAY 57).2 = 21 by rw [ly_57]) (by decide)) ?_))
    have hB := Bl_pr hB (j := 57) (k := (Int32.toNatClampNeg 15)) (v := some 345) (by omega) (by omega)
    have hR2 := Rw_pr hR2 (k := (Int32.toNatClampNeg 15)) (v := some 345)
    have hR0 := Rw_nr hR0 (i := 57) (k := (Int32.toNatClampNeg 15)) (v := some 345) (by omega)
    have hR1 := Rw_nr hR1 (i := 57) (k := (Int32.toNatClampNeg 15)) (v := some 345) (by omega)
    refine hs dX0_init_56 (hs dX0_init_59 ?_)
    show P 24 [.ref 55, .int 16] [] _ _ _ _
    refine hs dX0_init_24 (hs dX0_init_25 (hs dX0_init_27 (And.intro (fun c27 => absurd c27 (by decide)) (fun c27 => (hs dX0_init_30 (hs dX0_init_31 (And.intro (⟨by omega, by rw [ly_55]⟩) (gr (by rw [hR0.2.2]; rfl) (hs dX0_init_34 (hs dX0_init_35 (And.intro (⟨by omega, ly_346⟩) (nM (M := 347) rfl (hs dX0_init_38 (hs dX0_init_39 (And.intro (trivial) (And.intro (by show 347 + 16 ≤ 56 + 394; omega) (And.intro (⟨by decide, rfl, Zr_new⟩) (fun lg17 it17 rf17 hF17 hE17 => nM (M := 363) rfl ?_) )))))))))))))))))
    have hB := Bl_ex hB (by omega) hF17 hE17
    have hR0 := Rw_ex hR0 (by omega) hE17
    have hR1 := Rw_ex hR1 (by omega) hE17
    have hR2 := Rw_ex hR2 (by omega) hE17
    refine hs dX0_init_42 (And.intro (⟨by omega, by omega, by rw [ly_346, ly_56]; rfl, by rw [ly_56]; decide, by rw [ly_56]; decide⟩) (And.intro (vin (show (LAY 56).2 = 21 by rw [ly_56]) (by decide)) ?_))
    have hB := Bl_pr hB (j := 56) (k := (Int32.toNatClampNeg 16)) (v := some 346) (by omega) (by omega)
    have hR1 := Rw_pr hR1 (k := (Int32.toNatClampNeg 16)) (v := some 346)
    have hR0 := Rw_nr hR0 (i := 56) (k := (Int32.toNatClampNeg 16)) (v := some 346) (by omega)
    have hR2 := Rw_nr hR2 (i := 56) (k := (Int32.toNatClampNeg 16)) (v := some 346) (by omega)
    refine hs dX0_init_43 (hs dX0_init_44 (And.intro (⟨by omega, by rw [ly_55]⟩) (gr (by rw [hR0.2.2]; rfl) (hs dX0_init_47 (hs dX0_init_48 (And.intro (⟨by omega, ly_363⟩) (nM (M := 364) rfl (hs dX0_init_51 (hs dX0_init_52 (And.intro (trivial) (And.intro (⟨by omega, by rw [ly_363]⟩) (n0 ?_) )))))))))))
    have hB := Bl_ex hB (by omega) (Fr_frac ly_363 tb_363).1 (Fr_frac ly_363 tb_363).2
    have hR0 := Rw_fr hR0 (m := 363) (by omega)
    have hR1 := Rw_fr hR1 (m := 363) (by omega)
    have hR2 := Rw_fr hR2 (m := 363) (by omega)
    refine hs dX0_init_55 (And.intro (⟨by omega, by omega, by rw [ly_363, ly_57]; rfl, by rw [ly_57]; decide, by rw [ly_57]; decide⟩) (And.intro (vin (show (LAY 57).2 = 21 by rw [ly_57]) (by decide)) ?_))
    have hB := Bl_pr hB (j := 57) (k := (Int32.toNatClampNeg 16)) (v := some 363) (by omega) (by omega)
    have hR2 := Rw_pr hR2 (k := (Int32.toNatClampNeg 16)) (v := some 363)
    have hR0 := Rw_nr hR0 (i := 57) (k := (Int32.toNatClampNeg 16)) (v := some 363) (by omega)
    have hR1 := Rw_nr hR1 (i := 57) (k := (Int32.toNatClampNeg 16)) (v := some 363) (by omega)
    refine hs dX0_init_56 (hs dX0_init_59 ?_)
    show P 24 [.ref 55, .int 17] [] _ _ _ _
    refine hs dX0_init_24 (hs dX0_init_25 (hs dX0_init_27 (And.intro (fun c27 => absurd c27 (by decide)) (fun c27 => (hs dX0_init_30 (hs dX0_init_31 (And.intro (⟨by omega, by rw [ly_55]⟩) (gr (by rw [hR0.2.2]; rfl) (hs dX0_init_34 (hs dX0_init_35 (And.intro (⟨by omega, ly_364⟩) (nM (M := 365) rfl (hs dX0_init_38 (hs dX0_init_39 (And.intro (trivial) (And.intro (by show 365 + 16 ≤ 56 + 394; omega) (And.intro (⟨by decide, rfl, Zr_new⟩) (fun lg18 it18 rf18 hF18 hE18 => nM (M := 381) rfl ?_) )))))))))))))))))
    have hB := Bl_ex hB (by omega) hF18 hE18
    have hR0 := Rw_ex hR0 (by omega) hE18
    have hR1 := Rw_ex hR1 (by omega) hE18
    have hR2 := Rw_ex hR2 (by omega) hE18
    refine hs dX0_init_42 (And.intro (⟨by omega, by omega, by rw [ly_364, ly_56]; rfl, by rw [ly_56]; decide, by rw [ly_56]; decide⟩) (And.intro (vin (show (LAY 56).2 = 21 by rw [ly_56]) (by decide)) ?_))
    have hB := Bl_pr hB (j := 56) (k := (Int32.toNatClampNeg 17)) (v := some 364) (by omega) (by omega)
    have hR1 := Rw_pr hR1 (k := (Int32.toNatClampNeg 17)) (v := some 364)
    have hR0 := Rw_nr hR0 (i := 56) (k := (Int32.toNatClampNeg 17)) (v := some 364) (by omega)
    have hR2 := Rw_nr hR2 (i := 56) (k := (Int32.toNatClampNeg 17)) (v := some 364) (by omega)
    refine hs dX0_init_43 (hs dX0_init_44 (And.intro (⟨by omega, by rw [ly_55]⟩) (gr (by rw [hR0.2.2]; rfl) (hs dX0_init_47 (hs dX0_init_48 (And.intro (⟨by omega, ly_381⟩) (nM (M := 382) rfl (hs dX0_init_51 (hs dX0_init_52 (And.intro (trivial) (And.intro (⟨by omega, by rw [ly_381]⟩) (n0 ?_) )))))))))))
    have hB := Bl_ex hB (by omega) (Fr_frac ly_381 tb_381).1 (Fr_frac ly_381 tb_381).2
    have hR0 := Rw_fr hR0 (m := 381) (by omega)
    have hR1 := Rw_fr hR1 (m := 381) (by omega)
    have hR2 := Rw_fr hR2 (m := 381) (by omega)
    refine hs dX0_init_55 (And.intro (⟨by omega, by omega, by rw [ly_381, ly_57]; rfl, by rw [ly_57]; decide, by rw [ly_57]; decide⟩) (And.intro (vin (show (LAY 57).2 = 21 by rw [ly_57]) (by decide)) ?_))
    have hB := Bl_pr hB (j := 57) (k := (Int32.toNatClampNeg 17)) (v := some 381) (by omega) (by omega)
    have hR2 := Rw_pr hR2 (k := (Int32.toNatClampNeg 17)) (v := some 381)
    have hR0 := Rw_nr hR0 (i := 57) (k := (Int32.toNatClampNeg 17)) (v := some 381) (by omega)
    have hR1 := Rw_nr hR1 (i := 57) (k := (Int32.toNatClampNeg 17)) (v := some 381) (by omega)
    refine hs dX0_init_56 (hs dX0_init_59 ?_)
    show P 24 [.ref 55, .int 18] [] _ _ _ _
    refine hs dX0_init_24 (hs dX0_init_25 (hs dX0_init_27 (And.intro (fun c27 => absurd c27 (by decide)) (fun c27 => (hs dX0_init_30 (hs dX0_init_31 (And.intro (⟨by omega, by rw [ly_55]⟩) (gr (by rw [hR0.2.2]; rfl) (hs dX0_init_34 (hs dX0_init_35 (And.intro (⟨by omega, ly_382⟩) (nM (M := 383) rfl (hs dX0_init_38 (hs dX0_init_39 (And.intro (trivial) (And.intro (by show 383 + 16 ≤ 56 + 394; omega) (And.intro (⟨by decide, rfl, Zr_new⟩) (fun lg19 it19 rf19 hF19 hE19 => nM (M := 399) rfl ?_) )))))))))))))))))
    have hB := Bl_ex hB (by omega) hF19 hE19
    have hR0 := Rw_ex hR0 (by omega) hE19
    have hR1 := Rw_ex hR1 (by omega) hE19
    have hR2 := Rw_ex hR2 (by omega) hE19
    refine hs dX0_init_42 (And.intro (⟨by omega, by omega, by rw [ly_382, ly_56]; rfl, by rw [ly_56]; decide, by rw [ly_56]; decide⟩) (And.intro (vin (show (LAY 56).2 = 21 by rw [ly_56]) (by decide)) ?_))
    have hB := Bl_pr hB (j := 56) (k := (Int32.toNatClampNeg 18)) (v := some 382) (by omega) (by omega)
    have hR1 := Rw_pr hR1 (k := (Int32.toNatClampNeg 18)) (v := some 382)
    have hR0 := Rw_nr hR0 (i := 56) (k := (Int32.toNatClampNeg 18)) (v := some 382) (by omega)
    have hR2 := Rw_nr hR2 (i := 56) (k := (Int32.toNatClampNeg 18)) (v := some 382) (by omega)
    refine hs dX0_init_43 (hs dX0_init_44 (And.intro (⟨by omega, by rw [ly_55]⟩) (gr (by rw [hR0.2.2]; rfl) (hs dX0_init_47 (hs dX0_init_48 (And.intro (⟨by omega, ly_399⟩) (nM (M := 400) rfl (hs dX0_init_51 (hs dX0_init_52 (And.intro (trivial) (And.intro (⟨by omega, by rw [ly_399]⟩) (n0 ?_) )))))))))))
    have hB := Bl_ex hB (by omega) (Fr_frac ly_399 tb_399).1 (Fr_frac ly_399 tb_399).2
    have hR0 := Rw_fr hR0 (m := 399) (by omega)
    have hR1 := Rw_fr hR1 (m := 399) (by omega)
    have hR2 := Rw_fr hR2 (m := 399) (by omega)
    refine hs dX0_init_55 (And.intro (⟨by omega, by omega, by rw [ly_399, ly_57]; rfl, by rw [ly_57]; decide, by rw [ly_57]; decide⟩) (And.intro (vin (show (LAY 57).2 = 21 by rw [ly_57]) (by decide)) ?_))
    have hB := Bl_pr hB (j := 57) (k := (Int32.toNatClampNeg 18)) (v := some 399) (by omega) (by omega)
    have hR2 := Rw_pr hR2 (k := (Int32.toNatClampNeg 18)) (v := some 399)
    have hR0 := Rw_nr hR0 (i := 57) (k := (Int32.toNatClampNeg 18)) (v := some 399) (by omega)
    have hR1 := Rw_nr hR1 (i := 57) (k := (Int32.toNatClampNeg 18)) (v := some 399) (by omega)
    refine hs dX0_init_56 (hs dX0_init_59 ?_)
    show P 24 [.ref 55, .int 19] [] _ _ _ _
    refine hs dX0_init_24 (hs dX0_init_25 (hs dX0_init_27 (And.intro (fun c27 => absurd c27 (by decide)) (fun c27 => (hs dX0_init_30 (hs dX0_init_31 (And.intro (⟨by omega, by rw [ly_55]⟩) (gr (by rw [hR0.2.2]; rfl) (hs dX0_init_34 (hs dX0_init_35 (And.intro (⟨by omega, ly_400⟩) (nM (M := 401) rfl (hs dX0_init_38 (hs dX0_init_39 (And.intro (trivial) (And.intro (by show 401 + 16 ≤ 56 + 394; omega) (And.intro (⟨by decide, rfl, Zr_new⟩) (fun lg20 it20 rf20 hF20 hE20 => nM (M := 417) rfl ?_) )))))))))))))))))
    have hB := Bl_ex hB (by omega) hF20 hE20
    have hR0 := Rw_ex hR0 (by omega) hE20
    have hR1 := Rw_ex hR1 (by omega) hE20
    have hR2 := Rw_ex hR2 (by omega) hE20
    refine hs dX0_init_42 (And.intro (⟨by omega, by omega, by rw [ly_400, ly_56]; rfl, by rw [ly_56]; decide, by rw [ly_56]; decide⟩) (And.intro (vin (show (LAY 56).2 = 21 by rw [ly_56]) (by decide)) ?_))
    have hB := Bl_pr hB (j := 56) (k := (Int32.toNatClampNeg 19)) (v := some 400) (by omega) (by omega)
    have hR1 := Rw_pr hR1 (k := (Int32.toNatClampNeg 19)) (v := some 400)
    have hR0 := Rw_nr hR0 (i := 56) (k := (Int32.toNatClampNeg 19)) (v := some 400) (by omega)
    have hR2 := Rw_nr hR2 (i := 56) (k := (Int32.toNatClampNeg 19)) (v := some 400) (by omega)
    refine hs dX0_init_43 (hs dX0_init_44 (And.intro (⟨by omega, by rw [ly_55]⟩) (gr (by rw [hR0.2.2]; rfl) (hs dX0_init_47 (hs dX0_init_48 (And.intro (⟨by omega, ly_417⟩) (nM (M := 418) rfl (hs dX0_init_51 (hs dX0_init_52 (And.intro (trivial) (And.intro (⟨by omega, by rw [ly_417]⟩) (n0 ?_) )))))))))))
    have hB := Bl_ex hB (by omega) (Fr_frac ly_417 tb_417).1 (Fr_frac ly_417 tb_417).2
    have hR0 := Rw_fr hR0 (m := 417) (by omega)
    have hR1 := Rw_fr hR1 (m := 417) (by omega)
    have hR2 := Rw_fr hR2 (m := 417) (by omega)
    refine hs dX0_init_55 (And.intro (⟨by omega, by omega, by rw [ly_417, ly_57]; rfl, by rw [ly_57]; decide, by rw [ly_57]; decide⟩) (And.intro (vin (show (LAY 57).2 = 21 by rw [ly_57]) (by decide)) ?_))
    have hB := Bl_pr hB (j := 57) (k := (Int32.toNatClampNeg 19)) (v := some 417) (by omega) (by omega)
    have hR2 := Rw_pr hR2 (k := (Int32.toNatClampNeg 19)) (v := some 417)
    have hR0 := Rw_nr hR0 (i := 57) (k := (Int32.toNatClampNeg 19)) (v := some 417) (by omega)
    have hR1 := Rw_nr hR1 (i := 57) (k := (Int32.toNatClampNeg 19)) (v := some 417) (by omega)
    refine hs dX0_init_56 (hs dX0_init_59 ?_)
    show P 24 [.ref 55, .int 20] [] _ _ _ _
    refine hs dX0_init_24 (hs dX0_init_25 (hs dX0_init_27 (And.intro (fun c27 => absurd c27 (by decide)) (fun c27 => (hs dX0_init_30 (hs dX0_init_31 (And.intro (⟨by omega, by rw [ly_55]⟩) (gr (by rw [hR0.2.2]; rfl) (hs dX0_init_34 (hs dX0_init_35 (And.intro (⟨by omega, ly_418⟩) (nM (M := 419) rfl (hs dX0_init_38 (hs dX0_init_39 (And.intro (trivial) (And.intro (by show 419 + 16 ≤ 56 + 394; omega) (And.intro (⟨by decide, rfl, Zr_new⟩) (fun lg21 it21 rf21 hF21 hE21 => nM (M := 435) rfl ?_) )))))))))))))))))
    have hB := Bl_ex hB (by omega) hF21 hE21
    have hR0 := Rw_ex hR0 (by omega) hE21
    have hR1 := Rw_ex hR1 (by omega) hE21
    have hR2 := Rw_ex hR2 (by omega) hE21
    refine hs dX0_init_42 (And.intro (⟨by omega, by omega, by rw [ly_418, ly_56]; rfl, by rw [ly_56]; decide, by rw [ly_56]; decide⟩) (And.intro (vin (show (LAY 56).2 = 21 by rw [ly_56]) (by decide)) ?_))
    have hB := Bl_pr hB (j := 56) (k := (Int32.toNatClampNeg 20)) (v := some 418) (by omega) (by omega)
    have hR1 := Rw_pr hR1 (k := (Int32.toNatClampNeg 20)) (v := some 418)
    have hR0 := Rw_nr hR0 (i := 56) (k := (Int32.toNatClampNeg 20)) (v := some 418) (by omega)
    have hR2 := Rw_nr hR2 (i := 56) (k := (Int32.toNatClampNeg 20)) (v := some 418) (by omega)
    refine hs dX0_init_43 (hs dX0_init_44 (And.intro (⟨by omega, by rw [ly_55]⟩) (gr (by rw [hR0.2.2]; rfl) (hs dX0_init_47 (hs dX0_init_48 (And.intro (⟨by omega, ly_435⟩) (nM (M := 436) rfl (hs dX0_init_51 (hs dX0_init_52 (And.intro (trivial) (And.intro (⟨by omega, by rw [ly_435]⟩) (n0 ?_) )))))))))))
    have hB := Bl_ex hB (by omega) (Fr_frac ly_435 tb_435).1 (Fr_frac ly_435 tb_435).2
    have hR0 := Rw_fr hR0 (m := 435) (by omega)
    have hR1 := Rw_fr hR1 (m := 435) (by omega)
    have hR2 := Rw_fr hR2 (m := 435) (by omega)
    refine hs dX0_init_55 (And.intro (⟨by omega, by omega, by rw [ly_435, ly_57]; rfl, by rw [ly_57]; decide, by rw [ly_57]; decide⟩) (And.intro (vin (show (LAY 57).2 = 21 by rw [ly_57]) (by decide)) ?_))
    have hB := Bl_pr hB (j := 57) (k := (Int32.toNatClampNeg 20)) (v := some 435) (by omega) (by omega)
    have hR2 := Rw_pr hR2 (k := (Int32.toNatClampNeg 20)) (v := some 435)
    have hR0 := Rw_nr hR0 (i := 57) (k := (Int32.toNatClampNeg 20)) (v := some 435) (by omega)
    have hR1 := Rw_nr hR1 (i := 57) (k := (Int32.toNatClampNeg 20)) (v := some 435) (by omega)
    refine hs dX0_init_56 (hs dX0_init_59 ?_)
    show P 24 [.ref 55, .int 21] [] _ _ _ _
    refine hs dX0_init_24 (hs dX0_init_25 (hs dX0_init_27 (And.intro (fun c27 => ?_) (fun c27 => absurd (by decide) c27))))
    refine hs dX0_init_62 (hs dX0_init_63 (hs dX0_init_65 (And.intro (⟨by omega, by decide, ly_436⟩) (nM (M := 437) rfl ?_))))
    have hB := Bl_ex hB (by omega) (Fr_zero (lg0_row ly_436 (by decide)) (by rw [it0_row ly_436]; funext k; simp [itk]) (rf0_row tb_436)) Ex_rf
    have hR0 := Rw_zr hR0 (m := 436) (by omega)
    have hR1 := Rw_zr hR1 (m := 436) (by omega)
    have hR2 := Rw_zr hR2 (m := 436) (by omega)
    refine hs dX0_init_67 (And.intro (⟨by omega, by rw [ly_55]⟩) ?_)
    have hB := Bl_pr hB (j := 55) (k := 2) (v := some 436) (by omega) (by omega)
    have hR0 := Rw_pr hR0 (k := 2) (v := some 436)
    have hR1 := Rw_nr hR1 (i := 55) (k := 2) (v := some 436) (by omega)
    have hR2 := Rw_nr hR2 (i := 55) (k := 2) (v := some 436) (by omega)
    refine hs dX0_init_70 (hs dX0_init_71 (hs dX0_init_72 (And.intro (⟨by omega, by rw [ly_55]⟩) ?_)))
    have hB := Bl_pi hB (j := 55) (k := 3) (v := Int32.ofInt 0) (by omega) (by omega)
    have hR0 := Rw_pi hR0 (k := 3) (v := Int32.ofInt 0)
    have hR1 := Rw_ni hR1 (i := 55) (k := 3) (v := Int32.ofInt 0) (by omega)
    have hR2 := Rw_ni hR2 (i := 55) (k := 3) (v := Int32.ofInt 0) (by omega)
    refine hs dX0_init_75 (hs dX0_init_76 (hs dX0_init_77 (And.intro (⟨by omega, by rw [ly_55]⟩) ?_)))
    have hB := Bl_pi hB (j := 55) (k := 4) (v := Int32.ofInt 0) (by omega) (by omega)
    have hR0 := Rw_pi hR0 (k := 4) (v := Int32.ofInt 0)
    have hR1 := Rw_ni hR1 (i := 55) (k := 4) (v := Int32.ofInt 0) (by omega)
    have hR2 := Rw_ni hR2 (i := 55) (k := 4) (v := Int32.ofInt 0) (by omega)
    refine hs dX0_init_80 (hs dX0_init_81 (hs dX0_init_82 (And.intro (⟨by omega, by rw [ly_55]⟩) ?_)))
    have hB := Bl_pi hB (j := 55) (k := 5) (v := Int32.ofInt (-1)) (by omega) (by omega)
    have hR0 := Rw_pi hR0 (k := 5) (v := Int32.ofInt (-1))
    have hR1 := Rw_ni hR1 (i := 55) (k := 5) (v := Int32.ofInt (-1)) (by omega)
    have hR2 := Rw_ni hR2 (i := 55) (k := 5) (v := Int32.ofInt (-1)) (by omega)
    refine hs dX0_init_85 (hs dX0_init_86 (And.intro (⟨by omega, ly_437⟩) (nM (M := 438) rfl (hs dX0_init_89 (hs dX0_init_90 (And.intro (trivial) (And.intro (by show 438 + 12 ≤ 56 + 394; omega) (And.intro (⟨rfl, Zr_new⟩) (fun lg22 it22 rf22 hF22 hE22 => nM (M := 450) rfl ?_) ))))))))
    have hB := Bl_ex hB (by omega) hF22 hE22
    have hR0 := Rw_ex hR0 (by omega) hE22
    have hR1 := Rw_ex hR1 (by omega) hE22
    have hR2 := Rw_ex hR2 (by omega) hE22
    refine hs dX0_init_93 (And.intro (⟨by omega, by rw [ly_55]⟩) ?_)
    have hB := Bl_pr hB (j := 55) (k := 6) (v := some 437) (by omega) (by omega)
    have hR0 := Rw_pr hR0 (k := 6) (v := some 437)
    have hR1 := Rw_nr hR1 (i := 55) (k := 6) (v := some 437) (by omega)
    have hR2 := Rw_nr hR2 (i := 55) (k := 6) (v := some 437) (by omega)
    refine hs dX0_init_96 (And.intro (rfl) (And.intro rfl ?_))
    refine (fun z => hk _ _ _ z.1 z.2) (Bl_end hB (fun j h1 h2 h3 => ?_))
    · rcases (show j = 55 ∨ j = 56 ∨ j = 57 by omega) with rfl | rfl | rfl
      · exact ⟨hR0.1.trans (lg0_row ly_55 (by decide)).symm, hR0.2.1.trans (Eq.symm (by rw [it0_row ly_55]; funext k; simp [va_up, itk, ki_0, ki_m1] <;> intros <;> omega)), hR0.2.2.trans (rowf tb_55 (by decide +kernel) (by intro k hk; replace hk : 7 ≤ k := hk; obtain ⟨k2, rfl⟩ := Nat.exists_eq_add_of_le' hk; simp [va_up, tn_0, tn_1, tn_2, tn_3, tn_4, tn_5, tn_6, tn_7, tn_8, tn_9, tn_10, tn_11, tn_12, tn_13, tn_14, tn_15, tn_16, tn_17, tn_18, tn_19, tn_20, tn_21])).symm⟩
      · exact ⟨hR1.1.trans (lg0_row ly_56 (by decide)).symm, hR1.2.1.trans (Eq.symm (by rw [it0_row ly_56]; funext k; simp [itk])), hR1.2.2.trans (rowf tb_56 (by decide +kernel) (by intro k hk; replace hk : 21 ≤ k := hk; obtain ⟨k2, rfl⟩ := Nat.exists_eq_add_of_le' hk; simp [va_up, tn_0, tn_1, tn_2, tn_3, tn_4, tn_5, tn_6, tn_7, tn_8, tn_9, tn_10, tn_11, tn_12, tn_13, tn_14, tn_15, tn_16, tn_17, tn_18, tn_19, tn_20, tn_21])).symm⟩
      · exact ⟨hR2.1.trans (lg0_row ly_57 (by decide)).symm, hR2.2.1.trans (Eq.symm (by rw [it0_row ly_57]; funext k; simp [itk])), hR2.2.2.trans (rowf tb_57 (by decide +kernel) (by intro k hk; replace hk : 21 ≤ k := hk; obtain ⟨k2, rfl⟩ := Nat.exists_eq_add_of_le' hk; simp [va_up, tn_0, tn_1, tn_2, tn_3, tn_4, tn_5, tn_6, tn_7, tn_8, tn_9, tn_10, tn_11, tn_12, tn_13, tn_14, tn_15, tn_16, tn_17, tn_18, tn_19, tn_20, tn_21])).symm⟩
  · exact h.elim
theorem sh_X0_init (as : List Value) (N : Nat) (lg : LGt) (it : ITt) (rf : RFt) (Q : Post) (h : sp_X0_init as N lg it rf Q) : ∃ j t, as = .ref j :: t := by
  unfold sp_X0_init at h
  split at h
  · exact ⟨_, _, rfl⟩
  · exact h.elim
theorem ct_X0_init {E : Ev} {l : Launch} : CT E l yX0_init (wsY yX0_init cX0_init 2 none) rm_X0_init 394 sp_X0_init := ct_of (T := T_X0_init) (own := RX0) (by decide) rfl (fun ci _ hc => by have h2 : (0 : Nat) = ci := Nat.eq_of_beq_eq_true hc; subst h2; exact ⟨rfl, rfl⟩) ⟨rfl, rfl⟩ ⟨fok_X0, clok_X0, jok_X0, List.forall_mem_cons.mpr ⟨cok_obj ml_X0_3 o_obj.1 o_obj.2 (by decide), List.forall_mem_cons.mpr ⟨cok_I ct_X3_init sh_X3_init rfl ((cl_ins (c := 3) (by decide)).2) ml_X0_23 im_X3_init co_X3_init mo_X3_init (by decide), List.forall_mem_cons.mpr ⟨cok_I ct_X1_init sh_X1_init rfl ((cl_ins (c := 1) (by decide)).2) ml_X0_24 im_X1_init co_X1_init mo_X1_init (by decide), List.forall_mem_cons.mpr ⟨cok_I ct_X5_init sh_X5_init rfl ((cl_ins (c := 5) (by decide)).2) ml_X0_41 im_X5_init co_X5_init mo_X5_init (by decide), fun _ h => absurd h List.not_mem_nil⟩⟩⟩⟩⟩ bd_X0_init
def sp_X8_init : Spc := fun as N lg it rf K => match as with | [.ref 0] => ((N = 1 ∧ Zr 0 lg it rf) ∧ ∀ lg' it' rf', Fr 0 489 lg' it' rf' → Ex 0 lg lg' it it' rf rf' → K none lg' it' rf') | _ => False
def T_X8_init : Tab := (FL_X8, CL_X8, JL_X8, [(3, 2, 1, 0, 0, sp_obj), (11, 2, 1, 0, 26, sp_X4_init), (27, 2, 1, 0, 394, sp_X0_init), (34, 2, 1, 0, 16, sp_X3_init), (41, 2, 1, 0, 5, sp_X7_init), (52, 2, 1, 0, 1, sp_X6_init), (55, 2, 1, 0, 0, sp_X1_init)], 8, none)
def rm_X8_init : Room := { frames := 4, cells := 488, slots := 195200, locals := 82 }
set_option maxRecDepth 100000 in
theorem bd_X8_init (as : List Value) (N : Nat) (lg : LGt) (it : ITt) (rf : RFt) (Q : Post) (h : sp_X8_init as N lg it rf Q) : Bd T_X8_init cX8_init 2 488 as N lg it rf Q := by
  unfold sp_X8_init at h
  split at h
  · refine ⟨Nat.le_of_ble_eq_true rfl, fun P hs hw hf => ?_⟩
    obtain ⟨⟨rfl, hz⟩, hk⟩ := h
    have hB := Bl_0 (op := fun j => j = 0 ∨ j = 473) (lo := 0) (lg := lg) (it := it) (rf := rf) (by omega)
    have hR0 : Rw 0 lg it rf _ _ _ := hz
    refine hs dX8_init_0 (hs dX8_init_1 (And.intro (trivial) (n0 (hs dX8_init_4 (hs dX8_init_5 (And.intro (⟨by omega, ly_1⟩) (nM (M := 2) rfl (hs dX8_init_8 (hs dX8_init_9 (And.intro (trivial) (And.intro (by show 2 + 26 ≤ 1 + 488; omega) (Or.inl (And.intro (⟨rfl, Zr_new⟩) (fun lg1 it1 rf1 hF1 hE1 => nM (M := 28) rfl ?_) )))))))))))))
    have hB := Bl_ex hB (by omega) hF1 hE1
    have hR0 := Rw_ex hR0 (by omega) hE1
    refine hs dX8_init_12 (And.intro (⟨by omega, by rw [ly_0]⟩) ?_)
    have hB := Bl_pr hB (j := 0) (k := 0) (v := some 1) (by omega) (by omega)
    have hR0 := Rw_pr hR0 (k := 0) (v := some 1)
    refine hs dX8_init_15 (hs dX8_init_16 (And.intro (⟨by omega, ly_28⟩) (nM (M := 29) rfl (hs dX8_init_19 (hs dX8_init_20 (And.intro (trivial) (And.intro (by show 29 + 26 ≤ 1 + 488; omega) (Or.inr (And.intro (⟨rfl, Zr_new⟩) (fun lg2 it2 rf2 hF2 hE2 => nM (M := 55) rfl ?_) )))))))))
    have hB := Bl_ex hB (by omega) hF2 hE2
    have hR0 := Rw_ex hR0 (by omega) hE2
    refine hs dX8_init_23 (And.intro (⟨by omega, by rw [ly_0]⟩) ?_)
    have hB := Bl_pr hB (j := 0) (k := 1) (v := some 28) (by omega) (by omega)
    have hR0 := Rw_pr hR0 (k := 1) (v := some 28)
    refine hs dX8_init_26 (hs dX8_init_27 (hs dX8_init_28 (And.intro (⟨by omega, by rw [ly_0]⟩) (And.intro (rfl) ?_))))
    have hB := Bl_pi hB (j := 0) (k := 2) (v := Int32.ofInt 0) (by omega) (by omega)
    have hR0 := Rw_pi hR0 (k := 2) (v := Int32.ofInt 0)
    refine hs dX8_init_31 (hs dX8_init_32 (And.intro (⟨by omega, ly_55⟩) (nM (M := 56) rfl (hs dX8_init_35 (hs dX8_init_36 (And.intro (trivial) (And.intro (by show 56 + 394 ≤ 1 + 488; omega) (And.intro (⟨rfl, Zr_new⟩) (fun lg3 it3 rf3 hF3 hE3 => nM (M := 450) rfl ?_) ))))))))
    have hB := Bl_ex hB (by omega) hF3 hE3
    have hR0 := Rw_ex hR0 (by omega) hE3
    refine hs dX8_init_39 (And.intro (⟨by omega, by rw [ly_0]⟩) ?_)
    have hB := Bl_pr hB (j := 0) (k := 3) (v := some 55) (by omega) (by omega)
    have hR0 := Rw_pr hR0 (k := 3) (v := some 55)
    refine hs dX8_init_42 (hs dX8_init_43 (And.intro (⟨by omega, ly_450⟩) (nM (M := 451) rfl (hs dX8_init_46 (hs dX8_init_47 (And.intro (trivial) (And.intro (by show 451 + 16 ≤ 1 + 488; omega) (And.intro (⟨by decide, rfl, Zr_new⟩) (fun lg4 it4 rf4 hF4 hE4 => nM (M := 467) rfl ?_) ))))))))
    have hB := Bl_ex hB (by omega) hF4 hE4
    have hR0 := Rw_ex hR0 (by omega) hE4
    refine hs dX8_init_50 (And.intro (⟨by omega, by rw [ly_0]⟩) ?_)
    have hB := Bl_pr hB (j := 0) (k := 4) (v := some 450) (by omega) (by omega)
    have hR0 := Rw_pr hR0 (k := 4) (v := some 450)
    refine hs dX8_init_53 (hs dX8_init_54 (And.intro (⟨by omega, ly_467⟩) (nM (M := 468) rfl (hs dX8_init_57 (hs dX8_init_58 (And.intro (trivial) (And.intro (by show 468 + 5 ≤ 1 + 488; omega) (And.intro (⟨rfl, Zr_new⟩) (fun lg5 it5 rf5 hF5 hE5 => nM (M := 473) rfl ?_) ))))))))
    have hB := Bl_ex hB (by omega) hF5 hE5
    have hR0 := Rw_ex hR0 (by omega) hE5
    refine hs dX8_init_61 (And.intro (⟨by omega, by rw [ly_0]⟩) ?_)
    have hB := Bl_pr hB (j := 0) (k := 5) (v := some 467) (by omega) (by omega)
    have hR0 := Rw_pr hR0 (k := 5) (v := some 467)
    refine hs dX8_init_64 (hs dX8_init_65 (hs dX8_init_67 (And.intro (⟨by omega, by decide, ly_473⟩) (nM (M := 474) rfl ?_))))
    have hB := Bl_opn hB (by omega) (by omega)
    have hR0 := Rw_zr hR0 (m := 473) (by omega)
    have hR473 := Rw_of hB (Rw_new (m := 473))
    refine hs dX8_init_70 (And.intro (⟨by omega, by rw [ly_0]⟩) ?_)
    have hB := Bl_pr hB (j := 0) (k := 6) (v := some 473) (by omega) (by omega)
    have hR0 := Rw_pr hR0 (k := 6) (v := some 473)
    have hR473 := Rw_nr hR473 (i := 0) (k := 6) (v := some 473) (by omega)
    refine hs dX8_init_73 (hs dX8_init_74 ?_)
    show P 75 [.ref 0, .int 0] [] _ _ _ _
    refine hs dX8_init_75 (hs dX8_init_76 (hs dX8_init_78 (And.intro (fun c78 => absurd c78 (by decide)) (fun c78 => (hs dX8_init_81 (hs dX8_init_82 (And.intro (⟨by omega, by rw [ly_0]⟩) (gr (by rw [hR0.2.2]; rfl) (hs dX8_init_85 (hs dX8_init_86 (And.intro (⟨by omega, ly_474⟩) (nM (M := 475) rfl (hs dX8_init_89 (hs dX8_init_90 (And.intro (trivial) (And.intro (by show 475 + 1 ≤ 1 + 488; omega) (Or.inl (And.intro (⟨rfl, Zr_new⟩) (fun lg6 it6 rf6 hF6 hE6 => nM (M := 476) rfl ?_) ))))))))))))))))))
    have hB := Bl_ex hB (by omega) hF6 hE6
    have hR0 := Rw_ex hR0 (by omega) hE6
    have hR473 := Rw_ex hR473 (by omega) hE6
    refine hs dX8_init_93 (And.intro (⟨by omega, by omega, by rw [ly_474, ly_473]; rfl, by rw [ly_473]; decide, by rw [ly_473]; decide⟩) (And.intro (vin (show (LAY 473).2 = 6 by rw [ly_473]) (by decide)) ?_))
    have hB := Bl_pr hB (j := 473) (k := (Int32.toNatClampNeg 0)) (v := some 474) (by omega) (by omega)
    have hR473 := Rw_pr hR473 (k := (Int32.toNatClampNeg 0)) (v := some 474)
    have hR0 := Rw_nr hR0 (i := 473) (k := (Int32.toNatClampNeg 0)) (v := some 474) (by omega)
    refine hs dX8_init_94 (hs dX8_init_97 ?_)
    show P 75 [.ref 0, .int 1] [] _ _ _ _
    refine hs dX8_init_75 (hs dX8_init_76 (hs dX8_init_78 (And.intro (fun c78 => absurd c78 (by decide)) (fun c78 => (hs dX8_init_81 (hs dX8_init_82 (And.intro (⟨by omega, by rw [ly_0]⟩) (gr (by rw [hR0.2.2]; rfl) (hs dX8_init_85 (hs dX8_init_86 (And.intro (⟨by omega, ly_476⟩) (nM (M := 477) rfl (hs dX8_init_89 (hs dX8_init_90 (And.intro (trivial) (And.intro (by show 477 + 1 ≤ 1 + 488; omega) (Or.inr (Or.inl (And.intro (⟨rfl, Zr_new⟩) (fun lg7 it7 rf7 hF7 hE7 => nM (M := 478) rfl ?_) )))))))))))))))))))
    have hB := Bl_ex hB (by omega) hF7 hE7
    have hR0 := Rw_ex hR0 (by omega) hE7
    have hR473 := Rw_ex hR473 (by omega) hE7
    refine hs dX8_init_93 (And.intro (⟨by omega, by omega, by rw [ly_476, ly_473]; rfl, by rw [ly_473]; decide, by rw [ly_473]; decide⟩) (And.intro (vin (show (LAY 473).2 = 6 by rw [ly_473]) (by decide)) ?_))
    have hB := Bl_pr hB (j := 473) (k := (Int32.toNatClampNeg 1)) (v := some 476) (by omega) (by omega)
    have hR473 := Rw_pr hR473 (k := (Int32.toNatClampNeg 1)) (v := some 476)
    have hR0 := Rw_nr hR0 (i := 473) (k := (Int32.toNatClampNeg 1)) (v := some 476) (by omega)
    refine hs dX8_init_94 (hs dX8_init_97 ?_)
    show P 75 [.ref 0, .int 2] [] _ _ _ _
    refine hs dX8_init_75 (hs dX8_init_76 (hs dX8_init_78 (And.intro (fun c78 => absurd c78 (by decide)) (fun c78 => (hs dX8_init_81 (hs dX8_init_82 (And.intro (⟨by omega, by rw [ly_0]⟩) (gr (by rw [hR0.2.2]; rfl) (hs dX8_init_85 (hs dX8_init_86 (And.intro (⟨by omega, ly_478⟩) (nM (M := 479) rfl (hs dX8_init_89 (hs dX8_init_90 (And.intro (trivial) (And.intro (by show 479 + 1 ≤ 1 + 488; omega) (Or.inr (Or.inr (Or.inl (And.intro (⟨rfl, Zr_new⟩) (fun lg8 it8 rf8 hF8 hE8 => nM (M := 480) rfl ?_) ))))))))))))))))))))
    have hB := Bl_ex hB (by omega) hF8 hE8
    have hR0 := Rw_ex hR0 (by omega) hE8
    have hR473 := Rw_ex hR473 (by omega) hE8
    refine hs dX8_init_93 (And.intro (⟨by omega, by omega, by rw [ly_478, ly_473]; rfl, by rw [ly_473]; decide, by rw [ly_473]; decide⟩) (And.intro (vin (show (LAY 473).2 = 6 by rw [ly_473]) (by decide)) ?_))
    have hB := Bl_pr hB (j := 473) (k := (Int32.toNatClampNeg 2)) (v := some 478) (by omega) (by omega)
    have hR473 := Rw_pr hR473 (k := (Int32.toNatClampNeg 2)) (v := some 478)
    have hR0 := Rw_nr hR0 (i := 473) (k := (Int32.toNatClampNeg 2)) (v := some 478) (by omega)
    refine hs dX8_init_94 (hs dX8_init_97 ?_)
    show P 75 [.ref 0, .int 3] [] _ _ _ _
    refine hs dX8_init_75 (hs dX8_init_76 (hs dX8_init_78 (And.intro (fun c78 => absurd c78 (by decide)) (fun c78 => (hs dX8_init_81 (hs dX8_init_82 (And.intro (⟨by omega, by rw [ly_0]⟩) (gr (by rw [hR0.2.2]; rfl) (hs dX8_init_85 (hs dX8_init_86 (And.intro (⟨by omega, ly_480⟩) (nM (M := 481) rfl (hs dX8_init_89 (hs dX8_init_90 (And.intro (trivial) (And.intro (by show 481 + 1 ≤ 1 + 488; omega) (Or.inr (Or.inr (Or.inr (Or.inl (And.intro (⟨rfl, Zr_new⟩) (fun lg9 it9 rf9 hF9 hE9 => nM (M := 482) rfl ?_) )))))))))))))))))))))
    have hB := Bl_ex hB (by omega) hF9 hE9
    have hR0 := Rw_ex hR0 (by omega) hE9
    have hR473 := Rw_ex hR473 (by omega) hE9
    refine hs dX8_init_93 (And.intro (⟨by omega, by omega, by rw [ly_480, ly_473]; rfl, by rw [ly_473]; decide, by rw [ly_473]; decide⟩) (And.intro (vin (show (LAY 473).2 = 6 by rw [ly_473]) (by decide)) ?_))
    have hB := Bl_pr hB (j := 473) (k := (Int32.toNatClampNeg 3)) (v := some 480) (by omega) (by omega)
    have hR473 := Rw_pr hR473 (k := (Int32.toNatClampNeg 3)) (v := some 480)
    have hR0 := Rw_nr hR0 (i := 473) (k := (Int32.toNatClampNeg 3)) (v := some 480) (by omega)
    refine hs dX8_init_94 (hs dX8_init_97 ?_)
    show P 75 [.ref 0, .int 4] [] _ _ _ _
    refine hs dX8_init_75 (hs dX8_init_76 (hs dX8_init_78 (And.intro (fun c78 => absurd c78 (by decide)) (fun c78 => (hs dX8_init_81 (hs dX8_init_82 (And.intro (⟨by omega, by rw [ly_0]⟩) (gr (by rw [hR0.2.2]; rfl) (hs dX8_init_85 (hs dX8_init_86 (And.intro (⟨by omega, ly_482⟩) (nM (M := 483) rfl (hs dX8_init_89 (hs dX8_init_90 (And.intro (trivial) (And.intro (by show 483 + 1 ≤ 1 + 488; omega) (Or.inr (Or.inr (Or.inr (Or.inr (Or.inl (And.intro (⟨rfl, Zr_new⟩) (fun lg10 it10 rf10 hF10 hE10 => nM (M := 484) rfl ?_) ))))))))))))))))))))))
    have hB := Bl_ex hB (by omega) hF10 hE10
    have hR0 := Rw_ex hR0 (by omega) hE10
    have hR473 := Rw_ex hR473 (by omega) hE10
    refine hs dX8_init_93 (And.intro (⟨by omega, by omega, by rw [ly_482, ly_473]; rfl, by rw [ly_473]; decide, by rw [ly_473]; decide⟩) (And.intro (vin (show (LAY 473).2 = 6 by rw [ly_473]) (by decide)) ?_))
    have hB := Bl_pr hB (j := 473) (k := (Int32.toNatClampNeg 4)) (v := some 482) (by omega) (by omega)
    have hR473 := Rw_pr hR473 (k := (Int32.toNatClampNeg 4)) (v := some 482)
    have hR0 := Rw_nr hR0 (i := 473) (k := (Int32.toNatClampNeg 4)) (v := some 482) (by omega)
    refine hs dX8_init_94 (hs dX8_init_97 ?_)
    show P 75 [.ref 0, .int 5] [] _ _ _ _
    refine hs dX8_init_75 (hs dX8_init_76 (hs dX8_init_78 (And.intro (fun c78 => absurd c78 (by decide)) (fun c78 => (hs dX8_init_81 (hs dX8_init_82 (And.intro (⟨by omega, by rw [ly_0]⟩) (gr (by rw [hR0.2.2]; rfl) (hs dX8_init_85 (hs dX8_init_86 (And.intro (⟨by omega, ly_484⟩) (nM (M := 485) rfl (hs dX8_init_89 (hs dX8_init_90 (And.intro (trivial) (And.intro (by show 485 + 1 ≤ 1 + 488; omega) (Or.inr (Or.inr (Or.inr (Or.inr (Or.inr (And.intro (⟨rfl, Zr_new⟩) (fun lg11 it11 rf11 hF11 hE11 => nM (M := 486) rfl ?_) ))))))))))))))))))))))
    have hB := Bl_ex hB (by omega) hF11 hE11
    have hR0 := Rw_ex hR0 (by omega) hE11
    have hR473 := Rw_ex hR473 (by omega) hE11
    refine hs dX8_init_93 (And.intro (⟨by omega, by omega, by rw [ly_484, ly_473]; rfl, by rw [ly_473]; decide, by rw [ly_473]; decide⟩) (And.intro (vin (show (LAY 473).2 = 6 by rw [ly_473]) (by decide)) ?_))
    have hB := Bl_pr hB (j := 473) (k := (Int32.toNatClampNeg 5)) (v := some 484) (by omega) (by omega)
    have hR473 := Rw_pr hR473 (k := (Int32.toNatClampNeg 5)) (v := some 484)
    have hR0 := Rw_nr hR0 (i := 473) (k := (Int32.toNatClampNeg 5)) (v := some 484) (by omega)
    refine hs dX8_init_94 (hs dX8_init_97 ?_)
    show P 75 [.ref 0, .int 6] [] _ _ _ _
    refine hs dX8_init_75 (hs dX8_init_76 (hs dX8_init_78 (And.intro (fun c78 => ?_) (fun c78 => absurd (by decide) c78))))
    refine hs dX8_init_100 (hs dX8_init_101 (And.intro (⟨by omega, ly_486⟩) (nM (M := 487) rfl (hs dX8_init_104 (hs dX8_init_105 (And.intro (trivial) (And.intro (⟨by omega, by rw [ly_486]⟩) (n0 ?_) )))))))
    have hB := Bl_ex hB (by omega) (Fr_frac ly_486 tb_486).1 (Fr_frac ly_486 tb_486).2
    have hR0 := Rw_fr hR0 (m := 486) (by omega)
    have hR473 := Rw_fr hR473 (m := 486) (by omega)
    refine hs dX8_init_108 (And.intro (⟨by omega, by rw [ly_0]⟩) ?_)
    have hB := Bl_pr hB (j := 0) (k := 7) (v := some 486) (by omega) (by omega)
    have hR0 := Rw_pr hR0 (k := 7) (v := some 486)
    have hR473 := Rw_nr hR473 (i := 0) (k := 7) (v := some 486) (by omega)
    refine hs dX8_init_111 (hs dX8_init_112 (And.intro (⟨by omega, ly_487⟩) (nM (M := 488) rfl (hs dX8_init_115 (hs dX8_init_116 (And.intro (trivial) (And.intro (⟨by omega, by rw [ly_487]⟩) (n0 ?_) )))))))
    have hB := Bl_ex hB (by omega) (Fr_frac ly_487 tb_487).1 (Fr_frac ly_487 tb_487).2
    have hR0 := Rw_fr hR0 (m := 487) (by omega)
    have hR473 := Rw_fr hR473 (m := 487) (by omega)
    refine hs dX8_init_119 (And.intro (⟨by omega, by rw [ly_0]⟩) ?_)
    have hB := Bl_pr hB (j := 0) (k := 8) (v := some 487) (by omega) (by omega)
    have hR0 := Rw_pr hR0 (k := 8) (v := some 487)
    have hR473 := Rw_nr hR473 (i := 0) (k := 8) (v := some 487) (by omega)
    refine hs dX8_init_122 (hs dX8_init_123 (And.intro (⟨by omega, ly_488⟩) (nM (M := 489) rfl (hs dX8_init_126 (hs dX8_init_127 (And.intro (trivial) (And.intro (⟨by omega, by rw [ly_488]⟩) (n0 ?_) )))))))
    have hB := Bl_ex hB (by omega) (Fr_frac ly_488 tb_488).1 (Fr_frac ly_488 tb_488).2
    have hR0 := Rw_fr hR0 (m := 488) (by omega)
    have hR473 := Rw_fr hR473 (m := 488) (by omega)
    refine hs dX8_init_130 (And.intro (⟨by omega, by rw [ly_0]⟩) ?_)
    have hB := Bl_pr hB (j := 0) (k := 9) (v := some 488) (by omega) (by omega)
    have hR0 := Rw_pr hR0 (k := 9) (v := some 488)
    have hR473 := Rw_nr hR473 (i := 0) (k := 9) (v := some 488) (by omega)
    refine hs dX8_init_133 (And.intro (rfl) (And.intro rfl ?_))
    refine (fun z => hk _ _ _ z.1 z.2) (Bl_end hB (fun j h1 h2 h3 => ?_))
    · rcases (show j = 0 ∨ j = 473 by omega) with rfl | rfl
      · exact ⟨hR0.1.trans (lg0_row ly_0 (by decide)).symm, hR0.2.1.trans (Eq.symm (by rw [it0_row ly_0]; funext k; simp [va_up, itk, ki_0])), hR0.2.2.trans (rowf tb_0 (by decide +kernel) (by intro k hk; replace hk : 10 ≤ k := hk; obtain ⟨k2, rfl⟩ := Nat.exists_eq_add_of_le' hk; simp [va_up, tn_0, tn_1, tn_2, tn_3, tn_4, tn_5, tn_6, tn_7, tn_8, tn_9, tn_10, tn_11, tn_12, tn_13, tn_14, tn_15, tn_16, tn_17, tn_18, tn_19, tn_20, tn_21])).symm⟩
      · exact ⟨hR473.1.trans (lg0_row ly_473 (by decide)).symm, hR473.2.1.trans (Eq.symm (by rw [it0_row ly_473]; funext k; simp [itk])), hR473.2.2.trans (rowf tb_473 (by decide +kernel) (by intro k hk; replace hk : 6 ≤ k := hk; obtain ⟨k2, rfl⟩ := Nat.exists_eq_add_of_le' hk; simp [va_up, tn_0, tn_1, tn_2, tn_3, tn_4, tn_5, tn_6, tn_7, tn_8, tn_9, tn_10, tn_11, tn_12, tn_13, tn_14, tn_15, tn_16, tn_17, tn_18, tn_19, tn_20, tn_21])).symm⟩
  · exact h.elim
theorem sh_X8_init (as : List Value) (N : Nat) (lg : LGt) (it : ITt) (rf : RFt) (Q : Post) (h : sp_X8_init as N lg it rf Q) : ∃ j t, as = .ref j :: t := by
  unfold sp_X8_init at h
  split at h
  · exact ⟨_, _, rfl⟩
  · exact h.elim
theorem ct_X8_init {E : Ev} {l : Launch} : CT E l yX8_init (wsY yX8_init cX8_init 2 none) rm_X8_init 488 sp_X8_init := ct_of (T := T_X8_init) (own := RX8) (by decide) rfl (fun ci _ hc => by have h2 : (8 : Nat) = ci := Nat.eq_of_beq_eq_true hc; subst h2; exact ⟨rfl, rfl⟩) ⟨rfl, rfl⟩ ⟨fok_X8, clok_X8, jok_X8, List.forall_mem_cons.mpr ⟨cok_obj ml_X8_3 o_obj.1 o_obj.2 (by decide), List.forall_mem_cons.mpr ⟨cok_I ct_X4_init sh_X4_init rfl ((cl_ins (c := 4) (by decide)).2) ml_X8_11 im_X4_init co_X4_init mo_X4_init (by decide), List.forall_mem_cons.mpr ⟨cok_I ct_X0_init sh_X0_init rfl ((cl_ins (c := 0) (by decide)).2) ml_X8_27 im_X0_init co_X0_init mo_X0_init (by decide), List.forall_mem_cons.mpr ⟨cok_I ct_X3_init sh_X3_init rfl ((cl_ins (c := 3) (by decide)).2) ml_X8_34 im_X3_init co_X3_init mo_X3_init (by decide), List.forall_mem_cons.mpr ⟨cok_I ct_X7_init sh_X7_init rfl ((cl_ins (c := 7) (by decide)).2) ml_X8_41 im_X7_init co_X7_init mo_X7_init (by decide), List.forall_mem_cons.mpr ⟨cok_I ct_X6_init sh_X6_init rfl ((cl_ins (c := 6) (by decide)).2) ml_X8_52 im_X6_init co_X6_init mo_X6_init (by decide), List.forall_mem_cons.mpr ⟨cok_I ct_X1_init sh_X1_init rfl ((cl_ins (c := 1) (by decide)).2) ml_X8_55 im_X1_init co_X1_init mo_X1_init (by decide), fun _ h => absurd h List.not_mem_nil⟩⟩⟩⟩⟩⟩⟩⟩ bd_X8_init
def sp_X9_init : Spc := fun as N lg it rf K => match as with | [.ref 489] => ((N = 490 ∧ Zr 489 lg it rf) ∧ ∀ lg' it' rf', Fr 489 523 lg' it' rf' → Ex 489 lg lg' it it' rf rf' → K none lg' it' rf') | _ => False
def T_X9_init : Tab := (FL_X9, CL_X9, JL_X9, [(3, 2, 1, 0, 0, sp_obj)], 9, none)
def rm_X9_init : Room := { frames := 1, cells := 33, slots := 13200, locals := 20 }
set_option maxRecDepth 100000 in
theorem bd_X9_init (as : List Value) (N : Nat) (lg : LGt) (it : ITt) (rf : RFt) (Q : Post) (h : sp_X9_init as N lg it rf Q) : Bd T_X9_init cX9_init 2 33 as N lg it rf Q := by
  unfold sp_X9_init at h
  split at h
  · refine ⟨Nat.le_of_ble_eq_true rfl, fun P hs hw hf => ?_⟩
    obtain ⟨⟨rfl, hz⟩, hk⟩ := h
    have hB := Bl_0 (op := fun j => j = 489 ∨ j = 518) (lo := 489) (lg := lg) (it := it) (rf := rf) (by omega)
    have hR0 : Rw 489 lg it rf _ _ _ := hz
    refine hs dX9_init_0 (hs dX9_init_1 (And.intro (trivial) (n0 (hs dX9_init_4 (hs dX9_init_5 (hs dX9_init_6 (And.intro (⟨by omega, by rw [ly_489]⟩) ?_)))))))
    have hB := Bl_pi hB (j := 489) (k := 1) (v := Int32.ofInt 4) (by omega) (by omega)
    have hR0 := Rw_pi hR0 (k := 1) (v := Int32.ofInt 4)
    refine hs dX9_init_9 (hs dX9_init_10 (hs dX9_init_11 (And.intro (⟨by omega, by rw [ly_489]⟩) ?_)))
    have hB := Bl_pi hB (j := 489) (k := 2) (v := Int32.ofInt 4) (by omega) (by omega)
    have hR0 := Rw_pi hR0 (k := 2) (v := Int32.ofInt 4)
    refine hs dX9_init_14 (hs dX9_init_15 (hs dX9_init_16 (And.intro (⟨by omega, by rw [ly_489]⟩) ?_)))
    have hB := Bl_pi hB (j := 489) (k := 3) (v := Int32.ofInt 4) (by omega) (by omega)
    have hR0 := Rw_pi hR0 (k := 3) (v := Int32.ofInt 4)
    refine hs dX9_init_19 (hs dX9_init_20 (hs dX9_init_22 (And.intro (⟨by omega, by decide, ly_490⟩) (nM (M := 491) rfl ?_))))
    have hB := Bl_ex hB (by omega) (Fr_zero (lg0_row ly_490 (by decide)) (by rw [it0_row ly_490]; funext k; simp [itk]) (rf0_row tb_490)) Ex_rf
    have hR0 := Rw_zr hR0 (m := 490) (by omega)
    refine hs dX9_init_24 (And.intro (⟨by omega, by rw [ly_489]⟩) ?_)
    have hB := Bl_pr hB (j := 489) (k := 4) (v := some 490) (by omega) (by omega)
    have hR0 := Rw_pr hR0 (k := 4) (v := some 490)
    refine hs dX9_init_27 (hs dX9_init_28 (hs dX9_init_30 (And.intro (⟨by omega, by decide, ly_491⟩) (nM (M := 492) rfl ?_))))
    have hB := Bl_ex hB (by omega) (Fr_zero (lg0_row ly_491 (by decide)) (by rw [it0_row ly_491]; funext k; simp [itk]) (rf0_row tb_491)) Ex_rf
    have hR0 := Rw_zr hR0 (m := 491) (by omega)
    refine hs dX9_init_32 (And.intro (⟨by omega, by rw [ly_489]⟩) ?_)
    have hB := Bl_pr hB (j := 489) (k := 5) (v := some 491) (by omega) (by omega)
    have hR0 := Rw_pr hR0 (k := 5) (v := some 491)
    refine hs dX9_init_35 (hs dX9_init_36 (hs dX9_init_38 (And.intro (⟨by omega, by decide, ly_492⟩) (nM (M := 493) rfl ?_))))
    have hB := Bl_ex hB (by omega) (Fr_zero (lg0_row ly_492 (by decide)) (by rw [it0_row ly_492]; funext k; simp [itk]) (rf0_row tb_492)) Ex_rf
    have hR0 := Rw_zr hR0 (m := 492) (by omega)
    refine hs dX9_init_40 (And.intro (⟨by omega, by rw [ly_489]⟩) ?_)
    have hB := Bl_pr hB (j := 489) (k := 6) (v := some 492) (by omega) (by omega)
    have hR0 := Rw_pr hR0 (k := 6) (v := some 492)
    refine hs dX9_init_43 (hs dX9_init_44 (hs dX9_init_46 (And.intro (⟨by omega, by decide, ly_493⟩) (nM (M := 494) rfl ?_))))
    have hB := Bl_ex hB (by omega) (Fr_zero (lg0_row ly_493 (by decide)) (by rw [it0_row ly_493]; funext k; simp [itk]) (rf0_row tb_493)) Ex_rf
    have hR0 := Rw_zr hR0 (m := 493) (by omega)
    refine hs dX9_init_48 (And.intro (⟨by omega, by rw [ly_489]⟩) ?_)
    have hB := Bl_pr hB (j := 489) (k := 7) (v := some 493) (by omega) (by omega)
    have hR0 := Rw_pr hR0 (k := 7) (v := some 493)
    refine hs dX9_init_51 (hs dX9_init_52 (hs dX9_init_54 (And.intro (⟨by omega, by decide, ly_494⟩) (nM (M := 495) rfl ?_))))
    have hB := Bl_ex hB (by omega) (Fr_zero (lg0_row ly_494 (by decide)) (by rw [it0_row ly_494]; funext k; simp [itk]) (rf0_row tb_494)) Ex_rf
    have hR0 := Rw_zr hR0 (m := 494) (by omega)
    refine hs dX9_init_56 (And.intro (⟨by omega, by rw [ly_489]⟩) ?_)
    have hB := Bl_pr hB (j := 489) (k := 8) (v := some 494) (by omega) (by omega)
    have hR0 := Rw_pr hR0 (k := 8) (v := some 494)
    refine hs dX9_init_59 (hs dX9_init_60 (hs dX9_init_61 (And.intro (⟨by omega, by decide, ly_495⟩) (nM (M := 496) rfl ?_))))
    have hB := Bl_ex hB (by omega) (Fr_zero (lg0_row ly_495 (by decide)) (by rw [it0_row ly_495]; funext k; simp [itk]) (rf0_row tb_495)) Ex_rf
    have hR0 := Rw_zr hR0 (m := 495) (by omega)
    refine hs dX9_init_63 (And.intro (⟨by omega, by rw [ly_489]⟩) ?_)
    have hB := Bl_pr hB (j := 489) (k := 12) (v := some 495) (by omega) (by omega)
    have hR0 := Rw_pr hR0 (k := 12) (v := some 495)
    refine hs dX9_init_66 (hs dX9_init_67 (hs dX9_init_68 (And.intro (⟨by omega, by decide, ly_496⟩) (nM (M := 497) rfl ?_))))
    have hB := Bl_ex hB (by omega) (Fr_zero (lg0_row ly_496 (by decide)) (by rw [it0_row ly_496]; funext k; simp [itk]) (rf0_row tb_496)) Ex_rf
    have hR0 := Rw_zr hR0 (m := 496) (by omega)
    refine hs dX9_init_70 (And.intro (⟨by omega, by rw [ly_489]⟩) ?_)
    have hB := Bl_pr hB (j := 489) (k := 13) (v := some 496) (by omega) (by omega)
    have hR0 := Rw_pr hR0 (k := 13) (v := some 496)
    refine hs dX9_init_73 (hs dX9_init_74 (hs dX9_init_76 (And.intro (⟨by omega, by decide, ly_497⟩) (nM (M := 498) rfl ?_))))
    have hB := Bl_ex hB (by omega) (Fr_zero (lg0_row ly_497 (by decide)) (by rw [it0_row ly_497]; funext k; simp [itk]) (rf0_row tb_497)) Ex_rf
    have hR0 := Rw_zr hR0 (m := 497) (by omega)
    refine hs dX9_init_78 (And.intro (⟨by omega, by rw [ly_489]⟩) ?_)
    have hB := Bl_pr hB (j := 489) (k := 14) (v := some 497) (by omega) (by omega)
    have hR0 := Rw_pr hR0 (k := 14) (v := some 497)
    refine hs dX9_init_81 (hs dX9_init_82 (hs dX9_init_84 (And.intro (⟨by omega, by decide, ly_498⟩) (nM (M := 499) rfl ?_))))
    have hB := Bl_ex hB (by omega) (Fr_zero (lg0_row ly_498 (by decide)) (by rw [it0_row ly_498]; funext k; simp [itk]) (rf0_row tb_498)) Ex_rf
    have hR0 := Rw_zr hR0 (m := 498) (by omega)
    refine hs dX9_init_86 (And.intro (⟨by omega, by rw [ly_489]⟩) ?_)
    have hB := Bl_pr hB (j := 489) (k := 15) (v := some 498) (by omega) (by omega)
    have hR0 := Rw_pr hR0 (k := 15) (v := some 498)
    refine hs dX9_init_89 (hs dX9_init_90 (hs dX9_init_92 (And.intro (⟨by omega, by decide, ly_499⟩) (nM (M := 500) rfl ?_))))
    have hB := Bl_ex hB (by omega) (Fr_zero (lg0_row ly_499 (by decide)) (by rw [it0_row ly_499]; funext k; simp [itk]) (rf0_row tb_499)) Ex_rf
    have hR0 := Rw_zr hR0 (m := 499) (by omega)
    refine hs dX9_init_94 (And.intro (⟨by omega, by rw [ly_489]⟩) ?_)
    have hB := Bl_pr hB (j := 489) (k := 16) (v := some 499) (by omega) (by omega)
    have hR0 := Rw_pr hR0 (k := 16) (v := some 499)
    refine hs dX9_init_97 (hs dX9_init_98 (hs dX9_init_100 (And.intro (⟨by omega, by decide, ly_500⟩) (nM (M := 501) rfl ?_))))
    have hB := Bl_ex hB (by omega) (Fr_zero (lg0_row ly_500 (by decide)) (by rw [it0_row ly_500]; funext k; simp [itk]) (rf0_row tb_500)) Ex_rf
    have hR0 := Rw_zr hR0 (m := 500) (by omega)
    refine hs dX9_init_102 (And.intro (⟨by omega, by rw [ly_489]⟩) ?_)
    have hB := Bl_pr hB (j := 489) (k := 17) (v := some 500) (by omega) (by omega)
    have hR0 := Rw_pr hR0 (k := 17) (v := some 500)
    refine hs dX9_init_105 (hs dX9_init_106 (hs dX9_init_108 (And.intro (⟨by omega, by decide, ly_501⟩) (nM (M := 502) rfl ?_))))
    have hB := Bl_ex hB (by omega) (Fr_zero (lg0_row ly_501 (by decide)) (by rw [it0_row ly_501]; funext k; simp [itk]) (rf0_row tb_501)) Ex_rf
    have hR0 := Rw_zr hR0 (m := 501) (by omega)
    refine hs dX9_init_110 (And.intro (⟨by omega, by rw [ly_489]⟩) ?_)
    have hB := Bl_pr hB (j := 489) (k := 21) (v := some 501) (by omega) (by omega)
    have hR0 := Rw_pr hR0 (k := 21) (v := some 501)
    refine hs dX9_init_113 (hs dX9_init_114 (hs dX9_init_116 (And.intro (⟨by omega, by decide, ly_502⟩) (nM (M := 503) rfl ?_))))
    have hB := Bl_ex hB (by omega) (Fr_zero (lg0_row ly_502 (by decide)) (by rw [it0_row ly_502]; funext k; simp [itk]) (rf0_row tb_502)) Ex_rf
    have hR0 := Rw_zr hR0 (m := 502) (by omega)
    refine hs dX9_init_118 (And.intro (⟨by omega, by rw [ly_489]⟩) ?_)
    have hB := Bl_pr hB (j := 489) (k := 22) (v := some 502) (by omega) (by omega)
    have hR0 := Rw_pr hR0 (k := 22) (v := some 502)
    refine hs dX9_init_121 (hs dX9_init_122 (hs dX9_init_124 (And.intro (⟨by omega, by decide, ly_503⟩) (nM (M := 504) rfl ?_))))
    have hB := Bl_ex hB (by omega) (Fr_zero (lg0_row ly_503 (by decide)) (by rw [it0_row ly_503]; funext k; simp [itk]) (rf0_row tb_503)) Ex_rf
    have hR0 := Rw_zr hR0 (m := 503) (by omega)
    refine hs dX9_init_126 (And.intro (⟨by omega, by rw [ly_489]⟩) ?_)
    have hB := Bl_pr hB (j := 489) (k := 23) (v := some 503) (by omega) (by omega)
    have hR0 := Rw_pr hR0 (k := 23) (v := some 503)
    refine hs dX9_init_129 (hs dX9_init_130 (hs dX9_init_132 (And.intro (⟨by omega, by decide, ly_504⟩) (nM (M := 505) rfl ?_))))
    have hB := Bl_ex hB (by omega) (Fr_zero (lg0_row ly_504 (by decide)) (by rw [it0_row ly_504]; funext k; simp [itk]) (rf0_row tb_504)) Ex_rf
    have hR0 := Rw_zr hR0 (m := 504) (by omega)
    refine hs dX9_init_134 (And.intro (⟨by omega, by rw [ly_489]⟩) ?_)
    have hB := Bl_pr hB (j := 489) (k := 24) (v := some 504) (by omega) (by omega)
    have hR0 := Rw_pr hR0 (k := 24) (v := some 504)
    refine hs dX9_init_137 (hs dX9_init_138 (hs dX9_init_140 (And.intro (⟨by omega, by decide, ly_505⟩) (nM (M := 506) rfl ?_))))
    have hB := Bl_ex hB (by omega) (Fr_zero (lg0_row ly_505 (by decide)) (by rw [it0_row ly_505]; funext k; simp [itk]) (rf0_row tb_505)) Ex_rf
    have hR0 := Rw_zr hR0 (m := 505) (by omega)
    refine hs dX9_init_142 (And.intro (⟨by omega, by rw [ly_489]⟩) ?_)
    have hB := Bl_pr hB (j := 489) (k := 25) (v := some 505) (by omega) (by omega)
    have hR0 := Rw_pr hR0 (k := 25) (v := some 505)
    refine hs dX9_init_145 (hs dX9_init_146 (hs dX9_init_148 (And.intro (⟨by omega, by decide, ly_506⟩) (nM (M := 507) rfl ?_))))
    have hB := Bl_ex hB (by omega) (Fr_zero (lg0_row ly_506 (by decide)) (by rw [it0_row ly_506]; funext k; simp [itk]) (rf0_row tb_506)) Ex_rf
    have hR0 := Rw_zr hR0 (m := 506) (by omega)
    refine hs dX9_init_150 (And.intro (⟨by omega, by rw [ly_489]⟩) ?_)
    have hB := Bl_pr hB (j := 489) (k := 26) (v := some 506) (by omega) (by omega)
    have hR0 := Rw_pr hR0 (k := 26) (v := some 506)
    refine hs dX9_init_153 (hs dX9_init_154 (hs dX9_init_156 (And.intro (⟨by omega, by decide, ly_507⟩) (nM (M := 508) rfl ?_))))
    have hB := Bl_ex hB (by omega) (Fr_zero (lg0_row ly_507 (by decide)) (by rw [it0_row ly_507]; funext k; simp [itk]) (rf0_row tb_507)) Ex_rf
    have hR0 := Rw_zr hR0 (m := 507) (by omega)
    refine hs dX9_init_158 (And.intro (⟨by omega, by rw [ly_489]⟩) ?_)
    have hB := Bl_pr hB (j := 489) (k := 27) (v := some 507) (by omega) (by omega)
    have hR0 := Rw_pr hR0 (k := 27) (v := some 507)
    refine hs dX9_init_161 (hs dX9_init_162 (hs dX9_init_164 (And.intro (⟨by omega, by decide, ly_508⟩) (nM (M := 509) rfl ?_))))
    have hB := Bl_ex hB (by omega) (Fr_zero (lg0_row ly_508 (by decide)) (by rw [it0_row ly_508]; funext k; simp [itk]) (rf0_row tb_508)) Ex_rf
    have hR0 := Rw_zr hR0 (m := 508) (by omega)
    refine hs dX9_init_166 (And.intro (⟨by omega, by rw [ly_489]⟩) ?_)
    have hB := Bl_pr hB (j := 489) (k := 44) (v := some 508) (by omega) (by omega)
    have hR0 := Rw_pr hR0 (k := 44) (v := some 508)
    refine hs dX9_init_169 (hs dX9_init_170 (hs dX9_init_172 (And.intro (⟨by omega, by decide, ly_509⟩) (nM (M := 510) rfl ?_))))
    have hB := Bl_ex hB (by omega) (Fr_zero (lg0_row ly_509 (by decide)) (by rw [it0_row ly_509]; funext k; simp [itk]) (rf0_row tb_509)) Ex_rf
    have hR0 := Rw_zr hR0 (m := 509) (by omega)
    refine hs dX9_init_174 (And.intro (⟨by omega, by rw [ly_489]⟩) ?_)
    have hB := Bl_pr hB (j := 489) (k := 45) (v := some 509) (by omega) (by omega)
    have hR0 := Rw_pr hR0 (k := 45) (v := some 509)
    refine hs dX9_init_177 (hs dX9_init_178 (hs dX9_init_180 (And.intro (⟨by omega, by decide, ly_510⟩) (nM (M := 511) rfl ?_))))
    have hB := Bl_ex hB (by omega) (Fr_zero (lg0_row ly_510 (by decide)) (by rw [it0_row ly_510]; funext k; simp [itk]) (rf0_row tb_510)) Ex_rf
    have hR0 := Rw_zr hR0 (m := 510) (by omega)
    refine hs dX9_init_182 (And.intro (⟨by omega, by rw [ly_489]⟩) ?_)
    have hB := Bl_pr hB (j := 489) (k := 46) (v := some 510) (by omega) (by omega)
    have hR0 := Rw_pr hR0 (k := 46) (v := some 510)
    refine hs dX9_init_185 (hs dX9_init_186 (hs dX9_init_189 (And.intro (⟨by omega, by decide, ly_511⟩) (nM (M := 512) rfl ?_))))
    have hB := Bl_ex hB (by omega) (Fr_zero (lg0_row ly_511 (by decide)) (by rw [it0_row ly_511]; funext k; simp [itk]) (rf0_row tb_511)) Ex_rf
    have hR0 := Rw_zr hR0 (m := 511) (by omega)
    refine hs dX9_init_191 (And.intro (⟨by omega, by rw [ly_489]⟩) ?_)
    have hB := Bl_pr hB (j := 489) (k := 47) (v := some 511) (by omega) (by omega)
    have hR0 := Rw_pr hR0 (k := 47) (v := some 511)
    refine hs dX9_init_194 (hs dX9_init_195 (hs dX9_init_198 (And.intro (⟨by omega, by decide, ly_512⟩) (nM (M := 513) rfl ?_))))
    have hB := Bl_ex hB (by omega) (Fr_zero (lg0_row ly_512 (by decide)) (by rw [it0_row ly_512]; funext k; simp [itk]) (rf0_row tb_512)) Ex_rf
    have hR0 := Rw_zr hR0 (m := 512) (by omega)
    refine hs dX9_init_200 (And.intro (⟨by omega, by rw [ly_489]⟩) ?_)
    have hB := Bl_pr hB (j := 489) (k := 48) (v := some 512) (by omega) (by omega)
    have hR0 := Rw_pr hR0 (k := 48) (v := some 512)
    refine hs dX9_init_203 (hs dX9_init_204 (hs dX9_init_206 (And.intro (⟨by omega, by decide, ly_513⟩) (nM (M := 514) rfl ?_))))
    have hB := Bl_ex hB (by omega) (Fr_zero (lg0_row ly_513 (by decide)) (by rw [it0_row ly_513]; funext k; simp [itk]) (rf0_row tb_513)) Ex_rf
    have hR0 := Rw_zr hR0 (m := 513) (by omega)
    refine hs dX9_init_208 (And.intro (⟨by omega, by rw [ly_489]⟩) ?_)
    have hB := Bl_pr hB (j := 489) (k := 49) (v := some 513) (by omega) (by omega)
    have hR0 := Rw_pr hR0 (k := 49) (v := some 513)
    refine hs dX9_init_211 (hs dX9_init_212 (hs dX9_init_214 (And.intro (⟨by omega, by decide, ly_514⟩) (nM (M := 515) rfl ?_))))
    have hB := Bl_ex hB (by omega) (Fr_zero (lg0_row ly_514 (by decide)) (by rw [it0_row ly_514]; funext k; simp [itk]) (rf0_row tb_514)) Ex_rf
    have hR0 := Rw_zr hR0 (m := 514) (by omega)
    refine hs dX9_init_216 (And.intro (⟨by omega, by rw [ly_489]⟩) ?_)
    have hB := Bl_pr hB (j := 489) (k := 52) (v := some 514) (by omega) (by omega)
    have hR0 := Rw_pr hR0 (k := 52) (v := some 514)
    refine hs dX9_init_219 (hs dX9_init_220 (hs dX9_init_222 (And.intro (⟨by omega, by decide, ly_515⟩) (nM (M := 516) rfl ?_))))
    have hB := Bl_ex hB (by omega) (Fr_zero (lg0_row ly_515 (by decide)) (by rw [it0_row ly_515]; funext k; simp [itk]) (rf0_row tb_515)) Ex_rf
    have hR0 := Rw_zr hR0 (m := 515) (by omega)
    refine hs dX9_init_224 (And.intro (⟨by omega, by rw [ly_489]⟩) ?_)
    have hB := Bl_pr hB (j := 489) (k := 53) (v := some 515) (by omega) (by omega)
    have hR0 := Rw_pr hR0 (k := 53) (v := some 515)
    refine hs dX9_init_227 (hs dX9_init_228 (hs dX9_init_230 (And.intro (⟨by omega, by decide, ly_516⟩) (nM (M := 517) rfl ?_))))
    have hB := Bl_ex hB (by omega) (Fr_zero (lg0_row ly_516 (by decide)) (by rw [it0_row ly_516]; funext k; simp [itk]) (rf0_row tb_516)) Ex_rf
    have hR0 := Rw_zr hR0 (m := 516) (by omega)
    refine hs dX9_init_232 (And.intro (⟨by omega, by rw [ly_489]⟩) ?_)
    have hB := Bl_pr hB (j := 489) (k := 54) (v := some 516) (by omega) (by omega)
    have hR0 := Rw_pr hR0 (k := 54) (v := some 516)
    refine hs dX9_init_235 (hs dX9_init_236 (hs dX9_init_238 (And.intro (⟨by omega, by decide, ly_517⟩) (nM (M := 518) rfl ?_))))
    have hB := Bl_ex hB (by omega) (Fr_zero (lg0_row ly_517 (by decide)) (by rw [it0_row ly_517]; funext k; simp [itk]) (rf0_row tb_517)) Ex_rf
    have hR0 := Rw_zr hR0 (m := 517) (by omega)
    refine hs dX9_init_240 (And.intro (⟨by omega, by rw [ly_489]⟩) ?_)
    have hB := Bl_pr hB (j := 489) (k := 55) (v := some 517) (by omega) (by omega)
    have hR0 := Rw_pr hR0 (k := 55) (v := some 517)
    refine hs dX9_init_243 (hs dX9_init_244 (hs dX9_init_246 (And.intro (⟨by omega, by decide, ly_518⟩) (nM (M := 519) rfl ?_))))
    have hB := Bl_opn hB (by omega) (by omega)
    have hR0 := Rw_zr hR0 (m := 518) (by omega)
    have hR29 := Rw_of hB (Rw_new (m := 518))
    refine hs dX9_init_248 (And.intro (⟨by omega, by rw [ly_489]⟩) ?_)
    have hB := Bl_pr hB (j := 489) (k := 56) (v := some 518) (by omega) (by omega)
    have hR0 := Rw_pr hR0 (k := 56) (v := some 518)
    have hR29 := Rw_nr hR29 (i := 489) (k := 56) (v := some 518) (by omega)
    refine hs dX9_init_251 (hs dX9_init_252 (hs dX9_init_254 (And.intro (⟨by omega, by decide, ly_519⟩) (nM (M := 520) rfl ?_))))
    have hB := Bl_ex hB (by omega) (Fr_zero (lg0_row ly_519 (by decide)) (by rw [it0_row ly_519]; funext k; simp [itk]) (rf0_row tb_519)) Ex_rf
    have hR0 := Rw_zr hR0 (m := 519) (by omega)
    have hR29 := Rw_zr hR29 (m := 519) (by omega)
    refine hs dX9_init_256 (And.intro (⟨by omega, by rw [ly_489]⟩) ?_)
    have hB := Bl_pr hB (j := 489) (k := 57) (v := some 519) (by omega) (by omega)
    have hR0 := Rw_pr hR0 (k := 57) (v := some 519)
    have hR29 := Rw_nr hR29 (i := 489) (k := 57) (v := some 519) (by omega)
    refine hs dX9_init_259 (hs dX9_init_260 (hs dX9_init_263 (And.intro (⟨by omega, by decide, ly_520⟩) (nM (M := 521) rfl ?_))))
    have hB := Bl_ex hB (by omega) (Fr_zero (lg0_row ly_520 (by decide)) (by rw [it0_row ly_520]; funext k; simp [itk]) (rf0_row tb_520)) Ex_rf
    have hR0 := Rw_zr hR0 (m := 520) (by omega)
    have hR29 := Rw_zr hR29 (m := 520) (by omega)
    refine hs dX9_init_265 (And.intro (⟨by omega, by rw [ly_489]⟩) ?_)
    have hB := Bl_pr hB (j := 489) (k := 58) (v := some 520) (by omega) (by omega)
    have hR0 := Rw_pr hR0 (k := 58) (v := some 520)
    have hR29 := Rw_nr hR29 (i := 489) (k := 58) (v := some 520) (by omega)
    refine hs dX9_init_268 (hs dX9_init_269 (hs dX9_init_271 (And.intro (⟨by omega, by decide, ly_521⟩) (nM (M := 522) rfl ?_))))
    have hB := Bl_ex hB (by omega) (Fr_zero (lg0_row ly_521 (by decide)) (by rw [it0_row ly_521]; funext k; simp [itk]) (rf0_row tb_521)) Ex_rf
    have hR0 := Rw_zr hR0 (m := 521) (by omega)
    have hR29 := Rw_zr hR29 (m := 521) (by omega)
    refine hs dX9_init_273 (And.intro (⟨by omega, by rw [ly_489]⟩) ?_)
    have hB := Bl_pr hB (j := 489) (k := 59) (v := some 521) (by omega) (by omega)
    have hR0 := Rw_pr hR0 (k := 59) (v := some 521)
    have hR29 := Rw_nr hR29 (i := 489) (k := 59) (v := some 521) (by omega)
    refine hs dX9_init_276 (hs dX9_init_277 (hs dX9_init_279 (And.intro (⟨by omega, by decide, ly_522⟩) (nM (M := 523) rfl ?_))))
    have hB := Bl_ex hB (by omega) (Fr_zero (lg0_row ly_522 (by decide)) (by rw [it0_row ly_522]; funext k; simp [itk]) (rf0_row tb_522)) Ex_rf
    have hR0 := Rw_zr hR0 (m := 522) (by omega)
    have hR29 := Rw_zr hR29 (m := 522) (by omega)
    refine hs dX9_init_281 (And.intro (⟨by omega, by rw [ly_489]⟩) ?_)
    have hB := Bl_pr hB (j := 489) (k := 60) (v := some 522) (by omega) (by omega)
    have hR0 := Rw_pr hR0 (k := 60) (v := some 522)
    have hR29 := Rw_nr hR29 (i := 489) (k := 60) (v := some 522) (by omega)
    refine hs dX9_init_284 (hs dX9_init_285 ?_)
    show P 286 [.ref 489, .int 0] [] _ _ _ _
    refine hs dX9_init_286 (hs dX9_init_287 (hs dX9_init_289 (And.intro (fun c289 => absurd c289 (by decide)) (fun c289 => (hs dX9_init_292 (hs dX9_init_293 (And.intro (⟨by omega, by rw [ly_489]⟩) (gr (by rw [hR0.2.2]; rfl) (hs dX9_init_296 (hs dX9_init_297 (hs dX9_init_298 (And.intro (⟨by omega, by rw [ly_518]⟩) (And.intro (vin (show (LAY 518).2 = 6 by rw [ly_518]) (by decide)) ?_)))))))))))))
    have hB := Bl_pi hB (j := 518) (k := (Int32.toNatClampNeg 0)) (v := Int32.ofInt (-1)) (by omega) (by omega)
    have hR29 := Rw_pi hR29 (k := (Int32.toNatClampNeg 0)) (v := Int32.ofInt (-1))
    have hR0 := Rw_ni hR0 (i := 518) (k := (Int32.toNatClampNeg 0)) (v := Int32.ofInt (-1)) (by omega)
    refine hs dX9_init_299 (hs dX9_init_302 ?_)
    show P 286 [.ref 489, .int 1] [] _ _ _ _
    refine hs dX9_init_286 (hs dX9_init_287 (hs dX9_init_289 (And.intro (fun c289 => absurd c289 (by decide)) (fun c289 => (hs dX9_init_292 (hs dX9_init_293 (And.intro (⟨by omega, by rw [ly_489]⟩) (gr (by rw [hR0.2.2]; rfl) (hs dX9_init_296 (hs dX9_init_297 (hs dX9_init_298 (And.intro (⟨by omega, by rw [ly_518]⟩) (And.intro (vin (show (LAY 518).2 = 6 by rw [ly_518]) (by decide)) ?_)))))))))))))
    have hB := Bl_pi hB (j := 518) (k := (Int32.toNatClampNeg 1)) (v := Int32.ofInt (-1)) (by omega) (by omega)
    have hR29 := Rw_pi hR29 (k := (Int32.toNatClampNeg 1)) (v := Int32.ofInt (-1))
    have hR0 := Rw_ni hR0 (i := 518) (k := (Int32.toNatClampNeg 1)) (v := Int32.ofInt (-1)) (by omega)
    refine hs dX9_init_299 (hs dX9_init_302 ?_)
    show P 286 [.ref 489, .int 2] [] _ _ _ _
    refine hs dX9_init_286 (hs dX9_init_287 (hs dX9_init_289 (And.intro (fun c289 => absurd c289 (by decide)) (fun c289 => (hs dX9_init_292 (hs dX9_init_293 (And.intro (⟨by omega, by rw [ly_489]⟩) (gr (by rw [hR0.2.2]; rfl) (hs dX9_init_296 (hs dX9_init_297 (hs dX9_init_298 (And.intro (⟨by omega, by rw [ly_518]⟩) (And.intro (vin (show (LAY 518).2 = 6 by rw [ly_518]) (by decide)) ?_)))))))))))))
    have hB := Bl_pi hB (j := 518) (k := (Int32.toNatClampNeg 2)) (v := Int32.ofInt (-1)) (by omega) (by omega)
    have hR29 := Rw_pi hR29 (k := (Int32.toNatClampNeg 2)) (v := Int32.ofInt (-1))
    have hR0 := Rw_ni hR0 (i := 518) (k := (Int32.toNatClampNeg 2)) (v := Int32.ofInt (-1)) (by omega)
    refine hs dX9_init_299 (hs dX9_init_302 ?_)
    show P 286 [.ref 489, .int 3] [] _ _ _ _
    refine hs dX9_init_286 (hs dX9_init_287 (hs dX9_init_289 (And.intro (fun c289 => absurd c289 (by decide)) (fun c289 => (hs dX9_init_292 (hs dX9_init_293 (And.intro (⟨by omega, by rw [ly_489]⟩) (gr (by rw [hR0.2.2]; rfl) (hs dX9_init_296 (hs dX9_init_297 (hs dX9_init_298 (And.intro (⟨by omega, by rw [ly_518]⟩) (And.intro (vin (show (LAY 518).2 = 6 by rw [ly_518]) (by decide)) ?_)))))))))))))
    have hB := Bl_pi hB (j := 518) (k := (Int32.toNatClampNeg 3)) (v := Int32.ofInt (-1)) (by omega) (by omega)
    have hR29 := Rw_pi hR29 (k := (Int32.toNatClampNeg 3)) (v := Int32.ofInt (-1))
    have hR0 := Rw_ni hR0 (i := 518) (k := (Int32.toNatClampNeg 3)) (v := Int32.ofInt (-1)) (by omega)
    refine hs dX9_init_299 (hs dX9_init_302 ?_)
    show P 286 [.ref 489, .int 4] [] _ _ _ _
    refine hs dX9_init_286 (hs dX9_init_287 (hs dX9_init_289 (And.intro (fun c289 => absurd c289 (by decide)) (fun c289 => (hs dX9_init_292 (hs dX9_init_293 (And.intro (⟨by omega, by rw [ly_489]⟩) (gr (by rw [hR0.2.2]; rfl) (hs dX9_init_296 (hs dX9_init_297 (hs dX9_init_298 (And.intro (⟨by omega, by rw [ly_518]⟩) (And.intro (vin (show (LAY 518).2 = 6 by rw [ly_518]) (by decide)) ?_)))))))))))))
    have hB := Bl_pi hB (j := 518) (k := (Int32.toNatClampNeg 4)) (v := Int32.ofInt (-1)) (by omega) (by omega)
    have hR29 := Rw_pi hR29 (k := (Int32.toNatClampNeg 4)) (v := Int32.ofInt (-1))
    have hR0 := Rw_ni hR0 (i := 518) (k := (Int32.toNatClampNeg 4)) (v := Int32.ofInt (-1)) (by omega)
    refine hs dX9_init_299 (hs dX9_init_302 ?_)
    show P 286 [.ref 489, .int 5] [] _ _ _ _
    refine hs dX9_init_286 (hs dX9_init_287 (hs dX9_init_289 (And.intro (fun c289 => absurd c289 (by decide)) (fun c289 => (hs dX9_init_292 (hs dX9_init_293 (And.intro (⟨by omega, by rw [ly_489]⟩) (gr (by rw [hR0.2.2]; rfl) (hs dX9_init_296 (hs dX9_init_297 (hs dX9_init_298 (And.intro (⟨by omega, by rw [ly_518]⟩) (And.intro (vin (show (LAY 518).2 = 6 by rw [ly_518]) (by decide)) ?_)))))))))))))
    have hB := Bl_pi hB (j := 518) (k := (Int32.toNatClampNeg 5)) (v := Int32.ofInt (-1)) (by omega) (by omega)
    have hR29 := Rw_pi hR29 (k := (Int32.toNatClampNeg 5)) (v := Int32.ofInt (-1))
    have hR0 := Rw_ni hR0 (i := 518) (k := (Int32.toNatClampNeg 5)) (v := Int32.ofInt (-1)) (by omega)
    refine hs dX9_init_299 (hs dX9_init_302 ?_)
    show P 286 [.ref 489, .int 6] [] _ _ _ _
    refine hs dX9_init_286 (hs dX9_init_287 (hs dX9_init_289 (And.intro (fun c289 => ?_) (fun c289 => absurd (by decide) c289))))
    refine hs dX9_init_305 (And.intro (rfl) (And.intro rfl ?_))
    refine (fun z => hk _ _ _ z.1 z.2) (Bl_end hB (fun j h1 h2 h3 => ?_))
    · rcases (show j = 489 ∨ j = 518 by omega) with rfl | rfl
      · exact ⟨hR0.1.trans (lg0_row ly_489 (by decide)).symm, hR0.2.1.trans (Eq.symm (by rw [it0_row ly_489]; funext k; rcases k with _ | _ | _ | _ | k <;> simp [va_up, itk, ki_4])), hR0.2.2.trans (rowf tb_489 (by decide +kernel) (by intro k hk; replace hk : 61 ≤ k := hk; obtain ⟨k2, rfl⟩ := Nat.exists_eq_add_of_le' hk; simp [va_up, tn_0, tn_1, tn_2, tn_3, tn_4, tn_5, tn_6, tn_7, tn_8, tn_9, tn_10, tn_11, tn_12, tn_13, tn_14, tn_15, tn_16, tn_17, tn_18, tn_19, tn_20, tn_21])).symm⟩
      · exact ⟨hR29.1.trans (lg0_row ly_518 (by decide)).symm, hR29.2.1.trans (Eq.symm (by rw [it0_row ly_518]; funext k; rcases k with _ | _ | _ | _ | _ | _ | k <;> simp [va_up, itk, ki_m1, tn_0, tn_1, tn_2, tn_3, tn_4, tn_5])), hR29.2.2.trans (rowf tb_518 (by decide +kernel) (by intro k hk; replace hk : 0 ≤ k := hk; obtain ⟨k2, rfl⟩ := Nat.exists_eq_add_of_le' hk; simp [va_up, tn_0, tn_1, tn_2, tn_3, tn_4, tn_5, tn_6, tn_7, tn_8, tn_9, tn_10, tn_11, tn_12, tn_13, tn_14, tn_15, tn_16, tn_17, tn_18, tn_19, tn_20, tn_21])).symm⟩
  · exact h.elim
theorem sh_X9_init (as : List Value) (N : Nat) (lg : LGt) (it : ITt) (rf : RFt) (Q : Post) (h : sp_X9_init as N lg it rf Q) : ∃ j t, as = .ref j :: t := by
  unfold sp_X9_init at h
  split at h
  · exact ⟨_, _, rfl⟩
  · exact h.elim
theorem ct_X9_init {E : Ev} {l : Launch} : CT E l yX9_init (wsY yX9_init cX9_init 2 none) rm_X9_init 33 sp_X9_init := ct_of (T := T_X9_init) (own := RX9) (by decide) rfl (fun ci _ hc => by have h2 : (9 : Nat) = ci := Nat.eq_of_beq_eq_true hc; subst h2; exact ⟨rfl, rfl⟩) ⟨rfl, rfl⟩ ⟨fok_X9, clok_X9, jok_X9, List.forall_mem_cons.mpr ⟨cok_obj ml_X9_3 o_obj.1 o_obj.2 (by decide), fun _ h => absurd h List.not_mem_nil⟩⟩ bd_X9_init
