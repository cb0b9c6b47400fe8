/-! p1: the reference on a new object -/
theorem upi {lg : LGt} {it : ITt} {j k : Nat} {v : Int32} (h : Up lg it) (h1 : 489 ≤ j) (h2 : j < 523) (e : IT0 j k = v) : it j k = v := (congrFun (h j h1 h2).2 k).trans e
theorem upl {lg : LGt} {it : ITt} {j k : Nat} {v : Int64} (h : Up lg it) (h1 : 489 ≤ j) (h2 : j < 523) (e : LG0 j k = v) : lg j k = v := (congrFun (h j h1 h2).1 k).trans e
theorem u2x {α : Type} {f : Nat → Nat → α} {j k i l : Nat} {v : α} (h : i ≠ j ∨ l ≠ k) : u2 f j k v i l = f i l := by
  simp only [u2]; split
  · omega
  · rfl
theorem tm1 : ((0 : Int32) - 1).toInt = -1 := by decide
theorem nxi {t : Nat} (h : t < 6) : (nI t).toNatClampNeg = t := nI_clamp (by omega)
theorem ir9 : ∀ t, t < 6 → IT0 518 t = -1 ∧ IT0 519 t = 0 := by decide +kernel
theorem upt {lg : LGt} {it : ITt} {t : Nat} (h : Up lg it) (ht : t < 6) : it 518 (nI t).toNatClampNeg = -1 := by rw [nxi ht]; exact upi h (by decide) (by decide) (ir9 t ht).1
theorem ups {lg : LGt} {it : ITt} {t : Nat} (h : Up lg it) (ht : t < 6) : it 519 (nI t).toNatClampNeg = 0 := by rw [nxi ht]; exact upi h (by decide) (by decide) (ir9 t ht).2
theorem b2_bool {p : Prop} [Decidable p] : b2 p &&& 1 = b2 p := by unfold b2; split <;> decide
theorem nmul {t i : Nat} {a : Int32} (ta : a = nI t) : (60 : Int32) * a + nI i = nI (60 * t + i) := by
  subst ta; unfold nI; rw [Int32.ofNat_add, Int32.ofNat_mul]; rfl
theorem ln518 : (LAY 518).2 = 6 := by decide +kernel
theorem ln519 : (LAY 519).2 = 6 := by decide +kernel
theorem ln520 : (LAY 520).2 = 360 := by decide +kernel
theorem ob_489 : Ob NT 489 9 := ⟨by decide, by decide +kernel⟩
theorem r_489_21 : RF0 489 21 = some 501 := by decide +kernel
theorem r_489_4 : RF0 489 4 = some 490 := by decide +kernel
theorem ln_490 : (LAY 490).2 = 6 := by decide +kernel
theorem ob_490 : Ob NT 490 11 := ⟨by decide, by decide +kernel⟩
theorem ln_501 : (LAY 501).2 = 6 := by decide +kernel
theorem ob_501 : Ob NT 501 11 := ⟨by decide, by decide +kernel⟩
theorem r_489_22 : RF0 489 22 = some 502 := by decide +kernel
theorem r_489_5 : RF0 489 5 = some 491 := by decide +kernel
theorem ln_491 : (LAY 491).2 = 6 := by decide +kernel
theorem ob_491 : Ob NT 491 12 := ⟨by decide, by decide +kernel⟩
theorem ln_502 : (LAY 502).2 = 6 := by decide +kernel
theorem ob_502 : Ob NT 502 12 := ⟨by decide, by decide +kernel⟩
theorem r_489_23 : RF0 489 23 = some 503 := by decide +kernel
theorem r_489_6 : RF0 489 6 = some 492 := by decide +kernel
theorem ln_492 : (LAY 492).2 = 6 := by decide +kernel
theorem ob_492 : Ob NT 492 12 := ⟨by decide, by decide +kernel⟩
theorem ln_503 : (LAY 503).2 = 6 := by decide +kernel
theorem ob_503 : Ob NT 503 12 := ⟨by decide, by decide +kernel⟩
theorem r_489_24 : RF0 489 24 = some 504 := by decide +kernel
theorem r_489_7 : RF0 489 7 = some 493 := by decide +kernel
theorem ln_493 : (LAY 493).2 = 6 := by decide +kernel
theorem ob_493 : Ob NT 493 12 := ⟨by decide, by decide +kernel⟩
theorem ln_504 : (LAY 504).2 = 6 := by decide +kernel
theorem ob_504 : Ob NT 504 12 := ⟨by decide, by decide +kernel⟩
theorem r_489_25 : RF0 489 25 = some 505 := by decide +kernel
theorem r_489_8 : RF0 489 8 = some 494 := by decide +kernel
theorem ln_494 : (LAY 494).2 = 6 := by decide +kernel
theorem ob_494 : Ob NT 494 12 := ⟨by decide, by decide +kernel⟩
theorem ln_505 : (LAY 505).2 = 6 := by decide +kernel
theorem ob_505 : Ob NT 505 12 := ⟨by decide, by decide +kernel⟩
theorem vit_489_0 : IT0 489 0 = 0 := by decide +kernel
theorem vit_489_1 : IT0 489 1 = 4 := by decide +kernel
theorem vit_489_3 : IT0 489 3 = 4 := by decide +kernel
theorem vit_489_2 : IT0 489 2 = 4 := by decide +kernel
theorem vit_489_9 : IT0 489 9 = 0 := by decide +kernel
theorem vit_489_10 : IT0 489 10 = 0 := by decide +kernel
theorem vit_489_11 : IT0 489 11 = 0 := by decide +kernel
theorem vit_489_50 : IT0 489 50 = 0 := by decide +kernel
theorem r_489_49 : RF0 489 49 = some 513 := by decide +kernel
theorem ln_513 : (LAY 513).2 = 100 := by decide +kernel
theorem ob_513 : Ob NT 513 11 := ⟨by decide, by decide +kernel⟩
theorem r_489_12 : RF0 489 12 = some 495 := by decide +kernel
theorem ln_495 : (LAY 495).2 = 5 := by decide +kernel
theorem ob_495 : Ob NT 495 11 := ⟨by decide, by decide +kernel⟩
theorem r_489_13 : RF0 489 13 = some 496 := by decide +kernel
theorem ln_496 : (LAY 496).2 = 5 := by decide +kernel
theorem ob_496 : Ob NT 496 11 := ⟨by decide, by decide +kernel⟩
theorem r_489_16 : RF0 489 16 = some 499 := by decide +kernel
theorem ln_499 : (LAY 499).2 = 8 := by decide +kernel
theorem ob_499 : Ob NT 499 11 := ⟨by decide, by decide +kernel⟩
theorem r_489_17 : RF0 489 17 = some 500 := by decide +kernel
theorem ln_500 : (LAY 500).2 = 8 := by decide +kernel
theorem ob_500 : Ob NT 500 11 := ⟨by decide, by decide +kernel⟩
theorem r_489_14 : RF0 489 14 = some 497 := by decide +kernel
theorem ln_497 : (LAY 497).2 = 8 := by decide +kernel
theorem ob_497 : Ob NT 497 11 := ⟨by decide, by decide +kernel⟩
theorem r_489_15 : RF0 489 15 = some 498 := by decide +kernel
theorem ln_498 : (LAY 498).2 = 8 := by decide +kernel
theorem ob_498 : Ob NT 498 11 := ⟨by decide, by decide +kernel⟩
theorem vit_489_61 : IT0 489 61 = 0 := by decide +kernel
theorem r_489_56 : RF0 489 56 = some 518 := by decide +kernel
theorem r_489_57 : RF0 489 57 = some 519 := by decide +kernel
theorem r_489_58 : RF0 489 58 = some 520 := by decide +kernel
theorem r_489_60 : RF0 489 60 = some 522 := by decide +kernel
theorem ob_518 : Ob NT 518 11 := ⟨by decide, by decide +kernel⟩
theorem ob_519 : Ob NT 519 11 := ⟨by decide, by decide +kernel⟩
theorem ob_520 : Ob NT 520 12 := ⟨by decide, by decide +kernel⟩
theorem ln_522 : (LAY 522).2 = 80 := by decide +kernel
theorem ob_522 : Ob NT 522 12 := ⟨by decide, by decide +kernel⟩
def sp_X9_isIn : Spc := fun as N lg it rf K => match as with | [.long v, .long lo, .long hi] => K (some (.int (b2 (lo.toInt ≤ v.toInt ∧ v.toInt ≤ hi.toInt)))) lg it rf | _ => False
def T_X9_isIn : Tab := (FL_X9, CL_X9, JL_X9, [], 99, (some .boolean))
def rm_X9_isIn : Room := { frames := 0, cells := 0, slots := 0, locals := 0 }
set_option maxHeartbeats 16000000 in
set_option maxRecDepth 100000 in
theorem bd_X9_isIn (as : List Value) (N : Nat) (lg : LGt) (it : ITt) (rf : RFt) (Q : Post) (h : sp_X9_isIn as N lg it rf Q) : Bd T_X9_isIn cX9_isIn 6 0 as N lg it rf Q := by
  unfold sp_X9_isIn at h
  split at h
  · rename_i v lo hi
    refine ⟨Nat.le_of_ble_eq_true rfl, fun P hs hw => ?_⟩
    have hk := h
    refine hs dX9_isIn_0 (hs dX9_isIn_1 (hs dX9_isIn_2 (hs dX9_isIn_3 (And.intro (fun c3 => ?_) (fun c3 => ?_)))))
    · try dsimp only at c3
      try simp only [ki_0, ki_1] at c3
      refine hs dX9_isIn_17 (hs dX9_isIn_18 (And.intro (rfl) (And.intro rfl (And.intro (rfl) ?_))))
      try simp only [ki_0, ki_1, b2_0, b2_1, lg_cmp_lt, lg_cmp_gt, lg_cmp_le, lg_cmp_ge, lg_cmp_eq] at c3
      try simp only [Int32.lt_iff_toInt_lt, Int32.le_iff_toInt_le, ← Int32.toInt_inj, ti_0, ti_1, Int64.lt_iff_toInt_lt, Int64.le_iff_toInt_le, Int32.toInt_toInt64, tj_0, tj_1, lg_cmp_lt, lg_cmp_gt, lg_cmp_le, lg_cmp_ge, lg_cmp_eq] at c3
      have e : b2 (lo.toInt ≤ v.toInt ∧ v.toInt ≤ hi.toInt) = 0 := b2_n (by omega)
      rw [e] at hk
      exact hk
    · try dsimp only at c3
      try simp only [ki_0, ki_1] at c3
      refine hs dX9_isIn_6 (hs dX9_isIn_7 (hs dX9_isIn_9 (hs dX9_isIn_10 (And.intro (fun c10 => ?_) (fun c10 => ?_)))))
      · try dsimp only at c10
        try simp only [ki_0, ki_1] at c10
        refine hs dX9_isIn_17 (hs dX9_isIn_18 (And.intro (rfl) (And.intro rfl (And.intro (rfl) ?_))))
        try simp only [ki_0, ki_1, b2_0, b2_1, lg_cmp_lt, lg_cmp_gt, lg_cmp_le, lg_cmp_ge, lg_cmp_eq] at c3 c10
        try simp only [Int32.lt_iff_toInt_lt, Int32.le_iff_toInt_le, ← Int32.toInt_inj, ti_0, ti_1, Int64.lt_iff_toInt_lt, Int64.le_iff_toInt_le, Int32.toInt_toInt64, tj_0, tj_1, lg_cmp_lt, lg_cmp_gt, lg_cmp_le, lg_cmp_ge, lg_cmp_eq] at c3 c10
        have e : b2 (lo.toInt ≤ v.toInt ∧ v.toInt ≤ hi.toInt) = 0 := b2_n (by omega)
        rw [e] at hk
        exact hk
      · try dsimp only at c10
        try simp only [ki_0, ki_1] at c10
        refine hs dX9_isIn_13 (hs dX9_isIn_14 (hs dX9_isIn_18 (And.intro (rfl) (And.intro rfl (And.intro (rfl) ?_)))))
        try simp only [ki_0, ki_1, b2_0, b2_1, lg_cmp_lt, lg_cmp_gt, lg_cmp_le, lg_cmp_ge, lg_cmp_eq] at c3 c10
        try simp only [Int32.lt_iff_toInt_lt, Int32.le_iff_toInt_le, ← Int32.toInt_inj, ti_0, ti_1, Int64.lt_iff_toInt_lt, Int64.le_iff_toInt_le, Int32.toInt_toInt64, tj_0, tj_1, lg_cmp_lt, lg_cmp_gt, lg_cmp_le, lg_cmp_ge, lg_cmp_eq] at c3 c10
        have e : b2 (lo.toInt ≤ v.toInt ∧ v.toInt ≤ hi.toInt) = 1 := b2_p (by omega)
        rw [e] at hk
        exact hk
  · exact h.elim
theorem ct_X9_isIn {E : Ev} {l : Launch} : CT E l yX9_isIn (wsY yX9_isIn cX9_isIn 6 (some .boolean)) rm_X9_isIn 0 sp_X9_isIn := ct_of (T := T_X9_isIn) (own := RX9) (by decide) rfl (fun ci h10 hc => by have h2 : (99 : Nat) = ci := Nat.eq_of_beq_eq_true hc; omega) ⟨rfl, rfl⟩ ⟨fok_X9, clok_X9, jok_X9, fun _ h => absurd h List.not_mem_nil⟩ bd_X9_isIn
def sp_X9_isPart : Spc := fun as N lg it rf K => match as with | [.int a] => K (some (.int (b2 ((0 ≤ a.toInt ∧ a.toInt ≤ 1))))) lg it rf | _ => False
def T_X9_isPart : Tab := (FL_X9, CL_X9, JL_X9, [(266, 1, 3, 0, 0, sp_X9_isIn)], 99, (some .boolean))
def rm_X9_isPart : Room := { frames := 1, cells := 0, slots := 0, locals := 25 }
set_option maxHeartbeats 16000000 in
set_option maxRecDepth 100000 in
theorem bd_X9_isPart (as : List Value) (N : Nat) (lg : LGt) (it : ITt) (rf : RFt) (Q : Post) (h : sp_X9_isPart as N lg it rf Q) : Bd T_X9_isPart cX9_isPart 1 0 as N lg it rf Q := by
  unfold sp_X9_isPart at h
  split at h
  · rename_i a
    refine ⟨Nat.le_of_ble_eq_true rfl, fun P hs hw => ?_⟩
    have hk := h
    refine hs dX9_isPart_0 (hs dX9_isPart_1 (hs dX9_isPart_2 (hs dX9_isPart_3 (hs dX9_isPart_4 (And.intro (trivial) (n0 (gx (v := (b2 (0 ≤ a.toInt ∧ a.toInt ≤ 1))) (by simp only [kl_0, kl_1, kl_0, kl_1, Int32.toInt_toInt64, tm1, tj_m9223372036854775808, tj_m9, tj_m1, tj_0, tj_1, tj_2, tj_3, tj_4, tj_5, tj_9, tj_10, tj_19, tj_20, tj_48, tj_57, tj_99, tj_100, tj_127]) ?_ )))))))
    refine hs dX9_isPart_7 (And.intro (rfl) (And.intro rfl (And.intro (b2_bool) ?_)))
    exact hk
  · exact h.elim
theorem ct_X9_isPart {E : Ev} {l : Launch} : CT E l yX9_isPart (wsY yX9_isPart cX9_isPart 1 (some .boolean)) rm_X9_isPart 0 sp_X9_isPart := ct_of (T := T_X9_isPart) (own := RX9) (by decide) rfl (fun ci h10 hc => by have h2 : (99 : Nat) = ci := Nat.eq_of_beq_eq_true hc; omega) ⟨rfl, rfl⟩ ⟨fok_X9, clok_X9, jok_X9, List.forall_mem_cons.mpr ⟨cok_S ct_X9_isIn ((cl_ins (c := 9) (by decide)).2) ml_X9_266 im_X9_isIn co_X9_isIn mo_X9_isIn (by decide), fun _ h => absurd h List.not_mem_nil⟩⟩ bd_X9_isPart
def sp_X9_isTape : Spc := fun as N lg it rf K => match as with | [.int a] => K (some (.int (b2 ((0 ≤ a.toInt ∧ a.toInt ≤ 5))))) lg it rf | _ => False
def T_X9_isTape : Tab := (FL_X9, CL_X9, JL_X9, [(266, 1, 3, 0, 0, sp_X9_isIn)], 99, (some .boolean))
def rm_X9_isTape : Room := { frames := 1, cells := 0, slots := 0, locals := 25 }
set_option maxHeartbeats 16000000 in
set_option maxRecDepth 100000 in
theorem bd_X9_isTape (as : List Value) (N : Nat) (lg : LGt) (it : ITt) (rf : RFt) (Q : Post) (h : sp_X9_isTape as N lg it rf Q) : Bd T_X9_isTape cX9_isTape 1 0 as N lg it rf Q := by
  unfold sp_X9_isTape at h
  split at h
  · rename_i a
    refine ⟨Nat.le_of_ble_eq_true rfl, fun P hs hw => ?_⟩
    have hk := h
    refine hs dX9_isTape_0 (hs dX9_isTape_1 (hs dX9_isTape_2 (hs dX9_isTape_3 (hs dX9_isTape_6 (And.intro (trivial) (n0 (gx (v := (b2 (0 ≤ a.toInt ∧ a.toInt ≤ (5)))) (by simp only [kl_0, kl_0, kl_1, Int32.toInt_toInt64, tm1, tj_m9223372036854775808, tj_m9, tj_m1, tj_0, tj_1, tj_2, tj_3, tj_4, tj_5, tj_9, tj_10, tj_19, tj_20, tj_48, tj_57, tj_99, tj_100, tj_127]) ?_ )))))))
    refine hs dX9_isTape_9 (And.intro (rfl) (And.intro rfl (And.intro (b2_bool) ?_)))
    exact hk
  · exact h.elim
theorem ct_X9_isTape {E : Ev} {l : Launch} : CT E l yX9_isTape (wsY yX9_isTape cX9_isTape 1 (some .boolean)) rm_X9_isTape 0 sp_X9_isTape := ct_of (T := T_X9_isTape) (own := RX9) (by decide) rfl (fun ci h10 hc => by have h2 : (99 : Nat) = ci := Nat.eq_of_beq_eq_true hc; omega) ⟨rfl, rfl⟩ ⟨fok_X9, clok_X9, jok_X9, List.forall_mem_cons.mpr ⟨cok_S ct_X9_isIn ((cl_ins (c := 9) (by decide)).2) ml_X9_266 im_X9_isIn co_X9_isIn mo_X9_isIn (by decide), fun _ h => absurd h List.not_mem_nil⟩⟩ bd_X9_isTape
def sp_X9_isWhere : Spc := fun as N lg it rf K => match as with | [.int a] => K (some (.int (b2 ((0 ≤ a.toInt ∧ a.toInt ≤ 5) ∨ a.toInt = 9)))) lg it rf | _ => False
def T_X9_isWhere : Tab := (FL_X9, CL_X9, JL_X9, [(266, 1, 3, 0, 0, sp_X9_isIn)], 99, (some .boolean))
def rm_X9_isWhere : Room := { frames := 1, cells := 0, slots := 0, locals := 25 }
set_option maxHeartbeats 16000000 in
set_option maxRecDepth 100000 in
theorem bd_X9_isWhere (as : List Value) (N : Nat) (lg : LGt) (it : ITt) (rf : RFt) (Q : Post) (h : sp_X9_isWhere as N lg it rf Q) : Bd T_X9_isWhere cX9_isWhere 1 0 as N lg it rf Q := by
  unfold sp_X9_isWhere at h
  split at h
  · rename_i a
    refine ⟨Nat.le_of_ble_eq_true rfl, fun P hs hw => ?_⟩
    have hk := h
    refine hs dX9_isWhere_0 (hs dX9_isWhere_1 (hs dX9_isWhere_2 (hs dX9_isWhere_3 (hs dX9_isWhere_6 (And.intro (trivial) (n0 (gx (v := (b2 (0 ≤ a.toInt ∧ a.toInt ≤ (5)))) (by simp only [kb_9, ki_0, ki_1, kl_0, kl_0, kl_1, Int32.toInt_toInt64, tm1, tj_m9223372036854775808, tj_m9, tj_m1, tj_0, tj_1, tj_2, tj_3, tj_4, tj_5, tj_9, tj_10, tj_19, tj_20, tj_48, tj_57, tj_99, tj_100, tj_127]) ?_ )))))))
    refine hs dX9_isWhere_9 (And.intro (fun c9 => ?_) (fun c9 => ?_))
    · try dsimp only at c9
      try simp only [kb_9, ki_0, ki_1, kl_0] at c9
      refine hs dX9_isWhere_18 (hs dX9_isWhere_19 (hs dX9_isWhere_23 (And.intro (rfl) (And.intro rfl (And.intro (rfl) ?_)))))
      try simp only [kb_9, ki_0, ki_1, kl_0, b2_0, b2_1] at c9
      try simp only [Int32.lt_iff_toInt_lt, Int32.le_iff_toInt_le, ← Int32.toInt_inj, ti_0, ti_1, ti_9] at c9
      have e : b2 ((0 ≤ a.toInt ∧ a.toInt ≤ 5) ∨ a.toInt = 9) = 1 := b2_p (by omega)
      rw [e] at hk
      exact hk
    · try dsimp only at c9
      try simp only [kb_9, ki_0, ki_1, kl_0] at c9
      refine hs dX9_isWhere_12 (hs dX9_isWhere_13 (hs dX9_isWhere_15 (And.intro (fun c15 => ?_) (fun c15 => ?_))))
      · try dsimp only at c15
        try simp only [kb_9, ki_0, ki_1, kl_0] at c15
        refine hs dX9_isWhere_22 (hs dX9_isWhere_23 (And.intro (rfl) (And.intro rfl (And.intro (rfl) ?_))))
        try simp only [kb_9, ki_0, ki_1, kl_0, b2_0, b2_1] at c9 c15
        try simp only [Int32.lt_iff_toInt_lt, Int32.le_iff_toInt_le, ← Int32.toInt_inj, ti_0, ti_1, ti_9] at c9 c15
        have e : b2 ((0 ≤ a.toInt ∧ a.toInt ≤ 5) ∨ a.toInt = 9) = 0 := b2_n (by omega)
        rw [e] at hk
        exact hk
      · try dsimp only at c15
        try simp only [kb_9, ki_0, ki_1, kl_0] at c15
        refine hs dX9_isWhere_18 (hs dX9_isWhere_19 (hs dX9_isWhere_23 (And.intro (rfl) (And.intro rfl (And.intro (rfl) ?_)))))
        try simp only [kb_9, ki_0, ki_1, kl_0, b2_0, b2_1] at c9 c15
        try simp only [Int32.lt_iff_toInt_lt, Int32.le_iff_toInt_le, ← Int32.toInt_inj, ti_0, ti_1, ti_9] at c9 c15
        have e : b2 ((0 ≤ a.toInt ∧ a.toInt ≤ 5) ∨ a.toInt = 9) = 1 := b2_p (by omega)
        rw [e] at hk
        exact hk
  · exact h.elim
theorem ct_X9_isWhere {E : Ev} {l : Launch} : CT E l yX9_isWhere (wsY yX9_isWhere cX9_isWhere 1 (some .boolean)) rm_X9_isWhere 0 sp_X9_isWhere := ct_of (T := T_X9_isWhere) (own := RX9) (by decide) rfl (fun ci h10 hc => by have h2 : (99 : Nat) = ci := Nat.eq_of_beq_eq_true hc; omega) ⟨rfl, rfl⟩ ⟨fok_X9, clok_X9, jok_X9, List.forall_mem_cons.mpr ⟨cok_S ct_X9_isIn ((cl_ins (c := 9) (by decide)).2) ml_X9_266 im_X9_isIn co_X9_isIn mo_X9_isIn (by decide), fun _ h => absurd h List.not_mem_nil⟩⟩ bd_X9_isWhere
def sp_X9_wallTold : Spc := fun as N lg it rf K => match as with | [.int a] => a = 4 ∧ K (some (.int 4)) lg it rf | _ => False
def T_X9_wallTold : Tab := (FL_X9, CL_X9, JL_X9, [], 99, (some .int))
def rm_X9_wallTold : Room := { frames := 0, cells := 0, slots := 0, locals := 0 }
set_option maxHeartbeats 16000000 in
set_option maxRecDepth 100000 in
theorem bd_X9_wallTold (as : List Value) (N : Nat) (lg : LGt) (it : ITt) (rf : RFt) (Q : Post) (h : sp_X9_wallTold as N lg it rf Q) : Bd T_X9_wallTold cX9_wallTold 1 0 as N lg it rf Q := by
  unfold sp_X9_wallTold at h
  split at h
  · rename_i a
    refine ⟨Nat.le_of_ble_eq_true rfl, fun P hs hw => ?_⟩
    obtain ⟨rfl, hk⟩ := h
    refine hs dX9_wallTold_0 (hs dX9_wallTold_1 (And.intro (fun c1 => ?_) (fun c1 => absurd (by decide) c1)))
    refine hs dX9_wallTold_9 (hs dX9_wallTold_10 (And.intro (rfl) (And.intro rfl ?_)))
    exact hk
  · exact h.elim
theorem ct_X9_wallTold {E : Ev} {l : Launch} : CT E l yX9_wallTold (wsY yX9_wallTold cX9_wallTold 1 (some .int)) rm_X9_wallTold 0 sp_X9_wallTold := ct_of (T := T_X9_wallTold) (own := RX9) (by decide) rfl (fun ci h10 hc => by have h2 : (99 : Nat) = ci := Nat.eq_of_beq_eq_true hc; omega) ⟨rfl, rfl⟩ ⟨fok_X9, clok_X9, jok_X9, fun _ h => absurd h List.not_mem_nil⟩ bd_X9_wallTold
def sp_X9_isBumper : Spc := fun as N lg it rf K => match as with | [.ref 489, .int a] => (N = NT ∧ rf = RF0 ∧ it 489 0 = 0) ∧ K (some (.int 0)) lg it rf | _ => False
def T_X9_isBumper : Tab := (FL_X9, CL_X9, JL_X9, [(266, 1, 3, 0, 0, sp_X9_isIn)], 99, (some .boolean))
def rm_X9_isBumper : Room := { frames := 1, cells := 0, slots := 0, locals := 25 }
set_option maxHeartbeats 16000000 in
set_option maxRecDepth 100000 in
theorem bd_X9_isBumper (as : List Value) (N : Nat) (lg : LGt) (it : ITt) (rf : RFt) (Q : Post) (h : sp_X9_isBumper as N lg it rf Q) : Bd T_X9_isBumper cX9_isBumper 2 0 as N lg it rf Q := by
  unfold sp_X9_isBumper at h
  split at h
  · rename_i a
    refine ⟨Nat.le_of_ble_eq_true rfl, fun P hs hw => ?_⟩
    obtain ⟨⟨rfl, rfl, hb⟩, hk⟩ := h
    refine hs dX9_isBumper_0 (hs dX9_isBumper_1 (hs dX9_isBumper_2 (hs dX9_isBumper_3 (hs dX9_isBumper_4 (And.intro (ob_489) (gx (v := 0) (by simp [u2, sL, sI, mx, zr, hb]) (hs dX9_isBumper_7 (hs dX9_isBumper_8 (hs dX9_isBumper_9 (hs dX9_isBumper_10 (And.intro (trivial) (n0 (gx (v := (b2 (0 ≤ a.toInt ∧ a.toInt ≤ (-1)))) (by simp only [ki_1, kl_0, kl_0, kl_1, Int32.toInt_toInt64, tm1, tj_m9223372036854775808, tj_m9, tj_m1, tj_0, tj_1, tj_2, tj_3, tj_4, tj_5, tj_9, tj_10, tj_19, tj_20, tj_48, tj_57, tj_99, tj_100, tj_127]) ?_ )))))))))))))
    refine hs dX9_isBumper_13 (And.intro (rfl) (And.intro rfl (And.intro (b2_bool) ?_)))
    have e : b2 (0 ≤ a.toInt ∧ a.toInt ≤ (-1)) = 0 := b2_n (by omega)
    rw [e]
    exact hk
  · exact h.elim
theorem ct_X9_isBumper {E : Ev} {l : Launch} : CT E l yX9_isBumper (wsY yX9_isBumper cX9_isBumper 2 (some .boolean)) rm_X9_isBumper 0 sp_X9_isBumper := ct_of (T := T_X9_isBumper) (own := RX9) (by decide) rfl (fun ci h10 hc => by have h2 : (99 : Nat) = ci := Nat.eq_of_beq_eq_true hc; omega) ⟨rfl, rfl⟩ ⟨fok_X9, clok_X9, jok_X9, List.forall_mem_cons.mpr ⟨cok_S ct_X9_isIn ((cl_ins (c := 9) (by decide)).2) ml_X9_266 im_X9_isIn co_X9_isIn mo_X9_isIn (by decide), fun _ h => absurd h List.not_mem_nil⟩⟩ bd_X9_isBumper
def sp_X9_isBeyond : Spc := fun as N lg it rf K => match as with | [.ref 489, .int a] => (N = NT ∧ rf = RF0 ∧ it 489 0 = 0) ∧ K (some (.int 0)) lg (u2 it 489 20 0) rf | _ => False
def T_X9_isBeyond : Tab := (FL_X9, CL_X9, JL_X9, [], 99, (some .boolean))
def rm_X9_isBeyond : Room := { frames := 0, cells := 0, slots := 0, locals := 0 }
set_option maxHeartbeats 16000000 in
set_option maxRecDepth 100000 in
theorem bd_X9_isBeyond (as : List Value) (N : Nat) (lg : LGt) (it : ITt) (rf : RFt) (Q : Post) (h : sp_X9_isBeyond as N lg it rf Q) : Bd T_X9_isBeyond cX9_isBeyond 4 0 as N lg it rf Q := by
  unfold sp_X9_isBeyond at h
  split at h
  · rename_i a
    refine ⟨Nat.le_of_ble_eq_true rfl, fun P hs hw => ?_⟩
    obtain ⟨⟨rfl, rfl, hb⟩, hk⟩ := h
    refine hs dX9_isBeyond_0 (hs dX9_isBeyond_1 (hs dX9_isBeyond_2 (hs dX9_isBeyond_3 (hs dX9_isBeyond_4 (hs dX9_isBeyond_5 (hs dX9_isBeyond_6 (And.intro (ob_489) (gx (v := 0) (by simp [u2, sL, sI, mx, zr, hb]) (hs dX9_isBeyond_9 (And.intro (fun c9 => ?_) (fun c9 => absurd (by decide) c9)))))))))))
    refine hs dX9_isBeyond_93 (hs dX9_isBeyond_94 (hs dX9_isBeyond_95 (And.intro (ob_489) (And.intro (rfl) (hs dX9_isBeyond_98 (hs dX9_isBeyond_99 (And.intro (rfl) (And.intro rfl (And.intro (rfl) ?_)))))))))
    exact hk
  · exact h.elim
theorem ct_X9_isBeyond {E : Ev} {l : Launch} : CT E l yX9_isBeyond (wsY yX9_isBeyond cX9_isBeyond 4 (some .boolean)) rm_X9_isBeyond 0 sp_X9_isBeyond := ct_of (T := T_X9_isBeyond) (own := RX9) (by decide) rfl (fun ci h10 hc => by have h2 : (99 : Nat) = ci := Nat.eq_of_beq_eq_true hc; omega) ⟨rfl, rfl⟩ ⟨fok_X9, clok_X9, jok_X9, fun _ h => absurd h List.not_mem_nil⟩ bd_X9_isBeyond
def sp_X9_minds : Spc := fun as N lg it rf K => match as with | [.ref 489] => (N = NT ∧ rf = RF0) ∧ ∀ lg' it', (∀ k, k ≠ 30 ∧ k ≠ 31 ∧ k ≠ 32 → it' 489 k = it 489 k) → K none lg' it' rf | _ => False
def T_X9_minds : Tab := (FL_X9, CL_X9, JL_X9, [], 99, none)
def rm_X9_minds : Room := { frames := 0, cells := 0, slots := 0, locals := 0 }
set_option maxHeartbeats 16000000 in
set_option maxRecDepth 100000 in
theorem bd_X9_minds (as : List Value) (N : Nat) (lg : LGt) (it : ITt) (rf : RFt) (Q : Post) (h : sp_X9_minds as N lg it rf Q) : Bd T_X9_minds cX9_minds 2 0 as N lg it rf Q := by
  unfold sp_X9_minds at h
  split at h
  · refine ⟨Nat.le_of_ble_eq_true rfl, fun P hs hw => ?_⟩
    obtain ⟨⟨rfl, rfl⟩, hk⟩ := h
    refine hs dX9_minds_0 (hs dX9_minds_1 (hs dX9_minds_2 (hs dX9_minds_3 (hs dX9_minds_5 (And.intro (fun c5 => absurd c5 (by decide)) (fun c5 => (hs dX9_minds_8 (hs dX9_minds_9 (And.intro (ob_489) (gr (r_489_21) (hs dX9_minds_12 (hs dX9_minds_13 (hs dX9_minds_14 (And.intro (ob_489) (gr (r_489_4) (hs dX9_minds_17 (hs dX9_minds_18 (And.intro (ob_490) (And.intro (vin ln_490 (by decide)) (hs dX9_minds_19 (And.intro (ob_501) (And.intro (vin ln_501 (by decide)) (hs dX9_minds_20 (hs dX9_minds_21 (And.intro (ob_489) (gr (r_489_22) (hs dX9_minds_24 (hs dX9_minds_25 (hs dX9_minds_26 (And.intro (ob_489) (gr (r_489_5) (hs dX9_minds_29 (hs dX9_minds_30 (And.intro (ob_491) (And.intro (vin ln_491 (by decide)) (hs dX9_minds_31 (And.intro (ob_502) (And.intro (vin ln_502 (by decide)) (hs dX9_minds_32 (hs dX9_minds_33 (And.intro (ob_489) (gr (r_489_23) (hs dX9_minds_36 (hs dX9_minds_37 (hs dX9_minds_38 (And.intro (ob_489) (gr (r_489_6) (hs dX9_minds_41 (hs dX9_minds_42 (And.intro (ob_492) (And.intro (vin ln_492 (by decide)) (hs dX9_minds_43 (And.intro (ob_503) (And.intro (vin ln_503 (by decide)) (hs dX9_minds_44 (hs dX9_minds_45 (And.intro (ob_489) (gr (r_489_24) (hs dX9_minds_48 (hs dX9_minds_49 (hs dX9_minds_50 (And.intro (ob_489) (gr (r_489_7) (hs dX9_minds_53 (hs dX9_minds_54 (And.intro (ob_493) (And.intro (vin ln_493 (by decide)) (hs dX9_minds_55 (And.intro (ob_504) (And.intro (vin ln_504 (by decide)) (hs dX9_minds_56 (hs dX9_minds_57 (And.intro (ob_489) (gr (r_489_25) (hs dX9_minds_60 (hs dX9_minds_61 (hs dX9_minds_62 (And.intro (ob_489) (gr (r_489_8) (hs dX9_minds_65 (hs dX9_minds_66 (And.intro (ob_494) (And.intro (vin ln_494 (by decide)) (hs dX9_minds_67 (And.intro (ob_505) (And.intro (vin ln_505 (by decide)) (hs dX9_minds_68 (hs dX9_minds_71 (hs dX9_minds_2 (hs dX9_minds_3 (hs dX9_minds_5 (And.intro (fun c5 => absurd c5 (by decide)) (fun c5 => (hs dX9_minds_8 (hs dX9_minds_9 (And.intro (ob_489) (gr (r_489_21) (hs dX9_minds_12 (hs dX9_minds_13 (hs dX9_minds_14 (And.intro (ob_489) (gr (r_489_4) (hs dX9_minds_17 (hs dX9_minds_18 (And.intro (ob_490) (And.intro (vin ln_490 (by decide)) (hs dX9_minds_19 (And.intro (ob_501) (And.intro (vin ln_501 (by decide)) (hs dX9_minds_20 (hs dX9_minds_21 (And.intro (ob_489) (gr (r_489_22) (hs dX9_minds_24 (hs dX9_minds_25 (hs dX9_minds_26 (And.intro (ob_489) (gr (r_489_5) (hs dX9_minds_29 (hs dX9_minds_30 (And.intro (ob_491) (And.intro (vin ln_491 (by decide)) (hs dX9_minds_31 (And.intro (ob_502) (And.intro (vin ln_502 (by decide)) (hs dX9_minds_32 (hs dX9_minds_33 (And.intro (ob_489) (gr (r_489_23) (hs dX9_minds_36 (hs dX9_minds_37 (hs dX9_minds_38 (And.intro (ob_489) (gr (r_489_6) (hs dX9_minds_41 (hs dX9_minds_42 (And.intro (ob_492) (And.intro (vin ln_492 (by decide)) (hs dX9_minds_43 (And.intro (ob_503) (And.intro (vin ln_503 (by decide)) (hs dX9_minds_44 (hs dX9_minds_45 (And.intro (ob_489) (gr (r_489_24) (hs dX9_minds_48 (hs dX9_minds_49 (hs dX9_minds_50 (And.intro (ob_489) (gr (r_489_7) (hs dX9_minds_53 (hs dX9_minds_54 (And.intro (ob_493) (And.intro (vin ln_493 (by decide)) (hs dX9_minds_55 (And.intro (ob_504) (And.intro (vin ln_504 (by decide)) (hs dX9_minds_56 (hs dX9_minds_57 (And.intro (ob_489) (gr (r_489_25) (hs dX9_minds_60 (hs dX9_minds_61 (hs dX9_minds_62 (And.intro (ob_489) (gr (r_489_8) (hs dX9_minds_65 (hs dX9_minds_66 (And.intro (ob_494) (And.intro (vin ln_494 (by decide)) (hs dX9_minds_67 (And.intro (ob_505) (And.intro (vin ln_505 (by decide)) (hs dX9_minds_68 (hs dX9_minds_71 (hs dX9_minds_2 (hs dX9_minds_3 (hs dX9_minds_5 (And.intro (fun c5 => absurd c5 (by decide)) (fun c5 => (hs dX9_minds_8 (hs dX9_minds_9 (And.intro (ob_489) (gr (r_489_21) (hs dX9_minds_12 (hs dX9_minds_13 (hs dX9_minds_14 (And.intro (ob_489) (gr (r_489_4) (hs dX9_minds_17 (hs dX9_minds_18 (And.intro (ob_490) (And.intro (vin ln_490 (by decide)) (hs dX9_minds_19 (And.intro (ob_501) (And.intro (vin ln_501 (by decide)) (hs dX9_minds_20 (hs dX9_minds_21 (And.intro (ob_489) (gr (r_489_22) (hs dX9_minds_24 (hs dX9_minds_25 (hs dX9_minds_26 (And.intro (ob_489) (gr (r_489_5) (hs dX9_minds_29 (hs dX9_minds_30 (And.intro (ob_491) (And.intro (vin ln_491 (by decide)) (hs dX9_minds_31 (And.intro (ob_502) (And.intro (vin ln_502 (by decide)) (hs dX9_minds_32 (hs dX9_minds_33 (And.intro (ob_489) (gr (r_489_23) (hs dX9_minds_36 (hs dX9_minds_37 (hs dX9_minds_38 (And.intro (ob_489) (gr (r_489_6) (hs dX9_minds_41 (hs dX9_minds_42 (And.intro (ob_492) (And.intro (vin ln_492 (by decide)) (hs dX9_minds_43 (And.intro (ob_503) (And.intro (vin ln_503 (by decide)) (hs dX9_minds_44 (hs dX9_minds_45 (And.intro (ob_489) (gr (r_489_24) (hs dX9_minds_48 (hs dX9_minds_49 (hs dX9_minds_50 (And.intro (ob_489) (gr (r_489_7) (hs dX9_minds_53 (hs dX9_minds_54 (And.intro (ob_493) (And.intro (vin ln_493 (by decide)) (hs dX9_minds_55 (And.intro (ob_504) (And.intro (vin ln_504 (by decide)) (hs dX9_minds_56 (hs dX9_minds_57 (And.intro (ob_489) (gr (r_489_25) (hs dX9_minds_60 (hs dX9_minds_61 (hs dX9_minds_62 (And.intro (ob_489) (gr (r_489_8) (hs dX9_minds_65 (hs dX9_minds_66 (And.intro (ob_494) (And.intro (vin ln_494 (by decide)) (hs dX9_minds_67 (And.intro (ob_505) (And.intro (vin ln_505 (by decide)) (hs dX9_minds_68 (hs dX9_minds_71 (hs dX9_minds_2 (hs dX9_minds_3 (hs dX9_minds_5 (And.intro (fun c5 => absurd c5 (by decide)) (fun c5 => (hs dX9_minds_8 (hs dX9_minds_9 (And.intro (ob_489) (gr (r_489_21) (hs dX9_minds_12 (hs dX9_minds_13 (hs dX9_minds_14 (And.intro (ob_489) (gr (r_489_4) (hs dX9_minds_17 (hs dX9_minds_18 (And.intro (ob_490) (And.intro (vin ln_490 (by decide)) (hs dX9_minds_19 (And.intro (ob_501) (And.intro (vin ln_501 (by decide)) (hs dX9_minds_20 (hs dX9_minds_21 (And.intro (ob_489) (gr (r_489_22) (hs dX9_minds_24 (hs dX9_minds_25 (hs dX9_minds_26 (And.intro (ob_489) (gr (r_489_5) (hs dX9_minds_29 (hs dX9_minds_30 (And.intro (ob_491) (And.intro (vin ln_491 (by decide)) (hs dX9_minds_31 (And.intro (ob_502) (And.intro (vin ln_502 (by decide)) (hs dX9_minds_32 (hs dX9_minds_33 (And.intro (ob_489) (gr (r_489_23) (hs dX9_minds_36 (hs dX9_minds_37 (hs dX9_minds_38 (And.intro (ob_489) (gr (r_489_6) (hs dX9_minds_41 (hs dX9_minds_42 (And.intro (ob_492) (And.intro (vin ln_492 (by decide)) (hs dX9_minds_43 (And.intro (ob_503) (And.intro (vin ln_503 (by decide)) (hs dX9_minds_44 (hs dX9_minds_45 (And.intro (ob_489) (gr (r_489_24) (hs dX9_minds_48 (hs dX9_minds_49 (hs dX9_minds_50 (And.intro (ob_489) (gr (r_489_7) (hs dX9_minds_53 (hs dX9_minds_54 (And.intro (ob_493) (And.intro (vin ln_493 (by decide)) (hs dX9_minds_55 (And.intro (ob_504) (And.intro (vin ln_504 (by decide)) (hs dX9_minds_56 (hs dX9_minds_57 (And.intro (ob_489) (gr (r_489_25) (hs dX9_minds_60 (hs dX9_minds_61 (hs dX9_minds_62 (And.intro (ob_489) (gr (r_489_8) (hs dX9_minds_65 (hs dX9_minds_66 (And.intro (ob_494) (And.intro (vin ln_494 (by decide)) (hs dX9_minds_67 (And.intro (ob_505) (And.intro (vin ln_505 (by decide)) (hs dX9_minds_68 (hs dX9_minds_71 (hs dX9_minds_2 (hs dX9_minds_3 (hs dX9_minds_5 (And.intro (fun c5 => absurd c5 (by decide)) (fun c5 => (hs dX9_minds_8 (hs dX9_minds_9 (And.intro (ob_489) (gr (r_489_21) (hs dX9_minds_12 (hs dX9_minds_13 (hs dX9_minds_14 (And.intro (ob_489) (gr (r_489_4) (hs dX9_minds_17 (hs dX9_minds_18 (And.intro (ob_490) (And.intro (vin ln_490 (by decide)) (hs dX9_minds_19 (And.intro (ob_501) (And.intro (vin ln_501 (by decide)) (hs dX9_minds_20 (hs dX9_minds_21 (And.intro (ob_489) (gr (r_489_22) (hs dX9_minds_24 (hs dX9_minds_25 (hs dX9_minds_26 (And.intro (ob_489) (gr (r_489_5) (hs dX9_minds_29 (hs dX9_minds_30 (And.intro (ob_491) (And.intro (vin ln_491 (by decide)) (hs dX9_minds_31 (And.intro (ob_502) (And.intro (vin ln_502 (by decide)) (hs dX9_minds_32 (hs dX9_minds_33 (And.intro (ob_489) (gr (r_489_23) (hs dX9_minds_36 (hs dX9_minds_37 (hs dX9_minds_38 (And.intro (ob_489) (gr (r_489_6) (hs dX9_minds_41 (hs dX9_minds_42 (And.intro (ob_492) (And.intro (vin ln_492 (by decide)) (hs dX9_minds_43 (And.intro (ob_503) (And.intro (vin ln_503 (by decide)) (hs dX9_minds_44 (hs dX9_minds_45 (And.intro (ob_489) (gr (r_489_24) (hs dX9_minds_48 (hs dX9_minds_49 (hs dX9_minds_50 (And.intro (ob_489) (gr (r_489_7) (hs dX9_minds_53 (hs dX9_minds_54 (And.intro (ob_493) (And.intro (vin ln_493 (by decide)) (hs dX9_minds_55 (And.intro (ob_504) (And.intro (vin ln_504 (by decide)) (hs dX9_minds_56 (hs dX9_minds_57 (And.intro (ob_489) (gr (r_489_25) (hs dX9_minds_60 (hs dX9_minds_61 (hs dX9_minds_62 (And.intro (ob_489) (gr (r_489_8) (hs dX9_minds_65 (hs dX9_minds_66 (And.intro (ob_494) (And.intro (vin ln_494 (by decide)) (hs dX9_minds_67 (And.intro (ob_505) (And.intro (vin ln_505 (by decide)) (hs dX9_minds_68 (hs dX9_minds_71 (hs dX9_minds_2 (hs dX9_minds_3 (hs dX9_minds_5 (And.intro (fun c5 => absurd c5 (by decide)) (fun c5 => (hs dX9_minds_8 (hs dX9_minds_9 (And.intro (ob_489) (gr (r_489_21) (hs dX9_minds_12 (hs dX9_minds_13 (hs dX9_minds_14 (And.intro (ob_489) (gr (r_489_4) (hs dX9_minds_17 (hs dX9_minds_18 (And.intro (ob_490) (And.intro (vin ln_490 (by decide)) (hs dX9_minds_19 (And.intro (ob_501) (And.intro (vin ln_501 (by decide)) (hs dX9_minds_20 (hs dX9_minds_21 (And.intro (ob_489) (gr (r_489_22) (hs dX9_minds_24 (hs dX9_minds_25 (hs dX9_minds_26 (And.intro (ob_489) (gr (r_489_5) (hs dX9_minds_29 (hs dX9_minds_30 (And.intro (ob_491) (And.intro (vin ln_491 (by decide)) (hs dX9_minds_31 (And.intro (ob_502) (And.intro (vin ln_502 (by decide)) (hs dX9_minds_32 (hs dX9_minds_33 (And.intro (ob_489) (gr (r_489_23) (hs dX9_minds_36 (hs dX9_minds_37 (hs dX9_minds_38 (And.intro (ob_489) (gr (r_489_6) (hs dX9_minds_41 (hs dX9_minds_42 (And.intro (ob_492) (And.intro (vin ln_492 (by decide)) (hs dX9_minds_43 (And.intro (ob_503) (And.intro (vin ln_503 (by decide)) (hs dX9_minds_44 (hs dX9_minds_45 (And.intro (ob_489) (gr (r_489_24) (hs dX9_minds_48 (hs dX9_minds_49 (hs dX9_minds_50 (And.intro (ob_489) (gr (r_489_7) (hs dX9_minds_53 (hs dX9_minds_54 (And.intro (ob_493) (And.intro (vin ln_493 (by decide)) (hs dX9_minds_55 (And.intro (ob_504) (And.intro (vin ln_504 (by decide)) (hs dX9_minds_56 (hs dX9_minds_57 (And.intro (ob_489) (gr (r_489_25) (hs dX9_minds_60 (hs dX9_minds_61 (hs dX9_minds_62 (And.intro (ob_489) (gr (r_489_8) (hs dX9_minds_65 (hs dX9_minds_66 (And.intro (ob_494) (And.intro (vin ln_494 (by decide)) (hs dX9_minds_67 (And.intro (ob_505) (And.intro (vin ln_505 (by decide)) (hs dX9_minds_68 (hs dX9_minds_71 (hs dX9_minds_2 (hs dX9_minds_3 (hs dX9_minds_5 (And.intro (fun c5 => ?_) (fun c5 => absurd (by decide) c5))))))))))))))))))))))))))))))))))))))))))))))))))))))))))))))))))))))))))))))))))))))))))))))))))))))))))))))))))))))))))))))))))))))))))))))))))))))))))))))))))))))))))))))))))))))))))))))))))))))))))))))))))))))))))))))))))))))))))))))))))))))))))))))))))))))))))))))))))))))))))))))))))))))))))))))))))))))))))))))))))))))))))))))))))))))))))))))))))))))))))))))))))))))))))))))))))))))))))))))))))))))))))))))))))))))))))))))))))))))))))))))))))))))))))))))))))))))))))))))))))))))))))))))))))))))))))))))))))))))))))))))))
    refine hs dX9_minds_74 (hs dX9_minds_75 (hs dX9_minds_76 (And.intro (ob_489) (hs dX9_minds_79 (And.intro (ob_489) (hs dX9_minds_82 (hs dX9_minds_83 (hs dX9_minds_84 (And.intro (ob_489) (hs dX9_minds_87 (And.intro (ob_489) (hs dX9_minds_90 (hs dX9_minds_91 (hs dX9_minds_92 (And.intro (ob_489) (hs dX9_minds_95 (And.intro (ob_489) (hs dX9_minds_98 (And.intro (rfl) (And.intro rfl ?_))))))))))))))))))))
    refine hk _ _ ?_
    intro k q; dsimp only; repeat (first | rfl | refine (u2x (by omega)).trans ?_)
  · exact h.elim
theorem ct_X9_minds {E : Ev} {l : Launch} : CT E l yX9_minds (wsY yX9_minds cX9_minds 2 none) rm_X9_minds 0 sp_X9_minds := ct_of (T := T_X9_minds) (own := RX9) (by decide) rfl (fun ci h10 hc => by have h2 : (99 : Nat) = ci := Nat.eq_of_beq_eq_true hc; omega) ⟨rfl, rfl⟩ ⟨fok_X9, clok_X9, jok_X9, fun _ h => absurd h List.not_mem_nil⟩ bd_X9_minds
def sp_X9_next : Spc := fun as N lg it rf K => match as with | [.ref 489] => (N = NT ∧ rf = RF0 ∧ it 489 0 = 0) ∧ K (some (.int (-1))) lg (u2 it 489 33 (-1)) rf | _ => False
def T_X9_next : Tab := (FL_X9, CL_X9, JL_X9, [], 99, (some .int))
def rm_X9_next : Room := { frames := 0, cells := 0, slots := 0, locals := 0 }
set_option maxHeartbeats 16000000 in
set_option maxRecDepth 100000 in
theorem bd_X9_next (as : List Value) (N : Nat) (lg : LGt) (it : ITt) (rf : RFt) (Q : Post) (h : sp_X9_next as N lg it rf Q) : Bd T_X9_next cX9_next 6 0 as N lg it rf Q := by
  unfold sp_X9_next at h
  split at h
  · refine ⟨Nat.le_of_ble_eq_true rfl, fun P hs hw => ?_⟩
    obtain ⟨⟨rfl, rfl, hb⟩, hk⟩ := h
    refine hs dX9_next_0 (hs dX9_next_1 (hs dX9_next_2 (And.intro (ob_489) (hs dX9_next_5 (hs dX9_next_6 (And.intro (ob_489) (gx (v := 0) (by simp [u2, sL, sI, mx, zr, hb]) (hs dX9_next_9 (And.intro (fun c9 => ?_) (fun c9 => absurd (by decide) c9))))))))))
    refine hs dX9_next_77 (hs dX9_next_78 (hs dX9_next_79 (hs dX9_next_80 (hs dX9_next_81 (hs dX9_next_82 (hs dX9_next_83 (And.intro (ob_489) (gx (v := 0) (by simp [u2, sL, sI, mx, zr, hb]) (hs dX9_next_86 (And.intro (fun c86 => ?_) (fun c86 => absurd (by decide) c86)))))))))))
    refine hs dX9_next_204 (hs dX9_next_205 (And.intro (ob_489) (gx (v := 0) (by simp [u2, sL, sI, mx, zr, hb]) (hs dX9_next_208 (And.intro (fun c208 => ?_) (fun c208 => absurd (by decide) c208))))))
    refine hs dX9_next_304 (hs dX9_next_305 (And.intro (ob_489) (gx (v := (-1)) (by simp [u2, sL, sI, mx, zr, kb_9, ki_m1, ki_0, ki_1, kl_0, kl_1]) (hs dX9_next_308 (And.intro (rfl) (And.intro rfl ?_))))))
    exact hk
  · exact h.elim
theorem ct_X9_next {E : Ev} {l : Launch} : CT E l yX9_next (wsY yX9_next cX9_next 6 (some .int)) rm_X9_next 0 sp_X9_next := ct_of (T := T_X9_next) (own := RX9) (by decide) rfl (fun ci h10 hc => by have h2 : (99 : Nat) = ci := Nat.eq_of_beq_eq_true hc; omega) ⟨rfl, rfl⟩ ⟨fok_X9, clok_X9, jok_X9, fun _ h => absurd h List.not_mem_nil⟩ bd_X9_next
def sp_X9_goesOn : Spc := fun as N lg it rf K => match as with | [.ref 489, .int a] => (N = NT ∧ rf = RF0 ∧ it 489 0 = 0 ∧ a = 20) ∧ ∀ lg' it', (∀ k, k ≠ 20 ∧ k ≠ 33 ∧ k ≠ 42 ∧ k ≠ 43 → it' 489 k = it 489 k) → it' 489 42 = 0 → it' 489 43 = 0 → it' 489 20 = 0 → K none lg' it' rf | _ => False
def T_X9_goesOn : Tab := (FL_X9, CL_X9, JL_X9, [(250, 0, 1, 9, 0, sp_X9_next)], 99, none)
def rm_X9_goesOn : Room := { frames := 1, cells := 0, slots := 0, locals := 25 }
set_option maxHeartbeats 16000000 in
set_option maxRecDepth 100000 in
theorem bd_X9_goesOn (as : List Value) (N : Nat) (lg : LGt) (it : ITt) (rf : RFt) (Q : Post) (h : sp_X9_goesOn as N lg it rf Q) : Bd T_X9_goesOn cX9_goesOn 3 0 as N lg it rf Q := by
  unfold sp_X9_goesOn at h
  split at h
  · rename_i a
    refine ⟨Nat.le_of_ble_eq_true rfl, fun P hs hw => ?_⟩
    obtain ⟨⟨rfl, rfl, hb, rfl⟩, hk⟩ := h
    refine hs dX9_goesOn_0 (hs dX9_goesOn_1 (hs dX9_goesOn_2 (And.intro (ob_489) (hs dX9_goesOn_5 (hs dX9_goesOn_6 (hs dX9_goesOn_7 (And.intro (ob_489) (hs dX9_goesOn_10 (hs dX9_goesOn_11 (hs dX9_goesOn_12 (And.intro (ob_489) (hs dX9_goesOn_15 (hs dX9_goesOn_16 (hs dX9_goesOn_17 (And.intro (ob_489) (hs dX9_goesOn_20 (hs dX9_goesOn_21 (And.intro (ob_489) (gx (v := 0) (by simp [u2, sL, sI, mx, zr, ki_0, ki_1, ki_2, kl_0, kl_1]) (hs dX9_goesOn_24 (hs dX9_goesOn_25 (And.intro (fun c25 => absurd c25 (by decide)) (fun c25 => (hs dX9_goesOn_28 (hs dX9_goesOn_29 (hs dX9_goesOn_30 (And.intro (ob_489) (And.intro (rfl) (hs dX9_goesOn_33 (hs dX9_goesOn_34 (And.intro (ob_489) (And.intro ⟨rfl, rfl, by simp [u2, sL, sI, mx, zr, hb]⟩ (n0 (hs dX9_goesOn_37 (hs dX9_goesOn_38 (hs dX9_goesOn_39 (And.intro (ob_489) (gx (v := 0) (by simp [u2, sL, sI, mx, zr, ki_0, ki_1, ki_2, kl_0, kl_1]) (hs dX9_goesOn_42 (And.intro (fun c42 => absurd rfl c42) (fun c42 => (hs dX9_goesOn_45 (hs dX9_goesOn_46 (And.intro (fun c46 => absurd c46 (by decide)) (fun c46 => (hs dX9_goesOn_49 (hs dX9_goesOn_50 (hs dX9_goesOn_51 (And.intro (ob_489) (hs dX9_goesOn_54 (hs dX9_goesOn_92 (hs dX9_goesOn_93 (hs dX9_goesOn_94 (And.intro (ob_489) (And.intro (rfl) (hs dX9_goesOn_97 (And.intro (rfl) (And.intro rfl ?_))))))))))))))))))))))))))))))))))))))))))))))))))))))))))
    refine hk _ _ ?_ (by simp [u2, sL, sI, mx, zr, ki_0, ki_1, ki_2, kl_0, kl_1]) (by simp [u2, sL, sI, mx, zr, ki_0, ki_1, ki_2, kl_0, kl_1]) (by simp [u2, sL, sI, mx, zr, ki_0, ki_1, ki_2, kl_0, kl_1])
    intro k q; dsimp only; repeat (first | rfl | refine (u2x (by omega)).trans ?_)
  · exact h.elim
theorem ct_X9_goesOn {E : Ev} {l : Launch} : CT E l yX9_goesOn (wsY yX9_goesOn cX9_goesOn 3 none) rm_X9_goesOn 0 sp_X9_goesOn := ct_of (T := T_X9_goesOn) (own := RX9) (by decide) rfl (fun ci h10 hc => by have h2 : (99 : Nat) = ci := Nat.eq_of_beq_eq_true hc; omega) ⟨rfl, rfl⟩ ⟨fok_X9, clok_X9, jok_X9, List.forall_mem_cons.mpr ⟨cok_V ct_X9_next (by decide) rfl ml_X9_250 im_X9_next se_X9_next co_X9_next mo_X9_next (by decide), fun _ h => absurd h List.not_mem_nil⟩⟩ bd_X9_goesOn
def sp_X9_findAll : Spc := fun as N lg it rf K => match as with | [.ref 489] => (N = NT ∧ rf = RF0 ∧ it 489 0 = 0) ∧ ∀ lg' it', (∀ k, k ≠ 20 ∧ k ≠ 30 ∧ k ≠ 31 ∧ k ≠ 32 ∧ k ≠ 33 ∧ k ≠ 42 ∧ k ≠ 43 → it' 489 k = it 489 k) → it' 489 42 = 0 → it' 489 43 = 0 → it' 489 20 = 0 → K none lg' it' rf | _ => False
def T_X9_findAll : Tab := (FL_X9, CL_X9, JL_X9, [(260, 0, 1, 9, 0, sp_X9_minds), (263, 0, 2, 9, 0, sp_X9_goesOn)], 99, none)
def rm_X9_findAll : Room := { frames := 2, cells := 0, slots := 0, locals := 47 }
set_option maxHeartbeats 16000000 in
set_option maxRecDepth 100000 in
theorem bd_X9_findAll (as : List Value) (N : Nat) (lg : LGt) (it : ITt) (rf : RFt) (Q : Post) (h : sp_X9_findAll as N lg it rf Q) : Bd T_X9_findAll cX9_findAll 1 0 as N lg it rf Q := by
  unfold sp_X9_findAll at h
  split at h
  · refine ⟨Nat.le_of_ble_eq_true rfl, fun P hs hw => ?_⟩
    obtain ⟨⟨rfl, rfl, hb⟩, hk⟩ := h
    refine hs dX9_findAll_0 (hs dX9_findAll_1 (And.intro (ob_489) (And.intro ⟨rfl, rfl⟩ (fun lg72 it72 hR72 => n0 ?_ ))))
    have f72_it_489_0 : it72 489 0 = 0 := (hR72 0 (by decide)).trans (by simp [u2, sL, sI, mx, zr, hb])
    refine hs dX9_findAll_4 (hs dX9_findAll_5 (hs dX9_findAll_7 (And.intro (ob_489) (And.intro ⟨rfl, rfl, by simp [u2, sL, sI, mx, zr, f72_it_489_0], by first | rfl | decide⟩ (fun lg73 it73 hR73 hS73 hE73 hO73 => n0 ?_ )))))
    have f73_it_489_0 : it73 489 0 = 0 := (hR73 0 (by decide)).trans (by simp [u2, sL, sI, mx, zr, f72_it_489_0])
    refine hs dX9_findAll_10 (And.intro (rfl) (And.intro rfl ?_))
    refine hk _ _ (fun k q => ?_) (by assumption) (by assumption) (by assumption)
    exact (hR73 k (by omega)).trans (hR72 k (by omega))
  · exact h.elim
theorem ct_X9_findAll {E : Ev} {l : Launch} : CT E l yX9_findAll (wsY yX9_findAll cX9_findAll 1 none) rm_X9_findAll 0 sp_X9_findAll := ct_of (T := T_X9_findAll) (own := RX9) (by decide) rfl (fun ci h10 hc => by have h2 : (99 : Nat) = ci := Nat.eq_of_beq_eq_true hc; omega) ⟨rfl, rfl⟩ ⟨fok_X9, clok_X9, jok_X9, List.forall_mem_cons.mpr ⟨cok_V ct_X9_minds (by decide) rfl ml_X9_260 im_X9_minds se_X9_minds co_X9_minds mo_X9_minds (by decide), List.forall_mem_cons.mpr ⟨cok_V ct_X9_goesOn (by decide) rfl ml_X9_263 im_X9_goesOn se_X9_goesOn co_X9_goesOn mo_X9_goesOn (by decide), fun _ h => absurd h List.not_mem_nil⟩⟩⟩ bd_X9_findAll
def sp_X9_sums : Spc := fun as N lg it rf K => match as with | [.ref 489, .int a] => (N = NT ∧ rf = RF0 ∧ it 489 0 = 0) ∧ ∀ lg' it', lg' 489 18 = 0 → lg' 489 19 = 1 → K (some (.int 1)) lg' it' rf | _ => False
def T_X9_sums : Tab := (FL_X9, CL_X9, JL_X9, [], 99, (some .boolean))
def rm_X9_sums : Room := { frames := 0, cells := 0, slots := 0, locals := 0 }
set_option maxHeartbeats 16000000 in
set_option maxRecDepth 100000 in
theorem bd_X9_sums (as : List Value) (N : Nat) (lg : LGt) (it : ITt) (rf : RFt) (Q : Post) (h : sp_X9_sums as N lg it rf Q) : Bd T_X9_sums cX9_sums 7 0 as N lg it rf Q := by
  unfold sp_X9_sums at h
  split at h
  · rename_i a
    refine ⟨Nat.le_of_ble_eq_true rfl, fun P hs hw => ?_⟩
    obtain ⟨⟨rfl, rfl, hb⟩, hk⟩ := h
    refine hs dX9_sums_0 (hs dX9_sums_1 (hs dX9_sums_2 (hs dX9_sums_3 (hs dX9_sums_5 (hs dX9_sums_6 (hs dX9_sums_7 (And.intro (ob_489) (And.intro (rfl) (hs dX9_sums_10 (hs dX9_sums_11 (hs dX9_sums_13 (hs dX9_sums_15 (hs dX9_sums_16 (And.intro (ob_489) (gx (v := 0) (by simp [u2, sL, sI, mx, zr, hb]) (hs dX9_sums_19 (And.intro (fun c19 => ?_) (fun c19 => absurd (by decide) c19))))))))))))))))))
    refine hs dX9_sums_141 (hs dX9_sums_142 (hs dX9_sums_143 (And.intro (ob_489) (hs dX9_sums_146 (hs dX9_sums_147 (hs dX9_sums_149 (And.intro (ob_489) (hs dX9_sums_152 (hs dX9_sums_153 (And.intro (ob_489) (gx (v := 0) (by simp [u2, sL, sI, mx, zr, ki_0, ki_1, kl_0, kl_1]) (hs dX9_sums_156 (And.intro (fun c156 => absurd rfl c156) (fun c156 => (hs dX9_sums_159 (hs dX9_sums_160 (hs dX9_sums_164 (hs dX9_sums_166 (hs dX9_sums_167 (hs dX9_sums_168 (And.intro (ob_489) (And.intro (rfl) (hs dX9_sums_171 (hs dX9_sums_173 (And.intro (rfl) (And.intro rfl (And.intro (rfl) ?_)))))))))))))))))))))))))))
    exact hk _ _ (by simp [u2, sL, sI, mx, zr, ki_0, ki_1, kl_0, kl_1, kl_0, kl_1]) (by simp [u2, sL, sI, mx, zr, ki_0, ki_1, kl_0, kl_1, kl_0, kl_1])
  · exact h.elim
theorem ct_X9_sums {E : Ev} {l : Launch} : CT E l yX9_sums (wsY yX9_sums cX9_sums 7 (some .boolean)) rm_X9_sums 0 sp_X9_sums := ct_of (T := T_X9_sums) (own := RX9) (by decide) rfl (fun ci h10 hc => by have h2 : (99 : Nat) = ci := Nat.eq_of_beq_eq_true hc; omega) ⟨rfl, rfl⟩ ⟨fok_X9, clok_X9, jok_X9, fun _ h => absurd h List.not_mem_nil⟩ bd_X9_sums
def sp_X9_clause : Spc := fun as N lg it rf K => match as with | [.ref 489, .int a] => (N = NT ∧ rf = RF0 ∧ it 489 51 = 0 ∧ it 489 50 = 0) ∧ K (some (.int 0)) lg it rf | _ => False
def T_X9_clause : Tab := (FL_X9, CL_X9, JL_X9, [], 99, (some .boolean))
def rm_X9_clause : Room := { frames := 0, cells := 0, slots := 0, locals := 0 }
set_option maxHeartbeats 16000000 in
set_option maxRecDepth 100000 in
theorem bd_X9_clause (as : List Value) (N : Nat) (lg : LGt) (it : ITt) (rf : RFt) (Q : Post) (h : sp_X9_clause as N lg it rf Q) : Bd T_X9_clause cX9_clause 4 0 as N lg it rf Q := by
  unfold sp_X9_clause at h
  split at h
  · rename_i a
    refine ⟨Nat.le_of_ble_eq_true rfl, fun P hs hw => ?_⟩
    obtain ⟨⟨rfl, rfl, hb1, hb2⟩, hk⟩ := h
    refine hs dX9_clause_0 (hs dX9_clause_1 (And.intro (ob_489) (gx (v := 0) (by simp [u2, sL, sI, mx, zr, hb1]) (hs dX9_clause_4 (hs dX9_clause_5 (And.intro (ob_489) (gx (v := 0) (by simp [u2, sL, sI, mx, zr, hb2]) (hs dX9_clause_8 (And.intro (fun c8 => ?_) (fun c8 => absurd (by decide) c8))))))))))
    refine hs dX9_clause_23 (hs dX9_clause_24 (hs dX9_clause_25 (hs dX9_clause_26 (hs dX9_clause_28 (And.intro (fun c28 => absurd c28 (by decide)) (fun c28 => (hs dX9_clause_31 (hs dX9_clause_32 (hs dX9_clause_34 (And.intro (fun c34 => absurd c34 (by decide)) (fun c34 => (hs dX9_clause_37 (hs dX9_clause_38 (hs dX9_clause_40 (And.intro (fun c40 => absurd c40 (by decide)) (fun c40 => (hs dX9_clause_43 (hs dX9_clause_44 (hs dX9_clause_46 (And.intro (fun c46 => absurd c46 (by decide)) (fun c46 => (hs dX9_clause_49 (hs dX9_clause_50 (hs dX9_clause_52 (And.intro (fun c52 => absurd c52 (by decide)) (fun c52 => (hs dX9_clause_55 (hs dX9_clause_56 (And.intro (rfl) (And.intro rfl (And.intro (rfl) ?_)))))))))))))))))))))))))))))))
    exact hk
  · exact h.elim
theorem ct_X9_clause {E : Ev} {l : Launch} : CT E l yX9_clause (wsY yX9_clause cX9_clause 4 (some .boolean)) rm_X9_clause 0 sp_X9_clause := ct_of (T := T_X9_clause) (own := RX9) (by decide) rfl (fun ci h10 hc => by have h2 : (99 : Nat) = ci := Nat.eq_of_beq_eq_true hc; omega) ⟨rfl, rfl⟩ ⟨fok_X9, clok_X9, jok_X9, fun _ h => absurd h List.not_mem_nil⟩ bd_X9_clause
def sp_X9_common : Spc := fun as N lg it rf K => match as with | [.long a, .long b] => ((a = 5 ∨ a = 0) ∧ b = 5) ∧ K (some (.long 5)) lg it rf | _ => False
def T_X9_common : Tab := (FL_X9, CL_X9, JL_X9, [], 99, (some .long))
def rm_X9_common : Room := { frames := 0, cells := 0, slots := 0, locals := 0 }
set_option maxHeartbeats 16000000 in
set_option maxRecDepth 100000 in
theorem bd_X9_common (as : List Value) (N : Nat) (lg : LGt) (it : ITt) (rf : RFt) (Q : Post) (h : sp_X9_common as N lg it rf Q) : Bd T_X9_common cX9_common 10 0 as N lg it rf Q := by
  unfold sp_X9_common at h
  split at h
  · rename_i a b
    refine ⟨Nat.le_of_ble_eq_true rfl, fun P hs hw => ?_⟩
    obtain ⟨⟨ha, rfl⟩, hk⟩ := h
    rcases ha with rfl | rfl
    · skip
      refine hs dX9_common_0 (hs dX9_common_1 (hs dX9_common_3 (hs dX9_common_4 (hs dX9_common_6 (hs dX9_common_8 (hs dX9_common_9 (hs dX9_common_10 (And.intro (fun c10 => absurd c10 (by decide +kernel)) (fun c10 => (hs dX9_common_13 (hs dX9_common_15 (hs dX9_common_17 (And.intro (by decide +kernel) (hs dX9_common_18 (hs dX9_common_20 (hs dX9_common_22 (hs dX9_common_24 (hs dX9_common_26 (hs dX9_common_28 (hs dX9_common_6 (hs dX9_common_8 (hs dX9_common_9 (hs dX9_common_10 (And.intro (fun c10 => ?_) (fun c10 => absurd (by decide +kernel) c10)))))))))))))))))))))))))
      refine hs dX9_common_31 (hs dX9_common_33 (And.intro (rfl) (And.intro rfl ?_)))
      exact hk
    · skip
      refine hs dX9_common_0 (hs dX9_common_1 (hs dX9_common_3 (hs dX9_common_4 (hs dX9_common_6 (hs dX9_common_8 (hs dX9_common_9 (hs dX9_common_10 (And.intro (fun c10 => absurd c10 (by decide +kernel)) (fun c10 => (hs dX9_common_13 (hs dX9_common_15 (hs dX9_common_17 (And.intro (by decide +kernel) (hs dX9_common_18 (hs dX9_common_20 (hs dX9_common_22 (hs dX9_common_24 (hs dX9_common_26 (hs dX9_common_28 (hs dX9_common_6 (hs dX9_common_8 (hs dX9_common_9 (hs dX9_common_10 (And.intro (fun c10 => ?_) (fun c10 => absurd (by decide +kernel) c10)))))))))))))))))))))))))
      refine hs dX9_common_31 (hs dX9_common_33 (And.intro (rfl) (And.intro rfl ?_)))
      exact hk
  · exact h.elim
theorem ct_X9_common {E : Ev} {l : Launch} : CT E l yX9_common (wsY yX9_common cX9_common 10 (some .long)) rm_X9_common 0 sp_X9_common := ct_of (T := T_X9_common) (own := RX9) (by decide) rfl (fun ci h10 hc => by have h2 : (99 : Nat) = ci := Nat.eq_of_beq_eq_true hc; omega) ⟨rfl, rfl⟩ ⟨fok_X9, clok_X9, jok_X9, fun _ h => absurd h List.not_mem_nil⟩ bd_X9_common
def sp_X9_bumper : Spc := fun as N lg it rf K => match as with | [.ref 489, .int a, .int b, .int c] => (N = NT ∧ rf = RF0 ∧ Up lg it) ∧ ∀ lg' it', K (some (.int (an_bumper a b c))) lg' it' rf | _ => False
def T_X9_bumper : Tab := (FL_X9, CL_X9, JL_X9, [(266, 1, 3, 0, 0, sp_X9_isIn)], 99, (some .int))
def rm_X9_bumper : Room := { frames := 1, cells := 0, slots := 0, locals := 25 }
set_option maxHeartbeats 16000000 in
set_option maxRecDepth 100000 in
theorem bd_X9_bumper (as : List Value) (N : Nat) (lg : LGt) (it : ITt) (rf : RFt) (Q : Post) (h : sp_X9_bumper as N lg it rf Q) : Bd T_X9_bumper cX9_bumper 5 0 as N lg it rf Q := by
  unfold sp_X9_bumper at h
  split at h
  · rename_i a b c
    refine ⟨Nat.le_of_ble_eq_true rfl, fun P hs hw => ?_⟩
    obtain ⟨⟨rfl, rfl, hup⟩, hk⟩ := h
    refine hs dX9_bumper_0 (hs dX9_bumper_1 (hs dX9_bumper_2 (hs dX9_bumper_3 (hs dX9_bumper_6 (And.intro (trivial) (n0 (gx (v := (b2 (0 ≤ a.toInt ∧ a.toInt ≤ (99)))) (by simp only [kb_m4, kb_m3, kb_m2, kb_6, ki_0, ki_1, kl_0, kl_1, kl_0, kl_1, Int32.toInt_toInt64, tm1, tj_m9223372036854775808, tj_m9, tj_m1, tj_0, tj_1, tj_2, tj_3, tj_4, tj_5, tj_9, tj_10, tj_19, tj_20, tj_48, tj_57, tj_99, tj_100, tj_127]) ?_ )))))))
    refine hs dX9_bumper_9 (And.intro (fun c9 => ?_) (fun c9 => ?_))
    · try dsimp only at c9
      try simp only [kb_m4, kb_m3, kb_m2, kb_6, ki_0, ki_1, kl_0, kl_1] at c9
      refine hs dX9_bumper_38 (hs dX9_bumper_40 (And.intro (rfl) (And.intro rfl ?_)))
      try simp only [kb_m4, kb_m3, kb_m2, kb_6, ki_0, ki_1, kl_0, kl_1, b2_0, b2_1] at c9
      try simp only [Int32.lt_iff_toInt_lt, Int32.le_iff_toInt_le, ← Int32.toInt_inj, ti_m4, ti_m3, ti_m2, ti_0, ti_1, ti_6] at c9
      have e : an_bumper a b c = (-2) := by
        first
        | (exfalso; omega)
        | unfold an_bumper
          try simp only [ti_0, ti_1]
          repeat (first | rw [if_pos (by first | omega | (simp; done) | (simp; omega))] | rw [if_neg (by first | omega | (simp; done) | (simp; omega))])
          all_goals rfl
      rw [e] at hk
      exact hk _ _
    · try dsimp only at c9
      try simp only [kb_m4, kb_m3, kb_m2, kb_6, ki_0, ki_1, kl_0, kl_1] at c9
      refine hs dX9_bumper_12 (hs dX9_bumper_13 (hs dX9_bumper_14 (hs dX9_bumper_15 (hs dX9_bumper_18 (And.intro (trivial) (n0 (gx (v := (b2 (1 ≤ b.toInt ∧ b.toInt ≤ (9)))) (by simp only [kb_m4, kb_m3, kb_m2, kb_6, ki_0, ki_1, kl_0, kl_1, kl_0, kl_1, Int32.toInt_toInt64, tm1, tj_m9223372036854775808, tj_m9, tj_m1, tj_0, tj_1, tj_2, tj_3, tj_4, tj_5, tj_9, tj_10, tj_19, tj_20, tj_48, tj_57, tj_99, tj_100, tj_127]) ?_ )))))))
      refine hs dX9_bumper_21 (And.intro (fun c21 => ?_) (fun c21 => ?_))
      · try dsimp only at c21
        try simp only [kb_m4, kb_m3, kb_m2, kb_6, ki_0, ki_1, kl_0, kl_1] at c21
        refine hs dX9_bumper_38 (hs dX9_bumper_40 (And.intro (rfl) (And.intro rfl ?_)))
        try simp only [kb_m4, kb_m3, kb_m2, kb_6, ki_0, ki_1, kl_0, kl_1, b2_0, b2_1] at c9 c21
        try simp only [Int32.lt_iff_toInt_lt, Int32.le_iff_toInt_le, ← Int32.toInt_inj, ti_m4, ti_m3, ti_m2, ti_0, ti_1, ti_6] at c9 c21
        have e : an_bumper a b c = (-2) := by
          first
          | (exfalso; omega)
          | unfold an_bumper
            try simp only [ti_0, ti_1]
            repeat (first | rw [if_pos (by first | omega | (simp; done) | (simp; omega))] | rw [if_neg (by first | omega | (simp; done) | (simp; omega))])
            all_goals rfl
        rw [e] at hk
        exact hk _ _
      · try dsimp only at c21
        try simp only [kb_m4, kb_m3, kb_m2, kb_6, ki_0, ki_1, kl_0, kl_1] at c21
        refine hs dX9_bumper_24 (hs dX9_bumper_25 (hs dX9_bumper_26 (hs dX9_bumper_29 (hs dX9_bumper_32 (And.intro (trivial) (n0 (gx (v := (b2 ((-9) ≤ c.toInt ∧ c.toInt ≤ (9)))) (by simp only [kb_m4, kb_m3, kb_m2, kb_6, ki_0, ki_1, kl_0, kl_1, kl_0, kl_1, Int32.toInt_toInt64, tm1, tj_m9223372036854775808, tj_m9, tj_m1, tj_0, tj_1, tj_2, tj_3, tj_4, tj_5, tj_9, tj_10, tj_19, tj_20, tj_48, tj_57, tj_99, tj_100, tj_127]) ?_ )))))))
        refine hs dX9_bumper_35 (And.intro (fun c35 => ?_) (fun c35 => ?_))
        · try dsimp only at c35
          try simp only [kb_m4, kb_m3, kb_m2, kb_6, ki_0, ki_1, kl_0, kl_1] at c35
          refine hs dX9_bumper_41 (hs dX9_bumper_42 (And.intro (ob_489) (gx (v := 0) (upi hup (by decide) (by decide) vit_489_0) (hs dX9_bumper_45 (And.intro (fun c45 => ?_) (fun c45 => absurd (by decide) c45))))))
          refine hs dX9_bumper_104 (hs dX9_bumper_105 (And.intro (ob_489) (gx (v := 0) (upi hup (by decide) (by decide) vit_489_0) (hs dX9_bumper_108 (hs dX9_bumper_110 (And.intro (fun c110 => ?_) (fun c110 => absurd c110 (by decide))))))))
          refine hs dX9_bumper_116 (hs dX9_bumper_117 (And.intro (ob_489) (gr (r_489_4) (hs dX9_bumper_120 (hs dX9_bumper_121 (And.intro (ob_489) (gx (v := 0) (upi hup (by decide) (by decide) vit_489_0) (hs dX9_bumper_124 (hs dX9_bumper_125 (And.intro (ob_490) (And.intro (vin ln_490 (by decide)) (hs dX9_bumper_126 (hs dX9_bumper_127 (And.intro (ob_489) (gr (r_489_5) (hs dX9_bumper_130 (hs dX9_bumper_131 (And.intro (ob_489) (gx (v := 0) (by simp [u2, sL, sI, mx, zr, (upi hup (by decide) (by decide) vit_489_0)]) (hs dX9_bumper_134 (hs dX9_bumper_135 (hs dX9_bumper_136 (And.intro (ob_491) (And.intro (vin ln_491 (by decide)) (hs dX9_bumper_137 (hs dX9_bumper_138 (And.intro (ob_489) (gr (r_489_6) (hs dX9_bumper_141 (hs dX9_bumper_142 (And.intro (ob_489) (gx (v := 0) (by simp [u2, sL, sI, mx, zr, (upi hup (by decide) (by decide) vit_489_0)]) (hs dX9_bumper_145 (hs dX9_bumper_146 (And.intro (ob_492) (And.intro (vin ln_492 (by decide)) (hs dX9_bumper_147 (hs dX9_bumper_148 (And.intro (ob_489) (gr (r_489_7) (hs dX9_bumper_151 (hs dX9_bumper_152 (And.intro (ob_489) (gx (v := 0) (by simp [u2, sL, sI, mx, zr, (upi hup (by decide) (by decide) vit_489_0)]) (hs dX9_bumper_155 (hs dX9_bumper_156 (hs dX9_bumper_157 (And.intro (ob_493) (And.intro (vin ln_493 (by decide)) (hs dX9_bumper_158 (hs dX9_bumper_159 (And.intro (ob_489) (gr (r_489_8) (hs dX9_bumper_162 (hs dX9_bumper_163 (And.intro (ob_489) (gx (v := 0) (by simp [u2, sL, sI, mx, zr, (upi hup (by decide) (by decide) vit_489_0)]) (hs dX9_bumper_166 (hs dX9_bumper_167 (And.intro (ob_494) (And.intro (vin ln_494 (by decide)) (hs dX9_bumper_168 (hs dX9_bumper_169 (hs dX9_bumper_170 (And.intro (ob_489) (gx (v := 0) (by simp [u2, sL, sI, mx, zr, (upi hup (by decide) (by decide) vit_489_0)]) (hs dX9_bumper_173 (hs dX9_bumper_174 (hs dX9_bumper_175 (And.intro (ob_489) (hs dX9_bumper_178 (hs dX9_bumper_179 (And.intro (ob_489) (gx (v := 1) (by simp [u2, sL, sI, mx, zr, kb_m4, kb_m3, kb_m2, kb_6, ki_0, ki_1, kl_0, kl_1]) (hs dX9_bumper_182 (hs dX9_bumper_183 (hs dX9_bumper_184 (And.intro (rfl) (And.intro rfl ?_)))))))))))))))))))))))))))))))))))))))))))))))))))))))))))))))))))))))))))))))
          try simp only [kb_m4, kb_m3, kb_m2, kb_6, ki_0, ki_1, kl_0, kl_1, b2_0, b2_1] at c9 c21 c35
          try simp only [Int32.lt_iff_toInt_lt, Int32.le_iff_toInt_le, ← Int32.toInt_inj, ti_m4, ti_m3, ti_m2, ti_0, ti_1, ti_6] at c9 c21 c35
          have e : an_bumper a b c = 0 := by
            first
            | (exfalso; omega)
            | unfold an_bumper
              try simp only [ti_0, ti_1]
              repeat (first | rw [if_pos (by first | omega | (simp; done) | (simp; omega))] | rw [if_neg (by first | omega | (simp; done) | (simp; omega))])
              all_goals rfl
          rw [e] at hk
          exact hk _ _
        · try dsimp only at c35
          try simp only [kb_m4, kb_m3, kb_m2, kb_6, ki_0, ki_1, kl_0, kl_1] at c35
          refine hs dX9_bumper_38 (hs dX9_bumper_40 (And.intro (rfl) (And.intro rfl ?_)))
          try simp only [kb_m4, kb_m3, kb_m2, kb_6, ki_0, ki_1, kl_0, kl_1, b2_0, b2_1] at c9 c21 c35
          try simp only [Int32.lt_iff_toInt_lt, Int32.le_iff_toInt_le, ← Int32.toInt_inj, ti_m4, ti_m3, ti_m2, ti_0, ti_1, ti_6] at c9 c21 c35
          have e : an_bumper a b c = (-2) := by
            first
            | (exfalso; omega)
            | unfold an_bumper
              try simp only [ti_0, ti_1]
              repeat (first | rw [if_pos (by first | omega | (simp; done) | (simp; omega))] | rw [if_neg (by first | omega | (simp; done) | (simp; omega))])
              all_goals rfl
          rw [e] at hk
          exact hk _ _
  · exact h.elim
theorem ct_X9_bumper {E : Ev} {l : Launch} : CT E l yX9_bumper (wsY yX9_bumper cX9_bumper 5 (some .int)) rm_X9_bumper 0 sp_X9_bumper := ct_of (T := T_X9_bumper) (own := RX9) (by decide) rfl (fun ci h10 hc => by have h2 : (99 : Nat) = ci := Nat.eq_of_beq_eq_true hc; omega) ⟨rfl, rfl⟩ ⟨fok_X9, clok_X9, jok_X9, List.forall_mem_cons.mpr ⟨cok_S ct_X9_isIn ((cl_ins (c := 9) (by decide)).2) ml_X9_266 im_X9_isIn co_X9_isIn mo_X9_isIn (by decide), fun _ h => absurd h List.not_mem_nil⟩⟩ bd_X9_bumper
def sp_X9_renew : Spc := fun as N lg it rf K => match as with | [.ref 489, .int a, .int b, .int c] => (N = NT ∧ rf = RF0 ∧ Up lg it) ∧ ∀ lg' it', K (some (.int (an_renew a b c))) lg' it' rf | _ => False
def T_X9_renew : Tab := (FL_X9, CL_X9, JL_X9, [(276, 0, 2, 9, 0, sp_X9_isBumper), (266, 1, 3, 0, 0, sp_X9_isIn)], 99, (some .int))
def rm_X9_renew : Room := { frames := 2, cells := 0, slots := 0, locals := 46 }
set_option maxHeartbeats 16000000 in
set_option maxRecDepth 100000 in
theorem bd_X9_renew (as : List Value) (N : Nat) (lg : LGt) (it : ITt) (rf : RFt) (Q : Post) (h : sp_X9_renew as N lg it rf Q) : Bd T_X9_renew cX9_renew 4 0 as N lg it rf Q := by
  unfold sp_X9_renew at h
  split at h
  · rename_i a b c
    refine ⟨Nat.le_of_ble_eq_true rfl, fun P hs hw => ?_⟩
    obtain ⟨⟨rfl, rfl, hup⟩, hk⟩ := h
    refine hs dX9_renew_0 (hs dX9_renew_1 (hs dX9_renew_2 (And.intro (ob_489) (And.intro ⟨rfl, rfl, upi hup (by decide) (by decide) vit_489_0⟩ (n0 (hs dX9_renew_5 (And.intro (fun c5 => ?_) (fun c5 => absurd (by decide) c5))))))))
    refine hs dX9_renew_18 (hs dX9_renew_19 (And.intro (rfl) (And.intro rfl ?_)))
    have e : an_renew a b c = (-1) := rfl
    rw [e] at hk
    exact hk _ _
  · exact h.elim
theorem ct_X9_renew {E : Ev} {l : Launch} : CT E l yX9_renew (wsY yX9_renew cX9_renew 4 (some .int)) rm_X9_renew 0 sp_X9_renew := ct_of (T := T_X9_renew) (own := RX9) (by decide) rfl (fun ci h10 hc => by have h2 : (99 : Nat) = ci := Nat.eq_of_beq_eq_true hc; omega) ⟨rfl, rfl⟩ ⟨fok_X9, clok_X9, jok_X9, List.forall_mem_cons.mpr ⟨cok_V ct_X9_isBumper (by decide) rfl ml_X9_276 im_X9_isBumper se_X9_isBumper co_X9_isBumper mo_X9_isBumper (by decide), List.forall_mem_cons.mpr ⟨cok_S ct_X9_isIn ((cl_ins (c := 9) (by decide)).2) ml_X9_266 im_X9_isIn co_X9_isIn mo_X9_isIn (by decide), fun _ h => absurd h List.not_mem_nil⟩⟩⟩ bd_X9_renew
def sp_X9_spring : Spc := fun as N lg it rf K => match as with | [.ref 489, .int a] => (N = NT ∧ rf = RF0 ∧ Up lg it) ∧ ∀ lg' it', K (some (.int (an_spring a))) lg' it' rf | _ => False
def T_X9_spring : Tab := (FL_X9, CL_X9, JL_X9, [(266, 1, 3, 0, 0, sp_X9_isIn)], 99, (some .int))
def rm_X9_spring : Room := { frames := 1, cells := 0, slots := 0, locals := 25 }
set_option maxHeartbeats 16000000 in
set_option maxRecDepth 100000 in
theorem bd_X9_spring (as : List Value) (N : Nat) (lg : LGt) (it : ITt) (rf : RFt) (Q : Post) (h : sp_X9_spring as N lg it rf Q) : Bd T_X9_spring cX9_spring 3 0 as N lg it rf Q := by
  unfold sp_X9_spring at h
  split at h
  · rename_i a
    refine ⟨Nat.le_of_ble_eq_true rfl, fun P hs hw => ?_⟩
    obtain ⟨⟨rfl, rfl, hup⟩, hk⟩ := h
    refine hs dX9_spring_0 (hs dX9_spring_1 (hs dX9_spring_2 (hs dX9_spring_3 (hs dX9_spring_6 (And.intro (trivial) (n0 (gx (v := (b2 (0 ≤ a.toInt ∧ a.toInt ≤ (4)))) (by simp only [kb_m2, kl_0, kl_0, kl_1, Int32.toInt_toInt64, tm1, tj_m9223372036854775808, tj_m9, tj_m1, tj_0, tj_1, tj_2, tj_3, tj_4, tj_5, tj_9, tj_10, tj_19, tj_20, tj_48, tj_57, tj_99, tj_100, tj_127]) ?_ )))))))
    refine hs dX9_spring_9 (And.intro (fun c9 => ?_) (fun c9 => ?_))
    · try dsimp only at c9
      try simp only [kb_m2, kl_0] at c9
      refine hs dX9_spring_15 (hs dX9_spring_16 (And.intro (ob_489) (gx (v := 4) (upi hup (by decide) (by decide) vit_489_1) (hs dX9_spring_19 (hs dX9_spring_20 (hs dX9_spring_21 (hs dX9_spring_22 (And.intro (ob_489) (hs dX9_spring_25 (hs dX9_spring_26 (And.intro (rfl) (And.intro rfl ?_))))))))))))
      try simp only [kb_m2, kl_0, b2_0, b2_1] at c9
      try simp only [Int32.lt_iff_toInt_lt, Int32.le_iff_toInt_le, ← Int32.toInt_inj, ti_m2, ti_0] at c9
      have e : an_spring a = 4 := by
        first
        | (exfalso; omega)
        | unfold an_spring
          try simp only [ti_0, ti_1]
          repeat (first | rw [if_pos (by first | omega | (simp; done) | (simp; omega))] | rw [if_neg (by first | omega | (simp; done) | (simp; omega))])
          all_goals rfl
      rw [e] at hk
      exact hk _ _
    · try dsimp only at c9
      try simp only [kb_m2, kl_0] at c9
      refine hs dX9_spring_12 (hs dX9_spring_14 (And.intro (rfl) (And.intro rfl ?_)))
      try simp only [kb_m2, kl_0, b2_0, b2_1] at c9
      try simp only [Int32.lt_iff_toInt_lt, Int32.le_iff_toInt_le, ← Int32.toInt_inj, ti_m2, ti_0] at c9
      have e : an_spring a = (-2) := by
        first
        | (exfalso; omega)
        | unfold an_spring
          try simp only [ti_0, ti_1]
          repeat (first | rw [if_pos (by first | omega | (simp; done) | (simp; omega))] | rw [if_neg (by first | omega | (simp; done) | (simp; omega))])
          all_goals rfl
      rw [e] at hk
      exact hk _ _
  · exact h.elim
theorem ct_X9_spring {E : Ev} {l : Launch} : CT E l yX9_spring (wsY yX9_spring cX9_spring 3 (some .int)) rm_X9_spring 0 sp_X9_spring := ct_of (T := T_X9_spring) (own := RX9) (by decide) rfl (fun ci h10 hc => by have h2 : (99 : Nat) = ci := Nat.eq_of_beq_eq_true hc; omega) ⟨rfl, rfl⟩ ⟨fok_X9, clok_X9, jok_X9, List.forall_mem_cons.mpr ⟨cok_S ct_X9_isIn ((cl_ins (c := 9) (by decide)).2) ml_X9_266 im_X9_isIn co_X9_isIn mo_X9_isIn (by decide), fun _ h => absurd h List.not_mem_nil⟩⟩ bd_X9_spring
def sp_X9_wall : Spc := fun as N lg it rf K => match as with | [.ref 489, .int a, .int b] => (N = NT ∧ rf = RF0 ∧ Up lg it) ∧ ∀ lg' it', K (some (.int (an_wall a b))) lg' it' rf | _ => False
def T_X9_wall : Tab := (FL_X9, CL_X9, JL_X9, [(266, 1, 3, 0, 0, sp_X9_isIn), (280, 0, 2, 9, 0, sp_X9_isBeyond), (283, 1, 1, 0, 0, sp_X9_wallTold)], 99, (some .int))
def rm_X9_wall : Room := { frames := 1, cells := 0, slots := 0, locals := 25 }
set_option maxHeartbeats 16000000 in
set_option maxRecDepth 100000 in
theorem bd_X9_wall (as : List Value) (N : Nat) (lg : LGt) (it : ITt) (rf : RFt) (Q : Post) (h : sp_X9_wall as N lg it rf Q) : Bd T_X9_wall cX9_wall 4 0 as N lg it rf Q := by
  unfold sp_X9_wall at h
  split at h
  · rename_i a b
    refine ⟨Nat.le_of_ble_eq_true rfl, fun P hs hw => ?_⟩
    obtain ⟨⟨rfl, rfl, hup⟩, hk⟩ := h
    refine hs dX9_wall_0 (hs dX9_wall_1 (hs dX9_wall_2 (hs dX9_wall_3 (hs dX9_wall_4 (And.intro (trivial) (n0 (gx (v := (b2 (0 ≤ a.toInt ∧ a.toInt ≤ 1))) (by simp only [kb_m3, kb_m2, ki_m1, kl_0, kl_1, kl_0, kl_1, Int32.toInt_toInt64, tm1, tj_m9223372036854775808, tj_m9, tj_m1, tj_0, tj_1, tj_2, tj_3, tj_4, tj_5, tj_9, tj_10, tj_19, tj_20, tj_48, tj_57, tj_99, tj_100, tj_127]) ?_ )))))))
    refine hs dX9_wall_7 (And.intro (fun c7 => ?_) (fun c7 => ?_))
    · try dsimp only at c7
      try simp only [kb_m3, kb_m2, ki_m1, kl_0, kl_1] at c7
      refine hs dX9_wall_12 (hs dX9_wall_13 (hs dX9_wall_14 (hs dX9_wall_17 (hs dX9_wall_20 (And.intro (trivial) (n0 (gx (v := (b2 ((-1) ≤ b.toInt ∧ b.toInt ≤ (4)))) (by simp only [kb_m3, kb_m2, ki_m1, kl_0, kl_1, kl_0, kl_1, Int32.toInt_toInt64, tm1, tj_m9223372036854775808, tj_m9, tj_m1, tj_0, tj_1, tj_2, tj_3, tj_4, tj_5, tj_9, tj_10, tj_19, tj_20, tj_48, tj_57, tj_99, tj_100, tj_127]) ?_ )))))))
      refine hs dX9_wall_23 (And.intro (fun c23 => ?_) (fun c23 => ?_))
      · try dsimp only at c23
        try simp only [kb_m3, kb_m2, ki_m1, kl_0, kl_1] at c23
        refine hs dX9_wall_29 (hs dX9_wall_30 (And.intro (fun c30 => ?_) (fun c30 => ?_)))
        · try dsimp only at c30
          try simp only [kb_m3, kb_m2, ki_m1, kl_0, kl_1] at c30
          refine hs dX9_wall_44 (hs dX9_wall_45 (And.intro (fun c45 => ?_) (fun c45 => ?_)))
          · try dsimp only at c45
            try simp only [kb_m3, kb_m2, ki_m1, kl_0, kl_1] at c45
            refine hs dX9_wall_55 (hs dX9_wall_56 (And.intro (ob_489) (gx (v := 4) (upi hup (by decide) (by decide) vit_489_3) (hs dX9_wall_59 (hs dX9_wall_60 (hs dX9_wall_61 (And.intro (fun c61 => ?_) (fun c61 => ?_))))))))
            · try dsimp only at c61
              try simp only [kb_m3, kb_m2, ki_m1, kl_0, kl_1] at c61
              refine hs dX9_wall_72 (hs dX9_wall_73 (hs dX9_wall_74 (And.intro (ob_489) (hs dX9_wall_77 (hs dX9_wall_78 (And.intro (trivial) (And.intro (by first | rfl | decide) (n0 (hs dX9_wall_81 (And.intro (rfl) (And.intro rfl ?_)))))))))))
              try simp only [kb_m3, kb_m2, ki_m1, kl_0, kl_1, b2_0, b2_1] at c7 c23 c30 c45 c61
              try simp only [Int32.lt_iff_toInt_lt, Int32.le_iff_toInt_le, ← Int32.toInt_inj, ti_m3, ti_m2, ti_m1, ti_0] at c7 c23 c30 c45 c61
              have e : an_wall a b = 4 := by
                first
                | (exfalso; omega)
                | unfold an_wall
                  try simp only [ti_0, ti_1]
                  repeat (first | rw [if_pos (by first | omega | (simp; done) | (simp; omega))] | rw [if_neg (by first | omega | (simp; done) | (simp; omega))])
                  all_goals rfl
              rw [e] at hk
              exact hk _ _
            · try dsimp only at c61
              try simp only [kb_m3, kb_m2, ki_m1, kl_0, kl_1] at c61
              refine hs dX9_wall_64 (hs dX9_wall_65 (hs dX9_wall_66 (And.intro (ob_489) (hs dX9_wall_69 (hs dX9_wall_77 (hs dX9_wall_78 (And.intro (trivial) (And.intro (by first | rfl | decide) (n0 (hs dX9_wall_81 (And.intro (rfl) (And.intro rfl ?_))))))))))))
              try simp only [kb_m3, kb_m2, ki_m1, kl_0, kl_1, b2_0, b2_1] at c7 c23 c30 c45 c61
              try simp only [Int32.lt_iff_toInt_lt, Int32.le_iff_toInt_le, ← Int32.toInt_inj, ti_m3, ti_m2, ti_m1, ti_0] at c7 c23 c30 c45 c61
              have e : an_wall a b = 4 := by
                first
                | (exfalso; omega)
                | unfold an_wall
                  try simp only [ti_0, ti_1]
                  repeat (first | rw [if_pos (by first | omega | (simp; done) | (simp; omega))] | rw [if_neg (by first | omega | (simp; done) | (simp; omega))])
                  all_goals rfl
              rw [e] at hk
              exact hk _ _
          · try dsimp only at c45
            try simp only [kb_m3, kb_m2, ki_m1, kl_0, kl_1] at c45
            refine hs dX9_wall_48 (hs dX9_wall_49 (And.intro (ob_489) (gx (v := 4) (upi hup (by decide) (by decide) vit_489_2) (hs dX9_wall_52 (hs dX9_wall_59 (hs dX9_wall_60 (hs dX9_wall_61 (And.intro (fun c61 => ?_) (fun c61 => ?_)))))))))
            · try dsimp only at c61
              try simp only [kb_m3, kb_m2, ki_m1, kl_0, kl_1] at c61
              refine hs dX9_wall_72 (hs dX9_wall_73 (hs dX9_wall_74 (And.intro (ob_489) (hs dX9_wall_77 (hs dX9_wall_78 (And.intro (trivial) (And.intro (by first | rfl | decide) (n0 (hs dX9_wall_81 (And.intro (rfl) (And.intro rfl ?_)))))))))))
              try simp only [kb_m3, kb_m2, ki_m1, kl_0, kl_1, b2_0, b2_1] at c7 c23 c30 c45 c61
              try simp only [Int32.lt_iff_toInt_lt, Int32.le_iff_toInt_le, ← Int32.toInt_inj, ti_m3, ti_m2, ti_m1, ti_0] at c7 c23 c30 c45 c61
              have e : an_wall a b = 4 := by
                first
                | (exfalso; omega)
                | unfold an_wall
                  try simp only [ti_0, ti_1]
                  repeat (first | rw [if_pos (by first | omega | (simp; done) | (simp; omega))] | rw [if_neg (by first | omega | (simp; done) | (simp; omega))])
                  all_goals rfl
              rw [e] at hk
              exact hk _ _
            · try dsimp only at c61
              try simp only [kb_m3, kb_m2, ki_m1, kl_0, kl_1] at c61
              refine hs dX9_wall_64 (hs dX9_wall_65 (hs dX9_wall_66 (And.intro (ob_489) (hs dX9_wall_69 (hs dX9_wall_77 (hs dX9_wall_78 (And.intro (trivial) (And.intro (by first | rfl | decide) (n0 (hs dX9_wall_81 (And.intro (rfl) (And.intro rfl ?_))))))))))))
              try simp only [kb_m3, kb_m2, ki_m1, kl_0, kl_1, b2_0, b2_1] at c7 c23 c30 c45 c61
              try simp only [Int32.lt_iff_toInt_lt, Int32.le_iff_toInt_le, ← Int32.toInt_inj, ti_m3, ti_m2, ti_m1, ti_0] at c7 c23 c30 c45 c61
              have e : an_wall a b = 4 := by
                first
                | (exfalso; omega)
                | unfold an_wall
                  try simp only [ti_0, ti_1]
                  repeat (first | rw [if_pos (by first | omega | (simp; done) | (simp; omega))] | rw [if_neg (by first | omega | (simp; done) | (simp; omega))])
                  all_goals rfl
              rw [e] at hk
              exact hk _ _
        · try dsimp only at c30
          try simp only [kb_m3, kb_m2, ki_m1, kl_0, kl_1] at c30
          refine hs dX9_wall_33 (hs dX9_wall_34 (hs dX9_wall_35 (And.intro (ob_489) (And.intro ⟨rfl, rfl, upi hup (by decide) (by decide) vit_489_0⟩ (n0 (hs dX9_wall_38 (And.intro (fun c38 => ?_) (fun c38 => absurd (by decide) c38))))))))
          refine hs dX9_wall_44 (hs dX9_wall_45 (And.intro (fun c45 => ?_) (fun c45 => ?_)))
          · try dsimp only at c45
            try simp only [kb_m3, kb_m2, ki_m1, kl_0, kl_1] at c45
            refine hs dX9_wall_55 (hs dX9_wall_56 (And.intro (ob_489) (gx (v := 4) (by simp [u2, sL, sI, mx, zr, (upi hup (by decide) (by decide) vit_489_3)]) (hs dX9_wall_59 (hs dX9_wall_60 (hs dX9_wall_61 (And.intro (fun c61 => ?_) (fun c61 => ?_))))))))
            · try dsimp only at c61
              try simp only [kb_m3, kb_m2, ki_m1, kl_0, kl_1] at c61
              refine hs dX9_wall_72 (hs dX9_wall_73 (hs dX9_wall_74 (And.intro (ob_489) (hs dX9_wall_77 (hs dX9_wall_78 (And.intro (trivial) (And.intro (by first | rfl | decide) (n0 (hs dX9_wall_81 (And.intro (rfl) (And.intro rfl ?_)))))))))))
              try simp only [kb_m3, kb_m2, ki_m1, kl_0, kl_1, b2_0, b2_1] at c7 c23 c30 c45 c61
              try simp only [Int32.lt_iff_toInt_lt, Int32.le_iff_toInt_le, ← Int32.toInt_inj, ti_m3, ti_m2, ti_m1, ti_0] at c7 c23 c30 c45 c61
              have e : an_wall a b = 4 := by
                first
                | (exfalso; omega)
                | unfold an_wall
                  try simp only [ti_0, ti_1]
                  repeat (first | rw [if_pos (by first | omega | (simp; done) | (simp; omega))] | rw [if_neg (by first | omega | (simp; done) | (simp; omega))])
                  all_goals rfl
              rw [e] at hk
              exact hk _ _
            · try dsimp only at c61
              try simp only [kb_m3, kb_m2, ki_m1, kl_0, kl_1] at c61
              refine hs dX9_wall_64 (hs dX9_wall_65 (hs dX9_wall_66 (And.intro (ob_489) (hs dX9_wall_69 (hs dX9_wall_77 (hs dX9_wall_78 (And.intro (trivial) (And.intro (by first | rfl | decide) (n0 (hs dX9_wall_81 (And.intro (rfl) (And.intro rfl ?_))))))))))))
              try simp only [kb_m3, kb_m2, ki_m1, kl_0, kl_1, b2_0, b2_1] at c7 c23 c30 c45 c61
              try simp only [Int32.lt_iff_toInt_lt, Int32.le_iff_toInt_le, ← Int32.toInt_inj, ti_m3, ti_m2, ti_m1, ti_0] at c7 c23 c30 c45 c61
              have e : an_wall a b = 4 := by
                first
                | (exfalso; omega)
                | unfold an_wall
                  try simp only [ti_0, ti_1]
                  repeat (first | rw [if_pos (by first | omega | (simp; done) | (simp; omega))] | rw [if_neg (by first | omega | (simp; done) | (simp; omega))])
                  all_goals rfl
              rw [e] at hk
              exact hk _ _
          · try dsimp only at c45
            try simp only [kb_m3, kb_m2, ki_m1, kl_0, kl_1] at c45
            refine hs dX9_wall_48 (hs dX9_wall_49 (And.intro (ob_489) (gx (v := 4) (by simp [u2, sL, sI, mx, zr, (upi hup (by decide) (by decide) vit_489_2)]) (hs dX9_wall_52 (hs dX9_wall_59 (hs dX9_wall_60 (hs dX9_wall_61 (And.intro (fun c61 => ?_) (fun c61 => ?_)))))))))
            · try dsimp only at c61
              try simp only [kb_m3, kb_m2, ki_m1, kl_0, kl_1] at c61
              refine hs dX9_wall_72 (hs dX9_wall_73 (hs dX9_wall_74 (And.intro (ob_489) (hs dX9_wall_77 (hs dX9_wall_78 (And.intro (trivial) (And.intro (by first | rfl | decide) (n0 (hs dX9_wall_81 (And.intro (rfl) (And.intro rfl ?_)))))))))))
              try simp only [kb_m3, kb_m2, ki_m1, kl_0, kl_1, b2_0, b2_1] at c7 c23 c30 c45 c61
              try simp only [Int32.lt_iff_toInt_lt, Int32.le_iff_toInt_le, ← Int32.toInt_inj, ti_m3, ti_m2, ti_m1, ti_0] at c7 c23 c30 c45 c61
              have e : an_wall a b = 4 := by
                first
                | (exfalso; omega)
                | unfold an_wall
                  try simp only [ti_0, ti_1]
                  repeat (first | rw [if_pos (by first | omega | (simp; done) | (simp; omega))] | rw [if_neg (by first | omega | (simp; done) | (simp; omega))])
                  all_goals rfl
              rw [e] at hk
              exact hk _ _
            · try dsimp only at c61
              try simp only [kb_m3, kb_m2, ki_m1, kl_0, kl_1] at c61
              refine hs dX9_wall_64 (hs dX9_wall_65 (hs dX9_wall_66 (And.intro (ob_489) (hs dX9_wall_69 (hs dX9_wall_77 (hs dX9_wall_78 (And.intro (trivial) (And.intro (by first | rfl | decide) (n0 (hs dX9_wall_81 (And.intro (rfl) (And.intro rfl ?_))))))))))))
              try simp only [kb_m3, kb_m2, ki_m1, kl_0, kl_1, b2_0, b2_1] at c7 c23 c30 c45 c61
              try simp only [Int32.lt_iff_toInt_lt, Int32.le_iff_toInt_le, ← Int32.toInt_inj, ti_m3, ti_m2, ti_m1, ti_0] at c7 c23 c30 c45 c61
              have e : an_wall a b = 4 := by
                first
                | (exfalso; omega)
                | unfold an_wall
                  try simp only [ti_0, ti_1]
                  repeat (first | rw [if_pos (by first | omega | (simp; done) | (simp; omega))] | rw [if_neg (by first | omega | (simp; done) | (simp; omega))])
                  all_goals rfl
              rw [e] at hk
              exact hk _ _
      · try dsimp only at c23
        try simp only [kb_m3, kb_m2, ki_m1, kl_0, kl_1] at c23
        refine hs dX9_wall_26 (hs dX9_wall_28 (And.intro (rfl) (And.intro rfl ?_)))
        try simp only [kb_m3, kb_m2, ki_m1, kl_0, kl_1, b2_0, b2_1] at c7 c23
        try simp only [Int32.lt_iff_toInt_lt, Int32.le_iff_toInt_le, ← Int32.toInt_inj, ti_m3, ti_m2, ti_m1, ti_0] at c7 c23
        have e : an_wall a b = (-2) := by
          first
          | (exfalso; omega)
          | unfold an_wall
            try simp only [ti_0, ti_1]
            repeat (first | rw [if_pos (by first | omega | (simp; done) | (simp; omega))] | rw [if_neg (by first | omega | (simp; done) | (simp; omega))])
            all_goals rfl
        rw [e] at hk
        exact hk _ _
    · try dsimp only at c7
      try simp only [kb_m3, kb_m2, ki_m1, kl_0, kl_1] at c7
      refine hs dX9_wall_10 (hs dX9_wall_11 (And.intro (rfl) (And.intro rfl ?_)))
      try simp only [kb_m3, kb_m2, ki_m1, kl_0, kl_1, b2_0, b2_1] at c7
      try simp only [Int32.lt_iff_toInt_lt, Int32.le_iff_toInt_le, ← Int32.toInt_inj, ti_m3, ti_m2, ti_m1, ti_0] at c7
      have e : an_wall a b = (-1) := by
        first
        | (exfalso; omega)
        | unfold an_wall
          try simp only [ti_0, ti_1]
          repeat (first | rw [if_pos (by first | omega | (simp; done) | (simp; omega))] | rw [if_neg (by first | omega | (simp; done) | (simp; omega))])
          all_goals rfl
      rw [e] at hk
      exact hk _ _
  · exact h.elim
theorem ct_X9_wall {E : Ev} {l : Launch} : CT E l yX9_wall (wsY yX9_wall cX9_wall 4 (some .int)) rm_X9_wall 0 sp_X9_wall := ct_of (T := T_X9_wall) (own := RX9) (by decide) rfl (fun ci h10 hc => by have h2 : (99 : Nat) = ci := Nat.eq_of_beq_eq_true hc; omega) ⟨rfl, rfl⟩ ⟨fok_X9, clok_X9, jok_X9, List.forall_mem_cons.mpr ⟨cok_S ct_X9_isIn ((cl_ins (c := 9) (by decide)).2) ml_X9_266 im_X9_isIn co_X9_isIn mo_X9_isIn (by decide), List.forall_mem_cons.mpr ⟨cok_V ct_X9_isBeyond (by decide) rfl ml_X9_280 im_X9_isBeyond se_X9_isBeyond co_X9_isBeyond mo_X9_isBeyond (by decide), List.forall_mem_cons.mpr ⟨cok_S ct_X9_wallTold ((cl_ins (c := 9) (by decide)).2) ml_X9_283 im_X9_wallTold co_X9_wallTold mo_X9_wallTold (by decide), fun _ h => absurd h List.not_mem_nil⟩⟩⟩⟩ bd_X9_wall
def sp_X9_go : Spc := fun as N lg it rf K => match as with | [.ref 489, .int a] => (N = NT ∧ rf = RF0 ∧ Up lg it) ∧ ∀ lg' it', K (some (.int (an_go a))) lg' it' rf | _ => False
def T_X9_go : Tab := (FL_X9, CL_X9, JL_X9, [(266, 1, 3, 0, 0, sp_X9_isIn), (289, 0, 1, 9, 0, sp_X9_findAll)], 99, (some .int))
def rm_X9_go : Room := { frames := 3, cells := 0, slots := 0, locals := 67 }
set_option maxHeartbeats 16000000 in
set_option maxRecDepth 100000 in
theorem bd_X9_go (as : List Value) (N : Nat) (lg : LGt) (it : ITt) (rf : RFt) (Q : Post) (h : sp_X9_go as N lg it rf Q) : Bd T_X9_go cX9_go 5 0 as N lg it rf Q := by
  unfold sp_X9_go at h
  split at h
  · rename_i a
    refine ⟨Nat.le_of_ble_eq_true rfl, fun P hs hw => ?_⟩
    obtain ⟨⟨rfl, rfl, hup⟩, hk⟩ := h
    refine hs dX9_go_0 (hs dX9_go_1 (hs dX9_go_2 (hs dX9_go_3 (hs dX9_go_6 (And.intro (trivial) (n0 (gx (v := (b2 (0 ≤ a.toInt ∧ a.toInt ≤ (20)))) (by simp only [kb_m2, kb_6, kb_12, ki_0, ki_1, kl_0, kl_0, kl_1, Int32.toInt_toInt64, tm1, tj_m9223372036854775808, tj_m9, tj_m1, tj_0, tj_1, tj_2, tj_3, tj_4, tj_5, tj_9, tj_10, tj_19, tj_20, tj_48, tj_57, tj_99, tj_100, tj_127]) ?_ )))))))
    refine hs dX9_go_9 (And.intro (fun c9 => ?_) (fun c9 => ?_))
    · try dsimp only at c9
      try simp only [kb_m2, kb_6, kb_12, ki_0, ki_1, kl_0] at c9
      refine hs dX9_go_15 (hs dX9_go_16 (And.intro (ob_489) (And.intro ⟨rfl, rfl, upi hup (by decide) (by decide) vit_489_0⟩ (fun lg74 it74 hR74 hS74 hE74 hO74 => n0 ?_ ))))
      have f74_it_489_0 : it74 489 0 = 0 := (hR74 0 (by decide)).trans (upi hup (by decide) (by decide) vit_489_0)
      have f74_it_489_9 : it74 489 9 = 0 := (hR74 9 (by decide)).trans (upi hup (by decide) (by decide) vit_489_9)
      have f74_it_489_10 : it74 489 10 = 0 := (hR74 10 (by decide)).trans (upi hup (by decide) (by decide) vit_489_10)
      have f74_it_489_11 : it74 489 11 = 0 := (hR74 11 (by decide)).trans (upi hup (by decide) (by decide) vit_489_11)
      refine hs dX9_go_19 (hs dX9_go_20 (hs dX9_go_21 (And.intro (ob_489) (gx (v := 0) (by simp [u2, sL, sI, mx, zr, hS74]) (hs dX9_go_24 (And.intro (fun c24 => ?_) (fun c24 => ?_)))))))
      · try dsimp only at c24
        try simp only [kb_m2, kb_6, kb_12, ki_0, ki_1, kl_0] at c24
        refine hs dX9_go_31 (hs dX9_go_32 (And.intro (ob_489) (gx (v := 0) (by simp [u2, sL, sI, mx, zr, hS74]) (hs dX9_go_35 (hs dX9_go_36 (hs dX9_go_37 (hs dX9_go_38 (hs dX9_go_39 (hs dX9_go_40 (And.intro (ob_489) (gx (v := 0) (by simp [u2, sL, sI, mx, zr, f74_it_489_0]) (hs dX9_go_43 (And.intro (fun c43 => ?_) (fun c43 => absurd (by decide) c43))))))))))))))
        refine hs dX9_go_130 (hs dX9_go_131 (And.intro (rfl) (And.intro rfl ?_)))
        try simp only [kb_m2, kb_6, kb_12, ki_0, ki_1, kl_0, b2_0, b2_1] at c9 c24
        try simp only [Int32.lt_iff_toInt_lt, Int32.le_iff_toInt_le, ← Int32.toInt_inj, ti_m2, ti_0, ti_1, ti_6, ti_12] at c9 c24
        have e : an_go a = 0 := by
          first
          | (exfalso; omega)
          | unfold an_go
            try simp only [ti_0, ti_1]
            repeat (first | rw [if_pos (by first | omega | (simp; done) | (simp; omega))] | rw [if_neg (by first | omega | (simp; done) | (simp; omega))])
            all_goals rfl
        rw [e] at hk
        exact hk _ _
      · try dsimp only at c24
        try simp only [kb_m2, kb_6, kb_12, ki_0, ki_1, kl_0] at c24
        refine hs dX9_go_27 (hs dX9_go_28 (hs dX9_go_35 (hs dX9_go_36 (hs dX9_go_37 (hs dX9_go_38 (hs dX9_go_39 (hs dX9_go_40 (And.intro (ob_489) (gx (v := 0) (by simp [u2, sL, sI, mx, zr, f74_it_489_0]) (hs dX9_go_43 (And.intro (fun c43 => ?_) (fun c43 => absurd (by decide) c43))))))))))))
        refine hs dX9_go_130 (hs dX9_go_131 (And.intro (rfl) (And.intro rfl ?_)))
        try simp only [kb_m2, kb_6, kb_12, ki_0, ki_1, kl_0, b2_0, b2_1] at c9 c24
        try simp only [Int32.lt_iff_toInt_lt, Int32.le_iff_toInt_le, ← Int32.toInt_inj, ti_m2, ti_0, ti_1, ti_6, ti_12] at c9 c24
        have e : an_go a = a := by
          first
          | (exfalso; omega)
          | unfold an_go
            try simp only [ti_0, ti_1]
            repeat (first | rw [if_pos (by first | omega | (simp; done) | (simp; omega))] | rw [if_neg (by first | omega | (simp; done) | (simp; omega))])
            all_goals rfl
        rw [e] at hk
        exact hk _ _
    · try dsimp only at c9
      try simp only [kb_m2, kb_6, kb_12, ki_0, ki_1, kl_0] at c9
      refine hs dX9_go_12 (hs dX9_go_14 (And.intro (rfl) (And.intro rfl ?_)))
      try simp only [kb_m2, kb_6, kb_12, ki_0, ki_1, kl_0, b2_0, b2_1] at c9
      try simp only [Int32.lt_iff_toInt_lt, Int32.le_iff_toInt_le, ← Int32.toInt_inj, ti_m2, ti_0, ti_1, ti_6, ti_12] at c9
      have e : an_go a = (-2) := by
        first
        | (exfalso; omega)
        | unfold an_go
          try simp only [ti_0, ti_1]
          repeat (first | rw [if_pos (by first | omega | (simp; done) | (simp; omega))] | rw [if_neg (by first | omega | (simp; done) | (simp; omega))])
          all_goals rfl
      rw [e] at hk
      exact hk _ _
  · exact h.elim
theorem ct_X9_go {E : Ev} {l : Launch} : CT E l yX9_go (wsY yX9_go cX9_go 5 (some .int)) rm_X9_go 0 sp_X9_go := ct_of (T := T_X9_go) (own := RX9) (by decide) rfl (fun ci h10 hc => by have h2 : (99 : Nat) = ci := Nat.eq_of_beq_eq_true hc; omega) ⟨rfl, rfl⟩ ⟨fok_X9, clok_X9, jok_X9, List.forall_mem_cons.mpr ⟨cok_S ct_X9_isIn ((cl_ins (c := 9) (by decide)).2) ml_X9_266 im_X9_isIn co_X9_isIn mo_X9_isIn (by decide), List.forall_mem_cons.mpr ⟨cok_V ct_X9_findAll (by decide) rfl ml_X9_289 im_X9_findAll se_X9_findAll co_X9_findAll mo_X9_findAll (by decide), fun _ h => absurd h List.not_mem_nil⟩⟩⟩ bd_X9_go
def sp_X9_feed : Spc := fun as N lg it rf K => match as with | [.ref 489, .int a] => (N = NT ∧ rf = RF0 ∧ Up lg it) ∧ ∀ lg' it', K (some (.int (an_feed a))) lg' it' rf | _ => False
def T_X9_feed : Tab := (FL_X9, CL_X9, JL_X9, [(266, 1, 3, 0, 0, sp_X9_isIn)], 99, (some .int))
def rm_X9_feed : Room := { frames := 1, cells := 0, slots := 0, locals := 25 }
set_option maxHeartbeats 16000000 in
set_option maxRecDepth 100000 in
theorem bd_X9_feed (as : List Value) (N : Nat) (lg : LGt) (it : ITt) (rf : RFt) (Q : Post) (h : sp_X9_feed as N lg it rf Q) : Bd T_X9_feed cX9_feed 2 0 as N lg it rf Q := by
  unfold sp_X9_feed at h
  split at h
  · rename_i a
    refine ⟨Nat.le_of_ble_eq_true rfl, fun P hs hw => ?_⟩
    obtain ⟨⟨rfl, rfl, hup⟩, hk⟩ := h
    refine hs dX9_feed_0 (hs dX9_feed_1 (hs dX9_feed_2 (hs dX9_feed_3 (hs dX9_feed_6 (And.intro (trivial) (n0 (gx (v := (b2 (0 ≤ a.toInt ∧ a.toInt ≤ (127)))) (by simp only [kb_m4, kb_m2, kb_100, ki_1, kl_0, kl_0, kl_1, Int32.toInt_toInt64, tm1, tj_m9223372036854775808, tj_m9, tj_m1, tj_0, tj_1, tj_2, tj_3, tj_4, tj_5, tj_9, tj_10, tj_19, tj_20, tj_48, tj_57, tj_99, tj_100, tj_127]) ?_ )))))))
    refine hs dX9_feed_9 (And.intro (fun c9 => ?_) (fun c9 => ?_))
    · try dsimp only at c9
      try simp only [kb_m4, kb_m2, kb_100, ki_1, kl_0] at c9
      refine hs dX9_feed_15 (hs dX9_feed_16 (And.intro (ob_489) (gx (v := 0) (upi hup (by decide) (by decide) vit_489_50) (hs dX9_feed_19 (hs dX9_feed_21 (And.intro (fun c21 => ?_) (fun c21 => absurd c21 (by decide))))))))
      refine hs dX9_feed_27 (hs dX9_feed_28 (And.intro (ob_489) (gr (r_489_49) (hs dX9_feed_31 (hs dX9_feed_32 (And.intro (ob_489) (gx (v := 0) (upi hup (by decide) (by decide) vit_489_50) (hs dX9_feed_35 (hs dX9_feed_36 (And.intro (ob_513) (And.intro (vin ln_513 (by decide)) (hs dX9_feed_37 (hs dX9_feed_38 (hs dX9_feed_39 (And.intro (ob_489) (gx (v := 0) (by simp [u2, sL, sI, mx, zr, (upi hup (by decide) (by decide) vit_489_50)]) (hs dX9_feed_42 (hs dX9_feed_43 (hs dX9_feed_44 (And.intro (ob_489) (hs dX9_feed_47 (hs dX9_feed_48 (And.intro (ob_489) (gx (v := 1) (by simp [u2, sL, sI, mx, zr, kb_m4, kb_m2, kb_100, ki_1, kl_0]) (hs dX9_feed_51 (And.intro (rfl) (And.intro rfl ?_)))))))))))))))))))))))))))
      try simp only [kb_m4, kb_m2, kb_100, ki_1, kl_0, b2_0, b2_1] at c9
      try simp only [Int32.lt_iff_toInt_lt, Int32.le_iff_toInt_le, ← Int32.toInt_inj, ti_m4, ti_m2, ti_0, ti_1, ti_100] at c9
      have e : an_feed a = 1 := by
        first
        | (exfalso; omega)
        | unfold an_feed
          try simp only [ti_0, ti_1]
          repeat (first | rw [if_pos (by first | omega | (simp; done) | (simp; omega))] | rw [if_neg (by first | omega | (simp; done) | (simp; omega))])
          all_goals rfl
      rw [e] at hk
      exact hk _ _
    · try dsimp only at c9
      try simp only [kb_m4, kb_m2, kb_100, ki_1, kl_0] at c9
      refine hs dX9_feed_12 (hs dX9_feed_14 (And.intro (rfl) (And.intro rfl ?_)))
      try simp only [kb_m4, kb_m2, kb_100, ki_1, kl_0, b2_0, b2_1] at c9
      try simp only [Int32.lt_iff_toInt_lt, Int32.le_iff_toInt_le, ← Int32.toInt_inj, ti_m4, ti_m2, ti_0, ti_1, ti_100] at c9
      have e : an_feed a = (-2) := by
        first
        | (exfalso; omega)
        | unfold an_feed
          try simp only [ti_0, ti_1]
          repeat (first | rw [if_pos (by first | omega | (simp; done) | (simp; omega))] | rw [if_neg (by first | omega | (simp; done) | (simp; omega))])
          all_goals rfl
      rw [e] at hk
      exact hk _ _
  · exact h.elim
theorem ct_X9_feed {E : Ev} {l : Launch} : CT E l yX9_feed (wsY yX9_feed cX9_feed 2 (some .int)) rm_X9_feed 0 sp_X9_feed := ct_of (T := T_X9_feed) (own := RX9) (by decide) rfl (fun ci h10 hc => by have h2 : (99 : Nat) = ci := Nat.eq_of_beq_eq_true hc; omega) ⟨rfl, rfl⟩ ⟨fok_X9, clok_X9, jok_X9, List.forall_mem_cons.mpr ⟨cok_S ct_X9_isIn ((cl_ins (c := 9) (by decide)).2) ml_X9_266 im_X9_isIn co_X9_isIn mo_X9_isIn (by decide), fun _ h => absurd h List.not_mem_nil⟩⟩ bd_X9_feed
def sp_X9_read : Spc := fun as N lg it rf K => match as with | [.ref 489] => (N = NT ∧ rf = RF0 ∧ Up lg it) ∧ ∀ lg' it', K (some (.int (an_read))) lg' it' rf | _ => False
def T_X9_read : Tab := (FL_X9, CL_X9, JL_X9, [(323, 0, 2, 9, 0, sp_X9_clause)], 99, (some .int))
def rm_X9_read : Room := { frames := 1, cells := 0, slots := 0, locals := 23 }
set_option maxHeartbeats 16000000 in
set_option maxRecDepth 100000 in
theorem bd_X9_read (as : List Value) (N : Nat) (lg : LGt) (it : ITt) (rf : RFt) (Q : Post) (h : sp_X9_read as N lg it rf Q) : Bd T_X9_read cX9_read 6 0 as N lg it rf Q := by
  unfold sp_X9_read at h
  split at h
  · refine ⟨Nat.le_of_ble_eq_true rfl, fun P hs hw => ?_⟩
    obtain ⟨⟨rfl, rfl, hup⟩, hk⟩ := h
    refine hs dX9_read_0 (hs dX9_read_1 (hs dX9_read_2 (And.intro (ob_489) (hs dX9_read_5 (hs dX9_read_6 (hs dX9_read_7 (hs dX9_read_8 (hs dX9_read_9 (hs dX9_read_10 (hs dX9_read_11 (hs dX9_read_12 (And.intro (fun c12 => absurd c12 (by decide)) (fun c12 => (hs dX9_read_15 (hs dX9_read_16 (And.intro (fun c16 => absurd c16 (by decide)) (fun c16 => (hs dX9_read_19 (hs dX9_read_20 (hs dX9_read_21 (And.intro (ob_489) (And.intro ⟨rfl, rfl, by simp [u2, sL, sI, mx, zr, kb_m10, kb_12, kb_59, ki_0, ki_1], by simp [u2, sL, sI, mx, zr, (upi hup (by decide) (by decide) vit_489_50)]⟩ (n0 (hs dX9_read_24 (hs dX9_read_25 (hs dX9_read_26 (hs dX9_read_27 (And.intro (fun c27 => ?_) (fun c27 => absurd (by decide) c27)))))))))))))))))))))))))))))
    refine hs dX9_read_34 (hs dX9_read_35 (hs dX9_read_36 (hs dX9_read_37 (hs dX9_read_38 (And.intro (fun c38 => ?_) (fun c38 => absurd (by decide) c38))))))
    refine hs dX9_read_60 (hs dX9_read_61 (hs dX9_read_62 (hs dX9_read_11 (hs dX9_read_12 (And.intro (fun c12 => ?_) (fun c12 => absurd (by decide) c12))))))
    refine hs dX9_read_65 (hs dX9_read_66 (And.intro (fun c66 => ?_) (fun c66 => absurd (by decide) c66)))
    refine hs dX9_read_84 (hs dX9_read_85 (hs dX9_read_86 (hs dX9_read_87 (hs dX9_read_88 (And.intro (ob_489) (hs dX9_read_91 (hs dX9_read_92 (And.intro (fun c92 => absurd rfl c92) (fun c92 => (hs dX9_read_95 (hs dX9_read_97 (hs dX9_read_98 (And.intro (ob_489) (gx (v := 0) (by simp [u2, sL, sI, mx, zr, kb_m10, kb_12, kb_59, ki_0, ki_1]) (hs dX9_read_101 (hs dX9_read_102 (And.intro (rfl) (And.intro rfl ?_))))))))))))))))))
    have e : an_read = (-10) := rfl
    rw [e] at hk
    exact hk _ _
  · exact h.elim
theorem ct_X9_read {E : Ev} {l : Launch} : CT E l yX9_read (wsY yX9_read cX9_read 6 (some .int)) rm_X9_read 0 sp_X9_read := ct_of (T := T_X9_read) (own := RX9) (by decide) rfl (fun ci h10 hc => by have h2 : (99 : Nat) = ci := Nat.eq_of_beq_eq_true hc; omega) ⟨rfl, rfl⟩ ⟨fok_X9, clok_X9, jok_X9, List.forall_mem_cons.mpr ⟨cok_V ct_X9_clause (by decide) rfl ml_X9_323 im_X9_clause se_X9_clause co_X9_clause mo_X9_clause (by decide), fun _ h => absurd h List.not_mem_nil⟩⟩ bd_X9_read
def sp_X9_of : Spc := fun as N lg it rf K => match as with | [.ref 489, .int a, .int b, .int c] => (N = NT ∧ rf = RF0 ∧ Up lg it) ∧ ∀ lg' it', K (some (.long (an_of a b c))) lg' it' rf | _ => False
def T_X9_of : Tab := (FL_X9, CL_X9, JL_X9, [(276, 0, 2, 9, 0, sp_X9_isBumper), (266, 1, 3, 0, 0, sp_X9_isIn), (329, 1, 1, 0, 0, sp_X9_isPart)], 99, (some .long))
def rm_X9_of : Room := { frames := 2, cells := 0, slots := 0, locals := 46 }
set_option maxHeartbeats 16000000 in
set_option maxRecDepth 100000 in
theorem bd_X9_of (as : List Value) (N : Nat) (lg : LGt) (it : ITt) (rf : RFt) (Q : Post) (h : sp_X9_of as N lg it rf Q) : Bd T_X9_of cX9_of 4 0 as N lg it rf Q := by
  unfold sp_X9_of at h
  split at h
  · rename_i a b c
    refine ⟨Nat.le_of_ble_eq_true rfl, fun P hs hw => ?_⟩
    obtain ⟨⟨rfl, rfl, hup⟩, hk⟩ := h
    refine hs dX9_of_0 (hs dX9_of_1 (hs dX9_of_2 (And.intro (ob_489) (And.intro ⟨rfl, rfl, upi hup (by decide) (by decide) vit_489_0⟩ (n0 (hs dX9_of_5 (And.intro (fun c5 => ?_) (fun c5 => absurd (by decide) c5))))))))
    refine hs dX9_of_27 (hs dX9_of_30 (And.intro (rfl) (And.intro rfl ?_)))
    have e : an_of a b c = (-9223372036854775808) := rfl
    rw [e] at hk
    exact hk _ _
  · exact h.elim
theorem ct_X9_of {E : Ev} {l : Launch} : CT E l yX9_of (wsY yX9_of cX9_of 4 (some .long)) rm_X9_of 0 sp_X9_of := ct_of (T := T_X9_of) (own := RX9) (by decide) rfl (fun ci h10 hc => by have h2 : (99 : Nat) = ci := Nat.eq_of_beq_eq_true hc; omega) ⟨rfl, rfl⟩ ⟨fok_X9, clok_X9, jok_X9, List.forall_mem_cons.mpr ⟨cok_V ct_X9_isBumper (by decide) rfl ml_X9_276 im_X9_isBumper se_X9_isBumper co_X9_isBumper mo_X9_isBumper (by decide), List.forall_mem_cons.mpr ⟨cok_S ct_X9_isIn ((cl_ins (c := 9) (by decide)).2) ml_X9_266 im_X9_isIn co_X9_isIn mo_X9_isIn (by decide), List.forall_mem_cons.mpr ⟨cok_S ct_X9_isPart ((cl_ins (c := 9) (by decide)).2) ml_X9_329 im_X9_isPart co_X9_isPart mo_X9_isPart (by decide), fun _ h => absurd h List.not_mem_nil⟩⟩⟩⟩ bd_X9_of
def sp_X9_told : Spc := fun as N lg it rf K => match as with | [.ref 489, .int a] => (N = NT ∧ rf = RF0 ∧ Up lg it) ∧ ∀ lg' it', K (some (.int (an_told a))) lg' it' rf | _ => False
def T_X9_told : Tab := (FL_X9, CL_X9, JL_X9, [(266, 1, 3, 0, 0, sp_X9_isIn), (283, 1, 1, 0, 0, sp_X9_wallTold), (289, 0, 1, 9, 0, sp_X9_findAll)], 99, (some .int))
def rm_X9_told : Room := { frames := 3, cells := 0, slots := 0, locals := 67 }
set_option maxHeartbeats 16000000 in
set_option maxRecDepth 100000 in
theorem bd_X9_told (as : List Value) (N : Nat) (lg : LGt) (it : ITt) (rf : RFt) (Q : Post) (h : sp_X9_told as N lg it rf Q) : Bd T_X9_told cX9_told 2 0 as N lg it rf Q := by
  unfold sp_X9_told at h
  split at h
  · rename_i a
    refine ⟨Nat.le_of_ble_eq_true rfl, fun P hs hw => ?_⟩
    obtain ⟨⟨rfl, rfl, hup⟩, hk⟩ := h
    refine hs dX9_told_0 (hs dX9_told_1 (hs dX9_told_2 (hs dX9_told_3 (hs dX9_told_6 (And.intro (trivial) (n0 (gx (v := (b2 (0 ≤ a.toInt ∧ a.toInt ≤ (5)))) (by simp only [ki_m1, ki_4, kl_0, kl_0, kl_1, Int32.toInt_toInt64, tm1, tj_m9223372036854775808, tj_m9, tj_m1, tj_0, tj_1, tj_2, tj_3, tj_4, tj_5, tj_9, tj_10, tj_19, tj_20, tj_48, tj_57, tj_99, tj_100, tj_127]) ?_ )))))))
    refine hs dX9_told_9 (And.intro (fun c9 => ?_) (fun c9 => ?_))
    · try dsimp only at c9
      try simp only [ki_m1, ki_4, kl_0] at c9
      refine hs dX9_told_14 (hw dX9_told_15 (And.intro (fun c15 => ?_) (And.intro (fun c15 => ?_) (And.intro (fun c15 => ?_) (And.intro (fun c15 => ?_) (And.intro (fun c15 => ?_) trivial))))))
      · try simp only [ki_m1, ki_4, kl_0] at c15
        refine hs dX9_told_70 (hs dX9_told_71 (And.intro (ob_489) (And.intro ⟨rfl, rfl, upi hup (by decide) (by decide) vit_489_0⟩ (fun lg75 it75 hR75 hS75 hE75 hO75 => n0 ?_ ))))
        have f75_it_489_0 : it75 489 0 = 0 := (hR75 0 (by decide)).trans (upi hup (by decide) (by decide) vit_489_0)
        have f75_it_489_9 : it75 489 9 = 0 := (hR75 9 (by decide)).trans (upi hup (by decide) (by decide) vit_489_9)
        have f75_it_489_10 : it75 489 10 = 0 := (hR75 10 (by decide)).trans (upi hup (by decide) (by decide) vit_489_10)
        have f75_it_489_11 : it75 489 11 = 0 := (hR75 11 (by decide)).trans (upi hup (by decide) (by decide) vit_489_11)
        refine hs dX9_told_74 (hs dX9_told_75 (hs dX9_told_76 (And.intro (fun c76 => ?_) (fun c76 => ?_))))
        · try dsimp only at c76
          try simp only [ki_m1, ki_4, kl_0] at c76
          refine hs dX9_told_86 (hs dX9_told_87 (And.intro (ob_489) (gx (v := 0) (by simp [u2, sL, sI, mx, zr, hE75]) (hs dX9_told_90 (And.intro (rfl) (And.intro rfl ?_))))))
          try simp only [ki_m1, ki_4, kl_0, b2_0, b2_1] at c9 c15 c76
          try simp only [Int32.lt_iff_toInt_lt, Int32.le_iff_toInt_le, ← Int32.toInt_inj, ti_m1, ti_0, ti_4] at c9 c15 c76
          have e : an_told a = 0 := by
            first
            | (exfalso; omega)
            | unfold an_told
              try simp only [ti_0, ti_1]
              repeat (first | rw [if_pos (by first | omega | (simp; done) | (simp; omega))] | rw [if_neg (by first | omega | (simp; done) | (simp; omega))])
              all_goals rfl
          rw [e] at hk
          exact hk _ _
        · try dsimp only at c76
          try simp only [ki_m1, ki_4, kl_0] at c76
          refine hs dX9_told_79 (hs dX9_told_80 (And.intro (ob_489) (gx (v := 0) (by simp [u2, sL, sI, mx, zr, hS75]) (hs dX9_told_83 (hs dX9_told_90 (And.intro (rfl) (And.intro rfl ?_)))))))
          try simp only [ki_m1, ki_4, kl_0, b2_0, b2_1] at c9 c15 c76
          try simp only [Int32.lt_iff_toInt_lt, Int32.le_iff_toInt_le, ← Int32.toInt_inj, ti_m1, ti_0, ti_4] at c9 c15 c76
          have e : an_told a = 0 := by
            first
            | (exfalso; omega)
            | unfold an_told
              try simp only [ti_0, ti_1]
              repeat (first | rw [if_pos (by first | omega | (simp; done) | (simp; omega))] | rw [if_neg (by first | omega | (simp; done) | (simp; omega))])
              all_goals rfl
          rw [e] at hk
          exact hk _ _
      · try simp only [ki_m1, ki_4, kl_0] at c15
        refine hs dX9_told_44 (hs dX9_told_45 (And.intro (ob_489) (gx (v := 0) (upi hup (by decide) (by decide) vit_489_0) (hs dX9_told_48 (And.intro (rfl) (And.intro rfl ?_))))))
        try simp only [ki_m1, ki_4, kl_0, b2_0, b2_1] at c9 c15
        try simp only [Int32.lt_iff_toInt_lt, Int32.le_iff_toInt_le, ← Int32.toInt_inj, ti_m1, ti_0, ti_4] at c9 c15
        have e : an_told a = 0 := by
          first
          | (exfalso; omega)
          | unfold an_told
            try simp only [ti_0, ti_1]
            repeat (first | rw [if_pos (by first | omega | (simp; done) | (simp; omega))] | rw [if_neg (by first | omega | (simp; done) | (simp; omega))])
            all_goals rfl
        rw [e] at hk
        exact hk _ _
      · try simp only [ki_m1, ki_4, kl_0] at c15
        refine hs dX9_told_49 (hs dX9_told_50 (And.intro (ob_489) (gx (v := 4) (upi hup (by decide) (by decide) vit_489_1) (hs dX9_told_53 (And.intro (rfl) (And.intro rfl ?_))))))
        try simp only [ki_m1, ki_4, kl_0, b2_0, b2_1] at c9 c15
        try simp only [Int32.lt_iff_toInt_lt, Int32.le_iff_toInt_le, ← Int32.toInt_inj, ti_m1, ti_0, ti_4] at c9 c15
        have e : an_told a = 4 := by
          first
          | (exfalso; omega)
          | unfold an_told
            try simp only [ti_0, ti_1]
            repeat (first | rw [if_pos (by first | omega | (simp; done) | (simp; omega))] | rw [if_neg (by first | omega | (simp; done) | (simp; omega))])
            all_goals rfl
        rw [e] at hk
        exact hk _ _
      · try simp only [ki_m1, ki_4, kl_0] at c15
        refine hs dX9_told_54 (hs dX9_told_55 (And.intro (ob_489) (gx (v := 4) (upi hup (by decide) (by decide) vit_489_2) (hs dX9_told_58 (And.intro (trivial) (And.intro (by first | rfl | decide) (n0 (hs dX9_told_61 (And.intro (rfl) (And.intro rfl ?_))))))))))
        try simp only [ki_m1, ki_4, kl_0, b2_0, b2_1] at c9 c15
        try simp only [Int32.lt_iff_toInt_lt, Int32.le_iff_toInt_le, ← Int32.toInt_inj, ti_m1, ti_0, ti_4] at c9 c15
        have e : an_told a = 4 := by
          first
          | (exfalso; omega)
          | unfold an_told
            try simp only [ti_0, ti_1]
            repeat (first | rw [if_pos (by first | omega | (simp; done) | (simp; omega))] | rw [if_neg (by first | omega | (simp; done) | (simp; omega))])
            all_goals rfl
        rw [e] at hk
        exact hk _ _
      · try simp only [ki_m1, ki_4, kl_0] at c15
        refine hs dX9_told_62 (hs dX9_told_63 (And.intro (ob_489) (gx (v := 4) (upi hup (by decide) (by decide) vit_489_3) (hs dX9_told_66 (And.intro (trivial) (And.intro (by first | rfl | decide) (n0 (hs dX9_told_69 (And.intro (rfl) (And.intro rfl ?_))))))))))
        try simp only [ki_m1, ki_4, kl_0, b2_0, b2_1] at c9 c15
        try simp only [Int32.lt_iff_toInt_lt, Int32.le_iff_toInt_le, ← Int32.toInt_inj, ti_m1, ti_0, ti_4] at c9 c15
        have e : an_told a = 4 := by
          first
          | (exfalso; omega)
          | unfold an_told
            try simp only [ti_0, ti_1]
            repeat (first | rw [if_pos (by first | omega | (simp; done) | (simp; omega))] | rw [if_neg (by first | omega | (simp; done) | (simp; omega))])
            all_goals rfl
        rw [e] at hk
        exact hk _ _
    · try dsimp only at c9
      try simp only [ki_m1, ki_4, kl_0] at c9
      refine hs dX9_told_12 (hs dX9_told_13 (And.intro (rfl) (And.intro rfl ?_)))
      try simp only [ki_m1, ki_4, kl_0, b2_0, b2_1] at c9
      try simp only [Int32.lt_iff_toInt_lt, Int32.le_iff_toInt_le, ← Int32.toInt_inj, ti_m1, ti_0, ti_4] at c9
      have e : an_told a = (-1) := by
        first
        | (exfalso; omega)
        | unfold an_told
          try simp only [ti_0, ti_1]
          repeat (first | rw [if_pos (by first | omega | (simp; done) | (simp; omega))] | rw [if_neg (by first | omega | (simp; done) | (simp; omega))])
          all_goals rfl
      rw [e] at hk
      exact hk _ _
  · exact h.elim
theorem ct_X9_told {E : Ev} {l : Launch} : CT E l yX9_told (wsY yX9_told cX9_told 2 (some .int)) rm_X9_told 0 sp_X9_told := ct_of (T := T_X9_told) (own := RX9) (by decide) rfl (fun ci h10 hc => by have h2 : (99 : Nat) = ci := Nat.eq_of_beq_eq_true hc; omega) ⟨rfl, rfl⟩ ⟨fok_X9, clok_X9, jok_X9, List.forall_mem_cons.mpr ⟨cok_S ct_X9_isIn ((cl_ins (c := 9) (by decide)).2) ml_X9_266 im_X9_isIn co_X9_isIn mo_X9_isIn (by decide), List.forall_mem_cons.mpr ⟨cok_S ct_X9_wallTold ((cl_ins (c := 9) (by decide)).2) ml_X9_283 im_X9_wallTold co_X9_wallTold mo_X9_wallTold (by decide), List.forall_mem_cons.mpr ⟨cok_V ct_X9_findAll (by decide) rfl ml_X9_289 im_X9_findAll se_X9_findAll co_X9_findAll mo_X9_findAll (by decide), fun _ h => absurd h List.not_mem_nil⟩⟩⟩⟩ bd_X9_told
def sp_X9_push : Spc := fun as N lg it rf K => match as with | [.ref 489, .int a, .int b] => (N = NT ∧ rf = RF0 ∧ Up lg it) ∧ ∀ lg' it', K (some (.long (an_push a b))) lg' it' rf | _ => False
def T_X9_push : Tab := (FL_X9, CL_X9, JL_X9, [(266, 1, 3, 0, 0, sp_X9_isIn), (329, 1, 1, 0, 0, sp_X9_isPart), (260, 0, 1, 9, 0, sp_X9_minds), (334, 0, 2, 9, 0, sp_X9_sums)], 99, (some .long))
def rm_X9_push : Room := { frames := 2, cells := 0, slots := 0, locals := 45 }
set_option maxHeartbeats 16000000 in
set_option maxRecDepth 100000 in
theorem bd_X9_push (as : List Value) (N : Nat) (lg : LGt) (it : ITt) (rf : RFt) (Q : Post) (h : sp_X9_push as N lg it rf Q) : Bd T_X9_push cX9_push 3 0 as N lg it rf Q := by
  unfold sp_X9_push at h
  split at h
  · rename_i a b
    refine ⟨Nat.le_of_ble_eq_true rfl, fun P hs hw => ?_⟩
    obtain ⟨⟨rfl, rfl, hup⟩, hk⟩ := h
    refine hs dX9_push_0 (hs dX9_push_1 (hs dX9_push_2 (hs dX9_push_3 (hs dX9_push_4 (And.intro (trivial) (n0 (gx (v := (b2 (0 ≤ a.toInt ∧ a.toInt ≤ 1))) (by simp only [kl_0, kl_1, kl_0, kl_1, Int32.toInt_toInt64, tm1, tj_m9223372036854775808, tj_m9, tj_m1, tj_0, tj_1, tj_2, tj_3, tj_4, tj_5, tj_9, tj_10, tj_19, tj_20, tj_48, tj_57, tj_99, tj_100, tj_127]) ?_ )))))))
    refine hs dX9_push_7 (And.intro (fun c7 => ?_) (fun c7 => ?_))
    · try dsimp only at c7
      try simp only [kl_0, kl_1] at c7
      refine hs dX9_push_17 (hs dX9_push_20 (And.intro (rfl) (And.intro rfl ?_)))
      try simp only [kl_0, kl_1, b2_0, b2_1] at c7
      try simp only [Int32.lt_iff_toInt_lt, Int32.le_iff_toInt_le, ← Int32.toInt_inj, ti_0] at c7
      have e : an_push a b = (-9223372036854775808) := by
        first
        | (exfalso; omega)
        | unfold an_push
          try simp only [ti_0, ti_1]
          repeat (first | rw [if_pos (by first | omega | (simp; done) | (simp; omega))] | rw [if_neg (by first | omega | (simp; done) | (simp; omega))])
          all_goals rfl
      rw [e] at hk
      exact hk _ _
    · try dsimp only at c7
      try simp only [kl_0, kl_1] at c7
      refine hs dX9_push_10 (hs dX9_push_11 (And.intro (trivial) (n0 (hs dX9_push_14 (And.intro (fun c14 => ?_) (fun c14 => ?_))))))
      · try dsimp only at c14
        try simp only [kl_0, kl_1] at c14
        refine hs dX9_push_21 (hs dX9_push_22 (And.intro (ob_489) (And.intro ⟨rfl, rfl⟩ (fun lg76 it76 hR76 => n0 ?_ ))))
        have f76_it_489_0 : it76 489 0 = 0 := (hR76 0 (by decide)).trans (upi hup (by decide) (by decide) vit_489_0)
        have f76_it_489_9 : it76 489 9 = 0 := (hR76 9 (by decide)).trans (upi hup (by decide) (by decide) vit_489_9)
        have f76_it_489_10 : it76 489 10 = 0 := (hR76 10 (by decide)).trans (upi hup (by decide) (by decide) vit_489_10)
        have f76_it_489_11 : it76 489 11 = 0 := (hR76 11 (by decide)).trans (upi hup (by decide) (by decide) vit_489_11)
        refine hs dX9_push_25 (hs dX9_push_26 (hs dX9_push_27 (And.intro (ob_489) (And.intro ⟨rfl, rfl, by simp [u2, sL, sI, mx, zr, f76_it_489_0]⟩ (fun lg77 it77 hU77 hD77 => n0 ?_ )))))
        refine hs dX9_push_30 (And.intro (fun c30 => absurd c30 (by decide)) (fun c30 => (hs dX9_push_33 (hs dX9_push_34 (And.intro (fun c34 => ?_) (fun c34 => ?_))))))
        · try dsimp only at c34
          try simp only [kl_0, kl_1] at c34
          refine hs dX9_push_44 (hs dX9_push_45 (And.intro (ob_489) (gxl (v := 1) (by simp [u2, sL, sI, mx, zr, hD77]) (hs dX9_push_48 (hs dX9_push_54 (And.intro (rfl) (And.intro rfl ?_)))))))
          try simp only [kl_0, kl_1, b2_0, b2_1] at c7 c14 c34
          try simp only [Int32.lt_iff_toInt_lt, Int32.le_iff_toInt_le, ← Int32.toInt_inj, ti_0] at c7 c14 c34
          have e : an_push a b = 1 := by
            first
            | (exfalso; omega)
            | unfold an_push
              try simp only [ti_0, ti_1]
              repeat (first | rw [if_pos (by first | omega | (simp; done) | (simp; omega))] | rw [if_neg (by first | omega | (simp; done) | (simp; omega))])
              all_goals rfl
          rw [e] at hk
          exact hk _ _
        · try dsimp only at c34
          try simp only [kl_0, kl_1] at c34
          refine hs dX9_push_37 (hs dX9_push_38 (And.intro (ob_489) (gxl (v := 0) (by simp [u2, sL, sI, mx, zr, hU77]) (hs dX9_push_41 (hs dX9_push_54 (And.intro (rfl) (And.intro rfl ?_)))))))
          try simp only [kl_0, kl_1, b2_0, b2_1] at c7 c14 c34
          try simp only [Int32.lt_iff_toInt_lt, Int32.le_iff_toInt_le, ← Int32.toInt_inj, ti_0] at c7 c14 c34
          have e : an_push a b = 0 := by
            first
            | (exfalso; omega)
            | unfold an_push
              try simp only [ti_0, ti_1]
              repeat (first | rw [if_pos (by first | omega | (simp; done) | (simp; omega))] | rw [if_neg (by first | omega | (simp; done) | (simp; omega))])
              all_goals rfl
          rw [e] at hk
          exact hk _ _
      · try dsimp only at c14
        try simp only [kl_0, kl_1] at c14
        refine hs dX9_push_17 (hs dX9_push_20 (And.intro (rfl) (And.intro rfl ?_)))
        try simp only [kl_0, kl_1, b2_0, b2_1] at c7 c14
        try simp only [Int32.lt_iff_toInt_lt, Int32.le_iff_toInt_le, ← Int32.toInt_inj, ti_0] at c7 c14
        have e : an_push a b = (-9223372036854775808) := by
          first
          | (exfalso; omega)
          | unfold an_push
            try simp only [ti_0, ti_1]
            repeat (first | rw [if_pos (by first | omega | (simp; done) | (simp; omega))] | rw [if_neg (by first | omega | (simp; done) | (simp; omega))])
            all_goals rfl
        rw [e] at hk
        exact hk _ _
  · exact h.elim
theorem ct_X9_push {E : Ev} {l : Launch} : CT E l yX9_push (wsY yX9_push cX9_push 3 (some .long)) rm_X9_push 0 sp_X9_push := ct_of (T := T_X9_push) (own := RX9) (by decide) rfl (fun ci h10 hc => by have h2 : (99 : Nat) = ci := Nat.eq_of_beq_eq_true hc; omega) ⟨rfl, rfl⟩ ⟨fok_X9, clok_X9, jok_X9, List.forall_mem_cons.mpr ⟨cok_S ct_X9_isIn ((cl_ins (c := 9) (by decide)).2) ml_X9_266 im_X9_isIn co_X9_isIn mo_X9_isIn (by decide), List.forall_mem_cons.mpr ⟨cok_S ct_X9_isPart ((cl_ins (c := 9) (by decide)).2) ml_X9_329 im_X9_isPart co_X9_isPart mo_X9_isPart (by decide), List.forall_mem_cons.mpr ⟨cok_V ct_X9_minds (by decide) rfl ml_X9_260 im_X9_minds se_X9_minds co_X9_minds mo_X9_minds (by decide), List.forall_mem_cons.mpr ⟨cok_V ct_X9_sums (by decide) rfl ml_X9_334 im_X9_sums se_X9_sums co_X9_sums mo_X9_sums (by decide), fun _ h => absurd h List.not_mem_nil⟩⟩⟩⟩⟩ bd_X9_push
def sp_X9_where : Spc := fun as N lg it rf K => match as with | [.ref 489, .int a] => (N = NT ∧ rf = RF0 ∧ Up lg it) ∧ ∀ lg' it', K (some (.int (an_where a))) lg' it' rf | _ => False
def T_X9_where : Tab := (FL_X9, CL_X9, JL_X9, [(289, 0, 1, 9, 0, sp_X9_findAll)], 99, (some .int))
def rm_X9_where : Room := { frames := 3, cells := 0, slots := 0, locals := 67 }
set_option maxHeartbeats 16000000 in
set_option maxRecDepth 100000 in
theorem bd_X9_where (as : List Value) (N : Nat) (lg : LGt) (it : ITt) (rf : RFt) (Q : Post) (h : sp_X9_where as N lg it rf Q) : Bd T_X9_where cX9_where 2 0 as N lg it rf Q := by
  unfold sp_X9_where at h
  split at h
  · rename_i a
    refine ⟨Nat.le_of_ble_eq_true rfl, fun P hs hw => ?_⟩
    obtain ⟨⟨rfl, rfl, hup⟩, hk⟩ := h
    refine hs dX9_where_0 (hs dX9_where_1 (And.intro (fun c1 => ?_) (fun c1 => ?_)))
    · try dsimp only at c1
      try simp only [kb_m5, ki_m1] at c1
      refine hs dX9_where_6 (hs dX9_where_7 (And.intro (ob_489) (And.intro ⟨rfl, rfl, upi hup (by decide) (by decide) vit_489_0⟩ (fun lg78 it78 hR78 hS78 hE78 hO78 => n0 ?_ ))))
      have f78_it_489_0 : it78 489 0 = 0 := (hR78 0 (by decide)).trans (upi hup (by decide) (by decide) vit_489_0)
      have f78_it_489_9 : it78 489 9 = 0 := (hR78 9 (by decide)).trans (upi hup (by decide) (by decide) vit_489_9)
      have f78_it_489_10 : it78 489 10 = 0 := (hR78 10 (by decide)).trans (upi hup (by decide) (by decide) vit_489_10)
      have f78_it_489_11 : it78 489 11 = 0 := (hR78 11 (by decide)).trans (upi hup (by decide) (by decide) vit_489_11)
      refine hs dX9_where_10 (hs dX9_where_11 (hs dX9_where_12 (And.intro (ob_489) (gx (v := 0) (by simp [u2, sL, sI, mx, zr, hS78]) (hs dX9_where_15 (And.intro (fun c15 => ?_) (fun c15 => False.elim (by try simp only [kb_m5, ki_m1, Int32.lt_iff_toInt_lt, Int32.le_iff_toInt_le, ti_0, ti_m1, ti_1] at c1 c15; omega))))))))
      refine hs dX9_where_27 (hs dX9_where_29 (And.intro (rfl) (And.intro rfl ?_)))
      try simp only [kb_m5, ki_m1, b2_0, b2_1] at c1
      try simp only [Int32.lt_iff_toInt_lt, Int32.le_iff_toInt_le, ← Int32.toInt_inj, ti_m5, ti_m1, ti_0] at c1
      have e : an_where a = (-5) := by
        first
        | (exfalso; omega)
        | unfold an_where
          try simp only [ti_0, ti_1]
          repeat (first | rw [if_pos (by first | omega | (simp; done) | (simp; omega))] | rw [if_neg (by first | omega | (simp; done) | (simp; omega))])
          all_goals rfl
      rw [e] at hk
      exact hk _ _
    · try dsimp only at c1
      try simp only [kb_m5, ki_m1] at c1
      refine hs dX9_where_4 (hs dX9_where_5 (And.intro (rfl) (And.intro rfl ?_)))
      try simp only [kb_m5, ki_m1, b2_0, b2_1] at c1
      try simp only [Int32.lt_iff_toInt_lt, Int32.le_iff_toInt_le, ← Int32.toInt_inj, ti_m5, ti_m1, ti_0] at c1
      have e : an_where a = (-1) := by
        first
        | (exfalso; omega)
        | unfold an_where
          try simp only [ti_0, ti_1]
          repeat (first | rw [if_pos (by first | omega | (simp; done) | (simp; omega))] | rw [if_neg (by first | omega | (simp; done) | (simp; omega))])
          all_goals rfl
      rw [e] at hk
      exact hk _ _
  · exact h.elim
theorem ct_X9_where {E : Ev} {l : Launch} : CT E l yX9_where (wsY yX9_where cX9_where 2 (some .int)) rm_X9_where 0 sp_X9_where := ct_of (T := T_X9_where) (own := RX9) (by decide) rfl (fun ci h10 hc => by have h2 : (99 : Nat) = ci := Nat.eq_of_beq_eq_true hc; omega) ⟨rfl, rfl⟩ ⟨fok_X9, clok_X9, jok_X9, List.forall_mem_cons.mpr ⟨cok_V ct_X9_findAll (by decide) rfl ml_X9_289 im_X9_findAll se_X9_findAll co_X9_findAll mo_X9_findAll (by decide), fun _ h => absurd h List.not_mem_nil⟩⟩ bd_X9_where
def sp_X9_time : Spc := fun as N lg it rf K => match as with | [.ref 489, .int a, .int b] => (N = NT ∧ rf = RF0 ∧ Up lg it) ∧ ∀ lg' it', K (some (.long (an_time a b))) lg' it' rf | _ => False
def T_X9_time : Tab := (FL_X9, CL_X9, JL_X9, [(329, 1, 1, 0, 0, sp_X9_isPart), (289, 0, 1, 9, 0, sp_X9_findAll)], 99, (some .long))
def rm_X9_time : Room := { frames := 3, cells := 0, slots := 0, locals := 67 }
set_option maxHeartbeats 16000000 in
set_option maxRecDepth 100000 in
theorem bd_X9_time (as : List Value) (N : Nat) (lg : LGt) (it : ITt) (rf : RFt) (Q : Post) (h : sp_X9_time as N lg it rf Q) : Bd T_X9_time cX9_time 3 0 as N lg it rf Q := by
  unfold sp_X9_time at h
  split at h
  · rename_i a b
    refine ⟨Nat.le_of_ble_eq_true rfl, fun P hs hw => ?_⟩
    obtain ⟨⟨rfl, rfl, hup⟩, hk⟩ := h
    refine hs dX9_time_0 (hs dX9_time_1 (And.intro (fun c1 => ?_) (fun c1 => ?_)))
    · try dsimp only at c1
      try simp only [ki_0] at c1
      refine hs dX9_time_11 (hs dX9_time_14 (And.intro (rfl) (And.intro rfl ?_)))
      try simp only [ki_0, b2_0, b2_1] at c1
      try simp only [Int32.lt_iff_toInt_lt, Int32.le_iff_toInt_le, ← Int32.toInt_inj, ti_0] at c1
      have e : an_time a b = (-9223372036854775808) := rfl
      rw [e] at hk
      exact hk _ _
    · try dsimp only at c1
      try simp only [ki_0] at c1
      refine hs dX9_time_4 (hs dX9_time_5 (And.intro (trivial) (n0 (hs dX9_time_8 (And.intro (fun c8 => ?_) (fun c8 => ?_))))))
      · try dsimp only at c8
        try simp only [ki_0] at c8
        refine hs dX9_time_15 (hs dX9_time_16 (And.intro (ob_489) (And.intro ⟨rfl, rfl, upi hup (by decide) (by decide) vit_489_0⟩ (fun lg79 it79 hR79 hS79 hE79 hO79 => n0 ?_ ))))
        have f79_it_489_0 : it79 489 0 = 0 := (hR79 0 (by decide)).trans (upi hup (by decide) (by decide) vit_489_0)
        have f79_it_489_9 : it79 489 9 = 0 := (hR79 9 (by decide)).trans (upi hup (by decide) (by decide) vit_489_9)
        have f79_it_489_10 : it79 489 10 = 0 := (hR79 10 (by decide)).trans (upi hup (by decide) (by decide) vit_489_10)
        have f79_it_489_11 : it79 489 11 = 0 := (hR79 11 (by decide)).trans (upi hup (by decide) (by decide) vit_489_11)
        refine hs dX9_time_19 (hs dX9_time_20 (hs dX9_time_21 (And.intro (ob_489) (gx (v := 0) (by simp [u2, sL, sI, mx, zr, hS79]) (hs dX9_time_24 (And.intro (fun c24 => ?_) (fun c24 => False.elim (by try simp only [ki_0, Int32.lt_iff_toInt_lt, Int32.le_iff_toInt_le, ti_0, ti_m1, ti_1] at c1 c8 c24; omega))))))))
        refine hs dX9_time_49 (hs dX9_time_52 (And.intro (rfl) (And.intro rfl ?_)))
        try simp only [ki_0, b2_0, b2_1] at c1 c8
        try simp only [Int32.lt_iff_toInt_lt, Int32.le_iff_toInt_le, ← Int32.toInt_inj, ti_0] at c1 c8
        have e : an_time a b = (-9223372036854775808) := rfl
        rw [e] at hk
        exact hk _ _
      · try dsimp only at c8
        try simp only [ki_0] at c8
        refine hs dX9_time_11 (hs dX9_time_14 (And.intro (rfl) (And.intro rfl ?_)))
        try simp only [ki_0, b2_0, b2_1] at c1 c8
        try simp only [Int32.lt_iff_toInt_lt, Int32.le_iff_toInt_le, ← Int32.toInt_inj, ti_0] at c1 c8
        have e : an_time a b = (-9223372036854775808) := rfl
        rw [e] at hk
        exact hk _ _
  · exact h.elim
theorem ct_X9_time {E : Ev} {l : Launch} : CT E l yX9_time (wsY yX9_time cX9_time 3 (some .long)) rm_X9_time 0 sp_X9_time := ct_of (T := T_X9_time) (own := RX9) (by decide) rfl (fun ci h10 hc => by have h2 : (99 : Nat) = ci := Nat.eq_of_beq_eq_true hc; omega) ⟨rfl, rfl⟩ ⟨fok_X9, clok_X9, jok_X9, List.forall_mem_cons.mpr ⟨cok_S ct_X9_isPart ((cl_ins (c := 9) (by decide)).2) ml_X9_329 im_X9_isPart co_X9_isPart mo_X9_isPart (by decide), List.forall_mem_cons.mpr ⟨cok_V ct_X9_findAll (by decide) rfl ml_X9_289 im_X9_findAll se_X9_findAll co_X9_findAll mo_X9_findAll (by decide), fun _ h => absurd h List.not_mem_nil⟩⟩⟩ bd_X9_time
def sp_X9_behind : Spc := fun as N lg it rf K => match as with | [.ref 489, .int a, .int b, .int c, .int d] => (N = NT ∧ rf = RF0 ∧ Up lg it) ∧ ∀ lg' it', K (some (.long (an_behind a b c d))) lg' it' rf | _ => False
def T_X9_behind : Tab := (FL_X9, CL_X9, JL_X9, [(276, 0, 2, 9, 0, sp_X9_isBumper), (266, 1, 3, 0, 0, sp_X9_isIn), (329, 1, 1, 0, 0, sp_X9_isPart), (289, 0, 1, 9, 0, sp_X9_findAll), (337, 0, 4, 9, 0, sp_X9_of)], 99, (some .long))
def rm_X9_behind : Room := { frames := 3, cells := 0, slots := 0, locals := 69 }
set_option maxHeartbeats 16000000 in
set_option maxRecDepth 100000 in
theorem bd_X9_behind (as : List Value) (N : Nat) (lg : LGt) (it : ITt) (rf : RFt) (Q : Post) (h : sp_X9_behind as N lg it rf Q) : Bd T_X9_behind cX9_behind 7 0 as N lg it rf Q := by
  unfold sp_X9_behind at h
  split at h
  · rename_i a b c d
    refine ⟨Nat.le_of_ble_eq_true rfl, fun P hs hw => ?_⟩
    obtain ⟨⟨rfl, rfl, hup⟩, hk⟩ := h
    refine hs dX9_behind_0 (hs dX9_behind_1 (hs dX9_behind_2 (And.intro (ob_489) (And.intro ⟨rfl, rfl, upi hup (by decide) (by decide) vit_489_0⟩ (n0 (hs dX9_behind_5 (And.intro (fun c5 => ?_) (fun c5 => absurd (by decide) c5))))))))
    refine hs dX9_behind_31 (hs dX9_behind_34 (And.intro (rfl) (And.intro rfl ?_)))
    have e : an_behind a b c d = (-9223372036854775808) := rfl
    rw [e] at hk
    exact hk _ _
  · exact h.elim
theorem ct_X9_behind {E : Ev} {l : Launch} : CT E l yX9_behind (wsY yX9_behind cX9_behind 7 (some .long)) rm_X9_behind 0 sp_X9_behind := ct_of (T := T_X9_behind) (own := RX9) (by decide) rfl (fun ci h10 hc => by have h2 : (99 : Nat) = ci := Nat.eq_of_beq_eq_true hc; omega) ⟨rfl, rfl⟩ ⟨fok_X9, clok_X9, jok_X9, List.forall_mem_cons.mpr ⟨cok_V ct_X9_isBumper (by decide) rfl ml_X9_276 im_X9_isBumper se_X9_isBumper co_X9_isBumper mo_X9_isBumper (by decide), List.forall_mem_cons.mpr ⟨cok_S ct_X9_isIn ((cl_ins (c := 9) (by decide)).2) ml_X9_266 im_X9_isIn co_X9_isIn mo_X9_isIn (by decide), List.forall_mem_cons.mpr ⟨cok_S ct_X9_isPart ((cl_ins (c := 9) (by decide)).2) ml_X9_329 im_X9_isPart co_X9_isPart mo_X9_isPart (by decide), List.forall_mem_cons.mpr ⟨cok_V ct_X9_findAll (by decide) rfl ml_X9_289 im_X9_findAll se_X9_findAll co_X9_findAll mo_X9_findAll (by decide), List.forall_mem_cons.mpr ⟨cok_V ct_X9_of (by decide) rfl ml_X9_337 im_X9_of se_X9_of co_X9_of mo_X9_of (by decide), fun _ h => absurd h List.not_mem_nil⟩⟩⟩⟩⟩⟩ bd_X9_behind
def sp_X9_then : Spc := fun as N lg it rf K => match as with | [.ref 489, .int a, .int b] => (N = NT ∧ rf = RF0 ∧ Up lg it) ∧ ∀ lg' it', K (some (.long (an_then a b))) lg' it' rf | _ => False
def T_X9_then : Tab := (FL_X9, CL_X9, JL_X9, [(266, 1, 3, 0, 0, sp_X9_isIn), (329, 1, 1, 0, 0, sp_X9_isPart), (289, 0, 1, 9, 0, sp_X9_findAll), (334, 0, 2, 9, 0, sp_X9_sums)], 99, (some .long))
def rm_X9_then : Room := { frames := 3, cells := 0, slots := 0, locals := 67 }
set_option maxHeartbeats 16000000 in
set_option maxRecDepth 100000 in
theorem bd_X9_then (as : List Value) (N : Nat) (lg : LGt) (it : ITt) (rf : RFt) (Q : Post) (h : sp_X9_then as N lg it rf Q) : Bd T_X9_then cX9_then 3 0 as N lg it rf Q := by
  unfold sp_X9_then at h
  split at h
  · rename_i a b
    refine ⟨Nat.le_of_ble_eq_true rfl, fun P hs hw => ?_⟩
    obtain ⟨⟨rfl, rfl, hup⟩, hk⟩ := h
    refine hs dX9_then_0 (hs dX9_then_1 (hs dX9_then_2 (hs dX9_then_3 (hs dX9_then_4 (And.intro (trivial) (n0 (gx (v := (b2 (0 ≤ a.toInt ∧ a.toInt ≤ 1))) (by simp only [kl_0, kl_1, kl_0, kl_1, Int32.toInt_toInt64, tm1, tj_m9223372036854775808, tj_m9, tj_m1, tj_0, tj_1, tj_2, tj_3, tj_4, tj_5, tj_9, tj_10, tj_19, tj_20, tj_48, tj_57, tj_99, tj_100, tj_127]) ?_ )))))))
    refine hs dX9_then_7 (And.intro (fun c7 => ?_) (fun c7 => ?_))
    · try dsimp only at c7
      try simp only [kl_0, kl_1] at c7
      refine hs dX9_then_17 (hs dX9_then_20 (And.intro (rfl) (And.intro rfl ?_)))
      try simp only [kl_0, kl_1, b2_0, b2_1] at c7
      try simp only [Int32.lt_iff_toInt_lt, Int32.le_iff_toInt_le, ← Int32.toInt_inj, ti_0] at c7
      have e : an_then a b = (-9223372036854775808) := by
        first
        | (exfalso; omega)
        | unfold an_then
          try simp only [ti_0, ti_1]
          repeat (first | rw [if_pos (by first | omega | (simp; done) | (simp; omega))] | rw [if_neg (by first | omega | (simp; done) | (simp; omega))])
          all_goals rfl
      rw [e] at hk
      exact hk _ _
    · try dsimp only at c7
      try simp only [kl_0, kl_1] at c7
      refine hs dX9_then_10 (hs dX9_then_11 (And.intro (trivial) (n0 (hs dX9_then_14 (And.intro (fun c14 => ?_) (fun c14 => ?_))))))
      · try dsimp only at c14
        try simp only [kl_0, kl_1] at c14
        refine hs dX9_then_21 (hs dX9_then_22 (And.intro (ob_489) (And.intro ⟨rfl, rfl, upi hup (by decide) (by decide) vit_489_0⟩ (fun lg80 it80 hR80 hS80 hE80 hO80 => n0 ?_ ))))
        have f80_it_489_0 : it80 489 0 = 0 := (hR80 0 (by decide)).trans (upi hup (by decide) (by decide) vit_489_0)
        have f80_it_489_9 : it80 489 9 = 0 := (hR80 9 (by decide)).trans (upi hup (by decide) (by decide) vit_489_9)
        have f80_it_489_10 : it80 489 10 = 0 := (hR80 10 (by decide)).trans (upi hup (by decide) (by decide) vit_489_10)
        have f80_it_489_11 : it80 489 11 = 0 := (hR80 11 (by decide)).trans (upi hup (by decide) (by decide) vit_489_11)
        refine hs dX9_then_25 (hs dX9_then_26 (hs dX9_then_27 (And.intro (ob_489) (And.intro ⟨rfl, rfl, by simp [u2, sL, sI, mx, zr, f80_it_489_0]⟩ (fun lg81 it81 hU81 hD81 => n0 ?_ )))))
        refine hs dX9_then_30 (And.intro (fun c30 => absurd c30 (by decide)) (fun c30 => (hs dX9_then_33 (hs dX9_then_34 (And.intro (fun c34 => ?_) (fun c34 => ?_))))))
        · try dsimp only at c34
          try simp only [kl_0, kl_1] at c34
          refine hs dX9_then_44 (hs dX9_then_45 (And.intro (ob_489) (gxl (v := 1) (by simp [u2, sL, sI, mx, zr, hD81]) (hs dX9_then_48 (hs dX9_then_54 (And.intro (rfl) (And.intro rfl ?_)))))))
          try simp only [kl_0, kl_1, b2_0, b2_1] at c7 c14 c34
          try simp only [Int32.lt_iff_toInt_lt, Int32.le_iff_toInt_le, ← Int32.toInt_inj, ti_0] at c7 c14 c34
          have e : an_then a b = 1 := by
            first
            | (exfalso; omega)
            | unfold an_then
              try simp only [ti_0, ti_1]
              repeat (first | rw [if_pos (by first | omega | (simp; done) | (simp; omega))] | rw [if_neg (by first | omega | (simp; done) | (simp; omega))])
              all_goals rfl
          rw [e] at hk
          exact hk _ _
        · try dsimp only at c34
          try simp only [kl_0, kl_1] at c34
          refine hs dX9_then_37 (hs dX9_then_38 (And.intro (ob_489) (gxl (v := 0) (by simp [u2, sL, sI, mx, zr, hU81]) (hs dX9_then_41 (hs dX9_then_54 (And.intro (rfl) (And.intro rfl ?_)))))))
          try simp only [kl_0, kl_1, b2_0, b2_1] at c7 c14 c34
          try simp only [Int32.lt_iff_toInt_lt, Int32.le_iff_toInt_le, ← Int32.toInt_inj, ti_0] at c7 c14 c34
          have e : an_then a b = 0 := by
            first
            | (exfalso; omega)
            | unfold an_then
              try simp only [ti_0, ti_1]
              repeat (first | rw [if_pos (by first | omega | (simp; done) | (simp; omega))] | rw [if_neg (by first | omega | (simp; done) | (simp; omega))])
              all_goals rfl
          rw [e] at hk
          exact hk _ _
      · try dsimp only at c14
        try simp only [kl_0, kl_1] at c14
        refine hs dX9_then_17 (hs dX9_then_20 (And.intro (rfl) (And.intro rfl ?_)))
        try simp only [kl_0, kl_1, b2_0, b2_1] at c7 c14
        try simp only [Int32.lt_iff_toInt_lt, Int32.le_iff_toInt_le, ← Int32.toInt_inj, ti_0] at c7 c14
        have e : an_then a b = (-9223372036854775808) := by
          first
          | (exfalso; omega)
          | unfold an_then
            try simp only [ti_0, ti_1]
            repeat (first | rw [if_pos (by first | omega | (simp; done) | (simp; omega))] | rw [if_neg (by first | omega | (simp; done) | (simp; omega))])
            all_goals rfl
        rw [e] at hk
        exact hk _ _
  · exact h.elim
theorem ct_X9_then {E : Ev} {l : Launch} : CT E l yX9_then (wsY yX9_then cX9_then 3 (some .long)) rm_X9_then 0 sp_X9_then := ct_of (T := T_X9_then) (own := RX9) (by decide) rfl (fun ci h10 hc => by have h2 : (99 : Nat) = ci := Nat.eq_of_beq_eq_true hc; omega) ⟨rfl, rfl⟩ ⟨fok_X9, clok_X9, jok_X9, List.forall_mem_cons.mpr ⟨cok_S ct_X9_isIn ((cl_ins (c := 9) (by decide)).2) ml_X9_266 im_X9_isIn co_X9_isIn mo_X9_isIn (by decide), List.forall_mem_cons.mpr ⟨cok_S ct_X9_isPart ((cl_ins (c := 9) (by decide)).2) ml_X9_329 im_X9_isPart co_X9_isPart mo_X9_isPart (by decide), List.forall_mem_cons.mpr ⟨cok_V ct_X9_findAll (by decide) rfl ml_X9_289 im_X9_findAll se_X9_findAll co_X9_findAll mo_X9_findAll (by decide), List.forall_mem_cons.mpr ⟨cok_V ct_X9_sums (by decide) rfl ml_X9_334 im_X9_sums se_X9_sums co_X9_sums mo_X9_sums (by decide), fun _ h => absurd h List.not_mem_nil⟩⟩⟩⟩⟩ bd_X9_then
def sp_X9_often : Spc := fun as N lg it rf K => match as with | [.ref 489, .int a] => (N = NT ∧ rf = RF0 ∧ Up lg it) ∧ ∀ lg' it', K (some (.int (an_often a))) lg' it' rf | _ => False
def T_X9_often : Tab := (FL_X9, CL_X9, JL_X9, [(276, 0, 2, 9, 0, sp_X9_isBumper), (289, 0, 1, 9, 0, sp_X9_findAll)], 99, (some .int))
def rm_X9_often : Room := { frames := 3, cells := 0, slots := 0, locals := 67 }
set_option maxHeartbeats 16000000 in
set_option maxRecDepth 100000 in
theorem bd_X9_often (as : List Value) (N : Nat) (lg : LGt) (it : ITt) (rf : RFt) (Q : Post) (h : sp_X9_often as N lg it rf Q) : Bd T_X9_often cX9_often 4 0 as N lg it rf Q := by
  unfold sp_X9_often at h
  split at h
  · rename_i a
    refine ⟨Nat.le_of_ble_eq_true rfl, fun P hs hw => ?_⟩
    obtain ⟨⟨rfl, rfl, hup⟩, hk⟩ := h
    refine hs dX9_often_0 (hs dX9_often_1 (hs dX9_often_2 (And.intro (ob_489) (And.intro ⟨rfl, rfl, upi hup (by decide) (by decide) vit_489_0⟩ (n0 (hs dX9_often_5 (And.intro (fun c5 => absurd rfl c5) (fun c5 => (hs dX9_often_8 (hs dX9_often_9 (And.intro (rfl) (And.intro rfl ?_))))))))))))
    have e : an_often a = (-1) := rfl
    rw [e] at hk
    exact hk _ _
  · exact h.elim
theorem ct_X9_often {E : Ev} {l : Launch} : CT E l yX9_often (wsY yX9_often cX9_often 4 (some .int)) rm_X9_often 0 sp_X9_often := ct_of (T := T_X9_often) (own := RX9) (by decide) rfl (fun ci h10 hc => by have h2 : (99 : Nat) = ci := Nat.eq_of_beq_eq_true hc; omega) ⟨rfl, rfl⟩ ⟨fok_X9, clok_X9, jok_X9, List.forall_mem_cons.mpr ⟨cok_V ct_X9_isBumper (by decide) rfl ml_X9_276 im_X9_isBumper se_X9_isBumper co_X9_isBumper mo_X9_isBumper (by decide), List.forall_mem_cons.mpr ⟨cok_V ct_X9_findAll (by decide) rfl ml_X9_289 im_X9_findAll se_X9_findAll co_X9_findAll mo_X9_findAll (by decide), fun _ h => absurd h List.not_mem_nil⟩⟩⟩ bd_X9_often
def sp_X9_at : Spc := fun as N lg it rf K => match as with | [.ref 489, .int a, .int b, .int c] => (N = NT ∧ rf = RF0 ∧ Up lg it) ∧ ∀ lg' it', K (some (.long (an_at a b c))) lg' it' rf | _ => False
def T_X9_at : Tab := (FL_X9, CL_X9, JL_X9, [(276, 0, 2, 9, 0, sp_X9_isBumper), (266, 1, 3, 0, 0, sp_X9_isIn), (329, 1, 1, 0, 0, sp_X9_isPart), (289, 0, 1, 9, 0, sp_X9_findAll)], 99, (some .long))
def rm_X9_at : Room := { frames := 3, cells := 0, slots := 0, locals := 67 }
set_option maxHeartbeats 16000000 in
set_option maxRecDepth 100000 in
theorem bd_X9_at (as : List Value) (N : Nat) (lg : LGt) (it : ITt) (rf : RFt) (Q : Post) (h : sp_X9_at as N lg it rf Q) : Bd T_X9_at cX9_at 7 0 as N lg it rf Q := by
  unfold sp_X9_at at h
  split at h
  · rename_i a b c
    refine ⟨Nat.le_of_ble_eq_true rfl, fun P hs hw => ?_⟩
    obtain ⟨⟨rfl, rfl, hup⟩, hk⟩ := h
    refine hs dX9_at_0 (hs dX9_at_1 (hs dX9_at_2 (And.intro (ob_489) (And.intro ⟨rfl, rfl, upi hup (by decide) (by decide) vit_489_0⟩ (n0 (hs dX9_at_5 (And.intro (fun c5 => ?_) (fun c5 => absurd (by decide) c5))))))))
    refine hs dX9_at_27 (hs dX9_at_30 (And.intro (rfl) (And.intro rfl ?_)))
    have e : an_at a b c = (-9223372036854775808) := rfl
    rw [e] at hk
    exact hk _ _
  · exact h.elim
theorem ct_X9_at {E : Ev} {l : Launch} : CT E l yX9_at (wsY yX9_at cX9_at 7 (some .long)) rm_X9_at 0 sp_X9_at := ct_of (T := T_X9_at) (own := RX9) (by decide) rfl (fun ci h10 hc => by have h2 : (99 : Nat) = ci := Nat.eq_of_beq_eq_true hc; omega) ⟨rfl, rfl⟩ ⟨fok_X9, clok_X9, jok_X9, List.forall_mem_cons.mpr ⟨cok_V ct_X9_isBumper (by decide) rfl ml_X9_276 im_X9_isBumper se_X9_isBumper co_X9_isBumper mo_X9_isBumper (by decide), List.forall_mem_cons.mpr ⟨cok_S ct_X9_isIn ((cl_ins (c := 9) (by decide)).2) ml_X9_266 im_X9_isIn co_X9_isIn mo_X9_isIn (by decide), List.forall_mem_cons.mpr ⟨cok_S ct_X9_isPart ((cl_ins (c := 9) (by decide)).2) ml_X9_329 im_X9_isPart co_X9_isPart mo_X9_isPart (by decide), List.forall_mem_cons.mpr ⟨cok_V ct_X9_findAll (by decide) rfl ml_X9_289 im_X9_findAll se_X9_findAll co_X9_findAll mo_X9_findAll (by decide), fun _ h => absurd h List.not_mem_nil⟩⟩⟩⟩⟩ bd_X9_at
def sp_X9_see : Spc := fun as N lg it rf K => match as with | [.ref 489, .int a, .int b] => (N = NT ∧ rf = RF0 ∧ Up lg it) ∧ ∀ lg' it', K (some (.int (an_see a b))) lg' it' rf | _ => False
def T_X9_see : Tab := (FL_X9, CL_X9, JL_X9, [(266, 1, 3, 0, 0, sp_X9_isIn), (353, 1, 1, 0, 0, sp_X9_isWhere)], 99, (some .int))
def rm_X9_see : Room := { frames := 2, cells := 0, slots := 0, locals := 45 }
set_option maxHeartbeats 16000000 in
set_option maxRecDepth 100000 in
theorem bd_X9_see (as : List Value) (N : Nat) (lg : LGt) (it : ITt) (rf : RFt) (Q : Post) (h : sp_X9_see as N lg it rf Q) : Bd T_X9_see cX9_see 3 0 as N lg it rf Q := by
  unfold sp_X9_see at h
  split at h
  · rename_i a b
    refine ⟨Nat.le_of_ble_eq_true rfl, fun P hs hw => ?_⟩
    obtain ⟨⟨rfl, rfl, hup⟩, hk⟩ := h
    refine hs dX9_see_0 (hs dX9_see_1 (hs dX9_see_2 (And.intro (fun c2 => ?_) (fun c2 => ?_))))
    · try dsimp only at c2
      try simp only [kb_m4, ki_m1, ki_0, ki_1, ki_5, kl_0] at c2
      refine hs dX9_see_12 (hs dX9_see_13 (hs dX9_see_14 (hs dX9_see_15 (hs dX9_see_18 (And.intro (trivial) (n0 (gx (v := (b2 (0 ≤ a.toInt ∧ a.toInt ≤ (19)))) (by simp only [kb_m4, ki_m1, ki_0, ki_1, ki_5, kl_0, kl_0, kl_1, Int32.toInt_toInt64, tm1, tj_m9223372036854775808, tj_m9, tj_m1, tj_0, tj_1, tj_2, tj_3, tj_4, tj_5, tj_9, tj_10, tj_19, tj_20, tj_48, tj_57, tj_99, tj_100, tj_127]) ?_ )))))))
      refine hs dX9_see_21 (And.intro (fun c21 => ?_) (fun c21 => ?_))
      · try dsimp only at c21
        try simp only [kb_m4, ki_m1, ki_0, ki_1, ki_5, kl_0] at c21
        refine hs dX9_see_31 (hs dX9_see_32 (And.intro (rfl) (And.intro rfl ?_)))
        try simp only [kb_m4, ki_m1, ki_0, ki_1, ki_5, kl_0, b2_0, b2_1] at c2 c21
        try simp only [Int32.lt_iff_toInt_lt, Int32.le_iff_toInt_le, ← Int32.toInt_inj, ti_m4, ti_m1, ti_0, ti_1, ti_5] at c2 c21
        have e : an_see a b = (-1) := by
          first
          | (exfalso; omega)
          | unfold an_see
            try simp only [ti_0, ti_1]
            repeat (first | rw [if_pos (by first | omega | (simp; done) | (simp; omega))] | rw [if_neg (by first | omega | (simp; done) | (simp; omega))])
            all_goals rfl
        rw [e] at hk
        exact hk _ _
      · try dsimp only at c21
        try simp only [kb_m4, ki_m1, ki_0, ki_1, ki_5, kl_0] at c21
        refine hs dX9_see_24 (hs dX9_see_25 (And.intro (trivial) (n0 (hs dX9_see_28 (And.intro (fun c28 => ?_) (fun c28 => ?_))))))
        · try dsimp only at c28
          try simp only [kb_m4, ki_m1, ki_0, ki_1, ki_5, kl_0] at c28
          refine hs dX9_see_33 (hs dX9_see_34 (And.intro (ob_489) (gx (v := 0) (upi hup (by decide) (by decide) vit_489_9) (hs dX9_see_37 (hs dX9_see_38 (And.intro (fun c38 => ?_) (fun c38 => absurd c38 (by decide))))))))
          refine hs dX9_see_44 (hs dX9_see_45 (And.intro (ob_489) (gr (r_489_12) (hs dX9_see_48 (hs dX9_see_49 (And.intro (ob_489) (gx (v := 0) (upi hup (by decide) (by decide) vit_489_9) (hs dX9_see_52 (hs dX9_see_53 (And.intro (ob_495) (And.intro (vin ln_495 (by decide)) (hs dX9_see_54 (hs dX9_see_55 (And.intro (ob_489) (gr (r_489_13) (hs dX9_see_58 (hs dX9_see_59 (And.intro (ob_489) (gx (v := 0) (by simp [u2, sL, sI, mx, zr, (upi hup (by decide) (by decide) vit_489_9)]) (hs dX9_see_62 (hs dX9_see_63 (And.intro (ob_496) (And.intro (vin ln_496 (by decide)) (hs dX9_see_64 (hs dX9_see_65 (hs dX9_see_66 (And.intro (ob_489) (gx (v := 0) (by simp [u2, sL, sI, mx, zr, (upi hup (by decide) (by decide) vit_489_9)]) (hs dX9_see_69 (hs dX9_see_70 (hs dX9_see_71 (And.intro (ob_489) (hs dX9_see_74 (hs dX9_see_75 (And.intro (ob_489) (gx (v := 1) (by simp [u2, sL, sI, mx, zr, kb_m4, ki_m1, ki_0, ki_1, ki_5, kl_0]) (hs dX9_see_78 (And.intro (rfl) (And.intro rfl ?_)))))))))))))))))))))))))))))))))))))))
          try simp only [kb_m4, ki_m1, ki_0, ki_1, ki_5, kl_0, b2_0, b2_1] at c2 c21 c28
          try simp only [Int32.lt_iff_toInt_lt, Int32.le_iff_toInt_le, ← Int32.toInt_inj, ti_m4, ti_m1, ti_0, ti_1, ti_5] at c2 c21 c28
          have e : an_see a b = 1 := by
            first
            | (exfalso; omega)
            | unfold an_see
              try simp only [ti_0, ti_1]
              repeat (first | rw [if_pos (by first | omega | (simp; done) | (simp; omega))] | rw [if_neg (by first | omega | (simp; done) | (simp; omega))])
              all_goals rfl
          rw [e] at hk
          exact hk _ _
        · try dsimp only at c28
          try simp only [kb_m4, ki_m1, ki_0, ki_1, ki_5, kl_0] at c28
          refine hs dX9_see_31 (hs dX9_see_32 (And.intro (rfl) (And.intro rfl ?_)))
          try simp only [kb_m4, ki_m1, ki_0, ki_1, ki_5, kl_0, b2_0, b2_1] at c2 c21 c28
          try simp only [Int32.lt_iff_toInt_lt, Int32.le_iff_toInt_le, ← Int32.toInt_inj, ti_m4, ti_m1, ti_0, ti_1, ti_5] at c2 c21 c28
          have e : an_see a b = (-1) := by
            first
            | (exfalso; omega)
            | unfold an_see
              try simp only [ti_0, ti_1]
              repeat (first | rw [if_pos (by first | omega | (simp; done) | (simp; omega))] | rw [if_neg (by first | omega | (simp; done) | (simp; omega))])
              all_goals rfl
          rw [e] at hk
          exact hk _ _
    · try dsimp only at c2
      try simp only [kb_m4, ki_m1, ki_0, ki_1, ki_5, kl_0] at c2
      refine hs dX9_see_5 (hs dX9_see_6 (hs dX9_see_7 (And.intro (ob_489) (hs dX9_see_10 (hs dX9_see_11 (And.intro (rfl) (And.intro rfl ?_)))))))
      try simp only [kb_m4, ki_m1, ki_0, ki_1, ki_5, kl_0, b2_0, b2_1] at c2
      try simp only [Int32.lt_iff_toInt_lt, Int32.le_iff_toInt_le, ← Int32.toInt_inj, ti_m4, ti_m1, ti_0, ti_1, ti_5] at c2
      have e : an_see a b = 0 := by
        first
        | (exfalso; omega)
        | unfold an_see
          try simp only [ti_0, ti_1]
          repeat (first | rw [if_pos (by first | omega | (simp; done) | (simp; omega))] | rw [if_neg (by first | omega | (simp; done) | (simp; omega))])
          all_goals rfl
      rw [e] at hk
      exact hk _ _
  · exact h.elim
theorem ct_X9_see {E : Ev} {l : Launch} : CT E l yX9_see (wsY yX9_see cX9_see 3 (some .int)) rm_X9_see 0 sp_X9_see := ct_of (T := T_X9_see) (own := RX9) (by decide) rfl (fun ci h10 hc => by have h2 : (99 : Nat) = ci := Nat.eq_of_beq_eq_true hc; omega) ⟨rfl, rfl⟩ ⟨fok_X9, clok_X9, jok_X9, List.forall_mem_cons.mpr ⟨cok_S ct_X9_isIn ((cl_ins (c := 9) (by decide)).2) ml_X9_266 im_X9_isIn co_X9_isIn mo_X9_isIn (by decide), List.forall_mem_cons.mpr ⟨cok_S ct_X9_isWhere ((cl_ins (c := 9) (by decide)).2) ml_X9_353 im_X9_isWhere co_X9_isWhere mo_X9_isWhere (by decide), fun _ h => absurd h List.not_mem_nil⟩⟩⟩ bd_X9_see
def sp_X9_book : Spc := fun as N lg it rf K => match as with | [.ref 489, .int a, .int b] => (N = NT ∧ rf = RF0 ∧ Up lg it) ∧ ∀ lg' it', K (some (.int (an_book a b))) lg' it' rf | _ => False
def T_X9_book : Tab := (FL_X9, CL_X9, JL_X9, [(266, 1, 3, 0, 0, sp_X9_isIn), (353, 1, 1, 0, 0, sp_X9_isWhere)], 99, (some .int))
def rm_X9_book : Room := { frames := 2, cells := 0, slots := 0, locals := 45 }
set_option maxHeartbeats 16000000 in
set_option maxRecDepth 100000 in
theorem bd_X9_book (as : List Value) (N : Nat) (lg : LGt) (it : ITt) (rf : RFt) (Q : Post) (h : sp_X9_book as N lg it rf Q) : Bd T_X9_book cX9_book 3 0 as N lg it rf Q := by
  unfold sp_X9_book at h
  split at h
  · rename_i a b
    refine ⟨Nat.le_of_ble_eq_true rfl, fun P hs hw => ?_⟩
    obtain ⟨⟨rfl, rfl, hup⟩, hk⟩ := h
    refine hs dX9_book_0 (hs dX9_book_1 (hs dX9_book_2 (And.intro (fun c2 => ?_) (fun c2 => ?_))))
    · try dsimp only at c2
      try simp only [kb_m4, kb_8, ki_m1, ki_0, ki_1, kl_0] at c2
      refine hs dX9_book_12 (hs dX9_book_13 (hs dX9_book_14 (hs dX9_book_15 (hs dX9_book_18 (And.intro (trivial) (n0 (gx (v := (b2 (0 ≤ a.toInt ∧ a.toInt ≤ (19)))) (by simp only [kb_m4, kb_8, ki_m1, ki_0, ki_1, kl_0, kl_0, kl_1, Int32.toInt_toInt64, tm1, tj_m9223372036854775808, tj_m9, tj_m1, tj_0, tj_1, tj_2, tj_3, tj_4, tj_5, tj_9, tj_10, tj_19, tj_20, tj_48, tj_57, tj_99, tj_100, tj_127]) ?_ )))))))
      refine hs dX9_book_21 (And.intro (fun c21 => ?_) (fun c21 => ?_))
      · try dsimp only at c21
        try simp only [kb_m4, kb_8, ki_m1, ki_0, ki_1, kl_0] at c21
        refine hs dX9_book_31 (hs dX9_book_32 (And.intro (rfl) (And.intro rfl ?_)))
        try simp only [kb_m4, kb_8, ki_m1, ki_0, ki_1, kl_0, b2_0, b2_1] at c2 c21
        try simp only [Int32.lt_iff_toInt_lt, Int32.le_iff_toInt_le, ← Int32.toInt_inj, ti_m4, ti_m1, ti_0, ti_1, ti_8] at c2 c21
        have e : an_book a b = (-1) := by
          first
          | (exfalso; omega)
          | unfold an_book
            try simp only [ti_0, ti_1]
            repeat (first | rw [if_pos (by first | omega | (simp; done) | (simp; omega))] | rw [if_neg (by first | omega | (simp; done) | (simp; omega))])
            all_goals rfl
        rw [e] at hk
        exact hk _ _
      · try dsimp only at c21
        try simp only [kb_m4, kb_8, ki_m1, ki_0, ki_1, kl_0] at c21
        refine hs dX9_book_24 (hs dX9_book_25 (And.intro (trivial) (n0 (hs dX9_book_28 (And.intro (fun c28 => ?_) (fun c28 => ?_))))))
        · try dsimp only at c28
          try simp only [kb_m4, kb_8, ki_m1, ki_0, ki_1, kl_0] at c28
          refine hs dX9_book_33 (hs dX9_book_34 (And.intro (ob_489) (gx (v := 0) (upi hup (by decide) (by decide) vit_489_11) (hs dX9_book_37 (hs dX9_book_39 (And.intro (fun c39 => ?_) (fun c39 => absurd c39 (by decide))))))))
          refine hs dX9_book_45 (hs dX9_book_46 (And.intro (ob_489) (gr (r_489_16) (hs dX9_book_49 (hs dX9_book_50 (And.intro (ob_489) (gx (v := 0) (upi hup (by decide) (by decide) vit_489_11) (hs dX9_book_53 (hs dX9_book_54 (And.intro (ob_499) (And.intro (vin ln_499 (by decide)) (hs dX9_book_55 (hs dX9_book_56 (And.intro (ob_489) (gr (r_489_17) (hs dX9_book_59 (hs dX9_book_60 (And.intro (ob_489) (gx (v := 0) (by simp [u2, sL, sI, mx, zr, (upi hup (by decide) (by decide) vit_489_11)]) (hs dX9_book_63 (hs dX9_book_64 (And.intro (ob_500) (And.intro (vin ln_500 (by decide)) (hs dX9_book_65 (hs dX9_book_66 (hs dX9_book_67 (And.intro (ob_489) (gx (v := 0) (by simp [u2, sL, sI, mx, zr, (upi hup (by decide) (by decide) vit_489_11)]) (hs dX9_book_70 (hs dX9_book_71 (hs dX9_book_72 (And.intro (ob_489) (hs dX9_book_75 (hs dX9_book_76 (And.intro (ob_489) (gx (v := 1) (by simp [u2, sL, sI, mx, zr, kb_m4, kb_8, ki_m1, ki_0, ki_1, kl_0]) (hs dX9_book_79 (And.intro (rfl) (And.intro rfl ?_)))))))))))))))))))))))))))))))))))))))
          try simp only [kb_m4, kb_8, ki_m1, ki_0, ki_1, kl_0, b2_0, b2_1] at c2 c21 c28
          try simp only [Int32.lt_iff_toInt_lt, Int32.le_iff_toInt_le, ← Int32.toInt_inj, ti_m4, ti_m1, ti_0, ti_1, ti_8] at c2 c21 c28
          have e : an_book a b = 1 := by
            first
            | (exfalso; omega)
            | unfold an_book
              try simp only [ti_0, ti_1]
              repeat (first | rw [if_pos (by first | omega | (simp; done) | (simp; omega))] | rw [if_neg (by first | omega | (simp; done) | (simp; omega))])
              all_goals rfl
          rw [e] at hk
          exact hk _ _
        · try dsimp only at c28
          try simp only [kb_m4, kb_8, ki_m1, ki_0, ki_1, kl_0] at c28
          refine hs dX9_book_31 (hs dX9_book_32 (And.intro (rfl) (And.intro rfl ?_)))
          try simp only [kb_m4, kb_8, ki_m1, ki_0, ki_1, kl_0, b2_0, b2_1] at c2 c21 c28
          try simp only [Int32.lt_iff_toInt_lt, Int32.le_iff_toInt_le, ← Int32.toInt_inj, ti_m4, ti_m1, ti_0, ti_1, ti_8] at c2 c21 c28
          have e : an_book a b = (-1) := by
            first
            | (exfalso; omega)
            | unfold an_book
              try simp only [ti_0, ti_1]
              repeat (first | rw [if_pos (by first | omega | (simp; done) | (simp; omega))] | rw [if_neg (by first | omega | (simp; done) | (simp; omega))])
              all_goals rfl
          rw [e] at hk
          exact hk _ _
    · try dsimp only at c2
      try simp only [kb_m4, kb_8, ki_m1, ki_0, ki_1, kl_0] at c2
      refine hs dX9_book_5 (hs dX9_book_6 (hs dX9_book_7 (And.intro (ob_489) (hs dX9_book_10 (hs dX9_book_11 (And.intro (rfl) (And.intro rfl ?_)))))))
      try simp only [kb_m4, kb_8, ki_m1, ki_0, ki_1, kl_0, b2_0, b2_1] at c2
      try simp only [Int32.lt_iff_toInt_lt, Int32.le_iff_toInt_le, ← Int32.toInt_inj, ti_m4, ti_m1, ti_0, ti_1, ti_8] at c2
      have e : an_book a b = 0 := by
        first
        | (exfalso; omega)
        | unfold an_book
          try simp only [ti_0, ti_1]
          repeat (first | rw [if_pos (by first | omega | (simp; done) | (simp; omega))] | rw [if_neg (by first | omega | (simp; done) | (simp; omega))])
          all_goals rfl
      rw [e] at hk
      exact hk _ _
  · exact h.elim
theorem ct_X9_book {E : Ev} {l : Launch} : CT E l yX9_book (wsY yX9_book cX9_book 3 (some .int)) rm_X9_book 0 sp_X9_book := ct_of (T := T_X9_book) (own := RX9) (by decide) rfl (fun ci h10 hc => by have h2 : (99 : Nat) = ci := Nat.eq_of_beq_eq_true hc; omega) ⟨rfl, rfl⟩ ⟨fok_X9, clok_X9, jok_X9, List.forall_mem_cons.mpr ⟨cok_S ct_X9_isIn ((cl_ins (c := 9) (by decide)).2) ml_X9_266 im_X9_isIn co_X9_isIn mo_X9_isIn (by decide), List.forall_mem_cons.mpr ⟨cok_S ct_X9_isWhere ((cl_ins (c := 9) (by decide)).2) ml_X9_353 im_X9_isWhere co_X9_isWhere mo_X9_isWhere (by decide), fun _ h => absurd h List.not_mem_nil⟩⟩⟩ bd_X9_book
def sp_X9_fits : Spc := fun as N lg it rf K => match as with | [.ref 489, .int a, .int b] => (N = NT ∧ rf = RF0 ∧ Up lg it) ∧ ∀ lg' it', K (some (.int (an_fits a b))) lg' it' rf | _ => False
def T_X9_fits : Tab := (FL_X9, CL_X9, JL_X9, [(276, 0, 2, 9, 0, sp_X9_isBumper), (266, 1, 3, 0, 0, sp_X9_isIn), (260, 0, 1, 9, 0, sp_X9_minds), (263, 0, 2, 9, 0, sp_X9_goesOn)], 99, (some .int))
def rm_X9_fits : Room := { frames := 2, cells := 0, slots := 0, locals := 47 }
set_option maxHeartbeats 16000000 in
set_option maxRecDepth 100000 in
theorem bd_X9_fits (as : List Value) (N : Nat) (lg : LGt) (it : ITt) (rf : RFt) (Q : Post) (h : sp_X9_fits as N lg it rf Q) : Bd T_X9_fits cX9_fits 8 0 as N lg it rf Q := by
  unfold sp_X9_fits at h
  split at h
  · rename_i a b
    refine ⟨Nat.le_of_ble_eq_true rfl, fun P hs hw => ?_⟩
    obtain ⟨⟨rfl, rfl, hup⟩, hk⟩ := h
    refine hs dX9_fits_0 (hs dX9_fits_1 (hs dX9_fits_2 (And.intro (ob_489) (And.intro ⟨rfl, rfl, upi hup (by decide) (by decide) vit_489_0⟩ (n0 (hs dX9_fits_5 (And.intro (fun c5 => ?_) (fun c5 => absurd (by decide) c5))))))))
    refine hs dX9_fits_18 (hs dX9_fits_19 (And.intro (rfl) (And.intro rfl ?_)))
    have e : an_fits a b = (-1) := rfl
    rw [e] at hk
    exact hk _ _
  · exact h.elim
theorem ct_X9_fits {E : Ev} {l : Launch} : CT E l yX9_fits (wsY yX9_fits cX9_fits 8 (some .int)) rm_X9_fits 0 sp_X9_fits := ct_of (T := T_X9_fits) (own := RX9) (by decide) rfl (fun ci h10 hc => by have h2 : (99 : Nat) = ci := Nat.eq_of_beq_eq_true hc; omega) ⟨rfl, rfl⟩ ⟨fok_X9, clok_X9, jok_X9, List.forall_mem_cons.mpr ⟨cok_V ct_X9_isBumper (by decide) rfl ml_X9_276 im_X9_isBumper se_X9_isBumper co_X9_isBumper mo_X9_isBumper (by decide), List.forall_mem_cons.mpr ⟨cok_S ct_X9_isIn ((cl_ins (c := 9) (by decide)).2) ml_X9_266 im_X9_isIn co_X9_isIn mo_X9_isIn (by decide), List.forall_mem_cons.mpr ⟨cok_V ct_X9_minds (by decide) rfl ml_X9_260 im_X9_minds se_X9_minds co_X9_minds mo_X9_minds (by decide), List.forall_mem_cons.mpr ⟨cok_V ct_X9_goesOn (by decide) rfl ml_X9_263 im_X9_goesOn se_X9_goesOn co_X9_goesOn mo_X9_goesOn (by decide), fun _ h => absurd h List.not_mem_nil⟩⟩⟩⟩⟩ bd_X9_fits
def sp_X9_mean : Spc := fun as N lg it rf K => match as with | [.ref 489, .int a] => (N = NT ∧ rf = RF0 ∧ Up lg it) ∧ ∀ lg' it', K (some (.long (an_mean a))) lg' it' rf | _ => False
def T_X9_mean : Tab := (FL_X9, CL_X9, JL_X9, [(329, 1, 1, 0, 0, sp_X9_isPart), (360, 1, 2, 0, 0, sp_X9_common)], 99, (some .long))
def rm_X9_mean : Room := { frames := 2, cells := 0, slots := 0, locals := 45 }
set_option maxHeartbeats 16000000 in
set_option maxRecDepth 100000 in
theorem bd_X9_mean (as : List Value) (N : Nat) (lg : LGt) (it : ITt) (rf : RFt) (Q : Post) (h : sp_X9_mean as N lg it rf Q) : Bd T_X9_mean cX9_mean 4 0 as N lg it rf Q := by
  unfold sp_X9_mean at h
  split at h
  · rename_i a
    refine ⟨Nat.le_of_ble_eq_true rfl, fun P hs hw => ?_⟩
    obtain ⟨⟨rfl, rfl, hup⟩, hk⟩ := h
    refine hs dX9_mean_0 (hs dX9_mean_1 (And.intro (trivial) (n0 (hs dX9_mean_4 (And.intro (fun c4 => ?_) (fun c4 => ?_))))))
    · try dsimp only at c4
      try simp only [ki_0] at c4
      refine hs dX9_mean_14 (hs dX9_mean_17 (And.intro (rfl) (And.intro rfl ?_)))
      try simp only [ki_0, b2_0, b2_1] at c4
      try simp only [Int32.lt_iff_toInt_lt, Int32.le_iff_toInt_le, ← Int32.toInt_inj, ti_0] at c4
      have e : an_mean a = (-9223372036854775808) := rfl
      rw [e] at hk
      exact hk _ _
    · try dsimp only at c4
      try simp only [ki_0] at c4
      refine hs dX9_mean_7 (hs dX9_mean_8 (And.intro (ob_489) (gx (v := 0) (upi hup (by decide) (by decide) vit_489_0) (hs dX9_mean_11 (And.intro (fun c11 => absurd rfl c11) (fun c11 => (hs dX9_mean_14 (hs dX9_mean_17 (And.intro (rfl) (And.intro rfl ?_))))))))))
      try simp only [ki_0, b2_0, b2_1] at c4
      try simp only [Int32.lt_iff_toInt_lt, Int32.le_iff_toInt_le, ← Int32.toInt_inj, ti_0] at c4
      have e : an_mean a = (-9223372036854775808) := rfl
      rw [e] at hk
      exact hk _ _
  · exact h.elim
theorem ct_X9_mean {E : Ev} {l : Launch} : CT E l yX9_mean (wsY yX9_mean cX9_mean 4 (some .long)) rm_X9_mean 0 sp_X9_mean := ct_of (T := T_X9_mean) (own := RX9) (by decide) rfl (fun ci h10 hc => by have h2 : (99 : Nat) = ci := Nat.eq_of_beq_eq_true hc; omega) ⟨rfl, rfl⟩ ⟨fok_X9, clok_X9, jok_X9, List.forall_mem_cons.mpr ⟨cok_S ct_X9_isPart ((cl_ins (c := 9) (by decide)).2) ml_X9_329 im_X9_isPart co_X9_isPart mo_X9_isPart (by decide), List.forall_mem_cons.mpr ⟨cok_S ct_X9_common ((cl_ins (c := 9) (by decide)).2) ml_X9_360 im_X9_common co_X9_common mo_X9_common (by decide), fun _ h => absurd h List.not_mem_nil⟩⟩⟩ bd_X9_mean
def sp_X9_event : Spc := fun as N lg it rf K => match as with | [.ref 489, .int a, .int b] => (N = NT ∧ rf = RF0 ∧ Up lg it) ∧ ∀ lg' it', K (some (.int (an_event a b))) lg' it' rf | _ => False
def T_X9_event : Tab := (FL_X9, CL_X9, JL_X9, [(266, 1, 3, 0, 0, sp_X9_isIn), (276, 0, 2, 9, 0, sp_X9_isBumper)], 99, (some .int))
def rm_X9_event : Room := { frames := 2, cells := 0, slots := 0, locals := 46 }
set_option maxHeartbeats 16000000 in
set_option maxRecDepth 100000 in
theorem bd_X9_event (as : List Value) (N : Nat) (lg : LGt) (it : ITt) (rf : RFt) (Q : Post) (h : sp_X9_event as N lg it rf Q) : Bd T_X9_event cX9_event 3 0 as N lg it rf Q := by
  unfold sp_X9_event at h
  split at h
  · rename_i a b
    refine ⟨Nat.le_of_ble_eq_true rfl, fun P hs hw => ?_⟩
    obtain ⟨⟨rfl, rfl, hup⟩, hk⟩ := h
    refine hs dX9_event_0 (hs dX9_event_1 (hs dX9_event_2 (And.intro (fun c2 => ?_) (fun c2 => ?_))))
    · try dsimp only at c2
      try simp only [kb_m4, kb_m2, kb_8, kb_9, ki_m1, ki_0, ki_1, ki_2, ki_3, kl_0] at c2
      refine hs dX9_event_12 (hs dX9_event_13 (hs dX9_event_14 (hs dX9_event_15 (hs dX9_event_18 (And.intro (trivial) (n0 (gx (v := (b2 (0 ≤ a.toInt ∧ a.toInt ≤ (3)))) (by simp only [kb_m4, kb_m2, kb_8, kb_9, ki_m1, ki_0, ki_1, ki_2, ki_3, kl_0, kl_0, kl_1, Int32.toInt_toInt64, tm1, tj_m9223372036854775808, tj_m9, tj_m1, tj_0, tj_1, tj_2, tj_3, tj_4, tj_5, tj_9, tj_10, tj_19, tj_20, tj_48, tj_57, tj_99, tj_100, tj_127]) ?_ )))))))
      refine hs dX9_event_21 (And.intro (fun c21 => ?_) (fun c21 => ?_))
      · try dsimp only at c21
        try simp only [kb_m4, kb_m2, kb_8, kb_9, ki_m1, ki_0, ki_1, ki_2, ki_3, kl_0] at c21
        refine hs dX9_event_36 (hs dX9_event_37 (And.intro (rfl) (And.intro rfl ?_)))
        try simp only [kb_m4, kb_m2, kb_8, kb_9, ki_m1, ki_0, ki_1, ki_2, ki_3, kl_0, b2_0, b2_1] at c2 c21
        try simp only [Int32.lt_iff_toInt_lt, Int32.le_iff_toInt_le, ← Int32.toInt_inj, ti_m4, ti_m2, ti_m1, ti_0, ti_1, ti_2, ti_3, ti_8, ti_9] at c2 c21
        have e : an_event a b = (-1) := by
          first
          | (exfalso; omega)
          | unfold an_event
            try simp only [ti_0, ti_1]
            repeat (first | rw [if_pos (by first | omega | (simp; done) | (simp; omega))] | rw [if_neg (by first | omega | (simp; done) | (simp; omega))])
            all_goals rfl
        rw [e] at hk
        exact hk _ _
      · try dsimp only at c21
        try simp only [kb_m4, kb_m2, kb_8, kb_9, ki_m1, ki_0, ki_1, ki_2, ki_3, kl_0] at c21
        refine hs dX9_event_24 (hs dX9_event_25 (And.intro (fun c25 => ?_) (fun c25 => ?_)))
        · try dsimp only at c25
          try simp only [kb_m4, kb_m2, kb_8, kb_9, ki_m1, ki_0, ki_1, ki_2, ki_3, kl_0] at c25
          refine hs dX9_event_38 (hs dX9_event_39 (hs dX9_event_40 (And.intro (fun c40 => ?_) (fun c40 => ?_))))
          · try dsimp only at c40
            try simp only [kb_m4, kb_m2, kb_8, kb_9, ki_m1, ki_0, ki_1, ki_2, ki_3, kl_0] at c40
            refine hs dX9_event_47 (hs dX9_event_48 (hs dX9_event_49 (And.intro (fun c49 => ?_) (fun c49 => ?_))))
            · try dsimp only at c49
              try simp only [kb_m4, kb_m2, kb_8, kb_9, ki_m1, ki_0, ki_1, ki_2, ki_3, kl_0] at c49
              refine hs dX9_event_64 (hs dX9_event_65 (hs dX9_event_66 (And.intro (fun c66 => ?_) (fun c66 => ?_))))
              · try dsimp only at c66
                try simp only [kb_m4, kb_m2, kb_8, kb_9, ki_m1, ki_0, ki_1, ki_2, ki_3, kl_0] at c66
                refine hs dX9_event_90 (hs dX9_event_91 (And.intro (ob_489) (gx (v := 0) (upi hup (by decide) (by decide) vit_489_10) (hs dX9_event_94 (hs dX9_event_96 (And.intro (fun c96 => ?_) (fun c96 => absurd c96 (by decide))))))))
                refine hs dX9_event_102 (hs dX9_event_103 (And.intro (ob_489) (gr (r_489_14) (hs dX9_event_106 (hs dX9_event_107 (And.intro (ob_489) (gx (v := 0) (upi hup (by decide) (by decide) vit_489_10) (hs dX9_event_110 (hs dX9_event_111 (And.intro (ob_497) (And.intro (vin ln_497 (by decide)) (hs dX9_event_112 (hs dX9_event_113 (And.intro (ob_489) (gr (r_489_15) (hs dX9_event_116 (hs dX9_event_117 (And.intro (ob_489) (gx (v := 0) (by simp [u2, sL, sI, mx, zr, (upi hup (by decide) (by decide) vit_489_10)]) (hs dX9_event_120 (hs dX9_event_121 (And.intro (ob_498) (And.intro (vin ln_498 (by decide)) (hs dX9_event_122 (hs dX9_event_123 (hs dX9_event_124 (And.intro (ob_489) (gx (v := 0) (by simp [u2, sL, sI, mx, zr, (upi hup (by decide) (by decide) vit_489_10)]) (hs dX9_event_127 (hs dX9_event_128 (hs dX9_event_129 (And.intro (ob_489) (hs dX9_event_132 (hs dX9_event_133 (And.intro (ob_489) (gx (v := 1) (by simp [u2, sL, sI, mx, zr, kb_m4, kb_m2, kb_8, kb_9, ki_m1, ki_0, ki_1, ki_2, ki_3, kl_0]) (hs dX9_event_136 (And.intro (rfl) (And.intro rfl ?_)))))))))))))))))))))))))))))))))))))))
                try simp only [kb_m4, kb_m2, kb_8, kb_9, ki_m1, ki_0, ki_1, ki_2, ki_3, kl_0, b2_0, b2_1] at c2 c21 c25 c40 c49 c66
                try simp only [Int32.lt_iff_toInt_lt, Int32.le_iff_toInt_le, ← Int32.toInt_inj, ti_m4, ti_m2, ti_m1, ti_0, ti_1, ti_2, ti_3, ti_8, ti_9] at c2 c21 c25 c40 c49 c66
                have e : an_event a b = 1 := by
                  first
                  | (exfalso; omega)
                  | unfold an_event
                    try simp only [ti_0, ti_1]
                    repeat (first | rw [if_pos (by first | omega | (simp; done) | (simp; omega))] | rw [if_neg (by first | omega | (simp; done) | (simp; omega))])
                    all_goals rfl
                rw [e] at hk
                exact hk _ _
              · try dsimp only at c66
                try simp only [kb_m4, kb_m2, kb_8, kb_9, ki_m1, ki_0, ki_1, ki_2, ki_3, kl_0] at c66
                refine hs dX9_event_69 (hs dX9_event_70 (hs dX9_event_71 (hs dX9_event_72 (hs dX9_event_75 (And.intro (trivial) (n0 (gx (v := (b2 (0 ≤ b.toInt ∧ b.toInt ≤ (4)))) (by simp only [kb_m4, kb_m2, kb_8, kb_9, ki_m1, ki_0, ki_1, ki_2, ki_3, kl_0, kl_0, kl_1, Int32.toInt_toInt64, tm1, tj_m9223372036854775808, tj_m9, tj_m1, tj_0, tj_1, tj_2, tj_3, tj_4, tj_5, tj_9, tj_10, tj_19, tj_20, tj_48, tj_57, tj_99, tj_100, tj_127]) ?_ )))))))
                refine hs dX9_event_78 (And.intro (fun c78 => ?_) (fun c78 => ?_))
                · try dsimp only at c78
                  try simp only [kb_m4, kb_m2, kb_8, kb_9, ki_m1, ki_0, ki_1, ki_2, ki_3, kl_0] at c78
                  refine hs dX9_event_90 (hs dX9_event_91 (And.intro (ob_489) (gx (v := 0) (upi hup (by decide) (by decide) vit_489_10) (hs dX9_event_94 (hs dX9_event_96 (And.intro (fun c96 => ?_) (fun c96 => absurd c96 (by decide))))))))
                  refine hs dX9_event_102 (hs dX9_event_103 (And.intro (ob_489) (gr (r_489_14) (hs dX9_event_106 (hs dX9_event_107 (And.intro (ob_489) (gx (v := 0) (upi hup (by decide) (by decide) vit_489_10) (hs dX9_event_110 (hs dX9_event_111 (And.intro (ob_497) (And.intro (vin ln_497 (by decide)) (hs dX9_event_112 (hs dX9_event_113 (And.intro (ob_489) (gr (r_489_15) (hs dX9_event_116 (hs dX9_event_117 (And.intro (ob_489) (gx (v := 0) (by simp [u2, sL, sI, mx, zr, (upi hup (by decide) (by decide) vit_489_10)]) (hs dX9_event_120 (hs dX9_event_121 (And.intro (ob_498) (And.intro (vin ln_498 (by decide)) (hs dX9_event_122 (hs dX9_event_123 (hs dX9_event_124 (And.intro (ob_489) (gx (v := 0) (by simp [u2, sL, sI, mx, zr, (upi hup (by decide) (by decide) vit_489_10)]) (hs dX9_event_127 (hs dX9_event_128 (hs dX9_event_129 (And.intro (ob_489) (hs dX9_event_132 (hs dX9_event_133 (And.intro (ob_489) (gx (v := 1) (by simp [u2, sL, sI, mx, zr, kb_m4, kb_m2, kb_8, kb_9, ki_m1, ki_0, ki_1, ki_2, ki_3, kl_0]) (hs dX9_event_136 (And.intro (rfl) (And.intro rfl ?_)))))))))))))))))))))))))))))))))))))))
                  try simp only [kb_m4, kb_m2, kb_8, kb_9, ki_m1, ki_0, ki_1, ki_2, ki_3, kl_0, b2_0, b2_1] at c2 c21 c25 c40 c49 c66 c78
                  try simp only [Int32.lt_iff_toInt_lt, Int32.le_iff_toInt_le, ← Int32.toInt_inj, ti_m4, ti_m2, ti_m1, ti_0, ti_1, ti_2, ti_3, ti_8, ti_9] at c2 c21 c25 c40 c49 c66 c78
                  have e : an_event a b = 1 := by
                    first
                    | (exfalso; omega)
                    | unfold an_event
                      try simp only [ti_0, ti_1]
                      repeat (first | rw [if_pos (by first | omega | (simp; done) | (simp; omega))] | rw [if_neg (by first | omega | (simp; done) | (simp; omega))])
                      all_goals rfl
                  rw [e] at hk
                  exact hk _ _
                · try dsimp only at c78
                  try simp only [kb_m4, kb_m2, kb_8, kb_9, ki_m1, ki_0, ki_1, ki_2, ki_3, kl_0] at c78
                  refine hs dX9_event_81 (hs dX9_event_82 (hs dX9_event_84 (And.intro (fun c84 => ?_) (fun c84 => ?_))))
                  · try dsimp only at c84
                    try simp only [kb_m4, kb_m2, kb_8, kb_9, ki_m1, ki_0, ki_1, ki_2, ki_3, kl_0] at c84
                    refine hs dX9_event_90 (hs dX9_event_91 (And.intro (ob_489) (gx (v := 0) (upi hup (by decide) (by decide) vit_489_10) (hs dX9_event_94 (hs dX9_event_96 (And.intro (fun c96 => ?_) (fun c96 => absurd c96 (by decide))))))))
                    refine hs dX9_event_102 (hs dX9_event_103 (And.intro (ob_489) (gr (r_489_14) (hs dX9_event_106 (hs dX9_event_107 (And.intro (ob_489) (gx (v := 0) (upi hup (by decide) (by decide) vit_489_10) (hs dX9_event_110 (hs dX9_event_111 (And.intro (ob_497) (And.intro (vin ln_497 (by decide)) (hs dX9_event_112 (hs dX9_event_113 (And.intro (ob_489) (gr (r_489_15) (hs dX9_event_116 (hs dX9_event_117 (And.intro (ob_489) (gx (v := 0) (by simp [u2, sL, sI, mx, zr, (upi hup (by decide) (by decide) vit_489_10)]) (hs dX9_event_120 (hs dX9_event_121 (And.intro (ob_498) (And.intro (vin ln_498 (by decide)) (hs dX9_event_122 (hs dX9_event_123 (hs dX9_event_124 (And.intro (ob_489) (gx (v := 0) (by simp [u2, sL, sI, mx, zr, (upi hup (by decide) (by decide) vit_489_10)]) (hs dX9_event_127 (hs dX9_event_128 (hs dX9_event_129 (And.intro (ob_489) (hs dX9_event_132 (hs dX9_event_133 (And.intro (ob_489) (gx (v := 1) (by simp [u2, sL, sI, mx, zr, kb_m4, kb_m2, kb_8, kb_9, ki_m1, ki_0, ki_1, ki_2, ki_3, kl_0]) (hs dX9_event_136 (And.intro (rfl) (And.intro rfl ?_)))))))))))))))))))))))))))))))))))))))
                    try simp only [kb_m4, kb_m2, kb_8, kb_9, ki_m1, ki_0, ki_1, ki_2, ki_3, kl_0, b2_0, b2_1] at c2 c21 c25 c40 c49 c66 c78 c84
                    try simp only [Int32.lt_iff_toInt_lt, Int32.le_iff_toInt_le, ← Int32.toInt_inj, ti_m4, ti_m2, ti_m1, ti_0, ti_1, ti_2, ti_3, ti_8, ti_9] at c2 c21 c25 c40 c49 c66 c78 c84
                    have e : an_event a b = 1 := by
                      first
                      | (exfalso; omega)
                      | unfold an_event
                        try simp only [ti_0, ti_1]
                        repeat (first | rw [if_pos (by first | omega | (simp; done) | (simp; omega))] | rw [if_neg (by first | omega | (simp; done) | (simp; omega))])
                        all_goals rfl
                    rw [e] at hk
                    exact hk _ _
                  · try dsimp only at c84
                    try simp only [kb_m4, kb_m2, kb_8, kb_9, ki_m1, ki_0, ki_1, ki_2, ki_3, kl_0] at c84
                    refine hs dX9_event_87 (hs dX9_event_89 (And.intro (rfl) (And.intro rfl ?_)))
                    try simp only [kb_m4, kb_m2, kb_8, kb_9, ki_m1, ki_0, ki_1, ki_2, ki_3, kl_0, b2_0, b2_1] at c2 c21 c25 c40 c49 c66 c78 c84
                    try simp only [Int32.lt_iff_toInt_lt, Int32.le_iff_toInt_le, ← Int32.toInt_inj, ti_m4, ti_m2, ti_m1, ti_0, ti_1, ti_2, ti_3, ti_8, ti_9] at c2 c21 c25 c40 c49 c66 c78 c84
                    have e : an_event a b = (-2) := by
                      first
                      | (exfalso; omega)
                      | unfold an_event
                        try simp only [ti_0, ti_1]
                        repeat (first | rw [if_pos (by first | omega | (simp; done) | (simp; omega))] | rw [if_neg (by first | omega | (simp; done) | (simp; omega))])
                        all_goals rfl
                    rw [e] at hk
                    exact hk _ _
            · try dsimp only at c49
              try simp only [kb_m4, kb_m2, kb_8, kb_9, ki_m1, ki_0, ki_1, ki_2, ki_3, kl_0] at c49
              refine hs dX9_event_52 (hs dX9_event_53 (hs dX9_event_54 (hs dX9_event_55 (hs dX9_event_58 (And.intro (trivial) (n0 (gx (v := (b2 (0 ≤ b.toInt ∧ b.toInt ≤ (4)))) (by simp only [kb_m4, kb_m2, kb_8, kb_9, ki_m1, ki_0, ki_1, ki_2, ki_3, kl_0, kl_0, kl_1, Int32.toInt_toInt64, tm1, tj_m9223372036854775808, tj_m9, tj_m1, tj_0, tj_1, tj_2, tj_3, tj_4, tj_5, tj_9, tj_10, tj_19, tj_20, tj_48, tj_57, tj_99, tj_100, tj_127]) ?_ )))))))
              refine hs dX9_event_61 (And.intro (fun c61 => ?_) (fun c61 => ?_))
              · try dsimp only at c61
                try simp only [kb_m4, kb_m2, kb_8, kb_9, ki_m1, ki_0, ki_1, ki_2, ki_3, kl_0] at c61
                refine hs dX9_event_87 (hs dX9_event_89 (And.intro (rfl) (And.intro rfl ?_)))
                try simp only [kb_m4, kb_m2, kb_8, kb_9, ki_m1, ki_0, ki_1, ki_2, ki_3, kl_0, b2_0, b2_1] at c2 c21 c25 c40 c49 c61
                try simp only [Int32.lt_iff_toInt_lt, Int32.le_iff_toInt_le, ← Int32.toInt_inj, ti_m4, ti_m2, ti_m1, ti_0, ti_1, ti_2, ti_3, ti_8, ti_9] at c2 c21 c25 c40 c49 c61
                have e : an_event a b = (-2) := by
                  first
                  | (exfalso; omega)
                  | unfold an_event
                    try simp only [ti_0, ti_1]
                    repeat (first | rw [if_pos (by first | omega | (simp; done) | (simp; omega))] | rw [if_neg (by first | omega | (simp; done) | (simp; omega))])
                    all_goals rfl
                rw [e] at hk
                exact hk _ _
              · try dsimp only at c61
                try simp only [kb_m4, kb_m2, kb_8, kb_9, ki_m1, ki_0, ki_1, ki_2, ki_3, kl_0] at c61
                refine hs dX9_event_64 (hs dX9_event_65 (hs dX9_event_66 (And.intro (fun c66 => ?_) (fun c66 => ?_))))
                · try dsimp only at c66
                  try simp only [kb_m4, kb_m2, kb_8, kb_9, ki_m1, ki_0, ki_1, ki_2, ki_3, kl_0] at c66
                  refine hs dX9_event_90 (hs dX9_event_91 (And.intro (ob_489) (gx (v := 0) (upi hup (by decide) (by decide) vit_489_10) (hs dX9_event_94 (hs dX9_event_96 (And.intro (fun c96 => ?_) (fun c96 => absurd c96 (by decide))))))))
                  refine hs dX9_event_102 (hs dX9_event_103 (And.intro (ob_489) (gr (r_489_14) (hs dX9_event_106 (hs dX9_event_107 (And.intro (ob_489) (gx (v := 0) (upi hup (by decide) (by decide) vit_489_10) (hs dX9_event_110 (hs dX9_event_111 (And.intro (ob_497) (And.intro (vin ln_497 (by decide)) (hs dX9_event_112 (hs dX9_event_113 (And.intro (ob_489) (gr (r_489_15) (hs dX9_event_116 (hs dX9_event_117 (And.intro (ob_489) (gx (v := 0) (by simp [u2, sL, sI, mx, zr, (upi hup (by decide) (by decide) vit_489_10)]) (hs dX9_event_120 (hs dX9_event_121 (And.intro (ob_498) (And.intro (vin ln_498 (by decide)) (hs dX9_event_122 (hs dX9_event_123 (hs dX9_event_124 (And.intro (ob_489) (gx (v := 0) (by simp [u2, sL, sI, mx, zr, (upi hup (by decide) (by decide) vit_489_10)]) (hs dX9_event_127 (hs dX9_event_128 (hs dX9_event_129 (And.intro (ob_489) (hs dX9_event_132 (hs dX9_event_133 (And.intro (ob_489) (gx (v := 1) (by simp [u2, sL, sI, mx, zr, kb_m4, kb_m2, kb_8, kb_9, ki_m1, ki_0, ki_1, ki_2, ki_3, kl_0]) (hs dX9_event_136 (And.intro (rfl) (And.intro rfl ?_)))))))))))))))))))))))))))))))))))))))
                  try simp only [kb_m4, kb_m2, kb_8, kb_9, ki_m1, ki_0, ki_1, ki_2, ki_3, kl_0, b2_0, b2_1] at c2 c21 c25 c40 c49 c61 c66
                  try simp only [Int32.lt_iff_toInt_lt, Int32.le_iff_toInt_le, ← Int32.toInt_inj, ti_m4, ti_m2, ti_m1, ti_0, ti_1, ti_2, ti_3, ti_8, ti_9] at c2 c21 c25 c40 c49 c61 c66
                  have e : an_event a b = 1 := by
                    first
                    | (exfalso; omega)
                    | unfold an_event
                      try simp only [ti_0, ti_1]
                      repeat (first | rw [if_pos (by first | omega | (simp; done) | (simp; omega))] | rw [if_neg (by first | omega | (simp; done) | (simp; omega))])
                      all_goals rfl
                  rw [e] at hk
                  exact hk _ _
                · try dsimp only at c66
                  try simp only [kb_m4, kb_m2, kb_8, kb_9, ki_m1, ki_0, ki_1, ki_2, ki_3, kl_0] at c66
                  refine hs dX9_event_69 (hs dX9_event_70 (hs dX9_event_71 (hs dX9_event_72 (hs dX9_event_75 (And.intro (trivial) (n0 (gx (v := (b2 (0 ≤ b.toInt ∧ b.toInt ≤ (4)))) (by simp only [kb_m4, kb_m2, kb_8, kb_9, ki_m1, ki_0, ki_1, ki_2, ki_3, kl_0, kl_0, kl_1, Int32.toInt_toInt64, tm1, tj_m9223372036854775808, tj_m9, tj_m1, tj_0, tj_1, tj_2, tj_3, tj_4, tj_5, tj_9, tj_10, tj_19, tj_20, tj_48, tj_57, tj_99, tj_100, tj_127]) ?_ )))))))
                  refine hs dX9_event_78 (And.intro (fun c78 => ?_) (fun c78 => ?_))
                  · try dsimp only at c78
                    try simp only [kb_m4, kb_m2, kb_8, kb_9, ki_m1, ki_0, ki_1, ki_2, ki_3, kl_0] at c78
                    refine hs dX9_event_90 (hs dX9_event_91 (And.intro (ob_489) (gx (v := 0) (upi hup (by decide) (by decide) vit_489_10) (hs dX9_event_94 (hs dX9_event_96 (And.intro (fun c96 => ?_) (fun c96 => absurd c96 (by decide))))))))
                    refine hs dX9_event_102 (hs dX9_event_103 (And.intro (ob_489) (gr (r_489_14) (hs dX9_event_106 (hs dX9_event_107 (And.intro (ob_489) (gx (v := 0) (upi hup (by decide) (by decide) vit_489_10) (hs dX9_event_110 (hs dX9_event_111 (And.intro (ob_497) (And.intro (vin ln_497 (by decide)) (hs dX9_event_112 (hs dX9_event_113 (And.intro (ob_489) (gr (r_489_15) (hs dX9_event_116 (hs dX9_event_117 (And.intro (ob_489) (gx (v := 0) (by simp [u2, sL, sI, mx, zr, (upi hup (by decide) (by decide) vit_489_10)]) (hs dX9_event_120 (hs dX9_event_121 (And.intro (ob_498) (And.intro (vin ln_498 (by decide)) (hs dX9_event_122 (hs dX9_event_123 (hs dX9_event_124 (And.intro (ob_489) (gx (v := 0) (by simp [u2, sL, sI, mx, zr, (upi hup (by decide) (by decide) vit_489_10)]) (hs dX9_event_127 (hs dX9_event_128 (hs dX9_event_129 (And.intro (ob_489) (hs dX9_event_132 (hs dX9_event_133 (And.intro (ob_489) (gx (v := 1) (by simp [u2, sL, sI, mx, zr, kb_m4, kb_m2, kb_8, kb_9, ki_m1, ki_0, ki_1, ki_2, ki_3, kl_0]) (hs dX9_event_136 (And.intro (rfl) (And.intro rfl ?_)))))))))))))))))))))))))))))))))))))))
                    try simp only [kb_m4, kb_m2, kb_8, kb_9, ki_m1, ki_0, ki_1, ki_2, ki_3, kl_0, b2_0, b2_1] at c2 c21 c25 c40 c49 c61 c66 c78
                    try simp only [Int32.lt_iff_toInt_lt, Int32.le_iff_toInt_le, ← Int32.toInt_inj, ti_m4, ti_m2, ti_m1, ti_0, ti_1, ti_2, ti_3, ti_8, ti_9] at c2 c21 c25 c40 c49 c61 c66 c78
                    have e : an_event a b = 1 := by
                      first
                      | (exfalso; omega)
                      | unfold an_event
                        try simp only [ti_0, ti_1]
                        repeat (first | rw [if_pos (by first | omega | (simp; done) | (simp; omega))] | rw [if_neg (by first | omega | (simp; done) | (simp; omega))])
                        all_goals rfl
                    rw [e] at hk
                    exact hk _ _
                  · try dsimp only at c78
                    try simp only [kb_m4, kb_m2, kb_8, kb_9, ki_m1, ki_0, ki_1, ki_2, ki_3, kl_0] at c78
                    refine hs dX9_event_81 (hs dX9_event_82 (hs dX9_event_84 (And.intro (fun c84 => ?_) (fun c84 => ?_))))
                    · try dsimp only at c84
                      try simp only [kb_m4, kb_m2, kb_8, kb_9, ki_m1, ki_0, ki_1, ki_2, ki_3, kl_0] at c84
                      refine hs dX9_event_90 (hs dX9_event_91 (And.intro (ob_489) (gx (v := 0) (upi hup (by decide) (by decide) vit_489_10) (hs dX9_event_94 (hs dX9_event_96 (And.intro (fun c96 => ?_) (fun c96 => absurd c96 (by decide))))))))
                      refine hs dX9_event_102 (hs dX9_event_103 (And.intro (ob_489) (gr (r_489_14) (hs dX9_event_106 (hs dX9_event_107 (And.intro (ob_489) (gx (v := 0) (upi hup (by decide) (by decide) vit_489_10) (hs dX9_event_110 (hs dX9_event_111 (And.intro (ob_497) (And.intro (vin ln_497 (by decide)) (hs dX9_event_112 (hs dX9_event_113 (And.intro (ob_489) (gr (r_489_15) (hs dX9_event_116 (hs dX9_event_117 (And.intro (ob_489) (gx (v := 0) (by simp [u2, sL, sI, mx, zr, (upi hup (by decide) (by decide) vit_489_10)]) (hs dX9_event_120 (hs dX9_event_121 (And.intro (ob_498) (And.intro (vin ln_498 (by decide)) (hs dX9_event_122 (hs dX9_event_123 (hs dX9_event_124 (And.intro (ob_489) (gx (v := 0) (by simp [u2, sL, sI, mx, zr, (upi hup (by decide) (by decide) vit_489_10)]) (hs dX9_event_127 (hs dX9_event_128 (hs dX9_event_129 (And.intro (ob_489) (hs dX9_event_132 (hs dX9_event_133 (And.intro (ob_489) (gx (v := 1) (by simp [u2, sL, sI, mx, zr, kb_m4, kb_m2, kb_8, kb_9, ki_m1, ki_0, ki_1, ki_2, ki_3, kl_0]) (hs dX9_event_136 (And.intro (rfl) (And.intro rfl ?_)))))))))))))))))))))))))))))))))))))))
                      try simp only [kb_m4, kb_m2, kb_8, kb_9, ki_m1, ki_0, ki_1, ki_2, ki_3, kl_0, b2_0, b2_1] at c2 c21 c25 c40 c49 c61 c66 c78 c84
                      try simp only [Int32.lt_iff_toInt_lt, Int32.le_iff_toInt_le, ← Int32.toInt_inj, ti_m4, ti_m2, ti_m1, ti_0, ti_1, ti_2, ti_3, ti_8, ti_9] at c2 c21 c25 c40 c49 c61 c66 c78 c84
                      have e : an_event a b = 1 := by
                        first
                        | (exfalso; omega)
                        | unfold an_event
                          try simp only [ti_0, ti_1]
                          repeat (first | rw [if_pos (by first | omega | (simp; done) | (simp; omega))] | rw [if_neg (by first | omega | (simp; done) | (simp; omega))])
                          all_goals rfl
                      rw [e] at hk
                      exact hk _ _
                    · try dsimp only at c84
                      try simp only [kb_m4, kb_m2, kb_8, kb_9, ki_m1, ki_0, ki_1, ki_2, ki_3, kl_0] at c84
                      refine hs dX9_event_87 (hs dX9_event_89 (And.intro (rfl) (And.intro rfl ?_)))
                      try simp only [kb_m4, kb_m2, kb_8, kb_9, ki_m1, ki_0, ki_1, ki_2, ki_3, kl_0, b2_0, b2_1] at c2 c21 c25 c40 c49 c61 c66 c78 c84
                      try simp only [Int32.lt_iff_toInt_lt, Int32.le_iff_toInt_le, ← Int32.toInt_inj, ti_m4, ti_m2, ti_m1, ti_0, ti_1, ti_2, ti_3, ti_8, ti_9] at c2 c21 c25 c40 c49 c61 c66 c78 c84
                      have e : an_event a b = (-2) := by
                        first
                        | (exfalso; omega)
                        | unfold an_event
                          try simp only [ti_0, ti_1]
                          repeat (first | rw [if_pos (by first | omega | (simp; done) | (simp; omega))] | rw [if_neg (by first | omega | (simp; done) | (simp; omega))])
                          all_goals rfl
                      rw [e] at hk
                      exact hk _ _
          · try dsimp only at c40
            try simp only [kb_m4, kb_m2, kb_8, kb_9, ki_m1, ki_0, ki_1, ki_2, ki_3, kl_0] at c40
            refine hs dX9_event_43 (hs dX9_event_44 (And.intro (fun c44 => ?_) (fun c44 => ?_)))
            · try dsimp only at c44
              try simp only [kb_m4, kb_m2, kb_8, kb_9, ki_m1, ki_0, ki_1, ki_2, ki_3, kl_0] at c44
              refine hs dX9_event_87 (hs dX9_event_89 (And.intro (rfl) (And.intro rfl ?_)))
              try simp only [kb_m4, kb_m2, kb_8, kb_9, ki_m1, ki_0, ki_1, ki_2, ki_3, kl_0, b2_0, b2_1] at c2 c21 c25 c40 c44
              try simp only [Int32.lt_iff_toInt_lt, Int32.le_iff_toInt_le, ← Int32.toInt_inj, ti_m4, ti_m2, ti_m1, ti_0, ti_1, ti_2, ti_3, ti_8, ti_9] at c2 c21 c25 c40 c44
              have e : an_event a b = (-2) := by
                first
                | (exfalso; omega)
                | unfold an_event
                  try simp only [ti_0, ti_1]
                  repeat (first | rw [if_pos (by first | omega | (simp; done) | (simp; omega))] | rw [if_neg (by first | omega | (simp; done) | (simp; omega))])
                  all_goals rfl
              rw [e] at hk
              exact hk _ _
            · try dsimp only at c44
              try simp only [kb_m4, kb_m2, kb_8, kb_9, ki_m1, ki_0, ki_1, ki_2, ki_3, kl_0] at c44
              refine hs dX9_event_47 (hs dX9_event_48 (hs dX9_event_49 (And.intro (fun c49 => ?_) (fun c49 => ?_))))
              · try dsimp only at c49
                try simp only [kb_m4, kb_m2, kb_8, kb_9, ki_m1, ki_0, ki_1, ki_2, ki_3, kl_0] at c49
                refine hs dX9_event_64 (hs dX9_event_65 (hs dX9_event_66 (And.intro (fun c66 => ?_) (fun c66 => ?_))))
                · try dsimp only at c66
                  try simp only [kb_m4, kb_m2, kb_8, kb_9, ki_m1, ki_0, ki_1, ki_2, ki_3, kl_0] at c66
                  refine hs dX9_event_90 (hs dX9_event_91 (And.intro (ob_489) (gx (v := 0) (upi hup (by decide) (by decide) vit_489_10) (hs dX9_event_94 (hs dX9_event_96 (And.intro (fun c96 => ?_) (fun c96 => absurd c96 (by decide))))))))
                  refine hs dX9_event_102 (hs dX9_event_103 (And.intro (ob_489) (gr (r_489_14) (hs dX9_event_106 (hs dX9_event_107 (And.intro (ob_489) (gx (v := 0) (upi hup (by decide) (by decide) vit_489_10) (hs dX9_event_110 (hs dX9_event_111 (And.intro (ob_497) (And.intro (vin ln_497 (by decide)) (hs dX9_event_112 (hs dX9_event_113 (And.intro (ob_489) (gr (r_489_15) (hs dX9_event_116 (hs dX9_event_117 (And.intro (ob_489) (gx (v := 0) (by simp [u2, sL, sI, mx, zr, (upi hup (by decide) (by decide) vit_489_10)]) (hs dX9_event_120 (hs dX9_event_121 (And.intro (ob_498) (And.intro (vin ln_498 (by decide)) (hs dX9_event_122 (hs dX9_event_123 (hs dX9_event_124 (And.intro (ob_489) (gx (v := 0) (by simp [u2, sL, sI, mx, zr, (upi hup (by decide) (by decide) vit_489_10)]) (hs dX9_event_127 (hs dX9_event_128 (hs dX9_event_129 (And.intro (ob_489) (hs dX9_event_132 (hs dX9_event_133 (And.intro (ob_489) (gx (v := 1) (by simp [u2, sL, sI, mx, zr, kb_m4, kb_m2, kb_8, kb_9, ki_m1, ki_0, ki_1, ki_2, ki_3, kl_0]) (hs dX9_event_136 (And.intro (rfl) (And.intro rfl ?_)))))))))))))))))))))))))))))))))))))))
                  try simp only [kb_m4, kb_m2, kb_8, kb_9, ki_m1, ki_0, ki_1, ki_2, ki_3, kl_0, b2_0, b2_1] at c2 c21 c25 c40 c44 c49 c66
                  try simp only [Int32.lt_iff_toInt_lt, Int32.le_iff_toInt_le, ← Int32.toInt_inj, ti_m4, ti_m2, ti_m1, ti_0, ti_1, ti_2, ti_3, ti_8, ti_9] at c2 c21 c25 c40 c44 c49 c66
                  have e : an_event a b = 1 := by
                    first
                    | (exfalso; omega)
                    | unfold an_event
                      try simp only [ti_0, ti_1]
                      repeat (first | rw [if_pos (by first | omega | (simp; done) | (simp; omega))] | rw [if_neg (by first | omega | (simp; done) | (simp; omega))])
                      all_goals rfl
                  rw [e] at hk
                  exact hk _ _
                · try dsimp only at c66
                  try simp only [kb_m4, kb_m2, kb_8, kb_9, ki_m1, ki_0, ki_1, ki_2, ki_3, kl_0] at c66
                  refine hs dX9_event_69 (hs dX9_event_70 (hs dX9_event_71 (hs dX9_event_72 (hs dX9_event_75 (And.intro (trivial) (n0 (gx (v := (b2 (0 ≤ b.toInt ∧ b.toInt ≤ (4)))) (by simp only [kb_m4, kb_m2, kb_8, kb_9, ki_m1, ki_0, ki_1, ki_2, ki_3, kl_0, kl_0, kl_1, Int32.toInt_toInt64, tm1, tj_m9223372036854775808, tj_m9, tj_m1, tj_0, tj_1, tj_2, tj_3, tj_4, tj_5, tj_9, tj_10, tj_19, tj_20, tj_48, tj_57, tj_99, tj_100, tj_127]) ?_ )))))))
                  refine hs dX9_event_78 (And.intro (fun c78 => ?_) (fun c78 => ?_))
                  · try dsimp only at c78
                    try simp only [kb_m4, kb_m2, kb_8, kb_9, ki_m1, ki_0, ki_1, ki_2, ki_3, kl_0] at c78
                    refine hs dX9_event_90 (hs dX9_event_91 (And.intro (ob_489) (gx (v := 0) (upi hup (by decide) (by decide) vit_489_10) (hs dX9_event_94 (hs dX9_event_96 (And.intro (fun c96 => ?_) (fun c96 => absurd c96 (by decide))))))))
                    refine hs dX9_event_102 (hs dX9_event_103 (And.intro (ob_489) (gr (r_489_14) (hs dX9_event_106 (hs dX9_event_107 (And.intro (ob_489) (gx (v := 0) (upi hup (by decide) (by decide) vit_489_10) (hs dX9_event_110 (hs dX9_event_111 (And.intro (ob_497) (And.intro (vin ln_497 (by decide)) (hs dX9_event_112 (hs dX9_event_113 (And.intro (ob_489) (gr (r_489_15) (hs dX9_event_116 (hs dX9_event_117 (And.intro (ob_489) (gx (v := 0) (by simp [u2, sL, sI, mx, zr, (upi hup (by decide) (by decide) vit_489_10)]) (hs dX9_event_120 (hs dX9_event_121 (And.intro (ob_498) (And.intro (vin ln_498 (by decide)) (hs dX9_event_122 (hs dX9_event_123 (hs dX9_event_124 (And.intro (ob_489) (gx (v := 0) (by simp [u2, sL, sI, mx, zr, (upi hup (by decide) (by decide) vit_489_10)]) (hs dX9_event_127 (hs dX9_event_128 (hs dX9_event_129 (And.intro (ob_489) (hs dX9_event_132 (hs dX9_event_133 (And.intro (ob_489) (gx (v := 1) (by simp [u2, sL, sI, mx, zr, kb_m4, kb_m2, kb_8, kb_9, ki_m1, ki_0, ki_1, ki_2, ki_3, kl_0]) (hs dX9_event_136 (And.intro (rfl) (And.intro rfl ?_)))))))))))))))))))))))))))))))))))))))
                    try simp only [kb_m4, kb_m2, kb_8, kb_9, ki_m1, ki_0, ki_1, ki_2, ki_3, kl_0, b2_0, b2_1] at c2 c21 c25 c40 c44 c49 c66 c78
                    try simp only [Int32.lt_iff_toInt_lt, Int32.le_iff_toInt_le, ← Int32.toInt_inj, ti_m4, ti_m2, ti_m1, ti_0, ti_1, ti_2, ti_3, ti_8, ti_9] at c2 c21 c25 c40 c44 c49 c66 c78
                    have e : an_event a b = 1 := by
                      first
                      | (exfalso; omega)
                      | unfold an_event
                        try simp only [ti_0, ti_1]
                        repeat (first | rw [if_pos (by first | omega | (simp; done) | (simp; omega))] | rw [if_neg (by first | omega | (simp; done) | (simp; omega))])
                        all_goals rfl
                    rw [e] at hk
                    exact hk _ _
                  · try dsimp only at c78
                    try simp only [kb_m4, kb_m2, kb_8, kb_9, ki_m1, ki_0, ki_1, ki_2, ki_3, kl_0] at c78
                    refine hs dX9_event_81 (hs dX9_event_82 (hs dX9_event_84 (And.intro (fun c84 => ?_) (fun c84 => ?_))))
                    · try dsimp only at c84
                      try simp only [kb_m4, kb_m2, kb_8, kb_9, ki_m1, ki_0, ki_1, ki_2, ki_3, kl_0] at c84
                      refine hs dX9_event_90 (hs dX9_event_91 (And.intro (ob_489) (gx (v := 0) (upi hup (by decide) (by decide) vit_489_10) (hs dX9_event_94 (hs dX9_event_96 (And.intro (fun c96 => ?_) (fun c96 => absurd c96 (by decide))))))))
                      refine hs dX9_event_102 (hs dX9_event_103 (And.intro (ob_489) (gr (r_489_14) (hs dX9_event_106 (hs dX9_event_107 (And.intro (ob_489) (gx (v := 0) (upi hup (by decide) (by decide) vit_489_10) (hs dX9_event_110 (hs dX9_event_111 (And.intro (ob_497) (And.intro (vin ln_497 (by decide)) (hs dX9_event_112 (hs dX9_event_113 (And.intro (ob_489) (gr (r_489_15) (hs dX9_event_116 (hs dX9_event_117 (And.intro (ob_489) (gx (v := 0) (by simp [u2, sL, sI, mx, zr, (upi hup (by decide) (by decide) vit_489_10)]) (hs dX9_event_120 (hs dX9_event_121 (And.intro (ob_498) (And.intro (vin ln_498 (by decide)) (hs dX9_event_122 (hs dX9_event_123 (hs dX9_event_124 (And.intro (ob_489) (gx (v := 0) (by simp [u2, sL, sI, mx, zr, (upi hup (by decide) (by decide) vit_489_10)]) (hs dX9_event_127 (hs dX9_event_128 (hs dX9_event_129 (And.intro (ob_489) (hs dX9_event_132 (hs dX9_event_133 (And.intro (ob_489) (gx (v := 1) (by simp [u2, sL, sI, mx, zr, kb_m4, kb_m2, kb_8, kb_9, ki_m1, ki_0, ki_1, ki_2, ki_3, kl_0]) (hs dX9_event_136 (And.intro (rfl) (And.intro rfl ?_)))))))))))))))))))))))))))))))))))))))
                      try simp only [kb_m4, kb_m2, kb_8, kb_9, ki_m1, ki_0, ki_1, ki_2, ki_3, kl_0, b2_0, b2_1] at c2 c21 c25 c40 c44 c49 c66 c78 c84
                      try simp only [Int32.lt_iff_toInt_lt, Int32.le_iff_toInt_le, ← Int32.toInt_inj, ti_m4, ti_m2, ti_m1, ti_0, ti_1, ti_2, ti_3, ti_8, ti_9] at c2 c21 c25 c40 c44 c49 c66 c78 c84
                      have e : an_event a b = 1 := by
                        first
                        | (exfalso; omega)
                        | unfold an_event
                          try simp only [ti_0, ti_1]
                          repeat (first | rw [if_pos (by first | omega | (simp; done) | (simp; omega))] | rw [if_neg (by first | omega | (simp; done) | (simp; omega))])
                          all_goals rfl
                      rw [e] at hk
                      exact hk _ _
                    · try dsimp only at c84
                      try simp only [kb_m4, kb_m2, kb_8, kb_9, ki_m1, ki_0, ki_1, ki_2, ki_3, kl_0] at c84
                      refine hs dX9_event_87 (hs dX9_event_89 (And.intro (rfl) (And.intro rfl ?_)))
                      try simp only [kb_m4, kb_m2, kb_8, kb_9, ki_m1, ki_0, ki_1, ki_2, ki_3, kl_0, b2_0, b2_1] at c2 c21 c25 c40 c44 c49 c66 c78 c84
                      try simp only [Int32.lt_iff_toInt_lt, Int32.le_iff_toInt_le, ← Int32.toInt_inj, ti_m4, ti_m2, ti_m1, ti_0, ti_1, ti_2, ti_3, ti_8, ti_9] at c2 c21 c25 c40 c44 c49 c66 c78 c84
                      have e : an_event a b = (-2) := by
                        first
                        | (exfalso; omega)
                        | unfold an_event
                          try simp only [ti_0, ti_1]
                          repeat (first | rw [if_pos (by first | omega | (simp; done) | (simp; omega))] | rw [if_neg (by first | omega | (simp; done) | (simp; omega))])
                          all_goals rfl
                      rw [e] at hk
                      exact hk _ _
              · try dsimp only at c49
                try simp only [kb_m4, kb_m2, kb_8, kb_9, ki_m1, ki_0, ki_1, ki_2, ki_3, kl_0] at c49
                refine hs dX9_event_52 (hs dX9_event_53 (hs dX9_event_54 (hs dX9_event_55 (hs dX9_event_58 (And.intro (trivial) (n0 (gx (v := (b2 (0 ≤ b.toInt ∧ b.toInt ≤ (4)))) (by simp only [kb_m4, kb_m2, kb_8, kb_9, ki_m1, ki_0, ki_1, ki_2, ki_3, kl_0, kl_0, kl_1, Int32.toInt_toInt64, tm1, tj_m9223372036854775808, tj_m9, tj_m1, tj_0, tj_1, tj_2, tj_3, tj_4, tj_5, tj_9, tj_10, tj_19, tj_20, tj_48, tj_57, tj_99, tj_100, tj_127]) ?_ )))))))
                refine hs dX9_event_61 (And.intro (fun c61 => ?_) (fun c61 => ?_))
                · try dsimp only at c61
                  try simp only [kb_m4, kb_m2, kb_8, kb_9, ki_m1, ki_0, ki_1, ki_2, ki_3, kl_0] at c61
                  refine hs dX9_event_87 (hs dX9_event_89 (And.intro (rfl) (And.intro rfl ?_)))
                  try simp only [kb_m4, kb_m2, kb_8, kb_9, ki_m1, ki_0, ki_1, ki_2, ki_3, kl_0, b2_0, b2_1] at c2 c21 c25 c40 c44 c49 c61
                  try simp only [Int32.lt_iff_toInt_lt, Int32.le_iff_toInt_le, ← Int32.toInt_inj, ti_m4, ti_m2, ti_m1, ti_0, ti_1, ti_2, ti_3, ti_8, ti_9] at c2 c21 c25 c40 c44 c49 c61
                  have e : an_event a b = (-2) := by
                    first
                    | (exfalso; omega)
                    | unfold an_event
                      try simp only [ti_0, ti_1]
                      repeat (first | rw [if_pos (by first | omega | (simp; done) | (simp; omega))] | rw [if_neg (by first | omega | (simp; done) | (simp; omega))])
                      all_goals rfl
                  rw [e] at hk
                  exact hk _ _
                · try dsimp only at c61
                  try simp only [kb_m4, kb_m2, kb_8, kb_9, ki_m1, ki_0, ki_1, ki_2, ki_3, kl_0] at c61
                  refine hs dX9_event_64 (hs dX9_event_65 (hs dX9_event_66 (And.intro (fun c66 => ?_) (fun c66 => ?_))))
                  · try dsimp only at c66
                    try simp only [kb_m4, kb_m2, kb_8, kb_9, ki_m1, ki_0, ki_1, ki_2, ki_3, kl_0] at c66
                    refine hs dX9_event_90 (hs dX9_event_91 (And.intro (ob_489) (gx (v := 0) (upi hup (by decide) (by decide) vit_489_10) (hs dX9_event_94 (hs dX9_event_96 (And.intro (fun c96 => ?_) (fun c96 => absurd c96 (by decide))))))))
                    refine hs dX9_event_102 (hs dX9_event_103 (And.intro (ob_489) (gr (r_489_14) (hs dX9_event_106 (hs dX9_event_107 (And.intro (ob_489) (gx (v := 0) (upi hup (by decide) (by decide) vit_489_10) (hs dX9_event_110 (hs dX9_event_111 (And.intro (ob_497) (And.intro (vin ln_497 (by decide)) (hs dX9_event_112 (hs dX9_event_113 (And.intro (ob_489) (gr (r_489_15) (hs dX9_event_116 (hs dX9_event_117 (And.intro (ob_489) (gx (v := 0) (by simp [u2, sL, sI, mx, zr, (upi hup (by decide) (by decide) vit_489_10)]) (hs dX9_event_120 (hs dX9_event_121 (And.intro (ob_498) (And.intro (vin ln_498 (by decide)) (hs dX9_event_122 (hs dX9_event_123 (hs dX9_event_124 (And.intro (ob_489) (gx (v := 0) (by simp [u2, sL, sI, mx, zr, (upi hup (by decide) (by decide) vit_489_10)]) (hs dX9_event_127 (hs dX9_event_128 (hs dX9_event_129 (And.intro (ob_489) (hs dX9_event_132 (hs dX9_event_133 (And.intro (ob_489) (gx (v := 1) (by simp [u2, sL, sI, mx, zr, kb_m4, kb_m2, kb_8, kb_9, ki_m1, ki_0, ki_1, ki_2, ki_3, kl_0]) (hs dX9_event_136 (And.intro (rfl) (And.intro rfl ?_)))))))))))))))))))))))))))))))))))))))
                    try simp only [kb_m4, kb_m2, kb_8, kb_9, ki_m1, ki_0, ki_1, ki_2, ki_3, kl_0, b2_0, b2_1] at c2 c21 c25 c40 c44 c49 c61 c66
                    try simp only [Int32.lt_iff_toInt_lt, Int32.le_iff_toInt_le, ← Int32.toInt_inj, ti_m4, ti_m2, ti_m1, ti_0, ti_1, ti_2, ti_3, ti_8, ti_9] at c2 c21 c25 c40 c44 c49 c61 c66
                    have e : an_event a b = 1 := by
                      first
                      | (exfalso; omega)
                      | unfold an_event
                        try simp only [ti_0, ti_1]
                        repeat (first | rw [if_pos (by first | omega | (simp; done) | (simp; omega))] | rw [if_neg (by first | omega | (simp; done) | (simp; omega))])
                        all_goals rfl
                    rw [e] at hk
                    exact hk _ _
                  · try dsimp only at c66
                    try simp only [kb_m4, kb_m2, kb_8, kb_9, ki_m1, ki_0, ki_1, ki_2, ki_3, kl_0] at c66
                    refine hs dX9_event_69 (hs dX9_event_70 (hs dX9_event_71 (hs dX9_event_72 (hs dX9_event_75 (And.intro (trivial) (n0 (gx (v := (b2 (0 ≤ b.toInt ∧ b.toInt ≤ (4)))) (by simp only [kb_m4, kb_m2, kb_8, kb_9, ki_m1, ki_0, ki_1, ki_2, ki_3, kl_0, kl_0, kl_1, Int32.toInt_toInt64, tm1, tj_m9223372036854775808, tj_m9, tj_m1, tj_0, tj_1, tj_2, tj_3, tj_4, tj_5, tj_9, tj_10, tj_19, tj_20, tj_48, tj_57, tj_99, tj_100, tj_127]) ?_ )))))))
                    refine hs dX9_event_78 (And.intro (fun c78 => ?_) (fun c78 => ?_))
                    · try dsimp only at c78
                      try simp only [kb_m4, kb_m2, kb_8, kb_9, ki_m1, ki_0, ki_1, ki_2, ki_3, kl_0] at c78
                      refine hs dX9_event_90 (hs dX9_event_91 (And.intro (ob_489) (gx (v := 0) (upi hup (by decide) (by decide) vit_489_10) (hs dX9_event_94 (hs dX9_event_96 (And.intro (fun c96 => ?_) (fun c96 => absurd c96 (by decide))))))))
                      refine hs dX9_event_102 (hs dX9_event_103 (And.intro (ob_489) (gr (r_489_14) (hs dX9_event_106 (hs dX9_event_107 (And.intro (ob_489) (gx (v := 0) (upi hup (by decide) (by decide) vit_489_10) (hs dX9_event_110 (hs dX9_event_111 (And.intro (ob_497) (And.intro (vin ln_497 (by decide)) (hs dX9_event_112 (hs dX9_event_113 (And.intro (ob_489) (gr (r_489_15) (hs dX9_event_116 (hs dX9_event_117 (And.intro (ob_489) (gx (v := 0) (by simp [u2, sL, sI, mx, zr, (upi hup (by decide) (by decide) vit_489_10)]) (hs dX9_event_120 (hs dX9_event_121 (And.intro (ob_498) (And.intro (vin ln_498 (by decide)) (hs dX9_event_122 (hs dX9_event_123 (hs dX9_event_124 (And.intro (ob_489) (gx (v := 0) (by simp [u2, sL, sI, mx, zr, (upi hup (by decide) (by decide) vit_489_10)]) (hs dX9_event_127 (hs dX9_event_128 (hs dX9_event_129 (And.intro (ob_489) (hs dX9_event_132 (hs dX9_event_133 (And.intro (ob_489) (gx (v := 1) (by simp [u2, sL, sI, mx, zr, kb_m4, kb_m2, kb_8, kb_9, ki_m1, ki_0, ki_1, ki_2, ki_3, kl_0]) (hs dX9_event_136 (And.intro (rfl) (And.intro rfl ?_)))))))))))))))))))))))))))))))))))))))
                      try simp only [kb_m4, kb_m2, kb_8, kb_9, ki_m1, ki_0, ki_1, ki_2, ki_3, kl_0, b2_0, b2_1] at c2 c21 c25 c40 c44 c49 c61 c66 c78
                      try simp only [Int32.lt_iff_toInt_lt, Int32.le_iff_toInt_le, ← Int32.toInt_inj, ti_m4, ti_m2, ti_m1, ti_0, ti_1, ti_2, ti_3, ti_8, ti_9] at c2 c21 c25 c40 c44 c49 c61 c66 c78
                      have e : an_event a b = 1 := by
                        first
                        | (exfalso; omega)
                        | unfold an_event
                          try simp only [ti_0, ti_1]
                          repeat (first | rw [if_pos (by first | omega | (simp; done) | (simp; omega))] | rw [if_neg (by first | omega | (simp; done) | (simp; omega))])
                          all_goals rfl
                      rw [e] at hk
                      exact hk _ _
                    · try dsimp only at c78
                      try simp only [kb_m4, kb_m2, kb_8, kb_9, ki_m1, ki_0, ki_1, ki_2, ki_3, kl_0] at c78
                      refine hs dX9_event_81 (hs dX9_event_82 (hs dX9_event_84 (And.intro (fun c84 => ?_) (fun c84 => ?_))))
                      · try dsimp only at c84
                        try simp only [kb_m4, kb_m2, kb_8, kb_9, ki_m1, ki_0, ki_1, ki_2, ki_3, kl_0] at c84
                        refine hs dX9_event_90 (hs dX9_event_91 (And.intro (ob_489) (gx (v := 0) (upi hup (by decide) (by decide) vit_489_10) (hs dX9_event_94 (hs dX9_event_96 (And.intro (fun c96 => ?_) (fun c96 => absurd c96 (by decide))))))))
                        refine hs dX9_event_102 (hs dX9_event_103 (And.intro (ob_489) (gr (r_489_14) (hs dX9_event_106 (hs dX9_event_107 (And.intro (ob_489) (gx (v := 0) (upi hup (by decide) (by decide) vit_489_10) (hs dX9_event_110 (hs dX9_event_111 (And.intro (ob_497) (And.intro (vin ln_497 (by decide)) (hs dX9_event_112 (hs dX9_event_113 (And.intro (ob_489) (gr (r_489_15) (hs dX9_event_116 (hs dX9_event_117 (And.intro (ob_489) (gx (v := 0) (by simp [u2, sL, sI, mx, zr, (upi hup (by decide) (by decide) vit_489_10)]) (hs dX9_event_120 (hs dX9_event_121 (And.intro (ob_498) (And.intro (vin ln_498 (by decide)) (hs dX9_event_122 (hs dX9_event_123 (hs dX9_event_124 (And.intro (ob_489) (gx (v := 0) (by simp [u2, sL, sI, mx, zr, (upi hup (by decide) (by decide) vit_489_10)]) (hs dX9_event_127 (hs dX9_event_128 (hs dX9_event_129 (And.intro (ob_489) (hs dX9_event_132 (hs dX9_event_133 (And.intro (ob_489) (gx (v := 1) (by simp [u2, sL, sI, mx, zr, kb_m4, kb_m2, kb_8, kb_9, ki_m1, ki_0, ki_1, ki_2, ki_3, kl_0]) (hs dX9_event_136 (And.intro (rfl) (And.intro rfl ?_)))))))))))))))))))))))))))))))))))))))
                        try simp only [kb_m4, kb_m2, kb_8, kb_9, ki_m1, ki_0, ki_1, ki_2, ki_3, kl_0, b2_0, b2_1] at c2 c21 c25 c40 c44 c49 c61 c66 c78 c84
                        try simp only [Int32.lt_iff_toInt_lt, Int32.le_iff_toInt_le, ← Int32.toInt_inj, ti_m4, ti_m2, ti_m1, ti_0, ti_1, ti_2, ti_3, ti_8, ti_9] at c2 c21 c25 c40 c44 c49 c61 c66 c78 c84
                        have e : an_event a b = 1 := by
                          first
                          | (exfalso; omega)
                          | unfold an_event
                            try simp only [ti_0, ti_1]
                            repeat (first | rw [if_pos (by first | omega | (simp; done) | (simp; omega))] | rw [if_neg (by first | omega | (simp; done) | (simp; omega))])
                            all_goals rfl
                        rw [e] at hk
                        exact hk _ _
                      · try dsimp only at c84
                        try simp only [kb_m4, kb_m2, kb_8, kb_9, ki_m1, ki_0, ki_1, ki_2, ki_3, kl_0] at c84
                        refine hs dX9_event_87 (hs dX9_event_89 (And.intro (rfl) (And.intro rfl ?_)))
                        try simp only [kb_m4, kb_m2, kb_8, kb_9, ki_m1, ki_0, ki_1, ki_2, ki_3, kl_0, b2_0, b2_1] at c2 c21 c25 c40 c44 c49 c61 c66 c78 c84
                        try simp only [Int32.lt_iff_toInt_lt, Int32.le_iff_toInt_le, ← Int32.toInt_inj, ti_m4, ti_m2, ti_m1, ti_0, ti_1, ti_2, ti_3, ti_8, ti_9] at c2 c21 c25 c40 c44 c49 c61 c66 c78 c84
                        have e : an_event a b = (-2) := by
                          first
                          | (exfalso; omega)
                          | unfold an_event
                            try simp only [ti_0, ti_1]
                            repeat (first | rw [if_pos (by first | omega | (simp; done) | (simp; omega))] | rw [if_neg (by first | omega | (simp; done) | (simp; omega))])
                            all_goals rfl
                        rw [e] at hk
                        exact hk _ _
        · try dsimp only at c25
          try simp only [kb_m4, kb_m2, kb_8, kb_9, ki_m1, ki_0, ki_1, ki_2, ki_3, kl_0] at c25
          refine hs dX9_event_28 (hs dX9_event_29 (hs dX9_event_30 (And.intro (ob_489) (And.intro ⟨rfl, rfl, upi hup (by decide) (by decide) vit_489_0⟩ (n0 (hs dX9_event_33 (And.intro (fun c33 => absurd rfl c33) (fun c33 => (hs dX9_event_36 (hs dX9_event_37 (And.intro (rfl) (And.intro rfl ?_))))))))))))
          try simp only [kb_m4, kb_m2, kb_8, kb_9, ki_m1, ki_0, ki_1, ki_2, ki_3, kl_0, b2_0, b2_1] at c2 c21 c25
          try simp only [Int32.lt_iff_toInt_lt, Int32.le_iff_toInt_le, ← Int32.toInt_inj, ti_m4, ti_m2, ti_m1, ti_0, ti_1, ti_2, ti_3, ti_8, ti_9] at c2 c21 c25
          have e : an_event a b = (-1) := by
            first
            | (exfalso; omega)
            | unfold an_event
              try simp only [ti_0, ti_1]
              repeat (first | rw [if_pos (by first | omega | (simp; done) | (simp; omega))] | rw [if_neg (by first | omega | (simp; done) | (simp; omega))])
              all_goals rfl
          rw [e] at hk
          exact hk _ _
    · try dsimp only at c2
      try simp only [kb_m4, kb_m2, kb_8, kb_9, ki_m1, ki_0, ki_1, ki_2, ki_3, kl_0] at c2
      refine hs dX9_event_5 (hs dX9_event_6 (hs dX9_event_7 (And.intro (ob_489) (hs dX9_event_10 (hs dX9_event_11 (And.intro (rfl) (And.intro rfl ?_)))))))
      try simp only [kb_m4, kb_m2, kb_8, kb_9, ki_m1, ki_0, ki_1, ki_2, ki_3, kl_0, b2_0, b2_1] at c2
      try simp only [Int32.lt_iff_toInt_lt, Int32.le_iff_toInt_le, ← Int32.toInt_inj, ti_m4, ti_m2, ti_m1, ti_0, ti_1, ti_2, ti_3, ti_8, ti_9] at c2
      have e : an_event a b = 0 := by
        first
        | (exfalso; omega)
        | unfold an_event
          try simp only [ti_0, ti_1]
          repeat (first | rw [if_pos (by first | omega | (simp; done) | (simp; omega))] | rw [if_neg (by first | omega | (simp; done) | (simp; omega))])
          all_goals rfl
      rw [e] at hk
      exact hk _ _
  · exact h.elim
theorem ct_X9_event {E : Ev} {l : Launch} : CT E l yX9_event (wsY yX9_event cX9_event 3 (some .int)) rm_X9_event 0 sp_X9_event := ct_of (T := T_X9_event) (own := RX9) (by decide) rfl (fun ci h10 hc => by have h2 : (99 : Nat) = ci := Nat.eq_of_beq_eq_true hc; omega) ⟨rfl, rfl⟩ ⟨fok_X9, clok_X9, jok_X9, List.forall_mem_cons.mpr ⟨cok_S ct_X9_isIn ((cl_ins (c := 9) (by decide)).2) ml_X9_266 im_X9_isIn co_X9_isIn mo_X9_isIn (by decide), List.forall_mem_cons.mpr ⟨cok_V ct_X9_isBumper (by decide) rfl ml_X9_276 im_X9_isBumper se_X9_isBumper co_X9_isBumper mo_X9_isBumper (by decide), fun _ h => absurd h List.not_mem_nil⟩⟩⟩ bd_X9_event
def sp_X9_after : Spc := fun as N lg it rf K => match as with | [.ref 489, .int a] => (N = NT ∧ rf = RF0 ∧ Up lg it) ∧ ∀ lg' it', K (some (.int (an_after a))) lg' it' rf | _ => False
def T_X9_after : Tab := (FL_X9, CL_X9, JL_X9, [(266, 1, 3, 0, 0, sp_X9_isIn), (260, 0, 1, 9, 0, sp_X9_minds), (263, 0, 2, 9, 0, sp_X9_goesOn)], 99, (some .int))
def rm_X9_after : Room := { frames := 2, cells := 0, slots := 0, locals := 47 }
set_option maxHeartbeats 16000000 in
set_option maxRecDepth 100000 in
theorem bd_X9_after (as : List Value) (N : Nat) (lg : LGt) (it : ITt) (rf : RFt) (Q : Post) (h : sp_X9_after as N lg it rf Q) : Bd T_X9_after cX9_after 3 0 as N lg it rf Q := by
  unfold sp_X9_after at h
  split at h
  · rename_i a
    refine ⟨Nat.le_of_ble_eq_true rfl, fun P hs hw => ?_⟩
    obtain ⟨⟨rfl, rfl, hup⟩, hk⟩ := h
    refine hs dX9_after_0 (hs dX9_after_1 (hs dX9_after_2 (hs dX9_after_3 (hs dX9_after_6 (And.intro (trivial) (n0 (gx (v := (b2 (0 ≤ a.toInt ∧ a.toInt ≤ (2)))) (by simp only [kb_m5, kb_20, ki_m1, ki_0, ki_1, kl_0, kl_0, kl_1, Int32.toInt_toInt64, tm1, tj_m9223372036854775808, tj_m9, tj_m1, tj_0, tj_1, tj_2, tj_3, tj_4, tj_5, tj_9, tj_10, tj_19, tj_20, tj_48, tj_57, tj_99, tj_100, tj_127]) ?_ )))))))
    refine hs dX9_after_9 (And.intro (fun c9 => ?_) (fun c9 => ?_))
    · try dsimp only at c9
      try simp only [kb_m5, kb_20, ki_m1, ki_0, ki_1, kl_0] at c9
      refine hs dX9_after_14 (hs dX9_after_15 (And.intro (ob_489) (And.intro ⟨rfl, rfl⟩ (fun lg82 it82 hR82 => n0 ?_ ))))
      have f82_it_489_0 : it82 489 0 = 0 := (hR82 0 (by decide)).trans (upi hup (by decide) (by decide) vit_489_0)
      have f82_it_489_9 : it82 489 9 = 0 := (hR82 9 (by decide)).trans (upi hup (by decide) (by decide) vit_489_9)
      have f82_it_489_10 : it82 489 10 = 0 := (hR82 10 (by decide)).trans (upi hup (by decide) (by decide) vit_489_10)
      have f82_it_489_11 : it82 489 11 = 0 := (hR82 11 (by decide)).trans (upi hup (by decide) (by decide) vit_489_11)
      refine hs dX9_after_18 (hs dX9_after_19 (hs dX9_after_20 (And.intro (ob_489) (And.intro (rfl) (hs dX9_after_23 (hs dX9_after_24 (hs dX9_after_25 (hs dX9_after_26 (hs dX9_after_27 (And.intro (ob_489) (gx (v := 0) (by simp [u2, sL, sI, mx, zr, f82_it_489_10]) (hs dX9_after_30 (And.intro (fun c30 => ?_) (fun c30 => absurd (by decide) c30))))))))))))))
      refine hs dX9_after_55 (hs dX9_after_56 (hs dX9_after_58 (And.intro (ob_489) (And.intro ⟨rfl, rfl, by simp [u2, sL, sI, mx, zr, f82_it_489_0], by first | rfl | decide⟩ (fun lg83 it83 hR83 hS83 hE83 hO83 => n0 ?_ )))))
      have f83_it_489_0 : it83 489 0 = 0 := (hR83 0 (by decide)).trans (by simp [u2, sL, sI, mx, zr, f82_it_489_0])
      have f83_it_489_9 : it83 489 9 = 0 := (hR83 9 (by decide)).trans (by simp [u2, sL, sI, mx, zr, f82_it_489_9])
      have f83_it_489_10 : it83 489 10 = 0 := (hR83 10 (by decide)).trans (by simp [u2, sL, sI, mx, zr, f82_it_489_10])
      have f83_it_489_11 : it83 489 11 = 0 := (hR83 11 (by decide)).trans (by simp [u2, sL, sI, mx, zr, f82_it_489_11])
      refine hs dX9_after_61 (hs dX9_after_62 (And.intro (fun c62 => ?_) (fun c62 => ?_)))
      · try dsimp only at c62
        try simp only [kb_m5, kb_20, ki_m1, ki_0, ki_1, kl_0] at c62
        refine hs dX9_after_72 (hs dX9_after_73 (hs dX9_after_74 (And.intro (fun c74 => ?_) (fun c74 => ?_))))
        · try dsimp only at c74
          try simp only [kb_m5, kb_20, ki_m1, ki_0, ki_1, kl_0] at c74
          refine hs dX9_after_84 (hs dX9_after_85 (And.intro (ob_489) (gx (v := 0) (by simp [u2, sL, sI, mx, zr, hS83]) (hs dX9_after_88 (And.intro (fun c88 => ?_) (fun c88 => absurd (by decide) c88))))))
          refine hs dX9_after_100 (hs dX9_after_102 (And.intro (rfl) (And.intro rfl ?_)))
          try simp only [kb_m5, kb_20, ki_m1, ki_0, ki_1, kl_0, b2_0, b2_1] at c9 c62 c74
          try simp only [Int32.lt_iff_toInt_lt, Int32.le_iff_toInt_le, ← Int32.toInt_inj, ti_m5, ti_m1, ti_0, ti_1, ti_20] at c9 c62 c74
          have e : an_after a = (-5) := by
            first
            | (exfalso; omega)
            | unfold an_after
              try simp only [ti_0, ti_1]
              repeat (first | rw [if_pos (by first | omega | (simp; done) | (simp; omega))] | rw [if_neg (by first | omega | (simp; done) | (simp; omega))])
              all_goals rfl
          rw [e] at hk
          exact hk _ _
        · try dsimp only at c74
          try simp only [kb_m5, kb_20, ki_m1, ki_0, ki_1, kl_0] at c74
          refine hs dX9_after_77 (hs dX9_after_78 (And.intro (ob_489) (gx (v := 0) (by simp [u2, sL, sI, mx, zr, hE83]) (hs dX9_after_81 (hs dX9_after_102 (And.intro (rfl) (And.intro rfl ?_)))))))
          try simp only [kb_m5, kb_20, ki_m1, ki_0, ki_1, kl_0, b2_0, b2_1] at c9 c62 c74
          try simp only [Int32.lt_iff_toInt_lt, Int32.le_iff_toInt_le, ← Int32.toInt_inj, ti_m5, ti_m1, ti_0, ti_1, ti_20] at c9 c62 c74
          have e : an_after a = 0 := by
            first
            | (exfalso; omega)
            | unfold an_after
              try simp only [ti_0, ti_1]
              repeat (first | rw [if_pos (by first | omega | (simp; done) | (simp; omega))] | rw [if_neg (by first | omega | (simp; done) | (simp; omega))])
              all_goals rfl
          rw [e] at hk
          exact hk _ _
      · try dsimp only at c62
        try simp only [kb_m5, kb_20, ki_m1, ki_0, ki_1, kl_0] at c62
        refine hs dX9_after_65 (hs dX9_after_66 (And.intro (ob_489) (gx (v := 0) (by simp [u2, sL, sI, mx, zr, hS83]) (hs dX9_after_69 (hs dX9_after_102 (And.intro (rfl) (And.intro rfl ?_)))))))
        try simp only [kb_m5, kb_20, ki_m1, ki_0, ki_1, kl_0, b2_0, b2_1] at c9 c62
        try simp only [Int32.lt_iff_toInt_lt, Int32.le_iff_toInt_le, ← Int32.toInt_inj, ti_m5, ti_m1, ti_0, ti_1, ti_20] at c9 c62
        have e : an_after a = 0 := by
          first
          | (exfalso; omega)
          | unfold an_after
            try simp only [ti_0, ti_1]
            repeat (first | rw [if_pos (by first | omega | (simp; done) | (simp; omega))] | rw [if_neg (by first | omega | (simp; done) | (simp; omega))])
            all_goals rfl
        rw [e] at hk
        exact hk _ _
    · try dsimp only at c9
      try simp only [kb_m5, kb_20, ki_m1, ki_0, ki_1, kl_0] at c9
      refine hs dX9_after_12 (hs dX9_after_13 (And.intro (rfl) (And.intro rfl ?_)))
      try simp only [kb_m5, kb_20, ki_m1, ki_0, ki_1, kl_0, b2_0, b2_1] at c9
      try simp only [Int32.lt_iff_toInt_lt, Int32.le_iff_toInt_le, ← Int32.toInt_inj, ti_m5, ti_m1, ti_0, ti_1, ti_20] at c9
      have e : an_after a = (-1) := by
        first
        | (exfalso; omega)
        | unfold an_after
          try simp only [ti_0, ti_1]
          repeat (first | rw [if_pos (by first | omega | (simp; done) | (simp; omega))] | rw [if_neg (by first | omega | (simp; done) | (simp; omega))])
          all_goals rfl
      rw [e] at hk
      exact hk _ _
  · exact h.elim
theorem ct_X9_after {E : Ev} {l : Launch} : CT E l yX9_after (wsY yX9_after cX9_after 3 (some .int)) rm_X9_after 0 sp_X9_after := ct_of (T := T_X9_after) (own := RX9) (by decide) rfl (fun ci h10 hc => by have h2 : (99 : Nat) = ci := Nat.eq_of_beq_eq_true hc; omega) ⟨rfl, rfl⟩ ⟨fok_X9, clok_X9, jok_X9, List.forall_mem_cons.mpr ⟨cok_S ct_X9_isIn ((cl_ins (c := 9) (by decide)).2) ml_X9_266 im_X9_isIn co_X9_isIn mo_X9_isIn (by decide), List.forall_mem_cons.mpr ⟨cok_V ct_X9_minds (by decide) rfl ml_X9_260 im_X9_minds se_X9_minds co_X9_minds mo_X9_minds (by decide), List.forall_mem_cons.mpr ⟨cok_V ct_X9_goesOn (by decide) rfl ml_X9_263 im_X9_goesOn se_X9_goesOn co_X9_goesOn mo_X9_goesOn (by decide), fun _ h => absurd h List.not_mem_nil⟩⟩⟩⟩ bd_X9_after
def sp_X9_looked : Spc := fun as N lg it rf K => match as with | [.ref 489] => (N = NT ∧ rf = RF0 ∧ Up lg it) ∧ ∀ lg' it', K (some (.int (an_looked))) lg' it' rf | _ => False
def T_X9_looked : Tab := (FL_X9, CL_X9, JL_X9, [(289, 0, 1, 9, 0, sp_X9_findAll)], 99, (some .int))
def rm_X9_looked : Room := { frames := 3, cells := 0, slots := 0, locals := 67 }
set_option maxHeartbeats 16000000 in
set_option maxRecDepth 100000 in
theorem bd_X9_looked (as : List Value) (N : Nat) (lg : LGt) (it : ITt) (rf : RFt) (Q : Post) (h : sp_X9_looked as N lg it rf Q) : Bd T_X9_looked cX9_looked 2 0 as N lg it rf Q := by
  unfold sp_X9_looked at h
  split at h
  · refine ⟨Nat.le_of_ble_eq_true rfl, fun P hs hw => ?_⟩
    obtain ⟨⟨rfl, rfl, hup⟩, hk⟩ := h
    refine hs dX9_looked_0 (hs dX9_looked_1 (And.intro (ob_489) (And.intro ⟨rfl, rfl, upi hup (by decide) (by decide) vit_489_0⟩ (fun lg84 it84 hR84 hS84 hE84 hO84 => n0 ?_ ))))
    have f84_it_489_0 : it84 489 0 = 0 := (hR84 0 (by decide)).trans (upi hup (by decide) (by decide) vit_489_0)
    have f84_it_489_9 : it84 489 9 = 0 := (hR84 9 (by decide)).trans (upi hup (by decide) (by decide) vit_489_9)
    have f84_it_489_10 : it84 489 10 = 0 := (hR84 10 (by decide)).trans (upi hup (by decide) (by decide) vit_489_10)
    have f84_it_489_11 : it84 489 11 = 0 := (hR84 11 (by decide)).trans (upi hup (by decide) (by decide) vit_489_11)
    refine hs dX9_looked_4 (hs dX9_looked_5 (hs dX9_looked_6 (hs dX9_looked_7 (hs dX9_looked_8 (And.intro (ob_489) (gx (v := 0) (by simp [u2, sL, sI, mx, zr, f84_it_489_11]) (hs dX9_looked_11 (And.intro (fun c11 => ?_) (fun c11 => absurd (by decide) c11)))))))))
    refine hs dX9_looked_41 (hs dX9_looked_43 (And.intro (rfl) (And.intro rfl ?_)))
    have e : an_looked = (-5) := rfl
    rw [e] at hk
    exact hk _ _
  · exact h.elim
theorem ct_X9_looked {E : Ev} {l : Launch} : CT E l yX9_looked (wsY yX9_looked cX9_looked 2 (some .int)) rm_X9_looked 0 sp_X9_looked := ct_of (T := T_X9_looked) (own := RX9) (by decide) rfl (fun ci h10 hc => by have h2 : (99 : Nat) = ci := Nat.eq_of_beq_eq_true hc; omega) ⟨rfl, rfl⟩ ⟨fok_X9, clok_X9, jok_X9, List.forall_mem_cons.mpr ⟨cok_V ct_X9_findAll (by decide) rfl ml_X9_289 im_X9_findAll se_X9_findAll co_X9_findAll mo_X9_findAll (by decide), fun _ h => absurd h List.not_mem_nil⟩⟩ bd_X9_looked
def sp_X9_undo : Spc := fun as N lg it rf K => match as with | [.ref 489] => (N = NT ∧ rf = RF0 ∧ Up lg it) ∧ ∀ lg' it', K (some (.int (an_undo))) lg' it' rf | _ => False
def T_X9_undo : Tab := (FL_X9, CL_X9, JL_X9, [], 99, (some .int))
def rm_X9_undo : Room := { frames := 0, cells := 0, slots := 0, locals := 0 }
set_option maxHeartbeats 16000000 in
set_option maxRecDepth 100000 in
theorem bd_X9_undo (as : List Value) (N : Nat) (lg : LGt) (it : ITt) (rf : RFt) (Q : Post) (h : sp_X9_undo as N lg it rf Q) : Bd T_X9_undo cX9_undo 1 0 as N lg it rf Q := by
  unfold sp_X9_undo at h
  split at h
  · refine ⟨Nat.le_of_ble_eq_true rfl, fun P hs hw => ?_⟩
    obtain ⟨⟨rfl, rfl, hup⟩, hk⟩ := h
    refine hs dX9_undo_0 (hs dX9_undo_1 (And.intro (ob_489) (gx (v := 0) (upi hup (by decide) (by decide) vit_489_61) (hs dX9_undo_4 (And.intro (fun c4 => absurd rfl c4) (fun c4 => (hs dX9_undo_7 (hs dX9_undo_9 (And.intro (rfl) (And.intro rfl ?_))))))))))
    have e : an_undo = (-3) := rfl
    rw [e] at hk
    exact hk _ _
  · exact h.elim
theorem ct_X9_undo {E : Ev} {l : Launch} : CT E l yX9_undo (wsY yX9_undo cX9_undo 1 (some .int)) rm_X9_undo 0 sp_X9_undo := ct_of (T := T_X9_undo) (own := RX9) (by decide) rfl (fun ci h10 hc => by have h2 : (99 : Nat) = ci := Nat.eq_of_beq_eq_true hc; omega) ⟨rfl, rfl⟩ ⟨fok_X9, clok_X9, jok_X9, fun _ h => absurd h List.not_mem_nil⟩ bd_X9_undo
def sp_X9_count : Spc := fun as N lg it rf K => match as with | [.ref 489, .int a] => (N = NT ∧ rf = RF0 ∧ Up lg it) ∧ ∀ lg' it', K (some (.int (an_count a))) lg' it' rf | _ => False
def T_X9_count : Tab := (FL_X9, CL_X9, JL_X9, [], 99, (some .int))
def rm_X9_count : Room := { frames := 0, cells := 0, slots := 0, locals := 0 }
set_option maxHeartbeats 16000000 in
set_option maxRecDepth 100000 in
theorem bd_X9_count (as : List Value) (N : Nat) (lg : LGt) (it : ITt) (rf : RFt) (Q : Post) (h : sp_X9_count as N lg it rf Q) : Bd T_X9_count cX9_count 2 0 as N lg it rf Q := by
  unfold sp_X9_count at h
  split at h
  · rename_i a
    refine ⟨Nat.le_of_ble_eq_true rfl, fun P hs hw => ?_⟩
    obtain ⟨⟨rfl, rfl, hup⟩, hk⟩ := h
    refine hs dX9_count_0 (hw dX9_count_1 (And.intro (fun c1 => ?_) (And.intro (fun c1 => ?_) (And.intro (fun c1 => ?_) (And.intro (fun c1 => ?_) (And.intro (fun c1 => ?_) trivial))))))
    · try simp only [kb_m2] at c1
      refine hs dX9_count_52 (hs dX9_count_54 (And.intro (rfl) (And.intro rfl ?_)))
      try simp only [kb_m2, b2_0, b2_1] at c1
      try simp only [Int32.lt_iff_toInt_lt, Int32.le_iff_toInt_le, ← Int32.toInt_inj, ti_m2, ti_0] at c1
      have e : an_count a = (-2) := by
        first
        | (exfalso; omega)
        | unfold an_count
          try simp only [ti_0, ti_1]
          repeat (first | rw [if_pos (by first | omega | (simp; done) | (simp; omega))] | rw [if_neg (by first | omega | (simp; done) | (simp; omega))])
          all_goals rfl
      rw [e] at hk
      exact hk _ _
    · try simp only [kb_m2] at c1
      refine hs dX9_count_32 (hs dX9_count_33 (And.intro (ob_489) (gx (v := 0) (upi hup (by decide) (by decide) vit_489_9) (hs dX9_count_36 (And.intro (rfl) (And.intro rfl ?_))))))
      try simp only [kb_m2, b2_0, b2_1] at c1
      try simp only [Int32.lt_iff_toInt_lt, Int32.le_iff_toInt_le, ← Int32.toInt_inj, ti_m2, ti_0] at c1
      have e : an_count a = 0 := by
        first
        | (exfalso; omega)
        | unfold an_count
          try simp only [ti_0, ti_1]
          repeat (first | rw [if_pos (by first | omega | (simp; done) | (simp; omega))] | rw [if_neg (by first | omega | (simp; done) | (simp; omega))])
          all_goals rfl
      rw [e] at hk
      exact hk _ _
    · try simp only [kb_m2] at c1
      refine hs dX9_count_37 (hs dX9_count_38 (And.intro (ob_489) (gx (v := 0) (upi hup (by decide) (by decide) vit_489_10) (hs dX9_count_41 (And.intro (rfl) (And.intro rfl ?_))))))
      try simp only [kb_m2, b2_0, b2_1] at c1
      try simp only [Int32.lt_iff_toInt_lt, Int32.le_iff_toInt_le, ← Int32.toInt_inj, ti_m2, ti_0] at c1
      have e : an_count a = 0 := by
        first
        | (exfalso; omega)
        | unfold an_count
          try simp only [ti_0, ti_1]
          repeat (first | rw [if_pos (by first | omega | (simp; done) | (simp; omega))] | rw [if_neg (by first | omega | (simp; done) | (simp; omega))])
          all_goals rfl
      rw [e] at hk
      exact hk _ _
    · try simp only [kb_m2] at c1
      refine hs dX9_count_42 (hs dX9_count_43 (And.intro (ob_489) (gx (v := 0) (upi hup (by decide) (by decide) vit_489_11) (hs dX9_count_46 (And.intro (rfl) (And.intro rfl ?_))))))
      try simp only [kb_m2, b2_0, b2_1] at c1
      try simp only [Int32.lt_iff_toInt_lt, Int32.le_iff_toInt_le, ← Int32.toInt_inj, ti_m2, ti_0] at c1
      have e : an_count a = 0 := by
        first
        | (exfalso; omega)
        | unfold an_count
          try simp only [ti_0, ti_1]
          repeat (first | rw [if_pos (by first | omega | (simp; done) | (simp; omega))] | rw [if_neg (by first | omega | (simp; done) | (simp; omega))])
          all_goals rfl
      rw [e] at hk
      exact hk _ _
    · try simp only [kb_m2] at c1
      refine hs dX9_count_47 (hs dX9_count_48 (And.intro (ob_489) (gx (v := 0) (upi hup (by decide) (by decide) vit_489_50) (hs dX9_count_51 (And.intro (rfl) (And.intro rfl ?_))))))
      try simp only [kb_m2, b2_0, b2_1] at c1
      try simp only [Int32.lt_iff_toInt_lt, Int32.le_iff_toInt_le, ← Int32.toInt_inj, ti_m2, ti_0] at c1
      have e : an_count a = 0 := by
        first
        | (exfalso; omega)
        | unfold an_count
          try simp only [ti_0, ti_1]
          repeat (first | rw [if_pos (by first | omega | (simp; done) | (simp; omega))] | rw [if_neg (by first | omega | (simp; done) | (simp; omega))])
          all_goals rfl
      rw [e] at hk
      exact hk _ _
  · exact h.elim
theorem ct_X9_count {E : Ev} {l : Launch} : CT E l yX9_count (wsY yX9_count cX9_count 2 (some .int)) rm_X9_count 0 sp_X9_count := ct_of (T := T_X9_count) (own := RX9) (by decide) rfl (fun ci h10 hc => by have h2 : (99 : Nat) = ci := Nat.eq_of_beq_eq_true hc; omega) ⟨rfl, rfl⟩ ⟨fok_X9, clok_X9, jok_X9, fun _ h => absurd h List.not_mem_nil⟩ bd_X9_count
def sp_X9_item : Spc := fun as N lg it rf K => match as with | [.ref 489, .int a, .int b, .long v] => (N = NT ∧ rf = RF0 ∧ Up lg it) ∧ ∀ lg' it', K (some (.int (an_item a b))) lg' it' rf | _ => False
def T_X9_item : Tab := (FL_X9, CL_X9, JL_X9, [(374, 1, 1, 0, 0, sp_X9_isTape), (266, 1, 3, 0, 0, sp_X9_isIn)], 99, (some .int))
def rm_X9_item : Room := { frames := 2, cells := 0, slots := 0, locals := 45 }
set_option maxHeartbeats 16000000 in
set_option maxRecDepth 100000 in
theorem bd_X9_item (as : List Value) (N : Nat) (lg : LGt) (it : ITt) (rf : RFt) (Q : Post) (h : sp_X9_item as N lg it rf Q) : Bd T_X9_item cX9_item 6 0 as N lg it rf Q := by
  unfold sp_X9_item at h
  split at h
  · rename_i a b v
    refine ⟨Nat.le_of_ble_eq_true rfl, fun P hs hw => ?_⟩
    obtain ⟨⟨rfl, rfl, hup⟩, hk⟩ := h
    refine hs dX9_item_0 (hs dX9_item_1 (And.intro (trivial) (n0 (hs dX9_item_4 (And.intro (fun c4 => ?_) (fun c4 => ?_))))))
    · try dsimp only at c4
      try simp only [kb_m13, kb_m11, kb_60, ki_m1, ki_1, ki_2, ki_3, kl_0, kl_1] at c4
      refine hs dX9_item_9 (hs dX9_item_10 (And.intro (ob_489) (gr (r_489_56) (hs dX9_item_13 ?_))))
      obtain ⟨t, ht, ta⟩ := tpx (nb2 c4).1 (nb2 c4).2
      refine hs dX9_item_14 (And.intro (ob_518) (And.intro (by rw [ta]; exact vin ln518 (nI_in (by omega) (by omega))) (gx (v := (-1)) (by rw [ta]; exact upt hup ht) (hs dX9_item_15 (And.intro (fun c15 => absurd c15 (by decide)) (fun c15 => (hs dX9_item_18 (hs dX9_item_20 (And.intro (rfl) (And.intro rfl ?_))))))))))
      try simp only [kb_m13, kb_m11, kb_60, ki_m1, ki_1, ki_2, ki_3, kl_0, kl_1, b2_0, b2_1, lg_cmp_lt, lg_cmp_gt, lg_cmp_le, lg_cmp_ge, lg_cmp_eq] at c4
      try simp only [Int32.lt_iff_toInt_lt, Int32.le_iff_toInt_le, ← Int32.toInt_inj, ti_m13, ti_m11, ti_m1, ti_0, ti_1, ti_2, ti_3, ti_60, Int64.lt_iff_toInt_lt, Int64.le_iff_toInt_le, Int32.toInt_toInt64, tj_0, tj_1, lg_cmp_lt, lg_cmp_gt, lg_cmp_le, lg_cmp_ge, lg_cmp_eq] at c4
      have e : an_item a b = (-11) := by
        first
        | (exfalso; omega)
        | unfold an_item
          try simp only [ti_0, ti_1]
          repeat (first | rw [if_pos (by first | omega | (simp; done) | (simp; omega))] | rw [if_neg (by first | omega | (simp; done) | (simp; omega))])
          all_goals rfl
      rw [e] at hk
      exact hk _ _
    · try dsimp only at c4
      try simp only [kb_m13, kb_m11, kb_60, ki_m1, ki_1, ki_2, ki_3, kl_0, kl_1] at c4
      refine hs dX9_item_7 (hs dX9_item_8 (And.intro (rfl) (And.intro rfl ?_)))
      try simp only [kb_m13, kb_m11, kb_60, ki_m1, ki_1, ki_2, ki_3, kl_0, kl_1, b2_0, b2_1, lg_cmp_lt, lg_cmp_gt, lg_cmp_le, lg_cmp_ge, lg_cmp_eq] at c4
      try simp only [Int32.lt_iff_toInt_lt, Int32.le_iff_toInt_le, ← Int32.toInt_inj, ti_m13, ti_m11, ti_m1, ti_0, ti_1, ti_2, ti_3, ti_60, Int64.lt_iff_toInt_lt, Int64.le_iff_toInt_le, Int32.toInt_toInt64, tj_0, tj_1, lg_cmp_lt, lg_cmp_gt, lg_cmp_le, lg_cmp_ge, lg_cmp_eq] at c4
      have e : an_item a b = (-1) := by
        first
        | (exfalso; omega)
        | unfold an_item
          try simp only [ti_0, ti_1]
          repeat (first | rw [if_pos (by first | omega | (simp; done) | (simp; omega))] | rw [if_neg (by first | omega | (simp; done) | (simp; omega))])
          all_goals rfl
      rw [e] at hk
      exact hk _ _
  · exact h.elim
theorem ct_X9_item {E : Ev} {l : Launch} : CT E l yX9_item (wsY yX9_item cX9_item 6 (some .int)) rm_X9_item 0 sp_X9_item := ct_of (T := T_X9_item) (own := RX9) (by decide) rfl (fun ci h10 hc => by have h2 : (99 : Nat) = ci := Nat.eq_of_beq_eq_true hc; omega) ⟨rfl, rfl⟩ ⟨fok_X9, clok_X9, jok_X9, List.forall_mem_cons.mpr ⟨cok_S ct_X9_isTape ((cl_ins (c := 9) (by decide)).2) ml_X9_374 im_X9_isTape co_X9_isTape mo_X9_isTape (by decide), List.forall_mem_cons.mpr ⟨cok_S ct_X9_isIn ((cl_ins (c := 9) (by decide)).2) ml_X9_266 im_X9_isIn co_X9_isIn mo_X9_isIn (by decide), fun _ h => absurd h List.not_mem_nil⟩⟩⟩ bd_X9_item
def sp_X9_peek : Spc := fun as N lg it rf K => match as with | [.ref 489, .int a, .int b] => (N = NT ∧ rf = RF0 ∧ Up lg it) ∧ ∀ lg' it', K (some (.long (an_peek a b))) lg' it' rf | _ => False
def T_X9_peek : Tab := (FL_X9, CL_X9, JL_X9, [(374, 1, 1, 0, 0, sp_X9_isTape), (266, 1, 3, 0, 0, sp_X9_isIn)], 99, (some .long))
def rm_X9_peek : Room := { frames := 2, cells := 0, slots := 0, locals := 45 }
set_option maxHeartbeats 16000000 in
set_option maxRecDepth 100000 in
theorem bd_X9_peek (as : List Value) (N : Nat) (lg : LGt) (it : ITt) (rf : RFt) (Q : Post) (h : sp_X9_peek as N lg it rf Q) : Bd T_X9_peek cX9_peek 3 0 as N lg it rf Q := by
  unfold sp_X9_peek at h
  split at h
  · rename_i a b
    refine ⟨Nat.le_of_ble_eq_true rfl, fun P hs hw => ?_⟩
    obtain ⟨⟨rfl, rfl, hup⟩, hk⟩ := h
    refine hs dX9_peek_0 (hs dX9_peek_1 (And.intro (trivial) (n0 (hs dX9_peek_4 (And.intro (fun c4 => ?_) (fun c4 => ?_))))))
    · try dsimp only at c4
      try simp only [kb_60, ki_1, kl_0] at c4
      refine hs dX9_peek_39 (hs dX9_peek_42 (And.intro (rfl) (And.intro rfl ?_)))
      try simp only [kb_60, ki_1, kl_0, b2_0, b2_1] at c4
      try simp only [Int32.lt_iff_toInt_lt, Int32.le_iff_toInt_le, ← Int32.toInt_inj, ti_0, ti_1, ti_60] at c4
      have e : an_peek a b = (-9223372036854775808) := rfl
      rw [e] at hk
      exact hk _ _
    · try dsimp only at c4
      try simp only [kb_60, ki_1, kl_0] at c4
      refine hs dX9_peek_7 (hs dX9_peek_8 (hs dX9_peek_9 (hs dX9_peek_10 (hs dX9_peek_11 (And.intro (ob_489) (gr (r_489_57) (hs dX9_peek_14 ?_)))))))
      obtain ⟨t, ht, ta⟩ := tpx (nb2 c4).1 (nb2 c4).2
      refine hs dX9_peek_15 (And.intro (ob_519) (And.intro (by rw [ta]; exact vin ln519 (nI_in (by omega) (by omega))) (gx (v := 0) (by rw [ta]; exact ups hup ht) (hs dX9_peek_16 (hs dX9_peek_17 (hs dX9_peek_18 (hs dX9_peek_19 (And.intro (trivial) (n0 (gx (v := (b2 (0 ≤ b.toInt ∧ b.toInt ≤ (-1)))) (by simp only [kb_60, ki_1, kl_0, kl_0, kl_1, Int32.toInt_toInt64, tm1, tj_m9223372036854775808, tj_m9, tj_m1, tj_0, tj_1, tj_2, tj_3, tj_4, tj_5, tj_9, tj_10, tj_19, tj_20, tj_48, tj_57, tj_99, tj_100, tj_127]) ?_ ))))))))))
      refine hs dX9_peek_22 (And.intro (fun c22 => ?_) (fun c22 => False.elim (by have q := nb2 c22; omega)))
      refine hs dX9_peek_39 (hs dX9_peek_42 (And.intro (rfl) (And.intro rfl ?_)))
      try simp only [kb_60, ki_1, kl_0, b2_0, b2_1] at c4
      try simp only [Int32.lt_iff_toInt_lt, Int32.le_iff_toInt_le, ← Int32.toInt_inj, ti_0, ti_1, ti_60] at c4
      have e : an_peek a b = (-9223372036854775808) := rfl
      rw [e] at hk
      exact hk _ _
  · exact h.elim
theorem ct_X9_peek {E : Ev} {l : Launch} : CT E l yX9_peek (wsY yX9_peek cX9_peek 3 (some .long)) rm_X9_peek 0 sp_X9_peek := ct_of (T := T_X9_peek) (own := RX9) (by decide) rfl (fun ci h10 hc => by have h2 : (99 : Nat) = ci := Nat.eq_of_beq_eq_true hc; omega) ⟨rfl, rfl⟩ ⟨fok_X9, clok_X9, jok_X9, List.forall_mem_cons.mpr ⟨cok_S ct_X9_isTape ((cl_ins (c := 9) (by decide)).2) ml_X9_374 im_X9_isTape co_X9_isTape mo_X9_isTape (by decide), List.forall_mem_cons.mpr ⟨cok_S ct_X9_isIn ((cl_ins (c := 9) (by decide)).2) ml_X9_266 im_X9_isIn co_X9_isIn mo_X9_isIn (by decide), fun _ h => absurd h List.not_mem_nil⟩⟩⟩ bd_X9_peek
def sp_X9_judge : Spc := fun as N lg it rf K => match as with | [.ref 489, .int a, .int b] => (N = NT ∧ rf = RF0 ∧ Up lg it) ∧ ∀ lg' it', K (some (.int (an_judge a b))) lg' it' rf | _ => False
def T_X9_judge : Tab := (FL_X9, CL_X9, JL_X9, [(374, 1, 1, 0, 0, sp_X9_isTape), (289, 0, 1, 9, 0, sp_X9_findAll)], 99, (some .int))
def rm_X9_judge : Room := { frames := 3, cells := 0, slots := 0, locals := 67 }
set_option maxHeartbeats 16000000 in
set_option maxRecDepth 100000 in
theorem bd_X9_judge (as : List Value) (N : Nat) (lg : LGt) (it : ITt) (rf : RFt) (Q : Post) (h : sp_X9_judge as N lg it rf Q) : Bd T_X9_judge cX9_judge 4 0 as N lg it rf Q := by
  unfold sp_X9_judge at h
  split at h
  · rename_i a b
    refine ⟨Nat.le_of_ble_eq_true rfl, fun P hs hw => ?_⟩
    obtain ⟨⟨rfl, rfl, hup⟩, hk⟩ := h
    refine hs dX9_judge_0 (hs dX9_judge_1 (And.intro (trivial) (n0 (hs dX9_judge_4 (And.intro (fun c4 => ?_) (fun c4 => ?_))))))
    · try dsimp only at c4
      try simp only [kb_m12, kb_m5, kb_60, kb_100, ki_m1, ki_0] at c4
      refine hs dX9_judge_9 (hs dX9_judge_10 (And.intro (ob_489) (gr (r_489_56) (hs dX9_judge_13 ?_))))
      obtain ⟨t, ht, ta⟩ := tpx (nb2 c4).1 (nb2 c4).2
      refine hs dX9_judge_14 (And.intro (ob_518) (And.intro (by rw [ta]; exact vin ln518 (nI_in (by omega) (by omega))) (gx (v := (-1)) (by rw [ta]; exact upt hup ht) (hs dX9_judge_15 (And.intro (fun c15 => ?_) (fun c15 => absurd (by decide) c15))))))
      refine hs dX9_judge_21 (hs dX9_judge_22 (And.intro (ob_489) (And.intro ⟨rfl, rfl, upi hup (by decide) (by decide) vit_489_0⟩ (fun lg85 it85 hR85 hS85 hE85 hO85 => n0 ?_ ))))
      have f85_it_489_0 : it85 489 0 = 0 := (hR85 0 (by decide)).trans (upi hup (by decide) (by decide) vit_489_0)
      have f85_it_489_9 : it85 489 9 = 0 := (hR85 9 (by decide)).trans (upi hup (by decide) (by decide) vit_489_9)
      have f85_it_489_10 : it85 489 10 = 0 := (hR85 10 (by decide)).trans (upi hup (by decide) (by decide) vit_489_10)
      have f85_it_489_11 : it85 489 11 = 0 := (hR85 11 (by decide)).trans (upi hup (by decide) (by decide) vit_489_11)
      refine hs dX9_judge_25 (hs dX9_judge_26 (hs dX9_judge_27 (hs dX9_judge_28 (hs dX9_judge_29 (And.intro (ob_489) (gx (v := 0) (by simp [u2, sL, sI, mx, zr, hS85]) (hs dX9_judge_32 (And.intro (fun c32 => ?_) (fun c32 => absurd (by decide) c32)))))))))
      refine hs dX9_judge_92 (hs dX9_judge_94 (And.intro (rfl) (And.intro rfl ?_)))
      try simp only [kb_m12, kb_m5, kb_60, kb_100, ki_m1, ki_0, b2_0, b2_1, lg_cmp_lt, lg_cmp_gt, lg_cmp_le, lg_cmp_ge, lg_cmp_eq] at c4
      try simp only [Int32.lt_iff_toInt_lt, Int32.le_iff_toInt_le, ← Int32.toInt_inj, ti_m12, ti_m5, ti_m1, ti_0, ti_60, ti_100, Int64.lt_iff_toInt_lt, Int64.le_iff_toInt_le, Int32.toInt_toInt64, tj_0, tj_1, lg_cmp_lt, lg_cmp_gt, lg_cmp_le, lg_cmp_ge, lg_cmp_eq] at c4
      have e : an_judge a b = (-5) := by
        first
        | (exfalso; omega)
        | unfold an_judge
          try simp only [ti_0, ti_1]
          repeat (first | rw [if_pos (by first | omega | (simp; done) | (simp; omega))] | rw [if_neg (by first | omega | (simp; done) | (simp; omega))])
          all_goals rfl
      rw [e] at hk
      exact hk _ _
    · try dsimp only at c4
      try simp only [kb_m12, kb_m5, kb_60, kb_100, ki_m1, ki_0] at c4
      refine hs dX9_judge_7 (hs dX9_judge_8 (And.intro (rfl) (And.intro rfl ?_)))
      try simp only [kb_m12, kb_m5, kb_60, kb_100, ki_m1, ki_0, b2_0, b2_1, lg_cmp_lt, lg_cmp_gt, lg_cmp_le, lg_cmp_ge, lg_cmp_eq] at c4
      try simp only [Int32.lt_iff_toInt_lt, Int32.le_iff_toInt_le, ← Int32.toInt_inj, ti_m12, ti_m5, ti_m1, ti_0, ti_60, ti_100, Int64.lt_iff_toInt_lt, Int64.le_iff_toInt_le, Int32.toInt_toInt64, tj_0, tj_1, lg_cmp_lt, lg_cmp_gt, lg_cmp_le, lg_cmp_ge, lg_cmp_eq] at c4
      have e : an_judge a b = (-1) := by
        first
        | (exfalso; omega)
        | unfold an_judge
          try simp only [ti_0, ti_1]
          repeat (first | rw [if_pos (by first | omega | (simp; done) | (simp; omega))] | rw [if_neg (by first | omega | (simp; done) | (simp; omega))])
          all_goals rfl
      rw [e] at hk
      exact hk _ _
  · exact h.elim
theorem ct_X9_judge {E : Ev} {l : Launch} : CT E l yX9_judge (wsY yX9_judge cX9_judge 4 (some .int)) rm_X9_judge 0 sp_X9_judge := ct_of (T := T_X9_judge) (own := RX9) (by decide) rfl (fun ci h10 hc => by have h2 : (99 : Nat) = ci := Nat.eq_of_beq_eq_true hc; omega) ⟨rfl, rfl⟩ ⟨fok_X9, clok_X9, jok_X9, List.forall_mem_cons.mpr ⟨cok_S ct_X9_isTape ((cl_ins (c := 9) (by decide)).2) ml_X9_374 im_X9_isTape co_X9_isTape mo_X9_isTape (by decide), List.forall_mem_cons.mpr ⟨cok_V ct_X9_findAll (by decide) rfl ml_X9_289 im_X9_findAll se_X9_findAll co_X9_findAll mo_X9_findAll (by decide), fun _ h => absurd h List.not_mem_nil⟩⟩⟩ bd_X9_judge
def sp_X9_shift : Spc := fun as N lg it rf K => match as with | [.ref 489, .int a, .int b, .int c, .int d, .int e] => (N = NT ∧ rf = RF0 ∧ Up lg it) ∧ ∀ lg' it', K (some (.int (an_shift a b c d e))) lg' it' rf | _ => False
def T_X9_shift : Tab := (FL_X9, CL_X9, JL_X9, [(374, 1, 1, 0, 0, sp_X9_isTape)], 99, (some .int))
def rm_X9_shift : Room := { frames := 2, cells := 0, slots := 0, locals := 45 }
set_option maxHeartbeats 16000000 in
set_option maxRecDepth 100000 in
theorem bd_X9_shift (as : List Value) (N : Nat) (lg : LGt) (it : ITt) (rf : RFt) (Q : Post) (h : sp_X9_shift as N lg it rf Q) : Bd T_X9_shift cX9_shift 7 0 as N lg it rf Q := by
  unfold sp_X9_shift at h
  split at h
  · rename_i a b c d e
    refine ⟨Nat.le_of_ble_eq_true rfl, fun P hs hw => ?_⟩
    obtain ⟨⟨rfl, rfl, hup⟩, hk⟩ := h
    refine hs dX9_shift_0 (hs dX9_shift_1 (And.intro (trivial) (n0 (hs dX9_shift_4 (And.intro (fun c4 => ?_) (fun c4 => ?_))))))
    · try dsimp only at c4
      try simp only [kb_m13, kb_m12, kb_m11, kb_60, ki_m1, ki_0] at c4
      refine hs dX9_shift_14 (hs dX9_shift_15 (And.intro (rfl) (And.intro rfl ?_)))
      try simp only [kb_m13, kb_m12, kb_m11, kb_60, ki_m1, ki_0, b2_0, b2_1] at c4
      try simp only [Int32.lt_iff_toInt_lt, Int32.le_iff_toInt_le, ← Int32.toInt_inj, ti_m13, ti_m12, ti_m11, ti_m1, ti_0, ti_60] at c4
      have e : an_shift a b c d e = (-1) := by
        first
        | (exfalso; omega)
        | unfold an_shift
          try simp only [ti_0, ti_1]
          repeat (first | rw [if_pos (by first | omega | (simp; done) | (simp; omega))] | rw [if_neg (by first | omega | (simp; done) | (simp; omega))])
          all_goals rfl
      rw [e] at hk
      exact hk _ _
    · try dsimp only at c4
      try simp only [kb_m13, kb_m12, kb_m11, kb_60, ki_m1, ki_0] at c4
      refine hs dX9_shift_7 (hs dX9_shift_8 (And.intro (trivial) (n0 (hs dX9_shift_11 (And.intro (fun c11 => ?_) (fun c11 => ?_))))))
      · try dsimp only at c11
        try simp only [kb_m13, kb_m12, kb_m11, kb_60, ki_m1, ki_0] at c11
        refine hs dX9_shift_16 (hs dX9_shift_17 (And.intro (ob_489) (gr (r_489_56) (hs dX9_shift_20 ?_))))
        obtain ⟨t, ht, ta⟩ := tpx (nb2 c4).1 (nb2 c4).2
        refine hs dX9_shift_21 (And.intro (ob_518) (And.intro (by rw [ta]; exact vin ln518 (nI_in (by omega) (by omega))) (gx (v := (-1)) (by rw [ta]; exact upt hup ht) (hs dX9_shift_22 (And.intro (fun c22 => ?_) (fun c22 => absurd (by decide) c22))))))
        refine hs dX9_shift_34 (hs dX9_shift_36 (And.intro (rfl) (And.intro rfl ?_)))
        try simp only [kb_m13, kb_m12, kb_m11, kb_60, ki_m1, ki_0, b2_0, b2_1] at c4 c11
        try simp only [Int32.lt_iff_toInt_lt, Int32.le_iff_toInt_le, ← Int32.toInt_inj, ti_m13, ti_m12, ti_m11, ti_m1, ti_0, ti_60] at c4 c11
        have e : an_shift a b c d e = (-11) := by
          first
          | (exfalso; omega)
          | unfold an_shift
            try simp only [ti_0, ti_1]
            repeat (first | rw [if_pos (by first | omega | (simp; done) | (simp; omega))] | rw [if_neg (by first | omega | (simp; done) | (simp; omega))])
            all_goals rfl
        rw [e] at hk
        exact hk _ _
      · try dsimp only at c11
        try simp only [kb_m13, kb_m12, kb_m11, kb_60, ki_m1, ki_0] at c11
        refine hs dX9_shift_14 (hs dX9_shift_15 (And.intro (rfl) (And.intro rfl ?_)))
        try simp only [kb_m13, kb_m12, kb_m11, kb_60, ki_m1, ki_0, b2_0, b2_1] at c4 c11
        try simp only [Int32.lt_iff_toInt_lt, Int32.le_iff_toInt_le, ← Int32.toInt_inj, ti_m13, ti_m12, ti_m11, ti_m1, ti_0, ti_60] at c4 c11
        have e : an_shift a b c d e = (-1) := by
          first
          | (exfalso; omega)
          | unfold an_shift
            try simp only [ti_0, ti_1]
            repeat (first | rw [if_pos (by first | omega | (simp; done) | (simp; omega))] | rw [if_neg (by first | omega | (simp; done) | (simp; omega))])
            all_goals rfl
        rw [e] at hk
        exact hk _ _
  · exact h.elim
theorem ct_X9_shift {E : Ev} {l : Launch} : CT E l yX9_shift (wsY yX9_shift cX9_shift 7 (some .int)) rm_X9_shift 0 sp_X9_shift := ct_of (T := T_X9_shift) (own := RX9) (by decide) rfl (fun ci h10 hc => by have h2 : (99 : Nat) = ci := Nat.eq_of_beq_eq_true hc; omega) ⟨rfl, rfl⟩ ⟨fok_X9, clok_X9, jok_X9, List.forall_mem_cons.mpr ⟨cok_S ct_X9_isTape ((cl_ins (c := 9) (by decide)).2) ml_X9_374 im_X9_isTape co_X9_isTape mo_X9_isTape (by decide), fun _ h => absurd h List.not_mem_nil⟩⟩ bd_X9_shift
def sp_X9_tape : Spc := fun as N lg it rf K => match as with | [.ref 489, .int a, .int b, .int c] => (N = NT ∧ rf = RF0 ∧ Up lg it) ∧ ∀ lg' it', K (some (.int (an_tape a b c))) lg' it' rf | _ => False
def T_X9_tape : Tab := (FL_X9, CL_X9, JL_X9, [(374, 1, 1, 0, 0, sp_X9_isTape), (266, 1, 3, 0, 0, sp_X9_isIn)], 99, (some .int))
def rm_X9_tape : Room := { frames := 2, cells := 0, slots := 0, locals := 45 }
set_option maxHeartbeats 16000000 in
set_option maxRecDepth 100000 in
theorem bd_X9_tape (as : List Value) (N : Nat) (lg : LGt) (it : ITt) (rf : RFt) (Q : Post) (h : sp_X9_tape as N lg it rf Q) : Bd T_X9_tape cX9_tape 5 0 as N lg it rf Q := by
  unfold sp_X9_tape at h
  split at h
  · rename_i a b c
    refine ⟨Nat.le_of_ble_eq_true rfl, fun P hs hw => ?_⟩
    obtain ⟨⟨rfl, rfl, hup⟩, hk⟩ := h
    have lp : ∀ (t : Nat) (ht : t < 6) (ta : a = nI t) (hq : ∀ (lg' : LGt) (it' : ITt), Q (some (.int 1)) lg' it' RF0) (k i : Nat) (lg1 : LGt) (it1 : ITt), i + k = 60 → P 72 [.ref 489, .int a, .int b, .int c, .int (nI i)] [] NT lg1 it1 RF0 := by
      intro t ht ta hq k
      induction k with
      | zero =>
        intro i lg1 it1 hi
        have hi : i = 60 := by omega
        subst hi
        refine hs dX9_tape_72 (hs dX9_tape_74 (hs dX9_tape_76 (And.intro (fun c76 => ?_) (fun c76 => absurd (by decide) c76))))
        refine hs dX9_tape_98 (hs dX9_tape_99 (And.intro (rfl) (And.intro rfl ?_)))
        exact hq _ _
      | succ k ih =>
        intro i lg1 it1 hi
        refine hs dX9_tape_72 (hs dX9_tape_74 (hs dX9_tape_76 (And.intro (fun c76 => absurd c76 (nI_ge (a := i) (b := 60) (by omega) (by omega))) (fun c76 => (hs dX9_tape_79 (hs dX9_tape_80 (And.intro (ob_489) (gr (r_489_58) (hs dX9_tape_83 (hs dX9_tape_85 (hs dX9_tape_86 (hs dX9_tape_87 (hs dX9_tape_89 (hs dX9_tape_90 (hs dX9_tape_91 (And.intro (ob_520) (And.intro (by rw [kb_60, nmul ta]; exact vin ln520 (nI_in (by omega) (by omega))) (hs dX9_tape_92 (hs dX9_tape_95 ?_)))))))))))))))))))
        have hs2 := fun (lg2 : LGt) (it2 : ITt) => ih (i + 1) lg2 it2 (by omega)
        simp only [nI_succ] at hs2
        exact hs2 _ _
    refine hs dX9_tape_0 (hs dX9_tape_1 (And.intro (trivial) (n0 (hs dX9_tape_4 (And.intro (fun c4 => ?_) (fun c4 => ?_))))))
    · try dsimp only at c4
      try simp only [kb_m14, kb_m2, kb_60, ki_m1, ki_0, ki_1, kl_0] at c4
      refine hs dX9_tape_9 (hs dX9_tape_10 (hs dX9_tape_11 (hs dX9_tape_14 (hs dX9_tape_17 (And.intro (trivial) (n0 (gx (v := (b2 ((-1) ≤ b.toInt ∧ b.toInt ≤ (4)))) (by simp only [kb_m14, kb_m2, kb_60, ki_m1, ki_0, ki_1, kl_0, kl_0, kl_1, Int32.toInt_toInt64, tm1, tj_m9223372036854775808, tj_m9, tj_m1, tj_0, tj_1, tj_2, tj_3, tj_4, tj_5, tj_9, tj_10, tj_19, tj_20, tj_48, tj_57, tj_99, tj_100, tj_127]) ?_ )))))))
      refine hs dX9_tape_20 (And.intro (fun c20 => ?_) (fun c20 => ?_))
      · try dsimp only at c20
        try simp only [kb_m14, kb_m2, kb_60, ki_m1, ki_0, ki_1, kl_0] at c20
        refine hs dX9_tape_33 (hs dX9_tape_35 (And.intro (rfl) (And.intro rfl ?_)))
        try simp only [kb_m14, kb_m2, kb_60, ki_m1, ki_0, ki_1, kl_0, b2_0, b2_1] at c4 c20
        try simp only [Int32.lt_iff_toInt_lt, Int32.le_iff_toInt_le, ← Int32.toInt_inj, ti_m14, ti_m2, ti_m1, ti_0, ti_1, ti_60] at c4 c20
        have e : an_tape a b c = (-2) := by
          first
          | (exfalso; omega)
          | unfold an_tape
            try simp only [ti_0, ti_1]
            repeat (first | rw [if_pos (by first | omega | (simp; done) | (simp; omega))] | rw [if_neg (by first | omega | (simp; done) | (simp; omega))])
            all_goals rfl
        rw [e] at hk
        exact hk _ _
      · try dsimp only at c20
        try simp only [kb_m14, kb_m2, kb_60, ki_m1, ki_0, ki_1, kl_0] at c20
        refine hs dX9_tape_23 (hs dX9_tape_24 (And.intro (fun c24 => ?_) (fun c24 => ?_)))
        · try dsimp only at c24
          try simp only [kb_m14, kb_m2, kb_60, ki_m1, ki_0, ki_1, kl_0] at c24
          refine hs dX9_tape_36 (hs dX9_tape_37 (And.intro (fun c37 => ?_) (fun c37 => ?_)))
          · try dsimp only at c37
            try simp only [kb_m14, kb_m2, kb_60, ki_m1, ki_0, ki_1, kl_0] at c37
            obtain ⟨t, ht, ta⟩ := tpx (nb2 c4).1 (nb2 c4).2
            refine hs dX9_tape_47 (hs dX9_tape_48 (And.intro (ob_489) (gr (r_489_56) (hs dX9_tape_51 (hs dX9_tape_52 (hs dX9_tape_53 (And.intro (ob_518) (And.intro (by rw [ta]; exact vin ln518 (nI_in (by omega) (by omega))) (hs dX9_tape_54 (hs dX9_tape_55 (And.intro (ob_489) (gr (r_489_57) (hs dX9_tape_58 (hs dX9_tape_59 (hs dX9_tape_60 (And.intro (fun c60 => ?_) (fun c60 => ?_)))))))))))))))))
            · try dsimp only at c60
              try simp only [kb_m14, kb_m2, kb_60, ki_m1, ki_0, ki_1, kl_0] at c60
              refine hs dX9_tape_67 (hs dX9_tape_68 (And.intro (ob_519) (And.intro (by rw [ta]; exact vin ln519 (nI_in (by omega) (by omega))) (hs dX9_tape_69 (hs dX9_tape_70 ?_)))))
              try simp only [kb_m14, kb_m2, kb_60, ki_m1, ki_0, ki_1, kl_0, b2_0, b2_1] at c4 c20 c24 c37 c60
              try simp only [Int32.lt_iff_toInt_lt, Int32.le_iff_toInt_le, ← Int32.toInt_inj, ti_m14, ti_m2, ti_m1, ti_0, ti_1, ti_60] at c4 c20 c24 c37 c60
              have e : an_tape a b c = 1 := by
                first
                | (exfalso; omega)
                | unfold an_tape
                  try simp only [ti_0, ti_1]
                  repeat (first | rw [if_pos (by first | omega | (simp; done) | (simp; omega))] | rw [if_neg (by first | omega | (simp; done) | (simp; omega))])
                  all_goals rfl
              exact lp t ht ta (fun lg' it' => by have z := hk lg' it'; rw [e] at z; exact z) 60 0 _ _ rfl
            · try dsimp only at c60
              try simp only [kb_m14, kb_m2, kb_60, ki_m1, ki_0, ki_1, kl_0] at c60
              refine hs dX9_tape_63 (hs dX9_tape_64 (hs dX9_tape_68 (And.intro (ob_519) (And.intro (by rw [ta]; exact vin ln519 (nI_in (by omega) (by omega))) (hs dX9_tape_69 (hs dX9_tape_70 ?_))))))
              try simp only [kb_m14, kb_m2, kb_60, ki_m1, ki_0, ki_1, kl_0, b2_0, b2_1] at c4 c20 c24 c37 c60
              try simp only [Int32.lt_iff_toInt_lt, Int32.le_iff_toInt_le, ← Int32.toInt_inj, ti_m14, ti_m2, ti_m1, ti_0, ti_1, ti_60] at c4 c20 c24 c37 c60
              have e : an_tape a b c = 1 := by
                first
                | (exfalso; omega)
                | unfold an_tape
                  try simp only [ti_0, ti_1]
                  repeat (first | rw [if_pos (by first | omega | (simp; done) | (simp; omega))] | rw [if_neg (by first | omega | (simp; done) | (simp; omega))])
                  all_goals rfl
              exact lp t ht ta (fun lg' it' => by have z := hk lg' it'; rw [e] at z; exact z) 60 0 _ _ rfl
          · try dsimp only at c37
            try simp only [kb_m14, kb_m2, kb_60, ki_m1, ki_0, ki_1, kl_0] at c37
            refine hs dX9_tape_40 (hs dX9_tape_41 (And.intro (fun c41 => ?_) (fun c41 => ?_)))
            · try dsimp only at c41
              try simp only [kb_m14, kb_m2, kb_60, ki_m1, ki_0, ki_1, kl_0] at c41
              obtain ⟨t, ht, ta⟩ := tpx (nb2 c4).1 (nb2 c4).2
              refine hs dX9_tape_47 (hs dX9_tape_48 (And.intro (ob_489) (gr (r_489_56) (hs dX9_tape_51 (hs dX9_tape_52 (hs dX9_tape_53 (And.intro (ob_518) (And.intro (by rw [ta]; exact vin ln518 (nI_in (by omega) (by omega))) (hs dX9_tape_54 (hs dX9_tape_55 (And.intro (ob_489) (gr (r_489_57) (hs dX9_tape_58 (hs dX9_tape_59 (hs dX9_tape_60 (And.intro (fun c60 => ?_) (fun c60 => ?_)))))))))))))))))
              · try dsimp only at c60
                try simp only [kb_m14, kb_m2, kb_60, ki_m1, ki_0, ki_1, kl_0] at c60
                refine hs dX9_tape_67 (hs dX9_tape_68 (And.intro (ob_519) (And.intro (by rw [ta]; exact vin ln519 (nI_in (by omega) (by omega))) (hs dX9_tape_69 (hs dX9_tape_70 ?_)))))
                try simp only [kb_m14, kb_m2, kb_60, ki_m1, ki_0, ki_1, kl_0, b2_0, b2_1] at c4 c20 c24 c37 c41 c60
                try simp only [Int32.lt_iff_toInt_lt, Int32.le_iff_toInt_le, ← Int32.toInt_inj, ti_m14, ti_m2, ti_m1, ti_0, ti_1, ti_60] at c4 c20 c24 c37 c41 c60
                have e : an_tape a b c = 1 := by
                  first
                  | (exfalso; omega)
                  | unfold an_tape
                    try simp only [ti_0, ti_1]
                    repeat (first | rw [if_pos (by first | omega | (simp; done) | (simp; omega))] | rw [if_neg (by first | omega | (simp; done) | (simp; omega))])
                    all_goals rfl
                exact lp t ht ta (fun lg' it' => by have z := hk lg' it'; rw [e] at z; exact z) 60 0 _ _ rfl
              · try dsimp only at c60
                try simp only [kb_m14, kb_m2, kb_60, ki_m1, ki_0, ki_1, kl_0] at c60
                refine hs dX9_tape_63 (hs dX9_tape_64 (hs dX9_tape_68 (And.intro (ob_519) (And.intro (by rw [ta]; exact vin ln519 (nI_in (by omega) (by omega))) (hs dX9_tape_69 (hs dX9_tape_70 ?_))))))
                try simp only [kb_m14, kb_m2, kb_60, ki_m1, ki_0, ki_1, kl_0, b2_0, b2_1] at c4 c20 c24 c37 c41 c60
                try simp only [Int32.lt_iff_toInt_lt, Int32.le_iff_toInt_le, ← Int32.toInt_inj, ti_m14, ti_m2, ti_m1, ti_0, ti_1, ti_60] at c4 c20 c24 c37 c41 c60
                have e : an_tape a b c = 1 := by
                  first
                  | (exfalso; omega)
                  | unfold an_tape
                    try simp only [ti_0, ti_1]
                    repeat (first | rw [if_pos (by first | omega | (simp; done) | (simp; omega))] | rw [if_neg (by first | omega | (simp; done) | (simp; omega))])
                    all_goals rfl
                exact lp t ht ta (fun lg' it' => by have z := hk lg' it'; rw [e] at z; exact z) 60 0 _ _ rfl
            · try dsimp only at c41
              try simp only [kb_m14, kb_m2, kb_60, ki_m1, ki_0, ki_1, kl_0] at c41
              refine hs dX9_tape_44 (hs dX9_tape_46 (And.intro (rfl) (And.intro rfl ?_)))
              try simp only [kb_m14, kb_m2, kb_60, ki_m1, ki_0, ki_1, kl_0, b2_0, b2_1] at c4 c20 c24 c37 c41
              try simp only [Int32.lt_iff_toInt_lt, Int32.le_iff_toInt_le, ← Int32.toInt_inj, ti_m14, ti_m2, ti_m1, ti_0, ti_1, ti_60] at c4 c20 c24 c37 c41
              have e : an_tape a b c = (-14) := by
                first
                | (exfalso; omega)
                | unfold an_tape
                  try simp only [ti_0, ti_1]
                  repeat (first | rw [if_pos (by first | omega | (simp; done) | (simp; omega))] | rw [if_neg (by first | omega | (simp; done) | (simp; omega))])
                  all_goals rfl
              rw [e] at hk
              exact hk _ _
        · try dsimp only at c24
          try simp only [kb_m14, kb_m2, kb_60, ki_m1, ki_0, ki_1, kl_0] at c24
          refine hs dX9_tape_27 (hs dX9_tape_28 (hs dX9_tape_30 (And.intro (fun c30 => ?_) (fun c30 => ?_))))
          · try dsimp only at c30
            try simp only [kb_m14, kb_m2, kb_60, ki_m1, ki_0, ki_1, kl_0] at c30
            refine hs dX9_tape_36 (hs dX9_tape_37 (And.intro (fun c37 => ?_) (fun c37 => ?_)))
            · try dsimp only at c37
              try simp only [kb_m14, kb_m2, kb_60, ki_m1, ki_0, ki_1, kl_0] at c37
              obtain ⟨t, ht, ta⟩ := tpx (nb2 c4).1 (nb2 c4).2
              refine hs dX9_tape_47 (hs dX9_tape_48 (And.intro (ob_489) (gr (r_489_56) (hs dX9_tape_51 (hs dX9_tape_52 (hs dX9_tape_53 (And.intro (ob_518) (And.intro (by rw [ta]; exact vin ln518 (nI_in (by omega) (by omega))) (hs dX9_tape_54 (hs dX9_tape_55 (And.intro (ob_489) (gr (r_489_57) (hs dX9_tape_58 (hs dX9_tape_59 (hs dX9_tape_60 (And.intro (fun c60 => ?_) (fun c60 => ?_)))))))))))))))))
              · try dsimp only at c60
                try simp only [kb_m14, kb_m2, kb_60, ki_m1, ki_0, ki_1, kl_0] at c60
                refine hs dX9_tape_67 (hs dX9_tape_68 (And.intro (ob_519) (And.intro (by rw [ta]; exact vin ln519 (nI_in (by omega) (by omega))) (hs dX9_tape_69 (hs dX9_tape_70 ?_)))))
                try simp only [kb_m14, kb_m2, kb_60, ki_m1, ki_0, ki_1, kl_0, b2_0, b2_1] at c4 c20 c24 c30 c37 c60
                try simp only [Int32.lt_iff_toInt_lt, Int32.le_iff_toInt_le, ← Int32.toInt_inj, ti_m14, ti_m2, ti_m1, ti_0, ti_1, ti_60] at c4 c20 c24 c30 c37 c60
                have e : an_tape a b c = 1 := by
                  first
                  | (exfalso; omega)
                  | unfold an_tape
                    try simp only [ti_0, ti_1]
                    repeat (first | rw [if_pos (by first | omega | (simp; done) | (simp; omega))] | rw [if_neg (by first | omega | (simp; done) | (simp; omega))])
                    all_goals rfl
                exact lp t ht ta (fun lg' it' => by have z := hk lg' it'; rw [e] at z; exact z) 60 0 _ _ rfl
              · try dsimp only at c60
                try simp only [kb_m14, kb_m2, kb_60, ki_m1, ki_0, ki_1, kl_0] at c60
                refine hs dX9_tape_63 (hs dX9_tape_64 (hs dX9_tape_68 (And.intro (ob_519) (And.intro (by rw [ta]; exact vin ln519 (nI_in (by omega) (by omega))) (hs dX9_tape_69 (hs dX9_tape_70 ?_))))))
                try simp only [kb_m14, kb_m2, kb_60, ki_m1, ki_0, ki_1, kl_0, b2_0, b2_1] at c4 c20 c24 c30 c37 c60
                try simp only [Int32.lt_iff_toInt_lt, Int32.le_iff_toInt_le, ← Int32.toInt_inj, ti_m14, ti_m2, ti_m1, ti_0, ti_1, ti_60] at c4 c20 c24 c30 c37 c60
                have e : an_tape a b c = 1 := by
                  first
                  | (exfalso; omega)
                  | unfold an_tape
                    try simp only [ti_0, ti_1]
                    repeat (first | rw [if_pos (by first | omega | (simp; done) | (simp; omega))] | rw [if_neg (by first | omega | (simp; done) | (simp; omega))])
                    all_goals rfl
                exact lp t ht ta (fun lg' it' => by have z := hk lg' it'; rw [e] at z; exact z) 60 0 _ _ rfl
            · try dsimp only at c37
              try simp only [kb_m14, kb_m2, kb_60, ki_m1, ki_0, ki_1, kl_0] at c37
              refine hs dX9_tape_40 (hs dX9_tape_41 (And.intro (fun c41 => ?_) (fun c41 => ?_)))
              · try dsimp only at c41
                try simp only [kb_m14, kb_m2, kb_60, ki_m1, ki_0, ki_1, kl_0] at c41
                obtain ⟨t, ht, ta⟩ := tpx (nb2 c4).1 (nb2 c4).2
                refine hs dX9_tape_47 (hs dX9_tape_48 (And.intro (ob_489) (gr (r_489_56) (hs dX9_tape_51 (hs dX9_tape_52 (hs dX9_tape_53 (And.intro (ob_518) (And.intro (by rw [ta]; exact vin ln518 (nI_in (by omega) (by omega))) (hs dX9_tape_54 (hs dX9_tape_55 (And.intro (ob_489) (gr (r_489_57) (hs dX9_tape_58 (hs dX9_tape_59 (hs dX9_tape_60 (And.intro (fun c60 => ?_) (fun c60 => ?_)))))))))))))))))
                · try dsimp only at c60
                  try simp only [kb_m14, kb_m2, kb_60, ki_m1, ki_0, ki_1, kl_0] at c60
                  refine hs dX9_tape_67 (hs dX9_tape_68 (And.intro (ob_519) (And.intro (by rw [ta]; exact vin ln519 (nI_in (by omega) (by omega))) (hs dX9_tape_69 (hs dX9_tape_70 ?_)))))
                  try simp only [kb_m14, kb_m2, kb_60, ki_m1, ki_0, ki_1, kl_0, b2_0, b2_1] at c4 c20 c24 c30 c37 c41 c60
                  try simp only [Int32.lt_iff_toInt_lt, Int32.le_iff_toInt_le, ← Int32.toInt_inj, ti_m14, ti_m2, ti_m1, ti_0, ti_1, ti_60] at c4 c20 c24 c30 c37 c41 c60
                  have e : an_tape a b c = 1 := by
                    first
                    | (exfalso; omega)
                    | unfold an_tape
                      try simp only [ti_0, ti_1]
                      repeat (first | rw [if_pos (by first | omega | (simp; done) | (simp; omega))] | rw [if_neg (by first | omega | (simp; done) | (simp; omega))])
                      all_goals rfl
                  exact lp t ht ta (fun lg' it' => by have z := hk lg' it'; rw [e] at z; exact z) 60 0 _ _ rfl
                · try dsimp only at c60
                  try simp only [kb_m14, kb_m2, kb_60, ki_m1, ki_0, ki_1, kl_0] at c60
                  refine hs dX9_tape_63 (hs dX9_tape_64 (hs dX9_tape_68 (And.intro (ob_519) (And.intro (by rw [ta]; exact vin ln519 (nI_in (by omega) (by omega))) (hs dX9_tape_69 (hs dX9_tape_70 ?_))))))
                  try simp only [kb_m14, kb_m2, kb_60, ki_m1, ki_0, ki_1, kl_0, b2_0, b2_1] at c4 c20 c24 c30 c37 c41 c60
                  try simp only [Int32.lt_iff_toInt_lt, Int32.le_iff_toInt_le, ← Int32.toInt_inj, ti_m14, ti_m2, ti_m1, ti_0, ti_1, ti_60] at c4 c20 c24 c30 c37 c41 c60
                  have e : an_tape a b c = 1 := by
                    first
                    | (exfalso; omega)
                    | unfold an_tape
                      try simp only [ti_0, ti_1]
                      repeat (first | rw [if_pos (by first | omega | (simp; done) | (simp; omega))] | rw [if_neg (by first | omega | (simp; done) | (simp; omega))])
                      all_goals rfl
                  exact lp t ht ta (fun lg' it' => by have z := hk lg' it'; rw [e] at z; exact z) 60 0 _ _ rfl
              · try dsimp only at c41
                try simp only [kb_m14, kb_m2, kb_60, ki_m1, ki_0, ki_1, kl_0] at c41
                refine hs dX9_tape_44 (hs dX9_tape_46 (And.intro (rfl) (And.intro rfl ?_)))
                try simp only [kb_m14, kb_m2, kb_60, ki_m1, ki_0, ki_1, kl_0, b2_0, b2_1] at c4 c20 c24 c30 c37 c41
                try simp only [Int32.lt_iff_toInt_lt, Int32.le_iff_toInt_le, ← Int32.toInt_inj, ti_m14, ti_m2, ti_m1, ti_0, ti_1, ti_60] at c4 c20 c24 c30 c37 c41
                have e : an_tape a b c = (-14) := by
                  first
                  | (exfalso; omega)
                  | unfold an_tape
                    try simp only [ti_0, ti_1]
                    repeat (first | rw [if_pos (by first | omega | (simp; done) | (simp; omega))] | rw [if_neg (by first | omega | (simp; done) | (simp; omega))])
                    all_goals rfl
                rw [e] at hk
                exact hk _ _
          · try dsimp only at c30
            try simp only [kb_m14, kb_m2, kb_60, ki_m1, ki_0, ki_1, kl_0] at c30
            refine hs dX9_tape_33 (hs dX9_tape_35 (And.intro (rfl) (And.intro rfl ?_)))
            try simp only [kb_m14, kb_m2, kb_60, ki_m1, ki_0, ki_1, kl_0, b2_0, b2_1] at c4 c20 c24 c30
            try simp only [Int32.lt_iff_toInt_lt, Int32.le_iff_toInt_le, ← Int32.toInt_inj, ti_m14, ti_m2, ti_m1, ti_0, ti_1, ti_60] at c4 c20 c24 c30
            have e : an_tape a b c = (-2) := by
              first
              | (exfalso; omega)
              | unfold an_tape
                try simp only [ti_0, ti_1]
                repeat (first | rw [if_pos (by first | omega | (simp; done) | (simp; omega))] | rw [if_neg (by first | omega | (simp; done) | (simp; omega))])
                all_goals rfl
            rw [e] at hk
            exact hk _ _
    · try dsimp only at c4
      try simp only [kb_m14, kb_m2, kb_60, ki_m1, ki_0, ki_1, kl_0] at c4
      refine hs dX9_tape_7 (hs dX9_tape_8 (And.intro (rfl) (And.intro rfl ?_)))
      try simp only [kb_m14, kb_m2, kb_60, ki_m1, ki_0, ki_1, kl_0, b2_0, b2_1] at c4
      try simp only [Int32.lt_iff_toInt_lt, Int32.le_iff_toInt_le, ← Int32.toInt_inj, ti_m14, ti_m2, ti_m1, ti_0, ti_1, ti_60] at c4
      have e : an_tape a b c = (-1) := by
        first
        | (exfalso; omega)
        | unfold an_tape
          try simp only [ti_0, ti_1]
          repeat (first | rw [if_pos (by first | omega | (simp; done) | (simp; omega))] | rw [if_neg (by first | omega | (simp; done) | (simp; omega))])
          all_goals rfl
      rw [e] at hk
      exact hk _ _
  · exact h.elim
theorem ct_X9_tape {E : Ev} {l : Launch} : CT E l yX9_tape (wsY yX9_tape cX9_tape 5 (some .int)) rm_X9_tape 0 sp_X9_tape := ct_of (T := T_X9_tape) (own := RX9) (by decide) rfl (fun ci h10 hc => by have h2 : (99 : Nat) = ci := Nat.eq_of_beq_eq_true hc; omega) ⟨rfl, rfl⟩ ⟨fok_X9, clok_X9, jok_X9, List.forall_mem_cons.mpr ⟨cok_S ct_X9_isTape ((cl_ins (c := 9) (by decide)).2) ml_X9_374 im_X9_isTape co_X9_isTape mo_X9_isTape (by decide), List.forall_mem_cons.mpr ⟨cok_S ct_X9_isIn ((cl_ins (c := 9) (by decide)).2) ml_X9_266 im_X9_isIn co_X9_isIn mo_X9_isIn (by decide), fun _ h => absurd h List.not_mem_nil⟩⟩⟩ bd_X9_tape
def sp_X9_odds : Spc := fun as N lg it rf K => match as with | [.ref 489, .int a, .int b] => (N = NT ∧ rf = RF0 ∧ Up lg it) ∧ ∀ lg' it', K (some (.long (an_odds a b))) lg' it' rf | _ => False
def T_X9_odds : Tab := (FL_X9, CL_X9, JL_X9, [(266, 1, 3, 0, 0, sp_X9_isIn), (329, 1, 1, 0, 0, sp_X9_isPart), (260, 0, 1, 9, 0, sp_X9_minds), (263, 0, 2, 9, 0, sp_X9_goesOn), (360, 1, 2, 0, 0, sp_X9_common)], 99, (some .long))
def rm_X9_odds : Room := { frames := 2, cells := 0, slots := 0, locals := 47 }
set_option maxHeartbeats 16000000 in
set_option maxRecDepth 100000 in
theorem bd_X9_odds (as : List Value) (N : Nat) (lg : LGt) (it : ITt) (rf : RFt) (Q : Post) (h : sp_X9_odds as N lg it rf Q) : Bd T_X9_odds cX9_odds 5 0 as N lg it rf Q := by
  unfold sp_X9_odds at h
  split at h
  · rename_i a b
    refine ⟨Nat.le_of_ble_eq_true rfl, fun P hs hw => ?_⟩
    obtain ⟨⟨rfl, rfl, hup⟩, hk⟩ := h
    have lz : ∀ (hq0 : b = 0 → ∀ (lg' : LGt) (it' : ITt), Q (some (.long 1)) lg' it' RF0) (hq1 : ¬ b = 0 → ∀ (lg' : LGt) (it' : ITt), Q (some (.long 1)) lg' it' RF0) (k i : Nat) (lg1 : LGt) (it1 : ITt), i + k = 5 → it1 489 0 = 0 → P 28 [.ref 489, .int 0, .int b, .int (nI i), .int (nI i)] [] NT lg1 it1 RF0 := by
      intro hq0 hq1 k
      induction k with
      | zero =>
        intro i lg1 it1 hi h0
        have hi : i = 5 := by omega
        subst hi
        rw [show nI 5 = 5 from by decide]
        refine hs dX9_odds_28 (hs dX9_odds_30 (hs dX9_odds_31 (And.intro (fun c31 => ?_) (fun c31 => absurd (by decide) c31))))
        refine hs dX9_odds_72 (hs dX9_odds_73 (And.intro (fun c73 => ?_) (fun c73 => ?_)))
        · try dsimp only at c73
          try simp only [kb_20, ki_0, ki_1, ki_4, kl_0] at c73
          refine hs dX9_odds_81 (hs dX9_odds_84 (hs dX9_odds_85 (hs dX9_odds_86 (hs dX9_odds_89 (And.intro (trivial) (And.intro ⟨Or.inl (by decide), by first | rfl | decide⟩ (n0 (hs dX9_odds_92 (And.intro (by decide) (gxl (v := 1) (by decide +kernel) (hs dX9_odds_93 (And.intro (rfl) (And.intro rfl ?_)))))))))))))
          first | exact hq1 c73 _ _ | exact hq0 c73 _ _
        · try dsimp only at c73
          try simp only [kb_20, ki_0, ki_1, ki_4, kl_0] at c73
          refine hs dX9_odds_76 (hs dX9_odds_77 (hs dX9_odds_78 (hs dX9_odds_84 (hs dX9_odds_85 (hs dX9_odds_86 (hs dX9_odds_89 (And.intro (trivial) (And.intro ⟨Or.inl (by decide), by first | rfl | decide⟩ (n0 (hs dX9_odds_92 (And.intro (by decide) (gxl (v := 1) (by decide +kernel) (hs dX9_odds_93 (And.intro (rfl) (And.intro rfl ?_)))))))))))))))
          first | exact hq1 c73 _ _ | exact hq0 c73 _ _
      | succ k ih =>
        intro i lg1 it1 hi h0
        refine hs dX9_odds_28 (hs dX9_odds_30 (hs dX9_odds_31 (And.intro (fun c31 => absurd c31 (show ¬ nI 4 < nI i by rw [Int32.lt_iff_toInt_lt, nI_toInt (by omega), nI_toInt (by omega)]; omega)) (fun c31 => (hs dX9_odds_34 (hs dX9_odds_35 (And.intro (ob_489) (And.intro ⟨rfl, rfl⟩ (fun lg86 it86 hR86 => n0 ?_ )))))))))
        have f86_it_489_0 : it86 489 0 = 0 := (hR86 0 (by decide)).trans (by simp [u2, sL, sI, mx, zr, h0])
        refine hs dX9_odds_38 (hs dX9_odds_39 (hs dX9_odds_41 (And.intro (ob_489) (hs dX9_odds_44 (hs dX9_odds_45 (hs dX9_odds_47 (And.intro (ob_489) (And.intro ⟨rfl, rfl, by simp [u2, sL, sI, mx, zr, f86_it_489_0], by first | rfl | decide⟩ (fun lg87 it87 hR87 hS87 hE87 hO87 => n0 ?_ )))))))))
        have f87_it_489_0 : it87 489 0 = 0 := (hR87 0 (by decide)).trans (by simp [u2, sL, sI, mx, zr, f86_it_489_0])
        refine hs dX9_odds_50 (hs dX9_odds_51 (hs dX9_odds_52 (And.intro (ob_489) (gx (v := 0) (by simp [u2, sL, sI, mx, zr, hS87]) (hs dX9_odds_55 (hs dX9_odds_56 (And.intro (fun c56 => absurd c56 (by decide)) (fun c56 => (hs dX9_odds_59 (hs dX9_odds_60 (hs dX9_odds_64 (hs dX9_odds_65 (hs dX9_odds_66 (hs dX9_odds_69 ?_))))))))))))))
        have hs2 := ih (i + 1) lg87 it87 (by omega) f87_it_489_0
        rw [nI_succ] at hs2
        exact hs2
    by_cases hz : a = 0
    · subst hz
      refine hs dX9_odds_0 (hs dX9_odds_1 (hs dX9_odds_2 (hs dX9_odds_3 (hs dX9_odds_6 (And.intro (trivial) (n0 (gx (v := 1) (by decide) ?_ )))))))
      refine hs dX9_odds_9 (And.intro (fun c9 => absurd c9 (by decide)) (fun c9 => (hs dX9_odds_12 (hs dX9_odds_13 (And.intro (trivial) (n0 (hs dX9_odds_16 (And.intro (fun c16 => ?_) (fun c16 => ?_)))))))))
      · try dsimp only at c16
        try simp only [kb_20, ki_0, ki_1, ki_4, kl_0] at c16
        refine hs dX9_odds_23 (hs dX9_odds_24 (hs dX9_odds_25 (hs dX9_odds_26 ?_)))
        try simp only [kb_20, ki_0, ki_1, ki_4, kl_0, b2_0, b2_1] at c16
        try simp only [Int32.lt_iff_toInt_lt, Int32.le_iff_toInt_le, ← Int32.toInt_inj, ti_0, ti_1, ti_4, ti_20] at c16
        have e : an_odds 0 b = (if b = 0 then 1 else 1) := by
          unfold an_odds
          try simp only [ti_0]
          rw [if_pos (by first | omega | (simp <;> omega))]
          by_cases g : b = 0
          · rw [if_pos g, if_pos (by rw [g, ti_0])]
            all_goals first | rfl | rw [if_pos (by omega)] | rw [if_neg (by omega)] | simp
          · rw [if_neg g, if_neg (fun q => g (Int32.toInt_inj.mp (by rw [ti_0]; exact q)))]
        exact lz (fun q lg' it' => by have z := hk lg' it'; rw [e, if_pos q] at z; exact z) (fun q lg' it' => by have z := hk lg' it'; rw [e, if_neg q] at z; exact z) 5 0 _ _ rfl (upi hup (by decide) (by decide) vit_489_0)
      · try dsimp only at c16
        try simp only [kb_20, ki_0, ki_1, ki_4, kl_0] at c16
        refine hs dX9_odds_19 (hs dX9_odds_22 (And.intro (rfl) (And.intro rfl ?_)))
        try simp only [kb_20, ki_0, ki_1, ki_4, kl_0, b2_0, b2_1] at c16
        try simp only [Int32.lt_iff_toInt_lt, Int32.le_iff_toInt_le, ← Int32.toInt_inj, ti_0, ti_1, ti_4, ti_20] at c16
        have e : an_odds 0 b = (-9223372036854775808) := by
          first
          | (exfalso; omega)
          | unfold an_odds
            try simp only [ti_0, ti_1]
            repeat (first | rw [if_pos (by first | omega | (simp; done) | (simp; omega))] | rw [if_neg (by first | omega | (simp; done) | (simp; omega))])
            all_goals rfl
        rw [e] at hk
        exact hk _ _
    · have hzi : ¬ a.toInt = 0 := fun q => hz (Int32.toInt_inj.mp q)
      by_cases hn : 0 ≤ a.toInt ∧ a.toInt ≤ 20
      · skip
        have ln : ∀ (hq0 : b = 0 → ∀ (lg' : LGt) (it' : ITt), Q (some (.long 0)) lg' it' RF0) (hq1 : ¬ b = 0 → ∀ (lg' : LGt) (it' : ITt), Q (some (.long 1)) lg' it' RF0) (k i : Nat) (lg1 : LGt) (it1 : ITt), i + k = 5 → it1 489 0 = 0 → P 28 [.ref 489, .int a, .int b, .int 0, .int (nI i)] [] NT lg1 it1 RF0 := by
          intro hq0 hq1 k
          induction k with
          | zero =>
            intro i lg1 it1 hi h0
            have hi : i = 5 := by omega
            subst hi
            rw [show nI 5 = 5 from by decide]
            refine hs dX9_odds_28 (hs dX9_odds_30 (hs dX9_odds_31 (And.intro (fun c31 => ?_) (fun c31 => absurd (by decide) c31))))
            refine hs dX9_odds_72 (hs dX9_odds_73 (And.intro (fun c73 => ?_) (fun c73 => ?_)))
            · try dsimp only at c73
              try simp only [kb_20, ki_0, ki_1, ki_4, kl_0] at c73
              refine hs dX9_odds_81 (hs dX9_odds_84 (hs dX9_odds_85 (hs dX9_odds_86 (hs dX9_odds_89 (And.intro (trivial) (And.intro ⟨Or.inr (by decide), by first | rfl | decide⟩ (n0 (hs dX9_odds_92 (And.intro (by decide) (gxl (v := 1) (by decide +kernel) (hs dX9_odds_93 (And.intro (rfl) (And.intro rfl ?_)))))))))))))
              first | exact hq1 c73 _ _ | exact hq0 c73 _ _
            · try dsimp only at c73
              try simp only [kb_20, ki_0, ki_1, ki_4, kl_0] at c73
              refine hs dX9_odds_76 (hs dX9_odds_77 (hs dX9_odds_78 (hs dX9_odds_84 (hs dX9_odds_85 (hs dX9_odds_86 (hs dX9_odds_89 (And.intro (trivial) (And.intro ⟨Or.inr (by decide), by first | rfl | decide⟩ (n0 (hs dX9_odds_92 (And.intro (by decide) (gxl (v := 0) (by decide +kernel) (hs dX9_odds_93 (And.intro (rfl) (And.intro rfl ?_)))))))))))))))
              first | exact hq1 c73 _ _ | exact hq0 c73 _ _
          | succ k ih =>
            intro i lg1 it1 hi h0
            refine hs dX9_odds_28 (hs dX9_odds_30 (hs dX9_odds_31 (And.intro (fun c31 => absurd c31 (show ¬ nI 4 < nI i by rw [Int32.lt_iff_toInt_lt, nI_toInt (by omega), nI_toInt (by omega)]; omega)) (fun c31 => (hs dX9_odds_34 (hs dX9_odds_35 (And.intro (ob_489) (And.intro ⟨rfl, rfl⟩ (fun lg88 it88 hR88 => n0 ?_ )))))))))
            have f88_it_489_0 : it88 489 0 = 0 := (hR88 0 (by decide)).trans (by simp [u2, sL, sI, mx, zr, h0])
            refine hs dX9_odds_38 (hs dX9_odds_39 (hs dX9_odds_41 (And.intro (ob_489) (hs dX9_odds_44 (hs dX9_odds_45 (hs dX9_odds_47 (And.intro (ob_489) (And.intro ⟨rfl, rfl, by simp [u2, sL, sI, mx, zr, f88_it_489_0], by first | rfl | decide⟩ (fun lg89 it89 hR89 hS89 hE89 hO89 => n0 ?_ )))))))))
            have f89_it_489_0 : it89 489 0 = 0 := (hR89 0 (by decide)).trans (by simp [u2, sL, sI, mx, zr, f88_it_489_0])
            refine hs dX9_odds_50 (hs dX9_odds_51 (hs dX9_odds_52 (And.intro (ob_489) (gx (v := 0) (by simp [u2, sL, sI, mx, zr, hS89]) (hs dX9_odds_55 (hs dX9_odds_56 (And.intro (fun c56 => ?_) (fun c56 => False.elim (by try simp only [ki_0, Int32.lt_iff_toInt_lt, ti_0] at c56; omega)))))))))
            refine hs dX9_odds_63 (hs dX9_odds_64 (hs dX9_odds_65 (hs dX9_odds_66 (hs dX9_odds_69 ?_))))
            have hs2 := ih (i + 1) lg89 it89 (by omega) f89_it_489_0
            rw [nI_succ] at hs2
            exact hs2
        refine hs dX9_odds_0 (hs dX9_odds_1 (hs dX9_odds_2 (hs dX9_odds_3 (hs dX9_odds_6 (And.intro (trivial) (n0 (gx (v := (b2 (0 ≤ a.toInt ∧ a.toInt ≤ (20)))) (by simp only [kb_20, ki_0, ki_1, ki_4, kl_0, kl_0, kl_1, Int32.toInt_toInt64, tm1, tj_m9223372036854775808, tj_m9, tj_m1, tj_0, tj_1, tj_2, tj_3, tj_4, tj_5, tj_9, tj_10, tj_19, tj_20, tj_48, tj_57, tj_99, tj_100, tj_127]) ?_ )))))))
        refine hs dX9_odds_9 (And.intro (fun c9 => ?_) (fun c9 => ?_))
        · try dsimp only at c9
          try simp only [kb_20, ki_0, ki_1, ki_4, kl_0] at c9
          refine hs dX9_odds_19 (hs dX9_odds_22 (And.intro (rfl) (And.intro rfl ?_)))
          try simp only [kb_20, ki_0, ki_1, ki_4, kl_0, b2_0, b2_1] at c9
          try simp only [Int32.lt_iff_toInt_lt, Int32.le_iff_toInt_le, ← Int32.toInt_inj, ti_0, ti_1, ti_4, ti_20] at c9
          have e : an_odds a b = (-9223372036854775808) := by
            first
            | (exfalso; omega)
            | unfold an_odds
              try simp only [ti_0, ti_1]
              repeat (first | rw [if_pos (by first | omega | (simp; done) | (simp; omega))] | rw [if_neg (by first | omega | (simp; done) | (simp; omega))])
              all_goals rfl
          rw [e] at hk
          exact hk _ _
        · try dsimp only at c9
          try simp only [kb_20, ki_0, ki_1, ki_4, kl_0] at c9
          refine hs dX9_odds_12 (hs dX9_odds_13 (And.intro (trivial) (n0 (hs dX9_odds_16 (And.intro (fun c16 => ?_) (fun c16 => ?_))))))
          · try dsimp only at c16
            try simp only [kb_20, ki_0, ki_1, ki_4, kl_0] at c16
            refine hs dX9_odds_23 (hs dX9_odds_24 (hs dX9_odds_25 (hs dX9_odds_26 ?_)))
            try simp only [kb_20, ki_0, ki_1, ki_4, kl_0, b2_0, b2_1] at c9 c16
            try simp only [Int32.lt_iff_toInt_lt, Int32.le_iff_toInt_le, ← Int32.toInt_inj, ti_0, ti_1, ti_4, ti_20] at c9 c16
            have e : an_odds a b = (if b = 0 then 0 else 1) := by
              unfold an_odds
              try simp only [ti_0]
              rw [if_pos (by first | omega | (simp <;> omega))]
              by_cases g : b = 0
              · rw [if_pos g, if_pos (by rw [g, ti_0])]
                all_goals first | rfl | rw [if_pos (by omega)] | rw [if_neg (by omega)] | simp
              · rw [if_neg g, if_neg (fun q => g (Int32.toInt_inj.mp (by rw [ti_0]; exact q)))]
            exact ln (fun q lg' it' => by have z := hk lg' it'; rw [e, if_pos q] at z; exact z) (fun q lg' it' => by have z := hk lg' it'; rw [e, if_neg q] at z; exact z) 5 0 _ _ rfl (upi hup (by decide) (by decide) vit_489_0)
          · try dsimp only at c16
            try simp only [kb_20, ki_0, ki_1, ki_4, kl_0] at c16
            refine hs dX9_odds_19 (hs dX9_odds_22 (And.intro (rfl) (And.intro rfl ?_)))
            try simp only [kb_20, ki_0, ki_1, ki_4, kl_0, b2_0, b2_1] at c9 c16
            try simp only [Int32.lt_iff_toInt_lt, Int32.le_iff_toInt_le, ← Int32.toInt_inj, ti_0, ti_1, ti_4, ti_20] at c9 c16
            have e : an_odds a b = (-9223372036854775808) := by
              first
              | (exfalso; omega)
              | unfold an_odds
                try simp only [ti_0, ti_1]
                repeat (first | rw [if_pos (by first | omega | (simp; done) | (simp; omega))] | rw [if_neg (by first | omega | (simp; done) | (simp; omega))])
                all_goals rfl
            rw [e] at hk
            exact hk _ _
      · skip
        refine hs dX9_odds_0 (hs dX9_odds_1 (hs dX9_odds_2 (hs dX9_odds_3 (hs dX9_odds_6 (And.intro (trivial) (n0 (gx (v := (b2 (0 ≤ a.toInt ∧ a.toInt ≤ (20)))) (by simp only [kb_20, ki_0, ki_1, ki_4, kl_0, kl_0, kl_1, Int32.toInt_toInt64, tm1, tj_m9223372036854775808, tj_m9, tj_m1, tj_0, tj_1, tj_2, tj_3, tj_4, tj_5, tj_9, tj_10, tj_19, tj_20, tj_48, tj_57, tj_99, tj_100, tj_127]) ?_ )))))))
        refine hs dX9_odds_9 (And.intro (fun c9 => ?_) (fun c9 => ?_))
        · try dsimp only at c9
          try simp only [kb_20, ki_0, ki_1, ki_4, kl_0] at c9
          refine hs dX9_odds_19 (hs dX9_odds_22 (And.intro (rfl) (And.intro rfl ?_)))
          try simp only [kb_20, ki_0, ki_1, ki_4, kl_0, b2_0, b2_1] at c9
          try simp only [Int32.lt_iff_toInt_lt, Int32.le_iff_toInt_le, ← Int32.toInt_inj, ti_0, ti_1, ti_4, ti_20] at c9
          have e : an_odds a b = (-9223372036854775808) := by
            first
            | (exfalso; omega)
            | unfold an_odds
              try simp only [ti_0, ti_1]
              repeat (first | rw [if_pos (by first | omega | (simp; done) | (simp; omega))] | rw [if_neg (by first | omega | (simp; done) | (simp; omega))])
              all_goals rfl
          rw [e] at hk
          exact hk _ _
        · try dsimp only at c9
          try simp only [kb_20, ki_0, ki_1, ki_4, kl_0] at c9
          refine hs dX9_odds_12 (hs dX9_odds_13 (And.intro (trivial) (n0 (hs dX9_odds_16 (And.intro (fun c16 => ?_) (fun c16 => ?_))))))
          · try dsimp only at c16
            try simp only [kb_20, ki_0, ki_1, ki_4, kl_0] at c16
            refine hs dX9_odds_23 (hs dX9_odds_24 (hs dX9_odds_25 (hs dX9_odds_26 ?_)))
            try simp only [kb_20, ki_0, ki_1, ki_4, kl_0, b2_0, b2_1] at c9 c16
            try simp only [Int32.lt_iff_toInt_lt, Int32.le_iff_toInt_le, ← Int32.toInt_inj, ti_0, ti_1, ti_4, ti_20] at c9 c16
            exfalso
            omega
          · try dsimp only at c16
            try simp only [kb_20, ki_0, ki_1, ki_4, kl_0] at c16
            refine hs dX9_odds_19 (hs dX9_odds_22 (And.intro (rfl) (And.intro rfl ?_)))
            try simp only [kb_20, ki_0, ki_1, ki_4, kl_0, b2_0, b2_1] at c9 c16
            try simp only [Int32.lt_iff_toInt_lt, Int32.le_iff_toInt_le, ← Int32.toInt_inj, ti_0, ti_1, ti_4, ti_20] at c9 c16
            have e : an_odds a b = (-9223372036854775808) := by
              first
              | (exfalso; omega)
              | unfold an_odds
                try simp only [ti_0, ti_1]
                repeat (first | rw [if_pos (by first | omega | (simp; done) | (simp; omega))] | rw [if_neg (by first | omega | (simp; done) | (simp; omega))])
                all_goals rfl
            rw [e] at hk
            exact hk _ _
  · exact h.elim
theorem ct_X9_odds {E : Ev} {l : Launch} : CT E l yX9_odds (wsY yX9_odds cX9_odds 5 (some .long)) rm_X9_odds 0 sp_X9_odds := ct_of (T := T_X9_odds) (own := RX9) (by decide) rfl (fun ci h10 hc => by have h2 : (99 : Nat) = ci := Nat.eq_of_beq_eq_true hc; omega) ⟨rfl, rfl⟩ ⟨fok_X9, clok_X9, jok_X9, List.forall_mem_cons.mpr ⟨cok_S ct_X9_isIn ((cl_ins (c := 9) (by decide)).2) ml_X9_266 im_X9_isIn co_X9_isIn mo_X9_isIn (by decide), List.forall_mem_cons.mpr ⟨cok_S ct_X9_isPart ((cl_ins (c := 9) (by decide)).2) ml_X9_329 im_X9_isPart co_X9_isPart mo_X9_isPart (by decide), List.forall_mem_cons.mpr ⟨cok_V ct_X9_minds (by decide) rfl ml_X9_260 im_X9_minds se_X9_minds co_X9_minds mo_X9_minds (by decide), List.forall_mem_cons.mpr ⟨cok_V ct_X9_goesOn (by decide) rfl ml_X9_263 im_X9_goesOn se_X9_goesOn co_X9_goesOn mo_X9_goesOn (by decide), List.forall_mem_cons.mpr ⟨cok_S ct_X9_common ((cl_ins (c := 9) (by decide)).2) ml_X9_360 im_X9_common co_X9_common mo_X9_common (by decide), fun _ h => absurd h List.not_mem_nil⟩⟩⟩⟩⟩⟩ bd_X9_odds
def sp_X9_carries : Spc := fun as N lg it rf K => match as with | [.ref 489, .ref q, .int n, .int a, .int z] => (N = NT ∧ rf = RF0 ∧ ((q = 490 ∧ n = 6 ∧ a = 7) ∨ (q = 495 ∧ n = 5 ∧ a = 37) ∨ (q = 496 ∧ n = 5 ∧ a = 42) ∨ (q = 497 ∧ n = 8 ∧ a = 47) ∨ (q = 498 ∧ n = 8 ∧ a = 55)) ∧ z = 0) ∧ ∀ lg', K (some (.int (a + n))) lg' it rf | _ => False
def T_X9_carries : Tab := (FL_X9, CL_X9, JL_X9, [], 99, (some .int))
def rm_X9_carries : Room := { frames := 0, cells := 0, slots := 0, locals := 0 }
set_option maxHeartbeats 16000000 in
set_option maxRecDepth 100000 in
theorem bd_X9_carries (as : List Value) (N : Nat) (lg : LGt) (it : ITt) (rf : RFt) (Q : Post) (h : sp_X9_carries as N lg it rf Q) : Bd T_X9_carries cX9_carries 6 0 as N lg it rf Q := by
  unfold sp_X9_carries at h
  split at h
  · rename_i q n a z
    refine ⟨Nat.le_of_ble_eq_true rfl, fun P hs hw => ?_⟩
    obtain ⟨⟨rfl, rfl, hp, rfl⟩, hk⟩ := h
    rcases hp with ⟨rfl, rfl, rfl⟩ | ⟨rfl, rfl, rfl⟩ | ⟨rfl, rfl, rfl⟩ | ⟨rfl, rfl, rfl⟩ | ⟨rfl, rfl, rfl⟩
    · skip
      refine hs dX9_carries_0 (hs dX9_carries_1 (hs dX9_carries_3 (hs dX9_carries_5 (hs dX9_carries_6 (And.intro (fun c6 => absurd c6 (by decide)) (fun c6 => (hs dX9_carries_9 (hs dX9_carries_11 (And.intro (fun c11 => ?_) (fun c11 => absurd (by decide) c11))))))))))
      refine hs dX9_carries_31 (hs dX9_carries_32 (And.intro (ob_489) (gr (r_489_60) (hs dX9_carries_35 (hs dX9_carries_36 (hs dX9_carries_38 (hs dX9_carries_39 (hs dX9_carries_40 (hs dX9_carries_42 (And.intro (ob_490) (And.intro (vin ln_490 (by decide)) (hs dX9_carries_43 (hs dX9_carries_44 (And.intro (ob_522) (And.intro (vin ln_522 (by decide)) (hs dX9_carries_45 (hs dX9_carries_48 (hs dX9_carries_3 (hs dX9_carries_5 (hs dX9_carries_6 (And.intro (fun c6 => absurd c6 (by decide)) (fun c6 => (hs dX9_carries_9 (hs dX9_carries_11 (And.intro (fun c11 => ?_) (fun c11 => absurd (by decide) c11))))))))))))))))))))))))))
      refine hs dX9_carries_31 (hs dX9_carries_32 (And.intro (ob_489) (gr (r_489_60) (hs dX9_carries_35 (hs dX9_carries_36 (hs dX9_carries_38 (hs dX9_carries_39 (hs dX9_carries_40 (hs dX9_carries_42 (And.intro (ob_490) (And.intro (vin ln_490 (by decide)) (hs dX9_carries_43 (hs dX9_carries_44 (And.intro (ob_522) (And.intro (vin ln_522 (by decide)) (hs dX9_carries_45 (hs dX9_carries_48 (hs dX9_carries_3 (hs dX9_carries_5 (hs dX9_carries_6 (And.intro (fun c6 => absurd c6 (by decide)) (fun c6 => (hs dX9_carries_9 (hs dX9_carries_11 (And.intro (fun c11 => ?_) (fun c11 => absurd (by decide) c11))))))))))))))))))))))))))
      refine hs dX9_carries_31 (hs dX9_carries_32 (And.intro (ob_489) (gr (r_489_60) (hs dX9_carries_35 (hs dX9_carries_36 (hs dX9_carries_38 (hs dX9_carries_39 (hs dX9_carries_40 (hs dX9_carries_42 (And.intro (ob_490) (And.intro (vin ln_490 (by decide)) (hs dX9_carries_43 (hs dX9_carries_44 (And.intro (ob_522) (And.intro (vin ln_522 (by decide)) (hs dX9_carries_45 (hs dX9_carries_48 (hs dX9_carries_3 (hs dX9_carries_5 (hs dX9_carries_6 (And.intro (fun c6 => absurd c6 (by decide)) (fun c6 => (hs dX9_carries_9 (hs dX9_carries_11 (And.intro (fun c11 => ?_) (fun c11 => absurd (by decide) c11))))))))))))))))))))))))))
      refine hs dX9_carries_31 (hs dX9_carries_32 (And.intro (ob_489) (gr (r_489_60) (hs dX9_carries_35 (hs dX9_carries_36 (hs dX9_carries_38 (hs dX9_carries_39 (hs dX9_carries_40 (hs dX9_carries_42 (And.intro (ob_490) (And.intro (vin ln_490 (by decide)) (hs dX9_carries_43 (hs dX9_carries_44 (And.intro (ob_522) (And.intro (vin ln_522 (by decide)) (hs dX9_carries_45 (hs dX9_carries_48 (hs dX9_carries_3 (hs dX9_carries_5 (hs dX9_carries_6 (And.intro (fun c6 => absurd c6 (by decide)) (fun c6 => (hs dX9_carries_9 (hs dX9_carries_11 (And.intro (fun c11 => ?_) (fun c11 => absurd (by decide) c11))))))))))))))))))))))))))
      refine hs dX9_carries_31 (hs dX9_carries_32 (And.intro (ob_489) (gr (r_489_60) (hs dX9_carries_35 (hs dX9_carries_36 (hs dX9_carries_38 (hs dX9_carries_39 (hs dX9_carries_40 (hs dX9_carries_42 (And.intro (ob_490) (And.intro (vin ln_490 (by decide)) (hs dX9_carries_43 (hs dX9_carries_44 (And.intro (ob_522) (And.intro (vin ln_522 (by decide)) (hs dX9_carries_45 (hs dX9_carries_48 (hs dX9_carries_3 (hs dX9_carries_5 (hs dX9_carries_6 (And.intro (fun c6 => absurd c6 (by decide)) (fun c6 => (hs dX9_carries_9 (hs dX9_carries_11 (And.intro (fun c11 => ?_) (fun c11 => absurd (by decide) c11))))))))))))))))))))))))))
      refine hs dX9_carries_31 (hs dX9_carries_32 (And.intro (ob_489) (gr (r_489_60) (hs dX9_carries_35 (hs dX9_carries_36 (hs dX9_carries_38 (hs dX9_carries_39 (hs dX9_carries_40 (hs dX9_carries_42 (And.intro (ob_490) (And.intro (vin ln_490 (by decide)) (hs dX9_carries_43 (hs dX9_carries_44 (And.intro (ob_522) (And.intro (vin ln_522 (by decide)) (hs dX9_carries_45 (hs dX9_carries_48 (hs dX9_carries_3 (hs dX9_carries_5 (hs dX9_carries_6 (And.intro (fun c6 => ?_) (fun c6 => absurd (by decide) c6))))))))))))))))))))))
      refine hs dX9_carries_51 (hs dX9_carries_52 (hs dX9_carries_53 (hs dX9_carries_54 (And.intro (rfl) (And.intro rfl ?_)))))
      exact hk _
    · skip
      refine hs dX9_carries_0 (hs dX9_carries_1 (hs dX9_carries_3 (hs dX9_carries_5 (hs dX9_carries_6 (And.intro (fun c6 => absurd c6 (by decide)) (fun c6 => (hs dX9_carries_9 (hs dX9_carries_11 (And.intro (fun c11 => ?_) (fun c11 => absurd (by decide) c11))))))))))
      refine hs dX9_carries_31 (hs dX9_carries_32 (And.intro (ob_489) (gr (r_489_60) (hs dX9_carries_35 (hs dX9_carries_36 (hs dX9_carries_38 (hs dX9_carries_39 (hs dX9_carries_40 (hs dX9_carries_42 (And.intro (ob_495) (And.intro (vin ln_495 (by decide)) (hs dX9_carries_43 (hs dX9_carries_44 (And.intro (ob_522) (And.intro (vin ln_522 (by decide)) (hs dX9_carries_45 (hs dX9_carries_48 (hs dX9_carries_3 (hs dX9_carries_5 (hs dX9_carries_6 (And.intro (fun c6 => absurd c6 (by decide)) (fun c6 => (hs dX9_carries_9 (hs dX9_carries_11 (And.intro (fun c11 => ?_) (fun c11 => absurd (by decide) c11))))))))))))))))))))))))))
      refine hs dX9_carries_31 (hs dX9_carries_32 (And.intro (ob_489) (gr (r_489_60) (hs dX9_carries_35 (hs dX9_carries_36 (hs dX9_carries_38 (hs dX9_carries_39 (hs dX9_carries_40 (hs dX9_carries_42 (And.intro (ob_495) (And.intro (vin ln_495 (by decide)) (hs dX9_carries_43 (hs dX9_carries_44 (And.intro (ob_522) (And.intro (vin ln_522 (by decide)) (hs dX9_carries_45 (hs dX9_carries_48 (hs dX9_carries_3 (hs dX9_carries_5 (hs dX9_carries_6 (And.intro (fun c6 => absurd c6 (by decide)) (fun c6 => (hs dX9_carries_9 (hs dX9_carries_11 (And.intro (fun c11 => ?_) (fun c11 => absurd (by decide) c11))))))))))))))))))))))))))
      refine hs dX9_carries_31 (hs dX9_carries_32 (And.intro (ob_489) (gr (r_489_60) (hs dX9_carries_35 (hs dX9_carries_36 (hs dX9_carries_38 (hs dX9_carries_39 (hs dX9_carries_40 (hs dX9_carries_42 (And.intro (ob_495) (And.intro (vin ln_495 (by decide)) (hs dX9_carries_43 (hs dX9_carries_44 (And.intro (ob_522) (And.intro (vin ln_522 (by decide)) (hs dX9_carries_45 (hs dX9_carries_48 (hs dX9_carries_3 (hs dX9_carries_5 (hs dX9_carries_6 (And.intro (fun c6 => absurd c6 (by decide)) (fun c6 => (hs dX9_carries_9 (hs dX9_carries_11 (And.intro (fun c11 => ?_) (fun c11 => absurd (by decide) c11))))))))))))))))))))))))))
      refine hs dX9_carries_31 (hs dX9_carries_32 (And.intro (ob_489) (gr (r_489_60) (hs dX9_carries_35 (hs dX9_carries_36 (hs dX9_carries_38 (hs dX9_carries_39 (hs dX9_carries_40 (hs dX9_carries_42 (And.intro (ob_495) (And.intro (vin ln_495 (by decide)) (hs dX9_carries_43 (hs dX9_carries_44 (And.intro (ob_522) (And.intro (vin ln_522 (by decide)) (hs dX9_carries_45 (hs dX9_carries_48 (hs dX9_carries_3 (hs dX9_carries_5 (hs dX9_carries_6 (And.intro (fun c6 => absurd c6 (by decide)) (fun c6 => (hs dX9_carries_9 (hs dX9_carries_11 (And.intro (fun c11 => ?_) (fun c11 => absurd (by decide) c11))))))))))))))))))))))))))
      refine hs dX9_carries_31 (hs dX9_carries_32 (And.intro (ob_489) (gr (r_489_60) (hs dX9_carries_35 (hs dX9_carries_36 (hs dX9_carries_38 (hs dX9_carries_39 (hs dX9_carries_40 (hs dX9_carries_42 (And.intro (ob_495) (And.intro (vin ln_495 (by decide)) (hs dX9_carries_43 (hs dX9_carries_44 (And.intro (ob_522) (And.intro (vin ln_522 (by decide)) (hs dX9_carries_45 (hs dX9_carries_48 (hs dX9_carries_3 (hs dX9_carries_5 (hs dX9_carries_6 (And.intro (fun c6 => ?_) (fun c6 => absurd (by decide) c6))))))))))))))))))))))
      refine hs dX9_carries_51 (hs dX9_carries_52 (hs dX9_carries_53 (hs dX9_carries_54 (And.intro (rfl) (And.intro rfl ?_)))))
      exact hk _
    · skip
      refine hs dX9_carries_0 (hs dX9_carries_1 (hs dX9_carries_3 (hs dX9_carries_5 (hs dX9_carries_6 (And.intro (fun c6 => absurd c6 (by decide)) (fun c6 => (hs dX9_carries_9 (hs dX9_carries_11 (And.intro (fun c11 => ?_) (fun c11 => absurd (by decide) c11))))))))))
      refine hs dX9_carries_31 (hs dX9_carries_32 (And.intro (ob_489) (gr (r_489_60) (hs dX9_carries_35 (hs dX9_carries_36 (hs dX9_carries_38 (hs dX9_carries_39 (hs dX9_carries_40 (hs dX9_carries_42 (And.intro (ob_496) (And.intro (vin ln_496 (by decide)) (hs dX9_carries_43 (hs dX9_carries_44 (And.intro (ob_522) (And.intro (vin ln_522 (by decide)) (hs dX9_carries_45 (hs dX9_carries_48 (hs dX9_carries_3 (hs dX9_carries_5 (hs dX9_carries_6 (And.intro (fun c6 => absurd c6 (by decide)) (fun c6 => (hs dX9_carries_9 (hs dX9_carries_11 (And.intro (fun c11 => ?_) (fun c11 => absurd (by decide) c11))))))))))))))))))))))))))
      refine hs dX9_carries_31 (hs dX9_carries_32 (And.intro (ob_489) (gr (r_489_60) (hs dX9_carries_35 (hs dX9_carries_36 (hs dX9_carries_38 (hs dX9_carries_39 (hs dX9_carries_40 (hs dX9_carries_42 (And.intro (ob_496) (And.intro (vin ln_496 (by decide)) (hs dX9_carries_43 (hs dX9_carries_44 (And.intro (ob_522) (And.intro (vin ln_522 (by decide)) (hs dX9_carries_45 (hs dX9_carries_48 (hs dX9_carries_3 (hs dX9_carries_5 (hs dX9_carries_6 (And.intro (fun c6 => absurd c6 (by decide)) (fun c6 => (hs dX9_carries_9 (hs dX9_carries_11 (And.intro (fun c11 => ?_) (fun c11 => absurd (by decide) c11))))))))))))))))))))))))))
      refine hs dX9_carries_31 (hs dX9_carries_32 (And.intro (ob_489) (gr (r_489_60) (hs dX9_carries_35 (hs dX9_carries_36 (hs dX9_carries_38 (hs dX9_carries_39 (hs dX9_carries_40 (hs dX9_carries_42 (And.intro (ob_496) (And.intro (vin ln_496 (by decide)) (hs dX9_carries_43 (hs dX9_carries_44 (And.intro (ob_522) (And.intro (vin ln_522 (by decide)) (hs dX9_carries_45 (hs dX9_carries_48 (hs dX9_carries_3 (hs dX9_carries_5 (hs dX9_carries_6 (And.intro (fun c6 => absurd c6 (by decide)) (fun c6 => (hs dX9_carries_9 (hs dX9_carries_11 (And.intro (fun c11 => ?_) (fun c11 => absurd (by decide) c11))))))))))))))))))))))))))
      refine hs dX9_carries_31 (hs dX9_carries_32 (And.intro (ob_489) (gr (r_489_60) (hs dX9_carries_35 (hs dX9_carries_36 (hs dX9_carries_38 (hs dX9_carries_39 (hs dX9_carries_40 (hs dX9_carries_42 (And.intro (ob_496) (And.intro (vin ln_496 (by decide)) (hs dX9_carries_43 (hs dX9_carries_44 (And.intro (ob_522) (And.intro (vin ln_522 (by decide)) (hs dX9_carries_45 (hs dX9_carries_48 (hs dX9_carries_3 (hs dX9_carries_5 (hs dX9_carries_6 (And.intro (fun c6 => absurd c6 (by decide)) (fun c6 => (hs dX9_carries_9 (hs dX9_carries_11 (And.intro (fun c11 => ?_) (fun c11 => absurd (by decide) c11))))))))))))))))))))))))))
      refine hs dX9_carries_31 (hs dX9_carries_32 (And.intro (ob_489) (gr (r_489_60) (hs dX9_carries_35 (hs dX9_carries_36 (hs dX9_carries_38 (hs dX9_carries_39 (hs dX9_carries_40 (hs dX9_carries_42 (And.intro (ob_496) (And.intro (vin ln_496 (by decide)) (hs dX9_carries_43 (hs dX9_carries_44 (And.intro (ob_522) (And.intro (vin ln_522 (by decide)) (hs dX9_carries_45 (hs dX9_carries_48 (hs dX9_carries_3 (hs dX9_carries_5 (hs dX9_carries_6 (And.intro (fun c6 => ?_) (fun c6 => absurd (by decide) c6))))))))))))))))))))))
      refine hs dX9_carries_51 (hs dX9_carries_52 (hs dX9_carries_53 (hs dX9_carries_54 (And.intro (rfl) (And.intro rfl ?_)))))
      exact hk _
    · skip
      refine hs dX9_carries_0 (hs dX9_carries_1 (hs dX9_carries_3 (hs dX9_carries_5 (hs dX9_carries_6 (And.intro (fun c6 => absurd c6 (by decide)) (fun c6 => (hs dX9_carries_9 (hs dX9_carries_11 (And.intro (fun c11 => ?_) (fun c11 => absurd (by decide) c11))))))))))
      refine hs dX9_carries_31 (hs dX9_carries_32 (And.intro (ob_489) (gr (r_489_60) (hs dX9_carries_35 (hs dX9_carries_36 (hs dX9_carries_38 (hs dX9_carries_39 (hs dX9_carries_40 (hs dX9_carries_42 (And.intro (ob_497) (And.intro (vin ln_497 (by decide)) (hs dX9_carries_43 (hs dX9_carries_44 (And.intro (ob_522) (And.intro (vin ln_522 (by decide)) (hs dX9_carries_45 (hs dX9_carries_48 (hs dX9_carries_3 (hs dX9_carries_5 (hs dX9_carries_6 (And.intro (fun c6 => absurd c6 (by decide)) (fun c6 => (hs dX9_carries_9 (hs dX9_carries_11 (And.intro (fun c11 => ?_) (fun c11 => absurd (by decide) c11))))))))))))))))))))))))))
      refine hs dX9_carries_31 (hs dX9_carries_32 (And.intro (ob_489) (gr (r_489_60) (hs dX9_carries_35 (hs dX9_carries_36 (hs dX9_carries_38 (hs dX9_carries_39 (hs dX9_carries_40 (hs dX9_carries_42 (And.intro (ob_497) (And.intro (vin ln_497 (by decide)) (hs dX9_carries_43 (hs dX9_carries_44 (And.intro (ob_522) (And.intro (vin ln_522 (by decide)) (hs dX9_carries_45 (hs dX9_carries_48 (hs dX9_carries_3 (hs dX9_carries_5 (hs dX9_carries_6 (And.intro (fun c6 => absurd c6 (by decide)) (fun c6 => (hs dX9_carries_9 (hs dX9_carries_11 (And.intro (fun c11 => ?_) (fun c11 => absurd (by decide) c11))))))))))))))))))))))))))
      refine hs dX9_carries_31 (hs dX9_carries_32 (And.intro (ob_489) (gr (r_489_60) (hs dX9_carries_35 (hs dX9_carries_36 (hs dX9_carries_38 (hs dX9_carries_39 (hs dX9_carries_40 (hs dX9_carries_42 (And.intro (ob_497) (And.intro (vin ln_497 (by decide)) (hs dX9_carries_43 (hs dX9_carries_44 (And.intro (ob_522) (And.intro (vin ln_522 (by decide)) (hs dX9_carries_45 (hs dX9_carries_48 (hs dX9_carries_3 (hs dX9_carries_5 (hs dX9_carries_6 (And.intro (fun c6 => absurd c6 (by decide)) (fun c6 => (hs dX9_carries_9 (hs dX9_carries_11 (And.intro (fun c11 => ?_) (fun c11 => absurd (by decide) c11))))))))))))))))))))))))))
      refine hs dX9_carries_31 (hs dX9_carries_32 (And.intro (ob_489) (gr (r_489_60) (hs dX9_carries_35 (hs dX9_carries_36 (hs dX9_carries_38 (hs dX9_carries_39 (hs dX9_carries_40 (hs dX9_carries_42 (And.intro (ob_497) (And.intro (vin ln_497 (by decide)) (hs dX9_carries_43 (hs dX9_carries_44 (And.intro (ob_522) (And.intro (vin ln_522 (by decide)) (hs dX9_carries_45 (hs dX9_carries_48 (hs dX9_carries_3 (hs dX9_carries_5 (hs dX9_carries_6 (And.intro (fun c6 => absurd c6 (by decide)) (fun c6 => (hs dX9_carries_9 (hs dX9_carries_11 (And.intro (fun c11 => ?_) (fun c11 => absurd (by decide) c11))))))))))))))))))))))))))
      refine hs dX9_carries_31 (hs dX9_carries_32 (And.intro (ob_489) (gr (r_489_60) (hs dX9_carries_35 (hs dX9_carries_36 (hs dX9_carries_38 (hs dX9_carries_39 (hs dX9_carries_40 (hs dX9_carries_42 (And.intro (ob_497) (And.intro (vin ln_497 (by decide)) (hs dX9_carries_43 (hs dX9_carries_44 (And.intro (ob_522) (And.intro (vin ln_522 (by decide)) (hs dX9_carries_45 (hs dX9_carries_48 (hs dX9_carries_3 (hs dX9_carries_5 (hs dX9_carries_6 (And.intro (fun c6 => absurd c6 (by decide)) (fun c6 => (hs dX9_carries_9 (hs dX9_carries_11 (And.intro (fun c11 => ?_) (fun c11 => absurd (by decide) c11))))))))))))))))))))))))))
      refine hs dX9_carries_31 (hs dX9_carries_32 (And.intro (ob_489) (gr (r_489_60) (hs dX9_carries_35 (hs dX9_carries_36 (hs dX9_carries_38 (hs dX9_carries_39 (hs dX9_carries_40 (hs dX9_carries_42 (And.intro (ob_497) (And.intro (vin ln_497 (by decide)) (hs dX9_carries_43 (hs dX9_carries_44 (And.intro (ob_522) (And.intro (vin ln_522 (by decide)) (hs dX9_carries_45 (hs dX9_carries_48 (hs dX9_carries_3 (hs dX9_carries_5 (hs dX9_carries_6 (And.intro (fun c6 => absurd c6 (by decide)) (fun c6 => (hs dX9_carries_9 (hs dX9_carries_11 (And.intro (fun c11 => ?_) (fun c11 => absurd (by decide) c11))))))))))))))))))))))))))
      refine hs dX9_carries_31 (hs dX9_carries_32 (And.intro (ob_489) (gr (r_489_60) (hs dX9_carries_35 (hs dX9_carries_36 (hs dX9_carries_38 (hs dX9_carries_39 (hs dX9_carries_40 (hs dX9_carries_42 (And.intro (ob_497) (And.intro (vin ln_497 (by decide)) (hs dX9_carries_43 (hs dX9_carries_44 (And.intro (ob_522) (And.intro (vin ln_522 (by decide)) (hs dX9_carries_45 (hs dX9_carries_48 (hs dX9_carries_3 (hs dX9_carries_5 (hs dX9_carries_6 (And.intro (fun c6 => absurd c6 (by decide)) (fun c6 => (hs dX9_carries_9 (hs dX9_carries_11 (And.intro (fun c11 => ?_) (fun c11 => absurd (by decide) c11))))))))))))))))))))))))))
      refine hs dX9_carries_31 (hs dX9_carries_32 (And.intro (ob_489) (gr (r_489_60) (hs dX9_carries_35 (hs dX9_carries_36 (hs dX9_carries_38 (hs dX9_carries_39 (hs dX9_carries_40 (hs dX9_carries_42 (And.intro (ob_497) (And.intro (vin ln_497 (by decide)) (hs dX9_carries_43 (hs dX9_carries_44 (And.intro (ob_522) (And.intro (vin ln_522 (by decide)) (hs dX9_carries_45 (hs dX9_carries_48 (hs dX9_carries_3 (hs dX9_carries_5 (hs dX9_carries_6 (And.intro (fun c6 => ?_) (fun c6 => absurd (by decide) c6))))))))))))))))))))))
      refine hs dX9_carries_51 (hs dX9_carries_52 (hs dX9_carries_53 (hs dX9_carries_54 (And.intro (rfl) (And.intro rfl ?_)))))
      exact hk _
    · skip
      refine hs dX9_carries_0 (hs dX9_carries_1 (hs dX9_carries_3 (hs dX9_carries_5 (hs dX9_carries_6 (And.intro (fun c6 => absurd c6 (by decide)) (fun c6 => (hs dX9_carries_9 (hs dX9_carries_11 (And.intro (fun c11 => ?_) (fun c11 => absurd (by decide) c11))))))))))
      refine hs dX9_carries_31 (hs dX9_carries_32 (And.intro (ob_489) (gr (r_489_60) (hs dX9_carries_35 (hs dX9_carries_36 (hs dX9_carries_38 (hs dX9_carries_39 (hs dX9_carries_40 (hs dX9_carries_42 (And.intro (ob_498) (And.intro (vin ln_498 (by decide)) (hs dX9_carries_43 (hs dX9_carries_44 (And.intro (ob_522) (And.intro (vin ln_522 (by decide)) (hs dX9_carries_45 (hs dX9_carries_48 (hs dX9_carries_3 (hs dX9_carries_5 (hs dX9_carries_6 (And.intro (fun c6 => absurd c6 (by decide)) (fun c6 => (hs dX9_carries_9 (hs dX9_carries_11 (And.intro (fun c11 => ?_) (fun c11 => absurd (by decide) c11))))))))))))))))))))))))))
      refine hs dX9_carries_31 (hs dX9_carries_32 (And.intro (ob_489) (gr (r_489_60) (hs dX9_carries_35 (hs dX9_carries_36 (hs dX9_carries_38 (hs dX9_carries_39 (hs dX9_carries_40 (hs dX9_carries_42 (And.intro (ob_498) (And.intro (vin ln_498 (by decide)) (hs dX9_carries_43 (hs dX9_carries_44 (And.intro (ob_522) (And.intro (vin ln_522 (by decide)) (hs dX9_carries_45 (hs dX9_carries_48 (hs dX9_carries_3 (hs dX9_carries_5 (hs dX9_carries_6 (And.intro (fun c6 => absurd c6 (by decide)) (fun c6 => (hs dX9_carries_9 (hs dX9_carries_11 (And.intro (fun c11 => ?_) (fun c11 => absurd (by decide) c11))))))))))))))))))))))))))
      refine hs dX9_carries_31 (hs dX9_carries_32 (And.intro (ob_489) (gr (r_489_60) (hs dX9_carries_35 (hs dX9_carries_36 (hs dX9_carries_38 (hs dX9_carries_39 (hs dX9_carries_40 (hs dX9_carries_42 (And.intro (ob_498) (And.intro (vin ln_498 (by decide)) (hs dX9_carries_43 (hs dX9_carries_44 (And.intro (ob_522) (And.intro (vin ln_522 (by decide)) (hs dX9_carries_45 (hs dX9_carries_48 (hs dX9_carries_3 (hs dX9_carries_5 (hs dX9_carries_6 (And.intro (fun c6 => absurd c6 (by decide)) (fun c6 => (hs dX9_carries_9 (hs dX9_carries_11 (And.intro (fun c11 => ?_) (fun c11 => absurd (by decide) c11))))))))))))))))))))))))))
      refine hs dX9_carries_31 (hs dX9_carries_32 (And.intro (ob_489) (gr (r_489_60) (hs dX9_carries_35 (hs dX9_carries_36 (hs dX9_carries_38 (hs dX9_carries_39 (hs dX9_carries_40 (hs dX9_carries_42 (And.intro (ob_498) (And.intro (vin ln_498 (by decide)) (hs dX9_carries_43 (hs dX9_carries_44 (And.intro (ob_522) (And.intro (vin ln_522 (by decide)) (hs dX9_carries_45 (hs dX9_carries_48 (hs dX9_carries_3 (hs dX9_carries_5 (hs dX9_carries_6 (And.intro (fun c6 => absurd c6 (by decide)) (fun c6 => (hs dX9_carries_9 (hs dX9_carries_11 (And.intro (fun c11 => ?_) (fun c11 => absurd (by decide) c11))))))))))))))))))))))))))
      refine hs dX9_carries_31 (hs dX9_carries_32 (And.intro (ob_489) (gr (r_489_60) (hs dX9_carries_35 (hs dX9_carries_36 (hs dX9_carries_38 (hs dX9_carries_39 (hs dX9_carries_40 (hs dX9_carries_42 (And.intro (ob_498) (And.intro (vin ln_498 (by decide)) (hs dX9_carries_43 (hs dX9_carries_44 (And.intro (ob_522) (And.intro (vin ln_522 (by decide)) (hs dX9_carries_45 (hs dX9_carries_48 (hs dX9_carries_3 (hs dX9_carries_5 (hs dX9_carries_6 (And.intro (fun c6 => absurd c6 (by decide)) (fun c6 => (hs dX9_carries_9 (hs dX9_carries_11 (And.intro (fun c11 => ?_) (fun c11 => absurd (by decide) c11))))))))))))))))))))))))))
      refine hs dX9_carries_31 (hs dX9_carries_32 (And.intro (ob_489) (gr (r_489_60) (hs dX9_carries_35 (hs dX9_carries_36 (hs dX9_carries_38 (hs dX9_carries_39 (hs dX9_carries_40 (hs dX9_carries_42 (And.intro (ob_498) (And.intro (vin ln_498 (by decide)) (hs dX9_carries_43 (hs dX9_carries_44 (And.intro (ob_522) (And.intro (vin ln_522 (by decide)) (hs dX9_carries_45 (hs dX9_carries_48 (hs dX9_carries_3 (hs dX9_carries_5 (hs dX9_carries_6 (And.intro (fun c6 => absurd c6 (by decide)) (fun c6 => (hs dX9_carries_9 (hs dX9_carries_11 (And.intro (fun c11 => ?_) (fun c11 => absurd (by decide) c11))))))))))))))))))))))))))
      refine hs dX9_carries_31 (hs dX9_carries_32 (And.intro (ob_489) (gr (r_489_60) (hs dX9_carries_35 (hs dX9_carries_36 (hs dX9_carries_38 (hs dX9_carries_39 (hs dX9_carries_40 (hs dX9_carries_42 (And.intro (ob_498) (And.intro (vin ln_498 (by decide)) (hs dX9_carries_43 (hs dX9_carries_44 (And.intro (ob_522) (And.intro (vin ln_522 (by decide)) (hs dX9_carries_45 (hs dX9_carries_48 (hs dX9_carries_3 (hs dX9_carries_5 (hs dX9_carries_6 (And.intro (fun c6 => absurd c6 (by decide)) (fun c6 => (hs dX9_carries_9 (hs dX9_carries_11 (And.intro (fun c11 => ?_) (fun c11 => absurd (by decide) c11))))))))))))))))))))))))))
      refine hs dX9_carries_31 (hs dX9_carries_32 (And.intro (ob_489) (gr (r_489_60) (hs dX9_carries_35 (hs dX9_carries_36 (hs dX9_carries_38 (hs dX9_carries_39 (hs dX9_carries_40 (hs dX9_carries_42 (And.intro (ob_498) (And.intro (vin ln_498 (by decide)) (hs dX9_carries_43 (hs dX9_carries_44 (And.intro (ob_522) (And.intro (vin ln_522 (by decide)) (hs dX9_carries_45 (hs dX9_carries_48 (hs dX9_carries_3 (hs dX9_carries_5 (hs dX9_carries_6 (And.intro (fun c6 => ?_) (fun c6 => absurd (by decide) c6))))))))))))))))))))))
      refine hs dX9_carries_51 (hs dX9_carries_52 (hs dX9_carries_53 (hs dX9_carries_54 (And.intro (rfl) (And.intro rfl ?_)))))
      exact hk _
  · exact h.elim
theorem ct_X9_carries {E : Ev} {l : Launch} : CT E l yX9_carries (wsY yX9_carries cX9_carries 6 (some .int)) rm_X9_carries 0 sp_X9_carries := ct_of (T := T_X9_carries) (own := RX9) (by decide) rfl (fun ci h10 hc => by have h2 : (99 : Nat) = ci := Nat.eq_of_beq_eq_true hc; omega) ⟨rfl, rfl⟩ ⟨fok_X9, clok_X9, jok_X9, fun _ h => absurd h List.not_mem_nil⟩ bd_X9_carries
def sp_X9_carriesLongs : Spc := fun as N lg it rf K => match as with | [.ref 489, .ref q, .int a, .int z] => (N = NT ∧ rf = RF0 ∧ ((q = 491 ∧ a = 13) ∨ (q = 492 ∧ a = 19) ∨ (q = 493 ∧ a = 25) ∨ (q = 494 ∧ a = 31)) ∧ z = 0) ∧ ∀ lg', K (some (.int (a + 6))) lg' it rf | _ => False
def T_X9_carriesLongs : Tab := (FL_X9, CL_X9, JL_X9, [], 99, (some .int))
def rm_X9_carriesLongs : Room := { frames := 0, cells := 0, slots := 0, locals := 0 }
set_option maxHeartbeats 16000000 in
set_option maxRecDepth 100000 in
theorem bd_X9_carriesLongs (as : List Value) (N : Nat) (lg : LGt) (it : ITt) (rf : RFt) (Q : Post) (h : sp_X9_carriesLongs as N lg it rf Q) : Bd T_X9_carriesLongs cX9_carriesLongs 5 0 as N lg it rf Q := by
  unfold sp_X9_carriesLongs at h
  split at h
  · rename_i q a z
    refine ⟨Nat.le_of_ble_eq_true rfl, fun P hs hw => ?_⟩
    obtain ⟨⟨rfl, rfl, hp, rfl⟩, hk⟩ := h
    rcases hp with ⟨rfl, rfl⟩ | ⟨rfl, rfl⟩ | ⟨rfl, rfl⟩ | ⟨rfl, rfl⟩
    · skip
      refine hs dX9_carriesLongs_0 (hs dX9_carriesLongs_1 (hs dX9_carriesLongs_3 (hs dX9_carriesLongs_5 (hs dX9_carriesLongs_7 (And.intro (fun c7 => absurd c7 (by decide)) (fun c7 => (hs dX9_carriesLongs_10 (hs dX9_carriesLongs_11 (And.intro (fun c11 => ?_) (fun c11 => absurd (by decide) c11))))))))))
      refine hs dX9_carriesLongs_30 (hs dX9_carriesLongs_31 (And.intro (ob_489) (gr (r_489_60) (hs dX9_carriesLongs_34 (hs dX9_carriesLongs_35 (hs dX9_carriesLongs_37 (hs dX9_carriesLongs_38 (hs dX9_carriesLongs_39 (hs dX9_carriesLongs_41 (And.intro (ob_491) (And.intro (vin ln_491 (by decide)) (hs dX9_carriesLongs_42 (And.intro (ob_522) (And.intro (vin ln_522 (by decide)) (hs dX9_carriesLongs_43 (hs dX9_carriesLongs_46 (hs dX9_carriesLongs_3 (hs dX9_carriesLongs_5 (hs dX9_carriesLongs_7 (And.intro (fun c7 => absurd c7 (by decide)) (fun c7 => (hs dX9_carriesLongs_10 (hs dX9_carriesLongs_11 (And.intro (fun c11 => ?_) (fun c11 => absurd (by decide) c11)))))))))))))))))))))))))
      refine hs dX9_carriesLongs_30 (hs dX9_carriesLongs_31 (And.intro (ob_489) (gr (r_489_60) (hs dX9_carriesLongs_34 (hs dX9_carriesLongs_35 (hs dX9_carriesLongs_37 (hs dX9_carriesLongs_38 (hs dX9_carriesLongs_39 (hs dX9_carriesLongs_41 (And.intro (ob_491) (And.intro (vin ln_491 (by decide)) (hs dX9_carriesLongs_42 (And.intro (ob_522) (And.intro (vin ln_522 (by decide)) (hs dX9_carriesLongs_43 (hs dX9_carriesLongs_46 (hs dX9_carriesLongs_3 (hs dX9_carriesLongs_5 (hs dX9_carriesLongs_7 (And.intro (fun c7 => absurd c7 (by decide)) (fun c7 => (hs dX9_carriesLongs_10 (hs dX9_carriesLongs_11 (And.intro (fun c11 => ?_) (fun c11 => absurd (by decide) c11)))))))))))))))))))))))))
      refine hs dX9_carriesLongs_30 (hs dX9_carriesLongs_31 (And.intro (ob_489) (gr (r_489_60) (hs dX9_carriesLongs_34 (hs dX9_carriesLongs_35 (hs dX9_carriesLongs_37 (hs dX9_carriesLongs_38 (hs dX9_carriesLongs_39 (hs dX9_carriesLongs_41 (And.intro (ob_491) (And.intro (vin ln_491 (by decide)) (hs dX9_carriesLongs_42 (And.intro (ob_522) (And.intro (vin ln_522 (by decide)) (hs dX9_carriesLongs_43 (hs dX9_carriesLongs_46 (hs dX9_carriesLongs_3 (hs dX9_carriesLongs_5 (hs dX9_carriesLongs_7 (And.intro (fun c7 => absurd c7 (by decide)) (fun c7 => (hs dX9_carriesLongs_10 (hs dX9_carriesLongs_11 (And.intro (fun c11 => ?_) (fun c11 => absurd (by decide) c11)))))))))))))))))))))))))
      refine hs dX9_carriesLongs_30 (hs dX9_carriesLongs_31 (And.intro (ob_489) (gr (r_489_60) (hs dX9_carriesLongs_34 (hs dX9_carriesLongs_35 (hs dX9_carriesLongs_37 (hs dX9_carriesLongs_38 (hs dX9_carriesLongs_39 (hs dX9_carriesLongs_41 (And.intro (ob_491) (And.intro (vin ln_491 (by decide)) (hs dX9_carriesLongs_42 (And.intro (ob_522) (And.intro (vin ln_522 (by decide)) (hs dX9_carriesLongs_43 (hs dX9_carriesLongs_46 (hs dX9_carriesLongs_3 (hs dX9_carriesLongs_5 (hs dX9_carriesLongs_7 (And.intro (fun c7 => absurd c7 (by decide)) (fun c7 => (hs dX9_carriesLongs_10 (hs dX9_carriesLongs_11 (And.intro (fun c11 => ?_) (fun c11 => absurd (by decide) c11)))))))))))))))))))))))))
      refine hs dX9_carriesLongs_30 (hs dX9_carriesLongs_31 (And.intro (ob_489) (gr (r_489_60) (hs dX9_carriesLongs_34 (hs dX9_carriesLongs_35 (hs dX9_carriesLongs_37 (hs dX9_carriesLongs_38 (hs dX9_carriesLongs_39 (hs dX9_carriesLongs_41 (And.intro (ob_491) (And.intro (vin ln_491 (by decide)) (hs dX9_carriesLongs_42 (And.intro (ob_522) (And.intro (vin ln_522 (by decide)) (hs dX9_carriesLongs_43 (hs dX9_carriesLongs_46 (hs dX9_carriesLongs_3 (hs dX9_carriesLongs_5 (hs dX9_carriesLongs_7 (And.intro (fun c7 => absurd c7 (by decide)) (fun c7 => (hs dX9_carriesLongs_10 (hs dX9_carriesLongs_11 (And.intro (fun c11 => ?_) (fun c11 => absurd (by decide) c11)))))))))))))))))))))))))
      refine hs dX9_carriesLongs_30 (hs dX9_carriesLongs_31 (And.intro (ob_489) (gr (r_489_60) (hs dX9_carriesLongs_34 (hs dX9_carriesLongs_35 (hs dX9_carriesLongs_37 (hs dX9_carriesLongs_38 (hs dX9_carriesLongs_39 (hs dX9_carriesLongs_41 (And.intro (ob_491) (And.intro (vin ln_491 (by decide)) (hs dX9_carriesLongs_42 (And.intro (ob_522) (And.intro (vin ln_522 (by decide)) (hs dX9_carriesLongs_43 (hs dX9_carriesLongs_46 (hs dX9_carriesLongs_3 (hs dX9_carriesLongs_5 (hs dX9_carriesLongs_7 (And.intro (fun c7 => ?_) (fun c7 => absurd (by decide) c7)))))))))))))))))))))
      refine hs dX9_carriesLongs_49 (hs dX9_carriesLongs_50 (hs dX9_carriesLongs_52 (hs dX9_carriesLongs_53 (And.intro (rfl) (And.intro rfl ?_)))))
      exact hk _
    · skip
      refine hs dX9_carriesLongs_0 (hs dX9_carriesLongs_1 (hs dX9_carriesLongs_3 (hs dX9_carriesLongs_5 (hs dX9_carriesLongs_7 (And.intro (fun c7 => absurd c7 (by decide)) (fun c7 => (hs dX9_carriesLongs_10 (hs dX9_carriesLongs_11 (And.intro (fun c11 => ?_) (fun c11 => absurd (by decide) c11))))))))))
      refine hs dX9_carriesLongs_30 (hs dX9_carriesLongs_31 (And.intro (ob_489) (gr (r_489_60) (hs dX9_carriesLongs_34 (hs dX9_carriesLongs_35 (hs dX9_carriesLongs_37 (hs dX9_carriesLongs_38 (hs dX9_carriesLongs_39 (hs dX9_carriesLongs_41 (And.intro (ob_492) (And.intro (vin ln_492 (by decide)) (hs dX9_carriesLongs_42 (And.intro (ob_522) (And.intro (vin ln_522 (by decide)) (hs dX9_carriesLongs_43 (hs dX9_carriesLongs_46 (hs dX9_carriesLongs_3 (hs dX9_carriesLongs_5 (hs dX9_carriesLongs_7 (And.intro (fun c7 => absurd c7 (by decide)) (fun c7 => (hs dX9_carriesLongs_10 (hs dX9_carriesLongs_11 (And.intro (fun c11 => ?_) (fun c11 => absurd (by decide) c11)))))))))))))))))))))))))
      refine hs dX9_carriesLongs_30 (hs dX9_carriesLongs_31 (And.intro (ob_489) (gr (r_489_60) (hs dX9_carriesLongs_34 (hs dX9_carriesLongs_35 (hs dX9_carriesLongs_37 (hs dX9_carriesLongs_38 (hs dX9_carriesLongs_39 (hs dX9_carriesLongs_41 (And.intro (ob_492) (And.intro (vin ln_492 (by decide)) (hs dX9_carriesLongs_42 (And.intro (ob_522) (And.intro (vin ln_522 (by decide)) (hs dX9_carriesLongs_43 (hs dX9_carriesLongs_46 (hs dX9_carriesLongs_3 (hs dX9_carriesLongs_5 (hs dX9_carriesLongs_7 (And.intro (fun c7 => absurd c7 (by decide)) (fun c7 => (hs dX9_carriesLongs_10 (hs dX9_carriesLongs_11 (And.intro (fun c11 => ?_) (fun c11 => absurd (by decide) c11)))))))))))))))))))))))))
      refine hs dX9_carriesLongs_30 (hs dX9_carriesLongs_31 (And.intro (ob_489) (gr (r_489_60) (hs dX9_carriesLongs_34 (hs dX9_carriesLongs_35 (hs dX9_carriesLongs_37 (hs dX9_carriesLongs_38 (hs dX9_carriesLongs_39 (hs dX9_carriesLongs_41 (And.intro (ob_492) (And.intro (vin ln_492 (by decide)) (hs dX9_carriesLongs_42 (And.intro (ob_522) (And.intro (vin ln_522 (by decide)) (hs dX9_carriesLongs_43 (hs dX9_carriesLongs_46 (hs dX9_carriesLongs_3 (hs dX9_carriesLongs_5 (hs dX9_carriesLongs_7 (And.intro (fun c7 => absurd c7 (by decide)) (fun c7 => (hs dX9_carriesLongs_10 (hs dX9_carriesLongs_11 (And.intro (fun c11 => ?_) (fun c11 => absurd (by decide) c11)))))))))))))))))))))))))
      refine hs dX9_carriesLongs_30 (hs dX9_carriesLongs_31 (And.intro (ob_489) (gr (r_489_60) (hs dX9_carriesLongs_34 (hs dX9_carriesLongs_35 (hs dX9_carriesLongs_37 (hs dX9_carriesLongs_38 (hs dX9_carriesLongs_39 (hs dX9_carriesLongs_41 (And.intro (ob_492) (And.intro (vin ln_492 (by decide)) (hs dX9_carriesLongs_42 (And.intro (ob_522) (And.intro (vin ln_522 (by decide)) (hs dX9_carriesLongs_43 (hs dX9_carriesLongs_46 (hs dX9_carriesLongs_3 (hs dX9_carriesLongs_5 (hs dX9_carriesLongs_7 (And.intro (fun c7 => absurd c7 (by decide)) (fun c7 => (hs dX9_carriesLongs_10 (hs dX9_carriesLongs_11 (And.intro (fun c11 => ?_) (fun c11 => absurd (by decide) c11)))))))))))))))))))))))))
      refine hs dX9_carriesLongs_30 (hs dX9_carriesLongs_31 (And.intro (ob_489) (gr (r_489_60) (hs dX9_carriesLongs_34 (hs dX9_carriesLongs_35 (hs dX9_carriesLongs_37 (hs dX9_carriesLongs_38 (hs dX9_carriesLongs_39 (hs dX9_carriesLongs_41 (And.intro (ob_492) (And.intro (vin ln_492 (by decide)) (hs dX9_carriesLongs_42 (And.intro (ob_522) (And.intro (vin ln_522 (by decide)) (hs dX9_carriesLongs_43 (hs dX9_carriesLongs_46 (hs dX9_carriesLongs_3 (hs dX9_carriesLongs_5 (hs dX9_carriesLongs_7 (And.intro (fun c7 => absurd c7 (by decide)) (fun c7 => (hs dX9_carriesLongs_10 (hs dX9_carriesLongs_11 (And.intro (fun c11 => ?_) (fun c11 => absurd (by decide) c11)))))))))))))))))))))))))
      refine hs dX9_carriesLongs_30 (hs dX9_carriesLongs_31 (And.intro (ob_489) (gr (r_489_60) (hs dX9_carriesLongs_34 (hs dX9_carriesLongs_35 (hs dX9_carriesLongs_37 (hs dX9_carriesLongs_38 (hs dX9_carriesLongs_39 (hs dX9_carriesLongs_41 (And.intro (ob_492) (And.intro (vin ln_492 (by decide)) (hs dX9_carriesLongs_42 (And.intro (ob_522) (And.intro (vin ln_522 (by decide)) (hs dX9_carriesLongs_43 (hs dX9_carriesLongs_46 (hs dX9_carriesLongs_3 (hs dX9_carriesLongs_5 (hs dX9_carriesLongs_7 (And.intro (fun c7 => ?_) (fun c7 => absurd (by decide) c7)))))))))))))))))))))
      refine hs dX9_carriesLongs_49 (hs dX9_carriesLongs_50 (hs dX9_carriesLongs_52 (hs dX9_carriesLongs_53 (And.intro (rfl) (And.intro rfl ?_)))))
      exact hk _
    · skip
      refine hs dX9_carriesLongs_0 (hs dX9_carriesLongs_1 (hs dX9_carriesLongs_3 (hs dX9_carriesLongs_5 (hs dX9_carriesLongs_7 (And.intro (fun c7 => absurd c7 (by decide)) (fun c7 => (hs dX9_carriesLongs_10 (hs dX9_carriesLongs_11 (And.intro (fun c11 => ?_) (fun c11 => absurd (by decide) c11))))))))))
      refine hs dX9_carriesLongs_30 (hs dX9_carriesLongs_31 (And.intro (ob_489) (gr (r_489_60) (hs dX9_carriesLongs_34 (hs dX9_carriesLongs_35 (hs dX9_carriesLongs_37 (hs dX9_carriesLongs_38 (hs dX9_carriesLongs_39 (hs dX9_carriesLongs_41 (And.intro (ob_493) (And.intro (vin ln_493 (by decide)) (hs dX9_carriesLongs_42 (And.intro (ob_522) (And.intro (vin ln_522 (by decide)) (hs dX9_carriesLongs_43 (hs dX9_carriesLongs_46 (hs dX9_carriesLongs_3 (hs dX9_carriesLongs_5 (hs dX9_carriesLongs_7 (And.intro (fun c7 => absurd c7 (by decide)) (fun c7 => (hs dX9_carriesLongs_10 (hs dX9_carriesLongs_11 (And.intro (fun c11 => ?_) (fun c11 => absurd (by decide) c11)))))))))))))))))))))))))
      refine hs dX9_carriesLongs_30 (hs dX9_carriesLongs_31 (And.intro (ob_489) (gr (r_489_60) (hs dX9_carriesLongs_34 (hs dX9_carriesLongs_35 (hs dX9_carriesLongs_37 (hs dX9_carriesLongs_38 (hs dX9_carriesLongs_39 (hs dX9_carriesLongs_41 (And.intro (ob_493) (And.intro (vin ln_493 (by decide)) (hs dX9_carriesLongs_42 (And.intro (ob_522) (And.intro (vin ln_522 (by decide)) (hs dX9_carriesLongs_43 (hs dX9_carriesLongs_46 (hs dX9_carriesLongs_3 (hs dX9_carriesLongs_5 (hs dX9_carriesLongs_7 (And.intro (fun c7 => absurd c7 (by decide)) (fun c7 => (hs dX9_carriesLongs_10 (hs dX9_carriesLongs_11 (And.intro (fun c11 => ?_) (fun c11 => absurd (by decide) c11)))))))))))))))))))))))))
      refine hs dX9_carriesLongs_30 (hs dX9_carriesLongs_31 (And.intro (ob_489) (gr (r_489_60) (hs dX9_carriesLongs_34 (hs dX9_carriesLongs_35 (hs dX9_carriesLongs_37 (hs dX9_carriesLongs_38 (hs dX9_carriesLongs_39 (hs dX9_carriesLongs_41 (And.intro (ob_493) (And.intro (vin ln_493 (by decide)) (hs dX9_carriesLongs_42 (And.intro (ob_522) (And.intro (vin ln_522 (by decide)) (hs dX9_carriesLongs_43 (hs dX9_carriesLongs_46 (hs dX9_carriesLongs_3 (hs dX9_carriesLongs_5 (hs dX9_carriesLongs_7 (And.intro (fun c7 => absurd c7 (by decide)) (fun c7 => (hs dX9_carriesLongs_10 (hs dX9_carriesLongs_11 (And.intro (fun c11 => ?_) (fun c11 => absurd (by decide) c11)))))))))))))))))))))))))
      refine hs dX9_carriesLongs_30 (hs dX9_carriesLongs_31 (And.intro (ob_489) (gr (r_489_60) (hs dX9_carriesLongs_34 (hs dX9_carriesLongs_35 (hs dX9_carriesLongs_37 (hs dX9_carriesLongs_38 (hs dX9_carriesLongs_39 (hs dX9_carriesLongs_41 (And.intro (ob_493) (And.intro (vin ln_493 (by decide)) (hs dX9_carriesLongs_42 (And.intro (ob_522) (And.intro (vin ln_522 (by decide)) (hs dX9_carriesLongs_43 (hs dX9_carriesLongs_46 (hs dX9_carriesLongs_3 (hs dX9_carriesLongs_5 (hs dX9_carriesLongs_7 (And.intro (fun c7 => absurd c7 (by decide)) (fun c7 => (hs dX9_carriesLongs_10 (hs dX9_carriesLongs_11 (And.intro (fun c11 => ?_) (fun c11 => absurd (by decide) c11)))))))))))))))))))))))))
      refine hs dX9_carriesLongs_30 (hs dX9_carriesLongs_31 (And.intro (ob_489) (gr (r_489_60) (hs dX9_carriesLongs_34 (hs dX9_carriesLongs_35 (hs dX9_carriesLongs_37 (hs dX9_carriesLongs_38 (hs dX9_carriesLongs_39 (hs dX9_carriesLongs_41 (And.intro (ob_493) (And.intro (vin ln_493 (by decide)) (hs dX9_carriesLongs_42 (And.intro (ob_522) (And.intro (vin ln_522 (by decide)) (hs dX9_carriesLongs_43 (hs dX9_carriesLongs_46 (hs dX9_carriesLongs_3 (hs dX9_carriesLongs_5 (hs dX9_carriesLongs_7 (And.intro (fun c7 => absurd c7 (by decide)) (fun c7 => (hs dX9_carriesLongs_10 (hs dX9_carriesLongs_11 (And.intro (fun c11 => ?_) (fun c11 => absurd (by decide) c11)))))))))))))))))))))))))
      refine hs dX9_carriesLongs_30 (hs dX9_carriesLongs_31 (And.intro (ob_489) (gr (r_489_60) (hs dX9_carriesLongs_34 (hs dX9_carriesLongs_35 (hs dX9_carriesLongs_37 (hs dX9_carriesLongs_38 (hs dX9_carriesLongs_39 (hs dX9_carriesLongs_41 (And.intro (ob_493) (And.intro (vin ln_493 (by decide)) (hs dX9_carriesLongs_42 (And.intro (ob_522) (And.intro (vin ln_522 (by decide)) (hs dX9_carriesLongs_43 (hs dX9_carriesLongs_46 (hs dX9_carriesLongs_3 (hs dX9_carriesLongs_5 (hs dX9_carriesLongs_7 (And.intro (fun c7 => ?_) (fun c7 => absurd (by decide) c7)))))))))))))))))))))
      refine hs dX9_carriesLongs_49 (hs dX9_carriesLongs_50 (hs dX9_carriesLongs_52 (hs dX9_carriesLongs_53 (And.intro (rfl) (And.intro rfl ?_)))))
      exact hk _
    · skip
      refine hs dX9_carriesLongs_0 (hs dX9_carriesLongs_1 (hs dX9_carriesLongs_3 (hs dX9_carriesLongs_5 (hs dX9_carriesLongs_7 (And.intro (fun c7 => absurd c7 (by decide)) (fun c7 => (hs dX9_carriesLongs_10 (hs dX9_carriesLongs_11 (And.intro (fun c11 => ?_) (fun c11 => absurd (by decide) c11))))))))))
      refine hs dX9_carriesLongs_30 (hs dX9_carriesLongs_31 (And.intro (ob_489) (gr (r_489_60) (hs dX9_carriesLongs_34 (hs dX9_carriesLongs_35 (hs dX9_carriesLongs_37 (hs dX9_carriesLongs_38 (hs dX9_carriesLongs_39 (hs dX9_carriesLongs_41 (And.intro (ob_494) (And.intro (vin ln_494 (by decide)) (hs dX9_carriesLongs_42 (And.intro (ob_522) (And.intro (vin ln_522 (by decide)) (hs dX9_carriesLongs_43 (hs dX9_carriesLongs_46 (hs dX9_carriesLongs_3 (hs dX9_carriesLongs_5 (hs dX9_carriesLongs_7 (And.intro (fun c7 => absurd c7 (by decide)) (fun c7 => (hs dX9_carriesLongs_10 (hs dX9_carriesLongs_11 (And.intro (fun c11 => ?_) (fun c11 => absurd (by decide) c11)))))))))))))))))))))))))
      refine hs dX9_carriesLongs_30 (hs dX9_carriesLongs_31 (And.intro (ob_489) (gr (r_489_60) (hs dX9_carriesLongs_34 (hs dX9_carriesLongs_35 (hs dX9_carriesLongs_37 (hs dX9_carriesLongs_38 (hs dX9_carriesLongs_39 (hs dX9_carriesLongs_41 (And.intro (ob_494) (And.intro (vin ln_494 (by decide)) (hs dX9_carriesLongs_42 (And.intro (ob_522) (And.intro (vin ln_522 (by decide)) (hs dX9_carriesLongs_43 (hs dX9_carriesLongs_46 (hs dX9_carriesLongs_3 (hs dX9_carriesLongs_5 (hs dX9_carriesLongs_7 (And.intro (fun c7 => absurd c7 (by decide)) (fun c7 => (hs dX9_carriesLongs_10 (hs dX9_carriesLongs_11 (And.intro (fun c11 => ?_) (fun c11 => absurd (by decide) c11)))))))))))))))))))))))))
      refine hs dX9_carriesLongs_30 (hs dX9_carriesLongs_31 (And.intro (ob_489) (gr (r_489_60) (hs dX9_carriesLongs_34 (hs dX9_carriesLongs_35 (hs dX9_carriesLongs_37 (hs dX9_carriesLongs_38 (hs dX9_carriesLongs_39 (hs dX9_carriesLongs_41 (And.intro (ob_494) (And.intro (vin ln_494 (by decide)) (hs dX9_carriesLongs_42 (And.intro (ob_522) (And.intro (vin ln_522 (by decide)) (hs dX9_carriesLongs_43 (hs dX9_carriesLongs_46 (hs dX9_carriesLongs_3 (hs dX9_carriesLongs_5 (hs dX9_carriesLongs_7 (And.intro (fun c7 => absurd c7 (by decide)) (fun c7 => (hs dX9_carriesLongs_10 (hs dX9_carriesLongs_11 (And.intro (fun c11 => ?_) (fun c11 => absurd (by decide) c11)))))))))))))))))))))))))
      refine hs dX9_carriesLongs_30 (hs dX9_carriesLongs_31 (And.intro (ob_489) (gr (r_489_60) (hs dX9_carriesLongs_34 (hs dX9_carriesLongs_35 (hs dX9_carriesLongs_37 (hs dX9_carriesLongs_38 (hs dX9_carriesLongs_39 (hs dX9_carriesLongs_41 (And.intro (ob_494) (And.intro (vin ln_494 (by decide)) (hs dX9_carriesLongs_42 (And.intro (ob_522) (And.intro (vin ln_522 (by decide)) (hs dX9_carriesLongs_43 (hs dX9_carriesLongs_46 (hs dX9_carriesLongs_3 (hs dX9_carriesLongs_5 (hs dX9_carriesLongs_7 (And.intro (fun c7 => absurd c7 (by decide)) (fun c7 => (hs dX9_carriesLongs_10 (hs dX9_carriesLongs_11 (And.intro (fun c11 => ?_) (fun c11 => absurd (by decide) c11)))))))))))))))))))))))))
      refine hs dX9_carriesLongs_30 (hs dX9_carriesLongs_31 (And.intro (ob_489) (gr (r_489_60) (hs dX9_carriesLongs_34 (hs dX9_carriesLongs_35 (hs dX9_carriesLongs_37 (hs dX9_carriesLongs_38 (hs dX9_carriesLongs_39 (hs dX9_carriesLongs_41 (And.intro (ob_494) (And.intro (vin ln_494 (by decide)) (hs dX9_carriesLongs_42 (And.intro (ob_522) (And.intro (vin ln_522 (by decide)) (hs dX9_carriesLongs_43 (hs dX9_carriesLongs_46 (hs dX9_carriesLongs_3 (hs dX9_carriesLongs_5 (hs dX9_carriesLongs_7 (And.intro (fun c7 => absurd c7 (by decide)) (fun c7 => (hs dX9_carriesLongs_10 (hs dX9_carriesLongs_11 (And.intro (fun c11 => ?_) (fun c11 => absurd (by decide) c11)))))))))))))))))))))))))
      refine hs dX9_carriesLongs_30 (hs dX9_carriesLongs_31 (And.intro (ob_489) (gr (r_489_60) (hs dX9_carriesLongs_34 (hs dX9_carriesLongs_35 (hs dX9_carriesLongs_37 (hs dX9_carriesLongs_38 (hs dX9_carriesLongs_39 (hs dX9_carriesLongs_41 (And.intro (ob_494) (And.intro (vin ln_494 (by decide)) (hs dX9_carriesLongs_42 (And.intro (ob_522) (And.intro (vin ln_522 (by decide)) (hs dX9_carriesLongs_43 (hs dX9_carriesLongs_46 (hs dX9_carriesLongs_3 (hs dX9_carriesLongs_5 (hs dX9_carriesLongs_7 (And.intro (fun c7 => ?_) (fun c7 => absurd (by decide) c7)))))))))))))))))))))
      refine hs dX9_carriesLongs_49 (hs dX9_carriesLongs_50 (hs dX9_carriesLongs_52 (hs dX9_carriesLongs_53 (And.intro (rfl) (And.intro rfl ?_)))))
      exact hk _
  · exact h.elim
theorem ct_X9_carriesLongs {E : Ev} {l : Launch} : CT E l yX9_carriesLongs (wsY yX9_carriesLongs cX9_carriesLongs 5 (some .int)) rm_X9_carriesLongs 0 sp_X9_carriesLongs := ct_of (T := T_X9_carriesLongs) (own := RX9) (by decide) rfl (fun ci h10 hc => by have h2 : (99 : Nat) = ci := Nat.eq_of_beq_eq_true hc; omega) ⟨rfl, rfl⟩ ⟨fok_X9, clok_X9, jok_X9, fun _ h => absurd h List.not_mem_nil⟩ bd_X9_carriesLongs
def sp_X9_carriesAll : Spc := fun as N lg it rf K => match as with | [.ref 489, .int a] => (N = NT ∧ rf = RF0 ∧ a = 0) ∧ ∀ lg', K none lg' it rf | _ => False
def T_X9_carriesAll : Tab := (FL_X9, CL_X9, JL_X9, [(377, 0, 5, 9, 0, sp_X9_carries), (381, 0, 4, 9, 0, sp_X9_carriesLongs)], 99, none)
def rm_X9_carriesAll : Room := { frames := 1, cells := 0, slots := 0, locals := 25 }
set_option maxHeartbeats 16000000 in
set_option maxRecDepth 100000 in
theorem bd_X9_carriesAll (as : List Value) (N : Nat) (lg : LGt) (it : ITt) (rf : RFt) (Q : Post) (h : sp_X9_carriesAll as N lg it rf Q) : Bd T_X9_carriesAll cX9_carriesAll 4 0 as N lg it rf Q := by
  unfold sp_X9_carriesAll at h
  split at h
  · rename_i a
    refine ⟨Nat.le_of_ble_eq_true rfl, fun P hs hw => ?_⟩
    obtain ⟨⟨rfl, rfl, rfl⟩, hk⟩ := h
    refine hs dX9_carriesAll_0 (hs dX9_carriesAll_1 (hs dX9_carriesAll_2 (And.intro (ob_489) (gr (r_489_4) (hs dX9_carriesAll_5 (hs dX9_carriesAll_7 (hs dX9_carriesAll_9 (hs dX9_carriesAll_10 (And.intro (ob_489) (And.intro ⟨rfl, rfl, Or.inl ⟨rfl, by first | rfl | decide, by first | rfl | decide⟩, by first | rfl | decide⟩ (fun lg90 => n0 ?_ )))))))))))
    refine hs dX9_carriesAll_13 (hs dX9_carriesAll_14 (hs dX9_carriesAll_15 (hs dX9_carriesAll_16 (And.intro (ob_489) (gr (r_489_5) (hs dX9_carriesAll_19 (hs dX9_carriesAll_20 (hs dX9_carriesAll_21 (And.intro (ob_489) (And.intro ⟨rfl, rfl, Or.inl ⟨rfl, by first | rfl | decide⟩, by first | rfl | decide⟩ (fun lg91 => n0 ?_ )))))))))))
    refine hs dX9_carriesAll_24 (hs dX9_carriesAll_25 (hs dX9_carriesAll_26 (hs dX9_carriesAll_27 (And.intro (ob_489) (gr (r_489_6) (hs dX9_carriesAll_30 (hs dX9_carriesAll_31 (hs dX9_carriesAll_32 (And.intro (ob_489) (And.intro ⟨rfl, rfl, Or.inr (Or.inl ⟨rfl, by first | rfl | decide⟩), by first | rfl | decide⟩ (fun lg92 => n0 ?_ )))))))))))
    refine hs dX9_carriesAll_35 (hs dX9_carriesAll_36 (hs dX9_carriesAll_37 (hs dX9_carriesAll_38 (And.intro (ob_489) (gr (r_489_7) (hs dX9_carriesAll_41 (hs dX9_carriesAll_42 (hs dX9_carriesAll_43 (And.intro (ob_489) (And.intro ⟨rfl, rfl, Or.inr (Or.inr (Or.inl ⟨rfl, by first | rfl | decide⟩)), by first | rfl | decide⟩ (fun lg93 => n0 ?_ )))))))))))
    refine hs dX9_carriesAll_46 (hs dX9_carriesAll_47 (hs dX9_carriesAll_48 (hs dX9_carriesAll_49 (And.intro (ob_489) (gr (r_489_8) (hs dX9_carriesAll_52 (hs dX9_carriesAll_53 (hs dX9_carriesAll_54 (And.intro (ob_489) (And.intro ⟨rfl, rfl, Or.inr (Or.inr (Or.inr (⟨rfl, by first | rfl | decide⟩))), by first | rfl | decide⟩ (fun lg94 => n0 ?_ )))))))))))
    refine hs dX9_carriesAll_57 (hs dX9_carriesAll_58 (hs dX9_carriesAll_59 (hs dX9_carriesAll_60 (And.intro (ob_489) (gr (r_489_12) (hs dX9_carriesAll_63 (hs dX9_carriesAll_64 (hs dX9_carriesAll_65 (hs dX9_carriesAll_66 (And.intro (ob_489) (And.intro ⟨rfl, rfl, Or.inr (Or.inl ⟨rfl, by first | rfl | decide, by first | rfl | decide⟩), by first | rfl | decide⟩ (fun lg95 => n0 ?_ ))))))))))))
    refine hs dX9_carriesAll_69 (hs dX9_carriesAll_70 (hs dX9_carriesAll_71 (hs dX9_carriesAll_72 (And.intro (ob_489) (gr (r_489_13) (hs dX9_carriesAll_75 (hs dX9_carriesAll_76 (hs dX9_carriesAll_77 (hs dX9_carriesAll_78 (And.intro (ob_489) (And.intro ⟨rfl, rfl, Or.inr (Or.inr (Or.inl ⟨rfl, by first | rfl | decide, by first | rfl | decide⟩)), by first | rfl | decide⟩ (fun lg96 => n0 ?_ ))))))))))))
    refine hs dX9_carriesAll_81 (hs dX9_carriesAll_82 (hs dX9_carriesAll_83 (hs dX9_carriesAll_84 (And.intro (ob_489) (gr (r_489_14) (hs dX9_carriesAll_87 (hs dX9_carriesAll_89 (hs dX9_carriesAll_90 (hs dX9_carriesAll_91 (And.intro (ob_489) (And.intro ⟨rfl, rfl, Or.inr (Or.inr (Or.inr (Or.inl ⟨rfl, by first | rfl | decide, by first | rfl | decide⟩))), by first | rfl | decide⟩ (fun lg97 => n0 ?_ ))))))))))))
    refine hs dX9_carriesAll_94 (hs dX9_carriesAll_95 (hs dX9_carriesAll_96 (hs dX9_carriesAll_97 (And.intro (ob_489) (gr (r_489_15) (hs dX9_carriesAll_100 (hs dX9_carriesAll_102 (hs dX9_carriesAll_103 (hs dX9_carriesAll_104 (And.intro (ob_489) (And.intro ⟨rfl, rfl, Or.inr (Or.inr (Or.inr (Or.inr (⟨rfl, by first | rfl | decide, by first | rfl | decide⟩)))), by first | rfl | decide⟩ (fun lg98 => n0 ?_ ))))))))))))
    refine hs dX9_carriesAll_107 (hs dX9_carriesAll_108 (hs dX9_carriesAll_109 (hs dX9_carriesAll_110 (hs dX9_carriesAll_111 (hs dX9_carriesAll_113 (And.intro (fun c113 => absurd c113 (by decide)) (fun c113 => (hs dX9_carriesAll_116 (hs dX9_carriesAll_117 (And.intro (fun c117 => ?_) (fun c117 => absurd (by decide) c117)))))))))))
    refine hs dX9_carriesAll_161 (hs dX9_carriesAll_162 (And.intro (ob_489) (gr (r_489_60) (hs dX9_carriesAll_165 (hs dX9_carriesAll_166 (hs dX9_carriesAll_167 (hs dX9_carriesAll_168 (hs dX9_carriesAll_171 (hs dX9_carriesAll_172 (And.intro (ob_489) (gr (r_489_16) (hs dX9_carriesAll_175 (hs dX9_carriesAll_176 (And.intro (ob_499) (And.intro (vin ln_499 (by decide)) (hs dX9_carriesAll_177 (hs dX9_carriesAll_178 (hs dX9_carriesAll_179 (hs dX9_carriesAll_180 (And.intro (ob_489) (gr (r_489_17) (hs dX9_carriesAll_183 (hs dX9_carriesAll_184 (And.intro (ob_500) (And.intro (vin ln_500 (by decide)) (hs dX9_carriesAll_185 (hs dX9_carriesAll_186 (hs dX9_carriesAll_187 (And.intro (ob_522) (And.intro (vin ln_522 (by decide)) (hs dX9_carriesAll_188 (hs dX9_carriesAll_191 (hs dX9_carriesAll_110 (hs dX9_carriesAll_111 (hs dX9_carriesAll_113 (And.intro (fun c113 => absurd c113 (by decide)) (fun c113 => (hs dX9_carriesAll_116 (hs dX9_carriesAll_117 (And.intro (fun c117 => ?_) (fun c117 => absurd (by decide) c117)))))))))))))))))))))))))))))))))))))))))
    refine hs dX9_carriesAll_161 (hs dX9_carriesAll_162 (And.intro (ob_489) (gr (r_489_60) (hs dX9_carriesAll_165 (hs dX9_carriesAll_166 (hs dX9_carriesAll_167 (hs dX9_carriesAll_168 (hs dX9_carriesAll_171 (hs dX9_carriesAll_172 (And.intro (ob_489) (gr (r_489_16) (hs dX9_carriesAll_175 (hs dX9_carriesAll_176 (And.intro (ob_499) (And.intro (vin ln_499 (by decide)) (hs dX9_carriesAll_177 (hs dX9_carriesAll_178 (hs dX9_carriesAll_179 (hs dX9_carriesAll_180 (And.intro (ob_489) (gr (r_489_17) (hs dX9_carriesAll_183 (hs dX9_carriesAll_184 (And.intro (ob_500) (And.intro (vin ln_500 (by decide)) (hs dX9_carriesAll_185 (hs dX9_carriesAll_186 (hs dX9_carriesAll_187 (And.intro (ob_522) (And.intro (vin ln_522 (by decide)) (hs dX9_carriesAll_188 (hs dX9_carriesAll_191 (hs dX9_carriesAll_110 (hs dX9_carriesAll_111 (hs dX9_carriesAll_113 (And.intro (fun c113 => absurd c113 (by decide)) (fun c113 => (hs dX9_carriesAll_116 (hs dX9_carriesAll_117 (And.intro (fun c117 => ?_) (fun c117 => absurd (by decide) c117)))))))))))))))))))))))))))))))))))))))))
    refine hs dX9_carriesAll_161 (hs dX9_carriesAll_162 (And.intro (ob_489) (gr (r_489_60) (hs dX9_carriesAll_165 (hs dX9_carriesAll_166 (hs dX9_carriesAll_167 (hs dX9_carriesAll_168 (hs dX9_carriesAll_171 (hs dX9_carriesAll_172 (And.intro (ob_489) (gr (r_489_16) (hs dX9_carriesAll_175 (hs dX9_carriesAll_176 (And.intro (ob_499) (And.intro (vin ln_499 (by decide)) (hs dX9_carriesAll_177 (hs dX9_carriesAll_178 (hs dX9_carriesAll_179 (hs dX9_carriesAll_180 (And.intro (ob_489) (gr (r_489_17) (hs dX9_carriesAll_183 (hs dX9_carriesAll_184 (And.intro (ob_500) (And.intro (vin ln_500 (by decide)) (hs dX9_carriesAll_185 (hs dX9_carriesAll_186 (hs dX9_carriesAll_187 (And.intro (ob_522) (And.intro (vin ln_522 (by decide)) (hs dX9_carriesAll_188 (hs dX9_carriesAll_191 (hs dX9_carriesAll_110 (hs dX9_carriesAll_111 (hs dX9_carriesAll_113 (And.intro (fun c113 => absurd c113 (by decide)) (fun c113 => (hs dX9_carriesAll_116 (hs dX9_carriesAll_117 (And.intro (fun c117 => ?_) (fun c117 => absurd (by decide) c117)))))))))))))))))))))))))))))))))))))))))
    refine hs dX9_carriesAll_161 (hs dX9_carriesAll_162 (And.intro (ob_489) (gr (r_489_60) (hs dX9_carriesAll_165 (hs dX9_carriesAll_166 (hs dX9_carriesAll_167 (hs dX9_carriesAll_168 (hs dX9_carriesAll_171 (hs dX9_carriesAll_172 (And.intro (ob_489) (gr (r_489_16) (hs dX9_carriesAll_175 (hs dX9_carriesAll_176 (And.intro (ob_499) (And.intro (vin ln_499 (by decide)) (hs dX9_carriesAll_177 (hs dX9_carriesAll_178 (hs dX9_carriesAll_179 (hs dX9_carriesAll_180 (And.intro (ob_489) (gr (r_489_17) (hs dX9_carriesAll_183 (hs dX9_carriesAll_184 (And.intro (ob_500) (And.intro (vin ln_500 (by decide)) (hs dX9_carriesAll_185 (hs dX9_carriesAll_186 (hs dX9_carriesAll_187 (And.intro (ob_522) (And.intro (vin ln_522 (by decide)) (hs dX9_carriesAll_188 (hs dX9_carriesAll_191 (hs dX9_carriesAll_110 (hs dX9_carriesAll_111 (hs dX9_carriesAll_113 (And.intro (fun c113 => absurd c113 (by decide)) (fun c113 => (hs dX9_carriesAll_116 (hs dX9_carriesAll_117 (And.intro (fun c117 => ?_) (fun c117 => absurd (by decide) c117)))))))))))))))))))))))))))))))))))))))))
    refine hs dX9_carriesAll_161 (hs dX9_carriesAll_162 (And.intro (ob_489) (gr (r_489_60) (hs dX9_carriesAll_165 (hs dX9_carriesAll_166 (hs dX9_carriesAll_167 (hs dX9_carriesAll_168 (hs dX9_carriesAll_171 (hs dX9_carriesAll_172 (And.intro (ob_489) (gr (r_489_16) (hs dX9_carriesAll_175 (hs dX9_carriesAll_176 (And.intro (ob_499) (And.intro (vin ln_499 (by decide)) (hs dX9_carriesAll_177 (hs dX9_carriesAll_178 (hs dX9_carriesAll_179 (hs dX9_carriesAll_180 (And.intro (ob_489) (gr (r_489_17) (hs dX9_carriesAll_183 (hs dX9_carriesAll_184 (And.intro (ob_500) (And.intro (vin ln_500 (by decide)) (hs dX9_carriesAll_185 (hs dX9_carriesAll_186 (hs dX9_carriesAll_187 (And.intro (ob_522) (And.intro (vin ln_522 (by decide)) (hs dX9_carriesAll_188 (hs dX9_carriesAll_191 (hs dX9_carriesAll_110 (hs dX9_carriesAll_111 (hs dX9_carriesAll_113 (And.intro (fun c113 => absurd c113 (by decide)) (fun c113 => (hs dX9_carriesAll_116 (hs dX9_carriesAll_117 (And.intro (fun c117 => ?_) (fun c117 => absurd (by decide) c117)))))))))))))))))))))))))))))))))))))))))
    refine hs dX9_carriesAll_161 (hs dX9_carriesAll_162 (And.intro (ob_489) (gr (r_489_60) (hs dX9_carriesAll_165 (hs dX9_carriesAll_166 (hs dX9_carriesAll_167 (hs dX9_carriesAll_168 (hs dX9_carriesAll_171 (hs dX9_carriesAll_172 (And.intro (ob_489) (gr (r_489_16) (hs dX9_carriesAll_175 (hs dX9_carriesAll_176 (And.intro (ob_499) (And.intro (vin ln_499 (by decide)) (hs dX9_carriesAll_177 (hs dX9_carriesAll_178 (hs dX9_carriesAll_179 (hs dX9_carriesAll_180 (And.intro (ob_489) (gr (r_489_17) (hs dX9_carriesAll_183 (hs dX9_carriesAll_184 (And.intro (ob_500) (And.intro (vin ln_500 (by decide)) (hs dX9_carriesAll_185 (hs dX9_carriesAll_186 (hs dX9_carriesAll_187 (And.intro (ob_522) (And.intro (vin ln_522 (by decide)) (hs dX9_carriesAll_188 (hs dX9_carriesAll_191 (hs dX9_carriesAll_110 (hs dX9_carriesAll_111 (hs dX9_carriesAll_113 (And.intro (fun c113 => absurd c113 (by decide)) (fun c113 => (hs dX9_carriesAll_116 (hs dX9_carriesAll_117 (And.intro (fun c117 => ?_) (fun c117 => absurd (by decide) c117)))))))))))))))))))))))))))))))))))))))))
    refine hs dX9_carriesAll_161 (hs dX9_carriesAll_162 (And.intro (ob_489) (gr (r_489_60) (hs dX9_carriesAll_165 (hs dX9_carriesAll_166 (hs dX9_carriesAll_167 (hs dX9_carriesAll_168 (hs dX9_carriesAll_171 (hs dX9_carriesAll_172 (And.intro (ob_489) (gr (r_489_16) (hs dX9_carriesAll_175 (hs dX9_carriesAll_176 (And.intro (ob_499) (And.intro (vin ln_499 (by decide)) (hs dX9_carriesAll_177 (hs dX9_carriesAll_178 (hs dX9_carriesAll_179 (hs dX9_carriesAll_180 (And.intro (ob_489) (gr (r_489_17) (hs dX9_carriesAll_183 (hs dX9_carriesAll_184 (And.intro (ob_500) (And.intro (vin ln_500 (by decide)) (hs dX9_carriesAll_185 (hs dX9_carriesAll_186 (hs dX9_carriesAll_187 (And.intro (ob_522) (And.intro (vin ln_522 (by decide)) (hs dX9_carriesAll_188 (hs dX9_carriesAll_191 (hs dX9_carriesAll_110 (hs dX9_carriesAll_111 (hs dX9_carriesAll_113 (And.intro (fun c113 => absurd c113 (by decide)) (fun c113 => (hs dX9_carriesAll_116 (hs dX9_carriesAll_117 (And.intro (fun c117 => ?_) (fun c117 => absurd (by decide) c117)))))))))))))))))))))))))))))))))))))))))
    refine hs dX9_carriesAll_161 (hs dX9_carriesAll_162 (And.intro (ob_489) (gr (r_489_60) (hs dX9_carriesAll_165 (hs dX9_carriesAll_166 (hs dX9_carriesAll_167 (hs dX9_carriesAll_168 (hs dX9_carriesAll_171 (hs dX9_carriesAll_172 (And.intro (ob_489) (gr (r_489_16) (hs dX9_carriesAll_175 (hs dX9_carriesAll_176 (And.intro (ob_499) (And.intro (vin ln_499 (by decide)) (hs dX9_carriesAll_177 (hs dX9_carriesAll_178 (hs dX9_carriesAll_179 (hs dX9_carriesAll_180 (And.intro (ob_489) (gr (r_489_17) (hs dX9_carriesAll_183 (hs dX9_carriesAll_184 (And.intro (ob_500) (And.intro (vin ln_500 (by decide)) (hs dX9_carriesAll_185 (hs dX9_carriesAll_186 (hs dX9_carriesAll_187 (And.intro (ob_522) (And.intro (vin ln_522 (by decide)) (hs dX9_carriesAll_188 (hs dX9_carriesAll_191 (hs dX9_carriesAll_110 (hs dX9_carriesAll_111 (hs dX9_carriesAll_113 (And.intro (fun c113 => ?_) (fun c113 => absurd (by decide) c113)))))))))))))))))))))))))))))))))))))
    refine hs dX9_carriesAll_194 (And.intro (rfl) (And.intro rfl ?_))
    exact hk _
  · exact h.elim
theorem ct_X9_carriesAll {E : Ev} {l : Launch} : CT E l yX9_carriesAll (wsY yX9_carriesAll cX9_carriesAll 4 none) rm_X9_carriesAll 0 sp_X9_carriesAll := ct_of (T := T_X9_carriesAll) (own := RX9) (by decide) rfl (fun ci h10 hc => by have h2 : (99 : Nat) = ci := Nat.eq_of_beq_eq_true hc; omega) ⟨rfl, rfl⟩ ⟨fok_X9, clok_X9, jok_X9, List.forall_mem_cons.mpr ⟨cok_V ct_X9_carries (by decide) rfl ml_X9_377 im_X9_carries se_X9_carries co_X9_carries mo_X9_carries (by decide), List.forall_mem_cons.mpr ⟨cok_V ct_X9_carriesLongs (by decide) rfl ml_X9_381 im_X9_carriesLongs se_X9_carriesLongs co_X9_carriesLongs mo_X9_carriesLongs (by decide), fun _ h => absurd h List.not_mem_nil⟩⟩⟩ bd_X9_carriesAll
def sp_X9_image : Spc := fun as N lg it rf K => match as with | [.ref 489] => (N = NT ∧ rf = RF0 ∧ Up lg it) ∧ ∀ lg' it', K (some (.int (an_image))) lg' it' rf | _ => False
def T_X9_image : Tab := (FL_X9, CL_X9, JL_X9, [(387, 0, 2, 9, 0, sp_X9_carriesAll)], 99, (some .int))
def rm_X9_image : Room := { frames := 2, cells := 0, slots := 0, locals := 48 }
set_option maxHeartbeats 16000000 in
set_option maxRecDepth 100000 in
theorem bd_X9_image (as : List Value) (N : Nat) (lg : LGt) (it : ITt) (rf : RFt) (Q : Post) (h : sp_X9_image as N lg it rf Q) : Bd T_X9_image cX9_image 1 0 as N lg it rf Q := by
  unfold sp_X9_image at h
  split at h
  · refine ⟨Nat.le_of_ble_eq_true rfl, fun P hs hw => ?_⟩
    obtain ⟨⟨rfl, rfl, hup⟩, hk⟩ := h
    refine hs dX9_image_0 (hs dX9_image_1 (And.intro (ob_489) (gr (r_489_60) (hs dX9_image_4 (hs dX9_image_5 (hs dX9_image_6 (And.intro (ob_489) (gx (v := 0) (upi hup (by decide) (by decide) vit_489_0) (hs dX9_image_9 (hs dX9_image_10 (And.intro (ob_522) (And.intro (vin ln_522 (by decide)) (hs dX9_image_11 (hs dX9_image_12 (And.intro (ob_489) (gr (r_489_60) (hs dX9_image_15 (hs dX9_image_16 (hs dX9_image_17 (And.intro (ob_489) (gx (v := 4) (by simp [u2, sL, sI, mx, zr, (upi hup (by decide) (by decide) vit_489_1)]) (hs dX9_image_20 (hs dX9_image_21 (And.intro (ob_522) (And.intro (vin ln_522 (by decide)) (hs dX9_image_22 (hs dX9_image_23 (And.intro (ob_489) (gr (r_489_60) (hs dX9_image_26 (hs dX9_image_27 (hs dX9_image_28 (And.intro (ob_489) (gx (v := 4) (by simp [u2, sL, sI, mx, zr, (upi hup (by decide) (by decide) vit_489_2)]) (hs dX9_image_31 (hs dX9_image_32 (And.intro (ob_522) (And.intro (vin ln_522 (by decide)) (hs dX9_image_33 (hs dX9_image_34 (And.intro (ob_489) (gr (r_489_60) (hs dX9_image_37 (hs dX9_image_38 (hs dX9_image_39 (And.intro (ob_489) (gx (v := 4) (by simp [u2, sL, sI, mx, zr, (upi hup (by decide) (by decide) vit_489_3)]) (hs dX9_image_42 (hs dX9_image_43 (And.intro (ob_522) (And.intro (vin ln_522 (by decide)) (hs dX9_image_44 (hs dX9_image_45 (And.intro (ob_489) (gr (r_489_60) (hs dX9_image_48 (hs dX9_image_49 (hs dX9_image_50 (And.intro (ob_489) (gx (v := 0) (by simp [u2, sL, sI, mx, zr, (upi hup (by decide) (by decide) vit_489_9)]) (hs dX9_image_53 (hs dX9_image_54 (And.intro (ob_522) (And.intro (vin ln_522 (by decide)) (hs dX9_image_55 (hs dX9_image_56 (And.intro (ob_489) (gr (r_489_60) (hs dX9_image_59 (hs dX9_image_60 (hs dX9_image_61 (And.intro (ob_489) (gx (v := 0) (by simp [u2, sL, sI, mx, zr, (upi hup (by decide) (by decide) vit_489_10)]) (hs dX9_image_64 (hs dX9_image_65 (And.intro (ob_522) (And.intro (vin ln_522 (by decide)) (hs dX9_image_66 (hs dX9_image_67 (And.intro (ob_489) (gr (r_489_60) (hs dX9_image_70 (hs dX9_image_72 (hs dX9_image_73 (And.intro (ob_489) (gx (v := 0) (by simp [u2, sL, sI, mx, zr, (upi hup (by decide) (by decide) vit_489_11)]) (hs dX9_image_76 (hs dX9_image_77 (And.intro (ob_522) (And.intro (vin ln_522 (by decide)) (hs dX9_image_78 (hs dX9_image_79 (hs dX9_image_80 (And.intro (ob_489) (And.intro ⟨rfl, rfl, by first | rfl | decide⟩ (fun lg99 => n0 ?_ ))))))))))))))))))))))))))))))))))))))))))))))))))))))))))))))))))))))))))))))))))))))))))))))))
    refine hs dX9_image_83 (hs dX9_image_84 (hs dX9_image_85 (And.intro (ob_489) (And.intro (rfl) (hs dX9_image_88 (hs dX9_image_89 (And.intro (ob_489) (gx (v := 0) (by simp [u2, sL, sI, mx, zr, (upi hup (by decide) (by decide) vit_489_0)]) (hs dX9_image_92 (And.intro (rfl) (And.intro rfl ?_)))))))))))
    have e : an_image = 0 := rfl
    rw [e] at hk
    exact hk _ _
  · exact h.elim
theorem ct_X9_image {E : Ev} {l : Launch} : CT E l yX9_image (wsY yX9_image cX9_image 1 (some .int)) rm_X9_image 0 sp_X9_image := ct_of (T := T_X9_image) (own := RX9) (by decide) rfl (fun ci h10 hc => by have h2 : (99 : Nat) = ci := Nat.eq_of_beq_eq_true hc; omega) ⟨rfl, rfl⟩ ⟨fok_X9, clok_X9, jok_X9, List.forall_mem_cons.mpr ⟨cok_V ct_X9_carriesAll (by decide) rfl ml_X9_387 im_X9_carriesAll se_X9_carriesAll co_X9_carriesAll mo_X9_carriesAll (by decide), fun _ h => absurd h List.not_mem_nil⟩⟩ bd_X9_image
