/-! p1: the class on a new object: the course of strikes -/
def Kw {α : Type} (f f' : Nat → Nat → α) : Prop := ∀ j, (j < 55 ∨ 450 ≤ j) → f' j = f j
def Kr {α : Type} (b : Nat) (f f' : Nat → Nat → α) : Prop := ∀ j, (j < b ∨ b + 17 ≤ j) → f' j = f j
def Kq {α : Type} (f f' : Nat → Nat → α) : Prop := ∀ j, (j < 29 ∨ 489 ≤ j) → f' j = f j
theorem Kw_0 {α : Type} {f : Nat → Nat → α} : Kw f f := fun _ _ => rfl
theorem Kr_0 {α : Type} {b : Nat} {f : Nat → Nat → α} : Kr b f f := fun _ _ => rfl
theorem Kq_0 {α : Type} {f : Nat → Nat → α} : Kq f f := fun _ _ => rfl
theorem Kw_u {α : Type} {f f' : Nat → Nat → α} {j k : Nat} {v : α} (h : Kw f f') (hj : 55 ≤ j ∧ j < 450) : Kw f (u2 f' j k v) := fun i a => (u2_row (by omega)).trans (h i a)
theorem Kr_u {α : Type} {f f' : Nat → Nat → α} {b j k : Nat} {v : α} (h : Kr b f f') (hj : b ≤ j ∧ j < b + 17) : Kr b f (u2 f' j k v) := fun i a => (u2_row (by omega)).trans (h i a)
theorem Kq_u {α : Type} {f f' : Nat → Nat → α} {j k : Nat} {v : α} (h : Kq f f') (hj : 29 ≤ j ∧ j < 489) : Kq f (u2 f' j k v) := fun i a => (u2_row (by omega)).trans (h i a)
theorem Kw_sL {f f' : LGt} {j : Nat} {a b : Int64} (h : Kw f f') (hj : 55 ≤ j ∧ j < 450) : Kw f (sL f' j a b) := fun i x => (sL_row (by omega)).trans (h i x)
theorem Kw_sI {f f' : ITt} {j k : Nat} {v : Int32} (h : Kw f f') (hj : 55 ≤ j ∧ j < 450) : Kw f (sI f' j k v) := Kw_u h hj
theorem Kw_r {α : Type} {f f' f'' : Nat → Nat → α} {b : Nat} (h : Kw f f') (h2 : Kr b f' f'') (hb : 55 ≤ b ∧ b + 17 ≤ 450) : Kw f f'' := fun i a => (h2 i (by omega)).trans (h i a)
theorem Kq_r {α : Type} {f f' f'' : Nat → Nat → α} {b : Nat} (h : Kq f f') (h2 : Kr b f' f'') (hb : 29 ≤ b ∧ b + 17 ≤ 489) : Kq f f'' := fun i a => (h2 i (by omega)).trans (h i a)
theorem Kq_q {α : Type} {f f' f'' : Nat → Nat → α} (h : Kq f f') (h2 : Kq f' f'') : Kq f f'' := fun i a => (h2 i a).trans (h i a)
theorem Up_w {lg lg' : LGt} {it it' : ITt} (h : Up lg it) (h1 : Kw lg lg') (h2 : Kw it it') : Up lg' it' := fun i a b => ⟨(h1 i (by omega)).trans (h i a b).1, (h2 i (by omega)).trans (h i a b).2⟩
theorem Up_r {lg : LGt} {it it' : ITt} {b : Nat} (h : Up lg it) (h2 : Kr b it it') (hb : b + 17 ≤ 489) : Up lg it' := fun i a c => ⟨(h i a c).1, (h2 i (by omega)).trans (h i a c).2⟩
theorem Up_q {lg : LGt} {it it' : ITt} (h : Up lg it) (h2 : Kq it it') : Up lg it' := fun i a c => ⟨(h i a c).1, (h2 i (by omega)).trans (h i a c).2⟩
theorem Up_p {lg : LGt} {it it' : ITt} (h : Up lg it) (h2 : Kp it it') : Up lg it' := fun i a c => ⟨(h i a c).1, (h2 i a).trans (h i a c).2⟩
theorem hlf_v {a b x y : Int64} {o q : Int32} (ho : o = 0) (ha : a = x) (hb : b = y) : hlf a b o q = if q = 0 then x else y := by subst ho; subst ha; subst hb; rfl
theorem min0 {k : Int32} (h : ¬ k < 0) : (if (0 : Int32) < k then (0 : Int32) else k) = 0 := by
  by_cases g : (0 : Int32) < k
  · rw [if_pos g]
  · rw [if_neg g]
    simp only [Int32.lt_iff_toInt_lt, ti_0] at h g
    exact Int32.toInt_inj.mp (by rw [ti_0]; omega)
theorem and1_0 {x : Int32} (h : x = 0) : x &&& 1 = x := by rw [h]; decide
theorem st55 {a b h w : Int64} (hh : h = 5) (hw : w = 5) : stF a b 0 h w = (1, 1, 0) := by
  subst hh; subst hw; unfold stF; rw [if_neg (by decide)]; decide +kernel
theorem st05 {a b h w : Int64} (hh : h = 0) (hw : w = 5) : stF a b 0 h w = (0, 1, 0) := by
  subst hh; subst hw; unfold stF; rw [if_neg (by decide)]; decide +kernel
theorem rcp_0 {α : Type} {f : Nat → Nat → α} {a0 a1 u v x : Nat} (hx : x = 0) : rcp f a0 a1 u v x = f := by
  subst hx; funext a; by_cases h : a = a1
  · subst h; rw [rcp_eq]; funext k; simp [va_cpy] <;> intros <;> omega
  · exact rcp_row h
theorem ob_58 : Ob NT 58 3 := ⟨by decide, by decide +kernel⟩
theorem r_58_5 : RF0 58 5 = some 74 := by decide +kernel
theorem ln_74 : (LAY 74).2 = 2 := by decide +kernel
theorem ob_74 : Ob NT 74 11 := ⟨by decide, by decide +kernel⟩
theorem ob_450 : Ob NT 450 3 := ⟨by decide, by decide +kernel⟩
theorem r_450_5 : RF0 450 5 = some 466 := by decide +kernel
theorem ln_466 : (LAY 466).2 = 2 := by decide +kernel
theorem ob_466 : Ob NT 466 11 := ⟨by decide, by decide +kernel⟩
theorem ob_76 : Ob NT 76 3 := ⟨by decide, by decide +kernel⟩
theorem r_76_5 : RF0 76 5 = some 92 := by decide +kernel
theorem ln_92 : (LAY 92).2 = 2 := by decide +kernel
theorem ob_92 : Ob NT 92 11 := ⟨by decide, by decide +kernel⟩
theorem ob_29 : Ob NT 29 3 := ⟨by decide, by decide +kernel⟩
theorem r_29_5 : RF0 29 5 = some 45 := by decide +kernel
theorem ln_45 : (LAY 45).2 = 2 := by decide +kernel
theorem ob_45 : Ob NT 45 11 := ⟨by decide, by decide +kernel⟩
theorem ob_55 : Ob NT 55 0 := ⟨by decide, by decide +kernel⟩
theorem r_55_0 : RF0 55 0 = some 56 := by decide +kernel
theorem r_56_0 : RF0 56 0 = some 58 := by decide +kernel
theorem oa_56 : 56 < NT ∧ 13 ≤ (LAY 56).1 ∧ (LAY 56).1 ≤ 15 := by decide +kernel
theorem ln_56 : (LAY 56).2 = 21 := by decide +kernel
theorem r_55_1 : RF0 55 1 = some 57 := by decide +kernel
theorem r_57_0 : RF0 57 0 = some 75 := by decide +kernel
theorem oa_57 : 57 < NT ∧ 13 ≤ (LAY 57).1 ∧ (LAY 57).1 ≤ 15 := by decide +kernel
theorem ln_57 : (LAY 57).2 = 21 := by decide +kernel
theorem ob_75 : Ob NT 75 1 := ⟨by decide, by decide +kernel⟩
theorem r_56_1 : RF0 56 1 = some 76 := by decide +kernel
theorem r_57_1 : RF0 57 1 = some 93 := by decide +kernel
theorem ob_93 : Ob NT 93 1 := ⟨by decide, by decide +kernel⟩
theorem r_55_6 : RF0 55 6 = some 437 := by decide +kernel
theorem ob_437 : Ob NT 437 5 := ⟨by decide, by decide +kernel⟩
theorem r_0_7 : RF0 0 7 = some 486 := by decide +kernel
theorem ob_486 : Ob NT 486 1 := ⟨by decide, by decide +kernel⟩
theorem r_0_3 : RF0 0 3 = some 55 := by decide +kernel
theorem vit_55_3 : IT0 55 3 = 0 := by decide +kernel
theorem vit_58_0 : IT0 58 0 = 0 := by decide +kernel
theorem vit_55_5 : IT0 55 5 = (-1) := by decide +kernel
theorem r_0_4 : RF0 0 4 = some 450 := by decide +kernel
theorem vit_55_4 : IT0 55 4 = 0 := by decide +kernel
theorem ob_46 : Ob NT 46 2 := ⟨by decide, by decide +kernel⟩
theorem r_46_0 : RF0 46 0 = some 47 := by decide +kernel
theorem ol_47 : 47 < NT ∧ 10 ≤ (LAY 47).1 ∧ (LAY 47).1 ≤ 15 := by decide +kernel
theorem ln_47 : (LAY 47).2 = 5 := by decide +kernel
theorem ob_47 : Ob NT 47 11 := ⟨by decide, by decide +kernel⟩
theorem r_46_1 : RF0 46 1 = some 48 := by decide +kernel
theorem ob_48 : Ob NT 48 11 := ⟨by decide, by decide +kernel⟩
theorem ln_48 : (LAY 48).2 = 5 := by decide +kernel
theorem ob_49 : Ob NT 49 2 := ⟨by decide, by decide +kernel⟩
theorem r_49_0 : RF0 49 0 = some 50 := by decide +kernel
theorem ol_50 : 50 < NT ∧ 10 ≤ (LAY 50).1 ∧ (LAY 50).1 ≤ 15 := by decide +kernel
theorem ln_50 : (LAY 50).2 = 8 := by decide +kernel
theorem ob_50 : Ob NT 50 11 := ⟨by decide, by decide +kernel⟩
theorem r_49_1 : RF0 49 1 = some 51 := by decide +kernel
theorem ob_51 : Ob NT 51 11 := ⟨by decide, by decide +kernel⟩
theorem ln_51 : (LAY 51).2 = 8 := by decide +kernel
theorem ob_52 : Ob NT 52 2 := ⟨by decide, by decide +kernel⟩
theorem r_52_0 : RF0 52 0 = some 53 := by decide +kernel
theorem ol_53 : 53 < NT ∧ 10 ≤ (LAY 53).1 ∧ (LAY 53).1 ≤ 15 := by decide +kernel
theorem ln_53 : (LAY 53).2 = 8 := by decide +kernel
theorem ob_53 : Ob NT 53 11 := ⟨by decide, by decide +kernel⟩
theorem r_52_1 : RF0 52 1 = some 54 := by decide +kernel
theorem ob_54 : Ob NT 54 11 := ⟨by decide, by decide +kernel⟩
theorem ln_54 : (LAY 54).2 = 8 := by decide +kernel
theorem ob_28 : Ob NT 28 4 := ⟨by decide, by decide +kernel⟩
theorem r_28_0 : RF0 28 0 = some 29 := by decide +kernel
theorem r_28_1 : RF0 28 1 = some 46 := by decide +kernel
theorem r_28_2 : RF0 28 2 = some 49 := by decide +kernel
theorem r_28_3 : RF0 28 3 = some 52 := by decide +kernel
theorem r_0_1 : RF0 0 1 = some 28 := by decide +kernel
theorem r_467_2 : RF0 467 2 = some 469 := by decide +kernel
theorem ln_469 : (LAY 469).2 = 12 := by decide +kernel
theorem ob_469 : Ob NT 469 11 := ⟨by decide, by decide +kernel⟩
theorem r_467_3 : RF0 467 3 = some 470 := by decide +kernel
theorem ln_470 : (LAY 470).2 = 12 := by decide +kernel
theorem ob_470 : Ob NT 470 11 := ⟨by decide, by decide +kernel⟩
def sp_X3_become : Spc := fun as N lg it rf K => match as with | [.ref b, .ref s] => (N = NT ∧ rf = RF0 ∧ ((b = 58 ∧ s = 2) ∨ (b = 58 ∧ s = 450) ∨ (b = 76 ∧ s = 58) ∨ (b = 450 ∧ s = 2) ∨ (b = 29 ∧ s = 2) ∨ (b = 2 ∧ s = 58)) ∧ it s 0 = 0) ∧ ∀ it', Kr b it it' → it' b 0 = 0 → K none lg it' rf | _ => False
def T_X3_become : Tab := (FL_X3, CL_X3, JL_X3, [(35, 0, 2, 1, 0, sp_X1_become)], 99, none)
def rm_X3_become : Room := { frames := 1, cells := 0, slots := 0, locals := 21 }
set_option maxHeartbeats 16000000 in
set_option maxRecDepth 100000 in
theorem bd_X3_become (as : List Value) (N : Nat) (lg : LGt) (it : ITt) (rf : RFt) (Q : Post) (h : sp_X3_become as N lg it rf Q) : Bd T_X3_become cX3_become 3 0 as N lg it rf Q := by
  unfold sp_X3_become at h
  split at h
  · rename_i b s
    refine ⟨Nat.le_of_ble_eq_true rfl, fun P hs hw => ?_⟩
    obtain ⟨⟨rfl, rfl, hp, hb⟩, hk⟩ := h
    rcases hp with ⟨rfl, rfl⟩ | ⟨rfl, rfl⟩ | ⟨rfl, rfl⟩ | ⟨rfl, rfl⟩ | ⟨rfl, rfl⟩ | ⟨rfl, rfl⟩
    · skip
      refine hs dX3_become_0 (hs dX3_become_1 (hs dX3_become_2 (And.intro (ob_2) (gx (v := 0) (by simp [u2, sL, sI, mx, zr, hb]) (hs dX3_become_5 (And.intro (ob_58) (hs dX3_become_8 (hs dX3_become_9 (hs dX3_become_10 (hs dX3_become_11 (hs dX3_become_12 (And.intro (ob_2) (gx (v := 0) (by simp [u2, sL, sI, mx, zr, hb]) (hs dX3_become_15 (And.intro (fun c15 => ?_) (fun c15 => absurd (by decide) c15))))))))))))))))
      refine hs dX3_become_66 (hs dX3_become_67 (hs dX3_become_68 (And.intro (ob_2) (hs dX3_become_71 (And.intro (ob_58) (hs dX3_become_74 (hs dX3_become_75 (And.intro (ob_58) (gr (r_58_5) (hs dX3_become_78 (hs dX3_become_79 (hs dX3_become_80 (And.intro (ob_2) (gr (r_2_5) (hs dX3_become_83 (hs dX3_become_84 (And.intro (ob_18) (And.intro (vin ln_18 (by decide)) (hs dX3_become_85 (And.intro (ob_74) (And.intro (vin ln_74 (by decide)) (hs dX3_become_86 (hs dX3_become_87 (And.intro (ob_58) (gr (r_58_5) (hs dX3_become_90 (hs dX3_become_91 (hs dX3_become_92 (And.intro (ob_2) (gr (r_2_5) (hs dX3_become_95 (hs dX3_become_96 (And.intro (ob_18) (And.intro (vin ln_18 (by decide)) (hs dX3_become_97 (And.intro (ob_74) (And.intro (vin ln_74 (by decide)) (hs dX3_become_98 (And.intro (rfl) (And.intro rfl ?_))))))))))))))))))))))))))))))))))))))))
      exact hk _ (by repeat (first | exact Kr_0 | refine Kr_u ?_ (by omega))) (by simp [u2, sL, sI, mx, zr, hb, ki_0, ki_1])
    · skip
      refine hs dX3_become_0 (hs dX3_become_1 (hs dX3_become_2 (And.intro (ob_450) (gx (v := 0) (by simp [u2, sL, sI, mx, zr, hb]) (hs dX3_become_5 (And.intro (ob_58) (hs dX3_become_8 (hs dX3_become_9 (hs dX3_become_10 (hs dX3_become_11 (hs dX3_become_12 (And.intro (ob_450) (gx (v := 0) (by simp [u2, sL, sI, mx, zr, hb]) (hs dX3_become_15 (And.intro (fun c15 => ?_) (fun c15 => absurd (by decide) c15))))))))))))))))
      refine hs dX3_become_66 (hs dX3_become_67 (hs dX3_become_68 (And.intro (ob_450) (hs dX3_become_71 (And.intro (ob_58) (hs dX3_become_74 (hs dX3_become_75 (And.intro (ob_58) (gr (r_58_5) (hs dX3_become_78 (hs dX3_become_79 (hs dX3_become_80 (And.intro (ob_450) (gr (r_450_5) (hs dX3_become_83 (hs dX3_become_84 (And.intro (ob_466) (And.intro (vin ln_466 (by decide)) (hs dX3_become_85 (And.intro (ob_74) (And.intro (vin ln_74 (by decide)) (hs dX3_become_86 (hs dX3_become_87 (And.intro (ob_58) (gr (r_58_5) (hs dX3_become_90 (hs dX3_become_91 (hs dX3_become_92 (And.intro (ob_450) (gr (r_450_5) (hs dX3_become_95 (hs dX3_become_96 (And.intro (ob_466) (And.intro (vin ln_466 (by decide)) (hs dX3_become_97 (And.intro (ob_74) (And.intro (vin ln_74 (by decide)) (hs dX3_become_98 (And.intro (rfl) (And.intro rfl ?_))))))))))))))))))))))))))))))))))))))))
      exact hk _ (by repeat (first | exact Kr_0 | refine Kr_u ?_ (by omega))) (by simp [u2, sL, sI, mx, zr, hb, ki_0, ki_1])
    · skip
      refine hs dX3_become_0 (hs dX3_become_1 (hs dX3_become_2 (And.intro (ob_58) (gx (v := 0) (by simp [u2, sL, sI, mx, zr, hb]) (hs dX3_become_5 (And.intro (ob_76) (hs dX3_become_8 (hs dX3_become_9 (hs dX3_become_10 (hs dX3_become_11 (hs dX3_become_12 (And.intro (ob_58) (gx (v := 0) (by simp [u2, sL, sI, mx, zr, hb]) (hs dX3_become_15 (And.intro (fun c15 => ?_) (fun c15 => absurd (by decide) c15))))))))))))))))
      refine hs dX3_become_66 (hs dX3_become_67 (hs dX3_become_68 (And.intro (ob_58) (hs dX3_become_71 (And.intro (ob_76) (hs dX3_become_74 (hs dX3_become_75 (And.intro (ob_76) (gr (r_76_5) (hs dX3_become_78 (hs dX3_become_79 (hs dX3_become_80 (And.intro (ob_58) (gr (r_58_5) (hs dX3_become_83 (hs dX3_become_84 (And.intro (ob_74) (And.intro (vin ln_74 (by decide)) (hs dX3_become_85 (And.intro (ob_92) (And.intro (vin ln_92 (by decide)) (hs dX3_become_86 (hs dX3_become_87 (And.intro (ob_76) (gr (r_76_5) (hs dX3_become_90 (hs dX3_become_91 (hs dX3_become_92 (And.intro (ob_58) (gr (r_58_5) (hs dX3_become_95 (hs dX3_become_96 (And.intro (ob_74) (And.intro (vin ln_74 (by decide)) (hs dX3_become_97 (And.intro (ob_92) (And.intro (vin ln_92 (by decide)) (hs dX3_become_98 (And.intro (rfl) (And.intro rfl ?_))))))))))))))))))))))))))))))))))))))))
      exact hk _ (by repeat (first | exact Kr_0 | refine Kr_u ?_ (by omega))) (by simp [u2, sL, sI, mx, zr, hb, ki_0, ki_1])
    · skip
      refine hs dX3_become_0 (hs dX3_become_1 (hs dX3_become_2 (And.intro (ob_2) (gx (v := 0) (by simp [u2, sL, sI, mx, zr, hb]) (hs dX3_become_5 (And.intro (ob_450) (hs dX3_become_8 (hs dX3_become_9 (hs dX3_become_10 (hs dX3_become_11 (hs dX3_become_12 (And.intro (ob_2) (gx (v := 0) (by simp [u2, sL, sI, mx, zr, hb]) (hs dX3_become_15 (And.intro (fun c15 => ?_) (fun c15 => absurd (by decide) c15))))))))))))))))
      refine hs dX3_become_66 (hs dX3_become_67 (hs dX3_become_68 (And.intro (ob_2) (hs dX3_become_71 (And.intro (ob_450) (hs dX3_become_74 (hs dX3_become_75 (And.intro (ob_450) (gr (r_450_5) (hs dX3_become_78 (hs dX3_become_79 (hs dX3_become_80 (And.intro (ob_2) (gr (r_2_5) (hs dX3_become_83 (hs dX3_become_84 (And.intro (ob_18) (And.intro (vin ln_18 (by decide)) (hs dX3_become_85 (And.intro (ob_466) (And.intro (vin ln_466 (by decide)) (hs dX3_become_86 (hs dX3_become_87 (And.intro (ob_450) (gr (r_450_5) (hs dX3_become_90 (hs dX3_become_91 (hs dX3_become_92 (And.intro (ob_2) (gr (r_2_5) (hs dX3_become_95 (hs dX3_become_96 (And.intro (ob_18) (And.intro (vin ln_18 (by decide)) (hs dX3_become_97 (And.intro (ob_466) (And.intro (vin ln_466 (by decide)) (hs dX3_become_98 (And.intro (rfl) (And.intro rfl ?_))))))))))))))))))))))))))))))))))))))))
      exact hk _ (by repeat (first | exact Kr_0 | refine Kr_u ?_ (by omega))) (by simp [u2, sL, sI, mx, zr, hb, ki_0, ki_1])
    · skip
      refine hs dX3_become_0 (hs dX3_become_1 (hs dX3_become_2 (And.intro (ob_2) (gx (v := 0) (by simp [u2, sL, sI, mx, zr, hb]) (hs dX3_become_5 (And.intro (ob_29) (hs dX3_become_8 (hs dX3_become_9 (hs dX3_become_10 (hs dX3_become_11 (hs dX3_become_12 (And.intro (ob_2) (gx (v := 0) (by simp [u2, sL, sI, mx, zr, hb]) (hs dX3_become_15 (And.intro (fun c15 => ?_) (fun c15 => absurd (by decide) c15))))))))))))))))
      refine hs dX3_become_66 (hs dX3_become_67 (hs dX3_become_68 (And.intro (ob_2) (hs dX3_become_71 (And.intro (ob_29) (hs dX3_become_74 (hs dX3_become_75 (And.intro (ob_29) (gr (r_29_5) (hs dX3_become_78 (hs dX3_become_79 (hs dX3_become_80 (And.intro (ob_2) (gr (r_2_5) (hs dX3_become_83 (hs dX3_become_84 (And.intro (ob_18) (And.intro (vin ln_18 (by decide)) (hs dX3_become_85 (And.intro (ob_45) (And.intro (vin ln_45 (by decide)) (hs dX3_become_86 (hs dX3_become_87 (And.intro (ob_29) (gr (r_29_5) (hs dX3_become_90 (hs dX3_become_91 (hs dX3_become_92 (And.intro (ob_2) (gr (r_2_5) (hs dX3_become_95 (hs dX3_become_96 (And.intro (ob_18) (And.intro (vin ln_18 (by decide)) (hs dX3_become_97 (And.intro (ob_45) (And.intro (vin ln_45 (by decide)) (hs dX3_become_98 (And.intro (rfl) (And.intro rfl ?_))))))))))))))))))))))))))))))))))))))))
      exact hk _ (by repeat (first | exact Kr_0 | refine Kr_u ?_ (by omega))) (by simp [u2, sL, sI, mx, zr, hb, ki_0, ki_1])
    · skip
      refine hs dX3_become_0 (hs dX3_become_1 (hs dX3_become_2 (And.intro (ob_58) (gx (v := 0) (by simp [u2, sL, sI, mx, zr, hb]) (hs dX3_become_5 (And.intro (ob_2) (hs dX3_become_8 (hs dX3_become_9 (hs dX3_become_10 (hs dX3_become_11 (hs dX3_become_12 (And.intro (ob_58) (gx (v := 0) (by simp [u2, sL, sI, mx, zr, hb]) (hs dX3_become_15 (And.intro (fun c15 => ?_) (fun c15 => absurd (by decide) c15))))))))))))))))
      refine hs dX3_become_66 (hs dX3_become_67 (hs dX3_become_68 (And.intro (ob_58) (hs dX3_become_71 (And.intro (ob_2) (hs dX3_become_74 (hs dX3_become_75 (And.intro (ob_2) (gr (r_2_5) (hs dX3_become_78 (hs dX3_become_79 (hs dX3_become_80 (And.intro (ob_58) (gr (r_58_5) (hs dX3_become_83 (hs dX3_become_84 (And.intro (ob_74) (And.intro (vin ln_74 (by decide)) (hs dX3_become_85 (And.intro (ob_18) (And.intro (vin ln_18 (by decide)) (hs dX3_become_86 (hs dX3_become_87 (And.intro (ob_2) (gr (r_2_5) (hs dX3_become_90 (hs dX3_become_91 (hs dX3_become_92 (And.intro (ob_58) (gr (r_58_5) (hs dX3_become_95 (hs dX3_become_96 (And.intro (ob_74) (And.intro (vin ln_74 (by decide)) (hs dX3_become_97 (And.intro (ob_18) (And.intro (vin ln_18 (by decide)) (hs dX3_become_98 (And.intro (rfl) (And.intro rfl ?_))))))))))))))))))))))))))))))))))))))))
      exact hk _ (by repeat (first | exact Kr_0 | refine Kr_u ?_ (by omega))) (by simp [u2, sL, sI, mx, zr, hb, ki_0, ki_1])
  · exact h.elim
theorem ct_X3_become {E : Ev} {l : Launch} : CT E l yX3_become (wsY yX3_become cX3_become 3 none) rm_X3_become 0 sp_X3_become := ct_of (T := T_X3_become) (own := RX3) (by decide) rfl (fun ci h10 hc => by have h2 : (99 : Nat) = ci := Nat.eq_of_beq_eq_true hc; omega) ⟨rfl, rfl⟩ ⟨fok_X3, clok_X3, jok_X3, List.forall_mem_cons.mpr ⟨cok_V ct_X1_become (by decide) rfl ml_X3_35 im_X1_become se_X1_become co_X1_become mo_X1_become (by decide), fun _ h => absurd h List.not_mem_nil⟩⟩ bd_X3_become
def sp_X3_isLike : Spc := fun as N lg it rf K => match as with | [.ref b, .ref s] => (N = NT ∧ rf = RF0 ∧ ((b = 58 ∧ s = 2) ∨ (b = 58 ∧ s = 450)) ∧ it b 0 = 0 ∧ it s 0 = 0) ∧ K (some (.int 0)) lg it rf ∧ K (some (.int 1)) lg it rf | _ => False
def T_X3_isLike : Tab := (FL_X3, CL_X3, JL_X3, [], 99, (some .boolean))
def rm_X3_isLike : Room := { frames := 0, cells := 0, slots := 0, locals := 0 }
set_option maxHeartbeats 16000000 in
set_option maxRecDepth 100000 in
theorem bd_X3_isLike (as : List Value) (N : Nat) (lg : LGt) (it : ITt) (rf : RFt) (Q : Post) (h : sp_X3_isLike as N lg it rf Q) : Bd T_X3_isLike cX3_isLike 3 0 as N lg it rf Q := by
  unfold sp_X3_isLike at h
  split at h
  · rename_i b s
    refine ⟨Nat.le_of_ble_eq_true rfl, fun P hs hw => ?_⟩
    obtain ⟨⟨rfl, rfl, hp, hb1, hb2⟩, hk⟩ := h
    rcases hp with ⟨rfl, rfl⟩ | ⟨rfl, rfl⟩
    · skip
      refine hs dX3_isLike_0 (hs dX3_isLike_1 (And.intro (ob_58) (gx (v := 0) (by simp [u2, sL, sI, mx, zr, hb1]) (hs dX3_isLike_4 (hs dX3_isLike_5 (And.intro (ob_2) (gx (v := 0) (by simp [u2, sL, sI, mx, zr, hb2]) (hs dX3_isLike_8 (And.intro (fun c8 => absurd rfl c8) (fun c8 => (hs dX3_isLike_11 (hs dX3_isLike_12 (And.intro (ob_58) (hs dX3_isLike_15 (hs dX3_isLike_16 (And.intro (ob_2) (hs dX3_isLike_19 (And.intro (fun c19 => ?_) (fun c19 => ?_)))))))))))))))))))
      · try dsimp only at c19
        try simp only [ki_0, ki_1] at c19
        refine hs dX3_isLike_52 (hs dX3_isLike_53 (And.intro (rfl) (And.intro rfl (And.intro (rfl) ?_))))
        exact hk.1
      · try dsimp only at c19
        try simp only [ki_0, ki_1] at c19
        refine hs dX3_isLike_22 (hs dX3_isLike_23 (And.intro (ob_58) (gr (r_58_5) (hs dX3_isLike_26 (hs dX3_isLike_27 (And.intro (ob_74) (And.intro (vin ln_74 (by decide)) (hs dX3_isLike_28 (hs dX3_isLike_29 (And.intro (ob_2) (gr (r_2_5) (hs dX3_isLike_32 (hs dX3_isLike_33 (And.intro (ob_18) (And.intro (vin ln_18 (by decide)) (hs dX3_isLike_34 (And.intro (fun c34 => ?_) (fun c34 => ?_))))))))))))))))))
        · try dsimp only at c34
          try simp only [ki_0, ki_1] at c34
          refine hs dX3_isLike_52 (hs dX3_isLike_53 (And.intro (rfl) (And.intro rfl (And.intro (rfl) ?_))))
          exact hk.1
        · try dsimp only at c34
          try simp only [ki_0, ki_1] at c34
          refine hs dX3_isLike_37 (hs dX3_isLike_38 (And.intro (ob_58) (gr (r_58_5) (hs dX3_isLike_41 (hs dX3_isLike_42 (And.intro (ob_74) (And.intro (vin ln_74 (by decide)) (hs dX3_isLike_43 (hs dX3_isLike_44 (And.intro (ob_2) (gr (r_2_5) (hs dX3_isLike_47 (hs dX3_isLike_48 (And.intro (ob_18) (And.intro (vin ln_18 (by decide)) (hs dX3_isLike_49 (And.intro (fun c49 => ?_) (fun c49 => ?_))))))))))))))))))
          · try dsimp only at c49
            try simp only [ki_0, ki_1] at c49
            refine hs dX3_isLike_54 (hs dX3_isLike_55 (hs dX3_isLike_56 (hs dX3_isLike_57 (hs dX3_isLike_58 (And.intro (ob_58) (gx (v := 0) (by simp [u2, sL, sI, mx, zr, hb1]) (hs dX3_isLike_61 (And.intro (fun c61 => ?_) (fun c61 => absurd (by decide) c61)))))))))
            refine hs dX3_isLike_123 (hs dX3_isLike_124 (And.intro (rfl) (And.intro rfl (And.intro (rfl) ?_))))
            exact hk.2
          · try dsimp only at c49
            try simp only [ki_0, ki_1] at c49
            refine hs dX3_isLike_52 (hs dX3_isLike_53 (And.intro (rfl) (And.intro rfl (And.intro (rfl) ?_))))
            exact hk.1
    · skip
      refine hs dX3_isLike_0 (hs dX3_isLike_1 (And.intro (ob_58) (gx (v := 0) (by simp [u2, sL, sI, mx, zr, hb1]) (hs dX3_isLike_4 (hs dX3_isLike_5 (And.intro (ob_450) (gx (v := 0) (by simp [u2, sL, sI, mx, zr, hb2]) (hs dX3_isLike_8 (And.intro (fun c8 => absurd rfl c8) (fun c8 => (hs dX3_isLike_11 (hs dX3_isLike_12 (And.intro (ob_58) (hs dX3_isLike_15 (hs dX3_isLike_16 (And.intro (ob_450) (hs dX3_isLike_19 (And.intro (fun c19 => ?_) (fun c19 => ?_)))))))))))))))))))
      · try dsimp only at c19
        try simp only [ki_0, ki_1] at c19
        refine hs dX3_isLike_52 (hs dX3_isLike_53 (And.intro (rfl) (And.intro rfl (And.intro (rfl) ?_))))
        exact hk.1
      · try dsimp only at c19
        try simp only [ki_0, ki_1] at c19
        refine hs dX3_isLike_22 (hs dX3_isLike_23 (And.intro (ob_58) (gr (r_58_5) (hs dX3_isLike_26 (hs dX3_isLike_27 (And.intro (ob_74) (And.intro (vin ln_74 (by decide)) (hs dX3_isLike_28 (hs dX3_isLike_29 (And.intro (ob_450) (gr (r_450_5) (hs dX3_isLike_32 (hs dX3_isLike_33 (And.intro (ob_466) (And.intro (vin ln_466 (by decide)) (hs dX3_isLike_34 (And.intro (fun c34 => ?_) (fun c34 => ?_))))))))))))))))))
        · try dsimp only at c34
          try simp only [ki_0, ki_1] at c34
          refine hs dX3_isLike_52 (hs dX3_isLike_53 (And.intro (rfl) (And.intro rfl (And.intro (rfl) ?_))))
          exact hk.1
        · try dsimp only at c34
          try simp only [ki_0, ki_1] at c34
          refine hs dX3_isLike_37 (hs dX3_isLike_38 (And.intro (ob_58) (gr (r_58_5) (hs dX3_isLike_41 (hs dX3_isLike_42 (And.intro (ob_74) (And.intro (vin ln_74 (by decide)) (hs dX3_isLike_43 (hs dX3_isLike_44 (And.intro (ob_450) (gr (r_450_5) (hs dX3_isLike_47 (hs dX3_isLike_48 (And.intro (ob_466) (And.intro (vin ln_466 (by decide)) (hs dX3_isLike_49 (And.intro (fun c49 => ?_) (fun c49 => ?_))))))))))))))))))
          · try dsimp only at c49
            try simp only [ki_0, ki_1] at c49
            refine hs dX3_isLike_54 (hs dX3_isLike_55 (hs dX3_isLike_56 (hs dX3_isLike_57 (hs dX3_isLike_58 (And.intro (ob_58) (gx (v := 0) (by simp [u2, sL, sI, mx, zr, hb1]) (hs dX3_isLike_61 (And.intro (fun c61 => ?_) (fun c61 => absurd (by decide) c61)))))))))
            refine hs dX3_isLike_123 (hs dX3_isLike_124 (And.intro (rfl) (And.intro rfl (And.intro (rfl) ?_))))
            exact hk.2
          · try dsimp only at c49
            try simp only [ki_0, ki_1] at c49
            refine hs dX3_isLike_52 (hs dX3_isLike_53 (And.intro (rfl) (And.intro rfl (And.intro (rfl) ?_))))
            exact hk.1
  · exact h.elim
theorem ct_X3_isLike {E : Ev} {l : Launch} : CT E l yX3_isLike (wsY yX3_isLike cX3_isLike 3 (some .boolean)) rm_X3_isLike 0 sp_X3_isLike := ct_of (T := T_X3_isLike) (own := RX3) (by decide) rfl (fun ci h10 hc => by have h2 : (99 : Nat) = ci := Nat.eq_of_beq_eq_true hc; omega) ⟨rfl, rfl⟩ ⟨fok_X3, clok_X3, jok_X3, fun _ h => absurd h List.not_mem_nil⟩ bd_X3_isLike
def sp_X5_find : Spc := fun as N lg it rf K => match as with | [.ref 437, .ref 76] => (N = NT ∧ rf = RF0 ∧ it 76 0 = 0) ∧ K (some (.int (-5))) lg it rf | _ => False
def T_X5_find : Tab := (FL_X5, CL_X5, JL_X5, [(61, 0, 2, 1, 0, sp_X1_become)], 99, (some .int))
def rm_X5_find : Room := { frames := 1, cells := 0, slots := 0, locals := 21 }
set_option maxHeartbeats 16000000 in
set_option maxRecDepth 100000 in
theorem bd_X5_find (as : List Value) (N : Nat) (lg : LGt) (it : ITt) (rf : RFt) (Q : Post) (h : sp_X5_find as N lg it rf Q) : Bd T_X5_find cX5_find 4 0 as N lg it rf Q := by
  unfold sp_X5_find at h
  split at h
  · refine ⟨Nat.le_of_ble_eq_true rfl, fun P hs hw => ?_⟩
    obtain ⟨⟨rfl, rfl, hb⟩, hk⟩ := h
    refine hs dX5_find_0 (hs dX5_find_2 (hs dX5_find_3 (hs dX5_find_4 (And.intro (ob_76) (gx (v := 0) (by simp [u2, sL, sI, mx, zr, hb]) (hs dX5_find_7 (And.intro (fun c7 => absurd rfl c7) (fun c7 => (hs dX5_find_10 (hs dX5_find_11 (And.intro (rfl) (And.intro rfl ?_))))))))))))
    exact hk
  · exact h.elim
theorem ct_X5_find {E : Ev} {l : Launch} : CT E l yX5_find (wsY yX5_find cX5_find 4 (some .int)) rm_X5_find 0 sp_X5_find := ct_of (T := T_X5_find) (own := RX5) (by decide) rfl (fun ci h10 hc => by have h2 : (99 : Nat) = ci := Nat.eq_of_beq_eq_true hc; omega) ⟨rfl, rfl⟩ ⟨fok_X5, clok_X5, jok_X5, List.forall_mem_cons.mpr ⟨cok_V ct_X1_become (by decide) rfl ml_X5_61 im_X1_become se_X1_become co_X1_become mo_X1_become (by decide), fun _ h => absurd h List.not_mem_nil⟩⟩ bd_X5_find
def sp_X0_work : Spc := fun as N lg it rf K => match as with | [.ref 55, .ref r, .int n] => (N = NT ∧ rf = RF0 ∧ (r = 2 ∨ r = 450) ∧ (0 ≤ n.toInt ∧ n.toInt ≤ 20) ∧ it r 0 = 0 ∧ it 55 3 = 0 ∧ (it 55 5 = n → it 55 4 = (if n.toInt = 0 then 1 else 0)) ∧ it 58 0 = 0) ∧ ∀ lg' it', Kw lg lg' → Kw it it' → it' 55 3 = 0 → it' 55 4 = (if n.toInt = 0 then 1 else 0) → it' 58 0 = 0 → it' 55 5 = n → K none lg' it' rf | _ => False
def T_X0_work : Tab := (FL_X0, CL_X0, JL_X0, [(46, 0, 2, 3, 0, sp_X3_isLike), (50, 0, 2, 3, 0, sp_X3_become), (54, 0, 2, 1, 0, sp_X1_becomeWhole), (58, 0, 2, 1, 0, sp_X1_become), (61, 0, 2, 5, 0, sp_X5_find)], 99, none)
def rm_X0_work : Room := { frames := 2, cells := 0, slots := 0, locals := 44 }
set_option maxHeartbeats 16000000 in
set_option maxRecDepth 100000 in
theorem bd_X0_work (as : List Value) (N : Nat) (lg : LGt) (it : ITt) (rf : RFt) (Q : Post) (h : sp_X0_work as N lg it rf Q) : Bd T_X0_work cX0_work 6 0 as N lg it rf Q := by
  unfold sp_X0_work at h
  split at h
  · rename_i r n
    refine ⟨Nat.le_of_ble_eq_true rfl, fun P hs hw => ?_⟩
    obtain ⟨⟨rfl, rfl, hr, hn, hs0, h3s, he, h58⟩, hk⟩ := h
    rcases hr with rfl | rfl
    · skip
      refine hs dX0_work_0 (hs dX0_work_1 (And.intro (ob_55) (hs dX0_work_4 (hs dX0_work_5 (And.intro (fun c5 => ?_) (fun c5 => ?_))))))
      · try dsimp only at c5
        try simp only [kb_m6, kb_m5, kb_20, ki_0, ki_1, ki_2, kl_0] at c5
        refine hs dX0_work_22 (hs dX0_work_23 (hs dX0_work_24 (And.intro (ob_55) (hs dX0_work_27 (hs dX0_work_28 (And.intro (ob_55) (gr (r_55_0) (hs dX0_work_31 (hs dX0_work_32 (And.intro (oa_56) (And.intro (vin ln_56 (by decide)) (grv (r_56_0) (hs dX0_work_33 (hs dX0_work_34 (And.intro (ob_58) (And.intro ⟨rfl, rfl, Or.inl ⟨rfl, rfl⟩, by simp [u2, sL, sI, mx, zr, hs0]⟩ (fun it13 hR13 hZ13 => n0 ?_ )))))))))))))))))
        have f13_it_55_3 : it13 55 3 = 0 := (congrFun (hR13 55 (by decide)) 3).trans (by simp [u2, sL, sI, mx, zr, h3s])
        have f13_it_55_5 : it13 55 5 = n := (congrFun (hR13 55 (by decide)) 5).trans (by simp [u2, sL, sI, mx, zr, kb_m6, kb_m5, kb_20, ki_0, ki_1, ki_2, kl_0])
        refine hs dX0_work_37 (hs dX0_work_38 (And.intro (ob_55) (gr (r_55_1) (hs dX0_work_41 (hs dX0_work_42 (And.intro (oa_57) (And.intro (vin ln_57 (by decide)) (grv (r_57_0) (hs dX0_work_43 (hs dX0_work_44 (And.intro (ob_75) (And.intro ob_75 (n0 (hs dX0_work_47 (hs dX0_work_48 (hs dX0_work_49 (And.intro (ob_55) (hs dX0_work_52 (hs dX0_work_53 (hs dX0_work_54 (And.intro (ob_55) (hs dX0_work_57 (hs dX0_work_58 (hs dX0_work_59 (hs dX0_work_60 (hs dX0_work_61 (And.intro (fun c61 => ?_) (fun c61 => ?_))))))))))))))))))))))))))))
        · try dsimp only at c61
          try simp only [kb_m6, kb_m5, kb_20, ki_0, ki_1, ki_2, kl_0] at c61
          refine hs dX0_work_188 (And.intro (rfl) (And.intro rfl ?_))
          try simp only [kb_m6, kb_m5, kb_20, ki_0, ki_1, ki_2, kl_0, b2_0, b2_1] at c5 c61
          try simp only [Int32.lt_iff_toInt_lt, Int32.le_iff_toInt_le, ← Int32.toInt_inj, ti_m6, ti_m5, ti_0, ti_1, ti_2, ti_20] at c5 c61
          exact hk _ _ (by repeat (first | exact Kw_0 | assumption | refine Kw_r ?_ (by assumption) (by omega) | refine Kw_u ?_ (by omega) | refine Kw_sL ?_ (by omega) | refine Kw_sI ?_ (by omega))) (by repeat (first | exact Kw_0 | assumption | refine Kw_r ?_ (by assumption) (by omega) | refine Kw_u ?_ (by omega) | refine Kw_sL ?_ (by omega) | refine Kw_sI ?_ (by omega))) (by simp [u2, sL, sI, mx, zr, kb_m6, kb_m5, kb_20, ki_0, ki_1, ki_2, kl_0, f13_it_55_3, f13_it_55_5, hZ13]) (by first | (rw [if_pos (by omega)]; simp [u2, sL, sI, mx, zr, kb_m6, kb_m5, kb_20, ki_0, ki_1, ki_2, kl_0, f13_it_55_3, f13_it_55_5, hZ13]) | (rw [if_neg (by omega)]; simp [u2, sL, sI, mx, zr, kb_m6, kb_m5, kb_20, ki_0, ki_1, ki_2, kl_0, f13_it_55_3, f13_it_55_5, hZ13])) (by simp [u2, sL, sI, mx, zr, kb_m6, kb_m5, kb_20, ki_0, ki_1, ki_2, kl_0, f13_it_55_3, f13_it_55_5, hZ13]) (by simp [u2, sL, sI, mx, zr, kb_m6, kb_m5, kb_20, ki_0, ki_1, ki_2, kl_0, f13_it_55_3, f13_it_55_5, hZ13])
        · try dsimp only at c61
          try simp only [kb_m6, kb_m5, kb_20, ki_0, ki_1, ki_2, kl_0] at c61
          refine hs dX0_work_64 (hs dX0_work_65 (hs dX0_work_67 (And.intro (fun c67 => absurd c67 (by decide)) (fun c67 => (hs dX0_work_70 (hs dX0_work_71 (And.intro (ob_55) (gr (r_55_0) (hs dX0_work_74 (hs dX0_work_75 (hs dX0_work_76 (hs dX0_work_77 (And.intro (oa_56) (And.intro (vin ln_56 (by decide)) (grv (r_56_1) (hs dX0_work_78 (hs dX0_work_80 (hs dX0_work_82 (hs dX0_work_83 (And.intro (ob_55) (gr (r_55_0) (hs dX0_work_86 (hs dX0_work_87 (And.intro (oa_56) (And.intro (vin ln_56 (by decide)) (grv (r_56_0) (hs dX0_work_88 (And.intro (ob_76) (And.intro ⟨rfl, rfl, Or.inr (Or.inr (Or.inl ⟨rfl, rfl⟩)), by simp [u2, sL, sI, mx, zr, hZ13]⟩ (fun it14 hR14 hZ14 => n0 ?_ ))))))))))))))))))))))))))))))
          have f14_it_55_3 : it14 55 3 = 0 := (congrFun (hR14 55 (by decide)) 3).trans (by simp [u2, sL, sI, mx, zr, kb_m6, kb_m5, kb_20, ki_0, ki_1, ki_2, kl_0])
          have f14_it_55_4 : it14 55 4 = 1 := (congrFun (hR14 55 (by decide)) 4).trans (by simp [u2, sL, sI, mx, zr, kb_m6, kb_m5, kb_20, ki_0, ki_1, ki_2, kl_0])
          have f14_it_55_5 : it14 55 5 = n := (congrFun (hR14 55 (by decide)) 5).trans (by simp [u2, sL, sI, mx, zr, f13_it_55_5])
          have f14_it_58_0 : it14 58 0 = 0 := (congrFun (hR14 58 (by decide)) 0).trans (by simp [u2, sL, sI, mx, zr, hZ13])
          have f14_it_75_2 : it14 75 2 = 0 := (congrFun (hR14 75 (by decide)) 2).trans (by simp [u2, sL, sI, mx, zr, kb_m6, kb_m5, kb_20, ki_0, ki_1, ki_2, kl_0])
          refine hs dX0_work_91 (hs dX0_work_92 (And.intro (ob_55) (gr (r_55_1) (hs dX0_work_95 (hs dX0_work_96 (hs dX0_work_97 (hs dX0_work_98 (And.intro (oa_57) (And.intro (vin ln_57 (by decide)) (grv (r_57_1) (hs dX0_work_99 (hs dX0_work_100 (And.intro (ob_55) (gr (r_55_1) (hs dX0_work_103 (hs dX0_work_104 (And.intro (oa_57) (And.intro (vin ln_57 (by decide)) (grv (r_57_0) (hs dX0_work_105 (And.intro (ob_93) (And.intro ⟨ob_93, ob_75, and1_0 (by simp [u2, sL, sI, mx, zr, f14_it_75_2])⟩ (n0 (hs dX0_work_108 (hs dX0_work_109 (And.intro (ob_55) (gr (r_55_6) (hs dX0_work_112 (hs dX0_work_114 (And.intro (ob_437) (And.intro ⟨rfl, rfl, by simp [u2, sL, sI, mx, zr, hZ14]⟩ (n0 (hs dX0_work_117 (hs dX0_work_119 (hs dX0_work_121 (hs dX0_work_123 (And.intro (fun c123 => absurd rfl c123) (fun c123 => (hs dX0_work_126 (hs dX0_work_127 (hs dX0_work_128 (And.intro (ob_55) (hs dX0_work_131 (And.intro (rfl) (And.intro rfl ?_)))))))))))))))))))))))))))))))))))))))))))))
          try simp only [kb_m6, kb_m5, kb_20, ki_0, ki_1, ki_2, kl_0, b2_0, b2_1] at c5 c61
          try simp only [Int32.lt_iff_toInt_lt, Int32.le_iff_toInt_le, ← Int32.toInt_inj, ti_m6, ti_m5, ti_0, ti_1, ti_2, ti_20] at c5 c61
          exact hk _ _ (by repeat (first | exact Kw_0 | assumption | refine Kw_r ?_ (by assumption) (by omega) | refine Kw_u ?_ (by omega) | refine Kw_sL ?_ (by omega) | refine Kw_sI ?_ (by omega))) (by repeat (first | exact Kw_0 | assumption | refine Kw_r ?_ (by assumption) (by omega) | refine Kw_u ?_ (by omega) | refine Kw_sL ?_ (by omega) | refine Kw_sI ?_ (by omega))) (by simp [u2, sL, sI, mx, zr, kb_m6, kb_m5, kb_20, ki_0, ki_1, ki_2, kl_0, f14_it_55_3, f14_it_55_4, f14_it_55_5, f14_it_58_0, f14_it_75_2, hZ14]) (by first | (rw [if_pos (by omega)]; simp [u2, sL, sI, mx, zr, kb_m6, kb_m5, kb_20, ki_0, ki_1, ki_2, kl_0, f14_it_55_3, f14_it_55_4, f14_it_55_5, f14_it_58_0, f14_it_75_2, hZ14]) | (rw [if_neg (by omega)]; simp [u2, sL, sI, mx, zr, kb_m6, kb_m5, kb_20, ki_0, ki_1, ki_2, kl_0, f14_it_55_3, f14_it_55_4, f14_it_55_5, f14_it_58_0, f14_it_75_2, hZ14])) (by simp [u2, sL, sI, mx, zr, kb_m6, kb_m5, kb_20, ki_0, ki_1, ki_2, kl_0, f14_it_55_3, f14_it_55_4, f14_it_55_5, f14_it_58_0, f14_it_75_2, hZ14]) (by simp [u2, sL, sI, mx, zr, kb_m6, kb_m5, kb_20, ki_0, ki_1, ki_2, kl_0, f14_it_55_3, f14_it_55_4, f14_it_55_5, f14_it_58_0, f14_it_75_2, hZ14])
      · try dsimp only at c5
        try simp only [kb_m6, kb_m5, kb_20, ki_0, ki_1, ki_2, kl_0] at c5
        refine hs dX0_work_8 (hs dX0_work_9 (And.intro (ob_55) (gr (r_55_0) (hs dX0_work_12 (hs dX0_work_13 (And.intro (oa_56) (And.intro (vin ln_56 (by decide)) (grv (r_56_0) (hs dX0_work_14 (hs dX0_work_15 (And.intro (ob_58) (And.intro ⟨rfl, rfl, Or.inl ⟨rfl, rfl⟩, by simp [u2, sL, sI, mx, zr, h58], by simp [u2, sL, sI, mx, zr, hs0]⟩ (And.intro (n0 ?_) (n0 ?_))))))))))))))
        · skip
          refine hs dX0_work_18 (And.intro (fun c18 => ?_) (fun c18 => absurd (by decide) c18))
          refine hs dX0_work_22 (hs dX0_work_23 (hs dX0_work_24 (And.intro (ob_55) (hs dX0_work_27 (hs dX0_work_28 (And.intro (ob_55) (gr (r_55_0) (hs dX0_work_31 (hs dX0_work_32 (And.intro (oa_56) (And.intro (vin ln_56 (by decide)) (grv (r_56_0) (hs dX0_work_33 (hs dX0_work_34 (And.intro (ob_58) (And.intro ⟨rfl, rfl, Or.inl ⟨rfl, rfl⟩, by simp [u2, sL, sI, mx, zr, hs0]⟩ (fun it15 hR15 hZ15 => n0 ?_ )))))))))))))))))
          have f15_it_55_3 : it15 55 3 = 0 := (congrFun (hR15 55 (by decide)) 3).trans (by simp [u2, sL, sI, mx, zr, h3s])
          have f15_it_55_5 : it15 55 5 = n := (congrFun (hR15 55 (by decide)) 5).trans (by simp [u2, sL, sI, mx, zr, kb_m6, kb_m5, kb_20, ki_0, ki_1, ki_2, kl_0])
          refine hs dX0_work_37 (hs dX0_work_38 (And.intro (ob_55) (gr (r_55_1) (hs dX0_work_41 (hs dX0_work_42 (And.intro (oa_57) (And.intro (vin ln_57 (by decide)) (grv (r_57_0) (hs dX0_work_43 (hs dX0_work_44 (And.intro (ob_75) (And.intro ob_75 (n0 (hs dX0_work_47 (hs dX0_work_48 (hs dX0_work_49 (And.intro (ob_55) (hs dX0_work_52 (hs dX0_work_53 (hs dX0_work_54 (And.intro (ob_55) (hs dX0_work_57 (hs dX0_work_58 (hs dX0_work_59 (hs dX0_work_60 (hs dX0_work_61 (And.intro (fun c61 => ?_) (fun c61 => ?_))))))))))))))))))))))))))))
          · try dsimp only at c61
            try simp only [kb_m6, kb_m5, kb_20, ki_0, ki_1, ki_2, kl_0] at c61
            refine hs dX0_work_188 (And.intro (rfl) (And.intro rfl ?_))
            try simp only [kb_m6, kb_m5, kb_20, ki_0, ki_1, ki_2, kl_0, b2_0, b2_1] at c5 c61
            try simp only [Int32.lt_iff_toInt_lt, Int32.le_iff_toInt_le, ← Int32.toInt_inj, ti_m6, ti_m5, ti_0, ti_1, ti_2, ti_20] at c5 c61
            exact hk _ _ (by repeat (first | exact Kw_0 | assumption | refine Kw_r ?_ (by assumption) (by omega) | refine Kw_u ?_ (by omega) | refine Kw_sL ?_ (by omega) | refine Kw_sI ?_ (by omega))) (by repeat (first | exact Kw_0 | assumption | refine Kw_r ?_ (by assumption) (by omega) | refine Kw_u ?_ (by omega) | refine Kw_sL ?_ (by omega) | refine Kw_sI ?_ (by omega))) (by simp [u2, sL, sI, mx, zr, kb_m6, kb_m5, kb_20, ki_0, ki_1, ki_2, kl_0, f15_it_55_3, f15_it_55_5, hZ15]) (by first | (rw [if_pos (by omega)]; simp [u2, sL, sI, mx, zr, kb_m6, kb_m5, kb_20, ki_0, ki_1, ki_2, kl_0, f15_it_55_3, f15_it_55_5, hZ15]) | (rw [if_neg (by omega)]; simp [u2, sL, sI, mx, zr, kb_m6, kb_m5, kb_20, ki_0, ki_1, ki_2, kl_0, f15_it_55_3, f15_it_55_5, hZ15])) (by simp [u2, sL, sI, mx, zr, kb_m6, kb_m5, kb_20, ki_0, ki_1, ki_2, kl_0, f15_it_55_3, f15_it_55_5, hZ15]) (by simp [u2, sL, sI, mx, zr, kb_m6, kb_m5, kb_20, ki_0, ki_1, ki_2, kl_0, f15_it_55_3, f15_it_55_5, hZ15])
          · try dsimp only at c61
            try simp only [kb_m6, kb_m5, kb_20, ki_0, ki_1, ki_2, kl_0] at c61
            refine hs dX0_work_64 (hs dX0_work_65 (hs dX0_work_67 (And.intro (fun c67 => absurd c67 (by decide)) (fun c67 => (hs dX0_work_70 (hs dX0_work_71 (And.intro (ob_55) (gr (r_55_0) (hs dX0_work_74 (hs dX0_work_75 (hs dX0_work_76 (hs dX0_work_77 (And.intro (oa_56) (And.intro (vin ln_56 (by decide)) (grv (r_56_1) (hs dX0_work_78 (hs dX0_work_80 (hs dX0_work_82 (hs dX0_work_83 (And.intro (ob_55) (gr (r_55_0) (hs dX0_work_86 (hs dX0_work_87 (And.intro (oa_56) (And.intro (vin ln_56 (by decide)) (grv (r_56_0) (hs dX0_work_88 (And.intro (ob_76) (And.intro ⟨rfl, rfl, Or.inr (Or.inr (Or.inl ⟨rfl, rfl⟩)), by simp [u2, sL, sI, mx, zr, hZ15]⟩ (fun it16 hR16 hZ16 => n0 ?_ ))))))))))))))))))))))))))))))
            have f16_it_55_3 : it16 55 3 = 0 := (congrFun (hR16 55 (by decide)) 3).trans (by simp [u2, sL, sI, mx, zr, kb_m6, kb_m5, kb_20, ki_0, ki_1, ki_2, kl_0])
            have f16_it_55_4 : it16 55 4 = 1 := (congrFun (hR16 55 (by decide)) 4).trans (by simp [u2, sL, sI, mx, zr, kb_m6, kb_m5, kb_20, ki_0, ki_1, ki_2, kl_0])
            have f16_it_55_5 : it16 55 5 = n := (congrFun (hR16 55 (by decide)) 5).trans (by simp [u2, sL, sI, mx, zr, f15_it_55_5])
            have f16_it_58_0 : it16 58 0 = 0 := (congrFun (hR16 58 (by decide)) 0).trans (by simp [u2, sL, sI, mx, zr, hZ15])
            have f16_it_75_2 : it16 75 2 = 0 := (congrFun (hR16 75 (by decide)) 2).trans (by simp [u2, sL, sI, mx, zr, kb_m6, kb_m5, kb_20, ki_0, ki_1, ki_2, kl_0])
            refine hs dX0_work_91 (hs dX0_work_92 (And.intro (ob_55) (gr (r_55_1) (hs dX0_work_95 (hs dX0_work_96 (hs dX0_work_97 (hs dX0_work_98 (And.intro (oa_57) (And.intro (vin ln_57 (by decide)) (grv (r_57_1) (hs dX0_work_99 (hs dX0_work_100 (And.intro (ob_55) (gr (r_55_1) (hs dX0_work_103 (hs dX0_work_104 (And.intro (oa_57) (And.intro (vin ln_57 (by decide)) (grv (r_57_0) (hs dX0_work_105 (And.intro (ob_93) (And.intro ⟨ob_93, ob_75, and1_0 (by simp [u2, sL, sI, mx, zr, f16_it_75_2])⟩ (n0 (hs dX0_work_108 (hs dX0_work_109 (And.intro (ob_55) (gr (r_55_6) (hs dX0_work_112 (hs dX0_work_114 (And.intro (ob_437) (And.intro ⟨rfl, rfl, by simp [u2, sL, sI, mx, zr, hZ16]⟩ (n0 (hs dX0_work_117 (hs dX0_work_119 (hs dX0_work_121 (hs dX0_work_123 (And.intro (fun c123 => absurd rfl c123) (fun c123 => (hs dX0_work_126 (hs dX0_work_127 (hs dX0_work_128 (And.intro (ob_55) (hs dX0_work_131 (And.intro (rfl) (And.intro rfl ?_)))))))))))))))))))))))))))))))))))))))))))))
            try simp only [kb_m6, kb_m5, kb_20, ki_0, ki_1, ki_2, kl_0, b2_0, b2_1] at c5 c61
            try simp only [Int32.lt_iff_toInt_lt, Int32.le_iff_toInt_le, ← Int32.toInt_inj, ti_m6, ti_m5, ti_0, ti_1, ti_2, ti_20] at c5 c61
            exact hk _ _ (by repeat (first | exact Kw_0 | assumption | refine Kw_r ?_ (by assumption) (by omega) | refine Kw_u ?_ (by omega) | refine Kw_sL ?_ (by omega) | refine Kw_sI ?_ (by omega))) (by repeat (first | exact Kw_0 | assumption | refine Kw_r ?_ (by assumption) (by omega) | refine Kw_u ?_ (by omega) | refine Kw_sL ?_ (by omega) | refine Kw_sI ?_ (by omega))) (by simp [u2, sL, sI, mx, zr, kb_m6, kb_m5, kb_20, ki_0, ki_1, ki_2, kl_0, f16_it_55_3, f16_it_55_4, f16_it_55_5, f16_it_58_0, f16_it_75_2, hZ16]) (by first | (rw [if_pos (by omega)]; simp [u2, sL, sI, mx, zr, kb_m6, kb_m5, kb_20, ki_0, ki_1, ki_2, kl_0, f16_it_55_3, f16_it_55_4, f16_it_55_5, f16_it_58_0, f16_it_75_2, hZ16]) | (rw [if_neg (by omega)]; simp [u2, sL, sI, mx, zr, kb_m6, kb_m5, kb_20, ki_0, ki_1, ki_2, kl_0, f16_it_55_3, f16_it_55_4, f16_it_55_5, f16_it_58_0, f16_it_75_2, hZ16])) (by simp [u2, sL, sI, mx, zr, kb_m6, kb_m5, kb_20, ki_0, ki_1, ki_2, kl_0, f16_it_55_3, f16_it_55_4, f16_it_55_5, f16_it_58_0, f16_it_75_2, hZ16]) (by simp [u2, sL, sI, mx, zr, kb_m6, kb_m5, kb_20, ki_0, ki_1, ki_2, kl_0, f16_it_55_3, f16_it_55_4, f16_it_55_5, f16_it_58_0, f16_it_75_2, hZ16])
        · skip
          refine hs dX0_work_18 (And.intro (fun c18 => absurd c18 (by decide)) (fun c18 => (hs dX0_work_21 (And.intro (rfl) (And.intro rfl ?_)))))
          have q : it 55 5 = n := c5
          exact hk _ _ Kw_0 Kw_0 h3s (he q) h58 q
    · skip
      refine hs dX0_work_0 (hs dX0_work_1 (And.intro (ob_55) (hs dX0_work_4 (hs dX0_work_5 (And.intro (fun c5 => ?_) (fun c5 => ?_))))))
      · try dsimp only at c5
        try simp only [kb_m6, kb_m5, kb_20, ki_0, ki_1, ki_2, kl_0] at c5
        refine hs dX0_work_22 (hs dX0_work_23 (hs dX0_work_24 (And.intro (ob_55) (hs dX0_work_27 (hs dX0_work_28 (And.intro (ob_55) (gr (r_55_0) (hs dX0_work_31 (hs dX0_work_32 (And.intro (oa_56) (And.intro (vin ln_56 (by decide)) (grv (r_56_0) (hs dX0_work_33 (hs dX0_work_34 (And.intro (ob_58) (And.intro ⟨rfl, rfl, Or.inr (Or.inl ⟨rfl, rfl⟩), by simp [u2, sL, sI, mx, zr, hs0]⟩ (fun it17 hR17 hZ17 => n0 ?_ )))))))))))))))))
        have f17_it_55_3 : it17 55 3 = 0 := (congrFun (hR17 55 (by decide)) 3).trans (by simp [u2, sL, sI, mx, zr, h3s])
        have f17_it_55_5 : it17 55 5 = n := (congrFun (hR17 55 (by decide)) 5).trans (by simp [u2, sL, sI, mx, zr, kb_m6, kb_m5, kb_20, ki_0, ki_1, ki_2, kl_0])
        refine hs dX0_work_37 (hs dX0_work_38 (And.intro (ob_55) (gr (r_55_1) (hs dX0_work_41 (hs dX0_work_42 (And.intro (oa_57) (And.intro (vin ln_57 (by decide)) (grv (r_57_0) (hs dX0_work_43 (hs dX0_work_44 (And.intro (ob_75) (And.intro ob_75 (n0 (hs dX0_work_47 (hs dX0_work_48 (hs dX0_work_49 (And.intro (ob_55) (hs dX0_work_52 (hs dX0_work_53 (hs dX0_work_54 (And.intro (ob_55) (hs dX0_work_57 (hs dX0_work_58 (hs dX0_work_59 (hs dX0_work_60 (hs dX0_work_61 (And.intro (fun c61 => ?_) (fun c61 => ?_))))))))))))))))))))))))))))
        · try dsimp only at c61
          try simp only [kb_m6, kb_m5, kb_20, ki_0, ki_1, ki_2, kl_0] at c61
          refine hs dX0_work_188 (And.intro (rfl) (And.intro rfl ?_))
          try simp only [kb_m6, kb_m5, kb_20, ki_0, ki_1, ki_2, kl_0, b2_0, b2_1] at c5 c61
          try simp only [Int32.lt_iff_toInt_lt, Int32.le_iff_toInt_le, ← Int32.toInt_inj, ti_m6, ti_m5, ti_0, ti_1, ti_2, ti_20] at c5 c61
          exact hk _ _ (by repeat (first | exact Kw_0 | assumption | refine Kw_r ?_ (by assumption) (by omega) | refine Kw_u ?_ (by omega) | refine Kw_sL ?_ (by omega) | refine Kw_sI ?_ (by omega))) (by repeat (first | exact Kw_0 | assumption | refine Kw_r ?_ (by assumption) (by omega) | refine Kw_u ?_ (by omega) | refine Kw_sL ?_ (by omega) | refine Kw_sI ?_ (by omega))) (by simp [u2, sL, sI, mx, zr, kb_m6, kb_m5, kb_20, ki_0, ki_1, ki_2, kl_0, f17_it_55_3, f17_it_55_5, hZ17]) (by first | (rw [if_pos (by omega)]; simp [u2, sL, sI, mx, zr, kb_m6, kb_m5, kb_20, ki_0, ki_1, ki_2, kl_0, f17_it_55_3, f17_it_55_5, hZ17]) | (rw [if_neg (by omega)]; simp [u2, sL, sI, mx, zr, kb_m6, kb_m5, kb_20, ki_0, ki_1, ki_2, kl_0, f17_it_55_3, f17_it_55_5, hZ17])) (by simp [u2, sL, sI, mx, zr, kb_m6, kb_m5, kb_20, ki_0, ki_1, ki_2, kl_0, f17_it_55_3, f17_it_55_5, hZ17]) (by simp [u2, sL, sI, mx, zr, kb_m6, kb_m5, kb_20, ki_0, ki_1, ki_2, kl_0, f17_it_55_3, f17_it_55_5, hZ17])
        · try dsimp only at c61
          try simp only [kb_m6, kb_m5, kb_20, ki_0, ki_1, ki_2, kl_0] at c61
          refine hs dX0_work_64 (hs dX0_work_65 (hs dX0_work_67 (And.intro (fun c67 => absurd c67 (by decide)) (fun c67 => (hs dX0_work_70 (hs dX0_work_71 (And.intro (ob_55) (gr (r_55_0) (hs dX0_work_74 (hs dX0_work_75 (hs dX0_work_76 (hs dX0_work_77 (And.intro (oa_56) (And.intro (vin ln_56 (by decide)) (grv (r_56_1) (hs dX0_work_78 (hs dX0_work_80 (hs dX0_work_82 (hs dX0_work_83 (And.intro (ob_55) (gr (r_55_0) (hs dX0_work_86 (hs dX0_work_87 (And.intro (oa_56) (And.intro (vin ln_56 (by decide)) (grv (r_56_0) (hs dX0_work_88 (And.intro (ob_76) (And.intro ⟨rfl, rfl, Or.inr (Or.inr (Or.inl ⟨rfl, rfl⟩)), by simp [u2, sL, sI, mx, zr, hZ17]⟩ (fun it18 hR18 hZ18 => n0 ?_ ))))))))))))))))))))))))))))))
          have f18_it_55_3 : it18 55 3 = 0 := (congrFun (hR18 55 (by decide)) 3).trans (by simp [u2, sL, sI, mx, zr, kb_m6, kb_m5, kb_20, ki_0, ki_1, ki_2, kl_0])
          have f18_it_55_4 : it18 55 4 = 1 := (congrFun (hR18 55 (by decide)) 4).trans (by simp [u2, sL, sI, mx, zr, kb_m6, kb_m5, kb_20, ki_0, ki_1, ki_2, kl_0])
          have f18_it_55_5 : it18 55 5 = n := (congrFun (hR18 55 (by decide)) 5).trans (by simp [u2, sL, sI, mx, zr, f17_it_55_5])
          have f18_it_58_0 : it18 58 0 = 0 := (congrFun (hR18 58 (by decide)) 0).trans (by simp [u2, sL, sI, mx, zr, hZ17])
          have f18_it_75_2 : it18 75 2 = 0 := (congrFun (hR18 75 (by decide)) 2).trans (by simp [u2, sL, sI, mx, zr, kb_m6, kb_m5, kb_20, ki_0, ki_1, ki_2, kl_0])
          refine hs dX0_work_91 (hs dX0_work_92 (And.intro (ob_55) (gr (r_55_1) (hs dX0_work_95 (hs dX0_work_96 (hs dX0_work_97 (hs dX0_work_98 (And.intro (oa_57) (And.intro (vin ln_57 (by decide)) (grv (r_57_1) (hs dX0_work_99 (hs dX0_work_100 (And.intro (ob_55) (gr (r_55_1) (hs dX0_work_103 (hs dX0_work_104 (And.intro (oa_57) (And.intro (vin ln_57 (by decide)) (grv (r_57_0) (hs dX0_work_105 (And.intro (ob_93) (And.intro ⟨ob_93, ob_75, and1_0 (by simp [u2, sL, sI, mx, zr, f18_it_75_2])⟩ (n0 (hs dX0_work_108 (hs dX0_work_109 (And.intro (ob_55) (gr (r_55_6) (hs dX0_work_112 (hs dX0_work_114 (And.intro (ob_437) (And.intro ⟨rfl, rfl, by simp [u2, sL, sI, mx, zr, hZ18]⟩ (n0 (hs dX0_work_117 (hs dX0_work_119 (hs dX0_work_121 (hs dX0_work_123 (And.intro (fun c123 => absurd rfl c123) (fun c123 => (hs dX0_work_126 (hs dX0_work_127 (hs dX0_work_128 (And.intro (ob_55) (hs dX0_work_131 (And.intro (rfl) (And.intro rfl ?_)))))))))))))))))))))))))))))))))))))))))))))
          try simp only [kb_m6, kb_m5, kb_20, ki_0, ki_1, ki_2, kl_0, b2_0, b2_1] at c5 c61
          try simp only [Int32.lt_iff_toInt_lt, Int32.le_iff_toInt_le, ← Int32.toInt_inj, ti_m6, ti_m5, ti_0, ti_1, ti_2, ti_20] at c5 c61
          exact hk _ _ (by repeat (first | exact Kw_0 | assumption | refine Kw_r ?_ (by assumption) (by omega) | refine Kw_u ?_ (by omega) | refine Kw_sL ?_ (by omega) | refine Kw_sI ?_ (by omega))) (by repeat (first | exact Kw_0 | assumption | refine Kw_r ?_ (by assumption) (by omega) | refine Kw_u ?_ (by omega) | refine Kw_sL ?_ (by omega) | refine Kw_sI ?_ (by omega))) (by simp [u2, sL, sI, mx, zr, kb_m6, kb_m5, kb_20, ki_0, ki_1, ki_2, kl_0, f18_it_55_3, f18_it_55_4, f18_it_55_5, f18_it_58_0, f18_it_75_2, hZ18]) (by first | (rw [if_pos (by omega)]; simp [u2, sL, sI, mx, zr, kb_m6, kb_m5, kb_20, ki_0, ki_1, ki_2, kl_0, f18_it_55_3, f18_it_55_4, f18_it_55_5, f18_it_58_0, f18_it_75_2, hZ18]) | (rw [if_neg (by omega)]; simp [u2, sL, sI, mx, zr, kb_m6, kb_m5, kb_20, ki_0, ki_1, ki_2, kl_0, f18_it_55_3, f18_it_55_4, f18_it_55_5, f18_it_58_0, f18_it_75_2, hZ18])) (by simp [u2, sL, sI, mx, zr, kb_m6, kb_m5, kb_20, ki_0, ki_1, ki_2, kl_0, f18_it_55_3, f18_it_55_4, f18_it_55_5, f18_it_58_0, f18_it_75_2, hZ18]) (by simp [u2, sL, sI, mx, zr, kb_m6, kb_m5, kb_20, ki_0, ki_1, ki_2, kl_0, f18_it_55_3, f18_it_55_4, f18_it_55_5, f18_it_58_0, f18_it_75_2, hZ18])
      · try dsimp only at c5
        try simp only [kb_m6, kb_m5, kb_20, ki_0, ki_1, ki_2, kl_0] at c5
        refine hs dX0_work_8 (hs dX0_work_9 (And.intro (ob_55) (gr (r_55_0) (hs dX0_work_12 (hs dX0_work_13 (And.intro (oa_56) (And.intro (vin ln_56 (by decide)) (grv (r_56_0) (hs dX0_work_14 (hs dX0_work_15 (And.intro (ob_58) (And.intro ⟨rfl, rfl, Or.inr (⟨rfl, rfl⟩), by simp [u2, sL, sI, mx, zr, h58], by simp [u2, sL, sI, mx, zr, hs0]⟩ (And.intro (n0 ?_) (n0 ?_))))))))))))))
        · skip
          refine hs dX0_work_18 (And.intro (fun c18 => ?_) (fun c18 => absurd (by decide) c18))
          refine hs dX0_work_22 (hs dX0_work_23 (hs dX0_work_24 (And.intro (ob_55) (hs dX0_work_27 (hs dX0_work_28 (And.intro (ob_55) (gr (r_55_0) (hs dX0_work_31 (hs dX0_work_32 (And.intro (oa_56) (And.intro (vin ln_56 (by decide)) (grv (r_56_0) (hs dX0_work_33 (hs dX0_work_34 (And.intro (ob_58) (And.intro ⟨rfl, rfl, Or.inr (Or.inl ⟨rfl, rfl⟩), by simp [u2, sL, sI, mx, zr, hs0]⟩ (fun it19 hR19 hZ19 => n0 ?_ )))))))))))))))))
          have f19_it_55_3 : it19 55 3 = 0 := (congrFun (hR19 55 (by decide)) 3).trans (by simp [u2, sL, sI, mx, zr, h3s])
          have f19_it_55_5 : it19 55 5 = n := (congrFun (hR19 55 (by decide)) 5).trans (by simp [u2, sL, sI, mx, zr, kb_m6, kb_m5, kb_20, ki_0, ki_1, ki_2, kl_0])
          refine hs dX0_work_37 (hs dX0_work_38 (And.intro (ob_55) (gr (r_55_1) (hs dX0_work_41 (hs dX0_work_42 (And.intro (oa_57) (And.intro (vin ln_57 (by decide)) (grv (r_57_0) (hs dX0_work_43 (hs dX0_work_44 (And.intro (ob_75) (And.intro ob_75 (n0 (hs dX0_work_47 (hs dX0_work_48 (hs dX0_work_49 (And.intro (ob_55) (hs dX0_work_52 (hs dX0_work_53 (hs dX0_work_54 (And.intro (ob_55) (hs dX0_work_57 (hs dX0_work_58 (hs dX0_work_59 (hs dX0_work_60 (hs dX0_work_61 (And.intro (fun c61 => ?_) (fun c61 => ?_))))))))))))))))))))))))))))
          · try dsimp only at c61
            try simp only [kb_m6, kb_m5, kb_20, ki_0, ki_1, ki_2, kl_0] at c61
            refine hs dX0_work_188 (And.intro (rfl) (And.intro rfl ?_))
            try simp only [kb_m6, kb_m5, kb_20, ki_0, ki_1, ki_2, kl_0, b2_0, b2_1] at c5 c61
            try simp only [Int32.lt_iff_toInt_lt, Int32.le_iff_toInt_le, ← Int32.toInt_inj, ti_m6, ti_m5, ti_0, ti_1, ti_2, ti_20] at c5 c61
            exact hk _ _ (by repeat (first | exact Kw_0 | assumption | refine Kw_r ?_ (by assumption) (by omega) | refine Kw_u ?_ (by omega) | refine Kw_sL ?_ (by omega) | refine Kw_sI ?_ (by omega))) (by repeat (first | exact Kw_0 | assumption | refine Kw_r ?_ (by assumption) (by omega) | refine Kw_u ?_ (by omega) | refine Kw_sL ?_ (by omega) | refine Kw_sI ?_ (by omega))) (by simp [u2, sL, sI, mx, zr, kb_m6, kb_m5, kb_20, ki_0, ki_1, ki_2, kl_0, f19_it_55_3, f19_it_55_5, hZ19]) (by first | (rw [if_pos (by omega)]; simp [u2, sL, sI, mx, zr, kb_m6, kb_m5, kb_20, ki_0, ki_1, ki_2, kl_0, f19_it_55_3, f19_it_55_5, hZ19]) | (rw [if_neg (by omega)]; simp [u2, sL, sI, mx, zr, kb_m6, kb_m5, kb_20, ki_0, ki_1, ki_2, kl_0, f19_it_55_3, f19_it_55_5, hZ19])) (by simp [u2, sL, sI, mx, zr, kb_m6, kb_m5, kb_20, ki_0, ki_1, ki_2, kl_0, f19_it_55_3, f19_it_55_5, hZ19]) (by simp [u2, sL, sI, mx, zr, kb_m6, kb_m5, kb_20, ki_0, ki_1, ki_2, kl_0, f19_it_55_3, f19_it_55_5, hZ19])
          · try dsimp only at c61
            try simp only [kb_m6, kb_m5, kb_20, ki_0, ki_1, ki_2, kl_0] at c61
            refine hs dX0_work_64 (hs dX0_work_65 (hs dX0_work_67 (And.intro (fun c67 => absurd c67 (by decide)) (fun c67 => (hs dX0_work_70 (hs dX0_work_71 (And.intro (ob_55) (gr (r_55_0) (hs dX0_work_74 (hs dX0_work_75 (hs dX0_work_76 (hs dX0_work_77 (And.intro (oa_56) (And.intro (vin ln_56 (by decide)) (grv (r_56_1) (hs dX0_work_78 (hs dX0_work_80 (hs dX0_work_82 (hs dX0_work_83 (And.intro (ob_55) (gr (r_55_0) (hs dX0_work_86 (hs dX0_work_87 (And.intro (oa_56) (And.intro (vin ln_56 (by decide)) (grv (r_56_0) (hs dX0_work_88 (And.intro (ob_76) (And.intro ⟨rfl, rfl, Or.inr (Or.inr (Or.inl ⟨rfl, rfl⟩)), by simp [u2, sL, sI, mx, zr, hZ19]⟩ (fun it20 hR20 hZ20 => n0 ?_ ))))))))))))))))))))))))))))))
            have f20_it_55_3 : it20 55 3 = 0 := (congrFun (hR20 55 (by decide)) 3).trans (by simp [u2, sL, sI, mx, zr, kb_m6, kb_m5, kb_20, ki_0, ki_1, ki_2, kl_0])
            have f20_it_55_4 : it20 55 4 = 1 := (congrFun (hR20 55 (by decide)) 4).trans (by simp [u2, sL, sI, mx, zr, kb_m6, kb_m5, kb_20, ki_0, ki_1, ki_2, kl_0])
            have f20_it_55_5 : it20 55 5 = n := (congrFun (hR20 55 (by decide)) 5).trans (by simp [u2, sL, sI, mx, zr, f19_it_55_5])
            have f20_it_58_0 : it20 58 0 = 0 := (congrFun (hR20 58 (by decide)) 0).trans (by simp [u2, sL, sI, mx, zr, hZ19])
            have f20_it_75_2 : it20 75 2 = 0 := (congrFun (hR20 75 (by decide)) 2).trans (by simp [u2, sL, sI, mx, zr, kb_m6, kb_m5, kb_20, ki_0, ki_1, ki_2, kl_0])
            refine hs dX0_work_91 (hs dX0_work_92 (And.intro (ob_55) (gr (r_55_1) (hs dX0_work_95 (hs dX0_work_96 (hs dX0_work_97 (hs dX0_work_98 (And.intro (oa_57) (And.intro (vin ln_57 (by decide)) (grv (r_57_1) (hs dX0_work_99 (hs dX0_work_100 (And.intro (ob_55) (gr (r_55_1) (hs dX0_work_103 (hs dX0_work_104 (And.intro (oa_57) (And.intro (vin ln_57 (by decide)) (grv (r_57_0) (hs dX0_work_105 (And.intro (ob_93) (And.intro ⟨ob_93, ob_75, and1_0 (by simp [u2, sL, sI, mx, zr, f20_it_75_2])⟩ (n0 (hs dX0_work_108 (hs dX0_work_109 (And.intro (ob_55) (gr (r_55_6) (hs dX0_work_112 (hs dX0_work_114 (And.intro (ob_437) (And.intro ⟨rfl, rfl, by simp [u2, sL, sI, mx, zr, hZ20]⟩ (n0 (hs dX0_work_117 (hs dX0_work_119 (hs dX0_work_121 (hs dX0_work_123 (And.intro (fun c123 => absurd rfl c123) (fun c123 => (hs dX0_work_126 (hs dX0_work_127 (hs dX0_work_128 (And.intro (ob_55) (hs dX0_work_131 (And.intro (rfl) (And.intro rfl ?_)))))))))))))))))))))))))))))))))))))))))))))
            try simp only [kb_m6, kb_m5, kb_20, ki_0, ki_1, ki_2, kl_0, b2_0, b2_1] at c5 c61
            try simp only [Int32.lt_iff_toInt_lt, Int32.le_iff_toInt_le, ← Int32.toInt_inj, ti_m6, ti_m5, ti_0, ti_1, ti_2, ti_20] at c5 c61
            exact hk _ _ (by repeat (first | exact Kw_0 | assumption | refine Kw_r ?_ (by assumption) (by omega) | refine Kw_u ?_ (by omega) | refine Kw_sL ?_ (by omega) | refine Kw_sI ?_ (by omega))) (by repeat (first | exact Kw_0 | assumption | refine Kw_r ?_ (by assumption) (by omega) | refine Kw_u ?_ (by omega) | refine Kw_sL ?_ (by omega) | refine Kw_sI ?_ (by omega))) (by simp [u2, sL, sI, mx, zr, kb_m6, kb_m5, kb_20, ki_0, ki_1, ki_2, kl_0, f20_it_55_3, f20_it_55_4, f20_it_55_5, f20_it_58_0, f20_it_75_2, hZ20]) (by first | (rw [if_pos (by omega)]; simp [u2, sL, sI, mx, zr, kb_m6, kb_m5, kb_20, ki_0, ki_1, ki_2, kl_0, f20_it_55_3, f20_it_55_4, f20_it_55_5, f20_it_58_0, f20_it_75_2, hZ20]) | (rw [if_neg (by omega)]; simp [u2, sL, sI, mx, zr, kb_m6, kb_m5, kb_20, ki_0, ki_1, ki_2, kl_0, f20_it_55_3, f20_it_55_4, f20_it_55_5, f20_it_58_0, f20_it_75_2, hZ20])) (by simp [u2, sL, sI, mx, zr, kb_m6, kb_m5, kb_20, ki_0, ki_1, ki_2, kl_0, f20_it_55_3, f20_it_55_4, f20_it_55_5, f20_it_58_0, f20_it_75_2, hZ20]) (by simp [u2, sL, sI, mx, zr, kb_m6, kb_m5, kb_20, ki_0, ki_1, ki_2, kl_0, f20_it_55_3, f20_it_55_4, f20_it_55_5, f20_it_58_0, f20_it_75_2, hZ20])
        · skip
          refine hs dX0_work_18 (And.intro (fun c18 => absurd c18 (by decide)) (fun c18 => (hs dX0_work_21 (And.intro (rfl) (And.intro rfl ?_)))))
          have q : it 55 5 = n := c5
          exact hk _ _ Kw_0 Kw_0 h3s (he q) h58 q
  · exact h.elim
theorem ct_X0_work {E : Ev} {l : Launch} : CT E l yX0_work (wsY yX0_work cX0_work 6 none) rm_X0_work 0 sp_X0_work := ct_of (T := T_X0_work) (own := RX0) (by decide) rfl (fun ci h10 hc => by have h2 : (99 : Nat) = ci := Nat.eq_of_beq_eq_true hc; omega) ⟨rfl, rfl⟩ ⟨fok_X0, clok_X0, jok_X0, List.forall_mem_cons.mpr ⟨cok_V ct_X3_isLike (by decide) rfl ml_X0_46 im_X3_isLike se_X3_isLike co_X3_isLike mo_X3_isLike (by decide), List.forall_mem_cons.mpr ⟨cok_V ct_X3_become (by decide) rfl ml_X0_50 im_X3_become se_X3_become co_X3_become mo_X3_become (by decide), List.forall_mem_cons.mpr ⟨cok_V ct_X1_becomeWhole (by decide) rfl ml_X0_54 im_X1_becomeWhole se_X1_becomeWhole co_X1_becomeWhole mo_X1_becomeWhole (by decide), List.forall_mem_cons.mpr ⟨cok_V ct_X1_become (by decide) rfl ml_X0_58 im_X1_become se_X1_become co_X1_become mo_X1_become (by decide), List.forall_mem_cons.mpr ⟨cok_V ct_X5_find (by decide) rfl ml_X0_61 im_X5_find se_X5_find co_X5_find mo_X5_find (by decide), fun _ h => absurd h List.not_mem_nil⟩⟩⟩⟩⟩⟩ bd_X0_work
def sp_X8_addUp : Spc := fun as N lg it rf K => match as with | [.ref 0, .ref r, .int a] => (N = NT ∧ rf = RF0 ∧ (r = 2 ∨ r = 58) ∧ it r 0 = 0) ∧ K none (sL lg 486 0 1) (sI it 486 2 0) rf | _ => False
def T_X8_addUp : Tab := (FL_X8, CL_X8, JL_X8, [(88, 0, 2, 1, 0, sp_X1_becomeWhole), (84, 0, 2, 1, 0, sp_X1_become)], 99, none)
def rm_X8_addUp : Room := { frames := 1, cells := 0, slots := 0, locals := 22 }
set_option maxHeartbeats 16000000 in
set_option maxRecDepth 100000 in
theorem bd_X8_addUp (as : List Value) (N : Nat) (lg : LGt) (it : ITt) (rf : RFt) (Q : Post) (h : sp_X8_addUp as N lg it rf Q) : Bd T_X8_addUp cX8_addUp 4 0 as N lg it rf Q := by
  unfold sp_X8_addUp at h
  split at h
  · rename_i r a
    refine ⟨Nat.le_of_ble_eq_true rfl, fun P hs hw => ?_⟩
    obtain ⟨⟨rfl, rfl, ha, hb⟩, hk⟩ := h
    rcases ha with rfl | rfl
    · skip
      refine hs dX8_addUp_0 (hs dX8_addUp_1 (And.intro (ob_0) (gr (r_0_7) (hs dX8_addUp_4 (hs dX8_addUp_5 (And.intro (ob_486) (And.intro ob_486 (n0 (hs dX8_addUp_8 (hs dX8_addUp_9 (hs dX8_addUp_10 (hs dX8_addUp_11 (hs dX8_addUp_12 (And.intro (ob_2) (gx (v := 0) (by simp [u2, sL, sI, mx, zr, hb]) (hs dX8_addUp_15 (And.intro (fun c15 => ?_) (fun c15 => absurd (by decide) c15))))))))))))))))))
      refine hs dX8_addUp_91 (And.intro (rfl) (And.intro rfl ?_))
      first | exact hk | (simp only [kl_0, kl_1]; exact hk)
    · skip
      refine hs dX8_addUp_0 (hs dX8_addUp_1 (And.intro (ob_0) (gr (r_0_7) (hs dX8_addUp_4 (hs dX8_addUp_5 (And.intro (ob_486) (And.intro ob_486 (n0 (hs dX8_addUp_8 (hs dX8_addUp_9 (hs dX8_addUp_10 (hs dX8_addUp_11 (hs dX8_addUp_12 (And.intro (ob_58) (gx (v := 0) (by simp [u2, sL, sI, mx, zr, hb]) (hs dX8_addUp_15 (And.intro (fun c15 => ?_) (fun c15 => absurd (by decide) c15))))))))))))))))))
      refine hs dX8_addUp_91 (And.intro (rfl) (And.intro rfl ?_))
      first | exact hk | (simp only [kl_0, kl_1]; exact hk)
  · exact h.elim
theorem ct_X8_addUp {E : Ev} {l : Launch} : CT E l yX8_addUp (wsY yX8_addUp cX8_addUp 4 none) rm_X8_addUp 0 sp_X8_addUp := ct_of (T := T_X8_addUp) (own := RX8) (by decide) rfl (fun ci h10 hc => by have h2 : (99 : Nat) = ci := Nat.eq_of_beq_eq_true hc; omega) ⟨rfl, rfl⟩ ⟨fok_X8, clok_X8, jok_X8, List.forall_mem_cons.mpr ⟨cok_V ct_X1_becomeWhole (by decide) rfl ml_X8_88 im_X1_becomeWhole se_X1_becomeWhole co_X1_becomeWhole mo_X1_becomeWhole (by decide), List.forall_mem_cons.mpr ⟨cok_V ct_X1_become (by decide) rfl ml_X8_84 im_X1_become se_X1_become co_X1_become mo_X1_become (by decide), fun _ h => absurd h List.not_mem_nil⟩⟩⟩ bd_X8_addUp
def sp_X0_firstUnlike : Spc := fun as N lg it rf K => match as with | [.ref 55, .ref 25] => (N = NT ∧ rf = RF0 ∧ it 25 2 = 0) ∧ K (some (.int (-5))) lg it rf | _ => False
def T_X0_firstUnlike : Tab := (FL_X0, CL_X0, JL_X0, [], 99, (some .int))
def rm_X0_firstUnlike : Room := { frames := 0, cells := 0, slots := 0, locals := 0 }
set_option maxHeartbeats 16000000 in
set_option maxRecDepth 100000 in
theorem bd_X0_firstUnlike (as : List Value) (N : Nat) (lg : LGt) (it : ITt) (rf : RFt) (Q : Post) (h : sp_X0_firstUnlike as N lg it rf Q) : Bd T_X0_firstUnlike cX0_firstUnlike 4 0 as N lg it rf Q := by
  unfold sp_X0_firstUnlike at h
  split at h
  · refine ⟨Nat.le_of_ble_eq_true rfl, fun P hs hw => ?_⟩
    obtain ⟨⟨rfl, rfl, hb⟩, hk⟩ := h
    refine hs dX0_firstUnlike_0 (hs dX0_firstUnlike_1 (hs dX0_firstUnlike_2 (hs dX0_firstUnlike_3 (hs dX0_firstUnlike_4 (And.intro (ob_25) (gx (v := 0) (by simp [u2, sL, sI, mx, zr, hb]) (hs dX0_firstUnlike_7 (And.intro (fun c7 => ?_) (fun c7 => absurd (by decide) c7)))))))))
    refine hs dX0_firstUnlike_52 (hs dX0_firstUnlike_54 (And.intro (rfl) (And.intro rfl ?_)))
    exact hk
  · exact h.elim
theorem ct_X0_firstUnlike {E : Ev} {l : Launch} : CT E l yX0_firstUnlike (wsY yX0_firstUnlike cX0_firstUnlike 4 (some .int)) rm_X0_firstUnlike 0 sp_X0_firstUnlike := ct_of (T := T_X0_firstUnlike) (own := RX0) (by decide) rfl (fun ci h10 hc => by have h2 : (99 : Nat) = ci := Nat.eq_of_beq_eq_true hc; omega) ⟨rfl, rfl⟩ ⟨fok_X0, clok_X0, jok_X0, fun _ h => absurd h List.not_mem_nil⟩ bd_X0_firstUnlike
def sp_X8_where : Spc := fun as N lg it rf K => match as with | [.ref 0, .int a] => (N = NT ∧ lg = LG0 ∧ it = IT0 ∧ rf = RF0) ∧ ∀ lg' it', Up lg' it' → K (some (.int (an_where a))) lg' it' RF0 | _ => False
def T_X8_where : Tab := (FL_X8, CL_X8, JL_X8, [(129, 0, 3, 0, 0, sp_X0_work)], 99, (some .int))
def rm_X8_where : Room := { frames := 3, cells := 0, slots := 0, locals := 69 }
set_option maxHeartbeats 16000000 in
set_option maxRecDepth 100000 in
theorem bd_X8_where (as : List Value) (N : Nat) (lg : LGt) (it : ITt) (rf : RFt) (Q : Post) (h : sp_X8_where as N lg it rf Q) : Bd T_X8_where cX8_where 2 0 as N lg it rf Q := by
  unfold sp_X8_where at h
  split at h
  · rename_i a
    refine ⟨Nat.le_of_ble_eq_true rfl, fun P hs hw => ?_⟩
    obtain ⟨⟨rfl, rfl, rfl, rfl⟩, hk⟩ := h
    refine hs dX8_where_0 (hs dX8_where_1 (And.intro (fun c1 => ?_) (fun c1 => ?_)))
    · try dsimp only at c1
      try simp only [kb_m5, kb_20, ki_m1] at c1
      refine hs dX8_where_6 (hs dX8_where_7 (And.intro (ob_0) (gr (r_0_3) (hs dX8_where_10 (hs dX8_where_11 (And.intro (ob_0) (gr (r_0_0) (hs dX8_where_14 (And.intro (ob_1) (gr (r_1_0) (hs dX8_where_17 (hs dX8_where_19 (And.intro (ob_55) (And.intro ⟨rfl, rfl, Or.inl rfl, (by decide), vit_2_0, vit_55_3, fun q => absurd ((show _ = ((-1) : Int32) from vit_55_5).symm.trans q) (by decide), vit_58_0⟩ (fun lg21 it21 hL21 hK21 hS21 hE21 hZ21 hB21 => n0 ?_ )))))))))))))))
      have f21_it_2_0 : it21 2 0 = 0 := (congrFun (hK21 2 (by decide)) 0).trans (vit_2_0)
      have f21_it_25_2 : it21 25 2 = 0 := (congrFun (hK21 25 (by decide)) 2).trans (vit_25_2)
      have hE21a : it21 55 4 = 0 := hE21.trans (by decide)
      refine hs dX8_where_22 (hs dX8_where_23 (hs dX8_where_24 (And.intro (ob_0) (gr (r_0_3) (hs dX8_where_27 (And.intro (ob_55) (gx (v := 0) (by simp [u2, sL, sI, mx, zr, hS21]) (hs dX8_where_30 (And.intro (fun c30 => ?_) (fun c30 => False.elim (by try simp only [kb_m5, kb_20, ki_m1, Int32.lt_iff_toInt_lt, Int32.le_iff_toInt_le, ti_0, ti_m1, ti_1] at c1 c30; omega)))))))))))
      refine hs dX8_where_45 (hs dX8_where_47 (And.intro (rfl) (And.intro rfl ?_)))
      try simp only [kb_m5, kb_20, ki_m1, b2_0, b2_1] at c1
      try simp only [Int32.lt_iff_toInt_lt, Int32.le_iff_toInt_le, ← Int32.toInt_inj, ti_m5, ti_m1, ti_0, ti_20] at c1
      have e : an_where a = (-5) := by
        first
        | (exfalso; omega)
        | unfold an_where
          try simp only [ti_0, ti_1]
          repeat (first | rw [if_pos (by first | omega | simp)] | rw [if_neg (by omega)])
          all_goals rfl
      rw [e] at hk
      exact hk _ _ (by repeat (first | exact Up_0 | assumption | refine Up_k ?_ (by assumption) (by assumption) | refine Up_w ?_ (by assumption) (by assumption) | refine Up_q ?_ (by assumption) | refine Up_p ?_ (by assumption) | refine Up_r ?_ (by assumption) (by omega) | refine Up_u ?_ (by omega) | refine Up_sL ?_ (by omega) | refine Up_sI ?_ (by omega) | refine Up_l ?_ (by omega)))
    · try dsimp only at c1
      try simp only [kb_m5, kb_20, ki_m1] at c1
      refine hs dX8_where_4 (hs dX8_where_5 (And.intro (rfl) (And.intro rfl ?_)))
      try simp only [kb_m5, kb_20, ki_m1, b2_0, b2_1] at c1
      try simp only [Int32.lt_iff_toInt_lt, Int32.le_iff_toInt_le, ← Int32.toInt_inj, ti_m5, ti_m1, ti_0, ti_20] at c1
      have e : an_where a = (-1) := by
        first
        | (exfalso; omega)
        | unfold an_where
          try simp only [ti_0, ti_1]
          repeat (first | rw [if_pos (by first | omega | simp)] | rw [if_neg (by omega)])
          all_goals rfl
      rw [e] at hk
      exact hk _ _ (by repeat (first | exact Up_0 | assumption | refine Up_k ?_ (by assumption) (by assumption) | refine Up_w ?_ (by assumption) (by assumption) | refine Up_q ?_ (by assumption) | refine Up_p ?_ (by assumption) | refine Up_r ?_ (by assumption) (by omega) | refine Up_u ?_ (by omega) | refine Up_sL ?_ (by omega) | refine Up_sI ?_ (by omega) | refine Up_l ?_ (by omega)))
  · exact h.elim
theorem ct_X8_where {E : Ev} {l : Launch} : CT E l yX8_where (wsY yX8_where cX8_where 2 (some .int)) rm_X8_where 0 sp_X8_where := ct_of (T := T_X8_where) (own := RX8) (by decide) rfl (fun ci h10 hc => by have h2 : (99 : Nat) = ci := Nat.eq_of_beq_eq_true hc; omega) ⟨rfl, rfl⟩ ⟨fok_X8, clok_X8, jok_X8, List.forall_mem_cons.mpr ⟨cok_V ct_X0_work (by decide) rfl ml_X8_129 im_X0_work se_X0_work co_X0_work mo_X0_work (by decide), fun _ h => absurd h List.not_mem_nil⟩⟩ bd_X8_where
def sp_X8_time : Spc := fun as N lg it rf K => match as with | [.ref 0, .int a, .int b] => (N = NT ∧ lg = LG0 ∧ it = IT0 ∧ rf = RF0) ∧ ∀ lg' it', Up lg' it' → K (some (.long (an_time a b))) lg' it' RF0 | _ => False
def T_X8_time : Tab := (FL_X8, CL_X8, JL_X8, [(129, 0, 3, 0, 0, sp_X0_work), (185, 1, 1, 0, 0, sp_X8_isPart), (194, 0, 2, 1, 0, sp_X1_half)], 99, (some .long))
def rm_X8_time : Room := { frames := 3, cells := 0, slots := 0, locals := 69 }
set_option maxHeartbeats 16000000 in
set_option maxRecDepth 100000 in
theorem bd_X8_time (as : List Value) (N : Nat) (lg : LGt) (it : ITt) (rf : RFt) (Q : Post) (h : sp_X8_time as N lg it rf Q) : Bd T_X8_time cX8_time 3 0 as N lg it rf Q := by
  unfold sp_X8_time at h
  split at h
  · rename_i a b
    refine ⟨Nat.le_of_ble_eq_true rfl, fun P hs hw => ?_⟩
    obtain ⟨⟨rfl, rfl, rfl, rfl⟩, hk⟩ := h
    refine hs dX8_time_0 (hs dX8_time_1 (And.intro (ob_0) (gr (r_0_3) (hs dX8_time_4 (hs dX8_time_5 (And.intro (ob_0) (gr (r_0_0) (hs dX8_time_8 (And.intro (ob_1) (gr (r_1_0) (hs dX8_time_11 (hs dX8_time_13 (And.intro (ob_55) (And.intro ⟨rfl, rfl, Or.inl rfl, (by decide), vit_2_0, vit_55_3, fun q => absurd ((show _ = ((-1) : Int32) from vit_55_5).symm.trans q) (by decide), vit_58_0⟩ (fun lg22 it22 hL22 hK22 hS22 hE22 hZ22 hB22 => n0 ?_ )))))))))))))))
    have f22_it_2_0 : it22 2 0 = 0 := (congrFun (hK22 2 (by decide)) 0).trans (vit_2_0)
    have f22_it_25_2 : it22 25 2 = 0 := (congrFun (hK22 25 (by decide)) 2).trans (vit_25_2)
    have hE22a : it22 55 4 = 0 := hE22.trans (by decide)
    refine hs dX8_time_16 (hs dX8_time_17 (And.intro (fun c17 => ?_) (fun c17 => ?_)))
    · try dsimp only at c17
      try simp only [kb_20, ki_1] at c17
      refine hs dX8_time_38 (hs dX8_time_41 (And.intro (rfl) (And.intro rfl ?_)))
      try simp only [kb_20, ki_1, b2_0, b2_1] at c17
      try simp only [Int32.lt_iff_toInt_lt, Int32.le_iff_toInt_le, ← Int32.toInt_inj, ti_0, ti_1, ti_20] at c17
      have e : an_time a b = (-9223372036854775808) := rfl
      rw [e] at hk
      exact hk _ _ (by repeat (first | exact Up_0 | assumption | refine Up_k ?_ (by assumption) (by assumption) | refine Up_w ?_ (by assumption) (by assumption) | refine Up_q ?_ (by assumption) | refine Up_p ?_ (by assumption) | refine Up_r ?_ (by assumption) (by omega) | refine Up_u ?_ (by omega) | refine Up_sL ?_ (by omega) | refine Up_sI ?_ (by omega) | refine Up_l ?_ (by omega)))
    · try dsimp only at c17
      try simp only [kb_20, ki_1] at c17
      refine hs dX8_time_20 (hs dX8_time_21 (hs dX8_time_22 (And.intro (ob_0) (gr (r_0_3) (hs dX8_time_25 (And.intro (ob_55) (gx (v := 0) (by simp [u2, sL, sI, mx, zr, hS22]) (hs dX8_time_28 (And.intro (fun c28 => ?_) (fun c28 => False.elim (by try simp only [kb_20, ki_1, Int32.lt_iff_toInt_lt, Int32.le_iff_toInt_le, ti_0, ti_m1, ti_1] at c17 c28; omega)))))))))))
      refine hs dX8_time_38 (hs dX8_time_41 (And.intro (rfl) (And.intro rfl ?_)))
      try simp only [kb_20, ki_1, b2_0, b2_1] at c17
      try simp only [Int32.lt_iff_toInt_lt, Int32.le_iff_toInt_le, ← Int32.toInt_inj, ti_0, ti_1, ti_20] at c17
      have e : an_time a b = (-9223372036854775808) := rfl
      rw [e] at hk
      exact hk _ _ (by repeat (first | exact Up_0 | assumption | refine Up_k ?_ (by assumption) (by assumption) | refine Up_w ?_ (by assumption) (by assumption) | refine Up_q ?_ (by assumption) | refine Up_p ?_ (by assumption) | refine Up_r ?_ (by assumption) (by omega) | refine Up_u ?_ (by omega) | refine Up_sL ?_ (by omega) | refine Up_sI ?_ (by omega) | refine Up_l ?_ (by omega)))
  · exact h.elim
theorem ct_X8_time {E : Ev} {l : Launch} : CT E l yX8_time (wsY yX8_time cX8_time 3 (some .long)) rm_X8_time 0 sp_X8_time := ct_of (T := T_X8_time) (own := RX8) (by decide) rfl (fun ci h10 hc => by have h2 : (99 : Nat) = ci := Nat.eq_of_beq_eq_true hc; omega) ⟨rfl, rfl⟩ ⟨fok_X8, clok_X8, jok_X8, List.forall_mem_cons.mpr ⟨cok_V ct_X0_work (by decide) rfl ml_X8_129 im_X0_work se_X0_work co_X0_work mo_X0_work (by decide), List.forall_mem_cons.mpr ⟨cok_S ct_X8_isPart ((cl_ins (c := 8) (by decide)).2) ml_X8_185 im_X8_isPart co_X8_isPart mo_X8_isPart (by decide), List.forall_mem_cons.mpr ⟨cok_V ct_X1_half (by decide) rfl ml_X8_194 im_X1_half se_X1_half co_X1_half mo_X1_half (by decide), fun _ h => absurd h List.not_mem_nil⟩⟩⟩⟩ bd_X8_time
def sp_X8_behind : Spc := fun as N lg it rf K => match as with | [.ref 0, .int a, .int b, .int c, .int d] => (N = NT ∧ lg = LG0 ∧ it = IT0 ∧ rf = RF0) ∧ ∀ lg' it', Up lg' it' → K (some (.long (an_behind a b c d))) lg' it' RF0 | _ => False
def T_X8_behind : Tab := (FL_X8, CL_X8, JL_X8, [(129, 0, 3, 0, 0, sp_X0_work), (109, 0, 2, 8, 0, sp_X8_isBumper), (185, 1, 1, 0, 0, sp_X8_isPart), (194, 0, 2, 1, 0, sp_X1_half)], 99, (some .long))
def rm_X8_behind : Room := { frames := 3, cells := 0, slots := 0, locals := 69 }
set_option maxHeartbeats 16000000 in
set_option maxRecDepth 100000 in
theorem bd_X8_behind (as : List Value) (N : Nat) (lg : LGt) (it : ITt) (rf : RFt) (Q : Post) (h : sp_X8_behind as N lg it rf Q) : Bd T_X8_behind cX8_behind 6 0 as N lg it rf Q := by
  unfold sp_X8_behind at h
  split at h
  · rename_i a b c d
    refine ⟨Nat.le_of_ble_eq_true rfl, fun P hs hw => ?_⟩
    obtain ⟨⟨rfl, rfl, rfl, rfl⟩, hk⟩ := h
    refine hs dX8_behind_0 (hs dX8_behind_1 (And.intro (ob_0) (gr (r_0_3) (hs dX8_behind_4 (hs dX8_behind_5 (And.intro (ob_0) (gr (r_0_0) (hs dX8_behind_8 (And.intro (ob_1) (gr (r_1_0) (hs dX8_behind_11 (hs dX8_behind_13 (And.intro (ob_55) (And.intro ⟨rfl, rfl, Or.inl rfl, (by decide), vit_2_0, vit_55_3, fun q => absurd ((show _ = ((-1) : Int32) from vit_55_5).symm.trans q) (by decide), vit_58_0⟩ (fun lg23 it23 hL23 hK23 hS23 hE23 hZ23 hB23 => n0 ?_ )))))))))))))))
    have f23_it_2_0 : it23 2 0 = 0 := (congrFun (hK23 2 (by decide)) 0).trans (vit_2_0)
    have f23_it_25_2 : it23 25 2 = 0 := (congrFun (hK23 25 (by decide)) 2).trans (vit_25_2)
    have hE23a : it23 55 4 = 0 := hE23.trans (by decide)
    refine hs dX8_behind_16 (hs dX8_behind_17 (hs dX8_behind_18 (And.intro (ob_0) (And.intro ⟨rfl, rfl, by simp [u2, sL, sI, mx, zr, f23_it_2_0]⟩ (n0 (hs dX8_behind_21 (And.intro (fun c21 => ?_) (fun c21 => absurd (by decide) c21))))))))
    refine hs dX8_behind_57 (hs dX8_behind_60 (And.intro (rfl) (And.intro rfl ?_)))
    have e : an_behind a b c d = (-9223372036854775808) := rfl
    rw [e] at hk
    exact hk _ _ (by repeat (first | exact Up_0 | assumption | refine Up_k ?_ (by assumption) (by assumption) | refine Up_w ?_ (by assumption) (by assumption) | refine Up_q ?_ (by assumption) | refine Up_p ?_ (by assumption) | refine Up_r ?_ (by assumption) (by omega) | refine Up_u ?_ (by omega) | refine Up_sL ?_ (by omega) | refine Up_sI ?_ (by omega) | refine Up_l ?_ (by omega)))
  · exact h.elim
theorem ct_X8_behind {E : Ev} {l : Launch} : CT E l yX8_behind (wsY yX8_behind cX8_behind 6 (some .long)) rm_X8_behind 0 sp_X8_behind := ct_of (T := T_X8_behind) (own := RX8) (by decide) rfl (fun ci h10 hc => by have h2 : (99 : Nat) = ci := Nat.eq_of_beq_eq_true hc; omega) ⟨rfl, rfl⟩ ⟨fok_X8, clok_X8, jok_X8, List.forall_mem_cons.mpr ⟨cok_V ct_X0_work (by decide) rfl ml_X8_129 im_X0_work se_X0_work co_X0_work mo_X0_work (by decide), List.forall_mem_cons.mpr ⟨cok_V ct_X8_isBumper (by decide) rfl ml_X8_109 im_X8_isBumper se_X8_isBumper co_X8_isBumper mo_X8_isBumper (by decide), List.forall_mem_cons.mpr ⟨cok_S ct_X8_isPart ((cl_ins (c := 8) (by decide)).2) ml_X8_185 im_X8_isPart co_X8_isPart mo_X8_isPart (by decide), List.forall_mem_cons.mpr ⟨cok_V ct_X1_half (by decide) rfl ml_X8_194 im_X1_half se_X1_half co_X1_half mo_X1_half (by decide), fun _ h => absurd h List.not_mem_nil⟩⟩⟩⟩⟩ bd_X8_behind
def sp_X8_then : Spc := fun as N lg it rf K => match as with | [.ref 0, .int a, .int b] => (N = NT ∧ lg = LG0 ∧ it = IT0 ∧ rf = RF0) ∧ ∀ lg' it', Up lg' it' → K (some (.long (an_then a b))) lg' it' RF0 | _ => False
def T_X8_then : Tab := (FL_X8, CL_X8, JL_X8, [(185, 1, 1, 0, 0, sp_X8_isPart), (129, 0, 3, 0, 0, sp_X0_work), (201, 0, 3, 8, 0, sp_X8_addUp), (194, 0, 2, 1, 0, sp_X1_half)], 99, (some .long))
def rm_X8_then : Room := { frames := 3, cells := 0, slots := 0, locals := 69 }
set_option maxHeartbeats 16000000 in
set_option maxRecDepth 100000 in
theorem bd_X8_then (as : List Value) (N : Nat) (lg : LGt) (it : ITt) (rf : RFt) (Q : Post) (h : sp_X8_then as N lg it rf Q) : Bd T_X8_then cX8_then 3 0 as N lg it rf Q := by
  unfold sp_X8_then at h
  split at h
  · rename_i a b
    refine ⟨Nat.le_of_ble_eq_true rfl, fun P hs hw => ?_⟩
    obtain ⟨⟨rfl, rfl, rfl, rfl⟩, hk⟩ := h
    refine hs dX8_then_0 (hs dX8_then_1 (And.intro (fun c1 => ?_) (fun c1 => ?_)))
    · try dsimp only at c1
      try simp only [kb_20, ki_1] at c1
      refine hs dX8_then_16 (hs dX8_then_19 (And.intro (rfl) (And.intro rfl ?_)))
      try simp only [kb_20, ki_1, b2_0, b2_1] at c1
      try simp only [Int32.lt_iff_toInt_lt, Int32.le_iff_toInt_le, ← Int32.toInt_inj, ti_0, ti_1, ti_20] at c1
      have e : an_then a b = (-9223372036854775808) := by
        first
        | (exfalso; omega)
        | unfold an_then
          try simp only [ti_0, ti_1]
          repeat (first | rw [if_pos (by first | omega | simp)] | rw [if_neg (by omega)])
          all_goals rfl
      rw [e] at hk
      exact hk _ _ (by repeat (first | exact Up_0 | assumption | refine Up_k ?_ (by assumption) (by assumption) | refine Up_w ?_ (by assumption) (by assumption) | refine Up_q ?_ (by assumption) | refine Up_p ?_ (by assumption) | refine Up_r ?_ (by assumption) (by omega) | refine Up_u ?_ (by omega) | refine Up_sL ?_ (by omega) | refine Up_sI ?_ (by omega) | refine Up_l ?_ (by omega)))
    · try dsimp only at c1
      try simp only [kb_20, ki_1] at c1
      refine hs dX8_then_4 (hs dX8_then_5 (hs dX8_then_6 (And.intro (fun c6 => ?_) (fun c6 => ?_))))
      · try dsimp only at c6
        try simp only [kb_20, ki_1] at c6
        refine hs dX8_then_16 (hs dX8_then_19 (And.intro (rfl) (And.intro rfl ?_)))
        try simp only [kb_20, ki_1, b2_0, b2_1] at c1 c6
        try simp only [Int32.lt_iff_toInt_lt, Int32.le_iff_toInt_le, ← Int32.toInt_inj, ti_0, ti_1, ti_20] at c1 c6
        have e : an_then a b = (-9223372036854775808) := by
          first
          | (exfalso; omega)
          | unfold an_then
            try simp only [ti_0, ti_1]
            repeat (first | rw [if_pos (by first | omega | simp)] | rw [if_neg (by omega)])
            all_goals rfl
        rw [e] at hk
        exact hk _ _ (by repeat (first | exact Up_0 | assumption | refine Up_k ?_ (by assumption) (by assumption) | refine Up_w ?_ (by assumption) (by assumption) | refine Up_q ?_ (by assumption) | refine Up_p ?_ (by assumption) | refine Up_r ?_ (by assumption) (by omega) | refine Up_u ?_ (by omega) | refine Up_sL ?_ (by omega) | refine Up_sI ?_ (by omega) | refine Up_l ?_ (by omega)))
      · try dsimp only at c6
        try simp only [kb_20, ki_1] at c6
        refine hs dX8_then_9 (hs dX8_then_10 (And.intro (trivial) (n0 (hs dX8_then_13 (And.intro (fun c13 => ?_) (fun c13 => ?_))))))
        · try dsimp only at c13
          try simp only [kb_20, ki_1] at c13
          refine hs dX8_then_20 (hs dX8_then_21 (And.intro (ob_0) (gr (r_0_3) (hs dX8_then_24 (hs dX8_then_25 (And.intro (ob_0) (gr (r_0_0) (hs dX8_then_28 (And.intro (ob_1) (gr (r_1_0) (hs dX8_then_31 (hs dX8_then_33 (And.intro (ob_55) (And.intro ⟨rfl, rfl, Or.inl rfl, (by decide), vit_2_0, vit_55_3, fun q => absurd ((show _ = ((-1) : Int32) from vit_55_5).symm.trans q) (by decide), vit_58_0⟩ (fun lg24 it24 hL24 hK24 hS24 hE24 hZ24 hB24 => n0 ?_ )))))))))))))))
          have f24_it_2_0 : it24 2 0 = 0 := (congrFun (hK24 2 (by decide)) 0).trans (vit_2_0)
          have f24_it_25_2 : it24 25 2 = 0 := (congrFun (hK24 25 (by decide)) 2).trans (vit_25_2)
          have hE24a : it24 55 4 = 0 := hE24.trans (by decide)
          refine hs dX8_then_36 (hs dX8_then_37 (hs dX8_then_38 (And.intro (ob_0) (gr (r_0_3) (hs dX8_then_41 (And.intro (ob_55) (gr (r_55_0) (hs dX8_then_44 (hs dX8_then_45 (And.intro (ob_0) (gr (r_0_3) (hs dX8_then_48 (And.intro (ob_55) (gx (v := 0) (by simp [u2, sL, sI, mx, zr, hS24]) (hs dX8_then_51 (And.intro (oa_56) (And.intro (vin ln_56 (by decide)) (grv (r_56_0) (hs dX8_then_52 (hs dX8_then_53 (And.intro (ob_0) (And.intro ⟨rfl, rfl, Or.inr rfl, by simp [u2, sL, sI, mx, zr, hZ24]⟩ (n0 (hs dX8_then_56 (hs dX8_then_57 (And.intro (ob_0) (gr (r_0_7) (hs dX8_then_60 (hs dX8_then_61 (And.intro (ob_486) (And.intro (ob_486) (n0 (gxl (v := (if b = 0 then 0 else 1)) (hlf_v (by simp [u2, sL, sI, mx, zr, kb_20, ki_1]) (by simp [u2, sL, sI, mx, zr, kb_20, ki_1]) (by simp [u2, sL, sI, mx, zr, kb_20, ki_1])) ?_ )))))))))))))))))))))))))))))))))
          refine hs dX8_then_64 (And.intro (rfl) (And.intro rfl ?_))
          try simp only [kb_20, ki_1, b2_0, b2_1] at c1 c6 c13
          try simp only [Int32.lt_iff_toInt_lt, Int32.le_iff_toInt_le, ← Int32.toInt_inj, ti_0, ti_1, ti_20] at c1 c6 c13
          have e : an_then a b = (if b = 0 then 0 else 1) := by
            unfold an_then
            try simp only [ti_0]
            rw [if_pos (by first | omega | (simp <;> omega))]
            by_cases g : b = 0
            · rw [if_pos g, if_pos (by rw [g, ti_0])]
              all_goals first | rfl | rw [if_pos (by omega)] | rw [if_neg (by omega)] | simp
            · rw [if_neg g, if_neg (fun q => g (Int32.toInt_inj.mp (by rw [ti_0]; exact q)))]
          rw [e] at hk
          exact hk _ _ (by repeat (first | exact Up_0 | assumption | refine Up_k ?_ (by assumption) (by assumption) | refine Up_w ?_ (by assumption) (by assumption) | refine Up_q ?_ (by assumption) | refine Up_p ?_ (by assumption) | refine Up_r ?_ (by assumption) (by omega) | refine Up_u ?_ (by omega) | refine Up_sL ?_ (by omega) | refine Up_sI ?_ (by omega) | refine Up_l ?_ (by omega)))
        · try dsimp only at c13
          try simp only [kb_20, ki_1] at c13
          refine hs dX8_then_16 (hs dX8_then_19 (And.intro (rfl) (And.intro rfl ?_)))
          try simp only [kb_20, ki_1, b2_0, b2_1] at c1 c6 c13
          try simp only [Int32.lt_iff_toInt_lt, Int32.le_iff_toInt_le, ← Int32.toInt_inj, ti_0, ti_1, ti_20] at c1 c6 c13
          have e : an_then a b = (-9223372036854775808) := by
            first
            | (exfalso; omega)
            | unfold an_then
              try simp only [ti_0, ti_1]
              repeat (first | rw [if_pos (by first | omega | simp)] | rw [if_neg (by omega)])
              all_goals rfl
          rw [e] at hk
          exact hk _ _ (by repeat (first | exact Up_0 | assumption | refine Up_k ?_ (by assumption) (by assumption) | refine Up_w ?_ (by assumption) (by assumption) | refine Up_q ?_ (by assumption) | refine Up_p ?_ (by assumption) | refine Up_r ?_ (by assumption) (by omega) | refine Up_u ?_ (by omega) | refine Up_sL ?_ (by omega) | refine Up_sI ?_ (by omega) | refine Up_l ?_ (by omega)))
  · exact h.elim
theorem ct_X8_then {E : Ev} {l : Launch} : CT E l yX8_then (wsY yX8_then cX8_then 3 (some .long)) rm_X8_then 0 sp_X8_then := ct_of (T := T_X8_then) (own := RX8) (by decide) rfl (fun ci h10 hc => by have h2 : (99 : Nat) = ci := Nat.eq_of_beq_eq_true hc; omega) ⟨rfl, rfl⟩ ⟨fok_X8, clok_X8, jok_X8, List.forall_mem_cons.mpr ⟨cok_S ct_X8_isPart ((cl_ins (c := 8) (by decide)).2) ml_X8_185 im_X8_isPart co_X8_isPart mo_X8_isPart (by decide), List.forall_mem_cons.mpr ⟨cok_V ct_X0_work (by decide) rfl ml_X8_129 im_X0_work se_X0_work co_X0_work mo_X0_work (by decide), List.forall_mem_cons.mpr ⟨cok_V ct_X8_addUp (by decide) rfl ml_X8_201 im_X8_addUp se_X8_addUp co_X8_addUp mo_X8_addUp (by decide), List.forall_mem_cons.mpr ⟨cok_V ct_X1_half (by decide) rfl ml_X8_194 im_X1_half se_X1_half co_X1_half mo_X1_half (by decide), fun _ h => absurd h List.not_mem_nil⟩⟩⟩⟩⟩ bd_X8_then
def sp_X8_push : Spc := fun as N lg it rf K => match as with | [.ref 0, .int a, .int b] => (N = NT ∧ lg = LG0 ∧ it = IT0 ∧ rf = RF0) ∧ ∀ lg' it', Up lg' it' → K (some (.long (an_push a b))) lg' it' RF0 | _ => False
def T_X8_push : Tab := (FL_X8, CL_X8, JL_X8, [(185, 1, 1, 0, 0, sp_X8_isPart), (201, 0, 3, 8, 0, sp_X8_addUp), (194, 0, 2, 1, 0, sp_X1_half)], 99, (some .long))
def rm_X8_push : Room := { frames := 2, cells := 0, slots := 0, locals := 45 }
set_option maxHeartbeats 16000000 in
set_option maxRecDepth 100000 in
theorem bd_X8_push (as : List Value) (N : Nat) (lg : LGt) (it : ITt) (rf : RFt) (Q : Post) (h : sp_X8_push as N lg it rf Q) : Bd T_X8_push cX8_push 3 0 as N lg it rf Q := by
  unfold sp_X8_push at h
  split at h
  · rename_i a b
    refine ⟨Nat.le_of_ble_eq_true rfl, fun P hs hw => ?_⟩
    obtain ⟨⟨rfl, rfl, rfl, rfl⟩, hk⟩ := h
    refine hs dX8_push_0 (hs dX8_push_1 (And.intro (fun c1 => ?_) (fun c1 => ?_)))
    · try dsimp only at c1
      try simp only [ki_1] at c1
      refine hs dX8_push_16 (hs dX8_push_19 (And.intro (rfl) (And.intro rfl ?_)))
      try simp only [ki_1, b2_0, b2_1] at c1
      try simp only [Int32.lt_iff_toInt_lt, Int32.le_iff_toInt_le, ← Int32.toInt_inj, ti_0, ti_1] at c1
      have e : an_push a b = (-9223372036854775808) := by
        first
        | (exfalso; omega)
        | unfold an_push
          try simp only [ti_0, ti_1]
          repeat (first | rw [if_pos (by first | omega | simp)] | rw [if_neg (by omega)])
          all_goals rfl
      rw [e] at hk
      exact hk _ _ (by repeat (first | exact Up_0 | assumption | refine Up_k ?_ (by assumption) (by assumption) | refine Up_w ?_ (by assumption) (by assumption) | refine Up_q ?_ (by assumption) | refine Up_p ?_ (by assumption) | refine Up_r ?_ (by assumption) (by omega) | refine Up_u ?_ (by omega) | refine Up_sL ?_ (by omega) | refine Up_sI ?_ (by omega) | refine Up_l ?_ (by omega)))
    · try dsimp only at c1
      try simp only [ki_1] at c1
      refine hs dX8_push_4 (hs dX8_push_5 (hs dX8_push_6 (And.intro (fun c6 => ?_) (fun c6 => ?_))))
      · try dsimp only at c6
        try simp only [ki_1] at c6
        refine hs dX8_push_16 (hs dX8_push_19 (And.intro (rfl) (And.intro rfl ?_)))
        try simp only [ki_1, b2_0, b2_1] at c1 c6
        try simp only [Int32.lt_iff_toInt_lt, Int32.le_iff_toInt_le, ← Int32.toInt_inj, ti_0, ti_1] at c1 c6
        have e : an_push a b = (-9223372036854775808) := by
          first
          | (exfalso; omega)
          | unfold an_push
            try simp only [ti_0, ti_1]
            repeat (first | rw [if_pos (by first | omega | simp)] | rw [if_neg (by omega)])
            all_goals rfl
        rw [e] at hk
        exact hk _ _ (by repeat (first | exact Up_0 | assumption | refine Up_k ?_ (by assumption) (by assumption) | refine Up_w ?_ (by assumption) (by assumption) | refine Up_q ?_ (by assumption) | refine Up_p ?_ (by assumption) | refine Up_r ?_ (by assumption) (by omega) | refine Up_u ?_ (by omega) | refine Up_sL ?_ (by omega) | refine Up_sI ?_ (by omega) | refine Up_l ?_ (by omega)))
      · try dsimp only at c6
        try simp only [ki_1] at c6
        refine hs dX8_push_9 (hs dX8_push_10 (And.intro (trivial) (n0 (hs dX8_push_13 (And.intro (fun c13 => ?_) (fun c13 => ?_))))))
        · try dsimp only at c13
          try simp only [ki_1] at c13
          refine hs dX8_push_20 (hs dX8_push_21 (hs dX8_push_22 (And.intro (ob_0) (gr (r_0_0) (hs dX8_push_25 (And.intro (ob_1) (gr (r_1_0) (hs dX8_push_28 (hs dX8_push_29 (And.intro (ob_0) (And.intro ⟨rfl, rfl, Or.inl rfl, vit_2_0⟩ (n0 (hs dX8_push_32 (hs dX8_push_33 (And.intro (ob_0) (gr (r_0_7) (hs dX8_push_36 (hs dX8_push_37 (And.intro (ob_486) (And.intro (ob_486) (n0 (gxl (v := (if b = 0 then 0 else 1)) (hlf_v (by simp [u2, sL, sI, mx, zr, ki_1]) (by simp [u2, sL, sI, mx, zr, ki_1]) (by simp [u2, sL, sI, mx, zr, ki_1])) ?_ ))))))))))))))))))))))
          refine hs dX8_push_40 (And.intro (rfl) (And.intro rfl ?_))
          try simp only [ki_1, b2_0, b2_1] at c1 c6 c13
          try simp only [Int32.lt_iff_toInt_lt, Int32.le_iff_toInt_le, ← Int32.toInt_inj, ti_0, ti_1] at c1 c6 c13
          have e : an_push a b = (if b = 0 then 0 else 1) := by
            unfold an_push
            try simp only [ti_0]
            rw [if_pos (by first | omega | (simp <;> omega))]
            by_cases g : b = 0
            · rw [if_pos g, if_pos (by rw [g, ti_0])]
              all_goals first | rfl | rw [if_pos (by omega)] | rw [if_neg (by omega)] | simp
            · rw [if_neg g, if_neg (fun q => g (Int32.toInt_inj.mp (by rw [ti_0]; exact q)))]
          rw [e] at hk
          exact hk _ _ (by repeat (first | exact Up_0 | assumption | refine Up_k ?_ (by assumption) (by assumption) | refine Up_w ?_ (by assumption) (by assumption) | refine Up_q ?_ (by assumption) | refine Up_p ?_ (by assumption) | refine Up_r ?_ (by assumption) (by omega) | refine Up_u ?_ (by omega) | refine Up_sL ?_ (by omega) | refine Up_sI ?_ (by omega) | refine Up_l ?_ (by omega)))
        · try dsimp only at c13
          try simp only [ki_1] at c13
          refine hs dX8_push_16 (hs dX8_push_19 (And.intro (rfl) (And.intro rfl ?_)))
          try simp only [ki_1, b2_0, b2_1] at c1 c6 c13
          try simp only [Int32.lt_iff_toInt_lt, Int32.le_iff_toInt_le, ← Int32.toInt_inj, ti_0, ti_1] at c1 c6 c13
          have e : an_push a b = (-9223372036854775808) := by
            first
            | (exfalso; omega)
            | unfold an_push
              try simp only [ti_0, ti_1]
              repeat (first | rw [if_pos (by first | omega | simp)] | rw [if_neg (by omega)])
              all_goals rfl
          rw [e] at hk
          exact hk _ _ (by repeat (first | exact Up_0 | assumption | refine Up_k ?_ (by assumption) (by assumption) | refine Up_w ?_ (by assumption) (by assumption) | refine Up_q ?_ (by assumption) | refine Up_p ?_ (by assumption) | refine Up_r ?_ (by assumption) (by omega) | refine Up_u ?_ (by omega) | refine Up_sL ?_ (by omega) | refine Up_sI ?_ (by omega) | refine Up_l ?_ (by omega)))
  · exact h.elim
theorem ct_X8_push {E : Ev} {l : Launch} : CT E l yX8_push (wsY yX8_push cX8_push 3 (some .long)) rm_X8_push 0 sp_X8_push := ct_of (T := T_X8_push) (own := RX8) (by decide) rfl (fun ci h10 hc => by have h2 : (99 : Nat) = ci := Nat.eq_of_beq_eq_true hc; omega) ⟨rfl, rfl⟩ ⟨fok_X8, clok_X8, jok_X8, List.forall_mem_cons.mpr ⟨cok_S ct_X8_isPart ((cl_ins (c := 8) (by decide)).2) ml_X8_185 im_X8_isPart co_X8_isPart mo_X8_isPart (by decide), List.forall_mem_cons.mpr ⟨cok_V ct_X8_addUp (by decide) rfl ml_X8_201 im_X8_addUp se_X8_addUp co_X8_addUp mo_X8_addUp (by decide), List.forall_mem_cons.mpr ⟨cok_V ct_X1_half (by decide) rfl ml_X8_194 im_X1_half se_X1_half co_X1_half mo_X1_half (by decide), fun _ h => absurd h List.not_mem_nil⟩⟩⟩⟩ bd_X8_push
def sp_X8_looked : Spc := fun as N lg it rf K => match as with | [.ref 0] => (N = NT ∧ lg = LG0 ∧ it = IT0 ∧ rf = RF0) ∧ ∀ lg' it', Up lg' it' → K (some (.int (an_looked))) lg' it' RF0 | _ => False
def T_X8_looked : Tab := (FL_X8, CL_X8, JL_X8, [(129, 0, 3, 0, 0, sp_X0_work), (239, 0, 2, 0, 0, sp_X0_firstUnlike)], 99, (some .int))
def rm_X8_looked : Room := { frames := 3, cells := 0, slots := 0, locals := 69 }
set_option maxHeartbeats 16000000 in
set_option maxRecDepth 100000 in
theorem bd_X8_looked (as : List Value) (N : Nat) (lg : LGt) (it : ITt) (rf : RFt) (Q : Post) (h : sp_X8_looked as N lg it rf Q) : Bd T_X8_looked cX8_looked 1 0 as N lg it rf Q := by
  unfold sp_X8_looked at h
  split at h
  · refine ⟨Nat.le_of_ble_eq_true rfl, fun P hs hw => ?_⟩
    obtain ⟨⟨rfl, rfl, rfl, rfl⟩, hk⟩ := h
    refine hs dX8_looked_0 (hs dX8_looked_1 (And.intro (ob_0) (gr (r_0_3) (hs dX8_looked_4 (hs dX8_looked_5 (And.intro (ob_0) (gr (r_0_0) (hs dX8_looked_8 (And.intro (ob_1) (gr (r_1_0) (hs dX8_looked_11 (hs dX8_looked_13 (And.intro (ob_55) (And.intro ⟨rfl, rfl, Or.inl rfl, (by decide), vit_2_0, vit_55_3, fun q => absurd ((show _ = ((-1) : Int32) from vit_55_5).symm.trans q) (by decide), vit_58_0⟩ (fun lg25 it25 hL25 hK25 hS25 hE25 hZ25 hB25 => n0 ?_ )))))))))))))))
    have f25_it_2_0 : it25 2 0 = 0 := (congrFun (hK25 2 (by decide)) 0).trans (vit_2_0)
    have f25_it_25_2 : it25 25 2 = 0 := (congrFun (hK25 25 (by decide)) 2).trans (vit_25_2)
    have hE25a : it25 55 4 = 0 := hE25.trans (by decide)
    refine hs dX8_looked_16 (hs dX8_looked_17 (And.intro (ob_0) (gr (r_0_3) (hs dX8_looked_20 (hs dX8_looked_21 (And.intro (ob_0) (gr (r_0_0) (hs dX8_looked_24 (And.intro (ob_1) (gr (r_1_3) (hs dX8_looked_27 (And.intro (ob_55) (And.intro ⟨rfl, rfl, by simp [u2, sL, sI, mx, zr, f25_it_25_2]⟩ (n0 (hs dX8_looked_30 (And.intro (rfl) (And.intro rfl ?_)))))))))))))))))
    have e : an_looked = (-5) := rfl
    rw [e] at hk
    exact hk _ _ (by repeat (first | exact Up_0 | assumption | refine Up_k ?_ (by assumption) (by assumption) | refine Up_w ?_ (by assumption) (by assumption) | refine Up_q ?_ (by assumption) | refine Up_p ?_ (by assumption) | refine Up_r ?_ (by assumption) (by omega) | refine Up_u ?_ (by omega) | refine Up_sL ?_ (by omega) | refine Up_sI ?_ (by omega) | refine Up_l ?_ (by omega)))
  · exact h.elim
theorem ct_X8_looked {E : Ev} {l : Launch} : CT E l yX8_looked (wsY yX8_looked cX8_looked 1 (some .int)) rm_X8_looked 0 sp_X8_looked := ct_of (T := T_X8_looked) (own := RX8) (by decide) rfl (fun ci h10 hc => by have h2 : (99 : Nat) = ci := Nat.eq_of_beq_eq_true hc; omega) ⟨rfl, rfl⟩ ⟨fok_X8, clok_X8, jok_X8, List.forall_mem_cons.mpr ⟨cok_V ct_X0_work (by decide) rfl ml_X8_129 im_X0_work se_X0_work co_X0_work mo_X0_work (by decide), List.forall_mem_cons.mpr ⟨cok_V ct_X0_firstUnlike (by decide) rfl ml_X8_239 im_X0_firstUnlike se_X0_firstUnlike co_X0_firstUnlike mo_X0_firstUnlike (by decide), fun _ h => absurd h List.not_mem_nil⟩⟩⟩ bd_X8_looked
def sp_X8_told : Spc := fun as N lg it rf K => match as with | [.ref 0, .int a] => (N = NT ∧ lg = LG0 ∧ it = IT0 ∧ rf = RF0) ∧ ∀ lg' it', Up lg' it' → K (some (.int (an_told a))) lg' it' RF0 | _ => False
def T_X8_told : Tab := (FL_X8, CL_X8, JL_X8, [(122, 0, 2, 8, 0, sp_X8_toldWall), (129, 0, 3, 0, 0, sp_X0_work)], 99, (some .int))
def rm_X8_told : Room := { frames := 3, cells := 0, slots := 0, locals := 69 }
set_option maxHeartbeats 16000000 in
set_option maxRecDepth 100000 in
theorem bd_X8_told (as : List Value) (N : Nat) (lg : LGt) (it : ITt) (rf : RFt) (Q : Post) (h : sp_X8_told as N lg it rf Q) : Bd T_X8_told cX8_told 2 0 as N lg it rf Q := by
  unfold sp_X8_told at h
  split at h
  · rename_i a
    refine ⟨Nat.le_of_ble_eq_true rfl, fun P hs hw => ?_⟩
    obtain ⟨⟨rfl, rfl, rfl, rfl⟩, hk⟩ := h
    refine hs dX8_told_0 (hw dX8_told_1 (And.intro (fun c1 => ?_) (And.intro (fun c1 => ?_) (And.intro (fun c1 => ?_) (And.intro (fun c1 => ?_) (And.intro (fun c1 => ?_) (And.intro (fun c1 => ?_) (And.intro (fun c1 => ?_) trivial))))))))
    · try simp only [kb_20, ki_m1, ki_0, ki_1] at c1
      refine hs dX8_told_122 (hs dX8_told_123 (And.intro (rfl) (And.intro rfl ?_)))
      try simp only [kb_20, ki_m1, ki_0, ki_1, b2_0, b2_1] at c1
      try simp only [Int32.lt_iff_toInt_lt, Int32.le_iff_toInt_le, ← Int32.toInt_inj, ti_m1, ti_0, ti_1, ti_20] at c1
      have e : an_told a = (-1) := by
        first
        | (exfalso; omega)
        | unfold an_told
          try simp only [ti_0, ti_1]
          repeat (first | rw [if_pos (by first | omega | simp)] | rw [if_neg (by omega)])
          all_goals rfl
      rw [e] at hk
      exact hk _ _ (by repeat (first | exact Up_0 | assumption | refine Up_k ?_ (by assumption) (by assumption) | refine Up_w ?_ (by assumption) (by assumption) | refine Up_q ?_ (by assumption) | refine Up_p ?_ (by assumption) | refine Up_r ?_ (by assumption) (by omega) | refine Up_u ?_ (by omega) | refine Up_sL ?_ (by omega) | refine Up_sI ?_ (by omega) | refine Up_l ?_ (by omega)))
    · try simp only [kb_20, ki_m1, ki_0, ki_1] at c1
      refine hs dX8_told_40 (hs dX8_told_41 (And.intro (ob_0) (gr (r_0_0) (hs dX8_told_44 (And.intro (ob_1) (gr (r_1_0) (hs dX8_told_47 (And.intro (ob_2) (gx (v := 0) (vit_2_0) (hs dX8_told_50 (And.intro (rfl) (And.intro rfl ?_))))))))))))
      try simp only [kb_20, ki_m1, ki_0, ki_1, b2_0, b2_1] at c1
      try simp only [Int32.lt_iff_toInt_lt, Int32.le_iff_toInt_le, ← Int32.toInt_inj, ti_m1, ti_0, ti_1, ti_20] at c1
      have e : an_told a = 0 := by
        first
        | (exfalso; omega)
        | unfold an_told
          try simp only [ti_0, ti_1]
          repeat (first | rw [if_pos (by first | omega | simp)] | rw [if_neg (by omega)])
          all_goals rfl
      rw [e] at hk
      exact hk _ _ (by repeat (first | exact Up_0 | assumption | refine Up_k ?_ (by assumption) (by assumption) | refine Up_w ?_ (by assumption) (by assumption) | refine Up_q ?_ (by assumption) | refine Up_p ?_ (by assumption) | refine Up_r ?_ (by assumption) (by omega) | refine Up_u ?_ (by omega) | refine Up_sL ?_ (by omega) | refine Up_sI ?_ (by omega) | refine Up_l ?_ (by omega)))
    · try simp only [kb_20, ki_m1, ki_0, ki_1] at c1
      refine hs dX8_told_51 (hs dX8_told_52 (And.intro (ob_0) (gr (r_0_0) (hs dX8_told_55 (And.intro (ob_1) (gr (r_1_0) (hs dX8_told_58 (And.intro (ob_2) (gx (v := 4) (vit_2_4) (hs dX8_told_61 (And.intro (rfl) (And.intro rfl ?_))))))))))))
      try simp only [kb_20, ki_m1, ki_0, ki_1, b2_0, b2_1] at c1
      try simp only [Int32.lt_iff_toInt_lt, Int32.le_iff_toInt_le, ← Int32.toInt_inj, ti_m1, ti_0, ti_1, ti_20] at c1
      have e : an_told a = 4 := by
        first
        | (exfalso; omega)
        | unfold an_told
          try simp only [ti_0, ti_1]
          repeat (first | rw [if_pos (by first | omega | simp)] | rw [if_neg (by omega)])
          all_goals rfl
      rw [e] at hk
      exact hk _ _ (by repeat (first | exact Up_0 | assumption | refine Up_k ?_ (by assumption) (by assumption) | refine Up_w ?_ (by assumption) (by assumption) | refine Up_q ?_ (by assumption) | refine Up_p ?_ (by assumption) | refine Up_r ?_ (by assumption) (by omega) | refine Up_u ?_ (by omega) | refine Up_sL ?_ (by omega) | refine Up_sI ?_ (by omega) | refine Up_l ?_ (by omega)))
    · try simp only [kb_20, ki_m1, ki_0, ki_1] at c1
      refine hs dX8_told_62 (hs dX8_told_63 (hs dX8_told_64 (And.intro (ob_0) (And.intro ⟨rfl, rfl, Or.inl rfl, vit_18_0, vit_18_1⟩ (n0 (hs dX8_told_67 (And.intro (rfl) (And.intro rfl ?_))))))))
      try simp only [kb_20, ki_m1, ki_0, ki_1, b2_0, b2_1] at c1
      try simp only [Int32.lt_iff_toInt_lt, Int32.le_iff_toInt_le, ← Int32.toInt_inj, ti_m1, ti_0, ti_1, ti_20] at c1
      have e : an_told a = 4 := by
        first
        | (exfalso; omega)
        | unfold an_told
          try simp only [ti_0, ti_1]
          repeat (first | rw [if_pos (by first | omega | simp)] | rw [if_neg (by omega)])
          all_goals rfl
      rw [e] at hk
      exact hk _ _ (by repeat (first | exact Up_0 | assumption | refine Up_k ?_ (by assumption) (by assumption) | refine Up_w ?_ (by assumption) (by assumption) | refine Up_q ?_ (by assumption) | refine Up_p ?_ (by assumption) | refine Up_r ?_ (by assumption) (by omega) | refine Up_u ?_ (by omega) | refine Up_sL ?_ (by omega) | refine Up_sI ?_ (by omega) | refine Up_l ?_ (by omega)))
    · try simp only [kb_20, ki_m1, ki_0, ki_1] at c1
      refine hs dX8_told_68 (hs dX8_told_69 (hs dX8_told_70 (And.intro (ob_0) (And.intro ⟨rfl, rfl, Or.inr rfl, vit_18_0, vit_18_1⟩ (n0 (hs dX8_told_73 (And.intro (rfl) (And.intro rfl ?_))))))))
      try simp only [kb_20, ki_m1, ki_0, ki_1, b2_0, b2_1] at c1
      try simp only [Int32.lt_iff_toInt_lt, Int32.le_iff_toInt_le, ← Int32.toInt_inj, ti_m1, ti_0, ti_1, ti_20] at c1
      have e : an_told a = 4 := by
        first
        | (exfalso; omega)
        | unfold an_told
          try simp only [ti_0, ti_1]
          repeat (first | rw [if_pos (by first | omega | simp)] | rw [if_neg (by omega)])
          all_goals rfl
      rw [e] at hk
      exact hk _ _ (by repeat (first | exact Up_0 | assumption | refine Up_k ?_ (by assumption) (by assumption) | refine Up_w ?_ (by assumption) (by assumption) | refine Up_q ?_ (by assumption) | refine Up_p ?_ (by assumption) | refine Up_r ?_ (by assumption) (by omega) | refine Up_u ?_ (by omega) | refine Up_sL ?_ (by omega) | refine Up_sI ?_ (by omega) | refine Up_l ?_ (by omega)))
    · try simp only [kb_20, ki_m1, ki_0, ki_1] at c1
      refine hs dX8_told_74 (hs dX8_told_75 (And.intro (ob_0) (gr (r_0_3) (hs dX8_told_78 (hs dX8_told_79 (And.intro (ob_0) (gr (r_0_0) (hs dX8_told_82 (And.intro (ob_1) (gr (r_1_0) (hs dX8_told_85 (hs dX8_told_87 (And.intro (ob_55) (And.intro ⟨rfl, rfl, Or.inl rfl, (by decide), vit_2_0, vit_55_3, fun q => absurd ((show _ = ((-1) : Int32) from vit_55_5).symm.trans q) (by decide), vit_58_0⟩ (fun lg26 it26 hL26 hK26 hS26 hE26 hZ26 hB26 => n0 ?_ )))))))))))))))
      have f26_it_2_0 : it26 2 0 = 0 := (congrFun (hK26 2 (by decide)) 0).trans (vit_2_0)
      have f26_it_25_2 : it26 25 2 = 0 := (congrFun (hK26 25 (by decide)) 2).trans (vit_25_2)
      have hE26a : it26 55 4 = 0 := hE26.trans (by decide)
      refine hs dX8_told_90 (hs dX8_told_91 (And.intro (ob_0) (gr (r_0_3) (hs dX8_told_94 (And.intro (ob_55) (gx (v := 0) (by simp [u2, sL, sI, mx, zr, hS26]) (hs dX8_told_97 (And.intro (rfl) (And.intro rfl ?_)))))))))
      try simp only [kb_20, ki_m1, ki_0, ki_1, b2_0, b2_1] at c1
      try simp only [Int32.lt_iff_toInt_lt, Int32.le_iff_toInt_le, ← Int32.toInt_inj, ti_m1, ti_0, ti_1, ti_20] at c1
      have e : an_told a = 0 := by
        first
        | (exfalso; omega)
        | unfold an_told
          try simp only [ti_0, ti_1]
          repeat (first | rw [if_pos (by first | omega | simp)] | rw [if_neg (by omega)])
          all_goals rfl
      rw [e] at hk
      exact hk _ _ (by repeat (first | exact Up_0 | assumption | refine Up_k ?_ (by assumption) (by assumption) | refine Up_w ?_ (by assumption) (by assumption) | refine Up_q ?_ (by assumption) | refine Up_p ?_ (by assumption) | refine Up_r ?_ (by assumption) (by omega) | refine Up_u ?_ (by omega) | refine Up_sL ?_ (by omega) | refine Up_sI ?_ (by omega) | refine Up_l ?_ (by omega)))
    · try simp only [kb_20, ki_m1, ki_0, ki_1] at c1
      refine hs dX8_told_98 (hs dX8_told_99 (And.intro (ob_0) (gr (r_0_3) (hs dX8_told_102 (hs dX8_told_103 (And.intro (ob_0) (gr (r_0_0) (hs dX8_told_106 (And.intro (ob_1) (gr (r_1_0) (hs dX8_told_109 (hs dX8_told_111 (And.intro (ob_55) (And.intro ⟨rfl, rfl, Or.inl rfl, (by decide), vit_2_0, vit_55_3, fun q => absurd ((show _ = ((-1) : Int32) from vit_55_5).symm.trans q) (by decide), vit_58_0⟩ (fun lg27 it27 hL27 hK27 hS27 hE27 hZ27 hB27 => n0 ?_ )))))))))))))))
      have f27_it_2_0 : it27 2 0 = 0 := (congrFun (hK27 2 (by decide)) 0).trans (vit_2_0)
      have f27_it_25_2 : it27 25 2 = 0 := (congrFun (hK27 25 (by decide)) 2).trans (vit_25_2)
      have hE27a : it27 55 4 = 0 := hE27.trans (by decide)
      refine hs dX8_told_114 (hs dX8_told_115 (And.intro (ob_0) (gr (r_0_3) (hs dX8_told_118 (And.intro (ob_55) (gx (v := 0) (by simp [u2, sL, sI, mx, zr, hE27a]) (hs dX8_told_121 (And.intro (rfl) (And.intro rfl ?_)))))))))
      try simp only [kb_20, ki_m1, ki_0, ki_1, b2_0, b2_1] at c1
      try simp only [Int32.lt_iff_toInt_lt, Int32.le_iff_toInt_le, ← Int32.toInt_inj, ti_m1, ti_0, ti_1, ti_20] at c1
      have e : an_told a = 0 := by
        first
        | (exfalso; omega)
        | unfold an_told
          try simp only [ti_0, ti_1]
          repeat (first | rw [if_pos (by first | omega | simp)] | rw [if_neg (by omega)])
          all_goals rfl
      rw [e] at hk
      exact hk _ _ (by repeat (first | exact Up_0 | assumption | refine Up_k ?_ (by assumption) (by assumption) | refine Up_w ?_ (by assumption) (by assumption) | refine Up_q ?_ (by assumption) | refine Up_p ?_ (by assumption) | refine Up_r ?_ (by assumption) (by omega) | refine Up_u ?_ (by omega) | refine Up_sL ?_ (by omega) | refine Up_sI ?_ (by omega) | refine Up_l ?_ (by omega)))
  · exact h.elim
theorem ct_X8_told {E : Ev} {l : Launch} : CT E l yX8_told (wsY yX8_told cX8_told 2 (some .int)) rm_X8_told 0 sp_X8_told := ct_of (T := T_X8_told) (own := RX8) (by decide) rfl (fun ci h10 hc => by have h2 : (99 : Nat) = ci := Nat.eq_of_beq_eq_true hc; omega) ⟨rfl, rfl⟩ ⟨fok_X8, clok_X8, jok_X8, List.forall_mem_cons.mpr ⟨cok_V ct_X8_toldWall (by decide) rfl ml_X8_122 im_X8_toldWall se_X8_toldWall co_X8_toldWall mo_X8_toldWall (by decide), List.forall_mem_cons.mpr ⟨cok_V ct_X0_work (by decide) rfl ml_X8_129 im_X0_work se_X0_work co_X0_work mo_X0_work (by decide), fun _ h => absurd h List.not_mem_nil⟩⟩⟩ bd_X8_told
def sp_X8_go : Spc := fun as N lg it rf K => match as with | [.ref 0, .int a] => (N = NT ∧ lg = LG0 ∧ it = IT0 ∧ rf = RF0) ∧ ∀ lg' it', Up lg' it' → K (some (.int (an_go a))) lg' it' RF0 | _ => False
def T_X8_go : Tab := (FL_X8, CL_X8, JL_X8, [(129, 0, 3, 0, 0, sp_X0_work), (136, 1, 2, 0, 0, sp_min), (146, 0, 2, 3, 0, sp_X3_become)], 99, (some .int))
def rm_X8_go : Room := { frames := 3, cells := 0, slots := 0, locals := 69 }
set_option maxHeartbeats 16000000 in
set_option maxRecDepth 100000 in
theorem bd_X8_go (as : List Value) (N : Nat) (lg : LGt) (it : ITt) (rf : RFt) (Q : Post) (h : sp_X8_go as N lg it rf Q) : Bd T_X8_go cX8_go 3 0 as N lg it rf Q := by
  unfold sp_X8_go at h
  split at h
  · rename_i a
    refine ⟨Nat.le_of_ble_eq_true rfl, fun P hs hw => ?_⟩
    obtain ⟨⟨rfl, rfl, rfl, rfl⟩, hk⟩ := h
    refine hs dX8_go_0 (hs dX8_go_1 (And.intro (fun c1 => ?_) (fun c1 => ?_)))
    · try dsimp only at c1
      try simp only [kb_m2, kb_20] at c1
      refine hs dX8_go_10 (hs dX8_go_12 (And.intro (rfl) (And.intro rfl ?_)))
      try simp only [kb_m2, kb_20, b2_0, b2_1] at c1
      try simp only [Int32.lt_iff_toInt_lt, Int32.le_iff_toInt_le, ← Int32.toInt_inj, ti_m2, ti_0, ti_20] at c1
      have e : an_go a = (-2) := by
        first
        | (exfalso; omega)
        | unfold an_go
          try simp only [ti_0, ti_1]
          repeat (first | rw [if_pos (by first | omega | simp)] | rw [if_neg (by omega)])
          all_goals rfl
      rw [e] at hk
      exact hk _ _ (by repeat (first | exact Up_0 | assumption | refine Up_k ?_ (by assumption) (by assumption) | refine Up_w ?_ (by assumption) (by assumption) | refine Up_q ?_ (by assumption) | refine Up_p ?_ (by assumption) | refine Up_r ?_ (by assumption) (by omega) | refine Up_u ?_ (by omega) | refine Up_sL ?_ (by omega) | refine Up_sI ?_ (by omega) | refine Up_l ?_ (by omega)))
    · try dsimp only at c1
      try simp only [kb_m2, kb_20] at c1
      refine hs dX8_go_4 (hs dX8_go_5 (hs dX8_go_7 (And.intro (fun c7 => ?_) (fun c7 => ?_))))
      · try dsimp only at c7
        try simp only [kb_m2, kb_20] at c7
        refine hs dX8_go_13 (hs dX8_go_14 (And.intro (ob_0) (gr (r_0_3) (hs dX8_go_17 (hs dX8_go_18 (And.intro (ob_0) (gr (r_0_0) (hs dX8_go_21 (And.intro (ob_1) (gr (r_1_0) (hs dX8_go_24 (hs dX8_go_26 (And.intro (ob_55) (And.intro ⟨rfl, rfl, Or.inl rfl, (by decide), vit_2_0, vit_55_3, fun q => absurd ((show _ = ((-1) : Int32) from vit_55_5).symm.trans q) (by decide), vit_58_0⟩ (fun lg28 it28 hL28 hK28 hS28 hE28 hZ28 hB28 => n0 ?_ )))))))))))))))
        have f28_it_2_0 : it28 2 0 = 0 := (congrFun (hK28 2 (by decide)) 0).trans (vit_2_0)
        have f28_it_25_2 : it28 25 2 = 0 := (congrFun (hK28 25 (by decide)) 2).trans (vit_25_2)
        have hE28a : it28 55 4 = 0 := hE28.trans (by decide)
        refine hs dX8_go_29 (hs dX8_go_30 (hs dX8_go_31 (And.intro (ob_0) (gr (r_0_3) (hs dX8_go_34 (And.intro (ob_55) (gx (v := 0) (by simp [u2, sL, sI, mx, zr, hS28]) (hs dX8_go_37 (And.intro (trivial) (n0 (gx (v := 0) (min0 c1) ?_ )))))))))))
        refine hs dX8_go_40 (hs dX8_go_41 (hs dX8_go_42 (And.intro (ob_0) (gr (r_0_0) (hs dX8_go_45 (And.intro (ob_1) (gr (r_1_0) (hs dX8_go_48 (hs dX8_go_49 (And.intro (ob_0) (gr (r_0_3) (hs dX8_go_52 (And.intro (ob_55) (gr (r_55_0) (hs dX8_go_55 (hs dX8_go_56 (And.intro (oa_56) (And.intro (vin ln_56 (by decide)) (grv (r_56_0) (hs dX8_go_57 (And.intro (ob_2) (And.intro ⟨rfl, rfl, Or.inr (Or.inr (Or.inr (Or.inr (Or.inr (⟨rfl, rfl⟩))))), by simp [u2, sL, sI, mx, zr, hZ28]⟩ (fun it29 hR29 hZ29 => n0 ?_ )))))))))))))))))))))))
        refine hs dX8_go_60 (hs dX8_go_61 (And.intro (rfl) (And.intro rfl ?_)))
        try simp only [kb_m2, kb_20, b2_0, b2_1] at c1 c7
        try simp only [Int32.lt_iff_toInt_lt, Int32.le_iff_toInt_le, ← Int32.toInt_inj, ti_m2, ti_0, ti_20] at c1 c7
        have e : an_go a = 0 := by
          first
          | (exfalso; omega)
          | unfold an_go
            try simp only [ti_0, ti_1]
            repeat (first | rw [if_pos (by first | omega | simp)] | rw [if_neg (by omega)])
            all_goals rfl
        rw [e] at hk
        exact hk _ _ (by repeat (first | exact Up_0 | assumption | refine Up_k ?_ (by assumption) (by assumption) | refine Up_w ?_ (by assumption) (by assumption) | refine Up_q ?_ (by assumption) | refine Up_p ?_ (by assumption) | refine Up_r ?_ (by assumption) (by omega) | refine Up_u ?_ (by omega) | refine Up_sL ?_ (by omega) | refine Up_sI ?_ (by omega) | refine Up_l ?_ (by omega)))
      · try dsimp only at c7
        try simp only [kb_m2, kb_20] at c7
        refine hs dX8_go_10 (hs dX8_go_12 (And.intro (rfl) (And.intro rfl ?_)))
        try simp only [kb_m2, kb_20, b2_0, b2_1] at c1 c7
        try simp only [Int32.lt_iff_toInt_lt, Int32.le_iff_toInt_le, ← Int32.toInt_inj, ti_m2, ti_0, ti_20] at c1 c7
        have e : an_go a = (-2) := by
          first
          | (exfalso; omega)
          | unfold an_go
            try simp only [ti_0, ti_1]
            repeat (first | rw [if_pos (by first | omega | simp)] | rw [if_neg (by omega)])
            all_goals rfl
        rw [e] at hk
        exact hk _ _ (by repeat (first | exact Up_0 | assumption | refine Up_k ?_ (by assumption) (by assumption) | refine Up_w ?_ (by assumption) (by assumption) | refine Up_q ?_ (by assumption) | refine Up_p ?_ (by assumption) | refine Up_r ?_ (by assumption) (by omega) | refine Up_u ?_ (by omega) | refine Up_sL ?_ (by omega) | refine Up_sI ?_ (by omega) | refine Up_l ?_ (by omega)))
  · exact h.elim
theorem ct_X8_go {E : Ev} {l : Launch} : CT E l yX8_go (wsY yX8_go cX8_go 3 (some .int)) rm_X8_go 0 sp_X8_go := ct_of (T := T_X8_go) (own := RX8) (by decide) rfl (fun ci h10 hc => by have h2 : (99 : Nat) = ci := Nat.eq_of_beq_eq_true hc; omega) ⟨rfl, rfl⟩ ⟨fok_X8, clok_X8, jok_X8, List.forall_mem_cons.mpr ⟨cok_V ct_X0_work (by decide) rfl ml_X8_129 im_X0_work se_X0_work co_X0_work mo_X0_work (by decide), List.forall_mem_cons.mpr ⟨cok_min ml_X8_136 o_math.2.1 o_math.2.2.1 o_math.2.2.2.2 (by decide), List.forall_mem_cons.mpr ⟨cok_V ct_X3_become (by decide) rfl ml_X8_146 im_X3_become se_X3_become co_X3_become mo_X3_become (by decide), fun _ h => absurd h List.not_mem_nil⟩⟩⟩⟩ bd_X8_go
def sp_X8_event : Spc := fun as N lg it rf K => match as with | [.ref 0, .int a, .int b] => (N = NT ∧ lg = LG0 ∧ it = IT0 ∧ rf = RF0) ∧ ∀ lg' it', Up lg' it' → K (some (.int (an_event a b))) lg' it' RF0 | _ => False
def T_X8_event : Tab := (FL_X8, CL_X8, JL_X8, [(109, 0, 2, 8, 0, sp_X8_isBumper), (112, 1, 1, 0, 0, sp_X8_isQuarters), (252, 0, 3, 2, 0, sp_X2_add)], 99, (some .int))
def rm_X8_event : Room := { frames := 1, cells := 0, slots := 0, locals := 22 }
set_option maxHeartbeats 16000000 in
set_option maxRecDepth 100000 in
theorem bd_X8_event (as : List Value) (N : Nat) (lg : LGt) (it : ITt) (rf : RFt) (Q : Post) (h : sp_X8_event as N lg it rf Q) : Bd T_X8_event cX8_event 4 0 as N lg it rf Q := by
  unfold sp_X8_event at h
  split at h
  · rename_i a b
    refine ⟨Nat.le_of_ble_eq_true rfl, fun P hs hw => ?_⟩
    obtain ⟨⟨rfl, rfl, rfl, rfl⟩, hk⟩ := h
    refine hs dX8_event_0 (hs dX8_event_1 (hs dX8_event_2 (And.intro (fun c2 => ?_) (fun c2 => ?_))))
    · try dsimp only at c2
      try simp only [kb_m2, kb_9, ki_m1, ki_0, ki_1, ki_2, ki_3] at c2
      refine hs dX8_event_18 (hs dX8_event_19 (And.intro (fun c19 => ?_) (fun c19 => ?_)))
      · try dsimp only at c19
        try simp only [kb_m2, kb_9, ki_m1, ki_0, ki_1, ki_2, ki_3] at c19
        refine hs dX8_event_39 (hs dX8_event_40 (And.intro (rfl) (And.intro rfl ?_)))
        try simp only [kb_m2, kb_9, ki_m1, ki_0, ki_1, ki_2, ki_3, b2_0, b2_1] at c2 c19
        try simp only [Int32.lt_iff_toInt_lt, Int32.le_iff_toInt_le, ← Int32.toInt_inj, ti_m2, ti_m1, ti_0, ti_1, ti_2, ti_3, ti_9] at c2 c19
        have e : an_event a b = (-1) := by
          first
          | (exfalso; omega)
          | unfold an_event
            try simp only [ti_0, ti_1]
            repeat (first | rw [if_pos (by first | omega | simp)] | rw [if_neg (by omega)])
            all_goals rfl
        rw [e] at hk
        exact hk _ _ (by repeat (first | exact Up_0 | assumption | refine Up_k ?_ (by assumption) (by assumption) | refine Up_w ?_ (by assumption) (by assumption) | refine Up_q ?_ (by assumption) | refine Up_p ?_ (by assumption) | refine Up_r ?_ (by assumption) (by omega) | refine Up_u ?_ (by omega) | refine Up_sL ?_ (by omega) | refine Up_sI ?_ (by omega) | refine Up_l ?_ (by omega)))
      · try dsimp only at c19
        try simp only [kb_m2, kb_9, ki_m1, ki_0, ki_1, ki_2, ki_3] at c19
        refine hs dX8_event_22 (hs dX8_event_23 (hs dX8_event_24 (And.intro (fun c24 => ?_) (fun c24 => ?_))))
        · try dsimp only at c24
          try simp only [kb_m2, kb_9, ki_m1, ki_0, ki_1, ki_2, ki_3] at c24
          refine hs dX8_event_39 (hs dX8_event_40 (And.intro (rfl) (And.intro rfl ?_)))
          try simp only [kb_m2, kb_9, ki_m1, ki_0, ki_1, ki_2, ki_3, b2_0, b2_1] at c2 c19 c24
          try simp only [Int32.lt_iff_toInt_lt, Int32.le_iff_toInt_le, ← Int32.toInt_inj, ti_m2, ti_m1, ti_0, ti_1, ti_2, ti_3, ti_9] at c2 c19 c24
          have e : an_event a b = (-1) := by
            first
            | (exfalso; omega)
            | unfold an_event
              try simp only [ti_0, ti_1]
              repeat (first | rw [if_pos (by first | omega | simp)] | rw [if_neg (by omega)])
              all_goals rfl
          rw [e] at hk
          exact hk _ _ (by repeat (first | exact Up_0 | assumption | refine Up_k ?_ (by assumption) (by assumption) | refine Up_w ?_ (by assumption) (by assumption) | refine Up_q ?_ (by assumption) | refine Up_p ?_ (by assumption) | refine Up_r ?_ (by assumption) (by omega) | refine Up_u ?_ (by omega) | refine Up_sL ?_ (by omega) | refine Up_sI ?_ (by omega) | refine Up_l ?_ (by omega)))
        · try dsimp only at c24
          try simp only [kb_m2, kb_9, ki_m1, ki_0, ki_1, ki_2, ki_3] at c24
          refine hs dX8_event_27 (hs dX8_event_28 (And.intro (fun c28 => ?_) (fun c28 => ?_)))
          · try dsimp only at c28
            try simp only [kb_m2, kb_9, ki_m1, ki_0, ki_1, ki_2, ki_3] at c28
            refine hs dX8_event_41 (hs dX8_event_42 (hs dX8_event_43 (And.intro (fun c43 => ?_) (fun c43 => ?_))))
            · try dsimp only at c43
              try simp only [kb_m2, kb_9, ki_m1, ki_0, ki_1, ki_2, ki_3] at c43
              refine hs dX8_event_50 (hs dX8_event_51 (hs dX8_event_52 (And.intro (fun c52 => ?_) (fun c52 => ?_))))
              · try dsimp only at c52
                try simp only [kb_m2, kb_9, ki_m1, ki_0, ki_1, ki_2, ki_3] at c52
                refine hs dX8_event_62 (hs dX8_event_63 (hs dX8_event_64 (And.intro (fun c64 => ?_) (fun c64 => ?_))))
                · try dsimp only at c64
                  try simp only [kb_m2, kb_9, ki_m1, ki_0, ki_1, ki_2, ki_3] at c64
                  refine hs dX8_event_84 (hs dX8_event_85 (hs dX8_event_86 (hs dX8_event_87 (And.intro (fun c87 => ?_) (fun c87 => absurd (by decide) c87)))))
                  refine hs dX8_event_95 (hs dX8_event_96 (And.intro (ob_0) (gr (r_0_0) (hs dX8_event_99 (And.intro (ob_1) (gr (r_1_2) (hs dX8_event_102 (hs dX8_event_103 (hs dX8_event_104 (And.intro (ob_22) (And.intro ⟨rfl, rfl, by decide, vit_22_2⟩ (fun lg30 it30 hK30 hL30 => n0 ?_) )))))))))))
                  refine hs dX8_event_107 (And.intro (rfl) (And.intro rfl ?_))
                  try simp only [kb_m2, kb_9, ki_m1, ki_0, ki_1, ki_2, ki_3, b2_0, b2_1] at c2 c19 c24 c28 c43 c52 c64
                  try simp only [Int32.lt_iff_toInt_lt, Int32.le_iff_toInt_le, ← Int32.toInt_inj, ti_m2, ti_m1, ti_0, ti_1, ti_2, ti_3, ti_9] at c2 c19 c24 c28 c43 c52 c64
                  have e : an_event a b = 1 := by
                    first
                    | (exfalso; omega)
                    | unfold an_event
                      try simp only [ti_0, ti_1]
                      repeat (first | rw [if_pos (by first | omega | simp)] | rw [if_neg (by omega)])
                      all_goals rfl
                  rw [e] at hk
                  exact hk _ _ (by repeat (first | exact Up_0 | assumption | refine Up_k ?_ (by assumption) (by assumption) | refine Up_w ?_ (by assumption) (by assumption) | refine Up_q ?_ (by assumption) | refine Up_p ?_ (by assumption) | refine Up_r ?_ (by assumption) (by omega) | refine Up_u ?_ (by omega) | refine Up_sL ?_ (by omega) | refine Up_sI ?_ (by omega) | refine Up_l ?_ (by omega)))
                · try dsimp only at c64
                  try simp only [kb_m2, kb_9, ki_m1, ki_0, ki_1, ki_2, ki_3] at c64
                  refine hs dX8_event_67 (hs dX8_event_68 (And.intro (trivial) (n0 (hs dX8_event_71 (And.intro (fun c71 => ?_) (fun c71 => ?_))))))
                  · try dsimp only at c71
                    try simp only [kb_m2, kb_9, ki_m1, ki_0, ki_1, ki_2, ki_3] at c71
                    refine hs dX8_event_84 (hs dX8_event_85 (hs dX8_event_86 (hs dX8_event_87 (And.intro (fun c87 => ?_) (fun c87 => absurd (by decide) c87)))))
                    refine hs dX8_event_95 (hs dX8_event_96 (And.intro (ob_0) (gr (r_0_0) (hs dX8_event_99 (And.intro (ob_1) (gr (r_1_2) (hs dX8_event_102 (hs dX8_event_103 (hs dX8_event_104 (And.intro (ob_22) (And.intro ⟨rfl, rfl, by decide, vit_22_2⟩ (fun lg31 it31 hK31 hL31 => n0 ?_) )))))))))))
                    refine hs dX8_event_107 (And.intro (rfl) (And.intro rfl ?_))
                    try simp only [kb_m2, kb_9, ki_m1, ki_0, ki_1, ki_2, ki_3, b2_0, b2_1] at c2 c19 c24 c28 c43 c52 c64 c71
                    try simp only [Int32.lt_iff_toInt_lt, Int32.le_iff_toInt_le, ← Int32.toInt_inj, ti_m2, ti_m1, ti_0, ti_1, ti_2, ti_3, ti_9] at c2 c19 c24 c28 c43 c52 c64 c71
                    have e : an_event a b = 1 := by
                      first
                      | (exfalso; omega)
                      | unfold an_event
                        try simp only [ti_0, ti_1]
                        repeat (first | rw [if_pos (by first | omega | simp)] | rw [if_neg (by omega)])
                        all_goals rfl
                    rw [e] at hk
                    exact hk _ _ (by repeat (first | exact Up_0 | assumption | refine Up_k ?_ (by assumption) (by assumption) | refine Up_w ?_ (by assumption) (by assumption) | refine Up_q ?_ (by assumption) | refine Up_p ?_ (by assumption) | refine Up_r ?_ (by assumption) (by omega) | refine Up_u ?_ (by omega) | refine Up_sL ?_ (by omega) | refine Up_sI ?_ (by omega) | refine Up_l ?_ (by omega)))
                  · try dsimp only at c71
                    try simp only [kb_m2, kb_9, ki_m1, ki_0, ki_1, ki_2, ki_3] at c71
                    refine hs dX8_event_74 (hs dX8_event_75 (hs dX8_event_77 (And.intro (fun c77 => ?_) (fun c77 => ?_))))
                    · try dsimp only at c77
                      try simp only [kb_m2, kb_9, ki_m1, ki_0, ki_1, ki_2, ki_3] at c77
                      refine hs dX8_event_84 (hs dX8_event_85 (hs dX8_event_86 (hs dX8_event_87 (And.intro (fun c87 => ?_) (fun c87 => absurd (by decide) c87)))))
                      refine hs dX8_event_95 (hs dX8_event_96 (And.intro (ob_0) (gr (r_0_0) (hs dX8_event_99 (And.intro (ob_1) (gr (r_1_2) (hs dX8_event_102 (hs dX8_event_103 (hs dX8_event_104 (And.intro (ob_22) (And.intro ⟨rfl, rfl, by decide, vit_22_2⟩ (fun lg32 it32 hK32 hL32 => n0 ?_) )))))))))))
                      refine hs dX8_event_107 (And.intro (rfl) (And.intro rfl ?_))
                      try simp only [kb_m2, kb_9, ki_m1, ki_0, ki_1, ki_2, ki_3, b2_0, b2_1] at c2 c19 c24 c28 c43 c52 c64 c71 c77
                      try simp only [Int32.lt_iff_toInt_lt, Int32.le_iff_toInt_le, ← Int32.toInt_inj, ti_m2, ti_m1, ti_0, ti_1, ti_2, ti_3, ti_9] at c2 c19 c24 c28 c43 c52 c64 c71 c77
                      have e : an_event a b = 1 := by
                        first
                        | (exfalso; omega)
                        | unfold an_event
                          try simp only [ti_0, ti_1]
                          repeat (first | rw [if_pos (by first | omega | simp)] | rw [if_neg (by omega)])
                          all_goals rfl
                      rw [e] at hk
                      exact hk _ _ (by repeat (first | exact Up_0 | assumption | refine Up_k ?_ (by assumption) (by assumption) | refine Up_w ?_ (by assumption) (by assumption) | refine Up_q ?_ (by assumption) | refine Up_p ?_ (by assumption) | refine Up_r ?_ (by assumption) (by omega) | refine Up_u ?_ (by omega) | refine Up_sL ?_ (by omega) | refine Up_sI ?_ (by omega) | refine Up_l ?_ (by omega)))
                    · try dsimp only at c77
                      try simp only [kb_m2, kb_9, ki_m1, ki_0, ki_1, ki_2, ki_3] at c77
                      refine hs dX8_event_80 (hs dX8_event_81 (hs dX8_event_85 (hs dX8_event_86 (hs dX8_event_87 (And.intro (fun c87 => absurd c87 (by decide)) (fun c87 => (hs dX8_event_90 (hs dX8_event_92 (hs dX8_event_107 (And.intro (rfl) (And.intro rfl ?_)))))))))))
                      try simp only [kb_m2, kb_9, ki_m1, ki_0, ki_1, ki_2, ki_3, b2_0, b2_1] at c2 c19 c24 c28 c43 c52 c64 c71 c77
                      try simp only [Int32.lt_iff_toInt_lt, Int32.le_iff_toInt_le, ← Int32.toInt_inj, ti_m2, ti_m1, ti_0, ti_1, ti_2, ti_3, ti_9] at c2 c19 c24 c28 c43 c52 c64 c71 c77
                      have e : an_event a b = (-2) := by
                        first
                        | (exfalso; omega)
                        | unfold an_event
                          try simp only [ti_0, ti_1]
                          repeat (first | rw [if_pos (by first | omega | simp)] | rw [if_neg (by omega)])
                          all_goals rfl
                      rw [e] at hk
                      exact hk _ _ (by repeat (first | exact Up_0 | assumption | refine Up_k ?_ (by assumption) (by assumption) | refine Up_w ?_ (by assumption) (by assumption) | refine Up_q ?_ (by assumption) | refine Up_p ?_ (by assumption) | refine Up_r ?_ (by assumption) (by omega) | refine Up_u ?_ (by omega) | refine Up_sL ?_ (by omega) | refine Up_sI ?_ (by omega) | refine Up_l ?_ (by omega)))
              · try dsimp only at c52
                try simp only [kb_m2, kb_9, ki_m1, ki_0, ki_1, ki_2, ki_3] at c52
                refine hs dX8_event_55 (hs dX8_event_56 (And.intro (trivial) (n0 (hs dX8_event_59 (And.intro (fun c59 => ?_) (fun c59 => ?_))))))
                · try dsimp only at c59
                  try simp only [kb_m2, kb_9, ki_m1, ki_0, ki_1, ki_2, ki_3] at c59
                  refine hs dX8_event_80 (hs dX8_event_81 (hs dX8_event_85 (hs dX8_event_86 (hs dX8_event_87 (And.intro (fun c87 => absurd c87 (by decide)) (fun c87 => (hs dX8_event_90 (hs dX8_event_92 (hs dX8_event_107 (And.intro (rfl) (And.intro rfl ?_)))))))))))
                  try simp only [kb_m2, kb_9, ki_m1, ki_0, ki_1, ki_2, ki_3, b2_0, b2_1] at c2 c19 c24 c28 c43 c52 c59
                  try simp only [Int32.lt_iff_toInt_lt, Int32.le_iff_toInt_le, ← Int32.toInt_inj, ti_m2, ti_m1, ti_0, ti_1, ti_2, ti_3, ti_9] at c2 c19 c24 c28 c43 c52 c59
                  have e : an_event a b = (-2) := by
                    first
                    | (exfalso; omega)
                    | unfold an_event
                      try simp only [ti_0, ti_1]
                      repeat (first | rw [if_pos (by first | omega | simp)] | rw [if_neg (by omega)])
                      all_goals rfl
                  rw [e] at hk
                  exact hk _ _ (by repeat (first | exact Up_0 | assumption | refine Up_k ?_ (by assumption) (by assumption) | refine Up_w ?_ (by assumption) (by assumption) | refine Up_q ?_ (by assumption) | refine Up_p ?_ (by assumption) | refine Up_r ?_ (by assumption) (by omega) | refine Up_u ?_ (by omega) | refine Up_sL ?_ (by omega) | refine Up_sI ?_ (by omega) | refine Up_l ?_ (by omega)))
                · try dsimp only at c59
                  try simp only [kb_m2, kb_9, ki_m1, ki_0, ki_1, ki_2, ki_3] at c59
                  refine hs dX8_event_62 (hs dX8_event_63 (hs dX8_event_64 (And.intro (fun c64 => ?_) (fun c64 => ?_))))
                  · try dsimp only at c64
                    try simp only [kb_m2, kb_9, ki_m1, ki_0, ki_1, ki_2, ki_3] at c64
                    refine hs dX8_event_84 (hs dX8_event_85 (hs dX8_event_86 (hs dX8_event_87 (And.intro (fun c87 => ?_) (fun c87 => absurd (by decide) c87)))))
                    refine hs dX8_event_95 (hs dX8_event_96 (And.intro (ob_0) (gr (r_0_0) (hs dX8_event_99 (And.intro (ob_1) (gr (r_1_2) (hs dX8_event_102 (hs dX8_event_103 (hs dX8_event_104 (And.intro (ob_22) (And.intro ⟨rfl, rfl, by decide, vit_22_2⟩ (fun lg33 it33 hK33 hL33 => n0 ?_) )))))))))))
                    refine hs dX8_event_107 (And.intro (rfl) (And.intro rfl ?_))
                    try simp only [kb_m2, kb_9, ki_m1, ki_0, ki_1, ki_2, ki_3, b2_0, b2_1] at c2 c19 c24 c28 c43 c52 c59 c64
                    try simp only [Int32.lt_iff_toInt_lt, Int32.le_iff_toInt_le, ← Int32.toInt_inj, ti_m2, ti_m1, ti_0, ti_1, ti_2, ti_3, ti_9] at c2 c19 c24 c28 c43 c52 c59 c64
                    have e : an_event a b = 1 := by
                      first
                      | (exfalso; omega)
                      | unfold an_event
                        try simp only [ti_0, ti_1]
                        repeat (first | rw [if_pos (by first | omega | simp)] | rw [if_neg (by omega)])
                        all_goals rfl
                    rw [e] at hk
                    exact hk _ _ (by repeat (first | exact Up_0 | assumption | refine Up_k ?_ (by assumption) (by assumption) | refine Up_w ?_ (by assumption) (by assumption) | refine Up_q ?_ (by assumption) | refine Up_p ?_ (by assumption) | refine Up_r ?_ (by assumption) (by omega) | refine Up_u ?_ (by omega) | refine Up_sL ?_ (by omega) | refine Up_sI ?_ (by omega) | refine Up_l ?_ (by omega)))
                  · try dsimp only at c64
                    try simp only [kb_m2, kb_9, ki_m1, ki_0, ki_1, ki_2, ki_3] at c64
                    refine hs dX8_event_67 (hs dX8_event_68 (And.intro (trivial) (n0 (hs dX8_event_71 (And.intro (fun c71 => ?_) (fun c71 => ?_))))))
                    · try dsimp only at c71
                      try simp only [kb_m2, kb_9, ki_m1, ki_0, ki_1, ki_2, ki_3] at c71
                      refine hs dX8_event_84 (hs dX8_event_85 (hs dX8_event_86 (hs dX8_event_87 (And.intro (fun c87 => ?_) (fun c87 => absurd (by decide) c87)))))
                      refine hs dX8_event_95 (hs dX8_event_96 (And.intro (ob_0) (gr (r_0_0) (hs dX8_event_99 (And.intro (ob_1) (gr (r_1_2) (hs dX8_event_102 (hs dX8_event_103 (hs dX8_event_104 (And.intro (ob_22) (And.intro ⟨rfl, rfl, by decide, vit_22_2⟩ (fun lg34 it34 hK34 hL34 => n0 ?_) )))))))))))
                      refine hs dX8_event_107 (And.intro (rfl) (And.intro rfl ?_))
                      try simp only [kb_m2, kb_9, ki_m1, ki_0, ki_1, ki_2, ki_3, b2_0, b2_1] at c2 c19 c24 c28 c43 c52 c59 c64 c71
                      try simp only [Int32.lt_iff_toInt_lt, Int32.le_iff_toInt_le, ← Int32.toInt_inj, ti_m2, ti_m1, ti_0, ti_1, ti_2, ti_3, ti_9] at c2 c19 c24 c28 c43 c52 c59 c64 c71
                      have e : an_event a b = 1 := by
                        first
                        | (exfalso; omega)
                        | unfold an_event
                          try simp only [ti_0, ti_1]
                          repeat (first | rw [if_pos (by first | omega | simp)] | rw [if_neg (by omega)])
                          all_goals rfl
                      rw [e] at hk
                      exact hk _ _ (by repeat (first | exact Up_0 | assumption | refine Up_k ?_ (by assumption) (by assumption) | refine Up_w ?_ (by assumption) (by assumption) | refine Up_q ?_ (by assumption) | refine Up_p ?_ (by assumption) | refine Up_r ?_ (by assumption) (by omega) | refine Up_u ?_ (by omega) | refine Up_sL ?_ (by omega) | refine Up_sI ?_ (by omega) | refine Up_l ?_ (by omega)))
                    · try dsimp only at c71
                      try simp only [kb_m2, kb_9, ki_m1, ki_0, ki_1, ki_2, ki_3] at c71
                      refine hs dX8_event_74 (hs dX8_event_75 (hs dX8_event_77 (And.intro (fun c77 => ?_) (fun c77 => ?_))))
                      · try dsimp only at c77
                        try simp only [kb_m2, kb_9, ki_m1, ki_0, ki_1, ki_2, ki_3] at c77
                        refine hs dX8_event_84 (hs dX8_event_85 (hs dX8_event_86 (hs dX8_event_87 (And.intro (fun c87 => ?_) (fun c87 => absurd (by decide) c87)))))
                        refine hs dX8_event_95 (hs dX8_event_96 (And.intro (ob_0) (gr (r_0_0) (hs dX8_event_99 (And.intro (ob_1) (gr (r_1_2) (hs dX8_event_102 (hs dX8_event_103 (hs dX8_event_104 (And.intro (ob_22) (And.intro ⟨rfl, rfl, by decide, vit_22_2⟩ (fun lg35 it35 hK35 hL35 => n0 ?_) )))))))))))
                        refine hs dX8_event_107 (And.intro (rfl) (And.intro rfl ?_))
                        try simp only [kb_m2, kb_9, ki_m1, ki_0, ki_1, ki_2, ki_3, b2_0, b2_1] at c2 c19 c24 c28 c43 c52 c59 c64 c71 c77
                        try simp only [Int32.lt_iff_toInt_lt, Int32.le_iff_toInt_le, ← Int32.toInt_inj, ti_m2, ti_m1, ti_0, ti_1, ti_2, ti_3, ti_9] at c2 c19 c24 c28 c43 c52 c59 c64 c71 c77
                        have e : an_event a b = 1 := by
                          first
                          | (exfalso; omega)
                          | unfold an_event
                            try simp only [ti_0, ti_1]
                            repeat (first | rw [if_pos (by first | omega | simp)] | rw [if_neg (by omega)])
                            all_goals rfl
                        rw [e] at hk
                        exact hk _ _ (by repeat (first | exact Up_0 | assumption | refine Up_k ?_ (by assumption) (by assumption) | refine Up_w ?_ (by assumption) (by assumption) | refine Up_q ?_ (by assumption) | refine Up_p ?_ (by assumption) | refine Up_r ?_ (by assumption) (by omega) | refine Up_u ?_ (by omega) | refine Up_sL ?_ (by omega) | refine Up_sI ?_ (by omega) | refine Up_l ?_ (by omega)))
                      · try dsimp only at c77
                        try simp only [kb_m2, kb_9, ki_m1, ki_0, ki_1, ki_2, ki_3] at c77
                        refine hs dX8_event_80 (hs dX8_event_81 (hs dX8_event_85 (hs dX8_event_86 (hs dX8_event_87 (And.intro (fun c87 => absurd c87 (by decide)) (fun c87 => (hs dX8_event_90 (hs dX8_event_92 (hs dX8_event_107 (And.intro (rfl) (And.intro rfl ?_)))))))))))
                        try simp only [kb_m2, kb_9, ki_m1, ki_0, ki_1, ki_2, ki_3, b2_0, b2_1] at c2 c19 c24 c28 c43 c52 c59 c64 c71 c77
                        try simp only [Int32.lt_iff_toInt_lt, Int32.le_iff_toInt_le, ← Int32.toInt_inj, ti_m2, ti_m1, ti_0, ti_1, ti_2, ti_3, ti_9] at c2 c19 c24 c28 c43 c52 c59 c64 c71 c77
                        have e : an_event a b = (-2) := by
                          first
                          | (exfalso; omega)
                          | unfold an_event
                            try simp only [ti_0, ti_1]
                            repeat (first | rw [if_pos (by first | omega | simp)] | rw [if_neg (by omega)])
                            all_goals rfl
                        rw [e] at hk
                        exact hk _ _ (by repeat (first | exact Up_0 | assumption | refine Up_k ?_ (by assumption) (by assumption) | refine Up_w ?_ (by assumption) (by assumption) | refine Up_q ?_ (by assumption) | refine Up_p ?_ (by assumption) | refine Up_r ?_ (by assumption) (by omega) | refine Up_u ?_ (by omega) | refine Up_sL ?_ (by omega) | refine Up_sI ?_ (by omega) | refine Up_l ?_ (by omega)))
            · try dsimp only at c43
              try simp only [kb_m2, kb_9, ki_m1, ki_0, ki_1, ki_2, ki_3] at c43
              refine hs dX8_event_46 (hs dX8_event_47 (And.intro (fun c47 => ?_) (fun c47 => ?_)))
              · try dsimp only at c47
                try simp only [kb_m2, kb_9, ki_m1, ki_0, ki_1, ki_2, ki_3] at c47
                refine hs dX8_event_80 (hs dX8_event_81 (hs dX8_event_85 (hs dX8_event_86 (hs dX8_event_87 (And.intro (fun c87 => absurd c87 (by decide)) (fun c87 => (hs dX8_event_90 (hs dX8_event_92 (hs dX8_event_107 (And.intro (rfl) (And.intro rfl ?_)))))))))))
                try simp only [kb_m2, kb_9, ki_m1, ki_0, ki_1, ki_2, ki_3, b2_0, b2_1] at c2 c19 c24 c28 c43 c47
                try simp only [Int32.lt_iff_toInt_lt, Int32.le_iff_toInt_le, ← Int32.toInt_inj, ti_m2, ti_m1, ti_0, ti_1, ti_2, ti_3, ti_9] at c2 c19 c24 c28 c43 c47
                have e : an_event a b = (-2) := by
                  first
                  | (exfalso; omega)
                  | unfold an_event
                    try simp only [ti_0, ti_1]
                    repeat (first | rw [if_pos (by first | omega | simp)] | rw [if_neg (by omega)])
                    all_goals rfl
                rw [e] at hk
                exact hk _ _ (by repeat (first | exact Up_0 | assumption | refine Up_k ?_ (by assumption) (by assumption) | refine Up_w ?_ (by assumption) (by assumption) | refine Up_q ?_ (by assumption) | refine Up_p ?_ (by assumption) | refine Up_r ?_ (by assumption) (by omega) | refine Up_u ?_ (by omega) | refine Up_sL ?_ (by omega) | refine Up_sI ?_ (by omega) | refine Up_l ?_ (by omega)))
              · try dsimp only at c47
                try simp only [kb_m2, kb_9, ki_m1, ki_0, ki_1, ki_2, ki_3] at c47
                refine hs dX8_event_50 (hs dX8_event_51 (hs dX8_event_52 (And.intro (fun c52 => ?_) (fun c52 => ?_))))
                · try dsimp only at c52
                  try simp only [kb_m2, kb_9, ki_m1, ki_0, ki_1, ki_2, ki_3] at c52
                  refine hs dX8_event_62 (hs dX8_event_63 (hs dX8_event_64 (And.intro (fun c64 => ?_) (fun c64 => ?_))))
                  · try dsimp only at c64
                    try simp only [kb_m2, kb_9, ki_m1, ki_0, ki_1, ki_2, ki_3] at c64
                    refine hs dX8_event_84 (hs dX8_event_85 (hs dX8_event_86 (hs dX8_event_87 (And.intro (fun c87 => ?_) (fun c87 => absurd (by decide) c87)))))
                    refine hs dX8_event_95 (hs dX8_event_96 (And.intro (ob_0) (gr (r_0_0) (hs dX8_event_99 (And.intro (ob_1) (gr (r_1_2) (hs dX8_event_102 (hs dX8_event_103 (hs dX8_event_104 (And.intro (ob_22) (And.intro ⟨rfl, rfl, by decide, vit_22_2⟩ (fun lg36 it36 hK36 hL36 => n0 ?_) )))))))))))
                    refine hs dX8_event_107 (And.intro (rfl) (And.intro rfl ?_))
                    try simp only [kb_m2, kb_9, ki_m1, ki_0, ki_1, ki_2, ki_3, b2_0, b2_1] at c2 c19 c24 c28 c43 c47 c52 c64
                    try simp only [Int32.lt_iff_toInt_lt, Int32.le_iff_toInt_le, ← Int32.toInt_inj, ti_m2, ti_m1, ti_0, ti_1, ti_2, ti_3, ti_9] at c2 c19 c24 c28 c43 c47 c52 c64
                    have e : an_event a b = 1 := by
                      first
                      | (exfalso; omega)
                      | unfold an_event
                        try simp only [ti_0, ti_1]
                        repeat (first | rw [if_pos (by first | omega | simp)] | rw [if_neg (by omega)])
                        all_goals rfl
                    rw [e] at hk
                    exact hk _ _ (by repeat (first | exact Up_0 | assumption | refine Up_k ?_ (by assumption) (by assumption) | refine Up_w ?_ (by assumption) (by assumption) | refine Up_q ?_ (by assumption) | refine Up_p ?_ (by assumption) | refine Up_r ?_ (by assumption) (by omega) | refine Up_u ?_ (by omega) | refine Up_sL ?_ (by omega) | refine Up_sI ?_ (by omega) | refine Up_l ?_ (by omega)))
                  · try dsimp only at c64
                    try simp only [kb_m2, kb_9, ki_m1, ki_0, ki_1, ki_2, ki_3] at c64
                    refine hs dX8_event_67 (hs dX8_event_68 (And.intro (trivial) (n0 (hs dX8_event_71 (And.intro (fun c71 => ?_) (fun c71 => ?_))))))
                    · try dsimp only at c71
                      try simp only [kb_m2, kb_9, ki_m1, ki_0, ki_1, ki_2, ki_3] at c71
                      refine hs dX8_event_84 (hs dX8_event_85 (hs dX8_event_86 (hs dX8_event_87 (And.intro (fun c87 => ?_) (fun c87 => absurd (by decide) c87)))))
                      refine hs dX8_event_95 (hs dX8_event_96 (And.intro (ob_0) (gr (r_0_0) (hs dX8_event_99 (And.intro (ob_1) (gr (r_1_2) (hs dX8_event_102 (hs dX8_event_103 (hs dX8_event_104 (And.intro (ob_22) (And.intro ⟨rfl, rfl, by decide, vit_22_2⟩ (fun lg37 it37 hK37 hL37 => n0 ?_) )))))))))))
                      refine hs dX8_event_107 (And.intro (rfl) (And.intro rfl ?_))
                      try simp only [kb_m2, kb_9, ki_m1, ki_0, ki_1, ki_2, ki_3, b2_0, b2_1] at c2 c19 c24 c28 c43 c47 c52 c64 c71
                      try simp only [Int32.lt_iff_toInt_lt, Int32.le_iff_toInt_le, ← Int32.toInt_inj, ti_m2, ti_m1, ti_0, ti_1, ti_2, ti_3, ti_9] at c2 c19 c24 c28 c43 c47 c52 c64 c71
                      have e : an_event a b = 1 := by
                        first
                        | (exfalso; omega)
                        | unfold an_event
                          try simp only [ti_0, ti_1]
                          repeat (first | rw [if_pos (by first | omega | simp)] | rw [if_neg (by omega)])
                          all_goals rfl
                      rw [e] at hk
                      exact hk _ _ (by repeat (first | exact Up_0 | assumption | refine Up_k ?_ (by assumption) (by assumption) | refine Up_w ?_ (by assumption) (by assumption) | refine Up_q ?_ (by assumption) | refine Up_p ?_ (by assumption) | refine Up_r ?_ (by assumption) (by omega) | refine Up_u ?_ (by omega) | refine Up_sL ?_ (by omega) | refine Up_sI ?_ (by omega) | refine Up_l ?_ (by omega)))
                    · try dsimp only at c71
                      try simp only [kb_m2, kb_9, ki_m1, ki_0, ki_1, ki_2, ki_3] at c71
                      refine hs dX8_event_74 (hs dX8_event_75 (hs dX8_event_77 (And.intro (fun c77 => ?_) (fun c77 => ?_))))
                      · try dsimp only at c77
                        try simp only [kb_m2, kb_9, ki_m1, ki_0, ki_1, ki_2, ki_3] at c77
                        refine hs dX8_event_84 (hs dX8_event_85 (hs dX8_event_86 (hs dX8_event_87 (And.intro (fun c87 => ?_) (fun c87 => absurd (by decide) c87)))))
                        refine hs dX8_event_95 (hs dX8_event_96 (And.intro (ob_0) (gr (r_0_0) (hs dX8_event_99 (And.intro (ob_1) (gr (r_1_2) (hs dX8_event_102 (hs dX8_event_103 (hs dX8_event_104 (And.intro (ob_22) (And.intro ⟨rfl, rfl, by decide, vit_22_2⟩ (fun lg38 it38 hK38 hL38 => n0 ?_) )))))))))))
                        refine hs dX8_event_107 (And.intro (rfl) (And.intro rfl ?_))
                        try simp only [kb_m2, kb_9, ki_m1, ki_0, ki_1, ki_2, ki_3, b2_0, b2_1] at c2 c19 c24 c28 c43 c47 c52 c64 c71 c77
                        try simp only [Int32.lt_iff_toInt_lt, Int32.le_iff_toInt_le, ← Int32.toInt_inj, ti_m2, ti_m1, ti_0, ti_1, ti_2, ti_3, ti_9] at c2 c19 c24 c28 c43 c47 c52 c64 c71 c77
                        have e : an_event a b = 1 := by
                          first
                          | (exfalso; omega)
                          | unfold an_event
                            try simp only [ti_0, ti_1]
                            repeat (first | rw [if_pos (by first | omega | simp)] | rw [if_neg (by omega)])
                            all_goals rfl
                        rw [e] at hk
                        exact hk _ _ (by repeat (first | exact Up_0 | assumption | refine Up_k ?_ (by assumption) (by assumption) | refine Up_w ?_ (by assumption) (by assumption) | refine Up_q ?_ (by assumption) | refine Up_p ?_ (by assumption) | refine Up_r ?_ (by assumption) (by omega) | refine Up_u ?_ (by omega) | refine Up_sL ?_ (by omega) | refine Up_sI ?_ (by omega) | refine Up_l ?_ (by omega)))
                      · try dsimp only at c77
                        try simp only [kb_m2, kb_9, ki_m1, ki_0, ki_1, ki_2, ki_3] at c77
                        refine hs dX8_event_80 (hs dX8_event_81 (hs dX8_event_85 (hs dX8_event_86 (hs dX8_event_87 (And.intro (fun c87 => absurd c87 (by decide)) (fun c87 => (hs dX8_event_90 (hs dX8_event_92 (hs dX8_event_107 (And.intro (rfl) (And.intro rfl ?_)))))))))))
                        try simp only [kb_m2, kb_9, ki_m1, ki_0, ki_1, ki_2, ki_3, b2_0, b2_1] at c2 c19 c24 c28 c43 c47 c52 c64 c71 c77
                        try simp only [Int32.lt_iff_toInt_lt, Int32.le_iff_toInt_le, ← Int32.toInt_inj, ti_m2, ti_m1, ti_0, ti_1, ti_2, ti_3, ti_9] at c2 c19 c24 c28 c43 c47 c52 c64 c71 c77
                        have e : an_event a b = (-2) := by
                          first
                          | (exfalso; omega)
                          | unfold an_event
                            try simp only [ti_0, ti_1]
                            repeat (first | rw [if_pos (by first | omega | simp)] | rw [if_neg (by omega)])
                            all_goals rfl
                        rw [e] at hk
                        exact hk _ _ (by repeat (first | exact Up_0 | assumption | refine Up_k ?_ (by assumption) (by assumption) | refine Up_w ?_ (by assumption) (by assumption) | refine Up_q ?_ (by assumption) | refine Up_p ?_ (by assumption) | refine Up_r ?_ (by assumption) (by omega) | refine Up_u ?_ (by omega) | refine Up_sL ?_ (by omega) | refine Up_sI ?_ (by omega) | refine Up_l ?_ (by omega)))
                · try dsimp only at c52
                  try simp only [kb_m2, kb_9, ki_m1, ki_0, ki_1, ki_2, ki_3] at c52
                  refine hs dX8_event_55 (hs dX8_event_56 (And.intro (trivial) (n0 (hs dX8_event_59 (And.intro (fun c59 => ?_) (fun c59 => ?_))))))
                  · try dsimp only at c59
                    try simp only [kb_m2, kb_9, ki_m1, ki_0, ki_1, ki_2, ki_3] at c59
                    refine hs dX8_event_80 (hs dX8_event_81 (hs dX8_event_85 (hs dX8_event_86 (hs dX8_event_87 (And.intro (fun c87 => absurd c87 (by decide)) (fun c87 => (hs dX8_event_90 (hs dX8_event_92 (hs dX8_event_107 (And.intro (rfl) (And.intro rfl ?_)))))))))))
                    try simp only [kb_m2, kb_9, ki_m1, ki_0, ki_1, ki_2, ki_3, b2_0, b2_1] at c2 c19 c24 c28 c43 c47 c52 c59
                    try simp only [Int32.lt_iff_toInt_lt, Int32.le_iff_toInt_le, ← Int32.toInt_inj, ti_m2, ti_m1, ti_0, ti_1, ti_2, ti_3, ti_9] at c2 c19 c24 c28 c43 c47 c52 c59
                    have e : an_event a b = (-2) := by
                      first
                      | (exfalso; omega)
                      | unfold an_event
                        try simp only [ti_0, ti_1]
                        repeat (first | rw [if_pos (by first | omega | simp)] | rw [if_neg (by omega)])
                        all_goals rfl
                    rw [e] at hk
                    exact hk _ _ (by repeat (first | exact Up_0 | assumption | refine Up_k ?_ (by assumption) (by assumption) | refine Up_w ?_ (by assumption) (by assumption) | refine Up_q ?_ (by assumption) | refine Up_p ?_ (by assumption) | refine Up_r ?_ (by assumption) (by omega) | refine Up_u ?_ (by omega) | refine Up_sL ?_ (by omega) | refine Up_sI ?_ (by omega) | refine Up_l ?_ (by omega)))
                  · try dsimp only at c59
                    try simp only [kb_m2, kb_9, ki_m1, ki_0, ki_1, ki_2, ki_3] at c59
                    refine hs dX8_event_62 (hs dX8_event_63 (hs dX8_event_64 (And.intro (fun c64 => ?_) (fun c64 => ?_))))
                    · try dsimp only at c64
                      try simp only [kb_m2, kb_9, ki_m1, ki_0, ki_1, ki_2, ki_3] at c64
                      refine hs dX8_event_84 (hs dX8_event_85 (hs dX8_event_86 (hs dX8_event_87 (And.intro (fun c87 => ?_) (fun c87 => absurd (by decide) c87)))))
                      refine hs dX8_event_95 (hs dX8_event_96 (And.intro (ob_0) (gr (r_0_0) (hs dX8_event_99 (And.intro (ob_1) (gr (r_1_2) (hs dX8_event_102 (hs dX8_event_103 (hs dX8_event_104 (And.intro (ob_22) (And.intro ⟨rfl, rfl, by decide, vit_22_2⟩ (fun lg39 it39 hK39 hL39 => n0 ?_) )))))))))))
                      refine hs dX8_event_107 (And.intro (rfl) (And.intro rfl ?_))
                      try simp only [kb_m2, kb_9, ki_m1, ki_0, ki_1, ki_2, ki_3, b2_0, b2_1] at c2 c19 c24 c28 c43 c47 c52 c59 c64
                      try simp only [Int32.lt_iff_toInt_lt, Int32.le_iff_toInt_le, ← Int32.toInt_inj, ti_m2, ti_m1, ti_0, ti_1, ti_2, ti_3, ti_9] at c2 c19 c24 c28 c43 c47 c52 c59 c64
                      have e : an_event a b = 1 := by
                        first
                        | (exfalso; omega)
                        | unfold an_event
                          try simp only [ti_0, ti_1]
                          repeat (first | rw [if_pos (by first | omega | simp)] | rw [if_neg (by omega)])
                          all_goals rfl
                      rw [e] at hk
                      exact hk _ _ (by repeat (first | exact Up_0 | assumption | refine Up_k ?_ (by assumption) (by assumption) | refine Up_w ?_ (by assumption) (by assumption) | refine Up_q ?_ (by assumption) | refine Up_p ?_ (by assumption) | refine Up_r ?_ (by assumption) (by omega) | refine Up_u ?_ (by omega) | refine Up_sL ?_ (by omega) | refine Up_sI ?_ (by omega) | refine Up_l ?_ (by omega)))
                    · try dsimp only at c64
                      try simp only [kb_m2, kb_9, ki_m1, ki_0, ki_1, ki_2, ki_3] at c64
                      refine hs dX8_event_67 (hs dX8_event_68 (And.intro (trivial) (n0 (hs dX8_event_71 (And.intro (fun c71 => ?_) (fun c71 => ?_))))))
                      · try dsimp only at c71
                        try simp only [kb_m2, kb_9, ki_m1, ki_0, ki_1, ki_2, ki_3] at c71
                        refine hs dX8_event_84 (hs dX8_event_85 (hs dX8_event_86 (hs dX8_event_87 (And.intro (fun c87 => ?_) (fun c87 => absurd (by decide) c87)))))
                        refine hs dX8_event_95 (hs dX8_event_96 (And.intro (ob_0) (gr (r_0_0) (hs dX8_event_99 (And.intro (ob_1) (gr (r_1_2) (hs dX8_event_102 (hs dX8_event_103 (hs dX8_event_104 (And.intro (ob_22) (And.intro ⟨rfl, rfl, by decide, vit_22_2⟩ (fun lg40 it40 hK40 hL40 => n0 ?_) )))))))))))
                        refine hs dX8_event_107 (And.intro (rfl) (And.intro rfl ?_))
                        try simp only [kb_m2, kb_9, ki_m1, ki_0, ki_1, ki_2, ki_3, b2_0, b2_1] at c2 c19 c24 c28 c43 c47 c52 c59 c64 c71
                        try simp only [Int32.lt_iff_toInt_lt, Int32.le_iff_toInt_le, ← Int32.toInt_inj, ti_m2, ti_m1, ti_0, ti_1, ti_2, ti_3, ti_9] at c2 c19 c24 c28 c43 c47 c52 c59 c64 c71
                        have e : an_event a b = 1 := by
                          first
                          | (exfalso; omega)
                          | unfold an_event
                            try simp only [ti_0, ti_1]
                            repeat (first | rw [if_pos (by first | omega | simp)] | rw [if_neg (by omega)])
                            all_goals rfl
                        rw [e] at hk
                        exact hk _ _ (by repeat (first | exact Up_0 | assumption | refine Up_k ?_ (by assumption) (by assumption) | refine Up_w ?_ (by assumption) (by assumption) | refine Up_q ?_ (by assumption) | refine Up_p ?_ (by assumption) | refine Up_r ?_ (by assumption) (by omega) | refine Up_u ?_ (by omega) | refine Up_sL ?_ (by omega) | refine Up_sI ?_ (by omega) | refine Up_l ?_ (by omega)))
                      · try dsimp only at c71
                        try simp only [kb_m2, kb_9, ki_m1, ki_0, ki_1, ki_2, ki_3] at c71
                        refine hs dX8_event_74 (hs dX8_event_75 (hs dX8_event_77 (And.intro (fun c77 => ?_) (fun c77 => ?_))))
                        · try dsimp only at c77
                          try simp only [kb_m2, kb_9, ki_m1, ki_0, ki_1, ki_2, ki_3] at c77
                          refine hs dX8_event_84 (hs dX8_event_85 (hs dX8_event_86 (hs dX8_event_87 (And.intro (fun c87 => ?_) (fun c87 => absurd (by decide) c87)))))
                          refine hs dX8_event_95 (hs dX8_event_96 (And.intro (ob_0) (gr (r_0_0) (hs dX8_event_99 (And.intro (ob_1) (gr (r_1_2) (hs dX8_event_102 (hs dX8_event_103 (hs dX8_event_104 (And.intro (ob_22) (And.intro ⟨rfl, rfl, by decide, vit_22_2⟩ (fun lg41 it41 hK41 hL41 => n0 ?_) )))))))))))
                          refine hs dX8_event_107 (And.intro (rfl) (And.intro rfl ?_))
                          try simp only [kb_m2, kb_9, ki_m1, ki_0, ki_1, ki_2, ki_3, b2_0, b2_1] at c2 c19 c24 c28 c43 c47 c52 c59 c64 c71 c77
                          try simp only [Int32.lt_iff_toInt_lt, Int32.le_iff_toInt_le, ← Int32.toInt_inj, ti_m2, ti_m1, ti_0, ti_1, ti_2, ti_3, ti_9] at c2 c19 c24 c28 c43 c47 c52 c59 c64 c71 c77
                          have e : an_event a b = 1 := by
                            first
                            | (exfalso; omega)
                            | unfold an_event
                              try simp only [ti_0, ti_1]
                              repeat (first | rw [if_pos (by first | omega | simp)] | rw [if_neg (by omega)])
                              all_goals rfl
                          rw [e] at hk
                          exact hk _ _ (by repeat (first | exact Up_0 | assumption | refine Up_k ?_ (by assumption) (by assumption) | refine Up_w ?_ (by assumption) (by assumption) | refine Up_q ?_ (by assumption) | refine Up_p ?_ (by assumption) | refine Up_r ?_ (by assumption) (by omega) | refine Up_u ?_ (by omega) | refine Up_sL ?_ (by omega) | refine Up_sI ?_ (by omega) | refine Up_l ?_ (by omega)))
                        · try dsimp only at c77
                          try simp only [kb_m2, kb_9, ki_m1, ki_0, ki_1, ki_2, ki_3] at c77
                          refine hs dX8_event_80 (hs dX8_event_81 (hs dX8_event_85 (hs dX8_event_86 (hs dX8_event_87 (And.intro (fun c87 => absurd c87 (by decide)) (fun c87 => (hs dX8_event_90 (hs dX8_event_92 (hs dX8_event_107 (And.intro (rfl) (And.intro rfl ?_)))))))))))
                          try simp only [kb_m2, kb_9, ki_m1, ki_0, ki_1, ki_2, ki_3, b2_0, b2_1] at c2 c19 c24 c28 c43 c47 c52 c59 c64 c71 c77
                          try simp only [Int32.lt_iff_toInt_lt, Int32.le_iff_toInt_le, ← Int32.toInt_inj, ti_m2, ti_m1, ti_0, ti_1, ti_2, ti_3, ti_9] at c2 c19 c24 c28 c43 c47 c52 c59 c64 c71 c77
                          have e : an_event a b = (-2) := by
                            first
                            | (exfalso; omega)
                            | unfold an_event
                              try simp only [ti_0, ti_1]
                              repeat (first | rw [if_pos (by first | omega | simp)] | rw [if_neg (by omega)])
                              all_goals rfl
                          rw [e] at hk
                          exact hk _ _ (by repeat (first | exact Up_0 | assumption | refine Up_k ?_ (by assumption) (by assumption) | refine Up_w ?_ (by assumption) (by assumption) | refine Up_q ?_ (by assumption) | refine Up_p ?_ (by assumption) | refine Up_r ?_ (by assumption) (by omega) | refine Up_u ?_ (by omega) | refine Up_sL ?_ (by omega) | refine Up_sI ?_ (by omega) | refine Up_l ?_ (by omega)))
          · try dsimp only at c28
            try simp only [kb_m2, kb_9, ki_m1, ki_0, ki_1, ki_2, ki_3] at c28
            refine hs dX8_event_31 (hs dX8_event_32 (hs dX8_event_33 (And.intro (ob_0) (And.intro ⟨rfl, rfl, vit_2_0⟩ (n0 (hs dX8_event_36 (And.intro (fun c36 => absurd rfl c36) (fun c36 => (hs dX8_event_39 (hs dX8_event_40 (And.intro (rfl) (And.intro rfl ?_))))))))))))
            try simp only [kb_m2, kb_9, ki_m1, ki_0, ki_1, ki_2, ki_3, b2_0, b2_1] at c2 c19 c24 c28
            try simp only [Int32.lt_iff_toInt_lt, Int32.le_iff_toInt_le, ← Int32.toInt_inj, ti_m2, ti_m1, ti_0, ti_1, ti_2, ti_3, ti_9] at c2 c19 c24 c28
            have e : an_event a b = (-1) := by
              first
              | (exfalso; omega)
              | unfold an_event
                try simp only [ti_0, ti_1]
                repeat (first | rw [if_pos (by first | omega | simp)] | rw [if_neg (by omega)])
                all_goals rfl
            rw [e] at hk
            exact hk _ _ (by repeat (first | exact Up_0 | assumption | refine Up_k ?_ (by assumption) (by assumption) | refine Up_w ?_ (by assumption) (by assumption) | refine Up_q ?_ (by assumption) | refine Up_p ?_ (by assumption) | refine Up_r ?_ (by assumption) (by omega) | refine Up_u ?_ (by omega) | refine Up_sL ?_ (by omega) | refine Up_sI ?_ (by omega) | refine Up_l ?_ (by omega)))
    · try dsimp only at c2
      try simp only [kb_m2, kb_9, ki_m1, ki_0, ki_1, ki_2, ki_3] at c2
      refine hs dX8_event_5 (hs dX8_event_6 (And.intro (ob_0) (gr (r_0_0) (hs dX8_event_9 (And.intro (ob_1) (gr (r_1_2) (hs dX8_event_12 (hs dX8_event_13 (And.intro (ob_22) (hs dX8_event_16 (hs dX8_event_17 (And.intro (rfl) (And.intro rfl ?_)))))))))))))
      try simp only [kb_m2, kb_9, ki_m1, ki_0, ki_1, ki_2, ki_3, b2_0, b2_1] at c2
      try simp only [Int32.lt_iff_toInt_lt, Int32.le_iff_toInt_le, ← Int32.toInt_inj, ti_m2, ti_m1, ti_0, ti_1, ti_2, ti_3, ti_9] at c2
      have e : an_event a b = 0 := by
        first
        | (exfalso; omega)
        | unfold an_event
          try simp only [ti_0, ti_1]
          repeat (first | rw [if_pos (by first | omega | simp)] | rw [if_neg (by omega)])
          all_goals rfl
      rw [e] at hk
      exact hk _ _ (by repeat (first | exact Up_0 | assumption | refine Up_k ?_ (by assumption) (by assumption) | refine Up_w ?_ (by assumption) (by assumption) | refine Up_q ?_ (by assumption) | refine Up_p ?_ (by assumption) | refine Up_r ?_ (by assumption) (by omega) | refine Up_u ?_ (by omega) | refine Up_sL ?_ (by omega) | refine Up_sI ?_ (by omega) | refine Up_l ?_ (by omega)))
  · exact h.elim
theorem ct_X8_event {E : Ev} {l : Launch} : CT E l yX8_event (wsY yX8_event cX8_event 4 (some .int)) rm_X8_event 0 sp_X8_event := ct_of (T := T_X8_event) (own := RX8) (by decide) rfl (fun ci h10 hc => by have h2 : (99 : Nat) = ci := Nat.eq_of_beq_eq_true hc; omega) ⟨rfl, rfl⟩ ⟨fok_X8, clok_X8, jok_X8, List.forall_mem_cons.mpr ⟨cok_V ct_X8_isBumper (by decide) rfl ml_X8_109 im_X8_isBumper se_X8_isBumper co_X8_isBumper mo_X8_isBumper (by decide), List.forall_mem_cons.mpr ⟨cok_S ct_X8_isQuarters ((cl_ins (c := 8) (by decide)).2) ml_X8_112 im_X8_isQuarters co_X8_isQuarters mo_X8_isQuarters (by decide), List.forall_mem_cons.mpr ⟨cok_V ct_X2_add (by decide) rfl ml_X8_252 im_X2_add se_X2_add co_X2_add mo_X2_add (by decide), fun _ h => absurd h List.not_mem_nil⟩⟩⟩⟩ bd_X8_event
def sp_X8_after : Spc := fun as N lg it rf K => match as with | [.ref 0, .int a] => (N = NT ∧ lg = LG0 ∧ it = IT0 ∧ rf = RF0) ∧ ∀ lg' it', Up lg' it' → K (some (.int (an_after a))) lg' it' RF0 | _ => False
def T_X8_after : Tab := (FL_X8, CL_X8, JL_X8, [(146, 0, 2, 3, 0, sp_X3_become), (129, 0, 3, 0, 0, sp_X0_work)], 99, (some .int))
def rm_X8_after : Room := { frames := 3, cells := 0, slots := 0, locals := 69 }
set_option maxHeartbeats 16000000 in
set_option maxRecDepth 100000 in
theorem bd_X8_after (as : List Value) (N : Nat) (lg : LGt) (it : ITt) (rf : RFt) (Q : Post) (h : sp_X8_after as N lg it rf Q) : Bd T_X8_after cX8_after 3 0 as N lg it rf Q := by
  unfold sp_X8_after at h
  split at h
  · rename_i a
    refine ⟨Nat.le_of_ble_eq_true rfl, fun P hs hw => ?_⟩
    obtain ⟨⟨rfl, rfl, rfl, rfl⟩, hk⟩ := h
    refine hs dX8_after_0 (hs dX8_after_1 (And.intro (fun c1 => ?_) (fun c1 => ?_)))
    · try dsimp only at c1
      try simp only [kb_m5, kb_20, ki_m1, ki_0, ki_1, ki_2] at c1
      refine hs dX8_after_9 (hs dX8_after_10 (And.intro (rfl) (And.intro rfl ?_)))
      try simp only [kb_m5, kb_20, ki_m1, ki_0, ki_1, ki_2, b2_0, b2_1] at c1
      try simp only [Int32.lt_iff_toInt_lt, Int32.le_iff_toInt_le, ← Int32.toInt_inj, ti_m5, ti_m1, ti_0, ti_1, ti_2, ti_20] at c1
      have e : an_after a = (-1) := by
        first
        | (exfalso; omega)
        | unfold an_after
          try simp only [ti_0, ti_1]
          repeat (first | rw [if_pos (by first | omega | simp)] | rw [if_neg (by omega)])
          all_goals rfl
      rw [e] at hk
      exact hk _ _ (by repeat (first | exact Up_0 | assumption | refine Up_k ?_ (by assumption) (by assumption) | refine Up_w ?_ (by assumption) (by assumption) | refine Up_q ?_ (by assumption) | refine Up_p ?_ (by assumption) | refine Up_r ?_ (by assumption) (by omega) | refine Up_u ?_ (by omega) | refine Up_sL ?_ (by omega) | refine Up_sI ?_ (by omega) | refine Up_l ?_ (by omega)))
    · try dsimp only at c1
      try simp only [kb_m5, kb_20, ki_m1, ki_0, ki_1, ki_2] at c1
      refine hs dX8_after_4 (hs dX8_after_5 (hs dX8_after_6 (And.intro (fun c6 => ?_) (fun c6 => ?_))))
      · try dsimp only at c6
        try simp only [kb_m5, kb_20, ki_m1, ki_0, ki_1, ki_2] at c6
        refine hs dX8_after_11 (hs dX8_after_12 (And.intro (ob_0) (gr (r_0_4) (hs dX8_after_15 (hs dX8_after_16 (And.intro (ob_0) (gr (r_0_0) (hs dX8_after_19 (And.intro (ob_1) (gr (r_1_0) (hs dX8_after_22 (And.intro (ob_450) (And.intro ⟨rfl, rfl, Or.inr (Or.inr (Or.inr (Or.inl ⟨rfl, rfl⟩))), vit_2_0⟩ (fun it42 hR42 hZ42 => n0 ?_ ))))))))))))))
        have f42_it_55_3 : it42 55 3 = 0 := (congrFun (hR42 55 (by decide)) 3).trans (vit_55_3)
        have f42_it_55_4 : it42 55 4 = 0 := (congrFun (hR42 55 (by decide)) 4).trans (vit_55_4)
        have f42_it_55_5 : it42 55 5 = (-1) := (congrFun (hR42 55 (by decide)) 5).trans (vit_55_5)
        have f42_it_58_0 : it42 58 0 = 0 := (congrFun (hR42 58 (by decide)) 0).trans (vit_58_0)
        have f42_it_22_2 : it42 22 2 = 0 := (congrFun (hR42 22 (by decide)) 2).trans (vit_22_2)
        have f42_it_2_0 : it42 2 0 = 0 := (congrFun (hR42 2 (by decide)) 0).trans (vit_2_0)
        have f42_it_25_2 : it42 25 2 = 0 := (congrFun (hR42 25 (by decide)) 2).trans (vit_25_2)
        refine hs dX8_after_25 (hs dX8_after_26 (hs dX8_after_27 (hs dX8_after_28 (hs dX8_after_29 (And.intro (ob_0) (gr (r_0_0) (hs dX8_after_32 (And.intro (ob_1) (gr (r_1_2) (hs dX8_after_35 (And.intro (ob_22) (gx (v := 0) (by simp [u2, sL, sI, mx, zr, f42_it_22_2]) (hs dX8_after_38 (And.intro (fun c38 => ?_) (fun c38 => absurd (by decide) c38)))))))))))))))
        refine hs dX8_after_79 (hs dX8_after_80 (And.intro (ob_0) (gr (r_0_3) (hs dX8_after_83 (hs dX8_after_84 (And.intro (ob_0) (gr (r_0_4) (hs dX8_after_87 (hs dX8_after_89 (And.intro (ob_55) (And.intro ⟨rfl, rfl, Or.inr rfl, (by decide), by simp [u2, sL, sI, mx, zr, hZ42], by simp [u2, sL, sI, mx, zr, f42_it_55_3], fun q => absurd ((show _ = ((-1) : Int32) from by simp [u2, sL, sI, mx, zr, f42_it_55_5]).symm.trans q) (by decide), by simp [u2, sL, sI, mx, zr, f42_it_58_0]⟩ (fun lg43 it43 hL43 hK43 hS43 hE43 hZ43 hB43 => n0 ?_ ))))))))))))
        have f43_it_2_0 : it43 2 0 = 0 := (congrFun (hK43 2 (by decide)) 0).trans (by simp [u2, sL, sI, mx, zr, f42_it_2_0])
        have f43_it_25_2 : it43 25 2 = 0 := (congrFun (hK43 25 (by decide)) 2).trans (by simp [u2, sL, sI, mx, zr, f42_it_25_2])
        have f43_it_22_2 : it43 22 2 = 0 := (congrFun (hK43 22 (by decide)) 2).trans (by simp [u2, sL, sI, mx, zr, f42_it_22_2])
        have hE43a : it43 55 4 = 0 := hE43.trans (by decide)
        refine hs dX8_after_92 (hs dX8_after_93 (And.intro (fun c93 => ?_) (fun c93 => ?_)))
        · try dsimp only at c93
          try simp only [kb_m5, kb_20, ki_m1, ki_0, ki_1, ki_2] at c93
          refine hs dX8_after_104 (hs dX8_after_105 (hs dX8_after_106 (And.intro (fun c106 => ?_) (fun c106 => ?_))))
          · try dsimp only at c106
            try simp only [kb_m5, kb_20, ki_m1, ki_0, ki_1, ki_2] at c106
            refine hs dX8_after_117 (hs dX8_after_118 (And.intro (ob_0) (gr (r_0_3) (hs dX8_after_121 (And.intro (ob_55) (gx (v := 0) (by simp [u2, sL, sI, mx, zr, hS43]) (hs dX8_after_124 (And.intro (fun c124 => ?_) (fun c124 => absurd (by decide) c124)))))))))
            refine hs dX8_after_139 (hs dX8_after_141 (And.intro (rfl) (And.intro rfl ?_)))
            try simp only [kb_m5, kb_20, ki_m1, ki_0, ki_1, ki_2, b2_0, b2_1] at c1 c6 c93 c106
            try simp only [Int32.lt_iff_toInt_lt, Int32.le_iff_toInt_le, ← Int32.toInt_inj, ti_m5, ti_m1, ti_0, ti_1, ti_2, ti_20] at c1 c6 c93 c106
            have e : an_after a = (-5) := by
              first
              | (exfalso; omega)
              | unfold an_after
                try simp only [ti_0, ti_1]
                repeat (first | rw [if_pos (by first | omega | simp)] | rw [if_neg (by omega)])
                all_goals rfl
            rw [e] at hk
            exact hk _ _ (by repeat (first | exact Up_0 | assumption | refine Up_k ?_ (by assumption) (by assumption) | refine Up_w ?_ (by assumption) (by assumption) | refine Up_q ?_ (by assumption) | refine Up_p ?_ (by assumption) | refine Up_r ?_ (by assumption) (by omega) | refine Up_u ?_ (by omega) | refine Up_sL ?_ (by omega) | refine Up_sI ?_ (by omega) | refine Up_l ?_ (by omega)))
          · try dsimp only at c106
            try simp only [kb_m5, kb_20, ki_m1, ki_0, ki_1, ki_2] at c106
            refine hs dX8_after_109 (hs dX8_after_110 (And.intro (ob_0) (gr (r_0_3) (hs dX8_after_113 (And.intro (ob_55) (gx (v := 0) (by simp [u2, sL, sI, mx, zr, hE43a]) (hs dX8_after_116 (And.intro (rfl) (And.intro rfl ?_)))))))))
            try simp only [kb_m5, kb_20, ki_m1, ki_0, ki_1, ki_2, b2_0, b2_1] at c1 c6 c93 c106
            try simp only [Int32.lt_iff_toInt_lt, Int32.le_iff_toInt_le, ← Int32.toInt_inj, ti_m5, ti_m1, ti_0, ti_1, ti_2, ti_20] at c1 c6 c93 c106
            have e : an_after a = 0 := by
              first
              | (exfalso; omega)
              | unfold an_after
                try simp only [ti_0, ti_1]
                repeat (first | rw [if_pos (by first | omega | simp)] | rw [if_neg (by omega)])
                all_goals rfl
            rw [e] at hk
            exact hk _ _ (by repeat (first | exact Up_0 | assumption | refine Up_k ?_ (by assumption) (by assumption) | refine Up_w ?_ (by assumption) (by assumption) | refine Up_q ?_ (by assumption) | refine Up_p ?_ (by assumption) | refine Up_r ?_ (by assumption) (by omega) | refine Up_u ?_ (by omega) | refine Up_sL ?_ (by omega) | refine Up_sI ?_ (by omega) | refine Up_l ?_ (by omega)))
        · try dsimp only at c93
          try simp only [kb_m5, kb_20, ki_m1, ki_0, ki_1, ki_2] at c93
          refine hs dX8_after_96 (hs dX8_after_97 (And.intro (ob_0) (gr (r_0_3) (hs dX8_after_100 (And.intro (ob_55) (gx (v := 0) (by simp [u2, sL, sI, mx, zr, hS43]) (hs dX8_after_103 (And.intro (rfl) (And.intro rfl ?_)))))))))
          try simp only [kb_m5, kb_20, ki_m1, ki_0, ki_1, ki_2, b2_0, b2_1] at c1 c6 c93
          try simp only [Int32.lt_iff_toInt_lt, Int32.le_iff_toInt_le, ← Int32.toInt_inj, ti_m5, ti_m1, ti_0, ti_1, ti_2, ti_20] at c1 c6 c93
          have e : an_after a = 0 := by
            first
            | (exfalso; omega)
            | unfold an_after
              try simp only [ti_0, ti_1]
              repeat (first | rw [if_pos (by first | omega | simp)] | rw [if_neg (by omega)])
              all_goals rfl
          rw [e] at hk
          exact hk _ _ (by repeat (first | exact Up_0 | assumption | refine Up_k ?_ (by assumption) (by assumption) | refine Up_w ?_ (by assumption) (by assumption) | refine Up_q ?_ (by assumption) | refine Up_p ?_ (by assumption) | refine Up_r ?_ (by assumption) (by omega) | refine Up_u ?_ (by omega) | refine Up_sL ?_ (by omega) | refine Up_sI ?_ (by omega) | refine Up_l ?_ (by omega)))
      · try dsimp only at c6
        try simp only [kb_m5, kb_20, ki_m1, ki_0, ki_1, ki_2] at c6
        refine hs dX8_after_9 (hs dX8_after_10 (And.intro (rfl) (And.intro rfl ?_)))
        try simp only [kb_m5, kb_20, ki_m1, ki_0, ki_1, ki_2, b2_0, b2_1] at c1 c6
        try simp only [Int32.lt_iff_toInt_lt, Int32.le_iff_toInt_le, ← Int32.toInt_inj, ti_m5, ti_m1, ti_0, ti_1, ti_2, ti_20] at c1 c6
        have e : an_after a = (-1) := by
          first
          | (exfalso; omega)
          | unfold an_after
            try simp only [ti_0, ti_1]
            repeat (first | rw [if_pos (by first | omega | simp)] | rw [if_neg (by omega)])
            all_goals rfl
        rw [e] at hk
        exact hk _ _ (by repeat (first | exact Up_0 | assumption | refine Up_k ?_ (by assumption) (by assumption) | refine Up_w ?_ (by assumption) (by assumption) | refine Up_q ?_ (by assumption) | refine Up_p ?_ (by assumption) | refine Up_r ?_ (by assumption) (by omega) | refine Up_u ?_ (by omega) | refine Up_sL ?_ (by omega) | refine Up_sI ?_ (by omega) | refine Up_l ?_ (by omega)))
  · exact h.elim
theorem ct_X8_after {E : Ev} {l : Launch} : CT E l yX8_after (wsY yX8_after cX8_after 3 (some .int)) rm_X8_after 0 sp_X8_after := ct_of (T := T_X8_after) (own := RX8) (by decide) rfl (fun ci h10 hc => by have h2 : (99 : Nat) = ci := Nat.eq_of_beq_eq_true hc; omega) ⟨rfl, rfl⟩ ⟨fok_X8, clok_X8, jok_X8, List.forall_mem_cons.mpr ⟨cok_V ct_X3_become (by decide) rfl ml_X8_146 im_X3_become se_X3_become co_X3_become mo_X3_become (by decide), List.forall_mem_cons.mpr ⟨cok_V ct_X0_work (by decide) rfl ml_X8_129 im_X0_work se_X0_work co_X0_work mo_X0_work (by decide), fun _ h => absurd h List.not_mem_nil⟩⟩⟩ bd_X8_after
def sp_X8_judge : Spc := fun as N lg it rf K => match as with | [.ref 0, .int a, .int b] => (N = NT ∧ lg = LG0 ∧ it = IT0 ∧ rf = RF0) ∧ ∀ lg' it', Up lg' it' → K (some (.int (an_judge a b))) lg' it' RF0 | _ => False
def T_X8_judge : Tab := (FL_X8, CL_X8, JL_X8, [(263, 1, 1, 0, 0, sp_X8_isTape), (129, 0, 3, 0, 0, sp_X0_work)], 99, (some .int))
def rm_X8_judge : Room := { frames := 3, cells := 0, slots := 0, locals := 69 }
set_option maxHeartbeats 16000000 in
set_option maxRecDepth 100000 in
theorem bd_X8_judge (as : List Value) (N : Nat) (lg : LGt) (it : ITt) (rf : RFt) (Q : Post) (h : sp_X8_judge as N lg it rf Q) : Bd T_X8_judge cX8_judge 5 0 as N lg it rf Q := by
  unfold sp_X8_judge at h
  split at h
  · rename_i a b
    refine ⟨Nat.le_of_ble_eq_true rfl, fun P hs hw => ?_⟩
    obtain ⟨⟨rfl, rfl, rfl, rfl⟩, hk⟩ := h
    refine hs dX8_judge_0 (hs dX8_judge_1 (And.intro (trivial) (n0 (hs dX8_judge_4 (And.intro (fun c4 => ?_) (fun c4 => ?_))))))
    · try dsimp only at c4
      try simp only [kb_m12, kb_m5, kb_20, kb_100, ki_m1, ki_0] at c4
      refine hs dX8_judge_9 (hs dX8_judge_10 (And.intro (ob_0) (gr (r_0_6) (hs dX8_judge_13 ?_))))
      obtain ⟨t, ht, ta⟩ := tpx (nb2 c4).1 (nb2 c4).2
      refine hs dX8_judge_14 (And.intro (oa_473) (And.intro (by rw [ta]; exact tpv ht) (grv (by rw [ta]; exact tpa ht) (hs dX8_judge_15 (hs dX8_judge_16 (hs dX8_judge_17 (And.intro ((tpo ht).1) (gx (v := (-1)) ((tpr t ht).2.2.1) (hs dX8_judge_20 (hs dX8_judge_21 (And.intro (fun c21 => ?_) (fun c21 => absurd (by decide) c21))))))))))))
      refine hs dX8_judge_34 (hs dX8_judge_35 (And.intro (ob_0) (gr (r_0_3) (hs dX8_judge_38 (hs dX8_judge_39 (And.intro (ob_0) (gr (r_0_0) (hs dX8_judge_42 (And.intro (ob_1) (gr (r_1_0) (hs dX8_judge_45 (hs dX8_judge_47 (And.intro (ob_55) (And.intro ⟨rfl, rfl, Or.inl rfl, (by decide), vit_2_0, vit_55_3, fun q => absurd ((show _ = ((-1) : Int32) from vit_55_5).symm.trans q) (by decide), vit_58_0⟩ (fun lg44 it44 hL44 hK44 hS44 hE44 hZ44 hB44 => n0 ?_ )))))))))))))))
      have f44_it_2_0 : it44 2 0 = 0 := (congrFun (hK44 2 (by decide)) 0).trans (vit_2_0)
      have hE44a : it44 55 4 = 0 := hE44.trans (by decide)
      refine hs dX8_judge_50 (hs dX8_judge_51 (And.intro (ob_0) (gr (r_0_3) (hs dX8_judge_54 (And.intro (ob_55) (gx (v := 0) (by simp [u2, sL, sI, mx, zr, hS44]) (hs dX8_judge_57 (And.intro (fun c57 => absurd rfl c57) (fun c57 => (hs dX8_judge_60 (hs dX8_judge_62 (And.intro (rfl) (And.intro rfl ?_)))))))))))))
      try simp only [kb_m12, kb_m5, kb_20, kb_100, ki_m1, ki_0, b2_0, b2_1, lg_cmp_lt, lg_cmp_gt, lg_cmp_le, lg_cmp_ge, lg_cmp_eq] at c4
      try simp only [Int32.lt_iff_toInt_lt, Int32.le_iff_toInt_le, ← Int32.toInt_inj, ti_m12, ti_m5, ti_m1, ti_0, ti_20, ti_100, Int64.lt_iff_toInt_lt, Int64.le_iff_toInt_le, Int32.toInt_toInt64, tj_0, tj_1, lg_cmp_lt, lg_cmp_gt, lg_cmp_le, lg_cmp_ge, lg_cmp_eq] at c4
      have e : an_judge a b = (-5) := by
        first
        | (exfalso; omega)
        | unfold an_judge
          try simp only [ti_0, ti_1]
          repeat (first | rw [if_pos (by first | omega | simp)] | rw [if_neg (by omega)])
          all_goals rfl
      rw [e] at hk
      exact hk _ _ (by repeat (first | exact Up_0 | assumption | refine Up_k ?_ (by assumption) (by assumption) | refine Up_w ?_ (by assumption) (by assumption) | refine Up_q ?_ (by assumption) | refine Up_p ?_ (by assumption) | refine Up_r ?_ (by assumption) (by omega) | refine Up_u ?_ (by omega) | refine Up_sL ?_ (by omega) | refine Up_sI ?_ (by omega) | refine Up_l ?_ (by omega)))
    · try dsimp only at c4
      try simp only [kb_m12, kb_m5, kb_20, kb_100, ki_m1, ki_0] at c4
      refine hs dX8_judge_7 (hs dX8_judge_8 (And.intro (rfl) (And.intro rfl ?_)))
      try simp only [kb_m12, kb_m5, kb_20, kb_100, ki_m1, ki_0, b2_0, b2_1, lg_cmp_lt, lg_cmp_gt, lg_cmp_le, lg_cmp_ge, lg_cmp_eq] at c4
      try simp only [Int32.lt_iff_toInt_lt, Int32.le_iff_toInt_le, ← Int32.toInt_inj, ti_m12, ti_m5, ti_m1, ti_0, ti_20, ti_100, Int64.lt_iff_toInt_lt, Int64.le_iff_toInt_le, Int32.toInt_toInt64, tj_0, tj_1, lg_cmp_lt, lg_cmp_gt, lg_cmp_le, lg_cmp_ge, lg_cmp_eq] at c4
      have e : an_judge a b = (-1) := by
        first
        | (exfalso; omega)
        | unfold an_judge
          try simp only [ti_0, ti_1]
          repeat (first | rw [if_pos (by first | omega | simp)] | rw [if_neg (by omega)])
          all_goals rfl
      rw [e] at hk
      exact hk _ _ (by repeat (first | exact Up_0 | assumption | refine Up_k ?_ (by assumption) (by assumption) | refine Up_w ?_ (by assumption) (by assumption) | refine Up_q ?_ (by assumption) | refine Up_p ?_ (by assumption) | refine Up_r ?_ (by assumption) (by omega) | refine Up_u ?_ (by omega) | refine Up_sL ?_ (by omega) | refine Up_sI ?_ (by omega) | refine Up_l ?_ (by omega)))
  · exact h.elim
theorem ct_X8_judge {E : Ev} {l : Launch} : CT E l yX8_judge (wsY yX8_judge cX8_judge 5 (some .int)) rm_X8_judge 0 sp_X8_judge := ct_of (T := T_X8_judge) (own := RX8) (by decide) rfl (fun ci h10 hc => by have h2 : (99 : Nat) = ci := Nat.eq_of_beq_eq_true hc; omega) ⟨rfl, rfl⟩ ⟨fok_X8, clok_X8, jok_X8, List.forall_mem_cons.mpr ⟨cok_S ct_X8_isTape ((cl_ins (c := 8) (by decide)).2) ml_X8_263 im_X8_isTape co_X8_isTape mo_X8_isTape (by decide), List.forall_mem_cons.mpr ⟨cok_V ct_X0_work (by decide) rfl ml_X8_129 im_X0_work se_X0_work co_X0_work mo_X0_work (by decide), fun _ h => absurd h List.not_mem_nil⟩⟩⟩ bd_X8_judge
def sp_X2_become : Spc := fun as N lg it rf K => match as with | [.ref b, .ref s] => (N = NT ∧ rf = RF0 ∧ ((b = 46 ∧ s = 19) ∨ (b = 49 ∧ s = 22) ∨ (b = 52 ∧ s = 25)) ∧ it s 2 = 0) ∧ ∀ it', Kq it it' → K none lg it' rf | _ => False
def T_X2_become : Tab := (FL_X2, CL_X2, JL_X2, [(28, 1, 2, 0, 0, sp_min), (31, 1, 5, 0, 0, sp_cpi)], 99, none)
def rm_X2_become : Room := { frames := 1, cells := 0, slots := 0, locals := 26 }
set_option maxHeartbeats 16000000 in
set_option maxRecDepth 100000 in
theorem bd_X2_become (as : List Value) (N : Nat) (lg : LGt) (it : ITt) (rf : RFt) (Q : Post) (h : sp_X2_become as N lg it rf Q) : Bd T_X2_become cX2_become 2 0 as N lg it rf Q := by
  unfold sp_X2_become at h
  split at h
  · rename_i b s
    refine ⟨Nat.le_of_ble_eq_true rfl, fun P hs hw => ?_⟩
    obtain ⟨⟨rfl, rfl, hp, hb⟩, hk⟩ := h
    rcases hp with ⟨rfl, rfl⟩ | ⟨rfl, rfl⟩ | ⟨rfl, rfl⟩
    · skip
      refine hs dX2_become_0 (hs dX2_become_1 (hs dX2_become_2 (And.intro (ob_19) (gx (v := 0) (by simp [u2, sL, sI, mx, zr, hb]) (hs dX2_become_5 (hs dX2_become_6 (And.intro (ob_46) (gr (r_46_0) (hs dX2_become_9 (And.intro (ol_47) (hs dX2_become_10 (And.intro (trivial) (n0 (gx (v := 0) (by rw [ln_47]; decide) ?_ ))))))))))))))
      refine hs dX2_become_13 (And.intro (ob_46) (hs dX2_become_16 (hs dX2_become_17 (And.intro (ob_19) (gr (r_19_0) (hs dX2_become_20 (hs dX2_become_21 (hs dX2_become_22 (And.intro (ob_46) (gr (r_46_0) (hs dX2_become_25 (hs dX2_become_26 (hs dX2_become_27 (And.intro (ob_46) (gx (v := 0) (by simp [u2, sL, sI, mx, zr, ki_0]) (hs dX2_become_30 (And.intro (trivial) (And.intro ⟨⟨ob_20, ob_47⟩, ⟨by decide, by decide, by decide⟩, by rw [ln_20]; decide, by rw [ln_47]; decide⟩ (n0 ?_ )))))))))))))))))))
      rw [rcp_0]
      rotate_left
      · decide
      refine hs dX2_become_33 (hs dX2_become_34 (And.intro (ob_19) (gr (r_19_1) (hs dX2_become_37 (hs dX2_become_38 (hs dX2_become_39 (And.intro (ob_46) (gr (r_46_1) (hs dX2_become_42 (hs dX2_become_43 (hs dX2_become_44 (And.intro (ob_46) (gx (v := 0) (by simp [u2, sL, sI, mx, zr, ki_0]) (hs dX2_become_47 (And.intro (trivial) (And.intro ⟨⟨ob_21, ob_48⟩, ⟨by decide, by decide, by decide⟩, by rw [ln_21]; decide, by rw [ln_48]; decide⟩ (n0 ?_ )))))))))))))))))
      rw [rcp_0]
      rotate_left
      · decide
      refine hs dX2_become_50 (And.intro (rfl) (And.intro rfl ?_))
      exact hk _ (by repeat (first | exact Kq_0 | assumption | refine Kq_q ?_ (by assumption) | refine Kq_r ?_ (by assumption) (by omega) | refine Kq_u ?_ (by omega)))
    · skip
      refine hs dX2_become_0 (hs dX2_become_1 (hs dX2_become_2 (And.intro (ob_22) (gx (v := 0) (by simp [u2, sL, sI, mx, zr, hb]) (hs dX2_become_5 (hs dX2_become_6 (And.intro (ob_49) (gr (r_49_0) (hs dX2_become_9 (And.intro (ol_50) (hs dX2_become_10 (And.intro (trivial) (n0 (gx (v := 0) (by rw [ln_50]; decide) ?_ ))))))))))))))
      refine hs dX2_become_13 (And.intro (ob_49) (hs dX2_become_16 (hs dX2_become_17 (And.intro (ob_22) (gr (r_22_0) (hs dX2_become_20 (hs dX2_become_21 (hs dX2_become_22 (And.intro (ob_49) (gr (r_49_0) (hs dX2_become_25 (hs dX2_become_26 (hs dX2_become_27 (And.intro (ob_49) (gx (v := 0) (by simp [u2, sL, sI, mx, zr, ki_0]) (hs dX2_become_30 (And.intro (trivial) (And.intro ⟨⟨ob_23, ob_50⟩, ⟨by decide, by decide, by decide⟩, by rw [ln_23]; decide, by rw [ln_50]; decide⟩ (n0 ?_ )))))))))))))))))))
      rw [rcp_0]
      rotate_left
      · decide
      refine hs dX2_become_33 (hs dX2_become_34 (And.intro (ob_22) (gr (r_22_1) (hs dX2_become_37 (hs dX2_become_38 (hs dX2_become_39 (And.intro (ob_49) (gr (r_49_1) (hs dX2_become_42 (hs dX2_become_43 (hs dX2_become_44 (And.intro (ob_49) (gx (v := 0) (by simp [u2, sL, sI, mx, zr, ki_0]) (hs dX2_become_47 (And.intro (trivial) (And.intro ⟨⟨ob_24, ob_51⟩, ⟨by decide, by decide, by decide⟩, by rw [ln_24]; decide, by rw [ln_51]; decide⟩ (n0 ?_ )))))))))))))))))
      rw [rcp_0]
      rotate_left
      · decide
      refine hs dX2_become_50 (And.intro (rfl) (And.intro rfl ?_))
      exact hk _ (by repeat (first | exact Kq_0 | assumption | refine Kq_q ?_ (by assumption) | refine Kq_r ?_ (by assumption) (by omega) | refine Kq_u ?_ (by omega)))
    · skip
      refine hs dX2_become_0 (hs dX2_become_1 (hs dX2_become_2 (And.intro (ob_25) (gx (v := 0) (by simp [u2, sL, sI, mx, zr, hb]) (hs dX2_become_5 (hs dX2_become_6 (And.intro (ob_52) (gr (r_52_0) (hs dX2_become_9 (And.intro (ol_53) (hs dX2_become_10 (And.intro (trivial) (n0 (gx (v := 0) (by rw [ln_53]; decide) ?_ ))))))))))))))
      refine hs dX2_become_13 (And.intro (ob_52) (hs dX2_become_16 (hs dX2_become_17 (And.intro (ob_25) (gr (r_25_0) (hs dX2_become_20 (hs dX2_become_21 (hs dX2_become_22 (And.intro (ob_52) (gr (r_52_0) (hs dX2_become_25 (hs dX2_become_26 (hs dX2_become_27 (And.intro (ob_52) (gx (v := 0) (by simp [u2, sL, sI, mx, zr, ki_0]) (hs dX2_become_30 (And.intro (trivial) (And.intro ⟨⟨ob_26, ob_53⟩, ⟨by decide, by decide, by decide⟩, by rw [ln_26]; decide, by rw [ln_53]; decide⟩ (n0 ?_ )))))))))))))))))))
      rw [rcp_0]
      rotate_left
      · decide
      refine hs dX2_become_33 (hs dX2_become_34 (And.intro (ob_25) (gr (r_25_1) (hs dX2_become_37 (hs dX2_become_38 (hs dX2_become_39 (And.intro (ob_52) (gr (r_52_1) (hs dX2_become_42 (hs dX2_become_43 (hs dX2_become_44 (And.intro (ob_52) (gx (v := 0) (by simp [u2, sL, sI, mx, zr, ki_0]) (hs dX2_become_47 (And.intro (trivial) (And.intro ⟨⟨ob_27, ob_54⟩, ⟨by decide, by decide, by decide⟩, by rw [ln_27]; decide, by rw [ln_54]; decide⟩ (n0 ?_ )))))))))))))))))
      rw [rcp_0]
      rotate_left
      · decide
      refine hs dX2_become_50 (And.intro (rfl) (And.intro rfl ?_))
      exact hk _ (by repeat (first | exact Kq_0 | assumption | refine Kq_q ?_ (by assumption) | refine Kq_r ?_ (by assumption) (by omega) | refine Kq_u ?_ (by omega)))
  · exact h.elim
theorem ct_X2_become {E : Ev} {l : Launch} : CT E l yX2_become (wsY yX2_become cX2_become 2 none) rm_X2_become 0 sp_X2_become := ct_of (T := T_X2_become) (own := RX2) (by decide) rfl (fun ci h10 hc => by have h2 : (99 : Nat) = ci := Nat.eq_of_beq_eq_true hc; omega) ⟨rfl, rfl⟩ ⟨fok_X2, clok_X2, jok_X2, List.forall_mem_cons.mpr ⟨cok_min ml_X2_28 o_math.2.1 o_math.2.2.1 o_math.2.2.2.2 (by decide), List.forall_mem_cons.mpr ⟨cok_cpi ml_X2_31 o_cp.1 o_cp.2.1 o_cp.2.2 (by decide), fun _ h => absurd h List.not_mem_nil⟩⟩⟩ bd_X2_become
def sp_X4_become : Spc := fun as N lg it rf K => match as with | [.ref 28, .ref 1] => (N = NT ∧ lg = LG0 ∧ it = IT0 ∧ rf = RF0) ∧ ∀ it', Kq IT0 it' → K none LG0 it' RF0 | _ => False
def T_X4_become : Tab := (FL_X4, CL_X4, JL_X4, [(33, 0, 2, 3, 0, sp_X3_become), (37, 0, 2, 2, 0, sp_X2_become)], 99, none)
def rm_X4_become : Room := { frames := 2, cells := 0, slots := 0, locals := 47 }
set_option maxHeartbeats 16000000 in
set_option maxRecDepth 100000 in
theorem bd_X4_become (as : List Value) (N : Nat) (lg : LGt) (it : ITt) (rf : RFt) (Q : Post) (h : sp_X4_become as N lg it rf Q) : Bd T_X4_become cX4_become 2 0 as N lg it rf Q := by
  unfold sp_X4_become at h
  split at h
  · refine ⟨Nat.le_of_ble_eq_true rfl, fun P hs hw => ?_⟩
    obtain ⟨⟨rfl, rfl, rfl, rfl⟩, hk⟩ := h
    refine hs dX4_become_0 (hs dX4_become_1 (And.intro (ob_28) (gr (r_28_0) (hs dX4_become_4 (hs dX4_become_5 (And.intro (ob_1) (gr (r_1_0) (hs dX4_become_8 (And.intro (ob_29) (And.intro ⟨rfl, rfl, Or.inr (Or.inr (Or.inr (Or.inr (Or.inl ⟨rfl, rfl⟩)))), vit_2_0⟩ (fun it65 hR65 hZ65 => n0 ?_ )))))))))))
    have f65_it_2_0 : it65 2 0 = 0 := (congrFun (hR65 2 (by decide)) 0).trans (vit_2_0)
    have f65_it_19_2 : it65 19 2 = 0 := (congrFun (hR65 19 (by decide)) 2).trans (vit_19_2)
    have f65_it_22_2 : it65 22 2 = 0 := (congrFun (hR65 22 (by decide)) 2).trans (vit_22_2)
    have f65_it_25_2 : it65 25 2 = 0 := (congrFun (hR65 25 (by decide)) 2).trans (vit_25_2)
    refine hs dX4_become_11 (hs dX4_become_12 (And.intro (ob_28) (gr (r_28_1) (hs dX4_become_15 (hs dX4_become_16 (And.intro (ob_1) (gr (r_1_1) (hs dX4_become_19 (And.intro (ob_46) (And.intro ⟨rfl, rfl, Or.inl ⟨rfl, rfl⟩, by simp [u2, sL, sI, mx, zr, f65_it_19_2]⟩ (fun it66 hQ66 => n0 ?_ )))))))))))
    have f66_it_2_0 : it66 2 0 = 0 := (congrFun (hQ66 2 (by decide)) 0).trans (by simp [u2, sL, sI, mx, zr, f65_it_2_0])
    have f66_it_19_2 : it66 19 2 = 0 := (congrFun (hQ66 19 (by decide)) 2).trans (by simp [u2, sL, sI, mx, zr, f65_it_19_2])
    have f66_it_22_2 : it66 22 2 = 0 := (congrFun (hQ66 22 (by decide)) 2).trans (by simp [u2, sL, sI, mx, zr, f65_it_22_2])
    have f66_it_25_2 : it66 25 2 = 0 := (congrFun (hQ66 25 (by decide)) 2).trans (by simp [u2, sL, sI, mx, zr, f65_it_25_2])
    refine hs dX4_become_22 (hs dX4_become_23 (And.intro (ob_28) (gr (r_28_2) (hs dX4_become_26 (hs dX4_become_27 (And.intro (ob_1) (gr (r_1_2) (hs dX4_become_30 (And.intro (ob_49) (And.intro ⟨rfl, rfl, Or.inr (Or.inl ⟨rfl, rfl⟩), by simp [u2, sL, sI, mx, zr, f66_it_22_2]⟩ (fun it67 hQ67 => n0 ?_ )))))))))))
    have f67_it_2_0 : it67 2 0 = 0 := (congrFun (hQ67 2 (by decide)) 0).trans (by simp [u2, sL, sI, mx, zr, f66_it_2_0])
    have f67_it_19_2 : it67 19 2 = 0 := (congrFun (hQ67 19 (by decide)) 2).trans (by simp [u2, sL, sI, mx, zr, f66_it_19_2])
    have f67_it_22_2 : it67 22 2 = 0 := (congrFun (hQ67 22 (by decide)) 2).trans (by simp [u2, sL, sI, mx, zr, f66_it_22_2])
    have f67_it_25_2 : it67 25 2 = 0 := (congrFun (hQ67 25 (by decide)) 2).trans (by simp [u2, sL, sI, mx, zr, f66_it_25_2])
    refine hs dX4_become_33 (hs dX4_become_34 (And.intro (ob_28) (gr (r_28_3) (hs dX4_become_37 (hs dX4_become_38 (And.intro (ob_1) (gr (r_1_3) (hs dX4_become_41 (And.intro (ob_52) (And.intro ⟨rfl, rfl, Or.inr (Or.inr (⟨rfl, rfl⟩)), by simp [u2, sL, sI, mx, zr, f67_it_25_2]⟩ (fun it68 hQ68 => n0 ?_ )))))))))))
    have f68_it_2_0 : it68 2 0 = 0 := (congrFun (hQ68 2 (by decide)) 0).trans (by simp [u2, sL, sI, mx, zr, f67_it_2_0])
    have f68_it_19_2 : it68 19 2 = 0 := (congrFun (hQ68 19 (by decide)) 2).trans (by simp [u2, sL, sI, mx, zr, f67_it_19_2])
    have f68_it_22_2 : it68 22 2 = 0 := (congrFun (hQ68 22 (by decide)) 2).trans (by simp [u2, sL, sI, mx, zr, f67_it_22_2])
    have f68_it_25_2 : it68 25 2 = 0 := (congrFun (hQ68 25 (by decide)) 2).trans (by simp [u2, sL, sI, mx, zr, f67_it_25_2])
    refine hs dX4_become_44 (And.intro (rfl) (And.intro rfl ?_))
    exact hk _ (by repeat (first | exact Kq_0 | assumption | refine Kq_q ?_ (by assumption) | refine Kq_r ?_ (by assumption) (by omega) | refine Kq_u ?_ (by omega)))
  · exact h.elim
theorem ct_X4_become {E : Ev} {l : Launch} : CT E l yX4_become (wsY yX4_become cX4_become 2 none) rm_X4_become 0 sp_X4_become := ct_of (T := T_X4_become) (own := RX4) (by decide) rfl (fun ci h10 hc => by have h2 : (99 : Nat) = ci := Nat.eq_of_beq_eq_true hc; omega) ⟨rfl, rfl⟩ ⟨fok_X4, clok_X4, jok_X4, List.forall_mem_cons.mpr ⟨cok_V ct_X3_become (by decide) rfl ml_X4_33 im_X3_become se_X3_become co_X3_become mo_X3_become (by decide), List.forall_mem_cons.mpr ⟨cok_V ct_X2_become (by decide) rfl ml_X4_37 im_X2_become se_X2_become co_X2_become mo_X2_become (by decide), fun _ h => absurd h List.not_mem_nil⟩⟩⟩ bd_X4_become
def sp_X8_image : Spc := fun as N lg it rf K => match as with | [.ref 0] => (N = NT ∧ lg = LG0 ∧ it = IT0 ∧ rf = RF0) ∧ ∀ lg' it', Up lg' it' → K (some (.int (an_image))) lg' it' RF0 | _ => False
def T_X8_image : Tab := (FL_X8, CL_X8, JL_X8, [(274, 0, 2, 4, 0, sp_X4_become)], 99, (some .int))
def rm_X8_image : Room := { frames := 3, cells := 0, slots := 0, locals := 68 }
set_option maxHeartbeats 16000000 in
set_option maxRecDepth 100000 in
theorem bd_X8_image (as : List Value) (N : Nat) (lg : LGt) (it : ITt) (rf : RFt) (Q : Post) (h : sp_X8_image as N lg it rf Q) : Bd T_X8_image cX8_image 1 0 as N lg it rf Q := by
  unfold sp_X8_image at h
  split at h
  · refine ⟨Nat.le_of_ble_eq_true rfl, fun P hs hw => ?_⟩
    obtain ⟨⟨rfl, rfl, rfl, rfl⟩, hk⟩ := h
    refine hs dX8_image_0 (hs dX8_image_1 (And.intro (ob_0) (gr (r_0_1) (hs dX8_image_4 (hs dX8_image_5 (And.intro (ob_0) (gr (r_0_0) (hs dX8_image_8 (And.intro (ob_28) (And.intro ⟨rfl, rfl, rfl, rfl⟩ (fun it69 hQ69 => n0 ?_ )))))))))))
    have f69_it_2_0 : it69 2 0 = 0 := (congrFun (hQ69 2 (by decide)) 0).trans (vit_2_0)
    refine hs dX8_image_11 (hs dX8_image_12 (hs dX8_image_13 (And.intro (ob_0) (And.intro (rfl) (hs dX8_image_16 (hs dX8_image_17 (And.intro (ob_0) (gr (r_0_0) (hs dX8_image_20 (And.intro (ob_1) (gr (r_1_0) (hs dX8_image_23 (And.intro (ob_2) (gx (v := 0) (by simp [u2, sL, sI, mx, zr, f69_it_2_0]) (hs dX8_image_26 (And.intro (rfl) (And.intro rfl ?_)))))))))))))))))
    have e : an_image = 0 := rfl
    rw [e] at hk
    exact hk _ _ (by repeat (first | exact Up_0 | assumption | refine Up_k ?_ (by assumption) (by assumption) | refine Up_w ?_ (by assumption) (by assumption) | refine Up_q ?_ (by assumption) | refine Up_p ?_ (by assumption) | refine Up_r ?_ (by assumption) (by omega) | refine Up_u ?_ (by omega) | refine Up_sL ?_ (by omega) | refine Up_sI ?_ (by omega) | refine Up_l ?_ (by omega)))
  · exact h.elim
theorem ct_X8_image {E : Ev} {l : Launch} : CT E l yX8_image (wsY yX8_image cX8_image 1 (some .int)) rm_X8_image 0 sp_X8_image := ct_of (T := T_X8_image) (own := RX8) (by decide) rfl (fun ci h10 hc => by have h2 : (99 : Nat) = ci := Nat.eq_of_beq_eq_true hc; omega) ⟨rfl, rfl⟩ ⟨fok_X8, clok_X8, jok_X8, List.forall_mem_cons.mpr ⟨cok_V ct_X4_become (by decide) rfl ml_X8_274 im_X4_become se_X4_become co_X4_become mo_X4_become (by decide), fun _ h => absurd h List.not_mem_nil⟩⟩ bd_X8_image
def sp_X7_sign : Spc := fun as N lg it rf K => match as with | [.ref 467] => (N = NT ∧ rf = RF0 ∧ it 467 7 = 0 ∧ it 467 1 = 0) ∧ K (some (.int (-1))) lg it rf | _ => False
def T_X7_sign : Tab := (FL_X7, CL_X7, JL_X7, [], 99, (some .int))
def rm_X7_sign : Room := { frames := 0, cells := 0, slots := 0, locals := 0 }
set_option maxHeartbeats 16000000 in
set_option maxRecDepth 100000 in
theorem bd_X7_sign (as : List Value) (N : Nat) (lg : LGt) (it : ITt) (rf : RFt) (Q : Post) (h : sp_X7_sign as N lg it rf Q) : Bd T_X7_sign cX7_sign 1 0 as N lg it rf Q := by
  unfold sp_X7_sign at h
  split at h
  · refine ⟨Nat.le_of_ble_eq_true rfl, fun P hs hw => ?_⟩
    obtain ⟨⟨rfl, rfl, hb1, hb2⟩, hk⟩ := h
    refine hs dX7_sign_0 (hs dX7_sign_1 (And.intro (ob_467) (gx (v := 0) (by simp [u2, sL, sI, mx, zr, hb1]) (hs dX7_sign_4 (And.intro (fun c4 => absurd c4 (by decide)) (fun c4 => (hs dX7_sign_7 (hs dX7_sign_8 (And.intro (ob_467) (gx (v := 0) (by simp [u2, sL, sI, mx, zr, hb1]) (hs dX7_sign_11 (hs dX7_sign_12 (And.intro (ob_467) (gx (v := 0) (by simp [u2, sL, sI, mx, zr, hb2]) (hs dX7_sign_15 (And.intro (fun c15 => ?_) (fun c15 => absurd (by decide) c15)))))))))))))))))
    refine hs dX7_sign_39 (hs dX7_sign_40 (And.intro (rfl) (And.intro rfl ?_)))
    exact hk
  · exact h.elim
theorem ct_X7_sign {E : Ev} {l : Launch} : CT E l yX7_sign (wsY yX7_sign cX7_sign 1 (some .int)) rm_X7_sign 0 sp_X7_sign := ct_of (T := T_X7_sign) (own := RX7) (by decide) rfl (fun ci h10 hc => by have h2 : (99 : Nat) = ci := Nat.eq_of_beq_eq_true hc; omega) ⟨rfl, rfl⟩ ⟨fok_X7, clok_X7, jok_X7, fun _ h => absurd h List.not_mem_nil⟩ bd_X7_sign
def sp_X7_skip : Spc := fun as N lg it rf K => match as with | [.ref 467, .int a] => (N = NT ∧ rf = RF0 ∧ it 467 7 = 0 ∧ it 467 1 = 0 ∧ ¬ a = -1) ∧ K (some (.int 0)) lg it rf | _ => False
def T_X7_skip : Tab := (FL_X7, CL_X7, JL_X7, [(45, 0, 1, 7, 0, sp_X7_sign)], 99, (some .boolean))
def rm_X7_skip : Room := { frames := 1, cells := 0, slots := 0, locals := 20 }
set_option maxHeartbeats 16000000 in
set_option maxRecDepth 100000 in
theorem bd_X7_skip (as : List Value) (N : Nat) (lg : LGt) (it : ITt) (rf : RFt) (Q : Post) (h : sp_X7_skip as N lg it rf Q) : Bd T_X7_skip cX7_skip 2 0 as N lg it rf Q := by
  unfold sp_X7_skip at h
  split at h
  · rename_i a
    refine ⟨Nat.le_of_ble_eq_true rfl, fun P hs hw => ?_⟩
    obtain ⟨⟨rfl, rfl, hb1, hb2, hc⟩, hk⟩ := h
    refine hs dX7_skip_0 (hs dX7_skip_1 (And.intro (ob_467) (And.intro ⟨rfl, rfl, by simp [u2, sL, sI, mx, zr, hb1], by simp [u2, sL, sI, mx, zr, hb2]⟩ (n0 (hs dX7_skip_4 (hs dX7_skip_5 (And.intro (fun c5 => absurd (c5).symm hc) (fun c5 => (hs dX7_skip_8 (hs dX7_skip_9 (And.intro (rfl) (And.intro rfl (And.intro (rfl) ?_)))))))))))))
    exact hk
  · exact h.elim
theorem ct_X7_skip {E : Ev} {l : Launch} : CT E l yX7_skip (wsY yX7_skip cX7_skip 2 (some .boolean)) rm_X7_skip 0 sp_X7_skip := ct_of (T := T_X7_skip) (own := RX7) (by decide) rfl (fun ci h10 hc => by have h2 : (99 : Nat) = ci := Nat.eq_of_beq_eq_true hc; omega) ⟨rfl, rfl⟩ ⟨fok_X7, clok_X7, jok_X7, List.forall_mem_cons.mpr ⟨cok_V ct_X7_sign (by decide) rfl ml_X7_45 im_X7_sign se_X7_sign co_X7_sign mo_X7_sign (by decide), fun _ h => absurd h List.not_mem_nil⟩⟩ bd_X7_skip
def sp_X7_scanClause : Spc := fun as N lg it rf K => match as with | [.ref 467, .int a] => (N = NT ∧ rf = RF0 ∧ it 467 7 = 0 ∧ it 467 1 = 0 ∧ a = 0) ∧ ∀ it', Kp it it' → it' 467 7 = 0 → K (some (.int 0)) lg it' rf | _ => False
def T_X7_scanClause : Tab := (FL_X7, CL_X7, JL_X7, [(45, 0, 1, 7, 0, sp_X7_sign), (49, 0, 2, 7, 0, sp_X7_skip)], 99, (some .boolean))
def rm_X7_scanClause : Room := { frames := 2, cells := 0, slots := 0, locals := 41 }
set_option maxHeartbeats 16000000 in
set_option maxRecDepth 100000 in
theorem bd_X7_scanClause (as : List Value) (N : Nat) (lg : LGt) (it : ITt) (rf : RFt) (Q : Post) (h : sp_X7_scanClause as N lg it rf Q) : Bd T_X7_scanClause cX7_scanClause 3 0 as N lg it rf Q := by
  unfold sp_X7_scanClause at h
  split at h
  · rename_i a
    refine ⟨Nat.le_of_ble_eq_true rfl, fun P hs hw => ?_⟩
    obtain ⟨⟨rfl, rfl, hb1, hb2, rfl⟩, hk⟩ := h
    refine hs dX7_scanClause_0 (hs dX7_scanClause_1 (And.intro (ob_467) (gr (r_467_2) (hs dX7_scanClause_4 (hs dX7_scanClause_5 (hs dX7_scanClause_6 (And.intro (ob_467) (And.intro ⟨rfl, rfl, by simp [u2, sL, sI, mx, zr, hb1], by simp [u2, sL, sI, mx, zr, hb2]⟩ (n0 (hs dX7_scanClause_9 (And.intro (ob_469) (And.intro (vin ln_469 (by decide)) (hs dX7_scanClause_10 (hs dX7_scanClause_11 (hs dX7_scanClause_13 (And.intro (ob_467) (And.intro ⟨rfl, rfl, by simp [u2, sL, sI, mx, zr, hb1], by simp [u2, sL, sI, mx, zr, hb2], by decide⟩ (n0 (hs dX7_scanClause_16 (And.intro (fun c16 => ?_) (fun c16 => absurd (by decide) c16)))))))))))))))))))))
    refine hs dX7_scanClause_25 (hs dX7_scanClause_26 (hs dX7_scanClause_28 (And.intro (ob_467) (And.intro ⟨rfl, rfl, by simp [u2, sL, sI, mx, zr, hb1], by simp [u2, sL, sI, mx, zr, hb2], by decide⟩ (n0 (hs dX7_scanClause_31 (And.intro (fun c31 => ?_) (fun c31 => absurd (by decide) c31))))))))
    refine hs dX7_scanClause_43 (hs dX7_scanClause_44 (hs dX7_scanClause_46 (And.intro (ob_467) (And.intro ⟨rfl, rfl, by simp [u2, sL, sI, mx, zr, hb1], by simp [u2, sL, sI, mx, zr, hb2], by decide⟩ (n0 (hs dX7_scanClause_49 (And.intro (fun c49 => ?_) (fun c49 => absurd (by decide) c49))))))))
    refine hs dX7_scanClause_61 (hs dX7_scanClause_62 (hs dX7_scanClause_64 (And.intro (ob_467) (And.intro ⟨rfl, rfl, by simp [u2, sL, sI, mx, zr, hb1], by simp [u2, sL, sI, mx, zr, hb2], by decide⟩ (n0 (hs dX7_scanClause_67 (And.intro (fun c67 => absurd rfl c67) (fun c67 => (hs dX7_scanClause_70 (hs dX7_scanClause_71 (hs dX7_scanClause_73 (And.intro (ob_467) (And.intro ⟨rfl, rfl, by simp [u2, sL, sI, mx, zr, hb1], by simp [u2, sL, sI, mx, zr, hb2], by decide⟩ (n0 (hs dX7_scanClause_76 (And.intro (fun c76 => ?_) (fun c76 => absurd (by decide) c76)))))))))))))))))
    refine hs dX7_scanClause_90 (hs dX7_scanClause_91 (hs dX7_scanClause_92 (hs dX7_scanClause_93 (And.intro (ob_467) (gr (r_467_3) (hs dX7_scanClause_96 (hs dX7_scanClause_97 (hs dX7_scanClause_98 (And.intro (ob_467) (hs dX7_scanClause_101 (And.intro (ob_470) (And.intro (vin ln_470 (by decide)) (hs dX7_scanClause_102 (hs dX7_scanClause_103 (And.intro (rfl) (And.intro rfl (And.intro (rfl) ?_)))))))))))))))))
    exact hk _ (by repeat (first | exact Kp_0 | assumption | refine Kp_u ?_ (by omega) | refine Kp_sL ?_ (by omega) | refine Kp_sI ?_ (by omega))) (by simp [u2, sL, sI, mx, zr, kb_98, kb_101, kb_103, kb_108, kb_114, ki_0, ki_1, ki_2, hb1])
  · exact h.elim
theorem ct_X7_scanClause {E : Ev} {l : Launch} : CT E l yX7_scanClause (wsY yX7_scanClause cX7_scanClause 3 (some .boolean)) rm_X7_scanClause 0 sp_X7_scanClause := ct_of (T := T_X7_scanClause) (own := RX7) (by decide) rfl (fun ci h10 hc => by have h2 : (99 : Nat) = ci := Nat.eq_of_beq_eq_true hc; omega) ⟨rfl, rfl⟩ ⟨fok_X7, clok_X7, jok_X7, List.forall_mem_cons.mpr ⟨cok_V ct_X7_sign (by decide) rfl ml_X7_45 im_X7_sign se_X7_sign co_X7_sign mo_X7_sign (by decide), List.forall_mem_cons.mpr ⟨cok_V ct_X7_skip (by decide) rfl ml_X7_49 im_X7_skip se_X7_skip co_X7_skip mo_X7_skip (by decide), fun _ h => absurd h List.not_mem_nil⟩⟩⟩ bd_X7_scanClause
def sp_X7_scan : Spc := fun as N lg it rf K => match as with | [.ref 467] => (N = NT ∧ lg = LG0 ∧ it = IT0 ∧ rf = RF0) ∧ ∀ it', Kp IT0 it' → it' 467 7 = 0 → K (some (.int 0)) LG0 it' RF0 | _ => False
def T_X7_scan : Tab := (FL_X7, CL_X7, JL_X7, [(41, 0, 2, 7, 0, sp_X7_scanClause), (45, 0, 1, 7, 0, sp_X7_sign), (49, 0, 2, 7, 0, sp_X7_skip)], 99, (some .boolean))
def rm_X7_scan : Room := { frames := 3, cells := 0, slots := 0, locals := 63 }
set_option maxHeartbeats 16000000 in
set_option maxRecDepth 100000 in
theorem bd_X7_scan (as : List Value) (N : Nat) (lg : LGt) (it : ITt) (rf : RFt) (Q : Post) (h : sp_X7_scan as N lg it rf Q) : Bd T_X7_scan cX7_scan 2 0 as N lg it rf Q := by
  unfold sp_X7_scan at h
  split at h
  · refine ⟨Nat.le_of_ble_eq_true rfl, fun P hs hw => ?_⟩
    obtain ⟨⟨rfl, rfl, rfl, rfl⟩, hk⟩ := h
    refine hs dX7_scan_0 (hs dX7_scan_1 (hs dX7_scan_2 (And.intro (ob_467) (hs dX7_scan_5 (hs dX7_scan_6 (hs dX7_scan_7 (And.intro (ob_467) (hs dX7_scan_10 (hs dX7_scan_11 (hs dX7_scan_12 (hs dX7_scan_13 (hs dX7_scan_15 (And.intro (fun c15 => absurd c15 (by decide)) (fun c15 => (hs dX7_scan_18 (hs dX7_scan_19 (hs dX7_scan_20 (And.intro (ob_467) (And.intro ⟨rfl, rfl, by simp [u2, sL, sI, mx, zr, kb_12, kb_59, ki_m1, ki_0, ki_1], by simp [u2, sL, sI, mx, zr, vit_467_1], rfl⟩ (fun it70 hP70 hA70 => n0 ?_ ))))))))))))))))))))
    refine hs dX7_scan_23 (And.intro (fun c23 => absurd rfl c23) (fun c23 => (hs dX7_scan_26 (hs dX7_scan_27 (And.intro (rfl) (And.intro rfl (And.intro (rfl) ?_)))))))
    exact hk _ (by repeat (first | exact Kp_0 | refine Kp_t ?_ (by assumption) | refine Kp_u ?_ (by omega))) (by simp [u2, sL, sI, mx, zr, hA70])
  · exact h.elim
theorem ct_X7_scan {E : Ev} {l : Launch} : CT E l yX7_scan (wsY yX7_scan cX7_scan 2 (some .boolean)) rm_X7_scan 0 sp_X7_scan := ct_of (T := T_X7_scan) (own := RX7) (by decide) rfl (fun ci h10 hc => by have h2 : (99 : Nat) = ci := Nat.eq_of_beq_eq_true hc; omega) ⟨rfl, rfl⟩ ⟨fok_X7, clok_X7, jok_X7, List.forall_mem_cons.mpr ⟨cok_V ct_X7_scanClause (by decide) rfl ml_X7_41 im_X7_scanClause se_X7_scanClause co_X7_scanClause mo_X7_scanClause (by decide), List.forall_mem_cons.mpr ⟨cok_V ct_X7_sign (by decide) rfl ml_X7_45 im_X7_sign se_X7_sign co_X7_sign mo_X7_sign (by decide), List.forall_mem_cons.mpr ⟨cok_V ct_X7_skip (by decide) rfl ml_X7_49 im_X7_skip se_X7_skip co_X7_skip mo_X7_skip (by decide), fun _ h => absurd h List.not_mem_nil⟩⟩⟩⟩ bd_X7_scan
def sp_X8_read : Spc := fun as N lg it rf K => match as with | [.ref 0] => (N = NT ∧ lg = LG0 ∧ it = IT0 ∧ rf = RF0) ∧ ∀ lg' it', Up lg' it' → K (some (.int (an_read))) lg' it' RF0 | _ => False
def T_X8_read : Tab := (FL_X8, CL_X8, JL_X8, [(156, 0, 1, 7, 0, sp_X7_scan)], 99, (some .int))
def rm_X8_read : Room := { frames := 4, cells := 0, slots := 0, locals := 84 }
set_option maxHeartbeats 16000000 in
set_option maxRecDepth 100000 in
theorem bd_X8_read (as : List Value) (N : Nat) (lg : LGt) (it : ITt) (rf : RFt) (Q : Post) (h : sp_X8_read as N lg it rf Q) : Bd T_X8_read cX8_read 5 0 as N lg it rf Q := by
  unfold sp_X8_read at h
  split at h
  · refine ⟨Nat.le_of_ble_eq_true rfl, fun P hs hw => ?_⟩
    obtain ⟨⟨rfl, rfl, rfl, rfl⟩, hk⟩ := h
    refine hs dX8_read_0 (hs dX8_read_1 (And.intro (ob_0) (gr (r_0_5) (hs dX8_read_4 (And.intro (ob_467) (And.intro ⟨rfl, rfl, rfl, rfl⟩ (fun it71 hP71 hA71 => n0 ?_ )))))))
    refine hs dX8_read_7 (hs dX8_read_8 (hs dX8_read_9 (And.intro (ob_0) (gr (r_0_5) (hs dX8_read_12 (hs dX8_read_13 (And.intro (ob_467) (hs dX8_read_16 (hs dX8_read_17 (And.intro (fun c17 => absurd rfl c17) (fun c17 => (hs dX8_read_20 (hs dX8_read_22 (hs dX8_read_23 (And.intro (ob_0) (gr (r_0_5) (hs dX8_read_26 (And.intro (ob_467) (gx (v := 0) (by simp [u2, sL, sI, mx, zr, hA71]) (hs dX8_read_29 (hs dX8_read_30 (And.intro (rfl) (And.intro rfl ?_)))))))))))))))))))))))
    have e : an_read = (-10) := rfl
    rw [e] at hk
    exact hk _ _ (by repeat (first | exact Up_0 | assumption | refine Up_k ?_ (by assumption) (by assumption) | refine Up_w ?_ (by assumption) (by assumption) | refine Up_q ?_ (by assumption) | refine Up_p ?_ (by assumption) | refine Up_r ?_ (by assumption) (by omega) | refine Up_u ?_ (by omega) | refine Up_sL ?_ (by omega) | refine Up_sI ?_ (by omega) | refine Up_l ?_ (by omega)))
  · exact h.elim
theorem ct_X8_read {E : Ev} {l : Launch} : CT E l yX8_read (wsY yX8_read cX8_read 5 (some .int)) rm_X8_read 0 sp_X8_read := ct_of (T := T_X8_read) (own := RX8) (by decide) rfl (fun ci h10 hc => by have h2 : (99 : Nat) = ci := Nat.eq_of_beq_eq_true hc; omega) ⟨rfl, rfl⟩ ⟨fok_X8, clok_X8, jok_X8, List.forall_mem_cons.mpr ⟨cok_V ct_X7_scan (by decide) rfl ml_X8_156 im_X7_scan se_X7_scan co_X7_scan mo_X7_scan (by decide), fun _ h => absurd h List.not_mem_nil⟩⟩ bd_X8_read
