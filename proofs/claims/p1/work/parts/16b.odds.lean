/-! p1: the class on a new object: odds -/
def sp_X8_odds : Spc := fun as N lg it rf K => match as with | [.ref 0, .int a, .int b] => (N = NT ∧ lg = LG0 ∧ it = IT0 ∧ rf = RF0) ∧ ∀ lg' it', Up lg' it' → K (some (.long (an_odds a b))) lg' it' RF0 | _ => False
def T_X8_odds : Tab := (FL_X8, CL_X8, JL_X8, [(185, 1, 1, 0, 0, sp_X8_isPart), (146, 0, 2, 3, 0, sp_X3_become), (129, 0, 3, 0, 0, sp_X0_work), (245, 0, 3, 1, 0, sp_X1_becomeRatio), (194, 0, 2, 1, 0, sp_X1_half)], 99, (some .long))
def rm_X8_odds : Room := { frames := 3, cells := 0, slots := 0, locals := 69 }
set_option maxHeartbeats 16000000 in
set_option maxRecDepth 100000 in
theorem bd_X8_odds (as : List Value) (N : Nat) (lg : LGt) (it : ITt) (rf : RFt) (Q : Post) (h : sp_X8_odds as N lg it rf Q) : Bd T_X8_odds cX8_odds 5 0 as N lg it rf Q := by
  unfold sp_X8_odds at h
  split at h
  · rename_i a b
    refine ⟨Nat.le_of_ble_eq_true rfl, fun P hs hw => ?_⟩
    obtain ⟨⟨rfl, rfl, rfl, rfl⟩, hk⟩ := h
    have lz : ∀ (hq : ∀ (lg' : LGt) (it' : ITt), Up lg' it' → Q (some (.long (if b = 0 then 1 else 1))) lg' it' RF0) (k i : Nat) (lg1 : LGt) (it1 : ITt), i + k = 5 → Up lg1 it1 → it1 2 0 = 0 → it1 55 3 = 0 → it1 58 0 = 0 → (it1 55 5 = 0 → it1 55 4 = (if (0 : Int32).toInt = 0 then 1 else 0)) → P 26 [.ref 0, .int 0, .int b, .int (nI i), .int (nI i)] [] NT lg1 it1 RF0 := by
      intro hq k
      induction k with
      | zero =>
        intro i lg1 it1 hi hU h20 h3s h58 he
        have hi : i = 5 := by omega
        subst hi
        refine hs dX8_odds_26 (hs dX8_odds_28 (hs dX8_odds_29 (And.intro (fun c29 => ?_) (fun c29 => absurd (by decide) c29))))
        refine hs dX8_odds_87 (hs dX8_odds_88 (And.intro (ob_0) (gr (r_0_7) (hs dX8_odds_91 (hs dX8_odds_92 (hs dX8_odds_93 (hs dX8_odds_96 (And.intro (ob_486) (And.intro (ob_486) (n0 ?_ ))))))))))
        rw [st55]
        rotate_left
        · decide
        · decide
        refine hs dX8_odds_99 (hs dX8_odds_100 (And.intro (ob_0) (gr (r_0_7) (hs dX8_odds_103 (hs dX8_odds_104 (And.intro (ob_486) (And.intro (ob_486) (n0 (gxl (v := (if b = 0 then 1 else 1)) (hlf_v (by simp [u2, sL, sI, mx, zr, kb_20, ki_0, ki_4]) (by simp [u2, sL, sI, mx, zr, kb_20, ki_0, ki_4]) (by simp [u2, sL, sI, mx, zr, kb_20, ki_0, ki_4])) ?_ )))))))))
        refine hs dX8_odds_107 (And.intro (rfl) (And.intro rfl ?_))
        exact hq _ _ (by repeat (first | exact Up_0 | assumption | refine Up_k ?_ (by assumption) (by assumption) | refine Up_w ?_ (by assumption) (by assumption) | refine Up_q ?_ (by assumption) | refine Up_p ?_ (by assumption) | refine Up_r ?_ (by assumption) (by omega) | refine Up_u ?_ (by omega) | refine Up_sL ?_ (by omega) | refine Up_sI ?_ (by omega) | refine Up_l ?_ (by omega)))
      | succ k ih =>
        intro i lg1 it1 hi hU h20 h3s h58 he
        refine hs dX8_odds_26 (hs dX8_odds_28 (hs dX8_odds_29 (And.intro (fun c29 => absurd c29 (show ¬ nI 4 < nI i by rw [Int32.lt_iff_toInt_lt, nI_toInt (by omega), nI_toInt (by omega)]; omega)) (fun c29 => (hs dX8_odds_32 (hs dX8_odds_33 (And.intro (ob_0) (gr (r_0_4) (hs dX8_odds_36 (hs dX8_odds_37 (And.intro (ob_0) (gr (r_0_0) (hs dX8_odds_40 (And.intro (ob_1) (gr (r_1_0) (hs dX8_odds_43 (And.intro (ob_450) (And.intro ⟨rfl, rfl, Or.inr (Or.inr (Or.inr (Or.inl ⟨rfl, rfl⟩))), by simp [u2, sL, sI, mx, zr, h20]⟩ (fun it72 hR72 hZ72 => n0 ?_ )))))))))))))))))))
        have f72_it_55_3 : it72 55 3 = 0 := (congrFun (hR72 55 (by decide)) 3).trans (by simp [u2, sL, sI, mx, zr, h3s])
        have f72_it_58_0 : it72 58 0 = 0 := (congrFun (hR72 58 (by decide)) 0).trans (by simp [u2, sL, sI, mx, zr, h58])
        have f72_it_2_0 : it72 2 0 = 0 := (congrFun (hR72 2 (by decide)) 0).trans (by simp [u2, sL, sI, mx, zr, h20])
        have g72 : it72 55 = it1 55 := hR72 55 (by decide)
        refine hs dX8_odds_46 (hs dX8_odds_47 (And.intro (ob_0) (gr (r_0_4) (hs dX8_odds_50 (hs dX8_odds_52 (And.intro (ob_450) (hs dX8_odds_55 (hs dX8_odds_56 (And.intro (ob_0) (gr (r_0_3) (hs dX8_odds_59 (hs dX8_odds_60 (And.intro (ob_0) (gr (r_0_4) (hs dX8_odds_63 (hs dX8_odds_64 (And.intro (ob_55) (And.intro ⟨rfl, rfl, Or.inr rfl, (by decide), by simp [u2, sL, sI, mx, zr, hZ72], by simp [u2, sL, sI, mx, zr, f72_it_55_3], fun q => (congrFun ((u2_row (by decide)).trans g72) 4).trans (he ((congrFun ((u2_row (by decide)).trans g72) 5).symm.trans q)), by simp [u2, sL, sI, mx, zr, f72_it_58_0]⟩ (fun lg73 it73 hL73 hK73 hS73 hE73 hZ73 hB73 => n0 ?_ )))))))))))))))))))
        have f73_it_2_0 : it73 2 0 = 0 := (congrFun (hK73 2 (by decide)) 0).trans (by simp [u2, sL, sI, mx, zr, f72_it_2_0])
        refine hs dX8_odds_67 (hs dX8_odds_68 (And.intro (ob_0) (gr (r_0_3) (hs dX8_odds_71 (And.intro (ob_55) (gx (v := 0) (by simp [u2, sL, sI, mx, zr, hS73]) (hs dX8_odds_74 (hs dX8_odds_75 (And.intro (fun c75 => absurd c75 (by decide)) (fun c75 => (hs dX8_odds_78 (hs dX8_odds_81 (hs dX8_odds_84 ?_)))))))))))))
        have hs2 := ih (i + 1) lg73 it73 (by omega) (by repeat (first | exact Up_0 | assumption | refine Up_k ?_ (by assumption) (by assumption) | refine Up_w ?_ (by assumption) (by assumption) | refine Up_q ?_ (by assumption) | refine Up_p ?_ (by assumption) | refine Up_r ?_ (by assumption) (by omega) | refine Up_u ?_ (by omega) | refine Up_sL ?_ (by omega) | refine Up_sI ?_ (by omega) | refine Up_l ?_ (by omega))) f73_it_2_0 hS73 hZ73 (fun _ => hE73)
        rw [nI_succ] at hs2
        exact hs2
    by_cases hz : a = 0
    · subst hz
      refine hs dX8_odds_0 (hs dX8_odds_1 (And.intro (fun c1 => absurd c1 (by decide)) (fun c1 => (hs dX8_odds_4 (hs dX8_odds_5 (hs dX8_odds_7 (And.intro (fun c7 => absurd c7 (by decide)) (fun c7 => (hs dX8_odds_10 (hs dX8_odds_11 (And.intro (trivial) (n0 (hs dX8_odds_14 (And.intro (fun c14 => ?_) (fun c14 => ?_)))))))))))))))
      · try dsimp only at c14
        try simp only [kb_20, ki_0, ki_4] at c14
        refine hs dX8_odds_21 (hs dX8_odds_22 (hs dX8_odds_23 (hs dX8_odds_24 ?_)))
        try simp only [kb_20, ki_0, ki_4, b2_0, b2_1] at c14
        try simp only [Int32.lt_iff_toInt_lt, Int32.le_iff_toInt_le, ← Int32.toInt_inj, ti_0, ti_4, ti_20] at c14
        have e : an_odds 0 b = (if b = 0 then 1 else 1) := by
          unfold an_odds
          try simp only [ti_0]
          rw [if_pos (by first | omega | (simp <;> omega))]
          by_cases g : b = 0
          · rw [if_pos g, if_pos (by rw [g, ti_0])]
            all_goals first | rfl | rw [if_pos (by omega)] | rw [if_neg (by omega)] | simp
          · rw [if_neg g, if_neg (fun q => g (Int32.toInt_inj.mp (by rw [ti_0]; exact q)))]
        exact lz (fun lg' it' hu => by have z := hk lg' it' hu; rw [e] at z; exact z) 5 0 _ _ rfl Up_0 vit_2_0 vit_55_3 vit_58_0 (fun q => absurd (vit_55_5.symm.trans q) (by decide))
      · try dsimp only at c14
        try simp only [kb_20, ki_0, ki_4] at c14
        refine hs dX8_odds_17 (hs dX8_odds_20 (And.intro (rfl) (And.intro rfl ?_)))
        try simp only [kb_20, ki_0, ki_4, b2_0, b2_1] at c14
        try simp only [Int32.lt_iff_toInt_lt, Int32.le_iff_toInt_le, ← Int32.toInt_inj, ti_0, ti_4, ti_20] at c14
        have e : an_odds 0 b = (-9223372036854775808) := by
          first
          | (exfalso; omega)
          | unfold an_odds
            try simp only [ti_0, ti_1]
            repeat (first | rw [if_pos (by first | omega | (simp; done) | (simp; omega))] | rw [if_neg (by first | omega | (simp; done) | (simp; omega))])
            all_goals rfl
        rw [e] at hk
        exact hk _ _ (by repeat (first | exact Up_0 | assumption | refine Up_k ?_ (by assumption) (by assumption) | refine Up_w ?_ (by assumption) (by assumption) | refine Up_q ?_ (by assumption) | refine Up_p ?_ (by assumption) | refine Up_r ?_ (by assumption) (by omega) | refine Up_u ?_ (by omega) | refine Up_sL ?_ (by omega) | refine Up_sI ?_ (by omega) | refine Up_l ?_ (by omega)))
    · have hzi : ¬ a.toInt = 0 := fun q => hz (Int32.toInt_inj.mp q)
      by_cases hn : 0 ≤ a.toInt ∧ a.toInt ≤ 20
      · skip
        have ln : ∀ (hq : ∀ (lg' : LGt) (it' : ITt), Up lg' it' → Q (some (.long (if b = 0 then 0 else 1))) lg' it' RF0) (k i : Nat) (lg1 : LGt) (it1 : ITt), i + k = 5 → Up lg1 it1 → it1 2 0 = 0 → it1 55 3 = 0 → it1 58 0 = 0 → (it1 55 5 = a → it1 55 4 = (if a.toInt = 0 then 1 else 0)) → P 26 [.ref 0, .int a, .int b, .int 0, .int (nI i)] [] NT lg1 it1 RF0 := by
          intro hq k
          induction k with
          | zero =>
            intro i lg1 it1 hi hU h20 h3s h58 he
            have hi : i = 5 := by omega
            subst hi
            refine hs dX8_odds_26 (hs dX8_odds_28 (hs dX8_odds_29 (And.intro (fun c29 => ?_) (fun c29 => absurd (by decide) c29))))
            refine hs dX8_odds_87 (hs dX8_odds_88 (And.intro (ob_0) (gr (r_0_7) (hs dX8_odds_91 (hs dX8_odds_92 (hs dX8_odds_93 (hs dX8_odds_96 (And.intro (ob_486) (And.intro (ob_486) (n0 ?_ ))))))))))
            rw [st05]
            rotate_left
            · decide
            · decide
            refine hs dX8_odds_99 (hs dX8_odds_100 (And.intro (ob_0) (gr (r_0_7) (hs dX8_odds_103 (hs dX8_odds_104 (And.intro (ob_486) (And.intro (ob_486) (n0 (gxl (v := (if b = 0 then 0 else 1)) (hlf_v (by simp [u2, sL, sI, mx, zr, kb_20, ki_0, ki_4]) (by simp [u2, sL, sI, mx, zr, kb_20, ki_0, ki_4]) (by simp [u2, sL, sI, mx, zr, kb_20, ki_0, ki_4])) ?_ )))))))))
            refine hs dX8_odds_107 (And.intro (rfl) (And.intro rfl ?_))
            exact hq _ _ (by repeat (first | exact Up_0 | assumption | refine Up_k ?_ (by assumption) (by assumption) | refine Up_w ?_ (by assumption) (by assumption) | refine Up_q ?_ (by assumption) | refine Up_p ?_ (by assumption) | refine Up_r ?_ (by assumption) (by omega) | refine Up_u ?_ (by omega) | refine Up_sL ?_ (by omega) | refine Up_sI ?_ (by omega) | refine Up_l ?_ (by omega)))
          | succ k ih =>
            intro i lg1 it1 hi hU h20 h3s h58 he
            refine hs dX8_odds_26 (hs dX8_odds_28 (hs dX8_odds_29 (And.intro (fun c29 => absurd c29 (show ¬ nI 4 < nI i by rw [Int32.lt_iff_toInt_lt, nI_toInt (by omega), nI_toInt (by omega)]; omega)) (fun c29 => (hs dX8_odds_32 (hs dX8_odds_33 (And.intro (ob_0) (gr (r_0_4) (hs dX8_odds_36 (hs dX8_odds_37 (And.intro (ob_0) (gr (r_0_0) (hs dX8_odds_40 (And.intro (ob_1) (gr (r_1_0) (hs dX8_odds_43 (And.intro (ob_450) (And.intro ⟨rfl, rfl, Or.inr (Or.inr (Or.inr (Or.inl ⟨rfl, rfl⟩))), by simp [u2, sL, sI, mx, zr, h20]⟩ (fun it74 hR74 hZ74 => n0 ?_ )))))))))))))))))))
            have f74_it_55_3 : it74 55 3 = 0 := (congrFun (hR74 55 (by decide)) 3).trans (by simp [u2, sL, sI, mx, zr, h3s])
            have f74_it_58_0 : it74 58 0 = 0 := (congrFun (hR74 58 (by decide)) 0).trans (by simp [u2, sL, sI, mx, zr, h58])
            have f74_it_2_0 : it74 2 0 = 0 := (congrFun (hR74 2 (by decide)) 0).trans (by simp [u2, sL, sI, mx, zr, h20])
            have g74 : it74 55 = it1 55 := hR74 55 (by decide)
            refine hs dX8_odds_46 (hs dX8_odds_47 (And.intro (ob_0) (gr (r_0_4) (hs dX8_odds_50 (hs dX8_odds_52 (And.intro (ob_450) (hs dX8_odds_55 (hs dX8_odds_56 (And.intro (ob_0) (gr (r_0_3) (hs dX8_odds_59 (hs dX8_odds_60 (And.intro (ob_0) (gr (r_0_4) (hs dX8_odds_63 (hs dX8_odds_64 (And.intro (ob_55) (And.intro ⟨rfl, rfl, Or.inr rfl, hn, by simp [u2, sL, sI, mx, zr, hZ74], by simp [u2, sL, sI, mx, zr, f74_it_55_3], fun q => (congrFun ((u2_row (by decide)).trans g74) 4).trans (he ((congrFun ((u2_row (by decide)).trans g74) 5).symm.trans q)), by simp [u2, sL, sI, mx, zr, f74_it_58_0]⟩ (fun lg75 it75 hL75 hK75 hS75 hE75 hZ75 hB75 => n0 ?_ )))))))))))))))))))
            have f75_it_2_0 : it75 2 0 = 0 := (congrFun (hK75 2 (by decide)) 0).trans (by simp [u2, sL, sI, mx, zr, f74_it_2_0])
            refine hs dX8_odds_67 (hs dX8_odds_68 (And.intro (ob_0) (gr (r_0_3) (hs dX8_odds_71 (And.intro (ob_55) (gx (v := 0) (by simp [u2, sL, sI, mx, zr, hS75]) (hs dX8_odds_74 (hs dX8_odds_75 (And.intro (fun c75 => ?_) (fun c75 => False.elim (by try simp only [ki_0, Int32.lt_iff_toInt_lt, ti_0] at c75; omega)))))))))))
            refine hs dX8_odds_81 (hs dX8_odds_84 ?_)
            have hs2 := ih (i + 1) lg75 it75 (by omega) (by repeat (first | exact Up_0 | assumption | refine Up_k ?_ (by assumption) (by assumption) | refine Up_w ?_ (by assumption) (by assumption) | refine Up_q ?_ (by assumption) | refine Up_p ?_ (by assumption) | refine Up_r ?_ (by assumption) (by omega) | refine Up_u ?_ (by omega) | refine Up_sL ?_ (by omega) | refine Up_sI ?_ (by omega) | refine Up_l ?_ (by omega))) f75_it_2_0 hS75 hZ75 (fun _ => hE75)
            rw [nI_succ] at hs2
            exact hs2
        refine hs dX8_odds_0 (hs dX8_odds_1 (And.intro (fun c1 => ?_) (fun c1 => ?_)))
        · try dsimp only at c1
          try simp only [kb_20, ki_0, ki_4] at c1
          refine hs dX8_odds_17 (hs dX8_odds_20 (And.intro (rfl) (And.intro rfl ?_)))
          try simp only [kb_20, ki_0, ki_4, b2_0, b2_1] at c1
          try simp only [Int32.lt_iff_toInt_lt, Int32.le_iff_toInt_le, ← Int32.toInt_inj, ti_0, ti_4, ti_20] at c1
          have e : an_odds a b = (-9223372036854775808) := by
            first
            | (exfalso; omega)
            | unfold an_odds
              try simp only [ti_0, ti_1]
              repeat (first | rw [if_pos (by first | omega | (simp; done) | (simp; omega))] | rw [if_neg (by first | omega | (simp; done) | (simp; omega))])
              all_goals rfl
          rw [e] at hk
          exact hk _ _ (by repeat (first | exact Up_0 | assumption | refine Up_k ?_ (by assumption) (by assumption) | refine Up_w ?_ (by assumption) (by assumption) | refine Up_q ?_ (by assumption) | refine Up_p ?_ (by assumption) | refine Up_r ?_ (by assumption) (by omega) | refine Up_u ?_ (by omega) | refine Up_sL ?_ (by omega) | refine Up_sI ?_ (by omega) | refine Up_l ?_ (by omega)))
        · try dsimp only at c1
          try simp only [kb_20, ki_0, ki_4] at c1
          refine hs dX8_odds_4 (hs dX8_odds_5 (hs dX8_odds_7 (And.intro (fun c7 => ?_) (fun c7 => ?_))))
          · try dsimp only at c7
            try simp only [kb_20, ki_0, ki_4] at c7
            refine hs dX8_odds_17 (hs dX8_odds_20 (And.intro (rfl) (And.intro rfl ?_)))
            try simp only [kb_20, ki_0, ki_4, b2_0, b2_1] at c1 c7
            try simp only [Int32.lt_iff_toInt_lt, Int32.le_iff_toInt_le, ← Int32.toInt_inj, ti_0, ti_4, ti_20] at c1 c7
            have e : an_odds a b = (-9223372036854775808) := by
              first
              | (exfalso; omega)
              | unfold an_odds
                try simp only [ti_0, ti_1]
                repeat (first | rw [if_pos (by first | omega | (simp; done) | (simp; omega))] | rw [if_neg (by first | omega | (simp; done) | (simp; omega))])
                all_goals rfl
            rw [e] at hk
            exact hk _ _ (by repeat (first | exact Up_0 | assumption | refine Up_k ?_ (by assumption) (by assumption) | refine Up_w ?_ (by assumption) (by assumption) | refine Up_q ?_ (by assumption) | refine Up_p ?_ (by assumption) | refine Up_r ?_ (by assumption) (by omega) | refine Up_u ?_ (by omega) | refine Up_sL ?_ (by omega) | refine Up_sI ?_ (by omega) | refine Up_l ?_ (by omega)))
          · try dsimp only at c7
            try simp only [kb_20, ki_0, ki_4] at c7
            refine hs dX8_odds_10 (hs dX8_odds_11 (And.intro (trivial) (n0 (hs dX8_odds_14 (And.intro (fun c14 => ?_) (fun c14 => ?_))))))
            · try dsimp only at c14
              try simp only [kb_20, ki_0, ki_4] at c14
              refine hs dX8_odds_21 (hs dX8_odds_22 (hs dX8_odds_23 (hs dX8_odds_24 ?_)))
              try simp only [kb_20, ki_0, ki_4, b2_0, b2_1] at c1 c7 c14
              try simp only [Int32.lt_iff_toInt_lt, Int32.le_iff_toInt_le, ← Int32.toInt_inj, ti_0, ti_4, ti_20] at c1 c7 c14
              have e : an_odds a b = (if b = 0 then 0 else 1) := by
                unfold an_odds
                try simp only [ti_0]
                rw [if_pos (by first | omega | (simp <;> omega))]
                by_cases g : b = 0
                · rw [if_pos g, if_pos (by rw [g, ti_0])]
                  all_goals first | rfl | rw [if_pos (by omega)] | rw [if_neg (by omega)] | simp
                · rw [if_neg g, if_neg (fun q => g (Int32.toInt_inj.mp (by rw [ti_0]; exact q)))]
              exact ln (fun lg' it' hu => by have z := hk lg' it' hu; rw [e] at z; exact z) 5 0 _ _ rfl Up_0 vit_2_0 vit_55_3 vit_58_0 (fun q => absurd (vit_55_5.symm.trans q) (fun z => by have z2 := congrArg Int32.toInt z; simp only [ti_m1] at z2; omega))
            · try dsimp only at c14
              try simp only [kb_20, ki_0, ki_4] at c14
              refine hs dX8_odds_17 (hs dX8_odds_20 (And.intro (rfl) (And.intro rfl ?_)))
              try simp only [kb_20, ki_0, ki_4, b2_0, b2_1] at c1 c7 c14
              try simp only [Int32.lt_iff_toInt_lt, Int32.le_iff_toInt_le, ← Int32.toInt_inj, ti_0, ti_4, ti_20] at c1 c7 c14
              have e : an_odds a b = (-9223372036854775808) := by
                first
                | (exfalso; omega)
                | unfold an_odds
                  try simp only [ti_0, ti_1]
                  repeat (first | rw [if_pos (by first | omega | (simp; done) | (simp; omega))] | rw [if_neg (by first | omega | (simp; done) | (simp; omega))])
                  all_goals rfl
              rw [e] at hk
              exact hk _ _ (by repeat (first | exact Up_0 | assumption | refine Up_k ?_ (by assumption) (by assumption) | refine Up_w ?_ (by assumption) (by assumption) | refine Up_q ?_ (by assumption) | refine Up_p ?_ (by assumption) | refine Up_r ?_ (by assumption) (by omega) | refine Up_u ?_ (by omega) | refine Up_sL ?_ (by omega) | refine Up_sI ?_ (by omega) | refine Up_l ?_ (by omega)))
      · skip
        refine hs dX8_odds_0 (hs dX8_odds_1 (And.intro (fun c1 => ?_) (fun c1 => ?_)))
        · try dsimp only at c1
          try simp only [kb_20, ki_0, ki_4] at c1
          refine hs dX8_odds_17 (hs dX8_odds_20 (And.intro (rfl) (And.intro rfl ?_)))
          try simp only [kb_20, ki_0, ki_4, b2_0, b2_1] at c1
          try simp only [Int32.lt_iff_toInt_lt, Int32.le_iff_toInt_le, ← Int32.toInt_inj, ti_0, ti_4, ti_20] at c1
          have e : an_odds a b = (-9223372036854775808) := by
            first
            | (exfalso; omega)
            | unfold an_odds
              try simp only [ti_0, ti_1]
              repeat (first | rw [if_pos (by first | omega | (simp; done) | (simp; omega))] | rw [if_neg (by first | omega | (simp; done) | (simp; omega))])
              all_goals rfl
          rw [e] at hk
          exact hk _ _ (by repeat (first | exact Up_0 | assumption | refine Up_k ?_ (by assumption) (by assumption) | refine Up_w ?_ (by assumption) (by assumption) | refine Up_q ?_ (by assumption) | refine Up_p ?_ (by assumption) | refine Up_r ?_ (by assumption) (by omega) | refine Up_u ?_ (by omega) | refine Up_sL ?_ (by omega) | refine Up_sI ?_ (by omega) | refine Up_l ?_ (by omega)))
        · try dsimp only at c1
          try simp only [kb_20, ki_0, ki_4] at c1
          refine hs dX8_odds_4 (hs dX8_odds_5 (hs dX8_odds_7 (And.intro (fun c7 => ?_) (fun c7 => ?_))))
          · try dsimp only at c7
            try simp only [kb_20, ki_0, ki_4] at c7
            refine hs dX8_odds_17 (hs dX8_odds_20 (And.intro (rfl) (And.intro rfl ?_)))
            try simp only [kb_20, ki_0, ki_4, b2_0, b2_1] at c1 c7
            try simp only [Int32.lt_iff_toInt_lt, Int32.le_iff_toInt_le, ← Int32.toInt_inj, ti_0, ti_4, ti_20] at c1 c7
            have e : an_odds a b = (-9223372036854775808) := by
              first
              | (exfalso; omega)
              | unfold an_odds
                try simp only [ti_0, ti_1]
                repeat (first | rw [if_pos (by first | omega | (simp; done) | (simp; omega))] | rw [if_neg (by first | omega | (simp; done) | (simp; omega))])
                all_goals rfl
            rw [e] at hk
            exact hk _ _ (by repeat (first | exact Up_0 | assumption | refine Up_k ?_ (by assumption) (by assumption) | refine Up_w ?_ (by assumption) (by assumption) | refine Up_q ?_ (by assumption) | refine Up_p ?_ (by assumption) | refine Up_r ?_ (by assumption) (by omega) | refine Up_u ?_ (by omega) | refine Up_sL ?_ (by omega) | refine Up_sI ?_ (by omega) | refine Up_l ?_ (by omega)))
          · try dsimp only at c7
            try simp only [kb_20, ki_0, ki_4] at c7
            refine hs dX8_odds_10 (hs dX8_odds_11 (And.intro (trivial) (n0 (hs dX8_odds_14 (And.intro (fun c14 => ?_) (fun c14 => ?_))))))
            · try dsimp only at c14
              try simp only [kb_20, ki_0, ki_4] at c14
              refine hs dX8_odds_21 (hs dX8_odds_22 (hs dX8_odds_23 (hs dX8_odds_24 ?_)))
              try simp only [kb_20, ki_0, ki_4, b2_0, b2_1] at c1 c7 c14
              try simp only [Int32.lt_iff_toInt_lt, Int32.le_iff_toInt_le, ← Int32.toInt_inj, ti_0, ti_4, ti_20] at c1 c7 c14
              exfalso
              omega
            · try dsimp only at c14
              try simp only [kb_20, ki_0, ki_4] at c14
              refine hs dX8_odds_17 (hs dX8_odds_20 (And.intro (rfl) (And.intro rfl ?_)))
              try simp only [kb_20, ki_0, ki_4, b2_0, b2_1] at c1 c7 c14
              try simp only [Int32.lt_iff_toInt_lt, Int32.le_iff_toInt_le, ← Int32.toInt_inj, ti_0, ti_4, ti_20] at c1 c7 c14
              have e : an_odds a b = (-9223372036854775808) := by
                first
                | (exfalso; omega)
                | unfold an_odds
                  try simp only [ti_0, ti_1]
                  repeat (first | rw [if_pos (by first | omega | (simp; done) | (simp; omega))] | rw [if_neg (by first | omega | (simp; done) | (simp; omega))])
                  all_goals rfl
              rw [e] at hk
              exact hk _ _ (by repeat (first | exact Up_0 | assumption | refine Up_k ?_ (by assumption) (by assumption) | refine Up_w ?_ (by assumption) (by assumption) | refine Up_q ?_ (by assumption) | refine Up_p ?_ (by assumption) | refine Up_r ?_ (by assumption) (by omega) | refine Up_u ?_ (by omega) | refine Up_sL ?_ (by omega) | refine Up_sI ?_ (by omega) | refine Up_l ?_ (by omega)))
  · exact h.elim
theorem ct_X8_odds {E : Ev} {l : Launch} : CT E l yX8_odds (wsY yX8_odds cX8_odds 5 (some .long)) rm_X8_odds 0 sp_X8_odds := ct_of (T := T_X8_odds) (own := RX8) (by decide) rfl (fun ci h10 hc => by have h2 : (99 : Nat) = ci := Nat.eq_of_beq_eq_true hc; omega) ⟨rfl, rfl⟩ ⟨fok_X8, clok_X8, jok_X8, List.forall_mem_cons.mpr ⟨cok_S ct_X8_isPart ((cl_ins (c := 8) (by decide)).2) ml_X8_185 im_X8_isPart co_X8_isPart mo_X8_isPart (by decide), List.forall_mem_cons.mpr ⟨cok_V ct_X3_become (by decide) rfl ml_X8_146 im_X3_become se_X3_become co_X3_become mo_X3_become (by decide), List.forall_mem_cons.mpr ⟨cok_V ct_X0_work (by decide) rfl ml_X8_129 im_X0_work se_X0_work co_X0_work mo_X0_work (by decide), List.forall_mem_cons.mpr ⟨cok_V ct_X1_becomeRatio (by decide) rfl ml_X8_245 im_X1_becomeRatio se_X1_becomeRatio co_X1_becomeRatio mo_X1_becomeRatio (by decide), List.forall_mem_cons.mpr ⟨cok_V ct_X1_half (by decide) rfl ml_X8_194 im_X1_half se_X1_half co_X1_half mo_X1_half (by decide), fun _ h => absurd h List.not_mem_nil⟩⟩⟩⟩⟩⟩ bd_X8_odds
