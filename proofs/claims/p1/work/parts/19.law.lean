/-! p1: the walk of the law -/
def T_L_law : Tab := (FL_L, CL_L, JL_L, [(9, 2, 1, 0, 488, sp_X8_init), (12, 2, 1, 0, 33, sp_X9_init), (13, 0, 4, 8, 0, sp_X8_bumper), (17, 0, 4, 9, 0, sp_X9_bumper), (18, 0, 4, 8, 0, sp_X8_renew), (21, 0, 4, 9, 0, sp_X9_renew), (22, 0, 2, 8, 0, sp_X8_spring), (26, 0, 2, 9, 0, sp_X9_spring), (27, 0, 3, 8, 0, sp_X8_wall), (31, 0, 3, 9, 0, sp_X9_wall), (32, 0, 2, 8, 0, sp_X8_go), (35, 0, 2, 9, 0, sp_X9_go), (36, 0, 2, 8, 0, sp_X8_feed), (39, 0, 2, 9, 0, sp_X9_feed), (40, 0, 1, 8, 0, sp_X8_read), (44, 0, 1, 9, 0, sp_X9_read), (45, 0, 4, 8, 0, sp_X8_of), (49, 0, 4, 9, 0, sp_X9_of), (50, 0, 2, 8, 0, sp_X8_told), (53, 0, 2, 9, 0, sp_X9_told), (54, 0, 3, 8, 0, sp_X8_push), (58, 0, 3, 9, 0, sp_X9_push), (59, 0, 2, 8, 0, sp_X8_where), (62, 0, 2, 9, 0, sp_X9_where), (63, 0, 3, 8, 0, sp_X8_time), (66, 0, 3, 9, 0, sp_X9_time), (67, 0, 5, 8, 0, sp_X8_behind), (71, 0, 5, 9, 0, sp_X9_behind), (72, 0, 3, 8, 0, sp_X8_then), (75, 0, 3, 9, 0, sp_X9_then), (76, 0, 2, 8, 0, sp_X8_often), (79, 0, 2, 9, 0, sp_X9_often), (80, 0, 4, 8, 0, sp_X8_at), (83, 0, 4, 9, 0, sp_X9_at), (84, 0, 3, 8, 0, sp_X8_see), (87, 0, 3, 9, 0, sp_X9_see), (88, 0, 3, 8, 0, sp_X8_fits), (91, 0, 3, 9, 0, sp_X9_fits), (92, 0, 3, 8, 0, sp_X8_odds), (95, 0, 3, 9, 0, sp_X9_odds), (96, 0, 2, 8, 0, sp_X8_mean), (100, 0, 2, 9, 0, sp_X9_mean), (101, 0, 3, 8, 0, sp_X8_event), (104, 0, 3, 9, 0, sp_X9_event), (105, 0, 2, 8, 0, sp_X8_after), (108, 0, 2, 9, 0, sp_X9_after), (109, 0, 3, 8, 0, sp_X8_book), (112, 0, 3, 9, 0, sp_X9_book), (113, 0, 1, 8, 0, sp_X8_looked), (116, 0, 1, 9, 0, sp_X9_looked), (117, 0, 3, 8, 0, sp_X8_judge), (120, 0, 3, 9, 0, sp_X9_judge), (121, 0, 1, 8, 0, sp_X8_image), (124, 0, 1, 9, 0, sp_X9_image), (125, 0, 1, 8, 0, sp_X8_undo), (128, 0, 1, 9, 0, sp_X9_undo), (129, 0, 2, 8, 0, sp_X8_count), (132, 0, 2, 9, 0, sp_X9_count), (133, 0, 4, 8, 0, sp_X8_tape), (136, 0, 4, 9, 0, sp_X9_tape), (139, 0, 4, 8, 0, sp_X8_item), (143, 0, 4, 9, 0, sp_X9_item), (144, 0, 3, 8, 0, sp_X8_peek), (147, 0, 3, 9, 0, sp_X9_peek), (148, 0, 6, 8, 0, sp_X8_shift), (152, 0, 6, 9, 0, sp_X9_shift)], 99, (some .boolean))
set_option maxRecDepth 100000 in
theorem tok_law {E : Ev} {l : Launch} : TOK E l room_1 RL T_L_law := ⟨fok_L, clok_L, jok_L, List.forall_mem_cons.mpr ⟨cok_I ct_X8_init sh_X8_init rfl ((cl_ins (c := 8) (by decide)).2) ml_L_9 im_X8_init co_X8_init mo_X8_init (by decide), List.forall_mem_cons.mpr ⟨cok_I ct_X9_init sh_X9_init rfl ((cl_ins (c := 9) (by decide)).2) ml_L_12 im_X9_init co_X9_init mo_X9_init (by decide), List.forall_mem_cons.mpr ⟨cok_V ct_X8_bumper (by decide) rfl ml_L_13 im_X8_bumper se_X8_bumper co_X8_bumper mo_X8_bumper (by decide), List.forall_mem_cons.mpr ⟨cok_V ct_X9_bumper (by decide) rfl ml_L_17 im_X9_bumper se_X9_bumper co_X9_bumper mo_X9_bumper (by decide), List.forall_mem_cons.mpr ⟨cok_V ct_X8_renew (by decide) rfl ml_L_18 im_X8_renew se_X8_renew co_X8_renew mo_X8_renew (by decide), List.forall_mem_cons.mpr ⟨cok_V ct_X9_renew (by decide) rfl ml_L_21 im_X9_renew se_X9_renew co_X9_renew mo_X9_renew (by decide), List.forall_mem_cons.mpr ⟨cok_V ct_X8_spring (by decide) rfl ml_L_22 im_X8_spring se_X8_spring co_X8_spring mo_X8_spring (by decide), List.forall_mem_cons.mpr ⟨cok_V ct_X9_spring (by decide) rfl ml_L_26 im_X9_spring se_X9_spring co_X9_spring mo_X9_spring (by decide), List.forall_mem_cons.mpr ⟨cok_V ct_X8_wall (by decide) rfl ml_L_27 im_X8_wall se_X8_wall co_X8_wall mo_X8_wall (by decide), List.forall_mem_cons.mpr ⟨cok_V ct_X9_wall (by decide) rfl ml_L_31 im_X9_wall se_X9_wall co_X9_wall mo_X9_wall (by decide), List.forall_mem_cons.mpr ⟨cok_V ct_X8_go (by decide) rfl ml_L_32 im_X8_go se_X8_go co_X8_go mo_X8_go (by decide), List.forall_mem_cons.mpr ⟨cok_V ct_X9_go (by decide) rfl ml_L_35 im_X9_go se_X9_go co_X9_go mo_X9_go (by decide), List.forall_mem_cons.mpr ⟨cok_V ct_X8_feed (by decide) rfl ml_L_36 im_X8_feed se_X8_feed co_X8_feed mo_X8_feed (by decide), List.forall_mem_cons.mpr ⟨cok_V ct_X9_feed (by decide) rfl ml_L_39 im_X9_feed se_X9_feed co_X9_feed mo_X9_feed (by decide), List.forall_mem_cons.mpr ⟨cok_V ct_X8_read (by decide) rfl ml_L_40 im_X8_read se_X8_read co_X8_read mo_X8_read (by decide), List.forall_mem_cons.mpr ⟨cok_V ct_X9_read (by decide) rfl ml_L_44 im_X9_read se_X9_read co_X9_read mo_X9_read (by decide), List.forall_mem_cons.mpr ⟨cok_V ct_X8_of (by decide) rfl ml_L_45 im_X8_of se_X8_of co_X8_of mo_X8_of (by decide), List.forall_mem_cons.mpr ⟨cok_V ct_X9_of (by decide) rfl ml_L_49 im_X9_of se_X9_of co_X9_of mo_X9_of (by decide), List.forall_mem_cons.mpr ⟨cok_V ct_X8_told (by decide) rfl ml_L_50 im_X8_told se_X8_told co_X8_told mo_X8_told (by decide), List.forall_mem_cons.mpr ⟨cok_V ct_X9_told (by decide) rfl ml_L_53 im_X9_told se_X9_told co_X9_told mo_X9_told (by decide), List.forall_mem_cons.mpr ⟨cok_V ct_X8_push (by decide) rfl ml_L_54 im_X8_push se_X8_push co_X8_push mo_X8_push (by decide), List.forall_mem_cons.mpr ⟨cok_V ct_X9_push (by decide) rfl ml_L_58 im_X9_push se_X9_push co_X9_push mo_X9_push (by decide), List.forall_mem_cons.mpr ⟨cok_V ct_X8_where (by decide) rfl ml_L_59 im_X8_where se_X8_where co_X8_where mo_X8_where (by decide), List.forall_mem_cons.mpr ⟨cok_V ct_X9_where (by decide) rfl ml_L_62 im_X9_where se_X9_where co_X9_where mo_X9_where (by decide), List.forall_mem_cons.mpr ⟨cok_V ct_X8_time (by decide) rfl ml_L_63 im_X8_time se_X8_time co_X8_time mo_X8_time (by decide), List.forall_mem_cons.mpr ⟨cok_V ct_X9_time (by decide) rfl ml_L_66 im_X9_time se_X9_time co_X9_time mo_X9_time (by decide), List.forall_mem_cons.mpr ⟨cok_V ct_X8_behind (by decide) rfl ml_L_67 im_X8_behind se_X8_behind co_X8_behind mo_X8_behind (by decide), List.forall_mem_cons.mpr ⟨cok_V ct_X9_behind (by decide) rfl ml_L_71 im_X9_behind se_X9_behind co_X9_behind mo_X9_behind (by decide), List.forall_mem_cons.mpr ⟨cok_V ct_X8_then (by decide) rfl ml_L_72 im_X8_then se_X8_then co_X8_then mo_X8_then (by decide), List.forall_mem_cons.mpr ⟨cok_V ct_X9_then (by decide) rfl ml_L_75 im_X9_then se_X9_then co_X9_then mo_X9_then (by decide), List.forall_mem_cons.mpr ⟨cok_V ct_X8_often (by decide) rfl ml_L_76 im_X8_often se_X8_often co_X8_often mo_X8_often (by decide), List.forall_mem_cons.mpr ⟨cok_V ct_X9_often (by decide) rfl ml_L_79 im_X9_often se_X9_often co_X9_often mo_X9_often (by decide), List.forall_mem_cons.mpr ⟨cok_V ct_X8_at (by decide) rfl ml_L_80 im_X8_at se_X8_at co_X8_at mo_X8_at (by decide), List.forall_mem_cons.mpr ⟨cok_V ct_X9_at (by decide) rfl ml_L_83 im_X9_at se_X9_at co_X9_at mo_X9_at (by decide), List.forall_mem_cons.mpr ⟨cok_V ct_X8_see (by decide) rfl ml_L_84 im_X8_see se_X8_see co_X8_see mo_X8_see (by decide), List.forall_mem_cons.mpr ⟨cok_V ct_X9_see (by decide) rfl ml_L_87 im_X9_see se_X9_see co_X9_see mo_X9_see (by decide), List.forall_mem_cons.mpr ⟨cok_V ct_X8_fits (by decide) rfl ml_L_88 im_X8_fits se_X8_fits co_X8_fits mo_X8_fits (by decide), List.forall_mem_cons.mpr ⟨cok_V ct_X9_fits (by decide) rfl ml_L_91 im_X9_fits se_X9_fits co_X9_fits mo_X9_fits (by decide), List.forall_mem_cons.mpr ⟨cok_V ct_X8_odds (by decide) rfl ml_L_92 im_X8_odds se_X8_odds co_X8_odds mo_X8_odds (by decide), List.forall_mem_cons.mpr ⟨cok_V ct_X9_odds (by decide) rfl ml_L_95 im_X9_odds se_X9_odds co_X9_odds mo_X9_odds (by decide), List.forall_mem_cons.mpr ⟨cok_V ct_X8_mean (by decide) rfl ml_L_96 im_X8_mean se_X8_mean co_X8_mean mo_X8_mean (by decide), List.forall_mem_cons.mpr ⟨cok_V ct_X9_mean (by decide) rfl ml_L_100 im_X9_mean se_X9_mean co_X9_mean mo_X9_mean (by decide), List.forall_mem_cons.mpr ⟨cok_V ct_X8_event (by decide) rfl ml_L_101 im_X8_event se_X8_event co_X8_event mo_X8_event (by decide), List.forall_mem_cons.mpr ⟨cok_V ct_X9_event (by decide) rfl ml_L_104 im_X9_event se_X9_event co_X9_event mo_X9_event (by decide), List.forall_mem_cons.mpr ⟨cok_V ct_X8_after (by decide) rfl ml_L_105 im_X8_after se_X8_after co_X8_after mo_X8_after (by decide), List.forall_mem_cons.mpr ⟨cok_V ct_X9_after (by decide) rfl ml_L_108 im_X9_after se_X9_after co_X9_after mo_X9_after (by decide), List.forall_mem_cons.mpr ⟨cok_V ct_X8_book (by decide) rfl ml_L_109 im_X8_book se_X8_book co_X8_book mo_X8_book (by decide), List.forall_mem_cons.mpr ⟨cok_V ct_X9_book (by decide) rfl ml_L_112 im_X9_book se_X9_book co_X9_book mo_X9_book (by decide), List.forall_mem_cons.mpr ⟨cok_V ct_X8_looked (by decide) rfl ml_L_113 im_X8_looked se_X8_looked co_X8_looked mo_X8_looked (by decide), List.forall_mem_cons.mpr ⟨cok_V ct_X9_looked (by decide) rfl ml_L_116 im_X9_looked se_X9_looked co_X9_looked mo_X9_looked (by decide), List.forall_mem_cons.mpr ⟨cok_V ct_X8_judge (by decide) rfl ml_L_117 im_X8_judge se_X8_judge co_X8_judge mo_X8_judge (by decide), List.forall_mem_cons.mpr ⟨cok_V ct_X9_judge (by decide) rfl ml_L_120 im_X9_judge se_X9_judge co_X9_judge mo_X9_judge (by decide), List.forall_mem_cons.mpr ⟨cok_V ct_X8_image (by decide) rfl ml_L_121 im_X8_image se_X8_image co_X8_image mo_X8_image (by decide), List.forall_mem_cons.mpr ⟨cok_V ct_X9_image (by decide) rfl ml_L_124 im_X9_image se_X9_image co_X9_image mo_X9_image (by decide), List.forall_mem_cons.mpr ⟨cok_V ct_X8_undo (by decide) rfl ml_L_125 im_X8_undo se_X8_undo co_X8_undo mo_X8_undo (by decide), List.forall_mem_cons.mpr ⟨cok_V ct_X9_undo (by decide) rfl ml_L_128 im_X9_undo se_X9_undo co_X9_undo mo_X9_undo (by decide), List.forall_mem_cons.mpr ⟨cok_V ct_X8_count (by decide) rfl ml_L_129 im_X8_count se_X8_count co_X8_count mo_X8_count (by decide), List.forall_mem_cons.mpr ⟨cok_V ct_X9_count (by decide) rfl ml_L_132 im_X9_count se_X9_count co_X9_count mo_X9_count (by decide), List.forall_mem_cons.mpr ⟨cok_V ct_X8_tape (by decide) rfl ml_L_133 im_X8_tape se_X8_tape co_X8_tape mo_X8_tape (by decide), List.forall_mem_cons.mpr ⟨cok_V ct_X9_tape (by decide) rfl ml_L_136 im_X9_tape se_X9_tape co_X9_tape mo_X9_tape (by decide), List.forall_mem_cons.mpr ⟨cok_V ct_X8_item (by decide) rfl ml_L_139 im_X8_item se_X8_item co_X8_item mo_X8_item (by decide), List.forall_mem_cons.mpr ⟨cok_V ct_X9_item (by decide) rfl ml_L_143 im_X9_item se_X9_item co_X9_item mo_X9_item (by decide), List.forall_mem_cons.mpr ⟨cok_V ct_X8_peek (by decide) rfl ml_L_144 im_X8_peek se_X8_peek co_X8_peek mo_X8_peek (by decide), List.forall_mem_cons.mpr ⟨cok_V ct_X9_peek (by decide) rfl ml_L_147 im_X9_peek se_X9_peek co_X9_peek mo_X9_peek (by decide), List.forall_mem_cons.mpr ⟨cok_V ct_X8_shift (by decide) rfl ml_L_148 im_X8_shift se_X8_shift co_X8_shift mo_X8_shift (by decide), List.forall_mem_cons.mpr ⟨cok_V ct_X9_shift (by decide) rfl ml_L_152 im_X9_shift se_X9_shift co_X9_shift mo_X9_shift (by decide), fun _ h => absurd h List.not_mem_nil⟩⟩⟩⟩⟩⟩⟩⟩⟩⟩⟩⟩⟩⟩⟩⟩⟩⟩⟩⟩⟩⟩⟩⟩⟩⟩⟩⟩⟩⟩⟩⟩⟩⟩⟩⟩⟩⟩⟩⟩⟩⟩⟩⟩⟩⟩⟩⟩⟩⟩⟩⟩⟩⟩⟩⟩⟩⟩⟩⟩⟩⟩⟩⟩⟩⟩⟩
set_option maxHeartbeats 64000000 in
set_option maxRecDepth 100000 in
theorem walk_law (P : PT) (Q : Post) (L : Nat) (xs : Nat → Int32) (hL : L ≤ 6) (hs : Rl T_L_law cL_law 523 Q P) (hw : RlS T_L_law cL_law 523 Q P) (hlen : ∀ {pc : Nat} {ls st : List Value} {N : Nat} {lg : LGt} {it : ITt} {rf : RFt}, decode cL_law pc = .ok (.arraylength, 1) → P (pc + 1) ls (.int (Int32.ofNat L) :: st) N lg it rf → P pc ls (.retAddr 1 :: st) N lg it rf) (hld : ∀ {pc : Nat} {ls st : List Value} {N : Nat} {lg : LGt} {it : ITt} {rf : RFt} {i : Int32}, decode cL_law pc = .ok (.iaload, 1) → vp_in i L → P (pc + 1) ls (.int (xs i.toNatClampNeg) :: st) N lg it rf → P pc ls (.int i :: .retAddr 1 :: st) N lg it rf) (hmem : ∀ {pc : Nat} {ls st : List Value} {N : Nat} {lg : LGt} {it : ITt} {rf : RFt} {lg2 : LGt} {it2 : ITt} {rf2 : RFt}, (∀ j, j < N → lg2 j = lg j ∧ it2 j = it j ∧ rf2 j = rf j) → P pc ls st N lg2 it2 rf2 → P pc ls st N lg it rf) (hq : ∀ lg it rf, Q (some (.int 1)) lg it rf) (lg : LGt) (it : ITt) (rf : RFt) : P 0 [.retAddr 1, uu, uu, uu] [] 0 lg it rf := by
  refine hs dL_law_0 (And.intro (⟨by decide, by decide +kernel⟩) (hs dL_law_3 (hs dL_law_4 (And.intro (trivial) (And.intro (show 0 + 1 + 488 ≤ 523 by decide) (And.intro ⟨rfl, Zr_new⟩ (fun lg1 it1 rf1 hF1 hE1 => nM (M := 489) rfl ?_ )))))))
  refine hs dL_law_7 (hs dL_law_8 (And.intro (⟨by decide, by decide +kernel⟩) (hs dL_law_11 (hs dL_law_12 (And.intro (trivial) (And.intro (show 489 + 1 + 33 ≤ 523 by decide) (And.intro ⟨rfl, Zr_new⟩ (fun lg2 it2 rf2 hF2 hE2 => nM (M := 523) rfl ?_ ))))))))
  refine hs dL_law_15 (hs dL_law_16 (hs dL_law_17 ?_))
  refine hmem (lg2 := LG0) (it2 := IT0) (rf2 := RF0) (fun j hj => ?_) ?_
  · by_cases h4 : j < 489
    · obtain ⟨a1, a2, a3⟩ := hE2 j h4
      obtain ⟨b1, b2, b3⟩ := hF1 j (by omega) h4
      exact ⟨(a1.trans ((zr_row (by omega)).trans b1)).symm, (a2.trans ((zr_row (by omega)).trans b2)).symm, (a3.trans ((zr_row (by omega)).trans b3)).symm⟩
    · obtain ⟨b1, b2, b3⟩ := hF2 j (by omega) hj
      exact ⟨b1.symm, b2.symm, b3.symm⟩
  refine hs dL_law_18 (hs dL_law_19 (hlen dL_law_20 (hs dL_law_21 (hs dL_law_23 (hs dL_law_24 (And.intro (fun c24 => ?_) (fun c24 => ?_)))))))
  · try dsimp only at c24
    try simp only [kb_6, kb_31, kb_32, ki_0, ki_1, ki_2, ki_3, ki_4, ki_5] at c24
    refine hs dL_law_1217 (hs dL_law_1218 (And.intro (rfl) (And.intro rfl (And.intro (rfl) ?_))))
    exact hq _ _ _
  · try dsimp only at c24
    try simp only [kb_6, kb_31, kb_32, ki_0, ki_1, ki_2, ki_3, ki_4, ki_5] at c24
    have hL6 : L = 6 := by
      rcases (show L = 0 ∨ L = 1 ∨ L = 2 ∨ L = 3 ∨ L = 4 ∨ L = 5 ∨ L = 6 by omega) with rfl | rfl | rfl | rfl | rfl | rfl | rfl
      all_goals first | rfl | exact absurd (by decide) c24
    subst hL6
    refine hs dL_law_27 (hs dL_law_28 (hld dL_law_29 (vin rfl (by decide)) (hs dL_law_30 (hs dL_law_32 (hw dL_law_33 (And.intro (fun c33 => ?_) (And.intro (fun c33 => ?_) (And.intro (fun c33 => ?_) (And.intro (fun c33 => ?_) (And.intro (fun c33 => ?_) (And.intro (fun c33 => ?_) (And.intro (fun c33 => ?_) (And.intro (fun c33 => ?_) (And.intro (fun c33 => ?_) (And.intro (fun c33 => ?_) (And.intro (fun c33 => ?_) (And.intro (fun c33 => ?_) (And.intro (fun c33 => ?_) (And.intro (fun c33 => ?_) (And.intro (fun c33 => ?_) (And.intro (fun c33 => ?_) (And.intro (fun c33 => ?_) (And.intro (fun c33 => ?_) (And.intro (fun c33 => ?_) (And.intro (fun c33 => ?_) (And.intro (fun c33 => ?_) (And.intro (fun c33 => ?_) (And.intro (fun c33 => ?_) (And.intro (fun c33 => ?_) (And.intro (fun c33 => ?_) (And.intro (fun c33 => ?_) (And.intro (fun c33 => ?_) (And.intro (fun c33 => ?_) (And.intro (fun c33 => ?_) (And.intro (fun c33 => ?_) (And.intro (fun c33 => ?_) (And.intro (fun c33 => ?_) (And.intro (fun c33 => ?_) trivial))))))))))))))))))))))))))))))))))))))
    · try simp only [kb_6, kb_31, kb_32, ki_0, ki_1, ki_2, ki_3, ki_4, ki_5] at c33
      refine hs dL_law_1211 (hs dL_law_1214 (hs dL_law_18 (hs dL_law_19 (hlen dL_law_20 (hs dL_law_21 (hs dL_law_23 (hs dL_law_24 (And.intro (fun c24 => ?_) (fun c24 => absurd (by decide) c24)))))))))
      refine hs dL_law_1217 (hs dL_law_1218 (And.intro (rfl) (And.intro rfl (And.intro (rfl) ?_))))
      exact hq _ _ _
    · try simp only [kb_6, kb_31, kb_32, ki_0, ki_1, ki_2, ki_3, ki_4, ki_5] at c33
      refine hs dL_law_176 (hs dL_law_177 (hs dL_law_178 (hs dL_law_179 (hs dL_law_180 (hld dL_law_181 (vin rfl (by decide)) (hs dL_law_182 (hs dL_law_183 (hs dL_law_184 (hs dL_law_185 (hld dL_law_186 (vin rfl (by decide)) (hs dL_law_187 (hs dL_law_188 (hs dL_law_189 (hs dL_law_190 (hld dL_law_191 (vin rfl (by decide)) (hs dL_law_192 (And.intro (ob_0) (And.intro ⟨rfl, rfl, rfl, rfl⟩ (fun lg3 it3 hu => n0 ?_ )))))))))))))))))))
      refine hs dL_law_195 (hs dL_law_196 (hs dL_law_197 (hs dL_law_198 (hs dL_law_199 (hld dL_law_200 (vin rfl (by decide)) (hs dL_law_201 (hs dL_law_202 (hs dL_law_203 (hs dL_law_204 (hld dL_law_205 (vin rfl (by decide)) (hs dL_law_206 (hs dL_law_207 (hs dL_law_208 (hs dL_law_209 (hld dL_law_210 (vin rfl (by decide)) (hs dL_law_211 (And.intro (ob_489) (And.intro ⟨rfl, rfl, hu⟩ (fun lg4 it4 => n0 ?_ )))))))))))))))))))
      refine hs dL_law_214 (And.intro (fun c214 => ?_) (fun c214 => absurd rfl c214))
      refine hs dL_law_1211 (hs dL_law_1214 (hs dL_law_18 (hs dL_law_19 (hlen dL_law_20 (hs dL_law_21 (hs dL_law_23 (hs dL_law_24 (And.intro (fun c24 => ?_) (fun c24 => absurd (by decide) c24)))))))))
      refine hs dL_law_1217 (hs dL_law_1218 (And.intro (rfl) (And.intro rfl (And.intro (rfl) ?_))))
      exact hq _ _ _
    · try simp only [kb_6, kb_31, kb_32, ki_0, ki_1, ki_2, ki_3, ki_4, ki_5] at c33
      refine hs dL_law_219 (hs dL_law_220 (hs dL_law_221 (hs dL_law_222 (hs dL_law_223 (hld dL_law_224 (vin rfl (by decide)) (hs dL_law_225 (hs dL_law_226 (hs dL_law_227 (hs dL_law_228 (hld dL_law_229 (vin rfl (by decide)) (hs dL_law_230 (hs dL_law_231 (hs dL_law_232 (hs dL_law_233 (hld dL_law_234 (vin rfl (by decide)) (hs dL_law_235 (And.intro (ob_0) (And.intro ⟨rfl, rfl, rfl, rfl⟩ (fun lg3 it3 hu => n0 ?_ )))))))))))))))))))
      refine hs dL_law_238 (hs dL_law_239 (hs dL_law_240 (hs dL_law_241 (hs dL_law_242 (hld dL_law_243 (vin rfl (by decide)) (hs dL_law_244 (hs dL_law_245 (hs dL_law_246 (hs dL_law_247 (hld dL_law_248 (vin rfl (by decide)) (hs dL_law_249 (hs dL_law_250 (hs dL_law_251 (hs dL_law_252 (hld dL_law_253 (vin rfl (by decide)) (hs dL_law_254 (And.intro (ob_489) (And.intro ⟨rfl, rfl, hu⟩ (fun lg4 it4 => n0 ?_ )))))))))))))))))))
      refine hs dL_law_257 (And.intro (fun c257 => ?_) (fun c257 => absurd rfl c257))
      refine hs dL_law_1211 (hs dL_law_1214 (hs dL_law_18 (hs dL_law_19 (hlen dL_law_20 (hs dL_law_21 (hs dL_law_23 (hs dL_law_24 (And.intro (fun c24 => ?_) (fun c24 => absurd (by decide) c24)))))))))
      refine hs dL_law_1217 (hs dL_law_1218 (And.intro (rfl) (And.intro rfl (And.intro (rfl) ?_))))
      exact hq _ _ _
    · try simp only [kb_6, kb_31, kb_32, ki_0, ki_1, ki_2, ki_3, ki_4, ki_5] at c33
      refine hs dL_law_262 (hs dL_law_263 (hs dL_law_264 (hs dL_law_265 (hs dL_law_266 (hld dL_law_267 (vin rfl (by decide)) (hs dL_law_268 (And.intro (ob_0) (And.intro ⟨rfl, rfl, rfl, rfl⟩ (fun lg3 it3 hu => n0 ?_ )))))))))
      refine hs dL_law_271 (hs dL_law_272 (hs dL_law_273 (hs dL_law_274 (hs dL_law_275 (hld dL_law_276 (vin rfl (by decide)) (hs dL_law_277 (And.intro (ob_489) (And.intro ⟨rfl, rfl, hu⟩ (fun lg4 it4 => n0 ?_ )))))))))
      refine hs dL_law_280 (And.intro (fun c280 => ?_) (fun c280 => absurd rfl c280))
      refine hs dL_law_1211 (hs dL_law_1214 (hs dL_law_18 (hs dL_law_19 (hlen dL_law_20 (hs dL_law_21 (hs dL_law_23 (hs dL_law_24 (And.intro (fun c24 => ?_) (fun c24 => absurd (by decide) c24)))))))))
      refine hs dL_law_1217 (hs dL_law_1218 (And.intro (rfl) (And.intro rfl (And.intro (rfl) ?_))))
      exact hq _ _ _
    · try simp only [kb_6, kb_31, kb_32, ki_0, ki_1, ki_2, ki_3, ki_4, ki_5] at c33
      refine hs dL_law_285 (hs dL_law_286 (hs dL_law_287 (hs dL_law_288 (hs dL_law_289 (hld dL_law_290 (vin rfl (by decide)) (hs dL_law_291 (hs dL_law_292 (hs dL_law_293 (hs dL_law_294 (hld dL_law_295 (vin rfl (by decide)) (hs dL_law_296 (And.intro (ob_0) (And.intro ⟨rfl, rfl, rfl, rfl⟩ (fun lg3 it3 hu => n0 ?_ ))))))))))))))
      refine hs dL_law_299 (hs dL_law_300 (hs dL_law_301 (hs dL_law_302 (hs dL_law_303 (hld dL_law_304 (vin rfl (by decide)) (hs dL_law_305 (hs dL_law_306 (hs dL_law_307 (hs dL_law_308 (hld dL_law_309 (vin rfl (by decide)) (hs dL_law_310 (And.intro (ob_489) (And.intro ⟨rfl, rfl, hu⟩ (fun lg4 it4 => n0 ?_ ))))))))))))))
      refine hs dL_law_313 (And.intro (fun c313 => ?_) (fun c313 => absurd rfl c313))
      refine hs dL_law_1211 (hs dL_law_1214 (hs dL_law_18 (hs dL_law_19 (hlen dL_law_20 (hs dL_law_21 (hs dL_law_23 (hs dL_law_24 (And.intro (fun c24 => ?_) (fun c24 => absurd (by decide) c24)))))))))
      refine hs dL_law_1217 (hs dL_law_1218 (And.intro (rfl) (And.intro rfl (And.intro (rfl) ?_))))
      exact hq _ _ _
    · try simp only [kb_6, kb_31, kb_32, ki_0, ki_1, ki_2, ki_3, ki_4, ki_5] at c33
      refine hs dL_law_318 (hs dL_law_319 (hs dL_law_320 (hs dL_law_321 (hs dL_law_322 (hld dL_law_323 (vin rfl (by decide)) (hs dL_law_324 (And.intro (ob_0) (And.intro ⟨rfl, rfl, rfl, rfl⟩ (fun lg3 it3 hu => n0 ?_ )))))))))
      refine hs dL_law_327 (hs dL_law_328 (hs dL_law_329 (hs dL_law_330 (hs dL_law_331 (hld dL_law_332 (vin rfl (by decide)) (hs dL_law_333 (And.intro (ob_489) (And.intro ⟨rfl, rfl, hu⟩ (fun lg4 it4 => n0 ?_ )))))))))
      refine hs dL_law_336 (And.intro (fun c336 => ?_) (fun c336 => absurd rfl c336))
      refine hs dL_law_1211 (hs dL_law_1214 (hs dL_law_18 (hs dL_law_19 (hlen dL_law_20 (hs dL_law_21 (hs dL_law_23 (hs dL_law_24 (And.intro (fun c24 => ?_) (fun c24 => absurd (by decide) c24)))))))))
      refine hs dL_law_1217 (hs dL_law_1218 (And.intro (rfl) (And.intro rfl (And.intro (rfl) ?_))))
      exact hq _ _ _
    · try simp only [kb_6, kb_31, kb_32, ki_0, ki_1, ki_2, ki_3, ki_4, ki_5] at c33
      refine hs dL_law_341 (hs dL_law_342 (hs dL_law_343 (hs dL_law_344 (hs dL_law_345 (hld dL_law_346 (vin rfl (by decide)) (hs dL_law_347 (And.intro (ob_0) (And.intro ⟨rfl, rfl, rfl, rfl⟩ (fun lg3 it3 hu => n0 ?_ )))))))))
      refine hs dL_law_350 (hs dL_law_351 (hs dL_law_352 (hs dL_law_353 (hs dL_law_354 (hld dL_law_355 (vin rfl (by decide)) (hs dL_law_356 (And.intro (ob_489) (And.intro ⟨rfl, rfl, hu⟩ (fun lg4 it4 => n0 ?_ )))))))))
      refine hs dL_law_359 (And.intro (fun c359 => ?_) (fun c359 => absurd rfl c359))
      refine hs dL_law_1211 (hs dL_law_1214 (hs dL_law_18 (hs dL_law_19 (hlen dL_law_20 (hs dL_law_21 (hs dL_law_23 (hs dL_law_24 (And.intro (fun c24 => ?_) (fun c24 => absurd (by decide) c24)))))))))
      refine hs dL_law_1217 (hs dL_law_1218 (And.intro (rfl) (And.intro rfl (And.intro (rfl) ?_))))
      exact hq _ _ _
    · try simp only [kb_6, kb_31, kb_32, ki_0, ki_1, ki_2, ki_3, ki_4, ki_5] at c33
      refine hs dL_law_364 (hs dL_law_365 (And.intro (ob_0) (And.intro ⟨rfl, rfl, rfl, rfl⟩ (fun lg3 it3 hu => n0 ?_ ))))
      refine hs dL_law_368 (hs dL_law_369 (And.intro (ob_489) (And.intro ⟨rfl, rfl, hu⟩ (fun lg4 it4 => n0 ?_ ))))
      refine hs dL_law_372 (And.intro (fun c372 => ?_) (fun c372 => absurd rfl c372))
      refine hs dL_law_1211 (hs dL_law_1214 (hs dL_law_18 (hs dL_law_19 (hlen dL_law_20 (hs dL_law_21 (hs dL_law_23 (hs dL_law_24 (And.intro (fun c24 => ?_) (fun c24 => absurd (by decide) c24)))))))))
      refine hs dL_law_1217 (hs dL_law_1218 (And.intro (rfl) (And.intro rfl (And.intro (rfl) ?_))))
      exact hq _ _ _
    · try simp only [kb_6, kb_31, kb_32, ki_0, ki_1, ki_2, ki_3, ki_4, ki_5] at c33
      refine hs dL_law_377 (hs dL_law_378 (hs dL_law_379 (hs dL_law_380 (hs dL_law_381 (hld dL_law_382 (vin rfl (by decide)) (hs dL_law_383 (hs dL_law_384 (hs dL_law_385 (hs dL_law_386 (hld dL_law_387 (vin rfl (by decide)) (hs dL_law_388 (hs dL_law_389 (hs dL_law_390 (hs dL_law_391 (hld dL_law_392 (vin rfl (by decide)) (hs dL_law_393 (And.intro (ob_0) (And.intro ⟨rfl, rfl, rfl, rfl⟩ (fun lg3 it3 hu => n0 ?_ )))))))))))))))))))
      refine hs dL_law_396 (hs dL_law_397 (hs dL_law_398 (hs dL_law_399 (hs dL_law_400 (hld dL_law_401 (vin rfl (by decide)) (hs dL_law_402 (hs dL_law_403 (hs dL_law_404 (hs dL_law_405 (hld dL_law_406 (vin rfl (by decide)) (hs dL_law_407 (hs dL_law_408 (hs dL_law_409 (hs dL_law_410 (hld dL_law_411 (vin rfl (by decide)) (hs dL_law_412 (And.intro (ob_489) (And.intro ⟨rfl, rfl, hu⟩ (fun lg4 it4 => n0 ?_ )))))))))))))))))))
      refine hs dL_law_415 (hs dL_law_416 (And.intro (fun c416 => ?_) (fun c416 => False.elim (by rw [lg_cmp_eq] at c416; exact c416 rfl))))
      refine hs dL_law_1211 (hs dL_law_1214 (hs dL_law_18 (hs dL_law_19 (hlen dL_law_20 (hs dL_law_21 (hs dL_law_23 (hs dL_law_24 (And.intro (fun c24 => ?_) (fun c24 => absurd (by decide) c24)))))))))
      refine hs dL_law_1217 (hs dL_law_1218 (And.intro (rfl) (And.intro rfl (And.intro (rfl) ?_))))
      exact hq _ _ _
    · try simp only [kb_6, kb_31, kb_32, ki_0, ki_1, ki_2, ki_3, ki_4, ki_5] at c33
      refine hs dL_law_421 (hs dL_law_422 (hs dL_law_423 (hs dL_law_424 (hs dL_law_425 (hld dL_law_426 (vin rfl (by decide)) (hs dL_law_427 (And.intro (ob_0) (And.intro ⟨rfl, rfl, rfl, rfl⟩ (fun lg3 it3 hu => n0 ?_ )))))))))
      refine hs dL_law_430 (hs dL_law_431 (hs dL_law_432 (hs dL_law_433 (hs dL_law_434 (hld dL_law_435 (vin rfl (by decide)) (hs dL_law_436 (And.intro (ob_489) (And.intro ⟨rfl, rfl, hu⟩ (fun lg4 it4 => n0 ?_ )))))))))
      refine hs dL_law_439 (And.intro (fun c439 => ?_) (fun c439 => absurd rfl c439))
      refine hs dL_law_1211 (hs dL_law_1214 (hs dL_law_18 (hs dL_law_19 (hlen dL_law_20 (hs dL_law_21 (hs dL_law_23 (hs dL_law_24 (And.intro (fun c24 => ?_) (fun c24 => absurd (by decide) c24)))))))))
      refine hs dL_law_1217 (hs dL_law_1218 (And.intro (rfl) (And.intro rfl (And.intro (rfl) ?_))))
      exact hq _ _ _
    · try simp only [kb_6, kb_31, kb_32, ki_0, ki_1, ki_2, ki_3, ki_4, ki_5] at c33
      refine hs dL_law_444 (hs dL_law_445 (hs dL_law_446 (hs dL_law_447 (hs dL_law_448 (hld dL_law_449 (vin rfl (by decide)) (hs dL_law_450 (hs dL_law_451 (hs dL_law_452 (hs dL_law_453 (hld dL_law_454 (vin rfl (by decide)) (hs dL_law_455 (And.intro (ob_0) (And.intro ⟨rfl, rfl, rfl, rfl⟩ (fun lg3 it3 hu => n0 ?_ ))))))))))))))
      refine hs dL_law_458 (hs dL_law_459 (hs dL_law_460 (hs dL_law_461 (hs dL_law_462 (hld dL_law_463 (vin rfl (by decide)) (hs dL_law_464 (hs dL_law_465 (hs dL_law_466 (hs dL_law_467 (hld dL_law_468 (vin rfl (by decide)) (hs dL_law_469 (And.intro (ob_489) (And.intro ⟨rfl, rfl, hu⟩ (fun lg4 it4 => n0 ?_ ))))))))))))))
      refine hs dL_law_472 (hs dL_law_473 (And.intro (fun c473 => ?_) (fun c473 => False.elim (by rw [lg_cmp_eq] at c473; exact c473 rfl))))
      refine hs dL_law_1211 (hs dL_law_1214 (hs dL_law_18 (hs dL_law_19 (hlen dL_law_20 (hs dL_law_21 (hs dL_law_23 (hs dL_law_24 (And.intro (fun c24 => ?_) (fun c24 => absurd (by decide) c24)))))))))
      refine hs dL_law_1217 (hs dL_law_1218 (And.intro (rfl) (And.intro rfl (And.intro (rfl) ?_))))
      exact hq _ _ _
    · try simp only [kb_6, kb_31, kb_32, ki_0, ki_1, ki_2, ki_3, ki_4, ki_5] at c33
      refine hs dL_law_478 (hs dL_law_479 (hs dL_law_480 (hs dL_law_481 (hs dL_law_482 (hld dL_law_483 (vin rfl (by decide)) (hs dL_law_484 (And.intro (ob_0) (And.intro ⟨rfl, rfl, rfl, rfl⟩ (fun lg3 it3 hu => n0 ?_ )))))))))
      refine hs dL_law_487 (hs dL_law_488 (hs dL_law_489 (hs dL_law_490 (hs dL_law_491 (hld dL_law_492 (vin rfl (by decide)) (hs dL_law_493 (And.intro (ob_489) (And.intro ⟨rfl, rfl, hu⟩ (fun lg4 it4 => n0 ?_ )))))))))
      refine hs dL_law_496 (And.intro (fun c496 => ?_) (fun c496 => absurd rfl c496))
      refine hs dL_law_1211 (hs dL_law_1214 (hs dL_law_18 (hs dL_law_19 (hlen dL_law_20 (hs dL_law_21 (hs dL_law_23 (hs dL_law_24 (And.intro (fun c24 => ?_) (fun c24 => absurd (by decide) c24)))))))))
      refine hs dL_law_1217 (hs dL_law_1218 (And.intro (rfl) (And.intro rfl (And.intro (rfl) ?_))))
      exact hq _ _ _
    · try simp only [kb_6, kb_31, kb_32, ki_0, ki_1, ki_2, ki_3, ki_4, ki_5] at c33
      refine hs dL_law_501 (hs dL_law_502 (hs dL_law_503 (hs dL_law_504 (hs dL_law_505 (hld dL_law_506 (vin rfl (by decide)) (hs dL_law_507 (hs dL_law_508 (hs dL_law_509 (hs dL_law_510 (hld dL_law_511 (vin rfl (by decide)) (hs dL_law_512 (And.intro (ob_0) (And.intro ⟨rfl, rfl, rfl, rfl⟩ (fun lg3 it3 hu => n0 ?_ ))))))))))))))
      refine hs dL_law_515 (hs dL_law_516 (hs dL_law_517 (hs dL_law_518 (hs dL_law_519 (hld dL_law_520 (vin rfl (by decide)) (hs dL_law_521 (hs dL_law_522 (hs dL_law_523 (hs dL_law_524 (hld dL_law_525 (vin rfl (by decide)) (hs dL_law_526 (And.intro (ob_489) (And.intro ⟨rfl, rfl, hu⟩ (fun lg4 it4 => n0 ?_ ))))))))))))))
      refine hs dL_law_529 (hs dL_law_530 (And.intro (fun c530 => ?_) (fun c530 => False.elim (by rw [lg_cmp_eq] at c530; exact c530 rfl))))
      refine hs dL_law_1211 (hs dL_law_1214 (hs dL_law_18 (hs dL_law_19 (hlen dL_law_20 (hs dL_law_21 (hs dL_law_23 (hs dL_law_24 (And.intro (fun c24 => ?_) (fun c24 => absurd (by decide) c24)))))))))
      refine hs dL_law_1217 (hs dL_law_1218 (And.intro (rfl) (And.intro rfl (And.intro (rfl) ?_))))
      exact hq _ _ _
    · try simp only [kb_6, kb_31, kb_32, ki_0, ki_1, ki_2, ki_3, ki_4, ki_5] at c33
      refine hs dL_law_535 (hs dL_law_536 (hs dL_law_537 (hs dL_law_538 (hs dL_law_539 (hld dL_law_540 (vin rfl (by decide)) (hs dL_law_541 (hs dL_law_542 (hs dL_law_543 (hs dL_law_544 (hld dL_law_545 (vin rfl (by decide)) (hs dL_law_546 (hs dL_law_547 (hs dL_law_548 (hs dL_law_549 (hld dL_law_550 (vin rfl (by decide)) (hs dL_law_551 (hs dL_law_552 (hs dL_law_553 (hs dL_law_554 (hld dL_law_555 (vin rfl (by decide)) (hs dL_law_556 (And.intro (ob_0) (And.intro ⟨rfl, rfl, rfl, rfl⟩ (fun lg3 it3 hu => n0 ?_ ))))))))))))))))))))))))
      refine hs dL_law_559 (hs dL_law_560 (hs dL_law_561 (hs dL_law_562 (hs dL_law_563 (hld dL_law_564 (vin rfl (by decide)) (hs dL_law_565 (hs dL_law_566 (hs dL_law_567 (hs dL_law_568 (hld dL_law_569 (vin rfl (by decide)) (hs dL_law_570 (hs dL_law_571 (hs dL_law_572 (hs dL_law_573 (hld dL_law_574 (vin rfl (by decide)) (hs dL_law_575 (hs dL_law_576 (hs dL_law_577 (hs dL_law_578 (hld dL_law_579 (vin rfl (by decide)) (hs dL_law_580 (And.intro (ob_489) (And.intro ⟨rfl, rfl, hu⟩ (fun lg4 it4 => n0 ?_ ))))))))))))))))))))))))
      refine hs dL_law_583 (hs dL_law_584 (And.intro (fun c584 => ?_) (fun c584 => False.elim (by rw [lg_cmp_eq] at c584; exact c584 rfl))))
      refine hs dL_law_1211 (hs dL_law_1214 (hs dL_law_18 (hs dL_law_19 (hlen dL_law_20 (hs dL_law_21 (hs dL_law_23 (hs dL_law_24 (And.intro (fun c24 => ?_) (fun c24 => absurd (by decide) c24)))))))))
      refine hs dL_law_1217 (hs dL_law_1218 (And.intro (rfl) (And.intro rfl (And.intro (rfl) ?_))))
      exact hq _ _ _
    · try simp only [kb_6, kb_31, kb_32, ki_0, ki_1, ki_2, ki_3, ki_4, ki_5] at c33
      refine hs dL_law_589 (hs dL_law_590 (hs dL_law_591 (hs dL_law_592 (hs dL_law_593 (hld dL_law_594 (vin rfl (by decide)) (hs dL_law_595 (hs dL_law_596 (hs dL_law_597 (hs dL_law_598 (hld dL_law_599 (vin rfl (by decide)) (hs dL_law_600 (And.intro (ob_0) (And.intro ⟨rfl, rfl, rfl, rfl⟩ (fun lg3 it3 hu => n0 ?_ ))))))))))))))
      refine hs dL_law_603 (hs dL_law_604 (hs dL_law_605 (hs dL_law_606 (hs dL_law_607 (hld dL_law_608 (vin rfl (by decide)) (hs dL_law_609 (hs dL_law_610 (hs dL_law_611 (hs dL_law_612 (hld dL_law_613 (vin rfl (by decide)) (hs dL_law_614 (And.intro (ob_489) (And.intro ⟨rfl, rfl, hu⟩ (fun lg4 it4 => n0 ?_ ))))))))))))))
      refine hs dL_law_617 (hs dL_law_618 (And.intro (fun c618 => ?_) (fun c618 => False.elim (by rw [lg_cmp_eq] at c618; exact c618 rfl))))
      refine hs dL_law_1211 (hs dL_law_1214 (hs dL_law_18 (hs dL_law_19 (hlen dL_law_20 (hs dL_law_21 (hs dL_law_23 (hs dL_law_24 (And.intro (fun c24 => ?_) (fun c24 => absurd (by decide) c24)))))))))
      refine hs dL_law_1217 (hs dL_law_1218 (And.intro (rfl) (And.intro rfl (And.intro (rfl) ?_))))
      exact hq _ _ _
    · try simp only [kb_6, kb_31, kb_32, ki_0, ki_1, ki_2, ki_3, ki_4, ki_5] at c33
      refine hs dL_law_623 (hs dL_law_624 (hs dL_law_625 (hs dL_law_626 (hs dL_law_627 (hld dL_law_628 (vin rfl (by decide)) (hs dL_law_629 (And.intro (ob_0) (And.intro ⟨rfl, rfl, rfl, rfl⟩ (fun lg3 it3 hu => n0 ?_ )))))))))
      refine hs dL_law_632 (hs dL_law_633 (hs dL_law_634 (hs dL_law_635 (hs dL_law_636 (hld dL_law_637 (vin rfl (by decide)) (hs dL_law_638 (And.intro (ob_489) (And.intro ⟨rfl, rfl, hu⟩ (fun lg4 it4 => n0 ?_ )))))))))
      refine hs dL_law_641 (And.intro (fun c641 => ?_) (fun c641 => absurd rfl c641))
      refine hs dL_law_1211 (hs dL_law_1214 (hs dL_law_18 (hs dL_law_19 (hlen dL_law_20 (hs dL_law_21 (hs dL_law_23 (hs dL_law_24 (And.intro (fun c24 => ?_) (fun c24 => absurd (by decide) c24)))))))))
      refine hs dL_law_1217 (hs dL_law_1218 (And.intro (rfl) (And.intro rfl (And.intro (rfl) ?_))))
      exact hq _ _ _
    · try simp only [kb_6, kb_31, kb_32, ki_0, ki_1, ki_2, ki_3, ki_4, ki_5] at c33
      refine hs dL_law_646 (hs dL_law_647 (hs dL_law_648 (hs dL_law_649 (hs dL_law_650 (hld dL_law_651 (vin rfl (by decide)) (hs dL_law_652 (hs dL_law_653 (hs dL_law_654 (hs dL_law_655 (hld dL_law_656 (vin rfl (by decide)) (hs dL_law_657 (hs dL_law_658 (hs dL_law_659 (hs dL_law_660 (hld dL_law_661 (vin rfl (by decide)) (hs dL_law_662 (And.intro (ob_0) (And.intro ⟨rfl, rfl, rfl, rfl⟩ (fun lg3 it3 hu => n0 ?_ )))))))))))))))))))
      refine hs dL_law_665 (hs dL_law_666 (hs dL_law_667 (hs dL_law_668 (hs dL_law_669 (hld dL_law_670 (vin rfl (by decide)) (hs dL_law_671 (hs dL_law_672 (hs dL_law_673 (hs dL_law_674 (hld dL_law_675 (vin rfl (by decide)) (hs dL_law_676 (hs dL_law_677 (hs dL_law_678 (hs dL_law_679 (hld dL_law_680 (vin rfl (by decide)) (hs dL_law_681 (And.intro (ob_489) (And.intro ⟨rfl, rfl, hu⟩ (fun lg4 it4 => n0 ?_ )))))))))))))))))))
      refine hs dL_law_684 (hs dL_law_685 (And.intro (fun c685 => ?_) (fun c685 => False.elim (by rw [lg_cmp_eq] at c685; exact c685 rfl))))
      refine hs dL_law_1211 (hs dL_law_1214 (hs dL_law_18 (hs dL_law_19 (hlen dL_law_20 (hs dL_law_21 (hs dL_law_23 (hs dL_law_24 (And.intro (fun c24 => ?_) (fun c24 => absurd (by decide) c24)))))))))
      refine hs dL_law_1217 (hs dL_law_1218 (And.intro (rfl) (And.intro rfl (And.intro (rfl) ?_))))
      exact hq _ _ _
    · try simp only [kb_6, kb_31, kb_32, ki_0, ki_1, ki_2, ki_3, ki_4, ki_5] at c33
      refine hs dL_law_690 (hs dL_law_691 (hs dL_law_692 (hs dL_law_693 (hs dL_law_694 (hld dL_law_695 (vin rfl (by decide)) (hs dL_law_696 (hs dL_law_697 (hs dL_law_698 (hs dL_law_699 (hld dL_law_700 (vin rfl (by decide)) (hs dL_law_701 (And.intro (ob_0) (And.intro ⟨rfl, rfl, rfl, rfl⟩ (fun lg3 it3 hu => n0 ?_ ))))))))))))))
      refine hs dL_law_704 (hs dL_law_705 (hs dL_law_706 (hs dL_law_707 (hs dL_law_708 (hld dL_law_709 (vin rfl (by decide)) (hs dL_law_710 (hs dL_law_711 (hs dL_law_712 (hs dL_law_713 (hld dL_law_714 (vin rfl (by decide)) (hs dL_law_715 (And.intro (ob_489) (And.intro ⟨rfl, rfl, hu⟩ (fun lg4 it4 => n0 ?_ ))))))))))))))
      refine hs dL_law_718 (And.intro (fun c718 => ?_) (fun c718 => absurd rfl c718))
      refine hs dL_law_1211 (hs dL_law_1214 (hs dL_law_18 (hs dL_law_19 (hlen dL_law_20 (hs dL_law_21 (hs dL_law_23 (hs dL_law_24 (And.intro (fun c24 => ?_) (fun c24 => absurd (by decide) c24)))))))))
      refine hs dL_law_1217 (hs dL_law_1218 (And.intro (rfl) (And.intro rfl (And.intro (rfl) ?_))))
      exact hq _ _ _
    · try simp only [kb_6, kb_31, kb_32, ki_0, ki_1, ki_2, ki_3, ki_4, ki_5] at c33
      refine hs dL_law_723 (hs dL_law_724 (hs dL_law_725 (hs dL_law_726 (hs dL_law_727 (hld dL_law_728 (vin rfl (by decide)) (hs dL_law_729 (hs dL_law_730 (hs dL_law_731 (hs dL_law_732 (hld dL_law_733 (vin rfl (by decide)) (hs dL_law_734 (And.intro (ob_0) (And.intro ⟨rfl, rfl, rfl, rfl⟩ (fun lg3 it3 hu => n0 ?_ ))))))))))))))
      refine hs dL_law_737 (hs dL_law_738 (hs dL_law_739 (hs dL_law_740 (hs dL_law_741 (hld dL_law_742 (vin rfl (by decide)) (hs dL_law_743 (hs dL_law_744 (hs dL_law_745 (hs dL_law_746 (hld dL_law_747 (vin rfl (by decide)) (hs dL_law_748 (And.intro (ob_489) (And.intro ⟨rfl, rfl, hu⟩ (fun lg4 it4 => n0 ?_ ))))))))))))))
      refine hs dL_law_751 (And.intro (fun c751 => ?_) (fun c751 => absurd rfl c751))
      refine hs dL_law_1211 (hs dL_law_1214 (hs dL_law_18 (hs dL_law_19 (hlen dL_law_20 (hs dL_law_21 (hs dL_law_23 (hs dL_law_24 (And.intro (fun c24 => ?_) (fun c24 => absurd (by decide) c24)))))))))
      refine hs dL_law_1217 (hs dL_law_1218 (And.intro (rfl) (And.intro rfl (And.intro (rfl) ?_))))
      exact hq _ _ _
    · try simp only [kb_6, kb_31, kb_32, ki_0, ki_1, ki_2, ki_3, ki_4, ki_5] at c33
      refine hs dL_law_756 (hs dL_law_757 (hs dL_law_758 (hs dL_law_759 (hs dL_law_760 (hld dL_law_761 (vin rfl (by decide)) (hs dL_law_762 (hs dL_law_763 (hs dL_law_764 (hs dL_law_765 (hld dL_law_766 (vin rfl (by decide)) (hs dL_law_767 (And.intro (ob_0) (And.intro ⟨rfl, rfl, rfl, rfl⟩ (fun lg3 it3 hu => n0 ?_ ))))))))))))))
      refine hs dL_law_770 (hs dL_law_771 (hs dL_law_772 (hs dL_law_773 (hs dL_law_774 (hld dL_law_775 (vin rfl (by decide)) (hs dL_law_776 (hs dL_law_777 (hs dL_law_778 (hs dL_law_779 (hld dL_law_780 (vin rfl (by decide)) (hs dL_law_781 (And.intro (ob_489) (And.intro ⟨rfl, rfl, hu⟩ (fun lg4 it4 => n0 ?_ ))))))))))))))
      refine hs dL_law_784 (hs dL_law_785 (And.intro (fun c785 => ?_) (fun c785 => False.elim (by rw [lg_cmp_eq] at c785; exact c785 rfl))))
      refine hs dL_law_1211 (hs dL_law_1214 (hs dL_law_18 (hs dL_law_19 (hlen dL_law_20 (hs dL_law_21 (hs dL_law_23 (hs dL_law_24 (And.intro (fun c24 => ?_) (fun c24 => absurd (by decide) c24)))))))))
      refine hs dL_law_1217 (hs dL_law_1218 (And.intro (rfl) (And.intro rfl (And.intro (rfl) ?_))))
      exact hq _ _ _
    · try simp only [kb_6, kb_31, kb_32, ki_0, ki_1, ki_2, ki_3, ki_4, ki_5] at c33
      refine hs dL_law_790 (hs dL_law_791 (hs dL_law_792 (hs dL_law_793 (hs dL_law_794 (hld dL_law_795 (vin rfl (by decide)) (hs dL_law_796 (And.intro (ob_0) (And.intro ⟨rfl, rfl, rfl, rfl⟩ (fun lg3 it3 hu => n0 ?_ )))))))))
      refine hs dL_law_799 (hs dL_law_800 (hs dL_law_801 (hs dL_law_802 (hs dL_law_803 (hld dL_law_804 (vin rfl (by decide)) (hs dL_law_805 (And.intro (ob_489) (And.intro ⟨rfl, rfl, hu⟩ (fun lg4 it4 => n0 ?_ )))))))))
      refine hs dL_law_808 (hs dL_law_809 (And.intro (fun c809 => ?_) (fun c809 => False.elim (by rw [lg_cmp_eq] at c809; exact c809 rfl))))
      refine hs dL_law_1211 (hs dL_law_1214 (hs dL_law_18 (hs dL_law_19 (hlen dL_law_20 (hs dL_law_21 (hs dL_law_23 (hs dL_law_24 (And.intro (fun c24 => ?_) (fun c24 => absurd (by decide) c24)))))))))
      refine hs dL_law_1217 (hs dL_law_1218 (And.intro (rfl) (And.intro rfl (And.intro (rfl) ?_))))
      exact hq _ _ _
    · try simp only [kb_6, kb_31, kb_32, ki_0, ki_1, ki_2, ki_3, ki_4, ki_5] at c33
      refine hs dL_law_814 (hs dL_law_815 (hs dL_law_816 (hs dL_law_817 (hs dL_law_818 (hld dL_law_819 (vin rfl (by decide)) (hs dL_law_820 (hs dL_law_821 (hs dL_law_822 (hs dL_law_823 (hld dL_law_824 (vin rfl (by decide)) (hs dL_law_825 (And.intro (ob_0) (And.intro ⟨rfl, rfl, rfl, rfl⟩ (fun lg3 it3 hu => n0 ?_ ))))))))))))))
      refine hs dL_law_828 (hs dL_law_829 (hs dL_law_830 (hs dL_law_831 (hs dL_law_832 (hld dL_law_833 (vin rfl (by decide)) (hs dL_law_834 (hs dL_law_835 (hs dL_law_836 (hs dL_law_837 (hld dL_law_838 (vin rfl (by decide)) (hs dL_law_839 (And.intro (ob_489) (And.intro ⟨rfl, rfl, hu⟩ (fun lg4 it4 => n0 ?_ ))))))))))))))
      refine hs dL_law_842 (And.intro (fun c842 => ?_) (fun c842 => absurd rfl c842))
      refine hs dL_law_1211 (hs dL_law_1214 (hs dL_law_18 (hs dL_law_19 (hlen dL_law_20 (hs dL_law_21 (hs dL_law_23 (hs dL_law_24 (And.intro (fun c24 => ?_) (fun c24 => absurd (by decide) c24)))))))))
      refine hs dL_law_1217 (hs dL_law_1218 (And.intro (rfl) (And.intro rfl (And.intro (rfl) ?_))))
      exact hq _ _ _
    · try simp only [kb_6, kb_31, kb_32, ki_0, ki_1, ki_2, ki_3, ki_4, ki_5] at c33
      refine hs dL_law_847 (hs dL_law_848 (hs dL_law_849 (hs dL_law_850 (hs dL_law_851 (hld dL_law_852 (vin rfl (by decide)) (hs dL_law_853 (And.intro (ob_0) (And.intro ⟨rfl, rfl, rfl, rfl⟩ (fun lg3 it3 hu => n0 ?_ )))))))))
      refine hs dL_law_856 (hs dL_law_857 (hs dL_law_858 (hs dL_law_859 (hs dL_law_860 (hld dL_law_861 (vin rfl (by decide)) (hs dL_law_862 (And.intro (ob_489) (And.intro ⟨rfl, rfl, hu⟩ (fun lg4 it4 => n0 ?_ )))))))))
      refine hs dL_law_865 (And.intro (fun c865 => ?_) (fun c865 => absurd rfl c865))
      refine hs dL_law_1211 (hs dL_law_1214 (hs dL_law_18 (hs dL_law_19 (hlen dL_law_20 (hs dL_law_21 (hs dL_law_23 (hs dL_law_24 (And.intro (fun c24 => ?_) (fun c24 => absurd (by decide) c24)))))))))
      refine hs dL_law_1217 (hs dL_law_1218 (And.intro (rfl) (And.intro rfl (And.intro (rfl) ?_))))
      exact hq _ _ _
    · try simp only [kb_6, kb_31, kb_32, ki_0, ki_1, ki_2, ki_3, ki_4, ki_5] at c33
      refine hs dL_law_870 (hs dL_law_871 (hs dL_law_872 (hs dL_law_873 (hs dL_law_874 (hld dL_law_875 (vin rfl (by decide)) (hs dL_law_876 (hs dL_law_877 (hs dL_law_878 (hs dL_law_879 (hld dL_law_880 (vin rfl (by decide)) (hs dL_law_881 (And.intro (ob_0) (And.intro ⟨rfl, rfl, rfl, rfl⟩ (fun lg3 it3 hu => n0 ?_ ))))))))))))))
      refine hs dL_law_884 (hs dL_law_885 (hs dL_law_886 (hs dL_law_887 (hs dL_law_888 (hld dL_law_889 (vin rfl (by decide)) (hs dL_law_890 (hs dL_law_891 (hs dL_law_892 (hs dL_law_893 (hld dL_law_894 (vin rfl (by decide)) (hs dL_law_895 (And.intro (ob_489) (And.intro ⟨rfl, rfl, hu⟩ (fun lg4 it4 => n0 ?_ ))))))))))))))
      refine hs dL_law_898 (And.intro (fun c898 => ?_) (fun c898 => absurd rfl c898))
      refine hs dL_law_1211 (hs dL_law_1214 (hs dL_law_18 (hs dL_law_19 (hlen dL_law_20 (hs dL_law_21 (hs dL_law_23 (hs dL_law_24 (And.intro (fun c24 => ?_) (fun c24 => absurd (by decide) c24)))))))))
      refine hs dL_law_1217 (hs dL_law_1218 (And.intro (rfl) (And.intro rfl (And.intro (rfl) ?_))))
      exact hq _ _ _
    · try simp only [kb_6, kb_31, kb_32, ki_0, ki_1, ki_2, ki_3, ki_4, ki_5] at c33
      refine hs dL_law_903 (hs dL_law_904 (And.intro (ob_0) (And.intro ⟨rfl, rfl, rfl, rfl⟩ (fun lg3 it3 hu => n0 ?_ ))))
      refine hs dL_law_907 (hs dL_law_908 (And.intro (ob_489) (And.intro ⟨rfl, rfl, hu⟩ (fun lg4 it4 => n0 ?_ ))))
      refine hs dL_law_911 (And.intro (fun c911 => ?_) (fun c911 => absurd rfl c911))
      refine hs dL_law_1211 (hs dL_law_1214 (hs dL_law_18 (hs dL_law_19 (hlen dL_law_20 (hs dL_law_21 (hs dL_law_23 (hs dL_law_24 (And.intro (fun c24 => ?_) (fun c24 => absurd (by decide) c24)))))))))
      refine hs dL_law_1217 (hs dL_law_1218 (And.intro (rfl) (And.intro rfl (And.intro (rfl) ?_))))
      exact hq _ _ _
    · try simp only [kb_6, kb_31, kb_32, ki_0, ki_1, ki_2, ki_3, ki_4, ki_5] at c33
      refine hs dL_law_916 (hs dL_law_917 (hs dL_law_918 (hs dL_law_919 (hs dL_law_920 (hld dL_law_921 (vin rfl (by decide)) (hs dL_law_922 (hs dL_law_923 (hs dL_law_924 (hs dL_law_925 (hld dL_law_926 (vin rfl (by decide)) (hs dL_law_927 (And.intro (ob_0) (And.intro ⟨rfl, rfl, rfl, rfl⟩ (fun lg3 it3 hu => n0 ?_ ))))))))))))))
      refine hs dL_law_930 (hs dL_law_931 (hs dL_law_932 (hs dL_law_933 (hs dL_law_934 (hld dL_law_935 (vin rfl (by decide)) (hs dL_law_936 (hs dL_law_937 (hs dL_law_938 (hs dL_law_939 (hld dL_law_940 (vin rfl (by decide)) (hs dL_law_941 (And.intro (ob_489) (And.intro ⟨rfl, rfl, hu⟩ (fun lg4 it4 => n0 ?_ ))))))))))))))
      refine hs dL_law_944 (And.intro (fun c944 => ?_) (fun c944 => absurd rfl c944))
      refine hs dL_law_1211 (hs dL_law_1214 (hs dL_law_18 (hs dL_law_19 (hlen dL_law_20 (hs dL_law_21 (hs dL_law_23 (hs dL_law_24 (And.intro (fun c24 => ?_) (fun c24 => absurd (by decide) c24)))))))))
      refine hs dL_law_1217 (hs dL_law_1218 (And.intro (rfl) (And.intro rfl (And.intro (rfl) ?_))))
      exact hq _ _ _
    · try simp only [kb_6, kb_31, kb_32, ki_0, ki_1, ki_2, ki_3, ki_4, ki_5] at c33
      refine hs dL_law_949 (hs dL_law_950 (And.intro (ob_0) (And.intro ⟨rfl, rfl, rfl, rfl⟩ (fun lg3 it3 hu => n0 ?_ ))))
      refine hs dL_law_953 (hs dL_law_954 (And.intro (ob_489) (And.intro ⟨rfl, rfl, hu⟩ (fun lg4 it4 => n0 ?_ ))))
      refine hs dL_law_957 (And.intro (fun c957 => ?_) (fun c957 => absurd rfl c957))
      refine hs dL_law_1211 (hs dL_law_1214 (hs dL_law_18 (hs dL_law_19 (hlen dL_law_20 (hs dL_law_21 (hs dL_law_23 (hs dL_law_24 (And.intro (fun c24 => ?_) (fun c24 => absurd (by decide) c24)))))))))
      refine hs dL_law_1217 (hs dL_law_1218 (And.intro (rfl) (And.intro rfl (And.intro (rfl) ?_))))
      exact hq _ _ _
    · try simp only [kb_6, kb_31, kb_32, ki_0, ki_1, ki_2, ki_3, ki_4, ki_5] at c33
      refine hs dL_law_962 (hs dL_law_963 (And.intro (ob_0) (And.intro ⟨rfl, rfl, rfl, rfl⟩ (fun lg3 it3 hu => n0 ?_ ))))
      refine hs dL_law_966 (hs dL_law_967 (And.intro (ob_489) (And.intro ⟨rfl, rfl, hu⟩ (fun lg4 it4 => n0 ?_ ))))
      refine hs dL_law_970 (And.intro (fun c970 => ?_) (fun c970 => absurd rfl c970))
      refine hs dL_law_1211 (hs dL_law_1214 (hs dL_law_18 (hs dL_law_19 (hlen dL_law_20 (hs dL_law_21 (hs dL_law_23 (hs dL_law_24 (And.intro (fun c24 => ?_) (fun c24 => absurd (by decide) c24)))))))))
      refine hs dL_law_1217 (hs dL_law_1218 (And.intro (rfl) (And.intro rfl (And.intro (rfl) ?_))))
      exact hq _ _ _
    · try simp only [kb_6, kb_31, kb_32, ki_0, ki_1, ki_2, ki_3, ki_4, ki_5] at c33
      refine hs dL_law_975 (hs dL_law_976 (hs dL_law_977 (hs dL_law_978 (hs dL_law_979 (hld dL_law_980 (vin rfl (by decide)) (hs dL_law_981 (And.intro (ob_0) (And.intro ⟨rfl, rfl, rfl, rfl⟩ (fun lg3 it3 hu => n0 ?_ )))))))))
      refine hs dL_law_984 (hs dL_law_985 (hs dL_law_986 (hs dL_law_987 (hs dL_law_988 (hld dL_law_989 (vin rfl (by decide)) (hs dL_law_990 (And.intro (ob_489) (And.intro ⟨rfl, rfl, hu⟩ (fun lg4 it4 => n0 ?_ )))))))))
      refine hs dL_law_993 (And.intro (fun c993 => ?_) (fun c993 => absurd rfl c993))
      refine hs dL_law_1211 (hs dL_law_1214 (hs dL_law_18 (hs dL_law_19 (hlen dL_law_20 (hs dL_law_21 (hs dL_law_23 (hs dL_law_24 (And.intro (fun c24 => ?_) (fun c24 => absurd (by decide) c24)))))))))
      refine hs dL_law_1217 (hs dL_law_1218 (And.intro (rfl) (And.intro rfl (And.intro (rfl) ?_))))
      exact hq _ _ _
    · try simp only [kb_6, kb_31, kb_32, ki_0, ki_1, ki_2, ki_3, ki_4, ki_5] at c33
      refine hs dL_law_998 (hs dL_law_999 (hs dL_law_1000 (hs dL_law_1001 (hs dL_law_1002 (hld dL_law_1003 (vin rfl (by decide)) (hs dL_law_1004 (hs dL_law_1005 (hs dL_law_1006 (hs dL_law_1007 (hld dL_law_1008 (vin rfl (by decide)) (hs dL_law_1009 (hs dL_law_1010 (hs dL_law_1011 (hs dL_law_1012 (hld dL_law_1013 (vin rfl (by decide)) (hs dL_law_1014 (And.intro (ob_0) (And.intro ⟨rfl, rfl, rfl, rfl⟩ (fun lg3 it3 hu => n0 ?_ )))))))))))))))))))
      refine hs dL_law_1017 (hs dL_law_1018 (hs dL_law_1019 (hs dL_law_1020 (hs dL_law_1021 (hld dL_law_1022 (vin rfl (by decide)) (hs dL_law_1023 (hs dL_law_1024 (hs dL_law_1025 (hs dL_law_1026 (hld dL_law_1027 (vin rfl (by decide)) (hs dL_law_1028 (hs dL_law_1029 (hs dL_law_1030 (hs dL_law_1031 (hld dL_law_1032 (vin rfl (by decide)) (hs dL_law_1033 (And.intro (ob_489) (And.intro ⟨rfl, rfl, hu⟩ (fun lg4 it4 => n0 ?_ )))))))))))))))))))
      refine hs dL_law_1036 (And.intro (fun c1036 => ?_) (fun c1036 => absurd rfl c1036))
      refine hs dL_law_1211 (hs dL_law_1214 (hs dL_law_18 (hs dL_law_19 (hlen dL_law_20 (hs dL_law_21 (hs dL_law_23 (hs dL_law_24 (And.intro (fun c24 => ?_) (fun c24 => absurd (by decide) c24)))))))))
      refine hs dL_law_1217 (hs dL_law_1218 (And.intro (rfl) (And.intro rfl (And.intro (rfl) ?_))))
      exact hq _ _ _
    · try simp only [kb_6, kb_31, kb_32, ki_0, ki_1, ki_2, ki_3, ki_4, ki_5] at c33
      refine hs dL_law_1041 (hs dL_law_1042 (hs dL_law_1043 (hs dL_law_1044 (hs dL_law_1045 (hld dL_law_1046 (vin rfl (by decide)) (hs dL_law_1047 (hs dL_law_1048 (hs dL_law_1049 (hs dL_law_1050 (hld dL_law_1051 (vin rfl (by decide)) (hs dL_law_1052 (hs dL_law_1053 (hs dL_law_1054 (hs dL_law_1055 (hld dL_law_1056 (vin rfl (by decide)) (hs dL_law_1057 (hs dL_law_1058 (hs dL_law_1060 (hs dL_law_1061 (hs dL_law_1062 (hs dL_law_1063 (hs dL_law_1064 (hld dL_law_1065 (vin rfl (by decide)) (hs dL_law_1066 (hs dL_law_1067 (hs dL_law_1070 (hs dL_law_1071 (hs dL_law_1072 (And.intro (ob_0) (And.intro ⟨rfl, rfl, rfl, rfl⟩ (fun lg3 it3 hu => n0 ?_ )))))))))))))))))))))))))))))))
      refine hs dL_law_1075 (hs dL_law_1076 (hs dL_law_1077 (hs dL_law_1078 (hs dL_law_1079 (hld dL_law_1080 (vin rfl (by decide)) (hs dL_law_1081 (hs dL_law_1082 (hs dL_law_1083 (hs dL_law_1084 (hld dL_law_1085 (vin rfl (by decide)) (hs dL_law_1086 (hs dL_law_1087 (hs dL_law_1088 (hs dL_law_1089 (hld dL_law_1090 (vin rfl (by decide)) (hs dL_law_1091 (hs dL_law_1092 (hs dL_law_1094 (hs dL_law_1095 (hs dL_law_1096 (hs dL_law_1097 (hs dL_law_1098 (hld dL_law_1099 (vin rfl (by decide)) (hs dL_law_1100 (hs dL_law_1101 (hs dL_law_1104 (hs dL_law_1105 (hs dL_law_1106 (And.intro (ob_489) (And.intro ⟨rfl, rfl, hu⟩ (fun lg4 it4 => n0 ?_ )))))))))))))))))))))))))))))))
      refine hs dL_law_1109 (And.intro (fun c1109 => ?_) (fun c1109 => absurd rfl c1109))
      refine hs dL_law_1211 (hs dL_law_1214 (hs dL_law_18 (hs dL_law_19 (hlen dL_law_20 (hs dL_law_21 (hs dL_law_23 (hs dL_law_24 (And.intro (fun c24 => ?_) (fun c24 => absurd (by decide) c24)))))))))
      refine hs dL_law_1217 (hs dL_law_1218 (And.intro (rfl) (And.intro rfl (And.intro (rfl) ?_))))
      exact hq _ _ _
    · try simp only [kb_6, kb_31, kb_32, ki_0, ki_1, ki_2, ki_3, ki_4, ki_5] at c33
      refine hs dL_law_1114 (hs dL_law_1115 (hs dL_law_1116 (hs dL_law_1117 (hs dL_law_1118 (hld dL_law_1119 (vin rfl (by decide)) (hs dL_law_1120 (hs dL_law_1121 (hs dL_law_1122 (hs dL_law_1123 (hld dL_law_1124 (vin rfl (by decide)) (hs dL_law_1125 (And.intro (ob_0) (And.intro ⟨rfl, rfl, rfl, rfl⟩ (fun lg3 it3 hu => n0 ?_ ))))))))))))))
      refine hs dL_law_1128 (hs dL_law_1129 (hs dL_law_1130 (hs dL_law_1131 (hs dL_law_1132 (hld dL_law_1133 (vin rfl (by decide)) (hs dL_law_1134 (hs dL_law_1135 (hs dL_law_1136 (hs dL_law_1137 (hld dL_law_1138 (vin rfl (by decide)) (hs dL_law_1139 (And.intro (ob_489) (And.intro ⟨rfl, rfl, hu⟩ (fun lg4 it4 => n0 ?_ ))))))))))))))
      refine hs dL_law_1142 (hs dL_law_1143 (And.intro (fun c1143 => ?_) (fun c1143 => False.elim (by rw [lg_cmp_eq] at c1143; exact c1143 rfl))))
      refine hs dL_law_1211 (hs dL_law_1214 (hs dL_law_18 (hs dL_law_19 (hlen dL_law_20 (hs dL_law_21 (hs dL_law_23 (hs dL_law_24 (And.intro (fun c24 => ?_) (fun c24 => absurd (by decide) c24)))))))))
      refine hs dL_law_1217 (hs dL_law_1218 (And.intro (rfl) (And.intro rfl (And.intro (rfl) ?_))))
      exact hq _ _ _
    · try simp only [kb_6, kb_31, kb_32, ki_0, ki_1, ki_2, ki_3, ki_4, ki_5] at c33
      refine hs dL_law_1148 (hs dL_law_1149 (hs dL_law_1150 (hs dL_law_1151 (hs dL_law_1152 (hld dL_law_1153 (vin rfl (by decide)) (hs dL_law_1154 (hs dL_law_1155 (hs dL_law_1156 (hs dL_law_1157 (hld dL_law_1158 (vin rfl (by decide)) (hs dL_law_1159 (hs dL_law_1160 (hs dL_law_1161 (hs dL_law_1162 (hld dL_law_1163 (vin rfl (by decide)) (hs dL_law_1164 (hs dL_law_1165 (hs dL_law_1166 (hs dL_law_1167 (hld dL_law_1168 (vin rfl (by decide)) (hs dL_law_1169 (hs dL_law_1170 (hs dL_law_1171 (hs dL_law_1172 (hld dL_law_1173 (vin rfl (by decide)) (hs dL_law_1174 (And.intro (ob_0) (And.intro ⟨rfl, rfl, rfl, rfl⟩ (fun lg3 it3 hu => n0 ?_ )))))))))))))))))))))))))))))
      refine hs dL_law_1177 (hs dL_law_1178 (hs dL_law_1179 (hs dL_law_1180 (hs dL_law_1181 (hld dL_law_1182 (vin rfl (by decide)) (hs dL_law_1183 (hs dL_law_1184 (hs dL_law_1185 (hs dL_law_1186 (hld dL_law_1187 (vin rfl (by decide)) (hs dL_law_1188 (hs dL_law_1189 (hs dL_law_1190 (hs dL_law_1191 (hld dL_law_1192 (vin rfl (by decide)) (hs dL_law_1193 (hs dL_law_1194 (hs dL_law_1195 (hs dL_law_1196 (hld dL_law_1197 (vin rfl (by decide)) (hs dL_law_1198 (hs dL_law_1199 (hs dL_law_1200 (hs dL_law_1201 (hld dL_law_1202 (vin rfl (by decide)) (hs dL_law_1203 (And.intro (ob_489) (And.intro ⟨rfl, rfl, hu⟩ (fun lg4 it4 => n0 ?_ )))))))))))))))))))))))))))))
      refine hs dL_law_1206 (And.intro (fun c1206 => ?_) (fun c1206 => absurd rfl c1206))
      refine hs dL_law_1211 (hs dL_law_1214 (hs dL_law_18 (hs dL_law_19 (hlen dL_law_20 (hs dL_law_21 (hs dL_law_23 (hs dL_law_24 (And.intro (fun c24 => ?_) (fun c24 => absurd (by decide) c24)))))))))
      refine hs dL_law_1217 (hs dL_law_1218 (And.intro (rfl) (And.intro rfl (And.intro (rfl) ?_))))
      exact hq _ _ _
