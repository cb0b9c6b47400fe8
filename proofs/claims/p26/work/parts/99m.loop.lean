/-! every round keeps both invariants and both relations, and answers 1 -/
set_option maxRecDepth 100000 in
set_option maxHeartbeats 16000000 in
theorem law_loop (L : Nat) (xs : Nat → Int32) (hL : L ≤ 3072) : ∀ (n : Nat) (x3 : Int32) (lg : LGt) (it : ITt), IL lg it → RA lg it → RC lg it → 0 ≤ x3.toInt → ((L : Int) - x3.toInt).toNat < n → w_L_law_b18 L xs (fun (v : Int32) (lg : LGt) (it : ITt) => v = 1) n x3 lg it := by
  generalize hp : (fun (v : Int32) (lg : LGt) (it : ITt) => v = 1) = Pz
  intro n18
  induction n18 with
  | zero => intro x3 lg it _ _ _ _ hn; exact absurd hn (Nat.not_lt_zero _)
  | succ n18 ih18 =>
    intro x3 lg0 it0 hI hT hC h0 hn
    have hb := x3.toInt_lt
    unfold w_L_law_b18
    have fL : (((Int32.ofNat L) - 6)).toInt = (L : Int) - 6 := sb32 (a := (L : Int)) (b := 6) (nI_toInt (by omega)) ti_6 (by omega) (by omega)
    refine ⟨fun c24 => ?_, fun c24 => ?_⟩
    · try simp only [Int32.lt_iff_toInt_lt, Int32.le_iff_toInt_le, ← Int32.toInt_inj, Int32.toInt_toInt64, tiA, tlA] at c24
      subst hp
      exact rfl
    · try simp only [Int32.lt_iff_toInt_lt, Int32.le_iff_toInt_le, ← Int32.toInt_inj, Int32.toInt_toInt64, tiA, tlA] at c24
      refine ⟨vp_of (by first | omega | ((try simp only [Int32.lt_iff_toInt_lt, Int32.le_iff_toInt_le, ← Int32.toInt_inj, Int32.toInt_toInt64, tiA, tlA]); omega)) (by first | omega | ((try simp only [Int32.lt_iff_toInt_lt, Int32.le_iff_toInt_le, ← Int32.toInt_inj, Int32.toInt_toInt64, tiA, tlA]); omega)), ?_⟩
      refine ⟨fun c33 => ?_, fun c33 => ?_, fun c33 => ?_, fun c33 => ?_, fun c33 => ?_, fun c33 => ?_, fun c33 => ?_, fun c33 => ?_, fun c33 => ?_, fun c33 => ?_, fun c33 => ?_, fun c33 => ?_, fun c33 => ?_, fun c33 => ?_, fun c33 => ?_, fun c33 => ?_, fun c33 => ?_, fun c33 => ?_, fun c33 => ?_, fun c33 => ?_, fun c33 => ?_, fun c33 => ?_, fun c33 => ?_, fun c33 => ?_, fun c33 => ?_, fun c33 => ?_, fun c33 => ?_, fun c33 => ?_, fun c33 => ?_, fun c33 => ?_, fun c33 => ?_, fun c33 => ?_, fun c33 => ?_, trivial⟩
      · skip
        have f758 : (x3 + Int32.ofInt 6).toInt = x3.toInt + 6 := ad32 rfl (by decide) (by omega) (by omega)
        exact ih18 ((x3 + Int32.ofInt 6)) _ _ hI hT hC (by omega) (by omega)
      · skip
        try have f759 : ((x3 + 1) : Int32).toInt = (x3).toInt + 1 := ad32 (a := (x3).toInt) (b := 1) (rfl) (ti_1) (by omega) (by omega)
        refine ⟨vp_of (by first | omega | ((try simp only [Int32.lt_iff_toInt_lt, Int32.le_iff_toInt_le, ← Int32.toInt_inj, Int32.toInt_toInt64, tiA, tlA]); omega)) (by first | omega | ((try simp only [Int32.lt_iff_toInt_lt, Int32.le_iff_toInt_le, ← Int32.toInt_inj, Int32.toInt_toInt64, tiA, tlA]); omega)), ?_⟩
        try have f761 : ((x3 + 2) : Int32).toInt = (x3).toInt + 2 := ad32 (a := (x3).toInt) (b := 2) (rfl) (ti_2) (by omega) (by omega)
        refine ⟨vp_of (by first | omega | ((try simp only [Int32.lt_iff_toInt_lt, Int32.le_iff_toInt_le, ← Int32.toInt_inj, Int32.toInt_toInt64, tiA, tlA]); omega)) (by first | omega | ((try simp only [Int32.lt_iff_toInt_lt, Int32.le_iff_toInt_le, ← Int32.toInt_inj, Int32.toInt_toInt64, tiA, tlA]); omega)), ?_⟩
        try have f763 : ((x3 + 3) : Int32).toInt = (x3).toInt + 3 := ad32 (a := (x3).toInt) (b := 3) (rfl) (ti_3) (by omega) (by omega)
        refine ⟨vp_of (by first | omega | ((try simp only [Int32.lt_iff_toInt_lt, Int32.le_iff_toInt_le, ← Int32.toInt_inj, Int32.toInt_toInt64, tiA, tlA]); omega)) (by first | omega | ((try simp only [Int32.lt_iff_toInt_lt, Int32.le_iff_toInt_le, ← Int32.toInt_inj, Int32.toInt_toInt64, tiA, tlA]); omega)), ?_⟩
        refine ⟨_, f_X8_bumper ((xs (x3 + 1).toNatClampNeg)) ((xs (x3 + 2).toNatClampNeg)) ((xs (x3 + 3).toNatClampNeg)) hI.1 _ (ra_v hT) (ra_o hT), ?_⟩
        intro v769 lg765 it766 hq770
        have hI767 : IL lg765 it766 := il_8 hI hq770.1.1 hq770.1.2 (fun j hj => by first | omega | exact False.elim hj | (dsimp only at hj; omega))
        have hC771 : RC lg765 it766 := rc_8 hC hq770.1.2 (fun j hj => by first | omega | exact False.elim hj | (dsimp only at hj; omega))
        try have f772 : ((x3 + 1) : Int32).toInt = (x3).toInt + 1 := ad32 (a := (x3).toInt) (b := 1) (rfl) (ti_1) (by omega) (by omega)
        refine ⟨vp_of (by first | omega | ((try simp only [Int32.lt_iff_toInt_lt, Int32.le_iff_toInt_le, ← Int32.toInt_inj, Int32.toInt_toInt64, tiA, tlA]); omega)) (by first | omega | ((try simp only [Int32.lt_iff_toInt_lt, Int32.le_iff_toInt_le, ← Int32.toInt_inj, Int32.toInt_toInt64, tiA, tlA]); omega)), ?_⟩
        try have f774 : ((x3 + 2) : Int32).toInt = (x3).toInt + 2 := ad32 (a := (x3).toInt) (b := 2) (rfl) (ti_2) (by omega) (by omega)
        refine ⟨vp_of (by first | omega | ((try simp only [Int32.lt_iff_toInt_lt, Int32.le_iff_toInt_le, ← Int32.toInt_inj, Int32.toInt_toInt64, tiA, tlA]); omega)) (by first | omega | ((try simp only [Int32.lt_iff_toInt_lt, Int32.le_iff_toInt_le, ← Int32.toInt_inj, Int32.toInt_toInt64, tiA, tlA]); omega)), ?_⟩
        try have f776 : ((x3 + 3) : Int32).toInt = (x3).toInt + 3 := ad32 (a := (x3).toInt) (b := 3) (rfl) (ti_3) (by omega) (by omega)
        refine ⟨vp_of (by first | omega | ((try simp only [Int32.lt_iff_toInt_lt, Int32.le_iff_toInt_le, ← Int32.toInt_inj, Int32.toInt_toInt64, tiA, tlA]); omega)) (by first | omega | ((try simp only [Int32.lt_iff_toInt_lt, Int32.le_iff_toInt_le, ← Int32.toInt_inj, Int32.toInt_toInt64, tiA, tlA]); omega)), ?_⟩
        have w784 := w9_8 hq770.1.2 (fun j hj => by first | omega | exact False.elim hj | (dsimp only at hj; omega))
        refine ⟨_, f_X9_bumper ((xs (x3 + 1).toNatClampNeg)) ((xs (x3 + 2).toNatClampNeg)) ((xs (x3 + 3).toNatClampNeg)) hI767.2 (by rw [w784]; exact ra_o hT), ?_⟩
        intro v782 lg778 it779 hq783
        rw [w784] at hq783
        have hI780 : IL lg778 it779 := il_9 hI767 hq783.1.1 hq783.1.2 (fun j hj => by first | omega | exact False.elim hj | (dsimp only at hj; omega))
        have hT781 : RA lg778 it779 := ra_m hT _ (vo_bm (ra_o hT)) hq770.1.2 (fun j hj => by first | omega | exact False.elim hj | (dsimp only at hj; omega)) hq770.2.2 (ci_k (ra_c hT) hq770.1.2 (fun j hj => by first | omega | exact False.elim hj | (dsimp only at hj; omega))) hq783.1.2 hq783.2.2 (fun j hj => by first | omega | exact False.elim hj | (dsimp only at hj; omega)) (fun j hj => by first | omega | exact False.elim hj | (dsimp only at hj; omega))
        have hC785 : RC lg778 it779 := rc_9 hC771 hq783.1.2 (fun j hj => by first | omega | exact False.elim hj | (dsimp only at hj; omega))
        have f786 : (x3 + Int32.ofInt 6).toInt = x3.toInt + 6 := ad32 rfl (by decide) (by omega) (by omega)
        exact ih18 ((x3 + Int32.ofInt 6)) _ _ hI780 hT781 hC785 (by omega) (by omega)
      · skip
        try have f787 : ((x3 + 1) : Int32).toInt = (x3).toInt + 1 := ad32 (a := (x3).toInt) (b := 1) (rfl) (ti_1) (by omega) (by omega)
        refine ⟨vp_of (by first | omega | ((try simp only [Int32.lt_iff_toInt_lt, Int32.le_iff_toInt_le, ← Int32.toInt_inj, Int32.toInt_toInt64, tiA, tlA]); omega)) (by first | omega | ((try simp only [Int32.lt_iff_toInt_lt, Int32.le_iff_toInt_le, ← Int32.toInt_inj, Int32.toInt_toInt64, tiA, tlA]); omega)), ?_⟩
        try have f789 : ((x3 + 2) : Int32).toInt = (x3).toInt + 2 := ad32 (a := (x3).toInt) (b := 2) (rfl) (ti_2) (by omega) (by omega)
        refine ⟨vp_of (by first | omega | ((try simp only [Int32.lt_iff_toInt_lt, Int32.le_iff_toInt_le, ← Int32.toInt_inj, Int32.toInt_toInt64, tiA, tlA]); omega)) (by first | omega | ((try simp only [Int32.lt_iff_toInt_lt, Int32.le_iff_toInt_le, ← Int32.toInt_inj, Int32.toInt_toInt64, tiA, tlA]); omega)), ?_⟩
        try have f791 : ((x3 + 3) : Int32).toInt = (x3).toInt + 3 := ad32 (a := (x3).toInt) (b := 3) (rfl) (ti_3) (by omega) (by omega)
        refine ⟨vp_of (by first | omega | ((try simp only [Int32.lt_iff_toInt_lt, Int32.le_iff_toInt_le, ← Int32.toInt_inj, Int32.toInt_toInt64, tiA, tlA]); omega)) (by first | omega | ((try simp only [Int32.lt_iff_toInt_lt, Int32.le_iff_toInt_le, ← Int32.toInt_inj, Int32.toInt_toInt64, tiA, tlA]); omega)), ?_⟩
        refine ⟨_, f_X8_renew ((xs (x3 + 1).toNatClampNeg)) ((xs (x3 + 2).toNatClampNeg)) ((xs (x3 + 3).toNatClampNeg)) hI.1 _ (ra_v hT) (ra_o hT), ?_⟩
        intro v797 lg793 it794 hq798
        have hI795 : IL lg793 it794 := il_8 hI hq798.1.1 hq798.1.2 (fun j hj => by first | omega | exact False.elim hj | (dsimp only at hj; omega))
        have hC799 : RC lg793 it794 := rc_8 hC hq798.1.2 (fun j hj => by first | omega | exact False.elim hj | (dsimp only at hj; omega))
        try have f800 : ((x3 + 1) : Int32).toInt = (x3).toInt + 1 := ad32 (a := (x3).toInt) (b := 1) (rfl) (ti_1) (by omega) (by omega)
        refine ⟨vp_of (by first | omega | ((try simp only [Int32.lt_iff_toInt_lt, Int32.le_iff_toInt_le, ← Int32.toInt_inj, Int32.toInt_toInt64, tiA, tlA]); omega)) (by first | omega | ((try simp only [Int32.lt_iff_toInt_lt, Int32.le_iff_toInt_le, ← Int32.toInt_inj, Int32.toInt_toInt64, tiA, tlA]); omega)), ?_⟩
        try have f802 : ((x3 + 2) : Int32).toInt = (x3).toInt + 2 := ad32 (a := (x3).toInt) (b := 2) (rfl) (ti_2) (by omega) (by omega)
        refine ⟨vp_of (by first | omega | ((try simp only [Int32.lt_iff_toInt_lt, Int32.le_iff_toInt_le, ← Int32.toInt_inj, Int32.toInt_toInt64, tiA, tlA]); omega)) (by first | omega | ((try simp only [Int32.lt_iff_toInt_lt, Int32.le_iff_toInt_le, ← Int32.toInt_inj, Int32.toInt_toInt64, tiA, tlA]); omega)), ?_⟩
        try have f804 : ((x3 + 3) : Int32).toInt = (x3).toInt + 3 := ad32 (a := (x3).toInt) (b := 3) (rfl) (ti_3) (by omega) (by omega)
        refine ⟨vp_of (by first | omega | ((try simp only [Int32.lt_iff_toInt_lt, Int32.le_iff_toInt_le, ← Int32.toInt_inj, Int32.toInt_toInt64, tiA, tlA]); omega)) (by first | omega | ((try simp only [Int32.lt_iff_toInt_lt, Int32.le_iff_toInt_le, ← Int32.toInt_inj, Int32.toInt_toInt64, tiA, tlA]); omega)), ?_⟩
        have w812 := w9_8 hq798.1.2 (fun j hj => by first | omega | exact False.elim hj | (dsimp only at hj; omega))
        refine ⟨_, f_X9_renew ((xs (x3 + 1).toNatClampNeg)) ((xs (x3 + 2).toNatClampNeg)) ((xs (x3 + 3).toNatClampNeg)) hI795.2, ?_⟩
        intro v810 lg806 it807 hq811
        rw [w812] at hq811
        have hI808 : IL lg806 it807 := il_9 hI795 hq811.1.1 hq811.1.2 (fun j hj => by first | omega | exact False.elim hj | (dsimp only at hj; omega))
        have hT809 : RA lg806 it807 := ra_m hT _ (vo_rn (ra_o hT)) hq798.1.2 (fun j hj => by first | omega | exact False.elim hj | (dsimp only at hj; omega)) hq798.2.2 (ci_k (ra_c hT) hq798.1.2 (fun j hj => by first | omega | exact False.elim hj | (dsimp only at hj; omega))) hq811.1.2 hq811.2.2 (fun j hj => by first | omega | exact False.elim hj | (dsimp only at hj; omega)) (fun j hj => by first | omega | exact False.elim hj | (dsimp only at hj; omega))
        have hC813 : RC lg806 it807 := rc_9 hC799 hq811.1.2 (fun j hj => by first | omega | exact False.elim hj | (dsimp only at hj; omega))
        have f814 : (x3 + Int32.ofInt 6).toInt = x3.toInt + 6 := ad32 rfl (by decide) (by omega) (by omega)
        exact ih18 ((x3 + Int32.ofInt 6)) _ _ hI808 hT809 hC813 (by omega) (by omega)
      · skip
        try have f815 : ((x3 + 1) : Int32).toInt = (x3).toInt + 1 := ad32 (a := (x3).toInt) (b := 1) (rfl) (ti_1) (by omega) (by omega)
        refine ⟨vp_of (by first | omega | ((try simp only [Int32.lt_iff_toInt_lt, Int32.le_iff_toInt_le, ← Int32.toInt_inj, Int32.toInt_toInt64, tiA, tlA]); omega)) (by first | omega | ((try simp only [Int32.lt_iff_toInt_lt, Int32.le_iff_toInt_le, ← Int32.toInt_inj, Int32.toInt_toInt64, tiA, tlA]); omega)), ?_⟩
        refine ⟨_, f_X8_spring ((xs (x3 + 1).toNatClampNeg)) hI.1 _ (ra_v hT) (ra_o hT), ?_⟩
        intro v821 lg817 it818 hq822
        have hI819 : IL lg817 it818 := il_8 hI hq822.1.1 hq822.1.2 (fun j hj => by first | omega | exact False.elim hj | (dsimp only at hj; omega))
        have hC823 : RC lg817 it818 := rc_8 hC hq822.1.2 (fun j hj => by first | omega | exact False.elim hj | (dsimp only at hj; omega))
        try have f824 : ((x3 + 1) : Int32).toInt = (x3).toInt + 1 := ad32 (a := (x3).toInt) (b := 1) (rfl) (ti_1) (by omega) (by omega)
        refine ⟨vp_of (by first | omega | ((try simp only [Int32.lt_iff_toInt_lt, Int32.le_iff_toInt_le, ← Int32.toInt_inj, Int32.toInt_toInt64, tiA, tlA]); omega)) (by first | omega | ((try simp only [Int32.lt_iff_toInt_lt, Int32.le_iff_toInt_le, ← Int32.toInt_inj, Int32.toInt_toInt64, tiA, tlA]); omega)), ?_⟩
        have w832 := w9_8 hq822.1.2 (fun j hj => by first | omega | exact False.elim hj | (dsimp only at hj; omega))
        refine ⟨_, f_X9_spring ((xs (x3 + 1).toNatClampNeg)) hI819.2, ?_⟩
        intro v830 lg826 it827 hq831
        rw [w832] at hq831
        have hI828 : IL lg826 it827 := il_9 hI819 hq831.1.1 hq831.1.2 (fun j hj => by first | omega | exact False.elim hj | (dsimp only at hj; omega))
        have hT829 : RA lg826 it827 := ra_m hT _ (vo_sp (ra_o hT)) hq822.1.2 (fun j hj => by first | omega | exact False.elim hj | (dsimp only at hj; omega)) hq822.2.2 (ci_k (ra_c hT) hq822.1.2 (fun j hj => by first | omega | exact False.elim hj | (dsimp only at hj; omega))) hq831.1.2 hq831.2.2 (fun j hj => by first | omega | exact False.elim hj | (dsimp only at hj; omega)) (fun j hj => by first | omega | exact False.elim hj | (dsimp only at hj; omega))
        have hC833 : RC lg826 it827 := rc_9 hC823 hq831.1.2 (fun j hj => by first | omega | exact False.elim hj | (dsimp only at hj; omega))
        have f834 : (x3 + Int32.ofInt 6).toInt = x3.toInt + 6 := ad32 rfl (by decide) (by omega) (by omega)
        exact ih18 ((x3 + Int32.ofInt 6)) _ _ hI828 hT829 hC833 (by omega) (by omega)
      · skip
        try have f835 : ((x3 + 1) : Int32).toInt = (x3).toInt + 1 := ad32 (a := (x3).toInt) (b := 1) (rfl) (ti_1) (by omega) (by omega)
        refine ⟨vp_of (by first | omega | ((try simp only [Int32.lt_iff_toInt_lt, Int32.le_iff_toInt_le, ← Int32.toInt_inj, Int32.toInt_toInt64, tiA, tlA]); omega)) (by first | omega | ((try simp only [Int32.lt_iff_toInt_lt, Int32.le_iff_toInt_le, ← Int32.toInt_inj, Int32.toInt_toInt64, tiA, tlA]); omega)), ?_⟩
        try have f837 : ((x3 + 2) : Int32).toInt = (x3).toInt + 2 := ad32 (a := (x3).toInt) (b := 2) (rfl) (ti_2) (by omega) (by omega)
        refine ⟨vp_of (by first | omega | ((try simp only [Int32.lt_iff_toInt_lt, Int32.le_iff_toInt_le, ← Int32.toInt_inj, Int32.toInt_toInt64, tiA, tlA]); omega)) (by first | omega | ((try simp only [Int32.lt_iff_toInt_lt, Int32.le_iff_toInt_le, ← Int32.toInt_inj, Int32.toInt_toInt64, tiA, tlA]); omega)), ?_⟩
        refine ⟨_, f_X8_wall ((xs (x3 + 1).toNatClampNeg)) ((xs (x3 + 2).toNatClampNeg)) hI.1 _ (ra_v hT) (ra_o hT), ?_⟩
        intro v843 lg839 it840 hq844
        have hI841 : IL lg839 it840 := il_8 hI hq844.1.1 hq844.1.2 (fun j hj => by first | omega | exact False.elim hj | (dsimp only at hj; omega))
        have hC845 : RC lg839 it840 := rc_8 hC hq844.1.2 (fun j hj => by first | omega | exact False.elim hj | (dsimp only at hj; omega))
        try have f846 : ((x3 + 1) : Int32).toInt = (x3).toInt + 1 := ad32 (a := (x3).toInt) (b := 1) (rfl) (ti_1) (by omega) (by omega)
        refine ⟨vp_of (by first | omega | ((try simp only [Int32.lt_iff_toInt_lt, Int32.le_iff_toInt_le, ← Int32.toInt_inj, Int32.toInt_toInt64, tiA, tlA]); omega)) (by first | omega | ((try simp only [Int32.lt_iff_toInt_lt, Int32.le_iff_toInt_le, ← Int32.toInt_inj, Int32.toInt_toInt64, tiA, tlA]); omega)), ?_⟩
        try have f848 : ((x3 + 2) : Int32).toInt = (x3).toInt + 2 := ad32 (a := (x3).toInt) (b := 2) (rfl) (ti_2) (by omega) (by omega)
        refine ⟨vp_of (by first | omega | ((try simp only [Int32.lt_iff_toInt_lt, Int32.le_iff_toInt_le, ← Int32.toInt_inj, Int32.toInt_toInt64, tiA, tlA]); omega)) (by first | omega | ((try simp only [Int32.lt_iff_toInt_lt, Int32.le_iff_toInt_le, ← Int32.toInt_inj, Int32.toInt_toInt64, tiA, tlA]); omega)), ?_⟩
        have w856 := w9_8 hq844.1.2 (fun j hj => by first | omega | exact False.elim hj | (dsimp only at hj; omega))
        refine ⟨_, f_X9_wall ((xs (x3 + 1).toNatClampNeg)) ((xs (x3 + 2).toNatClampNeg)) hI841.2 (by rw [w856]; exact ra_o hT), ?_⟩
        intro v854 lg850 it851 hq855
        rw [w856] at hq855
        have hI852 : IL lg850 it851 := il_9 hI841 hq855.1.1 hq855.1.2 (fun j hj => by first | omega | exact False.elim hj | (dsimp only at hj; omega))
        have hT853 : RA lg850 it851 := ra_m hT _ (vo_wl (ra_o hT)) hq844.1.2 (fun j hj => by first | omega | exact False.elim hj | (dsimp only at hj; omega)) hq844.2.2 (ci_k (ra_c hT) hq844.1.2 (fun j hj => by first | omega | exact False.elim hj | (dsimp only at hj; omega))) hq855.1.2 hq855.2.2 (fun j hj => by first | omega | exact False.elim hj | (dsimp only at hj; omega)) (fun j hj => by first | omega | exact False.elim hj | (dsimp only at hj; omega))
        have hC857 : RC lg850 it851 := rc_9 hC845 hq855.1.2 (fun j hj => by first | omega | exact False.elim hj | (dsimp only at hj; omega))
        have f858 : (x3 + Int32.ofInt 6).toInt = x3.toInt + 6 := ad32 rfl (by decide) (by omega) (by omega)
        exact ih18 ((x3 + Int32.ofInt 6)) _ _ hI852 hT853 hC857 (by omega) (by omega)
      · skip
        try have f859 : ((x3 + 1) : Int32).toInt = (x3).toInt + 1 := ad32 (a := (x3).toInt) (b := 1) (rfl) (ti_1) (by omega) (by omega)
        refine ⟨vp_of (by first | omega | ((try simp only [Int32.lt_iff_toInt_lt, Int32.le_iff_toInt_le, ← Int32.toInt_inj, Int32.toInt_toInt64, tiA, tlA]); omega)) (by first | omega | ((try simp only [Int32.lt_iff_toInt_lt, Int32.le_iff_toInt_le, ← Int32.toInt_inj, Int32.toInt_toInt64, tiA, tlA]); omega)), ?_⟩
        refine ⟨_, f_X8_go ((xs (x3 + 1).toNatClampNeg)) hI.1 _ (ra_v hT) (ra_o hT) (ra_c hT), ?_⟩
        intro v865 lg861 it862 hq866
        have hI863 : IL lg861 it862 := il_8 hI hq866.1.1 hq866.1.2 (fun j hj => by first | omega | exact False.elim hj | (dsimp only at hj; omega))
        have hC867 : RC lg861 it862 := rc_8 hC hq866.1.2 (fun j hj => by first | omega | exact False.elim hj | (dsimp only at hj; omega))
        try have f868 : ((x3 + 1) : Int32).toInt = (x3).toInt + 1 := ad32 (a := (x3).toInt) (b := 1) (rfl) (ti_1) (by omega) (by omega)
        refine ⟨vp_of (by first | omega | ((try simp only [Int32.lt_iff_toInt_lt, Int32.le_iff_toInt_le, ← Int32.toInt_inj, Int32.toInt_toInt64, tiA, tlA]); omega)) (by first | omega | ((try simp only [Int32.lt_iff_toInt_lt, Int32.le_iff_toInt_le, ← Int32.toInt_inj, Int32.toInt_toInt64, tiA, tlA]); omega)), ?_⟩
        have w876 := w9_8 hq866.1.2 (fun j hj => by first | omega | exact False.elim hj | (dsimp only at hj; omega))
        refine ⟨_, f_X9_go ((xs (x3 + 1).toNatClampNeg)) hI863.2 (by rw [w876]; exact ra_o hT), ?_⟩
        intro v874 lg870 it871 hq875
        rw [w876] at hq875
        have hI872 : IL lg870 it871 := il_9 hI863 hq875.1.1 hq875.1.2 (fun j hj => by first | omega | exact False.elim hj | (dsimp only at hj; omega))
        have hT873 : RA lg870 it871 := ra_m hT _ (vo_go (ra_o hT)) hq866.1.2 (fun j hj => by first | omega | exact False.elim hj | (dsimp only at hj; omega)) hq866.2.1.2 hq866.2.2 hq875.1.2 hq875.2.2 (fun j hj => by first | omega | exact False.elim hj | (dsimp only at hj; omega)) (fun j hj => by first | omega | exact False.elim hj | (dsimp only at hj; omega))
        have hC877 : RC lg870 it871 := rc_9 hC867 hq875.1.2 (fun j hj => by first | omega | exact False.elim hj | (dsimp only at hj; omega))
        have f878 : (x3 + Int32.ofInt 6).toInt = x3.toInt + 6 := ad32 rfl (by decide) (by omega) (by omega)
        exact ih18 ((x3 + Int32.ofInt 6)) _ _ hI872 hT873 hC877 (by omega) (by omega)
      · skip
        try have f879 : ((x3 + 1) : Int32).toInt = (x3).toInt + 1 := ad32 (a := (x3).toInt) (b := 1) (rfl) (ti_1) (by omega) (by omega)
        refine ⟨vp_of (by first | omega | ((try simp only [Int32.lt_iff_toInt_lt, Int32.le_iff_toInt_le, ← Int32.toInt_inj, Int32.toInt_toInt64, tiA, tlA]); omega)) (by first | omega | ((try simp only [Int32.lt_iff_toInt_lt, Int32.le_iff_toInt_le, ← Int32.toInt_inj, Int32.toInt_toInt64, tiA, tlA]); omega)), ?_⟩
        refine ⟨_, f_X8_feed ((xs (x3 + 1).toNatClampNeg)) hI.1, ?_⟩
        intro v885 lg881 it882 hq886
        have hI883 : IL lg881 it882 := il_8 hI hq886.1.1 hq886.1.2 (fun j hj => by first | omega | exact False.elim hj | (dsimp only at hj; omega))
        have hC887 : RC lg881 it882 := rc_8 hC hq886.1.2 (fun j hj => by first | omega | exact False.elim hj | (dsimp only at hj; omega))
        try have f888 : ((x3 + 1) : Int32).toInt = (x3).toInt + 1 := ad32 (a := (x3).toInt) (b := 1) (rfl) (ti_1) (by omega) (by omega)
        refine ⟨vp_of (by first | omega | ((try simp only [Int32.lt_iff_toInt_lt, Int32.le_iff_toInt_le, ← Int32.toInt_inj, Int32.toInt_toInt64, tiA, tlA]); omega)) (by first | omega | ((try simp only [Int32.lt_iff_toInt_lt, Int32.le_iff_toInt_le, ← Int32.toInt_inj, Int32.toInt_toInt64, tiA, tlA]); omega)), ?_⟩
        refine ⟨_, f_X9_feed ((xs (x3 + 1).toNatClampNeg)) hI883.2, ?_⟩
        intro v894 lg890 it891 hq895
        have hI892 : IL lg890 it891 := il_9 hI883 hq895.1.1 hq895.1.2 (fun j hj => by first | omega | exact False.elim hj | (dsimp only at hj; omega))
        have pr897 := ra_feed hT hI.1 hq886.1.2 hq886.2 hq895.1.2 hq895.2 (fun j hj => by first | omega | exact False.elim hj | (dsimp only at hj; omega)) (fun j hj => by first | omega | exact False.elim hj | (dsimp only at hj; omega))
        have hC898 : RC lg890 it891 := rc_9 hC887 hq895.1.2 (fun j hj => by first | omega | exact False.elim hj | (dsimp only at hj; omega))
        have f899 : (x3 + Int32.ofInt 6).toInt = x3.toInt + 6 := ad32 rfl (by decide) (by omega) (by omega)
        exact ih18 ((x3 + Int32.ofInt 6)) _ _ hI892 pr897.1 hC898 (by omega) (by omega)
      · skip
        refine ⟨_, f_X8_read hI.1 _ (ra_v hT) (ra_o hT) (ra_c hT) (ra_p hT), ?_⟩
        intro v904 lg900 it901 hq905
        have hI902 : IL lg900 it901 := il_8 hI hq905.1.1 hq905.1.2 (fun j hj => s8r_lt hj)
        have hC906 : RC lg900 it901 := rc_8 hC hq905.1.2 (fun j hj => by unfold S8r at hj; omega)
        have w913 := w9_8 hq905.1.2 (fun j hj => s8r_lt hj)
        refine ⟨_, f_X9_read  hI902.2 (by rw [w913]; exact ra_o hT), ?_⟩
        intro v911 lg907 it908 hq912
        rw [w913, tx9_8 hq905.1.2 (fun j hj => s8r_lt hj)] at hq912
        rw [tx_rd hT] at hq905
        have hI909 : IL lg907 it908 := il_9 hI902 hq912.1.1 hq912.1.2 (fun j hj => by unfold R9s D9s at hj; omega)
        have hT910 : RA lg907 it908 := ra_read hT _ (vo_rd (ra_o hT)) hq905.1.2 hq905.2.1.2 hq905.2.2.1 hq905.2.2.2 hq912.1.2 hq912.2.1.2 hq912.2.2 (fun j hj => by unfold R9s D9s at hj; omega) (fun k hk => by unfold R9f D9f at hk; omega)
        have hC914 : RC lg907 it908 := rc_9 hC906 hq912.1.2 (fun j hj => by unfold R9s D9s at hj; omega)
        have f915 : (x3 + Int32.ofInt 6).toInt = x3.toInt + 6 := ad32 rfl (by decide) (by omega) (by omega)
        exact ih18 ((x3 + Int32.ofInt 6)) _ _ hI909 hT910 hC914 (by omega) (by omega)
      · skip
        try have f916 : ((x3 + 1) : Int32).toInt = (x3).toInt + 1 := ad32 (a := (x3).toInt) (b := 1) (rfl) (ti_1) (by omega) (by omega)
        refine ⟨vp_of (by first | omega | ((try simp only [Int32.lt_iff_toInt_lt, Int32.le_iff_toInt_le, ← Int32.toInt_inj, Int32.toInt_toInt64, tiA, tlA]); omega)) (by first | omega | ((try simp only [Int32.lt_iff_toInt_lt, Int32.le_iff_toInt_le, ← Int32.toInt_inj, Int32.toInt_toInt64, tiA, tlA]); omega)), ?_⟩
        try have f918 : ((x3 + 2) : Int32).toInt = (x3).toInt + 2 := ad32 (a := (x3).toInt) (b := 2) (rfl) (ti_2) (by omega) (by omega)
        refine ⟨vp_of (by first | omega | ((try simp only [Int32.lt_iff_toInt_lt, Int32.le_iff_toInt_le, ← Int32.toInt_inj, Int32.toInt_toInt64, tiA, tlA]); omega)) (by first | omega | ((try simp only [Int32.lt_iff_toInt_lt, Int32.le_iff_toInt_le, ← Int32.toInt_inj, Int32.toInt_toInt64, tiA, tlA]); omega)), ?_⟩
        try have f920 : ((x3 + 3) : Int32).toInt = (x3).toInt + 3 := ad32 (a := (x3).toInt) (b := 3) (rfl) (ti_3) (by omega) (by omega)
        refine ⟨vp_of (by first | omega | ((try simp only [Int32.lt_iff_toInt_lt, Int32.le_iff_toInt_le, ← Int32.toInt_inj, Int32.toInt_toInt64, tiA, tlA]); omega)) (by first | omega | ((try simp only [Int32.lt_iff_toInt_lt, Int32.le_iff_toInt_le, ← Int32.toInt_inj, Int32.toInt_toInt64, tiA, tlA]); omega)), ?_⟩
        refine ⟨_, f_X8_of ((xs (x3 + 1).toNatClampNeg)) ((xs (x3 + 2).toNatClampNeg)) ((xs (x3 + 3).toNatClampNeg)) hI.1 _ (ra_v hT), ?_⟩
        intro v926 lg922 it923 hq927
        have hI924 : IL lg922 it923 := il_8 hI hq927.1.1 hq927.1.2 (fun j hj => by first | omega | exact False.elim hj | (dsimp only at hj; omega))
        have hT925 : RA lg922 it923 := ra_8 hT hq927.1.2 (fun j hj => by first | omega | exact False.elim hj | (dsimp only at hj; omega))
        have hC928 : RC lg922 it923 := rc_8 hC hq927.1.2 (fun j hj => by first | omega | exact False.elim hj | (dsimp only at hj; omega))
        try have f929 : ((x3 + 1) : Int32).toInt = (x3).toInt + 1 := ad32 (a := (x3).toInt) (b := 1) (rfl) (ti_1) (by omega) (by omega)
        refine ⟨vp_of (by first | omega | ((try simp only [Int32.lt_iff_toInt_lt, Int32.le_iff_toInt_le, ← Int32.toInt_inj, Int32.toInt_toInt64, tiA, tlA]); omega)) (by first | omega | ((try simp only [Int32.lt_iff_toInt_lt, Int32.le_iff_toInt_le, ← Int32.toInt_inj, Int32.toInt_toInt64, tiA, tlA]); omega)), ?_⟩
        try have f931 : ((x3 + 2) : Int32).toInt = (x3).toInt + 2 := ad32 (a := (x3).toInt) (b := 2) (rfl) (ti_2) (by omega) (by omega)
        refine ⟨vp_of (by first | omega | ((try simp only [Int32.lt_iff_toInt_lt, Int32.le_iff_toInt_le, ← Int32.toInt_inj, Int32.toInt_toInt64, tiA, tlA]); omega)) (by first | omega | ((try simp only [Int32.lt_iff_toInt_lt, Int32.le_iff_toInt_le, ← Int32.toInt_inj, Int32.toInt_toInt64, tiA, tlA]); omega)), ?_⟩
        try have f933 : ((x3 + 3) : Int32).toInt = (x3).toInt + 3 := ad32 (a := (x3).toInt) (b := 3) (rfl) (ti_3) (by omega) (by omega)
        refine ⟨vp_of (by first | omega | ((try simp only [Int32.lt_iff_toInt_lt, Int32.le_iff_toInt_le, ← Int32.toInt_inj, Int32.toInt_toInt64, tiA, tlA]); omega)) (by first | omega | ((try simp only [Int32.lt_iff_toInt_lt, Int32.le_iff_toInt_le, ← Int32.toInt_inj, Int32.toInt_toInt64, tiA, tlA]); omega)), ?_⟩
        refine ⟨_, s_X9_of ((xs (x3 + 1).toNatClampNeg)) ((xs (x3 + 2).toNatClampNeg)) ((xs (x3 + 3).toNatClampNeg)) hI924.2, ?_⟩
        intro v939 lg935 it936 hq940
        have hI937 : IL lg935 it936 := il_9 hI924 hq940.1 hq940.2 (fun j hj => by first | omega | exact False.elim hj | (dsimp only at hj; omega))
        have hT938 : RA lg935 it936 := ra_9 hT925 hq940.2 (fun j hj => by first | omega | exact False.elim hj | (dsimp only at hj; omega)) (fun j hj => by first | omega | exact False.elim hj | (dsimp only at hj; omega))
        have hC942 : RC lg935 it936 := rc_9 hC928 hq940.2 (fun j hj => by first | omega | exact False.elim hj | (dsimp only at hj; omega))
        have f943 : (x3 + Int32.ofInt 6).toInt = x3.toInt + 6 := ad32 rfl (by decide) (by omega) (by omega)
        exact ih18 ((x3 + Int32.ofInt 6)) _ _ hI937 hT938 hC942 (by omega) (by omega)
      · skip
        try have f944 : ((x3 + 1) : Int32).toInt = (x3).toInt + 1 := ad32 (a := (x3).toInt) (b := 1) (rfl) (ti_1) (by omega) (by omega)
        refine ⟨vp_of (by first | omega | ((try simp only [Int32.lt_iff_toInt_lt, Int32.le_iff_toInt_le, ← Int32.toInt_inj, Int32.toInt_toInt64, tiA, tlA]); omega)) (by first | omega | ((try simp only [Int32.lt_iff_toInt_lt, Int32.le_iff_toInt_le, ← Int32.toInt_inj, Int32.toInt_toInt64, tiA, tlA]); omega)), ?_⟩
        refine ⟨_, f_X8_told ((xs (x3 + 1).toNatClampNeg)) hI.1 _ (ra_v hT) (ra_o hT) (ra_c hT), ?_⟩
        intro v950 lg946 it947 hq951
        have hI948 : IL lg946 it947 := il_8 hI hq951.1.1 hq951.1.2 (fun j hj => by first | omega | exact False.elim hj | (dsimp only at hj; omega))
        have hT949 : RA lg946 it947 := ra_q hT hq951.1.2 hq951.2.2 (fun j hj => by first | omega | exact False.elim hj | (dsimp only at hj; omega))
        have hC952 : RC lg946 it947 := rc_8 hC hq951.1.2 (fun j hj => by first | omega | exact False.elim hj | (dsimp only at hj; omega))
        try have f953 : ((x3 + 1) : Int32).toInt = (x3).toInt + 1 := ad32 (a := (x3).toInt) (b := 1) (rfl) (ti_1) (by omega) (by omega)
        refine ⟨vp_of (by first | omega | ((try simp only [Int32.lt_iff_toInt_lt, Int32.le_iff_toInt_le, ← Int32.toInt_inj, Int32.toInt_toInt64, tiA, tlA]); omega)) (by first | omega | ((try simp only [Int32.lt_iff_toInt_lt, Int32.le_iff_toInt_le, ← Int32.toInt_inj, Int32.toInt_toInt64, tiA, tlA]); omega)), ?_⟩
        refine ⟨_, s_X9_told ((xs (x3 + 1).toNatClampNeg)) hI948.2, ?_⟩
        intro v959 lg955 it956 hq960
        have hI957 : IL lg955 it956 := il_9 hI948 hq960.1 hq960.2 (fun j hj => by first | omega | exact False.elim hj | (dsimp only at hj; omega))
        have hT958 : RA lg955 it956 := ra_9 hT949 hq960.2 (fun j hj => by first | omega | exact False.elim hj | (dsimp only at hj; omega)) (fun j hj => by first | omega | exact False.elim hj | (dsimp only at hj; omega))
        have hC962 : RC lg955 it956 := rc_9 hC952 hq960.2 (fun j hj => by first | omega | exact False.elim hj | (dsimp only at hj; omega))
        have f963 : (x3 + Int32.ofInt 6).toInt = x3.toInt + 6 := ad32 rfl (by decide) (by omega) (by omega)
        exact ih18 ((x3 + Int32.ofInt 6)) _ _ hI957 hT958 hC962 (by omega) (by omega)
      · skip
        try have f964 : ((x3 + 1) : Int32).toInt = (x3).toInt + 1 := ad32 (a := (x3).toInt) (b := 1) (rfl) (ti_1) (by omega) (by omega)
        refine ⟨vp_of (by first | omega | ((try simp only [Int32.lt_iff_toInt_lt, Int32.le_iff_toInt_le, ← Int32.toInt_inj, Int32.toInt_toInt64, tiA, tlA]); omega)) (by first | omega | ((try simp only [Int32.lt_iff_toInt_lt, Int32.le_iff_toInt_le, ← Int32.toInt_inj, Int32.toInt_toInt64, tiA, tlA]); omega)), ?_⟩
        try have f966 : ((x3 + 2) : Int32).toInt = (x3).toInt + 2 := ad32 (a := (x3).toInt) (b := 2) (rfl) (ti_2) (by omega) (by omega)
        refine ⟨vp_of (by first | omega | ((try simp only [Int32.lt_iff_toInt_lt, Int32.le_iff_toInt_le, ← Int32.toInt_inj, Int32.toInt_toInt64, tiA, tlA]); omega)) (by first | omega | ((try simp only [Int32.lt_iff_toInt_lt, Int32.le_iff_toInt_le, ← Int32.toInt_inj, Int32.toInt_toInt64, tiA, tlA]); omega)), ?_⟩
        refine ⟨_, s_X8_push ((xs (x3 + 1).toNatClampNeg)) ((xs (x3 + 2).toNatClampNeg)) hI.1, ?_⟩
        intro v972 lg968 it969 hq973
        have hI970 : IL lg968 it969 := il_8 hI hq973.1 hq973.2 (fun j hj => by first | omega | exact False.elim hj | (dsimp only at hj; omega))
        have hT971 : RA lg968 it969 := ra_8 hT hq973.2 (fun j hj => by first | omega | exact False.elim hj | (dsimp only at hj; omega))
        have hC974 : RC lg968 it969 := rc_8 hC hq973.2 (fun j hj => by first | omega | exact False.elim hj | (dsimp only at hj; omega))
        try have f975 : ((x3 + 1) : Int32).toInt = (x3).toInt + 1 := ad32 (a := (x3).toInt) (b := 1) (rfl) (ti_1) (by omega) (by omega)
        refine ⟨vp_of (by first | omega | ((try simp only [Int32.lt_iff_toInt_lt, Int32.le_iff_toInt_le, ← Int32.toInt_inj, Int32.toInt_toInt64, tiA, tlA]); omega)) (by first | omega | ((try simp only [Int32.lt_iff_toInt_lt, Int32.le_iff_toInt_le, ← Int32.toInt_inj, Int32.toInt_toInt64, tiA, tlA]); omega)), ?_⟩
        try have f977 : ((x3 + 2) : Int32).toInt = (x3).toInt + 2 := ad32 (a := (x3).toInt) (b := 2) (rfl) (ti_2) (by omega) (by omega)
        refine ⟨vp_of (by first | omega | ((try simp only [Int32.lt_iff_toInt_lt, Int32.le_iff_toInt_le, ← Int32.toInt_inj, Int32.toInt_toInt64, tiA, tlA]); omega)) (by first | omega | ((try simp only [Int32.lt_iff_toInt_lt, Int32.le_iff_toInt_le, ← Int32.toInt_inj, Int32.toInt_toInt64, tiA, tlA]); omega)), ?_⟩
        refine ⟨_, s_X9_push ((xs (x3 + 1).toNatClampNeg)) ((xs (x3 + 2).toNatClampNeg)) hI970.2, ?_⟩
        intro v983 lg979 it980 hq984
        have hI981 : IL lg979 it980 := il_9 hI970 hq984.1 hq984.2 (fun j hj => by first | omega | exact False.elim hj | (dsimp only at hj; omega))
        have hT982 : RA lg979 it980 := ra_9 hT971 hq984.2 (fun j hj => by first | omega | exact False.elim hj | (dsimp only at hj; omega)) (fun j hj => by first | omega | exact False.elim hj | (dsimp only at hj; omega))
        have hC986 : RC lg979 it980 := rc_9 hC974 hq984.2 (fun j hj => by first | omega | exact False.elim hj | (dsimp only at hj; omega))
        have f987 : (x3 + Int32.ofInt 6).toInt = x3.toInt + 6 := ad32 rfl (by decide) (by omega) (by omega)
        exact ih18 ((x3 + Int32.ofInt 6)) _ _ hI981 hT982 hC986 (by omega) (by omega)
      · skip
        try have f988 : ((x3 + 1) : Int32).toInt = (x3).toInt + 1 := ad32 (a := (x3).toInt) (b := 1) (rfl) (ti_1) (by omega) (by omega)
        refine ⟨vp_of (by first | omega | ((try simp only [Int32.lt_iff_toInt_lt, Int32.le_iff_toInt_le, ← Int32.toInt_inj, Int32.toInt_toInt64, tiA, tlA]); omega)) (by first | omega | ((try simp only [Int32.lt_iff_toInt_lt, Int32.le_iff_toInt_le, ← Int32.toInt_inj, Int32.toInt_toInt64, tiA, tlA]); omega)), ?_⟩
        refine ⟨_, f_X8_where ((xs (x3 + 1).toNatClampNeg)) hI.1 _ (ra_v hT) (ra_o hT) (ra_c hT), ?_⟩
        intro v994 lg990 it991 hq995
        have hI992 : IL lg990 it991 := il_8 hI hq995.1.1 hq995.1.2 (fun j hj => by first | omega | exact False.elim hj | (dsimp only at hj; omega))
        have hT993 : RA lg990 it991 := ra_q hT hq995.1.2 hq995.2.2 (fun j hj => by first | omega | exact False.elim hj | (dsimp only at hj; omega))
        have hC996 : RC lg990 it991 := rc_8 hC hq995.1.2 (fun j hj => by first | omega | exact False.elim hj | (dsimp only at hj; omega))
        try have f997 : ((x3 + 1) : Int32).toInt = (x3).toInt + 1 := ad32 (a := (x3).toInt) (b := 1) (rfl) (ti_1) (by omega) (by omega)
        refine ⟨vp_of (by first | omega | ((try simp only [Int32.lt_iff_toInt_lt, Int32.le_iff_toInt_le, ← Int32.toInt_inj, Int32.toInt_toInt64, tiA, tlA]); omega)) (by first | omega | ((try simp only [Int32.lt_iff_toInt_lt, Int32.le_iff_toInt_le, ← Int32.toInt_inj, Int32.toInt_toInt64, tiA, tlA]); omega)), ?_⟩
        refine ⟨_, s_X9_where ((xs (x3 + 1).toNatClampNeg)) hI992.2, ?_⟩
        intro v1003 lg999 it1000 hq1004
        have hI1001 : IL lg999 it1000 := il_9 hI992 hq1004.1 hq1004.2 (fun j hj => by first | omega | exact False.elim hj | (dsimp only at hj; omega))
        have hT1002 : RA lg999 it1000 := ra_9 hT993 hq1004.2 (fun j hj => by first | omega | exact False.elim hj | (dsimp only at hj; omega)) (fun j hj => by first | omega | exact False.elim hj | (dsimp only at hj; omega))
        have hC1006 : RC lg999 it1000 := rc_9 hC996 hq1004.2 (fun j hj => by first | omega | exact False.elim hj | (dsimp only at hj; omega))
        have f1007 : (x3 + Int32.ofInt 6).toInt = x3.toInt + 6 := ad32 rfl (by decide) (by omega) (by omega)
        exact ih18 ((x3 + Int32.ofInt 6)) _ _ hI1001 hT1002 hC1006 (by omega) (by omega)
      · skip
        try have f1008 : ((x3 + 1) : Int32).toInt = (x3).toInt + 1 := ad32 (a := (x3).toInt) (b := 1) (rfl) (ti_1) (by omega) (by omega)
        refine ⟨vp_of (by first | omega | ((try simp only [Int32.lt_iff_toInt_lt, Int32.le_iff_toInt_le, ← Int32.toInt_inj, Int32.toInt_toInt64, tiA, tlA]); omega)) (by first | omega | ((try simp only [Int32.lt_iff_toInt_lt, Int32.le_iff_toInt_le, ← Int32.toInt_inj, Int32.toInt_toInt64, tiA, tlA]); omega)), ?_⟩
        try have f1010 : ((x3 + 2) : Int32).toInt = (x3).toInt + 2 := ad32 (a := (x3).toInt) (b := 2) (rfl) (ti_2) (by omega) (by omega)
        refine ⟨vp_of (by first | omega | ((try simp only [Int32.lt_iff_toInt_lt, Int32.le_iff_toInt_le, ← Int32.toInt_inj, Int32.toInt_toInt64, tiA, tlA]); omega)) (by first | omega | ((try simp only [Int32.lt_iff_toInt_lt, Int32.le_iff_toInt_le, ← Int32.toInt_inj, Int32.toInt_toInt64, tiA, tlA]); omega)), ?_⟩
        refine ⟨_, f_X8_time ((xs (x3 + 1).toNatClampNeg)) ((xs (x3 + 2).toNatClampNeg)) hI.1 _ (ra_v hT) (ra_o hT) (ra_c hT), ?_⟩
        intro v1016 lg1012 it1013 hq1017
        have hI1014 : IL lg1012 it1013 := il_8 hI hq1017.1.1 hq1017.1.2 (fun j hj => by first | omega | exact False.elim hj | (dsimp only at hj; omega))
        have hT1015 : RA lg1012 it1013 := ra_q hT hq1017.1.2 hq1017.2.2 (fun j hj => by first | omega | exact False.elim hj | (dsimp only at hj; omega))
        have hC1018 : RC lg1012 it1013 := rc_8 hC hq1017.1.2 (fun j hj => by first | omega | exact False.elim hj | (dsimp only at hj; omega))
        try have f1019 : ((x3 + 1) : Int32).toInt = (x3).toInt + 1 := ad32 (a := (x3).toInt) (b := 1) (rfl) (ti_1) (by omega) (by omega)
        refine ⟨vp_of (by first | omega | ((try simp only [Int32.lt_iff_toInt_lt, Int32.le_iff_toInt_le, ← Int32.toInt_inj, Int32.toInt_toInt64, tiA, tlA]); omega)) (by first | omega | ((try simp only [Int32.lt_iff_toInt_lt, Int32.le_iff_toInt_le, ← Int32.toInt_inj, Int32.toInt_toInt64, tiA, tlA]); omega)), ?_⟩
        try have f1021 : ((x3 + 2) : Int32).toInt = (x3).toInt + 2 := ad32 (a := (x3).toInt) (b := 2) (rfl) (ti_2) (by omega) (by omega)
        refine ⟨vp_of (by first | omega | ((try simp only [Int32.lt_iff_toInt_lt, Int32.le_iff_toInt_le, ← Int32.toInt_inj, Int32.toInt_toInt64, tiA, tlA]); omega)) (by first | omega | ((try simp only [Int32.lt_iff_toInt_lt, Int32.le_iff_toInt_le, ← Int32.toInt_inj, Int32.toInt_toInt64, tiA, tlA]); omega)), ?_⟩
        refine ⟨_, s_X9_time ((xs (x3 + 1).toNatClampNeg)) ((xs (x3 + 2).toNatClampNeg)) hI1014.2, ?_⟩
        intro v1027 lg1023 it1024 hq1028
        have hI1025 : IL lg1023 it1024 := il_9 hI1014 hq1028.1 hq1028.2 (fun j hj => by first | omega | exact False.elim hj | (dsimp only at hj; omega))
        have hT1026 : RA lg1023 it1024 := ra_9 hT1015 hq1028.2 (fun j hj => by first | omega | exact False.elim hj | (dsimp only at hj; omega)) (fun j hj => by first | omega | exact False.elim hj | (dsimp only at hj; omega))
        have hC1030 : RC lg1023 it1024 := rc_9 hC1018 hq1028.2 (fun j hj => by first | omega | exact False.elim hj | (dsimp only at hj; omega))
        have f1031 : (x3 + Int32.ofInt 6).toInt = x3.toInt + 6 := ad32 rfl (by decide) (by omega) (by omega)
        exact ih18 ((x3 + Int32.ofInt 6)) _ _ hI1025 hT1026 hC1030 (by omega) (by omega)
      · skip
        try have f1032 : ((x3 + 1) : Int32).toInt = (x3).toInt + 1 := ad32 (a := (x3).toInt) (b := 1) (rfl) (ti_1) (by omega) (by omega)
        refine ⟨vp_of (by first | omega | ((try simp only [Int32.lt_iff_toInt_lt, Int32.le_iff_toInt_le, ← Int32.toInt_inj, Int32.toInt_toInt64, tiA, tlA]); omega)) (by first | omega | ((try simp only [Int32.lt_iff_toInt_lt, Int32.le_iff_toInt_le, ← Int32.toInt_inj, Int32.toInt_toInt64, tiA, tlA]); omega)), ?_⟩
        try have f1034 : ((x3 + 2) : Int32).toInt = (x3).toInt + 2 := ad32 (a := (x3).toInt) (b := 2) (rfl) (ti_2) (by omega) (by omega)
        refine ⟨vp_of (by first | omega | ((try simp only [Int32.lt_iff_toInt_lt, Int32.le_iff_toInt_le, ← Int32.toInt_inj, Int32.toInt_toInt64, tiA, tlA]); omega)) (by first | omega | ((try simp only [Int32.lt_iff_toInt_lt, Int32.le_iff_toInt_le, ← Int32.toInt_inj, Int32.toInt_toInt64, tiA, tlA]); omega)), ?_⟩
        try have f1036 : ((x3 + 3) : Int32).toInt = (x3).toInt + 3 := ad32 (a := (x3).toInt) (b := 3) (rfl) (ti_3) (by omega) (by omega)
        refine ⟨vp_of (by first | omega | ((try simp only [Int32.lt_iff_toInt_lt, Int32.le_iff_toInt_le, ← Int32.toInt_inj, Int32.toInt_toInt64, tiA, tlA]); omega)) (by first | omega | ((try simp only [Int32.lt_iff_toInt_lt, Int32.le_iff_toInt_le, ← Int32.toInt_inj, Int32.toInt_toInt64, tiA, tlA]); omega)), ?_⟩
        try have f1038 : ((x3 + 4) : Int32).toInt = (x3).toInt + 4 := ad32 (a := (x3).toInt) (b := 4) (rfl) (ti_4) (by omega) (by omega)
        refine ⟨vp_of (by first | omega | ((try simp only [Int32.lt_iff_toInt_lt, Int32.le_iff_toInt_le, ← Int32.toInt_inj, Int32.toInt_toInt64, tiA, tlA]); omega)) (by first | omega | ((try simp only [Int32.lt_iff_toInt_lt, Int32.le_iff_toInt_le, ← Int32.toInt_inj, Int32.toInt_toInt64, tiA, tlA]); omega)), ?_⟩
        refine ⟨_, f_X8_behind ((xs (x3 + 1).toNatClampNeg)) ((xs (x3 + 2).toNatClampNeg)) ((xs (x3 + 3).toNatClampNeg)) ((xs (x3 + 4).toNatClampNeg)) hI.1 _ (ra_v hT) (ra_o hT) (ra_c hT), ?_⟩
        intro v1044 lg1040 it1041 hq1045
        have hI1042 : IL lg1040 it1041 := il_8 hI hq1045.1.1 hq1045.1.2 (fun j hj => by first | omega | exact False.elim hj | (dsimp only at hj; omega))
        have hT1043 : RA lg1040 it1041 := ra_q hT hq1045.1.2 hq1045.2.2 (fun j hj => by first | omega | exact False.elim hj | (dsimp only at hj; omega))
        have hC1046 : RC lg1040 it1041 := rc_8 hC hq1045.1.2 (fun j hj => by first | omega | exact False.elim hj | (dsimp only at hj; omega))
        try have f1047 : ((x3 + 1) : Int32).toInt = (x3).toInt + 1 := ad32 (a := (x3).toInt) (b := 1) (rfl) (ti_1) (by omega) (by omega)
        refine ⟨vp_of (by first | omega | ((try simp only [Int32.lt_iff_toInt_lt, Int32.le_iff_toInt_le, ← Int32.toInt_inj, Int32.toInt_toInt64, tiA, tlA]); omega)) (by first | omega | ((try simp only [Int32.lt_iff_toInt_lt, Int32.le_iff_toInt_le, ← Int32.toInt_inj, Int32.toInt_toInt64, tiA, tlA]); omega)), ?_⟩
        try have f1049 : ((x3 + 2) : Int32).toInt = (x3).toInt + 2 := ad32 (a := (x3).toInt) (b := 2) (rfl) (ti_2) (by omega) (by omega)
        refine ⟨vp_of (by first | omega | ((try simp only [Int32.lt_iff_toInt_lt, Int32.le_iff_toInt_le, ← Int32.toInt_inj, Int32.toInt_toInt64, tiA, tlA]); omega)) (by first | omega | ((try simp only [Int32.lt_iff_toInt_lt, Int32.le_iff_toInt_le, ← Int32.toInt_inj, Int32.toInt_toInt64, tiA, tlA]); omega)), ?_⟩
        try have f1051 : ((x3 + 3) : Int32).toInt = (x3).toInt + 3 := ad32 (a := (x3).toInt) (b := 3) (rfl) (ti_3) (by omega) (by omega)
        refine ⟨vp_of (by first | omega | ((try simp only [Int32.lt_iff_toInt_lt, Int32.le_iff_toInt_le, ← Int32.toInt_inj, Int32.toInt_toInt64, tiA, tlA]); omega)) (by first | omega | ((try simp only [Int32.lt_iff_toInt_lt, Int32.le_iff_toInt_le, ← Int32.toInt_inj, Int32.toInt_toInt64, tiA, tlA]); omega)), ?_⟩
        try have f1053 : ((x3 + 4) : Int32).toInt = (x3).toInt + 4 := ad32 (a := (x3).toInt) (b := 4) (rfl) (ti_4) (by omega) (by omega)
        refine ⟨vp_of (by first | omega | ((try simp only [Int32.lt_iff_toInt_lt, Int32.le_iff_toInt_le, ← Int32.toInt_inj, Int32.toInt_toInt64, tiA, tlA]); omega)) (by first | omega | ((try simp only [Int32.lt_iff_toInt_lt, Int32.le_iff_toInt_le, ← Int32.toInt_inj, Int32.toInt_toInt64, tiA, tlA]); omega)), ?_⟩
        refine ⟨_, s_X9_behind ((xs (x3 + 1).toNatClampNeg)) ((xs (x3 + 2).toNatClampNeg)) ((xs (x3 + 3).toNatClampNeg)) ((xs (x3 + 4).toNatClampNeg)) hI1042.2, ?_⟩
        intro v1059 lg1055 it1056 hq1060
        have hI1057 : IL lg1055 it1056 := il_9 hI1042 hq1060.1 hq1060.2 (fun j hj => by first | omega | exact False.elim hj | (dsimp only at hj; omega))
        have hT1058 : RA lg1055 it1056 := ra_9 hT1043 hq1060.2 (fun j hj => by first | omega | exact False.elim hj | (dsimp only at hj; omega)) (fun j hj => by first | omega | exact False.elim hj | (dsimp only at hj; omega))
        have hC1062 : RC lg1055 it1056 := rc_9 hC1046 hq1060.2 (fun j hj => by first | omega | exact False.elim hj | (dsimp only at hj; omega))
        have f1063 : (x3 + Int32.ofInt 6).toInt = x3.toInt + 6 := ad32 rfl (by decide) (by omega) (by omega)
        exact ih18 ((x3 + Int32.ofInt 6)) _ _ hI1057 hT1058 hC1062 (by omega) (by omega)
      · skip
        try have f1064 : ((x3 + 1) : Int32).toInt = (x3).toInt + 1 := ad32 (a := (x3).toInt) (b := 1) (rfl) (ti_1) (by omega) (by omega)
        refine ⟨vp_of (by first | omega | ((try simp only [Int32.lt_iff_toInt_lt, Int32.le_iff_toInt_le, ← Int32.toInt_inj, Int32.toInt_toInt64, tiA, tlA]); omega)) (by first | omega | ((try simp only [Int32.lt_iff_toInt_lt, Int32.le_iff_toInt_le, ← Int32.toInt_inj, Int32.toInt_toInt64, tiA, tlA]); omega)), ?_⟩
        try have f1066 : ((x3 + 2) : Int32).toInt = (x3).toInt + 2 := ad32 (a := (x3).toInt) (b := 2) (rfl) (ti_2) (by omega) (by omega)
        refine ⟨vp_of (by first | omega | ((try simp only [Int32.lt_iff_toInt_lt, Int32.le_iff_toInt_le, ← Int32.toInt_inj, Int32.toInt_toInt64, tiA, tlA]); omega)) (by first | omega | ((try simp only [Int32.lt_iff_toInt_lt, Int32.le_iff_toInt_le, ← Int32.toInt_inj, Int32.toInt_toInt64, tiA, tlA]); omega)), ?_⟩
        refine ⟨_, c_X8_then ((xs (x3 + 1).toNatClampNeg)) ((xs (x3 + 2).toNatClampNeg)) hI.1 _ (ra_v hT) (ra_o hT) (ra_c hT), ?_⟩
        intro v1072 lg1068 it1069 hq1073
        have hI1070 : IL lg1068 it1069 := il_8 hI hq1073.1 hq1073.2.1 (fun j hj => by first | omega | exact False.elim hj | (dsimp only at hj; omega))
        have hT1071 : RA lg1068 it1069 := ra_q hT hq1073.2.1 hq1073.2.2.1 (fun j hj => by first | omega | exact False.elim hj | (dsimp only at hj; omega))
        have hC1074 : RC lg1068 it1069 := rc_8 hC hq1073.2.1 (fun j hj => by first | omega | exact False.elim hj | (dsimp only at hj; omega))
        try have f1075 : ((x3 + 1) : Int32).toInt = (x3).toInt + 1 := ad32 (a := (x3).toInt) (b := 1) (rfl) (ti_1) (by omega) (by omega)
        refine ⟨vp_of (by first | omega | ((try simp only [Int32.lt_iff_toInt_lt, Int32.le_iff_toInt_le, ← Int32.toInt_inj, Int32.toInt_toInt64, tiA, tlA]); omega)) (by first | omega | ((try simp only [Int32.lt_iff_toInt_lt, Int32.le_iff_toInt_le, ← Int32.toInt_inj, Int32.toInt_toInt64, tiA, tlA]); omega)), ?_⟩
        try have f1077 : ((x3 + 2) : Int32).toInt = (x3).toInt + 2 := ad32 (a := (x3).toInt) (b := 2) (rfl) (ti_2) (by omega) (by omega)
        refine ⟨vp_of (by first | omega | ((try simp only [Int32.lt_iff_toInt_lt, Int32.le_iff_toInt_le, ← Int32.toInt_inj, Int32.toInt_toInt64, tiA, tlA]); omega)) (by first | omega | ((try simp only [Int32.lt_iff_toInt_lt, Int32.le_iff_toInt_le, ← Int32.toInt_inj, Int32.toInt_toInt64, tiA, tlA]); omega)), ?_⟩
        refine ⟨_, s_X9_then ((xs (x3 + 1).toNatClampNeg)) ((xs (x3 + 2).toNatClampNeg)) hI1070.2, ?_⟩
        intro v1083 lg1079 it1080 hq1084
        have hI1081 : IL lg1079 it1080 := il_9 hI1070 hq1084.1 hq1084.2 (fun j hj => by first | omega | exact False.elim hj | (dsimp only at hj; omega))
        have hT1082 : RA lg1079 it1080 := ra_9 hT1071 hq1084.2 (fun j hj => by first | omega | exact False.elim hj | (dsimp only at hj; omega)) (fun j hj => by first | omega | exact False.elim hj | (dsimp only at hj; omega))
        have hC1086 : RC lg1079 it1080 := rc_9 hC1074 hq1084.2 (fun j hj => by first | omega | exact False.elim hj | (dsimp only at hj; omega))
        have f1087 : (x3 + Int32.ofInt 6).toInt = x3.toInt + 6 := ad32 rfl (by decide) (by omega) (by omega)
        exact ih18 ((x3 + Int32.ofInt 6)) _ _ hI1081 hT1082 hC1086 (by omega) (by omega)
      · skip
        try have f1088 : ((x3 + 1) : Int32).toInt = (x3).toInt + 1 := ad32 (a := (x3).toInt) (b := 1) (rfl) (ti_1) (by omega) (by omega)
        refine ⟨vp_of (by first | omega | ((try simp only [Int32.lt_iff_toInt_lt, Int32.le_iff_toInt_le, ← Int32.toInt_inj, Int32.toInt_toInt64, tiA, tlA]); omega)) (by first | omega | ((try simp only [Int32.lt_iff_toInt_lt, Int32.le_iff_toInt_le, ← Int32.toInt_inj, Int32.toInt_toInt64, tiA, tlA]); omega)), ?_⟩
        refine ⟨_, c_X8_often ((xs (x3 + 1).toNatClampNeg)) hI.1 _ (ra_v hT) (ra_o hT) (ra_c hT), ?_⟩
        intro v1094 lg1090 it1091 hq1095
        have hI1092 : IL lg1090 it1091 := il_8 hI hq1095.1 hq1095.2.1 (fun j hj => by first | omega | exact False.elim hj | (dsimp only at hj; omega))
        have hT1093 : RA lg1090 it1091 := ra_q hT hq1095.2.1 hq1095.2.2.1 (fun j hj => by first | omega | exact False.elim hj | (dsimp only at hj; omega))
        have hC1096 : RC lg1090 it1091 := rc_8 hC hq1095.2.1 (fun j hj => by first | omega | exact False.elim hj | (dsimp only at hj; omega))
        try have f1097 : ((x3 + 1) : Int32).toInt = (x3).toInt + 1 := ad32 (a := (x3).toInt) (b := 1) (rfl) (ti_1) (by omega) (by omega)
        refine ⟨vp_of (by first | omega | ((try simp only [Int32.lt_iff_toInt_lt, Int32.le_iff_toInt_le, ← Int32.toInt_inj, Int32.toInt_toInt64, tiA, tlA]); omega)) (by first | omega | ((try simp only [Int32.lt_iff_toInt_lt, Int32.le_iff_toInt_le, ← Int32.toInt_inj, Int32.toInt_toInt64, tiA, tlA]); omega)), ?_⟩
        refine ⟨_, s_X9_often ((xs (x3 + 1).toNatClampNeg)) hI1092.2, ?_⟩
        intro v1103 lg1099 it1100 hq1104
        have hI1101 : IL lg1099 it1100 := il_9 hI1092 hq1104.1 hq1104.2 (fun j hj => by first | omega | exact False.elim hj | (dsimp only at hj; omega))
        have hT1102 : RA lg1099 it1100 := ra_9 hT1093 hq1104.2 (fun j hj => by first | omega | exact False.elim hj | (dsimp only at hj; omega)) (fun j hj => by first | omega | exact False.elim hj | (dsimp only at hj; omega))
        have hC1106 : RC lg1099 it1100 := rc_9 hC1096 hq1104.2 (fun j hj => by first | omega | exact False.elim hj | (dsimp only at hj; omega))
        have f1107 : (x3 + Int32.ofInt 6).toInt = x3.toInt + 6 := ad32 rfl (by decide) (by omega) (by omega)
        exact ih18 ((x3 + Int32.ofInt 6)) _ _ hI1101 hT1102 hC1106 (by omega) (by omega)
      · skip
        try have f1108 : ((x3 + 1) : Int32).toInt = (x3).toInt + 1 := ad32 (a := (x3).toInt) (b := 1) (rfl) (ti_1) (by omega) (by omega)
        refine ⟨vp_of (by first | omega | ((try simp only [Int32.lt_iff_toInt_lt, Int32.le_iff_toInt_le, ← Int32.toInt_inj, Int32.toInt_toInt64, tiA, tlA]); omega)) (by first | omega | ((try simp only [Int32.lt_iff_toInt_lt, Int32.le_iff_toInt_le, ← Int32.toInt_inj, Int32.toInt_toInt64, tiA, tlA]); omega)), ?_⟩
        try have f1110 : ((x3 + 2) : Int32).toInt = (x3).toInt + 2 := ad32 (a := (x3).toInt) (b := 2) (rfl) (ti_2) (by omega) (by omega)
        refine ⟨vp_of (by first | omega | ((try simp only [Int32.lt_iff_toInt_lt, Int32.le_iff_toInt_le, ← Int32.toInt_inj, Int32.toInt_toInt64, tiA, tlA]); omega)) (by first | omega | ((try simp only [Int32.lt_iff_toInt_lt, Int32.le_iff_toInt_le, ← Int32.toInt_inj, Int32.toInt_toInt64, tiA, tlA]); omega)), ?_⟩
        try have f1112 : ((x3 + 3) : Int32).toInt = (x3).toInt + 3 := ad32 (a := (x3).toInt) (b := 3) (rfl) (ti_3) (by omega) (by omega)
        refine ⟨vp_of (by first | omega | ((try simp only [Int32.lt_iff_toInt_lt, Int32.le_iff_toInt_le, ← Int32.toInt_inj, Int32.toInt_toInt64, tiA, tlA]); omega)) (by first | omega | ((try simp only [Int32.lt_iff_toInt_lt, Int32.le_iff_toInt_le, ← Int32.toInt_inj, Int32.toInt_toInt64, tiA, tlA]); omega)), ?_⟩
        refine ⟨_, c_X8_at ((xs (x3 + 1).toNatClampNeg)) ((xs (x3 + 2).toNatClampNeg)) ((xs (x3 + 3).toNatClampNeg)) hI.1 _ (ra_v hT) (ra_o hT) (ra_c hT), ?_⟩
        intro v1118 lg1114 it1115 hq1119
        have hI1116 : IL lg1114 it1115 := il_8 hI hq1119.1 hq1119.2.1 (fun j hj => by first | omega | exact False.elim hj | (dsimp only at hj; omega))
        have hT1117 : RA lg1114 it1115 := ra_q hT hq1119.2.1 hq1119.2.2.1 (fun j hj => by first | omega | exact False.elim hj | (dsimp only at hj; omega))
        have hC1120 : RC lg1114 it1115 := rc_8 hC hq1119.2.1 (fun j hj => by first | omega | exact False.elim hj | (dsimp only at hj; omega))
        try have f1121 : ((x3 + 1) : Int32).toInt = (x3).toInt + 1 := ad32 (a := (x3).toInt) (b := 1) (rfl) (ti_1) (by omega) (by omega)
        refine ⟨vp_of (by first | omega | ((try simp only [Int32.lt_iff_toInt_lt, Int32.le_iff_toInt_le, ← Int32.toInt_inj, Int32.toInt_toInt64, tiA, tlA]); omega)) (by first | omega | ((try simp only [Int32.lt_iff_toInt_lt, Int32.le_iff_toInt_le, ← Int32.toInt_inj, Int32.toInt_toInt64, tiA, tlA]); omega)), ?_⟩
        try have f1123 : ((x3 + 2) : Int32).toInt = (x3).toInt + 2 := ad32 (a := (x3).toInt) (b := 2) (rfl) (ti_2) (by omega) (by omega)
        refine ⟨vp_of (by first | omega | ((try simp only [Int32.lt_iff_toInt_lt, Int32.le_iff_toInt_le, ← Int32.toInt_inj, Int32.toInt_toInt64, tiA, tlA]); omega)) (by first | omega | ((try simp only [Int32.lt_iff_toInt_lt, Int32.le_iff_toInt_le, ← Int32.toInt_inj, Int32.toInt_toInt64, tiA, tlA]); omega)), ?_⟩
        try have f1125 : ((x3 + 3) : Int32).toInt = (x3).toInt + 3 := ad32 (a := (x3).toInt) (b := 3) (rfl) (ti_3) (by omega) (by omega)
        refine ⟨vp_of (by first | omega | ((try simp only [Int32.lt_iff_toInt_lt, Int32.le_iff_toInt_le, ← Int32.toInt_inj, Int32.toInt_toInt64, tiA, tlA]); omega)) (by first | omega | ((try simp only [Int32.lt_iff_toInt_lt, Int32.le_iff_toInt_le, ← Int32.toInt_inj, Int32.toInt_toInt64, tiA, tlA]); omega)), ?_⟩
        refine ⟨_, s_X9_at ((xs (x3 + 1).toNatClampNeg)) ((xs (x3 + 2).toNatClampNeg)) ((xs (x3 + 3).toNatClampNeg)) hI1116.2, ?_⟩
        intro v1131 lg1127 it1128 hq1132
        have hI1129 : IL lg1127 it1128 := il_9 hI1116 hq1132.1 hq1132.2 (fun j hj => by first | omega | exact False.elim hj | (dsimp only at hj; omega))
        have hT1130 : RA lg1127 it1128 := ra_9 hT1117 hq1132.2 (fun j hj => by first | omega | exact False.elim hj | (dsimp only at hj; omega)) (fun j hj => by first | omega | exact False.elim hj | (dsimp only at hj; omega))
        have hC1134 : RC lg1127 it1128 := rc_9 hC1120 hq1132.2 (fun j hj => by first | omega | exact False.elim hj | (dsimp only at hj; omega))
        have f1135 : (x3 + Int32.ofInt 6).toInt = x3.toInt + 6 := ad32 rfl (by decide) (by omega) (by omega)
        exact ih18 ((x3 + Int32.ofInt 6)) _ _ hI1129 hT1130 hC1134 (by omega) (by omega)
      · skip
        try have f1136 : ((x3 + 1) : Int32).toInt = (x3).toInt + 1 := ad32 (a := (x3).toInt) (b := 1) (rfl) (ti_1) (by omega) (by omega)
        refine ⟨vp_of (by first | omega | ((try simp only [Int32.lt_iff_toInt_lt, Int32.le_iff_toInt_le, ← Int32.toInt_inj, Int32.toInt_toInt64, tiA, tlA]); omega)) (by first | omega | ((try simp only [Int32.lt_iff_toInt_lt, Int32.le_iff_toInt_le, ← Int32.toInt_inj, Int32.toInt_toInt64, tiA, tlA]); omega)), ?_⟩
        try have f1138 : ((x3 + 2) : Int32).toInt = (x3).toInt + 2 := ad32 (a := (x3).toInt) (b := 2) (rfl) (ti_2) (by omega) (by omega)
        refine ⟨vp_of (by first | omega | ((try simp only [Int32.lt_iff_toInt_lt, Int32.le_iff_toInt_le, ← Int32.toInt_inj, Int32.toInt_toInt64, tiA, tlA]); omega)) (by first | omega | ((try simp only [Int32.lt_iff_toInt_lt, Int32.le_iff_toInt_le, ← Int32.toInt_inj, Int32.toInt_toInt64, tiA, tlA]); omega)), ?_⟩
        refine ⟨_, f_X8_see ((xs (x3 + 1).toNatClampNeg)) ((xs (x3 + 2).toNatClampNeg)) hI.1, ?_⟩
        intro v1144 lg1140 it1141 hq1145
        have hI1142 : IL lg1140 it1141 := il_8 hI hq1145.1.1 hq1145.1.2 (fun j hj => by first | omega | exact False.elim hj | (dsimp only at hj; omega))
        have hT1143 : RA lg1140 it1141 := ra_st hT hq1145.1.2 (fun j hj => by first | omega | exact False.elim hj | (dsimp only at hj; omega)) hq1145.2.2
        have hC1146 : RC lg1140 it1141 := rc_8 hC hq1145.1.2 (fun j hj => by first | omega | exact False.elim hj | (dsimp only at hj; omega))
        try have f1147 : ((x3 + 1) : Int32).toInt = (x3).toInt + 1 := ad32 (a := (x3).toInt) (b := 1) (rfl) (ti_1) (by omega) (by omega)
        refine ⟨vp_of (by first | omega | ((try simp only [Int32.lt_iff_toInt_lt, Int32.le_iff_toInt_le, ← Int32.toInt_inj, Int32.toInt_toInt64, tiA, tlA]); omega)) (by first | omega | ((try simp only [Int32.lt_iff_toInt_lt, Int32.le_iff_toInt_le, ← Int32.toInt_inj, Int32.toInt_toInt64, tiA, tlA]); omega)), ?_⟩
        try have f1149 : ((x3 + 2) : Int32).toInt = (x3).toInt + 2 := ad32 (a := (x3).toInt) (b := 2) (rfl) (ti_2) (by omega) (by omega)
        refine ⟨vp_of (by first | omega | ((try simp only [Int32.lt_iff_toInt_lt, Int32.le_iff_toInt_le, ← Int32.toInt_inj, Int32.toInt_toInt64, tiA, tlA]); omega)) (by first | omega | ((try simp only [Int32.lt_iff_toInt_lt, Int32.le_iff_toInt_le, ← Int32.toInt_inj, Int32.toInt_toInt64, tiA, tlA]); omega)), ?_⟩
        refine ⟨_, s_X9_see ((xs (x3 + 1).toNatClampNeg)) ((xs (x3 + 2).toNatClampNeg)) hI1142.2, ?_⟩
        intro v1155 lg1151 it1152 hq1156
        have hI1153 : IL lg1151 it1152 := il_9 hI1142 hq1156.1 hq1156.2 (fun j hj => by first | omega | exact False.elim hj | (dsimp only at hj; omega))
        have hT1154 : RA lg1151 it1152 := ra_9 hT1143 hq1156.2 (fun j hj => by first | omega | exact False.elim hj | (dsimp only at hj; omega)) (fun j hj => by first | omega | exact False.elim hj | (dsimp only at hj; omega))
        have hC1158 : RC lg1151 it1152 := rc_9 hC1146 hq1156.2 (fun j hj => by first | omega | exact False.elim hj | (dsimp only at hj; omega))
        have f1159 : (x3 + Int32.ofInt 6).toInt = x3.toInt + 6 := ad32 rfl (by decide) (by omega) (by omega)
        exact ih18 ((x3 + Int32.ofInt 6)) _ _ hI1153 hT1154 hC1158 (by omega) (by omega)
      · skip
        try have f1160 : ((x3 + 1) : Int32).toInt = (x3).toInt + 1 := ad32 (a := (x3).toInt) (b := 1) (rfl) (ti_1) (by omega) (by omega)
        refine ⟨vp_of (by first | omega | ((try simp only [Int32.lt_iff_toInt_lt, Int32.le_iff_toInt_le, ← Int32.toInt_inj, Int32.toInt_toInt64, tiA, tlA]); omega)) (by first | omega | ((try simp only [Int32.lt_iff_toInt_lt, Int32.le_iff_toInt_le, ← Int32.toInt_inj, Int32.toInt_toInt64, tiA, tlA]); omega)), ?_⟩
        try have f1162 : ((x3 + 2) : Int32).toInt = (x3).toInt + 2 := ad32 (a := (x3).toInt) (b := 2) (rfl) (ti_2) (by omega) (by omega)
        refine ⟨vp_of (by first | omega | ((try simp only [Int32.lt_iff_toInt_lt, Int32.le_iff_toInt_le, ← Int32.toInt_inj, Int32.toInt_toInt64, tiA, tlA]); omega)) (by first | omega | ((try simp only [Int32.lt_iff_toInt_lt, Int32.le_iff_toInt_le, ← Int32.toInt_inj, Int32.toInt_toInt64, tiA, tlA]); omega)), ?_⟩
        refine ⟨_, c_X8_fits ((xs (x3 + 1).toNatClampNeg)) ((xs (x3 + 2).toNatClampNeg)) hI.1 _ (ra_v hT) (ra_o hT) (ra_c hT) (ra_l hT).1, ?_⟩
        intro v1168 lg1164 it1165 hq1169
        have hI1166 : IL lg1164 it1165 := il_8 hI hq1169.1 hq1169.2.1 (fun j hj => by first | omega | exact False.elim hj | (dsimp only at hj; omega))
        have hT1167 : RA lg1164 it1165 := ra_q hT hq1169.2.1 hq1169.2.2.1 (fun j hj => by first | omega | exact False.elim hj | (dsimp only at hj; omega))
        have hC1170 : RC lg1164 it1165 := rc_8 hC hq1169.2.1 (fun j hj => by first | omega | exact False.elim hj | (dsimp only at hj; omega))
        try have f1171 : ((x3 + 1) : Int32).toInt = (x3).toInt + 1 := ad32 (a := (x3).toInt) (b := 1) (rfl) (ti_1) (by omega) (by omega)
        refine ⟨vp_of (by first | omega | ((try simp only [Int32.lt_iff_toInt_lt, Int32.le_iff_toInt_le, ← Int32.toInt_inj, Int32.toInt_toInt64, tiA, tlA]); omega)) (by first | omega | ((try simp only [Int32.lt_iff_toInt_lt, Int32.le_iff_toInt_le, ← Int32.toInt_inj, Int32.toInt_toInt64, tiA, tlA]); omega)), ?_⟩
        try have f1173 : ((x3 + 2) : Int32).toInt = (x3).toInt + 2 := ad32 (a := (x3).toInt) (b := 2) (rfl) (ti_2) (by omega) (by omega)
        refine ⟨vp_of (by first | omega | ((try simp only [Int32.lt_iff_toInt_lt, Int32.le_iff_toInt_le, ← Int32.toInt_inj, Int32.toInt_toInt64, tiA, tlA]); omega)) (by first | omega | ((try simp only [Int32.lt_iff_toInt_lt, Int32.le_iff_toInt_le, ← Int32.toInt_inj, Int32.toInt_toInt64, tiA, tlA]); omega)), ?_⟩
        refine ⟨_, s_X9_fits ((xs (x3 + 1).toNatClampNeg)) ((xs (x3 + 2).toNatClampNeg)) hI1166.2, ?_⟩
        intro v1179 lg1175 it1176 hq1180
        have hI1177 : IL lg1175 it1176 := il_9 hI1166 hq1180.1 hq1180.2 (fun j hj => by first | omega | exact False.elim hj | (dsimp only at hj; omega))
        have hT1178 : RA lg1175 it1176 := ra_9 hT1167 hq1180.2 (fun j hj => by first | omega | exact False.elim hj | (dsimp only at hj; omega)) (fun j hj => by first | omega | exact False.elim hj | (dsimp only at hj; omega))
        have hC1182 : RC lg1175 it1176 := rc_9 hC1170 hq1180.2 (fun j hj => by first | omega | exact False.elim hj | (dsimp only at hj; omega))
        have f1183 : (x3 + Int32.ofInt 6).toInt = x3.toInt + 6 := ad32 rfl (by decide) (by omega) (by omega)
        exact ih18 ((x3 + Int32.ofInt 6)) _ _ hI1177 hT1178 hC1182 (by omega) (by omega)
      · skip
        try have f1184 : ((x3 + 1) : Int32).toInt = (x3).toInt + 1 := ad32 (a := (x3).toInt) (b := 1) (rfl) (ti_1) (by omega) (by omega)
        refine ⟨vp_of (by first | omega | ((try simp only [Int32.lt_iff_toInt_lt, Int32.le_iff_toInt_le, ← Int32.toInt_inj, Int32.toInt_toInt64, tiA, tlA]); omega)) (by first | omega | ((try simp only [Int32.lt_iff_toInt_lt, Int32.le_iff_toInt_le, ← Int32.toInt_inj, Int32.toInt_toInt64, tiA, tlA]); omega)), ?_⟩
        try have f1186 : ((x3 + 2) : Int32).toInt = (x3).toInt + 2 := ad32 (a := (x3).toInt) (b := 2) (rfl) (ti_2) (by omega) (by omega)
        refine ⟨vp_of (by first | omega | ((try simp only [Int32.lt_iff_toInt_lt, Int32.le_iff_toInt_le, ← Int32.toInt_inj, Int32.toInt_toInt64, tiA, tlA]); omega)) (by first | omega | ((try simp only [Int32.lt_iff_toInt_lt, Int32.le_iff_toInt_le, ← Int32.toInt_inj, Int32.toInt_toInt64, tiA, tlA]); omega)), ?_⟩
        refine ⟨_, c_X8_odds ((xs (x3 + 1).toNatClampNeg)) ((xs (x3 + 2).toNatClampNeg)) hI.1 _ (ra_v hT) (ra_o hT) (ra_c hT), ?_⟩
        intro v1192 lg1188 it1189 hq1193
        have hI1190 : IL lg1188 it1189 := il_8 hI hq1193.1 hq1193.2.1 (fun j hj => by first | omega | exact False.elim hj | (dsimp only at hj; omega))
        have hT1191 : RA lg1188 it1189 := ra_q hT hq1193.2.1 hq1193.2.2.1 (fun j hj => by first | omega | exact False.elim hj | (dsimp only at hj; omega))
        have hC1194 : RC lg1188 it1189 := rc_8 hC hq1193.2.1 (fun j hj => by first | omega | exact False.elim hj | (dsimp only at hj; omega))
        try have f1195 : ((x3 + 1) : Int32).toInt = (x3).toInt + 1 := ad32 (a := (x3).toInt) (b := 1) (rfl) (ti_1) (by omega) (by omega)
        refine ⟨vp_of (by first | omega | ((try simp only [Int32.lt_iff_toInt_lt, Int32.le_iff_toInt_le, ← Int32.toInt_inj, Int32.toInt_toInt64, tiA, tlA]); omega)) (by first | omega | ((try simp only [Int32.lt_iff_toInt_lt, Int32.le_iff_toInt_le, ← Int32.toInt_inj, Int32.toInt_toInt64, tiA, tlA]); omega)), ?_⟩
        try have f1197 : ((x3 + 2) : Int32).toInt = (x3).toInt + 2 := ad32 (a := (x3).toInt) (b := 2) (rfl) (ti_2) (by omega) (by omega)
        refine ⟨vp_of (by first | omega | ((try simp only [Int32.lt_iff_toInt_lt, Int32.le_iff_toInt_le, ← Int32.toInt_inj, Int32.toInt_toInt64, tiA, tlA]); omega)) (by first | omega | ((try simp only [Int32.lt_iff_toInt_lt, Int32.le_iff_toInt_le, ← Int32.toInt_inj, Int32.toInt_toInt64, tiA, tlA]); omega)), ?_⟩
        refine ⟨_, s_X9_odds ((xs (x3 + 1).toNatClampNeg)) ((xs (x3 + 2).toNatClampNeg)) hI1190.2, ?_⟩
        intro v1203 lg1199 it1200 hq1204
        have hI1201 : IL lg1199 it1200 := il_9 hI1190 hq1204.1 hq1204.2 (fun j hj => by first | omega | exact False.elim hj | (dsimp only at hj; omega))
        have hT1202 : RA lg1199 it1200 := ra_9 hT1191 hq1204.2 (fun j hj => by first | omega | exact False.elim hj | (dsimp only at hj; omega)) (fun j hj => by first | omega | exact False.elim hj | (dsimp only at hj; omega))
        have hC1206 : RC lg1199 it1200 := rc_9 hC1194 hq1204.2 (fun j hj => by first | omega | exact False.elim hj | (dsimp only at hj; omega))
        have f1207 : (x3 + Int32.ofInt 6).toInt = x3.toInt + 6 := ad32 rfl (by decide) (by omega) (by omega)
        exact ih18 ((x3 + Int32.ofInt 6)) _ _ hI1201 hT1202 hC1206 (by omega) (by omega)
      · skip
        try have f1208 : ((x3 + 1) : Int32).toInt = (x3).toInt + 1 := ad32 (a := (x3).toInt) (b := 1) (rfl) (ti_1) (by omega) (by omega)
        refine ⟨vp_of (by first | omega | ((try simp only [Int32.lt_iff_toInt_lt, Int32.le_iff_toInt_le, ← Int32.toInt_inj, Int32.toInt_toInt64, tiA, tlA]); omega)) (by first | omega | ((try simp only [Int32.lt_iff_toInt_lt, Int32.le_iff_toInt_le, ← Int32.toInt_inj, Int32.toInt_toInt64, tiA, tlA]); omega)), ?_⟩
        refine ⟨_, s_X8_mean ((xs (x3 + 1).toNatClampNeg)) hI.1, ?_⟩
        intro v1214 lg1210 it1211 hq1215
        have hI1212 : IL lg1210 it1211 := il_8 hI hq1215.1 hq1215.2 (fun j hj => by first | omega | exact False.elim hj | (dsimp only at hj; omega))
        have hT1213 : RA lg1210 it1211 := ra_8 hT hq1215.2 (fun j hj => by first | omega | exact False.elim hj | (dsimp only at hj; omega))
        have hC1216 : RC lg1210 it1211 := rc_8 hC hq1215.2 (fun j hj => by first | omega | exact False.elim hj | (dsimp only at hj; omega))
        try have f1217 : ((x3 + 1) : Int32).toInt = (x3).toInt + 1 := ad32 (a := (x3).toInt) (b := 1) (rfl) (ti_1) (by omega) (by omega)
        refine ⟨vp_of (by first | omega | ((try simp only [Int32.lt_iff_toInt_lt, Int32.le_iff_toInt_le, ← Int32.toInt_inj, Int32.toInt_toInt64, tiA, tlA]); omega)) (by first | omega | ((try simp only [Int32.lt_iff_toInt_lt, Int32.le_iff_toInt_le, ← Int32.toInt_inj, Int32.toInt_toInt64, tiA, tlA]); omega)), ?_⟩
        refine ⟨_, s_X9_mean ((xs (x3 + 1).toNatClampNeg)) hI1212.2, ?_⟩
        intro v1223 lg1219 it1220 hq1224
        have hI1221 : IL lg1219 it1220 := il_9 hI1212 hq1224.1 hq1224.2 (fun j hj => by first | omega | exact False.elim hj | (dsimp only at hj; omega))
        have hT1222 : RA lg1219 it1220 := ra_9 hT1213 hq1224.2 (fun j hj => by first | omega | exact False.elim hj | (dsimp only at hj; omega)) (fun j hj => by first | omega | exact False.elim hj | (dsimp only at hj; omega))
        have hC1226 : RC lg1219 it1220 := rc_9 hC1216 hq1224.2 (fun j hj => by first | omega | exact False.elim hj | (dsimp only at hj; omega))
        have f1227 : (x3 + Int32.ofInt 6).toInt = x3.toInt + 6 := ad32 rfl (by decide) (by omega) (by omega)
        exact ih18 ((x3 + Int32.ofInt 6)) _ _ hI1221 hT1222 hC1226 (by omega) (by omega)
      · skip
        try have f1228 : ((x3 + 1) : Int32).toInt = (x3).toInt + 1 := ad32 (a := (x3).toInt) (b := 1) (rfl) (ti_1) (by omega) (by omega)
        refine ⟨vp_of (by first | omega | ((try simp only [Int32.lt_iff_toInt_lt, Int32.le_iff_toInt_le, ← Int32.toInt_inj, Int32.toInt_toInt64, tiA, tlA]); omega)) (by first | omega | ((try simp only [Int32.lt_iff_toInt_lt, Int32.le_iff_toInt_le, ← Int32.toInt_inj, Int32.toInt_toInt64, tiA, tlA]); omega)), ?_⟩
        try have f1230 : ((x3 + 2) : Int32).toInt = (x3).toInt + 2 := ad32 (a := (x3).toInt) (b := 2) (rfl) (ti_2) (by omega) (by omega)
        refine ⟨vp_of (by first | omega | ((try simp only [Int32.lt_iff_toInt_lt, Int32.le_iff_toInt_le, ← Int32.toInt_inj, Int32.toInt_toInt64, tiA, tlA]); omega)) (by first | omega | ((try simp only [Int32.lt_iff_toInt_lt, Int32.le_iff_toInt_le, ← Int32.toInt_inj, Int32.toInt_toInt64, tiA, tlA]); omega)), ?_⟩
        refine ⟨_, f_X8_event ((xs (x3 + 1).toNatClampNeg)) ((xs (x3 + 2).toNatClampNeg)) hI.1 _ (ra_v hT), ?_⟩
        intro v1236 lg1232 it1233 hq1237
        have hI1234 : IL lg1232 it1233 := il_8 hI hq1237.1.1 hq1237.1.2 (fun j hj => by first | omega | exact False.elim hj | (dsimp only at hj; omega))
        have hT1235 : RA lg1232 it1233 := ra_ev hT hq1237.1.2 (fun j hj => by first | omega | exact False.elim hj | (dsimp only at hj; omega)) hq1237.2.2
        have hC1238 : RC lg1232 it1233 := rc_8 hC hq1237.1.2 (fun j hj => by first | omega | exact False.elim hj | (dsimp only at hj; omega))
        try have f1239 : ((x3 + 1) : Int32).toInt = (x3).toInt + 1 := ad32 (a := (x3).toInt) (b := 1) (rfl) (ti_1) (by omega) (by omega)
        refine ⟨vp_of (by first | omega | ((try simp only [Int32.lt_iff_toInt_lt, Int32.le_iff_toInt_le, ← Int32.toInt_inj, Int32.toInt_toInt64, tiA, tlA]); omega)) (by first | omega | ((try simp only [Int32.lt_iff_toInt_lt, Int32.le_iff_toInt_le, ← Int32.toInt_inj, Int32.toInt_toInt64, tiA, tlA]); omega)), ?_⟩
        try have f1241 : ((x3 + 2) : Int32).toInt = (x3).toInt + 2 := ad32 (a := (x3).toInt) (b := 2) (rfl) (ti_2) (by omega) (by omega)
        refine ⟨vp_of (by first | omega | ((try simp only [Int32.lt_iff_toInt_lt, Int32.le_iff_toInt_le, ← Int32.toInt_inj, Int32.toInt_toInt64, tiA, tlA]); omega)) (by first | omega | ((try simp only [Int32.lt_iff_toInt_lt, Int32.le_iff_toInt_le, ← Int32.toInt_inj, Int32.toInt_toInt64, tiA, tlA]); omega)), ?_⟩
        refine ⟨_, s_X9_event ((xs (x3 + 1).toNatClampNeg)) ((xs (x3 + 2).toNatClampNeg)) hI1234.2, ?_⟩
        intro v1247 lg1243 it1244 hq1248
        have hI1245 : IL lg1243 it1244 := il_9 hI1234 hq1248.1 hq1248.2 (fun j hj => by first | omega | exact False.elim hj | (dsimp only at hj; omega))
        have hT1246 : RA lg1243 it1244 := ra_9 hT1235 hq1248.2 (fun j hj => by first | omega | exact False.elim hj | (dsimp only at hj; omega)) (fun j hj => by first | omega | exact False.elim hj | (dsimp only at hj; omega))
        have hC1250 : RC lg1243 it1244 := rc_9 hC1238 hq1248.2 (fun j hj => by first | omega | exact False.elim hj | (dsimp only at hj; omega))
        have f1251 : (x3 + Int32.ofInt 6).toInt = x3.toInt + 6 := ad32 rfl (by decide) (by omega) (by omega)
        exact ih18 ((x3 + Int32.ofInt 6)) _ _ hI1245 hT1246 hC1250 (by omega) (by omega)
      · skip
        try have f1252 : ((x3 + 1) : Int32).toInt = (x3).toInt + 1 := ad32 (a := (x3).toInt) (b := 1) (rfl) (ti_1) (by omega) (by omega)
        refine ⟨vp_of (by first | omega | ((try simp only [Int32.lt_iff_toInt_lt, Int32.le_iff_toInt_le, ← Int32.toInt_inj, Int32.toInt_toInt64, tiA, tlA]); omega)) (by first | omega | ((try simp only [Int32.lt_iff_toInt_lt, Int32.le_iff_toInt_le, ← Int32.toInt_inj, Int32.toInt_toInt64, tiA, tlA]); omega)), ?_⟩
        refine ⟨_, c_X8_after ((xs (x3 + 1).toNatClampNeg)) hI.1 _ (ra_v hT) (ra_o hT) (ra_c hT) (ra_l hT).2.2.1, ?_⟩
        intro v1258 lg1254 it1255 hq1259
        have hI1256 : IL lg1254 it1255 := il_8 hI hq1259.1.1 hq1259.1.2.1 (fun j hj => by first | omega | exact False.elim hj | (dsimp only at hj; omega))
        have hT1257 : RA lg1254 it1255 := ra_q hT hq1259.1.2.1 hq1259.1.2.2.1 (fun j hj => by first | omega | exact False.elim hj | (dsimp only at hj; omega))
        have hC1260 : RC lg1254 it1255 := rc_8 hC hq1259.1.2.1 (fun j hj => by first | omega | exact False.elim hj | (dsimp only at hj; omega))
        try have f1261 : ((x3 + 1) : Int32).toInt = (x3).toInt + 1 := ad32 (a := (x3).toInt) (b := 1) (rfl) (ti_1) (by omega) (by omega)
        refine ⟨vp_of (by first | omega | ((try simp only [Int32.lt_iff_toInt_lt, Int32.le_iff_toInt_le, ← Int32.toInt_inj, Int32.toInt_toInt64, tiA, tlA]); omega)) (by first | omega | ((try simp only [Int32.lt_iff_toInt_lt, Int32.le_iff_toInt_le, ← Int32.toInt_inj, Int32.toInt_toInt64, tiA, tlA]); omega)), ?_⟩
        refine ⟨_, s_X9_after ((xs (x3 + 1).toNatClampNeg)) hI1256.2, ?_⟩
        intro v1267 lg1263 it1264 hq1268
        have hI1265 : IL lg1263 it1264 := il_9 hI1256 hq1268.1 hq1268.2 (fun j hj => by first | omega | exact False.elim hj | (dsimp only at hj; omega))
        have hT1266 : RA lg1263 it1264 := ra_9 hT1257 hq1268.2 (fun j hj => by first | omega | exact False.elim hj | (dsimp only at hj; omega)) (fun j hj => by first | omega | exact False.elim hj | (dsimp only at hj; omega))
        have hC1270 : RC lg1263 it1264 := rc_9 hC1260 hq1268.2 (fun j hj => by first | omega | exact False.elim hj | (dsimp only at hj; omega))
        have f1271 : (x3 + Int32.ofInt 6).toInt = x3.toInt + 6 := ad32 rfl (by decide) (by omega) (by omega)
        exact ih18 ((x3 + Int32.ofInt 6)) _ _ hI1265 hT1266 hC1270 (by omega) (by omega)
      · skip
        try have f1272 : ((x3 + 1) : Int32).toInt = (x3).toInt + 1 := ad32 (a := (x3).toInt) (b := 1) (rfl) (ti_1) (by omega) (by omega)
        refine ⟨vp_of (by first | omega | ((try simp only [Int32.lt_iff_toInt_lt, Int32.le_iff_toInt_le, ← Int32.toInt_inj, Int32.toInt_toInt64, tiA, tlA]); omega)) (by first | omega | ((try simp only [Int32.lt_iff_toInt_lt, Int32.le_iff_toInt_le, ← Int32.toInt_inj, Int32.toInt_toInt64, tiA, tlA]); omega)), ?_⟩
        try have f1274 : ((x3 + 2) : Int32).toInt = (x3).toInt + 2 := ad32 (a := (x3).toInt) (b := 2) (rfl) (ti_2) (by omega) (by omega)
        refine ⟨vp_of (by first | omega | ((try simp only [Int32.lt_iff_toInt_lt, Int32.le_iff_toInt_le, ← Int32.toInt_inj, Int32.toInt_toInt64, tiA, tlA]); omega)) (by first | omega | ((try simp only [Int32.lt_iff_toInt_lt, Int32.le_iff_toInt_le, ← Int32.toInt_inj, Int32.toInt_toInt64, tiA, tlA]); omega)), ?_⟩
        refine ⟨_, s_X8_book ((xs (x3 + 1).toNatClampNeg)) ((xs (x3 + 2).toNatClampNeg)) hI.1, ?_⟩
        intro v1280 lg1276 it1277 hq1281
        have hI1278 : IL lg1276 it1277 := il_8 hI hq1281.1 hq1281.2 (fun j hj => by first | omega | exact False.elim hj | (dsimp only at hj; omega))
        have hT1279 : RA lg1276 it1277 := ra_8 hT hq1281.2 (fun j hj => by first | omega | exact False.elim hj | (dsimp only at hj; omega))
        have hC1282 : RC lg1276 it1277 := rc_8 hC hq1281.2 (fun j hj => by first | omega | exact False.elim hj | (dsimp only at hj; omega))
        try have f1283 : ((x3 + 1) : Int32).toInt = (x3).toInt + 1 := ad32 (a := (x3).toInt) (b := 1) (rfl) (ti_1) (by omega) (by omega)
        refine ⟨vp_of (by first | omega | ((try simp only [Int32.lt_iff_toInt_lt, Int32.le_iff_toInt_le, ← Int32.toInt_inj, Int32.toInt_toInt64, tiA, tlA]); omega)) (by first | omega | ((try simp only [Int32.lt_iff_toInt_lt, Int32.le_iff_toInt_le, ← Int32.toInt_inj, Int32.toInt_toInt64, tiA, tlA]); omega)), ?_⟩
        try have f1285 : ((x3 + 2) : Int32).toInt = (x3).toInt + 2 := ad32 (a := (x3).toInt) (b := 2) (rfl) (ti_2) (by omega) (by omega)
        refine ⟨vp_of (by first | omega | ((try simp only [Int32.lt_iff_toInt_lt, Int32.le_iff_toInt_le, ← Int32.toInt_inj, Int32.toInt_toInt64, tiA, tlA]); omega)) (by first | omega | ((try simp only [Int32.lt_iff_toInt_lt, Int32.le_iff_toInt_le, ← Int32.toInt_inj, Int32.toInt_toInt64, tiA, tlA]); omega)), ?_⟩
        refine ⟨_, s_X9_book ((xs (x3 + 1).toNatClampNeg)) ((xs (x3 + 2).toNatClampNeg)) hI1278.2, ?_⟩
        intro v1291 lg1287 it1288 hq1292
        have hI1289 : IL lg1287 it1288 := il_9 hI1278 hq1292.1 hq1292.2 (fun j hj => by first | omega | exact False.elim hj | (dsimp only at hj; omega))
        have hT1290 : RA lg1287 it1288 := ra_9 hT1279 hq1292.2 (fun j hj => by first | omega | exact False.elim hj | (dsimp only at hj; omega)) (fun j hj => by first | omega | exact False.elim hj | (dsimp only at hj; omega))
        have hC1294 : RC lg1287 it1288 := rc_9 hC1282 hq1292.2 (fun j hj => by first | omega | exact False.elim hj | (dsimp only at hj; omega))
        have f1295 : (x3 + Int32.ofInt 6).toInt = x3.toInt + 6 := ad32 rfl (by decide) (by omega) (by omega)
        exact ih18 ((x3 + Int32.ofInt 6)) _ _ hI1289 hT1290 hC1294 (by omega) (by omega)
      · skip
        refine ⟨_, c_X8_looked  hI.1 _ (ra_v hT) (ra_o hT) (ra_c hT), ?_⟩
        intro v1300 lg1296 it1297 hq1301
        have hI1298 : IL lg1296 it1297 := il_8 hI hq1301.1 hq1301.2.1 (fun j hj => by first | omega | exact False.elim hj | (dsimp only at hj; omega))
        have hT1299 : RA lg1296 it1297 := ra_q hT hq1301.2.1 hq1301.2.2.1 (fun j hj => by first | omega | exact False.elim hj | (dsimp only at hj; omega))
        have hC1302 : RC lg1296 it1297 := rc_8 hC hq1301.2.1 (fun j hj => by first | omega | exact False.elim hj | (dsimp only at hj; omega))
        refine ⟨_, s_X9_looked  hI1298.2, ?_⟩
        intro v1307 lg1303 it1304 hq1308
        have hI1305 : IL lg1303 it1304 := il_9 hI1298 hq1308.1 hq1308.2 (fun j hj => by first | omega | exact False.elim hj | (dsimp only at hj; omega))
        have hT1306 : RA lg1303 it1304 := ra_9 hT1299 hq1308.2 (fun j hj => by first | omega | exact False.elim hj | (dsimp only at hj; omega)) (fun j hj => by first | omega | exact False.elim hj | (dsimp only at hj; omega))
        have hC1310 : RC lg1303 it1304 := rc_9 hC1302 hq1308.2 (fun j hj => by first | omega | exact False.elim hj | (dsimp only at hj; omega))
        have f1311 : (x3 + Int32.ofInt 6).toInt = x3.toInt + 6 := ad32 rfl (by decide) (by omega) (by omega)
        exact ih18 ((x3 + Int32.ofInt 6)) _ _ hI1305 hT1306 hC1310 (by omega) (by omega)
      · skip
        try have f1312 : ((x3 + 1) : Int32).toInt = (x3).toInt + 1 := ad32 (a := (x3).toInt) (b := 1) (rfl) (ti_1) (by omega) (by omega)
        refine ⟨vp_of (by first | omega | ((try simp only [Int32.lt_iff_toInt_lt, Int32.le_iff_toInt_le, ← Int32.toInt_inj, Int32.toInt_toInt64, tiA, tlA]); omega)) (by first | omega | ((try simp only [Int32.lt_iff_toInt_lt, Int32.le_iff_toInt_le, ← Int32.toInt_inj, Int32.toInt_toInt64, tiA, tlA]); omega)), ?_⟩
        try have f1314 : ((x3 + 2) : Int32).toInt = (x3).toInt + 2 := ad32 (a := (x3).toInt) (b := 2) (rfl) (ti_2) (by omega) (by omega)
        refine ⟨vp_of (by first | omega | ((try simp only [Int32.lt_iff_toInt_lt, Int32.le_iff_toInt_le, ← Int32.toInt_inj, Int32.toInt_toInt64, tiA, tlA]); omega)) (by first | omega | ((try simp only [Int32.lt_iff_toInt_lt, Int32.le_iff_toInt_le, ← Int32.toInt_inj, Int32.toInt_toInt64, tiA, tlA]); omega)), ?_⟩
        refine ⟨_, f_X8_judge ((xs (x3 + 1).toNatClampNeg)) ((xs (x3 + 2).toNatClampNeg)) hI.1 _ (ra_v hT) (ra_o hT) (ra_c hT) (rt_h hC.1), ?_⟩
        intro v1320 lg1316 it1317 hq1321
        have hI1318 : IL lg1316 it1317 := il_8 hI hq1321.1.1 hq1321.1.2 (fun j hj => by first | omega | exact False.elim hj | (dsimp only at hj; omega))
        have hT1319 : RA lg1316 it1317 := ra_q hT hq1321.1.2 hq1321.2.2 (fun j hj => by first | omega | exact False.elim hj | (dsimp only at hj; omega))
        have hC1322 : RC lg1316 it1317 := rc_8 hC hq1321.1.2 (fun j hj => by first | omega | exact False.elim hj | (dsimp only at hj; omega))
        try have f1323 : ((x3 + 1) : Int32).toInt = (x3).toInt + 1 := ad32 (a := (x3).toInt) (b := 1) (rfl) (ti_1) (by omega) (by omega)
        refine ⟨vp_of (by first | omega | ((try simp only [Int32.lt_iff_toInt_lt, Int32.le_iff_toInt_le, ← Int32.toInt_inj, Int32.toInt_toInt64, tiA, tlA]); omega)) (by first | omega | ((try simp only [Int32.lt_iff_toInt_lt, Int32.le_iff_toInt_le, ← Int32.toInt_inj, Int32.toInt_toInt64, tiA, tlA]); omega)), ?_⟩
        try have f1325 : ((x3 + 2) : Int32).toInt = (x3).toInt + 2 := ad32 (a := (x3).toInt) (b := 2) (rfl) (ti_2) (by omega) (by omega)
        refine ⟨vp_of (by first | omega | ((try simp only [Int32.lt_iff_toInt_lt, Int32.le_iff_toInt_le, ← Int32.toInt_inj, Int32.toInt_toInt64, tiA, tlA]); omega)) (by first | omega | ((try simp only [Int32.lt_iff_toInt_lt, Int32.le_iff_toInt_le, ← Int32.toInt_inj, Int32.toInt_toInt64, tiA, tlA]); omega)), ?_⟩
        have w1333 := w9_8 hq1321.1.2 (fun j hj => by first | omega | exact False.elim hj | (dsimp only at hj; omega))
        refine ⟨_, f_X9_judge ((xs (x3 + 1).toNatClampNeg)) ((xs (x3 + 2).toNatClampNeg)) hI1318.2 (ra_o hT1319), ?_⟩
        intro v1331 lg1327 it1328 hq1332
        rw [w1333] at hq1332
        have hI1329 : IL lg1327 it1328 := il_9 hI1318 hq1332.1.1 hq1332.1.2 (fun j hj => by first | omega | exact False.elim hj | (dsimp only at hj; omega))
        have hT1330 : RA lg1327 it1328 := ra_9 hT1319 hq1332.1.2 (fun j hj => by first | omega | exact False.elim hj | (dsimp only at hj; omega)) (fun j hj => by first | omega | exact False.elim hj | (dsimp only at hj; omega))
        have hC1334 : RC lg1327 it1328 := rc_9 hC1322 hq1332.1.2 (fun j hj => by first | omega | exact False.elim hj | (dsimp only at hj; omega))
        refine ⟨fun c936 => ?_, fun c936 => ?_⟩
        · skip
          have f1335 : (x3 + Int32.ofInt 6).toInt = x3.toInt + 6 := ad32 rfl (by decide) (by omega) (by omega)
          exact ih18 ((x3 + Int32.ofInt 6)) _ _ hI1329 hT1330 hC1334 (by omega) (by omega)
        · exact absurd (judge_x hC (fun t _ => (i9_f hI.2 (j := 519) (k := t) rfl).2) (hq1321.1.2 520 (by first | omega | (dsimp only; omega))).1 (hq1321.1.2 518 (by first | omega | (dsimp only; omega))).2 (hq1321.1.2 519 (by first | omega | (dsimp only; omega))).2 hq1321.2.1 hq1332.2) c936
      · skip
        refine ⟨_, e_X8_image hI.1, ?_⟩
        intro v1340 lg1336 it1337 hq1341
        have hI1338 : IL lg1336 it1337 := il_8 hI hq1341.1.1 hq1341.1.2 (fun j hj => by first | omega | exact False.elim hj | (dsimp only at hj; omega))
        have hC1342 : RC lg1336 it1337 := rc_8 hC hq1341.1.2 (fun j hj => by first | omega | exact False.elim hj | (dsimp only at hj; omega))
        refine ⟨_, f_X9_image  hI1338.2, ?_⟩
        intro v1347 lg1343 it1344 hq1348
        have hI1345 : IL lg1343 it1344 := il_9 hI1338 hq1348.1.1 hq1348.1.2 (fun j hj => by first | omega | exact False.elim hj | (dsimp only at hj; omega))
        have pr1350 := ra_image hT hI.1 hI.2 hq1341.1.2 hq1341.2 hq1348.1.2 hq1348.2 (fun j hj => by first | omega | exact False.elim hj | (dsimp only at hj; omega)) (fun j hj => by first | omega | exact False.elim hj | (dsimp only at hj; omega))
        have hC1351 : RC lg1343 it1344 := rc_9 hC1342 hq1348.1.2 (fun j hj => by first | omega | exact False.elim hj | (dsimp only at hj; omega))
        have f1352 : (x3 + Int32.ofInt 6).toInt = x3.toInt + 6 := ad32 rfl (by decide) (by omega) (by omega)
        exact ih18 ((x3 + Int32.ofInt 6)) _ _ hI1345 pr1350.1 hC1351 (by omega) (by omega)
      · skip
        refine ⟨_, e_X8_undo hI.1, ?_⟩
        intro v1357 lg1353 it1354 hq1358
        have hI1355 : IL lg1353 it1354 := il_8 hI hq1358.1.1 hq1358.1.2 (fun j hj => by first | omega | exact False.elim hj | (dsimp only at hj; omega))
        have hC1359 : RC lg1353 it1354 := rc_8 hC hq1358.1.2 (fun j hj => by first | omega | exact False.elim hj | (dsimp only at hj; omega))
        refine ⟨_, f_X9_undo  hI1355.2, ?_⟩
        intro v1364 lg1360 it1361 hq1365
        have hI1362 : IL lg1360 it1361 := il_9 hI1355 hq1365.1.1 hq1365.1.2 (fun j hj => by first | omega | exact False.elim hj | (dsimp only at hj; omega))
        have pr1367 := ra_undo hT hI1355.1 hI1355.2 hI1362.2 hq1358.1.2 hq1358.2 hq1365.1.2 hq1365.2 (fun j hj => by first | omega | exact False.elim hj | (dsimp only at hj; omega)) (fun j hj => by first | omega | exact False.elim hj | (dsimp only at hj; omega))
        have hC1368 : RC lg1360 it1361 := rc_9 hC1359 hq1365.1.2 (fun j hj => by first | omega | exact False.elim hj | (dsimp only at hj; omega))
        have f1369 : (x3 + Int32.ofInt 6).toInt = x3.toInt + 6 := ad32 rfl (by decide) (by omega) (by omega)
        exact ih18 ((x3 + Int32.ofInt 6)) _ _ hI1362 pr1367.1 hC1368 (by omega) (by omega)
      · skip
        try have f1370 : ((x3 + 1) : Int32).toInt = (x3).toInt + 1 := ad32 (a := (x3).toInt) (b := 1) (rfl) (ti_1) (by omega) (by omega)
        refine ⟨vp_of (by first | omega | ((try simp only [Int32.lt_iff_toInt_lt, Int32.le_iff_toInt_le, ← Int32.toInt_inj, Int32.toInt_toInt64, tiA, tlA]); omega)) (by first | omega | ((try simp only [Int32.lt_iff_toInt_lt, Int32.le_iff_toInt_le, ← Int32.toInt_inj, Int32.toInt_toInt64, tiA, tlA]); omega)), ?_⟩
        refine ⟨_, s_X8_count ((xs (x3 + 1).toNatClampNeg)) hI.1, ?_⟩
        intro v1376 lg1372 it1373 hq1377
        have hI1374 : IL lg1372 it1373 := il_8 hI hq1377.1 hq1377.2 (fun j hj => by first | omega | exact False.elim hj | (dsimp only at hj; omega))
        have hT1375 : RA lg1372 it1373 := ra_8 hT hq1377.2 (fun j hj => by first | omega | exact False.elim hj | (dsimp only at hj; omega))
        have hC1378 : RC lg1372 it1373 := rc_8 hC hq1377.2 (fun j hj => by first | omega | exact False.elim hj | (dsimp only at hj; omega))
        try have f1379 : ((x3 + 1) : Int32).toInt = (x3).toInt + 1 := ad32 (a := (x3).toInt) (b := 1) (rfl) (ti_1) (by omega) (by omega)
        refine ⟨vp_of (by first | omega | ((try simp only [Int32.lt_iff_toInt_lt, Int32.le_iff_toInt_le, ← Int32.toInt_inj, Int32.toInt_toInt64, tiA, tlA]); omega)) (by first | omega | ((try simp only [Int32.lt_iff_toInt_lt, Int32.le_iff_toInt_le, ← Int32.toInt_inj, Int32.toInt_toInt64, tiA, tlA]); omega)), ?_⟩
        refine ⟨_, s_X9_count ((xs (x3 + 1).toNatClampNeg)) hI1374.2, ?_⟩
        intro v1385 lg1381 it1382 hq1386
        have hI1383 : IL lg1381 it1382 := il_9 hI1374 hq1386.1 hq1386.2 (fun j hj => by first | omega | exact False.elim hj | (dsimp only at hj; omega))
        have hT1384 : RA lg1381 it1382 := ra_9 hT1375 hq1386.2 (fun j hj => by first | omega | exact False.elim hj | (dsimp only at hj; omega)) (fun j hj => by first | omega | exact False.elim hj | (dsimp only at hj; omega))
        have hC1388 : RC lg1381 it1382 := rc_9 hC1378 hq1386.2 (fun j hj => by first | omega | exact False.elim hj | (dsimp only at hj; omega))
        have f1389 : (x3 + Int32.ofInt 6).toInt = x3.toInt + 6 := ad32 rfl (by decide) (by omega) (by omega)
        exact ih18 ((x3 + Int32.ofInt 6)) _ _ hI1383 hT1384 hC1388 (by omega) (by omega)
      · skip
        try have f1390 : ((x3 + 1) : Int32).toInt = (x3).toInt + 1 := ad32 (a := (x3).toInt) (b := 1) (rfl) (ti_1) (by omega) (by omega)
        refine ⟨vp_of (by first | omega | ((try simp only [Int32.lt_iff_toInt_lt, Int32.le_iff_toInt_le, ← Int32.toInt_inj, Int32.toInt_toInt64, tiA, tlA]); omega)) (by first | omega | ((try simp only [Int32.lt_iff_toInt_lt, Int32.le_iff_toInt_le, ← Int32.toInt_inj, Int32.toInt_toInt64, tiA, tlA]); omega)), ?_⟩
        try have f1392 : ((x3 + 2) : Int32).toInt = (x3).toInt + 2 := ad32 (a := (x3).toInt) (b := 2) (rfl) (ti_2) (by omega) (by omega)
        refine ⟨vp_of (by first | omega | ((try simp only [Int32.lt_iff_toInt_lt, Int32.le_iff_toInt_le, ← Int32.toInt_inj, Int32.toInt_toInt64, tiA, tlA]); omega)) (by first | omega | ((try simp only [Int32.lt_iff_toInt_lt, Int32.le_iff_toInt_le, ← Int32.toInt_inj, Int32.toInt_toInt64, tiA, tlA]); omega)), ?_⟩
        try have f1394 : ((x3 + 3) : Int32).toInt = (x3).toInt + 3 := ad32 (a := (x3).toInt) (b := 3) (rfl) (ti_3) (by omega) (by omega)
        refine ⟨vp_of (by first | omega | ((try simp only [Int32.lt_iff_toInt_lt, Int32.le_iff_toInt_le, ← Int32.toInt_inj, Int32.toInt_toInt64, tiA, tlA]); omega)) (by first | omega | ((try simp only [Int32.lt_iff_toInt_lt, Int32.le_iff_toInt_le, ← Int32.toInt_inj, Int32.toInt_toInt64, tiA, tlA]); omega)), ?_⟩
        refine ⟨_, p_X8_tape ((xs (x3 + 1).toNatClampNeg)) ((xs (x3 + 2).toNatClampNeg)) ((xs (x3 + 3).toNatClampNeg)) hI.1, ?_⟩
        intro v1400 lg1396 it1397 hq1401
        have hI1398 : IL lg1396 it1397 := il_8 hI hq1401.1.1 hq1401.1.2 (fun j hj => by first | omega | exact False.elim hj | (dsimp only at hj; omega))
        have hT1399 : RA lg1396 it1397 := ra_8 hT hq1401.1.2 (fun j hj => by first | omega | exact False.elim hj | (dsimp only at hj; omega))
        try have f1402 : ((x3 + 1) : Int32).toInt = (x3).toInt + 1 := ad32 (a := (x3).toInt) (b := 1) (rfl) (ti_1) (by omega) (by omega)
        refine ⟨vp_of (by first | omega | ((try simp only [Int32.lt_iff_toInt_lt, Int32.le_iff_toInt_le, ← Int32.toInt_inj, Int32.toInt_toInt64, tiA, tlA]); omega)) (by first | omega | ((try simp only [Int32.lt_iff_toInt_lt, Int32.le_iff_toInt_le, ← Int32.toInt_inj, Int32.toInt_toInt64, tiA, tlA]); omega)), ?_⟩
        try have f1404 : ((x3 + 2) : Int32).toInt = (x3).toInt + 2 := ad32 (a := (x3).toInt) (b := 2) (rfl) (ti_2) (by omega) (by omega)
        refine ⟨vp_of (by first | omega | ((try simp only [Int32.lt_iff_toInt_lt, Int32.le_iff_toInt_le, ← Int32.toInt_inj, Int32.toInt_toInt64, tiA, tlA]); omega)) (by first | omega | ((try simp only [Int32.lt_iff_toInt_lt, Int32.le_iff_toInt_le, ← Int32.toInt_inj, Int32.toInt_toInt64, tiA, tlA]); omega)), ?_⟩
        try have f1406 : ((x3 + 3) : Int32).toInt = (x3).toInt + 3 := ad32 (a := (x3).toInt) (b := 3) (rfl) (ti_3) (by omega) (by omega)
        refine ⟨vp_of (by first | omega | ((try simp only [Int32.lt_iff_toInt_lt, Int32.le_iff_toInt_le, ← Int32.toInt_inj, Int32.toInt_toInt64, tiA, tlA]); omega)) (by first | omega | ((try simp only [Int32.lt_iff_toInt_lt, Int32.le_iff_toInt_le, ← Int32.toInt_inj, Int32.toInt_toInt64, tiA, tlA]); omega)), ?_⟩
        refine ⟨_, p_X9_tape ((xs (x3 + 1).toNatClampNeg)) ((xs (x3 + 2).toNatClampNeg)) ((xs (x3 + 3).toNatClampNeg)) hI1398.2, ?_⟩
        intro v1412 lg1408 it1409 hq1413
        have hI1410 : IL lg1408 it1409 := il_9 hI1398 hq1413.1.1 hq1413.1.2 (fun j hj => by first | omega | exact False.elim hj | (dsimp only at hj; omega))
        have hT1411 : RA lg1408 it1409 := ra_9 hT1399 hq1413.1.2 (fun j hj => by first | omega | exact False.elim hj | (dsimp only at hj; omega)) (fun j hj => by first | omega | exact False.elim hj | (dsimp only at hj; omega))
        have hC1414 : RC lg1408 it1409 := rc_tape hC hq1401.2.1 hq1401.2.2.1 hq1401.2.2.2 hq1401.1.2 (fun j hj => by first | omega | exact False.elim hj | (dsimp only at hj; omega)) hq1413.2.1 hq1413.2.2.1 hq1413.2.2.2 hq1413.1.2 (fun j hj => by first | omega | exact False.elim hj | (dsimp only at hj; omega))
        have f1415 : (x3 + Int32.ofInt 6).toInt = x3.toInt + 6 := ad32 rfl (by decide) (by omega) (by omega)
        exact ih18 ((x3 + Int32.ofInt 6)) _ _ hI1410 hT1411 hC1414 (by omega) (by omega)
      · skip
        try have f1416 : ((x3 + 1) : Int32).toInt = (x3).toInt + 1 := ad32 (a := (x3).toInt) (b := 1) (rfl) (ti_1) (by omega) (by omega)
        refine ⟨vp_of (by first | omega | ((try simp only [Int32.lt_iff_toInt_lt, Int32.le_iff_toInt_le, ← Int32.toInt_inj, Int32.toInt_toInt64, tiA, tlA]); omega)) (by first | omega | ((try simp only [Int32.lt_iff_toInt_lt, Int32.le_iff_toInt_le, ← Int32.toInt_inj, Int32.toInt_toInt64, tiA, tlA]); omega)), ?_⟩
        try have f1418 : ((x3 + 2) : Int32).toInt = (x3).toInt + 2 := ad32 (a := (x3).toInt) (b := 2) (rfl) (ti_2) (by omega) (by omega)
        refine ⟨vp_of (by first | omega | ((try simp only [Int32.lt_iff_toInt_lt, Int32.le_iff_toInt_le, ← Int32.toInt_inj, Int32.toInt_toInt64, tiA, tlA]); omega)) (by first | omega | ((try simp only [Int32.lt_iff_toInt_lt, Int32.le_iff_toInt_le, ← Int32.toInt_inj, Int32.toInt_toInt64, tiA, tlA]); omega)), ?_⟩
        try have f1420 : ((x3 + 3) : Int32).toInt = (x3).toInt + 3 := ad32 (a := (x3).toInt) (b := 3) (rfl) (ti_3) (by omega) (by omega)
        refine ⟨vp_of (by first | omega | ((try simp only [Int32.lt_iff_toInt_lt, Int32.le_iff_toInt_le, ← Int32.toInt_inj, Int32.toInt_toInt64, tiA, tlA]); omega)) (by first | omega | ((try simp only [Int32.lt_iff_toInt_lt, Int32.le_iff_toInt_le, ← Int32.toInt_inj, Int32.toInt_toInt64, tiA, tlA]); omega)), ?_⟩
        try have f1422 : ((x3 + 4) : Int32).toInt = (x3).toInt + 4 := ad32 (a := (x3).toInt) (b := 4) (rfl) (ti_4) (by omega) (by omega)
        refine ⟨vp_of (by first | omega | ((try simp only [Int32.lt_iff_toInt_lt, Int32.le_iff_toInt_le, ← Int32.toInt_inj, Int32.toInt_toInt64, tiA, tlA]); omega)) (by first | omega | ((try simp only [Int32.lt_iff_toInt_lt, Int32.le_iff_toInt_le, ← Int32.toInt_inj, Int32.toInt_toInt64, tiA, tlA]); omega)), ?_⟩
        refine ⟨_, p_X8_item ((xs (x3 + 1).toNatClampNeg)) ((xs (x3 + 2).toNatClampNeg)) ((((xs (x3 + 3).toNatClampNeg).toInt64 <<< ((32 : Int32).toInt64 &&& 63)) ||| ((xs (x3 + 4).toNatClampNeg).toInt64 &&& 4294967295))) hI.1 (rc_h hC), ?_⟩
        intro v1428 lg1424 it1425 hq1429
        have hI1426 : IL lg1424 it1425 := il_8 hI hq1429.1.1 hq1429.1.2.1 (fun j hj => by first | omega | exact False.elim hj | (dsimp only at hj; omega))
        have hT1427 : RA lg1424 it1425 := ra_8 hT hq1429.1.2.1 (fun j hj => by first | omega | exact False.elim hj | (dsimp only at hj; omega))
        try have f1430 : ((x3 + 1) : Int32).toInt = (x3).toInt + 1 := ad32 (a := (x3).toInt) (b := 1) (rfl) (ti_1) (by omega) (by omega)
        refine ⟨vp_of (by first | omega | ((try simp only [Int32.lt_iff_toInt_lt, Int32.le_iff_toInt_le, ← Int32.toInt_inj, Int32.toInt_toInt64, tiA, tlA]); omega)) (by first | omega | ((try simp only [Int32.lt_iff_toInt_lt, Int32.le_iff_toInt_le, ← Int32.toInt_inj, Int32.toInt_toInt64, tiA, tlA]); omega)), ?_⟩
        try have f1432 : ((x3 + 2) : Int32).toInt = (x3).toInt + 2 := ad32 (a := (x3).toInt) (b := 2) (rfl) (ti_2) (by omega) (by omega)
        refine ⟨vp_of (by first | omega | ((try simp only [Int32.lt_iff_toInt_lt, Int32.le_iff_toInt_le, ← Int32.toInt_inj, Int32.toInt_toInt64, tiA, tlA]); omega)) (by first | omega | ((try simp only [Int32.lt_iff_toInt_lt, Int32.le_iff_toInt_le, ← Int32.toInt_inj, Int32.toInt_toInt64, tiA, tlA]); omega)), ?_⟩
        try have f1434 : ((x3 + 3) : Int32).toInt = (x3).toInt + 3 := ad32 (a := (x3).toInt) (b := 3) (rfl) (ti_3) (by omega) (by omega)
        refine ⟨vp_of (by first | omega | ((try simp only [Int32.lt_iff_toInt_lt, Int32.le_iff_toInt_le, ← Int32.toInt_inj, Int32.toInt_toInt64, tiA, tlA]); omega)) (by first | omega | ((try simp only [Int32.lt_iff_toInt_lt, Int32.le_iff_toInt_le, ← Int32.toInt_inj, Int32.toInt_toInt64, tiA, tlA]); omega)), ?_⟩
        try have f1436 : ((x3 + 4) : Int32).toInt = (x3).toInt + 4 := ad32 (a := (x3).toInt) (b := 4) (rfl) (ti_4) (by omega) (by omega)
        refine ⟨vp_of (by first | omega | ((try simp only [Int32.lt_iff_toInt_lt, Int32.le_iff_toInt_le, ← Int32.toInt_inj, Int32.toInt_toInt64, tiA, tlA]); omega)) (by first | omega | ((try simp only [Int32.lt_iff_toInt_lt, Int32.le_iff_toInt_le, ← Int32.toInt_inj, Int32.toInt_toInt64, tiA, tlA]); omega)), ?_⟩
        refine ⟨_, p_X9_item ((xs (x3 + 1).toNatClampNeg)) ((xs (x3 + 2).toNatClampNeg)) ((((xs (x3 + 3).toNatClampNeg).toInt64 <<< ((32 : Int32).toInt64 &&& 63)) ||| ((xs (x3 + 4).toNatClampNeg).toInt64 &&& 4294967295))) hI1426.2, ?_⟩
        intro v1442 lg1438 it1439 hq1443
        have hI1440 : IL lg1438 it1439 := il_9 hI1426 hq1443.1.1 hq1443.1.2 (fun j hj => by first | omega | exact False.elim hj | (dsimp only at hj; omega))
        have hT1441 : RA lg1438 it1439 := ra_9 hT1427 hq1443.1.2 (fun j hj => by first | omega | exact False.elim hj | (dsimp only at hj; omega)) (fun j hj => by first | omega | exact False.elim hj | (dsimp only at hj; omega))
        have pr1444 := rc_item hC hq1429.1.2 (fun j hj => by first | omega | exact False.elim hj | (dsimp only at hj; omega)) hq1429.2.1 hq1429.2.2 hq1443.1.2 (fun j hj => by first | omega | exact False.elim hj | (dsimp only at hj; omega)) hq1443.2.1 hq1443.2.2
        have f1445 : (x3 + Int32.ofInt 6).toInt = x3.toInt + 6 := ad32 rfl (by decide) (by omega) (by omega)
        exact ih18 ((x3 + Int32.ofInt 6)) _ _ hI1440 hT1441 pr1444.1 (by omega) (by omega)
      · skip
        try have f1446 : ((x3 + 1) : Int32).toInt = (x3).toInt + 1 := ad32 (a := (x3).toInt) (b := 1) (rfl) (ti_1) (by omega) (by omega)
        refine ⟨vp_of (by first | omega | ((try simp only [Int32.lt_iff_toInt_lt, Int32.le_iff_toInt_le, ← Int32.toInt_inj, Int32.toInt_toInt64, tiA, tlA]); omega)) (by first | omega | ((try simp only [Int32.lt_iff_toInt_lt, Int32.le_iff_toInt_le, ← Int32.toInt_inj, Int32.toInt_toInt64, tiA, tlA]); omega)), ?_⟩
        try have f1448 : ((x3 + 2) : Int32).toInt = (x3).toInt + 2 := ad32 (a := (x3).toInt) (b := 2) (rfl) (ti_2) (by omega) (by omega)
        refine ⟨vp_of (by first | omega | ((try simp only [Int32.lt_iff_toInt_lt, Int32.le_iff_toInt_le, ← Int32.toInt_inj, Int32.toInt_toInt64, tiA, tlA]); omega)) (by first | omega | ((try simp only [Int32.lt_iff_toInt_lt, Int32.le_iff_toInt_le, ← Int32.toInt_inj, Int32.toInt_toInt64, tiA, tlA]); omega)), ?_⟩
        refine ⟨_, s_X8_peek ((xs (x3 + 1).toNatClampNeg)) ((xs (x3 + 2).toNatClampNeg)) hI.1, ?_⟩
        intro v1454 lg1450 it1451 hq1455
        have hI1452 : IL lg1450 it1451 := il_8 hI hq1455.1 hq1455.2 (fun j hj => by first | omega | exact False.elim hj | (dsimp only at hj; omega))
        have hT1453 : RA lg1450 it1451 := ra_8 hT hq1455.2 (fun j hj => by first | omega | exact False.elim hj | (dsimp only at hj; omega))
        have hC1456 : RC lg1450 it1451 := rc_8 hC hq1455.2 (fun j hj => by first | omega | exact False.elim hj | (dsimp only at hj; omega))
        try have f1457 : ((x3 + 1) : Int32).toInt = (x3).toInt + 1 := ad32 (a := (x3).toInt) (b := 1) (rfl) (ti_1) (by omega) (by omega)
        refine ⟨vp_of (by first | omega | ((try simp only [Int32.lt_iff_toInt_lt, Int32.le_iff_toInt_le, ← Int32.toInt_inj, Int32.toInt_toInt64, tiA, tlA]); omega)) (by first | omega | ((try simp only [Int32.lt_iff_toInt_lt, Int32.le_iff_toInt_le, ← Int32.toInt_inj, Int32.toInt_toInt64, tiA, tlA]); omega)), ?_⟩
        try have f1459 : ((x3 + 2) : Int32).toInt = (x3).toInt + 2 := ad32 (a := (x3).toInt) (b := 2) (rfl) (ti_2) (by omega) (by omega)
        refine ⟨vp_of (by first | omega | ((try simp only [Int32.lt_iff_toInt_lt, Int32.le_iff_toInt_le, ← Int32.toInt_inj, Int32.toInt_toInt64, tiA, tlA]); omega)) (by first | omega | ((try simp only [Int32.lt_iff_toInt_lt, Int32.le_iff_toInt_le, ← Int32.toInt_inj, Int32.toInt_toInt64, tiA, tlA]); omega)), ?_⟩
        refine ⟨_, s_X9_peek ((xs (x3 + 1).toNatClampNeg)) ((xs (x3 + 2).toNatClampNeg)) hI1452.2, ?_⟩
        intro v1465 lg1461 it1462 hq1466
        have hI1463 : IL lg1461 it1462 := il_9 hI1452 hq1466.1 hq1466.2 (fun j hj => by first | omega | exact False.elim hj | (dsimp only at hj; omega))
        have hT1464 : RA lg1461 it1462 := ra_9 hT1453 hq1466.2 (fun j hj => by first | omega | exact False.elim hj | (dsimp only at hj; omega)) (fun j hj => by first | omega | exact False.elim hj | (dsimp only at hj; omega))
        have hC1468 : RC lg1461 it1462 := rc_9 hC1456 hq1466.2 (fun j hj => by first | omega | exact False.elim hj | (dsimp only at hj; omega))
        have f1469 : (x3 + Int32.ofInt 6).toInt = x3.toInt + 6 := ad32 rfl (by decide) (by omega) (by omega)
        exact ih18 ((x3 + Int32.ofInt 6)) _ _ hI1463 hT1464 hC1468 (by omega) (by omega)
      · skip
        try have f1470 : ((x3 + 1) : Int32).toInt = (x3).toInt + 1 := ad32 (a := (x3).toInt) (b := 1) (rfl) (ti_1) (by omega) (by omega)
        refine ⟨vp_of (by first | omega | ((try simp only [Int32.lt_iff_toInt_lt, Int32.le_iff_toInt_le, ← Int32.toInt_inj, Int32.toInt_toInt64, tiA, tlA]); omega)) (by first | omega | ((try simp only [Int32.lt_iff_toInt_lt, Int32.le_iff_toInt_le, ← Int32.toInt_inj, Int32.toInt_toInt64, tiA, tlA]); omega)), ?_⟩
        try have f1472 : ((x3 + 2) : Int32).toInt = (x3).toInt + 2 := ad32 (a := (x3).toInt) (b := 2) (rfl) (ti_2) (by omega) (by omega)
        refine ⟨vp_of (by first | omega | ((try simp only [Int32.lt_iff_toInt_lt, Int32.le_iff_toInt_le, ← Int32.toInt_inj, Int32.toInt_toInt64, tiA, tlA]); omega)) (by first | omega | ((try simp only [Int32.lt_iff_toInt_lt, Int32.le_iff_toInt_le, ← Int32.toInt_inj, Int32.toInt_toInt64, tiA, tlA]); omega)), ?_⟩
        try have f1474 : ((x3 + 3) : Int32).toInt = (x3).toInt + 3 := ad32 (a := (x3).toInt) (b := 3) (rfl) (ti_3) (by omega) (by omega)
        refine ⟨vp_of (by first | omega | ((try simp only [Int32.lt_iff_toInt_lt, Int32.le_iff_toInt_le, ← Int32.toInt_inj, Int32.toInt_toInt64, tiA, tlA]); omega)) (by first | omega | ((try simp only [Int32.lt_iff_toInt_lt, Int32.le_iff_toInt_le, ← Int32.toInt_inj, Int32.toInt_toInt64, tiA, tlA]); omega)), ?_⟩
        try have f1476 : ((x3 + 4) : Int32).toInt = (x3).toInt + 4 := ad32 (a := (x3).toInt) (b := 4) (rfl) (ti_4) (by omega) (by omega)
        refine ⟨vp_of (by first | omega | ((try simp only [Int32.lt_iff_toInt_lt, Int32.le_iff_toInt_le, ← Int32.toInt_inj, Int32.toInt_toInt64, tiA, tlA]); omega)) (by first | omega | ((try simp only [Int32.lt_iff_toInt_lt, Int32.le_iff_toInt_le, ← Int32.toInt_inj, Int32.toInt_toInt64, tiA, tlA]); omega)), ?_⟩
        try have f1478 : ((x3 + 5) : Int32).toInt = (x3).toInt + 5 := ad32 (a := (x3).toInt) (b := 5) (rfl) (ti_5) (by omega) (by omega)
        refine ⟨vp_of (by first | omega | ((try simp only [Int32.lt_iff_toInt_lt, Int32.le_iff_toInt_le, ← Int32.toInt_inj, Int32.toInt_toInt64, tiA, tlA]); omega)) (by first | omega | ((try simp only [Int32.lt_iff_toInt_lt, Int32.le_iff_toInt_le, ← Int32.toInt_inj, Int32.toInt_toInt64, tiA, tlA]); omega)), ?_⟩
        refine ⟨_, p_X8_shift ((xs (x3 + 1).toNatClampNeg)) ((xs (x3 + 2).toNatClampNeg)) ((xs (x3 + 3).toNatClampNeg)) ((xs (x3 + 4).toNatClampNeg)) ((xs (x3 + 5).toNatClampNeg)) hI.1 (rt_h hC.1), ?_⟩
        intro v1484 lg1480 it1481 hq1485
        have hI1482 : IL lg1480 it1481 := il_8 hI hq1485.1.1 hq1485.1.2.1 (fun j hj => by first | omega | exact False.elim hj | (dsimp only at hj; omega))
        have hT1483 : RA lg1480 it1481 := ra_8 hT hq1485.1.2.1 (fun j hj => by first | omega | exact False.elim hj | (dsimp only at hj; omega))
        try have f1486 : ((x3 + 1) : Int32).toInt = (x3).toInt + 1 := ad32 (a := (x3).toInt) (b := 1) (rfl) (ti_1) (by omega) (by omega)
        refine ⟨vp_of (by first | omega | ((try simp only [Int32.lt_iff_toInt_lt, Int32.le_iff_toInt_le, ← Int32.toInt_inj, Int32.toInt_toInt64, tiA, tlA]); omega)) (by first | omega | ((try simp only [Int32.lt_iff_toInt_lt, Int32.le_iff_toInt_le, ← Int32.toInt_inj, Int32.toInt_toInt64, tiA, tlA]); omega)), ?_⟩
        try have f1488 : ((x3 + 2) : Int32).toInt = (x3).toInt + 2 := ad32 (a := (x3).toInt) (b := 2) (rfl) (ti_2) (by omega) (by omega)
        refine ⟨vp_of (by first | omega | ((try simp only [Int32.lt_iff_toInt_lt, Int32.le_iff_toInt_le, ← Int32.toInt_inj, Int32.toInt_toInt64, tiA, tlA]); omega)) (by first | omega | ((try simp only [Int32.lt_iff_toInt_lt, Int32.le_iff_toInt_le, ← Int32.toInt_inj, Int32.toInt_toInt64, tiA, tlA]); omega)), ?_⟩
        try have f1490 : ((x3 + 3) : Int32).toInt = (x3).toInt + 3 := ad32 (a := (x3).toInt) (b := 3) (rfl) (ti_3) (by omega) (by omega)
        refine ⟨vp_of (by first | omega | ((try simp only [Int32.lt_iff_toInt_lt, Int32.le_iff_toInt_le, ← Int32.toInt_inj, Int32.toInt_toInt64, tiA, tlA]); omega)) (by first | omega | ((try simp only [Int32.lt_iff_toInt_lt, Int32.le_iff_toInt_le, ← Int32.toInt_inj, Int32.toInt_toInt64, tiA, tlA]); omega)), ?_⟩
        try have f1492 : ((x3 + 4) : Int32).toInt = (x3).toInt + 4 := ad32 (a := (x3).toInt) (b := 4) (rfl) (ti_4) (by omega) (by omega)
        refine ⟨vp_of (by first | omega | ((try simp only [Int32.lt_iff_toInt_lt, Int32.le_iff_toInt_le, ← Int32.toInt_inj, Int32.toInt_toInt64, tiA, tlA]); omega)) (by first | omega | ((try simp only [Int32.lt_iff_toInt_lt, Int32.le_iff_toInt_le, ← Int32.toInt_inj, Int32.toInt_toInt64, tiA, tlA]); omega)), ?_⟩
        try have f1494 : ((x3 + 5) : Int32).toInt = (x3).toInt + 5 := ad32 (a := (x3).toInt) (b := 5) (rfl) (ti_5) (by omega) (by omega)
        refine ⟨vp_of (by first | omega | ((try simp only [Int32.lt_iff_toInt_lt, Int32.le_iff_toInt_le, ← Int32.toInt_inj, Int32.toInt_toInt64, tiA, tlA]); omega)) (by first | omega | ((try simp only [Int32.lt_iff_toInt_lt, Int32.le_iff_toInt_le, ← Int32.toInt_inj, Int32.toInt_toInt64, tiA, tlA]); omega)), ?_⟩
        refine ⟨_, p_X9_shift ((xs (x3 + 1).toNatClampNeg)) ((xs (x3 + 2).toNatClampNeg)) ((xs (x3 + 3).toNatClampNeg)) ((xs (x3 + 4).toNatClampNeg)) ((xs (x3 + 5).toNatClampNeg)) hI1482.2, ?_⟩
        intro v1500 lg1496 it1497 hq1501
        have hI1498 : IL lg1496 it1497 := il_9 hI1482 hq1501.1.1 hq1501.1.2 (fun j hj => by first | omega | exact False.elim hj | (dsimp only at hj; omega))
        have hT1499 : RA lg1496 it1497 := ra_9 hT1483 hq1501.1.2 (fun j hj => by first | omega | exact False.elim hj | (dsimp only at hj; omega)) (fun j hj => by first | omega | exact False.elim hj | (dsimp only at hj; omega))
        have pr1502 := rc_shift hC (fun t _ => (i9_f hI.2 (j := 519) (k := t) rfl).2) hq1485.1.2 (fun j hj => by first | omega | exact False.elim hj | (dsimp only at hj; omega)) hq1485.2.1 hq1485.2.2 hq1501.1.2 (fun j hj => by first | omega | exact False.elim hj | (dsimp only at hj; omega)) hq1501.2.1 hq1501.2.2
        have f1503 : (x3 + Int32.ofInt 6).toInt = x3.toInt + 6 := ad32 rfl (by decide) (by omega) (by omega)
        exact ih18 ((x3 + Int32.ofInt 6)) _ _ hI1498 hT1499 pr1502.1 (by omega) (by omega)
