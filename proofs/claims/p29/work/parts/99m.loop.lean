/-! every round keeps both invariants and both relations, and answers 1 -/
set_option maxRecDepth 100000 in
set_option maxHeartbeats 16000000 in
theorem law_loop (L : Nat) (xs : Nat → Int32) (hL : L ≤ 3072) : ∀ (n : Nat) (x3 : Int32) (lg : LGt) (it : ITt), IL lg it → RA lg it → RP lg it → 0 ≤ x3.toInt → ((L : Int) - x3.toInt).toNat < n → w_L_law_b18 L xs (fun (v : Int32) (lg : LGt) (it : ITt) => v = 1) n x3 lg it := by
  generalize hp : (fun (v : Int32) (lg : LGt) (it : ITt) => v = 1) = Pz
  intro n18
  induction n18 with
  | zero => intro x3 lg it _ _ _ _ hn; exact absurd hn (Nat.not_lt_zero _)
  | succ n18 ih18 =>
    intro x3 lg0 it0 hI hT hP h0 hn
    have hb := x3.toInt_lt
    unfold w_L_law_b18
    have fL : (((Int32.ofNat L) - 6)).toInt = (L : Int) - 6 := sb32 (a := (L : Int)) (b := 6) (nI_toInt (by omega)) ti_6 (by omega) (by omega)
    refine ⟨fun c24 => ?_, fun c24 => ?_⟩
    · try simp only [Int32.lt_iff_toInt_lt, Int32.le_iff_toInt_le, ← Int32.toInt_inj, Int32.toInt_toInt64, tiA, tlA] at c24
      subst hp
      exact rfl
    · try simp only [Int32.lt_iff_toInt_lt, Int32.le_iff_toInt_le, ← Int32.toInt_inj, Int32.toInt_toInt64, tiA, tlA] at c24
      refine ⟨vp_of (by first | omega | ((try simp only [Int32.lt_iff_toInt_lt, Int32.le_iff_toInt_le, ← Int32.toInt_inj, Int32.toInt_toInt64, tiA, tlA]); omega)) (by first | omega | ((try simp only [Int32.lt_iff_toInt_lt, Int32.le_iff_toInt_le, ← Int32.toInt_inj, Int32.toInt_toInt64, tiA, tlA]); omega)), ?_⟩
      refine ⟨fun c33 => ?_, fun c33 => ?_, fun c33 => ?_, fun c33 => ?_, fun c33 => ?_, fun c33 => ?_, fun c33 => ?_, fun c33 => ?_, fun c33 => ?_, fun c33 => ?_, fun c33 => ?_, fun c33 => ?_, fun c33 => ?_, fun c33 => ?_, fun c33 => ?_, fun c33 => ?_, fun c33 => ?_, fun c33 => ?_, fun c33 => ?_, fun c33 => ?_, fun c33 => ?_, fun c33 => ?_, fun c33 => ?_, fun c33 => ?_, fun c33 => ?_, fun c33 => ?_, fun c33 => ?_, fun c33 => ?_, fun c33 => ?_, fun c33 => ?_, fun c33 => ?_, fun c33 => ?_, fun c33 => ?_, trivial⟩
      · skip
        have f758 : (x3 + Int32.ofInt 6).toInt = x3.toInt + 6 := ad32 rfl (by decide) (by omega) (by omega)
        exact ih18 ((x3 + Int32.ofInt 6)) _ _ hI hT hP (by omega) (by omega)
      · skip
        try have f759 : ((x3 + 1) : Int32).toInt = (x3).toInt + 1 := ad32 (a := (x3).toInt) (b := 1) (rfl) (ti_1) (by omega) (by omega)
        refine ⟨vp_of (by first | omega | ((try simp only [Int32.lt_iff_toInt_lt, Int32.le_iff_toInt_le, ← Int32.toInt_inj, Int32.toInt_toInt64, tiA, tlA]); omega)) (by first | omega | ((try simp only [Int32.lt_iff_toInt_lt, Int32.le_iff_toInt_le, ← Int32.toInt_inj, Int32.toInt_toInt64, tiA, tlA]); omega)), ?_⟩
        try have f761 : ((x3 + 2) : Int32).toInt = (x3).toInt + 2 := ad32 (a := (x3).toInt) (b := 2) (rfl) (ti_2) (by omega) (by omega)
        refine ⟨vp_of (by first | omega | ((try simp only [Int32.lt_iff_toInt_lt, Int32.le_iff_toInt_le, ← Int32.toInt_inj, Int32.toInt_toInt64, tiA, tlA]); omega)) (by first | omega | ((try simp only [Int32.lt_iff_toInt_lt, Int32.le_iff_toInt_le, ← Int32.toInt_inj, Int32.toInt_toInt64, tiA, tlA]); omega)), ?_⟩
        try have f763 : ((x3 + 3) : Int32).toInt = (x3).toInt + 3 := ad32 (a := (x3).toInt) (b := 3) (rfl) (ti_3) (by omega) (by omega)
        refine ⟨vp_of (by first | omega | ((try simp only [Int32.lt_iff_toInt_lt, Int32.le_iff_toInt_le, ← Int32.toInt_inj, Int32.toInt_toInt64, tiA, tlA]); omega)) (by first | omega | ((try simp only [Int32.lt_iff_toInt_lt, Int32.le_iff_toInt_le, ← Int32.toInt_inj, Int32.toInt_toInt64, tiA, tlA]); omega)), ?_⟩
        refine ⟨_, f_X8_bumper ((xs (x3 + 1).toNatClampNeg)) ((xs (x3 + 2).toNatClampNeg)) ((xs (x3 + 3).toNatClampNeg)) hI.1 _ (ra_v hT) (ra_o hT), ?_⟩
        intro v769 lg765 it766 hq770
        have hI767 : IL lg765 it766 := il_8 hI hq770.1.1 hq770.1.2 (fun j hj => by first | omega | exact False.elim hj | (dsimp only at hj; omega))
        have hP771 : RP lg765 it766 := rp_8 hP hq770.1.2 (fun j hj => by first | omega | exact False.elim hj | (dsimp only at hj; omega))
        try have f772 : ((x3 + 1) : Int32).toInt = (x3).toInt + 1 := ad32 (a := (x3).toInt) (b := 1) (rfl) (ti_1) (by omega) (by omega)
        refine ⟨vp_of (by first | omega | ((try simp only [Int32.lt_iff_toInt_lt, Int32.le_iff_toInt_le, ← Int32.toInt_inj, Int32.toInt_toInt64, tiA, tlA]); omega)) (by first | omega | ((try simp only [Int32.lt_iff_toInt_lt, Int32.le_iff_toInt_le, ← Int32.toInt_inj, Int32.toInt_toInt64, tiA, tlA]); omega)), ?_⟩
        try have f774 : ((x3 + 2) : Int32).toInt = (x3).toInt + 2 := ad32 (a := (x3).toInt) (b := 2) (rfl) (ti_2) (by omega) (by omega)
        refine ⟨vp_of (by first | omega | ((try simp only [Int32.lt_iff_toInt_lt, Int32.le_iff_toInt_le, ← Int32.toInt_inj, Int32.toInt_toInt64, tiA, tlA]); omega)) (by first | omega | ((try simp only [Int32.lt_iff_toInt_lt, Int32.le_iff_toInt_le, ← Int32.toInt_inj, Int32.toInt_toInt64, tiA, tlA]); omega)), ?_⟩
        try have f776 : ((x3 + 3) : Int32).toInt = (x3).toInt + 3 := ad32 (a := (x3).toInt) (b := 3) (rfl) (ti_3) (by omega) (by omega)
        refine ⟨vp_of (by first | omega | ((try simp only [Int32.lt_iff_toInt_lt, Int32.le_iff_toInt_le, ← Int32.toInt_inj, Int32.toInt_toInt64, tiA, tlA]); omega)) (by first | omega | ((try simp only [Int32.lt_iff_toInt_lt, Int32.le_iff_toInt_le, ← Int32.toInt_inj, Int32.toInt_toInt64, tiA, tlA]); omega)), ?_⟩
        have w784 := w9_8 hq770.1.2 (fun j hj => by first | omega | exact False.elim hj | (dsimp only at hj; omega))
        refine ⟨_, f_X9_bumper ((xs (x3 + 1).toNatClampNeg)) ((xs (x3 + 2).toNatClampNeg)) ((xs (x3 + 3).toNatClampNeg)) hI767.2 (by rw [w784]; exact ra_o hT), ?_⟩
        intro v782 lg778 it779 hq783
        rw [w784] at hq783
        have hI780 : IL lg778 it779 := il_9 hI767 hq783.1.1 hq783.1.2 (fun j hj => by first | omega | exact False.elim hj | (dsimp only at hj; omega))
        have hT781 : RA lg778 it779 := ra_m hT _ (vo_bm (ra_o hT)) hq770.1.2 (fun j hj => by first | omega | exact False.elim hj | (dsimp only at hj; omega)) hq770.2.2 (ci_k (ra_c hT) hq770.1.2 (fun j hj => by first | omega | exact False.elim hj | (dsimp only at hj; omega))) hq783.1.2 hq783.2.2 (fun j hj => by first | omega | exact False.elim hj | (dsimp only at hj; omega)) (fun j hj => by first | omega | exact False.elim hj | (dsimp only at hj; omega))
        have hP785 : RP lg778 it779 := rp_9 hP771 hq783.1.2 (fun j hj => by first | omega | exact False.elim hj | (dsimp only at hj; omega)) (fun j hj => by first | omega | exact False.elim hj | (dsimp only at hj; omega))
        have f786 : (x3 + Int32.ofInt 6).toInt = x3.toInt + 6 := ad32 rfl (by decide) (by omega) (by omega)
        exact ih18 ((x3 + Int32.ofInt 6)) _ _ hI780 hT781 hP785 (by omega) (by omega)
      · skip
        try have f787 : ((x3 + 1) : Int32).toInt = (x3).toInt + 1 := ad32 (a := (x3).toInt) (b := 1) (rfl) (ti_1) (by omega) (by omega)
        refine ⟨vp_of (by first | omega | ((try simp only [Int32.lt_iff_toInt_lt, Int32.le_iff_toInt_le, ← Int32.toInt_inj, Int32.toInt_toInt64, tiA, tlA]); omega)) (by first | omega | ((try simp only [Int32.lt_iff_toInt_lt, Int32.le_iff_toInt_le, ← Int32.toInt_inj, Int32.toInt_toInt64, tiA, tlA]); omega)), ?_⟩
        try have f789 : ((x3 + 2) : Int32).toInt = (x3).toInt + 2 := ad32 (a := (x3).toInt) (b := 2) (rfl) (ti_2) (by omega) (by omega)
        refine ⟨vp_of (by first | omega | ((try simp only [Int32.lt_iff_toInt_lt, Int32.le_iff_toInt_le, ← Int32.toInt_inj, Int32.toInt_toInt64, tiA, tlA]); omega)) (by first | omega | ((try simp only [Int32.lt_iff_toInt_lt, Int32.le_iff_toInt_le, ← Int32.toInt_inj, Int32.toInt_toInt64, tiA, tlA]); omega)), ?_⟩
        try have f791 : ((x3 + 3) : Int32).toInt = (x3).toInt + 3 := ad32 (a := (x3).toInt) (b := 3) (rfl) (ti_3) (by omega) (by omega)
        refine ⟨vp_of (by first | omega | ((try simp only [Int32.lt_iff_toInt_lt, Int32.le_iff_toInt_le, ← Int32.toInt_inj, Int32.toInt_toInt64, tiA, tlA]); omega)) (by first | omega | ((try simp only [Int32.lt_iff_toInt_lt, Int32.le_iff_toInt_le, ← Int32.toInt_inj, Int32.toInt_toInt64, tiA, tlA]); omega)), ?_⟩
        refine ⟨_, f_X8_renew ((xs (x3 + 1).toNatClampNeg)) ((xs (x3 + 2).toNatClampNeg)) ((xs (x3 + 3).toNatClampNeg)) hI.1 _ (ra_v hT) (ra_o hT), ?_⟩
        intro v797 lg793 it794 hq798
        have hI795 : IL lg793 it794 := il_8 hI hq798.1.1 hq798.1.2 (fun j hj => by first | omega | exact False.elim hj | (dsimp only at hj; omega))
        have hP799 : RP lg793 it794 := rp_8 hP hq798.1.2 (fun j hj => by first | omega | exact False.elim hj | (dsimp only at hj; omega))
        try have f800 : ((x3 + 1) : Int32).toInt = (x3).toInt + 1 := ad32 (a := (x3).toInt) (b := 1) (rfl) (ti_1) (by omega) (by omega)
        refine ⟨vp_of (by first | omega | ((try simp only [Int32.lt_iff_toInt_lt, Int32.le_iff_toInt_le, ← Int32.toInt_inj, Int32.toInt_toInt64, tiA, tlA]); omega)) (by first | omega | ((try simp only [Int32.lt_iff_toInt_lt, Int32.le_iff_toInt_le, ← Int32.toInt_inj, Int32.toInt_toInt64, tiA, tlA]); omega)), ?_⟩
        try have f802 : ((x3 + 2) : Int32).toInt = (x3).toInt + 2 := ad32 (a := (x3).toInt) (b := 2) (rfl) (ti_2) (by omega) (by omega)
        refine ⟨vp_of (by first | omega | ((try simp only [Int32.lt_iff_toInt_lt, Int32.le_iff_toInt_le, ← Int32.toInt_inj, Int32.toInt_toInt64, tiA, tlA]); omega)) (by first | omega | ((try simp only [Int32.lt_iff_toInt_lt, Int32.le_iff_toInt_le, ← Int32.toInt_inj, Int32.toInt_toInt64, tiA, tlA]); omega)), ?_⟩
        try have f804 : ((x3 + 3) : Int32).toInt = (x3).toInt + 3 := ad32 (a := (x3).toInt) (b := 3) (rfl) (ti_3) (by omega) (by omega)
        refine ⟨vp_of (by first | omega | ((try simp only [Int32.lt_iff_toInt_lt, Int32.le_iff_toInt_le, ← Int32.toInt_inj, Int32.toInt_toInt64, tiA, tlA]); omega)) (by first | omega | ((try simp only [Int32.lt_iff_toInt_lt, Int32.le_iff_toInt_le, ← Int32.toInt_inj, Int32.toInt_toInt64, tiA, tlA]); omega)), ?_⟩
        have w812 := w9_8 hq798.1.2 (fun j hj => by first | omega | exact False.elim hj | (dsimp only at hj; omega))
        refine ⟨_, f_X9_renew ((xs (x3 + 1).toNatClampNeg)) ((xs (x3 + 2).toNatClampNeg)) ((xs (x3 + 3).toNatClampNeg)) hI795.2, ?_⟩
        intro v810 lg806 it807 hq811
        rw [w812] at hq811
        have hI808 : IL lg806 it807 := il_9 hI795 hq811.1.1 hq811.1.2 (fun j hj => by first | omega | exact False.elim hj | (dsimp only at hj; omega))
        have hT809 : RA lg806 it807 := ra_m hT _ (vo_rn (ra_o hT)) hq798.1.2 (fun j hj => by first | omega | exact False.elim hj | (dsimp only at hj; omega)) hq798.2.2 (ci_k (ra_c hT) hq798.1.2 (fun j hj => by first | omega | exact False.elim hj | (dsimp only at hj; omega))) hq811.1.2 hq811.2.2 (fun j hj => by first | omega | exact False.elim hj | (dsimp only at hj; omega)) (fun j hj => by first | omega | exact False.elim hj | (dsimp only at hj; omega))
        have hP813 : RP lg806 it807 := rp_9 hP799 hq811.1.2 (fun j hj => by first | omega | exact False.elim hj | (dsimp only at hj; omega)) (fun j hj => by first | omega | exact False.elim hj | (dsimp only at hj; omega))
        have f814 : (x3 + Int32.ofInt 6).toInt = x3.toInt + 6 := ad32 rfl (by decide) (by omega) (by omega)
        exact ih18 ((x3 + Int32.ofInt 6)) _ _ hI808 hT809 hP813 (by omega) (by omega)
      · skip
        try have f815 : ((x3 + 1) : Int32).toInt = (x3).toInt + 1 := ad32 (a := (x3).toInt) (b := 1) (rfl) (ti_1) (by omega) (by omega)
        refine ⟨vp_of (by first | omega | ((try simp only [Int32.lt_iff_toInt_lt, Int32.le_iff_toInt_le, ← Int32.toInt_inj, Int32.toInt_toInt64, tiA, tlA]); omega)) (by first | omega | ((try simp only [Int32.lt_iff_toInt_lt, Int32.le_iff_toInt_le, ← Int32.toInt_inj, Int32.toInt_toInt64, tiA, tlA]); omega)), ?_⟩
        refine ⟨_, f_X8_spring ((xs (x3 + 1).toNatClampNeg)) hI.1 _ (ra_v hT) (ra_o hT), ?_⟩
        intro v821 lg817 it818 hq822
        have hI819 : IL lg817 it818 := il_8 hI hq822.1.1 hq822.1.2 (fun j hj => by first | omega | exact False.elim hj | (dsimp only at hj; omega))
        have hP823 : RP lg817 it818 := rp_8 hP hq822.1.2 (fun j hj => by first | omega | exact False.elim hj | (dsimp only at hj; omega))
        try have f824 : ((x3 + 1) : Int32).toInt = (x3).toInt + 1 := ad32 (a := (x3).toInt) (b := 1) (rfl) (ti_1) (by omega) (by omega)
        refine ⟨vp_of (by first | omega | ((try simp only [Int32.lt_iff_toInt_lt, Int32.le_iff_toInt_le, ← Int32.toInt_inj, Int32.toInt_toInt64, tiA, tlA]); omega)) (by first | omega | ((try simp only [Int32.lt_iff_toInt_lt, Int32.le_iff_toInt_le, ← Int32.toInt_inj, Int32.toInt_toInt64, tiA, tlA]); omega)), ?_⟩
        have w832 := w9_8 hq822.1.2 (fun j hj => by first | omega | exact False.elim hj | (dsimp only at hj; omega))
        refine ⟨_, f_X9_spring ((xs (x3 + 1).toNatClampNeg)) hI819.2, ?_⟩
        intro v830 lg826 it827 hq831
        rw [w832] at hq831
        have hI828 : IL lg826 it827 := il_9 hI819 hq831.1.1 hq831.1.2 (fun j hj => by first | omega | exact False.elim hj | (dsimp only at hj; omega))
        have hT829 : RA lg826 it827 := ra_m hT _ (vo_sp (ra_o hT)) hq822.1.2 (fun j hj => by first | omega | exact False.elim hj | (dsimp only at hj; omega)) hq822.2.2 (ci_k (ra_c hT) hq822.1.2 (fun j hj => by first | omega | exact False.elim hj | (dsimp only at hj; omega))) hq831.1.2 hq831.2.2 (fun j hj => by first | omega | exact False.elim hj | (dsimp only at hj; omega)) (fun j hj => by first | omega | exact False.elim hj | (dsimp only at hj; omega))
        have hP833 : RP lg826 it827 := rp_9 hP823 hq831.1.2 (fun j hj => by first | omega | exact False.elim hj | (dsimp only at hj; omega)) (fun j hj => by first | omega | exact False.elim hj | (dsimp only at hj; omega))
        have f834 : (x3 + Int32.ofInt 6).toInt = x3.toInt + 6 := ad32 rfl (by decide) (by omega) (by omega)
        exact ih18 ((x3 + Int32.ofInt 6)) _ _ hI828 hT829 hP833 (by omega) (by omega)
      · skip
        try have f835 : ((x3 + 1) : Int32).toInt = (x3).toInt + 1 := ad32 (a := (x3).toInt) (b := 1) (rfl) (ti_1) (by omega) (by omega)
        refine ⟨vp_of (by first | omega | ((try simp only [Int32.lt_iff_toInt_lt, Int32.le_iff_toInt_le, ← Int32.toInt_inj, Int32.toInt_toInt64, tiA, tlA]); omega)) (by first | omega | ((try simp only [Int32.lt_iff_toInt_lt, Int32.le_iff_toInt_le, ← Int32.toInt_inj, Int32.toInt_toInt64, tiA, tlA]); omega)), ?_⟩
        try have f837 : ((x3 + 2) : Int32).toInt = (x3).toInt + 2 := ad32 (a := (x3).toInt) (b := 2) (rfl) (ti_2) (by omega) (by omega)
        refine ⟨vp_of (by first | omega | ((try simp only [Int32.lt_iff_toInt_lt, Int32.le_iff_toInt_le, ← Int32.toInt_inj, Int32.toInt_toInt64, tiA, tlA]); omega)) (by first | omega | ((try simp only [Int32.lt_iff_toInt_lt, Int32.le_iff_toInt_le, ← Int32.toInt_inj, Int32.toInt_toInt64, tiA, tlA]); omega)), ?_⟩
        refine ⟨_, f_X8_wall ((xs (x3 + 1).toNatClampNeg)) ((xs (x3 + 2).toNatClampNeg)) hI.1 _ (ra_v hT) (ra_o hT), ?_⟩
        intro v843 lg839 it840 hq844
        have hI841 : IL lg839 it840 := il_8 hI hq844.1.1 hq844.1.2 (fun j hj => by first | omega | exact False.elim hj | (dsimp only at hj; omega))
        have hP845 : RP lg839 it840 := rp_8 hP hq844.1.2 (fun j hj => by first | omega | exact False.elim hj | (dsimp only at hj; omega))
        try have f846 : ((x3 + 1) : Int32).toInt = (x3).toInt + 1 := ad32 (a := (x3).toInt) (b := 1) (rfl) (ti_1) (by omega) (by omega)
        refine ⟨vp_of (by first | omega | ((try simp only [Int32.lt_iff_toInt_lt, Int32.le_iff_toInt_le, ← Int32.toInt_inj, Int32.toInt_toInt64, tiA, tlA]); omega)) (by first | omega | ((try simp only [Int32.lt_iff_toInt_lt, Int32.le_iff_toInt_le, ← Int32.toInt_inj, Int32.toInt_toInt64, tiA, tlA]); omega)), ?_⟩
        try have f848 : ((x3 + 2) : Int32).toInt = (x3).toInt + 2 := ad32 (a := (x3).toInt) (b := 2) (rfl) (ti_2) (by omega) (by omega)
        refine ⟨vp_of (by first | omega | ((try simp only [Int32.lt_iff_toInt_lt, Int32.le_iff_toInt_le, ← Int32.toInt_inj, Int32.toInt_toInt64, tiA, tlA]); omega)) (by first | omega | ((try simp only [Int32.lt_iff_toInt_lt, Int32.le_iff_toInt_le, ← Int32.toInt_inj, Int32.toInt_toInt64, tiA, tlA]); omega)), ?_⟩
        have w856 := w9_8 hq844.1.2 (fun j hj => by first | omega | exact False.elim hj | (dsimp only at hj; omega))
        refine ⟨_, f_X9_wall ((xs (x3 + 1).toNatClampNeg)) ((xs (x3 + 2).toNatClampNeg)) hI841.2 (by rw [w856]; exact ra_o hT), ?_⟩
        intro v854 lg850 it851 hq855
        rw [w856] at hq855
        have hI852 : IL lg850 it851 := il_9 hI841 hq855.1.1 hq855.1.2 (fun j hj => by first | omega | exact False.elim hj | (dsimp only at hj; omega))
        have hT853 : RA lg850 it851 := ra_m hT _ (vo_wl (ra_o hT)) hq844.1.2 (fun j hj => by first | omega | exact False.elim hj | (dsimp only at hj; omega)) hq844.2.2 (ci_k (ra_c hT) hq844.1.2 (fun j hj => by first | omega | exact False.elim hj | (dsimp only at hj; omega))) hq855.1.2 hq855.2.2 (fun j hj => by first | omega | exact False.elim hj | (dsimp only at hj; omega)) (fun j hj => by first | omega | exact False.elim hj | (dsimp only at hj; omega))
        have hP857 : RP lg850 it851 := rp_9 hP845 hq855.1.2 (fun j hj => by first | omega | exact False.elim hj | (dsimp only at hj; omega)) (fun j hj => by first | omega | exact False.elim hj | (dsimp only at hj; omega))
        have f858 : (x3 + Int32.ofInt 6).toInt = x3.toInt + 6 := ad32 rfl (by decide) (by omega) (by omega)
        exact ih18 ((x3 + Int32.ofInt 6)) _ _ hI852 hT853 hP857 (by omega) (by omega)
      · skip
        try have f859 : ((x3 + 1) : Int32).toInt = (x3).toInt + 1 := ad32 (a := (x3).toInt) (b := 1) (rfl) (ti_1) (by omega) (by omega)
        refine ⟨vp_of (by first | omega | ((try simp only [Int32.lt_iff_toInt_lt, Int32.le_iff_toInt_le, ← Int32.toInt_inj, Int32.toInt_toInt64, tiA, tlA]); omega)) (by first | omega | ((try simp only [Int32.lt_iff_toInt_lt, Int32.le_iff_toInt_le, ← Int32.toInt_inj, Int32.toInt_toInt64, tiA, tlA]); omega)), ?_⟩
        refine ⟨_, f_X8_go ((xs (x3 + 1).toNatClampNeg)) hI.1 _ (ra_v hT) (ra_o hT) (ra_c hT), ?_⟩
        intro v865 lg861 it862 hq866
        have hI863 : IL lg861 it862 := il_8 hI hq866.1.1 hq866.1.2 (fun j hj => by first | omega | exact False.elim hj | (dsimp only at hj; omega))
        have hP867 : RP lg861 it862 := rp_8 hP hq866.1.2 (fun j hj => by first | omega | exact False.elim hj | (dsimp only at hj; omega))
        try have f868 : ((x3 + 1) : Int32).toInt = (x3).toInt + 1 := ad32 (a := (x3).toInt) (b := 1) (rfl) (ti_1) (by omega) (by omega)
        refine ⟨vp_of (by first | omega | ((try simp only [Int32.lt_iff_toInt_lt, Int32.le_iff_toInt_le, ← Int32.toInt_inj, Int32.toInt_toInt64, tiA, tlA]); omega)) (by first | omega | ((try simp only [Int32.lt_iff_toInt_lt, Int32.le_iff_toInt_le, ← Int32.toInt_inj, Int32.toInt_toInt64, tiA, tlA]); omega)), ?_⟩
        have w876 := w9_8 hq866.1.2 (fun j hj => by first | omega | exact False.elim hj | (dsimp only at hj; omega))
        refine ⟨_, f_X9_go ((xs (x3 + 1).toNatClampNeg)) hI863.2 (by rw [w876]; exact ra_o hT), ?_⟩
        intro v874 lg870 it871 hq875
        rw [w876] at hq875
        have hI872 : IL lg870 it871 := il_9 hI863 hq875.1.1 hq875.1.2 (fun j hj => by first | omega | exact False.elim hj | (dsimp only at hj; omega))
        have hT873 : RA lg870 it871 := ra_m hT _ (vo_go (ra_o hT)) hq866.1.2 (fun j hj => by first | omega | exact False.elim hj | (dsimp only at hj; omega)) hq866.2.1.2 hq866.2.2 hq875.1.2 hq875.2.2 (fun j hj => by first | omega | exact False.elim hj | (dsimp only at hj; omega)) (fun j hj => by first | omega | exact False.elim hj | (dsimp only at hj; omega))
        have hP877 : RP lg870 it871 := rp_9 hP867 hq875.1.2 (fun j hj => by first | omega | exact False.elim hj | (dsimp only at hj; omega)) (fun j hj => by first | omega | exact False.elim hj | (dsimp only at hj; omega))
        have f878 : (x3 + Int32.ofInt 6).toInt = x3.toInt + 6 := ad32 rfl (by decide) (by omega) (by omega)
        exact ih18 ((x3 + Int32.ofInt 6)) _ _ hI872 hT873 hP877 (by omega) (by omega)
      · skip
        try have f879 : ((x3 + 1) : Int32).toInt = (x3).toInt + 1 := ad32 (a := (x3).toInt) (b := 1) (rfl) (ti_1) (by omega) (by omega)
        refine ⟨vp_of (by first | omega | ((try simp only [Int32.lt_iff_toInt_lt, Int32.le_iff_toInt_le, ← Int32.toInt_inj, Int32.toInt_toInt64, tiA, tlA]); omega)) (by first | omega | ((try simp only [Int32.lt_iff_toInt_lt, Int32.le_iff_toInt_le, ← Int32.toInt_inj, Int32.toInt_toInt64, tiA, tlA]); omega)), ?_⟩
        refine ⟨_, f_X8_feed ((xs (x3 + 1).toNatClampNeg)) hI.1, ?_⟩
        intro v885 lg881 it882 hq886
        have hI883 : IL lg881 it882 := il_8 hI hq886.1.1 hq886.1.2 (fun j hj => by first | omega | exact False.elim hj | (dsimp only at hj; omega))
        have hP887 : RP lg881 it882 := rp_8 hP hq886.1.2 (fun j hj => by first | omega | exact False.elim hj | (dsimp only at hj; omega))
        try have f888 : ((x3 + 1) : Int32).toInt = (x3).toInt + 1 := ad32 (a := (x3).toInt) (b := 1) (rfl) (ti_1) (by omega) (by omega)
        refine ⟨vp_of (by first | omega | ((try simp only [Int32.lt_iff_toInt_lt, Int32.le_iff_toInt_le, ← Int32.toInt_inj, Int32.toInt_toInt64, tiA, tlA]); omega)) (by first | omega | ((try simp only [Int32.lt_iff_toInt_lt, Int32.le_iff_toInt_le, ← Int32.toInt_inj, Int32.toInt_toInt64, tiA, tlA]); omega)), ?_⟩
        refine ⟨_, f_X9_feed ((xs (x3 + 1).toNatClampNeg)) hI883.2, ?_⟩
        intro v894 lg890 it891 hq895
        have hI892 : IL lg890 it891 := il_9 hI883 hq895.1.1 hq895.1.2 (fun j hj => by first | omega | exact False.elim hj | (dsimp only at hj; omega))
        have pr897 := ra_feed hT hI.1 hq886.1.2 hq886.2 hq895.1.2 hq895.2 (fun j hj => by first | omega | exact False.elim hj | (dsimp only at hj; omega)) (fun j hj => by first | omega | exact False.elim hj | (dsimp only at hj; omega))
        have hP898 : RP lg890 it891 := rp_9 hP887 hq895.1.2 (fun j hj => by first | omega | exact False.elim hj | (dsimp only at hj; omega)) (fun j hj => by first | omega | exact False.elim hj | (dsimp only at hj; omega))
        have f899 : (x3 + Int32.ofInt 6).toInt = x3.toInt + 6 := ad32 rfl (by decide) (by omega) (by omega)
        exact ih18 ((x3 + Int32.ofInt 6)) _ _ hI892 pr897.1 hP898 (by omega) (by omega)
      · skip
        refine ⟨_, f_X8_read hI.1 _ (ra_v hT) (ra_o hT) (ra_c hT) (ra_p hT), ?_⟩
        intro v904 lg900 it901 hq905
        have hI902 : IL lg900 it901 := il_8 hI hq905.1.1 hq905.1.2 (fun j hj => s8r_lt hj)
        have hP906 : RP lg900 it901 := rp_8 hP hq905.1.2 (fun j hj => by unfold S8r at hj; omega)
        have w913 := w9_8 hq905.1.2 (fun j hj => s8r_lt hj)
        refine ⟨_, f_X9_read  hI902.2 (by rw [w913]; exact ra_o hT), ?_⟩
        intro v911 lg907 it908 hq912
        rw [w913, tx9_8 hq905.1.2 (fun j hj => s8r_lt hj)] at hq912
        rw [tx_rd hT] at hq905
        have hI909 : IL lg907 it908 := il_9 hI902 hq912.1.1 hq912.1.2 (fun j hj => by unfold R9s D9s at hj; omega)
        have hT910 : RA lg907 it908 := ra_read hT _ (vo_rd (ra_o hT)) hq905.1.2 hq905.2.1.2 hq905.2.2.1 hq905.2.2.2 hq912.1.2 hq912.2.1.2 hq912.2.2 (fun j hj => by unfold R9s D9s at hj; omega) (fun k hk => by unfold R9f D9f at hk; omega)
        have hP914 : RP lg907 it908 := rp_9 hP906 hq912.1.2 (fun j hj => by unfold R9s D9s at hj; omega) (fun k hk => by unfold R9f D9f at hk; omega)
        have f915 : (x3 + Int32.ofInt 6).toInt = x3.toInt + 6 := ad32 rfl (by decide) (by omega) (by omega)
        exact ih18 ((x3 + Int32.ofInt 6)) _ _ hI909 hT910 hP914 (by omega) (by omega)
      · skip
        try have f916 : ((x3 + 1) : Int32).toInt = (x3).toInt + 1 := ad32 (a := (x3).toInt) (b := 1) (rfl) (ti_1) (by omega) (by omega)
        refine ⟨vp_of (by first | omega | ((try simp only [Int32.lt_iff_toInt_lt, Int32.le_iff_toInt_le, ← Int32.toInt_inj, Int32.toInt_toInt64, tiA, tlA]); omega)) (by first | omega | ((try simp only [Int32.lt_iff_toInt_lt, Int32.le_iff_toInt_le, ← Int32.toInt_inj, Int32.toInt_toInt64, tiA, tlA]); omega)), ?_⟩
        try have f918 : ((x3 + 2) : Int32).toInt = (x3).toInt + 2 := ad32 (a := (x3).toInt) (b := 2) (rfl) (ti_2) (by omega) (by omega)
        refine ⟨vp_of (by first | omega | ((try simp only [Int32.lt_iff_toInt_lt, Int32.le_iff_toInt_le, ← Int32.toInt_inj, Int32.toInt_toInt64, tiA, tlA]); omega)) (by first | omega | ((try simp only [Int32.lt_iff_toInt_lt, Int32.le_iff_toInt_le, ← Int32.toInt_inj, Int32.toInt_toInt64, tiA, tlA]); omega)), ?_⟩
        try have f920 : ((x3 + 3) : Int32).toInt = (x3).toInt + 3 := ad32 (a := (x3).toInt) (b := 3) (rfl) (ti_3) (by omega) (by omega)
        refine ⟨vp_of (by first | omega | ((try simp only [Int32.lt_iff_toInt_lt, Int32.le_iff_toInt_le, ← Int32.toInt_inj, Int32.toInt_toInt64, tiA, tlA]); omega)) (by first | omega | ((try simp only [Int32.lt_iff_toInt_lt, Int32.le_iff_toInt_le, ← Int32.toInt_inj, Int32.toInt_toInt64, tiA, tlA]); omega)), ?_⟩
        refine ⟨_, f_X8_of ((xs (x3 + 1).toNatClampNeg)) ((xs (x3 + 2).toNatClampNeg)) ((xs (x3 + 3).toNatClampNeg)) hI.1 _ (ra_v hT), ?_⟩
        intro v926 lg922 it923 hq927
        have hI924 : IL lg922 it923 := il_8 hI hq927.1.1 hq927.1.2 (fun j hj => by first | omega | exact False.elim hj | (dsimp only at hj; omega))
        have hT925 : RA lg922 it923 := ra_8 hT hq927.1.2 (fun j hj => by first | omega | exact False.elim hj | (dsimp only at hj; omega))
        have hP928 : RP lg922 it923 := rp_8 hP hq927.1.2 (fun j hj => by first | omega | exact False.elim hj | (dsimp only at hj; omega))
        try have f929 : ((x3 + 1) : Int32).toInt = (x3).toInt + 1 := ad32 (a := (x3).toInt) (b := 1) (rfl) (ti_1) (by omega) (by omega)
        refine ⟨vp_of (by first | omega | ((try simp only [Int32.lt_iff_toInt_lt, Int32.le_iff_toInt_le, ← Int32.toInt_inj, Int32.toInt_toInt64, tiA, tlA]); omega)) (by first | omega | ((try simp only [Int32.lt_iff_toInt_lt, Int32.le_iff_toInt_le, ← Int32.toInt_inj, Int32.toInt_toInt64, tiA, tlA]); omega)), ?_⟩
        try have f931 : ((x3 + 2) : Int32).toInt = (x3).toInt + 2 := ad32 (a := (x3).toInt) (b := 2) (rfl) (ti_2) (by omega) (by omega)
        refine ⟨vp_of (by first | omega | ((try simp only [Int32.lt_iff_toInt_lt, Int32.le_iff_toInt_le, ← Int32.toInt_inj, Int32.toInt_toInt64, tiA, tlA]); omega)) (by first | omega | ((try simp only [Int32.lt_iff_toInt_lt, Int32.le_iff_toInt_le, ← Int32.toInt_inj, Int32.toInt_toInt64, tiA, tlA]); omega)), ?_⟩
        try have f933 : ((x3 + 3) : Int32).toInt = (x3).toInt + 3 := ad32 (a := (x3).toInt) (b := 3) (rfl) (ti_3) (by omega) (by omega)
        refine ⟨vp_of (by first | omega | ((try simp only [Int32.lt_iff_toInt_lt, Int32.le_iff_toInt_le, ← Int32.toInt_inj, Int32.toInt_toInt64, tiA, tlA]); omega)) (by first | omega | ((try simp only [Int32.lt_iff_toInt_lt, Int32.le_iff_toInt_le, ← Int32.toInt_inj, Int32.toInt_toInt64, tiA, tlA]); omega)), ?_⟩
        refine ⟨_, s_X9_of ((xs (x3 + 1).toNatClampNeg)) ((xs (x3 + 2).toNatClampNeg)) ((xs (x3 + 3).toNatClampNeg)) hI924.2, ?_⟩
        intro v939 lg935 it936 hq940
        have hI937 : IL lg935 it936 := il_9 hI924 hq940.1 hq940.2 (fun j hj => by first | omega | exact False.elim hj | (dsimp only at hj; omega))
        have hT938 : RA lg935 it936 := ra_9 hT925 hq940.2 (fun j hj => by first | omega | exact False.elim hj | (dsimp only at hj; omega)) (fun j hj => by first | omega | exact False.elim hj | (dsimp only at hj; omega))
        have hP942 : RP lg935 it936 := rp_9 hP928 hq940.2 (fun j hj => by first | omega | exact False.elim hj | (dsimp only at hj; omega)) (fun j hj => by first | omega | exact False.elim hj | (dsimp only at hj; omega))
        have f943 : (x3 + Int32.ofInt 6).toInt = x3.toInt + 6 := ad32 rfl (by decide) (by omega) (by omega)
        exact ih18 ((x3 + Int32.ofInt 6)) _ _ hI937 hT938 hP942 (by omega) (by omega)
      · skip
        try have f944 : ((x3 + 1) : Int32).toInt = (x3).toInt + 1 := ad32 (a := (x3).toInt) (b := 1) (rfl) (ti_1) (by omega) (by omega)
        refine ⟨vp_of (by first | omega | ((try simp only [Int32.lt_iff_toInt_lt, Int32.le_iff_toInt_le, ← Int32.toInt_inj, Int32.toInt_toInt64, tiA, tlA]); omega)) (by first | omega | ((try simp only [Int32.lt_iff_toInt_lt, Int32.le_iff_toInt_le, ← Int32.toInt_inj, Int32.toInt_toInt64, tiA, tlA]); omega)), ?_⟩
        refine ⟨_, f_X8_told ((xs (x3 + 1).toNatClampNeg)) hI.1 _ (ra_v hT) (ra_o hT) (ra_c hT), ?_⟩
        intro v950 lg946 it947 hq951
        have hI948 : IL lg946 it947 := il_8 hI hq951.1.1 hq951.1.2 (fun j hj => by first | omega | exact False.elim hj | (dsimp only at hj; omega))
        have hT949 : RA lg946 it947 := ra_q hT hq951.1.2 hq951.2.2 (fun j hj => by first | omega | exact False.elim hj | (dsimp only at hj; omega))
        have hP952 : RP lg946 it947 := rp_8 hP hq951.1.2 (fun j hj => by first | omega | exact False.elim hj | (dsimp only at hj; omega))
        try have f953 : ((x3 + 1) : Int32).toInt = (x3).toInt + 1 := ad32 (a := (x3).toInt) (b := 1) (rfl) (ti_1) (by omega) (by omega)
        refine ⟨vp_of (by first | omega | ((try simp only [Int32.lt_iff_toInt_lt, Int32.le_iff_toInt_le, ← Int32.toInt_inj, Int32.toInt_toInt64, tiA, tlA]); omega)) (by first | omega | ((try simp only [Int32.lt_iff_toInt_lt, Int32.le_iff_toInt_le, ← Int32.toInt_inj, Int32.toInt_toInt64, tiA, tlA]); omega)), ?_⟩
        refine ⟨_, s_X9_told ((xs (x3 + 1).toNatClampNeg)) hI948.2, ?_⟩
        intro v959 lg955 it956 hq960
        have hI957 : IL lg955 it956 := il_9 hI948 hq960.1 hq960.2 (fun j hj => by first | omega | exact False.elim hj | (dsimp only at hj; omega))
        have hT958 : RA lg955 it956 := ra_9 hT949 hq960.2 (fun j hj => by first | omega | exact False.elim hj | (dsimp only at hj; omega)) (fun j hj => by first | omega | exact False.elim hj | (dsimp only at hj; omega))
        have hP962 : RP lg955 it956 := rp_9 hP952 hq960.2 (fun j hj => by first | omega | exact False.elim hj | (dsimp only at hj; omega)) (fun j hj => by first | omega | exact False.elim hj | (dsimp only at hj; omega))
        have f963 : (x3 + Int32.ofInt 6).toInt = x3.toInt + 6 := ad32 rfl (by decide) (by omega) (by omega)
        exact ih18 ((x3 + Int32.ofInt 6)) _ _ hI957 hT958 hP962 (by omega) (by omega)
      · skip
        try have f964 : ((x3 + 1) : Int32).toInt = (x3).toInt + 1 := ad32 (a := (x3).toInt) (b := 1) (rfl) (ti_1) (by omega) (by omega)
        refine ⟨vp_of (by first | omega | ((try simp only [Int32.lt_iff_toInt_lt, Int32.le_iff_toInt_le, ← Int32.toInt_inj, Int32.toInt_toInt64, tiA, tlA]); omega)) (by first | omega | ((try simp only [Int32.lt_iff_toInt_lt, Int32.le_iff_toInt_le, ← Int32.toInt_inj, Int32.toInt_toInt64, tiA, tlA]); omega)), ?_⟩
        try have f966 : ((x3 + 2) : Int32).toInt = (x3).toInt + 2 := ad32 (a := (x3).toInt) (b := 2) (rfl) (ti_2) (by omega) (by omega)
        refine ⟨vp_of (by first | omega | ((try simp only [Int32.lt_iff_toInt_lt, Int32.le_iff_toInt_le, ← Int32.toInt_inj, Int32.toInt_toInt64, tiA, tlA]); omega)) (by first | omega | ((try simp only [Int32.lt_iff_toInt_lt, Int32.le_iff_toInt_le, ← Int32.toInt_inj, Int32.toInt_toInt64, tiA, tlA]); omega)), ?_⟩
        refine ⟨_, s_X8_push ((xs (x3 + 1).toNatClampNeg)) ((xs (x3 + 2).toNatClampNeg)) hI.1, ?_⟩
        intro v972 lg968 it969 hq973
        have hI970 : IL lg968 it969 := il_8 hI hq973.1 hq973.2 (fun j hj => by first | omega | exact False.elim hj | (dsimp only at hj; omega))
        have hT971 : RA lg968 it969 := ra_8 hT hq973.2 (fun j hj => by first | omega | exact False.elim hj | (dsimp only at hj; omega))
        have hP974 : RP lg968 it969 := rp_8 hP hq973.2 (fun j hj => by first | omega | exact False.elim hj | (dsimp only at hj; omega))
        try have f975 : ((x3 + 1) : Int32).toInt = (x3).toInt + 1 := ad32 (a := (x3).toInt) (b := 1) (rfl) (ti_1) (by omega) (by omega)
        refine ⟨vp_of (by first | omega | ((try simp only [Int32.lt_iff_toInt_lt, Int32.le_iff_toInt_le, ← Int32.toInt_inj, Int32.toInt_toInt64, tiA, tlA]); omega)) (by first | omega | ((try simp only [Int32.lt_iff_toInt_lt, Int32.le_iff_toInt_le, ← Int32.toInt_inj, Int32.toInt_toInt64, tiA, tlA]); omega)), ?_⟩
        try have f977 : ((x3 + 2) : Int32).toInt = (x3).toInt + 2 := ad32 (a := (x3).toInt) (b := 2) (rfl) (ti_2) (by omega) (by omega)
        refine ⟨vp_of (by first | omega | ((try simp only [Int32.lt_iff_toInt_lt, Int32.le_iff_toInt_le, ← Int32.toInt_inj, Int32.toInt_toInt64, tiA, tlA]); omega)) (by first | omega | ((try simp only [Int32.lt_iff_toInt_lt, Int32.le_iff_toInt_le, ← Int32.toInt_inj, Int32.toInt_toInt64, tiA, tlA]); omega)), ?_⟩
        refine ⟨_, s_X9_push ((xs (x3 + 1).toNatClampNeg)) ((xs (x3 + 2).toNatClampNeg)) hI970.2, ?_⟩
        intro v983 lg979 it980 hq984
        have hI981 : IL lg979 it980 := il_9 hI970 hq984.1 hq984.2 (fun j hj => by first | omega | exact False.elim hj | (dsimp only at hj; omega))
        have hT982 : RA lg979 it980 := ra_9 hT971 hq984.2 (fun j hj => by first | omega | exact False.elim hj | (dsimp only at hj; omega)) (fun j hj => by first | omega | exact False.elim hj | (dsimp only at hj; omega))
        have hP986 : RP lg979 it980 := rp_9 hP974 hq984.2 (fun j hj => by first | omega | exact False.elim hj | (dsimp only at hj; omega)) (fun j hj => by first | omega | exact False.elim hj | (dsimp only at hj; omega))
        have f987 : (x3 + Int32.ofInt 6).toInt = x3.toInt + 6 := ad32 rfl (by decide) (by omega) (by omega)
        exact ih18 ((x3 + Int32.ofInt 6)) _ _ hI981 hT982 hP986 (by omega) (by omega)
      · skip
        try have f988 : ((x3 + 1) : Int32).toInt = (x3).toInt + 1 := ad32 (a := (x3).toInt) (b := 1) (rfl) (ti_1) (by omega) (by omega)
        refine ⟨vp_of (by first | omega | ((try simp only [Int32.lt_iff_toInt_lt, Int32.le_iff_toInt_le, ← Int32.toInt_inj, Int32.toInt_toInt64, tiA, tlA]); omega)) (by first | omega | ((try simp only [Int32.lt_iff_toInt_lt, Int32.le_iff_toInt_le, ← Int32.toInt_inj, Int32.toInt_toInt64, tiA, tlA]); omega)), ?_⟩
        refine ⟨_, f_X8_where ((xs (x3 + 1).toNatClampNeg)) hI.1 _ (ra_v hT) (ra_o hT) (ra_c hT), ?_⟩
        intro v994 lg990 it991 hq995
        have hI992 : IL lg990 it991 := il_8 hI hq995.1.1 hq995.1.2 (fun j hj => by first | omega | exact False.elim hj | (dsimp only at hj; omega))
        have hT993 : RA lg990 it991 := ra_q hT hq995.1.2 hq995.2.2 (fun j hj => by first | omega | exact False.elim hj | (dsimp only at hj; omega))
        have hP996 : RP lg990 it991 := rp_8 hP hq995.1.2 (fun j hj => by first | omega | exact False.elim hj | (dsimp only at hj; omega))
        try have f997 : ((x3 + 1) : Int32).toInt = (x3).toInt + 1 := ad32 (a := (x3).toInt) (b := 1) (rfl) (ti_1) (by omega) (by omega)
        refine ⟨vp_of (by first | omega | ((try simp only [Int32.lt_iff_toInt_lt, Int32.le_iff_toInt_le, ← Int32.toInt_inj, Int32.toInt_toInt64, tiA, tlA]); omega)) (by first | omega | ((try simp only [Int32.lt_iff_toInt_lt, Int32.le_iff_toInt_le, ← Int32.toInt_inj, Int32.toInt_toInt64, tiA, tlA]); omega)), ?_⟩
        refine ⟨_, s_X9_where ((xs (x3 + 1).toNatClampNeg)) hI992.2, ?_⟩
        intro v1003 lg999 it1000 hq1004
        have hI1001 : IL lg999 it1000 := il_9 hI992 hq1004.1 hq1004.2 (fun j hj => by first | omega | exact False.elim hj | (dsimp only at hj; omega))
        have hT1002 : RA lg999 it1000 := ra_9 hT993 hq1004.2 (fun j hj => by first | omega | exact False.elim hj | (dsimp only at hj; omega)) (fun j hj => by first | omega | exact False.elim hj | (dsimp only at hj; omega))
        have hP1006 : RP lg999 it1000 := rp_9 hP996 hq1004.2 (fun j hj => by first | omega | exact False.elim hj | (dsimp only at hj; omega)) (fun j hj => by first | omega | exact False.elim hj | (dsimp only at hj; omega))
        have f1007 : (x3 + Int32.ofInt 6).toInt = x3.toInt + 6 := ad32 rfl (by decide) (by omega) (by omega)
        exact ih18 ((x3 + Int32.ofInt 6)) _ _ hI1001 hT1002 hP1006 (by omega) (by omega)
      · skip
        try have f1008 : ((x3 + 1) : Int32).toInt = (x3).toInt + 1 := ad32 (a := (x3).toInt) (b := 1) (rfl) (ti_1) (by omega) (by omega)
        refine ⟨vp_of (by first | omega | ((try simp only [Int32.lt_iff_toInt_lt, Int32.le_iff_toInt_le, ← Int32.toInt_inj, Int32.toInt_toInt64, tiA, tlA]); omega)) (by first | omega | ((try simp only [Int32.lt_iff_toInt_lt, Int32.le_iff_toInt_le, ← Int32.toInt_inj, Int32.toInt_toInt64, tiA, tlA]); omega)), ?_⟩
        try have f1010 : ((x3 + 2) : Int32).toInt = (x3).toInt + 2 := ad32 (a := (x3).toInt) (b := 2) (rfl) (ti_2) (by omega) (by omega)
        refine ⟨vp_of (by first | omega | ((try simp only [Int32.lt_iff_toInt_lt, Int32.le_iff_toInt_le, ← Int32.toInt_inj, Int32.toInt_toInt64, tiA, tlA]); omega)) (by first | omega | ((try simp only [Int32.lt_iff_toInt_lt, Int32.le_iff_toInt_le, ← Int32.toInt_inj, Int32.toInt_toInt64, tiA, tlA]); omega)), ?_⟩
        refine ⟨_, f_X8_time ((xs (x3 + 1).toNatClampNeg)) ((xs (x3 + 2).toNatClampNeg)) hI.1 _ (ra_v hT) (ra_o hT) (ra_c hT), ?_⟩
        intro v1016 lg1012 it1013 hq1017
        have hI1014 : IL lg1012 it1013 := il_8 hI hq1017.1.1 hq1017.1.2 (fun j hj => by first | omega | exact False.elim hj | (dsimp only at hj; omega))
        have hT1015 : RA lg1012 it1013 := ra_q hT hq1017.1.2 hq1017.2.2 (fun j hj => by first | omega | exact False.elim hj | (dsimp only at hj; omega))
        have hP1018 : RP lg1012 it1013 := rp_8 hP hq1017.1.2 (fun j hj => by first | omega | exact False.elim hj | (dsimp only at hj; omega))
        try have f1019 : ((x3 + 1) : Int32).toInt = (x3).toInt + 1 := ad32 (a := (x3).toInt) (b := 1) (rfl) (ti_1) (by omega) (by omega)
        refine ⟨vp_of (by first | omega | ((try simp only [Int32.lt_iff_toInt_lt, Int32.le_iff_toInt_le, ← Int32.toInt_inj, Int32.toInt_toInt64, tiA, tlA]); omega)) (by first | omega | ((try simp only [Int32.lt_iff_toInt_lt, Int32.le_iff_toInt_le, ← Int32.toInt_inj, Int32.toInt_toInt64, tiA, tlA]); omega)), ?_⟩
        try have f1021 : ((x3 + 2) : Int32).toInt = (x3).toInt + 2 := ad32 (a := (x3).toInt) (b := 2) (rfl) (ti_2) (by omega) (by omega)
        refine ⟨vp_of (by first | omega | ((try simp only [Int32.lt_iff_toInt_lt, Int32.le_iff_toInt_le, ← Int32.toInt_inj, Int32.toInt_toInt64, tiA, tlA]); omega)) (by first | omega | ((try simp only [Int32.lt_iff_toInt_lt, Int32.le_iff_toInt_le, ← Int32.toInt_inj, Int32.toInt_toInt64, tiA, tlA]); omega)), ?_⟩
        refine ⟨_, s_X9_time ((xs (x3 + 1).toNatClampNeg)) ((xs (x3 + 2).toNatClampNeg)) hI1014.2, ?_⟩
        intro v1027 lg1023 it1024 hq1028
        have hI1025 : IL lg1023 it1024 := il_9 hI1014 hq1028.1 hq1028.2 (fun j hj => by first | omega | exact False.elim hj | (dsimp only at hj; omega))
        have hT1026 : RA lg1023 it1024 := ra_9 hT1015 hq1028.2 (fun j hj => by first | omega | exact False.elim hj | (dsimp only at hj; omega)) (fun j hj => by first | omega | exact False.elim hj | (dsimp only at hj; omega))
        have hP1030 : RP lg1023 it1024 := rp_9 hP1018 hq1028.2 (fun j hj => by first | omega | exact False.elim hj | (dsimp only at hj; omega)) (fun j hj => by first | omega | exact False.elim hj | (dsimp only at hj; omega))
        have f1031 : (x3 + Int32.ofInt 6).toInt = x3.toInt + 6 := ad32 rfl (by decide) (by omega) (by omega)
        exact ih18 ((x3 + Int32.ofInt 6)) _ _ hI1025 hT1026 hP1030 (by omega) (by omega)
      · skip
        try have f1032 : ((x3 + 1) : Int32).toInt = (x3).toInt + 1 := ad32 (a := (x3).toInt) (b := 1) (rfl) (ti_1) (by omega) (by omega)
        refine ⟨vp_of (by first | omega | ((try simp only [Int32.lt_iff_toInt_lt, Int32.le_iff_toInt_le, ← Int32.toInt_inj, Int32.toInt_toInt64, tiA, tlA]); omega)) (by first | omega | ((try simp only [Int32.lt_iff_toInt_lt, Int32.le_iff_toInt_le, ← Int32.toInt_inj, Int32.toInt_toInt64, tiA, tlA]); omega)), ?_⟩
        try have f1034 : ((x3 + 2) : Int32).toInt = (x3).toInt + 2 := ad32 (a := (x3).toInt) (b := 2) (rfl) (ti_2) (by omega) (by omega)
        refine ⟨vp_of (by first | omega | ((try simp only [Int32.lt_iff_toInt_lt, Int32.le_iff_toInt_le, ← Int32.toInt_inj, Int32.toInt_toInt64, tiA, tlA]); omega)) (by first | omega | ((try simp only [Int32.lt_iff_toInt_lt, Int32.le_iff_toInt_le, ← Int32.toInt_inj, Int32.toInt_toInt64, tiA, tlA]); omega)), ?_⟩
        try have f1036 : ((x3 + 3) : Int32).toInt = (x3).toInt + 3 := ad32 (a := (x3).toInt) (b := 3) (rfl) (ti_3) (by omega) (by omega)
        refine ⟨vp_of (by first | omega | ((try simp only [Int32.lt_iff_toInt_lt, Int32.le_iff_toInt_le, ← Int32.toInt_inj, Int32.toInt_toInt64, tiA, tlA]); omega)) (by first | omega | ((try simp only [Int32.lt_iff_toInt_lt, Int32.le_iff_toInt_le, ← Int32.toInt_inj, Int32.toInt_toInt64, tiA, tlA]); omega)), ?_⟩
        try have f1038 : ((x3 + 4) : Int32).toInt = (x3).toInt + 4 := ad32 (a := (x3).toInt) (b := 4) (rfl) (ti_4) (by omega) (by omega)
        refine ⟨vp_of (by first | omega | ((try simp only [Int32.lt_iff_toInt_lt, Int32.le_iff_toInt_le, ← Int32.toInt_inj, Int32.toInt_toInt64, tiA, tlA]); omega)) (by first | omega | ((try simp only [Int32.lt_iff_toInt_lt, Int32.le_iff_toInt_le, ← Int32.toInt_inj, Int32.toInt_toInt64, tiA, tlA]); omega)), ?_⟩
        refine ⟨_, f_X8_behind ((xs (x3 + 1).toNatClampNeg)) ((xs (x3 + 2).toNatClampNeg)) ((xs (x3 + 3).toNatClampNeg)) ((xs (x3 + 4).toNatClampNeg)) hI.1 _ (ra_v hT) (ra_o hT) (ra_c hT), ?_⟩
        intro v1044 lg1040 it1041 hq1045
        have hI1042 : IL lg1040 it1041 := il_8 hI hq1045.1.1 hq1045.1.2 (fun j hj => by first | omega | exact False.elim hj | (dsimp only at hj; omega))
        have hT1043 : RA lg1040 it1041 := ra_q hT hq1045.1.2 hq1045.2.2 (fun j hj => by first | omega | exact False.elim hj | (dsimp only at hj; omega))
        have hP1046 : RP lg1040 it1041 := rp_8 hP hq1045.1.2 (fun j hj => by first | omega | exact False.elim hj | (dsimp only at hj; omega))
        try have f1047 : ((x3 + 1) : Int32).toInt = (x3).toInt + 1 := ad32 (a := (x3).toInt) (b := 1) (rfl) (ti_1) (by omega) (by omega)
        refine ⟨vp_of (by first | omega | ((try simp only [Int32.lt_iff_toInt_lt, Int32.le_iff_toInt_le, ← Int32.toInt_inj, Int32.toInt_toInt64, tiA, tlA]); omega)) (by first | omega | ((try simp only [Int32.lt_iff_toInt_lt, Int32.le_iff_toInt_le, ← Int32.toInt_inj, Int32.toInt_toInt64, tiA, tlA]); omega)), ?_⟩
        try have f1049 : ((x3 + 2) : Int32).toInt = (x3).toInt + 2 := ad32 (a := (x3).toInt) (b := 2) (rfl) (ti_2) (by omega) (by omega)
        refine ⟨vp_of (by first | omega | ((try simp only [Int32.lt_iff_toInt_lt, Int32.le_iff_toInt_le, ← Int32.toInt_inj, Int32.toInt_toInt64, tiA, tlA]); omega)) (by first | omega | ((try simp only [Int32.lt_iff_toInt_lt, Int32.le_iff_toInt_le, ← Int32.toInt_inj, Int32.toInt_toInt64, tiA, tlA]); omega)), ?_⟩
        try have f1051 : ((x3 + 3) : Int32).toInt = (x3).toInt + 3 := ad32 (a := (x3).toInt) (b := 3) (rfl) (ti_3) (by omega) (by omega)
        refine ⟨vp_of (by first | omega | ((try simp only [Int32.lt_iff_toInt_lt, Int32.le_iff_toInt_le, ← Int32.toInt_inj, Int32.toInt_toInt64, tiA, tlA]); omega)) (by first | omega | ((try simp only [Int32.lt_iff_toInt_lt, Int32.le_iff_toInt_le, ← Int32.toInt_inj, Int32.toInt_toInt64, tiA, tlA]); omega)), ?_⟩
        try have f1053 : ((x3 + 4) : Int32).toInt = (x3).toInt + 4 := ad32 (a := (x3).toInt) (b := 4) (rfl) (ti_4) (by omega) (by omega)
        refine ⟨vp_of (by first | omega | ((try simp only [Int32.lt_iff_toInt_lt, Int32.le_iff_toInt_le, ← Int32.toInt_inj, Int32.toInt_toInt64, tiA, tlA]); omega)) (by first | omega | ((try simp only [Int32.lt_iff_toInt_lt, Int32.le_iff_toInt_le, ← Int32.toInt_inj, Int32.toInt_toInt64, tiA, tlA]); omega)), ?_⟩
        refine ⟨_, s_X9_behind ((xs (x3 + 1).toNatClampNeg)) ((xs (x3 + 2).toNatClampNeg)) ((xs (x3 + 3).toNatClampNeg)) ((xs (x3 + 4).toNatClampNeg)) hI1042.2, ?_⟩
        intro v1059 lg1055 it1056 hq1060
        have hI1057 : IL lg1055 it1056 := il_9 hI1042 hq1060.1 hq1060.2 (fun j hj => by first | omega | exact False.elim hj | (dsimp only at hj; omega))
        have hT1058 : RA lg1055 it1056 := ra_9 hT1043 hq1060.2 (fun j hj => by first | omega | exact False.elim hj | (dsimp only at hj; omega)) (fun j hj => by first | omega | exact False.elim hj | (dsimp only at hj; omega))
        have hP1062 : RP lg1055 it1056 := rp_9 hP1046 hq1060.2 (fun j hj => by first | omega | exact False.elim hj | (dsimp only at hj; omega)) (fun j hj => by first | omega | exact False.elim hj | (dsimp only at hj; omega))
        have f1063 : (x3 + Int32.ofInt 6).toInt = x3.toInt + 6 := ad32 rfl (by decide) (by omega) (by omega)
        exact ih18 ((x3 + Int32.ofInt 6)) _ _ hI1057 hT1058 hP1062 (by omega) (by omega)
      · skip
        try have f1064 : ((x3 + 1) : Int32).toInt = (x3).toInt + 1 := ad32 (a := (x3).toInt) (b := 1) (rfl) (ti_1) (by omega) (by omega)
        refine ⟨vp_of (by first | omega | ((try simp only [Int32.lt_iff_toInt_lt, Int32.le_iff_toInt_le, ← Int32.toInt_inj, Int32.toInt_toInt64, tiA, tlA]); omega)) (by first | omega | ((try simp only [Int32.lt_iff_toInt_lt, Int32.le_iff_toInt_le, ← Int32.toInt_inj, Int32.toInt_toInt64, tiA, tlA]); omega)), ?_⟩
        try have f1066 : ((x3 + 2) : Int32).toInt = (x3).toInt + 2 := ad32 (a := (x3).toInt) (b := 2) (rfl) (ti_2) (by omega) (by omega)
        refine ⟨vp_of (by first | omega | ((try simp only [Int32.lt_iff_toInt_lt, Int32.le_iff_toInt_le, ← Int32.toInt_inj, Int32.toInt_toInt64, tiA, tlA]); omega)) (by first | omega | ((try simp only [Int32.lt_iff_toInt_lt, Int32.le_iff_toInt_le, ← Int32.toInt_inj, Int32.toInt_toInt64, tiA, tlA]); omega)), ?_⟩
        refine ⟨_, c_X8_then ((xs (x3 + 1).toNatClampNeg)) ((xs (x3 + 2).toNatClampNeg)) hI.1 _ (ra_v hT) (ra_o hT) (ra_c hT), ?_⟩
        intro v1072 lg1068 it1069 hq1073
        have hI1070 : IL lg1068 it1069 := il_8 hI hq1073.1 hq1073.2.1 (fun j hj => by first | omega | exact False.elim hj | (dsimp only at hj; omega))
        have hT1071 : RA lg1068 it1069 := ra_q hT hq1073.2.1 hq1073.2.2.1 (fun j hj => by first | omega | exact False.elim hj | (dsimp only at hj; omega))
        have hP1074 : RP lg1068 it1069 := rp_8 hP hq1073.2.1 (fun j hj => by first | omega | exact False.elim hj | (dsimp only at hj; omega))
        try have f1075 : ((x3 + 1) : Int32).toInt = (x3).toInt + 1 := ad32 (a := (x3).toInt) (b := 1) (rfl) (ti_1) (by omega) (by omega)
        refine ⟨vp_of (by first | omega | ((try simp only [Int32.lt_iff_toInt_lt, Int32.le_iff_toInt_le, ← Int32.toInt_inj, Int32.toInt_toInt64, tiA, tlA]); omega)) (by first | omega | ((try simp only [Int32.lt_iff_toInt_lt, Int32.le_iff_toInt_le, ← Int32.toInt_inj, Int32.toInt_toInt64, tiA, tlA]); omega)), ?_⟩
        try have f1077 : ((x3 + 2) : Int32).toInt = (x3).toInt + 2 := ad32 (a := (x3).toInt) (b := 2) (rfl) (ti_2) (by omega) (by omega)
        refine ⟨vp_of (by first | omega | ((try simp only [Int32.lt_iff_toInt_lt, Int32.le_iff_toInt_le, ← Int32.toInt_inj, Int32.toInt_toInt64, tiA, tlA]); omega)) (by first | omega | ((try simp only [Int32.lt_iff_toInt_lt, Int32.le_iff_toInt_le, ← Int32.toInt_inj, Int32.toInt_toInt64, tiA, tlA]); omega)), ?_⟩
        refine ⟨_, s_X9_then ((xs (x3 + 1).toNatClampNeg)) ((xs (x3 + 2).toNatClampNeg)) hI1070.2, ?_⟩
        intro v1083 lg1079 it1080 hq1084
        have hI1081 : IL lg1079 it1080 := il_9 hI1070 hq1084.1 hq1084.2 (fun j hj => by first | omega | exact False.elim hj | (dsimp only at hj; omega))
        have hT1082 : RA lg1079 it1080 := ra_9 hT1071 hq1084.2 (fun j hj => by first | omega | exact False.elim hj | (dsimp only at hj; omega)) (fun j hj => by first | omega | exact False.elim hj | (dsimp only at hj; omega))
        have hP1086 : RP lg1079 it1080 := rp_9 hP1074 hq1084.2 (fun j hj => by first | omega | exact False.elim hj | (dsimp only at hj; omega)) (fun j hj => by first | omega | exact False.elim hj | (dsimp only at hj; omega))
        have f1087 : (x3 + Int32.ofInt 6).toInt = x3.toInt + 6 := ad32 rfl (by decide) (by omega) (by omega)
        exact ih18 ((x3 + Int32.ofInt 6)) _ _ hI1081 hT1082 hP1086 (by omega) (by omega)
      · skip
        try have f1088 : ((x3 + 1) : Int32).toInt = (x3).toInt + 1 := ad32 (a := (x3).toInt) (b := 1) (rfl) (ti_1) (by omega) (by omega)
        refine ⟨vp_of (by first | omega | ((try simp only [Int32.lt_iff_toInt_lt, Int32.le_iff_toInt_le, ← Int32.toInt_inj, Int32.toInt_toInt64, tiA, tlA]); omega)) (by first | omega | ((try simp only [Int32.lt_iff_toInt_lt, Int32.le_iff_toInt_le, ← Int32.toInt_inj, Int32.toInt_toInt64, tiA, tlA]); omega)), ?_⟩
        refine ⟨_, c_X8_often ((xs (x3 + 1).toNatClampNeg)) hI.1 _ (ra_v hT) (ra_o hT) (ra_c hT), ?_⟩
        intro v1094 lg1090 it1091 hq1095
        have hI1092 : IL lg1090 it1091 := il_8 hI hq1095.1 hq1095.2.1 (fun j hj => by first | omega | exact False.elim hj | (dsimp only at hj; omega))
        have hT1093 : RA lg1090 it1091 := ra_q hT hq1095.2.1 hq1095.2.2.1 (fun j hj => by first | omega | exact False.elim hj | (dsimp only at hj; omega))
        have hP1096 : RP lg1090 it1091 := rp_8 hP hq1095.2.1 (fun j hj => by first | omega | exact False.elim hj | (dsimp only at hj; omega))
        try have f1097 : ((x3 + 1) : Int32).toInt = (x3).toInt + 1 := ad32 (a := (x3).toInt) (b := 1) (rfl) (ti_1) (by omega) (by omega)
        refine ⟨vp_of (by first | omega | ((try simp only [Int32.lt_iff_toInt_lt, Int32.le_iff_toInt_le, ← Int32.toInt_inj, Int32.toInt_toInt64, tiA, tlA]); omega)) (by first | omega | ((try simp only [Int32.lt_iff_toInt_lt, Int32.le_iff_toInt_le, ← Int32.toInt_inj, Int32.toInt_toInt64, tiA, tlA]); omega)), ?_⟩
        refine ⟨_, s_X9_often ((xs (x3 + 1).toNatClampNeg)) hI1092.2, ?_⟩
        intro v1103 lg1099 it1100 hq1104
        have hI1101 : IL lg1099 it1100 := il_9 hI1092 hq1104.1 hq1104.2 (fun j hj => by first | omega | exact False.elim hj | (dsimp only at hj; omega))
        have hT1102 : RA lg1099 it1100 := ra_9 hT1093 hq1104.2 (fun j hj => by first | omega | exact False.elim hj | (dsimp only at hj; omega)) (fun j hj => by first | omega | exact False.elim hj | (dsimp only at hj; omega))
        have hP1106 : RP lg1099 it1100 := rp_9 hP1096 hq1104.2 (fun j hj => by first | omega | exact False.elim hj | (dsimp only at hj; omega)) (fun j hj => by first | omega | exact False.elim hj | (dsimp only at hj; omega))
        have f1107 : (x3 + Int32.ofInt 6).toInt = x3.toInt + 6 := ad32 rfl (by decide) (by omega) (by omega)
        exact ih18 ((x3 + Int32.ofInt 6)) _ _ hI1101 hT1102 hP1106 (by omega) (by omega)
      · skip
        try have f1108 : ((x3 + 1) : Int32).toInt = (x3).toInt + 1 := ad32 (a := (x3).toInt) (b := 1) (rfl) (ti_1) (by omega) (by omega)
        refine ⟨vp_of (by first | omega | ((try simp only [Int32.lt_iff_toInt_lt, Int32.le_iff_toInt_le, ← Int32.toInt_inj, Int32.toInt_toInt64, tiA, tlA]); omega)) (by first | omega | ((try simp only [Int32.lt_iff_toInt_lt, Int32.le_iff_toInt_le, ← Int32.toInt_inj, Int32.toInt_toInt64, tiA, tlA]); omega)), ?_⟩
        try have f1110 : ((x3 + 2) : Int32).toInt = (x3).toInt + 2 := ad32 (a := (x3).toInt) (b := 2) (rfl) (ti_2) (by omega) (by omega)
        refine ⟨vp_of (by first | omega | ((try simp only [Int32.lt_iff_toInt_lt, Int32.le_iff_toInt_le, ← Int32.toInt_inj, Int32.toInt_toInt64, tiA, tlA]); omega)) (by first | omega | ((try simp only [Int32.lt_iff_toInt_lt, Int32.le_iff_toInt_le, ← Int32.toInt_inj, Int32.toInt_toInt64, tiA, tlA]); omega)), ?_⟩
        try have f1112 : ((x3 + 3) : Int32).toInt = (x3).toInt + 3 := ad32 (a := (x3).toInt) (b := 3) (rfl) (ti_3) (by omega) (by omega)
        refine ⟨vp_of (by first | omega | ((try simp only [Int32.lt_iff_toInt_lt, Int32.le_iff_toInt_le, ← Int32.toInt_inj, Int32.toInt_toInt64, tiA, tlA]); omega)) (by first | omega | ((try simp only [Int32.lt_iff_toInt_lt, Int32.le_iff_toInt_le, ← Int32.toInt_inj, Int32.toInt_toInt64, tiA, tlA]); omega)), ?_⟩
        refine ⟨_, c_X8_at ((xs (x3 + 1).toNatClampNeg)) ((xs (x3 + 2).toNatClampNeg)) ((xs (x3 + 3).toNatClampNeg)) hI.1 _ (ra_v hT) (ra_o hT) (ra_c hT), ?_⟩
        intro v1118 lg1114 it1115 hq1119
        have hI1116 : IL lg1114 it1115 := il_8 hI hq1119.1 hq1119.2.1 (fun j hj => by first | omega | exact False.elim hj | (dsimp only at hj; omega))
        have hT1117 : RA lg1114 it1115 := ra_q hT hq1119.2.1 hq1119.2.2.1 (fun j hj => by first | omega | exact False.elim hj | (dsimp only at hj; omega))
        have hP1120 : RP lg1114 it1115 := rp_8 hP hq1119.2.1 (fun j hj => by first | omega | exact False.elim hj | (dsimp only at hj; omega))
        try have f1121 : ((x3 + 1) : Int32).toInt = (x3).toInt + 1 := ad32 (a := (x3).toInt) (b := 1) (rfl) (ti_1) (by omega) (by omega)
        refine ⟨vp_of (by first | omega | ((try simp only [Int32.lt_iff_toInt_lt, Int32.le_iff_toInt_le, ← Int32.toInt_inj, Int32.toInt_toInt64, tiA, tlA]); omega)) (by first | omega | ((try simp only [Int32.lt_iff_toInt_lt, Int32.le_iff_toInt_le, ← Int32.toInt_inj, Int32.toInt_toInt64, tiA, tlA]); omega)), ?_⟩
        try have f1123 : ((x3 + 2) : Int32).toInt = (x3).toInt + 2 := ad32 (a := (x3).toInt) (b := 2) (rfl) (ti_2) (by omega) (by omega)
        refine ⟨vp_of (by first | omega | ((try simp only [Int32.lt_iff_toInt_lt, Int32.le_iff_toInt_le, ← Int32.toInt_inj, Int32.toInt_toInt64, tiA, tlA]); omega)) (by first | omega | ((try simp only [Int32.lt_iff_toInt_lt, Int32.le_iff_toInt_le, ← Int32.toInt_inj, Int32.toInt_toInt64, tiA, tlA]); omega)), ?_⟩
        try have f1125 : ((x3 + 3) : Int32).toInt = (x3).toInt + 3 := ad32 (a := (x3).toInt) (b := 3) (rfl) (ti_3) (by omega) (by omega)
        refine ⟨vp_of (by first | omega | ((try simp only [Int32.lt_iff_toInt_lt, Int32.le_iff_toInt_le, ← Int32.toInt_inj, Int32.toInt_toInt64, tiA, tlA]); omega)) (by first | omega | ((try simp only [Int32.lt_iff_toInt_lt, Int32.le_iff_toInt_le, ← Int32.toInt_inj, Int32.toInt_toInt64, tiA, tlA]); omega)), ?_⟩
        refine ⟨_, s_X9_at ((xs (x3 + 1).toNatClampNeg)) ((xs (x3 + 2).toNatClampNeg)) ((xs (x3 + 3).toNatClampNeg)) hI1116.2, ?_⟩
        intro v1131 lg1127 it1128 hq1132
        have hI1129 : IL lg1127 it1128 := il_9 hI1116 hq1132.1 hq1132.2 (fun j hj => by first | omega | exact False.elim hj | (dsimp only at hj; omega))
        have hT1130 : RA lg1127 it1128 := ra_9 hT1117 hq1132.2 (fun j hj => by first | omega | exact False.elim hj | (dsimp only at hj; omega)) (fun j hj => by first | omega | exact False.elim hj | (dsimp only at hj; omega))
        have hP1134 : RP lg1127 it1128 := rp_9 hP1120 hq1132.2 (fun j hj => by first | omega | exact False.elim hj | (dsimp only at hj; omega)) (fun j hj => by first | omega | exact False.elim hj | (dsimp only at hj; omega))
        have f1135 : (x3 + Int32.ofInt 6).toInt = x3.toInt + 6 := ad32 rfl (by decide) (by omega) (by omega)
        exact ih18 ((x3 + Int32.ofInt 6)) _ _ hI1129 hT1130 hP1134 (by omega) (by omega)
      · skip
        try have f1136 : ((x3 + 1) : Int32).toInt = (x3).toInt + 1 := ad32 (a := (x3).toInt) (b := 1) (rfl) (ti_1) (by omega) (by omega)
        refine ⟨vp_of (by first | omega | ((try simp only [Int32.lt_iff_toInt_lt, Int32.le_iff_toInt_le, ← Int32.toInt_inj, Int32.toInt_toInt64, tiA, tlA]); omega)) (by first | omega | ((try simp only [Int32.lt_iff_toInt_lt, Int32.le_iff_toInt_le, ← Int32.toInt_inj, Int32.toInt_toInt64, tiA, tlA]); omega)), ?_⟩
        try have f1138 : ((x3 + 2) : Int32).toInt = (x3).toInt + 2 := ad32 (a := (x3).toInt) (b := 2) (rfl) (ti_2) (by omega) (by omega)
        refine ⟨vp_of (by first | omega | ((try simp only [Int32.lt_iff_toInt_lt, Int32.le_iff_toInt_le, ← Int32.toInt_inj, Int32.toInt_toInt64, tiA, tlA]); omega)) (by first | omega | ((try simp only [Int32.lt_iff_toInt_lt, Int32.le_iff_toInt_le, ← Int32.toInt_inj, Int32.toInt_toInt64, tiA, tlA]); omega)), ?_⟩
        refine ⟨_, f_X8_see ((xs (x3 + 1).toNatClampNeg)) ((xs (x3 + 2).toNatClampNeg)) hI.1, ?_⟩
        intro v1144 lg1140 it1141 hq1145
        have hI1142 : IL lg1140 it1141 := il_8 hI hq1145.1.1 hq1145.1.2 (fun j hj => by first | omega | exact False.elim hj | (dsimp only at hj; omega))
        have hT1143 : RA lg1140 it1141 := ra_st hT hq1145.1.2 (fun j hj => by first | omega | exact False.elim hj | (dsimp only at hj; omega)) hq1145.2.2
        try have f1146 : ((x3 + 1) : Int32).toInt = (x3).toInt + 1 := ad32 (a := (x3).toInt) (b := 1) (rfl) (ti_1) (by omega) (by omega)
        refine ⟨vp_of (by first | omega | ((try simp only [Int32.lt_iff_toInt_lt, Int32.le_iff_toInt_le, ← Int32.toInt_inj, Int32.toInt_toInt64, tiA, tlA]); omega)) (by first | omega | ((try simp only [Int32.lt_iff_toInt_lt, Int32.le_iff_toInt_le, ← Int32.toInt_inj, Int32.toInt_toInt64, tiA, tlA]); omega)), ?_⟩
        try have f1148 : ((x3 + 2) : Int32).toInt = (x3).toInt + 2 := ad32 (a := (x3).toInt) (b := 2) (rfl) (ti_2) (by omega) (by omega)
        refine ⟨vp_of (by first | omega | ((try simp only [Int32.lt_iff_toInt_lt, Int32.le_iff_toInt_le, ← Int32.toInt_inj, Int32.toInt_toInt64, tiA, tlA]); omega)) (by first | omega | ((try simp only [Int32.lt_iff_toInt_lt, Int32.le_iff_toInt_le, ← Int32.toInt_inj, Int32.toInt_toInt64, tiA, tlA]); omega)), ?_⟩
        refine ⟨_, f_X9_see ((xs (x3 + 1).toNatClampNeg)) ((xs (x3 + 2).toNatClampNeg)) hI1142.2, ?_⟩
        intro v1154 lg1150 it1151 hq1155
        have hI1152 : IL lg1150 it1151 := il_9 hI1142 hq1155.1.1 hq1155.1.2 (fun j hj => by first | omega | exact False.elim hj | (dsimp only at hj; omega))
        have hT1153 : RA lg1150 it1151 := ra_9 hT1143 hq1155.1.2 (fun j hj => by first | omega | exact False.elim hj | (dsimp only at hj; omega)) (fun j hj => by first | omega | exact False.elim hj | (dsimp only at hj; omega))
        have hP1157 := rp_see hP hI.1 hq1145.1.2 (fun j hj => by first | omega | exact False.elim hj | (dsimp only at hj; omega)) hq1145.2 hq1155.1.2 hq1155.2 (fun j hj => by first | omega | exact False.elim hj | (dsimp only at hj; omega)) (fun j hj => by first | omega | exact False.elim hj | (dsimp only at hj; omega))
        have f1159 : (x3 + Int32.ofInt 6).toInt = x3.toInt + 6 := ad32 rfl (by decide) (by omega) (by omega)
        exact ih18 ((x3 + Int32.ofInt 6)) _ _ hI1152 hT1153 hP1157.1 (by omega) (by omega)
      · skip
        try have f1160 : ((x3 + 1) : Int32).toInt = (x3).toInt + 1 := ad32 (a := (x3).toInt) (b := 1) (rfl) (ti_1) (by omega) (by omega)
        refine ⟨vp_of (by first | omega | ((try simp only [Int32.lt_iff_toInt_lt, Int32.le_iff_toInt_le, ← Int32.toInt_inj, Int32.toInt_toInt64, tiA, tlA]); omega)) (by first | omega | ((try simp only [Int32.lt_iff_toInt_lt, Int32.le_iff_toInt_le, ← Int32.toInt_inj, Int32.toInt_toInt64, tiA, tlA]); omega)), ?_⟩
        try have f1162 : ((x3 + 2) : Int32).toInt = (x3).toInt + 2 := ad32 (a := (x3).toInt) (b := 2) (rfl) (ti_2) (by omega) (by omega)
        refine ⟨vp_of (by first | omega | ((try simp only [Int32.lt_iff_toInt_lt, Int32.le_iff_toInt_le, ← Int32.toInt_inj, Int32.toInt_toInt64, tiA, tlA]); omega)) (by first | omega | ((try simp only [Int32.lt_iff_toInt_lt, Int32.le_iff_toInt_le, ← Int32.toInt_inj, Int32.toInt_toInt64, tiA, tlA]); omega)), ?_⟩
        refine ⟨_, c_X8_fits ((xs (x3 + 1).toNatClampNeg)) ((xs (x3 + 2).toNatClampNeg)) hI.1 _ (ra_v hT) (ra_o hT) (ra_c hT) (ra_l hT).1, ?_⟩
        intro v1168 lg1164 it1165 hq1169
        have hI1166 : IL lg1164 it1165 := il_8 hI hq1169.1 hq1169.2.1 (fun j hj => by first | omega | exact False.elim hj | (dsimp only at hj; omega))
        have hT1167 : RA lg1164 it1165 := ra_q hT hq1169.2.1 hq1169.2.2.1 (fun j hj => by first | omega | exact False.elim hj | (dsimp only at hj; omega))
        have hP1170 : RP lg1164 it1165 := rp_8 hP hq1169.2.1 (fun j hj => by first | omega | exact False.elim hj | (dsimp only at hj; omega))
        try have f1171 : ((x3 + 1) : Int32).toInt = (x3).toInt + 1 := ad32 (a := (x3).toInt) (b := 1) (rfl) (ti_1) (by omega) (by omega)
        refine ⟨vp_of (by first | omega | ((try simp only [Int32.lt_iff_toInt_lt, Int32.le_iff_toInt_le, ← Int32.toInt_inj, Int32.toInt_toInt64, tiA, tlA]); omega)) (by first | omega | ((try simp only [Int32.lt_iff_toInt_lt, Int32.le_iff_toInt_le, ← Int32.toInt_inj, Int32.toInt_toInt64, tiA, tlA]); omega)), ?_⟩
        try have f1173 : ((x3 + 2) : Int32).toInt = (x3).toInt + 2 := ad32 (a := (x3).toInt) (b := 2) (rfl) (ti_2) (by omega) (by omega)
        refine ⟨vp_of (by first | omega | ((try simp only [Int32.lt_iff_toInt_lt, Int32.le_iff_toInt_le, ← Int32.toInt_inj, Int32.toInt_toInt64, tiA, tlA]); omega)) (by first | omega | ((try simp only [Int32.lt_iff_toInt_lt, Int32.le_iff_toInt_le, ← Int32.toInt_inj, Int32.toInt_toInt64, tiA, tlA]); omega)), ?_⟩
        refine ⟨_, s_X9_fits ((xs (x3 + 1).toNatClampNeg)) ((xs (x3 + 2).toNatClampNeg)) hI1166.2, ?_⟩
        intro v1179 lg1175 it1176 hq1180
        have hI1177 : IL lg1175 it1176 := il_9 hI1166 hq1180.1 hq1180.2 (fun j hj => by first | omega | exact False.elim hj | (dsimp only at hj; omega))
        have hT1178 : RA lg1175 it1176 := ra_9 hT1167 hq1180.2 (fun j hj => by first | omega | exact False.elim hj | (dsimp only at hj; omega)) (fun j hj => by first | omega | exact False.elim hj | (dsimp only at hj; omega))
        have hP1182 : RP lg1175 it1176 := rp_9 hP1170 hq1180.2 (fun j hj => by first | omega | exact False.elim hj | (dsimp only at hj; omega)) (fun j hj => by first | omega | exact False.elim hj | (dsimp only at hj; omega))
        have f1183 : (x3 + Int32.ofInt 6).toInt = x3.toInt + 6 := ad32 rfl (by decide) (by omega) (by omega)
        exact ih18 ((x3 + Int32.ofInt 6)) _ _ hI1177 hT1178 hP1182 (by omega) (by omega)
      · skip
        try have f1184 : ((x3 + 1) : Int32).toInt = (x3).toInt + 1 := ad32 (a := (x3).toInt) (b := 1) (rfl) (ti_1) (by omega) (by omega)
        refine ⟨vp_of (by first | omega | ((try simp only [Int32.lt_iff_toInt_lt, Int32.le_iff_toInt_le, ← Int32.toInt_inj, Int32.toInt_toInt64, tiA, tlA]); omega)) (by first | omega | ((try simp only [Int32.lt_iff_toInt_lt, Int32.le_iff_toInt_le, ← Int32.toInt_inj, Int32.toInt_toInt64, tiA, tlA]); omega)), ?_⟩
        try have f1186 : ((x3 + 2) : Int32).toInt = (x3).toInt + 2 := ad32 (a := (x3).toInt) (b := 2) (rfl) (ti_2) (by omega) (by omega)
        refine ⟨vp_of (by first | omega | ((try simp only [Int32.lt_iff_toInt_lt, Int32.le_iff_toInt_le, ← Int32.toInt_inj, Int32.toInt_toInt64, tiA, tlA]); omega)) (by first | omega | ((try simp only [Int32.lt_iff_toInt_lt, Int32.le_iff_toInt_le, ← Int32.toInt_inj, Int32.toInt_toInt64, tiA, tlA]); omega)), ?_⟩
        refine ⟨_, c_X8_odds ((xs (x3 + 1).toNatClampNeg)) ((xs (x3 + 2).toNatClampNeg)) hI.1 _ (ra_v hT) (ra_o hT) (ra_c hT), ?_⟩
        intro v1192 lg1188 it1189 hq1193
        have hI1190 : IL lg1188 it1189 := il_8 hI hq1193.1 hq1193.2.1 (fun j hj => by first | omega | exact False.elim hj | (dsimp only at hj; omega))
        have hT1191 : RA lg1188 it1189 := ra_q hT hq1193.2.1 hq1193.2.2.1 (fun j hj => by first | omega | exact False.elim hj | (dsimp only at hj; omega))
        have hP1194 : RP lg1188 it1189 := rp_8 hP hq1193.2.1 (fun j hj => by first | omega | exact False.elim hj | (dsimp only at hj; omega))
        try have f1195 : ((x3 + 1) : Int32).toInt = (x3).toInt + 1 := ad32 (a := (x3).toInt) (b := 1) (rfl) (ti_1) (by omega) (by omega)
        refine ⟨vp_of (by first | omega | ((try simp only [Int32.lt_iff_toInt_lt, Int32.le_iff_toInt_le, ← Int32.toInt_inj, Int32.toInt_toInt64, tiA, tlA]); omega)) (by first | omega | ((try simp only [Int32.lt_iff_toInt_lt, Int32.le_iff_toInt_le, ← Int32.toInt_inj, Int32.toInt_toInt64, tiA, tlA]); omega)), ?_⟩
        try have f1197 : ((x3 + 2) : Int32).toInt = (x3).toInt + 2 := ad32 (a := (x3).toInt) (b := 2) (rfl) (ti_2) (by omega) (by omega)
        refine ⟨vp_of (by first | omega | ((try simp only [Int32.lt_iff_toInt_lt, Int32.le_iff_toInt_le, ← Int32.toInt_inj, Int32.toInt_toInt64, tiA, tlA]); omega)) (by first | omega | ((try simp only [Int32.lt_iff_toInt_lt, Int32.le_iff_toInt_le, ← Int32.toInt_inj, Int32.toInt_toInt64, tiA, tlA]); omega)), ?_⟩
        refine ⟨_, s_X9_odds ((xs (x3 + 1).toNatClampNeg)) ((xs (x3 + 2).toNatClampNeg)) hI1190.2, ?_⟩
        intro v1203 lg1199 it1200 hq1204
        have hI1201 : IL lg1199 it1200 := il_9 hI1190 hq1204.1 hq1204.2 (fun j hj => by first | omega | exact False.elim hj | (dsimp only at hj; omega))
        have hT1202 : RA lg1199 it1200 := ra_9 hT1191 hq1204.2 (fun j hj => by first | omega | exact False.elim hj | (dsimp only at hj; omega)) (fun j hj => by first | omega | exact False.elim hj | (dsimp only at hj; omega))
        have hP1206 : RP lg1199 it1200 := rp_9 hP1194 hq1204.2 (fun j hj => by first | omega | exact False.elim hj | (dsimp only at hj; omega)) (fun j hj => by first | omega | exact False.elim hj | (dsimp only at hj; omega))
        have f1207 : (x3 + Int32.ofInt 6).toInt = x3.toInt + 6 := ad32 rfl (by decide) (by omega) (by omega)
        exact ih18 ((x3 + Int32.ofInt 6)) _ _ hI1201 hT1202 hP1206 (by omega) (by omega)
      · skip
        try have f1208 : ((x3 + 1) : Int32).toInt = (x3).toInt + 1 := ad32 (a := (x3).toInt) (b := 1) (rfl) (ti_1) (by omega) (by omega)
        refine ⟨vp_of (by first | omega | ((try simp only [Int32.lt_iff_toInt_lt, Int32.le_iff_toInt_le, ← Int32.toInt_inj, Int32.toInt_toInt64, tiA, tlA]); omega)) (by first | omega | ((try simp only [Int32.lt_iff_toInt_lt, Int32.le_iff_toInt_le, ← Int32.toInt_inj, Int32.toInt_toInt64, tiA, tlA]); omega)), ?_⟩
        refine ⟨_, s_X8_mean ((xs (x3 + 1).toNatClampNeg)) hI.1, ?_⟩
        intro v1214 lg1210 it1211 hq1215
        have hI1212 : IL lg1210 it1211 := il_8 hI hq1215.1 hq1215.2 (fun j hj => by first | omega | exact False.elim hj | (dsimp only at hj; omega))
        have hT1213 : RA lg1210 it1211 := ra_8 hT hq1215.2 (fun j hj => by first | omega | exact False.elim hj | (dsimp only at hj; omega))
        have hP1216 : RP lg1210 it1211 := rp_8 hP hq1215.2 (fun j hj => by first | omega | exact False.elim hj | (dsimp only at hj; omega))
        try have f1217 : ((x3 + 1) : Int32).toInt = (x3).toInt + 1 := ad32 (a := (x3).toInt) (b := 1) (rfl) (ti_1) (by omega) (by omega)
        refine ⟨vp_of (by first | omega | ((try simp only [Int32.lt_iff_toInt_lt, Int32.le_iff_toInt_le, ← Int32.toInt_inj, Int32.toInt_toInt64, tiA, tlA]); omega)) (by first | omega | ((try simp only [Int32.lt_iff_toInt_lt, Int32.le_iff_toInt_le, ← Int32.toInt_inj, Int32.toInt_toInt64, tiA, tlA]); omega)), ?_⟩
        refine ⟨_, s_X9_mean ((xs (x3 + 1).toNatClampNeg)) hI1212.2, ?_⟩
        intro v1223 lg1219 it1220 hq1224
        have hI1221 : IL lg1219 it1220 := il_9 hI1212 hq1224.1 hq1224.2 (fun j hj => by first | omega | exact False.elim hj | (dsimp only at hj; omega))
        have hT1222 : RA lg1219 it1220 := ra_9 hT1213 hq1224.2 (fun j hj => by first | omega | exact False.elim hj | (dsimp only at hj; omega)) (fun j hj => by first | omega | exact False.elim hj | (dsimp only at hj; omega))
        have hP1226 : RP lg1219 it1220 := rp_9 hP1216 hq1224.2 (fun j hj => by first | omega | exact False.elim hj | (dsimp only at hj; omega)) (fun j hj => by first | omega | exact False.elim hj | (dsimp only at hj; omega))
        have f1227 : (x3 + Int32.ofInt 6).toInt = x3.toInt + 6 := ad32 rfl (by decide) (by omega) (by omega)
        exact ih18 ((x3 + Int32.ofInt 6)) _ _ hI1221 hT1222 hP1226 (by omega) (by omega)
      · skip
        try have f1228 : ((x3 + 1) : Int32).toInt = (x3).toInt + 1 := ad32 (a := (x3).toInt) (b := 1) (rfl) (ti_1) (by omega) (by omega)
        refine ⟨vp_of (by first | omega | ((try simp only [Int32.lt_iff_toInt_lt, Int32.le_iff_toInt_le, ← Int32.toInt_inj, Int32.toInt_toInt64, tiA, tlA]); omega)) (by first | omega | ((try simp only [Int32.lt_iff_toInt_lt, Int32.le_iff_toInt_le, ← Int32.toInt_inj, Int32.toInt_toInt64, tiA, tlA]); omega)), ?_⟩
        try have f1230 : ((x3 + 2) : Int32).toInt = (x3).toInt + 2 := ad32 (a := (x3).toInt) (b := 2) (rfl) (ti_2) (by omega) (by omega)
        refine ⟨vp_of (by first | omega | ((try simp only [Int32.lt_iff_toInt_lt, Int32.le_iff_toInt_le, ← Int32.toInt_inj, Int32.toInt_toInt64, tiA, tlA]); omega)) (by first | omega | ((try simp only [Int32.lt_iff_toInt_lt, Int32.le_iff_toInt_le, ← Int32.toInt_inj, Int32.toInt_toInt64, tiA, tlA]); omega)), ?_⟩
        refine ⟨_, f_X8_event ((xs (x3 + 1).toNatClampNeg)) ((xs (x3 + 2).toNatClampNeg)) hI.1 _ (ra_v hT), ?_⟩
        intro v1236 lg1232 it1233 hq1237
        have hI1234 : IL lg1232 it1233 := il_8 hI hq1237.1.1 hq1237.1.2 (fun j hj => by first | omega | exact False.elim hj | (dsimp only at hj; omega))
        have hT1235 : RA lg1232 it1233 := ra_ev hT hq1237.1.2 (fun j hj => by first | omega | exact False.elim hj | (dsimp only at hj; omega)) hq1237.2.2
        try have f1238 : ((x3 + 1) : Int32).toInt = (x3).toInt + 1 := ad32 (a := (x3).toInt) (b := 1) (rfl) (ti_1) (by omega) (by omega)
        refine ⟨vp_of (by first | omega | ((try simp only [Int32.lt_iff_toInt_lt, Int32.le_iff_toInt_le, ← Int32.toInt_inj, Int32.toInt_toInt64, tiA, tlA]); omega)) (by first | omega | ((try simp only [Int32.lt_iff_toInt_lt, Int32.le_iff_toInt_le, ← Int32.toInt_inj, Int32.toInt_toInt64, tiA, tlA]); omega)), ?_⟩
        try have f1240 : ((x3 + 2) : Int32).toInt = (x3).toInt + 2 := ad32 (a := (x3).toInt) (b := 2) (rfl) (ti_2) (by omega) (by omega)
        refine ⟨vp_of (by first | omega | ((try simp only [Int32.lt_iff_toInt_lt, Int32.le_iff_toInt_le, ← Int32.toInt_inj, Int32.toInt_toInt64, tiA, tlA]); omega)) (by first | omega | ((try simp only [Int32.lt_iff_toInt_lt, Int32.le_iff_toInt_le, ← Int32.toInt_inj, Int32.toInt_toInt64, tiA, tlA]); omega)), ?_⟩
        refine ⟨_, f_X9_event ((xs (x3 + 1).toNatClampNeg)) ((xs (x3 + 2).toNatClampNeg)) hI1234.2, ?_⟩
        intro v1246 lg1242 it1243 hq1247
        have hI1244 : IL lg1242 it1243 := il_9 hI1234 hq1247.1.1 hq1247.1.2 (fun j hj => by first | omega | exact False.elim hj | (dsimp only at hj; omega))
        have hT1245 : RA lg1242 it1243 := ra_9 hT1235 hq1247.1.2 (fun j hj => by first | omega | exact False.elim hj | (dsimp only at hj; omega)) (fun j hj => by first | omega | exact False.elim hj | (dsimp only at hj; omega))
        have w1250 := congrArg (fun V : Rlv => rN V) (w9_8 hq1237.1.2 (fun j hj => by first | omega | exact False.elim hj | (dsimp only at hj; omega)))
        have hP1249 := rp_event hP hq1237.1.2 (fun j hj => by first | omega | exact False.elim hj | (dsimp only at hj; omega)) w1250 hq1237.2 hq1247.1.2 hq1247.2 (fun j hj => by first | omega | exact False.elim hj | (dsimp only at hj; omega)) (fun j hj => by first | omega | exact False.elim hj | (dsimp only at hj; omega))
        have f1251 : (x3 + Int32.ofInt 6).toInt = x3.toInt + 6 := ad32 rfl (by decide) (by omega) (by omega)
        exact ih18 ((x3 + Int32.ofInt 6)) _ _ hI1244 hT1245 hP1249.1 (by omega) (by omega)
      · skip
        try have f1252 : ((x3 + 1) : Int32).toInt = (x3).toInt + 1 := ad32 (a := (x3).toInt) (b := 1) (rfl) (ti_1) (by omega) (by omega)
        refine ⟨vp_of (by first | omega | ((try simp only [Int32.lt_iff_toInt_lt, Int32.le_iff_toInt_le, ← Int32.toInt_inj, Int32.toInt_toInt64, tiA, tlA]); omega)) (by first | omega | ((try simp only [Int32.lt_iff_toInt_lt, Int32.le_iff_toInt_le, ← Int32.toInt_inj, Int32.toInt_toInt64, tiA, tlA]); omega)), ?_⟩
        refine ⟨_, c_X8_after ((xs (x3 + 1).toNatClampNeg)) hI.1 _ (ra_v hT) (ra_o hT) (ra_c hT) (ra_l hT).2.2.1, ?_⟩
        intro v1258 lg1254 it1255 hq1259
        have hI1256 : IL lg1254 it1255 := il_8 hI hq1259.1.1 hq1259.1.2.1 (fun j hj => by first | omega | exact False.elim hj | (dsimp only at hj; omega))
        have hT1257 : RA lg1254 it1255 := ra_q hT hq1259.1.2.1 hq1259.1.2.2.1 (fun j hj => by first | omega | exact False.elim hj | (dsimp only at hj; omega))
        have hP1260 : RP lg1254 it1255 := rp_8 hP hq1259.1.2.1 (fun j hj => by first | omega | exact False.elim hj | (dsimp only at hj; omega))
        try have f1261 : ((x3 + 1) : Int32).toInt = (x3).toInt + 1 := ad32 (a := (x3).toInt) (b := 1) (rfl) (ti_1) (by omega) (by omega)
        refine ⟨vp_of (by first | omega | ((try simp only [Int32.lt_iff_toInt_lt, Int32.le_iff_toInt_le, ← Int32.toInt_inj, Int32.toInt_toInt64, tiA, tlA]); omega)) (by first | omega | ((try simp only [Int32.lt_iff_toInt_lt, Int32.le_iff_toInt_le, ← Int32.toInt_inj, Int32.toInt_toInt64, tiA, tlA]); omega)), ?_⟩
        refine ⟨_, s_X9_after ((xs (x3 + 1).toNatClampNeg)) hI1256.2, ?_⟩
        intro v1267 lg1263 it1264 hq1268
        have hI1265 : IL lg1263 it1264 := il_9 hI1256 hq1268.1 hq1268.2 (fun j hj => by first | omega | exact False.elim hj | (dsimp only at hj; omega))
        have hT1266 : RA lg1263 it1264 := ra_9 hT1257 hq1268.2 (fun j hj => by first | omega | exact False.elim hj | (dsimp only at hj; omega)) (fun j hj => by first | omega | exact False.elim hj | (dsimp only at hj; omega))
        have hP1270 : RP lg1263 it1264 := rp_9 hP1260 hq1268.2 (fun j hj => by first | omega | exact False.elim hj | (dsimp only at hj; omega)) (fun j hj => by first | omega | exact False.elim hj | (dsimp only at hj; omega))
        have f1271 : (x3 + Int32.ofInt 6).toInt = x3.toInt + 6 := ad32 rfl (by decide) (by omega) (by omega)
        exact ih18 ((x3 + Int32.ofInt 6)) _ _ hI1265 hT1266 hP1270 (by omega) (by omega)
      · skip
        try have f1272 : ((x3 + 1) : Int32).toInt = (x3).toInt + 1 := ad32 (a := (x3).toInt) (b := 1) (rfl) (ti_1) (by omega) (by omega)
        refine ⟨vp_of (by first | omega | ((try simp only [Int32.lt_iff_toInt_lt, Int32.le_iff_toInt_le, ← Int32.toInt_inj, Int32.toInt_toInt64, tiA, tlA]); omega)) (by first | omega | ((try simp only [Int32.lt_iff_toInt_lt, Int32.le_iff_toInt_le, ← Int32.toInt_inj, Int32.toInt_toInt64, tiA, tlA]); omega)), ?_⟩
        try have f1274 : ((x3 + 2) : Int32).toInt = (x3).toInt + 2 := ad32 (a := (x3).toInt) (b := 2) (rfl) (ti_2) (by omega) (by omega)
        refine ⟨vp_of (by first | omega | ((try simp only [Int32.lt_iff_toInt_lt, Int32.le_iff_toInt_le, ← Int32.toInt_inj, Int32.toInt_toInt64, tiA, tlA]); omega)) (by first | omega | ((try simp only [Int32.lt_iff_toInt_lt, Int32.le_iff_toInt_le, ← Int32.toInt_inj, Int32.toInt_toInt64, tiA, tlA]); omega)), ?_⟩
        refine ⟨_, f_X8_book ((xs (x3 + 1).toNatClampNeg)) ((xs (x3 + 2).toNatClampNeg)) hI.1, ?_⟩
        intro v1280 lg1276 it1277 hq1281
        have hI1278 : IL lg1276 it1277 := il_8 hI hq1281.1.1 hq1281.1.2 (fun j hj => by first | omega | exact False.elim hj | (dsimp only at hj; omega))
        have hT1279 : RA lg1276 it1277 := ra_8 hT hq1281.1.2 (fun j hj => by first | omega | exact False.elim hj | (dsimp only at hj; omega))
        try have f1282 : ((x3 + 1) : Int32).toInt = (x3).toInt + 1 := ad32 (a := (x3).toInt) (b := 1) (rfl) (ti_1) (by omega) (by omega)
        refine ⟨vp_of (by first | omega | ((try simp only [Int32.lt_iff_toInt_lt, Int32.le_iff_toInt_le, ← Int32.toInt_inj, Int32.toInt_toInt64, tiA, tlA]); omega)) (by first | omega | ((try simp only [Int32.lt_iff_toInt_lt, Int32.le_iff_toInt_le, ← Int32.toInt_inj, Int32.toInt_toInt64, tiA, tlA]); omega)), ?_⟩
        try have f1284 : ((x3 + 2) : Int32).toInt = (x3).toInt + 2 := ad32 (a := (x3).toInt) (b := 2) (rfl) (ti_2) (by omega) (by omega)
        refine ⟨vp_of (by first | omega | ((try simp only [Int32.lt_iff_toInt_lt, Int32.le_iff_toInt_le, ← Int32.toInt_inj, Int32.toInt_toInt64, tiA, tlA]); omega)) (by first | omega | ((try simp only [Int32.lt_iff_toInt_lt, Int32.le_iff_toInt_le, ← Int32.toInt_inj, Int32.toInt_toInt64, tiA, tlA]); omega)), ?_⟩
        refine ⟨_, f_X9_book ((xs (x3 + 1).toNatClampNeg)) ((xs (x3 + 2).toNatClampNeg)) hI1278.2, ?_⟩
        intro v1290 lg1286 it1287 hq1291
        have hI1288 : IL lg1286 it1287 := il_9 hI1278 hq1291.1.1 hq1291.1.2 (fun j hj => by first | omega | exact False.elim hj | (dsimp only at hj; omega))
        have hT1289 : RA lg1286 it1287 := ra_9 hT1279 hq1291.1.2 (fun j hj => by first | omega | exact False.elim hj | (dsimp only at hj; omega)) (fun j hj => by first | omega | exact False.elim hj | (dsimp only at hj; omega))
        have hP1293 := rp_book hP hq1281.1.2 (fun j hj => by first | omega | exact False.elim hj | (dsimp only at hj; omega)) hq1281.2 hq1291.1.2 hq1291.2 (fun j hj => by first | omega | exact False.elim hj | (dsimp only at hj; omega)) (fun j hj => by first | omega | exact False.elim hj | (dsimp only at hj; omega))
        have f1295 : (x3 + Int32.ofInt 6).toInt = x3.toInt + 6 := ad32 rfl (by decide) (by omega) (by omega)
        exact ih18 ((x3 + Int32.ofInt 6)) _ _ hI1288 hT1289 hP1293.1 (by omega) (by omega)
      · skip
        refine ⟨_, c_X8_looked  hI.1 _ (ra_v hT) (ra_o hT) (ra_c hT), ?_⟩
        intro v1300 lg1296 it1297 hq1301
        have hI1298 : IL lg1296 it1297 := il_8 hI hq1301.1 hq1301.2.1 (fun j hj => by first | omega | exact False.elim hj | (dsimp only at hj; omega))
        have hT1299 : RA lg1296 it1297 := ra_q hT hq1301.2.1 hq1301.2.2.1 (fun j hj => by first | omega | exact False.elim hj | (dsimp only at hj; omega))
        have hP1302 : RP lg1296 it1297 := rp_8 hP hq1301.2.1 (fun j hj => by first | omega | exact False.elim hj | (dsimp only at hj; omega))
        refine ⟨_, s_X9_looked  hI1298.2, ?_⟩
        intro v1307 lg1303 it1304 hq1308
        have hI1305 : IL lg1303 it1304 := il_9 hI1298 hq1308.1 hq1308.2 (fun j hj => by first | omega | exact False.elim hj | (dsimp only at hj; omega))
        have hT1306 : RA lg1303 it1304 := ra_9 hT1299 hq1308.2 (fun j hj => by first | omega | exact False.elim hj | (dsimp only at hj; omega)) (fun j hj => by first | omega | exact False.elim hj | (dsimp only at hj; omega))
        have hP1310 : RP lg1303 it1304 := rp_9 hP1302 hq1308.2 (fun j hj => by first | omega | exact False.elim hj | (dsimp only at hj; omega)) (fun j hj => by first | omega | exact False.elim hj | (dsimp only at hj; omega))
        have f1311 : (x3 + Int32.ofInt 6).toInt = x3.toInt + 6 := ad32 rfl (by decide) (by omega) (by omega)
        exact ih18 ((x3 + Int32.ofInt 6)) _ _ hI1305 hT1306 hP1310 (by omega) (by omega)
      · skip
        try have f1312 : ((x3 + 1) : Int32).toInt = (x3).toInt + 1 := ad32 (a := (x3).toInt) (b := 1) (rfl) (ti_1) (by omega) (by omega)
        refine ⟨vp_of (by first | omega | ((try simp only [Int32.lt_iff_toInt_lt, Int32.le_iff_toInt_le, ← Int32.toInt_inj, Int32.toInt_toInt64, tiA, tlA]); omega)) (by first | omega | ((try simp only [Int32.lt_iff_toInt_lt, Int32.le_iff_toInt_le, ← Int32.toInt_inj, Int32.toInt_toInt64, tiA, tlA]); omega)), ?_⟩
        try have f1314 : ((x3 + 2) : Int32).toInt = (x3).toInt + 2 := ad32 (a := (x3).toInt) (b := 2) (rfl) (ti_2) (by omega) (by omega)
        refine ⟨vp_of (by first | omega | ((try simp only [Int32.lt_iff_toInt_lt, Int32.le_iff_toInt_le, ← Int32.toInt_inj, Int32.toInt_toInt64, tiA, tlA]); omega)) (by first | omega | ((try simp only [Int32.lt_iff_toInt_lt, Int32.le_iff_toInt_le, ← Int32.toInt_inj, Int32.toInt_toInt64, tiA, tlA]); omega)), ?_⟩
        refine ⟨_, c_X8_judge ((xs (x3 + 1).toNatClampNeg)) ((xs (x3 + 2).toNatClampNeg)) hI.1 _ (ra_v hT) (ra_o hT) (ra_c hT), ?_⟩
        intro v1320 lg1316 it1317 hq1321
        have hI1318 : IL lg1316 it1317 := il_8 hI hq1321.1 hq1321.2.1 (fun j hj => by first | omega | exact False.elim hj | (dsimp only at hj; omega))
        have hT1319 : RA lg1316 it1317 := ra_q hT hq1321.2.1 hq1321.2.2.1 (fun j hj => by first | omega | exact False.elim hj | (dsimp only at hj; omega))
        have hP1322 : RP lg1316 it1317 := rp_8 hP hq1321.2.1 (fun j hj => by first | omega | exact False.elim hj | (dsimp only at hj; omega))
        try have f1323 : ((x3 + 1) : Int32).toInt = (x3).toInt + 1 := ad32 (a := (x3).toInt) (b := 1) (rfl) (ti_1) (by omega) (by omega)
        refine ⟨vp_of (by first | omega | ((try simp only [Int32.lt_iff_toInt_lt, Int32.le_iff_toInt_le, ← Int32.toInt_inj, Int32.toInt_toInt64, tiA, tlA]); omega)) (by first | omega | ((try simp only [Int32.lt_iff_toInt_lt, Int32.le_iff_toInt_le, ← Int32.toInt_inj, Int32.toInt_toInt64, tiA, tlA]); omega)), ?_⟩
        try have f1325 : ((x3 + 2) : Int32).toInt = (x3).toInt + 2 := ad32 (a := (x3).toInt) (b := 2) (rfl) (ti_2) (by omega) (by omega)
        refine ⟨vp_of (by first | omega | ((try simp only [Int32.lt_iff_toInt_lt, Int32.le_iff_toInt_le, ← Int32.toInt_inj, Int32.toInt_toInt64, tiA, tlA]); omega)) (by first | omega | ((try simp only [Int32.lt_iff_toInt_lt, Int32.le_iff_toInt_le, ← Int32.toInt_inj, Int32.toInt_toInt64, tiA, tlA]); omega)), ?_⟩
        refine ⟨_, s_X9_judge ((xs (x3 + 1).toNatClampNeg)) ((xs (x3 + 2).toNatClampNeg)) hI1318.2, ?_⟩
        intro v1331 lg1327 it1328 hq1332
        have hI1329 : IL lg1327 it1328 := il_9 hI1318 hq1332.1 hq1332.2 (fun j hj => by first | omega | exact False.elim hj | (dsimp only at hj; omega))
        have hT1330 : RA lg1327 it1328 := ra_9 hT1319 hq1332.2 (fun j hj => by first | omega | exact False.elim hj | (dsimp only at hj; omega)) (fun j hj => by first | omega | exact False.elim hj | (dsimp only at hj; omega))
        have hP1334 : RP lg1327 it1328 := rp_9 hP1322 hq1332.2 (fun j hj => by first | omega | exact False.elim hj | (dsimp only at hj; omega)) (fun j hj => by first | omega | exact False.elim hj | (dsimp only at hj; omega))
        have f1335 : (x3 + Int32.ofInt 6).toInt = x3.toInt + 6 := ad32 rfl (by decide) (by omega) (by omega)
        exact ih18 ((x3 + Int32.ofInt 6)) _ _ hI1329 hT1330 hP1334 (by omega) (by omega)
      · skip
        refine ⟨_, e_X8_image hI.1, ?_⟩
        intro v1340 lg1336 it1337 hq1341
        have hI1338 : IL lg1336 it1337 := il_8 hI hq1341.1.1 hq1341.1.2 (fun j hj => by first | omega | exact False.elim hj | (dsimp only at hj; omega))
        refine ⟨_, f_X9_image  hI1338.2, ?_⟩
        intro v1346 lg1342 it1343 hq1347
        have hI1344 : IL lg1342 it1343 := il_9 hI1338 hq1347.1.1 hq1347.1.2 (fun j hj => by first | omega | exact False.elim hj | (dsimp only at hj; omega))
        have pr1349 := ra_image hT hI.1 hI.2 hq1341.1.2 hq1341.2 hq1347.1.2 hq1347.2 (fun j hj => by first | omega | exact False.elim hj | (dsimp only at hj; omega)) (fun j hj => by first | omega | exact False.elim hj | (dsimp only at hj; omega))
        have hP1350 : RP lg1342 it1343 := rp_image hP hI.2 hI.1 hq1341.1.2 (fun j hj => by first | omega | exact False.elim hj | (dsimp only at hj; omega)) hq1341.2.1.2.1 hq1341.2.1.2.2.1 hq1341.2.1.2.2.2 hq1347.1.2 hq1347.2.1 (fun j hj => by first | omega | exact False.elim hj | (dsimp only at hj; omega)) (fun j hj => by first | omega | exact False.elim hj | (dsimp only at hj; omega))
        have f1351 : (x3 + Int32.ofInt 6).toInt = x3.toInt + 6 := ad32 rfl (by decide) (by omega) (by omega)
        exact ih18 ((x3 + Int32.ofInt 6)) _ _ hI1344 pr1349.1 hP1350 (by omega) (by omega)
      · skip
        refine ⟨_, e_X8_undo hI.1, ?_⟩
        intro v1356 lg1352 it1353 hq1357
        have hI1354 : IL lg1352 it1353 := il_8 hI hq1357.1.1 hq1357.1.2 (fun j hj => by first | omega | exact False.elim hj | (dsimp only at hj; omega))
        refine ⟨_, f_X9_undo  hI1354.2, ?_⟩
        intro v1362 lg1358 it1359 hq1363
        have hI1360 : IL lg1358 it1359 := il_9 hI1354 hq1363.1.1 hq1363.1.2 (fun j hj => by first | omega | exact False.elim hj | (dsimp only at hj; omega))
        have pr1365 := ra_undo hT hI1354.1 hI1354.2 hI1360.2 hq1357.1.2 hq1357.2 hq1363.1.2 hq1363.2 (fun j hj => by first | omega | exact False.elim hj | (dsimp only at hj; omega)) (fun j hj => by first | omega | exact False.elim hj | (dsimp only at hj; omega))
        have hP1366 : RP lg1358 it1359 := rp_und hP hT hI.1 hq1357.1.2 hq1357.2 hq1363.1.2 hq1363.2 (fun j hj => by first | omega | exact False.elim hj | (dsimp only at hj; omega))
        have f1367 : (x3 + Int32.ofInt 6).toInt = x3.toInt + 6 := ad32 rfl (by decide) (by omega) (by omega)
        exact ih18 ((x3 + Int32.ofInt 6)) _ _ hI1360 pr1365.1 hP1366 (by omega) (by omega)
      · skip
        try have f1368 : ((x3 + 1) : Int32).toInt = (x3).toInt + 1 := ad32 (a := (x3).toInt) (b := 1) (rfl) (ti_1) (by omega) (by omega)
        refine ⟨vp_of (by first | omega | ((try simp only [Int32.lt_iff_toInt_lt, Int32.le_iff_toInt_le, ← Int32.toInt_inj, Int32.toInt_toInt64, tiA, tlA]); omega)) (by first | omega | ((try simp only [Int32.lt_iff_toInt_lt, Int32.le_iff_toInt_le, ← Int32.toInt_inj, Int32.toInt_toInt64, tiA, tlA]); omega)), ?_⟩
        refine ⟨_, f_X8_count ((xs (x3 + 1).toNatClampNeg)) hI.1, ?_⟩
        intro v1374 lg1370 it1371 hq1375
        have hI1372 : IL lg1370 it1371 := il_8 hI hq1375.1.1 hq1375.1.2 (fun j hj => by first | omega | exact False.elim hj | (dsimp only at hj; omega))
        have hT1373 : RA lg1370 it1371 := ra_8 hT hq1375.1.2 (fun j hj => by first | omega | exact False.elim hj | (dsimp only at hj; omega))
        have hP1376 : RP lg1370 it1371 := rp_8 hP hq1375.1.2 (fun j hj => by first | omega | exact False.elim hj | (dsimp only at hj; omega))
        try have f1377 : ((x3 + 1) : Int32).toInt = (x3).toInt + 1 := ad32 (a := (x3).toInt) (b := 1) (rfl) (ti_1) (by omega) (by omega)
        refine ⟨vp_of (by first | omega | ((try simp only [Int32.lt_iff_toInt_lt, Int32.le_iff_toInt_le, ← Int32.toInt_inj, Int32.toInt_toInt64, tiA, tlA]); omega)) (by first | omega | ((try simp only [Int32.lt_iff_toInt_lt, Int32.le_iff_toInt_le, ← Int32.toInt_inj, Int32.toInt_toInt64, tiA, tlA]); omega)), ?_⟩
        refine ⟨_, f_X9_count ((xs (x3 + 1).toNatClampNeg)) hI1372.2, ?_⟩
        intro v1383 lg1379 it1380 hq1384
        have hI1381 : IL lg1379 it1380 := il_9 hI1372 hq1384.1.1 hq1384.1.2 (fun j hj => by first | omega | exact False.elim hj | (dsimp only at hj; omega))
        have hT1382 : RA lg1379 it1380 := ra_9 hT1373 hq1384.1.2 (fun j hj => by first | omega | exact False.elim hj | (dsimp only at hj; omega)) (fun j hj => by first | omega | exact False.elim hj | (dsimp only at hj; omega))
        have hP1386 : RP lg1379 it1380 := rp_9 hP1376 hq1384.1.2 (fun j hj => by first | omega | exact False.elim hj | (dsimp only at hj; omega)) (fun j hj => by first | omega | exact False.elim hj | (dsimp only at hj; omega))
        refine ⟨fun c985 => ?_, fun c985 => ?_⟩
        · skip
          have f1387 : (x3 + Int32.ofInt 6).toInt = x3.toInt + 6 := ad32 rfl (by decide) (by omega) (by omega)
          exact ih18 ((x3 + Int32.ofInt 6)) _ _ hI1381 hT1382 hP1386 (by omega) (by omega)
        · exact absurd (ct_x hP hT hq1375.1.2 (fun j hj => by first | omega | exact False.elim hj | (dsimp only at hj; omega)) hq1375.2 hq1384.2) c985
      · skip
        try have f1388 : ((x3 + 1) : Int32).toInt = (x3).toInt + 1 := ad32 (a := (x3).toInt) (b := 1) (rfl) (ti_1) (by omega) (by omega)
        refine ⟨vp_of (by first | omega | ((try simp only [Int32.lt_iff_toInt_lt, Int32.le_iff_toInt_le, ← Int32.toInt_inj, Int32.toInt_toInt64, tiA, tlA]); omega)) (by first | omega | ((try simp only [Int32.lt_iff_toInt_lt, Int32.le_iff_toInt_le, ← Int32.toInt_inj, Int32.toInt_toInt64, tiA, tlA]); omega)), ?_⟩
        try have f1390 : ((x3 + 2) : Int32).toInt = (x3).toInt + 2 := ad32 (a := (x3).toInt) (b := 2) (rfl) (ti_2) (by omega) (by omega)
        refine ⟨vp_of (by first | omega | ((try simp only [Int32.lt_iff_toInt_lt, Int32.le_iff_toInt_le, ← Int32.toInt_inj, Int32.toInt_toInt64, tiA, tlA]); omega)) (by first | omega | ((try simp only [Int32.lt_iff_toInt_lt, Int32.le_iff_toInt_le, ← Int32.toInt_inj, Int32.toInt_toInt64, tiA, tlA]); omega)), ?_⟩
        try have f1392 : ((x3 + 3) : Int32).toInt = (x3).toInt + 3 := ad32 (a := (x3).toInt) (b := 3) (rfl) (ti_3) (by omega) (by omega)
        refine ⟨vp_of (by first | omega | ((try simp only [Int32.lt_iff_toInt_lt, Int32.le_iff_toInt_le, ← Int32.toInt_inj, Int32.toInt_toInt64, tiA, tlA]); omega)) (by first | omega | ((try simp only [Int32.lt_iff_toInt_lt, Int32.le_iff_toInt_le, ← Int32.toInt_inj, Int32.toInt_toInt64, tiA, tlA]); omega)), ?_⟩
        refine ⟨_, s_X8_tape ((xs (x3 + 1).toNatClampNeg)) ((xs (x3 + 2).toNatClampNeg)) ((xs (x3 + 3).toNatClampNeg)) hI.1, ?_⟩
        intro v1398 lg1394 it1395 hq1399
        have hI1396 : IL lg1394 it1395 := il_8 hI hq1399.1 hq1399.2 (fun j hj => by first | omega | exact False.elim hj | (dsimp only at hj; omega))
        have hT1397 : RA lg1394 it1395 := ra_8 hT hq1399.2 (fun j hj => by first | omega | exact False.elim hj | (dsimp only at hj; omega))
        have hP1400 : RP lg1394 it1395 := rp_8 hP hq1399.2 (fun j hj => by first | omega | exact False.elim hj | (dsimp only at hj; omega))
        try have f1401 : ((x3 + 1) : Int32).toInt = (x3).toInt + 1 := ad32 (a := (x3).toInt) (b := 1) (rfl) (ti_1) (by omega) (by omega)
        refine ⟨vp_of (by first | omega | ((try simp only [Int32.lt_iff_toInt_lt, Int32.le_iff_toInt_le, ← Int32.toInt_inj, Int32.toInt_toInt64, tiA, tlA]); omega)) (by first | omega | ((try simp only [Int32.lt_iff_toInt_lt, Int32.le_iff_toInt_le, ← Int32.toInt_inj, Int32.toInt_toInt64, tiA, tlA]); omega)), ?_⟩
        try have f1403 : ((x3 + 2) : Int32).toInt = (x3).toInt + 2 := ad32 (a := (x3).toInt) (b := 2) (rfl) (ti_2) (by omega) (by omega)
        refine ⟨vp_of (by first | omega | ((try simp only [Int32.lt_iff_toInt_lt, Int32.le_iff_toInt_le, ← Int32.toInt_inj, Int32.toInt_toInt64, tiA, tlA]); omega)) (by first | omega | ((try simp only [Int32.lt_iff_toInt_lt, Int32.le_iff_toInt_le, ← Int32.toInt_inj, Int32.toInt_toInt64, tiA, tlA]); omega)), ?_⟩
        try have f1405 : ((x3 + 3) : Int32).toInt = (x3).toInt + 3 := ad32 (a := (x3).toInt) (b := 3) (rfl) (ti_3) (by omega) (by omega)
        refine ⟨vp_of (by first | omega | ((try simp only [Int32.lt_iff_toInt_lt, Int32.le_iff_toInt_le, ← Int32.toInt_inj, Int32.toInt_toInt64, tiA, tlA]); omega)) (by first | omega | ((try simp only [Int32.lt_iff_toInt_lt, Int32.le_iff_toInt_le, ← Int32.toInt_inj, Int32.toInt_toInt64, tiA, tlA]); omega)), ?_⟩
        refine ⟨_, s_X9_tape ((xs (x3 + 1).toNatClampNeg)) ((xs (x3 + 2).toNatClampNeg)) ((xs (x3 + 3).toNatClampNeg)) hI1396.2, ?_⟩
        intro v1411 lg1407 it1408 hq1412
        have hI1409 : IL lg1407 it1408 := il_9 hI1396 hq1412.1 hq1412.2 (fun j hj => by first | omega | exact False.elim hj | (dsimp only at hj; omega))
        have hT1410 : RA lg1407 it1408 := ra_9 hT1397 hq1412.2 (fun j hj => by first | omega | exact False.elim hj | (dsimp only at hj; omega)) (fun j hj => by first | omega | exact False.elim hj | (dsimp only at hj; omega))
        have hP1414 : RP lg1407 it1408 := rp_9 hP1400 hq1412.2 (fun j hj => by first | omega | exact False.elim hj | (dsimp only at hj; omega)) (fun j hj => by first | omega | exact False.elim hj | (dsimp only at hj; omega))
        have f1415 : (x3 + Int32.ofInt 6).toInt = x3.toInt + 6 := ad32 rfl (by decide) (by omega) (by omega)
        exact ih18 ((x3 + Int32.ofInt 6)) _ _ hI1409 hT1410 hP1414 (by omega) (by omega)
      · skip
        try have f1416 : ((x3 + 1) : Int32).toInt = (x3).toInt + 1 := ad32 (a := (x3).toInt) (b := 1) (rfl) (ti_1) (by omega) (by omega)
        refine ⟨vp_of (by first | omega | ((try simp only [Int32.lt_iff_toInt_lt, Int32.le_iff_toInt_le, ← Int32.toInt_inj, Int32.toInt_toInt64, tiA, tlA]); omega)) (by first | omega | ((try simp only [Int32.lt_iff_toInt_lt, Int32.le_iff_toInt_le, ← Int32.toInt_inj, Int32.toInt_toInt64, tiA, tlA]); omega)), ?_⟩
        try have f1418 : ((x3 + 2) : Int32).toInt = (x3).toInt + 2 := ad32 (a := (x3).toInt) (b := 2) (rfl) (ti_2) (by omega) (by omega)
        refine ⟨vp_of (by first | omega | ((try simp only [Int32.lt_iff_toInt_lt, Int32.le_iff_toInt_le, ← Int32.toInt_inj, Int32.toInt_toInt64, tiA, tlA]); omega)) (by first | omega | ((try simp only [Int32.lt_iff_toInt_lt, Int32.le_iff_toInt_le, ← Int32.toInt_inj, Int32.toInt_toInt64, tiA, tlA]); omega)), ?_⟩
        try have f1420 : ((x3 + 3) : Int32).toInt = (x3).toInt + 3 := ad32 (a := (x3).toInt) (b := 3) (rfl) (ti_3) (by omega) (by omega)
        refine ⟨vp_of (by first | omega | ((try simp only [Int32.lt_iff_toInt_lt, Int32.le_iff_toInt_le, ← Int32.toInt_inj, Int32.toInt_toInt64, tiA, tlA]); omega)) (by first | omega | ((try simp only [Int32.lt_iff_toInt_lt, Int32.le_iff_toInt_le, ← Int32.toInt_inj, Int32.toInt_toInt64, tiA, tlA]); omega)), ?_⟩
        try have f1422 : ((x3 + 4) : Int32).toInt = (x3).toInt + 4 := ad32 (a := (x3).toInt) (b := 4) (rfl) (ti_4) (by omega) (by omega)
        refine ⟨vp_of (by first | omega | ((try simp only [Int32.lt_iff_toInt_lt, Int32.le_iff_toInt_le, ← Int32.toInt_inj, Int32.toInt_toInt64, tiA, tlA]); omega)) (by first | omega | ((try simp only [Int32.lt_iff_toInt_lt, Int32.le_iff_toInt_le, ← Int32.toInt_inj, Int32.toInt_toInt64, tiA, tlA]); omega)), ?_⟩
        refine ⟨_, s_X8_item ((xs (x3 + 1).toNatClampNeg)) ((xs (x3 + 2).toNatClampNeg)) ((((xs (x3 + 3).toNatClampNeg).toInt64 <<< ((32 : Int32).toInt64 &&& 63)) ||| ((xs (x3 + 4).toNatClampNeg).toInt64 &&& 4294967295))) hI.1, ?_⟩
        intro v1428 lg1424 it1425 hq1429
        have hI1426 : IL lg1424 it1425 := il_8 hI hq1429.1 hq1429.2 (fun j hj => by first | omega | exact False.elim hj | (dsimp only at hj; omega))
        have hT1427 : RA lg1424 it1425 := ra_8 hT hq1429.2 (fun j hj => by first | omega | exact False.elim hj | (dsimp only at hj; omega))
        have hP1430 : RP lg1424 it1425 := rp_8 hP hq1429.2 (fun j hj => by first | omega | exact False.elim hj | (dsimp only at hj; omega))
        try have f1431 : ((x3 + 1) : Int32).toInt = (x3).toInt + 1 := ad32 (a := (x3).toInt) (b := 1) (rfl) (ti_1) (by omega) (by omega)
        refine ⟨vp_of (by first | omega | ((try simp only [Int32.lt_iff_toInt_lt, Int32.le_iff_toInt_le, ← Int32.toInt_inj, Int32.toInt_toInt64, tiA, tlA]); omega)) (by first | omega | ((try simp only [Int32.lt_iff_toInt_lt, Int32.le_iff_toInt_le, ← Int32.toInt_inj, Int32.toInt_toInt64, tiA, tlA]); omega)), ?_⟩
        try have f1433 : ((x3 + 2) : Int32).toInt = (x3).toInt + 2 := ad32 (a := (x3).toInt) (b := 2) (rfl) (ti_2) (by omega) (by omega)
        refine ⟨vp_of (by first | omega | ((try simp only [Int32.lt_iff_toInt_lt, Int32.le_iff_toInt_le, ← Int32.toInt_inj, Int32.toInt_toInt64, tiA, tlA]); omega)) (by first | omega | ((try simp only [Int32.lt_iff_toInt_lt, Int32.le_iff_toInt_le, ← Int32.toInt_inj, Int32.toInt_toInt64, tiA, tlA]); omega)), ?_⟩
        try have f1435 : ((x3 + 3) : Int32).toInt = (x3).toInt + 3 := ad32 (a := (x3).toInt) (b := 3) (rfl) (ti_3) (by omega) (by omega)
        refine ⟨vp_of (by first | omega | ((try simp only [Int32.lt_iff_toInt_lt, Int32.le_iff_toInt_le, ← Int32.toInt_inj, Int32.toInt_toInt64, tiA, tlA]); omega)) (by first | omega | ((try simp only [Int32.lt_iff_toInt_lt, Int32.le_iff_toInt_le, ← Int32.toInt_inj, Int32.toInt_toInt64, tiA, tlA]); omega)), ?_⟩
        try have f1437 : ((x3 + 4) : Int32).toInt = (x3).toInt + 4 := ad32 (a := (x3).toInt) (b := 4) (rfl) (ti_4) (by omega) (by omega)
        refine ⟨vp_of (by first | omega | ((try simp only [Int32.lt_iff_toInt_lt, Int32.le_iff_toInt_le, ← Int32.toInt_inj, Int32.toInt_toInt64, tiA, tlA]); omega)) (by first | omega | ((try simp only [Int32.lt_iff_toInt_lt, Int32.le_iff_toInt_le, ← Int32.toInt_inj, Int32.toInt_toInt64, tiA, tlA]); omega)), ?_⟩
        refine ⟨_, s_X9_item ((xs (x3 + 1).toNatClampNeg)) ((xs (x3 + 2).toNatClampNeg)) ((((xs (x3 + 3).toNatClampNeg).toInt64 <<< ((32 : Int32).toInt64 &&& 63)) ||| ((xs (x3 + 4).toNatClampNeg).toInt64 &&& 4294967295))) hI1426.2, ?_⟩
        intro v1443 lg1439 it1440 hq1444
        have hI1441 : IL lg1439 it1440 := il_9 hI1426 hq1444.1 hq1444.2 (fun j hj => by first | omega | exact False.elim hj | (dsimp only at hj; omega))
        have hT1442 : RA lg1439 it1440 := ra_9 hT1427 hq1444.2 (fun j hj => by first | omega | exact False.elim hj | (dsimp only at hj; omega)) (fun j hj => by first | omega | exact False.elim hj | (dsimp only at hj; omega))
        have hP1446 : RP lg1439 it1440 := rp_9 hP1430 hq1444.2 (fun j hj => by first | omega | exact False.elim hj | (dsimp only at hj; omega)) (fun j hj => by first | omega | exact False.elim hj | (dsimp only at hj; omega))
        have f1447 : (x3 + Int32.ofInt 6).toInt = x3.toInt + 6 := ad32 rfl (by decide) (by omega) (by omega)
        exact ih18 ((x3 + Int32.ofInt 6)) _ _ hI1441 hT1442 hP1446 (by omega) (by omega)
      · skip
        try have f1448 : ((x3 + 1) : Int32).toInt = (x3).toInt + 1 := ad32 (a := (x3).toInt) (b := 1) (rfl) (ti_1) (by omega) (by omega)
        refine ⟨vp_of (by first | omega | ((try simp only [Int32.lt_iff_toInt_lt, Int32.le_iff_toInt_le, ← Int32.toInt_inj, Int32.toInt_toInt64, tiA, tlA]); omega)) (by first | omega | ((try simp only [Int32.lt_iff_toInt_lt, Int32.le_iff_toInt_le, ← Int32.toInt_inj, Int32.toInt_toInt64, tiA, tlA]); omega)), ?_⟩
        try have f1450 : ((x3 + 2) : Int32).toInt = (x3).toInt + 2 := ad32 (a := (x3).toInt) (b := 2) (rfl) (ti_2) (by omega) (by omega)
        refine ⟨vp_of (by first | omega | ((try simp only [Int32.lt_iff_toInt_lt, Int32.le_iff_toInt_le, ← Int32.toInt_inj, Int32.toInt_toInt64, tiA, tlA]); omega)) (by first | omega | ((try simp only [Int32.lt_iff_toInt_lt, Int32.le_iff_toInt_le, ← Int32.toInt_inj, Int32.toInt_toInt64, tiA, tlA]); omega)), ?_⟩
        refine ⟨_, s_X8_peek ((xs (x3 + 1).toNatClampNeg)) ((xs (x3 + 2).toNatClampNeg)) hI.1, ?_⟩
        intro v1456 lg1452 it1453 hq1457
        have hI1454 : IL lg1452 it1453 := il_8 hI hq1457.1 hq1457.2 (fun j hj => by first | omega | exact False.elim hj | (dsimp only at hj; omega))
        have hT1455 : RA lg1452 it1453 := ra_8 hT hq1457.2 (fun j hj => by first | omega | exact False.elim hj | (dsimp only at hj; omega))
        have hP1458 : RP lg1452 it1453 := rp_8 hP hq1457.2 (fun j hj => by first | omega | exact False.elim hj | (dsimp only at hj; omega))
        try have f1459 : ((x3 + 1) : Int32).toInt = (x3).toInt + 1 := ad32 (a := (x3).toInt) (b := 1) (rfl) (ti_1) (by omega) (by omega)
        refine ⟨vp_of (by first | omega | ((try simp only [Int32.lt_iff_toInt_lt, Int32.le_iff_toInt_le, ← Int32.toInt_inj, Int32.toInt_toInt64, tiA, tlA]); omega)) (by first | omega | ((try simp only [Int32.lt_iff_toInt_lt, Int32.le_iff_toInt_le, ← Int32.toInt_inj, Int32.toInt_toInt64, tiA, tlA]); omega)), ?_⟩
        try have f1461 : ((x3 + 2) : Int32).toInt = (x3).toInt + 2 := ad32 (a := (x3).toInt) (b := 2) (rfl) (ti_2) (by omega) (by omega)
        refine ⟨vp_of (by first | omega | ((try simp only [Int32.lt_iff_toInt_lt, Int32.le_iff_toInt_le, ← Int32.toInt_inj, Int32.toInt_toInt64, tiA, tlA]); omega)) (by first | omega | ((try simp only [Int32.lt_iff_toInt_lt, Int32.le_iff_toInt_le, ← Int32.toInt_inj, Int32.toInt_toInt64, tiA, tlA]); omega)), ?_⟩
        refine ⟨_, s_X9_peek ((xs (x3 + 1).toNatClampNeg)) ((xs (x3 + 2).toNatClampNeg)) hI1454.2, ?_⟩
        intro v1467 lg1463 it1464 hq1468
        have hI1465 : IL lg1463 it1464 := il_9 hI1454 hq1468.1 hq1468.2 (fun j hj => by first | omega | exact False.elim hj | (dsimp only at hj; omega))
        have hT1466 : RA lg1463 it1464 := ra_9 hT1455 hq1468.2 (fun j hj => by first | omega | exact False.elim hj | (dsimp only at hj; omega)) (fun j hj => by first | omega | exact False.elim hj | (dsimp only at hj; omega))
        have hP1470 : RP lg1463 it1464 := rp_9 hP1458 hq1468.2 (fun j hj => by first | omega | exact False.elim hj | (dsimp only at hj; omega)) (fun j hj => by first | omega | exact False.elim hj | (dsimp only at hj; omega))
        have f1471 : (x3 + Int32.ofInt 6).toInt = x3.toInt + 6 := ad32 rfl (by decide) (by omega) (by omega)
        exact ih18 ((x3 + Int32.ofInt 6)) _ _ hI1465 hT1466 hP1470 (by omega) (by omega)
      · skip
        try have f1472 : ((x3 + 1) : Int32).toInt = (x3).toInt + 1 := ad32 (a := (x3).toInt) (b := 1) (rfl) (ti_1) (by omega) (by omega)
        refine ⟨vp_of (by first | omega | ((try simp only [Int32.lt_iff_toInt_lt, Int32.le_iff_toInt_le, ← Int32.toInt_inj, Int32.toInt_toInt64, tiA, tlA]); omega)) (by first | omega | ((try simp only [Int32.lt_iff_toInt_lt, Int32.le_iff_toInt_le, ← Int32.toInt_inj, Int32.toInt_toInt64, tiA, tlA]); omega)), ?_⟩
        try have f1474 : ((x3 + 2) : Int32).toInt = (x3).toInt + 2 := ad32 (a := (x3).toInt) (b := 2) (rfl) (ti_2) (by omega) (by omega)
        refine ⟨vp_of (by first | omega | ((try simp only [Int32.lt_iff_toInt_lt, Int32.le_iff_toInt_le, ← Int32.toInt_inj, Int32.toInt_toInt64, tiA, tlA]); omega)) (by first | omega | ((try simp only [Int32.lt_iff_toInt_lt, Int32.le_iff_toInt_le, ← Int32.toInt_inj, Int32.toInt_toInt64, tiA, tlA]); omega)), ?_⟩
        try have f1476 : ((x3 + 3) : Int32).toInt = (x3).toInt + 3 := ad32 (a := (x3).toInt) (b := 3) (rfl) (ti_3) (by omega) (by omega)
        refine ⟨vp_of (by first | omega | ((try simp only [Int32.lt_iff_toInt_lt, Int32.le_iff_toInt_le, ← Int32.toInt_inj, Int32.toInt_toInt64, tiA, tlA]); omega)) (by first | omega | ((try simp only [Int32.lt_iff_toInt_lt, Int32.le_iff_toInt_le, ← Int32.toInt_inj, Int32.toInt_toInt64, tiA, tlA]); omega)), ?_⟩
        try have f1478 : ((x3 + 4) : Int32).toInt = (x3).toInt + 4 := ad32 (a := (x3).toInt) (b := 4) (rfl) (ti_4) (by omega) (by omega)
        refine ⟨vp_of (by first | omega | ((try simp only [Int32.lt_iff_toInt_lt, Int32.le_iff_toInt_le, ← Int32.toInt_inj, Int32.toInt_toInt64, tiA, tlA]); omega)) (by first | omega | ((try simp only [Int32.lt_iff_toInt_lt, Int32.le_iff_toInt_le, ← Int32.toInt_inj, Int32.toInt_toInt64, tiA, tlA]); omega)), ?_⟩
        try have f1480 : ((x3 + 5) : Int32).toInt = (x3).toInt + 5 := ad32 (a := (x3).toInt) (b := 5) (rfl) (ti_5) (by omega) (by omega)
        refine ⟨vp_of (by first | omega | ((try simp only [Int32.lt_iff_toInt_lt, Int32.le_iff_toInt_le, ← Int32.toInt_inj, Int32.toInt_toInt64, tiA, tlA]); omega)) (by first | omega | ((try simp only [Int32.lt_iff_toInt_lt, Int32.le_iff_toInt_le, ← Int32.toInt_inj, Int32.toInt_toInt64, tiA, tlA]); omega)), ?_⟩
        refine ⟨_, s_X8_shift ((xs (x3 + 1).toNatClampNeg)) ((xs (x3 + 2).toNatClampNeg)) ((xs (x3 + 3).toNatClampNeg)) ((xs (x3 + 4).toNatClampNeg)) ((xs (x3 + 5).toNatClampNeg)) hI.1, ?_⟩
        intro v1486 lg1482 it1483 hq1487
        have hI1484 : IL lg1482 it1483 := il_8 hI hq1487.1 hq1487.2 (fun j hj => by first | omega | exact False.elim hj | (dsimp only at hj; omega))
        have hT1485 : RA lg1482 it1483 := ra_8 hT hq1487.2 (fun j hj => by first | omega | exact False.elim hj | (dsimp only at hj; omega))
        have hP1488 : RP lg1482 it1483 := rp_8 hP hq1487.2 (fun j hj => by first | omega | exact False.elim hj | (dsimp only at hj; omega))
        try have f1489 : ((x3 + 1) : Int32).toInt = (x3).toInt + 1 := ad32 (a := (x3).toInt) (b := 1) (rfl) (ti_1) (by omega) (by omega)
        refine ⟨vp_of (by first | omega | ((try simp only [Int32.lt_iff_toInt_lt, Int32.le_iff_toInt_le, ← Int32.toInt_inj, Int32.toInt_toInt64, tiA, tlA]); omega)) (by first | omega | ((try simp only [Int32.lt_iff_toInt_lt, Int32.le_iff_toInt_le, ← Int32.toInt_inj, Int32.toInt_toInt64, tiA, tlA]); omega)), ?_⟩
        try have f1491 : ((x3 + 2) : Int32).toInt = (x3).toInt + 2 := ad32 (a := (x3).toInt) (b := 2) (rfl) (ti_2) (by omega) (by omega)
        refine ⟨vp_of (by first | omega | ((try simp only [Int32.lt_iff_toInt_lt, Int32.le_iff_toInt_le, ← Int32.toInt_inj, Int32.toInt_toInt64, tiA, tlA]); omega)) (by first | omega | ((try simp only [Int32.lt_iff_toInt_lt, Int32.le_iff_toInt_le, ← Int32.toInt_inj, Int32.toInt_toInt64, tiA, tlA]); omega)), ?_⟩
        try have f1493 : ((x3 + 3) : Int32).toInt = (x3).toInt + 3 := ad32 (a := (x3).toInt) (b := 3) (rfl) (ti_3) (by omega) (by omega)
        refine ⟨vp_of (by first | omega | ((try simp only [Int32.lt_iff_toInt_lt, Int32.le_iff_toInt_le, ← Int32.toInt_inj, Int32.toInt_toInt64, tiA, tlA]); omega)) (by first | omega | ((try simp only [Int32.lt_iff_toInt_lt, Int32.le_iff_toInt_le, ← Int32.toInt_inj, Int32.toInt_toInt64, tiA, tlA]); omega)), ?_⟩
        try have f1495 : ((x3 + 4) : Int32).toInt = (x3).toInt + 4 := ad32 (a := (x3).toInt) (b := 4) (rfl) (ti_4) (by omega) (by omega)
        refine ⟨vp_of (by first | omega | ((try simp only [Int32.lt_iff_toInt_lt, Int32.le_iff_toInt_le, ← Int32.toInt_inj, Int32.toInt_toInt64, tiA, tlA]); omega)) (by first | omega | ((try simp only [Int32.lt_iff_toInt_lt, Int32.le_iff_toInt_le, ← Int32.toInt_inj, Int32.toInt_toInt64, tiA, tlA]); omega)), ?_⟩
        try have f1497 : ((x3 + 5) : Int32).toInt = (x3).toInt + 5 := ad32 (a := (x3).toInt) (b := 5) (rfl) (ti_5) (by omega) (by omega)
        refine ⟨vp_of (by first | omega | ((try simp only [Int32.lt_iff_toInt_lt, Int32.le_iff_toInt_le, ← Int32.toInt_inj, Int32.toInt_toInt64, tiA, tlA]); omega)) (by first | omega | ((try simp only [Int32.lt_iff_toInt_lt, Int32.le_iff_toInt_le, ← Int32.toInt_inj, Int32.toInt_toInt64, tiA, tlA]); omega)), ?_⟩
        refine ⟨_, s_X9_shift ((xs (x3 + 1).toNatClampNeg)) ((xs (x3 + 2).toNatClampNeg)) ((xs (x3 + 3).toNatClampNeg)) ((xs (x3 + 4).toNatClampNeg)) ((xs (x3 + 5).toNatClampNeg)) hI1484.2, ?_⟩
        intro v1503 lg1499 it1500 hq1504
        have hI1501 : IL lg1499 it1500 := il_9 hI1484 hq1504.1 hq1504.2 (fun j hj => by first | omega | exact False.elim hj | (dsimp only at hj; omega))
        have hT1502 : RA lg1499 it1500 := ra_9 hT1485 hq1504.2 (fun j hj => by first | omega | exact False.elim hj | (dsimp only at hj; omega)) (fun j hj => by first | omega | exact False.elim hj | (dsimp only at hj; omega))
        have hP1506 : RP lg1499 it1500 := rp_9 hP1488 hq1504.2 (fun j hj => by first | omega | exact False.elim hj | (dsimp only at hj; omega)) (fun j hj => by first | omega | exact False.elim hj | (dsimp only at hj; omega))
        have f1507 : (x3 + Int32.ofInt 6).toInt = x3.toInt + 6 := ad32 rfl (by decide) (by omega) (by omega)
        exact ih18 ((x3 + Int32.ofInt 6)) _ _ hI1501 hT1502 hP1506 (by omega) (by omega)
