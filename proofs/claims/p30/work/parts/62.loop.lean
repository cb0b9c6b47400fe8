/-! every round keeps both invariants, and answers 1 -/
set_option maxRecDepth 100000 in
set_option maxHeartbeats 16000000 in
theorem law_loop (L : Nat) (xs : Nat → Int32) (hL : L ≤ 3072) : ∀ (n : Nat) (x3 : Int32) (lg : LGt) (it : ITt), IL lg it → 0 ≤ x3.toInt → ((L : Int) - x3.toInt).toNat < n → w_L_law_b18 L xs (fun (v : Int32) (lg : LGt) (it : ITt) => v = 1) n x3 lg it := by
  generalize hp : (fun (v : Int32) (lg : LGt) (it : ITt) => v = 1) = Pz
  intro n18
  induction n18 with
  | zero => intro x3 lg it _ _ hn; exact absurd hn (Nat.not_lt_zero _)
  | succ n18 ih18 =>
    intro x3 lg0 it0 hI h0 hn
    have hb := x3.toInt_lt
    unfold w_L_law_b18
    have fL : (((Int32.ofNat L) - 6)).toInt = (L : Int) - 6 := sb32 (a := (L : Int)) (b := 6) (nI_toInt (by omega)) ti_6 (by omega) (by omega)
    refine ⟨fun c24 => ?_, fun c24 => ?_⟩
    · try simp only [Int32.lt_iff_toInt_lt, Int32.le_iff_toInt_le, ← Int32.toInt_inj, Int32.toInt_toInt64, tiA, tlA] at c24
      subst hp
      exact rfl
    · try simp only [Int32.lt_iff_toInt_lt, Int32.le_iff_toInt_le, ← Int32.toInt_inj, Int32.toInt_toInt64, tiA, tlA] at c24
      refine ⟨vp_of (by first | omega | ((try simp only [Int32.lt_iff_toInt_lt, Int32.le_iff_toInt_le, ← Int32.toInt_inj, Int32.toInt_toInt64, tiA, tlA]); omega)) (by first | omega | ((try simp only [Int32.lt_iff_toInt_lt, Int32.le_iff_toInt_le, ← Int32.toInt_inj, Int32.toInt_toInt64, tiA, tlA]); omega)), ?_⟩
      refine ⟨fun c33 => ?_, fun c33 => ?_, fun c33 => ?_, fun c33 => ?_, fun c33 => ?_, fun c33 => ?_, fun c33 => ?_, fun c33 => ?_, fun c33 => ?_, fun c33 => ?_, fun c33 => ?_, fun c33 => ?_, fun c33 => ?_, fun c33 => ?_, fun c33 => ?_, fun c33 => ?_, fun c33 => ?_, fun c33 => ?_, fun c33 => ?_, fun c33 => ?_, fun c33 => ?_, fun c33 => ?_, fun c33 => ?_, fun c33 => ?_, fun c33 => ?_, fun c33 => ?_, fun c33 => ?_, fun c33 => ?_, fun c33 => ?_, fun c33 => ?_, fun c33 => ?_, fun c33 => ?_, fun c33 => ?_, trivial⟩
      · skip
        have f758 : (x3 + Int32.ofInt 6).toInt = x3.toInt + 6 := ad32 rfl (by decide) (by omega) (by omega)
        exact ih18 ((x3 + Int32.ofInt 6)) _ _ hI (by omega) (by omega)
      · skip
        try have f759 : ((x3 + 1) : Int32).toInt = (x3).toInt + 1 := ad32 (a := (x3).toInt) (b := 1) (rfl) (ti_1) (by omega) (by omega)
        refine ⟨vp_of (by first | omega | ((try simp only [Int32.lt_iff_toInt_lt, Int32.le_iff_toInt_le, ← Int32.toInt_inj, Int32.toInt_toInt64, tiA, tlA]); omega)) (by first | omega | ((try simp only [Int32.lt_iff_toInt_lt, Int32.le_iff_toInt_le, ← Int32.toInt_inj, Int32.toInt_toInt64, tiA, tlA]); omega)), ?_⟩
        try have f761 : ((x3 + 2) : Int32).toInt = (x3).toInt + 2 := ad32 (a := (x3).toInt) (b := 2) (rfl) (ti_2) (by omega) (by omega)
        refine ⟨vp_of (by first | omega | ((try simp only [Int32.lt_iff_toInt_lt, Int32.le_iff_toInt_le, ← Int32.toInt_inj, Int32.toInt_toInt64, tiA, tlA]); omega)) (by first | omega | ((try simp only [Int32.lt_iff_toInt_lt, Int32.le_iff_toInt_le, ← Int32.toInt_inj, Int32.toInt_toInt64, tiA, tlA]); omega)), ?_⟩
        try have f763 : ((x3 + 3) : Int32).toInt = (x3).toInt + 3 := ad32 (a := (x3).toInt) (b := 3) (rfl) (ti_3) (by omega) (by omega)
        refine ⟨vp_of (by first | omega | ((try simp only [Int32.lt_iff_toInt_lt, Int32.le_iff_toInt_le, ← Int32.toInt_inj, Int32.toInt_toInt64, tiA, tlA]); omega)) (by first | omega | ((try simp only [Int32.lt_iff_toInt_lt, Int32.le_iff_toInt_le, ← Int32.toInt_inj, Int32.toInt_toInt64, tiA, tlA]); omega)), ?_⟩
        refine ⟨_, s_X8_bumper ((xs (x3 + 1).toNatClampNeg)) ((xs (x3 + 2).toNatClampNeg)) ((xs (x3 + 3).toNatClampNeg)) hI.1, ?_⟩
        intro v768 lg765 it766 hq769
        have hI767 : IL lg765 it766 := il_8 hI hq769.1 hq769.2 (fun j hj => by first | omega | exact False.elim hj | (dsimp only at hj; omega))
        try have f770 : ((x3 + 1) : Int32).toInt = (x3).toInt + 1 := ad32 (a := (x3).toInt) (b := 1) (rfl) (ti_1) (by omega) (by omega)
        refine ⟨vp_of (by first | omega | ((try simp only [Int32.lt_iff_toInt_lt, Int32.le_iff_toInt_le, ← Int32.toInt_inj, Int32.toInt_toInt64, tiA, tlA]); omega)) (by first | omega | ((try simp only [Int32.lt_iff_toInt_lt, Int32.le_iff_toInt_le, ← Int32.toInt_inj, Int32.toInt_toInt64, tiA, tlA]); omega)), ?_⟩
        try have f772 : ((x3 + 2) : Int32).toInt = (x3).toInt + 2 := ad32 (a := (x3).toInt) (b := 2) (rfl) (ti_2) (by omega) (by omega)
        refine ⟨vp_of (by first | omega | ((try simp only [Int32.lt_iff_toInt_lt, Int32.le_iff_toInt_le, ← Int32.toInt_inj, Int32.toInt_toInt64, tiA, tlA]); omega)) (by first | omega | ((try simp only [Int32.lt_iff_toInt_lt, Int32.le_iff_toInt_le, ← Int32.toInt_inj, Int32.toInt_toInt64, tiA, tlA]); omega)), ?_⟩
        try have f774 : ((x3 + 3) : Int32).toInt = (x3).toInt + 3 := ad32 (a := (x3).toInt) (b := 3) (rfl) (ti_3) (by omega) (by omega)
        refine ⟨vp_of (by first | omega | ((try simp only [Int32.lt_iff_toInt_lt, Int32.le_iff_toInt_le, ← Int32.toInt_inj, Int32.toInt_toInt64, tiA, tlA]); omega)) (by first | omega | ((try simp only [Int32.lt_iff_toInt_lt, Int32.le_iff_toInt_le, ← Int32.toInt_inj, Int32.toInt_toInt64, tiA, tlA]); omega)), ?_⟩
        refine ⟨_, s_X9_bumper ((xs (x3 + 1).toNatClampNeg)) ((xs (x3 + 2).toNatClampNeg)) ((xs (x3 + 3).toNatClampNeg)) hI767.2, ?_⟩
        intro v779 lg776 it777 hq780
        have hI778 : IL lg776 it777 := il_9 hI767 hq780.1 hq780.2 (fun j hj => by first | omega | exact False.elim hj | (dsimp only at hj; omega))
        have f781 : (x3 + Int32.ofInt 6).toInt = x3.toInt + 6 := ad32 rfl (by decide) (by omega) (by omega)
        exact ih18 ((x3 + Int32.ofInt 6)) _ _ hI778 (by omega) (by omega)
      · skip
        try have f782 : ((x3 + 1) : Int32).toInt = (x3).toInt + 1 := ad32 (a := (x3).toInt) (b := 1) (rfl) (ti_1) (by omega) (by omega)
        refine ⟨vp_of (by first | omega | ((try simp only [Int32.lt_iff_toInt_lt, Int32.le_iff_toInt_le, ← Int32.toInt_inj, Int32.toInt_toInt64, tiA, tlA]); omega)) (by first | omega | ((try simp only [Int32.lt_iff_toInt_lt, Int32.le_iff_toInt_le, ← Int32.toInt_inj, Int32.toInt_toInt64, tiA, tlA]); omega)), ?_⟩
        try have f784 : ((x3 + 2) : Int32).toInt = (x3).toInt + 2 := ad32 (a := (x3).toInt) (b := 2) (rfl) (ti_2) (by omega) (by omega)
        refine ⟨vp_of (by first | omega | ((try simp only [Int32.lt_iff_toInt_lt, Int32.le_iff_toInt_le, ← Int32.toInt_inj, Int32.toInt_toInt64, tiA, tlA]); omega)) (by first | omega | ((try simp only [Int32.lt_iff_toInt_lt, Int32.le_iff_toInt_le, ← Int32.toInt_inj, Int32.toInt_toInt64, tiA, tlA]); omega)), ?_⟩
        try have f786 : ((x3 + 3) : Int32).toInt = (x3).toInt + 3 := ad32 (a := (x3).toInt) (b := 3) (rfl) (ti_3) (by omega) (by omega)
        refine ⟨vp_of (by first | omega | ((try simp only [Int32.lt_iff_toInt_lt, Int32.le_iff_toInt_le, ← Int32.toInt_inj, Int32.toInt_toInt64, tiA, tlA]); omega)) (by first | omega | ((try simp only [Int32.lt_iff_toInt_lt, Int32.le_iff_toInt_le, ← Int32.toInt_inj, Int32.toInt_toInt64, tiA, tlA]); omega)), ?_⟩
        refine ⟨_, s_X8_renew ((xs (x3 + 1).toNatClampNeg)) ((xs (x3 + 2).toNatClampNeg)) ((xs (x3 + 3).toNatClampNeg)) hI.1, ?_⟩
        intro v791 lg788 it789 hq792
        have hI790 : IL lg788 it789 := il_8 hI hq792.1 hq792.2 (fun j hj => by first | omega | exact False.elim hj | (dsimp only at hj; omega))
        try have f793 : ((x3 + 1) : Int32).toInt = (x3).toInt + 1 := ad32 (a := (x3).toInt) (b := 1) (rfl) (ti_1) (by omega) (by omega)
        refine ⟨vp_of (by first | omega | ((try simp only [Int32.lt_iff_toInt_lt, Int32.le_iff_toInt_le, ← Int32.toInt_inj, Int32.toInt_toInt64, tiA, tlA]); omega)) (by first | omega | ((try simp only [Int32.lt_iff_toInt_lt, Int32.le_iff_toInt_le, ← Int32.toInt_inj, Int32.toInt_toInt64, tiA, tlA]); omega)), ?_⟩
        try have f795 : ((x3 + 2) : Int32).toInt = (x3).toInt + 2 := ad32 (a := (x3).toInt) (b := 2) (rfl) (ti_2) (by omega) (by omega)
        refine ⟨vp_of (by first | omega | ((try simp only [Int32.lt_iff_toInt_lt, Int32.le_iff_toInt_le, ← Int32.toInt_inj, Int32.toInt_toInt64, tiA, tlA]); omega)) (by first | omega | ((try simp only [Int32.lt_iff_toInt_lt, Int32.le_iff_toInt_le, ← Int32.toInt_inj, Int32.toInt_toInt64, tiA, tlA]); omega)), ?_⟩
        try have f797 : ((x3 + 3) : Int32).toInt = (x3).toInt + 3 := ad32 (a := (x3).toInt) (b := 3) (rfl) (ti_3) (by omega) (by omega)
        refine ⟨vp_of (by first | omega | ((try simp only [Int32.lt_iff_toInt_lt, Int32.le_iff_toInt_le, ← Int32.toInt_inj, Int32.toInt_toInt64, tiA, tlA]); omega)) (by first | omega | ((try simp only [Int32.lt_iff_toInt_lt, Int32.le_iff_toInt_le, ← Int32.toInt_inj, Int32.toInt_toInt64, tiA, tlA]); omega)), ?_⟩
        refine ⟨_, s_X9_renew ((xs (x3 + 1).toNatClampNeg)) ((xs (x3 + 2).toNatClampNeg)) ((xs (x3 + 3).toNatClampNeg)) hI790.2, ?_⟩
        intro v802 lg799 it800 hq803
        have hI801 : IL lg799 it800 := il_9 hI790 hq803.1 hq803.2 (fun j hj => by first | omega | exact False.elim hj | (dsimp only at hj; omega))
        have f804 : (x3 + Int32.ofInt 6).toInt = x3.toInt + 6 := ad32 rfl (by decide) (by omega) (by omega)
        exact ih18 ((x3 + Int32.ofInt 6)) _ _ hI801 (by omega) (by omega)
      · skip
        try have f805 : ((x3 + 1) : Int32).toInt = (x3).toInt + 1 := ad32 (a := (x3).toInt) (b := 1) (rfl) (ti_1) (by omega) (by omega)
        refine ⟨vp_of (by first | omega | ((try simp only [Int32.lt_iff_toInt_lt, Int32.le_iff_toInt_le, ← Int32.toInt_inj, Int32.toInt_toInt64, tiA, tlA]); omega)) (by first | omega | ((try simp only [Int32.lt_iff_toInt_lt, Int32.le_iff_toInt_le, ← Int32.toInt_inj, Int32.toInt_toInt64, tiA, tlA]); omega)), ?_⟩
        refine ⟨_, s_X8_spring ((xs (x3 + 1).toNatClampNeg)) hI.1, ?_⟩
        intro v810 lg807 it808 hq811
        have hI809 : IL lg807 it808 := il_8 hI hq811.1 hq811.2 (fun j hj => by first | omega | exact False.elim hj | (dsimp only at hj; omega))
        try have f812 : ((x3 + 1) : Int32).toInt = (x3).toInt + 1 := ad32 (a := (x3).toInt) (b := 1) (rfl) (ti_1) (by omega) (by omega)
        refine ⟨vp_of (by first | omega | ((try simp only [Int32.lt_iff_toInt_lt, Int32.le_iff_toInt_le, ← Int32.toInt_inj, Int32.toInt_toInt64, tiA, tlA]); omega)) (by first | omega | ((try simp only [Int32.lt_iff_toInt_lt, Int32.le_iff_toInt_le, ← Int32.toInt_inj, Int32.toInt_toInt64, tiA, tlA]); omega)), ?_⟩
        refine ⟨_, s_X9_spring ((xs (x3 + 1).toNatClampNeg)) hI809.2, ?_⟩
        intro v817 lg814 it815 hq818
        have hI816 : IL lg814 it815 := il_9 hI809 hq818.1 hq818.2 (fun j hj => by first | omega | exact False.elim hj | (dsimp only at hj; omega))
        have f819 : (x3 + Int32.ofInt 6).toInt = x3.toInt + 6 := ad32 rfl (by decide) (by omega) (by omega)
        exact ih18 ((x3 + Int32.ofInt 6)) _ _ hI816 (by omega) (by omega)
      · skip
        try have f820 : ((x3 + 1) : Int32).toInt = (x3).toInt + 1 := ad32 (a := (x3).toInt) (b := 1) (rfl) (ti_1) (by omega) (by omega)
        refine ⟨vp_of (by first | omega | ((try simp only [Int32.lt_iff_toInt_lt, Int32.le_iff_toInt_le, ← Int32.toInt_inj, Int32.toInt_toInt64, tiA, tlA]); omega)) (by first | omega | ((try simp only [Int32.lt_iff_toInt_lt, Int32.le_iff_toInt_le, ← Int32.toInt_inj, Int32.toInt_toInt64, tiA, tlA]); omega)), ?_⟩
        try have f822 : ((x3 + 2) : Int32).toInt = (x3).toInt + 2 := ad32 (a := (x3).toInt) (b := 2) (rfl) (ti_2) (by omega) (by omega)
        refine ⟨vp_of (by first | omega | ((try simp only [Int32.lt_iff_toInt_lt, Int32.le_iff_toInt_le, ← Int32.toInt_inj, Int32.toInt_toInt64, tiA, tlA]); omega)) (by first | omega | ((try simp only [Int32.lt_iff_toInt_lt, Int32.le_iff_toInt_le, ← Int32.toInt_inj, Int32.toInt_toInt64, tiA, tlA]); omega)), ?_⟩
        refine ⟨_, s_X8_wall ((xs (x3 + 1).toNatClampNeg)) ((xs (x3 + 2).toNatClampNeg)) hI.1, ?_⟩
        intro v827 lg824 it825 hq828
        have hI826 : IL lg824 it825 := il_8 hI hq828.1 hq828.2 (fun j hj => by first | omega | exact False.elim hj | (dsimp only at hj; omega))
        try have f829 : ((x3 + 1) : Int32).toInt = (x3).toInt + 1 := ad32 (a := (x3).toInt) (b := 1) (rfl) (ti_1) (by omega) (by omega)
        refine ⟨vp_of (by first | omega | ((try simp only [Int32.lt_iff_toInt_lt, Int32.le_iff_toInt_le, ← Int32.toInt_inj, Int32.toInt_toInt64, tiA, tlA]); omega)) (by first | omega | ((try simp only [Int32.lt_iff_toInt_lt, Int32.le_iff_toInt_le, ← Int32.toInt_inj, Int32.toInt_toInt64, tiA, tlA]); omega)), ?_⟩
        try have f831 : ((x3 + 2) : Int32).toInt = (x3).toInt + 2 := ad32 (a := (x3).toInt) (b := 2) (rfl) (ti_2) (by omega) (by omega)
        refine ⟨vp_of (by first | omega | ((try simp only [Int32.lt_iff_toInt_lt, Int32.le_iff_toInt_le, ← Int32.toInt_inj, Int32.toInt_toInt64, tiA, tlA]); omega)) (by first | omega | ((try simp only [Int32.lt_iff_toInt_lt, Int32.le_iff_toInt_le, ← Int32.toInt_inj, Int32.toInt_toInt64, tiA, tlA]); omega)), ?_⟩
        refine ⟨_, s_X9_wall ((xs (x3 + 1).toNatClampNeg)) ((xs (x3 + 2).toNatClampNeg)) hI826.2, ?_⟩
        intro v836 lg833 it834 hq837
        have hI835 : IL lg833 it834 := il_9 hI826 hq837.1 hq837.2 (fun j hj => by first | omega | exact False.elim hj | (dsimp only at hj; omega))
        have f838 : (x3 + Int32.ofInt 6).toInt = x3.toInt + 6 := ad32 rfl (by decide) (by omega) (by omega)
        exact ih18 ((x3 + Int32.ofInt 6)) _ _ hI835 (by omega) (by omega)
      · skip
        try have f839 : ((x3 + 1) : Int32).toInt = (x3).toInt + 1 := ad32 (a := (x3).toInt) (b := 1) (rfl) (ti_1) (by omega) (by omega)
        refine ⟨vp_of (by first | omega | ((try simp only [Int32.lt_iff_toInt_lt, Int32.le_iff_toInt_le, ← Int32.toInt_inj, Int32.toInt_toInt64, tiA, tlA]); omega)) (by first | omega | ((try simp only [Int32.lt_iff_toInt_lt, Int32.le_iff_toInt_le, ← Int32.toInt_inj, Int32.toInt_toInt64, tiA, tlA]); omega)), ?_⟩
        refine ⟨_, s_X8_go ((xs (x3 + 1).toNatClampNeg)) hI.1, ?_⟩
        intro v844 lg841 it842 hq845
        have hI843 : IL lg841 it842 := il_8 hI hq845.1 hq845.2 (fun j hj => by first | omega | exact False.elim hj | (dsimp only at hj; omega))
        try have f846 : ((x3 + 1) : Int32).toInt = (x3).toInt + 1 := ad32 (a := (x3).toInt) (b := 1) (rfl) (ti_1) (by omega) (by omega)
        refine ⟨vp_of (by first | omega | ((try simp only [Int32.lt_iff_toInt_lt, Int32.le_iff_toInt_le, ← Int32.toInt_inj, Int32.toInt_toInt64, tiA, tlA]); omega)) (by first | omega | ((try simp only [Int32.lt_iff_toInt_lt, Int32.le_iff_toInt_le, ← Int32.toInt_inj, Int32.toInt_toInt64, tiA, tlA]); omega)), ?_⟩
        refine ⟨_, s_X9_go ((xs (x3 + 1).toNatClampNeg)) hI843.2, ?_⟩
        intro v851 lg848 it849 hq852
        have hI850 : IL lg848 it849 := il_9 hI843 hq852.1 hq852.2 (fun j hj => by first | omega | exact False.elim hj | (dsimp only at hj; omega))
        have f853 : (x3 + Int32.ofInt 6).toInt = x3.toInt + 6 := ad32 rfl (by decide) (by omega) (by omega)
        exact ih18 ((x3 + Int32.ofInt 6)) _ _ hI850 (by omega) (by omega)
      · skip
        try have f854 : ((x3 + 1) : Int32).toInt = (x3).toInt + 1 := ad32 (a := (x3).toInt) (b := 1) (rfl) (ti_1) (by omega) (by omega)
        refine ⟨vp_of (by first | omega | ((try simp only [Int32.lt_iff_toInt_lt, Int32.le_iff_toInt_le, ← Int32.toInt_inj, Int32.toInt_toInt64, tiA, tlA]); omega)) (by first | omega | ((try simp only [Int32.lt_iff_toInt_lt, Int32.le_iff_toInt_le, ← Int32.toInt_inj, Int32.toInt_toInt64, tiA, tlA]); omega)), ?_⟩
        refine ⟨_, s_X8_feed ((xs (x3 + 1).toNatClampNeg)) hI.1, ?_⟩
        intro v859 lg856 it857 hq860
        have hI858 : IL lg856 it857 := il_8 hI hq860.1 hq860.2 (fun j hj => by first | omega | exact False.elim hj | (dsimp only at hj; omega))
        try have f861 : ((x3 + 1) : Int32).toInt = (x3).toInt + 1 := ad32 (a := (x3).toInt) (b := 1) (rfl) (ti_1) (by omega) (by omega)
        refine ⟨vp_of (by first | omega | ((try simp only [Int32.lt_iff_toInt_lt, Int32.le_iff_toInt_le, ← Int32.toInt_inj, Int32.toInt_toInt64, tiA, tlA]); omega)) (by first | omega | ((try simp only [Int32.lt_iff_toInt_lt, Int32.le_iff_toInt_le, ← Int32.toInt_inj, Int32.toInt_toInt64, tiA, tlA]); omega)), ?_⟩
        refine ⟨_, s_X9_feed ((xs (x3 + 1).toNatClampNeg)) hI858.2, ?_⟩
        intro v866 lg863 it864 hq867
        have hI865 : IL lg863 it864 := il_9 hI858 hq867.1 hq867.2 (fun j hj => by first | omega | exact False.elim hj | (dsimp only at hj; omega))
        have f868 : (x3 + Int32.ofInt 6).toInt = x3.toInt + 6 := ad32 rfl (by decide) (by omega) (by omega)
        exact ih18 ((x3 + Int32.ofInt 6)) _ _ hI865 (by omega) (by omega)
      · skip
        refine ⟨_, s_X8_read  hI.1, ?_⟩
        intro v872 lg869 it870 hq873
        have hI871 : IL lg869 it870 := il_8 hI hq873.1 hq873.2 (fun j hj => by first | omega | exact False.elim hj | (dsimp only at hj; omega))
        refine ⟨_, s_X9_read  hI871.2, ?_⟩
        intro v877 lg874 it875 hq878
        have hI876 : IL lg874 it875 := il_9 hI871 hq878.1 hq878.2 (fun j hj => by first | omega | exact False.elim hj | (dsimp only at hj; omega))
        have f879 : (x3 + Int32.ofInt 6).toInt = x3.toInt + 6 := ad32 rfl (by decide) (by omega) (by omega)
        exact ih18 ((x3 + Int32.ofInt 6)) _ _ hI876 (by omega) (by omega)
      · skip
        try have f880 : ((x3 + 1) : Int32).toInt = (x3).toInt + 1 := ad32 (a := (x3).toInt) (b := 1) (rfl) (ti_1) (by omega) (by omega)
        refine ⟨vp_of (by first | omega | ((try simp only [Int32.lt_iff_toInt_lt, Int32.le_iff_toInt_le, ← Int32.toInt_inj, Int32.toInt_toInt64, tiA, tlA]); omega)) (by first | omega | ((try simp only [Int32.lt_iff_toInt_lt, Int32.le_iff_toInt_le, ← Int32.toInt_inj, Int32.toInt_toInt64, tiA, tlA]); omega)), ?_⟩
        try have f882 : ((x3 + 2) : Int32).toInt = (x3).toInt + 2 := ad32 (a := (x3).toInt) (b := 2) (rfl) (ti_2) (by omega) (by omega)
        refine ⟨vp_of (by first | omega | ((try simp only [Int32.lt_iff_toInt_lt, Int32.le_iff_toInt_le, ← Int32.toInt_inj, Int32.toInt_toInt64, tiA, tlA]); omega)) (by first | omega | ((try simp only [Int32.lt_iff_toInt_lt, Int32.le_iff_toInt_le, ← Int32.toInt_inj, Int32.toInt_toInt64, tiA, tlA]); omega)), ?_⟩
        try have f884 : ((x3 + 3) : Int32).toInt = (x3).toInt + 3 := ad32 (a := (x3).toInt) (b := 3) (rfl) (ti_3) (by omega) (by omega)
        refine ⟨vp_of (by first | omega | ((try simp only [Int32.lt_iff_toInt_lt, Int32.le_iff_toInt_le, ← Int32.toInt_inj, Int32.toInt_toInt64, tiA, tlA]); omega)) (by first | omega | ((try simp only [Int32.lt_iff_toInt_lt, Int32.le_iff_toInt_le, ← Int32.toInt_inj, Int32.toInt_toInt64, tiA, tlA]); omega)), ?_⟩
        refine ⟨_, s_X8_of ((xs (x3 + 1).toNatClampNeg)) ((xs (x3 + 2).toNatClampNeg)) ((xs (x3 + 3).toNatClampNeg)) hI.1, ?_⟩
        intro v889 lg886 it887 hq890
        have hI888 : IL lg886 it887 := il_8 hI hq890.1 hq890.2 (fun j hj => by first | omega | exact False.elim hj | (dsimp only at hj; omega))
        try have f891 : ((x3 + 1) : Int32).toInt = (x3).toInt + 1 := ad32 (a := (x3).toInt) (b := 1) (rfl) (ti_1) (by omega) (by omega)
        refine ⟨vp_of (by first | omega | ((try simp only [Int32.lt_iff_toInt_lt, Int32.le_iff_toInt_le, ← Int32.toInt_inj, Int32.toInt_toInt64, tiA, tlA]); omega)) (by first | omega | ((try simp only [Int32.lt_iff_toInt_lt, Int32.le_iff_toInt_le, ← Int32.toInt_inj, Int32.toInt_toInt64, tiA, tlA]); omega)), ?_⟩
        try have f893 : ((x3 + 2) : Int32).toInt = (x3).toInt + 2 := ad32 (a := (x3).toInt) (b := 2) (rfl) (ti_2) (by omega) (by omega)
        refine ⟨vp_of (by first | omega | ((try simp only [Int32.lt_iff_toInt_lt, Int32.le_iff_toInt_le, ← Int32.toInt_inj, Int32.toInt_toInt64, tiA, tlA]); omega)) (by first | omega | ((try simp only [Int32.lt_iff_toInt_lt, Int32.le_iff_toInt_le, ← Int32.toInt_inj, Int32.toInt_toInt64, tiA, tlA]); omega)), ?_⟩
        try have f895 : ((x3 + 3) : Int32).toInt = (x3).toInt + 3 := ad32 (a := (x3).toInt) (b := 3) (rfl) (ti_3) (by omega) (by omega)
        refine ⟨vp_of (by first | omega | ((try simp only [Int32.lt_iff_toInt_lt, Int32.le_iff_toInt_le, ← Int32.toInt_inj, Int32.toInt_toInt64, tiA, tlA]); omega)) (by first | omega | ((try simp only [Int32.lt_iff_toInt_lt, Int32.le_iff_toInt_le, ← Int32.toInt_inj, Int32.toInt_toInt64, tiA, tlA]); omega)), ?_⟩
        refine ⟨_, s_X9_of ((xs (x3 + 1).toNatClampNeg)) ((xs (x3 + 2).toNatClampNeg)) ((xs (x3 + 3).toNatClampNeg)) hI888.2, ?_⟩
        intro v900 lg897 it898 hq901
        have hI899 : IL lg897 it898 := il_9 hI888 hq901.1 hq901.2 (fun j hj => by first | omega | exact False.elim hj | (dsimp only at hj; omega))
        have f902 : (x3 + Int32.ofInt 6).toInt = x3.toInt + 6 := ad32 rfl (by decide) (by omega) (by omega)
        exact ih18 ((x3 + Int32.ofInt 6)) _ _ hI899 (by omega) (by omega)
      · skip
        try have f903 : ((x3 + 1) : Int32).toInt = (x3).toInt + 1 := ad32 (a := (x3).toInt) (b := 1) (rfl) (ti_1) (by omega) (by omega)
        refine ⟨vp_of (by first | omega | ((try simp only [Int32.lt_iff_toInt_lt, Int32.le_iff_toInt_le, ← Int32.toInt_inj, Int32.toInt_toInt64, tiA, tlA]); omega)) (by first | omega | ((try simp only [Int32.lt_iff_toInt_lt, Int32.le_iff_toInt_le, ← Int32.toInt_inj, Int32.toInt_toInt64, tiA, tlA]); omega)), ?_⟩
        refine ⟨_, s_X8_told ((xs (x3 + 1).toNatClampNeg)) hI.1, ?_⟩
        intro v908 lg905 it906 hq909
        have hI907 : IL lg905 it906 := il_8 hI hq909.1 hq909.2 (fun j hj => by first | omega | exact False.elim hj | (dsimp only at hj; omega))
        try have f910 : ((x3 + 1) : Int32).toInt = (x3).toInt + 1 := ad32 (a := (x3).toInt) (b := 1) (rfl) (ti_1) (by omega) (by omega)
        refine ⟨vp_of (by first | omega | ((try simp only [Int32.lt_iff_toInt_lt, Int32.le_iff_toInt_le, ← Int32.toInt_inj, Int32.toInt_toInt64, tiA, tlA]); omega)) (by first | omega | ((try simp only [Int32.lt_iff_toInt_lt, Int32.le_iff_toInt_le, ← Int32.toInt_inj, Int32.toInt_toInt64, tiA, tlA]); omega)), ?_⟩
        refine ⟨_, s_X9_told ((xs (x3 + 1).toNatClampNeg)) hI907.2, ?_⟩
        intro v915 lg912 it913 hq916
        have hI914 : IL lg912 it913 := il_9 hI907 hq916.1 hq916.2 (fun j hj => by first | omega | exact False.elim hj | (dsimp only at hj; omega))
        have f917 : (x3 + Int32.ofInt 6).toInt = x3.toInt + 6 := ad32 rfl (by decide) (by omega) (by omega)
        exact ih18 ((x3 + Int32.ofInt 6)) _ _ hI914 (by omega) (by omega)
      · skip
        try have f918 : ((x3 + 1) : Int32).toInt = (x3).toInt + 1 := ad32 (a := (x3).toInt) (b := 1) (rfl) (ti_1) (by omega) (by omega)
        refine ⟨vp_of (by first | omega | ((try simp only [Int32.lt_iff_toInt_lt, Int32.le_iff_toInt_le, ← Int32.toInt_inj, Int32.toInt_toInt64, tiA, tlA]); omega)) (by first | omega | ((try simp only [Int32.lt_iff_toInt_lt, Int32.le_iff_toInt_le, ← Int32.toInt_inj, Int32.toInt_toInt64, tiA, tlA]); omega)), ?_⟩
        try have f920 : ((x3 + 2) : Int32).toInt = (x3).toInt + 2 := ad32 (a := (x3).toInt) (b := 2) (rfl) (ti_2) (by omega) (by omega)
        refine ⟨vp_of (by first | omega | ((try simp only [Int32.lt_iff_toInt_lt, Int32.le_iff_toInt_le, ← Int32.toInt_inj, Int32.toInt_toInt64, tiA, tlA]); omega)) (by first | omega | ((try simp only [Int32.lt_iff_toInt_lt, Int32.le_iff_toInt_le, ← Int32.toInt_inj, Int32.toInt_toInt64, tiA, tlA]); omega)), ?_⟩
        refine ⟨_, s_X8_push ((xs (x3 + 1).toNatClampNeg)) ((xs (x3 + 2).toNatClampNeg)) hI.1, ?_⟩
        intro v925 lg922 it923 hq926
        have hI924 : IL lg922 it923 := il_8 hI hq926.1 hq926.2 (fun j hj => by first | omega | exact False.elim hj | (dsimp only at hj; omega))
        try have f927 : ((x3 + 1) : Int32).toInt = (x3).toInt + 1 := ad32 (a := (x3).toInt) (b := 1) (rfl) (ti_1) (by omega) (by omega)
        refine ⟨vp_of (by first | omega | ((try simp only [Int32.lt_iff_toInt_lt, Int32.le_iff_toInt_le, ← Int32.toInt_inj, Int32.toInt_toInt64, tiA, tlA]); omega)) (by first | omega | ((try simp only [Int32.lt_iff_toInt_lt, Int32.le_iff_toInt_le, ← Int32.toInt_inj, Int32.toInt_toInt64, tiA, tlA]); omega)), ?_⟩
        try have f929 : ((x3 + 2) : Int32).toInt = (x3).toInt + 2 := ad32 (a := (x3).toInt) (b := 2) (rfl) (ti_2) (by omega) (by omega)
        refine ⟨vp_of (by first | omega | ((try simp only [Int32.lt_iff_toInt_lt, Int32.le_iff_toInt_le, ← Int32.toInt_inj, Int32.toInt_toInt64, tiA, tlA]); omega)) (by first | omega | ((try simp only [Int32.lt_iff_toInt_lt, Int32.le_iff_toInt_le, ← Int32.toInt_inj, Int32.toInt_toInt64, tiA, tlA]); omega)), ?_⟩
        refine ⟨_, s_X9_push ((xs (x3 + 1).toNatClampNeg)) ((xs (x3 + 2).toNatClampNeg)) hI924.2, ?_⟩
        intro v934 lg931 it932 hq935
        have hI933 : IL lg931 it932 := il_9 hI924 hq935.1 hq935.2 (fun j hj => by first | omega | exact False.elim hj | (dsimp only at hj; omega))
        have f936 : (x3 + Int32.ofInt 6).toInt = x3.toInt + 6 := ad32 rfl (by decide) (by omega) (by omega)
        exact ih18 ((x3 + Int32.ofInt 6)) _ _ hI933 (by omega) (by omega)
      · skip
        try have f937 : ((x3 + 1) : Int32).toInt = (x3).toInt + 1 := ad32 (a := (x3).toInt) (b := 1) (rfl) (ti_1) (by omega) (by omega)
        refine ⟨vp_of (by first | omega | ((try simp only [Int32.lt_iff_toInt_lt, Int32.le_iff_toInt_le, ← Int32.toInt_inj, Int32.toInt_toInt64, tiA, tlA]); omega)) (by first | omega | ((try simp only [Int32.lt_iff_toInt_lt, Int32.le_iff_toInt_le, ← Int32.toInt_inj, Int32.toInt_toInt64, tiA, tlA]); omega)), ?_⟩
        refine ⟨_, s_X8_where ((xs (x3 + 1).toNatClampNeg)) hI.1, ?_⟩
        intro v942 lg939 it940 hq943
        have hI941 : IL lg939 it940 := il_8 hI hq943.1 hq943.2 (fun j hj => by first | omega | exact False.elim hj | (dsimp only at hj; omega))
        try have f944 : ((x3 + 1) : Int32).toInt = (x3).toInt + 1 := ad32 (a := (x3).toInt) (b := 1) (rfl) (ti_1) (by omega) (by omega)
        refine ⟨vp_of (by first | omega | ((try simp only [Int32.lt_iff_toInt_lt, Int32.le_iff_toInt_le, ← Int32.toInt_inj, Int32.toInt_toInt64, tiA, tlA]); omega)) (by first | omega | ((try simp only [Int32.lt_iff_toInt_lt, Int32.le_iff_toInt_le, ← Int32.toInt_inj, Int32.toInt_toInt64, tiA, tlA]); omega)), ?_⟩
        refine ⟨_, s_X9_where ((xs (x3 + 1).toNatClampNeg)) hI941.2, ?_⟩
        intro v949 lg946 it947 hq950
        have hI948 : IL lg946 it947 := il_9 hI941 hq950.1 hq950.2 (fun j hj => by first | omega | exact False.elim hj | (dsimp only at hj; omega))
        have f951 : (x3 + Int32.ofInt 6).toInt = x3.toInt + 6 := ad32 rfl (by decide) (by omega) (by omega)
        exact ih18 ((x3 + Int32.ofInt 6)) _ _ hI948 (by omega) (by omega)
      · skip
        try have f952 : ((x3 + 1) : Int32).toInt = (x3).toInt + 1 := ad32 (a := (x3).toInt) (b := 1) (rfl) (ti_1) (by omega) (by omega)
        refine ⟨vp_of (by first | omega | ((try simp only [Int32.lt_iff_toInt_lt, Int32.le_iff_toInt_le, ← Int32.toInt_inj, Int32.toInt_toInt64, tiA, tlA]); omega)) (by first | omega | ((try simp only [Int32.lt_iff_toInt_lt, Int32.le_iff_toInt_le, ← Int32.toInt_inj, Int32.toInt_toInt64, tiA, tlA]); omega)), ?_⟩
        try have f954 : ((x3 + 2) : Int32).toInt = (x3).toInt + 2 := ad32 (a := (x3).toInt) (b := 2) (rfl) (ti_2) (by omega) (by omega)
        refine ⟨vp_of (by first | omega | ((try simp only [Int32.lt_iff_toInt_lt, Int32.le_iff_toInt_le, ← Int32.toInt_inj, Int32.toInt_toInt64, tiA, tlA]); omega)) (by first | omega | ((try simp only [Int32.lt_iff_toInt_lt, Int32.le_iff_toInt_le, ← Int32.toInt_inj, Int32.toInt_toInt64, tiA, tlA]); omega)), ?_⟩
        refine ⟨_, s_X8_time ((xs (x3 + 1).toNatClampNeg)) ((xs (x3 + 2).toNatClampNeg)) hI.1, ?_⟩
        intro v959 lg956 it957 hq960
        have hI958 : IL lg956 it957 := il_8 hI hq960.1 hq960.2 (fun j hj => by first | omega | exact False.elim hj | (dsimp only at hj; omega))
        try have f961 : ((x3 + 1) : Int32).toInt = (x3).toInt + 1 := ad32 (a := (x3).toInt) (b := 1) (rfl) (ti_1) (by omega) (by omega)
        refine ⟨vp_of (by first | omega | ((try simp only [Int32.lt_iff_toInt_lt, Int32.le_iff_toInt_le, ← Int32.toInt_inj, Int32.toInt_toInt64, tiA, tlA]); omega)) (by first | omega | ((try simp only [Int32.lt_iff_toInt_lt, Int32.le_iff_toInt_le, ← Int32.toInt_inj, Int32.toInt_toInt64, tiA, tlA]); omega)), ?_⟩
        try have f963 : ((x3 + 2) : Int32).toInt = (x3).toInt + 2 := ad32 (a := (x3).toInt) (b := 2) (rfl) (ti_2) (by omega) (by omega)
        refine ⟨vp_of (by first | omega | ((try simp only [Int32.lt_iff_toInt_lt, Int32.le_iff_toInt_le, ← Int32.toInt_inj, Int32.toInt_toInt64, tiA, tlA]); omega)) (by first | omega | ((try simp only [Int32.lt_iff_toInt_lt, Int32.le_iff_toInt_le, ← Int32.toInt_inj, Int32.toInt_toInt64, tiA, tlA]); omega)), ?_⟩
        refine ⟨_, s_X9_time ((xs (x3 + 1).toNatClampNeg)) ((xs (x3 + 2).toNatClampNeg)) hI958.2, ?_⟩
        intro v968 lg965 it966 hq969
        have hI967 : IL lg965 it966 := il_9 hI958 hq969.1 hq969.2 (fun j hj => by first | omega | exact False.elim hj | (dsimp only at hj; omega))
        have f970 : (x3 + Int32.ofInt 6).toInt = x3.toInt + 6 := ad32 rfl (by decide) (by omega) (by omega)
        exact ih18 ((x3 + Int32.ofInt 6)) _ _ hI967 (by omega) (by omega)
      · skip
        try have f971 : ((x3 + 1) : Int32).toInt = (x3).toInt + 1 := ad32 (a := (x3).toInt) (b := 1) (rfl) (ti_1) (by omega) (by omega)
        refine ⟨vp_of (by first | omega | ((try simp only [Int32.lt_iff_toInt_lt, Int32.le_iff_toInt_le, ← Int32.toInt_inj, Int32.toInt_toInt64, tiA, tlA]); omega)) (by first | omega | ((try simp only [Int32.lt_iff_toInt_lt, Int32.le_iff_toInt_le, ← Int32.toInt_inj, Int32.toInt_toInt64, tiA, tlA]); omega)), ?_⟩
        try have f973 : ((x3 + 2) : Int32).toInt = (x3).toInt + 2 := ad32 (a := (x3).toInt) (b := 2) (rfl) (ti_2) (by omega) (by omega)
        refine ⟨vp_of (by first | omega | ((try simp only [Int32.lt_iff_toInt_lt, Int32.le_iff_toInt_le, ← Int32.toInt_inj, Int32.toInt_toInt64, tiA, tlA]); omega)) (by first | omega | ((try simp only [Int32.lt_iff_toInt_lt, Int32.le_iff_toInt_le, ← Int32.toInt_inj, Int32.toInt_toInt64, tiA, tlA]); omega)), ?_⟩
        try have f975 : ((x3 + 3) : Int32).toInt = (x3).toInt + 3 := ad32 (a := (x3).toInt) (b := 3) (rfl) (ti_3) (by omega) (by omega)
        refine ⟨vp_of (by first | omega | ((try simp only [Int32.lt_iff_toInt_lt, Int32.le_iff_toInt_le, ← Int32.toInt_inj, Int32.toInt_toInt64, tiA, tlA]); omega)) (by first | omega | ((try simp only [Int32.lt_iff_toInt_lt, Int32.le_iff_toInt_le, ← Int32.toInt_inj, Int32.toInt_toInt64, tiA, tlA]); omega)), ?_⟩
        try have f977 : ((x3 + 4) : Int32).toInt = (x3).toInt + 4 := ad32 (a := (x3).toInt) (b := 4) (rfl) (ti_4) (by omega) (by omega)
        refine ⟨vp_of (by first | omega | ((try simp only [Int32.lt_iff_toInt_lt, Int32.le_iff_toInt_le, ← Int32.toInt_inj, Int32.toInt_toInt64, tiA, tlA]); omega)) (by first | omega | ((try simp only [Int32.lt_iff_toInt_lt, Int32.le_iff_toInt_le, ← Int32.toInt_inj, Int32.toInt_toInt64, tiA, tlA]); omega)), ?_⟩
        refine ⟨_, s_X8_behind ((xs (x3 + 1).toNatClampNeg)) ((xs (x3 + 2).toNatClampNeg)) ((xs (x3 + 3).toNatClampNeg)) ((xs (x3 + 4).toNatClampNeg)) hI.1, ?_⟩
        intro v982 lg979 it980 hq983
        have hI981 : IL lg979 it980 := il_8 hI hq983.1 hq983.2 (fun j hj => by first | omega | exact False.elim hj | (dsimp only at hj; omega))
        try have f984 : ((x3 + 1) : Int32).toInt = (x3).toInt + 1 := ad32 (a := (x3).toInt) (b := 1) (rfl) (ti_1) (by omega) (by omega)
        refine ⟨vp_of (by first | omega | ((try simp only [Int32.lt_iff_toInt_lt, Int32.le_iff_toInt_le, ← Int32.toInt_inj, Int32.toInt_toInt64, tiA, tlA]); omega)) (by first | omega | ((try simp only [Int32.lt_iff_toInt_lt, Int32.le_iff_toInt_le, ← Int32.toInt_inj, Int32.toInt_toInt64, tiA, tlA]); omega)), ?_⟩
        try have f986 : ((x3 + 2) : Int32).toInt = (x3).toInt + 2 := ad32 (a := (x3).toInt) (b := 2) (rfl) (ti_2) (by omega) (by omega)
        refine ⟨vp_of (by first | omega | ((try simp only [Int32.lt_iff_toInt_lt, Int32.le_iff_toInt_le, ← Int32.toInt_inj, Int32.toInt_toInt64, tiA, tlA]); omega)) (by first | omega | ((try simp only [Int32.lt_iff_toInt_lt, Int32.le_iff_toInt_le, ← Int32.toInt_inj, Int32.toInt_toInt64, tiA, tlA]); omega)), ?_⟩
        try have f988 : ((x3 + 3) : Int32).toInt = (x3).toInt + 3 := ad32 (a := (x3).toInt) (b := 3) (rfl) (ti_3) (by omega) (by omega)
        refine ⟨vp_of (by first | omega | ((try simp only [Int32.lt_iff_toInt_lt, Int32.le_iff_toInt_le, ← Int32.toInt_inj, Int32.toInt_toInt64, tiA, tlA]); omega)) (by first | omega | ((try simp only [Int32.lt_iff_toInt_lt, Int32.le_iff_toInt_le, ← Int32.toInt_inj, Int32.toInt_toInt64, tiA, tlA]); omega)), ?_⟩
        try have f990 : ((x3 + 4) : Int32).toInt = (x3).toInt + 4 := ad32 (a := (x3).toInt) (b := 4) (rfl) (ti_4) (by omega) (by omega)
        refine ⟨vp_of (by first | omega | ((try simp only [Int32.lt_iff_toInt_lt, Int32.le_iff_toInt_le, ← Int32.toInt_inj, Int32.toInt_toInt64, tiA, tlA]); omega)) (by first | omega | ((try simp only [Int32.lt_iff_toInt_lt, Int32.le_iff_toInt_le, ← Int32.toInt_inj, Int32.toInt_toInt64, tiA, tlA]); omega)), ?_⟩
        refine ⟨_, s_X9_behind ((xs (x3 + 1).toNatClampNeg)) ((xs (x3 + 2).toNatClampNeg)) ((xs (x3 + 3).toNatClampNeg)) ((xs (x3 + 4).toNatClampNeg)) hI981.2, ?_⟩
        intro v995 lg992 it993 hq996
        have hI994 : IL lg992 it993 := il_9 hI981 hq996.1 hq996.2 (fun j hj => by first | omega | exact False.elim hj | (dsimp only at hj; omega))
        have f997 : (x3 + Int32.ofInt 6).toInt = x3.toInt + 6 := ad32 rfl (by decide) (by omega) (by omega)
        exact ih18 ((x3 + Int32.ofInt 6)) _ _ hI994 (by omega) (by omega)
      · skip
        try have f998 : ((x3 + 1) : Int32).toInt = (x3).toInt + 1 := ad32 (a := (x3).toInt) (b := 1) (rfl) (ti_1) (by omega) (by omega)
        refine ⟨vp_of (by first | omega | ((try simp only [Int32.lt_iff_toInt_lt, Int32.le_iff_toInt_le, ← Int32.toInt_inj, Int32.toInt_toInt64, tiA, tlA]); omega)) (by first | omega | ((try simp only [Int32.lt_iff_toInt_lt, Int32.le_iff_toInt_le, ← Int32.toInt_inj, Int32.toInt_toInt64, tiA, tlA]); omega)), ?_⟩
        try have f1000 : ((x3 + 2) : Int32).toInt = (x3).toInt + 2 := ad32 (a := (x3).toInt) (b := 2) (rfl) (ti_2) (by omega) (by omega)
        refine ⟨vp_of (by first | omega | ((try simp only [Int32.lt_iff_toInt_lt, Int32.le_iff_toInt_le, ← Int32.toInt_inj, Int32.toInt_toInt64, tiA, tlA]); omega)) (by first | omega | ((try simp only [Int32.lt_iff_toInt_lt, Int32.le_iff_toInt_le, ← Int32.toInt_inj, Int32.toInt_toInt64, tiA, tlA]); omega)), ?_⟩
        refine ⟨_, s_X8_then ((xs (x3 + 1).toNatClampNeg)) ((xs (x3 + 2).toNatClampNeg)) hI.1, ?_⟩
        intro v1005 lg1002 it1003 hq1006
        have hI1004 : IL lg1002 it1003 := il_8 hI hq1006.1 hq1006.2 (fun j hj => by first | omega | exact False.elim hj | (dsimp only at hj; omega))
        try have f1007 : ((x3 + 1) : Int32).toInt = (x3).toInt + 1 := ad32 (a := (x3).toInt) (b := 1) (rfl) (ti_1) (by omega) (by omega)
        refine ⟨vp_of (by first | omega | ((try simp only [Int32.lt_iff_toInt_lt, Int32.le_iff_toInt_le, ← Int32.toInt_inj, Int32.toInt_toInt64, tiA, tlA]); omega)) (by first | omega | ((try simp only [Int32.lt_iff_toInt_lt, Int32.le_iff_toInt_le, ← Int32.toInt_inj, Int32.toInt_toInt64, tiA, tlA]); omega)), ?_⟩
        try have f1009 : ((x3 + 2) : Int32).toInt = (x3).toInt + 2 := ad32 (a := (x3).toInt) (b := 2) (rfl) (ti_2) (by omega) (by omega)
        refine ⟨vp_of (by first | omega | ((try simp only [Int32.lt_iff_toInt_lt, Int32.le_iff_toInt_le, ← Int32.toInt_inj, Int32.toInt_toInt64, tiA, tlA]); omega)) (by first | omega | ((try simp only [Int32.lt_iff_toInt_lt, Int32.le_iff_toInt_le, ← Int32.toInt_inj, Int32.toInt_toInt64, tiA, tlA]); omega)), ?_⟩
        refine ⟨_, s_X9_then ((xs (x3 + 1).toNatClampNeg)) ((xs (x3 + 2).toNatClampNeg)) hI1004.2, ?_⟩
        intro v1014 lg1011 it1012 hq1015
        have hI1013 : IL lg1011 it1012 := il_9 hI1004 hq1015.1 hq1015.2 (fun j hj => by first | omega | exact False.elim hj | (dsimp only at hj; omega))
        have f1016 : (x3 + Int32.ofInt 6).toInt = x3.toInt + 6 := ad32 rfl (by decide) (by omega) (by omega)
        exact ih18 ((x3 + Int32.ofInt 6)) _ _ hI1013 (by omega) (by omega)
      · skip
        try have f1017 : ((x3 + 1) : Int32).toInt = (x3).toInt + 1 := ad32 (a := (x3).toInt) (b := 1) (rfl) (ti_1) (by omega) (by omega)
        refine ⟨vp_of (by first | omega | ((try simp only [Int32.lt_iff_toInt_lt, Int32.le_iff_toInt_le, ← Int32.toInt_inj, Int32.toInt_toInt64, tiA, tlA]); omega)) (by first | omega | ((try simp only [Int32.lt_iff_toInt_lt, Int32.le_iff_toInt_le, ← Int32.toInt_inj, Int32.toInt_toInt64, tiA, tlA]); omega)), ?_⟩
        refine ⟨_, s_X8_often ((xs (x3 + 1).toNatClampNeg)) hI.1, ?_⟩
        intro v1022 lg1019 it1020 hq1023
        have hI1021 : IL lg1019 it1020 := il_8 hI hq1023.1 hq1023.2 (fun j hj => by first | omega | exact False.elim hj | (dsimp only at hj; omega))
        try have f1024 : ((x3 + 1) : Int32).toInt = (x3).toInt + 1 := ad32 (a := (x3).toInt) (b := 1) (rfl) (ti_1) (by omega) (by omega)
        refine ⟨vp_of (by first | omega | ((try simp only [Int32.lt_iff_toInt_lt, Int32.le_iff_toInt_le, ← Int32.toInt_inj, Int32.toInt_toInt64, tiA, tlA]); omega)) (by first | omega | ((try simp only [Int32.lt_iff_toInt_lt, Int32.le_iff_toInt_le, ← Int32.toInt_inj, Int32.toInt_toInt64, tiA, tlA]); omega)), ?_⟩
        refine ⟨_, s_X9_often ((xs (x3 + 1).toNatClampNeg)) hI1021.2, ?_⟩
        intro v1029 lg1026 it1027 hq1030
        have hI1028 : IL lg1026 it1027 := il_9 hI1021 hq1030.1 hq1030.2 (fun j hj => by first | omega | exact False.elim hj | (dsimp only at hj; omega))
        have f1031 : (x3 + Int32.ofInt 6).toInt = x3.toInt + 6 := ad32 rfl (by decide) (by omega) (by omega)
        exact ih18 ((x3 + Int32.ofInt 6)) _ _ hI1028 (by omega) (by omega)
      · skip
        try have f1032 : ((x3 + 1) : Int32).toInt = (x3).toInt + 1 := ad32 (a := (x3).toInt) (b := 1) (rfl) (ti_1) (by omega) (by omega)
        refine ⟨vp_of (by first | omega | ((try simp only [Int32.lt_iff_toInt_lt, Int32.le_iff_toInt_le, ← Int32.toInt_inj, Int32.toInt_toInt64, tiA, tlA]); omega)) (by first | omega | ((try simp only [Int32.lt_iff_toInt_lt, Int32.le_iff_toInt_le, ← Int32.toInt_inj, Int32.toInt_toInt64, tiA, tlA]); omega)), ?_⟩
        try have f1034 : ((x3 + 2) : Int32).toInt = (x3).toInt + 2 := ad32 (a := (x3).toInt) (b := 2) (rfl) (ti_2) (by omega) (by omega)
        refine ⟨vp_of (by first | omega | ((try simp only [Int32.lt_iff_toInt_lt, Int32.le_iff_toInt_le, ← Int32.toInt_inj, Int32.toInt_toInt64, tiA, tlA]); omega)) (by first | omega | ((try simp only [Int32.lt_iff_toInt_lt, Int32.le_iff_toInt_le, ← Int32.toInt_inj, Int32.toInt_toInt64, tiA, tlA]); omega)), ?_⟩
        try have f1036 : ((x3 + 3) : Int32).toInt = (x3).toInt + 3 := ad32 (a := (x3).toInt) (b := 3) (rfl) (ti_3) (by omega) (by omega)
        refine ⟨vp_of (by first | omega | ((try simp only [Int32.lt_iff_toInt_lt, Int32.le_iff_toInt_le, ← Int32.toInt_inj, Int32.toInt_toInt64, tiA, tlA]); omega)) (by first | omega | ((try simp only [Int32.lt_iff_toInt_lt, Int32.le_iff_toInt_le, ← Int32.toInt_inj, Int32.toInt_toInt64, tiA, tlA]); omega)), ?_⟩
        refine ⟨_, s_X8_at ((xs (x3 + 1).toNatClampNeg)) ((xs (x3 + 2).toNatClampNeg)) ((xs (x3 + 3).toNatClampNeg)) hI.1, ?_⟩
        intro v1041 lg1038 it1039 hq1042
        have hI1040 : IL lg1038 it1039 := il_8 hI hq1042.1 hq1042.2 (fun j hj => by first | omega | exact False.elim hj | (dsimp only at hj; omega))
        try have f1043 : ((x3 + 1) : Int32).toInt = (x3).toInt + 1 := ad32 (a := (x3).toInt) (b := 1) (rfl) (ti_1) (by omega) (by omega)
        refine ⟨vp_of (by first | omega | ((try simp only [Int32.lt_iff_toInt_lt, Int32.le_iff_toInt_le, ← Int32.toInt_inj, Int32.toInt_toInt64, tiA, tlA]); omega)) (by first | omega | ((try simp only [Int32.lt_iff_toInt_lt, Int32.le_iff_toInt_le, ← Int32.toInt_inj, Int32.toInt_toInt64, tiA, tlA]); omega)), ?_⟩
        try have f1045 : ((x3 + 2) : Int32).toInt = (x3).toInt + 2 := ad32 (a := (x3).toInt) (b := 2) (rfl) (ti_2) (by omega) (by omega)
        refine ⟨vp_of (by first | omega | ((try simp only [Int32.lt_iff_toInt_lt, Int32.le_iff_toInt_le, ← Int32.toInt_inj, Int32.toInt_toInt64, tiA, tlA]); omega)) (by first | omega | ((try simp only [Int32.lt_iff_toInt_lt, Int32.le_iff_toInt_le, ← Int32.toInt_inj, Int32.toInt_toInt64, tiA, tlA]); omega)), ?_⟩
        try have f1047 : ((x3 + 3) : Int32).toInt = (x3).toInt + 3 := ad32 (a := (x3).toInt) (b := 3) (rfl) (ti_3) (by omega) (by omega)
        refine ⟨vp_of (by first | omega | ((try simp only [Int32.lt_iff_toInt_lt, Int32.le_iff_toInt_le, ← Int32.toInt_inj, Int32.toInt_toInt64, tiA, tlA]); omega)) (by first | omega | ((try simp only [Int32.lt_iff_toInt_lt, Int32.le_iff_toInt_le, ← Int32.toInt_inj, Int32.toInt_toInt64, tiA, tlA]); omega)), ?_⟩
        refine ⟨_, s_X9_at ((xs (x3 + 1).toNatClampNeg)) ((xs (x3 + 2).toNatClampNeg)) ((xs (x3 + 3).toNatClampNeg)) hI1040.2, ?_⟩
        intro v1052 lg1049 it1050 hq1053
        have hI1051 : IL lg1049 it1050 := il_9 hI1040 hq1053.1 hq1053.2 (fun j hj => by first | omega | exact False.elim hj | (dsimp only at hj; omega))
        have f1054 : (x3 + Int32.ofInt 6).toInt = x3.toInt + 6 := ad32 rfl (by decide) (by omega) (by omega)
        exact ih18 ((x3 + Int32.ofInt 6)) _ _ hI1051 (by omega) (by omega)
      · skip
        try have f1055 : ((x3 + 1) : Int32).toInt = (x3).toInt + 1 := ad32 (a := (x3).toInt) (b := 1) (rfl) (ti_1) (by omega) (by omega)
        refine ⟨vp_of (by first | omega | ((try simp only [Int32.lt_iff_toInt_lt, Int32.le_iff_toInt_le, ← Int32.toInt_inj, Int32.toInt_toInt64, tiA, tlA]); omega)) (by first | omega | ((try simp only [Int32.lt_iff_toInt_lt, Int32.le_iff_toInt_le, ← Int32.toInt_inj, Int32.toInt_toInt64, tiA, tlA]); omega)), ?_⟩
        try have f1057 : ((x3 + 2) : Int32).toInt = (x3).toInt + 2 := ad32 (a := (x3).toInt) (b := 2) (rfl) (ti_2) (by omega) (by omega)
        refine ⟨vp_of (by first | omega | ((try simp only [Int32.lt_iff_toInt_lt, Int32.le_iff_toInt_le, ← Int32.toInt_inj, Int32.toInt_toInt64, tiA, tlA]); omega)) (by first | omega | ((try simp only [Int32.lt_iff_toInt_lt, Int32.le_iff_toInt_le, ← Int32.toInt_inj, Int32.toInt_toInt64, tiA, tlA]); omega)), ?_⟩
        refine ⟨_, s_X8_see ((xs (x3 + 1).toNatClampNeg)) ((xs (x3 + 2).toNatClampNeg)) hI.1, ?_⟩
        intro v1062 lg1059 it1060 hq1063
        have hI1061 : IL lg1059 it1060 := il_8 hI hq1063.1 hq1063.2 (fun j hj => by first | omega | exact False.elim hj | (dsimp only at hj; omega))
        try have f1064 : ((x3 + 1) : Int32).toInt = (x3).toInt + 1 := ad32 (a := (x3).toInt) (b := 1) (rfl) (ti_1) (by omega) (by omega)
        refine ⟨vp_of (by first | omega | ((try simp only [Int32.lt_iff_toInt_lt, Int32.le_iff_toInt_le, ← Int32.toInt_inj, Int32.toInt_toInt64, tiA, tlA]); omega)) (by first | omega | ((try simp only [Int32.lt_iff_toInt_lt, Int32.le_iff_toInt_le, ← Int32.toInt_inj, Int32.toInt_toInt64, tiA, tlA]); omega)), ?_⟩
        try have f1066 : ((x3 + 2) : Int32).toInt = (x3).toInt + 2 := ad32 (a := (x3).toInt) (b := 2) (rfl) (ti_2) (by omega) (by omega)
        refine ⟨vp_of (by first | omega | ((try simp only [Int32.lt_iff_toInt_lt, Int32.le_iff_toInt_le, ← Int32.toInt_inj, Int32.toInt_toInt64, tiA, tlA]); omega)) (by first | omega | ((try simp only [Int32.lt_iff_toInt_lt, Int32.le_iff_toInt_le, ← Int32.toInt_inj, Int32.toInt_toInt64, tiA, tlA]); omega)), ?_⟩
        refine ⟨_, s_X9_see ((xs (x3 + 1).toNatClampNeg)) ((xs (x3 + 2).toNatClampNeg)) hI1061.2, ?_⟩
        intro v1071 lg1068 it1069 hq1072
        have hI1070 : IL lg1068 it1069 := il_9 hI1061 hq1072.1 hq1072.2 (fun j hj => by first | omega | exact False.elim hj | (dsimp only at hj; omega))
        have f1073 : (x3 + Int32.ofInt 6).toInt = x3.toInt + 6 := ad32 rfl (by decide) (by omega) (by omega)
        exact ih18 ((x3 + Int32.ofInt 6)) _ _ hI1070 (by omega) (by omega)
      · skip
        try have f1074 : ((x3 + 1) : Int32).toInt = (x3).toInt + 1 := ad32 (a := (x3).toInt) (b := 1) (rfl) (ti_1) (by omega) (by omega)
        refine ⟨vp_of (by first | omega | ((try simp only [Int32.lt_iff_toInt_lt, Int32.le_iff_toInt_le, ← Int32.toInt_inj, Int32.toInt_toInt64, tiA, tlA]); omega)) (by first | omega | ((try simp only [Int32.lt_iff_toInt_lt, Int32.le_iff_toInt_le, ← Int32.toInt_inj, Int32.toInt_toInt64, tiA, tlA]); omega)), ?_⟩
        try have f1076 : ((x3 + 2) : Int32).toInt = (x3).toInt + 2 := ad32 (a := (x3).toInt) (b := 2) (rfl) (ti_2) (by omega) (by omega)
        refine ⟨vp_of (by first | omega | ((try simp only [Int32.lt_iff_toInt_lt, Int32.le_iff_toInt_le, ← Int32.toInt_inj, Int32.toInt_toInt64, tiA, tlA]); omega)) (by first | omega | ((try simp only [Int32.lt_iff_toInt_lt, Int32.le_iff_toInt_le, ← Int32.toInt_inj, Int32.toInt_toInt64, tiA, tlA]); omega)), ?_⟩
        refine ⟨_, s_X8_fits ((xs (x3 + 1).toNatClampNeg)) ((xs (x3 + 2).toNatClampNeg)) hI.1, ?_⟩
        intro v1081 lg1078 it1079 hq1082
        have hI1080 : IL lg1078 it1079 := il_8 hI hq1082.1 hq1082.2 (fun j hj => by first | omega | exact False.elim hj | (dsimp only at hj; omega))
        try have f1083 : ((x3 + 1) : Int32).toInt = (x3).toInt + 1 := ad32 (a := (x3).toInt) (b := 1) (rfl) (ti_1) (by omega) (by omega)
        refine ⟨vp_of (by first | omega | ((try simp only [Int32.lt_iff_toInt_lt, Int32.le_iff_toInt_le, ← Int32.toInt_inj, Int32.toInt_toInt64, tiA, tlA]); omega)) (by first | omega | ((try simp only [Int32.lt_iff_toInt_lt, Int32.le_iff_toInt_le, ← Int32.toInt_inj, Int32.toInt_toInt64, tiA, tlA]); omega)), ?_⟩
        try have f1085 : ((x3 + 2) : Int32).toInt = (x3).toInt + 2 := ad32 (a := (x3).toInt) (b := 2) (rfl) (ti_2) (by omega) (by omega)
        refine ⟨vp_of (by first | omega | ((try simp only [Int32.lt_iff_toInt_lt, Int32.le_iff_toInt_le, ← Int32.toInt_inj, Int32.toInt_toInt64, tiA, tlA]); omega)) (by first | omega | ((try simp only [Int32.lt_iff_toInt_lt, Int32.le_iff_toInt_le, ← Int32.toInt_inj, Int32.toInt_toInt64, tiA, tlA]); omega)), ?_⟩
        refine ⟨_, s_X9_fits ((xs (x3 + 1).toNatClampNeg)) ((xs (x3 + 2).toNatClampNeg)) hI1080.2, ?_⟩
        intro v1090 lg1087 it1088 hq1091
        have hI1089 : IL lg1087 it1088 := il_9 hI1080 hq1091.1 hq1091.2 (fun j hj => by first | omega | exact False.elim hj | (dsimp only at hj; omega))
        have f1092 : (x3 + Int32.ofInt 6).toInt = x3.toInt + 6 := ad32 rfl (by decide) (by omega) (by omega)
        exact ih18 ((x3 + Int32.ofInt 6)) _ _ hI1089 (by omega) (by omega)
      · skip
        try have f1093 : ((x3 + 1) : Int32).toInt = (x3).toInt + 1 := ad32 (a := (x3).toInt) (b := 1) (rfl) (ti_1) (by omega) (by omega)
        refine ⟨vp_of (by first | omega | ((try simp only [Int32.lt_iff_toInt_lt, Int32.le_iff_toInt_le, ← Int32.toInt_inj, Int32.toInt_toInt64, tiA, tlA]); omega)) (by first | omega | ((try simp only [Int32.lt_iff_toInt_lt, Int32.le_iff_toInt_le, ← Int32.toInt_inj, Int32.toInt_toInt64, tiA, tlA]); omega)), ?_⟩
        try have f1095 : ((x3 + 2) : Int32).toInt = (x3).toInt + 2 := ad32 (a := (x3).toInt) (b := 2) (rfl) (ti_2) (by omega) (by omega)
        refine ⟨vp_of (by first | omega | ((try simp only [Int32.lt_iff_toInt_lt, Int32.le_iff_toInt_le, ← Int32.toInt_inj, Int32.toInt_toInt64, tiA, tlA]); omega)) (by first | omega | ((try simp only [Int32.lt_iff_toInt_lt, Int32.le_iff_toInt_le, ← Int32.toInt_inj, Int32.toInt_toInt64, tiA, tlA]); omega)), ?_⟩
        refine ⟨_, s_X8_odds ((xs (x3 + 1).toNatClampNeg)) ((xs (x3 + 2).toNatClampNeg)) hI.1, ?_⟩
        intro v1100 lg1097 it1098 hq1101
        have hI1099 : IL lg1097 it1098 := il_8 hI hq1101.1 hq1101.2 (fun j hj => by first | omega | exact False.elim hj | (dsimp only at hj; omega))
        try have f1102 : ((x3 + 1) : Int32).toInt = (x3).toInt + 1 := ad32 (a := (x3).toInt) (b := 1) (rfl) (ti_1) (by omega) (by omega)
        refine ⟨vp_of (by first | omega | ((try simp only [Int32.lt_iff_toInt_lt, Int32.le_iff_toInt_le, ← Int32.toInt_inj, Int32.toInt_toInt64, tiA, tlA]); omega)) (by first | omega | ((try simp only [Int32.lt_iff_toInt_lt, Int32.le_iff_toInt_le, ← Int32.toInt_inj, Int32.toInt_toInt64, tiA, tlA]); omega)), ?_⟩
        try have f1104 : ((x3 + 2) : Int32).toInt = (x3).toInt + 2 := ad32 (a := (x3).toInt) (b := 2) (rfl) (ti_2) (by omega) (by omega)
        refine ⟨vp_of (by first | omega | ((try simp only [Int32.lt_iff_toInt_lt, Int32.le_iff_toInt_le, ← Int32.toInt_inj, Int32.toInt_toInt64, tiA, tlA]); omega)) (by first | omega | ((try simp only [Int32.lt_iff_toInt_lt, Int32.le_iff_toInt_le, ← Int32.toInt_inj, Int32.toInt_toInt64, tiA, tlA]); omega)), ?_⟩
        refine ⟨_, s_X9_odds ((xs (x3 + 1).toNatClampNeg)) ((xs (x3 + 2).toNatClampNeg)) hI1099.2, ?_⟩
        intro v1109 lg1106 it1107 hq1110
        have hI1108 : IL lg1106 it1107 := il_9 hI1099 hq1110.1 hq1110.2 (fun j hj => by first | omega | exact False.elim hj | (dsimp only at hj; omega))
        have f1111 : (x3 + Int32.ofInt 6).toInt = x3.toInt + 6 := ad32 rfl (by decide) (by omega) (by omega)
        exact ih18 ((x3 + Int32.ofInt 6)) _ _ hI1108 (by omega) (by omega)
      · skip
        try have f1112 : ((x3 + 1) : Int32).toInt = (x3).toInt + 1 := ad32 (a := (x3).toInt) (b := 1) (rfl) (ti_1) (by omega) (by omega)
        refine ⟨vp_of (by first | omega | ((try simp only [Int32.lt_iff_toInt_lt, Int32.le_iff_toInt_le, ← Int32.toInt_inj, Int32.toInt_toInt64, tiA, tlA]); omega)) (by first | omega | ((try simp only [Int32.lt_iff_toInt_lt, Int32.le_iff_toInt_le, ← Int32.toInt_inj, Int32.toInt_toInt64, tiA, tlA]); omega)), ?_⟩
        refine ⟨_, s_X8_mean ((xs (x3 + 1).toNatClampNeg)) hI.1, ?_⟩
        intro v1117 lg1114 it1115 hq1118
        have hI1116 : IL lg1114 it1115 := il_8 hI hq1118.1 hq1118.2 (fun j hj => by first | omega | exact False.elim hj | (dsimp only at hj; omega))
        try have f1119 : ((x3 + 1) : Int32).toInt = (x3).toInt + 1 := ad32 (a := (x3).toInt) (b := 1) (rfl) (ti_1) (by omega) (by omega)
        refine ⟨vp_of (by first | omega | ((try simp only [Int32.lt_iff_toInt_lt, Int32.le_iff_toInt_le, ← Int32.toInt_inj, Int32.toInt_toInt64, tiA, tlA]); omega)) (by first | omega | ((try simp only [Int32.lt_iff_toInt_lt, Int32.le_iff_toInt_le, ← Int32.toInt_inj, Int32.toInt_toInt64, tiA, tlA]); omega)), ?_⟩
        refine ⟨_, s_X9_mean ((xs (x3 + 1).toNatClampNeg)) hI1116.2, ?_⟩
        intro v1124 lg1121 it1122 hq1125
        have hI1123 : IL lg1121 it1122 := il_9 hI1116 hq1125.1 hq1125.2 (fun j hj => by first | omega | exact False.elim hj | (dsimp only at hj; omega))
        have f1126 : (x3 + Int32.ofInt 6).toInt = x3.toInt + 6 := ad32 rfl (by decide) (by omega) (by omega)
        exact ih18 ((x3 + Int32.ofInt 6)) _ _ hI1123 (by omega) (by omega)
      · skip
        try have f1127 : ((x3 + 1) : Int32).toInt = (x3).toInt + 1 := ad32 (a := (x3).toInt) (b := 1) (rfl) (ti_1) (by omega) (by omega)
        refine ⟨vp_of (by first | omega | ((try simp only [Int32.lt_iff_toInt_lt, Int32.le_iff_toInt_le, ← Int32.toInt_inj, Int32.toInt_toInt64, tiA, tlA]); omega)) (by first | omega | ((try simp only [Int32.lt_iff_toInt_lt, Int32.le_iff_toInt_le, ← Int32.toInt_inj, Int32.toInt_toInt64, tiA, tlA]); omega)), ?_⟩
        try have f1129 : ((x3 + 2) : Int32).toInt = (x3).toInt + 2 := ad32 (a := (x3).toInt) (b := 2) (rfl) (ti_2) (by omega) (by omega)
        refine ⟨vp_of (by first | omega | ((try simp only [Int32.lt_iff_toInt_lt, Int32.le_iff_toInt_le, ← Int32.toInt_inj, Int32.toInt_toInt64, tiA, tlA]); omega)) (by first | omega | ((try simp only [Int32.lt_iff_toInt_lt, Int32.le_iff_toInt_le, ← Int32.toInt_inj, Int32.toInt_toInt64, tiA, tlA]); omega)), ?_⟩
        refine ⟨_, s_X8_event ((xs (x3 + 1).toNatClampNeg)) ((xs (x3 + 2).toNatClampNeg)) hI.1, ?_⟩
        intro v1134 lg1131 it1132 hq1135
        have hI1133 : IL lg1131 it1132 := il_8 hI hq1135.1 hq1135.2 (fun j hj => by first | omega | exact False.elim hj | (dsimp only at hj; omega))
        try have f1136 : ((x3 + 1) : Int32).toInt = (x3).toInt + 1 := ad32 (a := (x3).toInt) (b := 1) (rfl) (ti_1) (by omega) (by omega)
        refine ⟨vp_of (by first | omega | ((try simp only [Int32.lt_iff_toInt_lt, Int32.le_iff_toInt_le, ← Int32.toInt_inj, Int32.toInt_toInt64, tiA, tlA]); omega)) (by first | omega | ((try simp only [Int32.lt_iff_toInt_lt, Int32.le_iff_toInt_le, ← Int32.toInt_inj, Int32.toInt_toInt64, tiA, tlA]); omega)), ?_⟩
        try have f1138 : ((x3 + 2) : Int32).toInt = (x3).toInt + 2 := ad32 (a := (x3).toInt) (b := 2) (rfl) (ti_2) (by omega) (by omega)
        refine ⟨vp_of (by first | omega | ((try simp only [Int32.lt_iff_toInt_lt, Int32.le_iff_toInt_le, ← Int32.toInt_inj, Int32.toInt_toInt64, tiA, tlA]); omega)) (by first | omega | ((try simp only [Int32.lt_iff_toInt_lt, Int32.le_iff_toInt_le, ← Int32.toInt_inj, Int32.toInt_toInt64, tiA, tlA]); omega)), ?_⟩
        refine ⟨_, s_X9_event ((xs (x3 + 1).toNatClampNeg)) ((xs (x3 + 2).toNatClampNeg)) hI1133.2, ?_⟩
        intro v1143 lg1140 it1141 hq1144
        have hI1142 : IL lg1140 it1141 := il_9 hI1133 hq1144.1 hq1144.2 (fun j hj => by first | omega | exact False.elim hj | (dsimp only at hj; omega))
        have f1145 : (x3 + Int32.ofInt 6).toInt = x3.toInt + 6 := ad32 rfl (by decide) (by omega) (by omega)
        exact ih18 ((x3 + Int32.ofInt 6)) _ _ hI1142 (by omega) (by omega)
      · skip
        try have f1146 : ((x3 + 1) : Int32).toInt = (x3).toInt + 1 := ad32 (a := (x3).toInt) (b := 1) (rfl) (ti_1) (by omega) (by omega)
        refine ⟨vp_of (by first | omega | ((try simp only [Int32.lt_iff_toInt_lt, Int32.le_iff_toInt_le, ← Int32.toInt_inj, Int32.toInt_toInt64, tiA, tlA]); omega)) (by first | omega | ((try simp only [Int32.lt_iff_toInt_lt, Int32.le_iff_toInt_le, ← Int32.toInt_inj, Int32.toInt_toInt64, tiA, tlA]); omega)), ?_⟩
        refine ⟨_, s_X8_after ((xs (x3 + 1).toNatClampNeg)) hI.1, ?_⟩
        intro v1151 lg1148 it1149 hq1152
        have hI1150 : IL lg1148 it1149 := il_8 hI hq1152.1 hq1152.2 (fun j hj => by first | omega | exact False.elim hj | (dsimp only at hj; omega))
        try have f1153 : ((x3 + 1) : Int32).toInt = (x3).toInt + 1 := ad32 (a := (x3).toInt) (b := 1) (rfl) (ti_1) (by omega) (by omega)
        refine ⟨vp_of (by first | omega | ((try simp only [Int32.lt_iff_toInt_lt, Int32.le_iff_toInt_le, ← Int32.toInt_inj, Int32.toInt_toInt64, tiA, tlA]); omega)) (by first | omega | ((try simp only [Int32.lt_iff_toInt_lt, Int32.le_iff_toInt_le, ← Int32.toInt_inj, Int32.toInt_toInt64, tiA, tlA]); omega)), ?_⟩
        refine ⟨_, s_X9_after ((xs (x3 + 1).toNatClampNeg)) hI1150.2, ?_⟩
        intro v1158 lg1155 it1156 hq1159
        have hI1157 : IL lg1155 it1156 := il_9 hI1150 hq1159.1 hq1159.2 (fun j hj => by first | omega | exact False.elim hj | (dsimp only at hj; omega))
        have f1160 : (x3 + Int32.ofInt 6).toInt = x3.toInt + 6 := ad32 rfl (by decide) (by omega) (by omega)
        exact ih18 ((x3 + Int32.ofInt 6)) _ _ hI1157 (by omega) (by omega)
      · skip
        try have f1161 : ((x3 + 1) : Int32).toInt = (x3).toInt + 1 := ad32 (a := (x3).toInt) (b := 1) (rfl) (ti_1) (by omega) (by omega)
        refine ⟨vp_of (by first | omega | ((try simp only [Int32.lt_iff_toInt_lt, Int32.le_iff_toInt_le, ← Int32.toInt_inj, Int32.toInt_toInt64, tiA, tlA]); omega)) (by first | omega | ((try simp only [Int32.lt_iff_toInt_lt, Int32.le_iff_toInt_le, ← Int32.toInt_inj, Int32.toInt_toInt64, tiA, tlA]); omega)), ?_⟩
        try have f1163 : ((x3 + 2) : Int32).toInt = (x3).toInt + 2 := ad32 (a := (x3).toInt) (b := 2) (rfl) (ti_2) (by omega) (by omega)
        refine ⟨vp_of (by first | omega | ((try simp only [Int32.lt_iff_toInt_lt, Int32.le_iff_toInt_le, ← Int32.toInt_inj, Int32.toInt_toInt64, tiA, tlA]); omega)) (by first | omega | ((try simp only [Int32.lt_iff_toInt_lt, Int32.le_iff_toInt_le, ← Int32.toInt_inj, Int32.toInt_toInt64, tiA, tlA]); omega)), ?_⟩
        refine ⟨_, s_X8_book ((xs (x3 + 1).toNatClampNeg)) ((xs (x3 + 2).toNatClampNeg)) hI.1, ?_⟩
        intro v1168 lg1165 it1166 hq1169
        have hI1167 : IL lg1165 it1166 := il_8 hI hq1169.1 hq1169.2 (fun j hj => by first | omega | exact False.elim hj | (dsimp only at hj; omega))
        try have f1170 : ((x3 + 1) : Int32).toInt = (x3).toInt + 1 := ad32 (a := (x3).toInt) (b := 1) (rfl) (ti_1) (by omega) (by omega)
        refine ⟨vp_of (by first | omega | ((try simp only [Int32.lt_iff_toInt_lt, Int32.le_iff_toInt_le, ← Int32.toInt_inj, Int32.toInt_toInt64, tiA, tlA]); omega)) (by first | omega | ((try simp only [Int32.lt_iff_toInt_lt, Int32.le_iff_toInt_le, ← Int32.toInt_inj, Int32.toInt_toInt64, tiA, tlA]); omega)), ?_⟩
        try have f1172 : ((x3 + 2) : Int32).toInt = (x3).toInt + 2 := ad32 (a := (x3).toInt) (b := 2) (rfl) (ti_2) (by omega) (by omega)
        refine ⟨vp_of (by first | omega | ((try simp only [Int32.lt_iff_toInt_lt, Int32.le_iff_toInt_le, ← Int32.toInt_inj, Int32.toInt_toInt64, tiA, tlA]); omega)) (by first | omega | ((try simp only [Int32.lt_iff_toInt_lt, Int32.le_iff_toInt_le, ← Int32.toInt_inj, Int32.toInt_toInt64, tiA, tlA]); omega)), ?_⟩
        refine ⟨_, s_X9_book ((xs (x3 + 1).toNatClampNeg)) ((xs (x3 + 2).toNatClampNeg)) hI1167.2, ?_⟩
        intro v1177 lg1174 it1175 hq1178
        have hI1176 : IL lg1174 it1175 := il_9 hI1167 hq1178.1 hq1178.2 (fun j hj => by first | omega | exact False.elim hj | (dsimp only at hj; omega))
        have f1179 : (x3 + Int32.ofInt 6).toInt = x3.toInt + 6 := ad32 rfl (by decide) (by omega) (by omega)
        exact ih18 ((x3 + Int32.ofInt 6)) _ _ hI1176 (by omega) (by omega)
      · skip
        refine ⟨_, s_X8_looked  hI.1, ?_⟩
        intro v1183 lg1180 it1181 hq1184
        have hI1182 : IL lg1180 it1181 := il_8 hI hq1184.1 hq1184.2 (fun j hj => by first | omega | exact False.elim hj | (dsimp only at hj; omega))
        refine ⟨_, s_X9_looked  hI1182.2, ?_⟩
        intro v1188 lg1185 it1186 hq1189
        have hI1187 : IL lg1185 it1186 := il_9 hI1182 hq1189.1 hq1189.2 (fun j hj => by first | omega | exact False.elim hj | (dsimp only at hj; omega))
        have f1190 : (x3 + Int32.ofInt 6).toInt = x3.toInt + 6 := ad32 rfl (by decide) (by omega) (by omega)
        exact ih18 ((x3 + Int32.ofInt 6)) _ _ hI1187 (by omega) (by omega)
      · skip
        try have f1191 : ((x3 + 1) : Int32).toInt = (x3).toInt + 1 := ad32 (a := (x3).toInt) (b := 1) (rfl) (ti_1) (by omega) (by omega)
        refine ⟨vp_of (by first | omega | ((try simp only [Int32.lt_iff_toInt_lt, Int32.le_iff_toInt_le, ← Int32.toInt_inj, Int32.toInt_toInt64, tiA, tlA]); omega)) (by first | omega | ((try simp only [Int32.lt_iff_toInt_lt, Int32.le_iff_toInt_le, ← Int32.toInt_inj, Int32.toInt_toInt64, tiA, tlA]); omega)), ?_⟩
        try have f1193 : ((x3 + 2) : Int32).toInt = (x3).toInt + 2 := ad32 (a := (x3).toInt) (b := 2) (rfl) (ti_2) (by omega) (by omega)
        refine ⟨vp_of (by first | omega | ((try simp only [Int32.lt_iff_toInt_lt, Int32.le_iff_toInt_le, ← Int32.toInt_inj, Int32.toInt_toInt64, tiA, tlA]); omega)) (by first | omega | ((try simp only [Int32.lt_iff_toInt_lt, Int32.le_iff_toInt_le, ← Int32.toInt_inj, Int32.toInt_toInt64, tiA, tlA]); omega)), ?_⟩
        refine ⟨_, s_X8_judge ((xs (x3 + 1).toNatClampNeg)) ((xs (x3 + 2).toNatClampNeg)) hI.1, ?_⟩
        intro v1198 lg1195 it1196 hq1199
        have hI1197 : IL lg1195 it1196 := il_8 hI hq1199.1 hq1199.2 (fun j hj => by first | omega | exact False.elim hj | (dsimp only at hj; omega))
        try have f1200 : ((x3 + 1) : Int32).toInt = (x3).toInt + 1 := ad32 (a := (x3).toInt) (b := 1) (rfl) (ti_1) (by omega) (by omega)
        refine ⟨vp_of (by first | omega | ((try simp only [Int32.lt_iff_toInt_lt, Int32.le_iff_toInt_le, ← Int32.toInt_inj, Int32.toInt_toInt64, tiA, tlA]); omega)) (by first | omega | ((try simp only [Int32.lt_iff_toInt_lt, Int32.le_iff_toInt_le, ← Int32.toInt_inj, Int32.toInt_toInt64, tiA, tlA]); omega)), ?_⟩
        try have f1202 : ((x3 + 2) : Int32).toInt = (x3).toInt + 2 := ad32 (a := (x3).toInt) (b := 2) (rfl) (ti_2) (by omega) (by omega)
        refine ⟨vp_of (by first | omega | ((try simp only [Int32.lt_iff_toInt_lt, Int32.le_iff_toInt_le, ← Int32.toInt_inj, Int32.toInt_toInt64, tiA, tlA]); omega)) (by first | omega | ((try simp only [Int32.lt_iff_toInt_lt, Int32.le_iff_toInt_le, ← Int32.toInt_inj, Int32.toInt_toInt64, tiA, tlA]); omega)), ?_⟩
        refine ⟨_, s_X9_judge ((xs (x3 + 1).toNatClampNeg)) ((xs (x3 + 2).toNatClampNeg)) hI1197.2, ?_⟩
        intro v1207 lg1204 it1205 hq1208
        have hI1206 : IL lg1204 it1205 := il_9 hI1197 hq1208.1 hq1208.2 (fun j hj => by first | omega | exact False.elim hj | (dsimp only at hj; omega))
        have f1209 : (x3 + Int32.ofInt 6).toInt = x3.toInt + 6 := ad32 rfl (by decide) (by omega) (by omega)
        exact ih18 ((x3 + Int32.ofInt 6)) _ _ hI1206 (by omega) (by omega)
      · skip
        refine ⟨_, s_X8_image  hI.1, ?_⟩
        intro v1213 lg1210 it1211 hq1214
        have hI1212 : IL lg1210 it1211 := il_8 hI hq1214.1 hq1214.2 (fun j hj => by first | omega | exact False.elim hj | (dsimp only at hj; omega))
        refine ⟨_, s_X9_image  hI1212.2, ?_⟩
        intro v1218 lg1215 it1216 hq1219
        have hI1217 : IL lg1215 it1216 := il_9 hI1212 hq1219.1.1 hq1219.1.2 (fun j hj => by first | omega | exact False.elim hj | (dsimp only at hj; omega))
        have f1220 : (x3 + Int32.ofInt 6).toInt = x3.toInt + 6 := ad32 rfl (by decide) (by omega) (by omega)
        exact ih18 ((x3 + Int32.ofInt 6)) _ _ hI1217 (by omega) (by omega)
      · skip
        refine ⟨_, s_X8_undo  hI.1, ?_⟩
        intro v1224 lg1221 it1222 hq1225
        have hI1223 : IL lg1221 it1222 := il_8 hI hq1225.1 hq1225.2 (fun j hj => by first | omega | exact False.elim hj | (dsimp only at hj; omega))
        refine ⟨_, s_X9_undo  hI1223.2, ?_⟩
        intro v1229 lg1226 it1227 hq1230
        have hI1228 : IL lg1226 it1227 := il_9 hI1223 hq1230.1.1 hq1230.1.2 (fun j hj => by first | omega | exact False.elim hj | (dsimp only at hj; omega))
        have f1231 : (x3 + Int32.ofInt 6).toInt = x3.toInt + 6 := ad32 rfl (by decide) (by omega) (by omega)
        exact ih18 ((x3 + Int32.ofInt 6)) _ _ hI1228 (by omega) (by omega)
      · skip
        try have f1232 : ((x3 + 1) : Int32).toInt = (x3).toInt + 1 := ad32 (a := (x3).toInt) (b := 1) (rfl) (ti_1) (by omega) (by omega)
        refine ⟨vp_of (by first | omega | ((try simp only [Int32.lt_iff_toInt_lt, Int32.le_iff_toInt_le, ← Int32.toInt_inj, Int32.toInt_toInt64, tiA, tlA]); omega)) (by first | omega | ((try simp only [Int32.lt_iff_toInt_lt, Int32.le_iff_toInt_le, ← Int32.toInt_inj, Int32.toInt_toInt64, tiA, tlA]); omega)), ?_⟩
        refine ⟨_, s_X8_count ((xs (x3 + 1).toNatClampNeg)) hI.1, ?_⟩
        intro v1237 lg1234 it1235 hq1238
        have hI1236 : IL lg1234 it1235 := il_8 hI hq1238.1 hq1238.2 (fun j hj => by first | omega | exact False.elim hj | (dsimp only at hj; omega))
        try have f1239 : ((x3 + 1) : Int32).toInt = (x3).toInt + 1 := ad32 (a := (x3).toInt) (b := 1) (rfl) (ti_1) (by omega) (by omega)
        refine ⟨vp_of (by first | omega | ((try simp only [Int32.lt_iff_toInt_lt, Int32.le_iff_toInt_le, ← Int32.toInt_inj, Int32.toInt_toInt64, tiA, tlA]); omega)) (by first | omega | ((try simp only [Int32.lt_iff_toInt_lt, Int32.le_iff_toInt_le, ← Int32.toInt_inj, Int32.toInt_toInt64, tiA, tlA]); omega)), ?_⟩
        refine ⟨_, s_X9_count ((xs (x3 + 1).toNatClampNeg)) hI1236.2, ?_⟩
        intro v1244 lg1241 it1242 hq1245
        have hI1243 : IL lg1241 it1242 := il_9 hI1236 hq1245.1 hq1245.2 (fun j hj => by first | omega | exact False.elim hj | (dsimp only at hj; omega))
        have f1246 : (x3 + Int32.ofInt 6).toInt = x3.toInt + 6 := ad32 rfl (by decide) (by omega) (by omega)
        exact ih18 ((x3 + Int32.ofInt 6)) _ _ hI1243 (by omega) (by omega)
      · skip
        try have f1247 : ((x3 + 1) : Int32).toInt = (x3).toInt + 1 := ad32 (a := (x3).toInt) (b := 1) (rfl) (ti_1) (by omega) (by omega)
        refine ⟨vp_of (by first | omega | ((try simp only [Int32.lt_iff_toInt_lt, Int32.le_iff_toInt_le, ← Int32.toInt_inj, Int32.toInt_toInt64, tiA, tlA]); omega)) (by first | omega | ((try simp only [Int32.lt_iff_toInt_lt, Int32.le_iff_toInt_le, ← Int32.toInt_inj, Int32.toInt_toInt64, tiA, tlA]); omega)), ?_⟩
        try have f1249 : ((x3 + 2) : Int32).toInt = (x3).toInt + 2 := ad32 (a := (x3).toInt) (b := 2) (rfl) (ti_2) (by omega) (by omega)
        refine ⟨vp_of (by first | omega | ((try simp only [Int32.lt_iff_toInt_lt, Int32.le_iff_toInt_le, ← Int32.toInt_inj, Int32.toInt_toInt64, tiA, tlA]); omega)) (by first | omega | ((try simp only [Int32.lt_iff_toInt_lt, Int32.le_iff_toInt_le, ← Int32.toInt_inj, Int32.toInt_toInt64, tiA, tlA]); omega)), ?_⟩
        try have f1251 : ((x3 + 3) : Int32).toInt = (x3).toInt + 3 := ad32 (a := (x3).toInt) (b := 3) (rfl) (ti_3) (by omega) (by omega)
        refine ⟨vp_of (by first | omega | ((try simp only [Int32.lt_iff_toInt_lt, Int32.le_iff_toInt_le, ← Int32.toInt_inj, Int32.toInt_toInt64, tiA, tlA]); omega)) (by first | omega | ((try simp only [Int32.lt_iff_toInt_lt, Int32.le_iff_toInt_le, ← Int32.toInt_inj, Int32.toInt_toInt64, tiA, tlA]); omega)), ?_⟩
        refine ⟨_, t_X8_tape ((xs (x3 + 1).toNatClampNeg)) ((xs (x3 + 2).toNatClampNeg)) ((xs (x3 + 3).toNatClampNeg)) hI.1, ?_⟩
        intro v1256 lg1253 it1254 hq1257
        have hI1255 : IL lg1253 it1254 := il_8 hI hq1257.1.1 hq1257.1.2 (fun j hj => by first | omega | exact False.elim hj | (dsimp only at hj; omega))
        try have f1258 : ((x3 + 1) : Int32).toInt = (x3).toInt + 1 := ad32 (a := (x3).toInt) (b := 1) (rfl) (ti_1) (by omega) (by omega)
        refine ⟨vp_of (by first | omega | ((try simp only [Int32.lt_iff_toInt_lt, Int32.le_iff_toInt_le, ← Int32.toInt_inj, Int32.toInt_toInt64, tiA, tlA]); omega)) (by first | omega | ((try simp only [Int32.lt_iff_toInt_lt, Int32.le_iff_toInt_le, ← Int32.toInt_inj, Int32.toInt_toInt64, tiA, tlA]); omega)), ?_⟩
        try have f1260 : ((x3 + 2) : Int32).toInt = (x3).toInt + 2 := ad32 (a := (x3).toInt) (b := 2) (rfl) (ti_2) (by omega) (by omega)
        refine ⟨vp_of (by first | omega | ((try simp only [Int32.lt_iff_toInt_lt, Int32.le_iff_toInt_le, ← Int32.toInt_inj, Int32.toInt_toInt64, tiA, tlA]); omega)) (by first | omega | ((try simp only [Int32.lt_iff_toInt_lt, Int32.le_iff_toInt_le, ← Int32.toInt_inj, Int32.toInt_toInt64, tiA, tlA]); omega)), ?_⟩
        try have f1262 : ((x3 + 3) : Int32).toInt = (x3).toInt + 3 := ad32 (a := (x3).toInt) (b := 3) (rfl) (ti_3) (by omega) (by omega)
        refine ⟨vp_of (by first | omega | ((try simp only [Int32.lt_iff_toInt_lt, Int32.le_iff_toInt_le, ← Int32.toInt_inj, Int32.toInt_toInt64, tiA, tlA]); omega)) (by first | omega | ((try simp only [Int32.lt_iff_toInt_lt, Int32.le_iff_toInt_le, ← Int32.toInt_inj, Int32.toInt_toInt64, tiA, tlA]); omega)), ?_⟩
        refine ⟨_, t_X9_tape ((xs (x3 + 1).toNatClampNeg)) ((xs (x3 + 2).toNatClampNeg)) ((xs (x3 + 3).toNatClampNeg)) hI1255.2, ?_⟩
        intro v1267 lg1264 it1265 hq1268
        have hI1266 : IL lg1264 it1265 := il_9 hI1255 hq1268.1.1 hq1268.1.2 (fun j hj => by first | omega | exact False.elim hj | (dsimp only at hj; omega))
        refine ⟨fun c1028 => ?_, fun c1028 => ?_⟩
        · skip
          have f1269 : (x3 + Int32.ofInt 6).toInt = x3.toInt + 6 := ad32 rfl (by decide) (by omega) (by omega)
          exact ih18 ((x3 + Int32.ofInt 6)) _ _ hI1266 (by omega) (by omega)
        · exact absurd (hq1257.2.trans hq1268.2.symm) c1028
      · skip
        try have f1270 : ((x3 + 1) : Int32).toInt = (x3).toInt + 1 := ad32 (a := (x3).toInt) (b := 1) (rfl) (ti_1) (by omega) (by omega)
        refine ⟨vp_of (by first | omega | ((try simp only [Int32.lt_iff_toInt_lt, Int32.le_iff_toInt_le, ← Int32.toInt_inj, Int32.toInt_toInt64, tiA, tlA]); omega)) (by first | omega | ((try simp only [Int32.lt_iff_toInt_lt, Int32.le_iff_toInt_le, ← Int32.toInt_inj, Int32.toInt_toInt64, tiA, tlA]); omega)), ?_⟩
        try have f1272 : ((x3 + 2) : Int32).toInt = (x3).toInt + 2 := ad32 (a := (x3).toInt) (b := 2) (rfl) (ti_2) (by omega) (by omega)
        refine ⟨vp_of (by first | omega | ((try simp only [Int32.lt_iff_toInt_lt, Int32.le_iff_toInt_le, ← Int32.toInt_inj, Int32.toInt_toInt64, tiA, tlA]); omega)) (by first | omega | ((try simp only [Int32.lt_iff_toInt_lt, Int32.le_iff_toInt_le, ← Int32.toInt_inj, Int32.toInt_toInt64, tiA, tlA]); omega)), ?_⟩
        try have f1274 : ((x3 + 3) : Int32).toInt = (x3).toInt + 3 := ad32 (a := (x3).toInt) (b := 3) (rfl) (ti_3) (by omega) (by omega)
        refine ⟨vp_of (by first | omega | ((try simp only [Int32.lt_iff_toInt_lt, Int32.le_iff_toInt_le, ← Int32.toInt_inj, Int32.toInt_toInt64, tiA, tlA]); omega)) (by first | omega | ((try simp only [Int32.lt_iff_toInt_lt, Int32.le_iff_toInt_le, ← Int32.toInt_inj, Int32.toInt_toInt64, tiA, tlA]); omega)), ?_⟩
        try have f1276 : ((x3 + 4) : Int32).toInt = (x3).toInt + 4 := ad32 (a := (x3).toInt) (b := 4) (rfl) (ti_4) (by omega) (by omega)
        refine ⟨vp_of (by first | omega | ((try simp only [Int32.lt_iff_toInt_lt, Int32.le_iff_toInt_le, ← Int32.toInt_inj, Int32.toInt_toInt64, tiA, tlA]); omega)) (by first | omega | ((try simp only [Int32.lt_iff_toInt_lt, Int32.le_iff_toInt_le, ← Int32.toInt_inj, Int32.toInt_toInt64, tiA, tlA]); omega)), ?_⟩
        refine ⟨_, s_X8_item ((xs (x3 + 1).toNatClampNeg)) ((xs (x3 + 2).toNatClampNeg)) ((((xs (x3 + 3).toNatClampNeg).toInt64 <<< ((32 : Int32).toInt64 &&& 63)) ||| ((xs (x3 + 4).toNatClampNeg).toInt64 &&& 4294967295))) hI.1, ?_⟩
        intro v1281 lg1278 it1279 hq1282
        have hI1280 : IL lg1278 it1279 := il_8 hI hq1282.1 hq1282.2 (fun j hj => by first | omega | exact False.elim hj | (dsimp only at hj; omega))
        try have f1283 : ((x3 + 1) : Int32).toInt = (x3).toInt + 1 := ad32 (a := (x3).toInt) (b := 1) (rfl) (ti_1) (by omega) (by omega)
        refine ⟨vp_of (by first | omega | ((try simp only [Int32.lt_iff_toInt_lt, Int32.le_iff_toInt_le, ← Int32.toInt_inj, Int32.toInt_toInt64, tiA, tlA]); omega)) (by first | omega | ((try simp only [Int32.lt_iff_toInt_lt, Int32.le_iff_toInt_le, ← Int32.toInt_inj, Int32.toInt_toInt64, tiA, tlA]); omega)), ?_⟩
        try have f1285 : ((x3 + 2) : Int32).toInt = (x3).toInt + 2 := ad32 (a := (x3).toInt) (b := 2) (rfl) (ti_2) (by omega) (by omega)
        refine ⟨vp_of (by first | omega | ((try simp only [Int32.lt_iff_toInt_lt, Int32.le_iff_toInt_le, ← Int32.toInt_inj, Int32.toInt_toInt64, tiA, tlA]); omega)) (by first | omega | ((try simp only [Int32.lt_iff_toInt_lt, Int32.le_iff_toInt_le, ← Int32.toInt_inj, Int32.toInt_toInt64, tiA, tlA]); omega)), ?_⟩
        try have f1287 : ((x3 + 3) : Int32).toInt = (x3).toInt + 3 := ad32 (a := (x3).toInt) (b := 3) (rfl) (ti_3) (by omega) (by omega)
        refine ⟨vp_of (by first | omega | ((try simp only [Int32.lt_iff_toInt_lt, Int32.le_iff_toInt_le, ← Int32.toInt_inj, Int32.toInt_toInt64, tiA, tlA]); omega)) (by first | omega | ((try simp only [Int32.lt_iff_toInt_lt, Int32.le_iff_toInt_le, ← Int32.toInt_inj, Int32.toInt_toInt64, tiA, tlA]); omega)), ?_⟩
        try have f1289 : ((x3 + 4) : Int32).toInt = (x3).toInt + 4 := ad32 (a := (x3).toInt) (b := 4) (rfl) (ti_4) (by omega) (by omega)
        refine ⟨vp_of (by first | omega | ((try simp only [Int32.lt_iff_toInt_lt, Int32.le_iff_toInt_le, ← Int32.toInt_inj, Int32.toInt_toInt64, tiA, tlA]); omega)) (by first | omega | ((try simp only [Int32.lt_iff_toInt_lt, Int32.le_iff_toInt_le, ← Int32.toInt_inj, Int32.toInt_toInt64, tiA, tlA]); omega)), ?_⟩
        refine ⟨_, s_X9_item ((xs (x3 + 1).toNatClampNeg)) ((xs (x3 + 2).toNatClampNeg)) ((((xs (x3 + 3).toNatClampNeg).toInt64 <<< ((32 : Int32).toInt64 &&& 63)) ||| ((xs (x3 + 4).toNatClampNeg).toInt64 &&& 4294967295))) hI1280.2, ?_⟩
        intro v1294 lg1291 it1292 hq1295
        have hI1293 : IL lg1291 it1292 := il_9 hI1280 hq1295.1 hq1295.2 (fun j hj => by first | omega | exact False.elim hj | (dsimp only at hj; omega))
        have f1296 : (x3 + Int32.ofInt 6).toInt = x3.toInt + 6 := ad32 rfl (by decide) (by omega) (by omega)
        exact ih18 ((x3 + Int32.ofInt 6)) _ _ hI1293 (by omega) (by omega)
      · skip
        try have f1297 : ((x3 + 1) : Int32).toInt = (x3).toInt + 1 := ad32 (a := (x3).toInt) (b := 1) (rfl) (ti_1) (by omega) (by omega)
        refine ⟨vp_of (by first | omega | ((try simp only [Int32.lt_iff_toInt_lt, Int32.le_iff_toInt_le, ← Int32.toInt_inj, Int32.toInt_toInt64, tiA, tlA]); omega)) (by first | omega | ((try simp only [Int32.lt_iff_toInt_lt, Int32.le_iff_toInt_le, ← Int32.toInt_inj, Int32.toInt_toInt64, tiA, tlA]); omega)), ?_⟩
        try have f1299 : ((x3 + 2) : Int32).toInt = (x3).toInt + 2 := ad32 (a := (x3).toInt) (b := 2) (rfl) (ti_2) (by omega) (by omega)
        refine ⟨vp_of (by first | omega | ((try simp only [Int32.lt_iff_toInt_lt, Int32.le_iff_toInt_le, ← Int32.toInt_inj, Int32.toInt_toInt64, tiA, tlA]); omega)) (by first | omega | ((try simp only [Int32.lt_iff_toInt_lt, Int32.le_iff_toInt_le, ← Int32.toInt_inj, Int32.toInt_toInt64, tiA, tlA]); omega)), ?_⟩
        refine ⟨_, s_X8_peek ((xs (x3 + 1).toNatClampNeg)) ((xs (x3 + 2).toNatClampNeg)) hI.1, ?_⟩
        intro v1304 lg1301 it1302 hq1305
        have hI1303 : IL lg1301 it1302 := il_8 hI hq1305.1 hq1305.2 (fun j hj => by first | omega | exact False.elim hj | (dsimp only at hj; omega))
        try have f1306 : ((x3 + 1) : Int32).toInt = (x3).toInt + 1 := ad32 (a := (x3).toInt) (b := 1) (rfl) (ti_1) (by omega) (by omega)
        refine ⟨vp_of (by first | omega | ((try simp only [Int32.lt_iff_toInt_lt, Int32.le_iff_toInt_le, ← Int32.toInt_inj, Int32.toInt_toInt64, tiA, tlA]); omega)) (by first | omega | ((try simp only [Int32.lt_iff_toInt_lt, Int32.le_iff_toInt_le, ← Int32.toInt_inj, Int32.toInt_toInt64, tiA, tlA]); omega)), ?_⟩
        try have f1308 : ((x3 + 2) : Int32).toInt = (x3).toInt + 2 := ad32 (a := (x3).toInt) (b := 2) (rfl) (ti_2) (by omega) (by omega)
        refine ⟨vp_of (by first | omega | ((try simp only [Int32.lt_iff_toInt_lt, Int32.le_iff_toInt_le, ← Int32.toInt_inj, Int32.toInt_toInt64, tiA, tlA]); omega)) (by first | omega | ((try simp only [Int32.lt_iff_toInt_lt, Int32.le_iff_toInt_le, ← Int32.toInt_inj, Int32.toInt_toInt64, tiA, tlA]); omega)), ?_⟩
        refine ⟨_, s_X9_peek ((xs (x3 + 1).toNatClampNeg)) ((xs (x3 + 2).toNatClampNeg)) hI1303.2, ?_⟩
        intro v1313 lg1310 it1311 hq1314
        have hI1312 : IL lg1310 it1311 := il_9 hI1303 hq1314.1 hq1314.2 (fun j hj => by first | omega | exact False.elim hj | (dsimp only at hj; omega))
        have f1315 : (x3 + Int32.ofInt 6).toInt = x3.toInt + 6 := ad32 rfl (by decide) (by omega) (by omega)
        exact ih18 ((x3 + Int32.ofInt 6)) _ _ hI1312 (by omega) (by omega)
      · skip
        try have f1316 : ((x3 + 1) : Int32).toInt = (x3).toInt + 1 := ad32 (a := (x3).toInt) (b := 1) (rfl) (ti_1) (by omega) (by omega)
        refine ⟨vp_of (by first | omega | ((try simp only [Int32.lt_iff_toInt_lt, Int32.le_iff_toInt_le, ← Int32.toInt_inj, Int32.toInt_toInt64, tiA, tlA]); omega)) (by first | omega | ((try simp only [Int32.lt_iff_toInt_lt, Int32.le_iff_toInt_le, ← Int32.toInt_inj, Int32.toInt_toInt64, tiA, tlA]); omega)), ?_⟩
        try have f1318 : ((x3 + 2) : Int32).toInt = (x3).toInt + 2 := ad32 (a := (x3).toInt) (b := 2) (rfl) (ti_2) (by omega) (by omega)
        refine ⟨vp_of (by first | omega | ((try simp only [Int32.lt_iff_toInt_lt, Int32.le_iff_toInt_le, ← Int32.toInt_inj, Int32.toInt_toInt64, tiA, tlA]); omega)) (by first | omega | ((try simp only [Int32.lt_iff_toInt_lt, Int32.le_iff_toInt_le, ← Int32.toInt_inj, Int32.toInt_toInt64, tiA, tlA]); omega)), ?_⟩
        try have f1320 : ((x3 + 3) : Int32).toInt = (x3).toInt + 3 := ad32 (a := (x3).toInt) (b := 3) (rfl) (ti_3) (by omega) (by omega)
        refine ⟨vp_of (by first | omega | ((try simp only [Int32.lt_iff_toInt_lt, Int32.le_iff_toInt_le, ← Int32.toInt_inj, Int32.toInt_toInt64, tiA, tlA]); omega)) (by first | omega | ((try simp only [Int32.lt_iff_toInt_lt, Int32.le_iff_toInt_le, ← Int32.toInt_inj, Int32.toInt_toInt64, tiA, tlA]); omega)), ?_⟩
        try have f1322 : ((x3 + 4) : Int32).toInt = (x3).toInt + 4 := ad32 (a := (x3).toInt) (b := 4) (rfl) (ti_4) (by omega) (by omega)
        refine ⟨vp_of (by first | omega | ((try simp only [Int32.lt_iff_toInt_lt, Int32.le_iff_toInt_le, ← Int32.toInt_inj, Int32.toInt_toInt64, tiA, tlA]); omega)) (by first | omega | ((try simp only [Int32.lt_iff_toInt_lt, Int32.le_iff_toInt_le, ← Int32.toInt_inj, Int32.toInt_toInt64, tiA, tlA]); omega)), ?_⟩
        try have f1324 : ((x3 + 5) : Int32).toInt = (x3).toInt + 5 := ad32 (a := (x3).toInt) (b := 5) (rfl) (ti_5) (by omega) (by omega)
        refine ⟨vp_of (by first | omega | ((try simp only [Int32.lt_iff_toInt_lt, Int32.le_iff_toInt_le, ← Int32.toInt_inj, Int32.toInt_toInt64, tiA, tlA]); omega)) (by first | omega | ((try simp only [Int32.lt_iff_toInt_lt, Int32.le_iff_toInt_le, ← Int32.toInt_inj, Int32.toInt_toInt64, tiA, tlA]); omega)), ?_⟩
        refine ⟨_, s_X8_shift ((xs (x3 + 1).toNatClampNeg)) ((xs (x3 + 2).toNatClampNeg)) ((xs (x3 + 3).toNatClampNeg)) ((xs (x3 + 4).toNatClampNeg)) ((xs (x3 + 5).toNatClampNeg)) hI.1, ?_⟩
        intro v1329 lg1326 it1327 hq1330
        have hI1328 : IL lg1326 it1327 := il_8 hI hq1330.1 hq1330.2 (fun j hj => by first | omega | exact False.elim hj | (dsimp only at hj; omega))
        try have f1331 : ((x3 + 1) : Int32).toInt = (x3).toInt + 1 := ad32 (a := (x3).toInt) (b := 1) (rfl) (ti_1) (by omega) (by omega)
        refine ⟨vp_of (by first | omega | ((try simp only [Int32.lt_iff_toInt_lt, Int32.le_iff_toInt_le, ← Int32.toInt_inj, Int32.toInt_toInt64, tiA, tlA]); omega)) (by first | omega | ((try simp only [Int32.lt_iff_toInt_lt, Int32.le_iff_toInt_le, ← Int32.toInt_inj, Int32.toInt_toInt64, tiA, tlA]); omega)), ?_⟩
        try have f1333 : ((x3 + 2) : Int32).toInt = (x3).toInt + 2 := ad32 (a := (x3).toInt) (b := 2) (rfl) (ti_2) (by omega) (by omega)
        refine ⟨vp_of (by first | omega | ((try simp only [Int32.lt_iff_toInt_lt, Int32.le_iff_toInt_le, ← Int32.toInt_inj, Int32.toInt_toInt64, tiA, tlA]); omega)) (by first | omega | ((try simp only [Int32.lt_iff_toInt_lt, Int32.le_iff_toInt_le, ← Int32.toInt_inj, Int32.toInt_toInt64, tiA, tlA]); omega)), ?_⟩
        try have f1335 : ((x3 + 3) : Int32).toInt = (x3).toInt + 3 := ad32 (a := (x3).toInt) (b := 3) (rfl) (ti_3) (by omega) (by omega)
        refine ⟨vp_of (by first | omega | ((try simp only [Int32.lt_iff_toInt_lt, Int32.le_iff_toInt_le, ← Int32.toInt_inj, Int32.toInt_toInt64, tiA, tlA]); omega)) (by first | omega | ((try simp only [Int32.lt_iff_toInt_lt, Int32.le_iff_toInt_le, ← Int32.toInt_inj, Int32.toInt_toInt64, tiA, tlA]); omega)), ?_⟩
        try have f1337 : ((x3 + 4) : Int32).toInt = (x3).toInt + 4 := ad32 (a := (x3).toInt) (b := 4) (rfl) (ti_4) (by omega) (by omega)
        refine ⟨vp_of (by first | omega | ((try simp only [Int32.lt_iff_toInt_lt, Int32.le_iff_toInt_le, ← Int32.toInt_inj, Int32.toInt_toInt64, tiA, tlA]); omega)) (by first | omega | ((try simp only [Int32.lt_iff_toInt_lt, Int32.le_iff_toInt_le, ← Int32.toInt_inj, Int32.toInt_toInt64, tiA, tlA]); omega)), ?_⟩
        try have f1339 : ((x3 + 5) : Int32).toInt = (x3).toInt + 5 := ad32 (a := (x3).toInt) (b := 5) (rfl) (ti_5) (by omega) (by omega)
        refine ⟨vp_of (by first | omega | ((try simp only [Int32.lt_iff_toInt_lt, Int32.le_iff_toInt_le, ← Int32.toInt_inj, Int32.toInt_toInt64, tiA, tlA]); omega)) (by first | omega | ((try simp only [Int32.lt_iff_toInt_lt, Int32.le_iff_toInt_le, ← Int32.toInt_inj, Int32.toInt_toInt64, tiA, tlA]); omega)), ?_⟩
        refine ⟨_, s_X9_shift ((xs (x3 + 1).toNatClampNeg)) ((xs (x3 + 2).toNatClampNeg)) ((xs (x3 + 3).toNatClampNeg)) ((xs (x3 + 4).toNatClampNeg)) ((xs (x3 + 5).toNatClampNeg)) hI1328.2, ?_⟩
        intro v1344 lg1341 it1342 hq1345
        have hI1343 : IL lg1341 it1342 := il_9 hI1328 hq1345.1 hq1345.2 (fun j hj => by first | omega | exact False.elim hj | (dsimp only at hj; omega))
        have f1346 : (x3 + Int32.ofInt 6).toInt = x3.toInt + 6 := ad32 rfl (by decide) (by omega) (by omega)
        exact ih18 ((x3 + Int32.ofInt 6)) _ _ hI1343 (by omega) (by omega)
