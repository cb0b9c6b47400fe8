/-! every round keeps both invariants and the tapes alike, and answers 1 -/
set_option maxRecDepth 100000 in
set_option maxHeartbeats 16000000 in
theorem law_loop (L : Nat) (xs : Nat → Int32) (hL : L ≤ 3072) : ∀ (n : Nat) (x3 : Int32) (lg : LGt) (it : ITt), IL lg it → RC lg it → 0 ≤ x3.toInt → ((L : Int) - x3.toInt).toNat < n → w_L_law_b18 L xs (fun (v : Int32) (lg : LGt) (it : ITt) => v = 1) n x3 lg it := by
  generalize hp : (fun (v : Int32) (lg : LGt) (it : ITt) => v = 1) = Pz
  intro n18
  induction n18 with
  | zero => intro x3 lg it _ _ _ hn; exact absurd hn (Nat.not_lt_zero _)
  | succ n18 ih18 =>
    intro x3 lg0 it0 hI hT h0 hn
    have hb := x3.toInt_lt
    unfold w_L_law_b18
    have fL : (((Int32.ofNat L) - 6)).toInt = (L : Int) - 6 := sb32 (a := (L : Int)) (b := 6) (nI_toInt (by omega)) ti_6 (by omega) (by omega)
    refine ⟨fun c24 => ?_, fun c24 => ?_⟩
    · try simp only [Int32.lt_iff_toInt_lt, Int32.le_iff_toInt_le, ← Int32.toInt_inj, Int32.toInt_toInt64, tiA, tlA] at c24
      subst hp
      exact rfl
    · try simp only [Int32.lt_iff_toInt_lt, Int32.le_iff_toInt_le, ← Int32.toInt_inj, Int32.toInt_toInt64, tiA, tlA] at c24
      refine ⟨vp_of (by first | omega | ((try simp only [Int32.lt_iff_toInt_lt, Int32.le_iff_toInt_le, ← Int32.toInt_inj, Int32.toInt_toInt64, tiA, tlA]); omega)) (by first | omega | ((try simp only [Int32.lt_iff_toInt_lt, Int32.le_iff_toInt_le, ← Int32.toInt_inj, Int32.toInt_toInt64, tiA, tlA]); omega)), ?_⟩
      refine ⟨fun c33 => ?_, fun c33 => ?_, fun c33 => ?_, fun c33 => ?_, fun c33 => ?_, fun c33 => ?_, fun c33 => ?_, fun c33 => ?_, fun c33 => ?_, fun c33 => ?_, fun c33 => ?_, fun c33 => ?_, fun c33 => ?_, fun c33 => ?_, fun c33 => ?_, fun c33 => ?_, fun c33 => ?_, fun c33 => ?_, fun c33 => ?_, fun c33 => ?_, fun c33 => ?_, fun c33 => ?_, fun c33 => ?_, fun c33 => ?_, fun c33 => ?_, fun c33 => ?_, fun c33 => ?_, fun c33 => ?_, fun c33 => ?_, fun c33 => ?_, fun c33 => ?_, fun c33 => ?_, fun c33 => ?_, trivial⟩
      · skip
        have f758 : (x3 + Int32.ofInt 6).toInt = x3.toInt + 6 := ad32 rfl (by decide) (by omega) (by omega)
        exact ih18 ((x3 + Int32.ofInt 6)) _ _ hI hT (by omega) (by omega)
      · skip
        try have f759 : ((x3 + 1) : Int32).toInt = (x3).toInt + 1 := ad32 (a := (x3).toInt) (b := 1) (rfl) (ti_1) (by omega) (by omega)
        refine ⟨vp_of (by first | omega | ((try simp only [Int32.lt_iff_toInt_lt, Int32.le_iff_toInt_le, ← Int32.toInt_inj, Int32.toInt_toInt64, tiA, tlA]); omega)) (by first | omega | ((try simp only [Int32.lt_iff_toInt_lt, Int32.le_iff_toInt_le, ← Int32.toInt_inj, Int32.toInt_toInt64, tiA, tlA]); omega)), ?_⟩
        try have f761 : ((x3 + 2) : Int32).toInt = (x3).toInt + 2 := ad32 (a := (x3).toInt) (b := 2) (rfl) (ti_2) (by omega) (by omega)
        refine ⟨vp_of (by first | omega | ((try simp only [Int32.lt_iff_toInt_lt, Int32.le_iff_toInt_le, ← Int32.toInt_inj, Int32.toInt_toInt64, tiA, tlA]); omega)) (by first | omega | ((try simp only [Int32.lt_iff_toInt_lt, Int32.le_iff_toInt_le, ← Int32.toInt_inj, Int32.toInt_toInt64, tiA, tlA]); omega)), ?_⟩
        try have f763 : ((x3 + 3) : Int32).toInt = (x3).toInt + 3 := ad32 (a := (x3).toInt) (b := 3) (rfl) (ti_3) (by omega) (by omega)
        refine ⟨vp_of (by first | omega | ((try simp only [Int32.lt_iff_toInt_lt, Int32.le_iff_toInt_le, ← Int32.toInt_inj, Int32.toInt_toInt64, tiA, tlA]); omega)) (by first | omega | ((try simp only [Int32.lt_iff_toInt_lt, Int32.le_iff_toInt_le, ← Int32.toInt_inj, Int32.toInt_toInt64, tiA, tlA]); omega)), ?_⟩
        refine ⟨_, s_X8_bumper ((xs (x3 + 1).toNatClampNeg)) ((xs (x3 + 2).toNatClampNeg)) ((xs (x3 + 3).toNatClampNeg)) hI.1, ?_⟩
        intro v769 lg765 it766 hq770
        have hI767 : IL lg765 it766 := il_8 hI hq770.1 hq770.2 (fun j hj => by first | omega | exact False.elim hj | (dsimp only at hj; omega))
        have hT768 : RC lg765 it766 := rc_8 hT hq770.2 (fun j hj => by first | omega | exact False.elim hj | (dsimp only at hj; omega))
        try have f771 : ((x3 + 1) : Int32).toInt = (x3).toInt + 1 := ad32 (a := (x3).toInt) (b := 1) (rfl) (ti_1) (by omega) (by omega)
        refine ⟨vp_of (by first | omega | ((try simp only [Int32.lt_iff_toInt_lt, Int32.le_iff_toInt_le, ← Int32.toInt_inj, Int32.toInt_toInt64, tiA, tlA]); omega)) (by first | omega | ((try simp only [Int32.lt_iff_toInt_lt, Int32.le_iff_toInt_le, ← Int32.toInt_inj, Int32.toInt_toInt64, tiA, tlA]); omega)), ?_⟩
        try have f773 : ((x3 + 2) : Int32).toInt = (x3).toInt + 2 := ad32 (a := (x3).toInt) (b := 2) (rfl) (ti_2) (by omega) (by omega)
        refine ⟨vp_of (by first | omega | ((try simp only [Int32.lt_iff_toInt_lt, Int32.le_iff_toInt_le, ← Int32.toInt_inj, Int32.toInt_toInt64, tiA, tlA]); omega)) (by first | omega | ((try simp only [Int32.lt_iff_toInt_lt, Int32.le_iff_toInt_le, ← Int32.toInt_inj, Int32.toInt_toInt64, tiA, tlA]); omega)), ?_⟩
        try have f775 : ((x3 + 3) : Int32).toInt = (x3).toInt + 3 := ad32 (a := (x3).toInt) (b := 3) (rfl) (ti_3) (by omega) (by omega)
        refine ⟨vp_of (by first | omega | ((try simp only [Int32.lt_iff_toInt_lt, Int32.le_iff_toInt_le, ← Int32.toInt_inj, Int32.toInt_toInt64, tiA, tlA]); omega)) (by first | omega | ((try simp only [Int32.lt_iff_toInt_lt, Int32.le_iff_toInt_le, ← Int32.toInt_inj, Int32.toInt_toInt64, tiA, tlA]); omega)), ?_⟩
        refine ⟨_, s_X9_bumper ((xs (x3 + 1).toNatClampNeg)) ((xs (x3 + 2).toNatClampNeg)) ((xs (x3 + 3).toNatClampNeg)) hI767.2, ?_⟩
        intro v781 lg777 it778 hq782
        have hI779 : IL lg777 it778 := il_9 hI767 hq782.1 hq782.2 (fun j hj => by first | omega | exact False.elim hj | (dsimp only at hj; omega))
        have hT780 : RC lg777 it778 := rc_9 hT768 hq782.2 (fun j hj => by first | omega | exact False.elim hj | (dsimp only at hj; omega))
        have f783 : (x3 + Int32.ofInt 6).toInt = x3.toInt + 6 := ad32 rfl (by decide) (by omega) (by omega)
        exact ih18 ((x3 + Int32.ofInt 6)) _ _ hI779 hT780 (by omega) (by omega)
      · skip
        try have f784 : ((x3 + 1) : Int32).toInt = (x3).toInt + 1 := ad32 (a := (x3).toInt) (b := 1) (rfl) (ti_1) (by omega) (by omega)
        refine ⟨vp_of (by first | omega | ((try simp only [Int32.lt_iff_toInt_lt, Int32.le_iff_toInt_le, ← Int32.toInt_inj, Int32.toInt_toInt64, tiA, tlA]); omega)) (by first | omega | ((try simp only [Int32.lt_iff_toInt_lt, Int32.le_iff_toInt_le, ← Int32.toInt_inj, Int32.toInt_toInt64, tiA, tlA]); omega)), ?_⟩
        try have f786 : ((x3 + 2) : Int32).toInt = (x3).toInt + 2 := ad32 (a := (x3).toInt) (b := 2) (rfl) (ti_2) (by omega) (by omega)
        refine ⟨vp_of (by first | omega | ((try simp only [Int32.lt_iff_toInt_lt, Int32.le_iff_toInt_le, ← Int32.toInt_inj, Int32.toInt_toInt64, tiA, tlA]); omega)) (by first | omega | ((try simp only [Int32.lt_iff_toInt_lt, Int32.le_iff_toInt_le, ← Int32.toInt_inj, Int32.toInt_toInt64, tiA, tlA]); omega)), ?_⟩
        try have f788 : ((x3 + 3) : Int32).toInt = (x3).toInt + 3 := ad32 (a := (x3).toInt) (b := 3) (rfl) (ti_3) (by omega) (by omega)
        refine ⟨vp_of (by first | omega | ((try simp only [Int32.lt_iff_toInt_lt, Int32.le_iff_toInt_le, ← Int32.toInt_inj, Int32.toInt_toInt64, tiA, tlA]); omega)) (by first | omega | ((try simp only [Int32.lt_iff_toInt_lt, Int32.le_iff_toInt_le, ← Int32.toInt_inj, Int32.toInt_toInt64, tiA, tlA]); omega)), ?_⟩
        refine ⟨_, s_X8_renew ((xs (x3 + 1).toNatClampNeg)) ((xs (x3 + 2).toNatClampNeg)) ((xs (x3 + 3).toNatClampNeg)) hI.1, ?_⟩
        intro v794 lg790 it791 hq795
        have hI792 : IL lg790 it791 := il_8 hI hq795.1 hq795.2 (fun j hj => by first | omega | exact False.elim hj | (dsimp only at hj; omega))
        have hT793 : RC lg790 it791 := rc_8 hT hq795.2 (fun j hj => by first | omega | exact False.elim hj | (dsimp only at hj; omega))
        try have f796 : ((x3 + 1) : Int32).toInt = (x3).toInt + 1 := ad32 (a := (x3).toInt) (b := 1) (rfl) (ti_1) (by omega) (by omega)
        refine ⟨vp_of (by first | omega | ((try simp only [Int32.lt_iff_toInt_lt, Int32.le_iff_toInt_le, ← Int32.toInt_inj, Int32.toInt_toInt64, tiA, tlA]); omega)) (by first | omega | ((try simp only [Int32.lt_iff_toInt_lt, Int32.le_iff_toInt_le, ← Int32.toInt_inj, Int32.toInt_toInt64, tiA, tlA]); omega)), ?_⟩
        try have f798 : ((x3 + 2) : Int32).toInt = (x3).toInt + 2 := ad32 (a := (x3).toInt) (b := 2) (rfl) (ti_2) (by omega) (by omega)
        refine ⟨vp_of (by first | omega | ((try simp only [Int32.lt_iff_toInt_lt, Int32.le_iff_toInt_le, ← Int32.toInt_inj, Int32.toInt_toInt64, tiA, tlA]); omega)) (by first | omega | ((try simp only [Int32.lt_iff_toInt_lt, Int32.le_iff_toInt_le, ← Int32.toInt_inj, Int32.toInt_toInt64, tiA, tlA]); omega)), ?_⟩
        try have f800 : ((x3 + 3) : Int32).toInt = (x3).toInt + 3 := ad32 (a := (x3).toInt) (b := 3) (rfl) (ti_3) (by omega) (by omega)
        refine ⟨vp_of (by first | omega | ((try simp only [Int32.lt_iff_toInt_lt, Int32.le_iff_toInt_le, ← Int32.toInt_inj, Int32.toInt_toInt64, tiA, tlA]); omega)) (by first | omega | ((try simp only [Int32.lt_iff_toInt_lt, Int32.le_iff_toInt_le, ← Int32.toInt_inj, Int32.toInt_toInt64, tiA, tlA]); omega)), ?_⟩
        refine ⟨_, s_X9_renew ((xs (x3 + 1).toNatClampNeg)) ((xs (x3 + 2).toNatClampNeg)) ((xs (x3 + 3).toNatClampNeg)) hI792.2, ?_⟩
        intro v806 lg802 it803 hq807
        have hI804 : IL lg802 it803 := il_9 hI792 hq807.1 hq807.2 (fun j hj => by first | omega | exact False.elim hj | (dsimp only at hj; omega))
        have hT805 : RC lg802 it803 := rc_9 hT793 hq807.2 (fun j hj => by first | omega | exact False.elim hj | (dsimp only at hj; omega))
        have f808 : (x3 + Int32.ofInt 6).toInt = x3.toInt + 6 := ad32 rfl (by decide) (by omega) (by omega)
        exact ih18 ((x3 + Int32.ofInt 6)) _ _ hI804 hT805 (by omega) (by omega)
      · skip
        try have f809 : ((x3 + 1) : Int32).toInt = (x3).toInt + 1 := ad32 (a := (x3).toInt) (b := 1) (rfl) (ti_1) (by omega) (by omega)
        refine ⟨vp_of (by first | omega | ((try simp only [Int32.lt_iff_toInt_lt, Int32.le_iff_toInt_le, ← Int32.toInt_inj, Int32.toInt_toInt64, tiA, tlA]); omega)) (by first | omega | ((try simp only [Int32.lt_iff_toInt_lt, Int32.le_iff_toInt_le, ← Int32.toInt_inj, Int32.toInt_toInt64, tiA, tlA]); omega)), ?_⟩
        refine ⟨_, s_X8_spring ((xs (x3 + 1).toNatClampNeg)) hI.1, ?_⟩
        intro v815 lg811 it812 hq816
        have hI813 : IL lg811 it812 := il_8 hI hq816.1 hq816.2 (fun j hj => by first | omega | exact False.elim hj | (dsimp only at hj; omega))
        have hT814 : RC lg811 it812 := rc_8 hT hq816.2 (fun j hj => by first | omega | exact False.elim hj | (dsimp only at hj; omega))
        try have f817 : ((x3 + 1) : Int32).toInt = (x3).toInt + 1 := ad32 (a := (x3).toInt) (b := 1) (rfl) (ti_1) (by omega) (by omega)
        refine ⟨vp_of (by first | omega | ((try simp only [Int32.lt_iff_toInt_lt, Int32.le_iff_toInt_le, ← Int32.toInt_inj, Int32.toInt_toInt64, tiA, tlA]); omega)) (by first | omega | ((try simp only [Int32.lt_iff_toInt_lt, Int32.le_iff_toInt_le, ← Int32.toInt_inj, Int32.toInt_toInt64, tiA, tlA]); omega)), ?_⟩
        refine ⟨_, s_X9_spring ((xs (x3 + 1).toNatClampNeg)) hI813.2, ?_⟩
        intro v823 lg819 it820 hq824
        have hI821 : IL lg819 it820 := il_9 hI813 hq824.1 hq824.2 (fun j hj => by first | omega | exact False.elim hj | (dsimp only at hj; omega))
        have hT822 : RC lg819 it820 := rc_9 hT814 hq824.2 (fun j hj => by first | omega | exact False.elim hj | (dsimp only at hj; omega))
        have f825 : (x3 + Int32.ofInt 6).toInt = x3.toInt + 6 := ad32 rfl (by decide) (by omega) (by omega)
        exact ih18 ((x3 + Int32.ofInt 6)) _ _ hI821 hT822 (by omega) (by omega)
      · skip
        try have f826 : ((x3 + 1) : Int32).toInt = (x3).toInt + 1 := ad32 (a := (x3).toInt) (b := 1) (rfl) (ti_1) (by omega) (by omega)
        refine ⟨vp_of (by first | omega | ((try simp only [Int32.lt_iff_toInt_lt, Int32.le_iff_toInt_le, ← Int32.toInt_inj, Int32.toInt_toInt64, tiA, tlA]); omega)) (by first | omega | ((try simp only [Int32.lt_iff_toInt_lt, Int32.le_iff_toInt_le, ← Int32.toInt_inj, Int32.toInt_toInt64, tiA, tlA]); omega)), ?_⟩
        try have f828 : ((x3 + 2) : Int32).toInt = (x3).toInt + 2 := ad32 (a := (x3).toInt) (b := 2) (rfl) (ti_2) (by omega) (by omega)
        refine ⟨vp_of (by first | omega | ((try simp only [Int32.lt_iff_toInt_lt, Int32.le_iff_toInt_le, ← Int32.toInt_inj, Int32.toInt_toInt64, tiA, tlA]); omega)) (by first | omega | ((try simp only [Int32.lt_iff_toInt_lt, Int32.le_iff_toInt_le, ← Int32.toInt_inj, Int32.toInt_toInt64, tiA, tlA]); omega)), ?_⟩
        refine ⟨_, s_X8_wall ((xs (x3 + 1).toNatClampNeg)) ((xs (x3 + 2).toNatClampNeg)) hI.1, ?_⟩
        intro v834 lg830 it831 hq835
        have hI832 : IL lg830 it831 := il_8 hI hq835.1 hq835.2 (fun j hj => by first | omega | exact False.elim hj | (dsimp only at hj; omega))
        have hT833 : RC lg830 it831 := rc_8 hT hq835.2 (fun j hj => by first | omega | exact False.elim hj | (dsimp only at hj; omega))
        try have f836 : ((x3 + 1) : Int32).toInt = (x3).toInt + 1 := ad32 (a := (x3).toInt) (b := 1) (rfl) (ti_1) (by omega) (by omega)
        refine ⟨vp_of (by first | omega | ((try simp only [Int32.lt_iff_toInt_lt, Int32.le_iff_toInt_le, ← Int32.toInt_inj, Int32.toInt_toInt64, tiA, tlA]); omega)) (by first | omega | ((try simp only [Int32.lt_iff_toInt_lt, Int32.le_iff_toInt_le, ← Int32.toInt_inj, Int32.toInt_toInt64, tiA, tlA]); omega)), ?_⟩
        try have f838 : ((x3 + 2) : Int32).toInt = (x3).toInt + 2 := ad32 (a := (x3).toInt) (b := 2) (rfl) (ti_2) (by omega) (by omega)
        refine ⟨vp_of (by first | omega | ((try simp only [Int32.lt_iff_toInt_lt, Int32.le_iff_toInt_le, ← Int32.toInt_inj, Int32.toInt_toInt64, tiA, tlA]); omega)) (by first | omega | ((try simp only [Int32.lt_iff_toInt_lt, Int32.le_iff_toInt_le, ← Int32.toInt_inj, Int32.toInt_toInt64, tiA, tlA]); omega)), ?_⟩
        refine ⟨_, s_X9_wall ((xs (x3 + 1).toNatClampNeg)) ((xs (x3 + 2).toNatClampNeg)) hI832.2, ?_⟩
        intro v844 lg840 it841 hq845
        have hI842 : IL lg840 it841 := il_9 hI832 hq845.1 hq845.2 (fun j hj => by first | omega | exact False.elim hj | (dsimp only at hj; omega))
        have hT843 : RC lg840 it841 := rc_9 hT833 hq845.2 (fun j hj => by first | omega | exact False.elim hj | (dsimp only at hj; omega))
        have f846 : (x3 + Int32.ofInt 6).toInt = x3.toInt + 6 := ad32 rfl (by decide) (by omega) (by omega)
        exact ih18 ((x3 + Int32.ofInt 6)) _ _ hI842 hT843 (by omega) (by omega)
      · skip
        try have f847 : ((x3 + 1) : Int32).toInt = (x3).toInt + 1 := ad32 (a := (x3).toInt) (b := 1) (rfl) (ti_1) (by omega) (by omega)
        refine ⟨vp_of (by first | omega | ((try simp only [Int32.lt_iff_toInt_lt, Int32.le_iff_toInt_le, ← Int32.toInt_inj, Int32.toInt_toInt64, tiA, tlA]); omega)) (by first | omega | ((try simp only [Int32.lt_iff_toInt_lt, Int32.le_iff_toInt_le, ← Int32.toInt_inj, Int32.toInt_toInt64, tiA, tlA]); omega)), ?_⟩
        refine ⟨_, s_X8_go ((xs (x3 + 1).toNatClampNeg)) hI.1, ?_⟩
        intro v853 lg849 it850 hq854
        have hI851 : IL lg849 it850 := il_8 hI hq854.1 hq854.2 (fun j hj => by first | omega | exact False.elim hj | (dsimp only at hj; omega))
        have hT852 : RC lg849 it850 := rc_8 hT hq854.2 (fun j hj => by first | omega | exact False.elim hj | (dsimp only at hj; omega))
        try have f855 : ((x3 + 1) : Int32).toInt = (x3).toInt + 1 := ad32 (a := (x3).toInt) (b := 1) (rfl) (ti_1) (by omega) (by omega)
        refine ⟨vp_of (by first | omega | ((try simp only [Int32.lt_iff_toInt_lt, Int32.le_iff_toInt_le, ← Int32.toInt_inj, Int32.toInt_toInt64, tiA, tlA]); omega)) (by first | omega | ((try simp only [Int32.lt_iff_toInt_lt, Int32.le_iff_toInt_le, ← Int32.toInt_inj, Int32.toInt_toInt64, tiA, tlA]); omega)), ?_⟩
        refine ⟨_, s_X9_go ((xs (x3 + 1).toNatClampNeg)) hI851.2, ?_⟩
        intro v861 lg857 it858 hq862
        have hI859 : IL lg857 it858 := il_9 hI851 hq862.1 hq862.2 (fun j hj => by first | omega | exact False.elim hj | (dsimp only at hj; omega))
        have hT860 : RC lg857 it858 := rc_9 hT852 hq862.2 (fun j hj => by first | omega | exact False.elim hj | (dsimp only at hj; omega))
        have f863 : (x3 + Int32.ofInt 6).toInt = x3.toInt + 6 := ad32 rfl (by decide) (by omega) (by omega)
        exact ih18 ((x3 + Int32.ofInt 6)) _ _ hI859 hT860 (by omega) (by omega)
      · skip
        try have f864 : ((x3 + 1) : Int32).toInt = (x3).toInt + 1 := ad32 (a := (x3).toInt) (b := 1) (rfl) (ti_1) (by omega) (by omega)
        refine ⟨vp_of (by first | omega | ((try simp only [Int32.lt_iff_toInt_lt, Int32.le_iff_toInt_le, ← Int32.toInt_inj, Int32.toInt_toInt64, tiA, tlA]); omega)) (by first | omega | ((try simp only [Int32.lt_iff_toInt_lt, Int32.le_iff_toInt_le, ← Int32.toInt_inj, Int32.toInt_toInt64, tiA, tlA]); omega)), ?_⟩
        refine ⟨_, s_X8_feed ((xs (x3 + 1).toNatClampNeg)) hI.1, ?_⟩
        intro v870 lg866 it867 hq871
        have hI868 : IL lg866 it867 := il_8 hI hq871.1 hq871.2 (fun j hj => by first | omega | exact False.elim hj | (dsimp only at hj; omega))
        have hT869 : RC lg866 it867 := rc_8 hT hq871.2 (fun j hj => by first | omega | exact False.elim hj | (dsimp only at hj; omega))
        try have f872 : ((x3 + 1) : Int32).toInt = (x3).toInt + 1 := ad32 (a := (x3).toInt) (b := 1) (rfl) (ti_1) (by omega) (by omega)
        refine ⟨vp_of (by first | omega | ((try simp only [Int32.lt_iff_toInt_lt, Int32.le_iff_toInt_le, ← Int32.toInt_inj, Int32.toInt_toInt64, tiA, tlA]); omega)) (by first | omega | ((try simp only [Int32.lt_iff_toInt_lt, Int32.le_iff_toInt_le, ← Int32.toInt_inj, Int32.toInt_toInt64, tiA, tlA]); omega)), ?_⟩
        refine ⟨_, s_X9_feed ((xs (x3 + 1).toNatClampNeg)) hI868.2, ?_⟩
        intro v878 lg874 it875 hq879
        have hI876 : IL lg874 it875 := il_9 hI868 hq879.1 hq879.2 (fun j hj => by first | omega | exact False.elim hj | (dsimp only at hj; omega))
        have hT877 : RC lg874 it875 := rc_9 hT869 hq879.2 (fun j hj => by first | omega | exact False.elim hj | (dsimp only at hj; omega))
        have f880 : (x3 + Int32.ofInt 6).toInt = x3.toInt + 6 := ad32 rfl (by decide) (by omega) (by omega)
        exact ih18 ((x3 + Int32.ofInt 6)) _ _ hI876 hT877 (by omega) (by omega)
      · skip
        refine ⟨_, s_X8_read  hI.1, ?_⟩
        intro v885 lg881 it882 hq886
        have hI883 : IL lg881 it882 := il_8 hI hq886.1 hq886.2 (fun j hj => by first | omega | exact False.elim hj | (dsimp only at hj; omega))
        have hT884 : RC lg881 it882 := rc_8 hT hq886.2 (fun j hj => by first | omega | exact False.elim hj | (dsimp only at hj; omega))
        refine ⟨_, s_X9_read  hI883.2, ?_⟩
        intro v891 lg887 it888 hq892
        have hI889 : IL lg887 it888 := il_9 hI883 hq892.1 hq892.2 (fun j hj => by first | omega | exact False.elim hj | (dsimp only at hj; omega))
        have hT890 : RC lg887 it888 := rc_9 hT884 hq892.2 (fun j hj => by first | omega | exact False.elim hj | (dsimp only at hj; omega))
        have f893 : (x3 + Int32.ofInt 6).toInt = x3.toInt + 6 := ad32 rfl (by decide) (by omega) (by omega)
        exact ih18 ((x3 + Int32.ofInt 6)) _ _ hI889 hT890 (by omega) (by omega)
      · skip
        try have f894 : ((x3 + 1) : Int32).toInt = (x3).toInt + 1 := ad32 (a := (x3).toInt) (b := 1) (rfl) (ti_1) (by omega) (by omega)
        refine ⟨vp_of (by first | omega | ((try simp only [Int32.lt_iff_toInt_lt, Int32.le_iff_toInt_le, ← Int32.toInt_inj, Int32.toInt_toInt64, tiA, tlA]); omega)) (by first | omega | ((try simp only [Int32.lt_iff_toInt_lt, Int32.le_iff_toInt_le, ← Int32.toInt_inj, Int32.toInt_toInt64, tiA, tlA]); omega)), ?_⟩
        try have f896 : ((x3 + 2) : Int32).toInt = (x3).toInt + 2 := ad32 (a := (x3).toInt) (b := 2) (rfl) (ti_2) (by omega) (by omega)
        refine ⟨vp_of (by first | omega | ((try simp only [Int32.lt_iff_toInt_lt, Int32.le_iff_toInt_le, ← Int32.toInt_inj, Int32.toInt_toInt64, tiA, tlA]); omega)) (by first | omega | ((try simp only [Int32.lt_iff_toInt_lt, Int32.le_iff_toInt_le, ← Int32.toInt_inj, Int32.toInt_toInt64, tiA, tlA]); omega)), ?_⟩
        try have f898 : ((x3 + 3) : Int32).toInt = (x3).toInt + 3 := ad32 (a := (x3).toInt) (b := 3) (rfl) (ti_3) (by omega) (by omega)
        refine ⟨vp_of (by first | omega | ((try simp only [Int32.lt_iff_toInt_lt, Int32.le_iff_toInt_le, ← Int32.toInt_inj, Int32.toInt_toInt64, tiA, tlA]); omega)) (by first | omega | ((try simp only [Int32.lt_iff_toInt_lt, Int32.le_iff_toInt_le, ← Int32.toInt_inj, Int32.toInt_toInt64, tiA, tlA]); omega)), ?_⟩
        refine ⟨_, s_X8_of ((xs (x3 + 1).toNatClampNeg)) ((xs (x3 + 2).toNatClampNeg)) ((xs (x3 + 3).toNatClampNeg)) hI.1, ?_⟩
        intro v904 lg900 it901 hq905
        have hI902 : IL lg900 it901 := il_8 hI hq905.1 hq905.2 (fun j hj => by first | omega | exact False.elim hj | (dsimp only at hj; omega))
        have hT903 : RC lg900 it901 := rc_8 hT hq905.2 (fun j hj => by first | omega | exact False.elim hj | (dsimp only at hj; omega))
        try have f906 : ((x3 + 1) : Int32).toInt = (x3).toInt + 1 := ad32 (a := (x3).toInt) (b := 1) (rfl) (ti_1) (by omega) (by omega)
        refine ⟨vp_of (by first | omega | ((try simp only [Int32.lt_iff_toInt_lt, Int32.le_iff_toInt_le, ← Int32.toInt_inj, Int32.toInt_toInt64, tiA, tlA]); omega)) (by first | omega | ((try simp only [Int32.lt_iff_toInt_lt, Int32.le_iff_toInt_le, ← Int32.toInt_inj, Int32.toInt_toInt64, tiA, tlA]); omega)), ?_⟩
        try have f908 : ((x3 + 2) : Int32).toInt = (x3).toInt + 2 := ad32 (a := (x3).toInt) (b := 2) (rfl) (ti_2) (by omega) (by omega)
        refine ⟨vp_of (by first | omega | ((try simp only [Int32.lt_iff_toInt_lt, Int32.le_iff_toInt_le, ← Int32.toInt_inj, Int32.toInt_toInt64, tiA, tlA]); omega)) (by first | omega | ((try simp only [Int32.lt_iff_toInt_lt, Int32.le_iff_toInt_le, ← Int32.toInt_inj, Int32.toInt_toInt64, tiA, tlA]); omega)), ?_⟩
        try have f910 : ((x3 + 3) : Int32).toInt = (x3).toInt + 3 := ad32 (a := (x3).toInt) (b := 3) (rfl) (ti_3) (by omega) (by omega)
        refine ⟨vp_of (by first | omega | ((try simp only [Int32.lt_iff_toInt_lt, Int32.le_iff_toInt_le, ← Int32.toInt_inj, Int32.toInt_toInt64, tiA, tlA]); omega)) (by first | omega | ((try simp only [Int32.lt_iff_toInt_lt, Int32.le_iff_toInt_le, ← Int32.toInt_inj, Int32.toInt_toInt64, tiA, tlA]); omega)), ?_⟩
        refine ⟨_, s_X9_of ((xs (x3 + 1).toNatClampNeg)) ((xs (x3 + 2).toNatClampNeg)) ((xs (x3 + 3).toNatClampNeg)) hI902.2, ?_⟩
        intro v916 lg912 it913 hq917
        have hI914 : IL lg912 it913 := il_9 hI902 hq917.1 hq917.2 (fun j hj => by first | omega | exact False.elim hj | (dsimp only at hj; omega))
        have hT915 : RC lg912 it913 := rc_9 hT903 hq917.2 (fun j hj => by first | omega | exact False.elim hj | (dsimp only at hj; omega))
        have f918 : (x3 + Int32.ofInt 6).toInt = x3.toInt + 6 := ad32 rfl (by decide) (by omega) (by omega)
        exact ih18 ((x3 + Int32.ofInt 6)) _ _ hI914 hT915 (by omega) (by omega)
      · skip
        try have f919 : ((x3 + 1) : Int32).toInt = (x3).toInt + 1 := ad32 (a := (x3).toInt) (b := 1) (rfl) (ti_1) (by omega) (by omega)
        refine ⟨vp_of (by first | omega | ((try simp only [Int32.lt_iff_toInt_lt, Int32.le_iff_toInt_le, ← Int32.toInt_inj, Int32.toInt_toInt64, tiA, tlA]); omega)) (by first | omega | ((try simp only [Int32.lt_iff_toInt_lt, Int32.le_iff_toInt_le, ← Int32.toInt_inj, Int32.toInt_toInt64, tiA, tlA]); omega)), ?_⟩
        refine ⟨_, s_X8_told ((xs (x3 + 1).toNatClampNeg)) hI.1, ?_⟩
        intro v925 lg921 it922 hq926
        have hI923 : IL lg921 it922 := il_8 hI hq926.1 hq926.2 (fun j hj => by first | omega | exact False.elim hj | (dsimp only at hj; omega))
        have hT924 : RC lg921 it922 := rc_8 hT hq926.2 (fun j hj => by first | omega | exact False.elim hj | (dsimp only at hj; omega))
        try have f927 : ((x3 + 1) : Int32).toInt = (x3).toInt + 1 := ad32 (a := (x3).toInt) (b := 1) (rfl) (ti_1) (by omega) (by omega)
        refine ⟨vp_of (by first | omega | ((try simp only [Int32.lt_iff_toInt_lt, Int32.le_iff_toInt_le, ← Int32.toInt_inj, Int32.toInt_toInt64, tiA, tlA]); omega)) (by first | omega | ((try simp only [Int32.lt_iff_toInt_lt, Int32.le_iff_toInt_le, ← Int32.toInt_inj, Int32.toInt_toInt64, tiA, tlA]); omega)), ?_⟩
        refine ⟨_, s_X9_told ((xs (x3 + 1).toNatClampNeg)) hI923.2, ?_⟩
        intro v933 lg929 it930 hq934
        have hI931 : IL lg929 it930 := il_9 hI923 hq934.1 hq934.2 (fun j hj => by first | omega | exact False.elim hj | (dsimp only at hj; omega))
        have hT932 : RC lg929 it930 := rc_9 hT924 hq934.2 (fun j hj => by first | omega | exact False.elim hj | (dsimp only at hj; omega))
        have f935 : (x3 + Int32.ofInt 6).toInt = x3.toInt + 6 := ad32 rfl (by decide) (by omega) (by omega)
        exact ih18 ((x3 + Int32.ofInt 6)) _ _ hI931 hT932 (by omega) (by omega)
      · skip
        try have f936 : ((x3 + 1) : Int32).toInt = (x3).toInt + 1 := ad32 (a := (x3).toInt) (b := 1) (rfl) (ti_1) (by omega) (by omega)
        refine ⟨vp_of (by first | omega | ((try simp only [Int32.lt_iff_toInt_lt, Int32.le_iff_toInt_le, ← Int32.toInt_inj, Int32.toInt_toInt64, tiA, tlA]); omega)) (by first | omega | ((try simp only [Int32.lt_iff_toInt_lt, Int32.le_iff_toInt_le, ← Int32.toInt_inj, Int32.toInt_toInt64, tiA, tlA]); omega)), ?_⟩
        try have f938 : ((x3 + 2) : Int32).toInt = (x3).toInt + 2 := ad32 (a := (x3).toInt) (b := 2) (rfl) (ti_2) (by omega) (by omega)
        refine ⟨vp_of (by first | omega | ((try simp only [Int32.lt_iff_toInt_lt, Int32.le_iff_toInt_le, ← Int32.toInt_inj, Int32.toInt_toInt64, tiA, tlA]); omega)) (by first | omega | ((try simp only [Int32.lt_iff_toInt_lt, Int32.le_iff_toInt_le, ← Int32.toInt_inj, Int32.toInt_toInt64, tiA, tlA]); omega)), ?_⟩
        refine ⟨_, s_X8_push ((xs (x3 + 1).toNatClampNeg)) ((xs (x3 + 2).toNatClampNeg)) hI.1, ?_⟩
        intro v944 lg940 it941 hq945
        have hI942 : IL lg940 it941 := il_8 hI hq945.1 hq945.2 (fun j hj => by first | omega | exact False.elim hj | (dsimp only at hj; omega))
        have hT943 : RC lg940 it941 := rc_8 hT hq945.2 (fun j hj => by first | omega | exact False.elim hj | (dsimp only at hj; omega))
        try have f946 : ((x3 + 1) : Int32).toInt = (x3).toInt + 1 := ad32 (a := (x3).toInt) (b := 1) (rfl) (ti_1) (by omega) (by omega)
        refine ⟨vp_of (by first | omega | ((try simp only [Int32.lt_iff_toInt_lt, Int32.le_iff_toInt_le, ← Int32.toInt_inj, Int32.toInt_toInt64, tiA, tlA]); omega)) (by first | omega | ((try simp only [Int32.lt_iff_toInt_lt, Int32.le_iff_toInt_le, ← Int32.toInt_inj, Int32.toInt_toInt64, tiA, tlA]); omega)), ?_⟩
        try have f948 : ((x3 + 2) : Int32).toInt = (x3).toInt + 2 := ad32 (a := (x3).toInt) (b := 2) (rfl) (ti_2) (by omega) (by omega)
        refine ⟨vp_of (by first | omega | ((try simp only [Int32.lt_iff_toInt_lt, Int32.le_iff_toInt_le, ← Int32.toInt_inj, Int32.toInt_toInt64, tiA, tlA]); omega)) (by first | omega | ((try simp only [Int32.lt_iff_toInt_lt, Int32.le_iff_toInt_le, ← Int32.toInt_inj, Int32.toInt_toInt64, tiA, tlA]); omega)), ?_⟩
        refine ⟨_, s_X9_push ((xs (x3 + 1).toNatClampNeg)) ((xs (x3 + 2).toNatClampNeg)) hI942.2, ?_⟩
        intro v954 lg950 it951 hq955
        have hI952 : IL lg950 it951 := il_9 hI942 hq955.1 hq955.2 (fun j hj => by first | omega | exact False.elim hj | (dsimp only at hj; omega))
        have hT953 : RC lg950 it951 := rc_9 hT943 hq955.2 (fun j hj => by first | omega | exact False.elim hj | (dsimp only at hj; omega))
        have f956 : (x3 + Int32.ofInt 6).toInt = x3.toInt + 6 := ad32 rfl (by decide) (by omega) (by omega)
        exact ih18 ((x3 + Int32.ofInt 6)) _ _ hI952 hT953 (by omega) (by omega)
      · skip
        try have f957 : ((x3 + 1) : Int32).toInt = (x3).toInt + 1 := ad32 (a := (x3).toInt) (b := 1) (rfl) (ti_1) (by omega) (by omega)
        refine ⟨vp_of (by first | omega | ((try simp only [Int32.lt_iff_toInt_lt, Int32.le_iff_toInt_le, ← Int32.toInt_inj, Int32.toInt_toInt64, tiA, tlA]); omega)) (by first | omega | ((try simp only [Int32.lt_iff_toInt_lt, Int32.le_iff_toInt_le, ← Int32.toInt_inj, Int32.toInt_toInt64, tiA, tlA]); omega)), ?_⟩
        refine ⟨_, s_X8_where ((xs (x3 + 1).toNatClampNeg)) hI.1, ?_⟩
        intro v963 lg959 it960 hq964
        have hI961 : IL lg959 it960 := il_8 hI hq964.1 hq964.2 (fun j hj => by first | omega | exact False.elim hj | (dsimp only at hj; omega))
        have hT962 : RC lg959 it960 := rc_8 hT hq964.2 (fun j hj => by first | omega | exact False.elim hj | (dsimp only at hj; omega))
        try have f965 : ((x3 + 1) : Int32).toInt = (x3).toInt + 1 := ad32 (a := (x3).toInt) (b := 1) (rfl) (ti_1) (by omega) (by omega)
        refine ⟨vp_of (by first | omega | ((try simp only [Int32.lt_iff_toInt_lt, Int32.le_iff_toInt_le, ← Int32.toInt_inj, Int32.toInt_toInt64, tiA, tlA]); omega)) (by first | omega | ((try simp only [Int32.lt_iff_toInt_lt, Int32.le_iff_toInt_le, ← Int32.toInt_inj, Int32.toInt_toInt64, tiA, tlA]); omega)), ?_⟩
        refine ⟨_, s_X9_where ((xs (x3 + 1).toNatClampNeg)) hI961.2, ?_⟩
        intro v971 lg967 it968 hq972
        have hI969 : IL lg967 it968 := il_9 hI961 hq972.1 hq972.2 (fun j hj => by first | omega | exact False.elim hj | (dsimp only at hj; omega))
        have hT970 : RC lg967 it968 := rc_9 hT962 hq972.2 (fun j hj => by first | omega | exact False.elim hj | (dsimp only at hj; omega))
        have f973 : (x3 + Int32.ofInt 6).toInt = x3.toInt + 6 := ad32 rfl (by decide) (by omega) (by omega)
        exact ih18 ((x3 + Int32.ofInt 6)) _ _ hI969 hT970 (by omega) (by omega)
      · skip
        try have f974 : ((x3 + 1) : Int32).toInt = (x3).toInt + 1 := ad32 (a := (x3).toInt) (b := 1) (rfl) (ti_1) (by omega) (by omega)
        refine ⟨vp_of (by first | omega | ((try simp only [Int32.lt_iff_toInt_lt, Int32.le_iff_toInt_le, ← Int32.toInt_inj, Int32.toInt_toInt64, tiA, tlA]); omega)) (by first | omega | ((try simp only [Int32.lt_iff_toInt_lt, Int32.le_iff_toInt_le, ← Int32.toInt_inj, Int32.toInt_toInt64, tiA, tlA]); omega)), ?_⟩
        try have f976 : ((x3 + 2) : Int32).toInt = (x3).toInt + 2 := ad32 (a := (x3).toInt) (b := 2) (rfl) (ti_2) (by omega) (by omega)
        refine ⟨vp_of (by first | omega | ((try simp only [Int32.lt_iff_toInt_lt, Int32.le_iff_toInt_le, ← Int32.toInt_inj, Int32.toInt_toInt64, tiA, tlA]); omega)) (by first | omega | ((try simp only [Int32.lt_iff_toInt_lt, Int32.le_iff_toInt_le, ← Int32.toInt_inj, Int32.toInt_toInt64, tiA, tlA]); omega)), ?_⟩
        refine ⟨_, s_X8_time ((xs (x3 + 1).toNatClampNeg)) ((xs (x3 + 2).toNatClampNeg)) hI.1, ?_⟩
        intro v982 lg978 it979 hq983
        have hI980 : IL lg978 it979 := il_8 hI hq983.1 hq983.2 (fun j hj => by first | omega | exact False.elim hj | (dsimp only at hj; omega))
        have hT981 : RC lg978 it979 := rc_8 hT hq983.2 (fun j hj => by first | omega | exact False.elim hj | (dsimp only at hj; omega))
        try have f984 : ((x3 + 1) : Int32).toInt = (x3).toInt + 1 := ad32 (a := (x3).toInt) (b := 1) (rfl) (ti_1) (by omega) (by omega)
        refine ⟨vp_of (by first | omega | ((try simp only [Int32.lt_iff_toInt_lt, Int32.le_iff_toInt_le, ← Int32.toInt_inj, Int32.toInt_toInt64, tiA, tlA]); omega)) (by first | omega | ((try simp only [Int32.lt_iff_toInt_lt, Int32.le_iff_toInt_le, ← Int32.toInt_inj, Int32.toInt_toInt64, tiA, tlA]); omega)), ?_⟩
        try have f986 : ((x3 + 2) : Int32).toInt = (x3).toInt + 2 := ad32 (a := (x3).toInt) (b := 2) (rfl) (ti_2) (by omega) (by omega)
        refine ⟨vp_of (by first | omega | ((try simp only [Int32.lt_iff_toInt_lt, Int32.le_iff_toInt_le, ← Int32.toInt_inj, Int32.toInt_toInt64, tiA, tlA]); omega)) (by first | omega | ((try simp only [Int32.lt_iff_toInt_lt, Int32.le_iff_toInt_le, ← Int32.toInt_inj, Int32.toInt_toInt64, tiA, tlA]); omega)), ?_⟩
        refine ⟨_, s_X9_time ((xs (x3 + 1).toNatClampNeg)) ((xs (x3 + 2).toNatClampNeg)) hI980.2, ?_⟩
        intro v992 lg988 it989 hq993
        have hI990 : IL lg988 it989 := il_9 hI980 hq993.1 hq993.2 (fun j hj => by first | omega | exact False.elim hj | (dsimp only at hj; omega))
        have hT991 : RC lg988 it989 := rc_9 hT981 hq993.2 (fun j hj => by first | omega | exact False.elim hj | (dsimp only at hj; omega))
        have f994 : (x3 + Int32.ofInt 6).toInt = x3.toInt + 6 := ad32 rfl (by decide) (by omega) (by omega)
        exact ih18 ((x3 + Int32.ofInt 6)) _ _ hI990 hT991 (by omega) (by omega)
      · skip
        try have f995 : ((x3 + 1) : Int32).toInt = (x3).toInt + 1 := ad32 (a := (x3).toInt) (b := 1) (rfl) (ti_1) (by omega) (by omega)
        refine ⟨vp_of (by first | omega | ((try simp only [Int32.lt_iff_toInt_lt, Int32.le_iff_toInt_le, ← Int32.toInt_inj, Int32.toInt_toInt64, tiA, tlA]); omega)) (by first | omega | ((try simp only [Int32.lt_iff_toInt_lt, Int32.le_iff_toInt_le, ← Int32.toInt_inj, Int32.toInt_toInt64, tiA, tlA]); omega)), ?_⟩
        try have f997 : ((x3 + 2) : Int32).toInt = (x3).toInt + 2 := ad32 (a := (x3).toInt) (b := 2) (rfl) (ti_2) (by omega) (by omega)
        refine ⟨vp_of (by first | omega | ((try simp only [Int32.lt_iff_toInt_lt, Int32.le_iff_toInt_le, ← Int32.toInt_inj, Int32.toInt_toInt64, tiA, tlA]); omega)) (by first | omega | ((try simp only [Int32.lt_iff_toInt_lt, Int32.le_iff_toInt_le, ← Int32.toInt_inj, Int32.toInt_toInt64, tiA, tlA]); omega)), ?_⟩
        try have f999 : ((x3 + 3) : Int32).toInt = (x3).toInt + 3 := ad32 (a := (x3).toInt) (b := 3) (rfl) (ti_3) (by omega) (by omega)
        refine ⟨vp_of (by first | omega | ((try simp only [Int32.lt_iff_toInt_lt, Int32.le_iff_toInt_le, ← Int32.toInt_inj, Int32.toInt_toInt64, tiA, tlA]); omega)) (by first | omega | ((try simp only [Int32.lt_iff_toInt_lt, Int32.le_iff_toInt_le, ← Int32.toInt_inj, Int32.toInt_toInt64, tiA, tlA]); omega)), ?_⟩
        try have f1001 : ((x3 + 4) : Int32).toInt = (x3).toInt + 4 := ad32 (a := (x3).toInt) (b := 4) (rfl) (ti_4) (by omega) (by omega)
        refine ⟨vp_of (by first | omega | ((try simp only [Int32.lt_iff_toInt_lt, Int32.le_iff_toInt_le, ← Int32.toInt_inj, Int32.toInt_toInt64, tiA, tlA]); omega)) (by first | omega | ((try simp only [Int32.lt_iff_toInt_lt, Int32.le_iff_toInt_le, ← Int32.toInt_inj, Int32.toInt_toInt64, tiA, tlA]); omega)), ?_⟩
        refine ⟨_, s_X8_behind ((xs (x3 + 1).toNatClampNeg)) ((xs (x3 + 2).toNatClampNeg)) ((xs (x3 + 3).toNatClampNeg)) ((xs (x3 + 4).toNatClampNeg)) hI.1, ?_⟩
        intro v1007 lg1003 it1004 hq1008
        have hI1005 : IL lg1003 it1004 := il_8 hI hq1008.1 hq1008.2 (fun j hj => by first | omega | exact False.elim hj | (dsimp only at hj; omega))
        have hT1006 : RC lg1003 it1004 := rc_8 hT hq1008.2 (fun j hj => by first | omega | exact False.elim hj | (dsimp only at hj; omega))
        try have f1009 : ((x3 + 1) : Int32).toInt = (x3).toInt + 1 := ad32 (a := (x3).toInt) (b := 1) (rfl) (ti_1) (by omega) (by omega)
        refine ⟨vp_of (by first | omega | ((try simp only [Int32.lt_iff_toInt_lt, Int32.le_iff_toInt_le, ← Int32.toInt_inj, Int32.toInt_toInt64, tiA, tlA]); omega)) (by first | omega | ((try simp only [Int32.lt_iff_toInt_lt, Int32.le_iff_toInt_le, ← Int32.toInt_inj, Int32.toInt_toInt64, tiA, tlA]); omega)), ?_⟩
        try have f1011 : ((x3 + 2) : Int32).toInt = (x3).toInt + 2 := ad32 (a := (x3).toInt) (b := 2) (rfl) (ti_2) (by omega) (by omega)
        refine ⟨vp_of (by first | omega | ((try simp only [Int32.lt_iff_toInt_lt, Int32.le_iff_toInt_le, ← Int32.toInt_inj, Int32.toInt_toInt64, tiA, tlA]); omega)) (by first | omega | ((try simp only [Int32.lt_iff_toInt_lt, Int32.le_iff_toInt_le, ← Int32.toInt_inj, Int32.toInt_toInt64, tiA, tlA]); omega)), ?_⟩
        try have f1013 : ((x3 + 3) : Int32).toInt = (x3).toInt + 3 := ad32 (a := (x3).toInt) (b := 3) (rfl) (ti_3) (by omega) (by omega)
        refine ⟨vp_of (by first | omega | ((try simp only [Int32.lt_iff_toInt_lt, Int32.le_iff_toInt_le, ← Int32.toInt_inj, Int32.toInt_toInt64, tiA, tlA]); omega)) (by first | omega | ((try simp only [Int32.lt_iff_toInt_lt, Int32.le_iff_toInt_le, ← Int32.toInt_inj, Int32.toInt_toInt64, tiA, tlA]); omega)), ?_⟩
        try have f1015 : ((x3 + 4) : Int32).toInt = (x3).toInt + 4 := ad32 (a := (x3).toInt) (b := 4) (rfl) (ti_4) (by omega) (by omega)
        refine ⟨vp_of (by first | omega | ((try simp only [Int32.lt_iff_toInt_lt, Int32.le_iff_toInt_le, ← Int32.toInt_inj, Int32.toInt_toInt64, tiA, tlA]); omega)) (by first | omega | ((try simp only [Int32.lt_iff_toInt_lt, Int32.le_iff_toInt_le, ← Int32.toInt_inj, Int32.toInt_toInt64, tiA, tlA]); omega)), ?_⟩
        refine ⟨_, s_X9_behind ((xs (x3 + 1).toNatClampNeg)) ((xs (x3 + 2).toNatClampNeg)) ((xs (x3 + 3).toNatClampNeg)) ((xs (x3 + 4).toNatClampNeg)) hI1005.2, ?_⟩
        intro v1021 lg1017 it1018 hq1022
        have hI1019 : IL lg1017 it1018 := il_9 hI1005 hq1022.1 hq1022.2 (fun j hj => by first | omega | exact False.elim hj | (dsimp only at hj; omega))
        have hT1020 : RC lg1017 it1018 := rc_9 hT1006 hq1022.2 (fun j hj => by first | omega | exact False.elim hj | (dsimp only at hj; omega))
        have f1023 : (x3 + Int32.ofInt 6).toInt = x3.toInt + 6 := ad32 rfl (by decide) (by omega) (by omega)
        exact ih18 ((x3 + Int32.ofInt 6)) _ _ hI1019 hT1020 (by omega) (by omega)
      · skip
        try have f1024 : ((x3 + 1) : Int32).toInt = (x3).toInt + 1 := ad32 (a := (x3).toInt) (b := 1) (rfl) (ti_1) (by omega) (by omega)
        refine ⟨vp_of (by first | omega | ((try simp only [Int32.lt_iff_toInt_lt, Int32.le_iff_toInt_le, ← Int32.toInt_inj, Int32.toInt_toInt64, tiA, tlA]); omega)) (by first | omega | ((try simp only [Int32.lt_iff_toInt_lt, Int32.le_iff_toInt_le, ← Int32.toInt_inj, Int32.toInt_toInt64, tiA, tlA]); omega)), ?_⟩
        try have f1026 : ((x3 + 2) : Int32).toInt = (x3).toInt + 2 := ad32 (a := (x3).toInt) (b := 2) (rfl) (ti_2) (by omega) (by omega)
        refine ⟨vp_of (by first | omega | ((try simp only [Int32.lt_iff_toInt_lt, Int32.le_iff_toInt_le, ← Int32.toInt_inj, Int32.toInt_toInt64, tiA, tlA]); omega)) (by first | omega | ((try simp only [Int32.lt_iff_toInt_lt, Int32.le_iff_toInt_le, ← Int32.toInt_inj, Int32.toInt_toInt64, tiA, tlA]); omega)), ?_⟩
        refine ⟨_, s_X8_then ((xs (x3 + 1).toNatClampNeg)) ((xs (x3 + 2).toNatClampNeg)) hI.1, ?_⟩
        intro v1032 lg1028 it1029 hq1033
        have hI1030 : IL lg1028 it1029 := il_8 hI hq1033.1 hq1033.2 (fun j hj => by first | omega | exact False.elim hj | (dsimp only at hj; omega))
        have hT1031 : RC lg1028 it1029 := rc_8 hT hq1033.2 (fun j hj => by first | omega | exact False.elim hj | (dsimp only at hj; omega))
        try have f1034 : ((x3 + 1) : Int32).toInt = (x3).toInt + 1 := ad32 (a := (x3).toInt) (b := 1) (rfl) (ti_1) (by omega) (by omega)
        refine ⟨vp_of (by first | omega | ((try simp only [Int32.lt_iff_toInt_lt, Int32.le_iff_toInt_le, ← Int32.toInt_inj, Int32.toInt_toInt64, tiA, tlA]); omega)) (by first | omega | ((try simp only [Int32.lt_iff_toInt_lt, Int32.le_iff_toInt_le, ← Int32.toInt_inj, Int32.toInt_toInt64, tiA, tlA]); omega)), ?_⟩
        try have f1036 : ((x3 + 2) : Int32).toInt = (x3).toInt + 2 := ad32 (a := (x3).toInt) (b := 2) (rfl) (ti_2) (by omega) (by omega)
        refine ⟨vp_of (by first | omega | ((try simp only [Int32.lt_iff_toInt_lt, Int32.le_iff_toInt_le, ← Int32.toInt_inj, Int32.toInt_toInt64, tiA, tlA]); omega)) (by first | omega | ((try simp only [Int32.lt_iff_toInt_lt, Int32.le_iff_toInt_le, ← Int32.toInt_inj, Int32.toInt_toInt64, tiA, tlA]); omega)), ?_⟩
        refine ⟨_, s_X9_then ((xs (x3 + 1).toNatClampNeg)) ((xs (x3 + 2).toNatClampNeg)) hI1030.2, ?_⟩
        intro v1042 lg1038 it1039 hq1043
        have hI1040 : IL lg1038 it1039 := il_9 hI1030 hq1043.1 hq1043.2 (fun j hj => by first | omega | exact False.elim hj | (dsimp only at hj; omega))
        have hT1041 : RC lg1038 it1039 := rc_9 hT1031 hq1043.2 (fun j hj => by first | omega | exact False.elim hj | (dsimp only at hj; omega))
        have f1044 : (x3 + Int32.ofInt 6).toInt = x3.toInt + 6 := ad32 rfl (by decide) (by omega) (by omega)
        exact ih18 ((x3 + Int32.ofInt 6)) _ _ hI1040 hT1041 (by omega) (by omega)
      · skip
        try have f1045 : ((x3 + 1) : Int32).toInt = (x3).toInt + 1 := ad32 (a := (x3).toInt) (b := 1) (rfl) (ti_1) (by omega) (by omega)
        refine ⟨vp_of (by first | omega | ((try simp only [Int32.lt_iff_toInt_lt, Int32.le_iff_toInt_le, ← Int32.toInt_inj, Int32.toInt_toInt64, tiA, tlA]); omega)) (by first | omega | ((try simp only [Int32.lt_iff_toInt_lt, Int32.le_iff_toInt_le, ← Int32.toInt_inj, Int32.toInt_toInt64, tiA, tlA]); omega)), ?_⟩
        refine ⟨_, s_X8_often ((xs (x3 + 1).toNatClampNeg)) hI.1, ?_⟩
        intro v1051 lg1047 it1048 hq1052
        have hI1049 : IL lg1047 it1048 := il_8 hI hq1052.1 hq1052.2 (fun j hj => by first | omega | exact False.elim hj | (dsimp only at hj; omega))
        have hT1050 : RC lg1047 it1048 := rc_8 hT hq1052.2 (fun j hj => by first | omega | exact False.elim hj | (dsimp only at hj; omega))
        try have f1053 : ((x3 + 1) : Int32).toInt = (x3).toInt + 1 := ad32 (a := (x3).toInt) (b := 1) (rfl) (ti_1) (by omega) (by omega)
        refine ⟨vp_of (by first | omega | ((try simp only [Int32.lt_iff_toInt_lt, Int32.le_iff_toInt_le, ← Int32.toInt_inj, Int32.toInt_toInt64, tiA, tlA]); omega)) (by first | omega | ((try simp only [Int32.lt_iff_toInt_lt, Int32.le_iff_toInt_le, ← Int32.toInt_inj, Int32.toInt_toInt64, tiA, tlA]); omega)), ?_⟩
        refine ⟨_, s_X9_often ((xs (x3 + 1).toNatClampNeg)) hI1049.2, ?_⟩
        intro v1059 lg1055 it1056 hq1060
        have hI1057 : IL lg1055 it1056 := il_9 hI1049 hq1060.1 hq1060.2 (fun j hj => by first | omega | exact False.elim hj | (dsimp only at hj; omega))
        have hT1058 : RC lg1055 it1056 := rc_9 hT1050 hq1060.2 (fun j hj => by first | omega | exact False.elim hj | (dsimp only at hj; omega))
        have f1061 : (x3 + Int32.ofInt 6).toInt = x3.toInt + 6 := ad32 rfl (by decide) (by omega) (by omega)
        exact ih18 ((x3 + Int32.ofInt 6)) _ _ hI1057 hT1058 (by omega) (by omega)
      · skip
        try have f1062 : ((x3 + 1) : Int32).toInt = (x3).toInt + 1 := ad32 (a := (x3).toInt) (b := 1) (rfl) (ti_1) (by omega) (by omega)
        refine ⟨vp_of (by first | omega | ((try simp only [Int32.lt_iff_toInt_lt, Int32.le_iff_toInt_le, ← Int32.toInt_inj, Int32.toInt_toInt64, tiA, tlA]); omega)) (by first | omega | ((try simp only [Int32.lt_iff_toInt_lt, Int32.le_iff_toInt_le, ← Int32.toInt_inj, Int32.toInt_toInt64, tiA, tlA]); omega)), ?_⟩
        try have f1064 : ((x3 + 2) : Int32).toInt = (x3).toInt + 2 := ad32 (a := (x3).toInt) (b := 2) (rfl) (ti_2) (by omega) (by omega)
        refine ⟨vp_of (by first | omega | ((try simp only [Int32.lt_iff_toInt_lt, Int32.le_iff_toInt_le, ← Int32.toInt_inj, Int32.toInt_toInt64, tiA, tlA]); omega)) (by first | omega | ((try simp only [Int32.lt_iff_toInt_lt, Int32.le_iff_toInt_le, ← Int32.toInt_inj, Int32.toInt_toInt64, tiA, tlA]); omega)), ?_⟩
        try have f1066 : ((x3 + 3) : Int32).toInt = (x3).toInt + 3 := ad32 (a := (x3).toInt) (b := 3) (rfl) (ti_3) (by omega) (by omega)
        refine ⟨vp_of (by first | omega | ((try simp only [Int32.lt_iff_toInt_lt, Int32.le_iff_toInt_le, ← Int32.toInt_inj, Int32.toInt_toInt64, tiA, tlA]); omega)) (by first | omega | ((try simp only [Int32.lt_iff_toInt_lt, Int32.le_iff_toInt_le, ← Int32.toInt_inj, Int32.toInt_toInt64, tiA, tlA]); omega)), ?_⟩
        refine ⟨_, s_X8_at ((xs (x3 + 1).toNatClampNeg)) ((xs (x3 + 2).toNatClampNeg)) ((xs (x3 + 3).toNatClampNeg)) hI.1, ?_⟩
        intro v1072 lg1068 it1069 hq1073
        have hI1070 : IL lg1068 it1069 := il_8 hI hq1073.1 hq1073.2 (fun j hj => by first | omega | exact False.elim hj | (dsimp only at hj; omega))
        have hT1071 : RC lg1068 it1069 := rc_8 hT hq1073.2 (fun j hj => by first | omega | exact False.elim hj | (dsimp only at hj; omega))
        try have f1074 : ((x3 + 1) : Int32).toInt = (x3).toInt + 1 := ad32 (a := (x3).toInt) (b := 1) (rfl) (ti_1) (by omega) (by omega)
        refine ⟨vp_of (by first | omega | ((try simp only [Int32.lt_iff_toInt_lt, Int32.le_iff_toInt_le, ← Int32.toInt_inj, Int32.toInt_toInt64, tiA, tlA]); omega)) (by first | omega | ((try simp only [Int32.lt_iff_toInt_lt, Int32.le_iff_toInt_le, ← Int32.toInt_inj, Int32.toInt_toInt64, tiA, tlA]); omega)), ?_⟩
        try have f1076 : ((x3 + 2) : Int32).toInt = (x3).toInt + 2 := ad32 (a := (x3).toInt) (b := 2) (rfl) (ti_2) (by omega) (by omega)
        refine ⟨vp_of (by first | omega | ((try simp only [Int32.lt_iff_toInt_lt, Int32.le_iff_toInt_le, ← Int32.toInt_inj, Int32.toInt_toInt64, tiA, tlA]); omega)) (by first | omega | ((try simp only [Int32.lt_iff_toInt_lt, Int32.le_iff_toInt_le, ← Int32.toInt_inj, Int32.toInt_toInt64, tiA, tlA]); omega)), ?_⟩
        try have f1078 : ((x3 + 3) : Int32).toInt = (x3).toInt + 3 := ad32 (a := (x3).toInt) (b := 3) (rfl) (ti_3) (by omega) (by omega)
        refine ⟨vp_of (by first | omega | ((try simp only [Int32.lt_iff_toInt_lt, Int32.le_iff_toInt_le, ← Int32.toInt_inj, Int32.toInt_toInt64, tiA, tlA]); omega)) (by first | omega | ((try simp only [Int32.lt_iff_toInt_lt, Int32.le_iff_toInt_le, ← Int32.toInt_inj, Int32.toInt_toInt64, tiA, tlA]); omega)), ?_⟩
        refine ⟨_, s_X9_at ((xs (x3 + 1).toNatClampNeg)) ((xs (x3 + 2).toNatClampNeg)) ((xs (x3 + 3).toNatClampNeg)) hI1070.2, ?_⟩
        intro v1084 lg1080 it1081 hq1085
        have hI1082 : IL lg1080 it1081 := il_9 hI1070 hq1085.1 hq1085.2 (fun j hj => by first | omega | exact False.elim hj | (dsimp only at hj; omega))
        have hT1083 : RC lg1080 it1081 := rc_9 hT1071 hq1085.2 (fun j hj => by first | omega | exact False.elim hj | (dsimp only at hj; omega))
        have f1086 : (x3 + Int32.ofInt 6).toInt = x3.toInt + 6 := ad32 rfl (by decide) (by omega) (by omega)
        exact ih18 ((x3 + Int32.ofInt 6)) _ _ hI1082 hT1083 (by omega) (by omega)
      · skip
        try have f1087 : ((x3 + 1) : Int32).toInt = (x3).toInt + 1 := ad32 (a := (x3).toInt) (b := 1) (rfl) (ti_1) (by omega) (by omega)
        refine ⟨vp_of (by first | omega | ((try simp only [Int32.lt_iff_toInt_lt, Int32.le_iff_toInt_le, ← Int32.toInt_inj, Int32.toInt_toInt64, tiA, tlA]); omega)) (by first | omega | ((try simp only [Int32.lt_iff_toInt_lt, Int32.le_iff_toInt_le, ← Int32.toInt_inj, Int32.toInt_toInt64, tiA, tlA]); omega)), ?_⟩
        try have f1089 : ((x3 + 2) : Int32).toInt = (x3).toInt + 2 := ad32 (a := (x3).toInt) (b := 2) (rfl) (ti_2) (by omega) (by omega)
        refine ⟨vp_of (by first | omega | ((try simp only [Int32.lt_iff_toInt_lt, Int32.le_iff_toInt_le, ← Int32.toInt_inj, Int32.toInt_toInt64, tiA, tlA]); omega)) (by first | omega | ((try simp only [Int32.lt_iff_toInt_lt, Int32.le_iff_toInt_le, ← Int32.toInt_inj, Int32.toInt_toInt64, tiA, tlA]); omega)), ?_⟩
        refine ⟨_, s_X8_see ((xs (x3 + 1).toNatClampNeg)) ((xs (x3 + 2).toNatClampNeg)) hI.1, ?_⟩
        intro v1095 lg1091 it1092 hq1096
        have hI1093 : IL lg1091 it1092 := il_8 hI hq1096.1 hq1096.2 (fun j hj => by first | omega | exact False.elim hj | (dsimp only at hj; omega))
        have hT1094 : RC lg1091 it1092 := rc_8 hT hq1096.2 (fun j hj => by first | omega | exact False.elim hj | (dsimp only at hj; omega))
        try have f1097 : ((x3 + 1) : Int32).toInt = (x3).toInt + 1 := ad32 (a := (x3).toInt) (b := 1) (rfl) (ti_1) (by omega) (by omega)
        refine ⟨vp_of (by first | omega | ((try simp only [Int32.lt_iff_toInt_lt, Int32.le_iff_toInt_le, ← Int32.toInt_inj, Int32.toInt_toInt64, tiA, tlA]); omega)) (by first | omega | ((try simp only [Int32.lt_iff_toInt_lt, Int32.le_iff_toInt_le, ← Int32.toInt_inj, Int32.toInt_toInt64, tiA, tlA]); omega)), ?_⟩
        try have f1099 : ((x3 + 2) : Int32).toInt = (x3).toInt + 2 := ad32 (a := (x3).toInt) (b := 2) (rfl) (ti_2) (by omega) (by omega)
        refine ⟨vp_of (by first | omega | ((try simp only [Int32.lt_iff_toInt_lt, Int32.le_iff_toInt_le, ← Int32.toInt_inj, Int32.toInt_toInt64, tiA, tlA]); omega)) (by first | omega | ((try simp only [Int32.lt_iff_toInt_lt, Int32.le_iff_toInt_le, ← Int32.toInt_inj, Int32.toInt_toInt64, tiA, tlA]); omega)), ?_⟩
        refine ⟨_, s_X9_see ((xs (x3 + 1).toNatClampNeg)) ((xs (x3 + 2).toNatClampNeg)) hI1093.2, ?_⟩
        intro v1105 lg1101 it1102 hq1106
        have hI1103 : IL lg1101 it1102 := il_9 hI1093 hq1106.1 hq1106.2 (fun j hj => by first | omega | exact False.elim hj | (dsimp only at hj; omega))
        have hT1104 : RC lg1101 it1102 := rc_9 hT1094 hq1106.2 (fun j hj => by first | omega | exact False.elim hj | (dsimp only at hj; omega))
        have f1107 : (x3 + Int32.ofInt 6).toInt = x3.toInt + 6 := ad32 rfl (by decide) (by omega) (by omega)
        exact ih18 ((x3 + Int32.ofInt 6)) _ _ hI1103 hT1104 (by omega) (by omega)
      · skip
        try have f1108 : ((x3 + 1) : Int32).toInt = (x3).toInt + 1 := ad32 (a := (x3).toInt) (b := 1) (rfl) (ti_1) (by omega) (by omega)
        refine ⟨vp_of (by first | omega | ((try simp only [Int32.lt_iff_toInt_lt, Int32.le_iff_toInt_le, ← Int32.toInt_inj, Int32.toInt_toInt64, tiA, tlA]); omega)) (by first | omega | ((try simp only [Int32.lt_iff_toInt_lt, Int32.le_iff_toInt_le, ← Int32.toInt_inj, Int32.toInt_toInt64, tiA, tlA]); omega)), ?_⟩
        try have f1110 : ((x3 + 2) : Int32).toInt = (x3).toInt + 2 := ad32 (a := (x3).toInt) (b := 2) (rfl) (ti_2) (by omega) (by omega)
        refine ⟨vp_of (by first | omega | ((try simp only [Int32.lt_iff_toInt_lt, Int32.le_iff_toInt_le, ← Int32.toInt_inj, Int32.toInt_toInt64, tiA, tlA]); omega)) (by first | omega | ((try simp only [Int32.lt_iff_toInt_lt, Int32.le_iff_toInt_le, ← Int32.toInt_inj, Int32.toInt_toInt64, tiA, tlA]); omega)), ?_⟩
        refine ⟨_, s_X8_fits ((xs (x3 + 1).toNatClampNeg)) ((xs (x3 + 2).toNatClampNeg)) hI.1, ?_⟩
        intro v1116 lg1112 it1113 hq1117
        have hI1114 : IL lg1112 it1113 := il_8 hI hq1117.1 hq1117.2 (fun j hj => by first | omega | exact False.elim hj | (dsimp only at hj; omega))
        have hT1115 : RC lg1112 it1113 := rc_8 hT hq1117.2 (fun j hj => by first | omega | exact False.elim hj | (dsimp only at hj; omega))
        try have f1118 : ((x3 + 1) : Int32).toInt = (x3).toInt + 1 := ad32 (a := (x3).toInt) (b := 1) (rfl) (ti_1) (by omega) (by omega)
        refine ⟨vp_of (by first | omega | ((try simp only [Int32.lt_iff_toInt_lt, Int32.le_iff_toInt_le, ← Int32.toInt_inj, Int32.toInt_toInt64, tiA, tlA]); omega)) (by first | omega | ((try simp only [Int32.lt_iff_toInt_lt, Int32.le_iff_toInt_le, ← Int32.toInt_inj, Int32.toInt_toInt64, tiA, tlA]); omega)), ?_⟩
        try have f1120 : ((x3 + 2) : Int32).toInt = (x3).toInt + 2 := ad32 (a := (x3).toInt) (b := 2) (rfl) (ti_2) (by omega) (by omega)
        refine ⟨vp_of (by first | omega | ((try simp only [Int32.lt_iff_toInt_lt, Int32.le_iff_toInt_le, ← Int32.toInt_inj, Int32.toInt_toInt64, tiA, tlA]); omega)) (by first | omega | ((try simp only [Int32.lt_iff_toInt_lt, Int32.le_iff_toInt_le, ← Int32.toInt_inj, Int32.toInt_toInt64, tiA, tlA]); omega)), ?_⟩
        refine ⟨_, s_X9_fits ((xs (x3 + 1).toNatClampNeg)) ((xs (x3 + 2).toNatClampNeg)) hI1114.2, ?_⟩
        intro v1126 lg1122 it1123 hq1127
        have hI1124 : IL lg1122 it1123 := il_9 hI1114 hq1127.1 hq1127.2 (fun j hj => by first | omega | exact False.elim hj | (dsimp only at hj; omega))
        have hT1125 : RC lg1122 it1123 := rc_9 hT1115 hq1127.2 (fun j hj => by first | omega | exact False.elim hj | (dsimp only at hj; omega))
        have f1128 : (x3 + Int32.ofInt 6).toInt = x3.toInt + 6 := ad32 rfl (by decide) (by omega) (by omega)
        exact ih18 ((x3 + Int32.ofInt 6)) _ _ hI1124 hT1125 (by omega) (by omega)
      · skip
        try have f1129 : ((x3 + 1) : Int32).toInt = (x3).toInt + 1 := ad32 (a := (x3).toInt) (b := 1) (rfl) (ti_1) (by omega) (by omega)
        refine ⟨vp_of (by first | omega | ((try simp only [Int32.lt_iff_toInt_lt, Int32.le_iff_toInt_le, ← Int32.toInt_inj, Int32.toInt_toInt64, tiA, tlA]); omega)) (by first | omega | ((try simp only [Int32.lt_iff_toInt_lt, Int32.le_iff_toInt_le, ← Int32.toInt_inj, Int32.toInt_toInt64, tiA, tlA]); omega)), ?_⟩
        try have f1131 : ((x3 + 2) : Int32).toInt = (x3).toInt + 2 := ad32 (a := (x3).toInt) (b := 2) (rfl) (ti_2) (by omega) (by omega)
        refine ⟨vp_of (by first | omega | ((try simp only [Int32.lt_iff_toInt_lt, Int32.le_iff_toInt_le, ← Int32.toInt_inj, Int32.toInt_toInt64, tiA, tlA]); omega)) (by first | omega | ((try simp only [Int32.lt_iff_toInt_lt, Int32.le_iff_toInt_le, ← Int32.toInt_inj, Int32.toInt_toInt64, tiA, tlA]); omega)), ?_⟩
        refine ⟨_, s_X8_odds ((xs (x3 + 1).toNatClampNeg)) ((xs (x3 + 2).toNatClampNeg)) hI.1, ?_⟩
        intro v1137 lg1133 it1134 hq1138
        have hI1135 : IL lg1133 it1134 := il_8 hI hq1138.1 hq1138.2 (fun j hj => by first | omega | exact False.elim hj | (dsimp only at hj; omega))
        have hT1136 : RC lg1133 it1134 := rc_8 hT hq1138.2 (fun j hj => by first | omega | exact False.elim hj | (dsimp only at hj; omega))
        try have f1139 : ((x3 + 1) : Int32).toInt = (x3).toInt + 1 := ad32 (a := (x3).toInt) (b := 1) (rfl) (ti_1) (by omega) (by omega)
        refine ⟨vp_of (by first | omega | ((try simp only [Int32.lt_iff_toInt_lt, Int32.le_iff_toInt_le, ← Int32.toInt_inj, Int32.toInt_toInt64, tiA, tlA]); omega)) (by first | omega | ((try simp only [Int32.lt_iff_toInt_lt, Int32.le_iff_toInt_le, ← Int32.toInt_inj, Int32.toInt_toInt64, tiA, tlA]); omega)), ?_⟩
        try have f1141 : ((x3 + 2) : Int32).toInt = (x3).toInt + 2 := ad32 (a := (x3).toInt) (b := 2) (rfl) (ti_2) (by omega) (by omega)
        refine ⟨vp_of (by first | omega | ((try simp only [Int32.lt_iff_toInt_lt, Int32.le_iff_toInt_le, ← Int32.toInt_inj, Int32.toInt_toInt64, tiA, tlA]); omega)) (by first | omega | ((try simp only [Int32.lt_iff_toInt_lt, Int32.le_iff_toInt_le, ← Int32.toInt_inj, Int32.toInt_toInt64, tiA, tlA]); omega)), ?_⟩
        refine ⟨_, s_X9_odds ((xs (x3 + 1).toNatClampNeg)) ((xs (x3 + 2).toNatClampNeg)) hI1135.2, ?_⟩
        intro v1147 lg1143 it1144 hq1148
        have hI1145 : IL lg1143 it1144 := il_9 hI1135 hq1148.1 hq1148.2 (fun j hj => by first | omega | exact False.elim hj | (dsimp only at hj; omega))
        have hT1146 : RC lg1143 it1144 := rc_9 hT1136 hq1148.2 (fun j hj => by first | omega | exact False.elim hj | (dsimp only at hj; omega))
        have f1149 : (x3 + Int32.ofInt 6).toInt = x3.toInt + 6 := ad32 rfl (by decide) (by omega) (by omega)
        exact ih18 ((x3 + Int32.ofInt 6)) _ _ hI1145 hT1146 (by omega) (by omega)
      · skip
        try have f1150 : ((x3 + 1) : Int32).toInt = (x3).toInt + 1 := ad32 (a := (x3).toInt) (b := 1) (rfl) (ti_1) (by omega) (by omega)
        refine ⟨vp_of (by first | omega | ((try simp only [Int32.lt_iff_toInt_lt, Int32.le_iff_toInt_le, ← Int32.toInt_inj, Int32.toInt_toInt64, tiA, tlA]); omega)) (by first | omega | ((try simp only [Int32.lt_iff_toInt_lt, Int32.le_iff_toInt_le, ← Int32.toInt_inj, Int32.toInt_toInt64, tiA, tlA]); omega)), ?_⟩
        refine ⟨_, s_X8_mean ((xs (x3 + 1).toNatClampNeg)) hI.1, ?_⟩
        intro v1156 lg1152 it1153 hq1157
        have hI1154 : IL lg1152 it1153 := il_8 hI hq1157.1 hq1157.2 (fun j hj => by first | omega | exact False.elim hj | (dsimp only at hj; omega))
        have hT1155 : RC lg1152 it1153 := rc_8 hT hq1157.2 (fun j hj => by first | omega | exact False.elim hj | (dsimp only at hj; omega))
        try have f1158 : ((x3 + 1) : Int32).toInt = (x3).toInt + 1 := ad32 (a := (x3).toInt) (b := 1) (rfl) (ti_1) (by omega) (by omega)
        refine ⟨vp_of (by first | omega | ((try simp only [Int32.lt_iff_toInt_lt, Int32.le_iff_toInt_le, ← Int32.toInt_inj, Int32.toInt_toInt64, tiA, tlA]); omega)) (by first | omega | ((try simp only [Int32.lt_iff_toInt_lt, Int32.le_iff_toInt_le, ← Int32.toInt_inj, Int32.toInt_toInt64, tiA, tlA]); omega)), ?_⟩
        refine ⟨_, s_X9_mean ((xs (x3 + 1).toNatClampNeg)) hI1154.2, ?_⟩
        intro v1164 lg1160 it1161 hq1165
        have hI1162 : IL lg1160 it1161 := il_9 hI1154 hq1165.1 hq1165.2 (fun j hj => by first | omega | exact False.elim hj | (dsimp only at hj; omega))
        have hT1163 : RC lg1160 it1161 := rc_9 hT1155 hq1165.2 (fun j hj => by first | omega | exact False.elim hj | (dsimp only at hj; omega))
        have f1166 : (x3 + Int32.ofInt 6).toInt = x3.toInt + 6 := ad32 rfl (by decide) (by omega) (by omega)
        exact ih18 ((x3 + Int32.ofInt 6)) _ _ hI1162 hT1163 (by omega) (by omega)
      · skip
        try have f1167 : ((x3 + 1) : Int32).toInt = (x3).toInt + 1 := ad32 (a := (x3).toInt) (b := 1) (rfl) (ti_1) (by omega) (by omega)
        refine ⟨vp_of (by first | omega | ((try simp only [Int32.lt_iff_toInt_lt, Int32.le_iff_toInt_le, ← Int32.toInt_inj, Int32.toInt_toInt64, tiA, tlA]); omega)) (by first | omega | ((try simp only [Int32.lt_iff_toInt_lt, Int32.le_iff_toInt_le, ← Int32.toInt_inj, Int32.toInt_toInt64, tiA, tlA]); omega)), ?_⟩
        try have f1169 : ((x3 + 2) : Int32).toInt = (x3).toInt + 2 := ad32 (a := (x3).toInt) (b := 2) (rfl) (ti_2) (by omega) (by omega)
        refine ⟨vp_of (by first | omega | ((try simp only [Int32.lt_iff_toInt_lt, Int32.le_iff_toInt_le, ← Int32.toInt_inj, Int32.toInt_toInt64, tiA, tlA]); omega)) (by first | omega | ((try simp only [Int32.lt_iff_toInt_lt, Int32.le_iff_toInt_le, ← Int32.toInt_inj, Int32.toInt_toInt64, tiA, tlA]); omega)), ?_⟩
        refine ⟨_, s_X8_event ((xs (x3 + 1).toNatClampNeg)) ((xs (x3 + 2).toNatClampNeg)) hI.1, ?_⟩
        intro v1175 lg1171 it1172 hq1176
        have hI1173 : IL lg1171 it1172 := il_8 hI hq1176.1 hq1176.2 (fun j hj => by first | omega | exact False.elim hj | (dsimp only at hj; omega))
        have hT1174 : RC lg1171 it1172 := rc_8 hT hq1176.2 (fun j hj => by first | omega | exact False.elim hj | (dsimp only at hj; omega))
        try have f1177 : ((x3 + 1) : Int32).toInt = (x3).toInt + 1 := ad32 (a := (x3).toInt) (b := 1) (rfl) (ti_1) (by omega) (by omega)
        refine ⟨vp_of (by first | omega | ((try simp only [Int32.lt_iff_toInt_lt, Int32.le_iff_toInt_le, ← Int32.toInt_inj, Int32.toInt_toInt64, tiA, tlA]); omega)) (by first | omega | ((try simp only [Int32.lt_iff_toInt_lt, Int32.le_iff_toInt_le, ← Int32.toInt_inj, Int32.toInt_toInt64, tiA, tlA]); omega)), ?_⟩
        try have f1179 : ((x3 + 2) : Int32).toInt = (x3).toInt + 2 := ad32 (a := (x3).toInt) (b := 2) (rfl) (ti_2) (by omega) (by omega)
        refine ⟨vp_of (by first | omega | ((try simp only [Int32.lt_iff_toInt_lt, Int32.le_iff_toInt_le, ← Int32.toInt_inj, Int32.toInt_toInt64, tiA, tlA]); omega)) (by first | omega | ((try simp only [Int32.lt_iff_toInt_lt, Int32.le_iff_toInt_le, ← Int32.toInt_inj, Int32.toInt_toInt64, tiA, tlA]); omega)), ?_⟩
        refine ⟨_, s_X9_event ((xs (x3 + 1).toNatClampNeg)) ((xs (x3 + 2).toNatClampNeg)) hI1173.2, ?_⟩
        intro v1185 lg1181 it1182 hq1186
        have hI1183 : IL lg1181 it1182 := il_9 hI1173 hq1186.1 hq1186.2 (fun j hj => by first | omega | exact False.elim hj | (dsimp only at hj; omega))
        have hT1184 : RC lg1181 it1182 := rc_9 hT1174 hq1186.2 (fun j hj => by first | omega | exact False.elim hj | (dsimp only at hj; omega))
        have f1187 : (x3 + Int32.ofInt 6).toInt = x3.toInt + 6 := ad32 rfl (by decide) (by omega) (by omega)
        exact ih18 ((x3 + Int32.ofInt 6)) _ _ hI1183 hT1184 (by omega) (by omega)
      · skip
        try have f1188 : ((x3 + 1) : Int32).toInt = (x3).toInt + 1 := ad32 (a := (x3).toInt) (b := 1) (rfl) (ti_1) (by omega) (by omega)
        refine ⟨vp_of (by first | omega | ((try simp only [Int32.lt_iff_toInt_lt, Int32.le_iff_toInt_le, ← Int32.toInt_inj, Int32.toInt_toInt64, tiA, tlA]); omega)) (by first | omega | ((try simp only [Int32.lt_iff_toInt_lt, Int32.le_iff_toInt_le, ← Int32.toInt_inj, Int32.toInt_toInt64, tiA, tlA]); omega)), ?_⟩
        refine ⟨_, s_X8_after ((xs (x3 + 1).toNatClampNeg)) hI.1, ?_⟩
        intro v1194 lg1190 it1191 hq1195
        have hI1192 : IL lg1190 it1191 := il_8 hI hq1195.1 hq1195.2 (fun j hj => by first | omega | exact False.elim hj | (dsimp only at hj; omega))
        have hT1193 : RC lg1190 it1191 := rc_8 hT hq1195.2 (fun j hj => by first | omega | exact False.elim hj | (dsimp only at hj; omega))
        try have f1196 : ((x3 + 1) : Int32).toInt = (x3).toInt + 1 := ad32 (a := (x3).toInt) (b := 1) (rfl) (ti_1) (by omega) (by omega)
        refine ⟨vp_of (by first | omega | ((try simp only [Int32.lt_iff_toInt_lt, Int32.le_iff_toInt_le, ← Int32.toInt_inj, Int32.toInt_toInt64, tiA, tlA]); omega)) (by first | omega | ((try simp only [Int32.lt_iff_toInt_lt, Int32.le_iff_toInt_le, ← Int32.toInt_inj, Int32.toInt_toInt64, tiA, tlA]); omega)), ?_⟩
        refine ⟨_, s_X9_after ((xs (x3 + 1).toNatClampNeg)) hI1192.2, ?_⟩
        intro v1202 lg1198 it1199 hq1203
        have hI1200 : IL lg1198 it1199 := il_9 hI1192 hq1203.1 hq1203.2 (fun j hj => by first | omega | exact False.elim hj | (dsimp only at hj; omega))
        have hT1201 : RC lg1198 it1199 := rc_9 hT1193 hq1203.2 (fun j hj => by first | omega | exact False.elim hj | (dsimp only at hj; omega))
        have f1204 : (x3 + Int32.ofInt 6).toInt = x3.toInt + 6 := ad32 rfl (by decide) (by omega) (by omega)
        exact ih18 ((x3 + Int32.ofInt 6)) _ _ hI1200 hT1201 (by omega) (by omega)
      · skip
        try have f1205 : ((x3 + 1) : Int32).toInt = (x3).toInt + 1 := ad32 (a := (x3).toInt) (b := 1) (rfl) (ti_1) (by omega) (by omega)
        refine ⟨vp_of (by first | omega | ((try simp only [Int32.lt_iff_toInt_lt, Int32.le_iff_toInt_le, ← Int32.toInt_inj, Int32.toInt_toInt64, tiA, tlA]); omega)) (by first | omega | ((try simp only [Int32.lt_iff_toInt_lt, Int32.le_iff_toInt_le, ← Int32.toInt_inj, Int32.toInt_toInt64, tiA, tlA]); omega)), ?_⟩
        try have f1207 : ((x3 + 2) : Int32).toInt = (x3).toInt + 2 := ad32 (a := (x3).toInt) (b := 2) (rfl) (ti_2) (by omega) (by omega)
        refine ⟨vp_of (by first | omega | ((try simp only [Int32.lt_iff_toInt_lt, Int32.le_iff_toInt_le, ← Int32.toInt_inj, Int32.toInt_toInt64, tiA, tlA]); omega)) (by first | omega | ((try simp only [Int32.lt_iff_toInt_lt, Int32.le_iff_toInt_le, ← Int32.toInt_inj, Int32.toInt_toInt64, tiA, tlA]); omega)), ?_⟩
        refine ⟨_, s_X8_book ((xs (x3 + 1).toNatClampNeg)) ((xs (x3 + 2).toNatClampNeg)) hI.1, ?_⟩
        intro v1213 lg1209 it1210 hq1214
        have hI1211 : IL lg1209 it1210 := il_8 hI hq1214.1 hq1214.2 (fun j hj => by first | omega | exact False.elim hj | (dsimp only at hj; omega))
        have hT1212 : RC lg1209 it1210 := rc_8 hT hq1214.2 (fun j hj => by first | omega | exact False.elim hj | (dsimp only at hj; omega))
        try have f1215 : ((x3 + 1) : Int32).toInt = (x3).toInt + 1 := ad32 (a := (x3).toInt) (b := 1) (rfl) (ti_1) (by omega) (by omega)
        refine ⟨vp_of (by first | omega | ((try simp only [Int32.lt_iff_toInt_lt, Int32.le_iff_toInt_le, ← Int32.toInt_inj, Int32.toInt_toInt64, tiA, tlA]); omega)) (by first | omega | ((try simp only [Int32.lt_iff_toInt_lt, Int32.le_iff_toInt_le, ← Int32.toInt_inj, Int32.toInt_toInt64, tiA, tlA]); omega)), ?_⟩
        try have f1217 : ((x3 + 2) : Int32).toInt = (x3).toInt + 2 := ad32 (a := (x3).toInt) (b := 2) (rfl) (ti_2) (by omega) (by omega)
        refine ⟨vp_of (by first | omega | ((try simp only [Int32.lt_iff_toInt_lt, Int32.le_iff_toInt_le, ← Int32.toInt_inj, Int32.toInt_toInt64, tiA, tlA]); omega)) (by first | omega | ((try simp only [Int32.lt_iff_toInt_lt, Int32.le_iff_toInt_le, ← Int32.toInt_inj, Int32.toInt_toInt64, tiA, tlA]); omega)), ?_⟩
        refine ⟨_, s_X9_book ((xs (x3 + 1).toNatClampNeg)) ((xs (x3 + 2).toNatClampNeg)) hI1211.2, ?_⟩
        intro v1223 lg1219 it1220 hq1224
        have hI1221 : IL lg1219 it1220 := il_9 hI1211 hq1224.1 hq1224.2 (fun j hj => by first | omega | exact False.elim hj | (dsimp only at hj; omega))
        have hT1222 : RC lg1219 it1220 := rc_9 hT1212 hq1224.2 (fun j hj => by first | omega | exact False.elim hj | (dsimp only at hj; omega))
        have f1225 : (x3 + Int32.ofInt 6).toInt = x3.toInt + 6 := ad32 rfl (by decide) (by omega) (by omega)
        exact ih18 ((x3 + Int32.ofInt 6)) _ _ hI1221 hT1222 (by omega) (by omega)
      · skip
        refine ⟨_, s_X8_looked  hI.1, ?_⟩
        intro v1230 lg1226 it1227 hq1231
        have hI1228 : IL lg1226 it1227 := il_8 hI hq1231.1 hq1231.2 (fun j hj => by first | omega | exact False.elim hj | (dsimp only at hj; omega))
        have hT1229 : RC lg1226 it1227 := rc_8 hT hq1231.2 (fun j hj => by first | omega | exact False.elim hj | (dsimp only at hj; omega))
        refine ⟨_, s_X9_looked  hI1228.2, ?_⟩
        intro v1236 lg1232 it1233 hq1237
        have hI1234 : IL lg1232 it1233 := il_9 hI1228 hq1237.1 hq1237.2 (fun j hj => by first | omega | exact False.elim hj | (dsimp only at hj; omega))
        have hT1235 : RC lg1232 it1233 := rc_9 hT1229 hq1237.2 (fun j hj => by first | omega | exact False.elim hj | (dsimp only at hj; omega))
        have f1238 : (x3 + Int32.ofInt 6).toInt = x3.toInt + 6 := ad32 rfl (by decide) (by omega) (by omega)
        exact ih18 ((x3 + Int32.ofInt 6)) _ _ hI1234 hT1235 (by omega) (by omega)
      · skip
        try have f1239 : ((x3 + 1) : Int32).toInt = (x3).toInt + 1 := ad32 (a := (x3).toInt) (b := 1) (rfl) (ti_1) (by omega) (by omega)
        refine ⟨vp_of (by first | omega | ((try simp only [Int32.lt_iff_toInt_lt, Int32.le_iff_toInt_le, ← Int32.toInt_inj, Int32.toInt_toInt64, tiA, tlA]); omega)) (by first | omega | ((try simp only [Int32.lt_iff_toInt_lt, Int32.le_iff_toInt_le, ← Int32.toInt_inj, Int32.toInt_toInt64, tiA, tlA]); omega)), ?_⟩
        try have f1241 : ((x3 + 2) : Int32).toInt = (x3).toInt + 2 := ad32 (a := (x3).toInt) (b := 2) (rfl) (ti_2) (by omega) (by omega)
        refine ⟨vp_of (by first | omega | ((try simp only [Int32.lt_iff_toInt_lt, Int32.le_iff_toInt_le, ← Int32.toInt_inj, Int32.toInt_toInt64, tiA, tlA]); omega)) (by first | omega | ((try simp only [Int32.lt_iff_toInt_lt, Int32.le_iff_toInt_le, ← Int32.toInt_inj, Int32.toInt_toInt64, tiA, tlA]); omega)), ?_⟩
        refine ⟨_, s_X8_judge ((xs (x3 + 1).toNatClampNeg)) ((xs (x3 + 2).toNatClampNeg)) hI.1, ?_⟩
        intro v1247 lg1243 it1244 hq1248
        have hI1245 : IL lg1243 it1244 := il_8 hI hq1248.1 hq1248.2 (fun j hj => by first | omega | exact False.elim hj | (dsimp only at hj; omega))
        have hT1246 : RC lg1243 it1244 := rc_8 hT hq1248.2 (fun j hj => by first | omega | exact False.elim hj | (dsimp only at hj; omega))
        try have f1249 : ((x3 + 1) : Int32).toInt = (x3).toInt + 1 := ad32 (a := (x3).toInt) (b := 1) (rfl) (ti_1) (by omega) (by omega)
        refine ⟨vp_of (by first | omega | ((try simp only [Int32.lt_iff_toInt_lt, Int32.le_iff_toInt_le, ← Int32.toInt_inj, Int32.toInt_toInt64, tiA, tlA]); omega)) (by first | omega | ((try simp only [Int32.lt_iff_toInt_lt, Int32.le_iff_toInt_le, ← Int32.toInt_inj, Int32.toInt_toInt64, tiA, tlA]); omega)), ?_⟩
        try have f1251 : ((x3 + 2) : Int32).toInt = (x3).toInt + 2 := ad32 (a := (x3).toInt) (b := 2) (rfl) (ti_2) (by omega) (by omega)
        refine ⟨vp_of (by first | omega | ((try simp only [Int32.lt_iff_toInt_lt, Int32.le_iff_toInt_le, ← Int32.toInt_inj, Int32.toInt_toInt64, tiA, tlA]); omega)) (by first | omega | ((try simp only [Int32.lt_iff_toInt_lt, Int32.le_iff_toInt_le, ← Int32.toInt_inj, Int32.toInt_toInt64, tiA, tlA]); omega)), ?_⟩
        refine ⟨_, s_X9_judge ((xs (x3 + 1).toNatClampNeg)) ((xs (x3 + 2).toNatClampNeg)) hI1245.2, ?_⟩
        intro v1257 lg1253 it1254 hq1258
        have hI1255 : IL lg1253 it1254 := il_9 hI1245 hq1258.1 hq1258.2 (fun j hj => by first | omega | exact False.elim hj | (dsimp only at hj; omega))
        have hT1256 : RC lg1253 it1254 := rc_9 hT1246 hq1258.2 (fun j hj => by first | omega | exact False.elim hj | (dsimp only at hj; omega))
        have f1259 : (x3 + Int32.ofInt 6).toInt = x3.toInt + 6 := ad32 rfl (by decide) (by omega) (by omega)
        exact ih18 ((x3 + Int32.ofInt 6)) _ _ hI1255 hT1256 (by omega) (by omega)
      · skip
        refine ⟨_, s_X8_image  hI.1, ?_⟩
        intro v1264 lg1260 it1261 hq1265
        have hI1262 : IL lg1260 it1261 := il_8 hI hq1265.1 hq1265.2 (fun j hj => by first | omega | exact False.elim hj | (dsimp only at hj; omega))
        have hT1263 : RC lg1260 it1261 := rc_8 hT hq1265.2 (fun j hj => by first | omega | exact False.elim hj | (dsimp only at hj; omega))
        refine ⟨_, s_X9_image  hI1262.2, ?_⟩
        intro v1270 lg1266 it1267 hq1271
        have hI1268 : IL lg1266 it1267 := il_9 hI1262 hq1271.1.1 hq1271.1.2 (fun j hj => by first | omega | exact False.elim hj | (dsimp only at hj; omega))
        have hT1269 : RC lg1266 it1267 := rc_9 hT1263 hq1271.1.2 (fun j hj => by first | omega | exact False.elim hj | (dsimp only at hj; omega))
        have f1272 : (x3 + Int32.ofInt 6).toInt = x3.toInt + 6 := ad32 rfl (by decide) (by omega) (by omega)
        exact ih18 ((x3 + Int32.ofInt 6)) _ _ hI1268 hT1269 (by omega) (by omega)
      · skip
        refine ⟨_, s_X8_undo  hI.1, ?_⟩
        intro v1277 lg1273 it1274 hq1278
        have hI1275 : IL lg1273 it1274 := il_8 hI hq1278.1 hq1278.2 (fun j hj => by first | omega | exact False.elim hj | (dsimp only at hj; omega))
        have hT1276 : RC lg1273 it1274 := rc_8 hT hq1278.2 (fun j hj => by first | omega | exact False.elim hj | (dsimp only at hj; omega))
        refine ⟨_, s_X9_undo  hI1275.2, ?_⟩
        intro v1283 lg1279 it1280 hq1284
        have hI1281 : IL lg1279 it1280 := il_9 hI1275 hq1284.1.1 hq1284.1.2 (fun j hj => by first | omega | exact False.elim hj | (dsimp only at hj; omega))
        have hT1282 : RC lg1279 it1280 := rc_9 hT1276 hq1284.1.2 (fun j hj => by first | omega | exact False.elim hj | (dsimp only at hj; omega))
        have f1285 : (x3 + Int32.ofInt 6).toInt = x3.toInt + 6 := ad32 rfl (by decide) (by omega) (by omega)
        exact ih18 ((x3 + Int32.ofInt 6)) _ _ hI1281 hT1282 (by omega) (by omega)
      · skip
        try have f1286 : ((x3 + 1) : Int32).toInt = (x3).toInt + 1 := ad32 (a := (x3).toInt) (b := 1) (rfl) (ti_1) (by omega) (by omega)
        refine ⟨vp_of (by first | omega | ((try simp only [Int32.lt_iff_toInt_lt, Int32.le_iff_toInt_le, ← Int32.toInt_inj, Int32.toInt_toInt64, tiA, tlA]); omega)) (by first | omega | ((try simp only [Int32.lt_iff_toInt_lt, Int32.le_iff_toInt_le, ← Int32.toInt_inj, Int32.toInt_toInt64, tiA, tlA]); omega)), ?_⟩
        refine ⟨_, s_X8_count ((xs (x3 + 1).toNatClampNeg)) hI.1, ?_⟩
        intro v1292 lg1288 it1289 hq1293
        have hI1290 : IL lg1288 it1289 := il_8 hI hq1293.1 hq1293.2 (fun j hj => by first | omega | exact False.elim hj | (dsimp only at hj; omega))
        have hT1291 : RC lg1288 it1289 := rc_8 hT hq1293.2 (fun j hj => by first | omega | exact False.elim hj | (dsimp only at hj; omega))
        try have f1294 : ((x3 + 1) : Int32).toInt = (x3).toInt + 1 := ad32 (a := (x3).toInt) (b := 1) (rfl) (ti_1) (by omega) (by omega)
        refine ⟨vp_of (by first | omega | ((try simp only [Int32.lt_iff_toInt_lt, Int32.le_iff_toInt_le, ← Int32.toInt_inj, Int32.toInt_toInt64, tiA, tlA]); omega)) (by first | omega | ((try simp only [Int32.lt_iff_toInt_lt, Int32.le_iff_toInt_le, ← Int32.toInt_inj, Int32.toInt_toInt64, tiA, tlA]); omega)), ?_⟩
        refine ⟨_, s_X9_count ((xs (x3 + 1).toNatClampNeg)) hI1290.2, ?_⟩
        intro v1300 lg1296 it1297 hq1301
        have hI1298 : IL lg1296 it1297 := il_9 hI1290 hq1301.1 hq1301.2 (fun j hj => by first | omega | exact False.elim hj | (dsimp only at hj; omega))
        have hT1299 : RC lg1296 it1297 := rc_9 hT1291 hq1301.2 (fun j hj => by first | omega | exact False.elim hj | (dsimp only at hj; omega))
        have f1302 : (x3 + Int32.ofInt 6).toInt = x3.toInt + 6 := ad32 rfl (by decide) (by omega) (by omega)
        exact ih18 ((x3 + Int32.ofInt 6)) _ _ hI1298 hT1299 (by omega) (by omega)
      · skip
        try have f1303 : ((x3 + 1) : Int32).toInt = (x3).toInt + 1 := ad32 (a := (x3).toInt) (b := 1) (rfl) (ti_1) (by omega) (by omega)
        refine ⟨vp_of (by first | omega | ((try simp only [Int32.lt_iff_toInt_lt, Int32.le_iff_toInt_le, ← Int32.toInt_inj, Int32.toInt_toInt64, tiA, tlA]); omega)) (by first | omega | ((try simp only [Int32.lt_iff_toInt_lt, Int32.le_iff_toInt_le, ← Int32.toInt_inj, Int32.toInt_toInt64, tiA, tlA]); omega)), ?_⟩
        try have f1305 : ((x3 + 2) : Int32).toInt = (x3).toInt + 2 := ad32 (a := (x3).toInt) (b := 2) (rfl) (ti_2) (by omega) (by omega)
        refine ⟨vp_of (by first | omega | ((try simp only [Int32.lt_iff_toInt_lt, Int32.le_iff_toInt_le, ← Int32.toInt_inj, Int32.toInt_toInt64, tiA, tlA]); omega)) (by first | omega | ((try simp only [Int32.lt_iff_toInt_lt, Int32.le_iff_toInt_le, ← Int32.toInt_inj, Int32.toInt_toInt64, tiA, tlA]); omega)), ?_⟩
        try have f1307 : ((x3 + 3) : Int32).toInt = (x3).toInt + 3 := ad32 (a := (x3).toInt) (b := 3) (rfl) (ti_3) (by omega) (by omega)
        refine ⟨vp_of (by first | omega | ((try simp only [Int32.lt_iff_toInt_lt, Int32.le_iff_toInt_le, ← Int32.toInt_inj, Int32.toInt_toInt64, tiA, tlA]); omega)) (by first | omega | ((try simp only [Int32.lt_iff_toInt_lt, Int32.le_iff_toInt_le, ← Int32.toInt_inj, Int32.toInt_toInt64, tiA, tlA]); omega)), ?_⟩
        refine ⟨_, p_X8_tape ((xs (x3 + 1).toNatClampNeg)) ((xs (x3 + 2).toNatClampNeg)) ((xs (x3 + 3).toNatClampNeg)) hI.1, ?_⟩
        intro v1313 lg1309 it1310 hq1314
        have hI1311 : IL lg1309 it1310 := il_8 hI hq1314.1.1 hq1314.1.2 (fun j hj => by first | omega | exact False.elim hj | (dsimp only at hj; omega))
        try have f1315 : ((x3 + 1) : Int32).toInt = (x3).toInt + 1 := ad32 (a := (x3).toInt) (b := 1) (rfl) (ti_1) (by omega) (by omega)
        refine ⟨vp_of (by first | omega | ((try simp only [Int32.lt_iff_toInt_lt, Int32.le_iff_toInt_le, ← Int32.toInt_inj, Int32.toInt_toInt64, tiA, tlA]); omega)) (by first | omega | ((try simp only [Int32.lt_iff_toInt_lt, Int32.le_iff_toInt_le, ← Int32.toInt_inj, Int32.toInt_toInt64, tiA, tlA]); omega)), ?_⟩
        try have f1317 : ((x3 + 2) : Int32).toInt = (x3).toInt + 2 := ad32 (a := (x3).toInt) (b := 2) (rfl) (ti_2) (by omega) (by omega)
        refine ⟨vp_of (by first | omega | ((try simp only [Int32.lt_iff_toInt_lt, Int32.le_iff_toInt_le, ← Int32.toInt_inj, Int32.toInt_toInt64, tiA, tlA]); omega)) (by first | omega | ((try simp only [Int32.lt_iff_toInt_lt, Int32.le_iff_toInt_le, ← Int32.toInt_inj, Int32.toInt_toInt64, tiA, tlA]); omega)), ?_⟩
        try have f1319 : ((x3 + 3) : Int32).toInt = (x3).toInt + 3 := ad32 (a := (x3).toInt) (b := 3) (rfl) (ti_3) (by omega) (by omega)
        refine ⟨vp_of (by first | omega | ((try simp only [Int32.lt_iff_toInt_lt, Int32.le_iff_toInt_le, ← Int32.toInt_inj, Int32.toInt_toInt64, tiA, tlA]); omega)) (by first | omega | ((try simp only [Int32.lt_iff_toInt_lt, Int32.le_iff_toInt_le, ← Int32.toInt_inj, Int32.toInt_toInt64, tiA, tlA]); omega)), ?_⟩
        refine ⟨_, p_X9_tape ((xs (x3 + 1).toNatClampNeg)) ((xs (x3 + 2).toNatClampNeg)) ((xs (x3 + 3).toNatClampNeg)) hI1311.2, ?_⟩
        intro v1325 lg1321 it1322 hq1326
        have hI1323 : IL lg1321 it1322 := il_9 hI1311 hq1326.1.1 hq1326.1.2 (fun j hj => by first | omega | exact False.elim hj | (dsimp only at hj; omega))
        have hT1324 : RC lg1321 it1322 := rc_tape hT hq1314.2.1 hq1314.2.2.1 hq1314.2.2.2 hq1314.1.2 (fun j hj => by first | omega | exact False.elim hj | (dsimp only at hj; omega)) hq1326.2.1 hq1326.2.2.1 hq1326.2.2.2 hq1326.1.2 (fun j hj => by first | omega | exact False.elim hj | (dsimp only at hj; omega))
        have f1327 : (x3 + Int32.ofInt 6).toInt = x3.toInt + 6 := ad32 rfl (by decide) (by omega) (by omega)
        exact ih18 ((x3 + Int32.ofInt 6)) _ _ hI1323 hT1324 (by omega) (by omega)
      · skip
        try have f1328 : ((x3 + 1) : Int32).toInt = (x3).toInt + 1 := ad32 (a := (x3).toInt) (b := 1) (rfl) (ti_1) (by omega) (by omega)
        refine ⟨vp_of (by first | omega | ((try simp only [Int32.lt_iff_toInt_lt, Int32.le_iff_toInt_le, ← Int32.toInt_inj, Int32.toInt_toInt64, tiA, tlA]); omega)) (by first | omega | ((try simp only [Int32.lt_iff_toInt_lt, Int32.le_iff_toInt_le, ← Int32.toInt_inj, Int32.toInt_toInt64, tiA, tlA]); omega)), ?_⟩
        try have f1330 : ((x3 + 2) : Int32).toInt = (x3).toInt + 2 := ad32 (a := (x3).toInt) (b := 2) (rfl) (ti_2) (by omega) (by omega)
        refine ⟨vp_of (by first | omega | ((try simp only [Int32.lt_iff_toInt_lt, Int32.le_iff_toInt_le, ← Int32.toInt_inj, Int32.toInt_toInt64, tiA, tlA]); omega)) (by first | omega | ((try simp only [Int32.lt_iff_toInt_lt, Int32.le_iff_toInt_le, ← Int32.toInt_inj, Int32.toInt_toInt64, tiA, tlA]); omega)), ?_⟩
        try have f1332 : ((x3 + 3) : Int32).toInt = (x3).toInt + 3 := ad32 (a := (x3).toInt) (b := 3) (rfl) (ti_3) (by omega) (by omega)
        refine ⟨vp_of (by first | omega | ((try simp only [Int32.lt_iff_toInt_lt, Int32.le_iff_toInt_le, ← Int32.toInt_inj, Int32.toInt_toInt64, tiA, tlA]); omega)) (by first | omega | ((try simp only [Int32.lt_iff_toInt_lt, Int32.le_iff_toInt_le, ← Int32.toInt_inj, Int32.toInt_toInt64, tiA, tlA]); omega)), ?_⟩
        try have f1334 : ((x3 + 4) : Int32).toInt = (x3).toInt + 4 := ad32 (a := (x3).toInt) (b := 4) (rfl) (ti_4) (by omega) (by omega)
        refine ⟨vp_of (by first | omega | ((try simp only [Int32.lt_iff_toInt_lt, Int32.le_iff_toInt_le, ← Int32.toInt_inj, Int32.toInt_toInt64, tiA, tlA]); omega)) (by first | omega | ((try simp only [Int32.lt_iff_toInt_lt, Int32.le_iff_toInt_le, ← Int32.toInt_inj, Int32.toInt_toInt64, tiA, tlA]); omega)), ?_⟩
        refine ⟨_, p_X8_item ((xs (x3 + 1).toNatClampNeg)) ((xs (x3 + 2).toNatClampNeg)) ((((xs (x3 + 3).toNatClampNeg).toInt64 <<< ((32 : Int32).toInt64 &&& 63)) ||| ((xs (x3 + 4).toNatClampNeg).toInt64 &&& 4294967295))) hI.1 (rc_h hT), ?_⟩
        intro v1340 lg1336 it1337 hq1341
        have hI1338 : IL lg1336 it1337 := il_8 hI hq1341.1.1 hq1341.1.2.1 (fun j hj => by first | omega | exact False.elim hj | (dsimp only at hj; omega))
        try have f1342 : ((x3 + 1) : Int32).toInt = (x3).toInt + 1 := ad32 (a := (x3).toInt) (b := 1) (rfl) (ti_1) (by omega) (by omega)
        refine ⟨vp_of (by first | omega | ((try simp only [Int32.lt_iff_toInt_lt, Int32.le_iff_toInt_le, ← Int32.toInt_inj, Int32.toInt_toInt64, tiA, tlA]); omega)) (by first | omega | ((try simp only [Int32.lt_iff_toInt_lt, Int32.le_iff_toInt_le, ← Int32.toInt_inj, Int32.toInt_toInt64, tiA, tlA]); omega)), ?_⟩
        try have f1344 : ((x3 + 2) : Int32).toInt = (x3).toInt + 2 := ad32 (a := (x3).toInt) (b := 2) (rfl) (ti_2) (by omega) (by omega)
        refine ⟨vp_of (by first | omega | ((try simp only [Int32.lt_iff_toInt_lt, Int32.le_iff_toInt_le, ← Int32.toInt_inj, Int32.toInt_toInt64, tiA, tlA]); omega)) (by first | omega | ((try simp only [Int32.lt_iff_toInt_lt, Int32.le_iff_toInt_le, ← Int32.toInt_inj, Int32.toInt_toInt64, tiA, tlA]); omega)), ?_⟩
        try have f1346 : ((x3 + 3) : Int32).toInt = (x3).toInt + 3 := ad32 (a := (x3).toInt) (b := 3) (rfl) (ti_3) (by omega) (by omega)
        refine ⟨vp_of (by first | omega | ((try simp only [Int32.lt_iff_toInt_lt, Int32.le_iff_toInt_le, ← Int32.toInt_inj, Int32.toInt_toInt64, tiA, tlA]); omega)) (by first | omega | ((try simp only [Int32.lt_iff_toInt_lt, Int32.le_iff_toInt_le, ← Int32.toInt_inj, Int32.toInt_toInt64, tiA, tlA]); omega)), ?_⟩
        try have f1348 : ((x3 + 4) : Int32).toInt = (x3).toInt + 4 := ad32 (a := (x3).toInt) (b := 4) (rfl) (ti_4) (by omega) (by omega)
        refine ⟨vp_of (by first | omega | ((try simp only [Int32.lt_iff_toInt_lt, Int32.le_iff_toInt_le, ← Int32.toInt_inj, Int32.toInt_toInt64, tiA, tlA]); omega)) (by first | omega | ((try simp only [Int32.lt_iff_toInt_lt, Int32.le_iff_toInt_le, ← Int32.toInt_inj, Int32.toInt_toInt64, tiA, tlA]); omega)), ?_⟩
        refine ⟨_, p_X9_item ((xs (x3 + 1).toNatClampNeg)) ((xs (x3 + 2).toNatClampNeg)) ((((xs (x3 + 3).toNatClampNeg).toInt64 <<< ((32 : Int32).toInt64 &&& 63)) ||| ((xs (x3 + 4).toNatClampNeg).toInt64 &&& 4294967295))) hI1338.2, ?_⟩
        intro v1354 lg1350 it1351 hq1355
        have hI1352 : IL lg1350 it1351 := il_9 hI1338 hq1355.1.1 hq1355.1.2 (fun j hj => by first | omega | exact False.elim hj | (dsimp only at hj; omega))
        have pr1356 := rc_item hT hq1341.1.2 (fun j hj => by first | omega | exact False.elim hj | (dsimp only at hj; omega)) hq1341.2.1 hq1341.2.2 hq1355.1.2 (fun j hj => by first | omega | exact False.elim hj | (dsimp only at hj; omega)) hq1355.2.1 hq1355.2.2
        have f1357 : (x3 + Int32.ofInt 6).toInt = x3.toInt + 6 := ad32 rfl (by decide) (by omega) (by omega)
        exact ih18 ((x3 + Int32.ofInt 6)) _ _ hI1352 pr1356.1 (by omega) (by omega)
      · skip
        try have f1358 : ((x3 + 1) : Int32).toInt = (x3).toInt + 1 := ad32 (a := (x3).toInt) (b := 1) (rfl) (ti_1) (by omega) (by omega)
        refine ⟨vp_of (by first | omega | ((try simp only [Int32.lt_iff_toInt_lt, Int32.le_iff_toInt_le, ← Int32.toInt_inj, Int32.toInt_toInt64, tiA, tlA]); omega)) (by first | omega | ((try simp only [Int32.lt_iff_toInt_lt, Int32.le_iff_toInt_le, ← Int32.toInt_inj, Int32.toInt_toInt64, tiA, tlA]); omega)), ?_⟩
        try have f1360 : ((x3 + 2) : Int32).toInt = (x3).toInt + 2 := ad32 (a := (x3).toInt) (b := 2) (rfl) (ti_2) (by omega) (by omega)
        refine ⟨vp_of (by first | omega | ((try simp only [Int32.lt_iff_toInt_lt, Int32.le_iff_toInt_le, ← Int32.toInt_inj, Int32.toInt_toInt64, tiA, tlA]); omega)) (by first | omega | ((try simp only [Int32.lt_iff_toInt_lt, Int32.le_iff_toInt_le, ← Int32.toInt_inj, Int32.toInt_toInt64, tiA, tlA]); omega)), ?_⟩
        refine ⟨_, p_X8_peek ((xs (x3 + 1).toNatClampNeg)) ((xs (x3 + 2).toNatClampNeg)) hI.1, ?_⟩
        intro v1366 lg1362 it1363 hq1367
        have hI1364 : IL lg1362 it1363 := il_8 hI hq1367.1.1 hq1367.1.2 (fun j hj => by first | omega | exact False.elim hj | (dsimp only at hj; omega))
        have hT1365 : RC lg1362 it1363 := rc_8 hT hq1367.1.2 (fun j hj => by first | omega | exact False.elim hj | (dsimp only at hj; omega))
        try have f1368 : ((x3 + 1) : Int32).toInt = (x3).toInt + 1 := ad32 (a := (x3).toInt) (b := 1) (rfl) (ti_1) (by omega) (by omega)
        refine ⟨vp_of (by first | omega | ((try simp only [Int32.lt_iff_toInt_lt, Int32.le_iff_toInt_le, ← Int32.toInt_inj, Int32.toInt_toInt64, tiA, tlA]); omega)) (by first | omega | ((try simp only [Int32.lt_iff_toInt_lt, Int32.le_iff_toInt_le, ← Int32.toInt_inj, Int32.toInt_toInt64, tiA, tlA]); omega)), ?_⟩
        try have f1370 : ((x3 + 2) : Int32).toInt = (x3).toInt + 2 := ad32 (a := (x3).toInt) (b := 2) (rfl) (ti_2) (by omega) (by omega)
        refine ⟨vp_of (by first | omega | ((try simp only [Int32.lt_iff_toInt_lt, Int32.le_iff_toInt_le, ← Int32.toInt_inj, Int32.toInt_toInt64, tiA, tlA]); omega)) (by first | omega | ((try simp only [Int32.lt_iff_toInt_lt, Int32.le_iff_toInt_le, ← Int32.toInt_inj, Int32.toInt_toInt64, tiA, tlA]); omega)), ?_⟩
        refine ⟨_, p_X9_peek ((xs (x3 + 1).toNatClampNeg)) ((xs (x3 + 2).toNatClampNeg)) hI1364.2, ?_⟩
        intro v1376 lg1372 it1373 hq1377
        have hI1374 : IL lg1372 it1373 := il_9 hI1364 hq1377.1.1 hq1377.1.2 (fun j hj => by first | omega | exact False.elim hj | (dsimp only at hj; omega))
        have hT1375 : RC lg1372 it1373 := rc_9 hT1365 hq1377.1.2 (fun j hj => by first | omega | exact False.elim hj | (dsimp only at hj; omega))
        refine ⟨fun c1135 => ?_, fun c1135 => ?_⟩
        · skip
          have f1378 : (x3 + Int32.ofInt 6).toInt = x3.toInt + 6 := ad32 rfl (by decide) (by omega) (by omega)
          exact ih18 ((x3 + Int32.ofInt 6)) _ _ hI1374 hT1375 (by omega) (by omega)
        · exact absurd (peek_x hT (hq1367.1.2 520 (fun z => z)).1 (hq1367.1.2 519 (fun z => z)).2 hq1367.2 hq1377.2 (fun t _ => (i9_f hI.2 (j := 519) (k := t) rfl).2)) c1135
      · skip
        try have f1379 : ((x3 + 1) : Int32).toInt = (x3).toInt + 1 := ad32 (a := (x3).toInt) (b := 1) (rfl) (ti_1) (by omega) (by omega)
        refine ⟨vp_of (by first | omega | ((try simp only [Int32.lt_iff_toInt_lt, Int32.le_iff_toInt_le, ← Int32.toInt_inj, Int32.toInt_toInt64, tiA, tlA]); omega)) (by first | omega | ((try simp only [Int32.lt_iff_toInt_lt, Int32.le_iff_toInt_le, ← Int32.toInt_inj, Int32.toInt_toInt64, tiA, tlA]); omega)), ?_⟩
        try have f1381 : ((x3 + 2) : Int32).toInt = (x3).toInt + 2 := ad32 (a := (x3).toInt) (b := 2) (rfl) (ti_2) (by omega) (by omega)
        refine ⟨vp_of (by first | omega | ((try simp only [Int32.lt_iff_toInt_lt, Int32.le_iff_toInt_le, ← Int32.toInt_inj, Int32.toInt_toInt64, tiA, tlA]); omega)) (by first | omega | ((try simp only [Int32.lt_iff_toInt_lt, Int32.le_iff_toInt_le, ← Int32.toInt_inj, Int32.toInt_toInt64, tiA, tlA]); omega)), ?_⟩
        try have f1383 : ((x3 + 3) : Int32).toInt = (x3).toInt + 3 := ad32 (a := (x3).toInt) (b := 3) (rfl) (ti_3) (by omega) (by omega)
        refine ⟨vp_of (by first | omega | ((try simp only [Int32.lt_iff_toInt_lt, Int32.le_iff_toInt_le, ← Int32.toInt_inj, Int32.toInt_toInt64, tiA, tlA]); omega)) (by first | omega | ((try simp only [Int32.lt_iff_toInt_lt, Int32.le_iff_toInt_le, ← Int32.toInt_inj, Int32.toInt_toInt64, tiA, tlA]); omega)), ?_⟩
        try have f1385 : ((x3 + 4) : Int32).toInt = (x3).toInt + 4 := ad32 (a := (x3).toInt) (b := 4) (rfl) (ti_4) (by omega) (by omega)
        refine ⟨vp_of (by first | omega | ((try simp only [Int32.lt_iff_toInt_lt, Int32.le_iff_toInt_le, ← Int32.toInt_inj, Int32.toInt_toInt64, tiA, tlA]); omega)) (by first | omega | ((try simp only [Int32.lt_iff_toInt_lt, Int32.le_iff_toInt_le, ← Int32.toInt_inj, Int32.toInt_toInt64, tiA, tlA]); omega)), ?_⟩
        try have f1387 : ((x3 + 5) : Int32).toInt = (x3).toInt + 5 := ad32 (a := (x3).toInt) (b := 5) (rfl) (ti_5) (by omega) (by omega)
        refine ⟨vp_of (by first | omega | ((try simp only [Int32.lt_iff_toInt_lt, Int32.le_iff_toInt_le, ← Int32.toInt_inj, Int32.toInt_toInt64, tiA, tlA]); omega)) (by first | omega | ((try simp only [Int32.lt_iff_toInt_lt, Int32.le_iff_toInt_le, ← Int32.toInt_inj, Int32.toInt_toInt64, tiA, tlA]); omega)), ?_⟩
        refine ⟨_, p_X8_shift ((xs (x3 + 1).toNatClampNeg)) ((xs (x3 + 2).toNatClampNeg)) ((xs (x3 + 3).toNatClampNeg)) ((xs (x3 + 4).toNatClampNeg)) ((xs (x3 + 5).toNatClampNeg)) hI.1 (rt_h hT.1), ?_⟩
        intro v1393 lg1389 it1390 hq1394
        have hI1391 : IL lg1389 it1390 := il_8 hI hq1394.1.1 hq1394.1.2.1 (fun j hj => by first | omega | exact False.elim hj | (dsimp only at hj; omega))
        try have f1395 : ((x3 + 1) : Int32).toInt = (x3).toInt + 1 := ad32 (a := (x3).toInt) (b := 1) (rfl) (ti_1) (by omega) (by omega)
        refine ⟨vp_of (by first | omega | ((try simp only [Int32.lt_iff_toInt_lt, Int32.le_iff_toInt_le, ← Int32.toInt_inj, Int32.toInt_toInt64, tiA, tlA]); omega)) (by first | omega | ((try simp only [Int32.lt_iff_toInt_lt, Int32.le_iff_toInt_le, ← Int32.toInt_inj, Int32.toInt_toInt64, tiA, tlA]); omega)), ?_⟩
        try have f1397 : ((x3 + 2) : Int32).toInt = (x3).toInt + 2 := ad32 (a := (x3).toInt) (b := 2) (rfl) (ti_2) (by omega) (by omega)
        refine ⟨vp_of (by first | omega | ((try simp only [Int32.lt_iff_toInt_lt, Int32.le_iff_toInt_le, ← Int32.toInt_inj, Int32.toInt_toInt64, tiA, tlA]); omega)) (by first | omega | ((try simp only [Int32.lt_iff_toInt_lt, Int32.le_iff_toInt_le, ← Int32.toInt_inj, Int32.toInt_toInt64, tiA, tlA]); omega)), ?_⟩
        try have f1399 : ((x3 + 3) : Int32).toInt = (x3).toInt + 3 := ad32 (a := (x3).toInt) (b := 3) (rfl) (ti_3) (by omega) (by omega)
        refine ⟨vp_of (by first | omega | ((try simp only [Int32.lt_iff_toInt_lt, Int32.le_iff_toInt_le, ← Int32.toInt_inj, Int32.toInt_toInt64, tiA, tlA]); omega)) (by first | omega | ((try simp only [Int32.lt_iff_toInt_lt, Int32.le_iff_toInt_le, ← Int32.toInt_inj, Int32.toInt_toInt64, tiA, tlA]); omega)), ?_⟩
        try have f1401 : ((x3 + 4) : Int32).toInt = (x3).toInt + 4 := ad32 (a := (x3).toInt) (b := 4) (rfl) (ti_4) (by omega) (by omega)
        refine ⟨vp_of (by first | omega | ((try simp only [Int32.lt_iff_toInt_lt, Int32.le_iff_toInt_le, ← Int32.toInt_inj, Int32.toInt_toInt64, tiA, tlA]); omega)) (by first | omega | ((try simp only [Int32.lt_iff_toInt_lt, Int32.le_iff_toInt_le, ← Int32.toInt_inj, Int32.toInt_toInt64, tiA, tlA]); omega)), ?_⟩
        try have f1403 : ((x3 + 5) : Int32).toInt = (x3).toInt + 5 := ad32 (a := (x3).toInt) (b := 5) (rfl) (ti_5) (by omega) (by omega)
        refine ⟨vp_of (by first | omega | ((try simp only [Int32.lt_iff_toInt_lt, Int32.le_iff_toInt_le, ← Int32.toInt_inj, Int32.toInt_toInt64, tiA, tlA]); omega)) (by first | omega | ((try simp only [Int32.lt_iff_toInt_lt, Int32.le_iff_toInt_le, ← Int32.toInt_inj, Int32.toInt_toInt64, tiA, tlA]); omega)), ?_⟩
        refine ⟨_, p_X9_shift ((xs (x3 + 1).toNatClampNeg)) ((xs (x3 + 2).toNatClampNeg)) ((xs (x3 + 3).toNatClampNeg)) ((xs (x3 + 4).toNatClampNeg)) ((xs (x3 + 5).toNatClampNeg)) hI1391.2, ?_⟩
        intro v1409 lg1405 it1406 hq1410
        have hI1407 : IL lg1405 it1406 := il_9 hI1391 hq1410.1.1 hq1410.1.2 (fun j hj => by first | omega | exact False.elim hj | (dsimp only at hj; omega))
        have pr1411 := rc_shift hT (fun t _ => (i9_f hI.2 (j := 519) (k := t) rfl).2) hq1394.1.2 (fun j hj => by first | omega | exact False.elim hj | (dsimp only at hj; omega)) hq1394.2.1 hq1394.2.2 hq1410.1.2 (fun j hj => by first | omega | exact False.elim hj | (dsimp only at hj; omega)) hq1410.2.1 hq1410.2.2
        have f1412 : (x3 + Int32.ofInt 6).toInt = x3.toInt + 6 := ad32 rfl (by decide) (by omega) (by omega)
        exact ih18 ((x3 + Int32.ofInt 6)) _ _ hI1407 pr1411.1 (by omega) (by omega)
