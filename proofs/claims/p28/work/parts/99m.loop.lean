/-! every round keeps both invariants and the relation, and answers 1 -/
set_option maxRecDepth 100000 in
set_option maxHeartbeats 16000000 in
theorem law_loop (L : Nat) (xs : Nat → Int32) (hL : L ≤ 3072) : ∀ (n : Nat) (x3 : Int32) (lg : LGt) (it : ITt), IL lg it → RA lg it → 0 ≤ x3.toInt → ((L : Int) - x3.toInt).toNat < n → w_L_law_b18 L xs (fun (v : Int32) (lg : LGt) (it : ITt) => v = 1) n x3 lg it := by
  generalize hp : (fun (v : Int32) (lg : LGt) (it : ITt) => v = 1) = Pz
  intro n18
  induction n18 with
  | zero => intro x3 lg it _ _ _ hn; exact absurd hn (Nat.not_lt_zero _)
  | succ n18 ih18 =>
    intro x3 lg0 it0 hI hT h0 hn
    have hb := x3.toInt_lt
    unfold w_L_law_b18
    have fL : (((Int32.ofNat L) - 6)).toInt = (L : Int) - 6 := sb32 (a := (L : Int)) (b := 6) (nI_toInt (by omega)) ti_6 (by omega) (by omega)
    refine ⟨fun c24 => ?_, fun c24 => ?_⟩
    · try simp only [Int32.lt_iff_toInt_lt, Int32.le_iff_toInt_le, ← Int32.toInt_inj, Int32.toInt_toInt64, tiA, tlA] at c24
      subst hp
      exact rfl
    · try simp only [Int32.lt_iff_toInt_lt, Int32.le_iff_toInt_le, ← Int32.toInt_inj, Int32.toInt_toInt64, tiA, tlA] at c24
      refine ⟨vp_of (by first | omega | ((try simp only [Int32.lt_iff_toInt_lt, Int32.le_iff_toInt_le, ← Int32.toInt_inj, Int32.toInt_toInt64, tiA, tlA]); omega)) (by first | omega | ((try simp only [Int32.lt_iff_toInt_lt, Int32.le_iff_toInt_le, ← Int32.toInt_inj, Int32.toInt_toInt64, tiA, tlA]); omega)), ?_⟩
      refine ⟨fun c33 => ?_, fun c33 => ?_, fun c33 => ?_, fun c33 => ?_, fun c33 => ?_, fun c33 => ?_, fun c33 => ?_, fun c33 => ?_, fun c33 => ?_, fun c33 => ?_, fun c33 => ?_, fun c33 => ?_, fun c33 => ?_, fun c33 => ?_, fun c33 => ?_, fun c33 => ?_, fun c33 => ?_, fun c33 => ?_, fun c33 => ?_, fun c33 => ?_, fun c33 => ?_, fun c33 => ?_, fun c33 => ?_, fun c33 => ?_, fun c33 => ?_, fun c33 => ?_, fun c33 => ?_, fun c33 => ?_, fun c33 => ?_, fun c33 => ?_, fun c33 => ?_, fun c33 => ?_, fun c33 => ?_, trivial⟩
      · skip
        have f758 : (x3 + Int32.ofInt 6).toInt = x3.toInt + 6 := ad32 rfl (by decide) (by omega) (by omega)
        exact ih18 ((x3 + Int32.ofInt 6)) _ _ hI hT (by omega) (by omega)
      · skip
        try have f759 : ((x3 + 1) : Int32).toInt = (x3).toInt + 1 := ad32 (a := (x3).toInt) (b := 1) (rfl) (ti_1) (by omega) (by omega)
        refine ⟨vp_of (by first | omega | ((try simp only [Int32.lt_iff_toInt_lt, Int32.le_iff_toInt_le, ← Int32.toInt_inj, Int32.toInt_toInt64, tiA, tlA]); omega)) (by first | omega | ((try simp only [Int32.lt_iff_toInt_lt, Int32.le_iff_toInt_le, ← Int32.toInt_inj, Int32.toInt_toInt64, tiA, tlA]); omega)), ?_⟩
        try have f761 : ((x3 + 2) : Int32).toInt = (x3).toInt + 2 := ad32 (a := (x3).toInt) (b := 2) (rfl) (ti_2) (by omega) (by omega)
        refine ⟨vp_of (by first | omega | ((try simp only [Int32.lt_iff_toInt_lt, Int32.le_iff_toInt_le, ← Int32.toInt_inj, Int32.toInt_toInt64, tiA, tlA]); omega)) (by first | omega | ((try simp only [Int32.lt_iff_toInt_lt, Int32.le_iff_toInt_le, ← Int32.toInt_inj, Int32.toInt_toInt64, tiA, tlA]); omega)), ?_⟩
        try have f763 : ((x3 + 3) : Int32).toInt = (x3).toInt + 3 := ad32 (a := (x3).toInt) (b := 3) (rfl) (ti_3) (by omega) (by omega)
        refine ⟨vp_of (by first | omega | ((try simp only [Int32.lt_iff_toInt_lt, Int32.le_iff_toInt_le, ← Int32.toInt_inj, Int32.toInt_toInt64, tiA, tlA]); omega)) (by first | omega | ((try simp only [Int32.lt_iff_toInt_lt, Int32.le_iff_toInt_le, ← Int32.toInt_inj, Int32.toInt_toInt64, tiA, tlA]); omega)), ?_⟩
        refine ⟨_, f_X8_bumper ((xs (x3 + 1).toNatClampNeg)) ((xs (x3 + 2).toNatClampNeg)) ((xs (x3 + 3).toNatClampNeg)) hI.1 _ (ra_v hT) (ra_o hT), ?_⟩
        intro v769 lg765 it766 hq770
        have hI767 : IL lg765 it766 := il_8 hI hq770.1.1 hq770.1.2 (fun j hj => by first | omega | exact False.elim hj | (dsimp only at hj; omega))
        try have f771 : ((x3 + 1) : Int32).toInt = (x3).toInt + 1 := ad32 (a := (x3).toInt) (b := 1) (rfl) (ti_1) (by omega) (by omega)
        refine ⟨vp_of (by first | omega | ((try simp only [Int32.lt_iff_toInt_lt, Int32.le_iff_toInt_le, ← Int32.toInt_inj, Int32.toInt_toInt64, tiA, tlA]); omega)) (by first | omega | ((try simp only [Int32.lt_iff_toInt_lt, Int32.le_iff_toInt_le, ← Int32.toInt_inj, Int32.toInt_toInt64, tiA, tlA]); omega)), ?_⟩
        try have f773 : ((x3 + 2) : Int32).toInt = (x3).toInt + 2 := ad32 (a := (x3).toInt) (b := 2) (rfl) (ti_2) (by omega) (by omega)
        refine ⟨vp_of (by first | omega | ((try simp only [Int32.lt_iff_toInt_lt, Int32.le_iff_toInt_le, ← Int32.toInt_inj, Int32.toInt_toInt64, tiA, tlA]); omega)) (by first | omega | ((try simp only [Int32.lt_iff_toInt_lt, Int32.le_iff_toInt_le, ← Int32.toInt_inj, Int32.toInt_toInt64, tiA, tlA]); omega)), ?_⟩
        try have f775 : ((x3 + 3) : Int32).toInt = (x3).toInt + 3 := ad32 (a := (x3).toInt) (b := 3) (rfl) (ti_3) (by omega) (by omega)
        refine ⟨vp_of (by first | omega | ((try simp only [Int32.lt_iff_toInt_lt, Int32.le_iff_toInt_le, ← Int32.toInt_inj, Int32.toInt_toInt64, tiA, tlA]); omega)) (by first | omega | ((try simp only [Int32.lt_iff_toInt_lt, Int32.le_iff_toInt_le, ← Int32.toInt_inj, Int32.toInt_toInt64, tiA, tlA]); omega)), ?_⟩
        have w783 := w9_8 hq770.1.2 (fun j hj => by first | omega | exact False.elim hj | (dsimp only at hj; omega))
        refine ⟨_, f_X9_bumper ((xs (x3 + 1).toNatClampNeg)) ((xs (x3 + 2).toNatClampNeg)) ((xs (x3 + 3).toNatClampNeg)) hI767.2 (by rw [w783]; exact ra_o hT), ?_⟩
        intro v781 lg777 it778 hq782
        rw [w783] at hq782
        have hI779 : IL lg777 it778 := il_9 hI767 hq782.1.1 hq782.1.2 (fun j hj => by first | omega | exact False.elim hj | (dsimp only at hj; omega))
        have hT780 : RA lg777 it778 := ra_m hT _ (vo_bm (ra_o hT)) hq770.1.2 (fun j hj => by first | omega | exact False.elim hj | (dsimp only at hj; omega)) hq770.2.2 (ci_k (ra_c hT) hq770.1.2 (fun j hj => by first | omega | exact False.elim hj | (dsimp only at hj; omega))) hq782.1.2 hq782.2.2 (fun j hj => by first | omega | exact False.elim hj | (dsimp only at hj; omega)) (fun j hj => by first | omega | exact False.elim hj | (dsimp only at hj; omega))
        have f784 : (x3 + Int32.ofInt 6).toInt = x3.toInt + 6 := ad32 rfl (by decide) (by omega) (by omega)
        exact ih18 ((x3 + Int32.ofInt 6)) _ _ hI779 hT780 (by omega) (by omega)
      · skip
        try have f785 : ((x3 + 1) : Int32).toInt = (x3).toInt + 1 := ad32 (a := (x3).toInt) (b := 1) (rfl) (ti_1) (by omega) (by omega)
        refine ⟨vp_of (by first | omega | ((try simp only [Int32.lt_iff_toInt_lt, Int32.le_iff_toInt_le, ← Int32.toInt_inj, Int32.toInt_toInt64, tiA, tlA]); omega)) (by first | omega | ((try simp only [Int32.lt_iff_toInt_lt, Int32.le_iff_toInt_le, ← Int32.toInt_inj, Int32.toInt_toInt64, tiA, tlA]); omega)), ?_⟩
        try have f787 : ((x3 + 2) : Int32).toInt = (x3).toInt + 2 := ad32 (a := (x3).toInt) (b := 2) (rfl) (ti_2) (by omega) (by omega)
        refine ⟨vp_of (by first | omega | ((try simp only [Int32.lt_iff_toInt_lt, Int32.le_iff_toInt_le, ← Int32.toInt_inj, Int32.toInt_toInt64, tiA, tlA]); omega)) (by first | omega | ((try simp only [Int32.lt_iff_toInt_lt, Int32.le_iff_toInt_le, ← Int32.toInt_inj, Int32.toInt_toInt64, tiA, tlA]); omega)), ?_⟩
        try have f789 : ((x3 + 3) : Int32).toInt = (x3).toInt + 3 := ad32 (a := (x3).toInt) (b := 3) (rfl) (ti_3) (by omega) (by omega)
        refine ⟨vp_of (by first | omega | ((try simp only [Int32.lt_iff_toInt_lt, Int32.le_iff_toInt_le, ← Int32.toInt_inj, Int32.toInt_toInt64, tiA, tlA]); omega)) (by first | omega | ((try simp only [Int32.lt_iff_toInt_lt, Int32.le_iff_toInt_le, ← Int32.toInt_inj, Int32.toInt_toInt64, tiA, tlA]); omega)), ?_⟩
        refine ⟨_, f_X8_renew ((xs (x3 + 1).toNatClampNeg)) ((xs (x3 + 2).toNatClampNeg)) ((xs (x3 + 3).toNatClampNeg)) hI.1 _ (ra_v hT) (ra_o hT), ?_⟩
        intro v795 lg791 it792 hq796
        have hI793 : IL lg791 it792 := il_8 hI hq796.1.1 hq796.1.2 (fun j hj => by first | omega | exact False.elim hj | (dsimp only at hj; omega))
        try have f797 : ((x3 + 1) : Int32).toInt = (x3).toInt + 1 := ad32 (a := (x3).toInt) (b := 1) (rfl) (ti_1) (by omega) (by omega)
        refine ⟨vp_of (by first | omega | ((try simp only [Int32.lt_iff_toInt_lt, Int32.le_iff_toInt_le, ← Int32.toInt_inj, Int32.toInt_toInt64, tiA, tlA]); omega)) (by first | omega | ((try simp only [Int32.lt_iff_toInt_lt, Int32.le_iff_toInt_le, ← Int32.toInt_inj, Int32.toInt_toInt64, tiA, tlA]); omega)), ?_⟩
        try have f799 : ((x3 + 2) : Int32).toInt = (x3).toInt + 2 := ad32 (a := (x3).toInt) (b := 2) (rfl) (ti_2) (by omega) (by omega)
        refine ⟨vp_of (by first | omega | ((try simp only [Int32.lt_iff_toInt_lt, Int32.le_iff_toInt_le, ← Int32.toInt_inj, Int32.toInt_toInt64, tiA, tlA]); omega)) (by first | omega | ((try simp only [Int32.lt_iff_toInt_lt, Int32.le_iff_toInt_le, ← Int32.toInt_inj, Int32.toInt_toInt64, tiA, tlA]); omega)), ?_⟩
        try have f801 : ((x3 + 3) : Int32).toInt = (x3).toInt + 3 := ad32 (a := (x3).toInt) (b := 3) (rfl) (ti_3) (by omega) (by omega)
        refine ⟨vp_of (by first | omega | ((try simp only [Int32.lt_iff_toInt_lt, Int32.le_iff_toInt_le, ← Int32.toInt_inj, Int32.toInt_toInt64, tiA, tlA]); omega)) (by first | omega | ((try simp only [Int32.lt_iff_toInt_lt, Int32.le_iff_toInt_le, ← Int32.toInt_inj, Int32.toInt_toInt64, tiA, tlA]); omega)), ?_⟩
        have w809 := w9_8 hq796.1.2 (fun j hj => by first | omega | exact False.elim hj | (dsimp only at hj; omega))
        refine ⟨_, f_X9_renew ((xs (x3 + 1).toNatClampNeg)) ((xs (x3 + 2).toNatClampNeg)) ((xs (x3 + 3).toNatClampNeg)) hI793.2, ?_⟩
        intro v807 lg803 it804 hq808
        rw [w809] at hq808
        have hI805 : IL lg803 it804 := il_9 hI793 hq808.1.1 hq808.1.2 (fun j hj => by first | omega | exact False.elim hj | (dsimp only at hj; omega))
        have hT806 : RA lg803 it804 := ra_m hT _ (vo_rn (ra_o hT)) hq796.1.2 (fun j hj => by first | omega | exact False.elim hj | (dsimp only at hj; omega)) hq796.2.2 (ci_k (ra_c hT) hq796.1.2 (fun j hj => by first | omega | exact False.elim hj | (dsimp only at hj; omega))) hq808.1.2 hq808.2.2 (fun j hj => by first | omega | exact False.elim hj | (dsimp only at hj; omega)) (fun j hj => by first | omega | exact False.elim hj | (dsimp only at hj; omega))
        have f810 : (x3 + Int32.ofInt 6).toInt = x3.toInt + 6 := ad32 rfl (by decide) (by omega) (by omega)
        exact ih18 ((x3 + Int32.ofInt 6)) _ _ hI805 hT806 (by omega) (by omega)
      · skip
        try have f811 : ((x3 + 1) : Int32).toInt = (x3).toInt + 1 := ad32 (a := (x3).toInt) (b := 1) (rfl) (ti_1) (by omega) (by omega)
        refine ⟨vp_of (by first | omega | ((try simp only [Int32.lt_iff_toInt_lt, Int32.le_iff_toInt_le, ← Int32.toInt_inj, Int32.toInt_toInt64, tiA, tlA]); omega)) (by first | omega | ((try simp only [Int32.lt_iff_toInt_lt, Int32.le_iff_toInt_le, ← Int32.toInt_inj, Int32.toInt_toInt64, tiA, tlA]); omega)), ?_⟩
        refine ⟨_, f_X8_spring ((xs (x3 + 1).toNatClampNeg)) hI.1 _ (ra_v hT) (ra_o hT), ?_⟩
        intro v817 lg813 it814 hq818
        have hI815 : IL lg813 it814 := il_8 hI hq818.1.1 hq818.1.2 (fun j hj => by first | omega | exact False.elim hj | (dsimp only at hj; omega))
        try have f819 : ((x3 + 1) : Int32).toInt = (x3).toInt + 1 := ad32 (a := (x3).toInt) (b := 1) (rfl) (ti_1) (by omega) (by omega)
        refine ⟨vp_of (by first | omega | ((try simp only [Int32.lt_iff_toInt_lt, Int32.le_iff_toInt_le, ← Int32.toInt_inj, Int32.toInt_toInt64, tiA, tlA]); omega)) (by first | omega | ((try simp only [Int32.lt_iff_toInt_lt, Int32.le_iff_toInt_le, ← Int32.toInt_inj, Int32.toInt_toInt64, tiA, tlA]); omega)), ?_⟩
        have w827 := w9_8 hq818.1.2 (fun j hj => by first | omega | exact False.elim hj | (dsimp only at hj; omega))
        refine ⟨_, f_X9_spring ((xs (x3 + 1).toNatClampNeg)) hI815.2, ?_⟩
        intro v825 lg821 it822 hq826
        rw [w827] at hq826
        have hI823 : IL lg821 it822 := il_9 hI815 hq826.1.1 hq826.1.2 (fun j hj => by first | omega | exact False.elim hj | (dsimp only at hj; omega))
        have hT824 : RA lg821 it822 := ra_m hT _ (vo_sp (ra_o hT)) hq818.1.2 (fun j hj => by first | omega | exact False.elim hj | (dsimp only at hj; omega)) hq818.2.2 (ci_k (ra_c hT) hq818.1.2 (fun j hj => by first | omega | exact False.elim hj | (dsimp only at hj; omega))) hq826.1.2 hq826.2.2 (fun j hj => by first | omega | exact False.elim hj | (dsimp only at hj; omega)) (fun j hj => by first | omega | exact False.elim hj | (dsimp only at hj; omega))
        have f828 : (x3 + Int32.ofInt 6).toInt = x3.toInt + 6 := ad32 rfl (by decide) (by omega) (by omega)
        exact ih18 ((x3 + Int32.ofInt 6)) _ _ hI823 hT824 (by omega) (by omega)
      · skip
        try have f829 : ((x3 + 1) : Int32).toInt = (x3).toInt + 1 := ad32 (a := (x3).toInt) (b := 1) (rfl) (ti_1) (by omega) (by omega)
        refine ⟨vp_of (by first | omega | ((try simp only [Int32.lt_iff_toInt_lt, Int32.le_iff_toInt_le, ← Int32.toInt_inj, Int32.toInt_toInt64, tiA, tlA]); omega)) (by first | omega | ((try simp only [Int32.lt_iff_toInt_lt, Int32.le_iff_toInt_le, ← Int32.toInt_inj, Int32.toInt_toInt64, tiA, tlA]); omega)), ?_⟩
        try have f831 : ((x3 + 2) : Int32).toInt = (x3).toInt + 2 := ad32 (a := (x3).toInt) (b := 2) (rfl) (ti_2) (by omega) (by omega)
        refine ⟨vp_of (by first | omega | ((try simp only [Int32.lt_iff_toInt_lt, Int32.le_iff_toInt_le, ← Int32.toInt_inj, Int32.toInt_toInt64, tiA, tlA]); omega)) (by first | omega | ((try simp only [Int32.lt_iff_toInt_lt, Int32.le_iff_toInt_le, ← Int32.toInt_inj, Int32.toInt_toInt64, tiA, tlA]); omega)), ?_⟩
        refine ⟨_, f_X8_wall ((xs (x3 + 1).toNatClampNeg)) ((xs (x3 + 2).toNatClampNeg)) hI.1 _ (ra_v hT) (ra_o hT), ?_⟩
        intro v837 lg833 it834 hq838
        have hI835 : IL lg833 it834 := il_8 hI hq838.1.1 hq838.1.2 (fun j hj => by first | omega | exact False.elim hj | (dsimp only at hj; omega))
        try have f839 : ((x3 + 1) : Int32).toInt = (x3).toInt + 1 := ad32 (a := (x3).toInt) (b := 1) (rfl) (ti_1) (by omega) (by omega)
        refine ⟨vp_of (by first | omega | ((try simp only [Int32.lt_iff_toInt_lt, Int32.le_iff_toInt_le, ← Int32.toInt_inj, Int32.toInt_toInt64, tiA, tlA]); omega)) (by first | omega | ((try simp only [Int32.lt_iff_toInt_lt, Int32.le_iff_toInt_le, ← Int32.toInt_inj, Int32.toInt_toInt64, tiA, tlA]); omega)), ?_⟩
        try have f841 : ((x3 + 2) : Int32).toInt = (x3).toInt + 2 := ad32 (a := (x3).toInt) (b := 2) (rfl) (ti_2) (by omega) (by omega)
        refine ⟨vp_of (by first | omega | ((try simp only [Int32.lt_iff_toInt_lt, Int32.le_iff_toInt_le, ← Int32.toInt_inj, Int32.toInt_toInt64, tiA, tlA]); omega)) (by first | omega | ((try simp only [Int32.lt_iff_toInt_lt, Int32.le_iff_toInt_le, ← Int32.toInt_inj, Int32.toInt_toInt64, tiA, tlA]); omega)), ?_⟩
        have w849 := w9_8 hq838.1.2 (fun j hj => by first | omega | exact False.elim hj | (dsimp only at hj; omega))
        refine ⟨_, f_X9_wall ((xs (x3 + 1).toNatClampNeg)) ((xs (x3 + 2).toNatClampNeg)) hI835.2 (by rw [w849]; exact ra_o hT), ?_⟩
        intro v847 lg843 it844 hq848
        rw [w849] at hq848
        have hI845 : IL lg843 it844 := il_9 hI835 hq848.1.1 hq848.1.2 (fun j hj => by first | omega | exact False.elim hj | (dsimp only at hj; omega))
        have hT846 : RA lg843 it844 := ra_m hT _ (vo_wl (ra_o hT)) hq838.1.2 (fun j hj => by first | omega | exact False.elim hj | (dsimp only at hj; omega)) hq838.2.2 (ci_k (ra_c hT) hq838.1.2 (fun j hj => by first | omega | exact False.elim hj | (dsimp only at hj; omega))) hq848.1.2 hq848.2.2 (fun j hj => by first | omega | exact False.elim hj | (dsimp only at hj; omega)) (fun j hj => by first | omega | exact False.elim hj | (dsimp only at hj; omega))
        have f850 : (x3 + Int32.ofInt 6).toInt = x3.toInt + 6 := ad32 rfl (by decide) (by omega) (by omega)
        exact ih18 ((x3 + Int32.ofInt 6)) _ _ hI845 hT846 (by omega) (by omega)
      · skip
        try have f851 : ((x3 + 1) : Int32).toInt = (x3).toInt + 1 := ad32 (a := (x3).toInt) (b := 1) (rfl) (ti_1) (by omega) (by omega)
        refine ⟨vp_of (by first | omega | ((try simp only [Int32.lt_iff_toInt_lt, Int32.le_iff_toInt_le, ← Int32.toInt_inj, Int32.toInt_toInt64, tiA, tlA]); omega)) (by first | omega | ((try simp only [Int32.lt_iff_toInt_lt, Int32.le_iff_toInt_le, ← Int32.toInt_inj, Int32.toInt_toInt64, tiA, tlA]); omega)), ?_⟩
        refine ⟨_, f_X8_go ((xs (x3 + 1).toNatClampNeg)) hI.1 _ (ra_v hT) (ra_o hT) (ra_c hT), ?_⟩
        intro v857 lg853 it854 hq858
        have hI855 : IL lg853 it854 := il_8 hI hq858.1.1 hq858.1.2 (fun j hj => by first | omega | exact False.elim hj | (dsimp only at hj; omega))
        try have f859 : ((x3 + 1) : Int32).toInt = (x3).toInt + 1 := ad32 (a := (x3).toInt) (b := 1) (rfl) (ti_1) (by omega) (by omega)
        refine ⟨vp_of (by first | omega | ((try simp only [Int32.lt_iff_toInt_lt, Int32.le_iff_toInt_le, ← Int32.toInt_inj, Int32.toInt_toInt64, tiA, tlA]); omega)) (by first | omega | ((try simp only [Int32.lt_iff_toInt_lt, Int32.le_iff_toInt_le, ← Int32.toInt_inj, Int32.toInt_toInt64, tiA, tlA]); omega)), ?_⟩
        have w867 := w9_8 hq858.1.2 (fun j hj => by first | omega | exact False.elim hj | (dsimp only at hj; omega))
        refine ⟨_, f_X9_go ((xs (x3 + 1).toNatClampNeg)) hI855.2 (by rw [w867]; exact ra_o hT), ?_⟩
        intro v865 lg861 it862 hq866
        rw [w867] at hq866
        have hI863 : IL lg861 it862 := il_9 hI855 hq866.1.1 hq866.1.2 (fun j hj => by first | omega | exact False.elim hj | (dsimp only at hj; omega))
        have hT864 : RA lg861 it862 := ra_m hT _ (vo_go (ra_o hT)) hq858.1.2 (fun j hj => by first | omega | exact False.elim hj | (dsimp only at hj; omega)) hq858.2.1.2 hq858.2.2 hq866.1.2 hq866.2.2 (fun j hj => by first | omega | exact False.elim hj | (dsimp only at hj; omega)) (fun j hj => by first | omega | exact False.elim hj | (dsimp only at hj; omega))
        have f868 : (x3 + Int32.ofInt 6).toInt = x3.toInt + 6 := ad32 rfl (by decide) (by omega) (by omega)
        exact ih18 ((x3 + Int32.ofInt 6)) _ _ hI863 hT864 (by omega) (by omega)
      · skip
        try have f869 : ((x3 + 1) : Int32).toInt = (x3).toInt + 1 := ad32 (a := (x3).toInt) (b := 1) (rfl) (ti_1) (by omega) (by omega)
        refine ⟨vp_of (by first | omega | ((try simp only [Int32.lt_iff_toInt_lt, Int32.le_iff_toInt_le, ← Int32.toInt_inj, Int32.toInt_toInt64, tiA, tlA]); omega)) (by first | omega | ((try simp only [Int32.lt_iff_toInt_lt, Int32.le_iff_toInt_le, ← Int32.toInt_inj, Int32.toInt_toInt64, tiA, tlA]); omega)), ?_⟩
        refine ⟨_, f_X8_feed ((xs (x3 + 1).toNatClampNeg)) hI.1, ?_⟩
        intro v875 lg871 it872 hq876
        have hI873 : IL lg871 it872 := il_8 hI hq876.1.1 hq876.1.2 (fun j hj => by first | omega | exact False.elim hj | (dsimp only at hj; omega))
        try have f877 : ((x3 + 1) : Int32).toInt = (x3).toInt + 1 := ad32 (a := (x3).toInt) (b := 1) (rfl) (ti_1) (by omega) (by omega)
        refine ⟨vp_of (by first | omega | ((try simp only [Int32.lt_iff_toInt_lt, Int32.le_iff_toInt_le, ← Int32.toInt_inj, Int32.toInt_toInt64, tiA, tlA]); omega)) (by first | omega | ((try simp only [Int32.lt_iff_toInt_lt, Int32.le_iff_toInt_le, ← Int32.toInt_inj, Int32.toInt_toInt64, tiA, tlA]); omega)), ?_⟩
        refine ⟨_, f_X9_feed ((xs (x3 + 1).toNatClampNeg)) hI873.2, ?_⟩
        intro v883 lg879 it880 hq884
        have hI881 : IL lg879 it880 := il_9 hI873 hq884.1.1 hq884.1.2 (fun j hj => by first | omega | exact False.elim hj | (dsimp only at hj; omega))
        have pr886 := ra_feed hT hI.1 hq876.1.2 hq876.2 hq884.1.2 hq884.2 (fun j hj => by first | omega | exact False.elim hj | (dsimp only at hj; omega)) (fun j hj => by first | omega | exact False.elim hj | (dsimp only at hj; omega))
        have f887 : (x3 + Int32.ofInt 6).toInt = x3.toInt + 6 := ad32 rfl (by decide) (by omega) (by omega)
        exact ih18 ((x3 + Int32.ofInt 6)) _ _ hI881 pr886.1 (by omega) (by omega)
      · skip
        refine ⟨_, f_X8_read hI.1 _ (ra_v hT) (ra_o hT) (ra_c hT) (ra_p hT), ?_⟩
        intro v892 lg888 it889 hq893
        have hI890 : IL lg888 it889 := il_8 hI hq893.1.1 hq893.1.2 (fun j hj => s8r_lt hj)
        have w900 := w9_8 hq893.1.2 (fun j hj => s8r_lt hj)
        refine ⟨_, f_X9_read  hI890.2 (by rw [w900]; exact ra_o hT), ?_⟩
        intro v898 lg894 it895 hq899
        rw [w900, tx9_8 hq893.1.2 (fun j hj => s8r_lt hj)] at hq899
        rw [tx_rd hT] at hq893
        have hI896 : IL lg894 it895 := il_9 hI890 hq899.1.1 hq899.1.2 (fun j hj => by unfold R9s D9s at hj; omega)
        have hT897 : RA lg894 it895 := ra_read hT _ (vo_rd (ra_o hT)) hq893.1.2 hq893.2.1.2 hq893.2.2.1 hq893.2.2.2 hq899.1.2 hq899.2.1.2 hq899.2.2 (fun j hj => by unfold R9s D9s at hj; omega) (fun k hk => by unfold R9f D9f at hk; omega)
        have f901 : (x3 + Int32.ofInt 6).toInt = x3.toInt + 6 := ad32 rfl (by decide) (by omega) (by omega)
        exact ih18 ((x3 + Int32.ofInt 6)) _ _ hI896 hT897 (by omega) (by omega)
      · skip
        try have f902 : ((x3 + 1) : Int32).toInt = (x3).toInt + 1 := ad32 (a := (x3).toInt) (b := 1) (rfl) (ti_1) (by omega) (by omega)
        refine ⟨vp_of (by first | omega | ((try simp only [Int32.lt_iff_toInt_lt, Int32.le_iff_toInt_le, ← Int32.toInt_inj, Int32.toInt_toInt64, tiA, tlA]); omega)) (by first | omega | ((try simp only [Int32.lt_iff_toInt_lt, Int32.le_iff_toInt_le, ← Int32.toInt_inj, Int32.toInt_toInt64, tiA, tlA]); omega)), ?_⟩
        try have f904 : ((x3 + 2) : Int32).toInt = (x3).toInt + 2 := ad32 (a := (x3).toInt) (b := 2) (rfl) (ti_2) (by omega) (by omega)
        refine ⟨vp_of (by first | omega | ((try simp only [Int32.lt_iff_toInt_lt, Int32.le_iff_toInt_le, ← Int32.toInt_inj, Int32.toInt_toInt64, tiA, tlA]); omega)) (by first | omega | ((try simp only [Int32.lt_iff_toInt_lt, Int32.le_iff_toInt_le, ← Int32.toInt_inj, Int32.toInt_toInt64, tiA, tlA]); omega)), ?_⟩
        try have f906 : ((x3 + 3) : Int32).toInt = (x3).toInt + 3 := ad32 (a := (x3).toInt) (b := 3) (rfl) (ti_3) (by omega) (by omega)
        refine ⟨vp_of (by first | omega | ((try simp only [Int32.lt_iff_toInt_lt, Int32.le_iff_toInt_le, ← Int32.toInt_inj, Int32.toInt_toInt64, tiA, tlA]); omega)) (by first | omega | ((try simp only [Int32.lt_iff_toInt_lt, Int32.le_iff_toInt_le, ← Int32.toInt_inj, Int32.toInt_toInt64, tiA, tlA]); omega)), ?_⟩
        refine ⟨_, f_X8_of ((xs (x3 + 1).toNatClampNeg)) ((xs (x3 + 2).toNatClampNeg)) ((xs (x3 + 3).toNatClampNeg)) hI.1 _ (ra_v hT), ?_⟩
        intro v912 lg908 it909 hq913
        have hI910 : IL lg908 it909 := il_8 hI hq913.1.1 hq913.1.2 (fun j hj => by first | omega | exact False.elim hj | (dsimp only at hj; omega))
        have hT911 : RA lg908 it909 := ra_8 hT hq913.1.2 (fun j hj => by first | omega | exact False.elim hj | (dsimp only at hj; omega))
        try have f914 : ((x3 + 1) : Int32).toInt = (x3).toInt + 1 := ad32 (a := (x3).toInt) (b := 1) (rfl) (ti_1) (by omega) (by omega)
        refine ⟨vp_of (by first | omega | ((try simp only [Int32.lt_iff_toInt_lt, Int32.le_iff_toInt_le, ← Int32.toInt_inj, Int32.toInt_toInt64, tiA, tlA]); omega)) (by first | omega | ((try simp only [Int32.lt_iff_toInt_lt, Int32.le_iff_toInt_le, ← Int32.toInt_inj, Int32.toInt_toInt64, tiA, tlA]); omega)), ?_⟩
        try have f916 : ((x3 + 2) : Int32).toInt = (x3).toInt + 2 := ad32 (a := (x3).toInt) (b := 2) (rfl) (ti_2) (by omega) (by omega)
        refine ⟨vp_of (by first | omega | ((try simp only [Int32.lt_iff_toInt_lt, Int32.le_iff_toInt_le, ← Int32.toInt_inj, Int32.toInt_toInt64, tiA, tlA]); omega)) (by first | omega | ((try simp only [Int32.lt_iff_toInt_lt, Int32.le_iff_toInt_le, ← Int32.toInt_inj, Int32.toInt_toInt64, tiA, tlA]); omega)), ?_⟩
        try have f918 : ((x3 + 3) : Int32).toInt = (x3).toInt + 3 := ad32 (a := (x3).toInt) (b := 3) (rfl) (ti_3) (by omega) (by omega)
        refine ⟨vp_of (by first | omega | ((try simp only [Int32.lt_iff_toInt_lt, Int32.le_iff_toInt_le, ← Int32.toInt_inj, Int32.toInt_toInt64, tiA, tlA]); omega)) (by first | omega | ((try simp only [Int32.lt_iff_toInt_lt, Int32.le_iff_toInt_le, ← Int32.toInt_inj, Int32.toInt_toInt64, tiA, tlA]); omega)), ?_⟩
        refine ⟨_, s_X9_of ((xs (x3 + 1).toNatClampNeg)) ((xs (x3 + 2).toNatClampNeg)) ((xs (x3 + 3).toNatClampNeg)) hI910.2, ?_⟩
        intro v924 lg920 it921 hq925
        have hI922 : IL lg920 it921 := il_9 hI910 hq925.1 hq925.2 (fun j hj => by first | omega | exact False.elim hj | (dsimp only at hj; omega))
        have hT923 : RA lg920 it921 := ra_9 hT911 hq925.2 (fun j hj => by first | omega | exact False.elim hj | (dsimp only at hj; omega)) (fun j hj => by first | omega | exact False.elim hj | (dsimp only at hj; omega))
        have f927 : (x3 + Int32.ofInt 6).toInt = x3.toInt + 6 := ad32 rfl (by decide) (by omega) (by omega)
        exact ih18 ((x3 + Int32.ofInt 6)) _ _ hI922 hT923 (by omega) (by omega)
      · skip
        try have f928 : ((x3 + 1) : Int32).toInt = (x3).toInt + 1 := ad32 (a := (x3).toInt) (b := 1) (rfl) (ti_1) (by omega) (by omega)
        refine ⟨vp_of (by first | omega | ((try simp only [Int32.lt_iff_toInt_lt, Int32.le_iff_toInt_le, ← Int32.toInt_inj, Int32.toInt_toInt64, tiA, tlA]); omega)) (by first | omega | ((try simp only [Int32.lt_iff_toInt_lt, Int32.le_iff_toInt_le, ← Int32.toInt_inj, Int32.toInt_toInt64, tiA, tlA]); omega)), ?_⟩
        refine ⟨_, f_X8_told ((xs (x3 + 1).toNatClampNeg)) hI.1 _ (ra_v hT) (ra_o hT) (ra_c hT), ?_⟩
        intro v934 lg930 it931 hq935
        have hI932 : IL lg930 it931 := il_8 hI hq935.1.1 hq935.1.2 (fun j hj => by first | omega | exact False.elim hj | (dsimp only at hj; omega))
        have hT933 : RA lg930 it931 := ra_q hT hq935.1.2 hq935.2.2 (fun j hj => by first | omega | exact False.elim hj | (dsimp only at hj; omega))
        try have f936 : ((x3 + 1) : Int32).toInt = (x3).toInt + 1 := ad32 (a := (x3).toInt) (b := 1) (rfl) (ti_1) (by omega) (by omega)
        refine ⟨vp_of (by first | omega | ((try simp only [Int32.lt_iff_toInt_lt, Int32.le_iff_toInt_le, ← Int32.toInt_inj, Int32.toInt_toInt64, tiA, tlA]); omega)) (by first | omega | ((try simp only [Int32.lt_iff_toInt_lt, Int32.le_iff_toInt_le, ← Int32.toInt_inj, Int32.toInt_toInt64, tiA, tlA]); omega)), ?_⟩
        refine ⟨_, s_X9_told ((xs (x3 + 1).toNatClampNeg)) hI932.2, ?_⟩
        intro v942 lg938 it939 hq943
        have hI940 : IL lg938 it939 := il_9 hI932 hq943.1 hq943.2 (fun j hj => by first | omega | exact False.elim hj | (dsimp only at hj; omega))
        have hT941 : RA lg938 it939 := ra_9 hT933 hq943.2 (fun j hj => by first | omega | exact False.elim hj | (dsimp only at hj; omega)) (fun j hj => by first | omega | exact False.elim hj | (dsimp only at hj; omega))
        have f945 : (x3 + Int32.ofInt 6).toInt = x3.toInt + 6 := ad32 rfl (by decide) (by omega) (by omega)
        exact ih18 ((x3 + Int32.ofInt 6)) _ _ hI940 hT941 (by omega) (by omega)
      · skip
        try have f946 : ((x3 + 1) : Int32).toInt = (x3).toInt + 1 := ad32 (a := (x3).toInt) (b := 1) (rfl) (ti_1) (by omega) (by omega)
        refine ⟨vp_of (by first | omega | ((try simp only [Int32.lt_iff_toInt_lt, Int32.le_iff_toInt_le, ← Int32.toInt_inj, Int32.toInt_toInt64, tiA, tlA]); omega)) (by first | omega | ((try simp only [Int32.lt_iff_toInt_lt, Int32.le_iff_toInt_le, ← Int32.toInt_inj, Int32.toInt_toInt64, tiA, tlA]); omega)), ?_⟩
        try have f948 : ((x3 + 2) : Int32).toInt = (x3).toInt + 2 := ad32 (a := (x3).toInt) (b := 2) (rfl) (ti_2) (by omega) (by omega)
        refine ⟨vp_of (by first | omega | ((try simp only [Int32.lt_iff_toInt_lt, Int32.le_iff_toInt_le, ← Int32.toInt_inj, Int32.toInt_toInt64, tiA, tlA]); omega)) (by first | omega | ((try simp only [Int32.lt_iff_toInt_lt, Int32.le_iff_toInt_le, ← Int32.toInt_inj, Int32.toInt_toInt64, tiA, tlA]); omega)), ?_⟩
        refine ⟨_, s_X8_push ((xs (x3 + 1).toNatClampNeg)) ((xs (x3 + 2).toNatClampNeg)) hI.1, ?_⟩
        intro v954 lg950 it951 hq955
        have hI952 : IL lg950 it951 := il_8 hI hq955.1 hq955.2 (fun j hj => by first | omega | exact False.elim hj | (dsimp only at hj; omega))
        have hT953 : RA lg950 it951 := ra_8 hT hq955.2 (fun j hj => by first | omega | exact False.elim hj | (dsimp only at hj; omega))
        try have f956 : ((x3 + 1) : Int32).toInt = (x3).toInt + 1 := ad32 (a := (x3).toInt) (b := 1) (rfl) (ti_1) (by omega) (by omega)
        refine ⟨vp_of (by first | omega | ((try simp only [Int32.lt_iff_toInt_lt, Int32.le_iff_toInt_le, ← Int32.toInt_inj, Int32.toInt_toInt64, tiA, tlA]); omega)) (by first | omega | ((try simp only [Int32.lt_iff_toInt_lt, Int32.le_iff_toInt_le, ← Int32.toInt_inj, Int32.toInt_toInt64, tiA, tlA]); omega)), ?_⟩
        try have f958 : ((x3 + 2) : Int32).toInt = (x3).toInt + 2 := ad32 (a := (x3).toInt) (b := 2) (rfl) (ti_2) (by omega) (by omega)
        refine ⟨vp_of (by first | omega | ((try simp only [Int32.lt_iff_toInt_lt, Int32.le_iff_toInt_le, ← Int32.toInt_inj, Int32.toInt_toInt64, tiA, tlA]); omega)) (by first | omega | ((try simp only [Int32.lt_iff_toInt_lt, Int32.le_iff_toInt_le, ← Int32.toInt_inj, Int32.toInt_toInt64, tiA, tlA]); omega)), ?_⟩
        refine ⟨_, s_X9_push ((xs (x3 + 1).toNatClampNeg)) ((xs (x3 + 2).toNatClampNeg)) hI952.2, ?_⟩
        intro v964 lg960 it961 hq965
        have hI962 : IL lg960 it961 := il_9 hI952 hq965.1 hq965.2 (fun j hj => by first | omega | exact False.elim hj | (dsimp only at hj; omega))
        have hT963 : RA lg960 it961 := ra_9 hT953 hq965.2 (fun j hj => by first | omega | exact False.elim hj | (dsimp only at hj; omega)) (fun j hj => by first | omega | exact False.elim hj | (dsimp only at hj; omega))
        have f967 : (x3 + Int32.ofInt 6).toInt = x3.toInt + 6 := ad32 rfl (by decide) (by omega) (by omega)
        exact ih18 ((x3 + Int32.ofInt 6)) _ _ hI962 hT963 (by omega) (by omega)
      · skip
        try have f968 : ((x3 + 1) : Int32).toInt = (x3).toInt + 1 := ad32 (a := (x3).toInt) (b := 1) (rfl) (ti_1) (by omega) (by omega)
        refine ⟨vp_of (by first | omega | ((try simp only [Int32.lt_iff_toInt_lt, Int32.le_iff_toInt_le, ← Int32.toInt_inj, Int32.toInt_toInt64, tiA, tlA]); omega)) (by first | omega | ((try simp only [Int32.lt_iff_toInt_lt, Int32.le_iff_toInt_le, ← Int32.toInt_inj, Int32.toInt_toInt64, tiA, tlA]); omega)), ?_⟩
        refine ⟨_, f_X8_where ((xs (x3 + 1).toNatClampNeg)) hI.1 _ (ra_v hT) (ra_o hT) (ra_c hT), ?_⟩
        intro v974 lg970 it971 hq975
        have hI972 : IL lg970 it971 := il_8 hI hq975.1.1 hq975.1.2 (fun j hj => by first | omega | exact False.elim hj | (dsimp only at hj; omega))
        have hT973 : RA lg970 it971 := ra_q hT hq975.1.2 hq975.2.2 (fun j hj => by first | omega | exact False.elim hj | (dsimp only at hj; omega))
        try have f976 : ((x3 + 1) : Int32).toInt = (x3).toInt + 1 := ad32 (a := (x3).toInt) (b := 1) (rfl) (ti_1) (by omega) (by omega)
        refine ⟨vp_of (by first | omega | ((try simp only [Int32.lt_iff_toInt_lt, Int32.le_iff_toInt_le, ← Int32.toInt_inj, Int32.toInt_toInt64, tiA, tlA]); omega)) (by first | omega | ((try simp only [Int32.lt_iff_toInt_lt, Int32.le_iff_toInt_le, ← Int32.toInt_inj, Int32.toInt_toInt64, tiA, tlA]); omega)), ?_⟩
        refine ⟨_, s_X9_where ((xs (x3 + 1).toNatClampNeg)) hI972.2, ?_⟩
        intro v982 lg978 it979 hq983
        have hI980 : IL lg978 it979 := il_9 hI972 hq983.1 hq983.2 (fun j hj => by first | omega | exact False.elim hj | (dsimp only at hj; omega))
        have hT981 : RA lg978 it979 := ra_9 hT973 hq983.2 (fun j hj => by first | omega | exact False.elim hj | (dsimp only at hj; omega)) (fun j hj => by first | omega | exact False.elim hj | (dsimp only at hj; omega))
        have f985 : (x3 + Int32.ofInt 6).toInt = x3.toInt + 6 := ad32 rfl (by decide) (by omega) (by omega)
        exact ih18 ((x3 + Int32.ofInt 6)) _ _ hI980 hT981 (by omega) (by omega)
      · skip
        try have f986 : ((x3 + 1) : Int32).toInt = (x3).toInt + 1 := ad32 (a := (x3).toInt) (b := 1) (rfl) (ti_1) (by omega) (by omega)
        refine ⟨vp_of (by first | omega | ((try simp only [Int32.lt_iff_toInt_lt, Int32.le_iff_toInt_le, ← Int32.toInt_inj, Int32.toInt_toInt64, tiA, tlA]); omega)) (by first | omega | ((try simp only [Int32.lt_iff_toInt_lt, Int32.le_iff_toInt_le, ← Int32.toInt_inj, Int32.toInt_toInt64, tiA, tlA]); omega)), ?_⟩
        try have f988 : ((x3 + 2) : Int32).toInt = (x3).toInt + 2 := ad32 (a := (x3).toInt) (b := 2) (rfl) (ti_2) (by omega) (by omega)
        refine ⟨vp_of (by first | omega | ((try simp only [Int32.lt_iff_toInt_lt, Int32.le_iff_toInt_le, ← Int32.toInt_inj, Int32.toInt_toInt64, tiA, tlA]); omega)) (by first | omega | ((try simp only [Int32.lt_iff_toInt_lt, Int32.le_iff_toInt_le, ← Int32.toInt_inj, Int32.toInt_toInt64, tiA, tlA]); omega)), ?_⟩
        refine ⟨_, f_X8_time ((xs (x3 + 1).toNatClampNeg)) ((xs (x3 + 2).toNatClampNeg)) hI.1 _ (ra_v hT) (ra_o hT) (ra_c hT), ?_⟩
        intro v994 lg990 it991 hq995
        have hI992 : IL lg990 it991 := il_8 hI hq995.1.1 hq995.1.2 (fun j hj => by first | omega | exact False.elim hj | (dsimp only at hj; omega))
        have hT993 : RA lg990 it991 := ra_q hT hq995.1.2 hq995.2.2 (fun j hj => by first | omega | exact False.elim hj | (dsimp only at hj; omega))
        try have f996 : ((x3 + 1) : Int32).toInt = (x3).toInt + 1 := ad32 (a := (x3).toInt) (b := 1) (rfl) (ti_1) (by omega) (by omega)
        refine ⟨vp_of (by first | omega | ((try simp only [Int32.lt_iff_toInt_lt, Int32.le_iff_toInt_le, ← Int32.toInt_inj, Int32.toInt_toInt64, tiA, tlA]); omega)) (by first | omega | ((try simp only [Int32.lt_iff_toInt_lt, Int32.le_iff_toInt_le, ← Int32.toInt_inj, Int32.toInt_toInt64, tiA, tlA]); omega)), ?_⟩
        try have f998 : ((x3 + 2) : Int32).toInt = (x3).toInt + 2 := ad32 (a := (x3).toInt) (b := 2) (rfl) (ti_2) (by omega) (by omega)
        refine ⟨vp_of (by first | omega | ((try simp only [Int32.lt_iff_toInt_lt, Int32.le_iff_toInt_le, ← Int32.toInt_inj, Int32.toInt_toInt64, tiA, tlA]); omega)) (by first | omega | ((try simp only [Int32.lt_iff_toInt_lt, Int32.le_iff_toInt_le, ← Int32.toInt_inj, Int32.toInt_toInt64, tiA, tlA]); omega)), ?_⟩
        refine ⟨_, s_X9_time ((xs (x3 + 1).toNatClampNeg)) ((xs (x3 + 2).toNatClampNeg)) hI992.2, ?_⟩
        intro v1004 lg1000 it1001 hq1005
        have hI1002 : IL lg1000 it1001 := il_9 hI992 hq1005.1 hq1005.2 (fun j hj => by first | omega | exact False.elim hj | (dsimp only at hj; omega))
        have hT1003 : RA lg1000 it1001 := ra_9 hT993 hq1005.2 (fun j hj => by first | omega | exact False.elim hj | (dsimp only at hj; omega)) (fun j hj => by first | omega | exact False.elim hj | (dsimp only at hj; omega))
        have f1007 : (x3 + Int32.ofInt 6).toInt = x3.toInt + 6 := ad32 rfl (by decide) (by omega) (by omega)
        exact ih18 ((x3 + Int32.ofInt 6)) _ _ hI1002 hT1003 (by omega) (by omega)
      · skip
        try have f1008 : ((x3 + 1) : Int32).toInt = (x3).toInt + 1 := ad32 (a := (x3).toInt) (b := 1) (rfl) (ti_1) (by omega) (by omega)
        refine ⟨vp_of (by first | omega | ((try simp only [Int32.lt_iff_toInt_lt, Int32.le_iff_toInt_le, ← Int32.toInt_inj, Int32.toInt_toInt64, tiA, tlA]); omega)) (by first | omega | ((try simp only [Int32.lt_iff_toInt_lt, Int32.le_iff_toInt_le, ← Int32.toInt_inj, Int32.toInt_toInt64, tiA, tlA]); omega)), ?_⟩
        try have f1010 : ((x3 + 2) : Int32).toInt = (x3).toInt + 2 := ad32 (a := (x3).toInt) (b := 2) (rfl) (ti_2) (by omega) (by omega)
        refine ⟨vp_of (by first | omega | ((try simp only [Int32.lt_iff_toInt_lt, Int32.le_iff_toInt_le, ← Int32.toInt_inj, Int32.toInt_toInt64, tiA, tlA]); omega)) (by first | omega | ((try simp only [Int32.lt_iff_toInt_lt, Int32.le_iff_toInt_le, ← Int32.toInt_inj, Int32.toInt_toInt64, tiA, tlA]); omega)), ?_⟩
        try have f1012 : ((x3 + 3) : Int32).toInt = (x3).toInt + 3 := ad32 (a := (x3).toInt) (b := 3) (rfl) (ti_3) (by omega) (by omega)
        refine ⟨vp_of (by first | omega | ((try simp only [Int32.lt_iff_toInt_lt, Int32.le_iff_toInt_le, ← Int32.toInt_inj, Int32.toInt_toInt64, tiA, tlA]); omega)) (by first | omega | ((try simp only [Int32.lt_iff_toInt_lt, Int32.le_iff_toInt_le, ← Int32.toInt_inj, Int32.toInt_toInt64, tiA, tlA]); omega)), ?_⟩
        try have f1014 : ((x3 + 4) : Int32).toInt = (x3).toInt + 4 := ad32 (a := (x3).toInt) (b := 4) (rfl) (ti_4) (by omega) (by omega)
        refine ⟨vp_of (by first | omega | ((try simp only [Int32.lt_iff_toInt_lt, Int32.le_iff_toInt_le, ← Int32.toInt_inj, Int32.toInt_toInt64, tiA, tlA]); omega)) (by first | omega | ((try simp only [Int32.lt_iff_toInt_lt, Int32.le_iff_toInt_le, ← Int32.toInt_inj, Int32.toInt_toInt64, tiA, tlA]); omega)), ?_⟩
        refine ⟨_, f_X8_behind ((xs (x3 + 1).toNatClampNeg)) ((xs (x3 + 2).toNatClampNeg)) ((xs (x3 + 3).toNatClampNeg)) ((xs (x3 + 4).toNatClampNeg)) hI.1 _ (ra_v hT) (ra_o hT) (ra_c hT), ?_⟩
        intro v1020 lg1016 it1017 hq1021
        have hI1018 : IL lg1016 it1017 := il_8 hI hq1021.1.1 hq1021.1.2 (fun j hj => by first | omega | exact False.elim hj | (dsimp only at hj; omega))
        have hT1019 : RA lg1016 it1017 := ra_q hT hq1021.1.2 hq1021.2.2 (fun j hj => by first | omega | exact False.elim hj | (dsimp only at hj; omega))
        try have f1022 : ((x3 + 1) : Int32).toInt = (x3).toInt + 1 := ad32 (a := (x3).toInt) (b := 1) (rfl) (ti_1) (by omega) (by omega)
        refine ⟨vp_of (by first | omega | ((try simp only [Int32.lt_iff_toInt_lt, Int32.le_iff_toInt_le, ← Int32.toInt_inj, Int32.toInt_toInt64, tiA, tlA]); omega)) (by first | omega | ((try simp only [Int32.lt_iff_toInt_lt, Int32.le_iff_toInt_le, ← Int32.toInt_inj, Int32.toInt_toInt64, tiA, tlA]); omega)), ?_⟩
        try have f1024 : ((x3 + 2) : Int32).toInt = (x3).toInt + 2 := ad32 (a := (x3).toInt) (b := 2) (rfl) (ti_2) (by omega) (by omega)
        refine ⟨vp_of (by first | omega | ((try simp only [Int32.lt_iff_toInt_lt, Int32.le_iff_toInt_le, ← Int32.toInt_inj, Int32.toInt_toInt64, tiA, tlA]); omega)) (by first | omega | ((try simp only [Int32.lt_iff_toInt_lt, Int32.le_iff_toInt_le, ← Int32.toInt_inj, Int32.toInt_toInt64, tiA, tlA]); omega)), ?_⟩
        try have f1026 : ((x3 + 3) : Int32).toInt = (x3).toInt + 3 := ad32 (a := (x3).toInt) (b := 3) (rfl) (ti_3) (by omega) (by omega)
        refine ⟨vp_of (by first | omega | ((try simp only [Int32.lt_iff_toInt_lt, Int32.le_iff_toInt_le, ← Int32.toInt_inj, Int32.toInt_toInt64, tiA, tlA]); omega)) (by first | omega | ((try simp only [Int32.lt_iff_toInt_lt, Int32.le_iff_toInt_le, ← Int32.toInt_inj, Int32.toInt_toInt64, tiA, tlA]); omega)), ?_⟩
        try have f1028 : ((x3 + 4) : Int32).toInt = (x3).toInt + 4 := ad32 (a := (x3).toInt) (b := 4) (rfl) (ti_4) (by omega) (by omega)
        refine ⟨vp_of (by first | omega | ((try simp only [Int32.lt_iff_toInt_lt, Int32.le_iff_toInt_le, ← Int32.toInt_inj, Int32.toInt_toInt64, tiA, tlA]); omega)) (by first | omega | ((try simp only [Int32.lt_iff_toInt_lt, Int32.le_iff_toInt_le, ← Int32.toInt_inj, Int32.toInt_toInt64, tiA, tlA]); omega)), ?_⟩
        refine ⟨_, s_X9_behind ((xs (x3 + 1).toNatClampNeg)) ((xs (x3 + 2).toNatClampNeg)) ((xs (x3 + 3).toNatClampNeg)) ((xs (x3 + 4).toNatClampNeg)) hI1018.2, ?_⟩
        intro v1034 lg1030 it1031 hq1035
        have hI1032 : IL lg1030 it1031 := il_9 hI1018 hq1035.1 hq1035.2 (fun j hj => by first | omega | exact False.elim hj | (dsimp only at hj; omega))
        have hT1033 : RA lg1030 it1031 := ra_9 hT1019 hq1035.2 (fun j hj => by first | omega | exact False.elim hj | (dsimp only at hj; omega)) (fun j hj => by first | omega | exact False.elim hj | (dsimp only at hj; omega))
        have f1037 : (x3 + Int32.ofInt 6).toInt = x3.toInt + 6 := ad32 rfl (by decide) (by omega) (by omega)
        exact ih18 ((x3 + Int32.ofInt 6)) _ _ hI1032 hT1033 (by omega) (by omega)
      · skip
        try have f1038 : ((x3 + 1) : Int32).toInt = (x3).toInt + 1 := ad32 (a := (x3).toInt) (b := 1) (rfl) (ti_1) (by omega) (by omega)
        refine ⟨vp_of (by first | omega | ((try simp only [Int32.lt_iff_toInt_lt, Int32.le_iff_toInt_le, ← Int32.toInt_inj, Int32.toInt_toInt64, tiA, tlA]); omega)) (by first | omega | ((try simp only [Int32.lt_iff_toInt_lt, Int32.le_iff_toInt_le, ← Int32.toInt_inj, Int32.toInt_toInt64, tiA, tlA]); omega)), ?_⟩
        try have f1040 : ((x3 + 2) : Int32).toInt = (x3).toInt + 2 := ad32 (a := (x3).toInt) (b := 2) (rfl) (ti_2) (by omega) (by omega)
        refine ⟨vp_of (by first | omega | ((try simp only [Int32.lt_iff_toInt_lt, Int32.le_iff_toInt_le, ← Int32.toInt_inj, Int32.toInt_toInt64, tiA, tlA]); omega)) (by first | omega | ((try simp only [Int32.lt_iff_toInt_lt, Int32.le_iff_toInt_le, ← Int32.toInt_inj, Int32.toInt_toInt64, tiA, tlA]); omega)), ?_⟩
        refine ⟨_, c_X8_then ((xs (x3 + 1).toNatClampNeg)) ((xs (x3 + 2).toNatClampNeg)) hI.1 _ (ra_v hT) (ra_o hT) (ra_c hT), ?_⟩
        intro v1046 lg1042 it1043 hq1047
        have hI1044 : IL lg1042 it1043 := il_8 hI hq1047.1 hq1047.2.1 (fun j hj => by first | omega | exact False.elim hj | (dsimp only at hj; omega))
        have hT1045 : RA lg1042 it1043 := ra_q hT hq1047.2.1 hq1047.2.2.1 (fun j hj => by first | omega | exact False.elim hj | (dsimp only at hj; omega))
        try have f1048 : ((x3 + 1) : Int32).toInt = (x3).toInt + 1 := ad32 (a := (x3).toInt) (b := 1) (rfl) (ti_1) (by omega) (by omega)
        refine ⟨vp_of (by first | omega | ((try simp only [Int32.lt_iff_toInt_lt, Int32.le_iff_toInt_le, ← Int32.toInt_inj, Int32.toInt_toInt64, tiA, tlA]); omega)) (by first | omega | ((try simp only [Int32.lt_iff_toInt_lt, Int32.le_iff_toInt_le, ← Int32.toInt_inj, Int32.toInt_toInt64, tiA, tlA]); omega)), ?_⟩
        try have f1050 : ((x3 + 2) : Int32).toInt = (x3).toInt + 2 := ad32 (a := (x3).toInt) (b := 2) (rfl) (ti_2) (by omega) (by omega)
        refine ⟨vp_of (by first | omega | ((try simp only [Int32.lt_iff_toInt_lt, Int32.le_iff_toInt_le, ← Int32.toInt_inj, Int32.toInt_toInt64, tiA, tlA]); omega)) (by first | omega | ((try simp only [Int32.lt_iff_toInt_lt, Int32.le_iff_toInt_le, ← Int32.toInt_inj, Int32.toInt_toInt64, tiA, tlA]); omega)), ?_⟩
        refine ⟨_, s_X9_then ((xs (x3 + 1).toNatClampNeg)) ((xs (x3 + 2).toNatClampNeg)) hI1044.2, ?_⟩
        intro v1056 lg1052 it1053 hq1057
        have hI1054 : IL lg1052 it1053 := il_9 hI1044 hq1057.1 hq1057.2 (fun j hj => by first | omega | exact False.elim hj | (dsimp only at hj; omega))
        have hT1055 : RA lg1052 it1053 := ra_9 hT1045 hq1057.2 (fun j hj => by first | omega | exact False.elim hj | (dsimp only at hj; omega)) (fun j hj => by first | omega | exact False.elim hj | (dsimp only at hj; omega))
        have f1059 : (x3 + Int32.ofInt 6).toInt = x3.toInt + 6 := ad32 rfl (by decide) (by omega) (by omega)
        exact ih18 ((x3 + Int32.ofInt 6)) _ _ hI1054 hT1055 (by omega) (by omega)
      · skip
        try have f1060 : ((x3 + 1) : Int32).toInt = (x3).toInt + 1 := ad32 (a := (x3).toInt) (b := 1) (rfl) (ti_1) (by omega) (by omega)
        refine ⟨vp_of (by first | omega | ((try simp only [Int32.lt_iff_toInt_lt, Int32.le_iff_toInt_le, ← Int32.toInt_inj, Int32.toInt_toInt64, tiA, tlA]); omega)) (by first | omega | ((try simp only [Int32.lt_iff_toInt_lt, Int32.le_iff_toInt_le, ← Int32.toInt_inj, Int32.toInt_toInt64, tiA, tlA]); omega)), ?_⟩
        refine ⟨_, c_X8_often ((xs (x3 + 1).toNatClampNeg)) hI.1 _ (ra_v hT) (ra_o hT) (ra_c hT), ?_⟩
        intro v1066 lg1062 it1063 hq1067
        have hI1064 : IL lg1062 it1063 := il_8 hI hq1067.1 hq1067.2.1 (fun j hj => by first | omega | exact False.elim hj | (dsimp only at hj; omega))
        have hT1065 : RA lg1062 it1063 := ra_q hT hq1067.2.1 hq1067.2.2.1 (fun j hj => by first | omega | exact False.elim hj | (dsimp only at hj; omega))
        try have f1068 : ((x3 + 1) : Int32).toInt = (x3).toInt + 1 := ad32 (a := (x3).toInt) (b := 1) (rfl) (ti_1) (by omega) (by omega)
        refine ⟨vp_of (by first | omega | ((try simp only [Int32.lt_iff_toInt_lt, Int32.le_iff_toInt_le, ← Int32.toInt_inj, Int32.toInt_toInt64, tiA, tlA]); omega)) (by first | omega | ((try simp only [Int32.lt_iff_toInt_lt, Int32.le_iff_toInt_le, ← Int32.toInt_inj, Int32.toInt_toInt64, tiA, tlA]); omega)), ?_⟩
        refine ⟨_, s_X9_often ((xs (x3 + 1).toNatClampNeg)) hI1064.2, ?_⟩
        intro v1074 lg1070 it1071 hq1075
        have hI1072 : IL lg1070 it1071 := il_9 hI1064 hq1075.1 hq1075.2 (fun j hj => by first | omega | exact False.elim hj | (dsimp only at hj; omega))
        have hT1073 : RA lg1070 it1071 := ra_9 hT1065 hq1075.2 (fun j hj => by first | omega | exact False.elim hj | (dsimp only at hj; omega)) (fun j hj => by first | omega | exact False.elim hj | (dsimp only at hj; omega))
        have f1077 : (x3 + Int32.ofInt 6).toInt = x3.toInt + 6 := ad32 rfl (by decide) (by omega) (by omega)
        exact ih18 ((x3 + Int32.ofInt 6)) _ _ hI1072 hT1073 (by omega) (by omega)
      · skip
        try have f1078 : ((x3 + 1) : Int32).toInt = (x3).toInt + 1 := ad32 (a := (x3).toInt) (b := 1) (rfl) (ti_1) (by omega) (by omega)
        refine ⟨vp_of (by first | omega | ((try simp only [Int32.lt_iff_toInt_lt, Int32.le_iff_toInt_le, ← Int32.toInt_inj, Int32.toInt_toInt64, tiA, tlA]); omega)) (by first | omega | ((try simp only [Int32.lt_iff_toInt_lt, Int32.le_iff_toInt_le, ← Int32.toInt_inj, Int32.toInt_toInt64, tiA, tlA]); omega)), ?_⟩
        try have f1080 : ((x3 + 2) : Int32).toInt = (x3).toInt + 2 := ad32 (a := (x3).toInt) (b := 2) (rfl) (ti_2) (by omega) (by omega)
        refine ⟨vp_of (by first | omega | ((try simp only [Int32.lt_iff_toInt_lt, Int32.le_iff_toInt_le, ← Int32.toInt_inj, Int32.toInt_toInt64, tiA, tlA]); omega)) (by first | omega | ((try simp only [Int32.lt_iff_toInt_lt, Int32.le_iff_toInt_le, ← Int32.toInt_inj, Int32.toInt_toInt64, tiA, tlA]); omega)), ?_⟩
        try have f1082 : ((x3 + 3) : Int32).toInt = (x3).toInt + 3 := ad32 (a := (x3).toInt) (b := 3) (rfl) (ti_3) (by omega) (by omega)
        refine ⟨vp_of (by first | omega | ((try simp only [Int32.lt_iff_toInt_lt, Int32.le_iff_toInt_le, ← Int32.toInt_inj, Int32.toInt_toInt64, tiA, tlA]); omega)) (by first | omega | ((try simp only [Int32.lt_iff_toInt_lt, Int32.le_iff_toInt_le, ← Int32.toInt_inj, Int32.toInt_toInt64, tiA, tlA]); omega)), ?_⟩
        refine ⟨_, c_X8_at ((xs (x3 + 1).toNatClampNeg)) ((xs (x3 + 2).toNatClampNeg)) ((xs (x3 + 3).toNatClampNeg)) hI.1 _ (ra_v hT) (ra_o hT) (ra_c hT), ?_⟩
        intro v1088 lg1084 it1085 hq1089
        have hI1086 : IL lg1084 it1085 := il_8 hI hq1089.1 hq1089.2.1 (fun j hj => by first | omega | exact False.elim hj | (dsimp only at hj; omega))
        have hT1087 : RA lg1084 it1085 := ra_q hT hq1089.2.1 hq1089.2.2.1 (fun j hj => by first | omega | exact False.elim hj | (dsimp only at hj; omega))
        try have f1090 : ((x3 + 1) : Int32).toInt = (x3).toInt + 1 := ad32 (a := (x3).toInt) (b := 1) (rfl) (ti_1) (by omega) (by omega)
        refine ⟨vp_of (by first | omega | ((try simp only [Int32.lt_iff_toInt_lt, Int32.le_iff_toInt_le, ← Int32.toInt_inj, Int32.toInt_toInt64, tiA, tlA]); omega)) (by first | omega | ((try simp only [Int32.lt_iff_toInt_lt, Int32.le_iff_toInt_le, ← Int32.toInt_inj, Int32.toInt_toInt64, tiA, tlA]); omega)), ?_⟩
        try have f1092 : ((x3 + 2) : Int32).toInt = (x3).toInt + 2 := ad32 (a := (x3).toInt) (b := 2) (rfl) (ti_2) (by omega) (by omega)
        refine ⟨vp_of (by first | omega | ((try simp only [Int32.lt_iff_toInt_lt, Int32.le_iff_toInt_le, ← Int32.toInt_inj, Int32.toInt_toInt64, tiA, tlA]); omega)) (by first | omega | ((try simp only [Int32.lt_iff_toInt_lt, Int32.le_iff_toInt_le, ← Int32.toInt_inj, Int32.toInt_toInt64, tiA, tlA]); omega)), ?_⟩
        try have f1094 : ((x3 + 3) : Int32).toInt = (x3).toInt + 3 := ad32 (a := (x3).toInt) (b := 3) (rfl) (ti_3) (by omega) (by omega)
        refine ⟨vp_of (by first | omega | ((try simp only [Int32.lt_iff_toInt_lt, Int32.le_iff_toInt_le, ← Int32.toInt_inj, Int32.toInt_toInt64, tiA, tlA]); omega)) (by first | omega | ((try simp only [Int32.lt_iff_toInt_lt, Int32.le_iff_toInt_le, ← Int32.toInt_inj, Int32.toInt_toInt64, tiA, tlA]); omega)), ?_⟩
        refine ⟨_, s_X9_at ((xs (x3 + 1).toNatClampNeg)) ((xs (x3 + 2).toNatClampNeg)) ((xs (x3 + 3).toNatClampNeg)) hI1086.2, ?_⟩
        intro v1100 lg1096 it1097 hq1101
        have hI1098 : IL lg1096 it1097 := il_9 hI1086 hq1101.1 hq1101.2 (fun j hj => by first | omega | exact False.elim hj | (dsimp only at hj; omega))
        have hT1099 : RA lg1096 it1097 := ra_9 hT1087 hq1101.2 (fun j hj => by first | omega | exact False.elim hj | (dsimp only at hj; omega)) (fun j hj => by first | omega | exact False.elim hj | (dsimp only at hj; omega))
        have f1103 : (x3 + Int32.ofInt 6).toInt = x3.toInt + 6 := ad32 rfl (by decide) (by omega) (by omega)
        exact ih18 ((x3 + Int32.ofInt 6)) _ _ hI1098 hT1099 (by omega) (by omega)
      · skip
        try have f1104 : ((x3 + 1) : Int32).toInt = (x3).toInt + 1 := ad32 (a := (x3).toInt) (b := 1) (rfl) (ti_1) (by omega) (by omega)
        refine ⟨vp_of (by first | omega | ((try simp only [Int32.lt_iff_toInt_lt, Int32.le_iff_toInt_le, ← Int32.toInt_inj, Int32.toInt_toInt64, tiA, tlA]); omega)) (by first | omega | ((try simp only [Int32.lt_iff_toInt_lt, Int32.le_iff_toInt_le, ← Int32.toInt_inj, Int32.toInt_toInt64, tiA, tlA]); omega)), ?_⟩
        try have f1106 : ((x3 + 2) : Int32).toInt = (x3).toInt + 2 := ad32 (a := (x3).toInt) (b := 2) (rfl) (ti_2) (by omega) (by omega)
        refine ⟨vp_of (by first | omega | ((try simp only [Int32.lt_iff_toInt_lt, Int32.le_iff_toInt_le, ← Int32.toInt_inj, Int32.toInt_toInt64, tiA, tlA]); omega)) (by first | omega | ((try simp only [Int32.lt_iff_toInt_lt, Int32.le_iff_toInt_le, ← Int32.toInt_inj, Int32.toInt_toInt64, tiA, tlA]); omega)), ?_⟩
        refine ⟨_, f_X8_see ((xs (x3 + 1).toNatClampNeg)) ((xs (x3 + 2).toNatClampNeg)) hI.1, ?_⟩
        intro v1112 lg1108 it1109 hq1113
        have hI1110 : IL lg1108 it1109 := il_8 hI hq1113.1.1 hq1113.1.2 (fun j hj => by first | omega | exact False.elim hj | (dsimp only at hj; omega))
        have hT1111 : RA lg1108 it1109 := ra_st hT hq1113.1.2 (fun j hj => by first | omega | exact False.elim hj | (dsimp only at hj; omega)) hq1113.2.2
        try have f1114 : ((x3 + 1) : Int32).toInt = (x3).toInt + 1 := ad32 (a := (x3).toInt) (b := 1) (rfl) (ti_1) (by omega) (by omega)
        refine ⟨vp_of (by first | omega | ((try simp only [Int32.lt_iff_toInt_lt, Int32.le_iff_toInt_le, ← Int32.toInt_inj, Int32.toInt_toInt64, tiA, tlA]); omega)) (by first | omega | ((try simp only [Int32.lt_iff_toInt_lt, Int32.le_iff_toInt_le, ← Int32.toInt_inj, Int32.toInt_toInt64, tiA, tlA]); omega)), ?_⟩
        try have f1116 : ((x3 + 2) : Int32).toInt = (x3).toInt + 2 := ad32 (a := (x3).toInt) (b := 2) (rfl) (ti_2) (by omega) (by omega)
        refine ⟨vp_of (by first | omega | ((try simp only [Int32.lt_iff_toInt_lt, Int32.le_iff_toInt_le, ← Int32.toInt_inj, Int32.toInt_toInt64, tiA, tlA]); omega)) (by first | omega | ((try simp only [Int32.lt_iff_toInt_lt, Int32.le_iff_toInt_le, ← Int32.toInt_inj, Int32.toInt_toInt64, tiA, tlA]); omega)), ?_⟩
        refine ⟨_, s_X9_see ((xs (x3 + 1).toNatClampNeg)) ((xs (x3 + 2).toNatClampNeg)) hI1110.2, ?_⟩
        intro v1122 lg1118 it1119 hq1123
        have hI1120 : IL lg1118 it1119 := il_9 hI1110 hq1123.1 hq1123.2 (fun j hj => by first | omega | exact False.elim hj | (dsimp only at hj; omega))
        have hT1121 : RA lg1118 it1119 := ra_9 hT1111 hq1123.2 (fun j hj => by first | omega | exact False.elim hj | (dsimp only at hj; omega)) (fun j hj => by first | omega | exact False.elim hj | (dsimp only at hj; omega))
        have f1125 : (x3 + Int32.ofInt 6).toInt = x3.toInt + 6 := ad32 rfl (by decide) (by omega) (by omega)
        exact ih18 ((x3 + Int32.ofInt 6)) _ _ hI1120 hT1121 (by omega) (by omega)
      · skip
        try have f1126 : ((x3 + 1) : Int32).toInt = (x3).toInt + 1 := ad32 (a := (x3).toInt) (b := 1) (rfl) (ti_1) (by omega) (by omega)
        refine ⟨vp_of (by first | omega | ((try simp only [Int32.lt_iff_toInt_lt, Int32.le_iff_toInt_le, ← Int32.toInt_inj, Int32.toInt_toInt64, tiA, tlA]); omega)) (by first | omega | ((try simp only [Int32.lt_iff_toInt_lt, Int32.le_iff_toInt_le, ← Int32.toInt_inj, Int32.toInt_toInt64, tiA, tlA]); omega)), ?_⟩
        try have f1128 : ((x3 + 2) : Int32).toInt = (x3).toInt + 2 := ad32 (a := (x3).toInt) (b := 2) (rfl) (ti_2) (by omega) (by omega)
        refine ⟨vp_of (by first | omega | ((try simp only [Int32.lt_iff_toInt_lt, Int32.le_iff_toInt_le, ← Int32.toInt_inj, Int32.toInt_toInt64, tiA, tlA]); omega)) (by first | omega | ((try simp only [Int32.lt_iff_toInt_lt, Int32.le_iff_toInt_le, ← Int32.toInt_inj, Int32.toInt_toInt64, tiA, tlA]); omega)), ?_⟩
        refine ⟨_, c_X8_fits ((xs (x3 + 1).toNatClampNeg)) ((xs (x3 + 2).toNatClampNeg)) hI.1 _ (ra_v hT) (ra_o hT) (ra_c hT) (ra_l hT).1, ?_⟩
        intro v1134 lg1130 it1131 hq1135
        have hI1132 : IL lg1130 it1131 := il_8 hI hq1135.1 hq1135.2.1 (fun j hj => by first | omega | exact False.elim hj | (dsimp only at hj; omega))
        have hT1133 : RA lg1130 it1131 := ra_q hT hq1135.2.1 hq1135.2.2.1 (fun j hj => by first | omega | exact False.elim hj | (dsimp only at hj; omega))
        try have f1136 : ((x3 + 1) : Int32).toInt = (x3).toInt + 1 := ad32 (a := (x3).toInt) (b := 1) (rfl) (ti_1) (by omega) (by omega)
        refine ⟨vp_of (by first | omega | ((try simp only [Int32.lt_iff_toInt_lt, Int32.le_iff_toInt_le, ← Int32.toInt_inj, Int32.toInt_toInt64, tiA, tlA]); omega)) (by first | omega | ((try simp only [Int32.lt_iff_toInt_lt, Int32.le_iff_toInt_le, ← Int32.toInt_inj, Int32.toInt_toInt64, tiA, tlA]); omega)), ?_⟩
        try have f1138 : ((x3 + 2) : Int32).toInt = (x3).toInt + 2 := ad32 (a := (x3).toInt) (b := 2) (rfl) (ti_2) (by omega) (by omega)
        refine ⟨vp_of (by first | omega | ((try simp only [Int32.lt_iff_toInt_lt, Int32.le_iff_toInt_le, ← Int32.toInt_inj, Int32.toInt_toInt64, tiA, tlA]); omega)) (by first | omega | ((try simp only [Int32.lt_iff_toInt_lt, Int32.le_iff_toInt_le, ← Int32.toInt_inj, Int32.toInt_toInt64, tiA, tlA]); omega)), ?_⟩
        refine ⟨_, s_X9_fits ((xs (x3 + 1).toNatClampNeg)) ((xs (x3 + 2).toNatClampNeg)) hI1132.2, ?_⟩
        intro v1144 lg1140 it1141 hq1145
        have hI1142 : IL lg1140 it1141 := il_9 hI1132 hq1145.1 hq1145.2 (fun j hj => by first | omega | exact False.elim hj | (dsimp only at hj; omega))
        have hT1143 : RA lg1140 it1141 := ra_9 hT1133 hq1145.2 (fun j hj => by first | omega | exact False.elim hj | (dsimp only at hj; omega)) (fun j hj => by first | omega | exact False.elim hj | (dsimp only at hj; omega))
        have f1147 : (x3 + Int32.ofInt 6).toInt = x3.toInt + 6 := ad32 rfl (by decide) (by omega) (by omega)
        exact ih18 ((x3 + Int32.ofInt 6)) _ _ hI1142 hT1143 (by omega) (by omega)
      · skip
        try have f1148 : ((x3 + 1) : Int32).toInt = (x3).toInt + 1 := ad32 (a := (x3).toInt) (b := 1) (rfl) (ti_1) (by omega) (by omega)
        refine ⟨vp_of (by first | omega | ((try simp only [Int32.lt_iff_toInt_lt, Int32.le_iff_toInt_le, ← Int32.toInt_inj, Int32.toInt_toInt64, tiA, tlA]); omega)) (by first | omega | ((try simp only [Int32.lt_iff_toInt_lt, Int32.le_iff_toInt_le, ← Int32.toInt_inj, Int32.toInt_toInt64, tiA, tlA]); omega)), ?_⟩
        try have f1150 : ((x3 + 2) : Int32).toInt = (x3).toInt + 2 := ad32 (a := (x3).toInt) (b := 2) (rfl) (ti_2) (by omega) (by omega)
        refine ⟨vp_of (by first | omega | ((try simp only [Int32.lt_iff_toInt_lt, Int32.le_iff_toInt_le, ← Int32.toInt_inj, Int32.toInt_toInt64, tiA, tlA]); omega)) (by first | omega | ((try simp only [Int32.lt_iff_toInt_lt, Int32.le_iff_toInt_le, ← Int32.toInt_inj, Int32.toInt_toInt64, tiA, tlA]); omega)), ?_⟩
        refine ⟨_, c_X8_odds ((xs (x3 + 1).toNatClampNeg)) ((xs (x3 + 2).toNatClampNeg)) hI.1 _ (ra_v hT) (ra_o hT) (ra_c hT), ?_⟩
        intro v1156 lg1152 it1153 hq1157
        have hI1154 : IL lg1152 it1153 := il_8 hI hq1157.1 hq1157.2.1 (fun j hj => by first | omega | exact False.elim hj | (dsimp only at hj; omega))
        have hT1155 : RA lg1152 it1153 := ra_q hT hq1157.2.1 hq1157.2.2.1 (fun j hj => by first | omega | exact False.elim hj | (dsimp only at hj; omega))
        try have f1158 : ((x3 + 1) : Int32).toInt = (x3).toInt + 1 := ad32 (a := (x3).toInt) (b := 1) (rfl) (ti_1) (by omega) (by omega)
        refine ⟨vp_of (by first | omega | ((try simp only [Int32.lt_iff_toInt_lt, Int32.le_iff_toInt_le, ← Int32.toInt_inj, Int32.toInt_toInt64, tiA, tlA]); omega)) (by first | omega | ((try simp only [Int32.lt_iff_toInt_lt, Int32.le_iff_toInt_le, ← Int32.toInt_inj, Int32.toInt_toInt64, tiA, tlA]); omega)), ?_⟩
        try have f1160 : ((x3 + 2) : Int32).toInt = (x3).toInt + 2 := ad32 (a := (x3).toInt) (b := 2) (rfl) (ti_2) (by omega) (by omega)
        refine ⟨vp_of (by first | omega | ((try simp only [Int32.lt_iff_toInt_lt, Int32.le_iff_toInt_le, ← Int32.toInt_inj, Int32.toInt_toInt64, tiA, tlA]); omega)) (by first | omega | ((try simp only [Int32.lt_iff_toInt_lt, Int32.le_iff_toInt_le, ← Int32.toInt_inj, Int32.toInt_toInt64, tiA, tlA]); omega)), ?_⟩
        refine ⟨_, s_X9_odds ((xs (x3 + 1).toNatClampNeg)) ((xs (x3 + 2).toNatClampNeg)) hI1154.2, ?_⟩
        intro v1166 lg1162 it1163 hq1167
        have hI1164 : IL lg1162 it1163 := il_9 hI1154 hq1167.1 hq1167.2 (fun j hj => by first | omega | exact False.elim hj | (dsimp only at hj; omega))
        have hT1165 : RA lg1162 it1163 := ra_9 hT1155 hq1167.2 (fun j hj => by first | omega | exact False.elim hj | (dsimp only at hj; omega)) (fun j hj => by first | omega | exact False.elim hj | (dsimp only at hj; omega))
        have f1169 : (x3 + Int32.ofInt 6).toInt = x3.toInt + 6 := ad32 rfl (by decide) (by omega) (by omega)
        exact ih18 ((x3 + Int32.ofInt 6)) _ _ hI1164 hT1165 (by omega) (by omega)
      · skip
        try have f1170 : ((x3 + 1) : Int32).toInt = (x3).toInt + 1 := ad32 (a := (x3).toInt) (b := 1) (rfl) (ti_1) (by omega) (by omega)
        refine ⟨vp_of (by first | omega | ((try simp only [Int32.lt_iff_toInt_lt, Int32.le_iff_toInt_le, ← Int32.toInt_inj, Int32.toInt_toInt64, tiA, tlA]); omega)) (by first | omega | ((try simp only [Int32.lt_iff_toInt_lt, Int32.le_iff_toInt_le, ← Int32.toInt_inj, Int32.toInt_toInt64, tiA, tlA]); omega)), ?_⟩
        refine ⟨_, s_X8_mean ((xs (x3 + 1).toNatClampNeg)) hI.1, ?_⟩
        intro v1176 lg1172 it1173 hq1177
        have hI1174 : IL lg1172 it1173 := il_8 hI hq1177.1 hq1177.2 (fun j hj => by first | omega | exact False.elim hj | (dsimp only at hj; omega))
        have hT1175 : RA lg1172 it1173 := ra_8 hT hq1177.2 (fun j hj => by first | omega | exact False.elim hj | (dsimp only at hj; omega))
        try have f1178 : ((x3 + 1) : Int32).toInt = (x3).toInt + 1 := ad32 (a := (x3).toInt) (b := 1) (rfl) (ti_1) (by omega) (by omega)
        refine ⟨vp_of (by first | omega | ((try simp only [Int32.lt_iff_toInt_lt, Int32.le_iff_toInt_le, ← Int32.toInt_inj, Int32.toInt_toInt64, tiA, tlA]); omega)) (by first | omega | ((try simp only [Int32.lt_iff_toInt_lt, Int32.le_iff_toInt_le, ← Int32.toInt_inj, Int32.toInt_toInt64, tiA, tlA]); omega)), ?_⟩
        refine ⟨_, s_X9_mean ((xs (x3 + 1).toNatClampNeg)) hI1174.2, ?_⟩
        intro v1184 lg1180 it1181 hq1185
        have hI1182 : IL lg1180 it1181 := il_9 hI1174 hq1185.1 hq1185.2 (fun j hj => by first | omega | exact False.elim hj | (dsimp only at hj; omega))
        have hT1183 : RA lg1180 it1181 := ra_9 hT1175 hq1185.2 (fun j hj => by first | omega | exact False.elim hj | (dsimp only at hj; omega)) (fun j hj => by first | omega | exact False.elim hj | (dsimp only at hj; omega))
        have f1187 : (x3 + Int32.ofInt 6).toInt = x3.toInt + 6 := ad32 rfl (by decide) (by omega) (by omega)
        exact ih18 ((x3 + Int32.ofInt 6)) _ _ hI1182 hT1183 (by omega) (by omega)
      · skip
        try have f1188 : ((x3 + 1) : Int32).toInt = (x3).toInt + 1 := ad32 (a := (x3).toInt) (b := 1) (rfl) (ti_1) (by omega) (by omega)
        refine ⟨vp_of (by first | omega | ((try simp only [Int32.lt_iff_toInt_lt, Int32.le_iff_toInt_le, ← Int32.toInt_inj, Int32.toInt_toInt64, tiA, tlA]); omega)) (by first | omega | ((try simp only [Int32.lt_iff_toInt_lt, Int32.le_iff_toInt_le, ← Int32.toInt_inj, Int32.toInt_toInt64, tiA, tlA]); omega)), ?_⟩
        try have f1190 : ((x3 + 2) : Int32).toInt = (x3).toInt + 2 := ad32 (a := (x3).toInt) (b := 2) (rfl) (ti_2) (by omega) (by omega)
        refine ⟨vp_of (by first | omega | ((try simp only [Int32.lt_iff_toInt_lt, Int32.le_iff_toInt_le, ← Int32.toInt_inj, Int32.toInt_toInt64, tiA, tlA]); omega)) (by first | omega | ((try simp only [Int32.lt_iff_toInt_lt, Int32.le_iff_toInt_le, ← Int32.toInt_inj, Int32.toInt_toInt64, tiA, tlA]); omega)), ?_⟩
        refine ⟨_, f_X8_event ((xs (x3 + 1).toNatClampNeg)) ((xs (x3 + 2).toNatClampNeg)) hI.1 _ (ra_v hT), ?_⟩
        intro v1196 lg1192 it1193 hq1197
        have hI1194 : IL lg1192 it1193 := il_8 hI hq1197.1.1 hq1197.1.2 (fun j hj => by first | omega | exact False.elim hj | (dsimp only at hj; omega))
        have hT1195 : RA lg1192 it1193 := ra_ev hT hq1197.1.2 (fun j hj => by first | omega | exact False.elim hj | (dsimp only at hj; omega)) hq1197.2.2
        try have f1198 : ((x3 + 1) : Int32).toInt = (x3).toInt + 1 := ad32 (a := (x3).toInt) (b := 1) (rfl) (ti_1) (by omega) (by omega)
        refine ⟨vp_of (by first | omega | ((try simp only [Int32.lt_iff_toInt_lt, Int32.le_iff_toInt_le, ← Int32.toInt_inj, Int32.toInt_toInt64, tiA, tlA]); omega)) (by first | omega | ((try simp only [Int32.lt_iff_toInt_lt, Int32.le_iff_toInt_le, ← Int32.toInt_inj, Int32.toInt_toInt64, tiA, tlA]); omega)), ?_⟩
        try have f1200 : ((x3 + 2) : Int32).toInt = (x3).toInt + 2 := ad32 (a := (x3).toInt) (b := 2) (rfl) (ti_2) (by omega) (by omega)
        refine ⟨vp_of (by first | omega | ((try simp only [Int32.lt_iff_toInt_lt, Int32.le_iff_toInt_le, ← Int32.toInt_inj, Int32.toInt_toInt64, tiA, tlA]); omega)) (by first | omega | ((try simp only [Int32.lt_iff_toInt_lt, Int32.le_iff_toInt_le, ← Int32.toInt_inj, Int32.toInt_toInt64, tiA, tlA]); omega)), ?_⟩
        refine ⟨_, s_X9_event ((xs (x3 + 1).toNatClampNeg)) ((xs (x3 + 2).toNatClampNeg)) hI1194.2, ?_⟩
        intro v1206 lg1202 it1203 hq1207
        have hI1204 : IL lg1202 it1203 := il_9 hI1194 hq1207.1 hq1207.2 (fun j hj => by first | omega | exact False.elim hj | (dsimp only at hj; omega))
        have hT1205 : RA lg1202 it1203 := ra_9 hT1195 hq1207.2 (fun j hj => by first | omega | exact False.elim hj | (dsimp only at hj; omega)) (fun j hj => by first | omega | exact False.elim hj | (dsimp only at hj; omega))
        have f1209 : (x3 + Int32.ofInt 6).toInt = x3.toInt + 6 := ad32 rfl (by decide) (by omega) (by omega)
        exact ih18 ((x3 + Int32.ofInt 6)) _ _ hI1204 hT1205 (by omega) (by omega)
      · skip
        try have f1210 : ((x3 + 1) : Int32).toInt = (x3).toInt + 1 := ad32 (a := (x3).toInt) (b := 1) (rfl) (ti_1) (by omega) (by omega)
        refine ⟨vp_of (by first | omega | ((try simp only [Int32.lt_iff_toInt_lt, Int32.le_iff_toInt_le, ← Int32.toInt_inj, Int32.toInt_toInt64, tiA, tlA]); omega)) (by first | omega | ((try simp only [Int32.lt_iff_toInt_lt, Int32.le_iff_toInt_le, ← Int32.toInt_inj, Int32.toInt_toInt64, tiA, tlA]); omega)), ?_⟩
        refine ⟨_, c_X8_after ((xs (x3 + 1).toNatClampNeg)) hI.1 _ (ra_v hT) (ra_o hT) (ra_c hT) (ra_l hT).2.2.1, ?_⟩
        intro v1216 lg1212 it1213 hq1217
        have hI1214 : IL lg1212 it1213 := il_8 hI hq1217.1.1 hq1217.1.2.1 (fun j hj => by first | omega | exact False.elim hj | (dsimp only at hj; omega))
        have hT1215 : RA lg1212 it1213 := ra_q hT hq1217.1.2.1 hq1217.1.2.2.1 (fun j hj => by first | omega | exact False.elim hj | (dsimp only at hj; omega))
        try have f1218 : ((x3 + 1) : Int32).toInt = (x3).toInt + 1 := ad32 (a := (x3).toInt) (b := 1) (rfl) (ti_1) (by omega) (by omega)
        refine ⟨vp_of (by first | omega | ((try simp only [Int32.lt_iff_toInt_lt, Int32.le_iff_toInt_le, ← Int32.toInt_inj, Int32.toInt_toInt64, tiA, tlA]); omega)) (by first | omega | ((try simp only [Int32.lt_iff_toInt_lt, Int32.le_iff_toInt_le, ← Int32.toInt_inj, Int32.toInt_toInt64, tiA, tlA]); omega)), ?_⟩
        refine ⟨_, s_X9_after ((xs (x3 + 1).toNatClampNeg)) hI1214.2, ?_⟩
        intro v1224 lg1220 it1221 hq1225
        have hI1222 : IL lg1220 it1221 := il_9 hI1214 hq1225.1 hq1225.2 (fun j hj => by first | omega | exact False.elim hj | (dsimp only at hj; omega))
        have hT1223 : RA lg1220 it1221 := ra_9 hT1215 hq1225.2 (fun j hj => by first | omega | exact False.elim hj | (dsimp only at hj; omega)) (fun j hj => by first | omega | exact False.elim hj | (dsimp only at hj; omega))
        have f1227 : (x3 + Int32.ofInt 6).toInt = x3.toInt + 6 := ad32 rfl (by decide) (by omega) (by omega)
        exact ih18 ((x3 + Int32.ofInt 6)) _ _ hI1222 hT1223 (by omega) (by omega)
      · skip
        try have f1228 : ((x3 + 1) : Int32).toInt = (x3).toInt + 1 := ad32 (a := (x3).toInt) (b := 1) (rfl) (ti_1) (by omega) (by omega)
        refine ⟨vp_of (by first | omega | ((try simp only [Int32.lt_iff_toInt_lt, Int32.le_iff_toInt_le, ← Int32.toInt_inj, Int32.toInt_toInt64, tiA, tlA]); omega)) (by first | omega | ((try simp only [Int32.lt_iff_toInt_lt, Int32.le_iff_toInt_le, ← Int32.toInt_inj, Int32.toInt_toInt64, tiA, tlA]); omega)), ?_⟩
        try have f1230 : ((x3 + 2) : Int32).toInt = (x3).toInt + 2 := ad32 (a := (x3).toInt) (b := 2) (rfl) (ti_2) (by omega) (by omega)
        refine ⟨vp_of (by first | omega | ((try simp only [Int32.lt_iff_toInt_lt, Int32.le_iff_toInt_le, ← Int32.toInt_inj, Int32.toInt_toInt64, tiA, tlA]); omega)) (by first | omega | ((try simp only [Int32.lt_iff_toInt_lt, Int32.le_iff_toInt_le, ← Int32.toInt_inj, Int32.toInt_toInt64, tiA, tlA]); omega)), ?_⟩
        refine ⟨_, s_X8_book ((xs (x3 + 1).toNatClampNeg)) ((xs (x3 + 2).toNatClampNeg)) hI.1, ?_⟩
        intro v1236 lg1232 it1233 hq1237
        have hI1234 : IL lg1232 it1233 := il_8 hI hq1237.1 hq1237.2 (fun j hj => by first | omega | exact False.elim hj | (dsimp only at hj; omega))
        have hT1235 : RA lg1232 it1233 := ra_8 hT hq1237.2 (fun j hj => by first | omega | exact False.elim hj | (dsimp only at hj; omega))
        try have f1238 : ((x3 + 1) : Int32).toInt = (x3).toInt + 1 := ad32 (a := (x3).toInt) (b := 1) (rfl) (ti_1) (by omega) (by omega)
        refine ⟨vp_of (by first | omega | ((try simp only [Int32.lt_iff_toInt_lt, Int32.le_iff_toInt_le, ← Int32.toInt_inj, Int32.toInt_toInt64, tiA, tlA]); omega)) (by first | omega | ((try simp only [Int32.lt_iff_toInt_lt, Int32.le_iff_toInt_le, ← Int32.toInt_inj, Int32.toInt_toInt64, tiA, tlA]); omega)), ?_⟩
        try have f1240 : ((x3 + 2) : Int32).toInt = (x3).toInt + 2 := ad32 (a := (x3).toInt) (b := 2) (rfl) (ti_2) (by omega) (by omega)
        refine ⟨vp_of (by first | omega | ((try simp only [Int32.lt_iff_toInt_lt, Int32.le_iff_toInt_le, ← Int32.toInt_inj, Int32.toInt_toInt64, tiA, tlA]); omega)) (by first | omega | ((try simp only [Int32.lt_iff_toInt_lt, Int32.le_iff_toInt_le, ← Int32.toInt_inj, Int32.toInt_toInt64, tiA, tlA]); omega)), ?_⟩
        refine ⟨_, s_X9_book ((xs (x3 + 1).toNatClampNeg)) ((xs (x3 + 2).toNatClampNeg)) hI1234.2, ?_⟩
        intro v1246 lg1242 it1243 hq1247
        have hI1244 : IL lg1242 it1243 := il_9 hI1234 hq1247.1 hq1247.2 (fun j hj => by first | omega | exact False.elim hj | (dsimp only at hj; omega))
        have hT1245 : RA lg1242 it1243 := ra_9 hT1235 hq1247.2 (fun j hj => by first | omega | exact False.elim hj | (dsimp only at hj; omega)) (fun j hj => by first | omega | exact False.elim hj | (dsimp only at hj; omega))
        have f1249 : (x3 + Int32.ofInt 6).toInt = x3.toInt + 6 := ad32 rfl (by decide) (by omega) (by omega)
        exact ih18 ((x3 + Int32.ofInt 6)) _ _ hI1244 hT1245 (by omega) (by omega)
      · skip
        refine ⟨_, c_X8_looked  hI.1 _ (ra_v hT) (ra_o hT) (ra_c hT), ?_⟩
        intro v1254 lg1250 it1251 hq1255
        have hI1252 : IL lg1250 it1251 := il_8 hI hq1255.1 hq1255.2.1 (fun j hj => by first | omega | exact False.elim hj | (dsimp only at hj; omega))
        have hT1253 : RA lg1250 it1251 := ra_q hT hq1255.2.1 hq1255.2.2.1 (fun j hj => by first | omega | exact False.elim hj | (dsimp only at hj; omega))
        refine ⟨_, s_X9_looked  hI1252.2, ?_⟩
        intro v1260 lg1256 it1257 hq1261
        have hI1258 : IL lg1256 it1257 := il_9 hI1252 hq1261.1 hq1261.2 (fun j hj => by first | omega | exact False.elim hj | (dsimp only at hj; omega))
        have hT1259 : RA lg1256 it1257 := ra_9 hT1253 hq1261.2 (fun j hj => by first | omega | exact False.elim hj | (dsimp only at hj; omega)) (fun j hj => by first | omega | exact False.elim hj | (dsimp only at hj; omega))
        have f1263 : (x3 + Int32.ofInt 6).toInt = x3.toInt + 6 := ad32 rfl (by decide) (by omega) (by omega)
        exact ih18 ((x3 + Int32.ofInt 6)) _ _ hI1258 hT1259 (by omega) (by omega)
      · skip
        try have f1264 : ((x3 + 1) : Int32).toInt = (x3).toInt + 1 := ad32 (a := (x3).toInt) (b := 1) (rfl) (ti_1) (by omega) (by omega)
        refine ⟨vp_of (by first | omega | ((try simp only [Int32.lt_iff_toInt_lt, Int32.le_iff_toInt_le, ← Int32.toInt_inj, Int32.toInt_toInt64, tiA, tlA]); omega)) (by first | omega | ((try simp only [Int32.lt_iff_toInt_lt, Int32.le_iff_toInt_le, ← Int32.toInt_inj, Int32.toInt_toInt64, tiA, tlA]); omega)), ?_⟩
        try have f1266 : ((x3 + 2) : Int32).toInt = (x3).toInt + 2 := ad32 (a := (x3).toInt) (b := 2) (rfl) (ti_2) (by omega) (by omega)
        refine ⟨vp_of (by first | omega | ((try simp only [Int32.lt_iff_toInt_lt, Int32.le_iff_toInt_le, ← Int32.toInt_inj, Int32.toInt_toInt64, tiA, tlA]); omega)) (by first | omega | ((try simp only [Int32.lt_iff_toInt_lt, Int32.le_iff_toInt_le, ← Int32.toInt_inj, Int32.toInt_toInt64, tiA, tlA]); omega)), ?_⟩
        refine ⟨_, c_X8_judge ((xs (x3 + 1).toNatClampNeg)) ((xs (x3 + 2).toNatClampNeg)) hI.1 _ (ra_v hT) (ra_o hT) (ra_c hT), ?_⟩
        intro v1272 lg1268 it1269 hq1273
        have hI1270 : IL lg1268 it1269 := il_8 hI hq1273.1 hq1273.2.1 (fun j hj => by first | omega | exact False.elim hj | (dsimp only at hj; omega))
        have hT1271 : RA lg1268 it1269 := ra_q hT hq1273.2.1 hq1273.2.2.1 (fun j hj => by first | omega | exact False.elim hj | (dsimp only at hj; omega))
        try have f1274 : ((x3 + 1) : Int32).toInt = (x3).toInt + 1 := ad32 (a := (x3).toInt) (b := 1) (rfl) (ti_1) (by omega) (by omega)
        refine ⟨vp_of (by first | omega | ((try simp only [Int32.lt_iff_toInt_lt, Int32.le_iff_toInt_le, ← Int32.toInt_inj, Int32.toInt_toInt64, tiA, tlA]); omega)) (by first | omega | ((try simp only [Int32.lt_iff_toInt_lt, Int32.le_iff_toInt_le, ← Int32.toInt_inj, Int32.toInt_toInt64, tiA, tlA]); omega)), ?_⟩
        try have f1276 : ((x3 + 2) : Int32).toInt = (x3).toInt + 2 := ad32 (a := (x3).toInt) (b := 2) (rfl) (ti_2) (by omega) (by omega)
        refine ⟨vp_of (by first | omega | ((try simp only [Int32.lt_iff_toInt_lt, Int32.le_iff_toInt_le, ← Int32.toInt_inj, Int32.toInt_toInt64, tiA, tlA]); omega)) (by first | omega | ((try simp only [Int32.lt_iff_toInt_lt, Int32.le_iff_toInt_le, ← Int32.toInt_inj, Int32.toInt_toInt64, tiA, tlA]); omega)), ?_⟩
        refine ⟨_, s_X9_judge ((xs (x3 + 1).toNatClampNeg)) ((xs (x3 + 2).toNatClampNeg)) hI1270.2, ?_⟩
        intro v1282 lg1278 it1279 hq1283
        have hI1280 : IL lg1278 it1279 := il_9 hI1270 hq1283.1 hq1283.2 (fun j hj => by first | omega | exact False.elim hj | (dsimp only at hj; omega))
        have hT1281 : RA lg1278 it1279 := ra_9 hT1271 hq1283.2 (fun j hj => by first | omega | exact False.elim hj | (dsimp only at hj; omega)) (fun j hj => by first | omega | exact False.elim hj | (dsimp only at hj; omega))
        have f1285 : (x3 + Int32.ofInt 6).toInt = x3.toInt + 6 := ad32 rfl (by decide) (by omega) (by omega)
        exact ih18 ((x3 + Int32.ofInt 6)) _ _ hI1280 hT1281 (by omega) (by omega)
      · skip
        refine ⟨_, e_X8_image hI.1, ?_⟩
        intro v1290 lg1286 it1287 hq1291
        have hI1288 : IL lg1286 it1287 := il_8 hI hq1291.1.1 hq1291.1.2 (fun j hj => by first | omega | exact False.elim hj | (dsimp only at hj; omega))
        refine ⟨_, f_X9_image  hI1288.2, ?_⟩
        intro v1296 lg1292 it1293 hq1297
        have hI1294 : IL lg1292 it1293 := il_9 hI1288 hq1297.1.1 hq1297.1.2 (fun j hj => by first | omega | exact False.elim hj | (dsimp only at hj; omega))
        have pr1299 := ra_image hT hI.1 hI.2 hq1291.1.2 hq1291.2 hq1297.1.2 hq1297.2 (fun j hj => by first | omega | exact False.elim hj | (dsimp only at hj; omega)) (fun j hj => by first | omega | exact False.elim hj | (dsimp only at hj; omega))
        have f1300 : (x3 + Int32.ofInt 6).toInt = x3.toInt + 6 := ad32 rfl (by decide) (by omega) (by omega)
        exact ih18 ((x3 + Int32.ofInt 6)) _ _ hI1294 pr1299.1 (by omega) (by omega)
      · skip
        refine ⟨_, e_X8_undo hI.1, ?_⟩
        intro v1305 lg1301 it1302 hq1306
        have hI1303 : IL lg1301 it1302 := il_8 hI hq1306.1.1 hq1306.1.2 (fun j hj => by first | omega | exact False.elim hj | (dsimp only at hj; omega))
        refine ⟨_, f_X9_undo  hI1303.2, ?_⟩
        intro v1311 lg1307 it1308 hq1312
        have hI1309 : IL lg1307 it1308 := il_9 hI1303 hq1312.1.1 hq1312.1.2 (fun j hj => by first | omega | exact False.elim hj | (dsimp only at hj; omega))
        have pr1314 := ra_undo hT hI1303.1 hI1303.2 hI1309.2 hq1306.1.2 hq1306.2 hq1312.1.2 hq1312.2 (fun j hj => by first | omega | exact False.elim hj | (dsimp only at hj; omega)) (fun j hj => by first | omega | exact False.elim hj | (dsimp only at hj; omega))
        refine ⟨fun c962 => ?_, fun c962 => ?_⟩
        · skip
          have f1315 : (x3 + Int32.ofInt 6).toInt = x3.toInt + 6 := ad32 rfl (by decide) (by omega) (by omega)
          exact ih18 ((x3 + Int32.ofInt 6)) _ _ hI1309 pr1314.1 (by omega) (by omega)
        · exact absurd (pr1314.2) c962
      · skip
        try have f1316 : ((x3 + 1) : Int32).toInt = (x3).toInt + 1 := ad32 (a := (x3).toInt) (b := 1) (rfl) (ti_1) (by omega) (by omega)
        refine ⟨vp_of (by first | omega | ((try simp only [Int32.lt_iff_toInt_lt, Int32.le_iff_toInt_le, ← Int32.toInt_inj, Int32.toInt_toInt64, tiA, tlA]); omega)) (by first | omega | ((try simp only [Int32.lt_iff_toInt_lt, Int32.le_iff_toInt_le, ← Int32.toInt_inj, Int32.toInt_toInt64, tiA, tlA]); omega)), ?_⟩
        refine ⟨_, s_X8_count ((xs (x3 + 1).toNatClampNeg)) hI.1, ?_⟩
        intro v1322 lg1318 it1319 hq1323
        have hI1320 : IL lg1318 it1319 := il_8 hI hq1323.1 hq1323.2 (fun j hj => by first | omega | exact False.elim hj | (dsimp only at hj; omega))
        have hT1321 : RA lg1318 it1319 := ra_8 hT hq1323.2 (fun j hj => by first | omega | exact False.elim hj | (dsimp only at hj; omega))
        try have f1324 : ((x3 + 1) : Int32).toInt = (x3).toInt + 1 := ad32 (a := (x3).toInt) (b := 1) (rfl) (ti_1) (by omega) (by omega)
        refine ⟨vp_of (by first | omega | ((try simp only [Int32.lt_iff_toInt_lt, Int32.le_iff_toInt_le, ← Int32.toInt_inj, Int32.toInt_toInt64, tiA, tlA]); omega)) (by first | omega | ((try simp only [Int32.lt_iff_toInt_lt, Int32.le_iff_toInt_le, ← Int32.toInt_inj, Int32.toInt_toInt64, tiA, tlA]); omega)), ?_⟩
        refine ⟨_, s_X9_count ((xs (x3 + 1).toNatClampNeg)) hI1320.2, ?_⟩
        intro v1330 lg1326 it1327 hq1331
        have hI1328 : IL lg1326 it1327 := il_9 hI1320 hq1331.1 hq1331.2 (fun j hj => by first | omega | exact False.elim hj | (dsimp only at hj; omega))
        have hT1329 : RA lg1326 it1327 := ra_9 hT1321 hq1331.2 (fun j hj => by first | omega | exact False.elim hj | (dsimp only at hj; omega)) (fun j hj => by first | omega | exact False.elim hj | (dsimp only at hj; omega))
        have f1333 : (x3 + Int32.ofInt 6).toInt = x3.toInt + 6 := ad32 rfl (by decide) (by omega) (by omega)
        exact ih18 ((x3 + Int32.ofInt 6)) _ _ hI1328 hT1329 (by omega) (by omega)
      · skip
        try have f1334 : ((x3 + 1) : Int32).toInt = (x3).toInt + 1 := ad32 (a := (x3).toInt) (b := 1) (rfl) (ti_1) (by omega) (by omega)
        refine ⟨vp_of (by first | omega | ((try simp only [Int32.lt_iff_toInt_lt, Int32.le_iff_toInt_le, ← Int32.toInt_inj, Int32.toInt_toInt64, tiA, tlA]); omega)) (by first | omega | ((try simp only [Int32.lt_iff_toInt_lt, Int32.le_iff_toInt_le, ← Int32.toInt_inj, Int32.toInt_toInt64, tiA, tlA]); omega)), ?_⟩
        try have f1336 : ((x3 + 2) : Int32).toInt = (x3).toInt + 2 := ad32 (a := (x3).toInt) (b := 2) (rfl) (ti_2) (by omega) (by omega)
        refine ⟨vp_of (by first | omega | ((try simp only [Int32.lt_iff_toInt_lt, Int32.le_iff_toInt_le, ← Int32.toInt_inj, Int32.toInt_toInt64, tiA, tlA]); omega)) (by first | omega | ((try simp only [Int32.lt_iff_toInt_lt, Int32.le_iff_toInt_le, ← Int32.toInt_inj, Int32.toInt_toInt64, tiA, tlA]); omega)), ?_⟩
        try have f1338 : ((x3 + 3) : Int32).toInt = (x3).toInt + 3 := ad32 (a := (x3).toInt) (b := 3) (rfl) (ti_3) (by omega) (by omega)
        refine ⟨vp_of (by first | omega | ((try simp only [Int32.lt_iff_toInt_lt, Int32.le_iff_toInt_le, ← Int32.toInt_inj, Int32.toInt_toInt64, tiA, tlA]); omega)) (by first | omega | ((try simp only [Int32.lt_iff_toInt_lt, Int32.le_iff_toInt_le, ← Int32.toInt_inj, Int32.toInt_toInt64, tiA, tlA]); omega)), ?_⟩
        refine ⟨_, s_X8_tape ((xs (x3 + 1).toNatClampNeg)) ((xs (x3 + 2).toNatClampNeg)) ((xs (x3 + 3).toNatClampNeg)) hI.1, ?_⟩
        intro v1344 lg1340 it1341 hq1345
        have hI1342 : IL lg1340 it1341 := il_8 hI hq1345.1 hq1345.2 (fun j hj => by first | omega | exact False.elim hj | (dsimp only at hj; omega))
        have hT1343 : RA lg1340 it1341 := ra_8 hT hq1345.2 (fun j hj => by first | omega | exact False.elim hj | (dsimp only at hj; omega))
        try have f1346 : ((x3 + 1) : Int32).toInt = (x3).toInt + 1 := ad32 (a := (x3).toInt) (b := 1) (rfl) (ti_1) (by omega) (by omega)
        refine ⟨vp_of (by first | omega | ((try simp only [Int32.lt_iff_toInt_lt, Int32.le_iff_toInt_le, ← Int32.toInt_inj, Int32.toInt_toInt64, tiA, tlA]); omega)) (by first | omega | ((try simp only [Int32.lt_iff_toInt_lt, Int32.le_iff_toInt_le, ← Int32.toInt_inj, Int32.toInt_toInt64, tiA, tlA]); omega)), ?_⟩
        try have f1348 : ((x3 + 2) : Int32).toInt = (x3).toInt + 2 := ad32 (a := (x3).toInt) (b := 2) (rfl) (ti_2) (by omega) (by omega)
        refine ⟨vp_of (by first | omega | ((try simp only [Int32.lt_iff_toInt_lt, Int32.le_iff_toInt_le, ← Int32.toInt_inj, Int32.toInt_toInt64, tiA, tlA]); omega)) (by first | omega | ((try simp only [Int32.lt_iff_toInt_lt, Int32.le_iff_toInt_le, ← Int32.toInt_inj, Int32.toInt_toInt64, tiA, tlA]); omega)), ?_⟩
        try have f1350 : ((x3 + 3) : Int32).toInt = (x3).toInt + 3 := ad32 (a := (x3).toInt) (b := 3) (rfl) (ti_3) (by omega) (by omega)
        refine ⟨vp_of (by first | omega | ((try simp only [Int32.lt_iff_toInt_lt, Int32.le_iff_toInt_le, ← Int32.toInt_inj, Int32.toInt_toInt64, tiA, tlA]); omega)) (by first | omega | ((try simp only [Int32.lt_iff_toInt_lt, Int32.le_iff_toInt_le, ← Int32.toInt_inj, Int32.toInt_toInt64, tiA, tlA]); omega)), ?_⟩
        refine ⟨_, s_X9_tape ((xs (x3 + 1).toNatClampNeg)) ((xs (x3 + 2).toNatClampNeg)) ((xs (x3 + 3).toNatClampNeg)) hI1342.2, ?_⟩
        intro v1356 lg1352 it1353 hq1357
        have hI1354 : IL lg1352 it1353 := il_9 hI1342 hq1357.1 hq1357.2 (fun j hj => by first | omega | exact False.elim hj | (dsimp only at hj; omega))
        have hT1355 : RA lg1352 it1353 := ra_9 hT1343 hq1357.2 (fun j hj => by first | omega | exact False.elim hj | (dsimp only at hj; omega)) (fun j hj => by first | omega | exact False.elim hj | (dsimp only at hj; omega))
        have f1359 : (x3 + Int32.ofInt 6).toInt = x3.toInt + 6 := ad32 rfl (by decide) (by omega) (by omega)
        exact ih18 ((x3 + Int32.ofInt 6)) _ _ hI1354 hT1355 (by omega) (by omega)
      · skip
        try have f1360 : ((x3 + 1) : Int32).toInt = (x3).toInt + 1 := ad32 (a := (x3).toInt) (b := 1) (rfl) (ti_1) (by omega) (by omega)
        refine ⟨vp_of (by first | omega | ((try simp only [Int32.lt_iff_toInt_lt, Int32.le_iff_toInt_le, ← Int32.toInt_inj, Int32.toInt_toInt64, tiA, tlA]); omega)) (by first | omega | ((try simp only [Int32.lt_iff_toInt_lt, Int32.le_iff_toInt_le, ← Int32.toInt_inj, Int32.toInt_toInt64, tiA, tlA]); omega)), ?_⟩
        try have f1362 : ((x3 + 2) : Int32).toInt = (x3).toInt + 2 := ad32 (a := (x3).toInt) (b := 2) (rfl) (ti_2) (by omega) (by omega)
        refine ⟨vp_of (by first | omega | ((try simp only [Int32.lt_iff_toInt_lt, Int32.le_iff_toInt_le, ← Int32.toInt_inj, Int32.toInt_toInt64, tiA, tlA]); omega)) (by first | omega | ((try simp only [Int32.lt_iff_toInt_lt, Int32.le_iff_toInt_le, ← Int32.toInt_inj, Int32.toInt_toInt64, tiA, tlA]); omega)), ?_⟩
        try have f1364 : ((x3 + 3) : Int32).toInt = (x3).toInt + 3 := ad32 (a := (x3).toInt) (b := 3) (rfl) (ti_3) (by omega) (by omega)
        refine ⟨vp_of (by first | omega | ((try simp only [Int32.lt_iff_toInt_lt, Int32.le_iff_toInt_le, ← Int32.toInt_inj, Int32.toInt_toInt64, tiA, tlA]); omega)) (by first | omega | ((try simp only [Int32.lt_iff_toInt_lt, Int32.le_iff_toInt_le, ← Int32.toInt_inj, Int32.toInt_toInt64, tiA, tlA]); omega)), ?_⟩
        try have f1366 : ((x3 + 4) : Int32).toInt = (x3).toInt + 4 := ad32 (a := (x3).toInt) (b := 4) (rfl) (ti_4) (by omega) (by omega)
        refine ⟨vp_of (by first | omega | ((try simp only [Int32.lt_iff_toInt_lt, Int32.le_iff_toInt_le, ← Int32.toInt_inj, Int32.toInt_toInt64, tiA, tlA]); omega)) (by first | omega | ((try simp only [Int32.lt_iff_toInt_lt, Int32.le_iff_toInt_le, ← Int32.toInt_inj, Int32.toInt_toInt64, tiA, tlA]); omega)), ?_⟩
        refine ⟨_, s_X8_item ((xs (x3 + 1).toNatClampNeg)) ((xs (x3 + 2).toNatClampNeg)) ((((xs (x3 + 3).toNatClampNeg).toInt64 <<< ((32 : Int32).toInt64 &&& 63)) ||| ((xs (x3 + 4).toNatClampNeg).toInt64 &&& 4294967295))) hI.1, ?_⟩
        intro v1372 lg1368 it1369 hq1373
        have hI1370 : IL lg1368 it1369 := il_8 hI hq1373.1 hq1373.2 (fun j hj => by first | omega | exact False.elim hj | (dsimp only at hj; omega))
        have hT1371 : RA lg1368 it1369 := ra_8 hT hq1373.2 (fun j hj => by first | omega | exact False.elim hj | (dsimp only at hj; omega))
        try have f1374 : ((x3 + 1) : Int32).toInt = (x3).toInt + 1 := ad32 (a := (x3).toInt) (b := 1) (rfl) (ti_1) (by omega) (by omega)
        refine ⟨vp_of (by first | omega | ((try simp only [Int32.lt_iff_toInt_lt, Int32.le_iff_toInt_le, ← Int32.toInt_inj, Int32.toInt_toInt64, tiA, tlA]); omega)) (by first | omega | ((try simp only [Int32.lt_iff_toInt_lt, Int32.le_iff_toInt_le, ← Int32.toInt_inj, Int32.toInt_toInt64, tiA, tlA]); omega)), ?_⟩
        try have f1376 : ((x3 + 2) : Int32).toInt = (x3).toInt + 2 := ad32 (a := (x3).toInt) (b := 2) (rfl) (ti_2) (by omega) (by omega)
        refine ⟨vp_of (by first | omega | ((try simp only [Int32.lt_iff_toInt_lt, Int32.le_iff_toInt_le, ← Int32.toInt_inj, Int32.toInt_toInt64, tiA, tlA]); omega)) (by first | omega | ((try simp only [Int32.lt_iff_toInt_lt, Int32.le_iff_toInt_le, ← Int32.toInt_inj, Int32.toInt_toInt64, tiA, tlA]); omega)), ?_⟩
        try have f1378 : ((x3 + 3) : Int32).toInt = (x3).toInt + 3 := ad32 (a := (x3).toInt) (b := 3) (rfl) (ti_3) (by omega) (by omega)
        refine ⟨vp_of (by first | omega | ((try simp only [Int32.lt_iff_toInt_lt, Int32.le_iff_toInt_le, ← Int32.toInt_inj, Int32.toInt_toInt64, tiA, tlA]); omega)) (by first | omega | ((try simp only [Int32.lt_iff_toInt_lt, Int32.le_iff_toInt_le, ← Int32.toInt_inj, Int32.toInt_toInt64, tiA, tlA]); omega)), ?_⟩
        try have f1380 : ((x3 + 4) : Int32).toInt = (x3).toInt + 4 := ad32 (a := (x3).toInt) (b := 4) (rfl) (ti_4) (by omega) (by omega)
        refine ⟨vp_of (by first | omega | ((try simp only [Int32.lt_iff_toInt_lt, Int32.le_iff_toInt_le, ← Int32.toInt_inj, Int32.toInt_toInt64, tiA, tlA]); omega)) (by first | omega | ((try simp only [Int32.lt_iff_toInt_lt, Int32.le_iff_toInt_le, ← Int32.toInt_inj, Int32.toInt_toInt64, tiA, tlA]); omega)), ?_⟩
        refine ⟨_, s_X9_item ((xs (x3 + 1).toNatClampNeg)) ((xs (x3 + 2).toNatClampNeg)) ((((xs (x3 + 3).toNatClampNeg).toInt64 <<< ((32 : Int32).toInt64 &&& 63)) ||| ((xs (x3 + 4).toNatClampNeg).toInt64 &&& 4294967295))) hI1370.2, ?_⟩
        intro v1386 lg1382 it1383 hq1387
        have hI1384 : IL lg1382 it1383 := il_9 hI1370 hq1387.1 hq1387.2 (fun j hj => by first | omega | exact False.elim hj | (dsimp only at hj; omega))
        have hT1385 : RA lg1382 it1383 := ra_9 hT1371 hq1387.2 (fun j hj => by first | omega | exact False.elim hj | (dsimp only at hj; omega)) (fun j hj => by first | omega | exact False.elim hj | (dsimp only at hj; omega))
        have f1389 : (x3 + Int32.ofInt 6).toInt = x3.toInt + 6 := ad32 rfl (by decide) (by omega) (by omega)
        exact ih18 ((x3 + Int32.ofInt 6)) _ _ hI1384 hT1385 (by omega) (by omega)
      · skip
        try have f1390 : ((x3 + 1) : Int32).toInt = (x3).toInt + 1 := ad32 (a := (x3).toInt) (b := 1) (rfl) (ti_1) (by omega) (by omega)
        refine ⟨vp_of (by first | omega | ((try simp only [Int32.lt_iff_toInt_lt, Int32.le_iff_toInt_le, ← Int32.toInt_inj, Int32.toInt_toInt64, tiA, tlA]); omega)) (by first | omega | ((try simp only [Int32.lt_iff_toInt_lt, Int32.le_iff_toInt_le, ← Int32.toInt_inj, Int32.toInt_toInt64, tiA, tlA]); omega)), ?_⟩
        try have f1392 : ((x3 + 2) : Int32).toInt = (x3).toInt + 2 := ad32 (a := (x3).toInt) (b := 2) (rfl) (ti_2) (by omega) (by omega)
        refine ⟨vp_of (by first | omega | ((try simp only [Int32.lt_iff_toInt_lt, Int32.le_iff_toInt_le, ← Int32.toInt_inj, Int32.toInt_toInt64, tiA, tlA]); omega)) (by first | omega | ((try simp only [Int32.lt_iff_toInt_lt, Int32.le_iff_toInt_le, ← Int32.toInt_inj, Int32.toInt_toInt64, tiA, tlA]); omega)), ?_⟩
        refine ⟨_, s_X8_peek ((xs (x3 + 1).toNatClampNeg)) ((xs (x3 + 2).toNatClampNeg)) hI.1, ?_⟩
        intro v1398 lg1394 it1395 hq1399
        have hI1396 : IL lg1394 it1395 := il_8 hI hq1399.1 hq1399.2 (fun j hj => by first | omega | exact False.elim hj | (dsimp only at hj; omega))
        have hT1397 : RA lg1394 it1395 := ra_8 hT hq1399.2 (fun j hj => by first | omega | exact False.elim hj | (dsimp only at hj; omega))
        try have f1400 : ((x3 + 1) : Int32).toInt = (x3).toInt + 1 := ad32 (a := (x3).toInt) (b := 1) (rfl) (ti_1) (by omega) (by omega)
        refine ⟨vp_of (by first | omega | ((try simp only [Int32.lt_iff_toInt_lt, Int32.le_iff_toInt_le, ← Int32.toInt_inj, Int32.toInt_toInt64, tiA, tlA]); omega)) (by first | omega | ((try simp only [Int32.lt_iff_toInt_lt, Int32.le_iff_toInt_le, ← Int32.toInt_inj, Int32.toInt_toInt64, tiA, tlA]); omega)), ?_⟩
        try have f1402 : ((x3 + 2) : Int32).toInt = (x3).toInt + 2 := ad32 (a := (x3).toInt) (b := 2) (rfl) (ti_2) (by omega) (by omega)
        refine ⟨vp_of (by first | omega | ((try simp only [Int32.lt_iff_toInt_lt, Int32.le_iff_toInt_le, ← Int32.toInt_inj, Int32.toInt_toInt64, tiA, tlA]); omega)) (by first | omega | ((try simp only [Int32.lt_iff_toInt_lt, Int32.le_iff_toInt_le, ← Int32.toInt_inj, Int32.toInt_toInt64, tiA, tlA]); omega)), ?_⟩
        refine ⟨_, s_X9_peek ((xs (x3 + 1).toNatClampNeg)) ((xs (x3 + 2).toNatClampNeg)) hI1396.2, ?_⟩
        intro v1408 lg1404 it1405 hq1409
        have hI1406 : IL lg1404 it1405 := il_9 hI1396 hq1409.1 hq1409.2 (fun j hj => by first | omega | exact False.elim hj | (dsimp only at hj; omega))
        have hT1407 : RA lg1404 it1405 := ra_9 hT1397 hq1409.2 (fun j hj => by first | omega | exact False.elim hj | (dsimp only at hj; omega)) (fun j hj => by first | omega | exact False.elim hj | (dsimp only at hj; omega))
        have f1411 : (x3 + Int32.ofInt 6).toInt = x3.toInt + 6 := ad32 rfl (by decide) (by omega) (by omega)
        exact ih18 ((x3 + Int32.ofInt 6)) _ _ hI1406 hT1407 (by omega) (by omega)
      · skip
        try have f1412 : ((x3 + 1) : Int32).toInt = (x3).toInt + 1 := ad32 (a := (x3).toInt) (b := 1) (rfl) (ti_1) (by omega) (by omega)
        refine ⟨vp_of (by first | omega | ((try simp only [Int32.lt_iff_toInt_lt, Int32.le_iff_toInt_le, ← Int32.toInt_inj, Int32.toInt_toInt64, tiA, tlA]); omega)) (by first | omega | ((try simp only [Int32.lt_iff_toInt_lt, Int32.le_iff_toInt_le, ← Int32.toInt_inj, Int32.toInt_toInt64, tiA, tlA]); omega)), ?_⟩
        try have f1414 : ((x3 + 2) : Int32).toInt = (x3).toInt + 2 := ad32 (a := (x3).toInt) (b := 2) (rfl) (ti_2) (by omega) (by omega)
        refine ⟨vp_of (by first | omega | ((try simp only [Int32.lt_iff_toInt_lt, Int32.le_iff_toInt_le, ← Int32.toInt_inj, Int32.toInt_toInt64, tiA, tlA]); omega)) (by first | omega | ((try simp only [Int32.lt_iff_toInt_lt, Int32.le_iff_toInt_le, ← Int32.toInt_inj, Int32.toInt_toInt64, tiA, tlA]); omega)), ?_⟩
        try have f1416 : ((x3 + 3) : Int32).toInt = (x3).toInt + 3 := ad32 (a := (x3).toInt) (b := 3) (rfl) (ti_3) (by omega) (by omega)
        refine ⟨vp_of (by first | omega | ((try simp only [Int32.lt_iff_toInt_lt, Int32.le_iff_toInt_le, ← Int32.toInt_inj, Int32.toInt_toInt64, tiA, tlA]); omega)) (by first | omega | ((try simp only [Int32.lt_iff_toInt_lt, Int32.le_iff_toInt_le, ← Int32.toInt_inj, Int32.toInt_toInt64, tiA, tlA]); omega)), ?_⟩
        try have f1418 : ((x3 + 4) : Int32).toInt = (x3).toInt + 4 := ad32 (a := (x3).toInt) (b := 4) (rfl) (ti_4) (by omega) (by omega)
        refine ⟨vp_of (by first | omega | ((try simp only [Int32.lt_iff_toInt_lt, Int32.le_iff_toInt_le, ← Int32.toInt_inj, Int32.toInt_toInt64, tiA, tlA]); omega)) (by first | omega | ((try simp only [Int32.lt_iff_toInt_lt, Int32.le_iff_toInt_le, ← Int32.toInt_inj, Int32.toInt_toInt64, tiA, tlA]); omega)), ?_⟩
        try have f1420 : ((x3 + 5) : Int32).toInt = (x3).toInt + 5 := ad32 (a := (x3).toInt) (b := 5) (rfl) (ti_5) (by omega) (by omega)
        refine ⟨vp_of (by first | omega | ((try simp only [Int32.lt_iff_toInt_lt, Int32.le_iff_toInt_le, ← Int32.toInt_inj, Int32.toInt_toInt64, tiA, tlA]); omega)) (by first | omega | ((try simp only [Int32.lt_iff_toInt_lt, Int32.le_iff_toInt_le, ← Int32.toInt_inj, Int32.toInt_toInt64, tiA, tlA]); omega)), ?_⟩
        refine ⟨_, s_X8_shift ((xs (x3 + 1).toNatClampNeg)) ((xs (x3 + 2).toNatClampNeg)) ((xs (x3 + 3).toNatClampNeg)) ((xs (x3 + 4).toNatClampNeg)) ((xs (x3 + 5).toNatClampNeg)) hI.1, ?_⟩
        intro v1426 lg1422 it1423 hq1427
        have hI1424 : IL lg1422 it1423 := il_8 hI hq1427.1 hq1427.2 (fun j hj => by first | omega | exact False.elim hj | (dsimp only at hj; omega))
        have hT1425 : RA lg1422 it1423 := ra_8 hT hq1427.2 (fun j hj => by first | omega | exact False.elim hj | (dsimp only at hj; omega))
        try have f1428 : ((x3 + 1) : Int32).toInt = (x3).toInt + 1 := ad32 (a := (x3).toInt) (b := 1) (rfl) (ti_1) (by omega) (by omega)
        refine ⟨vp_of (by first | omega | ((try simp only [Int32.lt_iff_toInt_lt, Int32.le_iff_toInt_le, ← Int32.toInt_inj, Int32.toInt_toInt64, tiA, tlA]); omega)) (by first | omega | ((try simp only [Int32.lt_iff_toInt_lt, Int32.le_iff_toInt_le, ← Int32.toInt_inj, Int32.toInt_toInt64, tiA, tlA]); omega)), ?_⟩
        try have f1430 : ((x3 + 2) : Int32).toInt = (x3).toInt + 2 := ad32 (a := (x3).toInt) (b := 2) (rfl) (ti_2) (by omega) (by omega)
        refine ⟨vp_of (by first | omega | ((try simp only [Int32.lt_iff_toInt_lt, Int32.le_iff_toInt_le, ← Int32.toInt_inj, Int32.toInt_toInt64, tiA, tlA]); omega)) (by first | omega | ((try simp only [Int32.lt_iff_toInt_lt, Int32.le_iff_toInt_le, ← Int32.toInt_inj, Int32.toInt_toInt64, tiA, tlA]); omega)), ?_⟩
        try have f1432 : ((x3 + 3) : Int32).toInt = (x3).toInt + 3 := ad32 (a := (x3).toInt) (b := 3) (rfl) (ti_3) (by omega) (by omega)
        refine ⟨vp_of (by first | omega | ((try simp only [Int32.lt_iff_toInt_lt, Int32.le_iff_toInt_le, ← Int32.toInt_inj, Int32.toInt_toInt64, tiA, tlA]); omega)) (by first | omega | ((try simp only [Int32.lt_iff_toInt_lt, Int32.le_iff_toInt_le, ← Int32.toInt_inj, Int32.toInt_toInt64, tiA, tlA]); omega)), ?_⟩
        try have f1434 : ((x3 + 4) : Int32).toInt = (x3).toInt + 4 := ad32 (a := (x3).toInt) (b := 4) (rfl) (ti_4) (by omega) (by omega)
        refine ⟨vp_of (by first | omega | ((try simp only [Int32.lt_iff_toInt_lt, Int32.le_iff_toInt_le, ← Int32.toInt_inj, Int32.toInt_toInt64, tiA, tlA]); omega)) (by first | omega | ((try simp only [Int32.lt_iff_toInt_lt, Int32.le_iff_toInt_le, ← Int32.toInt_inj, Int32.toInt_toInt64, tiA, tlA]); omega)), ?_⟩
        try have f1436 : ((x3 + 5) : Int32).toInt = (x3).toInt + 5 := ad32 (a := (x3).toInt) (b := 5) (rfl) (ti_5) (by omega) (by omega)
        refine ⟨vp_of (by first | omega | ((try simp only [Int32.lt_iff_toInt_lt, Int32.le_iff_toInt_le, ← Int32.toInt_inj, Int32.toInt_toInt64, tiA, tlA]); omega)) (by first | omega | ((try simp only [Int32.lt_iff_toInt_lt, Int32.le_iff_toInt_le, ← Int32.toInt_inj, Int32.toInt_toInt64, tiA, tlA]); omega)), ?_⟩
        refine ⟨_, s_X9_shift ((xs (x3 + 1).toNatClampNeg)) ((xs (x3 + 2).toNatClampNeg)) ((xs (x3 + 3).toNatClampNeg)) ((xs (x3 + 4).toNatClampNeg)) ((xs (x3 + 5).toNatClampNeg)) hI1424.2, ?_⟩
        intro v1442 lg1438 it1439 hq1443
        have hI1440 : IL lg1438 it1439 := il_9 hI1424 hq1443.1 hq1443.2 (fun j hj => by first | omega | exact False.elim hj | (dsimp only at hj; omega))
        have hT1441 : RA lg1438 it1439 := ra_9 hT1425 hq1443.2 (fun j hj => by first | omega | exact False.elim hj | (dsimp only at hj; omega)) (fun j hj => by first | omega | exact False.elim hj | (dsimp only at hj; omega))
        have f1445 : (x3 + Int32.ofInt 6).toInt = x3.toInt + 6 := ad32 rfl (by decide) (by omega) (by omega)
        exact ih18 ((x3 + Int32.ofInt 6)) _ _ hI1440 hT1441 (by omega) (by omega)
