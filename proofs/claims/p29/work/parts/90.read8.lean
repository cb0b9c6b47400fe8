/-! the text, done: what a read does to a rail -/
theorem i32_t (x : Int32) : Int32.ofInt x.toInt = x := Int32.ofInt_toInt x
noncomputable def pfV (V : Rlv) (k a b c : Int32) : Int32 × Rlv := if k.toInt = 98 then bmA V a b c else if k.toInt = 101 then spA V a else if k.toInt = 108 then wlA V 0 a else if k.toInt = 114 then wlA V 1 a else goA V a
noncomputable def pf (V : Rlv) (c : Cl) : Int32 × Rlv := pfV V (Int32.ofInt c.1) (Int32.ofInt c.2.1) (Int32.ofInt c.2.2.1) (Int32.ofInt c.2.2.2)
def dn (v : Int32) : Nat := if -4 ≤ v.toInt ∧ v.toInt ≤ -1 then 0 else 1
noncomputable def pfs (t : Tx) (V : Rlv) : Nat → Rlv × Nat
  | 0 => (V, 0)
  | n + 1 => ((pf (pfs t V n).1 (cdat t n)).2, (pfs t V n).2 + dn (pf (pfs t V n).1 (cdat t n)).1)
noncomputable def rdA (t : Tx) (V : Rlv) : Int × Rlv := match (psc t 12 0 0).2 with
  | none => (-10 - ((psc t 12 0 0).1 : Int), V)
  | some m => (((pfs t V m).2 : Int), (pfs t V m).1)
theorem pf_c {V : Rlv} {c : Cl} {k a b d : Int32} (h1 : k.toInt = c.1) (h2 : a.toInt = c.2.1) (h3 : c.1 = 98 → b.toInt = c.2.2.1 ∧ d.toInt = c.2.2.2) : pfV V k a b d = pf V c := by
  unfold pf
  rw [← h1, ← h2, i32_t, i32_t]
  by_cases z : k.toInt = 98
  · obtain ⟨x, y⟩ := h3 (h1 ▸ z)
    rw [← x, ← y, i32_t, i32_t]
  · unfold pfV
    rw [if_neg z, if_neg z]
theorem vo_pf {V : Rlv} {k a b c : Int32} (h : VO V) : VO (pfV V k a b c).2 := by
  unfold pfV
  split
  · exact vo_bm h
  · split
    · exact vo_sp h
    · split
      · exact vo_wl h
      · split
        · exact vo_wl h
        · exact vo_go h
theorem vo_pfs {t : Tx} {V : Rlv} (h : VO V) : ∀ n, VO (pfs t V n).1
  | 0 => h
  | n + 1 => vo_pf (vo_pfs h n)
theorem dn_le (v : Int32) : dn v ≤ 1 := by unfold dn; split <;> omega
theorem pfs_le (t : Tx) (V : Rlv) : ∀ n, (pfs t V n).2 ≤ n
  | 0 => Nat.le_refl 0
  | n + 1 => by have h1 := pfs_le t V n; have h2 := dn_le (pf (pfs t V n).1 (cdat t n)).1; show (pfs t V n).2 + dn (pf (pfs t V n).1 (cdat t n)).1 ≤ n + 1; omega
theorem vo_rd {t : Tx} {V : Rlv} (h : VO V) : VO (rdA t V).2 := by
  unfold rdA
  split
  · exact h
  · exact vo_pfs h _
/-! two texts of the same signs -/
def tn (t : Tx) : Tx := (t.1, fun p => if p < t.1 then t.2 p else 0)
theorem sg_tn (t : Tx) : sg (tn t) = sg t := by
  funext p
  unfold sg sgI
  show (if p < t.1 then (if p < t.1 then t.2 p else 0) else -1).toInt = _
  by_cases c : p < t.1
  · rw [if_pos c, if_pos c, if_pos c]
  · rw [if_neg c, if_neg c]
theorem nmd_tn (d : Int) (t : Tx) (p : Nat) : nmd d (tn t) p = nmd d t p := by unfold nmd; rw [sg_tn]
theorem wln_tn (t : Tx) (p : Nat) : wln (tn t) p = wln t p := by unfold wln; rw [sg_tn, nmd_tn]
theorem pbm3_tn (t : Tx) (p : Nat) : pbm3 (tn t) p = pbm3 t p := by unfold pbm3; rw [sg_tn, nmd_tn]
theorem pbm2_tn (t : Tx) (p : Nat) : pbm2 (tn t) p = pbm2 t p := by unfold pbm2; simp only [sg_tn, nmd_tn, pbm3_tn]
theorem pbm_tn (t : Tx) (p : Nat) : pbm (tn t) p = pbm t p := by unfold pbm; simp only [sg_tn, nmd_tn, pbm2_tn]
theorem pcl_tn (t : Tx) (p : Nat) : pcl (tn t) p = pcl t p := by unfold pcl; simp only [sg_tn, nmd_tn, wln_tn, pbm_tn]
theorem psc_tn (t : Tx) : ∀ f n p, psc (tn t) f n p = psc t f n p
  | 0, _, _ => rfl
  | f + 1, n, p => by unfold psc; simp only [sg_tn, pcl_tn, psc_tn t f]; rfl
theorem cpos_tn (t : Tx) : ∀ n, cpos (tn t) n = cpos t n
  | 0 => rfl
  | n + 1 => by unfold cpos; rw [cpos_tn t n, pcl_tn]
theorem cdat_tn (t : Tx) (n : Nat) : cdat (tn t) n = cdat t n := by unfold cdat; rw [cpos_tn, pcl_tn]
theorem pfs_tn (t : Tx) (V : Rlv) : ∀ n, pfs (tn t) V n = pfs t V n
  | 0 => rfl
  | n + 1 => by unfold pfs; rw [pfs_tn t V n, cdat_tn]
theorem rd_tn (t : Tx) (V : Rlv) : rdA (tn t) V = rdA t V := by unfold rdA; simp only [psc_tn, pfs_tn]
theorem rd_eq {t s : Tx} (h : t.1 = s.1) (h2 : ∀ p, p < t.1 → t.2 p = s.2 p) (V : Rlv) : rdA t V = rdA s V := by
  rw [← rd_tn t, ← rd_tn s]
  have e : tn t = tn s := by
    unfold tn
    refine Prod.ext h (funext fun p => ?_)
    show (if p < t.1 then t.2 p else 0) = if p < s.1 then s.2 p else 0
    by_cases c : p < t.1
    · rw [if_pos c, if_pos (by omega), h2 p c]
    · rw [if_neg c, if_neg (by omega)]
  rw [e]
/-! the first side -/
theorem f_X8_perform (a1 a2 a3 a4 : Int32) {lg0 : LGt} {it0 : ITt} (hI : I8 lg0 it0) (V : Rlv) (hV : RV lg0 it0 2 V) (hVO : VO V) (hc : CI lg0 it0) : w_X8_perform a1 a2 a3 a4 (fun (v : Int32) (lg' : LGt) (it' : ITt) => (I8 lg' it' ∧ Kc (fun j => (2 ≤ j ∧ j < 19) ∨ (55 ≤ j ∧ j < 450) ∨ (486 ≤ j ∧ j < 489)) lg0 it0 lg' it') ∧ (v = (pfV V a1 a2 a3 a4).1 ∧ RV lg' it' 2 (pfV V a1 a2 a3 a4).2) ∧ CI lg' it') lg0 it0 := by
  unfold w_X8_perform
  refine ⟨fun c => ?_, fun c => ⟨fun c2 => ?_, fun c2 => ⟨fun c3 => ?_, fun c3 => ⟨fun c4 => ?_, fun c4 => ?_⟩⟩⟩⟩
  · have e : pfV V a1 a2 a3 a4 = bmA V a2 a3 a4 := by unfold pfV; rw [if_pos c]
    rw [e]
    refine ⟨_, f_X8_bumper a2 a3 a4 hI V hV hVO, ?_⟩
    rintro v lg' it' ⟨⟨J, K⟩, R⟩
    exact ⟨⟨J, kc_t kc_r K (fun j hj => by omega)⟩, R, ci_k hc K (fun j hj => by omega)⟩
  · have e : pfV V a1 a2 a3 a4 = spA V a2 := by unfold pfV; rw [if_neg c, if_pos c2]
    rw [e]
    refine ⟨_, f_X8_spring a2 hI V hV hVO, ?_⟩
    rintro v lg' it' ⟨⟨J, K⟩, R⟩
    exact ⟨⟨J, kc_t kc_r K (fun j hj => by omega)⟩, R, ci_k hc K (fun j hj => by omega)⟩
  · have e : pfV V a1 a2 a3 a4 = wlA V 0 a2 := by unfold pfV; rw [if_neg c, if_neg c2, if_pos c3]
    rw [e]
    refine ⟨_, f_X8_wall 0 a2 hI V hV hVO, ?_⟩
    rintro v lg' it' ⟨⟨J, K⟩, R⟩
    exact ⟨⟨J, kc_t kc_r K (fun j hj => by omega)⟩, R, ci_k hc K (fun j hj => by omega)⟩
  · have e : pfV V a1 a2 a3 a4 = wlA V 1 a2 := by unfold pfV; rw [if_neg c, if_neg c2, if_neg c3, if_pos c4]
    rw [e]
    refine ⟨_, f_X8_wall 1 a2 hI V hV hVO, ?_⟩
    rintro v lg' it' ⟨⟨J, K⟩, R⟩
    exact ⟨⟨J, kc_t kc_r K (fun j hj => by omega)⟩, R, ci_k hc K (fun j hj => by omega)⟩
  · have e : pfV V a1 a2 a3 a4 = goA V a2 := by unfold pfV; rw [if_neg c, if_neg c2, if_neg c3, if_neg c4]
    rw [e]
    refine ⟨_, f_X8_go a2 hI V hV hVO hc, ?_⟩
    rintro v lg' it' ⟨⟨J, K⟩, R, C⟩
    exact ⟨⟨J, kc_t kc_r K (fun j hj => by omega)⟩, R, C⟩
theorem pos_scan {it : ITt} {lg : LGt} (h : I8 lg it) : 0 ≤ (it 467 7).toInt ∧ (it 467 7).toInt ≤ 100 := by have := h 467 7; unfold ok8 at this; rw [oq_467.2] at this; exact this.2.2 rfl
def S8r (j : Nat) : Prop := (2 ≤ j ∧ j < 19) ∨ (55 ≤ j ∧ j < 450) ∨ (486 ≤ j ∧ j < 489) ∨ (467 ≤ j ∧ j < 473)
theorem f_X8_read {lg0 : LGt} {it0 : ITt} (hI : I8 lg0 it0) (V : Rlv) (hV : RV lg0 it0 2 V) (hVO : VO V) (hc : CI lg0 it0) (hP8 : ∀ p, p < (it0 467 1).toNatClampNeg → 0 ≤ (it0 468 p).toInt) : w_X8_read (fun (v : Int32) (lg' : LGt) (it' : ITt) => (I8 lg' it' ∧ Kc S8r lg0 it0 lg' it') ∧ (v.toInt = (rdA (tx8 it0) V).1 ∧ RV lg' it' 2 (rdA (tx8 it0) V).2) ∧ CI lg' it' ∧ it' 467 1 = 0) lg0 it0 := by
  generalize hq : (fun (v : Int32) (lg' : LGt) (it' : ITt) => (I8 lg' it' ∧ Kc S8r lg0 it0 lg' it') ∧ (v.toInt = (rdA (tx8 it0) V).1 ∧ RV lg' it' 2 (rdA (tx8 it0) V).2) ∧ CI lg' it' ∧ it' 467 1 = 0) = Pz
  unfold w_X8_read
  refine ⟨_, f_X7_scan hI hP8, ?_⟩
  intro v2 lg3 it4 hq2
  obtain ⟨⟨J4, rfl, G4⟩, hs⟩ := hq2
  intro it8 m8
  have K4 : Kc S8r lg3 it0 lg3 it4 := fun j hj => ⟨rfl, G4.2.2 j (by unfold S8r at hj; omega)⟩
  have K8 : Kc S8r lg3 it0 lg3 it8 := by rw [m8]; exact kc_u (by unfold S8r; omega) K4
  have J8 : I8 lg3 it8 := by rw [m8]; exact i8_u J4 (ok8_7 oq_467 ⟨fun _ => by rw [ti_0]; omega, fun q => absurd q (by decide), fun q => absurd q (by decide)⟩)
  have R8 : RV lg3 it8 2 V := rv_e hV (fun j h1 h2 => ⟨rfl, by rw [m8, u2_row (by omega)]; exact G4.2.2 j (by omega)⟩)
  have C8 : CI lg3 it8 := ci_k hc (S := fun j => 467 ≤ j ∧ j < 473) (fun j hj => ⟨rfl, by rw [m8, u2_row (by omega)]; exact G4.2.2 j (by omega)⟩) (fun j hj => by omega)
  have z8 : it8 467 1 = 0 := by rw [m8, u2_eq]
  refine ⟨fun c => ?_, fun c => ?_⟩
  case refine_2 =>
    obtain ⟨_, e, h7⟩ := hs.resolve_left (fun y => by rw [y.1] at c; exact absurd c (by decide))
    have e7 : it8 467 7 = it4 467 7 := by rw [m8, u2_ne (by decide)]
    have b := pos_scan J8
    have f : (-10 - it8 467 7).toInt = -10 - (it8 467 7).toInt := sb32 ti_m10 rfl (by omega) (by omega)
    have er : rdA (tx8 it0) V = (-10 - ((psc (tx8 it0) 12 0 0).1 : Int), V) := by unfold rdA; rw [e]
    subst hq
    refine ⟨⟨J8, K8⟩, ⟨?_, ?_⟩, C8, z8⟩
    · rw [er, f, e7, h7]
    · rw [er]; exact R8
  obtain ⟨_, m, e, hm, h6, hcd⟩ := hs.resolve_right (fun y => c y.1)
  have er : rdA (tx8 it0) V = (((pfs (tx8 it0) V m).2 : Int), (pfs (tx8 it0) V m).1) := by unfold rdA; rw [e]
  have h68 : (it8 467 6).toInt = m := by rw [m8, u2_ne (by decide)]; exact h6
  have cd8 : CD it8 (tx8 it0) m := by
    intro j hj
    rw [m8, u2_row (by decide), u2_row (by decide), u2_row (by decide), u2_row (by decide)]
    exact hcd j hj
  have lp : ∀ (n : Nat) (y x : Int32) (lg : LGt) (it : ITt) (j : Nat), I8 lg it → Kc (fun j => (2 ≤ j ∧ j < 19) ∨ (55 ≤ j ∧ j < 450) ∨ (486 ≤ j ∧ j < 489)) lg3 it8 lg it → x.toInt = j → j ≤ m → y.toInt = (pfs (tx8 it0) V j).2 → RV lg it 2 (pfs (tx8 it0) V j).1 → CI lg it → m - j < n → w_X8_read_b35 Pz n y x lg it := by
    intro n
    induction n with
    | zero => intro y x lg it j _ _ _ _ _ _ _ hn; exact absurd hn (Nat.not_lt_zero _)
    | succ n ih =>
      intro y x lg it j hJ hK hx hj hy hR hC hn
      have r (k : Nat) (h1 : 467 ≤ k) (h2 : k < 473) : it k = it8 k := (hK k (by omega)).2
      have hxj : x.toNatClampNeg = j := by have := cl32 (i := x) (by omega); omega
      have hpl := pfs_le (tx8 it0) V j
      unfold w_X8_read_b35
      rw [Int32.le_iff_toInt_le, r 467 (by decide) (by decide), h68, hx]
      refine ⟨fun c => ?_, fun c => ?_⟩
      · obtain rfl : j = m := by omega
        subst hq
        refine ⟨⟨hJ, kc_t K8 hK (fun j hj => by unfold S8r; omega)⟩, ⟨?_, ?_⟩, hC, ?_⟩
        · rw [er]; exact hy
        · rw [er]; exact hR
        · rw [r 467 (by decide) (by decide)]; exact z8
      have hv : vp_in x 12 := vp_of (by omega) (by omega)
      obtain ⟨d1, d2, d3⟩ := cd8 j (by omega)
      have ep : pfV (pfs (tx8 it0) V j).1 (it 469 x.toNatClampNeg) (it 470 x.toNatClampNeg) (it 471 x.toNatClampNeg) (it 472 x.toNatClampNeg) = pf (pfs (tx8 it0) V j).1 (cdat (tx8 it0) j) := by
        rw [hxj, r 469 (by decide) (by decide), r 470 (by decide) (by decide), r 471 (by decide) (by decide), r 472 (by decide) (by decide)]
        exact pf_c d1 d2 d3
      have pj := f_X8_perform (it 469 x.toNatClampNeg) (it 470 x.toNatClampNeg) (it 471 x.toNatClampNeg) (it 472 x.toNatClampNeg) hJ _ hR (vo_pfs hVO j) hC
      rw [ep] at pj
      refine ⟨hv, hv, hv, hv, _, pj, ?_⟩
      intro v23 lg24 it25 hq3
      obtain ⟨⟨J25, K25⟩, ⟨ev, R25⟩, C25⟩ := hq3
      have K25x := kc_t hK K25 (fun j hj => hj)
      have fx : (x + 1).toInt = x.toInt + 1 := ad32 rfl ti_1 (by omega) (by omega)
      have fy : (y + 1).toInt = y.toInt + 1 := ad32 rfl ti_1 (by omega) (by omega)
      have fxj : (x + 1).toInt = ((j + 1 : Nat) : Int) := by omega
      have hpn : (pfs (tx8 it0) V (j + 1)).2 = (pfs (tx8 it0) V j).2 + dn v23 := by rw [ev]; rfl
      refine ⟨fun c2 => ?_, fun c2 => ?_⟩
      · have ed : dn v23 = 0 := by unfold dn; rw [if_pos c2]
        exact ih y (x + 1) lg24 it25 (j + 1) J25 K25x fxj (by omega) (by rw [hpn, ed]; exact hy) R25 C25 (by omega)
      · have ed : dn v23 = 1 := by unfold dn; rw [if_neg c2]
        exact ih (y + 1) (x + 1) lg24 it25 (j + 1) J25 K25x fxj (by omega) (by rw [hpn, ed, fy, hy]; omega) R25 C25 (by omega)
  exact ⟨_, lp (m + 1) 0 0 lg3 it8 0 J8 kc_r ti_0 (Nat.zero_le _) ti_0 R8 C8 (by omega)⟩
