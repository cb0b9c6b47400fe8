/-! fits: by how many speeds it goes as seen, on both sides -/
def spd : Nat → Int32
  | 0 => 5
  | n + 1 => spd n - 1
theorem spd_i : ∀ n, n ≤ 11 → (spd n).toInt = 5 - (n : Int)
  | 0, _ => by
    show (5 : Int32).toInt = _
    rw [ti_5]
    omega
  | n + 1, h => by
    have e := spd_i n (by omega)
    show (spd n - 1).toInt = _
    rw [sb32 e ti_1 (by omega) (by omega)]
    omega
def allH (W : Rlv) (c : Nat) (X : Pr) : Prop := ∀ k, k < X.1.toNatClampNeg → hitP W c X k
theorem fu_5 {V : Rlv} {c : Nat} {X : Pr} : ∀ f k, fuF V c X f k = -5 ↔ ∀ j, k ≤ j → j < k + f → hitP V c X j
  | 0, k => ⟨fun _ j h1 h2 => absurd h2 (by omega), fun _ => rfl⟩
  | f + 1, k => by
    unfold fuF
    by_cases z : hitP V c X k
    · rw [if_pos z, fu_5 f (k + 1)]
      refine ⟨fun h j h1 h2 => ?_, fun h j h1 h2 => h j (by omega) (by omega)⟩
      by_cases e : j = k
      · rw [e]; exact z
      · exact h j (by omega) (by omega)
    · rw [if_neg z]
      exact ⟨fun h => absurd h (by omega), fun h => absurd (h k (Nat.le_refl _) (by omega)) z⟩
theorem lk_5 {V : Rlv} {c : Nat} {X : Pr} : lkI V c X = -5 ↔ allH V c X := by
  unfold lkI allH
  rw [fu_5]
  exact ⟨fun h k hk => h k (Nat.zero_le _) (by omega), fun h j _ h2 => h j (by omega)⟩
theorem all_pq {W : Rlv} {c : Nat} {X Y : Pr} (h : PQ X Y) : allH W c X ↔ allH W c Y := by rw [← lk_5, ← lk_5, lk_pq h]
theorem all_m {W : Rlv} {m : Nat} {X : Pr} (hm : m ≤ 20) (h : ∀ k, k < X.1.toNatClampNeg → (X.2.1 k).toInt + 1 ≤ m) : allH W (cnt W m) X ↔ allH W (cnt W 20) X := by
  have e := cnt_mn (V := W) hm
  refine ⟨fun a k hk => ?_, fun a k hk => ?_⟩
  · obtain ⟨⟨z1, z2⟩, z3⟩ := a k hk
    exact ⟨⟨z1, by omega⟩, z3⟩
  · obtain ⟨⟨z1, z2⟩, z3⟩ := a k hk
    have b := h k hk
    exact ⟨⟨z1, by omega⟩, z3⟩
def rlF (V : Rlv) (i n : Nat) : Rlv := setS V i ((spd n).toInt64, 1)
noncomputable def ftN (V : Rlv) (i : Nat) (X : Pr) : Nat → Int × Int
  | 0 => (0, -10)
  | n + 1 => @ite _ (allH (rlF V i n) (cnt (rlF V i n) 20) X) (Classical.propDecidable _) ((ftN V i X n).1 + 1, (spd n).toInt) (ftN V i X n)
theorem ft_y {V : Rlv} {i n : Nat} {X : Pr} (h : allH (rlF V i n) (cnt (rlF V i n) 20) X) : ftN V i X (n + 1) = ((ftN V i X n).1 + 1, (spd n).toInt) := by
  rw [ftN]
  exact if_pos h
theorem ft_n {V : Rlv} {i n : Nat} {X : Pr} (h : ¬ allH (rlF V i n) (cnt (rlF V i n) 20) X) : ftN V i X (n + 1) = ftN V i X n := by
  rw [ftN]
  exact if_neg h
theorem ft_b (V : Rlv) (i : Nat) (X : Pr) : ∀ n, 0 ≤ (ftN V i X n).1 ∧ (ftN V i X n).1 ≤ n
  | 0 => by
    rw [ftN]
    show 0 ≤ (0 : Int) ∧ (0 : Int) ≤ ((0 : Nat) : Int)
    omega
  | n + 1 => by
    have b := ft_b V i X n
    by_cases h : allH (rlF V i n) (cnt (rlF V i n) 20) X
    · have e : (ftN V i X (n + 1)).1 = (ftN V i X n).1 + 1 := congrArg Prod.fst (ft_y h)
      omega
    · rw [ft_n h]; omega
theorem ft_pq {V : Rlv} {i : Nat} {X Y : Pr} (h : PQ X Y) : ∀ n, ftN V i X n = ftN V i Y n
  | 0 => by rw [ftN, ftN]
  | n + 1 => by
    by_cases z : allH (rlF V i n) (cnt (rlF V i n) 20) X
    · rw [ft_y z, ft_y ((all_pq h).mp z), ft_pq h n]
    · rw [ft_n z, ft_n (fun q => z ((all_pq h).mpr q)), ft_pq h n]
noncomputable def fitI (V : Rlv) (a w : Int32) (X : Pr) : Int := if ¬ (0 ≤ a.toInt ∧ a.toInt < rN V) ∨ ¬ (0 ≤ w.toInt ∧ w.toInt ≤ 1) then -1 else if w.toInt = 0 then (ftN V a.toNatClampNeg X 11).1 else (ftN V a.toNatClampNeg X 11).2
theorem fit_pq {V : Rlv} {a w : Int32} {X Y : Pr} (h : PQ X Y) : fitI V a w X = fitI V a w Y := by
  unfold fitI
  rw [ft_pq h]
theorem fit_n {V : Rlv} {a w : Int32} {X : Pr} (h : ¬ (0 ≤ a.toInt ∧ a.toInt < rN V) ∨ ¬ (0 ≤ w.toInt ∧ w.toInt ≤ 1)) : fitI V a w X = -1 := if_pos h
theorem fit_0 {V : Rlv} {a w : Int32} {X : Pr} (h : 0 ≤ a.toInt ∧ a.toInt < rN V) (h2 : w.toInt = 0) : fitI V a w X = (ftN V a.toNatClampNeg X 11).1 := by
  unfold fitI
  rw [if_neg (by omega), if_pos h2]
theorem fit_1 {V : Rlv} {a w : Int32} {X : Pr} (h : 0 ≤ a.toInt ∧ a.toInt < rN V) (h2 : 0 ≤ w.toInt ∧ w.toInt ≤ 1) (h3 : ¬ w.toInt = 0) : fitI V a w X = (ftN V a.toNatClampNeg X 11).2 := by
  unfold fitI
  rw [if_neg (by omega), if_neg h3]
theorem f_X8_fits (a1 a2 : Int32) {lg0 : LGt} {it0 : ITt} (hI : I8 lg0 it0) (V : Rlv) (hV : RV lg0 it0 2 V) (hVO : VO V) (hc : CI lg0 it0) (hS : AS (p8 it0 19)) : w_X8_fits a1 a2 (fun (v : Int32) (lg' : LGt) (it' : ITt) => (I8 lg' it' ∧ KC2 V (fun j => (55 ≤ j ∧ j < 450) ∨ (450 ≤ j ∧ j < 467)) lg0 it0 lg' it') ∧ v.toInt = fitI V a1 a2 (p8 it0 19)) lg0 it0 := by
  have tm5 : (-5 : Int32).toInt = -5 := by decide
  have tm10 : (-10 : Int32).toInt = -10 := by decide
  generalize hp : (fun (v : Int32) (lg' : LGt) (it' : ITt) => (I8 lg' it' ∧ KC2 V (fun j => (55 ≤ j ∧ j < 450) ∨ (450 ≤ j ∧ j < 467)) lg0 it0 lg' it') ∧ v.toInt = fitI V a1 a2 (p8 it0 19)) = Pz
  have leaf : ∀ (x : Int32) (lg : LGt) (it : ITt), I8 lg it → KC2 V (fun j => (55 ≤ j ∧ j < 450) ∨ (450 ≤ j ∧ j < 467)) lg0 it0 lg it → x.toInt = fitI V a1 a2 (p8 it0 19) → Pz x lg it := by
    intro x lg it J K e; subst hp; exact ⟨⟨J, K⟩, e⟩
  have K0 : KC2 V (fun j => (55 ≤ j ∧ j < 450) ∨ (450 ≤ j ∧ j < 467)) lg0 it0 lg0 it0 := ⟨kc_r, hc, hV⟩
  have hN := rN_f hI in_rb_2 hV
  have h6 := hVO.1
  have b19 := i8_2 hI oq_19
  rw [c8L 19 (by decide), if_pos rfl] at b19
  unfold w_X8_fits
  rw [hN, lt0, le0, ti_0, ti_1]
  refine ⟨fun c => leaf _ _ _ hI K0 ((ti_m1).trans (fit_n (Or.inl c)).symm), fun c => ⟨fun c2 => leaf _ _ _ hI K0 ((ti_m1).trans (fit_n (Or.inr (by omega))).symm), fun c2 => ⟨fun c3 => ?_, fun c3 => leaf _ _ _ hI K0 ((ti_m1).trans (fit_n (Or.inr (by omega))).symm)⟩⟩⟩
  have k1 := cl32 c.1
  have hv1 : vp_in a1 6 := vp_of c.1 (by omega)
  have i0 : a2 = 0 ↔ a2.toInt = 0 := by rw [← ti_0]; exact Int32.toInt_inj.symm
  -- the speeds, from 5 down
  have lp : ∀ (n : Nat) (x3 x4 x5 x6 : Int32) (lg : LGt) (it : ITt) (k : Nat), I8 lg it → KC2 V (fun j => (55 ≤ j ∧ j < 450) ∨ (450 ≤ j ∧ j < 467)) lg0 it0 lg it → (0 ≤ x3.toInt ∧ x3.toInt ≤ 20) → (∀ j, j < (it0 19 2).toNatClampNeg → (it0 20 j).toInt + 1 ≤ x3.toInt) → x6 = spd k → k ≤ 11 → x4.toInt = (ftN V a1.toNatClampNeg (p8 it0 19) k).1 → x5.toInt = (ftN V a1.toNatClampNeg (p8 it0 19) k).2 → 11 - k < n → w_X8_fits_b75 a1 a2 Pz n x3 x4 x5 x6 lg it := by
    intro n
    induction n with
    | zero => intro x3 x4 x5 x6 lg it k _ _ _ _ _ _ _ _ hn; exact absurd hn (Nat.not_lt_zero _)
    | succ n ih =>
      intro x3 x4 x5 x6 lg it k hJ hK h3 h3m hx hk h4 h5 hn
      have sk := spd_i k hk
      have fb := ft_b V a1.toNatClampNeg (p8 it0 19) k
      unfold w_X8_fits_b75
      rw [hx, lt0, tm5]
      refine ⟨fun c4 => ?_, fun c4 => ⟨_, f_X3_become in_rb_450 in_rb_2 hJ (by decide), ?_⟩⟩
      · obtain rfl : k = 11 := by omega
        exact ⟨fun z => leaf _ _ _ hJ hK (h5.trans (fit_1 c (by omega) (fun q => z (i0.mpr q))).symm), fun z => leaf _ _ _ hJ hK (h4.trans (fit_0 c (i0.mp z)).symm)⟩
      rintro lgS itS ⟨⟨JS, KS0⟩, eS⟩
      obtain ⟨KS, RS, R2S, CS⟩ := sup hK.2.2 hK.2.1 KS0 eS
      have K2 := k2_t hK KS (fun j hj => by omega) (fun j hj => by omega)
      refine ⟨hv1, ?_⟩
      intro lg24 m24 it25 m25
      have J25 : I8 lg24 it25 := by rw [m25]; exact i8_u JS (ok8_1 (rpo5 in_rb_450 (by omega)) (fun _ => Or.inl rfl))
      have R25 : RV lg24 it25 450 (rlF V a1.toNatClampNeg k) := by rw [m24, m25]; exact rv_setS RS (by omega)
      have K25 : KC2 V (fun j => (55 ≤ j ∧ j < 450) ∨ (450 ≤ j ∧ j < 467)) lg0 it0 lg24 it25 := by rw [m24, m25]; exact k2_f (by omega) (by omega) K2
      refine ⟨_, w450 x3 J25 _ R25 (vo_setS hVO (by omega) (show 0 < (1 : Int64).toInt by decide)) h3 K25.2.1, ?_⟩
      rintro lg' it' ⟨⟨J, K⟩, s, C⟩
      have K3 := k2_w K25 K C (fun j hj => by omega)
      have k3 := cl32 h3.1
      refine ⟨_, f_X0_firstUnlike (a1 := 19) (Or.inl rfl) J _ _ s.1 (Nat.le_trans (cnt_le _ _) (by omega)) s.2.2.2, ?_⟩
      rw [p8_k (a := 19) K3.1 (fun j hj => by omega)]
      rintro v35 lg36 it37 ⟨rfl, rfl, hv⟩
      have hq : v35 = -5 ↔ allH (rlF V a1.toNatClampNeg k) (cnt (rlF V a1.toNatClampNeg k) 20) (p8 it0 19) := by
        rw [← all_m (W := rlF V a1.toNatClampNeg k) (m := x3.toNatClampNeg) (X := p8 it0 19) (by omega) (fun j hj => by have h := h3m j hj; rw [k3]; exact h), ← lk_5, ← Int32.toInt_inj, tm5, hv]
      have fx4 : (x4 + 1).toInt = x4.toInt + 1 := ad32 rfl ti_1 (by omega) (by omega)
      refine ⟨fun c5 => ?_, fun c5 => ?_⟩
      · have z := ft_n (fun q => c5 (hq.mpr q))
        exact ih x3 x4 x5 (spd k - 1) _ _ (k + 1) J K3 h3 h3m rfl (by omega) (by rw [z]; exact h4) (by rw [z]; exact h5) (by omega)
      · have z := ft_y (hq.mp c5)
        have z1 : (ftN V a1.toNatClampNeg (p8 it0 19) (k + 1)).1 = (ftN V a1.toNatClampNeg (p8 it0 19) k).1 + 1 := congrArg Prod.fst z
        have z2 : (ftN V a1.toNatClampNeg (p8 it0 19) (k + 1)).2 = (spd k).toInt := congrArg Prod.snd z
        exact ih x3 (x4 + 1) (spd k) (spd k - 1) _ _ (k + 1) J K3 h3 h3m rfl (by omega) (by omega) z2.symm (by omega)
  -- how far the seen ones go
  have kn := cl32 b19.1
  have lq : ∀ (n : Nat) (x3 x4 : Int32) (k : Nat), (0 ≤ x3.toInt ∧ x3.toInt ≤ 20) → x4.toInt = k → k ≤ (it0 19 2).toNatClampNeg → (∀ j, j < k → (it0 20 j).toInt + 1 ≤ x3.toInt) → (it0 19 2).toNatClampNeg - k < n → w_X8_fits_b24 a1 a2 Pz n x3 x4 lg0 it0 := by
    intro n
    induction n with
    | zero => intro x3 x4 k _ _ _ _ hn; exact absurd hn (Nat.not_lt_zero _)
    | succ n ih =>
      intro x3 x4 k h3 hx hk hm hn
      unfold w_X8_fits_b24
      rw [le0, hx, ← kn]
      refine ⟨fun c4 => ?_, fun c4 => ?_⟩
      · exact ⟨_, lp 12 x3 0 (-10) 5 lg0 it0 0 hI K0 h3 (fun j hj => hm j (by omega)) rfl (by omega) (by rw [ftN]; exact ti_0) (by rw [ftN]; exact tm10) (by omega)⟩
      · have hxk : x4.toNatClampNeg = k := by have := cl32 (i := x4) (by omega); omega
        have fx : (x4 + 1).toInt = x4.toInt + 1 := ad32 rfl ti_1 (by omega) (by omega)
        have hs : 0 ≤ (it0 20 k).toInt ∧ (it0 20 k).toInt ≤ 19 := (hS k).1
        have fy : (it0 20 k + 1).toInt = (it0 20 k).toInt + 1 := ad32 rfl ti_1 (by omega) (by omega)
        rw [hxk]
        refine ⟨vp_of (by omega) (by omega), ?_⟩
        by_cases c5 : x3 < it0 20 k + 1
        · rw [if_pos c5]
          have c6 := lt0.mp c5
          refine ih _ (x4 + 1) (k + 1) (by omega) (by omega) (by omega) (fun j hj => ?_) (by omega)
          by_cases e : j = k
          · rw [e, fy]; exact Int.le_refl _
          · have := hm j (by omega); omega
        · rw [if_neg c5]
          have c6 : ¬ x3.toInt < (it0 20 k + 1).toInt := fun q => c5 (lt0.mpr q)
          refine ih _ (x4 + 1) (k + 1) h3 (by omega) (by omega) (fun j hj => ?_) (by omega)
          by_cases e : j = k
          · rw [e]; omega
          · exact hm j (by omega)
  exact ⟨_, lq ((it0 19 2).toNatClampNeg + 1) 0 0 0 (by rw [ti_0]; omega) ti_0 (Nat.zero_le _) (fun j hj => absurd hj (Nat.not_lt_zero _)) (by omega)⟩
/-! the second side -/
theorem vm_S {lg lg1 lg2 : LGt} {it : ITt} {i : Nat} {a b : Int64} (hi : i < (it 489 0).toNatClampNeg) (e1 : lg1 = u2 lg 504 i a) (e2 : lg2 = u2 lg1 505 i b) : vm9 lg2 it = setS (vm9 lg it) i (a, b) := by
  have r502 : lg2 502 = lg 502 := by rw [e2, u2_row (by decide), e1, u2_row (by decide)]
  have r503 : lg2 503 = lg 503 := by rw [e2, u2_row (by decide), e1, u2_row (by decide)]
  have r504 (j : Nat) : lg2 504 j = if j = i then a else lg 504 j := by
    rw [e2, u2_row (by decide), e1]
    by_cases z : j = i
    · rw [if_pos z, z, u2_eq]
    · rw [if_neg z, u2_ne z]
  have r505 (j : Nat) : lg2 505 j = if j = i then b else lg 505 j := by
    rw [e2]
    by_cases z : j = i
    · rw [if_pos z, z, u2_eq]
    · rw [if_neg z, u2_ne z, e1, u2_row (by decide)]
  unfold vm9 setS
  rw [r502, r503]
  have eS : (fun j => if j < (it 489 0).toNatClampNeg then (lg2 504 j, lg2 505 j) else ((0, 1) : QQ)) = (fun j => if j = i then (a, b) else if j < (it 489 0).toNatClampNeg then (lg 504 j, lg 505 j) else (0, 1)) := by
    funext j
    rw [r504, r505]
    by_cases z : j = i
    · rw [if_pos z, if_pos z, if_pos z, if_pos (by omega)]
    · rw [if_neg z, if_neg z, if_neg z]
  rw [eS]
theorem f_X9_struck {lg : LGt} {it : ITt} {W : Rlv} {f r k : Nat} (g1 : (it 489 42).toInt = cnt W 20) (g3 : ∀ s, s < cnt W 20 → (it 508 s).toInt = whr W s) (h0 : 0 ≤ (it r k).toInt) : w_X9_isStruck (it r k) (it (r + 1) k) (fun (v : Int32) (lg' : LGt) (it' : ITt) => lg' = lg ∧ it' = it ∧ ((v = 1 ∧ hitP W (cnt W 20) (p9 it f r) k) ∨ (v = 0 ∧ ¬ hitP W (cnt W 20) (p9 it f r) k))) lg it := by
  have hcl := cnt_le W 20
  have kf := cl32 h0
  unfold w_X9_isStruck
  rw [le0, g1]
  refine ⟨fun c3 => ⟨rfl, rfl, Or.inr ⟨rfl, fun z => ?_⟩⟩, fun c3 => ⟨vp_of (by omega) (by omega), fun c4 => ⟨rfl, rfl, Or.inr ⟨rfl, fun z => c4 ?_⟩⟩, fun c4 => ⟨rfl, rfl, Or.inl ⟨rfl, ⟨⟨?_, ?_⟩, ?_⟩⟩⟩⟩⟩
  · have z1 : (it r k).toInt < cnt W 20 := z.1.2
    omega
  · have z2 : whr W (it r k).toNatClampNeg = (it (r + 1) k).toInt := z.2
    exact Int32.toInt_inj.mp (by rw [g3 _ (by omega)]; exact z2)
  · show 0 ≤ (it r k).toInt; omega
  · show (it r k).toInt < cnt W 20; omega
  · show whr W (it r k).toNatClampNeg = (it (r + 1) k).toInt
    rw [← g3 _ (by omega), c4]
theorem f_X9_fits (a1 a2 : Int32) {lg0 : LGt} {it0 : ITt} (hI : I9 lg0 it0) (hVO : VO (vw9 lg0 it0)) : w_X9_fits a1 a2 (fun (v : Int32) (lg' : LGt) (it' : ITt) => (I9 lg' it' ∧ Kd (fun j => 501 ≤ j ∧ j ≤ 512) (fun k => k = 18 ∨ k = 19 ∨ k = 20 ∨ (28 ≤ k ∧ k ≤ 43)) lg0 it0 lg' it') ∧ v.toInt = fitI (vw9 lg0 it0) a1 a2 (p9 it0 9 495)) lg0 it0 := by
  have tm5 : (-5 : Int32).toInt = -5 := by decide
  have tm10 : (-10 : Int32).toInt = -10 := by decide
  have tl1 : ((1 : Int64) : Int64).toInt = 1 := by decide
  obtain ⟨hn, h6, hs⟩ := n9_b hI
  generalize hV : vw9 lg0 it0 = V at hn h6 hVO
  generalize hp : (fun (v : Int32) (lg' : LGt) (it' : ITt) => (I9 lg' it' ∧ Kd (fun j => 501 ≤ j ∧ j ≤ 512) (fun k => k = 18 ∨ k = 19 ∨ k = 20 ∨ (28 ≤ k ∧ k ≤ 43)) lg0 it0 lg' it') ∧ v.toInt = fitI V a1 a2 (p9 it0 9 495)) = Pz
  have leaf : ∀ (x : Int32) (lg : LGt) (it : ITt), I9 lg it → Kd (fun j => 501 ≤ j ∧ j ≤ 512) (fun k => k = 18 ∨ k = 19 ∨ k = 20 ∨ (28 ≤ k ∧ k ≤ 43)) lg0 it0 lg it → x.toInt = fitI V a1 a2 (p9 it0 9 495) → Pz x lg it := by
    intro x lg it J K e; subst hp; exact ⟨⟨J, K⟩, e⟩
  unfold w_X9_fits
  rw [hs, hn, Int32.toInt_toInt64, tl_0, tl1]
  refine ⟨fun c => leaf _ _ _ hI kd_r (ti_m1.trans (fit_n (by omega)).symm), fun c => ⟨fun c2 => ?_, fun c2 => leaf _ _ _ hI kd_r (ti_m1.trans (fit_n (Or.inr c2)).symm)⟩⟩
  have c1 : 0 ≤ a1.toInt ∧ a1.toInt < rN V := by omega
  have k1 := cl32 c1.1
  have i0 : a2 = 0 ↔ a2.toInt = 0 := by rw [← ti_0]; exact Int32.toInt_inj.symm
  have e9 : ∀ {lg : LGt} {it : ITt}, Kd (fun j => 501 ≤ j ∧ j ≤ 512) (fun k => k = 18 ∨ k = 19 ∨ k = 20 ∨ (28 ≤ k ∧ k ≤ 43)) lg0 it0 lg it → p9 it 9 495 = p9 it0 9 495 := fun K => p9_k K (by decide) (by omega) (by omega) (by omega)
  have b9 := i9_f hI (j := 489) (k := 9) rfl
  have kn := cl32 b9.1
  have lp : ∀ (n : Nat) (x3 x4 x5 : Int32) (lg : LGt) (it : ITt) (k : Nat), I9 lg it → Kd (fun j => 501 ≤ j ∧ j ≤ 512) (fun k => k = 18 ∨ k = 19 ∨ k = 20 ∨ (28 ≤ k ∧ k ≤ 43)) lg0 it0 lg it → x5 = spd k → k ≤ 11 → x3.toInt = (ftN V a1.toNatClampNeg (p9 it0 9 495) k).1 → x4.toInt = (ftN V a1.toNatClampNeg (p9 it0 9 495) k).2 → 11 - k < n → w_X9_fits_b29 a1 a2 Pz n x3 x4 x5 lg it := by
    intro n
    induction n with
    | zero => intro x3 x4 x5 lg it k _ _ _ _ _ _ hn; exact absurd hn (Nat.not_lt_zero _)
    | succ n ih =>
      intro x3 x4 x5 lg it k hJ hK hx hk h3 h4 hn
      have sk := spd_i k hk
      have fb := ft_b V a1.toNatClampNeg (p9 it0 9 495) k
      unfold w_X9_fits_b29
      rw [hx, lt0, tm5]
      refine ⟨fun c4 => ?_, fun c4 => ⟨_, f_X9_minds hJ, ?_⟩⟩
      · obtain rfl : k = 11 := by omega
        exact ⟨fun z => leaf _ _ _ hJ hK (h4.trans (fit_1 c1 c2 (fun q => z (i0.mpr q))).symm), fun z => leaf _ _ _ hJ hK (h3.trans (fit_0 c1 (i0.mp z)).symm)⟩
      have hW : vw9 lg it = V := by rw [wAll hK]; exact hV
      rintro lgM itM ⟨⟨JM, KM⟩, eM⟩
      rw [hW] at eM
      refine ⟨_, f_X9_becomes a1 _ _ (by omega), ?_⟩
      rintro lgB itB ⟨mB, mI⟩
      rw [mI]
      have K1 : Kd (fun j => 501 ≤ j ∧ j ≤ 512) (fun k => k = 18 ∨ k = 19 ∨ k = 20 ∨ (28 ≤ k ∧ k ≤ 43)) lg0 it0 lgM itM := kd_t hK KM (fun j hj => by omega) (fun k hk => by omega)
      have hiM : a1.toNatClampNeg < (itM 489 0).toNatClampNeg := by
        have e : rN (vm9 lgM itM) = rN V := by rw [eM]
        have e : (itM 489 0).toNatClampNeg = rN V := e
        omega
      have VB : vm9 lgB itM = rlF V a1.toNatClampNeg k := by rw [vm_S hiM rfl mB, eM]; rfl
      have JB : I9 lgB itM := by rw [mB]; exact i9_l (i9_l JM (by decide) (by decide) (by decide)) (by decide) (by decide) (by decide)
      have KB : Kd (fun j => 501 ≤ j ∧ j ≤ 512) (fun k => k = 18 ∨ k = 19 ∨ k = 20 ∨ (28 ≤ k ∧ k ≤ 43)) lg0 it0 lgB itM := by rw [mB]; exact kd_lr (by decide) (by omega) (kd_lr (by decide) (by omega) K1)
      refine ⟨_, f_X9_goesOn (20 : Int32) JB (by rw [VB]; exact vo_setS hVO (by omega) (show 0 < (1 : Int64).toInt by decide)) (by rw [ti_20]; decide), ?_⟩
      rw [VB, show (20 : Int32).toNatClampNeg = 20 by decide]
      rintro lgG itG ⟨⟨JG, KG0⟩, _, g1, _, g3, _⟩
      have KG : Kd (fun j => 501 ≤ j ∧ j ≤ 512) (fun k => k = 18 ∨ k = 19 ∨ k = 20 ∨ (28 ≤ k ∧ k ≤ 43)) lg0 it0 lgG itG := kd_t KB KG0 (fun j hj => by omega) (fun k hk => by omega)
      have e49 : itG 489 9 = it0 489 9 := (KG.2 9 (by omega)).2
      have eP := e9 KG
      -- as seen?
      have fx3 : (x3 + 1).toInt = x3.toInt + 1 := ad32 rfl ti_1 (by omega) (by omega)
      have fx0 : (x3 + 0).toInt = x3.toInt + 0 := ad32 rfl ti_0 (by omega) (by omega)
      have lq : ∀ (m : Nat) (x6 x7 : Int32) (j : Nat), x7.toInt = j → j ≤ (it0 489 9).toNatClampNeg → ((x6 = 1 ∧ ∀ i, i < j → hitP (rlF V a1.toNatClampNeg k) (cnt (rlF V a1.toNatClampNeg k) 20) (p9 it0 9 495) i) ∨ (x6 = 0 ∧ ∃ i, i < j ∧ ¬ hitP (rlF V a1.toNatClampNeg k) (cnt (rlF V a1.toNatClampNeg k) 20) (p9 it0 9 495) i)) → (it0 489 9).toNatClampNeg - j < m → w_X9_fits_b61 a1 a2 Pz (w_X9_fits_b29 a1 a2 Pz n) m x3 x4 (spd k) x6 x7 lgG itG := by
        intro m
        induction m with
        | zero => intro x6 x7 j _ _ _ hm; exact absurd hm (Nat.not_lt_zero _)
        | succ m ihm =>
          intro x6 x7 j hx7 hj h6 hm
          unfold w_X9_fits_b61
          rw [le0, e49, hx7, ← kn]
          refine ⟨fun c5 => ?_, fun c5 => ?_⟩
          · obtain rfl : j = (it0 489 9).toNatClampNeg := by omega
            unfold w_X9_fits_b110
            rcases h6 with ⟨rfl, h6⟩ | ⟨rfl, i, hi, h6⟩
            · have z := ft_y (V := V) (i := a1.toNatClampNeg) (n := k) (X := p9 it0 9 495) (fun i hi => h6 i hi)
              have z1 : (ftN V a1.toNatClampNeg (p9 it0 9 495) (k + 1)).1 = (ftN V a1.toNatClampNeg (p9 it0 9 495) k).1 + 1 := congrArg Prod.fst z
              have z2 : (ftN V a1.toNatClampNeg (p9 it0 9 495) (k + 1)).2 = (spd k).toInt := congrArg Prod.snd z
              exact ⟨fun q => absurd q (by decide), fun _ => ⟨fun q => absurd q (by decide), fun _ => ih (x3 + 1) (spd k) (spd k - 1) lgG itG (k + 1) JG KG rfl (by omega) (by omega) z2.symm (by omega)⟩⟩
            · have z := ft_n (V := V) (i := a1.toNatClampNeg) (n := k) (X := p9 it0 9 495) (fun q => h6 (q i hi))
              exact ⟨fun _ => ⟨fun _ => ih (x3 + 0) x4 (spd k - 1) lgG itG (k + 1) JG KG rfl (by omega) (by rw [z]; omega) (by rw [z]; exact h4) (by omega), fun q => absurd rfl q⟩, fun q => absurd rfl q⟩
          · have hxk : x7.toNatClampNeg = j := by have := cl32 (i := x7) (by omega); omega
            have fx7 : (x7 + 1).toInt = x7.toInt + 1 := ad32 rfl ti_1 (by omega) (by omega)
            have hv : vp_in x7 5 := vp_of (by omega) (by omega)
            rw [hxk]
            refine ⟨hv, hv, _, f_X9_struck (f := 9) (r := 495) g1 (fun s hs => (g3 s hs).1) (i9_f JG (j := 495) (k := j) rfl).1, ?_⟩
            rw [eP]
            rintro v39 lg40 it41 ⟨rfl, rfl, hv39⟩
            refine ihm _ (x7 + 1) (j + 1) (by omega) (by omega) ?_ (by omega)
            rcases hv39 with ⟨rfl, hh⟩ | ⟨rfl, hh⟩
            · rcases h6 with ⟨rfl, h6⟩ | ⟨rfl, i, hi, h6⟩
              · refine Or.inl ⟨by decide, fun i hi => ?_⟩
                by_cases e : i = j
                · rw [e]; exact hh
                · exact h6 i (by omega)
              · exact Or.inr ⟨by decide, i, by omega, h6⟩
            · rcases h6 with ⟨rfl, h6⟩ | ⟨rfl, i, hi, h6⟩
              · exact Or.inr ⟨by decide, j, by omega, hh⟩
              · exact Or.inr ⟨by decide, i, by omega, h6⟩
      exact ⟨_, lq ((it0 489 9).toNatClampNeg + 1) 1 0 0 ti_0 (Nat.zero_le _) (Or.inl ⟨rfl, fun i hi => absurd hi (Nat.not_lt_zero _)⟩) (by omega)⟩
  exact ⟨_, lp 12 0 (-10) 5 lg0 it0 0 hI kd_r rfl (by omega) (by rw [ftN]; exact ti_0) (by rw [ftN]; exact tm10) (by omega)⟩
