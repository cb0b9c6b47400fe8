/-! the class of the fractions: what each of its methods does -/
abbrev MNL : Int64 := -9223372036854775808
def pas (a b : Int64) : Bool := if b = 0 then false else if b = -1 then decide (a = MNL) else decide (¬ a * b / b = a)
def euc : Nat → Int64 → Int64 → Int64
  | 0, d, _ => d
  | n + 1, d, r => if r = 0 then d else euc n r (d - d / r * r)
theorem euc_ne : ∀ (n : Nat) (d r : Int64), ¬ d = 0 → ¬ euc n d r = 0
  | 0, _, _, h => h
  | n + 1, d, r, h => by
    unfold euc
    split
    · exact h
    · rename_i hr
      exact euc_ne n r _ hr
def sgn (d w : Int64) : Int64 := if d < 0 ↔ w < 0 then d else -d
def ovr (d h w : Int64) : Int32 := if d = -1 ∧ (h = MNL ∨ w = MNL) then 1 else 0
def stF (a b : Int64) (o : Int32) (h w : Int64) : Int64 × Int64 × Int32 :=
  if ¬ o = 0 ∨ w = 0 then (a, b, 1) else
    (h / sgn (euc 200 w (h - h / w * w)) w, w / sgn (euc 200 w (h - h / w * w)) w, ovr (sgn (euc 200 w (h - h / w * w)) w) h w)
theorem neg_ne {d : Int64} (h : ¬ d = 0) : ¬ -d = 0 := fun q => h (by have := congrArg (fun x => -x) q; simpa using this)
theorem sgn_ne {d w : Int64} (h : ¬ d = 0) : ¬ sgn d w = 0 := by
  unfold sgn
  split
  · exact h
  · exact neg_ne h
theorem sgn_pp {d w : Int64} (h : 0 ≤ d) (g : 0 ≤ w) : sgn d w = d := if_pos ⟨fun a => absurd a (Int64.not_lt.mpr h), fun a => absurd a (Int64.not_lt.mpr g)⟩
theorem sgn_nn {d w : Int64} (h : ¬ 0 ≤ d) (g : ¬ 0 ≤ w) : sgn d w = d := if_pos ⟨fun _ => Int64.not_le.mp g, fun _ => Int64.not_le.mp h⟩
theorem sgn_pn {d w : Int64} (h : 0 ≤ d) (g : ¬ 0 ≤ w) : sgn d w = -d := if_neg fun a => absurd (a.mpr (Int64.not_le.mp g)) (Int64.not_lt.mpr h)
theorem sgn_np {d w : Int64} (h : ¬ 0 ≤ d) (g : 0 ≤ w) : sgn d w = -d := if_neg fun a => absurd (a.mp (Int64.not_le.mp h)) (Int64.not_lt.mpr g)
theorem ib {x : Int32} (h : x = 0 ∨ x = 1) : x &&& 1 = x := by rcases h with rfl | rfl <;> rfl
def sp_X1_init : Spc := fun as N lg it rf K => match as with | [.ref i] => Ob N i 1 ∧ K none (sL lg i 0 1) (sI it i 2 0) rf | _ => False
def T_X1_init : Tab := (FL_X1, CL_X1, JL_X1, [(3, 2, 1, 0, 0, sp_obj)], 1, none)
def rm_X1_init : Room := { frames := 1, cells := 0, slots := 0, locals := 20 }
set_option maxRecDepth 100000 in
theorem bd_X1_init (as : List Value) (N : Nat) (lg : LGt) (it : ITt) (rf : RFt) (Q : Post) (h : sp_X1_init as N lg it rf Q) : Bd T_X1_init cX1_init 1 0 as N lg it rf Q := by
  unfold sp_X1_init at h
  split at h
  · rename_i i
    refine ⟨Nat.le_of_ble_eq_true rfl, fun P hs hw hf => ?_⟩
    obtain ⟨hi, hk⟩ := h
    refine hs dX1_init_0 (hs dX1_init_1 (And.intro (trivial) (n0 (hs dX1_init_4 (hs dX1_init_5 (hs dX1_init_6 (And.intro (hi) (hs dX1_init_9 (hs dX1_init_10 (hs dX1_init_11 (And.intro (hi) (hs dX1_init_14 (hs dX1_init_15 (hs dX1_init_16 (And.intro (hi) (And.intro (rfl) (hs dX1_init_19 (And.intro (rfl) (And.intro rfl ?_)))))))))))))))))))
    rw [← sL_u2] at hk
    exact hk
  · exact h.elim
theorem sh_X1_init (as : List Value) (N : Nat) (lg : LGt) (it : ITt) (rf : RFt) (Q : Post) (h : sp_X1_init as N lg it rf Q) : ∃ j t, as = .ref j :: t := by
  unfold sp_X1_init at h
  split at h
  · exact ⟨_, _, rfl⟩
  · exact h.elim
theorem ct_X1_init {E : Ev} {l : Launch} : CT E l yX1_init (wsY yX1_init cX1_init 1 none) rm_X1_init 0 sp_X1_init := ct_of (T := T_X1_init) (own := RX1) (by decide) rfl (fun ci _ hc => by have h2 : (1 : Nat) = ci := Nat.eq_of_beq_eq_true hc; subst h2; exact ⟨rfl, rfl⟩) ⟨rfl, rfl⟩ ⟨fok_X1, clok_X1, jok_X1, List.forall_mem_cons.mpr ⟨cok_obj ml_X1_3 o_obj.1 o_obj.2 (by decide), fun _ h => absurd h List.not_mem_nil⟩⟩ bd_X1_init
def sp_X1_become : Spc := fun as N lg it rf K => match as with | [.ref i, .ref j] => (Ob N i 1 ∧ Ob N j 1 ∧ it j 2 &&& 1 = it j 2) ∧ K none (sL lg i (lg j 0) (lg j 1)) (sI it i 2 (it j 2)) rf | _ => False
def T_X1_become : Tab := (FL_X1, CL_X1, JL_X1, [], 99, none)
def rm_X1_become : Room := { frames := 0, cells := 0, slots := 0, locals := 0 }
set_option maxRecDepth 100000 in
theorem bd_X1_become (as : List Value) (N : Nat) (lg : LGt) (it : ITt) (rf : RFt) (Q : Post) (h : sp_X1_become as N lg it rf Q) : Bd T_X1_become cX1_become 2 0 as N lg it rf Q := by
  unfold sp_X1_become at h
  split at h
  · rename_i i j
    refine ⟨Nat.le_of_ble_eq_true rfl, fun P hs hw hf => ?_⟩
    obtain ⟨⟨hi, hj, hb⟩, hk⟩ := h
    refine hs dX1_become_0 (hs dX1_become_1 (hs dX1_become_2 (And.intro (hj) (hs dX1_become_5 (And.intro (hi) (hs dX1_become_8 (hs dX1_become_9 (hs dX1_become_10 (And.intro (hj) (hs dX1_become_13 (And.intro (hi) (hs dX1_become_16 (hs dX1_become_17 (hs dX1_become_18 (And.intro (hj) (hs dX1_become_21 (And.intro (hi) (And.intro (hb) (hs dX1_become_24 (And.intro (rfl) (And.intro rfl ?_)))))))))))))))))))))
    have e : u2 lg i 0 (lg j 0) j 1 = lg j 1 := by simp [u2]
    rw [e, sL_u2]
    exact hk
  · exact h.elim
theorem ct_X1_become {E : Ev} {l : Launch} : CT E l yX1_become (wsY yX1_become cX1_become 2 none) rm_X1_become 0 sp_X1_become := ct_of (T := T_X1_become) (own := RX1) (by decide) rfl (fun ci h10 hc => by have h2 : (99 : Nat) = ci := Nat.eq_of_beq_eq_true hc; omega) ⟨rfl, rfl⟩ ⟨fok_X1, clok_X1, jok_X1, fun _ h => absurd h List.not_mem_nil⟩ bd_X1_become
def sp_X1_becomeWhole : Spc := fun as N lg it rf K => match as with | [.ref i, .long v] => Ob N i 1 ∧ K none (sL lg i v 1) (sI it i 2 0) rf | _ => False
def T_X1_becomeWhole : Tab := (FL_X1, CL_X1, JL_X1, [], 99, none)
def rm_X1_becomeWhole : Room := { frames := 0, cells := 0, slots := 0, locals := 0 }
set_option maxRecDepth 100000 in
theorem bd_X1_becomeWhole (as : List Value) (N : Nat) (lg : LGt) (it : ITt) (rf : RFt) (Q : Post) (h : sp_X1_becomeWhole as N lg it rf Q) : Bd T_X1_becomeWhole cX1_becomeWhole 3 0 as N lg it rf Q := by
  unfold sp_X1_becomeWhole at h
  split at h
  · rename_i i v
    refine ⟨Nat.le_of_ble_eq_true rfl, fun P hs hw hf => ?_⟩
    obtain ⟨hi, hk⟩ := h
    refine hs dX1_becomeWhole_0 (hs dX1_becomeWhole_1 (hs dX1_becomeWhole_2 (And.intro (hi) (hs dX1_becomeWhole_5 (hs dX1_becomeWhole_6 (hs dX1_becomeWhole_7 (And.intro (hi) (hs dX1_becomeWhole_10 (hs dX1_becomeWhole_11 (hs dX1_becomeWhole_12 (And.intro (hi) (And.intro (rfl) (hs dX1_becomeWhole_15 (And.intro (rfl) (And.intro rfl ?_)))))))))))))))
    rw [← sL_u2] at hk
    exact hk
  · exact h.elim
theorem ct_X1_becomeWhole {E : Ev} {l : Launch} : CT E l yX1_becomeWhole (wsY yX1_becomeWhole cX1_becomeWhole 3 none) rm_X1_becomeWhole 0 sp_X1_becomeWhole := ct_of (T := T_X1_becomeWhole) (own := RX1) (by decide) rfl (fun ci h10 hc => by have h2 : (99 : Nat) = ci := Nat.eq_of_beq_eq_true hc; omega) ⟨rfl, rfl⟩ ⟨fok_X1, clok_X1, jok_X1, fun _ h => absurd h List.not_mem_nil⟩ bd_X1_becomeWhole
def hlf (a b : Int64) (o q : Int32) : Int64 := if o = 0 then (if q = 0 then a else b) else MNL
def sp_X1_half : Spc := fun as N lg it rf K => match as with | [.ref i, .int q] => Ob N i 1 ∧ K (some (.long (hlf (lg i 0) (lg i 1) (it i 2) q))) lg it rf | _ => False
def T_X1_half : Tab := (FL_X1, CL_X1, JL_X1, [], 99, (some .long))
def rm_X1_half : Room := { frames := 0, cells := 0, slots := 0, locals := 0 }
set_option maxRecDepth 100000 in
theorem bd_X1_half (as : List Value) (N : Nat) (lg : LGt) (it : ITt) (rf : RFt) (Q : Post) (h : sp_X1_half as N lg it rf Q) : Bd T_X1_half cX1_half 2 0 as N lg it rf Q := by
  unfold sp_X1_half at h
  split at h
  · rename_i i q
    refine ⟨Nat.le_of_ble_eq_true rfl, fun P hs hw hf => ?_⟩
    obtain ⟨hi, hk⟩ := h
    refine hs dX1_half_0 (hs dX1_half_1 (And.intro (hi) (hs dX1_half_4 (And.intro (fun c4 => ?_) (fun c4 => ?_)))))
    · try dsimp only at c4
      try simp only [ki_0] at c4
      refine hs dX1_half_11 (hs dX1_half_12 (And.intro (fun c12 => ?_) (fun c12 => ?_)))
      · try dsimp only at c12
        try simp only [ki_0] at c12
        refine hs dX1_half_22 (hs dX1_half_23 (And.intro (hi) (hs dX1_half_26 (And.intro (rfl) (And.intro rfl ?_)))))
        unfold hlf at hk
        first | (rw [if_pos c4, if_pos c12] at hk; exact hk) | (rw [if_pos c4, if_neg c12] at hk; exact hk) | (rw [if_neg c4] at hk; exact hk)
      · try dsimp only at c12
        try simp only [ki_0] at c12
        refine hs dX1_half_15 (hs dX1_half_16 (And.intro (hi) (hs dX1_half_19 (hs dX1_half_26 (And.intro (rfl) (And.intro rfl ?_))))))
        unfold hlf at hk
        first | (rw [if_pos c4, if_pos c12] at hk; exact hk) | (rw [if_pos c4, if_neg c12] at hk; exact hk) | (rw [if_neg c4] at hk; exact hk)
    · try dsimp only at c4
      try simp only [ki_0] at c4
      refine hs dX1_half_7 (hs dX1_half_10 (And.intro (rfl) (And.intro rfl ?_)))
      unfold hlf at hk
      first | (rw [if_pos c4, if_pos c12] at hk; exact hk) | (rw [if_pos c4, if_neg c12] at hk; exact hk) | (rw [if_neg c4] at hk; exact hk)
  · exact h.elim
theorem ct_X1_half {E : Ev} {l : Launch} : CT E l yX1_half (wsY yX1_half cX1_half 2 (some .long)) rm_X1_half 0 sp_X1_half := ct_of (T := T_X1_half) (own := RX1) (by decide) rfl (fun ci h10 hc => by have h2 : (99 : Nat) = ci := Nat.eq_of_beq_eq_true hc; omega) ⟨rfl, rfl⟩ ⟨fok_X1, clok_X1, jok_X1, fun _ h => absurd h List.not_mem_nil⟩ bd_X1_half
def sp_X1_settle : Spc := fun as N lg it rf K => match as with | [.ref i, .long hh, .long ww] => Ob N i 1 ∧ K none (sL lg i (stF (lg i 0) (lg i 1) (it i 2) hh ww).1 (stF (lg i 0) (lg i 1) (it i 2) hh ww).2.1) (sI it i 2 (stF (lg i 0) (lg i 1) (it i 2) hh ww).2.2) rf | _ => False
def T_X1_settle : Tab := (FL_X1, CL_X1, JL_X1, [], 99, none)
def rm_X1_settle : Room := { frames := 0, cells := 0, slots := 0, locals := 0 }
set_option maxRecDepth 100000 in
theorem bd_X1_settle (as : List Value) (N : Nat) (lg : LGt) (it : ITt) (rf : RFt) (Q : Post) (h : sp_X1_settle as N lg it rf Q) : Bd T_X1_settle cX1_settle 12 0 as N lg it rf Q := by
  unfold sp_X1_settle at h
  split at h
  · rename_i i hh ww
    refine ⟨Nat.le_of_ble_eq_true rfl, fun P hs hw hf => ?_⟩
    obtain ⟨hi, hk⟩ := h
    have t128 : ∀ (d r : Int64) (n o : Int32) (x10 x11 : Value), ¬ d = 0 → (o = 0 ∨ o = 1) → Q none (sL lg i (hh / d) (ww / d)) (sI it i 2 o) rf → P 128 [.ref i, .long hh, uu, .long ww, uu, .long d, uu, .long r, uu, .int n, x10, x11] [.int o, .ref i] N lg it rf := by
      intro d r n o x10 x11 hd ho hq
      refine hs dX1_settle_128 (And.intro (hi) (And.intro (ib ho) (hs dX1_settle_131 (hs dX1_settle_132 (hs dX1_settle_133 (hs dX1_settle_135 (And.intro (hd) (hs dX1_settle_136 (And.intro (hi) (hs dX1_settle_139 (hs dX1_settle_140 (hs dX1_settle_141 (hs dX1_settle_143 (And.intro (hd) (hs dX1_settle_144 (And.intro (hi) (hs dX1_settle_147 (And.intro (rfl) (And.intro rfl ?_)))))))))))))))))))
      rw [← sL_u2] at hq
      exact hq
    have t97 : ∀ (d r : Int64) (n : Int32) (x10 x11 : Value), ¬ d = 0 → Q none (sL lg i (hh / d) (ww / d)) (sI it i 2 (ovr d hh ww)) rf → P 97 [.ref i, .long hh, uu, .long ww, uu, .long d, uu, .long r, uu, .int n, x10, x11] [] N lg it rf := by
      intro d r n x10 x11 hd hq
      refine hs dX1_settle_97 (hs dX1_settle_98 (hs dX1_settle_100 (hs dX1_settle_103 (hs dX1_settle_104 (And.intro (fun c104 => ?_) (fun c104 => ?_))))))
      · try dsimp only at c104
        try simp only [ki_0, ki_1, kl_0, ks_200] at c104
        refine hs dX1_settle_127 ?_
        refine t128 d r n _ x10 x11 hd (Or.inl rfl) ?_
        unfold ovr at hq
        simp only [lg_cmp_eq] at *
        first | (rw [if_pos ⟨by assumption, Or.inl (by assumption)⟩] at hq; exact hq) | (rw [if_pos ⟨by assumption, Or.inr (by assumption)⟩] at hq; exact hq) | (rw [if_neg (fun q => by first | exact absurd q.1 (by assumption) | exact q.2.elim (by assumption) (by assumption))] at hq; exact hq)
      · try dsimp only at c104
        try simp only [ki_0, ki_1, kl_0, ks_200] at c104
        refine hs dX1_settle_107 (hs dX1_settle_108 (hs dX1_settle_111 (hs dX1_settle_112 (And.intro (fun c112 => ?_) (fun c112 => ?_)))))
        · try dsimp only at c112
          try simp only [ki_0, ki_1, kl_0, ks_200] at c112
          refine hs dX1_settle_123 (hs dX1_settle_124 ?_)
          refine t128 d r n _ x10 x11 hd (Or.inr rfl) ?_
          unfold ovr at hq
          simp only [lg_cmp_eq] at *
          first | (rw [if_pos ⟨by assumption, Or.inl (by assumption)⟩] at hq; exact hq) | (rw [if_pos ⟨by assumption, Or.inr (by assumption)⟩] at hq; exact hq) | (rw [if_neg (fun q => by first | exact absurd q.1 (by assumption) | exact q.2.elim (by assumption) (by assumption))] at hq; exact hq)
        · try dsimp only at c112
          try simp only [ki_0, ki_1, kl_0, ks_200] at c112
          refine hs dX1_settle_115 (hs dX1_settle_116 (hs dX1_settle_119 (hs dX1_settle_120 (And.intro (fun c120 => ?_) (fun c120 => ?_)))))
          · try dsimp only at c120
            try simp only [ki_0, ki_1, kl_0, ks_200] at c120
            refine hs dX1_settle_127 ?_
            refine t128 d r n _ x10 x11 hd (Or.inl rfl) ?_
            unfold ovr at hq
            simp only [lg_cmp_eq] at *
            first | (rw [if_pos ⟨by assumption, Or.inl (by assumption)⟩] at hq; exact hq) | (rw [if_pos ⟨by assumption, Or.inr (by assumption)⟩] at hq; exact hq) | (rw [if_neg (fun q => by first | exact absurd q.1 (by assumption) | exact q.2.elim (by assumption) (by assumption))] at hq; exact hq)
          · try dsimp only at c120
            try simp only [ki_0, ki_1, kl_0, ks_200] at c120
            refine hs dX1_settle_123 (hs dX1_settle_124 ?_)
            refine t128 d r n _ x10 x11 hd (Or.inr rfl) ?_
            unfold ovr at hq
            simp only [lg_cmp_eq] at *
            first | (rw [if_pos ⟨by assumption, Or.inl (by assumption)⟩] at hq; exact hq) | (rw [if_pos ⟨by assumption, Or.inr (by assumption)⟩] at hq; exact hq) | (rw [if_neg (fun q => by first | exact absurd q.1 (by assumption) | exact q.2.elim (by assumption) (by assumption))] at hq; exact hq)
    have t66 : ∀ (d r : Int64) (n : Int32) (x10 x11 : Value), ¬ d = 0 → Q none (sL lg i (hh / sgn d ww) (ww / sgn d ww)) (sI it i 2 (ovr (sgn d ww) hh ww)) rf → P 66 [.ref i, .long hh, uu, .long ww, uu, .long d, uu, .long r, uu, .int n, x10, x11] [] N lg it rf := by
      intro d r n x10 x11 hd hq
      refine hs dX1_settle_66 (hs dX1_settle_68 (hs dX1_settle_69 (hs dX1_settle_70 (And.intro (fun c70 => ?_) (fun c70 => ?_)))))
      · try dsimp only at c70
        try simp only [ki_0, ki_1, kl_0, ks_200] at c70
        refine hs dX1_settle_77 (hs dX1_settle_78 (hs dX1_settle_79 (hs dX1_settle_80 (hs dX1_settle_81 (And.intro (fun c81 => ?_) (fun c81 => ?_))))))
        · try dsimp only at c81
          try simp only [ki_0, ki_1, kl_0, ks_200] at c81
          refine hs dX1_settle_88 (hs dX1_settle_89 (And.intro (fun c89 => ?_) (fun c89 => absurd (by decide) c89)))
          refine t97 _ r n x10 x11 hd ?_
          simp only [lg_cmp_ge] at *
          have e : sgn d ww = d := by
            first | exact sgn_pp (by assumption) (by assumption) | exact sgn_nn (by assumption) (by assumption) | exact sgn_pn (by assumption) (by assumption) | exact sgn_np (by assumption) (by assumption)
          rw [e] at hq
          exact hq
        · try dsimp only at c81
          try simp only [ki_0, ki_1, kl_0, ks_200] at c81
          refine hs dX1_settle_84 (hs dX1_settle_85 (hs dX1_settle_89 (And.intro (fun c89 => absurd c89 (by decide)) (fun c89 => (hs dX1_settle_92 (hs dX1_settle_94 (hs dX1_settle_95 ?_)))))))
          refine t97 _ r n x10 x11 (neg_ne hd) ?_
          simp only [lg_cmp_ge] at *
          have e : sgn d ww = -d := by
            first | exact sgn_pp (by assumption) (by assumption) | exact sgn_nn (by assumption) (by assumption) | exact sgn_pn (by assumption) (by assumption) | exact sgn_np (by assumption) (by assumption)
          rw [e] at hq
          exact hq
      · try dsimp only at c70
        try simp only [ki_0, ki_1, kl_0, ks_200] at c70
        refine hs dX1_settle_73 (hs dX1_settle_74 (hs dX1_settle_78 (hs dX1_settle_79 (hs dX1_settle_80 (hs dX1_settle_81 (And.intro (fun c81 => ?_) (fun c81 => ?_)))))))
        · try dsimp only at c81
          try simp only [ki_0, ki_1, kl_0, ks_200] at c81
          refine hs dX1_settle_88 (hs dX1_settle_89 (And.intro (fun c89 => absurd c89 (by decide)) (fun c89 => (hs dX1_settle_92 (hs dX1_settle_94 (hs dX1_settle_95 ?_))))))
          refine t97 _ r n x10 x11 (neg_ne hd) ?_
          simp only [lg_cmp_ge] at *
          have e : sgn d ww = -d := by
            first | exact sgn_pp (by assumption) (by assumption) | exact sgn_nn (by assumption) (by assumption) | exact sgn_pn (by assumption) (by assumption) | exact sgn_np (by assumption) (by assumption)
          rw [e] at hq
          exact hq
        · try dsimp only at c81
          try simp only [ki_0, ki_1, kl_0, ks_200] at c81
          refine hs dX1_settle_84 (hs dX1_settle_85 (hs dX1_settle_89 (And.intro (fun c89 => ?_) (fun c89 => absurd (by decide) c89))))
          refine t97 _ r n x10 x11 hd ?_
          simp only [lg_cmp_ge] at *
          have e : sgn d ww = d := by
            first | exact sgn_pp (by assumption) (by assumption) | exact sgn_nn (by assumption) (by assumption) | exact sgn_pn (by assumption) (by assumption) | exact sgn_np (by assumption) (by assumption)
          rw [e] at hq
          exact hq
    have lp : ∀ (k : Nat) (d r : Int64) (n : Nat) (x10 x11 : Value), n + k = 200 → ¬ d = 0 → Q none (sL lg i (hh / sgn (euc k d r) ww) (ww / sgn (euc k d r) ww)) (sI it i 2 (ovr (sgn (euc k d r) ww) hh ww)) rf → P 30 [.ref i, .long hh, uu, .long ww, uu, .long d, uu, .long r, uu, .int (nI n), x10, x11] [] N lg it rf := by
      intro k
      induction k with
      | zero =>
        intro d r n x10 x11 hn hd hq
        have hn : n = 200 := by omega
        subst hn
        refine hs dX1_settle_30 (hs dX1_settle_32 (hs dX1_settle_35 (And.intro (fun c35 => ?_) (fun c35 => absurd (by decide) c35))))
        exact t66 d r _ x10 x11 hd hq
      | succ k ih =>
        intro d r n x10 x11 hn hd hq
        refine hs dX1_settle_30 (hs dX1_settle_32 (hs dX1_settle_35 (And.intro (fun c35 => absurd c35 (show ¬ nI 200 ≤ nI n from nI_ge (by omega) (by omega))) (fun c35 => (hs dX1_settle_38 (hs dX1_settle_40 (hs dX1_settle_41 (hs dX1_settle_42 (And.intro (fun c42 => ?_) (fun c42 => ?_))))))))))
        · try dsimp only at c42
          try simp only [ki_0, ki_1, kl_0, ks_200] at c42
          rw [lg_cmp_eq] at c42
          unfold euc at hq
          rw [if_pos c42] at hq
          exact t66 d r _ x10 x11 hd hq
        · try dsimp only at c42
          try simp only [ki_0, ki_1, kl_0, ks_200] at c42
          rw [lg_cmp_eq] at c42
          unfold euc at hq
          rw [if_neg c42] at hq
          refine hs dX1_settle_45 (hs dX1_settle_47 (hs dX1_settle_49 (And.intro (c42) (hs dX1_settle_50 (hs dX1_settle_52 (hs dX1_settle_54 (hs dX1_settle_56 (hs dX1_settle_58 (hs dX1_settle_60 (hs dX1_settle_63 ?_))))))))))
          have hs := ih r (d - d / r * r) (n + 1) (.long (d - d / r * r)) uu (by omega) c42 hq
          rw [nI_succ] at hs
          exact hs
    refine hs dX1_settle_0 (hs dX1_settle_1 (And.intro (hi) (hs dX1_settle_4 (And.intro (fun c4 => ?_) (fun c4 => ?_)))))
    · try dsimp only at c4
      try simp only [ki_0, ki_1, kl_0, ks_200] at c4
      refine hs dX1_settle_13 (hs dX1_settle_14 (hs dX1_settle_15 (And.intro (hi) (And.intro (rfl) (hs dX1_settle_18 (And.intro (rfl) (And.intro rfl ?_)))))))
      unfold stF at hk
      rw [if_pos (by first | exact Or.inl (by assumption) | (rw [lg_cmp_eq] at c10; exact Or.inr c10) | (simp only [lg_cmp_eq, Classical.not_not] at *; exact Or.inr (by assumption)))] at hk
      rw [sL_id] at hk
      exact hk
    · try dsimp only at c4
      try simp only [ki_0, ki_1, kl_0, ks_200] at c4
      refine hs dX1_settle_7 (hs dX1_settle_8 (hs dX1_settle_9 (hs dX1_settle_10 (And.intro (fun c10 => ?_) (fun c10 => ?_)))))
      · try dsimp only at c10
        try simp only [ki_0, ki_1, kl_0, ks_200] at c10
        rw [lg_cmp_eq] at c10
        have hne : ¬ (¬ it i 2 = 0 ∨ ww = 0) := fun q => q.elim (fun z => z c4) (fun z => c10 z)
        unfold stF at hk
        rw [if_neg hne] at hk
        refine hs dX1_settle_19 (hs dX1_settle_20 (hs dX1_settle_22 (hs dX1_settle_23 (hs dX1_settle_24 (And.intro (c10) (hs dX1_settle_25 (hs dX1_settle_27 (hs dX1_settle_28 ?_))))))))
        exact lp 200 ww (hh - hh / ww * ww) 0 uu uu rfl c10 hk
      · try dsimp only at c10
        try simp only [ki_0, ki_1, kl_0, ks_200] at c10
        refine hs dX1_settle_13 (hs dX1_settle_14 (hs dX1_settle_15 (And.intro (hi) (And.intro (rfl) (hs dX1_settle_18 (And.intro (rfl) (And.intro rfl ?_)))))))
        unfold stF at hk
        rw [if_pos (by first | exact Or.inl (by assumption) | (rw [lg_cmp_eq] at c10; exact Or.inr c10) | (simp only [lg_cmp_eq, Classical.not_not] at *; exact Or.inr (by assumption)))] at hk
        rw [sL_id] at hk
        exact hk
  · exact h.elim
theorem ct_X1_settle {E : Ev} {l : Launch} : CT E l yX1_settle (wsY yX1_settle cX1_settle 12 none) rm_X1_settle 0 sp_X1_settle := ct_of (T := T_X1_settle) (own := RX1) (by decide) rfl (fun ci h10 hc => by have h2 : (99 : Nat) = ci := Nat.eq_of_beq_eq_true hc; omega) ⟨rfl, rfl⟩ ⟨fok_X1, clok_X1, jok_X1, fun _ h => absurd h List.not_mem_nil⟩ bd_X1_settle
def sp_X1_becomeRatio : Spc := fun as N lg it rf K => match as with | [.ref i, .long hh, .long ww] => Ob N i 1 ∧ K none (sL lg i (stF (lg i 0) (lg i 1) 0 hh ww).1 (stF (lg i 0) (lg i 1) 0 hh ww).2.1) (sI it i 2 (stF (lg i 0) (lg i 1) 0 hh ww).2.2) rf | _ => False
def T_X1_becomeRatio : Tab := (FL_X1, CL_X1, JL_X1, [(22, 0, 3, 1, 0, sp_X1_settle)], 99, none)
def rm_X1_becomeRatio : Room := { frames := 1, cells := 0, slots := 0, locals := 31 }
set_option maxRecDepth 100000 in
theorem bd_X1_becomeRatio (as : List Value) (N : Nat) (lg : LGt) (it : ITt) (rf : RFt) (Q : Post) (h : sp_X1_becomeRatio as N lg it rf Q) : Bd T_X1_becomeRatio cX1_becomeRatio 5 0 as N lg it rf Q := by
  unfold sp_X1_becomeRatio at h
  split at h
  · rename_i i hh ww
    refine ⟨Nat.le_of_ble_eq_true rfl, fun P hs hw hf => ?_⟩
    obtain ⟨hi, hk⟩ := h
    refine hs dX1_becomeRatio_0 (hs dX1_becomeRatio_1 (hs dX1_becomeRatio_2 (And.intro (hi) (And.intro (rfl) (hs dX1_becomeRatio_5 (hs dX1_becomeRatio_6 (hs dX1_becomeRatio_7 (hs dX1_becomeRatio_8 (And.intro (hi) (And.intro hi (n0 (hs dX1_becomeRatio_11 (And.intro (rfl) (And.intro rfl ?_))))))))))))))
    have e : u2 it i 2 (Int32.ofInt 0) i 2 = 0 := by simp [u2]
    rw [e]
    unfold sI
    rw [u2_u2]
    exact hk
  · exact h.elim
theorem ct_X1_becomeRatio {E : Ev} {l : Launch} : CT E l yX1_becomeRatio (wsY yX1_becomeRatio cX1_becomeRatio 5 none) rm_X1_becomeRatio 0 sp_X1_becomeRatio := ct_of (T := T_X1_becomeRatio) (own := RX1) (by decide) rfl (fun ci h10 hc => by have h2 : (99 : Nat) = ci := Nat.eq_of_beq_eq_true hc; omega) ⟨rfl, rfl⟩ ⟨fok_X1, clok_X1, jok_X1, List.forall_mem_cons.mpr ⟨cok_V ct_X1_settle (by decide) rfl ml_X1_22 im_X1_settle se_X1_settle co_X1_settle mo_X1_settle (by decide), fun _ h => absurd h List.not_mem_nil⟩⟩ bd_X1_becomeRatio
