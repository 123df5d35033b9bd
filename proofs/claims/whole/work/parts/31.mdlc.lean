theorem allB_m {p : Nat → Bool} {c n : Nat} (hc : c ≤ n) (h : allB p c = false) : allB p n = false := by
  rw [Bool.eq_false_iff]
  intro z
  have := allB_t (p := p) (n := c) (fun i hi => allB_i.mp z i (by omega))
  rw [h] at this
  cases this
def dN2 (A : Nat) (p : Nat → Bool) : Nat → Nat
  | 0 => A
  | k + 1 => if p k = true then dN2 A p k else andn (dN2 A p k) (2 ^ k)
theorem dN2_tb (A : Nat) (p : Nat → Bool) (i : Nat) : ∀ k, (dN2 A p k).testBit i = (A.testBit i && (decide (k ≤ i) || p i))
  | 0 => by show A.testBit i = _; simp
  | k + 1 => by
    have ih := dN2_tb A p i k
    unfold dN2
    by_cases hp : p k = true
    · rw [if_pos hp, ih]
      by_cases z : k = i
      · subst z; rw [hp]; simp
      · have : decide (k + 1 ≤ i) = decide (k ≤ i) := by rw [decide_eq_decide]; omega
        rw [this]
    · rw [if_neg hp, andn_tb, ih, Nat.testBit_two_pow]
      by_cases z : k = i
      · subst z
        have hp2 : p k = false := by simpa using hp
        rw [hp2]; simp
      · have : decide (k + 1 ≤ i) = decide (k ≤ i) := by rw [decide_eq_decide]; omega
        rw [this, decide_eq_false z]
        simp
theorem dN2_e {A n : Nat} {p : Nat → Bool} (hA : A ≤ 2 ^ n - 1) (hn : n ≤ 6) : dN2 A p n = A &&& bN p 6 := by
  have hpos := Nat.two_pow_pos n
  apply Nat.eq_of_testBit_eq
  intro i
  rw [dN2_tb, Nat.testBit_and, bN_tb]
  by_cases h : i < n
  · rw [decide_eq_false (show ¬ n ≤ i by omega), decide_eq_true (show i < 6 by omega), Bool.false_or, Bool.true_and]
  · have : A.testBit i = false := Nat.testBit_lt_two_pow (Nat.lt_of_lt_of_le (show A < 2 ^ n by omega) (pw_le (by omega)))
    rw [this, Bool.false_and, Bool.false_and]
theorem i_m1 (x : Int32) : x &&& (-1) = x := by
  apply Int32.toBitVec_inj.1
  rw [Int32.toBitVec_and, show (-1 : Int32).toBitVec = BitVec.allOnes 32 by decide, BitVec.and_allOnes]
theorem dg_2 (r k : Nat) : dg r k ≤ 2 := by unfold dg; omega
section MEC
variable {d : Nat} {M : mM} {P : Option Value → mM → Prop}
theorem c_isInk {e : Nat → Int32} {ts ac vc r : Nat} {sd : Int64} {l : lt} {p : pg} (hO : kO M e ts l.1 ac vc sd) (hL : kML M l) (hl : ltOk l) (hG : kG M 79 p) (ho : pgOk p) (hr : r < 2 ^ 31) (hp : P (some (.int (bI (tgB l p (dg r))))) M) : Ev 88 (d + 1) mX8_isInk none 0 [.ref 72, .int (nI r), .null, .null, .null, .null] [] M P := by
  have h6 := hl.1
  obtain ⟨-, -, ⟨ff, xf, yf⟩, ⟨fi, xi, yi⟩⟩ := hL
  obtain ⟨f, f1, f2, -⟩ := hG
  unfold kO at hO
  have i1 : ∀ (c : Nat) (is : Value), c < 12 → ∀ (j k : Nat), k + j = l.1 → (∀ lx, Ev 88 (d + 1) mX8_isInk none 76 [.ref 72, .int (nI r), is, .int (nI c), .int (nI (sN (fun l1 => if (l.2.2.2.2 l1).testBit c = true then dg r l1 * l.2.2.2.1 l1 else 0) l.1)), lx] [] M P) → Ev 88 (d + 1) mX8_isInk none 20 [.ref 72, .int (nI r), is, .int (nI c), .int (nI (sN (fun l1 => if (l.2.2.2.2 l1).testBit c = true then dg r l1 * l.2.2.2.1 l1 else 0) k)), .int (nI k)] [] M P := by
    intro c is hc j
    induction j with
    | zero =>
      intro k hk kk
      obtain rfl : k = l.1 := by omega
      refine ev_iload (i := 5) dX8_isInk_20 rfl ?_
      refine ev_aload_n (i := 0) dX8_isInk_22 rfl rfl ?_
      refine ev_getfield dX8_isInk_23 fX8_64 (by first | omega | decide) (by first | assumption | (simp (disch := omega) only [mu_s, mu_n]; first | assumption | rfl)) (by rfl) ?_
      refine ev_icmp_geN 76 dX8_isInk_26 (by decide) (by omega) (by omega) (fun b26 => ?_) (fun b26 => by exfalso; omega)
      exact kk _
    | succ j ih =>
      intro k hk kk
      have hk1 : k < l.1 := by omega
      have hcl := (ltOk_cells hl hk1).1
      have hpw : 0 < 3 ^ k := Nat.pow_pos (by decide)
      have hpw2 : 3 ^ k ≤ 3 ^ 6 := Nat.pow_le_pow_right (by decide) (by omega)
      have hpw3 : (3 : Nat) ^ 6 = 729 := by decide
      have hdv : r / 3 ^ k ≤ r := Nat.div_le_self _ _
      have i2 := ih (k + 1) (by omega) kk
      cases hb : (l.2.2.2.2 k).testBit c with
      | true =>
        rw [← sN_s (n := k) (y := dg r k * l.2.2.2.1 k) (by rw [if_pos hb])] at i2
        refine ev_iload (i := 5) dX8_isInk_20 rfl ?_
        refine ev_aload_n (i := 0) dX8_isInk_22 rfl rfl ?_
        refine ev_getfield dX8_isInk_23 fX8_64 (by first | omega | decide) (by first | assumption | (simp (disch := omega) only [mu_s, mu_n]; first | assumption | rfl)) (by rfl) ?_
        refine ev_icmp_geN 76 dX8_isInk_26 (by decide) (by omega) (by omega) (fun b26 => by exfalso; omega) (fun b26 => ?_)
        refine ev_iload (i := 4) dX8_isInk_29 rfl ?_
        refine ev_aload_n (i := 0) dX8_isInk_31 rfl rfl ?_
        refine ev_getfield dX8_isInk_32 fX8_22 (by first | omega | decide) (by first | assumption | (simp (disch := omega) only [mu_s, mu_n]; first | assumption | rfl)) (by rfl) ?_
        refine ev_iload (i := 5) dX8_isInk_35 rfl ?_
        refine ev_ialoadN dX8_isInk_37 (by first | omega | decide) (by first | assumption | (simp (disch := omega) only [mu_s, mu_n]; first | assumption | rfl)) (by omega) (by decide) ?_
        refine ev_top (i_op (yi k hk1)) ?_
        refine ev_iload_n (i := 3) dX8_isInk_38 rfl rfl ?_
        refine ev_S2 (μ1 := mX8_has) dX8_isInk_39 sX8_99 okX8_has (Nat.le_of_ble_eq_true rfl) (Nat.le_of_ble_eq_true rfl) ?_
        refine c_mHas (by omega) (by omega) ?_
        refine ev_if_eqB 66 dX8_isInk_42 (by decide) (fun b42 => by rw [hb] at b42; cases b42) (fun b42 => ?_)
        refine ev_iload_n (i := 1) dX8_isInk_45 rfl rfl ?_
        refine ev_iconst (v := nI 3) dX8_isInk_46 rfl ?_
        refine ev_iload (i := 5) dX8_isInk_47 rfl ?_
        refine ev_S2 (μ1 := mX8_power) dX8_isInk_49 sX8_158 okX8_power (Nat.le_of_ble_eq_true rfl) (Nat.le_of_ble_eq_true rfl) ?_
        refine c_mPower (by omega) ?_
        refine ev_idivN dX8_isInk_52 (by omega) (by omega) (by omega) ?_
        refine ev_iconst (v := nI 3) dX8_isInk_53 rfl ?_
        refine ev_iremN dX8_isInk_54 (by omega) (by omega) (by omega) ?_
        refine ev_aload_n (i := 0) dX8_isInk_55 rfl rfl ?_
        refine ev_getfield dX8_isInk_56 fX8_19 (by first | omega | decide) (by first | assumption | (simp (disch := omega) only [mu_s, mu_n]; first | assumption | rfl)) (by rfl) ?_
        refine ev_iload (i := 5) dX8_isInk_59 rfl ?_
        refine ev_ialoadN dX8_isInk_61 (by first | omega | decide) (by first | assumption | (simp (disch := omega) only [mu_s, mu_n]; first | assumption | rfl)) (by omega) (by decide) ?_
        refine ev_top (i_op (yf k hk1)) ?_
        refine ev_imulN dX8_isInk_62 ?_
        refine ev_goto 67 dX8_isInk_63 (by decide) ?_
        refine ev_iaddN dX8_isInk_67 ?_
        refine ev_istore (i := 4) dX8_isInk_68 (by decide) rfl ?_
        refine ev_incN dX8_isInk_70 (by rfl) (by decide) rfl ?_
        refine ev_goto 20 dX8_isInk_73 (by decide) ?_
        exact i2
      | false =>
        rw [← sN_s (n := k) (y := 0) (by rw [if_neg (by rw [hb]; decide)])] at i2
        refine ev_iload (i := 5) dX8_isInk_20 rfl ?_
        refine ev_aload_n (i := 0) dX8_isInk_22 rfl rfl ?_
        refine ev_getfield dX8_isInk_23 fX8_64 (by first | omega | decide) (by first | assumption | (simp (disch := omega) only [mu_s, mu_n]; first | assumption | rfl)) (by rfl) ?_
        refine ev_icmp_geN 76 dX8_isInk_26 (by decide) (by omega) (by omega) (fun b26 => by exfalso; omega) (fun b26 => ?_)
        refine ev_iload (i := 4) dX8_isInk_29 rfl ?_
        refine ev_aload_n (i := 0) dX8_isInk_31 rfl rfl ?_
        refine ev_getfield dX8_isInk_32 fX8_22 (by first | omega | decide) (by first | assumption | (simp (disch := omega) only [mu_s, mu_n]; first | assumption | rfl)) (by rfl) ?_
        refine ev_iload (i := 5) dX8_isInk_35 rfl ?_
        refine ev_ialoadN dX8_isInk_37 (by first | omega | decide) (by first | assumption | (simp (disch := omega) only [mu_s, mu_n]; first | assumption | rfl)) (by omega) (by decide) ?_
        refine ev_top (i_op (yi k hk1)) ?_
        refine ev_iload_n (i := 3) dX8_isInk_38 rfl rfl ?_
        refine ev_S2 (μ1 := mX8_has) dX8_isInk_39 sX8_99 okX8_has (Nat.le_of_ble_eq_true rfl) (Nat.le_of_ble_eq_true rfl) ?_
        refine c_mHas (by omega) (by omega) ?_
        refine ev_if_eqB 66 dX8_isInk_42 (by decide) (fun b42 => ?_) (fun b42 => by rw [hb] at b42; cases b42)
        refine ev_iconst (v := nI 0) dX8_isInk_66 rfl ?_
        refine ev_iaddN dX8_isInk_67 ?_
        refine ev_istore (i := 4) dX8_isInk_68 (by decide) rfl ?_
        refine ev_incN dX8_isInk_70 (by rfl) (by decide) rfl ?_
        refine ev_goto 20 dX8_isInk_73 (by decide) ?_
        exact i2
  have lp : ∀ (j c : Nat) (lx ly : Value) (b : Bool), c + j = 12 → b = allB (fun c => decide (p.1 c = itN l (dg r) c)) c → Ev 88 (d + 1) mX8_isInk none 4 [.ref 72, .int (nI r), .int (bI b), .int (nI c), lx, ly] [] M P := by
    intro j
    induction j with
    | zero =>
      intro c lx ly b hc hb
      obtain rfl : c = 12 := by omega
      unfold tgB at hp
      rw [← hb] at hp
      refine ev_iload_n (i := 3) dX8_isInk_4 rfl rfl ?_
      refine ev_bipush (v := nI 12) dX8_isInk_5 rfl ?_
      refine ev_icmp_geN 113 dX8_isInk_7 (by decide) (by omega) (by omega) (fun b7 => ?_) (fun b7 => by exfalso; omega)
      refine ev_iload_n (i := 2) dX8_isInk_113 rfl rfl ?_
      refine ev_reti dX8_isInk_114 rfl (bI_nar b) ?_
      exact hp
    | succ j ih =>
      intro c lx ly b hc hb
      cases b with
      | false =>
        have hb2 := allB_m (p := fun c => decide (p.1 c = itN l (dg r) c)) (show c ≤ 12 by omega) hb.symm
        unfold tgB at hp
        rw [hb2] at hp
        refine ev_iload_n (i := 3) dX8_isInk_4 rfl rfl ?_
        refine ev_bipush (v := nI 12) dX8_isInk_5 rfl ?_
        refine ev_icmp_geN 113 dX8_isInk_7 (by decide) (by omega) (by omega) (fun b7 => by exfalso; omega) (fun b7 => ?_)
        refine ev_iload_n (i := 2) dX8_isInk_10 rfl rfl ?_
        refine ev_if_eqB 113 dX8_isInk_11 (by decide) (fun b11 => ?_) (fun b11 => by cases b11)
        refine ev_iload_n (i := 2) dX8_isInk_113 rfl rfl ?_
        refine ev_reti dX8_isInk_114 rfl (bI_nar false) ?_
        exact hp
      | true =>
        have hs := itN_le (o := dg r) hl (fun k _ => dg_2 r k) c l.1 (Nat.le_refl _)
        have hp9 := (ho c (by omega)).1
        refine ev_iload_n (i := 3) dX8_isInk_4 rfl rfl ?_
        refine ev_bipush (v := nI 12) dX8_isInk_5 rfl ?_
        refine ev_icmp_geN 113 dX8_isInk_7 (by decide) (by omega) (by omega) (fun b7 => by exfalso; omega) (fun b7 => ?_)
        refine ev_iload_n (i := 2) dX8_isInk_10 rfl rfl ?_
        refine ev_if_eqB 113 dX8_isInk_11 (by decide) (fun b11 => by cases b11) (fun b11 => ?_)
        refine ev_iconst (v := nI 0) dX8_isInk_14 rfl ?_
        refine ev_istore (i := 4) dX8_isInk_15 (by decide) rfl ?_
        refine ev_iconst (v := nI 0) dX8_isInk_17 rfl ?_
        refine ev_istore (i := 5) dX8_isInk_18 (by decide) rfl ?_
        refine i1 c _ (by omega) l.1 0 (by omega) (fun lx => ?_)
        obtain ⟨Q, hQ⟩ : ∃ Q, Q = sN (fun l1 => if (l.2.2.2.2 l1).testBit c = true then dg r l1 * l.2.2.2.1 l1 else 0) l.1 := ⟨_, rfl⟩
        have hit : itN l (dg r) c = min 9 Q := by rw [hQ]; rfl
        rw [← hQ] at hs ⊢
        have hnx : ∀ b : Bool, b = decide (p.1 c = min 9 Q) → b = allB (fun c => decide (p.1 c = itN l (dg r) c)) (c + 1) := fun b hb1 => by
          show b = (allB (fun c => decide (p.1 c = itN l (dg r) c)) c && decide (p.1 c = itN l (dg r) c))
          rw [← hb, hit, Bool.true_and, hb1]
        have hfc : f (0 + c) = nI (p.1 c) := (congrArg f (Nat.zero_add c)).trans (f2 c (by omega))
        by_cases hE : p.1 c = min 9 Q
        · have r1 := fun lx ly => ih (c + 1) lx ly true (by omega) (hnx true (decide_eq_true hE).symm)
          refine ev_iload (i := 4) dX8_isInk_76 rfl ?_
          refine ev_bipush (v := nI 9) dX8_isInk_78 rfl ?_
          refine ev_icmp_leN 88 dX8_isInk_80 (by decide) (by omega) (by omega) (fun b80 => ?_) (fun b80 => ?_)
          · skip
            refine ev_iload (i := 4) dX8_isInk_88 rfl ?_
            refine ev_aload_n (i := 0) dX8_isInk_90 rfl rfl ?_
            refine ev_getfield dX8_isInk_91 fX8_28 (by first | omega | decide) (by first | assumption | (simp (disch := omega) only [mu_s, mu_n]; first | assumption | rfl)) (by rfl) ?_
            refine ev_iconst (v := nI 0) dX8_isInk_94 rfl ?_
            refine ev_iload_n (i := 3) dX8_isInk_95 rfl rfl ?_
            refine ev_iaddN dX8_isInk_96 ?_
            refine ev_ialoadN dX8_isInk_97 (by first | omega | decide) (by first | assumption | (simp (disch := omega) only [mu_s, mu_n]; first | assumption | rfl)) (by omega) (by decide) ?_
            refine ev_top (i_op hfc) ?_
            refine ev_icmp_neN 105 dX8_isInk_98 (by decide) (by omega) (by omega) (fun b98 => by exfalso; omega) (fun b98 => ?_)
            refine ev_iconst (v := nI 1) dX8_isInk_101 rfl ?_
            refine ev_goto 106 dX8_isInk_102 (by decide) ?_
            refine ev_istore_n (i := 2) dX8_isInk_106 rfl (by decide) rfl ?_
            refine ev_incN dX8_isInk_107 (by rfl) (by decide) rfl ?_
            refine ev_goto 4 dX8_isInk_110 (by decide) ?_
            exact r1 _ _
          · skip
            refine ev_bipush (v := nI 9) dX8_isInk_83 rfl ?_
            refine ev_goto 90 dX8_isInk_85 (by decide) ?_
            refine ev_aload_n (i := 0) dX8_isInk_90 rfl rfl ?_
            refine ev_getfield dX8_isInk_91 fX8_28 (by first | omega | decide) (by first | assumption | (simp (disch := omega) only [mu_s, mu_n]; first | assumption | rfl)) (by rfl) ?_
            refine ev_iconst (v := nI 0) dX8_isInk_94 rfl ?_
            refine ev_iload_n (i := 3) dX8_isInk_95 rfl rfl ?_
            refine ev_iaddN dX8_isInk_96 ?_
            refine ev_ialoadN dX8_isInk_97 (by first | omega | decide) (by first | assumption | (simp (disch := omega) only [mu_s, mu_n]; first | assumption | rfl)) (by omega) (by decide) ?_
            refine ev_top (i_op hfc) ?_
            refine ev_icmp_neN 105 dX8_isInk_98 (by decide) (by omega) (by omega) (fun b98 => by exfalso; omega) (fun b98 => ?_)
            refine ev_iconst (v := nI 1) dX8_isInk_101 rfl ?_
            refine ev_goto 106 dX8_isInk_102 (by decide) ?_
            refine ev_istore_n (i := 2) dX8_isInk_106 rfl (by decide) rfl ?_
            refine ev_incN dX8_isInk_107 (by rfl) (by decide) rfl ?_
            refine ev_goto 4 dX8_isInk_110 (by decide) ?_
            exact r1 _ _
        · have r1 := fun lx ly => ih (c + 1) lx ly false (by omega) (hnx false (decide_eq_false hE).symm)
          refine ev_iload (i := 4) dX8_isInk_76 rfl ?_
          refine ev_bipush (v := nI 9) dX8_isInk_78 rfl ?_
          refine ev_icmp_leN 88 dX8_isInk_80 (by decide) (by omega) (by omega) (fun b80 => ?_) (fun b80 => ?_)
          · skip
            refine ev_iload (i := 4) dX8_isInk_88 rfl ?_
            refine ev_aload_n (i := 0) dX8_isInk_90 rfl rfl ?_
            refine ev_getfield dX8_isInk_91 fX8_28 (by first | omega | decide) (by first | assumption | (simp (disch := omega) only [mu_s, mu_n]; first | assumption | rfl)) (by rfl) ?_
            refine ev_iconst (v := nI 0) dX8_isInk_94 rfl ?_
            refine ev_iload_n (i := 3) dX8_isInk_95 rfl rfl ?_
            refine ev_iaddN dX8_isInk_96 ?_
            refine ev_ialoadN dX8_isInk_97 (by first | omega | decide) (by first | assumption | (simp (disch := omega) only [mu_s, mu_n]; first | assumption | rfl)) (by omega) (by decide) ?_
            refine ev_top (i_op hfc) ?_
            refine ev_icmp_neN 105 dX8_isInk_98 (by decide) (by omega) (by omega) (fun b98 => ?_) (fun b98 => by exfalso; omega)
            refine ev_iconst (v := nI 0) dX8_isInk_105 rfl ?_
            refine ev_istore_n (i := 2) dX8_isInk_106 rfl (by decide) rfl ?_
            refine ev_incN dX8_isInk_107 (by rfl) (by decide) rfl ?_
            refine ev_goto 4 dX8_isInk_110 (by decide) ?_
            exact r1 _ _
          · skip
            refine ev_bipush (v := nI 9) dX8_isInk_83 rfl ?_
            refine ev_goto 90 dX8_isInk_85 (by decide) ?_
            refine ev_aload_n (i := 0) dX8_isInk_90 rfl rfl ?_
            refine ev_getfield dX8_isInk_91 fX8_28 (by first | omega | decide) (by first | assumption | (simp (disch := omega) only [mu_s, mu_n]; first | assumption | rfl)) (by rfl) ?_
            refine ev_iconst (v := nI 0) dX8_isInk_94 rfl ?_
            refine ev_iload_n (i := 3) dX8_isInk_95 rfl rfl ?_
            refine ev_iaddN dX8_isInk_96 ?_
            refine ev_ialoadN dX8_isInk_97 (by first | omega | decide) (by first | assumption | (simp (disch := omega) only [mu_s, mu_n]; first | assumption | rfl)) (by omega) (by decide) ?_
            refine ev_top (i_op hfc) ?_
            refine ev_icmp_neN 105 dX8_isInk_98 (by decide) (by omega) (by omega) (fun b98 => ?_) (fun b98 => by exfalso; omega)
            refine ev_iconst (v := nI 0) dX8_isInk_105 rfl ?_
            refine ev_istore_n (i := 2) dX8_isInk_106 rfl (by decide) rfl ?_
            refine ev_incN dX8_isInk_107 (by rfl) (by decide) rfl ?_
            refine ev_goto 4 dX8_isInk_110 (by decide) ?_
            exact r1 _ _
  refine ev_iconst (v := nI 1) dX8_isInk_0 rfl ?_
  refine ev_istore_n (i := 2) dX8_isInk_1 rfl (by decide) rfl ?_
  refine ev_iconst (v := nI 0) dX8_isInk_2 rfl ?_
  refine ev_istore_n (i := 3) dX8_isInk_3 rfl (by decide) rfl ?_
  exact lp 12 0 _ _ true rfl rfl
variable {s : cs}

theorem R_twice {x : Int32} (h : kM M s) (ho : cOk s) (hp : ∀ M1, ag M M1 72 88 → kM M1 (s) → P (some (.int (a_twice s x))) M1) : Ev 88 7 mX8_twice none 0 [.ref 72, .int x, .null, .null, .null] [] M P := by
  refine m_thr dX8_twice_0 dX8_twice_1 dX8_twice_2 fwX8_60 h (fun M0 a0 h => ?_)
  replace hp : ∀ M1, ag M0 M1 72 88 → kM M1 (s) → P (some (.int (a_twice s x))) M1 := fun M1 ha hk => hp M1 (ag_tr (ag_wd a0 : ag M M0 72 88) ha) hk
  clear a0
  obtain ⟨t, l, p, a, sl, v, sd⟩ := s
  obtain ⟨⟨e, x0⟩, hR⟩ := id h
  obtain ⟨h1, h2, h3, h11, h4, h5, h6, h7⟩ : arr M0 73 40 t.1 t.2 ∧ kML M0 l ∧ kG M0 79 p ∧ (∃ q, kG M0 80 q) ∧ kBk M0 a ∧ kKp M0 sl ∧ kMV M0 v ∧ kX M0 := id hR
  obtain ⟨o1, o2, o3, o4, o5, o6, o7⟩ : txOk t ∧ ltOk l ∧ pgOk p ∧ (∀ q ∈ a, pgOk q) ∧ a.length ≤ 14 ∧ (∀ i q, sl i = some q → pgOk q) ∧ ovOk v := ho
  have hO : kO M0 e t.1 l.1 a.length v.1 sd := x0
  have hl6 := o2.1
  have hv6 := o7.1
  unfold kO at x0
  unfold a_twice at hp
  have h64 := pw_64 hl6
  have hpos := Nat.two_pow_pos l.1
  have h729 : 3 ^ l.1 ≤ 3 ^ 6 := Nat.pow_le_pow_right (by decide) hl6
  have h729b : (3 : Nat) ^ 6 = 729 := by decide
  have h3pos : 0 < 3 ^ l.1 := Nat.pow_pos (by decide)
  obtain ⟨p2, hp2⟩ : ∃ p2 : Nat → Nat → Bool, p2 = fun r l => decide (dg r l = 2) := ⟨_, rfl⟩
  obtain ⟨p0, hp0⟩ : ∃ p0 : Nat → Nat → Bool, p0 = fun r l => decide (dg r l = 0) := ⟨_, rfl⟩
  cases hx : inR x 3 with
  | true =>
    rw [if_pos hx] at hp
    obtain ⟨w, hw, rfl⟩ := inR_of hx (by decide)
    rw [n_cl (by omega)] at hp
    have hp : ∀ M1, ag M0 M1 72 88 → kM M1 (t, l, p, a, sl, v, sd) → P (some (.int (toldI w (cN (twP (t, l, p, a, sl, v, sd)) (3 ^ l.1)) (aN (twP (t, l, p, a, sl, v, sd)) (fun r => bN (p2 r) 6) (2 ^ l.1 - 1) (3 ^ l.1)) (aN (twP (t, l, p, a, sl, v, sd)) (fun r => bN (p0 r) 6) (2 ^ l.1 - 1) (3 ^ l.1))))) M1 := by rw [hp2, hp0]; exact hp
    have lp : ∀ (j c : Nat) (M1 : mM) (e1 : Nat → Int32) (lx ly : Value), c + j = 3 ^ l.1 → ag M0 M1 72 88 → kO M1 e1 t.1 l.1 a.length v.1 sd → kR M1 (t, l, p, a, sl, v, sd) → e1 3 = nI (cN (twP (t, l, p, a, sl, v, sd)) c) → e1 4 = nI (aN (twP (t, l, p, a, sl, v, sd)) (fun r => bN (p2 r) 6) (2 ^ l.1 - 1) c) → e1 5 = nI (aN (twP (t, l, p, a, sl, v, sd)) (fun r => bN (p0 r) 6) (2 ^ l.1 - 1) c) → Ev 88 7 mX8_twice none 43 [.ref 72, .int (nI w), .int (nI c), lx, ly] [] M1 P := by
      intro j
      induction j with
      | zero =>
        intro c M1 e1 lx ly hc ha yO yR q3 q4 q5
        obtain rfl : c = 3 ^ l.1 := by omega
        have z0 := yO
        unfold kO at z0
        have hcn := cN_le (twP (t, l, p, a, sl, v, sd)) (3 ^ l.1)
        refine ev_iload_n (i := 2) dX8_twice_43 rfl rfl ?_
        refine ev_iconst (v := nI 3) dX8_twice_44 rfl ?_
        refine ev_aload_n (i := 0) dX8_twice_45 rfl rfl ?_
        refine ev_getfield dX8_twice_46 fX8_64 (by first | omega | decide) (by first | assumption | (simp (disch := omega) only [mu_s, mu_n]; first | assumption | rfl)) (by rfl) ?_
        refine ev_S2 (μ1 := mX8_power) dX8_twice_49 sX8_158 okX8_power (Nat.le_of_ble_eq_true rfl) (Nat.le_of_ble_eq_true rfl) ?_
        refine c_mPower (by omega) ?_
        refine ev_icmp_geN 153 dX8_twice_52 (by decide) (by omega) (by omega) (fun b52 => ?_) (fun b52 => by exfalso; omega)
        refine ev_aload_n (i := 0) dX8_twice_153 rfl rfl ?_
        refine ev_iload_n (i := 1) dX8_twice_154 rfl rfl ?_
        refine ev_V1 (μ1 := mX8_found) dX8_twice_155 sX8_155 okX8_found (by first | omega | decide) (by first | assumption | (simp (disch := omega) only [mu_s, mu_n]; first | assumption | rfl)) (Nat.le_of_ble_eq_true rfl) (Nat.le_of_ble_eq_true rfl) ?_
        refine c_found yO (by omega) (by omega) q3 q4 q5 ?_
        refine ev_reti dX8_twice_158 rfl rfl ?_
        exact hp M1 ha ⟨⟨e1, yO⟩, yR⟩
      | succ j ih =>
        intro c M1 e1 lx ly hc ha yO yR q3 q4 q5
        have z0 := yO
        unfold kO at z0
        cases hb : twP (t, l, p, a, sl, v, sd) c with
        | false =>
          have hb2 : tgB l p (dg c) = false := hb
          refine ev_iload_n (i := 2) dX8_twice_43 rfl rfl ?_
          refine ev_iconst (v := nI 3) dX8_twice_44 rfl ?_
          refine ev_aload_n (i := 0) dX8_twice_45 rfl rfl ?_
          refine ev_getfield dX8_twice_46 fX8_64 (by first | omega | decide) (by first | assumption | (simp (disch := omega) only [mu_s, mu_n]; first | assumption | rfl)) (by rfl) ?_
          refine ev_S2 (μ1 := mX8_power) dX8_twice_49 sX8_158 okX8_power (Nat.le_of_ble_eq_true rfl) (Nat.le_of_ble_eq_true rfl) ?_
          refine c_mPower (by omega) ?_
          refine ev_icmp_geN 153 dX8_twice_52 (by decide) (by omega) (by omega) (fun b52 => by exfalso; omega) (fun b52 => ?_)
          refine ev_aload_n (i := 0) dX8_twice_55 rfl rfl ?_
          refine ev_iload_n (i := 2) dX8_twice_56 rfl rfl ?_
          refine ev_V1 (μ1 := mX8_isInk) dX8_twice_57 sX8_161 okX8_isInk (by first | omega | decide) (by first | assumption | (simp (disch := omega) only [mu_s, mu_n]; first | assumption | rfl)) (Nat.le_of_ble_eq_true rfl) (Nat.le_of_ble_eq_true rfl) ?_
          refine c_isInk yO yR.2.1 o2 yR.2.2.1 o3 (by omega) ?_
          refine ev_if_eqB 147 dX8_twice_60 (by decide) (fun b60 => ?_) (fun b60 => by rw [hb2] at b60; cases b60)
          refine ev_incN dX8_twice_147 (by rfl) (by decide) rfl ?_
          refine ev_goto 43 dX8_twice_150 (by decide) ?_
          exact ih (c + 1) M1 e1 _ _ (by omega) ha yO yR (by rw [q3]; exact congrArg nI (cN_f hb)) (by rw [q4]; exact congrArg nI (aN_f hb)) (by rw [q5]; exact congrArg nI (aN_f hb))
        | true =>
          have hb2 : tgB l p (dg c) = true := hb
          obtain ⟨A, hA⟩ : ∃ A, A = aN (twP (t, l, p, a, sl, v, sd)) (fun r => bN (p2 r) 6) (2 ^ l.1 - 1) c := ⟨_, rfl⟩
          obtain ⟨B, hB⟩ : ∃ B, B = aN (twP (t, l, p, a, sl, v, sd)) (fun r => bN (p0 r) 6) (2 ^ l.1 - 1) c := ⟨_, rfl⟩
          have hAl : A ≤ 2 ^ l.1 - 1 := by rw [hA]; exact aN_le _
          have hBl : B ≤ 2 ^ l.1 - 1 := by rw [hB]; exact aN_le _
          have il : ∀ (jj k : Nat) (M2 : mM) (e2 : Nat → Int32) (ly : Value), k + jj = l.1 → ag M0 M2 72 88 → kO M2 e2 t.1 l.1 a.length v.1 sd → kR M2 (t, l, p, a, sl, v, sd) → e2 3 = nI (cN (twP (t, l, p, a, sl, v, sd)) c + 1) → e2 4 = nI (dN2 A (p2 c) k) → e2 5 = nI (dN2 B (p0 c) k) → Ev 88 7 mX8_twice none 75 [.ref 72, .int (nI w), .int (nI c), .int (nI k), ly] [] M2 P := by
            intro jj
            induction jj with
            | zero =>
              intro k M2 e2 ly hk hb2 wO wR r3 r4 r5
              obtain rfl : k = l.1 := by omega
              have z2 := wO
              unfold kO at z2
              refine ev_iload_n (i := 3) dX8_twice_75 rfl rfl ?_
              refine ev_aload_n (i := 0) dX8_twice_76 rfl rfl ?_
              refine ev_getfield dX8_twice_77 fX8_64 (by first | omega | decide) (by first | assumption | (simp (disch := omega) only [mu_s, mu_n]; first | assumption | rfl)) (by rfl) ?_
              refine ev_icmp_geN 147 dX8_twice_80 (by decide) (by omega) (by omega) (fun b80 => ?_) (fun b80 => by exfalso; omega)
              refine ev_incN dX8_twice_147 (by rfl) (by decide) rfl ?_
              refine ev_goto 43 dX8_twice_150 (by decide) ?_
              refine ih (c + 1) M2 e2 _ _ (by omega) hb2 wO wR ?_ ?_ ?_
              · rw [r3]; exact congrArg nI (cN_t hb)
              · rw [r4, dN2_e hAl hl6, hA]; exact congrArg nI (aN_t (g := fun r => bN (p2 r) 6) hb)
              · rw [r5, dN2_e hBl hl6, hB]; exact congrArg nI (aN_t (g := fun r => bN (p0 r) 6) hb)
            | succ jj ih2 =>
              intro k M2 e2 ly hk hb2 wO wR r3 r4 r5
              have z2 := wO
              unfold kO at z2
              have hpw : 0 < 3 ^ k := Nat.pow_pos (by decide)
              have hpw2 : 3 ^ k ≤ 3 ^ 6 := Nat.pow_le_pow_right (by decide) (by omega)
              have hdv : c / 3 ^ k ≤ c := Nat.div_le_self _ _
              have hdg : c / 3 ^ k % 3 = dg c k := rfl
              have hd2 := dg_2 c k
              have fin : ∀ (M3 : mM) (e3 : Nat → Int32), ag M2 M3 72 73 → kO M3 e3 t.1 l.1 a.length v.1 sd → e3 3 = nI (cN (twP (t, l, p, a, sl, v, sd)) c + 1) → e3 4 = nI (dN2 A (p2 c) (k + 1)) → e3 5 = nI (dN2 B (p0 c) (k + 1)) → ∀ ly, Ev 88 7 mX8_twice none 75 [.ref 72, .int (nI w), .int (nI c), .int (nI (k + 1)), ly] [] M3 P := fun M3 e3 hg y1 y2 y3 y4 ly => ih2 (k + 1) M3 e3 ly (by omega) (ag_tr hb2 hg) y1 (kR_ob wR hg) y2 y3 y4
              have pa : dN2 A (p2 c) (k + 1) = if p2 c k = true then dN2 A (p2 c) k else andn (dN2 A (p2 c) k) (2 ^ k) := rfl
              have pb : dN2 B (p0 c) (k + 1) = if p0 c k = true then dN2 B (p0 c) k else andn (dN2 B (p0 c) k) (2 ^ k) := rfl
              have pc : p2 c k = decide (dg c k = 2) := by rw [hp2]
              have pd : p0 c k = decide (dg c k = 0) := by rw [hp0]
              rcases (show dg c k = 0 ∨ dg c k = 1 ∨ dg c k = 2 by omega) with hq | hq | hq
              · rw [pc, hq] at pa
                rw [pd, hq] at pb
                refine ev_iload_n (i := 3) dX8_twice_75 rfl rfl ?_
                refine ev_aload_n (i := 0) dX8_twice_76 rfl rfl ?_
                refine ev_getfield dX8_twice_77 fX8_64 (by first | omega | decide) (by first | assumption | (simp (disch := omega) only [mu_s, mu_n]; first | assumption | rfl)) (by rfl) ?_
                refine ev_icmp_geN 147 dX8_twice_80 (by decide) (by omega) (by omega) (fun b80 => by exfalso; omega) (fun b80 => ?_)
                refine ev_iload_n (i := 2) dX8_twice_83 rfl rfl ?_
                refine ev_iconst (v := nI 3) dX8_twice_84 rfl ?_
                refine ev_iload_n (i := 3) dX8_twice_85 rfl rfl ?_
                refine ev_S2 (μ1 := mX8_power) dX8_twice_86 sX8_158 okX8_power (Nat.le_of_ble_eq_true rfl) (Nat.le_of_ble_eq_true rfl) ?_
                refine c_mPower (by omega) ?_
                refine ev_idivN dX8_twice_89 (by omega) (by omega) (by omega) ?_
                refine ev_iconst (v := nI 3) dX8_twice_90 rfl ?_
                refine ev_iremN dX8_twice_91 (by omega) (by omega) (by omega) ?_
                refine ev_top (i_op (congrArg nI (hdg.trans hq))) ?_
                refine ev_istore (i := 4) dX8_twice_92 (by decide) rfl ?_
                refine ev_aload_n (i := 0) dX8_twice_94 rfl rfl ?_
                refine ev_dup dX8_twice_95 rfl ?_
                refine ev_getfield dX8_twice_96 fX8_147 (by first | omega | decide) (by first | assumption | (simp (disch := omega) only [mu_s, mu_n]; first | assumption | rfl)) (by rfl) ?_
                refine ev_top (i_op r4) ?_
                refine ev_iload (i := 4) dX8_twice_99 rfl ?_
                refine ev_iconst (v := nI 2) dX8_twice_101 rfl ?_
                refine ev_icmp_neN 109 dX8_twice_102 (by decide) (by omega) (by omega) (fun b102 => ?_) (fun b102 => by exfalso; omega)
                refine ev_iconst (v := nI 1) dX8_twice_109 rfl ?_
                refine ev_iload_n (i := 3) dX8_twice_110 rfl rfl ?_
                refine ev_ishl1 dX8_twice_111 (by omega) ?_
                refine ev_iconst (v := (-1)) dX8_twice_112 rfl ?_
                refine ev_ixor dX8_twice_113 ?_
                refine ev_iand dX8_twice_114 ?_
                refine ev_top (i_op (andn_nI _ _)) ?_
                refine ev_putI dX8_twice_115 fwX8_147 (by first | omega | decide) (by first | assumption | (simp (disch := omega) only [mu_s, mu_n]; first | assumption | rfl)) (Nat.le_of_ble_eq_true rfl) ?_
                refine ev_aload_n (i := 0) dX8_twice_118 rfl rfl ?_
                refine ev_dup dX8_twice_119 rfl ?_
                refine ev_getfield dX8_twice_120 fX8_150 (by first | omega | decide) (by first | assumption | (simp (disch := omega) only [mu_s, mu_n]; first | assumption | rfl)) (by rfl) ?_
                refine ev_top (i_op r5) ?_
                refine ev_iload (i := 4) dX8_twice_123 rfl ?_
                refine ev_if_neN 132 dX8_twice_125 (by decide) (by omega) (fun b125 => by exfalso; omega) (fun b125 => ?_)
                refine ev_iconst (v := (-1)) dX8_twice_128 rfl ?_
                refine ev_goto 137 dX8_twice_129 (by decide) ?_
                refine ev_iand dX8_twice_137 ?_
                refine ev_top (i_op (i_m1 _)) ?_
                refine ev_putI dX8_twice_138 fwX8_150 (by first | omega | decide) (by first | assumption | (simp (disch := omega) only [mu_s, mu_n]; first | assumption | rfl)) (Nat.le_of_ble_eq_true rfl) ?_
                refine ev_incN dX8_twice_141 (by rfl) (by decide) rfl ?_
                refine ev_goto 75 dX8_twice_144 (by decide) ?_
                exact fin _ (eS (eS e2 4 (nI (andn (dN2 A (p2 c) k) (2 ^ k)))) 5 (nI (dN2 B (p0 c) k))) (ag_mu (ag_mu (ag_rf M2 _ _) (by omega) (by omega)) (by omega) (by omega)) (mu_s _ _ _) r3 (congrArg nI pa.symm) (congrArg nI pb.symm) _
              · rw [pc, hq] at pa
                rw [pd, hq] at pb
                refine ev_iload_n (i := 3) dX8_twice_75 rfl rfl ?_
                refine ev_aload_n (i := 0) dX8_twice_76 rfl rfl ?_
                refine ev_getfield dX8_twice_77 fX8_64 (by first | omega | decide) (by first | assumption | (simp (disch := omega) only [mu_s, mu_n]; first | assumption | rfl)) (by rfl) ?_
                refine ev_icmp_geN 147 dX8_twice_80 (by decide) (by omega) (by omega) (fun b80 => by exfalso; omega) (fun b80 => ?_)
                refine ev_iload_n (i := 2) dX8_twice_83 rfl rfl ?_
                refine ev_iconst (v := nI 3) dX8_twice_84 rfl ?_
                refine ev_iload_n (i := 3) dX8_twice_85 rfl rfl ?_
                refine ev_S2 (μ1 := mX8_power) dX8_twice_86 sX8_158 okX8_power (Nat.le_of_ble_eq_true rfl) (Nat.le_of_ble_eq_true rfl) ?_
                refine c_mPower (by omega) ?_
                refine ev_idivN dX8_twice_89 (by omega) (by omega) (by omega) ?_
                refine ev_iconst (v := nI 3) dX8_twice_90 rfl ?_
                refine ev_iremN dX8_twice_91 (by omega) (by omega) (by omega) ?_
                refine ev_top (i_op (congrArg nI (hdg.trans hq))) ?_
                refine ev_istore (i := 4) dX8_twice_92 (by decide) rfl ?_
                refine ev_aload_n (i := 0) dX8_twice_94 rfl rfl ?_
                refine ev_dup dX8_twice_95 rfl ?_
                refine ev_getfield dX8_twice_96 fX8_147 (by first | omega | decide) (by first | assumption | (simp (disch := omega) only [mu_s, mu_n]; first | assumption | rfl)) (by rfl) ?_
                refine ev_top (i_op r4) ?_
                refine ev_iload (i := 4) dX8_twice_99 rfl ?_
                refine ev_iconst (v := nI 2) dX8_twice_101 rfl ?_
                refine ev_icmp_neN 109 dX8_twice_102 (by decide) (by omega) (by omega) (fun b102 => ?_) (fun b102 => by exfalso; omega)
                refine ev_iconst (v := nI 1) dX8_twice_109 rfl ?_
                refine ev_iload_n (i := 3) dX8_twice_110 rfl rfl ?_
                refine ev_ishl1 dX8_twice_111 (by omega) ?_
                refine ev_iconst (v := (-1)) dX8_twice_112 rfl ?_
                refine ev_ixor dX8_twice_113 ?_
                refine ev_iand dX8_twice_114 ?_
                refine ev_top (i_op (andn_nI _ _)) ?_
                refine ev_putI dX8_twice_115 fwX8_147 (by first | omega | decide) (by first | assumption | (simp (disch := omega) only [mu_s, mu_n]; first | assumption | rfl)) (Nat.le_of_ble_eq_true rfl) ?_
                refine ev_aload_n (i := 0) dX8_twice_118 rfl rfl ?_
                refine ev_dup dX8_twice_119 rfl ?_
                refine ev_getfield dX8_twice_120 fX8_150 (by first | omega | decide) (by first | assumption | (simp (disch := omega) only [mu_s, mu_n]; first | assumption | rfl)) (by rfl) ?_
                refine ev_top (i_op r5) ?_
                refine ev_iload (i := 4) dX8_twice_123 rfl ?_
                refine ev_if_neN 132 dX8_twice_125 (by decide) (by omega) (fun b125 => ?_) (fun b125 => by exfalso; omega)
                refine ev_iconst (v := nI 1) dX8_twice_132 rfl ?_
                refine ev_iload_n (i := 3) dX8_twice_133 rfl rfl ?_
                refine ev_ishl1 dX8_twice_134 (by omega) ?_
                refine ev_iconst (v := (-1)) dX8_twice_135 rfl ?_
                refine ev_ixor dX8_twice_136 ?_
                refine ev_iand dX8_twice_137 ?_
                refine ev_top (i_op (andn_nI _ _)) ?_
                refine ev_putI dX8_twice_138 fwX8_150 (by first | omega | decide) (by first | assumption | (simp (disch := omega) only [mu_s, mu_n]; first | assumption | rfl)) (Nat.le_of_ble_eq_true rfl) ?_
                refine ev_incN dX8_twice_141 (by rfl) (by decide) rfl ?_
                refine ev_goto 75 dX8_twice_144 (by decide) ?_
                exact fin _ (eS (eS e2 4 (nI (andn (dN2 A (p2 c) k) (2 ^ k)))) 5 (nI (andn (dN2 B (p0 c) k) (2 ^ k)))) (ag_mu (ag_mu (ag_rf M2 _ _) (by omega) (by omega)) (by omega) (by omega)) (mu_s _ _ _) r3 (congrArg nI pa.symm) (congrArg nI pb.symm) _
              · rw [pc, hq] at pa
                rw [pd, hq] at pb
                refine ev_iload_n (i := 3) dX8_twice_75 rfl rfl ?_
                refine ev_aload_n (i := 0) dX8_twice_76 rfl rfl ?_
                refine ev_getfield dX8_twice_77 fX8_64 (by first | omega | decide) (by first | assumption | (simp (disch := omega) only [mu_s, mu_n]; first | assumption | rfl)) (by rfl) ?_
                refine ev_icmp_geN 147 dX8_twice_80 (by decide) (by omega) (by omega) (fun b80 => by exfalso; omega) (fun b80 => ?_)
                refine ev_iload_n (i := 2) dX8_twice_83 rfl rfl ?_
                refine ev_iconst (v := nI 3) dX8_twice_84 rfl ?_
                refine ev_iload_n (i := 3) dX8_twice_85 rfl rfl ?_
                refine ev_S2 (μ1 := mX8_power) dX8_twice_86 sX8_158 okX8_power (Nat.le_of_ble_eq_true rfl) (Nat.le_of_ble_eq_true rfl) ?_
                refine c_mPower (by omega) ?_
                refine ev_idivN dX8_twice_89 (by omega) (by omega) (by omega) ?_
                refine ev_iconst (v := nI 3) dX8_twice_90 rfl ?_
                refine ev_iremN dX8_twice_91 (by omega) (by omega) (by omega) ?_
                refine ev_top (i_op (congrArg nI (hdg.trans hq))) ?_
                refine ev_istore (i := 4) dX8_twice_92 (by decide) rfl ?_
                refine ev_aload_n (i := 0) dX8_twice_94 rfl rfl ?_
                refine ev_dup dX8_twice_95 rfl ?_
                refine ev_getfield dX8_twice_96 fX8_147 (by first | omega | decide) (by first | assumption | (simp (disch := omega) only [mu_s, mu_n]; first | assumption | rfl)) (by rfl) ?_
                refine ev_top (i_op r4) ?_
                refine ev_iload (i := 4) dX8_twice_99 rfl ?_
                refine ev_iconst (v := nI 2) dX8_twice_101 rfl ?_
                refine ev_icmp_neN 109 dX8_twice_102 (by decide) (by omega) (by omega) (fun b102 => by exfalso; omega) (fun b102 => ?_)
                refine ev_iconst (v := (-1)) dX8_twice_105 rfl ?_
                refine ev_goto 114 dX8_twice_106 (by decide) ?_
                refine ev_iand dX8_twice_114 ?_
                refine ev_top (i_op (i_m1 _)) ?_
                refine ev_putI dX8_twice_115 fwX8_147 (by first | omega | decide) (by first | assumption | (simp (disch := omega) only [mu_s, mu_n]; first | assumption | rfl)) (Nat.le_of_ble_eq_true rfl) ?_
                refine ev_aload_n (i := 0) dX8_twice_118 rfl rfl ?_
                refine ev_dup dX8_twice_119 rfl ?_
                refine ev_getfield dX8_twice_120 fX8_150 (by first | omega | decide) (by first | assumption | (simp (disch := omega) only [mu_s, mu_n]; first | assumption | rfl)) (by rfl) ?_
                refine ev_top (i_op r5) ?_
                refine ev_iload (i := 4) dX8_twice_123 rfl ?_
                refine ev_if_neN 132 dX8_twice_125 (by decide) (by omega) (fun b125 => ?_) (fun b125 => by exfalso; omega)
                refine ev_iconst (v := nI 1) dX8_twice_132 rfl ?_
                refine ev_iload_n (i := 3) dX8_twice_133 rfl rfl ?_
                refine ev_ishl1 dX8_twice_134 (by omega) ?_
                refine ev_iconst (v := (-1)) dX8_twice_135 rfl ?_
                refine ev_ixor dX8_twice_136 ?_
                refine ev_iand dX8_twice_137 ?_
                refine ev_top (i_op (andn_nI _ _)) ?_
                refine ev_putI dX8_twice_138 fwX8_150 (by first | omega | decide) (by first | assumption | (simp (disch := omega) only [mu_s, mu_n]; first | assumption | rfl)) (Nat.le_of_ble_eq_true rfl) ?_
                refine ev_incN dX8_twice_141 (by rfl) (by decide) rfl ?_
                refine ev_goto 75 dX8_twice_144 (by decide) ?_
                exact fin _ (eS (eS e2 4 (nI (dN2 A (p2 c) k))) 5 (nI (andn (dN2 B (p0 c) k) (2 ^ k)))) (ag_mu (ag_mu (ag_rf M2 _ _) (by omega) (by omega)) (by omega) (by omega)) (mu_s _ _ _) r3 (congrArg nI pa.symm) (congrArg nI pb.symm) _
          refine ev_iload_n (i := 2) dX8_twice_43 rfl rfl ?_
          refine ev_iconst (v := nI 3) dX8_twice_44 rfl ?_
          refine ev_aload_n (i := 0) dX8_twice_45 rfl rfl ?_
          refine ev_getfield dX8_twice_46 fX8_64 (by first | omega | decide) (by first | assumption | (simp (disch := omega) only [mu_s, mu_n]; first | assumption | rfl)) (by rfl) ?_
          refine ev_S2 (μ1 := mX8_power) dX8_twice_49 sX8_158 okX8_power (Nat.le_of_ble_eq_true rfl) (Nat.le_of_ble_eq_true rfl) ?_
          refine c_mPower (by omega) ?_
          refine ev_icmp_geN 153 dX8_twice_52 (by decide) (by omega) (by omega) (fun b52 => by exfalso; omega) (fun b52 => ?_)
          refine ev_aload_n (i := 0) dX8_twice_55 rfl rfl ?_
          refine ev_iload_n (i := 2) dX8_twice_56 rfl rfl ?_
          refine ev_V1 (μ1 := mX8_isInk) dX8_twice_57 sX8_161 okX8_isInk (by first | omega | decide) (by first | assumption | (simp (disch := omega) only [mu_s, mu_n]; first | assumption | rfl)) (Nat.le_of_ble_eq_true rfl) (Nat.le_of_ble_eq_true rfl) ?_
          refine c_isInk yO yR.2.1 o2 yR.2.2.1 o3 (by omega) ?_
          refine ev_if_eqB 147 dX8_twice_60 (by decide) (fun b60 => by rw [hb2] at b60; cases b60) (fun b60 => ?_)
          refine ev_aload_n (i := 0) dX8_twice_63 rfl rfl ?_
          refine ev_dup dX8_twice_64 rfl ?_
          refine ev_getfield dX8_twice_65 fX8_144 (by first | omega | decide) (by first | assumption | (simp (disch := omega) only [mu_s, mu_n]; first | assumption | rfl)) (by rfl) ?_
          refine ev_top (i_op q3) ?_
          refine ev_iconst (v := nI 1) dX8_twice_68 rfl ?_
          refine ev_iaddN dX8_twice_69 ?_
          refine ev_putI dX8_twice_70 fwX8_144 (by first | omega | decide) (by first | assumption | (simp (disch := omega) only [mu_s, mu_n]; first | assumption | rfl)) (Nat.le_of_ble_eq_true rfl) ?_
          refine ev_iconst (v := nI 0) dX8_twice_73 rfl ?_
          refine ev_istore_n (i := 3) dX8_twice_74 rfl (by decide) rfl ?_
          exact il l.1 0 _ (eS e1 3 (nI (cN (twP (t, l, p, a, sl, v, sd)) c + 1))) _ (by omega) (ag_mu ha (by omega) (by omega)) (mu_s _ _ _) (kR_ob yR (ag_mu (ag_rf M1 _ _) (by omega) (by omega))) rfl (q4.trans (congrArg nI hA.symm)) (q5.trans (congrArg nI hB.symm))
    refine ev_iload_n (i := 1) dX8_twice_5 rfl rfl ?_
    refine ev_i2l dX8_twice_6 rfl ?_
    refine ev_lconst dX8_twice_7 rfl ?_
    refine ev_ldc2_w dX8_twice_8 kX8_153 ?_
    refine ev_S3 (μ1 := mX8_in) dX8_twice_11 sX8_67 okX8_in (Nat.le_of_ble_eq_true rfl) (Nat.le_of_ble_eq_true rfl) ?_
    refine c_in ?_
    refine ev_top (i_op (congrArg bI ((in_r (n := 3) rfl).trans hx))) ?_
    refine ev_if_neB 20 dX8_twice_14 (by decide) (fun b14 => ?_) (fun b14 => by cases b14)
    refine ev_aload_n (i := 0) dX8_twice_20 rfl rfl ?_
    refine ev_iconst (v := nI 0) dX8_twice_21 rfl ?_
    refine ev_putI dX8_twice_22 fwX8_144 (by first | omega | decide) (by first | assumption | (simp (disch := omega) only [mu_s, mu_n]; first | assumption | rfl)) (Nat.le_of_ble_eq_true rfl) ?_
    refine ev_aload_n (i := 0) dX8_twice_25 rfl rfl ?_
    refine ev_aload_n (i := 0) dX8_twice_26 rfl rfl ?_
    refine ev_V0 (μ1 := mX8_everyone) dX8_twice_27 sX8_138 okX8_everyone (by first | omega | decide) (by first | assumption | (simp (disch := omega) only [mu_s, mu_n]; first | assumption | rfl)) (Nat.le_of_ble_eq_true rfl) (Nat.le_of_ble_eq_true rfl) ?_
    refine c_everyone (e := eS e 3 (nI 0)) (mu_s _ _ _) hl6 ?_
    refine ev_putI dX8_twice_30 fwX8_147 (by first | omega | decide) (by first | assumption | (simp (disch := omega) only [mu_s, mu_n]; first | assumption | rfl)) (Nat.le_of_ble_eq_true rfl) ?_
    refine ev_aload_n (i := 0) dX8_twice_33 rfl rfl ?_
    refine ev_aload_n (i := 0) dX8_twice_34 rfl rfl ?_
    refine ev_V0 (μ1 := mX8_everyone) dX8_twice_35 sX8_138 okX8_everyone (by first | omega | decide) (by first | assumption | (simp (disch := omega) only [mu_s, mu_n]; first | assumption | rfl)) (Nat.le_of_ble_eq_true rfl) (Nat.le_of_ble_eq_true rfl) ?_
    refine c_everyone (e := eS (eS e 3 (nI 0)) 4 (nI (2 ^ l.1 - 1))) (mu_s _ _ _) hl6 ?_
    refine ev_putI dX8_twice_38 fwX8_150 (by first | omega | decide) (by first | assumption | (simp (disch := omega) only [mu_s, mu_n]; first | assumption | rfl)) (Nat.le_of_ble_eq_true rfl) ?_
    refine ev_iconst (v := nI 0) dX8_twice_41 rfl ?_
    refine ev_istore_n (i := 2) dX8_twice_42 rfl (by decide) rfl ?_
    exact lp (3 ^ l.1) 0 _ (eS (eS (eS e 3 (nI 0)) 4 (nI (2 ^ l.1 - 1))) 5 (nI (2 ^ l.1 - 1))) _ _ (by omega) (ag_mu (ag_mu (ag_mu (ag_rf M0 _ _) (by omega) (by omega)) (by omega) (by omega)) (by omega) (by omega)) (mu_s _ _ _) (kR_ob hR (ag_mu (ag_mu (ag_mu (ag_rf M0 _ _) (by omega) (by omega)) (by omega) (by omega)) (by omega) (by omega))) rfl rfl rfl
  | false =>
    rw [hx, if_neg (by decide)] at hp
    refine ev_iload_n (i := 1) dX8_twice_5 rfl rfl ?_
    refine ev_i2l dX8_twice_6 rfl ?_
    refine ev_lconst dX8_twice_7 rfl ?_
    refine ev_ldc2_w dX8_twice_8 kX8_153 ?_
    refine ev_S3 (μ1 := mX8_in) dX8_twice_11 sX8_67 okX8_in (Nat.le_of_ble_eq_true rfl) (Nat.le_of_ble_eq_true rfl) ?_
    refine c_in ?_
    refine ev_top (i_op (congrArg bI ((in_r (n := 3) rfl).trans hx))) ?_
    refine ev_if_neB 20 dX8_twice_14 (by decide) (fun b14 => by cases b14) (fun b14 => ?_)
    refine ev_bipush (v := (-2)) dX8_twice_17 rfl ?_
    refine ev_reti dX8_twice_19 rfl rfl ?_
    exact hp M0 (ag_rf M0 _ _) h
end MEC
